/-! ===== places: comeTo, goOut ===== -/
theorem arA_congr {s t : Nat → Int} {o n : Nat} (h : ∀ i, i < n → s i = t i) (ho : o < n) : arA s o = arA t o := by
  unfold arA
  rw [h o ho, stk_congr (n := o) (fun i hi => h i (by omega))]
theorem hdS_congr {s t : Nat → Int} {o n : Nat} (h : ∀ i, i < n → s i = t i) (ho : o ≤ n) : hdS s o = hdS t o := by
  unfold hdS
  rw [stk_congr (n := o) (fun i hi => h i (by omega))]
/-- what the class's ROUTINE at ro says of the reference's -/
def roC (S : mm_S) (r : Nat) : Prop := (∀ i, i < mN S r → S (22 + 10 * r + 1) i = mSo S r i) ∧ S (22 + 10 * r) 0 = mN S r ∧ S (22 + 10 * r + 7) (mN S r) = 0 ∧ ∀ j, j < mN S r → S (22 + 10 * r + 4) j = tgX (mSo S r) (mN S r) j ∧ S (22 + 10 * r + 6) j = lvO (mSo S r) j ∧ (∀ k : Nat, S (22 + 10 * r + 7) j / 4 ^ k % 4 = ifP (∃ o, (stk (mSo S r) j).reverse[k]? = some o ∧ mSo S r o = 14 ∧ midO (mSo S r) (j + 1) o ≠ -1) 3 0) ∧ (0 ≤ S (22 + 10 * r + 7) j ∧ S (22 + 10 * r + 7) j < 4096) ∧ S (22 + 10 * r + 5) j = tryM S r j
theorem tgX_congr {s t : Nat → Int} {n j : Nat} (h : ∀ i, i < n → s i = t i) (hw : wfP t n) (hj : j < n) : tgX s n j = tgX t n j := by
  unfold tgX
  have hm : midO s n j = midO t n j := midO_congr h
  have he : ∀ o, endO s n o = endO t n o := fun o => endO_congr h
  have hd : hdS s j = hdS t j := hdS_congr h (Nat.le_of_lt hj)
  rw [h j hj, hm, he, hd, he]
  by_cases h7 : t j = 7
  · have hh : hdS t j < n := by
      obtain ⟨o, ho, -⟩ := (hw j hj).2.2.2.2 h7
      rw [hdS_of ho]
      have := (stk_top (stk_head ho)).2.1
      omega
    rw [h _ hh]
  · simp only [h7, if_false]
theorem lvO_congr {s t : Nat → Int} {n j : Nat} (h : ∀ i, i < n → s i = t i) (hj : j < n) : lvO s j = lvO t j := by
  unfold lvO
  rw [h j hj, stk_congr (n := j) (fun i hi => h i (by omega))]
  by_cases c : t j = 14
  · rw [if_pos c, if_pos c]
  · rw [if_neg c, if_neg c]
    cases hd : (stk t j).head? with
    | none => rfl
    | some o =>
      have := (stk_top (stk_head hd)).2.1
      show (if t j = 7 ∧ s o = 14 then _ else _) = (if t j = 7 ∧ t o = 14 then _ else _)
      rw [h o (by omega)]
theorem roC_of {S : mm_S} (hb : brE S) (hm : mbC S) {r : Nat} (hr : (r : Int) < S 181 9) (hR : rtI S (22 + 10 * r)) : roC S r := by
  have hbr := br_rt hb hr
  obtain ⟨c1, c2, c3, c4⟩ := hm.2.2.2 r hr
  have hv := hm.1.2.2.2.2 r (by have := hm.1.2.1; omega)
  have hn : S (22 + 10 * r) 0 = mN S r := by rw [hbr.1]; unfold mN; omega
  obtain ⟨r1, r2, r3, r4, r5⟩ := hR
  have en : (S (22 + 10 * r) 0).toNat = mN S r := by omega
  rw [en] at r2 r3 r4
  have ag : ∀ i, i < mN S r → S (22 + 10 * r + 1) i = mSo S r i := fun i hi => (hbr.2 i hi).1
  have hc : stk (S (22 + 10 * r + 1)) (mN S r) = [] := by rw [stk_congr ag]; exact c2
  have es : ∀ j, j ≤ mN S r → stk (S (22 + 10 * r + 1)) j = stk (mSo S r) j := fun j hj => stk_congr (fun i hi => ag i (by omega))
  refine ⟨ag, hn, r4, fun j hj => ?_⟩
  obtain ⟨k1, k2, k3, k4, k5⟩ := r3.2 j hj
  refine ⟨?_, ?_, fun k => ?_, ?_, ?_⟩
  · rw [k2, tgt_at r2 j hj]; exact tgX_congr ag c1 hj
  · rw [k3]; exact lvO_congr ag hj
  · rw [k4, kpO_dig, es j (by omega)]
    have eq : (∃ o, (stk (mSo S r) j).reverse[k]? = some o ∧ S (22 + 10 * r + 1) o = 14 ∧ midO (S (22 + 10 * r + 1)) (j + 1) o ≠ -1) ↔ (∃ o, (stk (mSo S r) j).reverse[k]? = some o ∧ mSo S r o = 14 ∧ midO (mSo S r) (j + 1) o ≠ -1) := by
      have em : ∀ o, midO (S (22 + 10 * r + 1)) (j + 1) o = midO (mSo S r) (j + 1) o := fun o => midO_congr (fun i hi => ag i (by omega))
      constructor
      · rintro ⟨o, h1, h2, h3⟩
        have := (stk_mem (List.mem_reverse.mp (List.mem_of_getElem? h1))).1
        exact ⟨o, h1, by rw [← ag o (by omega)]; exact h2, by rw [← em]; exact h3⟩
      · rintro ⟨o, h1, h2, h3⟩
        have := (stk_mem (List.mem_reverse.mp (List.mem_of_getElem? h1))).1
        exact ⟨o, h1, by rw [ag o (by omega)]; exact h2, by rw [em]; exact h3⟩
    by_cases q : ∃ o, (stk (mSo S r) j).reverse[k]? = some o ∧ mSo S r o = 14 ∧ midO (mSo S r) (j + 1) o ≠ -1
    · rw [ifP_t q, if_pos (eq.mpr q)]
    · rw [ifP_f q, if_neg (fun z => q (eq.mp z))]
  · rw [k4]
    unfold kpO
    have h1 := kpS_R (S (22 + 10 * r + 1)) (midO (S (22 + 10 * r + 1)) (j + 1)) (stk (S (22 + 10 * r + 1)) j).reverse (stk (S (22 + 10 * r + 1)) j).length
    have h2 := pow4_6 (stk_len (wfP_le r2 (Nat.le_of_lt hj)))
    omega
  · rw [k5, ← cat_try r2 hc hj]
    unfold tryM
    have e1 : ∀ n, n ≤ mN S r → trA (S (22 + 10 * r + 1)) (midO (S (22 + 10 * r + 1)) (mN S r)) j n = trA (mSo S r) (midO (mSo S r) (mN S r)) j n := by
      intro n
      induction n with
      | zero => intro _; rfl
      | succ n ih =>
        intro hn
        simp only [trA]
        rw [ih (by omega), ag n (by omega), midO_congr ag]
    exact e1 _ (Nat.le_refl _)
theorem pw4 (k : Nat) : (2 : Int) ^ (2 * (k : Int)).toNat = 4 ^ k := by
  rw [show (2 * (k : Int)).toNat = 2 * k by omega, Int.pow_mul]
  rfl
/-- what is kept of the modes at a place -/
theorem cm_dig {S S1 : mm_S} {a r : Nat} (hm : mrC S r) (hro : roC S r) (e7 : S1 (22 + 10 * r + 7) = S (22 + 10 * r + 7)) (hV : 0 ≤ S1 a 2) {w : Int} (hw : 0 ≤ w ∧ w ≤ mN S r) {P : Nat → Int} (hP : ∀ k, k < 6 → P k = S1 a 2 / 4 ^ k % 4) : ∀ k, k < 6 → mvP S r w P k = cmT S1 a (22 + 10 * r) w a 2 / 4 ^ k % 4 := by
  intro k hk
  obtain ⟨h1, h2, h3, h4⟩ := hro
  rw [cmT_m, e7]
  unfold mvP
  rw [nrm_in hk]
  obtain ⟨j, rfl⟩ := Int.eq_ofNat_of_zero_le hw.1
  rw [Int.toNat_natCast]
  by_cases hj : j < mN S r
  · obtain ⟨k1, k2, k3, k4, k5⟩ := h4 j hj
    have hd := k3 k
    have h30 : S (22 + 10 * r + 7) j / 4 ^ k % 4 = 3 ∨ S (22 + 10 * r + 7) j / 4 ^ k % 4 = 0 := by
      rw [hd]
      unfold ifP
      split <;> simp
    rw [and_dig hV k4.1 k h30, hd]
    rcases kpV_or (mSo S r) (arA (mSo S r)) (midO (mSo S r) (mN S r)) (endO (mSo S r) (mN S r)) j k (P k) (mN S r) with ⟨g1, o, g2⟩ | ⟨g1, g2⟩
    · rw [g1, ifP_t ⟨o, (kp_iff hm.1 hm.2.1 hj).mp g2⟩, if_pos rfl, hP k hk]
    · rw [g1, ifP_f (fun ⟨o, z⟩ => g2 ⟨o, (kp_iff hm.1 hm.2.1 hj).mpr z⟩), if_neg (by decide)]
  · have : j = mN S r := by omega
    subst this
    rw [h3]
    rcases kpV_or (mSo S r) (arA (mSo S r)) (midO (mSo S r) (mN S r)) (endO (mSo S r) (mN S r)) (mN S r : Nat) k (P k) (mN S r) with ⟨g1, o, g2⟩ | ⟨g1, g2⟩
    · exfalso
      have := endO_lt (mSo S r) (mN S r) o
      omega
    · rw [g1]
      simp
theorem mv_in {S : mm_S} {r : Nat} {w : Int} {P : Nat → Int} {k : Nat} (hk : k < 6) : (mvP S r w P k = P k ∧ inL S r w k) ∨ mvP S r w P k = 0 := by
  unfold mvP
  rw [nrm_in hk]
  rcases kpV_or (mSo S r) (arA (mSo S r)) (midO (mSo S r) (mN S r)) (endO (mSo S r) (mN S r)) w k (P k) (mN S r) with ⟨g1, g2⟩ | ⟨g1, g2⟩
  · exact Or.inl ⟨g1, g2⟩
  · exact Or.inr g1
/-- what a step comes to, in the scene and in the registers -/
def stP (S : mm_S) (a : Nat) (κ : kyT) (g : Int × mm_S) (z : Int × Int × rgT) : Prop := g.1 = z.1 ∧ (z.1 = 0 ∨ z.1 = 1) ∧ scF S g.2 a ∧ scR g.2 a κ z.2.2 ∧ itV S κ z.2.1 z.2.2 ∧ scV g.2 a ∧ g.2 a 0 = S a 0 ∧ g.2 a 1 = z.2.1
section
variable {S S1 : mm_S} {a : Nat} {κ : kyT} {R : rgT}
theorem rg_pend (h : rgV S κ R) {P : Nat → Int} (hP : ∀ k, k < 6 → 0 ≤ P k ∧ P k ≤ 2) : rgV S κ (R.1, R.2.1, R.2.2.1, P) := by
  obtain ⟨hB, h1, h2, h3, h4, h5⟩ := h
  exact ⟨⟨hB.1, hB.2.1, hB.2.2.1, fun k hk => ⟨(hP k hk).1, by have := (hP k hk).2; show P k < 4; omega⟩⟩, h1, h2, h3, h4, fun k hk => (hP k hk).2⟩
theorem mv_R (h : rgV S κ R) {r : Nat} {w : Int} : ∀ k, k < 6 → 0 ≤ mvP S r w R.2.2.2 k ∧ mvP S r w R.2.2.2 k ≤ 2 := fun k hk => by
  have h1 := h.1.2.2.2 k hk
  have h2 := h.2.2.2.2.2 k hk
  rcases mv_in (S := S) (r := r) (w := w) (P := R.2.2.2) hk with ⟨e, -⟩ | e <;> omega
theorem sc_md (h : scR S1 a κ R) {P : Nat → Int} {x y : Int} (hP : ∀ k, k < 6 → P k = y / 4 ^ k % 4) : scR (up2 (up2 S1 a 1 x) a 2 y) a κ (R.1, R.2.1, R.2.2.1, P) := by
  obtain ⟨h1, h2, h3, h4, h5⟩ := h
  have e : ∀ b, b ≠ a → up2 (up2 S1 a 1 x) a 2 y b = S1 b := fun b hb => by rw [up2_row hb, up2_row hb]
  refine ⟨?_, ?_, ?_, ?_, fun k hk => ?_⟩
  · rw [e (a + 1) (by omega)]; exact h1
  · rw [e (a + 1) (by omega)]; exact h2
  · rw [e (a + 1) (by omega), e (a + 2) (by omega), e (a + 3) (by omega)]; exact h3
  · rw [e (a + 2) (by omega), e (a + 3) (by omega)]; exact h4
  · rw [up2_same]; exact hP k hk
theorem scV_md (h : scV S1 a) {x y : Int} (hx : 0 ≤ x ∧ x ≤ 24) (hy : 0 ≤ y ∧ y < 4096) : scV (up2 (up2 S1 a 1 x) a 2 y) a := by
  obtain ⟨h1, h2, h3, h4, h5⟩ := h
  have e : ∀ b, b ≠ a → up2 (up2 S1 a 1 x) a 2 y b = S1 b := fun b hb => by rw [up2_row hb, up2_row hb]
  refine ⟨?_, ?_, ?_, ?_, ?_⟩
  · rw [up2_rc (by omega), up2_rc (by omega)]; exact h1
  · rw [up2_rc (by omega), up2_same]; exact hx
  · rw [up2_same]; exact hy
  · rw [e (a + 1) (by omega)]; exact h4
  · rw [e (a + 2) (by omega), e (a + 3) (by omega)]; exact h5
theorem sc_md2 (h : scR S1 a κ R) {P : Nat → Int} {y : Int} (hP : ∀ k, k < 6 → P k = y / 4 ^ k % 4) : scR (up2 S1 a 2 y) a κ (R.1, R.2.1, R.2.2.1, P) := by
  obtain ⟨h1, h2, h3, h4, h5⟩ := h
  have e : ∀ b, b ≠ a → up2 S1 a 2 y b = S1 b := fun b hb => up2_row hb
  refine ⟨?_, ?_, ?_, ?_, fun k hk => ?_⟩
  · rw [e (a + 1) (by omega)]; exact h1
  · rw [e (a + 1) (by omega)]; exact h2
  · rw [e (a + 1) (by omega), e (a + 2) (by omega), e (a + 3) (by omega)]; exact h3
  · rw [e (a + 2) (by omega), e (a + 3) (by omega)]; exact h4
  · rw [up2_same]; exact hP k hk
theorem scV_md2 (h : scV S1 a) {y : Int} (hy : 0 ≤ y ∧ y < 4096) : scV (up2 S1 a 2 y) a := by
  obtain ⟨h1, h2, h3, h4, h5⟩ := h
  have e : ∀ b, b ≠ a → up2 S1 a 2 y b = S1 b := fun b hb => up2_row hb
  refine ⟨?_, ?_, ?_, ?_, ?_⟩
  · rw [up2_rc (by omega)]; exact h1
  · rw [up2_rc (by omega)]; exact h2
  · rw [up2_same]; exact hy
  · rw [e (a + 1) (by omega)]; exact h4
  · rw [e (a + 2) (by omega), e (a + 3) (by omega)]; exact h5
theorem st_gt (hm : mbC S) (hκ : (κ.2.1 : Int) < S 181 9) (hro : roC S κ.2.1) (ha : 82 ≤ a) (hF : scF S S1 a) (h : scR S1 a κ R) (hR : rgV S κ R) (hV : scV S1 a) (h0 : S1 a 0 = S a 0) {w : Int} (hw : 0 ≤ w ∧ w ≤ mN S κ.2.1) : stP S a κ (1, cmT S1 a (22 + 10 * κ.2.1) w) (gtR S κ.2.1 w R) := by
  have hv := hm.1.2.2.2.2 κ.2.1 (by have := hm.1.2.1; omega)
  have hr6 : κ.2.1 < 6 := by have := hm.1.2.1; omega
  have hn : ((mN S κ.2.1 : Nat) : Int) = S 189 κ.2.1 := by unfold mN; omega
  have dg := cm_dig (a := a) (hm.2.2.2 κ.2.1 hκ) hro (hF _ (by omega)) hV.2.2.1.1 hw h.2.2.2.2
  refine ⟨rfl, Or.inr rfl, scF_tr hF scF_cm, ?_, ⟨rg_pend hR (mv_R hR), ⟨hw.1, by show w ≤ _; omega⟩, fun k hk hne => ?_⟩, ?_, ?_, ?_⟩
  · show scR (up2 (up2 S1 a 1 w) a 2 _) a κ _
    refine sc_md h (fun k hk => ?_)
    rw [dg k hk]
    unfold cmT
    rw [up2_same]
  · rcases mv_in (S := S) (r := κ.2.1) (w := w) (P := R.2.2.2) hk with ⟨-, e⟩ | e
    · exact e
    · exact absurd e hne
  · have := and_le (x := S1 a 2) (y := S1 (22 + 10 * κ.2.1 + 7) w.toNat) hV.2.2.1.1
    exact scV_md hV (by omega) (by have := hV.2.2.1; omega)
  · show cmT S1 a (22 + 10 * κ.2.1) w a 0 = S a 0
    unfold cmT
    rw [up2_rc (by omega), up2_rc (by omega)]; exact h0
  · show cmT S1 a (22 + 10 * κ.2.1) w a 1 = w
    unfold cmT
    rw [up2_rc (by omega), up2_same]
theorem st_ot (hm : mbC S) (hκ : (κ.2.1 : Int) < S 181 9) (hro : roC S κ.2.1) (ha : 82 ≤ a) (hF : scF S S1 a) (h : scR S1 a κ R) (hR : rgV S κ R) (hV : scV S1 a) (h0 : S1 a 0 = S a 0) {pl : Nat} (hp : pl < mN S κ.2.1) (h1 : S1 a 1 = pl) (hL : ∀ k : Nat, k < 6 → R.2.2.2 k ≠ 0 → inL S κ.2.1 pl k) {m : Int} (hm12 : m = 1 ∨ m = 2) : stP S a κ (goP S1 a (22 + 10 * κ.2.1) m) (otR S κ.2.1 pl m R) := by
  have hv := hm.1.2.2.2.2 κ.2.1 (by have := hm.1.2.1; omega)
  have hr6 : κ.2.1 < 6 := by have := hm.1.2.1; omega
  have hn : ((mN S κ.2.1 : Nat) : Int) = S 189 κ.2.1 := by unfold mN; omega
  obtain ⟨c1, c2, c3, c4⟩ := hm.2.2.2 κ.2.1 hκ
  obtain ⟨o1, o2, o3, o4⟩ := id hro
  have row : ∀ i, i ≤ 9 → S1 (22 + 10 * κ.2.1 + i) = S (22 + 10 * κ.2.1 + i) := fun i hi => hF _ (by omega)
  have ep : (S1 a 1).toNat = pl := by rw [h1, Int.toNat_natCast]
  have et := (o4 pl hp).2.2.2.2
  unfold goP otR
  rw [ep, row 5 (by omega), row 4 (by omega), row 6 (by omega), row 7 (by omega), et]
  have hR1 := trA_R (mSo S κ.2.1) (midO (mSo S κ.2.1) (mN S κ.2.1)) pl (mN S κ.2.1)
  by_cases ht : tryM S κ.2.1 pl ≠ -1
  · rw [if_pos ht, if_pos ht]
    obtain ⟨o, ho⟩ : ∃ o : Nat, tryM S κ.2.1 pl = o := ⟨(tryM S κ.2.1 pl).toNat, by unfold tryM at ht ⊢; omega⟩
    rw [ho, Int.toNat_natCast]
    have hsp : o < mN S κ.2.1 ∧ mSo S κ.2.1 o = 14 ∧ (o : Int) < pl ∧ (pl : Int) < midO (mSo S κ.2.1) (mN S κ.2.1) o := by
      rcases trA_sp (mSo S κ.2.1) (midO (mSo S κ.2.1) (mN S κ.2.1)) pl (mN S κ.2.1) with ⟨g, -⟩ | ⟨q, g1, g2, g3, -⟩
      · exact absurd g ht
      · have : q = o := by unfold tryM at ho; omega
        subst this
        exact ⟨g1, g3⟩
    have hmid := blk_mid c1 c2 (Or.inr hsp.2.1) hsp.1 (by omega)
    have hend := blk_end c1 c2 (Or.inr hsp.2.1) hsp.1
    have e4 : S (22 + 10 * κ.2.1 + 4) o = midO (mSo S κ.2.1) (mN S κ.2.1) o := by
      rw [(o4 o hsp.1).1]
      unfold tgX
      rw [if_pos hsp.2.1, if_pos (by omega)]
    have har : arA (mSo S κ.2.1) o = ((stk (mSo S κ.2.1) o).length : Int) := by unfold arA; rw [if_neg (by omega)]
    have e6 : S (22 + 10 * κ.2.1 + 6) o = arA (mSo S κ.2.1) o := by
      rw [(o4 o hsp.1).2.1, har]
      unfold lvO
      rw [if_pos hsp.2.1]
    have hl6 : (stk (mSo S κ.2.1) o).length < 6 := (c1 o hsp.1).2.1 (Or.inr hsp.2.1)
    obtain ⟨M, hM⟩ : ∃ M : Nat, midO (mSo S κ.2.1) (mN S κ.2.1) o = M := ⟨(midO (mSo S κ.2.1) (mN S κ.2.1) o).toNat, by omega⟩
    obtain ⟨l, hl⟩ : ∃ l : Nat, (stk (mSo S κ.2.1) o).length = l := ⟨_, rfl⟩
    rw [e4, e6, har, hl, hM, pw4]
    simp only [Int.toNat_natCast]
    have gt := st_gt (w := (M : Int)) hm hκ hro ha hF h hR hV h0 (by omega)
    obtain ⟨q1, q2, q3, q4, q5, q6, q7, q8⟩ := gt
    have q3 : scF S (cmT S1 a (22 + 10 * κ.2.1) M) a := q3
    have q4 : scR (cmT S1 a (22 + 10 * κ.2.1) M) a κ (R.1, R.2.1, R.2.2.1, mvP S κ.2.1 M R.2.2.2) := q4
    have q6 : scV (cmT S1 a (22 + 10 * κ.2.1) M) a := q6
    have eM : ((S1 a 2).toNat &&& (S (22 + 10 * κ.2.1 + 7) M).toNat) = (cmT S1 a (22 + 10 * κ.2.1) M a 2).toNat := by rw [cmT_m, row 7 (by omega), Int.toNat_natCast, Int.toNat_natCast]
    rw [eM]
    have dg : ∀ k, k < 6 → mvP S κ.2.1 M R.2.2.2 k = cmT S1 a (22 + 10 * κ.2.1) M a 2 / 4 ^ k % 4 := q4.2.2.2.2
    -- the level is free
    have hfree : R.2.2.2 l = 0 := by
      by_cases hz : R.2.2.2 l = 0
      · exact hz
      · exfalso
        obtain ⟨p, p1, p2, p3, p4, p5⟩ := hL l (by omega) hz
        have k1 := (kp_iff (k := l) c1 c2 hp).mp ⟨p1, p2, p3, p4, p5⟩
        have k2 := (cat_iff (o := o) c1 c2 hp).mp ⟨hsp.1, hsp.2⟩
        have k3 := stk2_mem k2.1
        obtain ⟨l1, l2, e⟩ := List.append_of_mem k3
        have e2 := (stk_suf _ _ l1 o l2 e).1
        have k4 : (stk (mSo S κ.2.1) pl).reverse[l]? = some o := by
          rw [e, List.reverse_append, List.reverse_cons, List.append_assoc, List.getElem?_append_right (by rw [List.length_reverse, e2, hl]; omega), List.length_reverse, e2, hl, Nat.sub_self]
          rfl
        rw [k4] at k1
        have := Option.some.inj k1.1
        subst this
        exact k1.2.2 k2.2.2
    have hd0 : cmT S1 a (22 + 10 * κ.2.1) M a 2 / 4 ^ l % 4 = 0 := by
      rw [← dg l (by omega)]
      rcases mv_in (S := S) (r := κ.2.1) (w := (M : Int)) (P := R.2.2.2) (show l < 6 by omega) with ⟨e, -⟩ | e
      · rw [e]; exact hfree
      · exact e
    have hx := q6.2.2.1
    have hod := fun k => or_dig (x := cmT S1 a (22 + 10 * κ.2.1) M a 2) hx.1 (m := m) (by omega) (l := l) (k := k) hd0
    refine ⟨rfl, Or.inr rfl, scF_tr q3 (scF_up (by omega)), ?_, ⟨rg_pend hR (fun k hk => ?_), ⟨by show 0 ≤ (M : Int); omega, by show (M : Int) ≤ _; omega⟩, fun k hk hne => ?_⟩, ?_, ?_, ?_⟩
    · refine sc_md2 q4 (fun k hk => ?_)
      rw [hod k]
      unfold ud
      by_cases e : k = l
      · rw [if_pos e, if_pos e]
      · rw [if_neg e, if_neg e]; exact dg k hk
    · show 0 ≤ ud (mvP S κ.2.1 M R.2.2.2) l m k ∧ ud (mvP S κ.2.1 M R.2.2.2) l m k ≤ 2
      unfold ud
      split
      · omega
      · exact mv_R hR k hk
    · have hne : ud (mvP S κ.2.1 M R.2.2.2) l m k ≠ 0 := hne
      show inL S κ.2.1 M k
      by_cases e : k = l
      · refine ⟨o, hsp.1, hsp.2.1, by rw [har, hl, e], by omega, by omega⟩
      · rw [ud_ne e] at hne
        rcases mv_in (S := S) (r := κ.2.1) (w := (M : Int)) (P := R.2.2.2) hk with ⟨-, q⟩ | q
        · exact q
        · exact absurd q hne
    · refine scV_md2 q6 ⟨Int.natCast_nonneg _, ?_⟩
      have h4 := pow4_6 (k := l) (by omega)
      have h5 : 0 ≤ m * 4 ^ l ∧ m * 4 ^ l < 4096 := by
        have h6 := pow4_6 (k := l + 1) (by omega)
        rw [Int.pow_succ] at h6
        rcases hm12 with e | e <;> rw [e] <;> omega
      have := Nat.or_lt_two_pow (n := 12) (x := (cmT S1 a (22 + 10 * κ.2.1) M a 2).toNat) (y := (m * 4 ^ l).toNat) (by omega) (by omega)
      have e12 : (2 : Nat) ^ 12 = 4096 := rfl
      omega
    · show up2 (cmT S1 a (22 + 10 * κ.2.1) M) a 2 _ a 0 = S a 0
      rw [up2_rc (by omega)]; exact q7
    · show up2 (cmT S1 a (22 + 10 * κ.2.1) M) a 2 _ a 1 = M
      rw [up2_rc (by omega)]; exact q8
  · rw [if_neg ht, if_neg ht]
    have e0 : S1 (22 + 10 * κ.2.1) 0 = mN S κ.2.1 := by
      have := hF (22 + 10 * κ.2.1) (by omega)
      rw [this]; exact o2
    rcases hm12 with e | e
    · rw [if_neg (by omega), if_pos e, e0]
      exact st_gt hm hκ hro ha hF h hR hV h0 (by omega)
    · rw [if_pos e, if_neg (by omega)]
      exact ⟨rfl, Or.inl rfl, hF, h, ⟨hR, ⟨by show (0 : Int) ≤ (pl : Int); omega, by show (pl : Int) ≤ _; omega⟩, hL⟩, hV, h0, h1⟩
end
