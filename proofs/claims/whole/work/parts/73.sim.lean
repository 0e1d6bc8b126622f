/-! ===== The class's scene and the registers say the same ===== -/
/-- class and reference have the same book -/
def brE (S : mm_S) : Prop := S 1 0 = S 181 0 ∧ S 1 1 = S 181 9 ∧ (∀ k : Nat, (k : Int) < S 1 0 → S (4 + 3 * k) 0 = S 182 k ∧ S (4 + 3 * k) 1 = S 183 k ∧ ∀ i, i < 48 → S (4 + 3 * k + 1) i = S 184 (48 * k + i) ∧ S (4 + 3 * k + 2) i = S 185 (48 * k + i)) ∧ ∀ r : Nat, (r : Int) < S 1 1 → S (22 + 10 * r) 0 = S 189 r ∧ ∀ i : Nat, (i : Int) < S 189 r → S (22 + 10 * r + 1) i = S 190 (25 * r + i) ∧ S (22 + 10 * r + 2) i = S 191 (25 * r + i) ∧ S (22 + 10 * r + 3) i = S 192 (25 * r + i)
/-- a ROUTINE of the reference without open blocks, its numbers right -/
def mrC (S : mm_S) (r : Nat) : Prop := wfP (mSo S r) (mN S r) ∧ stk (mSo S r) (mN S r) = [] ∧ (∀ i : Nat, i < mN S r → mCall S r i) ∧ ∀ i : Nat, i < mN S r → okA (mSo S r i) (mAa S r i) ∧ mokB S (mSo S r i) (mBb S r i)
def mbC (S : mm_S) : Prop := mdV S ∧ mkA S ∧ 0 < S 181 9 ∧ ∀ r : Nat, (r : Int) < S 181 9 → mrC S r
theorem mbW_C {S : mm_S} (h : mbW S) : mbC S := ⟨h.1, h.2.1, h.2.2.2.1, fun r hr => ⟨(h.2.2.2.2 r hr).1, (h.2.2.2.2 r hr).2.1, (h.2.2.2.2 r hr).2.2.2.1, (h.2.2.2.2 r hr).2.2.2.2⟩⟩
def okC (S : mm_S) (c : Int) : Prop := (0 ≤ c ∧ c < 42) ∧ c / 7 < S 181 0 ∧ (c % 7 < S 182 (c / 7).toNat ∨ c % 7 = 6)
/-- the registers hold what is there -/
def rgV (S : mm_S) (κ : kyT) (R : rgT) : Prop := rgB R ∧ (∀ v, v < 5 → R.1 v = 1 → κ.1 = 1) ∧ (∀ v, v < 5 → 2 ≤ R.1 v → okC S (R.2.1 (R.1 v - 2).toNat)) ∧ (κ.1 = 1 → (0 ≤ κ.2.2.1 ∧ κ.2.2.1 < S 181 0) ∧ 0 ≤ R.2.2.1 ∧ R.2.2.1 < S 182 κ.2.2.1.toNat) ∧ (κ.1 ≠ 1 → R.2.2.1 = 7) ∧ ∀ k, k < 6 → R.2.2.2 k ≤ 2
/-- a place stands in the second block of a TRY of this level -/
def inL (S : mm_S) (r : Nat) (to : Int) (k : Int) : Prop := ∃ o : Nat, o < mN S r ∧ mSo S r o = 14 ∧ arA (mSo S r) o = k ∧ midO (mSo S r) (mN S r) o ≤ to ∧ to ≤ endO (mSo S r) (mN S r) o
def itV (S : mm_S) (κ : kyT) (pl : Int) (R : rgT) : Prop := rgV S κ R ∧ (0 ≤ pl ∧ pl ≤ S 189 κ.2.1) ∧ ∀ k : Nat, k < 6 → R.2.2.2 k ≠ 0 → inL S κ.2.1 pl k
def kyV (S : mm_S) (κ : kyT) : Prop := (0 ≤ κ.1 ∧ κ.1 ≤ 2) ∧ (κ.2.1 : Int) < S 181 9 ∧ (κ.1 ≠ 0 → (0 ≤ κ.2.2.1 ∧ κ.2.2.1 < S 181 0) ∧ 0 ≤ κ.2.2.2 ∧ κ.2.2.2 < S 182 κ.2.2.1.toNat) ∧ (κ.1 = 0 → κ = ky0)
/-- the scene at a says what the registers say -/
def scR (S : mm_S) (a : Nat) (κ : kyT) (R : rgT) : Prop := (∀ v, v < 5 → (S (a + 1) v = -1 ↔ R.1 v = 0) ∧ (S (a + 1) v = 5 ↔ R.1 v = 1)) ∧ (∀ v w, v < 5 → w < 5 → (S (a + 1) v = S (a + 1) w ↔ R.1 v = R.1 w)) ∧ (∀ v, v < 5 → S (a + 1) v ≠ -1 → S (a + 1) v ≠ 5 → R.2.1 (R.1 v - 2).toNat = 7 * S (a + 2) (S (a + 1) v).toNat + S (a + 3) (S (a + 1) v).toNat) ∧ ((κ.1 = 1 → S (a + 3) 5 = R.2.2.1 ∧ S (a + 2) 5 = κ.2.2.1) ∧ (κ.1 ≠ 1 → S (a + 3) 5 = 0)) ∧ ∀ k, k < 6 → R.2.2.2 k = S a 2 / 4 ^ k % 4
theorem sc_cd {S : mm_S} {a : Nat} {κ : kyT} {R : rgT} (h : scR S a κ R) (hk : ∀ v, v < 5 → R.1 v = 1 → κ.1 = 1) {v : Int} (hv : 0 ≤ v ∧ v < 5) (hn : R.1 v.toNat ≠ 0) : cdR κ.2.2.1 R (R.1 v.toNat) = 7 * skO S a v + ssO S a v := by
  have h1 := h.1 v.toNat (by omega)
  have hs : S (a + 1) v.toNat ≠ -1 := fun z => hn (h1.1.mp z)
  rw [skO_y hs, ssO_y hs]
  unfold cdR
  by_cases e : R.1 v.toNat = 1
  · rw [if_pos e, h1.2.mpr e]
    have := h.2.2.2.1.1 (hk v.toNat (by omega) e)
    show _ = 7 * S (a + 2) 5 + S (a + 3) 5
    rw [this.1, this.2]
  · rw [if_neg e]
    exact h.2.2.1 v.toNat (by omega) hs (fun z => e (h1.2.mp z))
theorem sc_dm {S : mm_S} {a : Nat} {κ : kyT} {R : rgT} (h : scR S a κ R) (hV : scV S a) (hk : ∀ v, v < 5 → R.1 v = 1 → κ.1 = 1) {v : Int} (hv : 0 ≤ v ∧ v < 5) (hn : R.1 v.toNat ≠ 0) : cdR κ.2.2.1 R (R.1 v.toNat) / 7 = skO S a v ∧ cdR κ.2.2.1 R (R.1 v.toNat) % 7 = ssO S a v := by
  have h1 := sc_cd h hk hv hn
  have h2 := ssO_R hV hv
  omega
theorem cd_ok {S : mm_S} {κ : kyT} {R : rgT} (h : rgV S κ R) (hm : mdV S) {v : Nat} (hv : v < 5) (hn : R.1 v ≠ 0) : okC S (cdR κ.2.2.1 R (R.1 v)) := by
  obtain ⟨hB, h1, h2, h3, h4, h5⟩ := h
  have hb := hB.1 v hv
  unfold cdR
  by_cases e : R.1 v = 1
  · rw [if_pos e]
    obtain ⟨g1, g2, g3⟩ := h3 (h1 v hv e)
    have u0 := hm.1
    have u2 := hm.2.2.1 κ.2.2.1.toNat (by omega)
    have e1 : (7 * κ.2.2.1 + R.2.2.1) / 7 = κ.2.2.1 := by omega
    have e2 : (7 * κ.2.2.1 + R.2.2.1) % 7 = R.2.2.1 := by omega
    refine ⟨by omega, ?_, Or.inl ?_⟩
    · rw [e1]; exact g1.2
    · rw [e1, e2]; exact g3
  · rw [if_neg e]
    exact h2 v hv (by omega)
theorem kd_mH {S : mm_S} (hb : brE S) (hv : mdV S) {k s n : Int} (hk : 0 ≤ k ∧ k < S 181 0) (hs : 0 ≤ s ∧ s < S 182 k.toNat) (hn : 0 ≤ n ∧ n < 8) : (kdH S (4 + 3 * k.toNat) s n ↔ mH S k s n) ∧ (kdA S (4 + 3 * k.toNat) s n ↔ mA S k s n) ∧ ∀ (y : Prop) [Decidable y], kdF S (4 + 3 * k.toNat) s n y = mF S k s n y := by
  have u0 := hv.1
  have u2 := hv.2.2.1 k.toNat (by omega)
  have hb2 := hb.2.2.1 k.toNat (by rw [hb.1]; omega)
  have hU : kdU S (4 + 3 * k.toNat) s n := ⟨hs.1, by rw [hb2.1]; exact hs.2, hn.1, hn.2⟩
  have hi := hb2.2.2 (s * 8 + n).toNat (by omega)
  have e : (48 * k + 8 * s + n).toNat = 48 * k.toNat + (s * 8 + n).toNat := by omega
  refine ⟨⟨fun z => ?_, fun z => ⟨hU, ?_⟩⟩, ⟨fun z => ?_, fun z => ⟨hU, ?_⟩⟩, fun y _ => ?_⟩
  · unfold mH; rw [e, ← hi.1]; exact z.2
  · unfold mH at z; rw [e, ← hi.1] at z; exact z
  · unfold mA; rw [e, ← hi.2]; exact z.2
  · unfold mA at z; rw [e, ← hi.2] at z; exact z
  · unfold kdF mF
    rw [if_pos hU, e, ← hi.1, ← hi.2]
theorem kd_mE {S : mm_S} (hb : brE S) {k s : Int} (hk : 0 ≤ k ∧ k < S 181 0) : kdE S (4 + 3 * k.toNat) s ↔ mE S k s := by
  have hb2 := hb.2.2.1 k.toNat (by rw [hb.1]; omega)
  unfold kdE mE
  rw [hb2.2.1]
/-- how a scene and the registers stand to each other at a place -/
def simP (S : mm_S) (a : Nat) (κ : kyT) (pl : Int) (R : rgT) : Prop := scR S a κ R ∧ itV S κ pl R ∧ scV S a ∧ S a 1 = pl ∧ S a 0 = κ.2.1
section
variable {S : mm_S} {a : Nat} {κ : kyT} {pl : Nat} {R : rgT}
theorem sim_K (hb : brE S) (hm : mbC S) (h : simP S a κ pl R) : scK S a := fun v hv hn => by
  obtain ⟨h1, h2, h3, h4, h5⟩ := h
  have hc := h1.1 v hv
  have hn0 : R.1 v ≠ 0 := fun z => hn (hc.1.mpr z)
  have ok := cd_ok h2.1 hm.1 hv hn0
  have e := sc_dm (v := (v : Int)) h1 h3 h2.1.2.1 (by omega) (by rw [Int.toNat_natCast]; exact hn0)
  rw [Int.toNat_natCast] at e
  rw [skO_y (by rw [Int.toNat_natCast]; exact hn), Int.toNat_natCast] at e
  have := ok.2.1
  rw [e.1] at this
  rw [hb.1]
  exact this
theorem sim_use (hb : brE S) (hm : mbC S) (h : simP S a κ pl R) {v n : Int} (hv : 0 ≤ v ∧ v < 5) (hn : 0 ≤ n ∧ n < 8) : wUse S a v n = (if agR κ.2.2.1 R (R.1 v.toNat) ≠ 0 then agR κ.2.2.1 R (R.1 v.toNat) else if mH S (cdR κ.2.2.1 R (R.1 v.toNat) / 7) (cdR κ.2.2.1 R (R.1 v.toNat) % 7) n then 0 else 3) := by
  obtain ⟨h1, h2, h3, h4, h5⟩ := h
  have hc := h1.1 v.toNat (by omega)
  unfold wUse agR
  by_cases e0 : R.1 v.toNat = 0
  · rw [if_pos (hc.1.mpr e0), if_pos e0, if_pos (by decide)]
  · have ok := cd_ok h2.1 hm.1 (v := v.toNat) (by omega) e0
    have e := sc_dm h1 h3 h2.1.2.1 hv e0
    rw [if_neg (fun z => e0 (hc.1.mp z)), if_neg e0, e.1, e.2]
    rw [okC, e.1, e.2] at ok
    have k0 := skO_R h3 hv
    have s0 := ssO_R h3 hv
    by_cases e6 : ssO S a v = 6
    · rw [if_pos e6, if_pos e6, if_pos (by decide)]
    · rw [if_neg e6, if_neg e6, if_neg (show ¬ ((0 : Int) ≠ 0) by decide)]
      have key := (kd_mH hb hm.1 (k := skO S a v) (s := ssO S a v) (n := n) ⟨k0.1, ok.2.1⟩ ⟨s0.1, by omega⟩ hn).1
      by_cases hh : kdH S (4 + 3 * (skO S a v).toNat) (ssO S a v) n
      · rw [if_pos hh, if_pos (key.mp hh)]
      · rw [if_neg hh, if_neg (fun z => hh (key.mpr z))]
theorem sim_call (hm : mbC S) (h : simP S a κ pl R) {v : Int} (hv : 0 ≤ v ∧ v < 5) {g : Prop} [Decidable g] : wCall S a v g = (if agR κ.2.2.1 R (R.1 v.toNat) ≠ 0 then agR κ.2.2.1 R (R.1 v.toNat) else if g ∧ R.1 v.toNat = 1 then 4 else 0) := by
  obtain ⟨h1, h2, h3, h4, h5⟩ := h
  have hc := h1.1 v.toNat (by omega)
  unfold wCall agR
  by_cases e0 : R.1 v.toNat = 0
  · rw [if_pos (hc.1.mpr e0), if_pos e0, if_pos (by decide)]
  · have e := sc_dm h1 h3 h2.1.2.1 hv e0
    rw [if_neg (fun z => e0 (hc.1.mp z)), if_neg e0, e.2]
    by_cases e6 : ssO S a v = 6
    · rw [if_pos e6, if_pos e6, if_pos (by decide)]
    · rw [if_neg e6, if_neg e6, if_neg (show ¬ ((0 : Int) ≠ 0) by decide)]
      by_cases hg : g ∧ R.1 v.toNat = 1
      · rw [if_pos hg, if_pos ⟨hg.1, hc.2.mpr hg.2⟩]
      · rw [if_neg hg, if_neg (fun z => hg ⟨z.1, hc.2.mp z.2⟩)]
theorem sim_must (hb : brE S) (hm : mbC S) (h : simP S a κ pl R) {v : Int} (hv : 0 ≤ v ∧ v < 5) : mstN S a v ↔ (¬ R.1 v.toNat < 2 ∧ lfM S (R.2.1 (R.1 v.toNat - 2).toNat)) := by
  obtain ⟨h1, h2, h3, h4, h5⟩ := h
  have hc := h1.1 v.toNat (by omega)
  have hr := h2.1.1.1 v.toNat (by omega)
  by_cases e0 : R.1 v.toNat = 0
  · constructor
    · intro z; exact absurd (hc.1.mpr e0) z.1
    · intro z; exact absurd (by omega) z.1
  · by_cases e1 : R.1 v.toNat = 1
    · constructor
      · intro z; exact absurd (hc.2.mpr e1) z.2.1
      · intro z; exact absurd (by omega) z.1
    · have ok := cd_ok h2.1 hm.1 (v := v.toNat) (by omega) e0
      have e := sc_dm h1 h3 h2.1.2.1 hv e0
      have ec : cdR κ.2.2.1 R (R.1 v.toNat) = R.2.1 (R.1 v.toNat - 2).toNat := by unfold cdR; rw [if_neg e1]
      have k0 := skO_R h3 hv
      rw [okC, e.1, e.2] at ok
      rw [← ec]
      unfold lfM
      rw [e.1, e.2]
      have key := kd_mE hb (k := skO S a v) (s := ssO S a v) ⟨k0.1, ok.2.1⟩
      constructor
      · intro z; exact ⟨by omega, z.2.2.1, fun q => z.2.2.2 (key.mpr q)⟩
      · intro z; exact ⟨fun q => e0 (hc.1.mp q), fun q => e1 (hc.2.mp q), z.2.1, fun q => z.2.2 (key.mp q)⟩
theorem sim_left (hb : brE S) (hm : mbC S) (h : simP S a κ pl R) {v : Int} (hv : 0 ≤ v ∧ v < 5) {x t : Int} (hx : ∀ w, w < 5 → (S (a + 1) w = x ↔ R.1 w = t)) : lftB S a v x ↔ lfR S R v.toNat t := by
  have hmu := sim_must hb hm h hv
  obtain ⟨h1, h2, h3, h4, h5⟩ := h
  unfold lftB lfR
  constructor
  · rintro ⟨g1, g2, g3⟩
    have g4 := hmu.mp g2
    refine ⟨g4.1, fun k hk e => ?_, g4.2⟩
    by_cases ek : k = v.toNat
    · subst ek
      rw [ud_same] at e
      exact g1 ((hx v.toNat (by omega)).mpr e.symm)
    · rw [ud_ne ek] at e
      exact g3 k hk (by omega) ((h1.2.1 k v.toNat hk (by omega)).mpr e)
  · rintro ⟨g1, g2, g3⟩
    refine ⟨fun e => ?_, hmu.mpr ⟨g1, g3⟩, fun w hw hne e => ?_⟩
    · have := g2 v.toNat (by omega)
      rw [ud_same] at this
      exact this ((hx v.toNat (by omega)).mp e).symm
    · have := g2 w hw
      rw [ud_ne (by omega)] at this
      exact this ((h1.2.1 w v.toNat hw (by omega)).mp e)
theorem sim_lvs (hb : brE S) (hm : mbC S) (h : simP S a κ pl R) : lvsP S a ↔ lvM S R := by
  unfold lvsP lvM
  constructor
  · intro z
    by_cases e : ∃ v : Nat, v < 5 ∧ 1 < R.1 v ∧ lfM S (R.2.1 (R.1 v - 2).toNat)
    · exact e
    · exfalso
      refine z (fun v hv q => e ⟨v, hv, ?_⟩)
      have := (sim_must hb hm h (v := (v : Int)) (by omega)).mp q
      rw [Int.toNat_natCast] at this
      exact ⟨by omega, this.2⟩
  · rintro ⟨v, hv, h1, h2⟩ z
    refine z v hv ((sim_must hb hm h (v := (v : Int)) (by omega)).mpr ?_)
    rw [Int.toNat_natCast]
    exact ⟨by omega, h2⟩
theorem sim_et (h : simP S a κ pl R) : S (a + 3) 5 = etR κ R := by
  obtain ⟨h1, h2, h3, h4, h5⟩ := h
  unfold etR
  by_cases e : κ.1 = 1
  · rw [if_pos e]; exact (h1.2.2.2.1.1 e).1
  · rw [if_neg e]; exact h1.2.2.2.1.2 e
end
/-- the class's ROUTINE, and the reference's -/
theorem br_rt {S : mm_S} (hb : brE S) {r : Nat} (hr : (r : Int) < S 181 9) : S (22 + 10 * r) 0 = S 189 r ∧ ∀ i : Nat, i < mN S r → S (22 + 10 * r + 1) i = mSo S r i ∧ S (22 + 10 * r + 2) i = mAa S r i ∧ S (22 + 10 * r + 3) i = mBb S r i := by
  have h := hb.2.2.2 r (by rw [hb.2.1]; exact hr)
  exact ⟨h.1, fun i hi => h.2 i (by unfold mN at hi; omega)⟩
section
variable {S : mm_S} {a : Nat} {κ : kyT} {pl : Nat} {R : rgT}
theorem sim_wr (hb : brE S) (hm : mbC S) (hκ : kyV S κ) (h : simP S a κ pl R) (hp : pl < mN S κ.2.1) : wAh S a (22 + 10 * κ.2.1) = wrR S κ pl R := by
  have hr := br_rt hb hκ.2.1
  obtain ⟨e1, e2, e3⟩ := hr.2 pl hp
  have ep : (S a 1).toNat = pl := by rw [h.2.2.2.1]; omega
  have ok := (hm.2.2.2 κ.2.1 hκ.2.1).2.2.2 pl hp
  have wf := ((hm.2.2.2 κ.2.1 hκ.2.1).1 pl hp).1
  have hV := h.2.2.1.2.2.2.1
  unfold wAh wrR
  rw [ep, e1, e2, e3]
  obtain ⟨x, hx⟩ : ∃ x, mSo S κ.2.1 pl = x := ⟨_, rfl⟩
  rw [hx] at ok wf ⊢
  by_cases c1 : x = 1 ∨ x = 2 ∨ x = 5
  · rw [if_pos c1, if_pos c1]
    exact sim_use hb hm h (by omega) (by omega)
  · rw [if_neg c1, if_neg c1]
    by_cases c2 : x = 10 ∨ x = 11
    · rw [if_pos c2, if_pos c2]
      exact sim_call hm h (by omega)
    · rw [if_neg c2, if_neg c2]
      by_cases c3 : x = 0 ∨ x = 9
      · rw [if_pos c3, if_pos c3]
        have key := sim_left hb hm h (v := mAa S κ.2.1 pl) (by omega) (x := -1) (t := 0) (fun w hw => (h.1.1 w hw).1)
        by_cases q : lftB S a (mAa S κ.2.1 pl) (-1)
        · rw [if_pos q, ifP_t (key.mp q)]
        · rw [if_neg q, ifP_f (fun z => q (key.mpr z))]
      · rw [if_neg c3, if_neg c3]
        by_cases c4 : x = 8
        · rw [if_pos c4, if_pos c4]
          have key := sim_left hb hm h (v := mAa S κ.2.1 pl) (by omega) (x := S (a + 1) (mBb S κ.2.1 pl).toNat) (t := R.1 (mBb S κ.2.1 pl).toNat) (fun w hw => h.1.2.1 w _ hw (by omega))
          by_cases q : lftB S a (mAa S κ.2.1 pl) (S (a + 1) (mBb S κ.2.1 pl).toNat)
          · rw [if_pos q, ifP_t (key.mp q)]
          · rw [if_neg q, ifP_f (fun z => q (key.mpr z))]
        · rw [if_neg c4, if_neg c4]
/-- with nothing WRONG ahead of a USE, what is used is there -/
theorem wr_use (hx : mSo S κ.2.1 pl = 1 ∨ mSo S κ.2.1 pl = 2 ∨ mSo S κ.2.1 pl = 5) (hw : wrR S κ pl R = 0) : R.1 (mAa S κ.2.1 pl).toNat ≠ 0 ∧ cdR κ.2.2.1 R (R.1 (mAa S κ.2.1 pl).toNat) % 7 ≠ 6 ∧ mH S (cdR κ.2.2.1 R (R.1 (mAa S κ.2.1 pl).toNat) / 7) (cdR κ.2.2.1 R (R.1 (mAa S κ.2.1 pl).toNat) % 7) (mBb S κ.2.1 pl) := by
  unfold wrR at hw
  rw [if_pos hx] at hw
  unfold agR at hw
  by_cases e0 : R.1 (mAa S κ.2.1 pl).toNat = 0
  · rw [if_pos e0] at hw; simp at hw
  · rw [if_neg e0] at hw
    by_cases e6 : cdR κ.2.2.1 R (R.1 (mAa S κ.2.1 pl).toNat) % 7 = 6
    · rw [if_pos e6] at hw; simp at hw
    · rw [if_neg e6] at hw
      by_cases e7 : mH S (cdR κ.2.2.1 R (R.1 (mAa S κ.2.1 pl).toNat) / 7) (cdR κ.2.2.1 R (R.1 (mAa S κ.2.1 pl).toNat) % 7) (mBb S κ.2.1 pl)
      · exact ⟨e0, e6, e7⟩
      · rw [if_neg e7] at hw; simp at hw
theorem wr_call (hx : mSo S κ.2.1 pl = 10 ∨ mSo S κ.2.1 pl = 11) (hw : wrR S κ pl R = 0) : R.1 (mBb S κ.2.1 pl).toNat ≠ 0 ∧ cdR κ.2.2.1 R (R.1 (mBb S κ.2.1 pl).toNat) % 7 ≠ 6 ∧ ¬ (mSo S κ.2.1 pl = 11 ∧ R.1 (mBb S κ.2.1 pl).toNat = 1) := by
  unfold wrR at hw
  rw [if_neg (by omega), if_pos hx] at hw
  unfold agR at hw
  by_cases e0 : R.1 (mBb S κ.2.1 pl).toNat = 0
  · rw [if_pos e0] at hw; simp at hw
  · rw [if_neg e0] at hw
    by_cases e6 : cdR κ.2.2.1 R (R.1 (mBb S κ.2.1 pl).toNat) % 7 = 6
    · rw [if_pos e6] at hw; simp at hw
    · rw [if_neg e6] at hw
      by_cases e7 : mSo S κ.2.1 pl = 11 ∧ R.1 (mBb S κ.2.1 pl).toNat = 1
      · rw [if_pos e7] at hw; simp at hw
      · exact ⟨e0, e6, e7⟩
theorem sim_as (hb : brE S) (hm : mbC S) (hκ : kyV S κ) (h : simP S a κ pl R) (hp : pl < mN S κ.2.1) (hw : wrR S κ pl R = 0) : asP S a (22 + 10 * κ.2.1) ↔ asR S κ pl R := by
  have hr := br_rt hb hκ.2.1
  obtain ⟨e1, e2, e3⟩ := hr.2 pl hp
  have ep : (S a 1).toNat = pl := by rw [h.2.2.2.1]; omega
  have ok := (hm.2.2.2 κ.2.1 hκ.2.1).2.2.2 pl hp
  unfold asP asR
  rw [ep, e1, e2, e3]
  by_cases c1 : mSo S κ.2.1 pl = 1
  · have u := wr_use (Or.inl c1) hw
    have okc := cd_ok h.2.1.1 hm.1 (v := (mAa S κ.2.1 pl).toNat) (by omega) u.1
    have e := sc_dm h.1 h.2.2.1 h.2.1.1.2.1 (v := mAa S κ.2.1 pl) (by omega) u.1
    have u2 := u.2.1
    rw [okC, e.1, e.2] at okc
    rw [e.2] at u2
    rw [e.1, e.2]
    have k0 := skO_R h.2.2.1 (v := mAa S κ.2.1 pl) (by omega)
    have s0 := ssO_R h.2.2.1 (v := mAa S κ.2.1 pl) (by omega)
    have key := (kd_mH hb hm.1 (k := skO S a (mAa S κ.2.1 pl)) (s := ssO S a (mAa S κ.2.1 pl)) (n := mBb S κ.2.1 pl) ⟨k0.1, okc.2.1⟩ ⟨s0.1, by omega⟩ (by omega)).2.1
    constructor
    · rintro (z | z)
      · exact Or.inl z
      · exact Or.inr ⟨z.1, key.mp z.2⟩
    · rintro (z | z)
      · exact Or.inl z
      · exact Or.inr ⟨z.1, key.mpr z.2⟩
  · constructor
    · rintro (z | z)
      · exact Or.inl z
      · exact absurd z.1 c1
    · rintro (z | z)
      · exact Or.inl z
      · exact absurd z.1 c1
end
