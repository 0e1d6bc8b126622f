/-! ===== names in the reference's runs ===== -/
theorem mr_ren {S0 S S1 : mm_S} {n : Int} {f : Fr} {t : List Fr} {as dn ms : Int} (hbW : mbW S0) (hmr : mrS S0 S n (f :: t, 0, as, dn, ms)) {a : Nat} (ha5 : a < 5) {x tv : Int} (hx : (x = -1 ∧ tv = 0) ∨ ∃ b, b < 5 ∧ x = S 220 (5 * t.length + b) ∧ tv = f.2.2.1 b) (hS1 : S1 = up2 S 220 (5 * t.length + a) x) : (lfT S S1 t.length a ↔ lfR S0 f.2.2 a tv) ∧ (¬ lfT S S1 t.length a → mrS S0 S1 n ((f.1, f.2.1, nmR f.2.2 a tv) :: t, 0, as, dn, ms)) ∧ mfR S0 S1 := by
  obtain ⟨hbe, hW, hr6, ⟨hw, hn24, hn0, hNe, hNS⟩, ⟨h17, h18⟩, ⟨hpl, hN24⟩, hP, hrg, hk10, hd, hvM⟩ := mr_top hbW hmr
  have hth : thM S (t.length + 1) := hmr.2.2.1.2
  have dd := hmr.2.2.2.1
  have hR1 : ∀ v, v < 5 → 0 ≤ f.2.2.1 v := fun v hv2 => (hrg.1.1 v hv2).1
  have r1 : ∀ b, b ≠ 220 → S1 b = S b := fun b hb => by rw [hS1, up2_row hb]
  have k20 : ∀ i, i ≠ 5 * t.length + a → S1 220 i = S 220 i := fun i hi => by rw [hS1, up2_rc hi]
  have k20a : S1 220 (5 * t.length + a) = x := by rw [hS1, up2_same]
  have a1 := hmr.2.2.1.1.1.2.1.1
  have a2 := hmr.2.2.1.1.1.2.1.2.1
  have hlf := lf_eq (S1 := S1) (tv := tv) hW.1 hmr.2.2.1.1 hth hR1 ha5 (fun hne v hv2 => by
    by_cases z : v = a
    · subst z
      rw [k20a, ud_same]
      rcases hx with ⟨y1, y2⟩ | ⟨b, y1, y2, y3⟩
      · have q := (a1 v hv2).2.1
        rw [y1, y2]
        exact ⟨fun w => absurd w.symm hne, fun w => absurd (q.mp w.symm) hne⟩
      · rw [y2, y3]
        exact (a2 b v y1 hv2).symm
    · rw [k20 _ (by omega), ud_ne z]
      exact (a2 v a hv2 ha5).symm)
  have e81 := r1 181 (by omega)
  have hmf : mfR S0 S1 := ⟨fun b y1 y2 => by rw [r1 b (by omega)]; exact hmr.1.1 b y1 y2, fun j hj => by rw [e81]; exact hmr.1.2 j hj⟩
  refine ⟨by rw [← bk_lfR hbe]; exact hlf, fun hnl => ?_, hmf⟩
  have hg := mo_nm (S := S) (S' := S1) (f := f) (t := t) (a := a) (x := x) (tv := tv) ha5 hvM hmr.2.2.1.1 hth hx ?_ r1 k20 k20a
  · exact mr_set (f' := (f.1, f.2.1, nmR f.2.2 a tv)) hmr hg rfl ⟨rg_name hrg ha5 (by rcases hx with ⟨-, y⟩ | ⟨b, y1, -, y3⟩; exact Or.inl y; exact Or.inr ⟨b, y1, y3⟩), hmr.2.1.1.1.2.1, hmr.2.1.1.1.2.2⟩ hmf (by rw [e81]) (by rw [e81]; exact dd.2.1) (by rw [e81]) (by rw [e81]) (by rw [e81]; exact dd.2.2.2.2.1) (by rw [e81]) (by rw [e81]) (by rw [e81]; exact hmr.2.2.2.2) ⟨hmr.2.1.2.2.2.1.1, hmr.2.1.2.2.2.1.2.1⟩ (Or.inl rfl)
  · by_cases q1 : S 220 (5 * t.length + a) = -1
    · exact Or.inl q1
    · right
      by_cases q2 : ∃ v, v < 5 ∧ S1 220 (5 * t.length + v) = S 220 (5 * t.length + a)
      · exact Or.inl q2
      · exact Or.inr (fun q3 => hnl ⟨q1, fun v hv2 y => q2 ⟨v, hv2, y⟩, q3.1, q3.2⟩)
theorem me_rn {S0 S S1 : mm_S} {n : Int} {f : Fr} {t : List Fr} {as dn ms : Int} {A : Int → Prop} {d0 : Int} (hmr : mrS S0 S n (f :: t, 0, as, dn, ms)) {a : Nat} {x : Int} (hS1 : S1 = up2 S 220 (5 * t.length + a) x) (hmf : mfR S0 S1) (h17 : S 217 t.length = (f.1.2.1 : Int)) : meS S0 (up2 (up2 (up2 S1 181 56 5) 181 57 (S 217 t.length)) 181 58 (f.2.1 : Int)) (5, (f.1.2.1 : Int), (f.2.1 : Int), as, dn, ms) := by
  have dd : S 181 45 = _ ∧ S 181 53 = as ∧ S 181 54 = dn ∧ S 181 55 = ms ∧ S 181 61 = 0 ∧ S 181 52 = n ∧ S 181 56 = -1 := hmr.2.2.2.1
  have r1 : ∀ b, b ≠ 220 → S1 b = S b := fun b hb => by rw [hS1, up2_row hb]
  have e : S 217 t.length = S1 217 t.length := by rw [r1 217 (by omega)]
  rw [e]
  exact me_up hmf rfl (by rw [← e]; exact h17.symm) rfl (by rw [r1 181 (by omega)]; exact dd.2.1) (by rw [r1 181 (by omega)]; exact dd.2.2.1) (by rw [r1 181 (by omega)]; exact dd.2.2.2.1)
set_option maxRecDepth 100000 in
/-- a VARIABLE is named anew -/
theorem m_nmd {sh : List mm_H} {L : mm_L} (hm : mdS sh) {S0 : mm_S} (hbW : mbW S0) {S : mm_S} {n : Int} {f : Fr} {t : List Fr} {as d0 ms : Int} (hmr : mrS S0 S n (f :: t, 0, as, d0 + 1, ms)) (hp : f.2.1 < mN S0 f.1.2.1) (hd0 : d0 ≤ 499) (hn6 : 0 ≤ n ∧ n ≤ 60) (has0 : as ≤ d0) {a : Nat} (ha5 : a < 5) {x tv : Int} (hx : (x = -1 ∧ tv = 0) ∨ ∃ b, b < 5 ∧ x = S 220 (5 * t.length + b) ∧ tv = f.2.2.1 b) (hwr : wrR S0 f.1 f.2.1 f.2.2 = ifP (lfR S0 f.2.2 a tv) 5 0) (hnc : ¬ (mSo S0 f.1.2.1 f.2.1 = 10 ∨ mSo S0 f.1.2.1 f.2.1 = 11)) (hnas : ¬ asR S0 f.1 f.2.1 f.2.2) (hnx : ∀ (y : Prop) [Decidable y], nxR S0 f.1 f.2.1 f.2.2 y = gtR S0 f.1.2.1 ((f.2.1 : Int) + 1) (nmR f.2.2 a tv)) : am_E eX10_runRename [.ref 181, .int (iI (t.length : Int)), .int (iI (f.2.1 : Int)), .int (iI (a : Int)), .int (iI x)] (mm sh S L) (fun r0 M' => r0 = none ∧ ∃ S', M' = mm sh S' L ∧ stQ S0 (ansA (L 181 51) n) n (f :: t, 0, as, d0, ms) S') := by
  obtain ⟨hbe, hW, hr6, ⟨hw, hn24, hn0, hNe, hNS⟩, ⟨h17, h18⟩, ⟨hpl, hN24⟩, hP, hrg, hk10, hd, hvM⟩ := mr_top hbW hmr
  have hr9 : (f.1.2.1 : Int) < S0 181 9 := hmr.2.1.1.2.1.2.1
  have hrw := hbW.2.2.2.2 f.1.2.1 hr9
  have hth : thM S (t.length + 1) := hmr.2.2.1.2
  have h500 := hth.1
  have dd : S 181 45 = _ ∧ S 181 53 = as ∧ S 181 54 = d0 + 1 ∧ S 181 55 = ms ∧ S 181 61 = 0 ∧ S 181 52 = n ∧ S 181 56 = -1 := hmr.2.2.2.1
  have h41 : S 181 41 ≤ d0 + 1 := hmr.2.2.2.2
  have hnr : ¬ ((0 : Int) = 1 ∨ f.2.1 = mN S0 f.1.2.1) := by omega
  have hd5 : d0 ≠ 500 := by omega
  have hmc := (mbW_C hbW).2.2.2 f.1.2.1 hr9
  have hR1 : ∀ v, v < 5 → 0 ≤ f.2.2.1 v := fun v hv2 => (hrg.1.1 v hv2).1
  obtain ⟨S1, hS1⟩ : ∃ S1, S1 = up2 S 220 (5 * t.length + a) x := ⟨_, rfl⟩
  obtain ⟨hconv, hmr1, hmf⟩ := mr_ren hbW hmr ha5 hx hS1
  have hnm : ∀ v, v < 5 → -1 ≤ S 220 (5 * t.length + v) ∧ S 220 (5 * t.length + v) < 500 := fun v hv2 => by have := (hmr.2.2.1.1.1.2.1.1 v hv2).1; omega
  have hTh : ∀ i : Nat, (i : Int) = S 220 (5 * t.length + a) → Rg (S 216 i) ∧ (0 ≤ S 214 i ∧ S 214 i < 6) ∧ (0 ≤ S 215 i ∧ S 215 i < 6) := fun i hi => by
    have b1 := (hmr.2.2.1.1.1.2.1.1 a ha5).1
    have b2 := hth.2.1 i (by omega)
    have b4 := hW.1.1
    have b3 := (hW.1.2.2.1 (S 214 i).toNat (by omega)).2.1
    exact ⟨by omega, by omega, by omega⟩
  have hxR : -1 ≤ x ∧ x < 500 := by
    rcases hx with ⟨y1, -⟩ | ⟨b, y1, y2, -⟩
    · omega
    · have := hnm b y1; omega
  have h9 := m_mren (L := L) (S := S) (S1 := S1) (f1 := (f.1, f.2.1, nmR f.2.2 a tv)) (t := t) (as := as) (dn := d0 + 1) (ms := ms) (n := n) (pl := f.2.1) hm hbW hW.1 rfl hk10 ha5 hxR hd hS1 hnm hTh (fun q => hmr1 q) (show (f.2.1 : Int) + 1 ≤ S0 189 f.1.2.1 by omega)
  refine h9.mono (fun r0 M' z => ?_)
  obtain ⟨z1, S9, z2, z3⟩ := z
  refine ⟨z1, S9, z2, ?_⟩
  rcases z3 with ⟨q1, rfl⟩ | ⟨q1, q2⟩
  · have hwe : wrR S0 f.1 f.2.1 f.2.2 = 5 := by rw [hwr, ifP_t (hconv.mp q1)]
    refine Or.inr ⟨_, ab_wr hnr hd5 (by rw [hwe]; decide), ?_⟩
    rw [hwe]
    exact me_rn (A := ansA (L 181 51) n) (d0 := d0) hmr hS1 hmf h17
  · have hw0 : wrR S0 f.1 f.2.1 f.2.2 = 0 := by rw [hwr, ifP_f (fun z => q1 (hconv.mpr z))]
    refine Or.inl ⟨_, ab_nx hnr hd5 hw0 hnc, ?_⟩
    rw [nx_y hnx, ifP_f hnas, Int.add_zero]
    exact q2
