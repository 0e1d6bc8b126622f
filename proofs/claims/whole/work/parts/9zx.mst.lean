/-! ===== a STATEMENT of the reference's runs ===== -/
/-- what a VARIABLE named would be LEFT -/
def lfT (S S1 : mm_S) (k a : Nat) : Prop := S 220 (5 * k + a) ≠ -1 ∧ (∀ v, v < 5 → S1 220 (5 * k + v) ≠ S 220 (5 * k + a)) ∧ S 216 (S 220 (5 * k + a)).toNat = (k : Int) ∧ ¬ mE S (S 214 (S 220 (5 * k + a)).toNat) (S 215 (S 220 (5 * k + a)).toNat)
section
variable {S0 S S1 : mm_S} {n : Int} {f : Fr} {t : List Fr} {fl as dn ms : Int}
theorem lf_eq (hv : mdV S) (hp : plM S (f :: t) (-1)) (ht : thM S (t.length + 1)) (hR1 : ∀ v, v < 5 → 0 ≤ f.2.2.1 v) {a : Nat} (ha : a < 5) {tv : Int} (hnew : S 220 (5 * t.length + a) ≠ -1 → ∀ v, v < 5 → (S1 220 (5 * t.length + v) = S 220 (5 * t.length + a) ↔ ud f.2.2.1 a tv v = f.2.2.1 a)) : lfT S S1 t.length a ↔ lfR S f.2.2 a tv := by
  unfold lfT
  have a1 := hp.1.2.1.1
  have a3 := hp.1.2.1.2.2.1
  have h4 := ht.2.2.2.1 t.length (by omega)
  have hg := hR1 a ha
  obtain ⟨b1, b2, b3⟩ := a1 a ha
  have a3 := a3 a ha
  have h2 := ht.2.1
  have hk6 := hv.1
  have hs := hv.2.2.1
  clear a1 hp ht hv hR1
  generalize S 220 (5 * t.length + a) = x at *
  generalize hr : f.2.2.1 a = ra at *
  constructor
  · rintro ⟨q1, q2, q3, q4⟩
    obtain ⟨i, rfl⟩ : ∃ i : Nat, x = (i : Int) := ⟨x.toNat, by omega⟩
    rw [Int.toNat_natCast] at q3 q4
    have c2 := h2 i b1.2
    have hs6 := (hs (S 214 i).toNat (by omega)).2.1
    have n0 : ra ≠ 0 := fun z => q1 (b2.mp z)
    have n1 : ra ≠ 1 := fun z => by
      have y := b3.mp z
      obtain ⟨j, w3, w4, -⟩ := h4 y.1
      rw [← y.2, Int.toNat_natCast, q3] at w4
      omega
    have hra : 2 ≤ ra := by omega
    have c := (a3 hra).2 q1
    refine ⟨by rw [hr]; omega, fun v hv2 z => q2 v hv2 ((hnew q1 v hv2).mpr (by rw [hr] at z; exact z)), ?_⟩
    rw [hr, c]
    unfold cdT lfM
    rw [Int.toNat_natCast, if_pos q3]
    have e1 : (7 * S 214 i + S 215 i) / 7 = S 214 i := by omega
    have e2 : (7 * S 214 i + S 215 i) % 7 = S 215 i := by omega
    rw [e1, e2]
    exact ⟨by omega, q4⟩
  · rintro ⟨q1, q2, q3⟩
    rw [hr] at q1 q3
    have hra : 2 ≤ ra := by omega
    have hne : x ≠ -1 := fun z => by have := b2.mpr z; omega
    obtain ⟨i, rfl⟩ : ∃ i : Nat, x = (i : Int) := ⟨x.toNat, by omega⟩
    rw [Int.toNat_natCast]
    have c2 := h2 i b1.2
    have hs6 := (hs (S 214 i).toNat (by omega)).2.1
    have c := (a3 hra).2 hne
    rw [c] at q3
    unfold cdT lfM at q3
    rw [Int.toNat_natCast] at q3
    by_cases z : S 216 i = (t.length : Int)
    · rw [if_pos z] at q3
      have e1 : (7 * S 214 i + S 215 i) / 7 = S 214 i := by omega
      have e2 : (7 * S 214 i + S 215 i) % 7 = S 215 i := by omega
      rw [e1, e2] at q3
      exact ⟨hne, fun v hv2 y => q2 v hv2 (by rw [hr]; exact (hnew hne v hv2).mp y), z, q3.2⟩
    · rw [if_neg z] at q3
      exfalso
      have q5 := q3.1
      omega
end
def stQ (S0 : mm_S) (A : Int → Prop) (n : Int) (s : aSt) (S' : mm_S) : Prop := (∃ s', abStep S0 A s = .inl s' ∧ mrS S0 S' n s') ∨ ∃ e, abStep S0 A s = .inr e ∧ meS S0 S' e
theorem nx_y {S0 : mm_S} {A : Int → Prop} {f : Fr} {as : Int} {Z : Int × Int × rgT} (h : ∀ (y : Prop) [Decidable y], nxR S0 f.1 f.2.1 f.2.2 y = Z) : nyR S0 A f as = Z := by unfold nyR; exact @h _ (Classical.propDecidable _)
set_option maxRecDepth 100000 in
set_option maxHeartbeats 200000 in
theorem l_stM {sh : List mm_H} {L : mm_L} (hm : mdS sh) {S0 : mm_S} (hbW : mbW S0) {S : mm_S} {n : Int} {f : Fr} {t : List Fr} {as d0 ms : Int} (hmr : mrS S0 S n (f :: t, 0, as, d0 + 1, ms)) (hp : f.2.1 < mN S0 f.1.2.1) (hd0 : d0 ≤ 499) (hn6 : 0 ≤ n ∧ n ≤ 60) (has0 : as ≤ d0) (h0 : mSo S0 f.1.2.1 f.2.1 = 0) {a : Nat} (haA : mAa S0 f.1.2.1 f.2.1 = (a : Int)) (ha5 : a < 5) (hkB : 0 ≤ mBb S0 f.1.2.1 f.2.1 ∧ mBb S0 f.1.2.1 f.2.1 < S0 181 0) {l3 : Option Value} (h41 : S 181 41 ≤ d0) : am_AW eX10_runStatement (mm sh S L) 120 [some (.ref 181), some (.int (iI (t.length : Int))), some (.int (iI (f.2.1 : Int))), l3, some (.int (iI (a : Int))), some (.int (iI (mBb S0 f.1.2.1 f.2.1)))] [] (fun r0 M' => r0 = none ∧ ∃ S', M' = mm sh S' L ∧ stQ S0 (ansA (L 181 51) n) n (f :: t, 0, as, d0, ms) S') := by
  obtain ⟨hbe, hW, hr6, ⟨hw, hn24, hn0, hNe, hNS⟩, ⟨h17, h18⟩, ⟨hpl, hN24⟩, hP, hrg, hk10, hd, hvM⟩ := mr_top hbW hmr
  have hr9 : (f.1.2.1 : Int) < S0 181 9 := hmr.2.1.1.2.1.2.1
  have hrw := hbW.2.2.2.2 f.1.2.1 hr9
  have hth : thM S (t.length + 1) := hmr.2.2.1.2
  have h500 := hth.1
  have dd : S 181 45 = _ ∧ S 181 53 = as ∧ S 181 54 = d0 + 1 ∧ S 181 55 = ms ∧ S 181 61 = 0 ∧ S 181 52 = n ∧ S 181 56 = -1 := hmr.2.2.2.1
  have hnr : ¬ ((0 : Int) = 1 ∨ f.2.1 = mN S0 f.1.2.1) := by omega
  have hd5 : d0 ≠ 500 := by omega
  have hmc := (mbW_C hbW).2.2.2 f.1.2.1 hr9
  have hR1 : ∀ v, v < 5 → 0 ≤ f.2.2.1 v := fun v hv2 => (hrg.1.1 v hv2).1
  obtain ⟨T, hT⟩ : ∃ T : Nat, S 181 41 = (T : Int) := ⟨(S 181 41).toNat, by omega⟩
  have hk6 := hbW.1.1
  have hkP : 0 < S0 182 (mBb S0 f.1.2.1 f.2.1).toNat := (hbW.2.1 (mBb S0 f.1.2.1 f.2.1).toNat (by omega)).2
  have hto1 : (f.2.1 : Int) + 1 ≤ S0 189 f.1.2.1 := by omega
  have hwr : wrR S0 f.1 f.2.1 f.2.2 = ifP (lfR S0 f.2.2 a 0) 5 0 := by
    unfold wrR
    rw [if_neg (by omega), if_neg (by omega), if_pos (Or.inl h0), haA, Int.toNat_natCast]
  have hnas : ¬ asR S0 f.1 f.2.1 f.2.2 := fun q => by rcases q with q | q <;> omega
  refine am_aload_n rfl dX10_runStatement_120 ?_
  refine mm_getR dX10_runStatement_121 fl_X10_114 (md_0 hm) mdf_42 ?_
  refine am_aload_n rfl dX10_runStatement_124 ?_
  refine mm_getI dX10_runStatement_125 fl_X10_358 (md_0 hm) mdf_41 ?_
  rw [hT]
  refine am_iload rfl dX10_runStatement_128 ?_
  refine mm_ias dX10_runStatement_130 (md_thingKind hm) (by omega) ?_
  rw [Int.toNat_natCast]
  refine am_aload_n rfl dX10_runStatement_131 ?_
  refine mm_getR dX10_runStatement_132 fl_X10_117 (md_0 hm) mdf_43 ?_
  refine am_aload_n rfl dX10_runStatement_135 ?_
  refine mm_getI dX10_runStatement_136 fl_X10_358 (md_0 hm) mdf_41 ?_
  rw [up2_rd (by omega), hT]
  refine mm_iconst dX10_runStatement_139 ?_
  refine mm_ias dX10_runStatement_140 (md_thingState hm) (by omega) ?_
  rw [Int.toNat_natCast]
  refine am_aload_n rfl dX10_runStatement_141 ?_
  refine mm_getR dX10_runStatement_142 fl_X10_120 (md_0 hm) mdf_44 ?_
  refine am_aload_n rfl dX10_runStatement_145 ?_
  refine mm_getI dX10_runStatement_146 fl_X10_358 (md_0 hm) mdf_41 ?_
  rw [up2_rd (by omega), up2_rd (by omega), hT]
  refine am_iload_n rfl dX10_runStatement_149 ?_
  refine mm_ias dX10_runStatement_150 (md_thingOf hm) (by omega) ?_
  rw [Int.toNat_natCast]
  refine am_aload_n rfl dX10_runStatement_151 ?_
  refine am_dup rfl dX10_runStatement_152 ?_
  refine mm_getI dX10_runStatement_153 fl_X10_358 (md_0 hm) mdf_41 ?_
  rw [up2_rd (by omega), up2_rd (by omega), up2_rd (by omega), hT]
  refine mm_iconst dX10_runStatement_156 ?_
  refine mm_iadd dX10_runStatement_157 ?_
  refine mm_putI dX10_runStatement_158 fp_X10_358 (md_0 hm) mdf_41 ?_
  obtain ⟨S4, hS4⟩ : ∃ S4, up2 (up2 (up2 (up2 S 214 T (mBb S0 f.1.2.1 f.2.1)) 215 T 0) 216 T (t.length : Int)) 181 41 ((T : Int) + 1) = S4 := ⟨_, rfl⟩
  have r4 : ∀ b, b ≠ 214 → b ≠ 215 → b ≠ 216 → b ≠ 181 → S4 b = S b := fun b y1 y2 y3 y4 => by rw [← hS4, up2_row y4, up2_row y3, up2_row y2, up2_row y1]
  have c4 : ∀ j, j ≠ 41 → S4 181 j = S 181 j := fun j hj => by rw [← hS4, up2_rc hj, up2_rd (by omega), up2_rd (by omega), up2_rd (by omega)]
  have c41 : S4 181 41 = (T : Int) + 1 := by rw [← hS4, up2_same]
  have k14 : ∀ i, i ≠ T → S4 214 i = S 214 i := fun i hi => by rw [← hS4, up2_rd (by omega), up2_rd (by omega), up2_rd (by omega), up2_rc hi]
  have k14T : S4 214 T = mBb S0 f.1.2.1 f.2.1 := by rw [← hS4, up2_rd (by omega), up2_rd (by omega), up2_rd (by omega), up2_same]
  have k15 : ∀ i, i ≠ T → S4 215 i = S 215 i := fun i hi => by rw [← hS4, up2_rd (by omega), up2_rd (by omega), up2_rc hi, up2_rd (by omega)]
  have k15T : S4 215 T = 0 := by rw [← hS4, up2_rd (by omega), up2_rd (by omega), up2_same]
  have k16 : ∀ i, i ≠ T → S4 216 i = S 216 i := fun i hi => by rw [← hS4, up2_rd (by omega), up2_rc hi, up2_rd (by omega), up2_rd (by omega)]
  have k16T : S4 216 T = (t.length : Int) := by rw [← hS4, up2_rd (by omega), up2_same]
  rw [hS4]
  clear hS4
  have e20 := r4 220 (by omega) (by omega) (by omega) (by omega)
  obtain ⟨S5, hS5⟩ : ∃ S5, S5 = up2 S4 220 (5 * t.length + a) (T : Int) := ⟨_, rfl⟩
  have r5 : ∀ b, b ≠ 220 → S5 b = S4 b := fun b hb => by rw [hS5, up2_row hb]
  have k20 : ∀ i, i ≠ 5 * t.length + a → S5 220 i = S 220 i := fun i hi => by rw [hS5, up2_rc hi, e20]
  have k20a : S5 220 (5 * t.length + a) = (T : Int) := by rw [hS5, up2_same]
  have hnm : ∀ v, v < 5 → -1 ≤ S 220 (5 * t.length + v) ∧ S 220 (5 * t.length + v) < (T : Int) := fun v hv2 => by have := (hmr.2.2.1.1.1.2.1.1 v hv2).1; omega
  have hha := hnm a ha5
  have hlf := lf_eq (S1 := S5) (tv := 0) hW.1 hmr.2.2.1.1 hth hR1 ha5 (fun hne v hv2 => by
    by_cases z : v = a
    · subst z
      rw [k20a, ud_same]
      have := (hmr.2.2.1.1.1.2.1.1 v hv2).2.1
      constructor
      · intro q; omega
      · intro q; exact absurd (this.mp q.symm) hne
    · rw [k20 _ (by omega), ud_ne z]
      exact ((hmr.2.2.1.1.1.2.1.2.1 v a hv2 ha5)).symm)
  have hmE : ∀ p q, mE S4 p q ↔ mE S p q := fun p q => by unfold mE; rw [r4 183 (by omega) (by omega) (by omega) (by omega)]
  have hconv : lfT S4 S5 t.length a ↔ lfR S0 f.2.2 a 0 := by
    unfold lfT
    unfold lfT at hlf
    rw [e20]
    by_cases hne : S 220 (5 * t.length + a) = -1
    · constructor
      · intro q; exact absurd hne q.1
      · intro q; exfalso; have := (hmr.2.2.1.1.1.2.1.1 a ha5).2.1.mpr hne; have := q.1; omega
    · have hnT : (S 220 (5 * t.length + a)).toNat ≠ T := by omega
      rw [k16 _ hnT, k14 _ hnT, k15 _ hnT, hmE, ← bk_lfR hbe]
      exact hlf
  have hmf5 : mfR S0 S5 := ⟨fun b y1 y2 => by rw [r5 b (by omega), r4 b (by omega) (by omega) (by omega) y2]; exact hmr.1.1 b y1 y2, fun j hj => by rw [r5 181 (by omega), c4 j (by omega)]; exact hmr.1.2 j hj⟩
  have hmr1 : ¬ lfT S4 S5 t.length a → mrS S0 S5 n ((f.1, f.2.1, mkR f.2.2 a (mBb S0 f.1.2.1 f.2.1)) :: t, 0, as, d0 + 1, ms) := fun hnl => by
    have hnl2 : ¬ lfR S f.2.2 a 0 := fun q => hnl (hconv.mpr (by rw [← bk_lfR hbe]; exact q))
    have hg := mo_mk (S := S) (S' := S5) (f := f) (t := t) (a := a) (b := mBb S0 f.1.2.1 f.2.1) ha5 (by rw [hbe.2.1]; exact hkB) (by rw [hbe.1 182 (by omega) (by omega)]; exact hkP) hvM hmr.2.2.1.1 hth (by omega) (fun v hv2 => (hrg.1.1 v hv2).2) ?_ (fun b y1 y2 y3 y4 y5 => by rw [r5 b y1, r4 b y2 y3 y4 y5]) (fun j hj => by rw [r5 181 (by omega), c4 j hj]) (by rw [r5 181 (by omega), c41, hT]) (fun i hi => by rw [r5 214 (by omega)]; exact k14 i (by omega)) (fun i hi => by rw [r5 215 (by omega)]; exact k15 i (by omega)) (fun i hi => by rw [r5 216 (by omega)]; exact k16 i (by omega)) (by rw [r5 214 (by omega), hT, Int.toNat_natCast]; exact k14T) (by rw [r5 215 (by omega), hT, Int.toNat_natCast]; exact k15T) (by rw [r5 216 (by omega), hT, Int.toNat_natCast]; exact k16T) k20 (by rw [k20a, hT])
    · have ec5 : ∀ j, j ≠ 41 → S5 181 j = S 181 j := fun j hj => by rw [r5 181 (by omega), c4 j hj]
      refine mr_set (f' := (f.1, f.2.1, mkR f.2.2 a (mBb S0 f.1.2.1 f.2.1))) hmr hg rfl ⟨rg_make hbW.1 hbW.2.1 hrg ha5 hkB, hmr.2.1.1.1.2.1, hmr.2.1.1.1.2.2⟩ hmf5 (ec5 45 (by omega)) (by rw [ec5 53 (by omega)]; exact dd.2.1) (ec5 54 (by omega)) (ec5 55 (by omega)) (by rw [ec5 61 (by omega)]; exact dd.2.2.2.2.1) (ec5 52 (by omega)) (ec5 56 (by omega)) (by rw [r5 181 (by omega), c41]; omega) ⟨hmr.2.1.2.2.2.1.1, by omega⟩ (Or.inl rfl)
    · by_cases q1 : S 220 (5 * t.length + a) = -1
      · exact Or.inl q1
      · right
        by_cases q2 : ∃ v, v < 5 ∧ S5 220 (5 * t.length + v) = S 220 (5 * t.length + a)
        · exact Or.inl q2
        · exact Or.inr (fun q3 => hnl2 (hlf.mp ⟨q1, fun v hv2 y => q2 ⟨v, hv2, y⟩, q3.1, q3.2⟩))
  refine am_aload_n rfl dX10_runStatement_161 ?_
  refine am_iload_n rfl dX10_runStatement_162 ?_
  refine am_iload_n rfl dX10_runStatement_163 ?_
  refine am_iload rfl dX10_runStatement_164 ?_
  refine am_aload_n rfl dX10_runStatement_166 ?_
  refine mm_getI dX10_runStatement_167 fl_X10_358 (md_0 hm) mdf_41 ?_
  rw [c41]
  refine mm_iconst dX10_runStatement_170 ?_
  refine mm_isub dX10_runStatement_171 ?_
  rw [show (T : Int) + 1 - 1 = (T : Int) by omega]
  have hTh : ∀ i : Nat, (i : Int) = S4 220 (5 * t.length + a) → Rg (S4 216 i) ∧ (0 ≤ S4 214 i ∧ S4 214 i < 6) ∧ (0 ≤ S4 215 i ∧ S4 215 i < 6) := fun i hi => by
    rw [e20] at hi
    have hiT : i ≠ T := by omega
    rw [k16 i hiT, k14 i hiT, k15 i hiT]
    have b2 := hth.2.1 i (by omega)
    have b4 := hW.1.1
    have b3 := (hW.1.2.2.1 (S 214 i).toNat (by omega)).2.1
    exact ⟨by omega, by omega, by omega⟩
  refine am_cxv (mm_V4 dX10_runStatement_172 in_X10_runRename mk_X10_389 im_X10_runRename sl_X10_runRename ⟨Nat.le_of_ble_eq_true rfl, Nat.le_of_ble_eq_true rfl⟩ rfl (md_0 hm) (Nat.le_of_ble_eq_true rfl)) (m_mren (S := S4) (S1 := S5) (f1 := (f.1, f.2.1, mkR f.2.2 a (mBb S0 f.1.2.1 f.2.1))) (t := t) (as := as) (dn := d0 + 1) (ms := ms) (n := n) (pl := f.2.1) hm hbW (mdV_of ⟨fun b y1 y2 => by rw [r4 b (by omega) (by omega) (by omega) (by omega)], c4 0 (by omega), c4 9 (by omega)⟩ hW.1) rfl hk10 ha5 (by omega) (by rw [c4 45 (by omega)]; exact hd) hS5 (fun v hv2 => by have := hnm v hv2; rw [e20]; omega) hTh (fun q => hmr1 q) hto1) (fun M1 hq2 => ?_)
  obtain ⟨S9, rfl, hv9⟩ := hq2
  refine am_goto (tgt := 349) dX10_runStatement_175 (by decide) ?_
  refine am_return dX10_runStatement_349 rfl ?_
  refine ⟨rfl, S9, rfl, ?_⟩
  rcases hv9 with ⟨q1, rfl⟩ | ⟨q1, q2⟩
  · have hwe : wrR S0 f.1 f.2.1 f.2.2 = 5 := by rw [hwr, ifP_t (hconv.mp q1)]
    refine Or.inr ⟨_, ab_wr hnr hd5 (by omega), ?_⟩
    rw [hwe, r4 217 (by omega) (by omega) (by omega) (by omega), ← r4 217 (by omega) (by omega) (by omega) (by omega), ← r5 217 (by omega)]
    exact me_up hmf5 rfl (by rw [r5 217 (by omega), r4 217 (by omega) (by omega) (by omega) (by omega)]; exact h17.symm) rfl (by rw [r5 181 (by omega), c4 53 (by omega)]; exact dd.2.1) (by rw [r5 181 (by omega), c4 54 (by omega)]; exact dd.2.2.1) (by rw [r5 181 (by omega), c4 55 (by omega)]; exact dd.2.2.2.1)
  · have hw0 : wrR S0 f.1 f.2.1 f.2.2 = 0 := by rw [hwr, ifP_f (fun z => q1 (hconv.mpr z))]
    refine Or.inl ⟨_, ab_nx hnr hd5 hw0 (by omega), ?_⟩
    rw [nx_y (Z := gtR S0 f.1.2.1 ((f.2.1 : Int) + 1) (mkR f.2.2 a (mBb S0 f.1.2.1 f.2.1))) (fun y _ => by unfold nxR; rw [if_pos h0, haA, Int.toNat_natCast]), ifP_f hnas, Int.add_zero]
    exact q2
