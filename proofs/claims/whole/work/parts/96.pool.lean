/-! ===== the class's Pool: at 86; its rows p1 (scenes), p2 (callers), p3 (table) ===== -/
def plS (sh : List mm_H) (p1 p2 p3 n : Nat) : Prop := sh[86]? = some (.inr (5, [.inl false, .inr (some p1), .inr (some p2), .inr (some p3)])) ∧ sh[p1]? = some (.inl (1, n, fun _ => none)) ∧ sh[p2]? = some (.inl (0, n, fun _ => none)) ∧ sh[p3]? = some (.inl (0, 2 * n, fun _ => none))
/-- the rows lie beside all others -/
def plD (p1 p2 p3 n : Nat) : Prop := ((86 < p1 ∧ (p1 < 90 ∨ 222 < p1)) ∧ (86 < p2 ∧ (p2 < 90 ∨ 222 < p2)) ∧ (86 < p3 ∧ (p3 < 90 ∨ 222 < p3))) ∧ (p1 ≠ p2 ∧ p1 ≠ p3 ∧ p2 ≠ p3) ∧ ∃ k, k ≤ 11 ∧ n = 128 * 2 ^ k
theorem plD_n {p1 p2 p3 n : Nat} (h : plD p1 p2 p3 n) : 128 ≤ n ∧ n ≤ 262144 := by
  obtain ⟨-, -, k, hk, rfl⟩ := h
  have h1 := Nat.pow_le_pow_right (n := 2) (by decide) hk
  have h2 := Nat.two_pow_pos k
  omega
def h32 (z : Int64) : Nat := (z * lI (-7046029254386353131)).toBitVec.toNat / 2 ^ 32
theorem h32_eq (z : Int64) : ((z.toUInt64 >>> ((iI 32).toInt64.toUInt64 &&& Int64.toUInt64 63)).toInt64).toInt32 = iI ((z.toBitVec.toNat / 2 ^ 32 : Nat) : Int) := by
  have e : ((iI 32).toInt64.toUInt64 &&& Int64.toUInt64 63).toNat = 32 := by decide
  apply Int32.toBitVec_inj.mp
  apply BitVec.eq_of_toNat_eq
  have e2 : ((z.toUInt64 >>> ((iI 32).toInt64.toUInt64 &&& Int64.toUInt64 63)).toInt64).toInt32.toBitVec = ((z.toUInt64 >>> ((iI 32).toInt64.toUInt64 &&& Int64.toUInt64 63)).toBitVec).signExtend 32 := rfl
  rw [e2, BitVec.signExtend_eq_setWidth_of_le _ (by decide), BitVec.toNat_setWidth]
  have e3 : (z.toUInt64 >>> ((iI 32).toInt64.toUInt64 &&& Int64.toUInt64 63)).toBitVec.toNat = z.toBitVec.toNat / 2 ^ 32 := by
    show (z.toUInt64 >>> ((iI 32).toInt64.toUInt64 &&& Int64.toUInt64 63)).toNat = _
    rw [UInt64.toNat_shiftRight, e, Nat.shiftRight_eq_div_pow]
    rfl
  rw [e3]
  show _ = (BitVec.ofInt 32 ((z.toBitVec.toNat / 2 ^ 32 : Nat) : Int)).toNat
  rw [BitVec.toNat_ofInt]
  omega
/-- the pool's table is right -/
def plT (S : mm_S) (L : mm_L) (p1 p3 n N : Nat) : Prop := tbI (S p3) (2 * n) N (L p1) h32
theorem ix_0 {H n kp : Nat} (h : 2 * n = 2 ^ kp) : ((H : Nat) : Int) % 2 ^ kp = (((H + 0) % (2 * n) : Nat) : Int) := by
  rw [show ((2 : Int) ^ kp) = ((2 ^ kp : Nat) : Int) by push_cast; rfl, ← h, Nat.add_zero]
  exact (Int.natCast_emod H (2 * n)).symm
theorem ix_1 {H d n kp : Nat} (h : 2 * n = 2 ^ kp) (hn : 1 < 2 * n) : ((((H + d) % (2 * n) : Nat) : Int) + 1) % 2 ^ kp = (((H + (d + 1)) % (2 * n) : Nat) : Int) := by
  rw [show ((2 : Int) ^ kp) = ((2 ^ kp : Nat) : Int) by push_cast; rfl, ← h]
  have e1 := Nat.add_mod ((H + d) % (2 * n)) 1 (2 * n)
  have e2 := Nat.add_mod (H + d) 1 (2 * n)
  rw [Nat.mod_mod] at e1
  have e3 : (H + d + 1) % (2 * n) = ((H + d) % (2 * n) + 1) % (2 * n) := by rw [e2, ← e1]
  rw [show H + (d + 1) = H + d + 1 by omega, e3, Int.natCast_emod, Int.natCast_add]
  rfl
theorem pow2_len {p1 p2 p3 n : Nat} (h : plD p1 p2 p3 n) : ∃ k, k ≤ 19 ∧ 2 * n = 2 ^ k := by
  obtain ⟨-, -, k, hk, rfl⟩ := h
  refine ⟨k + 8, by omega, ?_⟩
  rw [Nat.pow_add]
  omega
set_option maxRecDepth 100000 in
set_option maxHeartbeats 4000000 in
theorem c_plClear {sh : List mm_H} {S : mm_S} {L : mm_L} {p1 p2 p3 n N : Nat} (hpl : plS sh p1 p2 p3 n) (hD : plD p1 p2 p3 n) : am_E eX5_clear [.ref 86] (mm sh S L) (fun r M' => r = none ∧ M' = mm sh (fillS (up2 S 86 0 0) p3 (2 * n) 0) L) := by
  refine am_enter rfl rfl (Nat.le_of_ble_eq_true rfl) ?_
  refine am_aload_n rfl dX5_clear_0 ?_
  refine mm_iconst dX5_clear_1 ?_
  refine mm_putI dX5_clear_2 fp_X5_9 hpl.1 rfl ?_
  refine am_aload_n rfl dX5_clear_5 ?_
  refine mm_getR dX5_clear_6 fl_X5_23 hpl.1 rfl ?_
  refine mm_iconst dX5_clear_9 ?_
  refine am_cv (mm_S2 dX5_clear_10 in_J7_fill_53178 mk_X5_26 st_J7_fill_53178 ⟨Nat.le_of_ble_eq_true rfl, Nat.le_of_ble_eq_true rfl⟩ (Nat.le_of_ble_eq_true rfl)) (c_fill hpl.2.2.2 (by have := plD_n hD; omega)) ?_
  refine am_return dX5_clear_13 rfl ?_
  exact ⟨rfl, rfl⟩
set_option maxRecDepth 100000 in
set_option maxHeartbeats 4000000 in
theorem l_find {sh : List mm_H} {S : mm_S} {L : mm_L} {p1 p2 p3 n N : Nat} (hpl : plS sh p1 p2 p3 n) (hD : plD p1 p2 p3 n) (hT : plT S L p1 p3 n N) (hN : N ≤ n) {z : Int64} {D : Nat} (hDD : D < 2 * n) (hD0 : S p3 ((h32 z + D) % (2 * n)) = 0) : ∀ (q : Nat) (d : Nat), D - d < q → (d ≤ D) → (∀ e, e < d → S p3 ((h32 z + e) % (2 * n)) ≠ 0 ∧ L p1 (S p3 ((h32 z + e) % (2 * n)) - 1).toNat ≠ z) → am_AW eX5_find (mm sh S L) 24 [some (.ref 86), some (.long z), none, some (.int (iI (2 * (n : Int) - 1))), some (.int (iI (((h32 z + d) % (2 * n) : Nat) : Int))), some (.int (iI (d : Int)))] [] (fun r0 M' => ∃ d : Nat, d < 2 * n ∧ r0 = some (.int (iI (((h32 z + d) % (2 * n) : Nat) : Int))) ∧ M' = mm sh S L ∧ (∀ e, e < d → S p3 ((h32 z + e) % (2 * n)) ≠ 0 ∧ L p1 (S p3 ((h32 z + e) % (2 * n)) - 1).toNat ≠ z) ∧ (S p3 ((h32 z + d) % (2 * n)) = 0 ∨ ∃ i : Nat, i < N ∧ S p3 ((h32 z + d) % (2 * n)) = (i : Int) + 1 ∧ L p1 i = z)) := by
  intro q
  induction q with
  | zero =>
    intro d hq
    exact absurd hq (Nat.not_lt_zero _)
  | succ q ih =>
    intro d hq hd hpath
    have hn := plD_n hD
    obtain ⟨kp, hk18, hkp⟩ := pow2_len hD
    have hTl : (h32 z + d) % (2 * n) < 2 * n := Nat.mod_lt _ (by omega)
    have hft := hT.2.1 _ hTl
    refine am_iload rfl dX5_find_24 ?_
    refine am_iload_n rfl dX5_find_26 ?_
    refine mm_jgt (tgt := 76) dX5_find_27 (by decide) (by omega) (by omega) (fun h27 => ?_) (fun h27 => ?_)
    · exfalso; omega
    · refine am_aload_n rfl dX5_find_30 ?_
      refine mm_getR dX5_find_31 fl_X5_23 hpl.1 rfl ?_
      refine am_iload rfl dX5_find_34 ?_
      refine mm_ial dX5_find_36 hpl.2.2.2 (by omega) ?_
      rw [Int.toNat_natCast]
      refine mm_zeq (tgt := 59) dX5_find_37 (by decide) (by omega) (fun h37 => ?_) (fun h37 => ?_)
      · refine am_iload rfl dX5_find_59 ?_
        refine am_ireturn dX5_find_61 rfl rfl ?_
        first
          | exact ⟨d, by omega, rfl, rfl, hpath, Or.inr ⟨i, by omega, hi, hz3.mp h56⟩⟩
          | exact ⟨d, by omega, rfl, rfl, hpath, Or.inl h37⟩
      · obtain ⟨i, hi⟩ : ∃ i : Nat, S p3 ((h32 z + d) % (2 * n)) = (i : Int) + 1 := ⟨(S p3 ((h32 z + d) % (2 * n)) - 1).toNat, by omega⟩
        have hdD : d < D := by
          by_cases e : d = D
          · rw [e] at h37; exact absurd hD0 h37
          · omega
        refine am_aload_n rfl dX5_find_40 ?_
        refine mm_getR dX5_find_41 fl_X5_15 hpl.1 rfl ?_
        refine am_aload_n rfl dX5_find_44 ?_
        refine mm_getR dX5_find_45 fl_X5_23 hpl.1 rfl ?_
        refine am_iload rfl dX5_find_48 ?_
        refine mm_ial dX5_find_50 hpl.2.2.2 (by omega) ?_
        rw [Int.toNat_natCast, hi]
        refine mm_iconst dX5_find_51 ?_
        refine mm_isub dX5_find_52 ?_
        rw [show ((i : Int) + 1 - 1) = (i : Int) by omega]
        refine mm_lal dX5_find_53 hpl.2.1 (by omega) ?_
        rw [Int.toNat_natCast]
        refine am_lload_n rfl dX5_find_54 ?_
        refine am_lcmp dX5_find_55 ?_
        obtain ⟨w, hz1, hz2, hz3⟩ := lcmp_z (L p1 i) z
        rw [hz1]
        refine mm_zne (tgt := 62) dX5_find_56 (by decide) (by omega) (fun h56 => ?_) (fun h56 => ?_)
        · refine am_iload rfl dX5_find_62 ?_
          refine mm_iconst dX5_find_64 ?_
          refine mm_iadd dX5_find_65 ?_
          refine am_iload_n rfl dX5_find_66 ?_
          refine mm_iandg kp dX5_find_67 (by rw [show ((2 : Int) ^ kp) = ((2 ^ kp : Nat) : Int) by push_cast; rfl, ← hkp]; omega) (by omega) ?_
          rw [ix_1 hkp (by omega)]
          refine am_ist4 dX5_find_68 (Nat.le_of_ble_eq_true rfl) (am_c1i _) ?_
          refine mm_inc5 dX5_find_70 (Nat.le_of_ble_eq_true rfl) (am_c1i _) ?_
          refine am_goto (tgt := 24) dX5_find_73 (by decide) ?_
          refine ih (d + 1) (by omega) (by omega) (fun e he => ?_)
          by_cases q : e = d
          · subst q
            refine ⟨h37, ?_⟩
            rw [hi, show ((i : Int) + 1 - 1).toNat = i by omega]
            exact fun z1 => h56 (hz3.mpr z1)
          · exact hpath e (by omega)
        · refine am_iload rfl dX5_find_59 ?_
          refine am_ireturn dX5_find_61 rfl rfl ?_
          first
            | exact ⟨d, by omega, rfl, rfl, hpath, Or.inr ⟨i, by omega, hi, hz3.mp h56⟩⟩
            | exact ⟨d, by omega, rfl, rfl, hpath, Or.inl h37⟩
set_option maxRecDepth 100000 in
set_option maxHeartbeats 4000000 in
theorem c_plFind {sh : List mm_H} {S : mm_S} {L : mm_L} {p1 p2 p3 n N : Nat} (hpl : plS sh p1 p2 p3 n) (hD : plD p1 p2 p3 n) (hT : plT S L p1 p3 n N) (hN : N ≤ n) {z : Int64} (hN2 : N < 2 * n) : am_E eX5_find [.ref 86, .long z] (mm sh S L) (fun r0 M' => ∃ d : Nat, d < 2 * n ∧ r0 = some (.int (iI (((h32 z + d) % (2 * n) : Nat) : Int))) ∧ M' = mm sh S L ∧ (∀ e, e < d → S p3 ((h32 z + e) % (2 * n)) ≠ 0 ∧ L p1 (S p3 ((h32 z + e) % (2 * n)) - 1).toNat ≠ z) ∧ (S p3 ((h32 z + d) % (2 * n)) = 0 ∨ ∃ i : Nat, i < N ∧ S p3 ((h32 z + d) % (2 * n)) = (i : Int) + 1 ∧ L p1 i = z)) := by
  have hn := plD_n hD
  obtain ⟨kp, hk18, hkp⟩ := pow2_len hD
  refine am_enter rfl rfl (Nat.le_of_ble_eq_true rfl) ?_
  refine am_aload_n rfl dX5_find_0 ?_
  refine mm_getR dX5_find_1 fl_X5_23 hpl.1 rfl ?_
  refine mm_len0 dX5_find_4 hpl.2.2.2 ?_
  rw [show ((2 * n : Nat) : Int) = 2 * (n : Int) by omega]
  refine mm_iconst dX5_find_5 ?_
  refine mm_isub dX5_find_6 ?_
  refine am_ist3 dX5_find_7 (Nat.le_of_ble_eq_true rfl) am_c1n ?_
  refine am_lload_n rfl dX5_find_8 ?_
  refine am_ldc2 cc_X5_36 dX5_find_9 ?_
  refine am_lmul dX5_find_12 ?_
  refine mm_bipush dX5_find_13 (by decide) ?_
  refine am_lushr dX5_find_15 ?_
  refine am_l2i dX5_find_16 ?_
  rw [h32_eq, show (z * lI (-7046029254386353131)).toBitVec.toNat / 2 ^ 32 = h32 z from rfl]
  refine am_iload_n rfl dX5_find_17 ?_
  refine mm_iandg kp dX5_find_18 (by rw [show ((2 : Int) ^ kp) = ((2 ^ kp : Nat) : Int) by push_cast; rfl, ← hkp]; omega) (by omega) ?_
  rw [ix_0 hkp]
  refine am_ist4 dX5_find_19 (Nat.le_of_ble_eq_true rfl) (am_c1i _) ?_
  refine mm_iconst dX5_find_21 ?_
  refine am_ist5 dX5_find_22 (Nat.le_of_ble_eq_true rfl) (am_c1i _) ?_
  obtain ⟨D, d1, d2⟩ := tb_open hT hN2 (h32 z)
  exact l_find hpl hD hT hN d1 d2 (D + 1) 0 (by omega) (by omega) (fun e he => absurd he (Nat.not_lt_zero e))
