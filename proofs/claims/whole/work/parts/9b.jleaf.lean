/-! ===== leaves of the class's judge ===== -/
set_option maxRecDepth 100000 in
set_option maxHeartbeats 4000000 in
theorem c_caseCode {M : am_M} {r h k s : Int} : am_E eX9_caseCode [.int (iI r), .int (iI h), .int (iI k), .int (iI s)] M (fun r0 M' => r0 = some (.int (iI (((h * 6 + r) * 6 + k) * 6 + s))) ∧ M' = M) := by
  refine am_enter rfl rfl (Nat.le_of_ble_eq_true rfl) ?_
  refine am_iload_n rfl dX9_caseCode_0 ?_
  refine mm_bipush dX9_caseCode_1 (by decide) ?_
  refine mm_imul dX9_caseCode_3 ?_
  refine am_iload_n rfl dX9_caseCode_4 ?_
  refine mm_iadd dX9_caseCode_5 ?_
  refine mm_bipush dX9_caseCode_6 (by decide) ?_
  refine mm_imul dX9_caseCode_8 ?_
  refine am_iload_n rfl dX9_caseCode_9 ?_
  refine mm_iadd dX9_caseCode_10 ?_
  refine mm_bipush dX9_caseCode_11 (by decide) ?_
  refine mm_imul dX9_caseCode_13 ?_
  refine am_iload_n rfl dX9_caseCode_14 ?_
  refine mm_iadd dX9_caseCode_15 ?_
  refine am_ireturn dX9_caseCode_16 rfl rfl ?_
  exact ⟨rfl, rfl⟩
/-- a CASE begins -/
def caS (S : mm_S) (a : Nat) (r h k s : Int) : mm_S := up2 (up2 (up2 (up2 (up2 (up2 (up2 S a 0 r) a 1 h) a 2 k) a 3 s) a 4 0) a 5 0) a 6 (-1)
theorem caS_rd {S : mm_S} {a : Nat} {r h k s : Int} : (∀ b, b ≠ a → caS S a r h k s b = S b) ∧ caS S a r h k s a 0 = r ∧ caS S a r h k s a 1 = h ∧ caS S a r h k s a 2 = k ∧ caS S a r h k s a 3 = s ∧ caS S a r h k s a 4 = 0 ∧ caS S a r h k s a 5 = 0 ∧ caS S a r h k s a 6 = -1 := by
  unfold caS
  refine ⟨fun b hb => by simp only [up2_row hb], ?_, ?_, ?_, ?_, ?_, ?_, ?_⟩ <;> simp (disch := omega) only [up2_rc, up2_same]
set_option maxRecDepth 100000 in
set_option maxHeartbeats 4000000 in
theorem c_caBegin {sh : List mm_H} {S : mm_S} {L : mm_L} {a : Nat} (ha : sh[a]? = some (.inr (1, csFd))) {r h k s : Int} : am_E eX1_begin [.ref a, .int (iI r), .int (iI h), .int (iI k), .int (iI s)] (mm sh S L) (fun r0 M' => r0 = none ∧ M' = mm sh (caS S a r h k s) L) := by
  refine am_enter rfl rfl (Nat.le_of_ble_eq_true rfl) ?_
  refine am_aload_n rfl dX1_begin_0 ?_
  refine am_iload_n rfl dX1_begin_1 ?_
  refine mm_putI dX1_begin_2 fp_X1_9 ha rfl ?_
  refine am_aload_n rfl dX1_begin_5 ?_
  refine am_iload_n rfl dX1_begin_6 ?_
  refine mm_putI dX1_begin_7 fp_X1_15 ha rfl ?_
  refine am_aload_n rfl dX1_begin_10 ?_
  refine am_iload_n rfl dX1_begin_11 ?_
  refine mm_putI dX1_begin_12 fp_X1_18 ha rfl ?_
  refine am_aload_n rfl dX1_begin_15 ?_
  refine am_iload rfl dX1_begin_16 ?_
  refine mm_putI dX1_begin_18 fp_X1_21 ha rfl ?_
  refine am_aload_n rfl dX1_begin_21 ?_
  refine mm_iconst dX1_begin_22 ?_
  refine mm_putI dX1_begin_23 fp_X1_24 ha rfl ?_
  refine am_aload_n rfl dX1_begin_26 ?_
  refine mm_iconst dX1_begin_27 ?_
  refine mm_putI dX1_begin_28 fp_X1_27 ha rfl ?_
  refine am_aload_n rfl dX1_begin_31 ?_
  refine mm_iconst dX1_begin_32 ?_
  refine mm_putI dX1_begin_33 fp_X1_30 ha rfl ?_
  refine am_return dX1_begin_36 rfl ?_
  exact ⟨rfl, rfl⟩
set_option maxRecDepth 100000 in
set_option maxHeartbeats 4000000 in
theorem c_addWrong {sh : List mm_H} {S : mm_S} {L : mm_L} {p1 p2 p3 n : Nat} (jh : jsH sh) (hpl : plS sh p1 p2 p3 n) (hD : plD p1 p2 p3 n) (hI : imC S L p1 p2 p3 n) {X : XT} {F : FT} {W : WT} (hS : SubC S L p1 X F W) {r pl : Nat} (hr : r < 6) (hp : pl < 25) {w : Int} (hw : 0 < w ∧ w < 6) (hW : W r pl w) : am_E eX3_addWrong [.ref 85, .int (iI (r : Int)), .int (iI (pl : Int)), .int (iI w)] (mm sh S L) (fun r0 M' => r0 = none ∧ ∃ S', M' = mm sh S' L ∧ poC sh S L p1 p2 n X F W sh S' L p1 p2 p3 n ∧ S' 86 0 = S 86 0 ∧ WC S' r pl w) := by
  refine am_enter rfl rfl (Nat.le_of_ble_eq_true rfl) ?_
  refine am_iload_n rfl dX3_addWrong_0 ?_
  refine mm_bipush dX3_addWrong_1 (by decide) ?_
  refine mm_imul dX3_addWrong_3 ?_
  refine am_iload_n rfl dX3_addWrong_4 ?_
  refine mm_iadd dX3_addWrong_5 ?_
  rw [show ((r : Int) * 25 + (pl : Int)) = ((25 * r + pl : Nat) : Int) by omega]
  have hx := hI.2.2.2.2.1.1 (25 * r + pl) (by omega)
  refine am_ist4 dX3_addWrong_6 (Nat.le_of_ble_eq_true rfl) (am_c1i _) ?_
  refine am_aload_n rfl dX3_addWrong_8 ?_
  refine mm_getR dX3_addWrong_9 fl_X3_39 jh.1 rfl ?_
  refine am_iload rfl dX3_addWrong_12 ?_
  refine mm_ial dX3_addWrong_14 jh.2.2.2.1 (by omega) ?_
  rw [Int.toNat_natCast]
  refine am_iload_n rfl dX3_addWrong_15 ?_
  refine mm_ishr dX3_addWrong_16 (by omega) (by omega) ?_
  refine mm_iconst dX3_addWrong_17 ?_
  refine mm_iand1 dX3_addWrong_18 (div_pow_R (by omega)) ?_
  refine mm_zeq (tgt := 23) dX3_addWrong_19 (by decide) (by omega) (fun h19 => ?_) (fun h19 => ?_)
  · refine am_aload_n rfl dX3_addWrong_23 ?_
    refine mm_getR dX3_addWrong_24 fl_X3_39 jh.1 rfl ?_
    refine am_iload rfl dX3_addWrong_27 ?_
    refine am_dup2_11 rfl rfl dX3_addWrong_29 ?_
    refine mm_ial dX3_addWrong_30 jh.2.2.2.1 (by omega) ?_
    rw [Int.toNat_natCast]
    refine mm_iconst dX3_addWrong_31 ?_
    refine am_iload_n rfl dX3_addWrong_32 ?_
    refine mm_ishl dX3_addWrong_33 ⟨by omega, by have := (pow2_6 hw); omega⟩ (by omega) ?_
    refine mm_ior dX3_addWrong_34 (by omega) ⟨by have := (pow2_6 hw); omega, by have := (pow2_6 hw); omega⟩ ?_
    rw [or_orB]
    refine mm_ias dX3_addWrong_35 jh.2.2.2.1 (by omega) ?_
    rw [Int.toNat_natCast]
    refine am_aload_n rfl dX3_addWrong_36 ?_
    refine am_dup rfl dX3_addWrong_37 ?_
    refine mm_getI dX3_addWrong_38 fl_X3_19 jh.1 rfl ?_
    rw [up2_rd (show 85 ≠ 92 by omega)]
    refine mm_iconst dX3_addWrong_41 ?_
    refine mm_iadd dX3_addWrong_42 ?_
    refine mm_putI dX3_addWrong_43 fp_X3_19 jh.1 rfl ?_
    refine am_return dX3_addWrong_46 rfl ?_
    have key := po_wr hpl hD hI hS hr hp hw hW (fun z => by unfold bt at z; omega)
    exact ⟨rfl, _, rfl, key.1, by rw [up2_rd (by omega), up2_rd (by omega)], key.2⟩
  · refine am_return dX3_addWrong_22 rfl ?_
    exact ⟨rfl, S, rfl, po_rf hpl hD hI hS, rfl, hr, hp, by rcases bt_dec (S 92 (25 * r + pl)) w.toNat with z | z; exact z; omega⟩
