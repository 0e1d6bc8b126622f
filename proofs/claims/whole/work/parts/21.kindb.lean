abbrev kdE (S : mm_S) (a : Nat) (s : Int) : Prop := S a 1 / 2 ^ s.toNat % 2 = 1
theorem div_pow_R {x : Int} {k : Nat} (hx : 0 ≤ x ∧ x < 2147483648) : 0 ≤ x / 2 ^ k ∧ x / 2 ^ k < 2147483648 := by
  have hp : (0 : Int) < 2 ^ k := Int.pow_pos (by decide)
  have h1 : 0 ≤ x / 2 ^ k := Int.ediv_nonneg hx.1 (by omega)
  have h2 : x / 2 ^ k ≤ x := Int.ediv_le_self _ hx.1
  omega
set_option maxRecDepth 100000 in
set_option maxHeartbeats 4000000 in
theorem c_isEnd {sh : List mm_H} {S : mm_S} {L : mm_L} {a : Nat} {s : Int} (hk : kdS sh a) (hv : kdV S a) (hs : 0 ≤ s ∧ s < 32) : am_E eX4_isEnd [.ref a, .int (iI s)] (mm sh S L) (fun r M' => r = some (.int (iI (b2 (kdE S a s)))) ∧ M' = mm sh S L) := by
  obtain ⟨hA, hB, hC⟩ := hk
  obtain ⟨v0, v1, v2, v3⟩ := hv
  refine am_enter rfl rfl (Nat.le_of_ble_eq_true rfl) ?_
  refine am_aload_n rfl dX4_isEnd_0 ?_
  refine mm_getI dX4_isEnd_1 fl_X4_15 hA rfl ?_
  refine am_iload_n rfl dX4_isEnd_4 ?_
  refine mm_ishr dX4_isEnd_5 (by omega) (by omega) ?_
  refine mm_iconst dX4_isEnd_6 ?_
  refine mm_iand1 dX4_isEnd_7 (div_pow_R (by omega)) ?_
  refine mm_zeq (tgt := 15) dX4_isEnd_8 (by decide) (by omega) (fun h8 => ?_) (fun h8 => ?_)
  · refine mm_iconst dX4_isEnd_15 ?_
    refine am_ireturn dX4_isEnd_16 rfl rfl ?_
    first | exact ⟨mm_rt (by unfold kdE; omega), rfl⟩ | exact ⟨mm_rf (by unfold kdE; omega), rfl⟩
  · refine mm_iconst dX4_isEnd_11 ?_
    refine am_goto (tgt := 16) dX4_isEnd_12 (by decide) ?_
    refine am_ireturn dX4_isEnd_16 rfl rfl ?_
    first | exact ⟨mm_rt (by unfold kdE; omega), rfl⟩ | exact ⟨mm_rf (by unfold kdE; omega), rfl⟩
set_option maxRecDepth 100000 in
set_option maxHeartbeats 4000000 in
theorem c_setUse {sh : List mm_H} {S : mm_S} {L : mm_L} {a : Nat} {s n : Int} (hk : kdS sh a) (hv : kdV S a) (hs : Rg s) (hn : Rg n) {y z : Int} (hu : kdU S a s n) : am_E eX4_setUse [.ref a, .int (iI s), .int (iI n), .int (iI y), .int (iI z)] (mm sh S L) (fun r M' => r = none ∧ M' = mm sh (up2 (up2 S (a + 1) (s * 8 + n).toNat y) (a + 2) (s * 8 + n).toNat z) L) := by
  obtain ⟨hA, hB, hC⟩ := hk
  obtain ⟨v0, v1, v2, v3⟩ := hv
  refine am_enter rfl rfl (Nat.le_of_ble_eq_true rfl) ?_
  refine am_aload_n rfl dX4_setUse_0 ?_
  refine am_iload_n rfl dX4_setUse_1 ?_
  refine am_iload_n rfl dX4_setUse_2 ?_
  refine am_ci (mm_V2 dX4_setUse_3 in_X4_isUseful mk_X4_37 im_X4_isUseful sl_X4_isUseful ⟨Nat.le_of_ble_eq_true rfl, Nat.le_of_ble_eq_true rfl⟩ rfl hA (Nat.le_of_ble_eq_true rfl)) (c_isUseful ⟨hA, hB, hC⟩ ⟨v0, v1, v2, v3⟩ hs hn) ?_
  refine mm_bne (tgt := 10) dX4_setUse_6 (by decide) (fun h6 => ?_) (fun h6 => ?_)
  · refine am_aload_n rfl dX4_setUse_10 ?_
    refine mm_getR dX4_setUse_11 fl_X4_18 hA rfl ?_
    refine am_iload_n rfl dX4_setUse_14 ?_
    refine mm_bipush dX4_setUse_15 (by decide) ?_
    refine mm_imul dX4_setUse_17 ?_
    refine am_iload_n rfl dX4_setUse_18 ?_
    refine mm_iadd dX4_setUse_19 ?_
    refine am_iload_n rfl dX4_setUse_20 ?_
    refine mm_ias dX4_setUse_21 hB (by omega) ?_
    refine am_aload_n rfl dX4_setUse_22 ?_
    refine mm_getR dX4_setUse_23 fl_X4_22 hA rfl ?_
    refine am_iload_n rfl dX4_setUse_26 ?_
    refine mm_bipush dX4_setUse_27 (by decide) ?_
    refine mm_imul dX4_setUse_29 ?_
    refine am_iload_n rfl dX4_setUse_30 ?_
    refine mm_iadd dX4_setUse_31 ?_
    refine am_iload rfl dX4_setUse_32 ?_
    refine mm_ias dX4_setUse_34 hC (by omega) ?_
    refine am_return dX4_setUse_35 rfl ?_
    exact ⟨rfl, rfl⟩
  · exact absurd hu h6
set_option maxRecDepth 100000 in
set_option maxHeartbeats 4000000 in
theorem c_kindBegin {sh : List mm_H} {S : mm_S} {L : mm_L} {a : Nat} {s e : Int} (hk : kdS sh a) : am_E eX4_begin [.ref a, .int (iI s), .int (iI e)] (mm sh S L) (fun r M' => r = none ∧ M' = mm sh (fillS (fillS (up2 (up2 S a 0 s) a 1 e) (a + 1) 48 (-1)) (a + 2) 48 (-1)) L) := by
  obtain ⟨hA, hB, hC⟩ := hk
  refine am_enter rfl rfl (Nat.le_of_ble_eq_true rfl) ?_
  refine am_aload_n rfl dX4_begin_0 ?_
  refine am_iload_n rfl dX4_begin_1 ?_
  refine mm_putI dX4_begin_2 fp_X4_9 hA rfl ?_
  refine am_aload_n rfl dX4_begin_5 ?_
  refine am_iload_n rfl dX4_begin_6 ?_
  refine mm_putI dX4_begin_7 fp_X4_15 hA rfl ?_
  refine am_aload_n rfl dX4_begin_10 ?_
  refine mm_getR dX4_begin_11 fl_X4_18 hA rfl ?_
  refine mm_iconst dX4_begin_14 ?_
  refine am_cv (mm_S2 dX4_begin_15 in_J7_fill_53178 mk_X4_25 st_J7_fill_53178 ⟨Nat.le_of_ble_eq_true rfl, Nat.le_of_ble_eq_true rfl⟩ (Nat.le_of_ble_eq_true rfl)) (c_fill hB (by decide)) ?_
  refine am_aload_n rfl dX4_begin_18 ?_
  refine mm_getR dX4_begin_19 fl_X4_22 hA rfl ?_
  refine mm_iconst dX4_begin_22 ?_
  refine am_cv (mm_S2 dX4_begin_23 in_J7_fill_53178 mk_X4_25 st_J7_fill_53178 ⟨Nat.le_of_ble_eq_true rfl, Nat.le_of_ble_eq_true rfl⟩ (Nat.le_of_ble_eq_true rfl)) (c_fill hC (by decide)) ?_
  refine am_return dX4_begin_26 rfl ?_
  exact ⟨rfl, rfl⟩
set_option maxRecDepth 100000 in
set_option maxHeartbeats 4000000 in
theorem c_inherit {sh : List mm_H} {S : mm_S} {L : mm_L} {a q : Nat} {m : Int} (hk : kdS sh a) (hq : kdS sh q) : am_E eX4_inherit [.ref a, .ref q, .int (iI m)] (mm sh S L) (fun r M' => r = none ∧ M' = mm sh (cpyS (cpyS (up2 (up2 S a 0 (S q 0 + m)) a 1 (up2 S a 0 (S q 0 + m) q 1)) (q + 1) (a + 1) 48) (q + 2) (a + 2) 48) L) := by
  obtain ⟨hA, hB, hC⟩ := hk
  obtain ⟨hA2, hB2, hC2⟩ := hq
  refine am_enter rfl rfl (Nat.le_of_ble_eq_true rfl) ?_
  refine am_aload_n rfl dX4_inherit_0 ?_
  refine am_aload_n rfl dX4_inherit_1 ?_
  refine mm_getI dX4_inherit_2 fl_X4_9 hA2 rfl ?_
  refine am_iload_n rfl dX4_inherit_5 ?_
  refine mm_iadd dX4_inherit_6 ?_
  refine mm_putI dX4_inherit_7 fp_X4_9 hA rfl ?_
  refine am_aload_n rfl dX4_inherit_10 ?_
  refine am_aload_n rfl dX4_inherit_11 ?_
  refine mm_getI dX4_inherit_12 fl_X4_15 hA2 rfl ?_
  refine mm_putI dX4_inherit_15 fp_X4_15 hA rfl ?_
  refine am_aload_n rfl dX4_inherit_18 ?_
  refine mm_getR dX4_inherit_19 fl_X4_18 hA2 rfl ?_
  refine mm_iconst dX4_inherit_22 ?_
  refine am_aload_n rfl dX4_inherit_23 ?_
  refine mm_getR dX4_inherit_24 fl_X4_18 hA rfl ?_
  refine mm_iconst dX4_inherit_27 ?_
  refine am_aload_n rfl dX4_inherit_28 ?_
  refine mm_getR dX4_inherit_29 fl_X4_18 hA rfl ?_
  refine mm_len0 dX4_inherit_32 hB ?_
  refine mm_copy0 dX4_inherit_33 mk_X4_31 hB2 hB (by omega) (Nat.le_of_ble_eq_true rfl) (Nat.le_of_ble_eq_true rfl) ?_
  refine am_aload_n rfl dX4_inherit_36 ?_
  refine mm_getR dX4_inherit_37 fl_X4_22 hA2 rfl ?_
  refine mm_iconst dX4_inherit_40 ?_
  refine am_aload_n rfl dX4_inherit_41 ?_
  refine mm_getR dX4_inherit_42 fl_X4_22 hA rfl ?_
  refine mm_iconst dX4_inherit_45 ?_
  refine am_aload_n rfl dX4_inherit_46 ?_
  refine mm_getR dX4_inherit_47 fl_X4_22 hA rfl ?_
  refine mm_len0 dX4_inherit_50 hC ?_
  refine mm_copy0 dX4_inherit_51 mk_X4_31 hC2 hC (by omega) (Nat.le_of_ble_eq_true rfl) (Nat.le_of_ble_eq_true rfl) ?_
  refine am_return dX4_inherit_54 rfl ?_
  exact ⟨rfl, rfl⟩
