/-! ===== a scene is taken up again ===== -/
theorem hwC_so {h : Int} (hh : 0 ≤ h ∧ h ≤ 2) : hwC (soC h) = h := by
  have : h = 0 ∨ h = 1 ∨ h = 2 := by omega
  rcases this with rfl | rfl | rfl <;> decide
theorem so_R {h : Int} (hh : 0 ≤ h ∧ h ≤ 2) : 0 ≤ soC h ∧ soC h ≤ 2 := by
  have : h = 0 ∨ h = 1 ∨ h = 2 := by omega
  rcases this with rfl | rfl | rfl <;> decide
set_option maxRecDepth 100000 in
set_option maxHeartbeats 4000000 in
theorem c_load {sh : List mm_H} {S : mm_S} {L : mm_L} {p1 p2 p3 n : Nat} (jh : jsH sh) (hpl : plS sh p1 p2 p3 n) (hD : plD p1 p2 p3 n) (hI : imC S L p1 p2 p3 n) {X : XT} {F : FT} {W : WT} (hS : SubC S L p1 X F W) {i c : Nat} {x : Int} {pl : Nat} {p : Int} (hen : enC S L p1 i c x pl p) (hit : itV S (keyC S c) pl (unM p)) : am_E eX3_load [.ref 85, .long (lI (x + (c : Int) * 1125899906842624))] (mm sh S L) (fun r0 M' => r0 = none ∧ ∃ S', M' = mm sh S' L ∧ scF S S' 94 ∧ simP S' 94 (keyC S c) pl (unM p)) := by
  have h40 := hI.2.2.1.1
  have hc := hen.1
  have hc40 : c < 40 := by omega
  have hcs := hI.2.2.1.2 c hc
  have hc1 := hcs.1
  have hxr := hen.2.2.1
  refine am_enter rfl rfl (Nat.le_of_ble_eq_true rfl) ?_
  refine am_aload_n rfl dX3_load_0 ?_
  refine mm_getR dX3_load_1 fl_X3_31 jh.1 rfl ?_
  refine am_lload_n rfl dX3_load_4 ?_
  refine am_ci (mm_S1 dX3_load_5 in_X8_caseIn mk_X3_114 st_X8_caseIn ⟨Nat.le_of_ble_eq_true rfl, Nat.le_of_ble_eq_true rfl⟩ (Nat.le_of_ble_eq_true rfl)) (c_caseIn (p := x + (c : Int) * 1125899906842624) (by omega)) ?_
  rw [show (x + (c : Int) * 1125899906842624) / 1125899906842624 % 64 = (c : Int) by omega]
  refine mm_aal dX3_load_8 (fun _ => rfl) jh.2.1 ⟨by omega, by omega, by omega⟩ (show caArr _ = some (98 + c) by rw [Int.toNat_natCast]; exact if_pos hc40) ?_
  refine am_ast3 dX3_load_9 (Nat.le_of_ble_eq_true rfl) am_c1n ?_
  refine am_aload_n rfl dX3_load_10 ?_
  refine mm_getR dX3_load_11 fl_X3_51 jh.1 rfl ?_
  refine am_aload_n rfl dX3_load_14 ?_
  refine mm_getI dX3_load_15 fl_X3_118 (jh.2.2.2.2.2.2.1 c hc40) rfl ?_
  refine am_aload_n rfl dX3_load_18 ?_
  refine mm_getI dX3_load_19 fl_X3_121 (jh.2.2.2.2.2.2.1 c hc40) rfl ?_
  refine am_aload_n rfl dX3_load_22 ?_
  refine mm_getI dX3_load_23 fl_X3_124 (jh.2.2.2.2.2.2.1 c hc40) rfl ?_
  refine am_aload_n rfl dX3_load_26 ?_
  refine mm_getI dX3_load_27 fl_X3_127 (jh.2.2.2.2.2.2.1 c hc40) rfl ?_
  refine am_cv (mm_V4 dX3_load_30 in_X8_begin mk_X3_93 im_X8_begin sl_X8_begin ⟨Nat.le_of_ble_eq_true rfl, Nat.le_of_ble_eq_true rfl⟩ rfl jh.2.2.2.2.2.1.1 (Nat.le_of_ble_eq_true rfl)) (c_scBegin jh.2.2.2.2.2.1 (by omega)) ?_
  refine am_aload_n rfl dX3_load_33 ?_
  refine mm_getR dX3_load_34 fl_X3_51 jh.1 rfl ?_
  refine am_lload_n rfl dX3_load_37 ?_
  refine am_cv (mm_V1 dX3_load_38 in_X8_unpack mk_X3_130 im_X8_unpack sl_X8_unpack ⟨Nat.le_of_ble_eq_true rfl, Nat.le_of_ble_eq_true rfl⟩ rfl jh.2.2.2.2.2.1.1 (Nat.le_of_ble_eq_true rfl)) (c_unpack jh.2.2.2.2.2.1 (p := x + (c : Int) * 1125899906842624) (by omega)) ?_
  refine am_return dX3_load_41 rfl ?_
  obtain ⟨S0, a0, u1, u2, u3, u4, u5, u6, u7⟩ := lnk_un hen.2.2.2
  have hld := ld_ok (S := S) (a := 94) (N := (c : Int)) (x := x + (c : Int) * 1125899906842624) u1 u2 (fun j hj => hI.2.2.2.2.2.2.2.2.2.2.2 j hj) (so_R hcs.1.2.1) (show (S (98 + c) 0).toNat < 6 by omega) (show 0 ≤ S (98 + c) 2 ∧ S (98 + c) 2 ≤ 5 by omega) (show 0 ≤ S (98 + c) 3 ∧ S (98 + c) 3 ≤ 6 by omega) (by omega) (by rw [u4])
  have hq : ldS S 94 (keyC S c) (x + (c : Int) * 1125899906842624) = unF (bgS S 94 (S (98 + c) 0) (S (98 + c) 1) (S (98 + c) 2) (S (98 + c) 3)) 94 (x + (c : Int) * 1125899906842624) 5 := by
    unfold ldS
    show unF (bgS S 94 (((S (98 + c) 0).toNat : Nat) : Int) (hwC (soC (S (98 + c) 1))) (S (98 + c) 2) (S (98 + c) 3)) 94 _ 5 = _
    rw [hwC_so hcs.1.2.1, show (((S (98 + c) 0).toNat : Nat) : Int) = S (98 + c) 0 by omega]
  rw [hq] at hld
  obtain ⟨v1, v2, v3, v4, v5⟩ := hld
  exact ⟨rfl, _, rfl, v5, v1, itV_of ⟨fun b _ _ => v5 b (by omega), by rw [v5 181 (by omega)], by rw [v5 181 (by omega)]⟩ hit, v2, v4.trans u3, v3⟩
