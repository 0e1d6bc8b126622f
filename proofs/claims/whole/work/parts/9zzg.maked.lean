theorem bkB_len (a : Nat) : (bkB a).length = 81 := by
  unfold bkB
  simp only [List.length_append, List.length_cons, blks_len (f := kdB) (n0 := a + 3) (w := 3) (fun _ => rfl) 6, blks_len (f := rtB) (n0 := a + 21) (w := 10) (fun _ => rfl) 6]
theorem ftB_len (a : Nat) : (ftB a).length = 3 := rfl
theorem jdB_len (a : Nat) : (jdB a).length = 53 := by
  unfold jdB plB scB
  simp only [List.length_append, List.length_cons, List.length_nil, blks_len (f := fun _ => [cs0]) (n0 := a + 13) (w := 1) (fun _ => rfl) 40]
theorem rnB_len (a : Nat) : (rnB a).length = 42 := by
  unfold rnB
  simp only [List.length_cons, blks_len (f := scB) (n0 := a + 2) (w := 4) (fun _ => rfl) 10]
def sw0 : mm_H := .inr (9, [.inr none, .inr none, .inr none, .inr none, .inr none, .inl false, .inl false])
theorem jdS_z {S : mm_S} {n a : Nat} (h : zS S n) (hn : n ≤ a) : zS (jdS S a) (a + 53) := fun b hb j => by
  unfold jdS fillS ncS
  rw [if_neg (by omega), if_neg (by omega)]
  exact h b (by omega) j
theorem jdS_lo {S : mm_S} {a b : Nat} (h : b < a) (j : Nat) : jdS S a b j = S b j := by
  unfold jdS fillS ncS
  rw [if_neg (by omega), if_neg (by omega)]
set_option maxRecDepth 100000 in
set_option maxHeartbeats 4000000 in
theorem n_swg {A : List mm_H} {S : mm_S} (hz : zS S A.length) {fb ff fj fr : Nat → List mm_H} {jS : mm_S → Nat → mm_S} (lb : ∀ a, (fb a).length = 81) (lf : ∀ a, (ff a).length = 3) (lj : ∀ a, (fj a).length = 53) (lr : ∀ a, (fr a).length = 42) (jz : ∀ S n, zS S n → ∀ a, n ≤ a → zS (jS S a) (a + 53)) (jl : ∀ (S : mm_S) a b, b < a → ∀ j, jS S a b j = S b j) (cb : ∀ (A : List mm_H) (S : mm_S), zS S A.length → am_E eX0_init [.ref A.length] (mm (A ++ [bk0]) S zL) (fun r M' => r = none ∧ M' = mm (A ++ fb A.length) S zL)) (cf : ∀ (A : List mm_H) (S : mm_S), zS S A.length → am_E eX2_init [.ref A.length] (mm (A ++ [ft0]) S zL) (fun r M' => r = none ∧ M' = mm (A ++ ff A.length) S zL)) (cj : ∀ (A : List mm_H) (S : mm_S), zS S A.length → am_E eX3_init [.ref A.length] (mm (A ++ [jd0]) S zL) (fun r M' => r = none ∧ M' = mm (A ++ fj A.length) (jS S A.length) zL)) (cr : ∀ (A : List mm_H) (S : mm_S), zS S A.length → am_E eX7_init [.ref A.length] (mm (A ++ [rn0]) S zL) (fun r M' => r = none ∧ M' = mm (A ++ fr A.length) S zL)) : am_E eX9_init [.ref A.length] (mm (A ++ [sw0]) S zL) (fun r M' => r = none ∧ M' = mm (A ++ (.inr (9, [.inr (some (A.length + 1)), .inr (some (A.length + 82)), .inr (some (A.length + 85)), .inr (some (A.length + 138)), .inr (some (A.length + 180)), .inl false, .inl false]) :: (fb (A.length + 1) ++ (ff (A.length + 82) ++ (fj (A.length + 85) ++ (fr (A.length + 138) ++ [.inl (0, 6, fun _ => none)])))))) (up2 (jS S (A.length + 85)) A.length 6 (-1)) zL) := by
  refine am_enter rfl rfl (Nat.le_of_ble_eq_true rfl) ?_
  refine am_aload_n rfl dX9_init_0 ?_
  refine am_objInit dX9_init_1 mk_X9_1 im_obj cd_obj (Nat.le_of_ble_eq_true rfl) (Nat.le_of_ble_eq_true rfl) ?_
  refine am_aload_n rfl dX9_init_4 ?_
  refine mm_new (ci := 0) (fd := [.inl false, .inl false, .inr none, .inr none]) (zS_r hz (by rw [nb_len]; omega)) tyX0 dX9_init_5 rfl inX0 tyX0_ok cl_X9_7 insX0 iniX0 rfl rfl ?_
  refine am_dup rfl dX9_init_8 ?_
  refine am_cv (mm_I0 dX9_init_9 in_X0_init rfl rfl mk_X9_9 im_X0_init ⟨Nat.le_of_ble_eq_true rfl, Nat.le_of_ble_eq_true rfl⟩ (Nat.le_of_ble_eq_true rfl)) (cb _ _ (zS_r hz (by rw [nb_len]; omega))) ?_
  rw [nb_app fb, nb_len (A := A)]
  simp only [List.length_nil, List.length_append, List.length_cons, lb, lf, lj, lr, List.nil_append, Nat.zero_add, Nat.reduceAdd]
  refine nb_putR dX9_init_12 fp_X9_10 rfl (Nat.le_of_ble_eq_true rfl) (fun _ => rfl) (fun _ => rfl) ?_
  refine am_aload_n rfl dX9_init_15 ?_
  refine mm_new (ci := 2) (fd := [.inr none, .inr none, .inl false]) (zS_r hz (by rw [nb_len]; omega)) tyX2 dX9_init_16 rfl inX2 tyX2_ok cl_X9_16 insX2 iniX2 rfl rfl ?_
  refine am_dup rfl dX9_init_19 ?_
  refine am_cv (mm_IN0 dX9_init_20 in_X2_init rfl rfl mk_X9_18 im_X2_init ⟨Nat.le_of_ble_eq_true rfl, Nat.le_of_ble_eq_true rfl⟩ (Nat.le_of_ble_eq_true rfl)) (cf _ _ (zS_r hz (by rw [nb_len]; omega))) ?_
  rw [nb_app ff, nb_len (A := A)]
  simp only [List.length_nil, List.length_append, List.length_cons, lb, lf, lj, lr, List.nil_append, Nat.zero_add, Nat.reduceAdd]
  refine nb_putR dX9_init_23 fp_X9_19 rfl (Nat.le_of_ble_eq_true rfl) (fun _ => rfl) (fun _ => rfl) ?_
  refine am_aload_n rfl dX9_init_26 ?_
  refine mm_new (ci := 3) (fd := [.inl false, .inl false, .inl false, .inr none, .inr none, .inr none, .inr none, .inr none, .inl false, .inr none]) (zS_r hz (by rw [nb_len]; omega)) tyX3 dX9_init_27 rfl inX3 tyX3_ok cl_X9_23 insX3 iniX3 rfl rfl ?_
  refine am_dup rfl dX9_init_30 ?_
  refine am_cv (mm_I0 dX9_init_31 in_X3_init rfl rfl mk_X9_25 im_X3_init ⟨Nat.le_of_ble_eq_true rfl, Nat.le_of_ble_eq_true rfl⟩ (Nat.le_of_ble_eq_true rfl)) (cj _ _ (zS_r hz (by rw [nb_len]; omega))) ?_
  rw [nb_app fj, nb_len (A := A)]
  simp only [List.length_nil, List.length_append, List.length_cons, lb, lf, lj, lr, List.nil_append, Nat.zero_add, Nat.reduceAdd]
  refine nb_putR dX9_init_34 fp_X9_26 rfl (Nat.le_of_ble_eq_true rfl) (fun _ => rfl) (fun _ => rfl) ?_
  have hzj : zS (jS S (A.length + 85)) (A.length + 138) := jz S _ hz _ (by omega)
  refine am_aload_n rfl dX9_init_37 ?_
  refine mm_new (ci := 7) (fd := [.inl false, .inl false, .inl false, .inl false, .inl false, .inl false, .inl true, .inl false, .inr none]) (zS_r hzj (by simp only [List.length_nil, List.length_append, List.length_cons, lb, lf, lj, lr, List.nil_append, Nat.zero_add, Nat.reduceAdd]; omega)) tyX7 dX9_init_38 rfl inX7 tyX7_ok cl_X9_30 insX7 iniX7 rfl rfl ?_
  refine am_dup rfl dX9_init_41 ?_
  refine am_cv (mm_I0 dX9_init_42 in_X7_init rfl rfl mk_X9_32 im_X7_init ⟨Nat.le_of_ble_eq_true rfl, Nat.le_of_ble_eq_true rfl⟩ (Nat.le_of_ble_eq_true rfl)) (cr _ _ (zS_r hzj (by simp only [List.length_nil, List.length_append, List.length_cons, lb, lf, lj, lr, List.nil_append, Nat.zero_add, Nat.reduceAdd]; omega))) ?_
  rw [nb_app fr, nb_len (A := A)]
  simp only [List.length_nil, List.length_append, List.length_cons, lb, lf, lj, lr, List.nil_append, Nat.zero_add, Nat.reduceAdd]
  refine nb_putR dX9_init_45 fp_X9_33 rfl (Nat.le_of_ble_eq_true rfl) (fun _ => rfl) (fun _ => rfl) ?_
  refine am_aload_n rfl dX9_init_48 ?_
  refine mm_bipush dX9_init_49 (by decide) ?_
  refine mm_newI dX9_init_51 (by decide) ?_
  rw [zr_S (zS_r hzj (by simp only [List.length_nil, List.length_append, List.length_cons, lb, lf, lj, lr, List.nil_append, Nat.zero_add, Nat.reduceAdd]; omega)), zr_L, nb_len (A := A), List.append_assoc]
  simp only [List.length_nil, List.length_append, List.length_cons, lb, lf, lj, lr, List.nil_append, Nat.zero_add, Nat.reduceAdd]
  refine nb_putR dX9_init_53 fp_X9_37 rfl (Nat.le_of_ble_eq_true rfl) (fun _ => rfl) (fun _ => rfl) ?_
  refine am_aload_n rfl dX9_init_56 ?_
  refine mm_iconst dX9_init_57 ?_
  refine nb_putZ0 dX9_init_58 fp_X9_41 rfl (by rw [jl S _ _ (by omega)]; exact hz _ (Nat.le_refl _) _) ?_
  refine am_aload_n rfl dX9_init_61 ?_
  refine mm_iconst dX9_init_62 ?_
  refine nb_putI dX9_init_63 fp_X9_45 rfl ?_
  refine am_return dX9_init_66 rfl ?_
  refine ⟨rfl, ?_⟩
  simp only [List.append_eq, List.cons_append, List.nil_append, List.append_assoc]
  rfl
theorem n_sw {A : List mm_H} {S : mm_S} (hz : zS S A.length) : am_E eX9_init [.ref A.length] (mm (A ++ [sw0]) S zL) (fun r M' => r = none ∧ M' = mm (A ++ (.inr (9, [.inr (some (A.length + 1)), .inr (some (A.length + 82)), .inr (some (A.length + 85)), .inr (some (A.length + 138)), .inr (some (A.length + 180)), .inl false, .inl false]) :: (bkB (A.length + 1) ++ (ftB (A.length + 82) ++ (jdB (A.length + 85) ++ (rnB (A.length + 138) ++ [.inl (0, 6, fun _ => none)])))))) (up2 (jdS S (A.length + 85)) A.length 6 (-1)) zL) :=
  n_swg hz bkB_len ftB_len jdB_len rnB_len (fun S n h a hn => jdS_z h hn) (fun S a b h j => jdS_lo h j) (fun A S h => n_book h) (fun A S h => n_fit h) (fun A S h => n_judge h) (fun A S h => n_runner h)
