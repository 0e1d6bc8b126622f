set_option maxRecDepth 100000 in
set_option maxHeartbeats 4000000 in
theorem l_rn {A : List mm_H} {S : mm_S} (hz : zS S A.length) {Q : Option Value → am_M → Prop} (kk : am_AW eX7_init (mm (A ++ (.inr (7, [.inl false, .inl false, .inl false, .inl false, .inl false, .inl false, .inl true, .inl false, .inr (some (A.length + 1))]) :: ((.inl (6, 10, gA (A.length + 2) 4 10) :: (blks scB (A.length + 2) 4 10))))) S zL) 80 [some (.ref A.length), some (.int (iI (10 : Int)))] [] Q) : ∀ (q k : Nat), 10 - k < q → k ≤ 10 → am_AW eX7_init (mm (A ++ (.inr (7, [.inl false, .inl false, .inl false, .inl false, .inl false, .inl false, .inl true, .inl false, .inr (some (A.length + 1))]) :: ((.inl (6, 10, gA (A.length + 2) 4 k) :: (blks scB (A.length + 2) 4 k))))) S zL) 55 [some (.ref A.length), some (.int (iI (k : Int)))] [] Q := by
  intro q
  induction q with
  | zero => intro k hq; exact absurd hq (Nat.not_lt_zero _)
  | succ q ih =>
    intro k hq hk
    have hbl := blks_len (f := scB) (n0 := (A.length + 2)) (w := 4) (fun _ => rfl) k
    have hlen : (A ++ (.inr (7, [.inl false, .inl false, .inl false, .inl false, .inl false, .inl false, .inl true, .inl false, .inr (some (A.length + 1))]) :: ((.inl (6, 10, gA (A.length + 2) 4 k) :: (blks scB (A.length + 2) 4 k)))) : List mm_H).length = (A.length + 2) + 4 * k := by
      simp only [List.length_append, List.length_cons, List.length_nil, hbl]
      omega
    refine am_iload_n rfl dX7_init_55 ?_
    refine mm_bipush dX7_init_56 (by decide) ?_
    refine mm_jge (tgt := 80) dX7_init_58 (by decide) (by omega) (by omega) (fun h => ?_) (fun h => ?_)
    · have e : k = 10 := by omega
      subst e
      exact kk
    · refine am_aload_n rfl dX7_init_61 ?_
      refine mm_getR (q := A.length + 1) dX7_init_62 fl_X7_39 ap_0 rfl ?_
      refine am_iload_n rfl dX7_init_65 ?_
      refine mm_new (ci := 8) (fd := [.inl false, .inl false, .inl false, .inr none, .inr none, .inr none]) (zS_r hz (by rw [hlen]; omega)) tyX8 dX7_init_66 rfl inX8 tyX8_ok cl_X7_37 insX8 iniX8 rfl rfl ?_
      refine am_dup rfl dX7_init_69 ?_
      refine am_cv (mm_IN0 dX7_init_70 in_X8_init rfl rfl mk_X7_43 im_X8_init ⟨Nat.le_of_ble_eq_true rfl, Nat.le_of_ble_eq_true rfl⟩ (Nat.le_of_ble_eq_true rfl)) (n_scene (zS_r hz (by rw [hlen]; omega))) ?_
      refine mm_aas (ci := 8) (t := 3) (n := 10) (g := gA (A.length + 2) 4 k) (fd := [.inl false, .inl false, .inl false, .inr (some ((A.length + 2) + 4 * k + 1)), .inr (some ((A.length + 2) + 4 * k + 2)), .inr (some ((A.length + 2) + 4 * k + 3))]) dX7_init_73 (fun _ => rfl) rfl ?_ ?_ (by omega) (sh' := (A ++ (.inr (7, [.inl false, .inl false, .inl false, .inl false, .inl false, .inl false, .inl true, .inl false, .inr (some (A.length + 1))]) :: ((.inl (6, 10, gA (A.length + 2) 4 (k + 1)) :: (blks scB (A.length + 2) 4 (k + 1))))))) ?_ ?_
      · rw [List.append_assoc]
        exact ap_i 1
      · rw [hlen, ← hlen]
        exact ap_0
      · rw [hlen, List.append_assoc]
        refine (ap_set 1 _).trans ?_
        rw [Int.toNat_natCast, gA_up, show blks scB (A.length + 2) 4 (k + 1) = blks scB (A.length + 2) 4 k ++ scB ((A.length + 2) + 4 * k) from rfl]
        simp only [List.cons_append, List.nil_append, List.append_assoc, List.set_cons_succ, List.set_cons_zero]
      · refine mm_inc1 dX7_init_74 (Nat.le_of_ble_eq_true rfl) (am_c1r _) ?_
        refine am_goto (tgt := 55) dX7_init_77 (by decide) ?_
        exact ih (k + 1) (by omega) (by omega)
def rnB (a : Nat) : List mm_H := .inr (7, [.inl false, .inl false, .inl false, .inl false, .inl false, .inl false, .inl true, .inl false, .inr (some (a + 1))]) :: .inl (6, 10, gA (a + 2) 4 10) :: blks scB (a + 2) 4 10
def rn0 : mm_H := .inr (7, [.inl false, .inl false, .inl false, .inl false, .inl false, .inl false, .inl true, .inl false, .inr none])
set_option maxRecDepth 100000 in
set_option maxHeartbeats 4000000 in
theorem n_runner {A : List mm_H} {S : mm_S} (hz : zS S A.length) : am_E eX7_init [.ref A.length] (mm (A ++ [rn0]) S zL) (fun r M' => r = none ∧ M' = mm (A ++ rnB A.length) S zL) := by
  refine am_enter rfl rfl (Nat.le_of_ble_eq_true rfl) ?_
  refine am_aload_n rfl dX7_init_0 ?_
  refine am_objInit dX7_init_1 mk_X7_3 im_obj cd_obj (Nat.le_of_ble_eq_true rfl) (Nat.le_of_ble_eq_true rfl) ?_
  refine am_aload_n rfl dX7_init_4 ?_
  refine mm_iconst dX7_init_5 ?_
  refine nb_put0 dX7_init_6 fp_X7_9 rfl (hz _ (Nat.le_refl _) _) ?_
  refine am_aload_n rfl dX7_init_9 ?_
  refine mm_iconst dX7_init_10 ?_
  refine nb_put0 dX7_init_11 fp_X7_15 rfl (hz _ (Nat.le_refl _) _) ?_
  refine am_aload_n rfl dX7_init_14 ?_
  refine mm_iconst dX7_init_15 ?_
  refine nb_put0 dX7_init_16 fp_X7_18 rfl (hz _ (Nat.le_refl _) _) ?_
  refine am_aload_n rfl dX7_init_19 ?_
  refine mm_iconst dX7_init_20 ?_
  refine nb_put0 dX7_init_21 fp_X7_21 rfl (hz _ (Nat.le_refl _) _) ?_
  refine am_aload_n rfl dX7_init_24 ?_
  refine mm_iconst dX7_init_25 ?_
  refine nb_put0 dX7_init_26 fp_X7_24 rfl (hz _ (Nat.le_refl _) _) ?_
  refine am_aload_n rfl dX7_init_29 ?_
  refine mm_iconst dX7_init_30 ?_
  refine nb_put0 dX7_init_31 fp_X7_27 rfl (hz _ (Nat.le_refl _) _) ?_
  refine am_aload_n rfl dX7_init_34 ?_
  refine am_lconst (v := 0) (by decide) dX7_init_35 ?_
  refine nb_putL0 dX7_init_36 fp_X7_30 rfl ?_
  refine am_aload_n rfl dX7_init_39 ?_
  refine mm_iconst dX7_init_40 ?_
  refine nb_put0 dX7_init_41 fp_X7_34 rfl (hz _ (Nat.le_refl _) _) ?_
  refine am_aload_n rfl dX7_init_44 ?_
  refine mm_bipush dX7_init_45 (by decide) ?_
  refine nb_newG (g := gA (A.length + 2) 4 0) (t := 3) (gA_0 _ _).symm hz dX7_init_47 (fun _ => rfl) (by decide) cl_X7_37 (by decide) ?_
  refine nb_putR dX7_init_50 fp_X7_39 rfl (Nat.le_of_ble_eq_true rfl) (fun _ => rfl) (fun _ => rfl) ?_
  refine mm_iconst dX7_init_53 ?_
  refine am_ist1 dX7_init_54 (Nat.le_of_ble_eq_true rfl) (am_c1r _) ?_
  refine l_rn hz ?_ 11 0 (by decide) (by decide)
  refine am_return dX7_init_80 rfl ?_
  exact ⟨rfl, rfl⟩
/-- the CASES as they are made -/
def ncS (S : mm_S) (n0 k : Nat) : mm_S := fun b j => if n0 ≤ b ∧ b < n0 + k then (if j = 1 then 2 else if j = 6 then -1 else S b j) else S b j
theorem ncS_0 (S : mm_S) (n0 : Nat) : ncS S n0 0 = S := by
  funext b j
  unfold ncS
  rw [if_neg (by omega)]
theorem ncS_up (S : mm_S) (n0 k : Nat) : up2 (up2 (ncS S n0 k) (n0 + 1 * k) 1 2) (n0 + 1 * k) 6 (-1) = ncS S n0 (k + 1) := by
  funext b j
  unfold up2 ncS
  by_cases h : b = n0 + k
  · subst h
    by_cases h1 : j = 6
    · rw [if_pos ⟨by omega, h1⟩, if_pos (by omega), if_neg (by omega), if_pos h1]
    · rw [if_neg (by omega)]
      by_cases h2 : j = 1
      · rw [if_pos ⟨by omega, h2⟩, if_pos (by omega), if_pos h2]
      · rw [if_neg (by omega), if_neg (by omega), if_pos (by omega), if_neg h2, if_neg h1]
  · rw [if_neg (by omega), if_neg (by omega)]
    by_cases h3 : n0 ≤ b ∧ b < n0 + k
    · rw [if_pos h3, if_pos (show n0 ≤ b ∧ b < n0 + (k + 1) by omega)]
    · rw [if_neg h3, if_neg (by omega)]
theorem ncS_z {S : mm_S} {n n0 : Nat} (h : zS S n) (hn : n ≤ n0) (k : Nat) : zS (ncS S n0 k) (n0 + 1 * k) := fun b hb j => by
  unfold ncS
  rw [if_neg (by omega)]
  exact h b (by omega) j
set_option maxRecDepth 100000 in
set_option maxHeartbeats 4000000 in
theorem l_jdi {A : List mm_H} {S : mm_S} (hz : zS S A.length) {Q : Option Value → am_M → Prop} (kk : am_AW eX3_init (mm (A ++ (.inr (3, [.inl false, .inl false, .inl false, .inr (some (A.length + 1)), .inr (some (A.length + 5)), .inr (some (A.length + 6)), .inr (some (A.length + 7)), .inr (some (A.length + 8)), .inl false, .inr (some (A.length + 9))]) :: ((plB (A.length + 1)) ++ (.inl (3, 40, gA (A.length + 13) 1 40) :: ((.inl (0, 433, fun _ => none) :: .inl (0, 150, fun _ => none) :: .inl (0, 640, fun _ => none) :: scB (A.length + 9)) ++ blks (fun _ => [cs0]) (A.length + 13) 1 40))))) (ncS S (A.length + 13) 40) zL) 109 [some (.ref A.length), some (.int (iI (40 : Int)))] [] Q) : ∀ (q k : Nat), 40 - k < q → k ≤ 40 → am_AW eX3_init (mm (A ++ (.inr (3, [.inl false, .inl false, .inl false, .inr (some (A.length + 1)), .inr (some (A.length + 5)), .inr (some (A.length + 6)), .inr (some (A.length + 7)), .inr (some (A.length + 8)), .inl false, .inr (some (A.length + 9))]) :: ((plB (A.length + 1)) ++ (.inl (3, 40, gA (A.length + 13) 1 k) :: ((.inl (0, 433, fun _ => none) :: .inl (0, 150, fun _ => none) :: .inl (0, 640, fun _ => none) :: scB (A.length + 9)) ++ blks (fun _ => [cs0]) (A.length + 13) 1 k))))) (ncS S (A.length + 13) k) zL) 84 [some (.ref A.length), some (.int (iI (k : Int)))] [] Q := by
  intro q
  induction q with
  | zero => intro k hq; exact absurd hq (Nat.not_lt_zero _)
  | succ q ih =>
    intro k hq hk
    have hbl := blks_len (f := (fun _ => [cs0])) (n0 := (A.length + 13)) (w := 1) (fun _ => rfl) k
    have hlen : (A ++ (.inr (3, [.inl false, .inl false, .inl false, .inr (some (A.length + 1)), .inr (some (A.length + 5)), .inr (some (A.length + 6)), .inr (some (A.length + 7)), .inr (some (A.length + 8)), .inl false, .inr (some (A.length + 9))]) :: ((plB (A.length + 1)) ++ (.inl (3, 40, gA (A.length + 13) 1 k) :: ((.inl (0, 433, fun _ => none) :: .inl (0, 150, fun _ => none) :: .inl (0, 640, fun _ => none) :: scB (A.length + 9)) ++ blks (fun _ => [cs0]) (A.length + 13) 1 k)))) : List mm_H).length = (A.length + 13) + 1 * k := by
      simp only [List.length_append, List.length_cons, List.length_nil, hbl, plB, scB]
      omega
    refine am_iload_n rfl dX3_init_84 ?_
    refine mm_bipush dX3_init_85 (by decide) ?_
    refine mm_jge (tgt := 109) dX3_init_87 (by decide) (by omega) (by omega) (fun h => ?_) (fun h => ?_)
    · have e : k = 40 := by omega
      subst e
      exact kk
    · refine am_aload_n rfl dX3_init_90 ?_
      refine mm_getR (q := A.length + 5) dX3_init_91 fl_X3_31 ap_0 rfl ?_
      refine am_iload_n rfl dX3_init_94 ?_
      refine mm_new (ci := 1) (fd := csFd) (zS_r (ncS_z hz (Nat.le_add_right _ 13) k) (by rw [hlen]; omega)) tyX1 dX3_init_95 rfl inX1 tyX1_ok cl_X3_29 insX1 iniX1 rfl rfl ?_
      refine am_dup rfl dX3_init_98 ?_
      refine am_cv (mm_IN0 dX3_init_99 in_X1_init rfl rfl mk_X3_55 im_X1_init ⟨Nat.le_of_ble_eq_true rfl, Nat.le_of_ble_eq_true rfl⟩ (Nat.le_of_ble_eq_true rfl)) (n_case (zS_r (ncS_z hz (Nat.le_add_right _ 13) k) (by rw [hlen]; omega))) ?_
      refine mm_aas (ci := 1) (t := 0) (n := 40) (g := gA (A.length + 13) 1 k) (fd := csFd) dX3_init_102 (fun _ => rfl) rfl ?_ ?_ (by omega) (sh' := (A ++ (.inr (3, [.inl false, .inl false, .inl false, .inr (some (A.length + 1)), .inr (some (A.length + 5)), .inr (some (A.length + 6)), .inr (some (A.length + 7)), .inr (some (A.length + 8)), .inl false, .inr (some (A.length + 9))]) :: ((plB (A.length + 1)) ++ (.inl (3, 40, gA (A.length + 13) 1 (k + 1)) :: ((.inl (0, 433, fun _ => none) :: .inl (0, 150, fun _ => none) :: .inl (0, 640, fun _ => none) :: scB (A.length + 9)) ++ blks (fun _ => [cs0]) (A.length + 13) 1 (k + 1))))))) ?_ ?_
      · rw [List.append_assoc]
        exact ap_i 5
      · rw [hlen, ← hlen]
        exact ap_0
      · rw [hlen, List.append_assoc]
        refine (ap_set 5 _).trans ?_
        rw [Int.toNat_natCast, gA_up, show blks (fun _ => [cs0]) (A.length + 13) 1 (k + 1) = blks (fun _ => [cs0]) (A.length + 13) 1 k ++ (fun _ => [cs0]) ((A.length + 13) + 1 * k) from rfl]
        simp only [plB, List.cons_append, List.nil_append, List.append_assoc, List.set_cons_succ, List.set_cons_zero]
      · refine mm_inc1 dX3_init_103 (Nat.le_of_ble_eq_true rfl) (am_c1r _) ?_
        refine am_goto (tgt := 84) dX3_init_106 (by decide) ?_
        rw [hlen, ncS_up]
        exact ih (k + 1) (by omega) (by omega)
theorem l_jdi0 {A : List mm_H} {S : mm_S} (hz : zS S A.length) {Q : Option Value → am_M → Prop} (kk : am_AW eX3_init (mm (A ++ (.inr (3, [.inl false, .inl false, .inl false, .inr (some (A.length + 1)), .inr (some (A.length + 5)), .inr (some (A.length + 6)), .inr (some (A.length + 7)), .inr (some (A.length + 8)), .inl false, .inr (some (A.length + 9))]) :: (plB (A.length + 1) ++ (.inl (3, 40, gA (A.length + 13) 1 40) :: ((.inl (0, 433, fun _ => none) :: .inl (0, 150, fun _ => none) :: .inl (0, 640, fun _ => none) :: scB (A.length + 9)) ++ blks (fun _ => [cs0]) (A.length + 13) 1 40))))) (ncS S (A.length + 13) 40) zL) 109 [some (.ref A.length), some (.int (iI (40 : Int)))] [] Q) : am_AW eX3_init (mm (A ++ (.inr (3, [.inl false, .inl false, .inl false, .inr (some (A.length + 1)), .inr (some (A.length + 5)), .inr (some (A.length + 6)), .inr (some (A.length + 7)), .inr (some (A.length + 8)), .inl false, .inr (some (A.length + 9))]) :: (plB (A.length + 1) ++ (.inl (3, 40, gA (A.length + 13) 1 0) :: ((.inl (0, 433, fun _ => none) :: .inl (0, 150, fun _ => none) :: .inl (0, 640, fun _ => none) :: scB (A.length + 9)) ++ blks (fun _ => [cs0]) (A.length + 13) 1 0))))) S zL) 84 [some (.ref A.length), some (.int (iI ((0 : Nat) : Int)))] [] Q := by
  have := l_jdi hz kk 41 0 (by decide) (by decide)
  rw [ncS_0] at this
  exact this
def jdB (a : Nat) : List mm_H := .inr (3, [.inl false, .inl false, .inl false, .inr (some (a + 1)), .inr (some (a + 5)), .inr (some (a + 6)), .inr (some (a + 7)), .inr (some (a + 8)), .inl false, .inr (some (a + 9))]) :: (plB (a + 1) ++ (.inl (3, 40, gA (a + 13) 1 40) :: ((.inl (0, 433, fun _ => none) :: .inl (0, 150, fun _ => none) :: .inl (0, 640, fun _ => none) :: scB (a + 9)) ++ blks (fun _ => [cs0]) (a + 13) 1 40)))
def jd0 : mm_H := .inr (3, [.inl false, .inl false, .inl false, .inr none, .inr none, .inr none, .inr none, .inr none, .inl false, .inr none])
def jdS (S : mm_S) (a : Nat) : mm_S := fillS (ncS S (a + 13) 40) (a + 6) 433 (-1)
set_option maxRecDepth 100000 in
set_option maxHeartbeats 4000000 in
theorem n_judge {A : List mm_H} {S : mm_S} (hz : zS S A.length) : am_E eX3_init [.ref A.length] (mm (A ++ [jd0]) S zL) (fun r M' => r = none ∧ M' = mm (A ++ jdB A.length) (jdS S A.length) zL) := by
  refine am_enter rfl rfl (Nat.le_of_ble_eq_true rfl) ?_
  refine am_aload_n rfl dX3_init_0 ?_
  refine am_objInit dX3_init_1 mk_X3_3 im_obj cd_obj (Nat.le_of_ble_eq_true rfl) (Nat.le_of_ble_eq_true rfl) ?_
  refine am_aload_n rfl dX3_init_4 ?_
  refine mm_iconst dX3_init_5 ?_
  refine nb_putZ0 dX3_init_6 fp_X3_9 rfl (hz _ (Nat.le_refl _) _) ?_
  refine am_aload_n rfl dX3_init_9 ?_
  refine mm_iconst dX3_init_10 ?_
  refine nb_put0 dX3_init_11 fp_X3_15 rfl (hz _ (Nat.le_refl _) _) ?_
  refine am_aload_n rfl dX3_init_14 ?_
  refine mm_iconst dX3_init_15 ?_
  refine nb_put0 dX3_init_16 fp_X3_19 rfl (hz _ (Nat.le_refl _) _) ?_
  refine am_aload_n rfl dX3_init_19 ?_
  refine mm_new (ci := 5) (fd := [.inl false, .inr none, .inr none, .inr none]) (zS_r hz (by rw [nb_len]; omega)) tyX5 dX3_init_20 rfl inX5 tyX5_ok cl_X3_22 insX5 iniX5 rfl rfl ?_
  refine am_dup rfl dX3_init_23 ?_
  refine am_cv (mm_IN0 dX3_init_24 in_X5_init rfl rfl mk_X3_24 im_X5_init ⟨Nat.le_of_ble_eq_true rfl, Nat.le_of_ble_eq_true rfl⟩ (Nat.le_of_ble_eq_true rfl)) (n_pool (zS_r hz (by rw [nb_len]; omega))) ?_
  rw [nb_app plB, nb_len (A := A)]
  refine nb_putR dX3_init_27 fp_X3_25 rfl (Nat.le_of_ble_eq_true rfl) (fun _ => rfl) (fun _ => rfl) ?_
  refine am_aload_n rfl dX3_init_30 ?_
  refine mm_bipush dX3_init_31 (by decide) ?_
  refine nb_newG (g := gA (A.length + 13) 1 0) (t := 0) (gA_0 _ _).symm hz dX3_init_33 (fun _ => rfl) (by decide) cl_X3_29 (by decide) ?_
  refine nb_putR dX3_init_36 fp_X3_31 rfl (Nat.le_of_ble_eq_true rfl) (fun _ => rfl) (fun _ => rfl) ?_
  refine am_aload_n rfl dX3_init_39 ?_
  refine mm_sipush dX3_init_40 (by decide) ?_
  refine nb_newI hz dX3_init_43 (by decide) ?_
  refine nb_putR dX3_init_45 fp_X3_35 rfl (Nat.le_of_ble_eq_true rfl) (fun _ => rfl) (fun _ => rfl) ?_
  refine am_aload_n rfl dX3_init_48 ?_
  refine mm_sipush dX3_init_49 (by decide) ?_
  refine nb_newI hz dX3_init_52 (by decide) ?_
  refine nb_putR dX3_init_54 fp_X3_39 rfl (Nat.le_of_ble_eq_true rfl) (fun _ => rfl) (fun _ => rfl) ?_
  refine am_aload_n rfl dX3_init_57 ?_
  refine mm_sipush dX3_init_58 (by decide) ?_
  refine nb_newI hz dX3_init_61 (by decide) ?_
  refine nb_putR dX3_init_63 fp_X3_42 rfl (Nat.le_of_ble_eq_true rfl) (fun _ => rfl) (fun _ => rfl) ?_
  refine am_aload_n rfl dX3_init_66 ?_
  refine mm_iconst dX3_init_67 ?_
  refine nb_put0 dX3_init_68 fp_X3_45 rfl (hz _ (Nat.le_refl _) _) ?_
  refine am_aload_n rfl dX3_init_71 ?_
  refine mm_new (ci := 8) (fd := [.inl false, .inl false, .inl false, .inr none, .inr none, .inr none]) (zS_r hz (by rw [nb_len]; omega)) tyX8 dX3_init_72 rfl inX8 tyX8_ok cl_X3_48 insX8 iniX8 rfl rfl ?_
  refine am_dup rfl dX3_init_75 ?_
  refine am_cv (mm_IN0 dX3_init_76 in_X8_init rfl rfl mk_X3_50 im_X8_init ⟨Nat.le_of_ble_eq_true rfl, Nat.le_of_ble_eq_true rfl⟩ (Nat.le_of_ble_eq_true rfl)) (n_scene (zS_r hz (by rw [nb_len]; omega))) ?_
  rw [nb_app scB, nb_len (A := A)]
  refine nb_putR dX3_init_79 fp_X3_51 rfl (Nat.le_of_ble_eq_true rfl) (fun _ => rfl) (fun _ => rfl) ?_
  refine mm_iconst dX3_init_82 ?_
  refine am_ist1 dX3_init_83 (Nat.le_of_ble_eq_true rfl) (am_c1r _) ?_
  refine l_jdi0 hz ?_
  refine am_aload_n rfl dX3_init_109 ?_
  refine mm_getR (q := A.length + 6) dX3_init_110 fl_X3_35 ap_0 rfl ?_
  refine mm_iconst dX3_init_113 ?_
  refine am_cv (mm_S2 dX3_init_114 in_J7_fill_53178 mk_X3_56 st_J7_fill_53178 ⟨Nat.le_of_ble_eq_true rfl, Nat.le_of_ble_eq_true rfl⟩ (Nat.le_of_ble_eq_true rfl)) (c_fill (n := 433) (by exact ap_i 6) (by omega)) ?_
  refine am_return dX3_init_117 rfl ?_
  exact ⟨rfl, rfl⟩
