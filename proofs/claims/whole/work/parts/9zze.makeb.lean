/-! ===== many of one sort ===== -/
def gA (n0 w k : Nat) (j : Nat) : Option Nat := if j < k then some (n0 + w * j) else none
theorem gA_up (n0 w k : Nat) : va_up (gA n0 w k) k (some (n0 + w * k)) = gA n0 w (k + 1) := by
  funext j
  unfold va_up gA
  by_cases h : j = k
  · subst h
    rw [if_pos rfl, if_pos (by omega)]
  · rw [if_neg h]
    by_cases h2 : j < k
    · rw [if_pos h2, if_pos (by omega)]
    · rw [if_neg h2, if_neg (by omega)]
def blks (f : Nat → List mm_H) (n0 w : Nat) : Nat → List mm_H
  | 0 => []
  | k + 1 => blks f n0 w k ++ f (n0 + w * k)
theorem blks_len {f : Nat → List mm_H} {n0 w : Nat} (hf : ∀ a, (f a).length = w) : ∀ k, (blks f n0 w k).length = w * k
  | 0 => rfl
  | k + 1 => by rw [blks, List.length_append, blks_len hf k, hf, Nat.mul_succ]
theorem blks_get {f : Nat → List mm_H} {n0 w : Nat} (hf : ∀ a, (f a).length = w) (k i t : Nat) (hi : i < k) (ht : t < w) : (blks f n0 w k)[w * i + t]? = (f (n0 + w * i))[t]? := by
  induction k with
  | zero => omega
  | succ k ih =>
    rw [blks]
    have hl := blks_len (n0 := n0) hf k
    have h0 : w * i + w = w * (i + 1) := by rw [Nat.mul_succ]
    by_cases h : i < k
    · have h1 : w * (i + 1) ≤ w * k := Nat.mul_le_mul_left _ h
      rw [List.getElem?_append_left (by omega)]
      exact ih h
    · have e : i = k := by omega
      subst e
      rw [List.getElem?_append_right (by omega), hl]
      congr 1
      omega
theorem gA_0 (n0 w : Nat) : (fun _ => none : Nat → Option Nat) = gA n0 w 0 := by
  funext j
  unfold gA
  rw [if_neg (by omega)]
set_option maxRecDepth 100000 in
set_option maxHeartbeats 4000000 in
theorem l_bk1 {A : List mm_H} {S : mm_S} (hz : zS S A.length) {Q : Option Value → am_M → Prop} (kk : am_AW eX0_init (mm (A ++ (.inr (0, [.inl false, .inl false, .inr (some (A.length + 1)), .inr (some (A.length + 2))]) :: ((.inl (4, 6, gA (A.length + 3) 3 6) :: ([.inl (5, 6, fun _ => none)] ++ blks kdB (A.length + 3) 3 6))))) S zL) 59 [some (.ref A.length), some (.int (iI (6 : Int)))] [] Q) : ∀ (q k : Nat), 6 - k < q → k ≤ 6 → am_AW eX0_init (mm (A ++ (.inr (0, [.inl false, .inl false, .inr (some (A.length + 1)), .inr (some (A.length + 2))]) :: ((.inl (4, 6, gA (A.length + 3) 3 k) :: ([.inl (5, 6, fun _ => none)] ++ blks kdB (A.length + 3) 3 k))))) S zL) 34 [some (.ref A.length), some (.int (iI (k : Int)))] [] Q := by
  intro q
  induction q with
  | zero => intro k hq; exact absurd hq (Nat.not_lt_zero _)
  | succ q ih =>
    intro k hq hk
    have hbl := blks_len (f := kdB) (n0 := (A.length + 3)) (w := 3) (fun _ => rfl) k
    have hlen : (A ++ (.inr (0, [.inl false, .inl false, .inr (some (A.length + 1)), .inr (some (A.length + 2))]) :: ((.inl (4, 6, gA (A.length + 3) 3 k) :: ([.inl (5, 6, fun _ => none)] ++ blks kdB (A.length + 3) 3 k)))) : List mm_H).length = (A.length + 3) + 3 * k := by
      simp only [List.length_append, List.length_cons, List.length_nil, hbl]
      omega
    refine am_iload_n rfl dX0_init_34 ?_
    refine mm_bipush dX0_init_35 (by decide) ?_
    refine mm_jge (tgt := 59) dX0_init_37 (by decide) (by omega) (by omega) (fun h => ?_) (fun h => ?_)
    · have e : k = 6 := by omega
      subst e
      exact kk
    · refine am_aload_n rfl dX0_init_40 ?_
      refine mm_getR (q := A.length + 1) dX0_init_41 fl_X0_20 ap_0 rfl ?_
      refine am_iload_n rfl dX0_init_44 ?_
      refine mm_new (ci := 4) (fd := [.inl false, .inl false, .inr none, .inr none]) (zS_r hz (by rw [hlen]; omega)) tyX4 dX0_init_45 rfl inX4 tyX4_ok cl_X0_18 insX4 iniX4 rfl rfl ?_
      refine am_dup rfl dX0_init_48 ?_
      refine am_cv (mm_IN0 dX0_init_49 in_X4_init rfl rfl mk_X0_30 im_X4_init ⟨Nat.le_of_ble_eq_true rfl, Nat.le_of_ble_eq_true rfl⟩ (Nat.le_of_ble_eq_true rfl)) (n_kind (zS_r hz (by rw [hlen]; omega))) ?_
      refine mm_aas (ci := 4) (t := 1) (n := 6) (g := gA (A.length + 3) 3 k) (fd := [.inl false, .inl false, .inr (some ((A.length + 3) + 3 * k + 1)), .inr (some ((A.length + 3) + 3 * k + 2))]) dX0_init_52 (fun _ => rfl) rfl ?_ ?_ (by omega) (sh' := (A ++ (.inr (0, [.inl false, .inl false, .inr (some (A.length + 1)), .inr (some (A.length + 2))]) :: ((.inl (4, 6, gA (A.length + 3) 3 (k + 1)) :: ([.inl (5, 6, fun _ => none)] ++ blks kdB (A.length + 3) 3 (k + 1))))))) ?_ ?_
      · rw [List.append_assoc]
        exact ap_i 1
      · rw [hlen, ← hlen]
        exact ap_0
      · rw [hlen, List.append_assoc]
        refine (ap_set 1 _).trans ?_
        rw [Int.toNat_natCast, gA_up, show blks kdB (A.length + 3) 3 (k + 1) = blks kdB (A.length + 3) 3 k ++ kdB ((A.length + 3) + 3 * k) from rfl]
        simp only [List.cons_append, List.nil_append, List.append_assoc, List.set_cons_succ, List.set_cons_zero]
      · refine mm_inc1 dX0_init_53 (Nat.le_of_ble_eq_true rfl) (am_c1r _) ?_
        refine am_goto (tgt := 34) dX0_init_56 (by decide) ?_
        exact ih (k + 1) (by omega) (by omega)
set_option maxRecDepth 100000 in
set_option maxHeartbeats 4000000 in
theorem l_bk2 {A : List mm_H} {S : mm_S} (hz : zS S A.length) {Q : Option Value → am_M → Prop} (kk : am_AW eX0_init (mm (A ++ (.inr (0, [.inl false, .inl false, .inr (some (A.length + 1)), .inr (some (A.length + 2))]) :: ([.inl (4, 6, gA (A.length + 3) 3 6)] ++ (.inl (5, 6, gA (A.length + 21) 10 6) :: ((blks kdB (A.length + 3) 3 6) ++ blks rtB (A.length + 21) 10 6))))) S zL) 86 [some (.ref A.length), some (.int (iI (6 : Int)))] [] Q) : ∀ (q k : Nat), 6 - k < q → k ≤ 6 → am_AW eX0_init (mm (A ++ (.inr (0, [.inl false, .inl false, .inr (some (A.length + 1)), .inr (some (A.length + 2))]) :: ([.inl (4, 6, gA (A.length + 3) 3 6)] ++ (.inl (5, 6, gA (A.length + 21) 10 k) :: ((blks kdB (A.length + 3) 3 6) ++ blks rtB (A.length + 21) 10 k))))) S zL) 61 [some (.ref A.length), some (.int (iI (k : Int)))] [] Q := by
  intro q
  induction q with
  | zero => intro k hq; exact absurd hq (Nat.not_lt_zero _)
  | succ q ih =>
    intro k hq hk
    have hbl := blks_len (f := rtB) (n0 := (A.length + 21)) (w := 10) (fun _ => rfl) k
    have hlen : (A ++ (.inr (0, [.inl false, .inl false, .inr (some (A.length + 1)), .inr (some (A.length + 2))]) :: ([.inl (4, 6, gA (A.length + 3) 3 6)] ++ (.inl (5, 6, gA (A.length + 21) 10 k) :: ((blks kdB (A.length + 3) 3 6) ++ blks rtB (A.length + 21) 10 k)))) : List mm_H).length = (A.length + 21) + 10 * k := by
      simp only [List.length_append, List.length_cons, List.length_nil, hbl, blks_len (f := kdB) (n0 := A.length + 3) (w := 3) (fun _ => rfl) 6]
      omega
    refine am_iload_n rfl dX0_init_61 ?_
    refine mm_bipush dX0_init_62 (by decide) ?_
    refine mm_jge (tgt := 86) dX0_init_64 (by decide) (by omega) (by omega) (fun h => ?_) (fun h => ?_)
    · have e : k = 6 := by omega
      subst e
      exact kk
    · refine am_aload_n rfl dX0_init_67 ?_
      refine mm_getR (q := A.length + 2) dX0_init_68 fl_X0_26 ap_0 rfl ?_
      refine am_iload_n rfl dX0_init_71 ?_
      refine mm_new (ci := 6) (fd := [.inl false, .inl false, .inr none, .inr none, .inr none, .inr none, .inr none, .inr none, .inr none, .inr none, .inr none]) (zS_r hz (by rw [hlen]; omega)) tyX6 dX0_init_72 rfl inX6 tyX6_ok cl_X0_24 insX6 iniX6 rfl rfl ?_
      refine am_dup rfl dX0_init_75 ?_
      refine am_cv (mm_IN0 dX0_init_76 in_X6_init rfl rfl mk_X0_31 im_X6_init ⟨Nat.le_of_ble_eq_true rfl, Nat.le_of_ble_eq_true rfl⟩ (Nat.le_of_ble_eq_true rfl)) (n_rout (zS_r hz (by rw [hlen]; omega))) ?_
      refine mm_aas (ci := 6) (t := 2) (n := 6) (g := gA (A.length + 21) 10 k) (fd := [.inl false, .inl false, .inr (some ((A.length + 21) + 10 * k + 1)), .inr (some ((A.length + 21) + 10 * k + 2)), .inr (some ((A.length + 21) + 10 * k + 3)), .inr (some ((A.length + 21) + 10 * k + 4)), .inr (some ((A.length + 21) + 10 * k + 5)), .inr (some ((A.length + 21) + 10 * k + 6)), .inr (some ((A.length + 21) + 10 * k + 7)), .inr (some ((A.length + 21) + 10 * k + 8)), .inr (some ((A.length + 21) + 10 * k + 9))]) dX0_init_79 (fun _ => rfl) rfl ?_ ?_ (by omega) (sh' := (A ++ (.inr (0, [.inl false, .inl false, .inr (some (A.length + 1)), .inr (some (A.length + 2))]) :: ([.inl (4, 6, gA (A.length + 3) 3 6)] ++ (.inl (5, 6, gA (A.length + 21) 10 (k + 1)) :: ((blks kdB (A.length + 3) 3 6) ++ blks rtB (A.length + 21) 10 (k + 1))))))) ?_ ?_
      · rw [List.append_assoc]
        exact ap_i 2
      · rw [hlen, ← hlen]
        exact ap_0
      · rw [hlen, List.append_assoc]
        refine (ap_set 2 _).trans ?_
        rw [Int.toNat_natCast, gA_up, show blks rtB (A.length + 21) 10 (k + 1) = blks rtB (A.length + 21) 10 k ++ rtB ((A.length + 21) + 10 * k) from rfl]
        simp only [List.cons_append, List.nil_append, List.append_assoc, List.set_cons_succ, List.set_cons_zero]
      · refine mm_inc1 dX0_init_80 (Nat.le_of_ble_eq_true rfl) (am_c1r _) ?_
        refine am_goto (tgt := 61) dX0_init_83 (by decide) ?_
        exact ih (k + 1) (by omega) (by omega)
theorem nb_newG {Y : am_Y} {A tl : List mm_H} {o : mm_H} {S : mm_S} {pc nx : Nat} {ls : List (Option Value)} {st : List Value} {Q : Option Value → am_M → Prop} {x : Int} {idx t : Nat} {C : String} {g : Nat → Option Nat} (hg : g = fun _ => none) (hz : zS S A.length) (d : am_at Y pc (.anewarray idx) 3 nx) (ht : ∀ cT, (am_tys cT)[t + 3]? = some (cT (t + 3), .object C)) (hC : C ∈ am_ao) (hw : Cond.classLink Y.1.cls idx C ∈ am_tbl) (hx : 0 ≤ x ∧ x ≤ 1000000) (k : am_AW Y (mm (A ++ (o :: (tl ++ [.inl (t + 3, x.toNat, g)]))) S zL) nx ls (.ref (A.length + (tl.length + 1)) :: st) Q) : am_AW Y (mm (A ++ (o :: tl)) S zL) pc ls (.int (iI x) :: st) Q := by
  subst hg
  exact nb_newA hz d ht hC hw hx k
theorem nb_app {A tl : List mm_H} {o : mm_H} (f : Nat → List mm_H) : (A ++ (o :: tl)) ++ f (A ++ (o :: tl)).length = A ++ (o :: (tl ++ f (A.length + (tl.length + 1)))) := by
  rw [nb_len, List.append_assoc]
  rfl
def bkB (a : Nat) : List mm_H := .inr (0, [.inl false, .inl false, .inr (some (a + 1)), .inr (some (a + 2))]) :: .inl (4, 6, gA (a + 3) 3 6) :: .inl (5, 6, gA (a + 21) 10 6) :: (blks kdB (a + 3) 3 6 ++ blks rtB (a + 21) 10 6)
def bk0 : mm_H := .inr (0, [.inl false, .inl false, .inr none, .inr none])
set_option maxRecDepth 100000 in
set_option maxHeartbeats 4000000 in
theorem n_book {A : List mm_H} {S : mm_S} (hz : zS S A.length) : am_E eX0_init [.ref A.length] (mm (A ++ [bk0]) S zL) (fun r M' => r = none ∧ M' = mm (A ++ bkB A.length) S zL) := by
  refine am_enter rfl rfl (Nat.le_of_ble_eq_true rfl) ?_
  refine am_aload_n rfl dX0_init_0 ?_
  refine am_objInit dX0_init_1 mk_X0_3 im_obj cd_obj (Nat.le_of_ble_eq_true rfl) (Nat.le_of_ble_eq_true rfl) ?_
  refine am_aload_n rfl dX0_init_4 ?_
  refine mm_iconst dX0_init_5 ?_
  refine nb_put0 dX0_init_6 fp_X0_9 rfl (hz _ (Nat.le_refl _) _) ?_
  refine am_aload_n rfl dX0_init_9 ?_
  refine mm_iconst dX0_init_10 ?_
  refine nb_put0 dX0_init_11 fp_X0_15 rfl (hz _ (Nat.le_refl _) _) ?_
  refine am_aload_n rfl dX0_init_14 ?_
  refine mm_bipush dX0_init_15 (by decide) ?_
  refine nb_newG (g := gA (A.length + 3) 3 0) (t := 1) (gA_0 _ _).symm hz dX0_init_17 (fun _ => rfl) (by decide) cl_X0_18 (by decide) ?_
  refine nb_putR dX0_init_20 fp_X0_20 rfl (Nat.le_of_ble_eq_true rfl) (fun _ => rfl) (fun _ => rfl) ?_
  refine am_aload_n rfl dX0_init_23 ?_
  refine mm_bipush dX0_init_24 (by decide) ?_
  refine nb_newG (g := fun _ => none) (t := 2) rfl hz dX0_init_26 (fun _ => rfl) (by decide) cl_X0_24 (by decide) ?_
  refine nb_putR dX0_init_29 fp_X0_26 rfl (Nat.le_of_ble_eq_true rfl) (fun _ => rfl) (fun _ => rfl) ?_
  refine mm_iconst dX0_init_32 ?_
  refine am_ist1 dX0_init_33 (Nat.le_of_ble_eq_true rfl) (am_c1r _) ?_
  refine l_bk1 hz ?_ 7 0 (by decide) (by decide)
  refine mm_iconst dX0_init_59 ?_
  refine am_ist1 dX0_init_60 (Nat.le_of_ble_eq_true rfl) (am_c1r _) ?_
  have e : (A ++ (.inr (0, [.inl false, .inl false, .inr (some (A.length + 1)), .inr (some (A.length + 2))]) :: (.inl (4, 6, gA (A.length + 3) 3 6) :: ([.inl (5, 6, fun _ => none)] ++ blks kdB (A.length + 3) 3 6))) : List mm_H) = A ++ (.inr (0, [.inl false, .inl false, .inr (some (A.length + 1)), .inr (some (A.length + 2))]) :: ([.inl (4, 6, gA (A.length + 3) 3 6)] ++ (.inl (5, 6, gA (A.length + 21) 10 0) :: (blks kdB (A.length + 3) 3 6 ++ blks rtB (A.length + 21) 10 0)))) := by rw [← gA_0]; simp only [blks, List.append_nil, List.cons_append, List.nil_append]
  refine (congrArg (fun z => am_AW eX0_init (mm z S zL) 61 [some (.ref A.length), some (.int (iI 0))] [] _) e).mpr ?_
  refine l_bk2 hz ?_ 7 0 (by decide) (by decide)
  refine am_return dX0_init_86 rfl ?_
  exact ⟨rfl, rfl⟩
