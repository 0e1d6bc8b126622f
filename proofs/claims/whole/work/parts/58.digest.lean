/-! ===== digest ===== -/
def dg2 (t f : Nat → Int) : Nat → Int → Int
  | 0, h => h
  | n + 1, h => 31 * (31 * dg2 t f n h + t n) + f n
def dgS (T F : Nat → Nat → Int) : Nat → Int → Int
  | 0, h => h
  | s + 1, h => dg2 (T s) (F s) 8 (dgS T F s h)
def dgL (f : Nat → Int) : Nat → Int → Int
  | 0, h => h
  | n + 1, h => 31 * dgL f n h + f n
def dgR (f : Nat → Nat → Int) : Nat → Int → Int
  | 0, h => h
  | i + 1, h => dgL (f i) 3 (dgR f i h)
theorem kdF_R {S : mm_S} {a : Nat} {s n : Int} {y : Prop} [Decidable y] (hv : kdV S a) : -1 ≤ kdF S a s n y ∧ kdF S a s n y ≤ 5 := by
  have h1 := hv.2.2.1 (s * 8 + n).toNat
  have h2 := hv.2.2.2 (s * 8 + n).toNat
  unfold kdF
  split
  · split <;> omega
  · omega
abbrev cT (S : mm_S) (a s n : Nat) : Int := kdF S a s n True
abbrev cFa (S : mm_S) (a s n : Nat) : Int := kdF S a s n False
set_option maxRecDepth 100000 in
set_option maxHeartbeats 4000000 in
theorem l_dkn {sh : List mm_H} {S : mm_S} {L : mm_L} {a : Nat} (hk : kdS sh a) (hv : kdV S a) {x : Int64} {h : Int} {s : Nat} {Q : Option Value → am_M → Prop} (hs : s < 6) (hc : am_AW eX4_digestFrom (mm sh S L) 84 [some (.ref a), some (.long x), none, some (.long (lI (dg2 (cT S a s) (cFa S a s) 8 h))), none, some (.int (iI ((s : Nat) : Int))), some (.int (iI ((8 : Nat) : Int)))] [] Q) : ∀ (q : Nat) (n : Nat), 8 - n < q → (n ≤ 8) → am_AW eX4_digestFrom (mm sh S L) 37 [some (.ref a), some (.long x), none, some (.long (lI (dg2 (cT S a s) (cFa S a s) n h))), none, some (.int (iI ((s : Nat) : Int))), some (.int (iI ((n : Nat) : Int)))] [] Q := by
  intro q
  induction q with
  | zero =>
    intro n hq
    exact absurd hq (Nat.not_lt_zero _)
  | succ q ih =>
    intro n hq hn
    obtain ⟨hA, hB, hC⟩ := id hk
    refine am_iload rfl dX4_digestFrom_37 ?_
    refine mm_bipush dX4_digestFrom_39 (by decide) ?_
    refine mm_jge (tgt := 84) dX4_digestFrom_41 (by decide) (by omega) (by omega) (fun h41 => ?_) (fun h41 => ?_)
    · have h8 : n = 8 := by omega
      subst h8
      exact hc
    · refine am_ldc2 cc_X4_41 dX4_digestFrom_44 ?_
      refine am_lload_n rfl dX4_digestFrom_47 ?_
      refine mm_lmul dX4_digestFrom_48 ?_
      refine am_aload_n rfl dX4_digestFrom_49 ?_
      refine am_iload rfl dX4_digestFrom_50 ?_
      refine am_iload rfl dX4_digestFrom_52 ?_
      refine mm_iconst dX4_digestFrom_54 ?_
      refine am_ci (mm_V3 dX4_digestFrom_55 in_X4_after mk_X4_43 im_X4_after sl_X4_after ⟨Nat.le_of_ble_eq_true rfl, Nat.le_of_ble_eq_true rfl⟩ rfl hA (Nat.le_of_ble_eq_true rfl)) (c_after (y := True) hk hv (by omega) (by omega)) ?_
      refine mm_i2l dX4_digestFrom_58 (by have := kdF_R (S := S) (a := a) (s := s) (n := n) (y := True) hv; omega) ?_
      refine mm_ladd dX4_digestFrom_59 ?_
      refine am_lst3 dX4_digestFrom_60 (Nat.le_of_ble_eq_true rfl) am_c1n ?_
      refine am_ldc2 cc_X4_41 dX4_digestFrom_61 ?_
      refine am_lload_n rfl dX4_digestFrom_64 ?_
      refine mm_lmul dX4_digestFrom_65 ?_
      refine am_aload_n rfl dX4_digestFrom_66 ?_
      refine am_iload rfl dX4_digestFrom_67 ?_
      refine am_iload rfl dX4_digestFrom_69 ?_
      refine mm_iconst dX4_digestFrom_71 ?_
      refine am_ci (mm_V3 dX4_digestFrom_72 in_X4_after mk_X4_43 im_X4_after sl_X4_after ⟨Nat.le_of_ble_eq_true rfl, Nat.le_of_ble_eq_true rfl⟩ rfl hA (Nat.le_of_ble_eq_true rfl)) (c_after (y := False) hk hv (by omega) (by omega)) ?_
      refine mm_i2l dX4_digestFrom_75 (by have := kdF_R (S := S) (a := a) (s := s) (n := n) (y := False) hv; omega) ?_
      refine mm_ladd dX4_digestFrom_76 ?_
      refine am_lst3 dX4_digestFrom_77 (Nat.le_of_ble_eq_true rfl) am_c1n ?_
      refine mm_inc6 dX4_digestFrom_78 (Nat.le_of_ble_eq_true rfl) (am_c1i _) ?_
      refine am_goto (tgt := 37) dX4_digestFrom_81 (by decide) ?_
      exact ih (n + 1) (by omega) (by omega)
set_option maxRecDepth 100000 in
set_option maxHeartbeats 4000000 in
theorem l_dks {sh : List mm_H} {S : mm_S} {L : mm_L} {a : Nat} (hk : kdS sh a) (hv : kdV S a) {x : Int64} {h : Int} : ∀ (q : Nat) (s : Nat), (S a 0).toNat - s < q → ((s : Int) ≤ S a 0) → am_AW eX4_digestFrom (mm sh S L) 25 [some (.ref a), some (.long x), none, some (.long (lI (dgS (cT S a) (cFa S a) s h))), none, some (.int (iI ((s : Nat) : Int))), none] [] (fun r M' => r = some (.long (lI (dgS (cT S a) (cFa S a) (S a 0).toNat h))) ∧ M' = mm sh S L) := by
  intro q
  induction q with
  | zero =>
    intro s hq
    exact absurd hq (Nat.not_lt_zero _)
  | succ q ih =>
    intro s hq hs
    obtain ⟨hA, hB, hC⟩ := id hk
    have v0 := hv.1
    refine am_iload rfl dX4_digestFrom_25 ?_
    refine am_aload_n rfl dX4_digestFrom_27 ?_
    refine mm_getI dX4_digestFrom_28 fl_X4_9 hA rfl ?_
    refine mm_jge (tgt := 90) dX4_digestFrom_31 (by decide) (by omega) (by omega) (fun h31 => ?_) (fun h31 => ?_)
    · refine am_lload_n rfl dX4_digestFrom_90 ?_
      refine am_lreturn dX4_digestFrom_91 rfl ?_
      exact ⟨by rw [show (S a 0).toNat = s by omega], rfl⟩
    · refine mm_iconst dX4_digestFrom_34 ?_
      refine am_ist6 dX4_digestFrom_35 (Nat.le_of_ble_eq_true rfl) (am_c1i _) ?_
      refine l_dkn (h := dgS (cT S a) (cFa S a) s h) hk hv (by omega) ?_ 9 0 (by omega) (by omega)
      refine mm_inc5 dX4_digestFrom_84 (Nat.le_of_ble_eq_true rfl) am_c1n ?_
      refine am_goto (tgt := 25) dX4_digestFrom_87 (by decide) ?_
      exact am_AW.unset 6 (ih (s + 1) (by omega) (by omega))
set_option maxRecDepth 100000 in
set_option maxHeartbeats 4000000 in
theorem c_kindDigest {sh : List mm_H} {S : mm_S} {L : mm_L} {a : Nat} (hk : kdS sh a) (hv : kdV S a) {h : Int} : am_E eX4_digestFrom [.ref a, .long (lI h)] (mm sh S L) (fun r M' => r = some (.long (lI (dgS (cT S a) (cFa S a) (S a 0).toNat (31 * (31 * h + S a 0) + S a 1)))) ∧ M' = mm sh S L) := by
  obtain ⟨hA, hB, hC⟩ := id hk
  have v0 := hv.1
  have v1 := hv.2.1
  refine am_enter rfl rfl (Nat.le_of_ble_eq_true rfl) ?_
  refine am_ldc2 cc_X4_41 dX4_digestFrom_0 ?_
  refine am_ldc2 cc_X4_41 dX4_digestFrom_3 ?_
  refine am_lload_n rfl dX4_digestFrom_6 ?_
  refine mm_lmul dX4_digestFrom_7 ?_
  refine am_aload_n rfl dX4_digestFrom_8 ?_
  refine mm_getI dX4_digestFrom_9 fl_X4_9 hA rfl ?_
  refine mm_i2l dX4_digestFrom_12 (by omega) ?_
  refine mm_ladd dX4_digestFrom_13 ?_
  refine mm_lmul dX4_digestFrom_14 ?_
  refine am_aload_n rfl dX4_digestFrom_15 ?_
  refine mm_getI dX4_digestFrom_16 fl_X4_15 hA rfl ?_
  refine mm_i2l dX4_digestFrom_19 (by omega) ?_
  refine mm_ladd dX4_digestFrom_20 ?_
  refine am_lst3 dX4_digestFrom_21 (Nat.le_of_ble_eq_true rfl) am_c1n ?_
  refine mm_iconst dX4_digestFrom_22 ?_
  refine am_ist5 dX4_digestFrom_23 (Nat.le_of_ble_eq_true rfl) am_c1n ?_
  exact l_dks hk hv 7 0 (by omega) (by omega)
abbrev cP (S : mm_S) (a i w : Nat) : Int := partR S a i w
theorem partR_R {S : mm_S} {a : Nat} {i w : Int} (h : rtI S a) : -1 ≤ partR S a i w ∧ partR S a i w ≤ 15 := by
  have := h.2.2.2.2 i.toNat
  unfold partR
  split
  · split
    · omega
    · split <;> omega
  · omega
set_option maxRecDepth 100000 in
set_option maxHeartbeats 4000000 in
theorem l_drw {sh : List mm_H} {S : mm_S} {L : mm_L} {a : Nat} (hr : rtS sh a) (hR : rtI S a) {x : Int64} {h : Int} {i : Nat} {Q : Option Value → am_M → Prop} (hi : i < 24) (hc : am_AW eX6_digestFrom (mm sh S L) 55 [some (.ref a), some (.long x), none, some (.long (lI (dgL (cP S a i) 3 h))), none, some (.int (iI ((i : Nat) : Int))), some (.int (iI ((3 : Nat) : Int)))] [] Q) : ∀ (q : Nat) (w : Nat), 3 - w < q → (w ≤ 3) → am_AW eX6_digestFrom (mm sh S L) 27 [some (.ref a), some (.long x), none, some (.long (lI (dgL (cP S a i) w h))), none, some (.int (iI ((i : Nat) : Int))), some (.int (iI ((w : Nat) : Int)))] [] Q := by
  intro q
  induction q with
  | zero =>
    intro w hq
    exact absurd hq (Nat.not_lt_zero _)
  | succ q ih =>
    intro w hq hw
    obtain ⟨hr0, hr1, hr2, hr3, hr4, hr5, hr6, hr7, hr8, hr9⟩ := id hr
    refine am_iload rfl dX6_digestFrom_27 ?_
    refine mm_iconst dX6_digestFrom_29 ?_
    refine mm_jge (tgt := 55) dX6_digestFrom_30 (by decide) (by omega) (by omega) (fun h30 => ?_) (fun h30 => ?_)
    · have h8 : w = 3 := by omega
      subst h8
      exact hc
    · refine am_ldc2 cc_X6_73 dX6_digestFrom_33 ?_
      refine am_lload_n rfl dX6_digestFrom_36 ?_
      refine mm_lmul dX6_digestFrom_37 ?_
      refine am_aload_n rfl dX6_digestFrom_38 ?_
      refine am_iload rfl dX6_digestFrom_39 ?_
      refine am_iload rfl dX6_digestFrom_41 ?_
      refine am_ci (mm_V2 dX6_digestFrom_43 in_X6_part mk_X6_75 im_X6_part sl_X6_part ⟨Nat.le_of_ble_eq_true rfl, Nat.le_of_ble_eq_true rfl⟩ rfl hr0 (Nat.le_of_ble_eq_true rfl)) (c_part hr hR.1 (by omega) (by omega)) ?_
      refine mm_i2l dX6_digestFrom_46 (by have := partR_R (S := S) (a := a) (i := i) (w := w) hR; omega) ?_
      refine mm_ladd dX6_digestFrom_47 ?_
      refine am_lst3 dX6_digestFrom_48 (Nat.le_of_ble_eq_true rfl) am_c1n ?_
      refine mm_inc6 dX6_digestFrom_49 (Nat.le_of_ble_eq_true rfl) (am_c1i _) ?_
      refine am_goto (tgt := 27) dX6_digestFrom_52 (by decide) ?_
      exact ih (w + 1) (by omega) (by omega)
set_option maxRecDepth 100000 in
set_option maxHeartbeats 4000000 in
theorem l_dri {sh : List mm_H} {S : mm_S} {L : mm_L} {a : Nat} (hr : rtS sh a) (hR : rtI S a) {x : Int64} {h : Int} : ∀ (q : Nat) (i : Nat), (S a 0).toNat - i < q → ((i : Int) ≤ S a 0) → am_AW eX6_digestFrom (mm sh S L) 15 [some (.ref a), some (.long x), none, some (.long (lI (dgR (cP S a) i h))), none, some (.int (iI ((i : Nat) : Int))), none] [] (fun r M' => r = some (.long (lI (dgR (cP S a) (S a 0).toNat h))) ∧ M' = mm sh S L) := by
  intro q
  induction q with
  | zero =>
    intro i hq
    exact absurd hq (Nat.not_lt_zero _)
  | succ q ih =>
    intro i hq hi
    obtain ⟨hr0, hr1, hr2, hr3, hr4, hr5, hr6, hr7, hr8, hr9⟩ := id hr
    have v0 := hR.1
    refine am_iload rfl dX6_digestFrom_15 ?_
    refine am_aload_n rfl dX6_digestFrom_17 ?_
    refine mm_getI dX6_digestFrom_18 fl_X6_9 hr0 rfl ?_
    refine mm_jge (tgt := 61) dX6_digestFrom_21 (by decide) (by omega) (by omega) (fun h21 => ?_) (fun h21 => ?_)
    · refine am_lload_n rfl dX6_digestFrom_61 ?_
      refine am_lreturn dX6_digestFrom_62 rfl ?_
      exact ⟨by rw [show (S a 0).toNat = i by omega], rfl⟩
    · refine mm_iconst dX6_digestFrom_24 ?_
      refine am_ist6 dX6_digestFrom_25 (Nat.le_of_ble_eq_true rfl) (am_c1i _) ?_
      refine l_drw (h := dgR (cP S a) i h) hr hR (by omega) ?_ 4 0 (by omega) (by omega)
      refine mm_inc5 dX6_digestFrom_55 (Nat.le_of_ble_eq_true rfl) am_c1n ?_
      refine am_goto (tgt := 15) dX6_digestFrom_58 (by decide) ?_
      exact am_AW.unset 6 (ih (i + 1) (by omega) (by omega))
set_option maxRecDepth 100000 in
set_option maxHeartbeats 4000000 in
theorem c_routineDigest {sh : List mm_H} {S : mm_S} {L : mm_L} {a : Nat} (hr : rtS sh a) (hR : rtI S a) {h : Int} : am_E eX6_digestFrom [.ref a, .long (lI h)] (mm sh S L) (fun r M' => r = some (.long (lI (dgR (cP S a) (S a 0).toNat (31 * h + S a 0)))) ∧ M' = mm sh S L) := by
  obtain ⟨hr0, hr1, hr2, hr3, hr4, hr5, hr6, hr7, hr8, hr9⟩ := id hr
  have v0 := hR.1
  refine am_enter rfl rfl (Nat.le_of_ble_eq_true rfl) ?_
  refine am_ldc2 cc_X6_73 dX6_digestFrom_0 ?_
  refine am_lload_n rfl dX6_digestFrom_3 ?_
  refine mm_lmul dX6_digestFrom_4 ?_
  refine am_aload_n rfl dX6_digestFrom_5 ?_
  refine mm_getI dX6_digestFrom_6 fl_X6_9 hr0 rfl ?_
  refine mm_i2l dX6_digestFrom_9 (by omega) ?_
  refine mm_ladd dX6_digestFrom_10 ?_
  refine am_lst3 dX6_digestFrom_11 (Nat.le_of_ble_eq_true rfl) am_c1n ?_
  refine mm_iconst dX6_digestFrom_12 ?_
  refine am_ist5 dX6_digestFrom_13 (Nat.le_of_ble_eq_true rfl) am_c1n ?_
  exact l_dri hr hR 25 0 (by omega) (by omega)
