/-! ===== the judge forgets ===== -/
theorem wI_z {f : Nat → Int} {x : Nat} (h : f x = 0) : ∀ w, wI f x w = 0
  | 0 => rfl
  | w + 1 => by
    simp only [wI]
    rw [wI_z h w, h, Int.zero_ediv]
    rfl
theorem wO_z {f : Nat → Int} : ∀ n, (∀ x, x < n → f x = 0) → wO f n = 0
  | 0, _ => rfl
  | n + 1, h => by
    simp only [wO]
    rw [wO_z n (fun x hx => h x (by omega)), wI_z (h n (by omega))]
    rfl
theorem im_0 {S : mm_S} {L : mm_L} {p1 p2 p3 n : Nat} (hn : 0 < n) (h1 : S 85 1 = 0) (h2 : S 85 2 = 0) (h8 : S 85 8 = 0) (h0 : S 85 0 = 0 ∨ S 85 0 = 1) (h86 : S 86 0 = 0) (h3 : ∀ t, t < 2 * n → S p3 t = 0) (h91 : ∀ q, q < 433 → S 91 q = -1) (h92 : ∀ x, x < 150 → S 92 x = 0) (hs : scV S 94) : imC S L p1 p2 p3 n := by
  refine ⟨⟨by omega, ?_, fun i j hi => by omega⟩, fun i hi => by omega, ⟨by omega, fun c hc => by omega⟩, ⟨fun q hq => ?_, fun c hc => by omega⟩, ⟨fun x hx => by rw [h92 x hx]; omega, by rw [h2, wO_z 150 h92]⟩, ⟨by omega, fun k hk => by omega, fun k l hk => by omega, fun c b hc => by omega⟩, h0, hs⟩
  · rw [h86]
    exact tb_empty (by omega) h3
  · rw [h91 q hq]
    exact ⟨by omega, by omega, fun z => absurd rfl z⟩
set_option maxRecDepth 100000 in
set_option maxHeartbeats 4000000 in
theorem c_jclear {sh : List mm_H} {S : mm_S} {L : mm_L} {p1 p2 p3 n : Nat} (jh : jsH sh) (hpl : plS sh p1 p2 p3 n) (hD : plD p1 p2 p3 n) (h0 : S 85 0 = 0 ∨ S 85 0 = 1) (hs : scV S 94) : am_E eX3_clear [.ref 85] (mm sh S L) (fun r0 M' => r0 = none ∧ ∃ S', M' = mm sh S' L ∧ imC S' L p1 p2 p3 n ∧ cbF S S' ∧ S' 85 0 = S 85 0 ∧ S' 85 1 = 0 ∧ S' 86 0 = 0 ∧ ∀ x, x < 150 → S' 92 x = 0) := by
  refine am_enter rfl rfl (Nat.le_of_ble_eq_true rfl) ?_
  refine am_aload_n rfl dX3_clear_0 ?_
  refine mm_iconst dX3_clear_1 ?_
  refine mm_putI dX3_clear_2 fp_X3_15 jh.1 rfl ?_
  refine am_aload_n rfl dX3_clear_5 ?_
  refine mm_iconst dX3_clear_6 ?_
  refine mm_putI dX3_clear_7 fp_X3_19 jh.1 rfl ?_
  refine am_aload_n rfl dX3_clear_10 ?_
  refine mm_iconst dX3_clear_11 ?_
  refine mm_putI dX3_clear_12 fp_X3_45 jh.1 rfl ?_
  refine am_aload_n rfl dX3_clear_15 ?_
  refine mm_getR dX3_clear_16 fl_X3_25 jh.1 rfl ?_
  refine am_cv (mm_V0 dX3_clear_19 in_X5_clear mk_X3_62 im_X5_clear sl_X5_clear ⟨Nat.le_of_ble_eq_true rfl, Nat.le_of_ble_eq_true rfl⟩ rfl hpl.1 (Nat.le_of_ble_eq_true rfl)) (c_plClear (N := 0) hpl hD) ?_
  refine am_aload_n rfl dX3_clear_22 ?_
  refine mm_getR dX3_clear_23 fl_X3_35 jh.1 rfl ?_
  refine mm_iconst dX3_clear_26 ?_
  refine am_cv (mm_S2 dX3_clear_27 in_J7_fill_53178 mk_X3_56 st_J7_fill_53178 ⟨Nat.le_of_ble_eq_true rfl, Nat.le_of_ble_eq_true rfl⟩ (Nat.le_of_ble_eq_true rfl)) (c_fill jh.2.2.1 (by omega)) ?_
  refine am_aload_n rfl dX3_clear_30 ?_
  refine mm_getR dX3_clear_31 fl_X3_39 jh.1 rfl ?_
  refine mm_iconst dX3_clear_34 ?_
  refine am_cv (mm_S2 dX3_clear_35 in_J7_fill_53178 mk_X3_56 st_J7_fill_53178 ⟨Nat.le_of_ble_eq_true rfl, Nat.le_of_ble_eq_true rfl⟩ (Nat.le_of_ble_eq_true rfl)) (c_fill jh.2.2.2.1 (by omega)) ?_
  refine am_return dX3_clear_38 rfl ?_
  have hn := plD_n hD
  obtain ⟨⟨d1, d2, d3⟩, d4, -⟩ := id hD
  generalize hU : fillS (fillS (fillS (up2 (up2 (up2 (up2 S 85 1 0) 85 2 0) 85 8 0) 86 0 0) p3 (2 * n) 0) 91 433 (-1)) 92 150 0 = U
  have e : ∀ b, b ≠ 85 → b ≠ 86 → b ≠ p3 → b ≠ 91 → b ≠ 92 → U b = S b := fun b x1 x2 x3 x4 x5 => by
    rw [← hU]
    funext j
    simp only [fillS, x3, x4, x5, false_and, if_false]
    rw [up2_rd x2, up2_rd x1, up2_rd x1, up2_rd x1]
  have e5 : ∀ j, U 85 j = up2 (up2 (up2 S 85 1 0) 85 2 0) 85 8 0 85 j := fun j => by
    rw [← hU]
    simp only [fillS, show (85 : Nat) ≠ 92 by omega, show (85 : Nat) ≠ 91 by omega, show 85 ≠ p3 by omega, false_and, if_false]
    rw [up2_rd (by omega)]
  have e6 : U 86 0 = 0 := by
    rw [← hU]
    simp only [fillS, show (86 : Nat) ≠ 92 by omega, show (86 : Nat) ≠ 91 by omega, show 86 ≠ p3 by omega, false_and, if_false]
    rw [up2_same]
  have e3 : ∀ t, t < 2 * n → U p3 t = 0 := fun t ht => by
    rw [← hU]
    simp only [fillS, show p3 ≠ 92 by omega, show p3 ≠ 91 by omega, false_and, if_false, ht, true_and, if_true]
  have e91 : ∀ q, q < 433 → U 91 q = -1 := fun q hq => by
    rw [← hU]
    simp only [fillS, show (91 : Nat) ≠ 92 by omega, false_and, if_false, hq, true_and, if_true]
  have e92 : ∀ q, q < 150 → U 92 q = 0 := fun q hq => by
    rw [← hU]
    simp only [fillS, hq, true_and, if_true]
  have x0 : U 85 0 = S 85 0 := by rw [e5, up2_rc (by omega), up2_rc (by omega), up2_rc (by omega)]
  have x1 : U 85 1 = 0 := by rw [e5, up2_rc (by omega), up2_rc (by omega), up2_same]
  have x2 : U 85 2 = 0 := by rw [e5, up2_rc (by omega), up2_same]
  have x8 : U 85 8 = 0 := by rw [e5, up2_same]
  refine ⟨rfl, U, rfl, im_0 (by omega) x1 x2 x8 (by rw [x0]; exact h0) e6 e3 e91 e92 ?_, fun b hb => e b (by omega) (by omega) (by omega) (by omega) (by omega), x0, x1, e6, e92⟩
  unfold scV at *
  rw [e 94 (by omega) (by omega) (by omega) (by omega) (by omega), e (94 + 1) (by omega) (by omega) (by omega) (by omega) (by omega), e (94 + 2) (by omega) (by omega) (by omega) (by omega) (by omega), e (94 + 3) (by omega) (by omega) (by omega) (by omega) (by omega)]
  exact hs
