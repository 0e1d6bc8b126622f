set_option maxRecDepth 100000 in
set_option maxHeartbeats 4000000 in
theorem l_gn277 {sh : List mm_H} {S2 : mm_S} {L : mm_L} {a ro : Nat} {w : Int} {l2 l4 l5 l6 l8 : Option Value} {Q : Option Value → am_M → Prop} (hc : scS sh a) (hr : rtS sh ro) (ha : ro + 9 < a) (hm : 0 ≤ S2 a 2 ∧ S2 a 2 < 4096) (hw : 0 ≤ w ∧ w ≤ 24) (hk : 0 ≤ S2 (ro + 7) w.toNat ∧ S2 (ro + 7) w.toNat < 4096) (hQ : Q (some (.int (iI 1))) (mm sh (cmT S2 a ro w) L)) : am_AW eX8_goOn (mm sh S2 L) 277 [some (.ref a), some (.ref 1), l2, some (.ref ro), l4, l5, l6, some (.int (iI w)), l8] [] Q := by
  obtain ⟨hc0, hc1, hc2, hc3⟩ := id hc
  refine am_aload_n rfl dX8_goOn_277 ?_
  refine am_aload_n rfl dX8_goOn_278 ?_
  refine am_iload rfl dX8_goOn_279 ?_
  refine am_cv (mm_V2 dX8_goOn_281 in_X8_comeTo mk_X8_125 im_X8_comeTo sl_X8_comeTo ⟨Nat.le_of_ble_eq_true rfl, Nat.le_of_ble_eq_true rfl⟩ rfl hc0 (Nat.le_of_ble_eq_true rfl)) (c_comeTo hc hr (by omega) (by omega) hm hw hk) ?_
  refine mm_iconst dX8_goOn_284 ?_
  refine am_ireturn dX8_goOn_285 rfl rfl ?_
  exact hQ
set_option maxRecDepth 100000 in
set_option maxHeartbeats 4000000 in
theorem c_goOn {sh : List mm_H} {S : mm_S} {L : mm_L} {a : Nat} (hc : scS sh a) (hV : scV S a) (hK : scK S a) (hb : bkS sh) (hbv : bkV S) {ro : Nat} (hro : ro = 22 + 10 * (S a 0).toNat) (hO : rtO S ro) (hR : rtI S ro) (hl : S a 1 < S ro 0) (hT : rtT S ro) (ha : ro + 9 < a) {y0 : Prop} [Decidable y0] (hw : wAh S a ro = 0) : am_E eX8_goOn [.ref a, .ref 1, .int (iI (b2 y0))] (mm sh S L) (fun r M' => r = some (.int (iI (gnP S a ro y0).1)) ∧ M' = mm sh (gnP S a ro y0).2 L) := by
  obtain ⟨hc0, hc1, hc2, hc3⟩ := id hc
  obtain ⟨v0, v1, v2, v3, v4⟩ := id hV
  obtain ⟨hB1, hB2, hB3, hB4, hB5⟩ := id hb
  obtain ⟨w0, w1, w2, w3⟩ := id hbv
  obtain ⟨hr0, hr1, hr2, hr3, hr4, hr5, hr6, hr7, hr8, hr9⟩ := (show rtS sh ro by rw [hro]; exact hB5 (S a 0).toNat (by omega))
  have hl24 := hR.1
  have gR := hR.2.2.2.2 (S a 1).toNat
  have gO := hO (S a 1).toNat (by omega)
  have hrS : rtS sh ro := ⟨hr0, hr1, hr2, hr3, hr4, hr5, hr6, hr7, hr8, hr9⟩
  have t1 := hT.1 (S a 1).toNat (by omega)
  obtain ⟨x, hx⟩ : ∃ x, S (ro + 1) (S a 1).toNat = x := ⟨_, rfl⟩
  obtain ⟨y, hy⟩ : ∃ y, S (ro + 2) (S a 1).toNat = y := ⟨_, rfl⟩
  obtain ⟨z, hz⟩ : ∃ z, S (ro + 3) (S a 1).toNat = z := ⟨_, rfl⟩
  rw [hx, hy, hz] at gR
  rw [hx, hy, hz] at gO
  refine am_enter rfl rfl (Nat.le_of_ble_eq_true rfl) ?_
  refine am_aload_n rfl dX8_goOn_0 ?_
  refine mm_getR dX8_goOn_1 fl_X8_49 hB1 rfl ?_
  refine am_aload_n rfl dX8_goOn_4 ?_
  refine mm_getI dX8_goOn_5 fl_X8_11 hc0 rfl ?_
  refine mm_aal dX8_goOn_8 (fun _ => rfl) hB3 ⟨by omega, by omega, by omega⟩ (show rArr _ = some ro by rw [rArr_at (by omega), hro]) ?_
  refine am_ast3 dX8_goOn_9 (Nat.le_of_ble_eq_true rfl) (am_c1i _) ?_
  refine am_aload_n rfl dX8_goOn_10 ?_
  refine mm_getR dX8_goOn_11 fl_X8_55 hr0 rfl ?_
  refine am_aload_n rfl dX8_goOn_14 ?_
  refine mm_getI dX8_goOn_15 fl_X8_15 hc0 rfl ?_
  refine mm_ial dX8_goOn_18 hr2 (by omega) ?_
  rw [hy]
  refine am_ist4 dX8_goOn_19 (Nat.le_of_ble_eq_true rfl) (am_c1r _) ?_
  refine am_aload_n rfl dX8_goOn_21 ?_
  refine mm_getR dX8_goOn_22 fl_X8_60 hr0 rfl ?_
  refine am_aload_n rfl dX8_goOn_25 ?_
  refine mm_getI dX8_goOn_26 fl_X8_15 hc0 rfl ?_
  refine mm_ial dX8_goOn_29 hr3 (by omega) ?_
  rw [hz]
  refine am_ist5 dX8_goOn_30 (Nat.le_of_ble_eq_true rfl) (am_c1i _) ?_
  refine am_aload_n rfl dX8_goOn_32 ?_
  refine mm_getR dX8_goOn_33 fl_X8_63 hr0 rfl ?_
  refine am_aload_n rfl dX8_goOn_36 ?_
  refine mm_getI dX8_goOn_37 fl_X8_15 hc0 rfl ?_
  refine mm_ial dX8_goOn_40 hr1 (by omega) ?_
  rw [hx]
  refine am_ist6 dX8_goOn_41 (Nat.le_of_ble_eq_true rfl) (am_c1i _) ?_
  refine am_aload_n rfl dX8_goOn_43 ?_
  refine mm_getI dX8_goOn_44 fl_X8_15 hc0 rfl ?_
  refine mm_iconst dX8_goOn_47 ?_
  refine mm_iadd dX8_goOn_48 ?_
  refine am_ist7 dX8_goOn_49 (Nat.le_of_ble_eq_true rfl) (am_c1i _) ?_
  refine am_iload rfl dX8_goOn_51 ?_
  rcases (show (x < 0 ∨ 13 < x) ∨ (x = 0) ∨ (x = 1 ∨ x = 2 ∨ x = 5) ∨ (x = 3 ∨ x = 4) ∨ (x = 6) ∨ (x = 7) ∨ (x = 8) ∨ (x = 9) ∨ (x = 10 ∨ x = 11) ∨ (x = 12) ∨ (x = 13) by omega) with h53 | h53 | h53 | h53 | h53 | h53 | h53 | h53 | h53 | h53 | h53
  · refine mm_tout (tgt := 277) dX8_goOn_53 (by omega) (by omega) (by decide) ?_
    first
      | (refine l_gn277 hc hrS ha (by rw [mkS_rd (by omega)]; exact v2) (by omega) (by rw [mkS_rd (by omega)]; exact hT.2 _ (by omega)) ?_; simp only [gnP, hx, hy, hz]; rw [if_pos (by omega)]; exact ⟨rfl, rfl⟩)
      | (refine l_gn277 hc hrS ha (by rw [usS_rd (by omega)]; exact v2) (by omega) (by rw [usS_rd (by omega)]; exact hT.2 _ (by omega)) ?_; simp only [gnP, hx, hy, hz]; rw [if_neg (by omega), if_pos (by omega)]; first | (rw [if_pos (show x ≠ 1 ∧ ¬ y0 from ⟨by omega, by assumption⟩)]; exact ⟨rfl, rfl⟩) | (rw [if_neg (show ¬ (x ≠ 1 ∧ ¬ y0) from fun q => by first | exact q.2 (by assumption) | (have := q.1; omega))]; exact ⟨rfl, rfl⟩))
      | (refine l_gn277 hc hrS ha v2 (by omega) (hT.2 _ (by omega)) ?_; simp only [gnP, hx, hy, hz]; rw [if_neg (by omega), if_neg (by omega), if_pos (by omega)]; first | (rw [if_pos (show ¬ y0 by assumption)]; exact ⟨rfl, rfl⟩) | (rw [if_neg (show ¬ ¬ y0 from fun q => q (by assumption))]; exact ⟨rfl, rfl⟩))
      | (refine l_gn277 hc hrS ha v2 (by omega) (hT.2 _ (by omega)) ?_; simp only [gnP, hx, hy, hz]; rw [if_neg (by omega), if_neg (by omega), if_neg (by omega), if_pos (by omega)]; exact ⟨rfl, rfl⟩)
      | (refine l_gn277 hc hrS ha v2 (by omega) (hT.2 _ (by omega)) ?_; simp only [gnP, hx, hy, hz]; rw [if_neg (by omega), if_neg (by omega), if_neg (by omega), if_neg (by omega), if_pos (by omega), if_neg (by omega)]; exact ⟨rfl, rfl⟩)
      | (refine l_gn277 hc hrS ha (by rw [up2_rd (by omega)]; exact v2) (by omega) (by rw [up2_rd (by omega)]; exact hT.2 _ (by omega)) ?_; simp only [gnP, hx, hy, hz]; rw [if_neg (by omega), if_neg (by omega), if_neg (by omega), if_neg (by omega), if_neg (by omega), if_pos (by omega)]; exact ⟨rfl, rfl⟩)
      | (refine l_gn277 hc hrS ha (by rw [up2_rd (by omega)]; exact v2) (by omega) (by rw [up2_rd (by omega)]; exact hT.2 _ (by omega)) ?_; simp only [gnP, hx, hy, hz]; rw [if_neg (by omega), if_neg (by omega), if_neg (by omega), if_neg (by omega), if_neg (by omega), if_neg (by omega), if_pos (by omega)]; exact ⟨rfl, rfl⟩)
      | (refine l_gn277 hc hrS ha v2 (by omega) (hT.2 _ (by omega)) ?_; simp only [gnP, hx, hy, hz]; rw [if_neg (by omega), if_neg (by omega), if_neg (by omega), if_neg (by omega), if_neg (by omega), if_neg (by omega), if_neg (by omega), if_neg (by omega), if_neg (by omega)]; exact ⟨rfl, rfl⟩)
  · refine mm_tsw (tgt := 124) (off := 71) [0] dX8_goOn_53 (by simp only [List.mem_cons, List.mem_nil_iff, or_false]; omega) (by decide) (by decide) ?_
    refine am_aload_n rfl dX8_goOn_124 ?_
    refine am_iload rfl dX8_goOn_125 ?_
    refine am_iload rfl dX8_goOn_127 ?_
    refine am_cv (mm_V2 dX8_goOn_129 in_X8_makeThing mk_X8_107 im_X8_makeThing sl_X8_makeThing ⟨Nat.le_of_ble_eq_true rfl, Nat.le_of_ble_eq_true rfl⟩ rfl hc0 (Nat.le_of_ble_eq_true rfl)) (c_makeThing hc v3 (by omega)) ?_
    refine am_goto (tgt := 277) dX8_goOn_132 (by decide) ?_
    first
      | (refine l_gn277 hc hrS ha (by rw [mkS_rd (by omega)]; exact v2) (by omega) (by rw [mkS_rd (by omega)]; exact hT.2 _ (by omega)) ?_; simp only [gnP, hx, hy, hz]; rw [if_pos (by omega)]; exact ⟨rfl, rfl⟩)
      | (refine l_gn277 hc hrS ha (by rw [usS_rd (by omega)]; exact v2) (by omega) (by rw [usS_rd (by omega)]; exact hT.2 _ (by omega)) ?_; simp only [gnP, hx, hy, hz]; rw [if_neg (by omega), if_pos (by omega)]; first | (rw [if_pos (show x ≠ 1 ∧ ¬ y0 from ⟨by omega, by assumption⟩)]; exact ⟨rfl, rfl⟩) | (rw [if_neg (show ¬ (x ≠ 1 ∧ ¬ y0) from fun q => by first | exact q.2 (by assumption) | (have := q.1; omega))]; exact ⟨rfl, rfl⟩))
      | (refine l_gn277 hc hrS ha v2 (by omega) (hT.2 _ (by omega)) ?_; simp only [gnP, hx, hy, hz]; rw [if_neg (by omega), if_neg (by omega), if_pos (by omega)]; first | (rw [if_pos (show ¬ y0 by assumption)]; exact ⟨rfl, rfl⟩) | (rw [if_neg (show ¬ ¬ y0 from fun q => q (by assumption))]; exact ⟨rfl, rfl⟩))
      | (refine l_gn277 hc hrS ha v2 (by omega) (hT.2 _ (by omega)) ?_; simp only [gnP, hx, hy, hz]; rw [if_neg (by omega), if_neg (by omega), if_neg (by omega), if_pos (by omega)]; exact ⟨rfl, rfl⟩)
      | (refine l_gn277 hc hrS ha v2 (by omega) (hT.2 _ (by omega)) ?_; simp only [gnP, hx, hy, hz]; rw [if_neg (by omega), if_neg (by omega), if_neg (by omega), if_neg (by omega), if_pos (by omega), if_neg (by omega)]; exact ⟨rfl, rfl⟩)
      | (refine l_gn277 hc hrS ha (by rw [up2_rd (by omega)]; exact v2) (by omega) (by rw [up2_rd (by omega)]; exact hT.2 _ (by omega)) ?_; simp only [gnP, hx, hy, hz]; rw [if_neg (by omega), if_neg (by omega), if_neg (by omega), if_neg (by omega), if_neg (by omega), if_pos (by omega)]; exact ⟨rfl, rfl⟩)
      | (refine l_gn277 hc hrS ha (by rw [up2_rd (by omega)]; exact v2) (by omega) (by rw [up2_rd (by omega)]; exact hT.2 _ (by omega)) ?_; simp only [gnP, hx, hy, hz]; rw [if_neg (by omega), if_neg (by omega), if_neg (by omega), if_neg (by omega), if_neg (by omega), if_neg (by omega), if_pos (by omega)]; exact ⟨rfl, rfl⟩)
      | (refine l_gn277 hc hrS ha v2 (by omega) (hT.2 _ (by omega)) ?_; simp only [gnP, hx, hy, hz]; rw [if_neg (by omega), if_neg (by omega), if_neg (by omega), if_neg (by omega), if_neg (by omega), if_neg (by omega), if_neg (by omega), if_neg (by omega), if_neg (by omega)]; exact ⟨rfl, rfl⟩)
  · refine mm_tsw (tgt := 135) (off := 82) [1, 2, 5] dX8_goOn_53 (by simp only [List.mem_cons, List.mem_nil_iff, or_false]; omega) (by decide) (by decide) ?_
    refine am_aload_n rfl dX8_goOn_135 ?_
    refine am_aload_n rfl dX8_goOn_136 ?_
    refine am_iload rfl dX8_goOn_137 ?_
    refine am_iload rfl dX8_goOn_139 ?_
    refine am_iload_n rfl dX8_goOn_141 ?_
    have hn1 : S (a + 1) y.toNat ≠ -1 := by
      intro q
      rw [wAh, hx, hy, hz, if_pos (by omega), wUse, if_pos q] at hw
      omega
    refine am_cv (mm_V4 dX8_goOn_142 in_X8_useThing mk_X8_110 im_X8_useThing sl_X8_useThing ⟨Nat.le_of_ble_eq_true rfl, Nat.le_of_ble_eq_true rfl⟩ rfl hc0 (Nat.le_of_ble_eq_true rfl)) (c_useThing hc hV hK hb hbv (by omega) hn1 (by omega)) ?_
    refine am_iload rfl dX8_goOn_145 ?_
    refine mm_iconst dX8_goOn_147 ?_
    refine mm_jeq (tgt := 277) dX8_goOn_148 (by decide) (by omega) (by omega) (fun h148 => ?_) (fun h148 => ?_)
    · first
        | (refine l_gn277 hc hrS ha (by rw [mkS_rd (by omega)]; exact v2) (by omega) (by rw [mkS_rd (by omega)]; exact hT.2 _ (by omega)) ?_; simp only [gnP, hx, hy, hz]; rw [if_pos (by omega)]; exact ⟨rfl, rfl⟩)
        | (refine l_gn277 hc hrS ha (by rw [usS_rd (by omega)]; exact v2) (by omega) (by rw [usS_rd (by omega)]; exact hT.2 _ (by omega)) ?_; simp only [gnP, hx, hy, hz]; rw [if_neg (by omega), if_pos (by omega)]; first | (rw [if_pos (show x ≠ 1 ∧ ¬ y0 from ⟨by omega, by assumption⟩)]; exact ⟨rfl, rfl⟩) | (rw [if_neg (show ¬ (x ≠ 1 ∧ ¬ y0) from fun q => by first | exact q.2 (by assumption) | (have := q.1; omega))]; exact ⟨rfl, rfl⟩))
        | (refine l_gn277 hc hrS ha v2 (by omega) (hT.2 _ (by omega)) ?_; simp only [gnP, hx, hy, hz]; rw [if_neg (by omega), if_neg (by omega), if_pos (by omega)]; first | (rw [if_pos (show ¬ y0 by assumption)]; exact ⟨rfl, rfl⟩) | (rw [if_neg (show ¬ ¬ y0 from fun q => q (by assumption))]; exact ⟨rfl, rfl⟩))
        | (refine l_gn277 hc hrS ha v2 (by omega) (hT.2 _ (by omega)) ?_; simp only [gnP, hx, hy, hz]; rw [if_neg (by omega), if_neg (by omega), if_neg (by omega), if_pos (by omega)]; exact ⟨rfl, rfl⟩)
        | (refine l_gn277 hc hrS ha v2 (by omega) (hT.2 _ (by omega)) ?_; simp only [gnP, hx, hy, hz]; rw [if_neg (by omega), if_neg (by omega), if_neg (by omega), if_neg (by omega), if_pos (by omega), if_neg (by omega)]; exact ⟨rfl, rfl⟩)
        | (refine l_gn277 hc hrS ha (by rw [up2_rd (by omega)]; exact v2) (by omega) (by rw [up2_rd (by omega)]; exact hT.2 _ (by omega)) ?_; simp only [gnP, hx, hy, hz]; rw [if_neg (by omega), if_neg (by omega), if_neg (by omega), if_neg (by omega), if_neg (by omega), if_pos (by omega)]; exact ⟨rfl, rfl⟩)
        | (refine l_gn277 hc hrS ha (by rw [up2_rd (by omega)]; exact v2) (by omega) (by rw [up2_rd (by omega)]; exact hT.2 _ (by omega)) ?_; simp only [gnP, hx, hy, hz]; rw [if_neg (by omega), if_neg (by omega), if_neg (by omega), if_neg (by omega), if_neg (by omega), if_neg (by omega), if_pos (by omega)]; exact ⟨rfl, rfl⟩)
        | (refine l_gn277 hc hrS ha v2 (by omega) (hT.2 _ (by omega)) ?_; simp only [gnP, hx, hy, hz]; rw [if_neg (by omega), if_neg (by omega), if_neg (by omega), if_neg (by omega), if_neg (by omega), if_neg (by omega), if_neg (by omega), if_neg (by omega), if_neg (by omega)]; exact ⟨rfl, rfl⟩)
    · refine am_iload_n rfl dX8_goOn_151 ?_
      refine mm_bne (tgt := 277) dX8_goOn_152 (by decide) (fun h152 => ?_) (fun h152 => ?_)
      · first
          | (refine l_gn277 hc hrS ha (by rw [mkS_rd (by omega)]; exact v2) (by omega) (by rw [mkS_rd (by omega)]; exact hT.2 _ (by omega)) ?_; simp only [gnP, hx, hy, hz]; rw [if_pos (by omega)]; exact ⟨rfl, rfl⟩)
          | (refine l_gn277 hc hrS ha (by rw [usS_rd (by omega)]; exact v2) (by omega) (by rw [usS_rd (by omega)]; exact hT.2 _ (by omega)) ?_; simp only [gnP, hx, hy, hz]; rw [if_neg (by omega), if_pos (by omega)]; first | (rw [if_pos (show x ≠ 1 ∧ ¬ y0 from ⟨by omega, by assumption⟩)]; exact ⟨rfl, rfl⟩) | (rw [if_neg (show ¬ (x ≠ 1 ∧ ¬ y0) from fun q => by first | exact q.2 (by assumption) | (have := q.1; omega))]; exact ⟨rfl, rfl⟩))
          | (refine l_gn277 hc hrS ha v2 (by omega) (hT.2 _ (by omega)) ?_; simp only [gnP, hx, hy, hz]; rw [if_neg (by omega), if_neg (by omega), if_pos (by omega)]; first | (rw [if_pos (show ¬ y0 by assumption)]; exact ⟨rfl, rfl⟩) | (rw [if_neg (show ¬ ¬ y0 from fun q => q (by assumption))]; exact ⟨rfl, rfl⟩))
          | (refine l_gn277 hc hrS ha v2 (by omega) (hT.2 _ (by omega)) ?_; simp only [gnP, hx, hy, hz]; rw [if_neg (by omega), if_neg (by omega), if_neg (by omega), if_pos (by omega)]; exact ⟨rfl, rfl⟩)
          | (refine l_gn277 hc hrS ha v2 (by omega) (hT.2 _ (by omega)) ?_; simp only [gnP, hx, hy, hz]; rw [if_neg (by omega), if_neg (by omega), if_neg (by omega), if_neg (by omega), if_pos (by omega), if_neg (by omega)]; exact ⟨rfl, rfl⟩)
          | (refine l_gn277 hc hrS ha (by rw [up2_rd (by omega)]; exact v2) (by omega) (by rw [up2_rd (by omega)]; exact hT.2 _ (by omega)) ?_; simp only [gnP, hx, hy, hz]; rw [if_neg (by omega), if_neg (by omega), if_neg (by omega), if_neg (by omega), if_neg (by omega), if_pos (by omega)]; exact ⟨rfl, rfl⟩)
          | (refine l_gn277 hc hrS ha (by rw [up2_rd (by omega)]; exact v2) (by omega) (by rw [up2_rd (by omega)]; exact hT.2 _ (by omega)) ?_; simp only [gnP, hx, hy, hz]; rw [if_neg (by omega), if_neg (by omega), if_neg (by omega), if_neg (by omega), if_neg (by omega), if_neg (by omega), if_pos (by omega)]; exact ⟨rfl, rfl⟩)
          | (refine l_gn277 hc hrS ha v2 (by omega) (hT.2 _ (by omega)) ?_; simp only [gnP, hx, hy, hz]; rw [if_neg (by omega), if_neg (by omega), if_neg (by omega), if_neg (by omega), if_neg (by omega), if_neg (by omega), if_neg (by omega), if_neg (by omega), if_neg (by omega)]; exact ⟨rfl, rfl⟩)
      · refine am_aload_n rfl dX8_goOn_155 ?_
        refine mm_getR dX8_goOn_156 fl_X8_114 hr0 rfl ?_
        refine am_aload_n rfl dX8_goOn_159 ?_
        refine mm_getI dX8_goOn_160 fl_X8_15 hc0 rfl ?_
        rw [usS_rd (by omega)]
        refine mm_ial dX8_goOn_163 hr4 (by omega) ?_
        rw [usS_rd (by omega)]
        refine am_ist7 dX8_goOn_164 (Nat.le_of_ble_eq_true rfl) (am_c1i _) ?_
        refine am_goto (tgt := 277) dX8_goOn_166 (by decide) ?_
        first
          | (refine l_gn277 hc hrS ha (by rw [mkS_rd (by omega)]; exact v2) (by omega) (by rw [mkS_rd (by omega)]; exact hT.2 _ (by omega)) ?_; simp only [gnP, hx, hy, hz]; rw [if_pos (by omega)]; exact ⟨rfl, rfl⟩)
          | (refine l_gn277 hc hrS ha (by rw [usS_rd (by omega)]; exact v2) (by omega) (by rw [usS_rd (by omega)]; exact hT.2 _ (by omega)) ?_; simp only [gnP, hx, hy, hz]; rw [if_neg (by omega), if_pos (by omega)]; first | (rw [if_pos (show x ≠ 1 ∧ ¬ y0 from ⟨by omega, by assumption⟩)]; exact ⟨rfl, rfl⟩) | (rw [if_neg (show ¬ (x ≠ 1 ∧ ¬ y0) from fun q => by first | exact q.2 (by assumption) | (have := q.1; omega))]; exact ⟨rfl, rfl⟩))
          | (refine l_gn277 hc hrS ha v2 (by omega) (hT.2 _ (by omega)) ?_; simp only [gnP, hx, hy, hz]; rw [if_neg (by omega), if_neg (by omega), if_pos (by omega)]; first | (rw [if_pos (show ¬ y0 by assumption)]; exact ⟨rfl, rfl⟩) | (rw [if_neg (show ¬ ¬ y0 from fun q => q (by assumption))]; exact ⟨rfl, rfl⟩))
          | (refine l_gn277 hc hrS ha v2 (by omega) (hT.2 _ (by omega)) ?_; simp only [gnP, hx, hy, hz]; rw [if_neg (by omega), if_neg (by omega), if_neg (by omega), if_pos (by omega)]; exact ⟨rfl, rfl⟩)
          | (refine l_gn277 hc hrS ha v2 (by omega) (hT.2 _ (by omega)) ?_; simp only [gnP, hx, hy, hz]; rw [if_neg (by omega), if_neg (by omega), if_neg (by omega), if_neg (by omega), if_pos (by omega), if_neg (by omega)]; exact ⟨rfl, rfl⟩)
          | (refine l_gn277 hc hrS ha (by rw [up2_rd (by omega)]; exact v2) (by omega) (by rw [up2_rd (by omega)]; exact hT.2 _ (by omega)) ?_; simp only [gnP, hx, hy, hz]; rw [if_neg (by omega), if_neg (by omega), if_neg (by omega), if_neg (by omega), if_neg (by omega), if_pos (by omega)]; exact ⟨rfl, rfl⟩)
          | (refine l_gn277 hc hrS ha (by rw [up2_rd (by omega)]; exact v2) (by omega) (by rw [up2_rd (by omega)]; exact hT.2 _ (by omega)) ?_; simp only [gnP, hx, hy, hz]; rw [if_neg (by omega), if_neg (by omega), if_neg (by omega), if_neg (by omega), if_neg (by omega), if_neg (by omega), if_pos (by omega)]; exact ⟨rfl, rfl⟩)
          | (refine l_gn277 hc hrS ha v2 (by omega) (hT.2 _ (by omega)) ?_; simp only [gnP, hx, hy, hz]; rw [if_neg (by omega), if_neg (by omega), if_neg (by omega), if_neg (by omega), if_neg (by omega), if_neg (by omega), if_neg (by omega), if_neg (by omega), if_neg (by omega)]; exact ⟨rfl, rfl⟩)
  · refine mm_tsw (tgt := 169) (off := 116) [3, 4] dX8_goOn_53 (by simp only [List.mem_cons, List.mem_nil_iff, or_false]; omega) (by decide) (by decide) ?_
    refine am_iload_n rfl dX8_goOn_169 ?_
    refine mm_bne (tgt := 277) dX8_goOn_170 (by decide) (fun h170 => ?_) (fun h170 => ?_)
    · first
        | (refine l_gn277 hc hrS ha (by rw [mkS_rd (by omega)]; exact v2) (by omega) (by rw [mkS_rd (by omega)]; exact hT.2 _ (by omega)) ?_; simp only [gnP, hx, hy, hz]; rw [if_pos (by omega)]; exact ⟨rfl, rfl⟩)
        | (refine l_gn277 hc hrS ha (by rw [usS_rd (by omega)]; exact v2) (by omega) (by rw [usS_rd (by omega)]; exact hT.2 _ (by omega)) ?_; simp only [gnP, hx, hy, hz]; rw [if_neg (by omega), if_pos (by omega)]; first | (rw [if_pos (show x ≠ 1 ∧ ¬ y0 from ⟨by omega, by assumption⟩)]; exact ⟨rfl, rfl⟩) | (rw [if_neg (show ¬ (x ≠ 1 ∧ ¬ y0) from fun q => by first | exact q.2 (by assumption) | (have := q.1; omega))]; exact ⟨rfl, rfl⟩))
        | (refine l_gn277 hc hrS ha v2 (by omega) (hT.2 _ (by omega)) ?_; simp only [gnP, hx, hy, hz]; rw [if_neg (by omega), if_neg (by omega), if_pos (by omega)]; first | (rw [if_pos (show ¬ y0 by assumption)]; exact ⟨rfl, rfl⟩) | (rw [if_neg (show ¬ ¬ y0 from fun q => q (by assumption))]; exact ⟨rfl, rfl⟩))
        | (refine l_gn277 hc hrS ha v2 (by omega) (hT.2 _ (by omega)) ?_; simp only [gnP, hx, hy, hz]; rw [if_neg (by omega), if_neg (by omega), if_neg (by omega), if_pos (by omega)]; exact ⟨rfl, rfl⟩)
        | (refine l_gn277 hc hrS ha v2 (by omega) (hT.2 _ (by omega)) ?_; simp only [gnP, hx, hy, hz]; rw [if_neg (by omega), if_neg (by omega), if_neg (by omega), if_neg (by omega), if_pos (by omega), if_neg (by omega)]; exact ⟨rfl, rfl⟩)
        | (refine l_gn277 hc hrS ha (by rw [up2_rd (by omega)]; exact v2) (by omega) (by rw [up2_rd (by omega)]; exact hT.2 _ (by omega)) ?_; simp only [gnP, hx, hy, hz]; rw [if_neg (by omega), if_neg (by omega), if_neg (by omega), if_neg (by omega), if_neg (by omega), if_pos (by omega)]; exact ⟨rfl, rfl⟩)
        | (refine l_gn277 hc hrS ha (by rw [up2_rd (by omega)]; exact v2) (by omega) (by rw [up2_rd (by omega)]; exact hT.2 _ (by omega)) ?_; simp only [gnP, hx, hy, hz]; rw [if_neg (by omega), if_neg (by omega), if_neg (by omega), if_neg (by omega), if_neg (by omega), if_neg (by omega), if_pos (by omega)]; exact ⟨rfl, rfl⟩)
        | (refine l_gn277 hc hrS ha v2 (by omega) (hT.2 _ (by omega)) ?_; simp only [gnP, hx, hy, hz]; rw [if_neg (by omega), if_neg (by omega), if_neg (by omega), if_neg (by omega), if_neg (by omega), if_neg (by omega), if_neg (by omega), if_neg (by omega), if_neg (by omega)]; exact ⟨rfl, rfl⟩)
    · refine am_aload_n rfl dX8_goOn_173 ?_
      refine mm_getR dX8_goOn_174 fl_X8_114 hr0 rfl ?_
      refine am_aload_n rfl dX8_goOn_177 ?_
      refine mm_getI dX8_goOn_178 fl_X8_15 hc0 rfl ?_
      refine mm_ial dX8_goOn_181 hr4 (by omega) ?_
      refine am_ist7 dX8_goOn_182 (Nat.le_of_ble_eq_true rfl) (am_c1i _) ?_
      refine am_goto (tgt := 277) dX8_goOn_184 (by decide) ?_
      first
        | (refine l_gn277 hc hrS ha (by rw [mkS_rd (by omega)]; exact v2) (by omega) (by rw [mkS_rd (by omega)]; exact hT.2 _ (by omega)) ?_; simp only [gnP, hx, hy, hz]; rw [if_pos (by omega)]; exact ⟨rfl, rfl⟩)
        | (refine l_gn277 hc hrS ha (by rw [usS_rd (by omega)]; exact v2) (by omega) (by rw [usS_rd (by omega)]; exact hT.2 _ (by omega)) ?_; simp only [gnP, hx, hy, hz]; rw [if_neg (by omega), if_pos (by omega)]; first | (rw [if_pos (show x ≠ 1 ∧ ¬ y0 from ⟨by omega, by assumption⟩)]; exact ⟨rfl, rfl⟩) | (rw [if_neg (show ¬ (x ≠ 1 ∧ ¬ y0) from fun q => by first | exact q.2 (by assumption) | (have := q.1; omega))]; exact ⟨rfl, rfl⟩))
        | (refine l_gn277 hc hrS ha v2 (by omega) (hT.2 _ (by omega)) ?_; simp only [gnP, hx, hy, hz]; rw [if_neg (by omega), if_neg (by omega), if_pos (by omega)]; first | (rw [if_pos (show ¬ y0 by assumption)]; exact ⟨rfl, rfl⟩) | (rw [if_neg (show ¬ ¬ y0 from fun q => q (by assumption))]; exact ⟨rfl, rfl⟩))
        | (refine l_gn277 hc hrS ha v2 (by omega) (hT.2 _ (by omega)) ?_; simp only [gnP, hx, hy, hz]; rw [if_neg (by omega), if_neg (by omega), if_neg (by omega), if_pos (by omega)]; exact ⟨rfl, rfl⟩)
        | (refine l_gn277 hc hrS ha v2 (by omega) (hT.2 _ (by omega)) ?_; simp only [gnP, hx, hy, hz]; rw [if_neg (by omega), if_neg (by omega), if_neg (by omega), if_neg (by omega), if_pos (by omega), if_neg (by omega)]; exact ⟨rfl, rfl⟩)
        | (refine l_gn277 hc hrS ha (by rw [up2_rd (by omega)]; exact v2) (by omega) (by rw [up2_rd (by omega)]; exact hT.2 _ (by omega)) ?_; simp only [gnP, hx, hy, hz]; rw [if_neg (by omega), if_neg (by omega), if_neg (by omega), if_neg (by omega), if_neg (by omega), if_pos (by omega)]; exact ⟨rfl, rfl⟩)
        | (refine l_gn277 hc hrS ha (by rw [up2_rd (by omega)]; exact v2) (by omega) (by rw [up2_rd (by omega)]; exact hT.2 _ (by omega)) ?_; simp only [gnP, hx, hy, hz]; rw [if_neg (by omega), if_neg (by omega), if_neg (by omega), if_neg (by omega), if_neg (by omega), if_neg (by omega), if_pos (by omega)]; exact ⟨rfl, rfl⟩)
        | (refine l_gn277 hc hrS ha v2 (by omega) (hT.2 _ (by omega)) ?_; simp only [gnP, hx, hy, hz]; rw [if_neg (by omega), if_neg (by omega), if_neg (by omega), if_neg (by omega), if_neg (by omega), if_neg (by omega), if_neg (by omega), if_neg (by omega), if_neg (by omega)]; exact ⟨rfl, rfl⟩)
  · refine mm_tsw (tgt := 187) (off := 134) [6] dX8_goOn_53 (by simp only [List.mem_cons, List.mem_nil_iff, or_false]; omega) (by decide) (by decide) ?_
    refine am_aload_n rfl dX8_goOn_187 ?_
    refine mm_getR dX8_goOn_188 fl_X8_114 hr0 rfl ?_
    refine am_aload_n rfl dX8_goOn_191 ?_
    refine mm_getI dX8_goOn_192 fl_X8_15 hc0 rfl ?_
    refine mm_ial dX8_goOn_195 hr4 (by omega) ?_
    refine am_ist7 dX8_goOn_196 (Nat.le_of_ble_eq_true rfl) (am_c1i _) ?_
    refine am_goto (tgt := 277) dX8_goOn_198 (by decide) ?_
    first
      | (refine l_gn277 hc hrS ha (by rw [mkS_rd (by omega)]; exact v2) (by omega) (by rw [mkS_rd (by omega)]; exact hT.2 _ (by omega)) ?_; simp only [gnP, hx, hy, hz]; rw [if_pos (by omega)]; exact ⟨rfl, rfl⟩)
      | (refine l_gn277 hc hrS ha (by rw [usS_rd (by omega)]; exact v2) (by omega) (by rw [usS_rd (by omega)]; exact hT.2 _ (by omega)) ?_; simp only [gnP, hx, hy, hz]; rw [if_neg (by omega), if_pos (by omega)]; first | (rw [if_pos (show x ≠ 1 ∧ ¬ y0 from ⟨by omega, by assumption⟩)]; exact ⟨rfl, rfl⟩) | (rw [if_neg (show ¬ (x ≠ 1 ∧ ¬ y0) from fun q => by first | exact q.2 (by assumption) | (have := q.1; omega))]; exact ⟨rfl, rfl⟩))
      | (refine l_gn277 hc hrS ha v2 (by omega) (hT.2 _ (by omega)) ?_; simp only [gnP, hx, hy, hz]; rw [if_neg (by omega), if_neg (by omega), if_pos (by omega)]; first | (rw [if_pos (show ¬ y0 by assumption)]; exact ⟨rfl, rfl⟩) | (rw [if_neg (show ¬ ¬ y0 from fun q => q (by assumption))]; exact ⟨rfl, rfl⟩))
      | (refine l_gn277 hc hrS ha v2 (by omega) (hT.2 _ (by omega)) ?_; simp only [gnP, hx, hy, hz]; rw [if_neg (by omega), if_neg (by omega), if_neg (by omega), if_pos (by omega)]; exact ⟨rfl, rfl⟩)
      | (refine l_gn277 hc hrS ha v2 (by omega) (hT.2 _ (by omega)) ?_; simp only [gnP, hx, hy, hz]; rw [if_neg (by omega), if_neg (by omega), if_neg (by omega), if_neg (by omega), if_pos (by omega), if_neg (by omega)]; exact ⟨rfl, rfl⟩)
      | (refine l_gn277 hc hrS ha (by rw [up2_rd (by omega)]; exact v2) (by omega) (by rw [up2_rd (by omega)]; exact hT.2 _ (by omega)) ?_; simp only [gnP, hx, hy, hz]; rw [if_neg (by omega), if_neg (by omega), if_neg (by omega), if_neg (by omega), if_neg (by omega), if_pos (by omega)]; exact ⟨rfl, rfl⟩)
      | (refine l_gn277 hc hrS ha (by rw [up2_rd (by omega)]; exact v2) (by omega) (by rw [up2_rd (by omega)]; exact hT.2 _ (by omega)) ?_; simp only [gnP, hx, hy, hz]; rw [if_neg (by omega), if_neg (by omega), if_neg (by omega), if_neg (by omega), if_neg (by omega), if_neg (by omega), if_pos (by omega)]; exact ⟨rfl, rfl⟩)
      | (refine l_gn277 hc hrS ha v2 (by omega) (hT.2 _ (by omega)) ?_; simp only [gnP, hx, hy, hz]; rw [if_neg (by omega), if_neg (by omega), if_neg (by omega), if_neg (by omega), if_neg (by omega), if_neg (by omega), if_neg (by omega), if_neg (by omega), if_neg (by omega)]; exact ⟨rfl, rfl⟩)
  · refine mm_tsw (tgt := 201) (off := 148) [7] dX8_goOn_53 (by simp only [List.mem_cons, List.mem_nil_iff, or_false]; omega) (by decide) (by decide) ?_
    refine am_aload_n rfl dX8_goOn_201 ?_
    refine am_aload_n rfl dX8_goOn_202 ?_
    refine am_ci (mm_V1 dX8_goOn_203 in_X8_modeOfTry mk_X8_117 im_X8_modeOfTry sl_X8_modeOfTry ⟨Nat.le_of_ble_eq_true rfl, Nat.le_of_ble_eq_true rfl⟩ rfl hc0 (Nat.le_of_ble_eq_true rfl)) (c_modeOfTry hc hrS (by omega) (by omega) v2 hT) ?_
    have gM := mdT_R (S := S) (a := a) (ro := ro)
    refine am_ist8 dX8_goOn_206 (Nat.le_of_ble_eq_true rfl) (am_c1i _) ?_
    refine am_iload rfl dX8_goOn_208 ?_
    refine mm_zeq (tgt := 221) dX8_goOn_210 (by decide) (by omega) (fun h210 => ?_) (fun h210 => ?_)
    · refine am_aload_n rfl dX8_goOn_221 ?_
      refine mm_getR dX8_goOn_222 fl_X8_114 hr0 rfl ?_
      refine am_aload_n rfl dX8_goOn_225 ?_
      refine mm_getI dX8_goOn_226 fl_X8_15 hc0 rfl ?_
      refine mm_ial dX8_goOn_229 hr4 (by omega) ?_
      refine am_ist7 dX8_goOn_230 (Nat.le_of_ble_eq_true rfl) (am_c1i _) ?_
      refine am_goto (tgt := 277) dX8_goOn_232 (by decide) ?_
      first
        | (refine l_gn277 hc hrS ha (by rw [mkS_rd (by omega)]; exact v2) (by omega) (by rw [mkS_rd (by omega)]; exact hT.2 _ (by omega)) ?_; simp only [gnP, hx, hy, hz]; rw [if_pos (by omega)]; exact ⟨rfl, rfl⟩)
        | (refine l_gn277 hc hrS ha (by rw [usS_rd (by omega)]; exact v2) (by omega) (by rw [usS_rd (by omega)]; exact hT.2 _ (by omega)) ?_; simp only [gnP, hx, hy, hz]; rw [if_neg (by omega), if_pos (by omega)]; first | (rw [if_pos (show x ≠ 1 ∧ ¬ y0 from ⟨by omega, by assumption⟩)]; exact ⟨rfl, rfl⟩) | (rw [if_neg (show ¬ (x ≠ 1 ∧ ¬ y0) from fun q => by first | exact q.2 (by assumption) | (have := q.1; omega))]; exact ⟨rfl, rfl⟩))
        | (refine l_gn277 hc hrS ha v2 (by omega) (hT.2 _ (by omega)) ?_; simp only [gnP, hx, hy, hz]; rw [if_neg (by omega), if_neg (by omega), if_pos (by omega)]; first | (rw [if_pos (show ¬ y0 by assumption)]; exact ⟨rfl, rfl⟩) | (rw [if_neg (show ¬ ¬ y0 from fun q => q (by assumption))]; exact ⟨rfl, rfl⟩))
        | (refine l_gn277 hc hrS ha v2 (by omega) (hT.2 _ (by omega)) ?_; simp only [gnP, hx, hy, hz]; rw [if_neg (by omega), if_neg (by omega), if_neg (by omega), if_pos (by omega)]; exact ⟨rfl, rfl⟩)
        | (refine l_gn277 hc hrS ha v2 (by omega) (hT.2 _ (by omega)) ?_; simp only [gnP, hx, hy, hz]; rw [if_neg (by omega), if_neg (by omega), if_neg (by omega), if_neg (by omega), if_pos (by omega), if_neg (by omega)]; exact ⟨rfl, rfl⟩)
        | (refine l_gn277 hc hrS ha (by rw [up2_rd (by omega)]; exact v2) (by omega) (by rw [up2_rd (by omega)]; exact hT.2 _ (by omega)) ?_; simp only [gnP, hx, hy, hz]; rw [if_neg (by omega), if_neg (by omega), if_neg (by omega), if_neg (by omega), if_neg (by omega), if_pos (by omega)]; exact ⟨rfl, rfl⟩)
        | (refine l_gn277 hc hrS ha (by rw [up2_rd (by omega)]; exact v2) (by omega) (by rw [up2_rd (by omega)]; exact hT.2 _ (by omega)) ?_; simp only [gnP, hx, hy, hz]; rw [if_neg (by omega), if_neg (by omega), if_neg (by omega), if_neg (by omega), if_neg (by omega), if_neg (by omega), if_pos (by omega)]; exact ⟨rfl, rfl⟩)
        | (refine l_gn277 hc hrS ha v2 (by omega) (hT.2 _ (by omega)) ?_; simp only [gnP, hx, hy, hz]; rw [if_neg (by omega), if_neg (by omega), if_neg (by omega), if_neg (by omega), if_neg (by omega), if_neg (by omega), if_neg (by omega), if_neg (by omega), if_neg (by omega)]; exact ⟨rfl, rfl⟩)
    · refine am_aload_n rfl dX8_goOn_213 ?_
      refine am_aload_n rfl dX8_goOn_214 ?_
      refine am_iload rfl dX8_goOn_215 ?_
      refine am_civ (mm_V2 dX8_goOn_217 in_X8_goOut mk_X8_121 im_X8_goOut sl_X8_goOut ⟨Nat.le_of_ble_eq_true rfl, Nat.le_of_ble_eq_true rfl⟩ rfl hc0 (Nat.le_of_ble_eq_true rfl)) (c_goOut hc hrS ha (by omega) (by omega) v2 gM hT) ?_
      refine am_ireturn dX8_goOn_220 rfl (by rcases goP_01 (S := S) (a := a) (ro := ro) (m := (mdT S a ro)) with h | h <;> rw [h] <;> rfl) ?_
      simp only [gnP, hx, hy, hz]
      rw [if_neg (by omega), if_neg (by omega), if_neg (by omega), if_neg (by omega), if_pos (by omega), if_pos (by omega)]
      exact ⟨rfl, rfl⟩
  · refine mm_tsw (tgt := 235) (off := 182) [8] dX8_goOn_53 (by simp only [List.mem_cons, List.mem_nil_iff, or_false]; omega) (by decide) (by decide) ?_
    refine am_aload_n rfl dX8_goOn_235 ?_
    refine mm_getR dX8_goOn_236 fl_X8_21 hc0 rfl ?_
    refine am_iload rfl dX8_goOn_239 ?_
    refine am_aload_n rfl dX8_goOn_241 ?_
    refine mm_getR dX8_goOn_242 fl_X8_21 hc0 rfl ?_
    refine am_iload rfl dX8_goOn_245 ?_
    have g9 := v3 z.toNat (by omega)
    refine mm_ial dX8_goOn_247 hc1 (by omega) ?_
    refine mm_ias dX8_goOn_248 hc1 (by omega) ?_
    refine am_goto (tgt := 277) dX8_goOn_249 (by decide) ?_
    first
      | (refine l_gn277 hc hrS ha (by rw [mkS_rd (by omega)]; exact v2) (by omega) (by rw [mkS_rd (by omega)]; exact hT.2 _ (by omega)) ?_; simp only [gnP, hx, hy, hz]; rw [if_pos (by omega)]; exact ⟨rfl, rfl⟩)
      | (refine l_gn277 hc hrS ha (by rw [usS_rd (by omega)]; exact v2) (by omega) (by rw [usS_rd (by omega)]; exact hT.2 _ (by omega)) ?_; simp only [gnP, hx, hy, hz]; rw [if_neg (by omega), if_pos (by omega)]; first | (rw [if_pos (show x ≠ 1 ∧ ¬ y0 from ⟨by omega, by assumption⟩)]; exact ⟨rfl, rfl⟩) | (rw [if_neg (show ¬ (x ≠ 1 ∧ ¬ y0) from fun q => by first | exact q.2 (by assumption) | (have := q.1; omega))]; exact ⟨rfl, rfl⟩))
      | (refine l_gn277 hc hrS ha v2 (by omega) (hT.2 _ (by omega)) ?_; simp only [gnP, hx, hy, hz]; rw [if_neg (by omega), if_neg (by omega), if_pos (by omega)]; first | (rw [if_pos (show ¬ y0 by assumption)]; exact ⟨rfl, rfl⟩) | (rw [if_neg (show ¬ ¬ y0 from fun q => q (by assumption))]; exact ⟨rfl, rfl⟩))
      | (refine l_gn277 hc hrS ha v2 (by omega) (hT.2 _ (by omega)) ?_; simp only [gnP, hx, hy, hz]; rw [if_neg (by omega), if_neg (by omega), if_neg (by omega), if_pos (by omega)]; exact ⟨rfl, rfl⟩)
      | (refine l_gn277 hc hrS ha v2 (by omega) (hT.2 _ (by omega)) ?_; simp only [gnP, hx, hy, hz]; rw [if_neg (by omega), if_neg (by omega), if_neg (by omega), if_neg (by omega), if_pos (by omega), if_neg (by omega)]; exact ⟨rfl, rfl⟩)
      | (refine l_gn277 hc hrS ha (by rw [up2_rd (by omega)]; exact v2) (by omega) (by rw [up2_rd (by omega)]; exact hT.2 _ (by omega)) ?_; simp only [gnP, hx, hy, hz]; rw [if_neg (by omega), if_neg (by omega), if_neg (by omega), if_neg (by omega), if_neg (by omega), if_pos (by omega)]; exact ⟨rfl, rfl⟩)
      | (refine l_gn277 hc hrS ha (by rw [up2_rd (by omega)]; exact v2) (by omega) (by rw [up2_rd (by omega)]; exact hT.2 _ (by omega)) ?_; simp only [gnP, hx, hy, hz]; rw [if_neg (by omega), if_neg (by omega), if_neg (by omega), if_neg (by omega), if_neg (by omega), if_neg (by omega), if_pos (by omega)]; exact ⟨rfl, rfl⟩)
      | (refine l_gn277 hc hrS ha v2 (by omega) (hT.2 _ (by omega)) ?_; simp only [gnP, hx, hy, hz]; rw [if_neg (by omega), if_neg (by omega), if_neg (by omega), if_neg (by omega), if_neg (by omega), if_neg (by omega), if_neg (by omega), if_neg (by omega), if_neg (by omega)]; exact ⟨rfl, rfl⟩)
  · refine mm_tsw (tgt := 252) (off := 199) [9] dX8_goOn_53 (by simp only [List.mem_cons, List.mem_nil_iff, or_false]; omega) (by decide) (by decide) ?_
    refine am_aload_n rfl dX8_goOn_252 ?_
    refine mm_getR dX8_goOn_253 fl_X8_21 hc0 rfl ?_
    refine am_iload rfl dX8_goOn_256 ?_
    refine mm_iconst dX8_goOn_258 ?_
    refine mm_ias dX8_goOn_259 hc1 (by omega) ?_
    refine am_goto (tgt := 277) dX8_goOn_260 (by decide) ?_
    first
      | (refine l_gn277 hc hrS ha (by rw [mkS_rd (by omega)]; exact v2) (by omega) (by rw [mkS_rd (by omega)]; exact hT.2 _ (by omega)) ?_; simp only [gnP, hx, hy, hz]; rw [if_pos (by omega)]; exact ⟨rfl, rfl⟩)
      | (refine l_gn277 hc hrS ha (by rw [usS_rd (by omega)]; exact v2) (by omega) (by rw [usS_rd (by omega)]; exact hT.2 _ (by omega)) ?_; simp only [gnP, hx, hy, hz]; rw [if_neg (by omega), if_pos (by omega)]; first | (rw [if_pos (show x ≠ 1 ∧ ¬ y0 from ⟨by omega, by assumption⟩)]; exact ⟨rfl, rfl⟩) | (rw [if_neg (show ¬ (x ≠ 1 ∧ ¬ y0) from fun q => by first | exact q.2 (by assumption) | (have := q.1; omega))]; exact ⟨rfl, rfl⟩))
      | (refine l_gn277 hc hrS ha v2 (by omega) (hT.2 _ (by omega)) ?_; simp only [gnP, hx, hy, hz]; rw [if_neg (by omega), if_neg (by omega), if_pos (by omega)]; first | (rw [if_pos (show ¬ y0 by assumption)]; exact ⟨rfl, rfl⟩) | (rw [if_neg (show ¬ ¬ y0 from fun q => q (by assumption))]; exact ⟨rfl, rfl⟩))
      | (refine l_gn277 hc hrS ha v2 (by omega) (hT.2 _ (by omega)) ?_; simp only [gnP, hx, hy, hz]; rw [if_neg (by omega), if_neg (by omega), if_neg (by omega), if_pos (by omega)]; exact ⟨rfl, rfl⟩)
      | (refine l_gn277 hc hrS ha v2 (by omega) (hT.2 _ (by omega)) ?_; simp only [gnP, hx, hy, hz]; rw [if_neg (by omega), if_neg (by omega), if_neg (by omega), if_neg (by omega), if_pos (by omega), if_neg (by omega)]; exact ⟨rfl, rfl⟩)
      | (refine l_gn277 hc hrS ha (by rw [up2_rd (by omega)]; exact v2) (by omega) (by rw [up2_rd (by omega)]; exact hT.2 _ (by omega)) ?_; simp only [gnP, hx, hy, hz]; rw [if_neg (by omega), if_neg (by omega), if_neg (by omega), if_neg (by omega), if_neg (by omega), if_pos (by omega)]; exact ⟨rfl, rfl⟩)
      | (refine l_gn277 hc hrS ha (by rw [up2_rd (by omega)]; exact v2) (by omega) (by rw [up2_rd (by omega)]; exact hT.2 _ (by omega)) ?_; simp only [gnP, hx, hy, hz]; rw [if_neg (by omega), if_neg (by omega), if_neg (by omega), if_neg (by omega), if_neg (by omega), if_neg (by omega), if_pos (by omega)]; exact ⟨rfl, rfl⟩)
      | (refine l_gn277 hc hrS ha v2 (by omega) (hT.2 _ (by omega)) ?_; simp only [gnP, hx, hy, hz]; rw [if_neg (by omega), if_neg (by omega), if_neg (by omega), if_neg (by omega), if_neg (by omega), if_neg (by omega), if_neg (by omega), if_neg (by omega), if_neg (by omega)]; exact ⟨rfl, rfl⟩)
  · refine mm_tsw (tgt := 277) (off := 224) [10, 11] dX8_goOn_53 (by simp only [List.mem_cons, List.mem_nil_iff, or_false]; omega) (by decide) (by decide) ?_
    first
      | (refine l_gn277 hc hrS ha (by rw [mkS_rd (by omega)]; exact v2) (by omega) (by rw [mkS_rd (by omega)]; exact hT.2 _ (by omega)) ?_; simp only [gnP, hx, hy, hz]; rw [if_pos (by omega)]; exact ⟨rfl, rfl⟩)
      | (refine l_gn277 hc hrS ha (by rw [usS_rd (by omega)]; exact v2) (by omega) (by rw [usS_rd (by omega)]; exact hT.2 _ (by omega)) ?_; simp only [gnP, hx, hy, hz]; rw [if_neg (by omega), if_pos (by omega)]; first | (rw [if_pos (show x ≠ 1 ∧ ¬ y0 from ⟨by omega, by assumption⟩)]; exact ⟨rfl, rfl⟩) | (rw [if_neg (show ¬ (x ≠ 1 ∧ ¬ y0) from fun q => by first | exact q.2 (by assumption) | (have := q.1; omega))]; exact ⟨rfl, rfl⟩))
      | (refine l_gn277 hc hrS ha v2 (by omega) (hT.2 _ (by omega)) ?_; simp only [gnP, hx, hy, hz]; rw [if_neg (by omega), if_neg (by omega), if_pos (by omega)]; first | (rw [if_pos (show ¬ y0 by assumption)]; exact ⟨rfl, rfl⟩) | (rw [if_neg (show ¬ ¬ y0 from fun q => q (by assumption))]; exact ⟨rfl, rfl⟩))
      | (refine l_gn277 hc hrS ha v2 (by omega) (hT.2 _ (by omega)) ?_; simp only [gnP, hx, hy, hz]; rw [if_neg (by omega), if_neg (by omega), if_neg (by omega), if_pos (by omega)]; exact ⟨rfl, rfl⟩)
      | (refine l_gn277 hc hrS ha v2 (by omega) (hT.2 _ (by omega)) ?_; simp only [gnP, hx, hy, hz]; rw [if_neg (by omega), if_neg (by omega), if_neg (by omega), if_neg (by omega), if_pos (by omega), if_neg (by omega)]; exact ⟨rfl, rfl⟩)
      | (refine l_gn277 hc hrS ha (by rw [up2_rd (by omega)]; exact v2) (by omega) (by rw [up2_rd (by omega)]; exact hT.2 _ (by omega)) ?_; simp only [gnP, hx, hy, hz]; rw [if_neg (by omega), if_neg (by omega), if_neg (by omega), if_neg (by omega), if_neg (by omega), if_pos (by omega)]; exact ⟨rfl, rfl⟩)
      | (refine l_gn277 hc hrS ha (by rw [up2_rd (by omega)]; exact v2) (by omega) (by rw [up2_rd (by omega)]; exact hT.2 _ (by omega)) ?_; simp only [gnP, hx, hy, hz]; rw [if_neg (by omega), if_neg (by omega), if_neg (by omega), if_neg (by omega), if_neg (by omega), if_neg (by omega), if_pos (by omega)]; exact ⟨rfl, rfl⟩)
      | (refine l_gn277 hc hrS ha v2 (by omega) (hT.2 _ (by omega)) ?_; simp only [gnP, hx, hy, hz]; rw [if_neg (by omega), if_neg (by omega), if_neg (by omega), if_neg (by omega), if_neg (by omega), if_neg (by omega), if_neg (by omega), if_neg (by omega), if_neg (by omega)]; exact ⟨rfl, rfl⟩)
  · refine mm_tsw (tgt := 263) (off := 210) [12] dX8_goOn_53 (by simp only [List.mem_cons, List.mem_nil_iff, or_false]; omega) (by decide) (by decide) ?_
    refine am_aload_n rfl dX8_goOn_263 ?_
    refine am_aload_n rfl dX8_goOn_264 ?_
    refine mm_iconst dX8_goOn_265 ?_
    refine am_civ (mm_V2 dX8_goOn_266 in_X8_goOut mk_X8_121 im_X8_goOut sl_X8_goOut ⟨Nat.le_of_ble_eq_true rfl, Nat.le_of_ble_eq_true rfl⟩ rfl hc0 (Nat.le_of_ble_eq_true rfl)) (c_goOut (m := 1) hc hrS ha (by omega) (by omega) v2 (by omega) hT) ?_
    refine am_ireturn dX8_goOn_269 rfl (by rcases goP_01 (S := S) (a := a) (ro := ro) (m := 1) with h | h <;> rw [h] <;> rfl) ?_
    simp only [gnP, hx, hy, hz]
    rw [if_neg (by omega), if_neg (by omega), if_neg (by omega), if_neg (by omega), if_neg (by omega), if_neg (by omega), if_neg (by omega), if_pos (by omega)]
    exact ⟨rfl, rfl⟩
  · refine mm_tsw (tgt := 270) (off := 217) [13] dX8_goOn_53 (by simp only [List.mem_cons, List.mem_nil_iff, or_false]; omega) (by decide) (by decide) ?_
    refine am_aload_n rfl dX8_goOn_270 ?_
    refine am_aload_n rfl dX8_goOn_271 ?_
    refine mm_iconst dX8_goOn_272 ?_
    refine am_civ (mm_V2 dX8_goOn_273 in_X8_goOut mk_X8_121 im_X8_goOut sl_X8_goOut ⟨Nat.le_of_ble_eq_true rfl, Nat.le_of_ble_eq_true rfl⟩ rfl hc0 (Nat.le_of_ble_eq_true rfl)) (c_goOut (m := 2) hc hrS ha (by omega) (by omega) v2 (by omega) hT) ?_
    refine am_ireturn dX8_goOn_276 rfl (by rcases goP_01 (S := S) (a := a) (ro := ro) (m := 2) with h | h <;> rw [h] <;> rfl) ?_
    simp only [gnP, hx, hy, hz]
    rw [if_neg (by omega), if_neg (by omega), if_neg (by omega), if_neg (by omega), if_neg (by omega), if_neg (by omega), if_neg (by omega), if_neg (by omega), if_pos (by omega)]
    exact ⟨rfl, rfl⟩
def bg0 (S : mm_S) (a : Nat) (r : Int) : mm_S := up2 (up2 (fillS (up2 (up2 (up2 S a 0 r) a 1 0) a 2 0) (a + 1) 5 (-1)) (a + 2) 5 0) (a + 3) 5 0
def bgS (S : mm_S) (a : Nat) (r h k s : Int) : mm_S := if h = 2 then bg0 S a r else if h = 1 then up2 (up2 (up2 (bg0 S a r) (a + 1) 0 0) (a + 2) 0 k) (a + 3) 0 s else up2 (up2 (up2 (bg0 S a r) (a + 1) 0 5) (a + 2) 5 k) (a + 3) 5 s
set_option maxRecDepth 100000 in
set_option maxHeartbeats 4000000 in
theorem c_scBegin {sh : List mm_H} {S : mm_S} {L : mm_L} {a : Nat} (hc : scS sh a) {r h k s : Int} (hh : 0 ≤ h ∧ h ≤ 2) : am_E eX8_begin [.ref a, .int (iI r), .int (iI h), .int (iI k), .int (iI s)] (mm sh S L) (fun r0 M' => r0 = none ∧ M' = mm sh (bgS S a r h k s) L) := by
  obtain ⟨hc0, hc1, hc2, hc3⟩ := id hc
  refine am_enter rfl rfl (Nat.le_of_ble_eq_true rfl) ?_
  refine am_aload_n rfl dX8_begin_0 ?_
  refine am_iload_n rfl dX8_begin_1 ?_
  refine mm_putI dX8_begin_2 fp_X8_11 hc0 rfl ?_
  refine am_aload_n rfl dX8_begin_5 ?_
  refine mm_iconst dX8_begin_6 ?_
  refine mm_putI dX8_begin_7 fp_X8_15 hc0 rfl ?_
  refine am_aload_n rfl dX8_begin_10 ?_
  refine mm_iconst dX8_begin_11 ?_
  refine mm_putI dX8_begin_12 fp_X8_18 hc0 rfl ?_
  refine am_aload_n rfl dX8_begin_15 ?_
  refine mm_getR dX8_begin_16 fl_X8_21 hc0 rfl ?_
  refine mm_iconst dX8_begin_19 ?_
  refine am_cv (mm_S2 dX8_begin_20 in_J7_fill_53178 mk_X8_31 st_J7_fill_53178 ⟨Nat.le_of_ble_eq_true rfl, Nat.le_of_ble_eq_true rfl⟩ (Nat.le_of_ble_eq_true rfl)) (c_fill hc1 (by omega)) ?_
  refine am_aload_n rfl dX8_begin_23 ?_
  refine mm_getR dX8_begin_24 fl_X8_25 hc0 rfl ?_
  refine mm_iconst dX8_begin_27 ?_
  refine mm_iconst dX8_begin_28 ?_
  refine mm_ias dX8_begin_29 hc2 (by omega) ?_
  refine am_aload_n rfl dX8_begin_30 ?_
  refine mm_getR dX8_begin_31 fl_X8_28 hc0 rfl ?_
  refine mm_iconst dX8_begin_34 ?_
  refine mm_iconst dX8_begin_35 ?_
  refine mm_ias dX8_begin_36 hc3 (by omega) ?_
  refine am_iload_n rfl dX8_begin_37 ?_
  refine mm_iconst dX8_begin_38 ?_
  refine mm_jne (tgt := 43) dX8_begin_39 (by decide) (by omega) (by omega) (fun h39 => ?_) (fun h39 => ?_)
  · refine am_aload_n rfl dX8_begin_43 ?_
    refine mm_getR dX8_begin_44 fl_X8_21 hc0 rfl ?_
    refine mm_iconst dX8_begin_47 ?_
    refine am_iload_n rfl dX8_begin_48 ?_
    refine mm_iconst dX8_begin_49 ?_
    refine mm_jne (tgt := 57) dX8_begin_50 (by decide) (by omega) (by omega) (fun h50 => ?_) (fun h50 => ?_)
    · refine mm_iconst dX8_begin_57 ?_
      refine mm_ias dX8_begin_58 hc1 (by omega) ?_
      refine am_aload_n rfl dX8_begin_59 ?_
      refine mm_getR dX8_begin_60 fl_X8_25 hc0 rfl ?_
      refine am_aload_n rfl dX8_begin_63 ?_
      refine mm_getR dX8_begin_64 fl_X8_21 hc0 rfl ?_
      refine mm_iconst dX8_begin_67 ?_
      refine mm_ial dX8_begin_68 hc1 (by omega) ?_
      simp only [up2_same]
      refine am_iload_n rfl dX8_begin_69 ?_
      refine mm_ias dX8_begin_70 hc2 (by omega) ?_
      refine am_aload_n rfl dX8_begin_71 ?_
      refine mm_getR dX8_begin_72 fl_X8_28 hc0 rfl ?_
      refine am_aload_n rfl dX8_begin_75 ?_
      refine mm_getR dX8_begin_76 fl_X8_21 hc0 rfl ?_
      refine mm_iconst dX8_begin_79 ?_
      refine mm_ial dX8_begin_80 hc1 (by omega) ?_
      rw [up2_rd (by omega)]
      simp only [up2_same]
      refine am_iload rfl dX8_begin_81 ?_
      refine mm_ias dX8_begin_83 hc3 (by omega) ?_
      refine am_return dX8_begin_84 rfl ?_
      first
        | (rw [bgS, if_neg (by omega), if_pos (by omega)]; exact ⟨rfl, rfl⟩)
        | (rw [bgS, if_neg (by omega), if_neg (by omega)]; exact ⟨rfl, rfl⟩)
    · refine mm_iconst dX8_begin_53 ?_
      refine am_goto (tgt := 58) dX8_begin_54 (by decide) ?_
      refine mm_ias dX8_begin_58 hc1 (by omega) ?_
      refine am_aload_n rfl dX8_begin_59 ?_
      refine mm_getR dX8_begin_60 fl_X8_25 hc0 rfl ?_
      refine am_aload_n rfl dX8_begin_63 ?_
      refine mm_getR dX8_begin_64 fl_X8_21 hc0 rfl ?_
      refine mm_iconst dX8_begin_67 ?_
      refine mm_ial dX8_begin_68 hc1 (by omega) ?_
      simp only [up2_same]
      refine am_iload_n rfl dX8_begin_69 ?_
      refine mm_ias dX8_begin_70 hc2 (by omega) ?_
      refine am_aload_n rfl dX8_begin_71 ?_
      refine mm_getR dX8_begin_72 fl_X8_28 hc0 rfl ?_
      refine am_aload_n rfl dX8_begin_75 ?_
      refine mm_getR dX8_begin_76 fl_X8_21 hc0 rfl ?_
      refine mm_iconst dX8_begin_79 ?_
      refine mm_ial dX8_begin_80 hc1 (by omega) ?_
      rw [up2_rd (by omega)]
      simp only [up2_same]
      refine am_iload rfl dX8_begin_81 ?_
      refine mm_ias dX8_begin_83 hc3 (by omega) ?_
      refine am_return dX8_begin_84 rfl ?_
      first
        | (rw [bgS, if_neg (by omega), if_pos (by omega)]; exact ⟨rfl, rfl⟩)
        | (rw [bgS, if_neg (by omega), if_neg (by omega)]; exact ⟨rfl, rfl⟩)
  · refine am_return dX8_begin_42 rfl ?_
    rw [bgS, if_pos (by omega)]
    exact ⟨rfl, rfl⟩
