theorem pow6 {n : Int} (h : 0 ≤ n ∧ n ≤ 6) : (0 : Int) < 2 ^ n.toNat ∧ (2 : Int) ^ n.toNat ≤ 64 := by
  have h1 : n.toNat ≤ 6 := by omega
  have h2 := Nat.pow_le_pow_right (n := 2) (by decide) h1
  refine ⟨Int.pow_pos (by decide), ?_⟩
  have e : ((2 : Int) ^ n.toNat) = ((2 ^ n.toNat : Nat) : Int) := by push_cast; rfl
  rw [e]
  omega
set_option maxRecDepth 100000 in
set_option maxHeartbeats 4000000 in
theorem c_areStates {M : am_M} {x n : Int} (hx : Rg x) (hn : 0 ≤ n ∧ n ≤ 6) : am_E eX9_areStates [.int (iI x), .int (iI n)] M (fun r M' => r = some (.int (iI (b2 (0 ≤ x ∧ x < 1 * 2 ^ n.toNat)))) ∧ M' = M) := by
  refine am_enter rfl rfl (Nat.le_of_ble_eq_true rfl) ?_
  have hp := pow6 hn
  refine am_iload_n rfl dX9_areStates_0 ?_
  refine mm_zlt (tgt := 15) dX9_areStates_1 (by decide) (by omega) (fun h1 => ?_) (fun h1 => ?_)
  · refine mm_iconst dX9_areStates_15 ?_
    refine am_ireturn dX9_areStates_16 rfl rfl ?_
    first | exact ⟨mm_rt (by omega), rfl⟩ | exact ⟨mm_rf (by omega), rfl⟩
  · refine am_iload_n rfl dX9_areStates_4 ?_
    refine mm_iconst dX9_areStates_5 ?_
    refine am_iload_n rfl dX9_areStates_6 ?_
    refine mm_ishl dX9_areStates_7 (by omega) (by omega) ?_
    refine mm_jge (tgt := 15) dX9_areStates_8 (by decide) (by omega) (by omega) (fun h8 => ?_) (fun h8 => ?_)
    · refine mm_iconst dX9_areStates_15 ?_
      refine am_ireturn dX9_areStates_16 rfl rfl ?_
      first | exact ⟨mm_rt (by omega), rfl⟩ | exact ⟨mm_rf (by omega), rfl⟩
    · refine mm_iconst dX9_areStates_11 ?_
      refine am_goto (tgt := 16) dX9_areStates_12 (by decide) ?_
      refine am_ireturn dX9_areStates_16 rfl rfl ?_
      first | exact ⟨mm_rt (by omega), rfl⟩ | exact ⟨mm_rf (by omega), rfl⟩
set_option maxRecDepth 100000 in
set_option maxHeartbeats 4000000 in
theorem c_isFirst {M : am_M} {x a : Int} (hx : Rg x) (ha : Rg a) : am_E eX9_isFirst [.int (iI x), .int (iI a)] M (fun r M' => r = some (.int (iI (b2 (okA x a)))) ∧ M' = M) := by
  refine am_enter rfl rfl (Nat.le_of_ble_eq_true rfl) ?_
  refine am_iload_n rfl dX9_isFirst_0 ?_
  refine am_ci (mm_S1 dX9_isFirst_1 in_X9_looksAtFirst mk_X9_125 st_X9_looksAtFirst ⟨Nat.le_of_ble_eq_true rfl, Nat.le_of_ble_eq_true rfl⟩ (Nat.le_of_ble_eq_true rfl)) (c_looksAtFirst hx) ?_
  refine mm_bne (tgt := 9) dX9_isFirst_4 (by decide) (fun h4 => ?_) (fun h4 => ?_)
  · refine am_iload_n rfl dX9_isFirst_9 ?_
    refine am_ci (mm_S1 dX9_isFirst_10 in_X9_isCall mk_X9_224 st_X9_isCall ⟨Nat.le_of_ble_eq_true rfl, Nat.le_of_ble_eq_true rfl⟩ (Nat.le_of_ble_eq_true rfl)) (c_isCall hx) ?_
    refine mm_beq (tgt := 34) dX9_isFirst_13 (by decide) (fun h13 => ?_) (fun h13 => ?_)
    · refine am_iload_n rfl dX9_isFirst_34 ?_
      refine am_ci (mm_S1 dX9_isFirst_35 in_X9_isVariable mk_X9_165 st_X9_isVariable ⟨Nat.le_of_ble_eq_true rfl, Nat.le_of_ble_eq_true rfl⟩ (Nat.le_of_ble_eq_true rfl)) (c_isVariable ha) ?_
      refine am_ireturn dX9_isFirst_38 rfl (mm_nz (b2_R _)) ?_
      exact ⟨mm_rb (by omega), rfl⟩
    · refine am_iload_n rfl dX9_isFirst_16 ?_
      refine mm_zlt (tgt := 30) dX9_isFirst_17 (by decide) (by omega) (fun h17 => ?_) (fun h17 => ?_)
      · refine mm_iconst dX9_isFirst_30 ?_
        refine am_goto (tgt := 38) dX9_isFirst_31 (by decide) ?_
        refine am_ireturn dX9_isFirst_38 rfl rfl ?_
        first | exact ⟨mm_rt (by omega), rfl⟩ | exact ⟨mm_rf (by omega), rfl⟩
      · refine am_iload_n rfl dX9_isFirst_20 ?_
        refine mm_bipush dX9_isFirst_21 (by decide) ?_
        refine mm_jge (tgt := 30) dX9_isFirst_23 (by decide) (by omega) (by omega) (fun h23 => ?_) (fun h23 => ?_)
        · refine mm_iconst dX9_isFirst_30 ?_
          refine am_goto (tgt := 38) dX9_isFirst_31 (by decide) ?_
          refine am_ireturn dX9_isFirst_38 rfl rfl ?_
          first | exact ⟨mm_rt (by omega), rfl⟩ | exact ⟨mm_rf (by omega), rfl⟩
        · refine mm_iconst dX9_isFirst_26 ?_
          refine am_goto (tgt := 38) dX9_isFirst_27 (by decide) ?_
          refine am_ireturn dX9_isFirst_38 rfl rfl ?_
          first | exact ⟨mm_rt (by omega), rfl⟩ | exact ⟨mm_rf (by omega), rfl⟩
  · refine mm_iconst dX9_isFirst_7 ?_
    refine am_ireturn dX9_isFirst_8 rfl rfl ?_
    first | exact ⟨mm_rt (by omega), rfl⟩ | exact ⟨mm_rf (by omega), rfl⟩
abbrev okB (S : mm_S) (s b : Int) : Prop := ¬ lookB s ∨ (s = 0 ∧ hasK S b) ∨ ((s = 1 ∨ s = 2 ∨ s = 5) ∧ 0 ≤ b ∧ b < 8) ∨ (¬ (s = 0 ∨ s = 1 ∨ s = 2 ∨ s = 5) ∧ 0 ≤ b ∧ b < 5)
def swS (sh : List mm_H) : Prop := sh[0]? = some (.inr (9, [.inr (some 1), .inr (some 82), .inr (some 85), .inr (some 138), .inr (some 180), .inl false, .inl false]))
set_option maxRecDepth 100000 in
set_option maxHeartbeats 4000000 in
theorem c_isSecond {sh : List mm_H} {S : mm_S} {L : mm_L} (hx0 : swS sh) (hb : bkS sh) (hv : bkV S) {x b : Int} (hx : Rg x) (hbb : Rg b) : am_E eX9_isSecond [.ref 0, .int (iI x), .int (iI b)] (mm sh S L) (fun r M' => r = some (.int (iI (b2 (okB S x b)))) ∧ M' = mm sh S L) := by
  obtain ⟨hB1, hB2, hB3, hB4, hB5⟩ := hb
  obtain ⟨w0, w1, w2, w3⟩ := hv
  refine am_enter rfl rfl (Nat.le_of_ble_eq_true rfl) ?_
  refine am_iload_n rfl dX9_isSecond_0 ?_
  refine am_ci (mm_S1 dX9_isSecond_1 in_X9_looksAtSecond mk_X9_128 st_X9_looksAtSecond ⟨Nat.le_of_ble_eq_true rfl, Nat.le_of_ble_eq_true rfl⟩ (Nat.le_of_ble_eq_true rfl)) (c_looksAtSecond hx) ?_
  refine mm_bne (tgt := 9) dX9_isSecond_4 (by decide) (fun h4 => ?_) (fun h4 => ?_)
  · refine am_iload_n rfl dX9_isSecond_9 ?_
    refine mm_zne (tgt := 22) dX9_isSecond_10 (by decide) (by omega) (fun h10 => ?_) (fun h10 => ?_)
    · refine am_iload_n rfl dX9_isSecond_22 ?_
      refine am_ci (mm_S1 dX9_isSecond_23 in_X9_usesThing mk_X9_221 st_X9_usesThing ⟨Nat.le_of_ble_eq_true rfl, Nat.le_of_ble_eq_true rfl⟩ (Nat.le_of_ble_eq_true rfl)) (c_usesThing hx) ?_
      refine mm_beq (tgt := 36) dX9_isSecond_26 (by decide) (fun h26 => ?_) (fun h26 => ?_)
      · refine am_iload_n rfl dX9_isSecond_36 ?_
        refine am_ci (mm_S1 dX9_isSecond_37 in_X9_isVariable mk_X9_165 st_X9_isVariable ⟨Nat.le_of_ble_eq_true rfl, Nat.le_of_ble_eq_true rfl⟩ (Nat.le_of_ble_eq_true rfl)) (c_isVariable hbb) ?_
        refine am_ireturn dX9_isSecond_40 rfl (mm_nz (b2_R _)) ?_
        exact ⟨mm_rb (by omega), rfl⟩
      · refine am_iload_n rfl dX9_isSecond_29 ?_
        refine am_ci (mm_S1 dX9_isSecond_30 in_X9_isName mk_X9_80 st_X9_isName ⟨Nat.le_of_ble_eq_true rfl, Nat.le_of_ble_eq_true rfl⟩ (Nat.le_of_ble_eq_true rfl)) (c_isName hbb) ?_
        refine am_goto (tgt := 40) dX9_isSecond_33 (by decide) ?_
        refine am_ireturn dX9_isSecond_40 rfl (mm_nz (b2_R _)) ?_
        exact ⟨mm_rb (by omega), rfl⟩
    · refine am_aload_n rfl dX9_isSecond_13 ?_
      refine mm_getR dX9_isSecond_14 fl_X9_10 hx0 rfl ?_
      refine am_iload_n rfl dX9_isSecond_17 ?_
      refine am_ci (mm_V1 dX9_isSecond_18 in_X0_hasKind mk_X9_66 im_X0_hasKind sl_X0_hasKind ⟨Nat.le_of_ble_eq_true rfl, Nat.le_of_ble_eq_true rfl⟩ rfl hB1 (Nat.le_of_ble_eq_true rfl)) (c_hasKind ⟨hB1, hB2, hB3, hB4, hB5⟩ ⟨w0, w1, w2, w3⟩ hbb) ?_
      refine am_ireturn dX9_isSecond_21 rfl (mm_nz (b2_R _)) ?_
      exact ⟨mm_rb (by omega), rfl⟩
  · refine mm_iconst dX9_isSecond_7 ?_
    refine am_ireturn dX9_isSecond_8 rfl rfl ?_
    first | exact ⟨mm_rt (by omega), rfl⟩ | exact ⟨mm_rf (by omega), rfl⟩
abbrev okKind (s e : Int) : Prop := (1 ≤ s ∧ s ≤ 6) ∧ 0 ≤ e ∧ e < 1 * 2 ^ s.toNat
def kindR (S : mm_S) (s e : Int) : Int := if okKind s e then (if S 1 0 < 6 then S 1 0 else -4) else -2
def kindNew (S : mm_S) (s e : Int) : mm_S := up2 (fillS (fillS (up2 (up2 S (4 + 3 * (S 1 0).toNat) 0 s) (4 + 3 * (S 1 0).toNat) 1 e) (4 + 3 * (S 1 0).toNat + 1) 48 (-1)) (4 + 3 * (S 1 0).toNat + 2) 48 (-1)) 1 0 (S 1 0 + 1)
def kindS (S : mm_S) (s e : Int) : mm_S := if okKind s e then (if S 1 0 < 6 then kindNew S s e else S) else S
set_option maxRecDepth 100000 in
set_option maxHeartbeats 4000000 in
theorem c_kind {sh : List mm_H} {S : mm_S} {L : mm_L} (hx0 : swS sh) (hb : bkS sh) (hv : bkV S) {s e : Int} (hs : Rg s) (he : Rg e) : am_E eX9_kind [.ref 0, .int (iI s), .int (iI e)] (mm sh S L) (fun r M' => r = some (.int (iI (kindR S s e))) ∧ M' = mm sh (kindS S s e) L) := by
  obtain ⟨hB1, hB2, hB3, hB4, hB5⟩ := hb
  obtain ⟨w0, w1, w2, w3⟩ := hv
  refine am_enter rfl rfl (Nat.le_of_ble_eq_true rfl) ?_
  refine am_iload_n rfl dX9_kind_0 ?_
  refine mm_iconst dX9_kind_1 ?_
  refine mm_jlt (tgt := 19) dX9_kind_2 (by decide) (by omega) (by omega) (fun h2 => ?_) (fun h2 => ?_)
  · refine mm_bipush dX9_kind_19 (by decide) ?_
    refine am_ireturn dX9_kind_21 rfl rfl ?_
    first | exact ⟨by rw [kindR, if_neg (by omega)], by rw [kindS, if_neg (by omega)]⟩ | exact ⟨by rw [kindR, if_pos (by omega), if_neg (by omega)], by rw [kindS, if_pos (by omega), if_neg (by omega)]⟩ | exact ⟨by rw [kindR, if_pos (by omega), if_pos (by omega)], by rw [kindS, if_pos (by omega), if_pos (by omega)]; rfl⟩
  · refine am_iload_n rfl dX9_kind_5 ?_
    refine mm_bipush dX9_kind_6 (by decide) ?_
    refine mm_jgt (tgt := 19) dX9_kind_8 (by decide) (by omega) (by omega) (fun h8 => ?_) (fun h8 => ?_)
    · refine mm_bipush dX9_kind_19 (by decide) ?_
      refine am_ireturn dX9_kind_21 rfl rfl ?_
      first | exact ⟨by rw [kindR, if_neg (by omega)], by rw [kindS, if_neg (by omega)]⟩ | exact ⟨by rw [kindR, if_pos (by omega), if_neg (by omega)], by rw [kindS, if_pos (by omega), if_neg (by omega)]⟩ | exact ⟨by rw [kindR, if_pos (by omega), if_pos (by omega)], by rw [kindS, if_pos (by omega), if_pos (by omega)]; rfl⟩
    · refine am_iload_n rfl dX9_kind_11 ?_
      refine am_iload_n rfl dX9_kind_12 ?_
      refine am_ci (mm_S2 dX9_kind_13 in_X9_areStates mk_X9_49 st_X9_areStates ⟨Nat.le_of_ble_eq_true rfl, Nat.le_of_ble_eq_true rfl⟩ (Nat.le_of_ble_eq_true rfl)) (c_areStates he (by omega)) ?_
      refine mm_bne (tgt := 22) dX9_kind_16 (by decide) (fun h16 => ?_) (fun h16 => ?_)
      · refine am_aload_n rfl dX9_kind_22 ?_
        refine mm_getR dX9_kind_23 fl_X9_10 hx0 rfl ?_
        refine mm_getI dX9_kind_26 fl_X9_53 hB1 rfl ?_
        refine mm_bipush dX9_kind_29 (by decide) ?_
        refine mm_jlt (tgt := 37) dX9_kind_31 (by decide) (by omega) (by omega) (fun h31 => ?_) (fun h31 => ?_)
        · refine am_aload_n rfl dX9_kind_37 ?_
          refine mm_getR dX9_kind_38 fl_X9_10 hx0 rfl ?_
          refine mm_getR dX9_kind_41 fl_X9_56 hB1 rfl ?_
          refine am_aload_n rfl dX9_kind_44 ?_
          refine mm_getR dX9_kind_45 fl_X9_10 hx0 rfl ?_
          refine mm_getI dX9_kind_48 fl_X9_53 hB1 rfl ?_
          refine mm_aal dX9_kind_51 (fun _ => rfl) hB2 ⟨by omega, by omega, by omega⟩ (kArr_at (by omega)) ?_
          refine am_iload_n rfl dX9_kind_52 ?_
          refine am_iload_n rfl dX9_kind_53 ?_
          refine am_cv (mm_V2 dX9_kind_54 in_X4_begin mk_X9_60 im_X4_begin sl_X4_begin ⟨Nat.le_of_ble_eq_true rfl, Nat.le_of_ble_eq_true rfl⟩ rfl (hB4 (S 1 0).toNat (by omega)).1 (Nat.le_of_ble_eq_true rfl)) (c_kindBegin (hB4 (S 1 0).toNat (by omega))) ?_
          refine am_aload_n rfl dX9_kind_57 ?_
          refine mm_getR dX9_kind_58 fl_X9_10 hx0 rfl ?_
          refine am_dup rfl dX9_kind_61 ?_
          refine mm_getI dX9_kind_62 fl_X9_53 hB1 rfl ?_
          have e10 : (fillS (fillS (up2 (up2 S (4 + 3 * (S 1 0).toNat) 0 s) (4 + 3 * (S 1 0).toNat) 1 e) (4 + 3 * (S 1 0).toNat + 1) 48 (-1)) (4 + 3 * (S 1 0).toNat + 2) 48 (-1)) 1 0 = S 1 0 := by
            simp only [fillS, up2]
            rw [if_neg (by omega), if_neg (by omega), if_neg (by omega), if_neg (by omega)]
          rw [e10]
          refine am_dup_x1 rfl rfl dX9_kind_65 ?_
          refine mm_iconst dX9_kind_66 ?_
          refine mm_iadd dX9_kind_67 ?_
          refine mm_putI dX9_kind_68 fp_X9_53 hB1 rfl ?_
          refine am_ireturn dX9_kind_71 rfl rfl ?_
          first | exact ⟨by rw [kindR, if_neg (by omega)], by rw [kindS, if_neg (by omega)]⟩ | exact ⟨by rw [kindR, if_pos (by omega), if_neg (by omega)], by rw [kindS, if_pos (by omega), if_neg (by omega)]⟩ | exact ⟨by rw [kindR, if_pos (by omega), if_pos (by omega)], by rw [kindS, if_pos (by omega), if_pos (by omega)]; rfl⟩
        · refine mm_bipush dX9_kind_34 (by decide) ?_
          refine am_ireturn dX9_kind_36 rfl rfl ?_
          first | exact ⟨by rw [kindR, if_neg (by omega)], by rw [kindS, if_neg (by omega)]⟩ | exact ⟨by rw [kindR, if_pos (by omega), if_neg (by omega)], by rw [kindS, if_pos (by omega), if_neg (by omega)]⟩ | exact ⟨by rw [kindR, if_pos (by omega), if_pos (by omega)], by rw [kindS, if_pos (by omega), if_pos (by omega)]; rfl⟩
      · refine mm_bipush dX9_kind_19 (by decide) ?_
        refine am_ireturn dX9_kind_21 rfl rfl ?_
        first | exact ⟨by rw [kindR, if_neg (by omega)], by rw [kindS, if_neg (by omega)]⟩ | exact ⟨by rw [kindR, if_pos (by omega), if_neg (by omega)], by rw [kindS, if_pos (by omega), if_neg (by omega)]⟩ | exact ⟨by rw [kindR, if_pos (by omega), if_pos (by omega)], by rw [kindS, if_pos (by omega), if_pos (by omega)]; rfl⟩
