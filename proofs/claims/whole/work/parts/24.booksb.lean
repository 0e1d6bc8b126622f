abbrev okHeir (S : mm_S) (k m : Int) : Prop := hasK S k ∧ 0 ≤ m ∧ m ≤ 6 - S (4 + 3 * k.toNat) 0
def heirR (S : mm_S) (k m : Int) : Int := if okHeir S k m then (if S 1 0 < 6 then S 1 0 else -4) else -2
def heirNew (S : mm_S) (k m : Int) : mm_S := up2 (cpyS (cpyS (up2 (up2 S (4 + 3 * (S 1 0).toNat) 0 (S (4 + 3 * k.toNat) 0 + m)) (4 + 3 * (S 1 0).toNat) 1 (up2 S (4 + 3 * (S 1 0).toNat) 0 (S (4 + 3 * k.toNat) 0 + m) (4 + 3 * k.toNat) 1)) ((4 + 3 * k.toNat) + 1) ((4 + 3 * (S 1 0).toNat) + 1) 48) ((4 + 3 * k.toNat) + 2) ((4 + 3 * (S 1 0).toNat) + 2) 48) 1 0 (S 1 0 + 1)
def heirS (S : mm_S) (k m : Int) : mm_S := if okHeir S k m then (if S 1 0 < 6 then heirNew S k m else S) else S
set_option maxRecDepth 100000 in
set_option maxHeartbeats 4000000 in
theorem c_heir {sh : List mm_H} {S : mm_S} {L : mm_L} (hx0 : swS sh) (hb : bkS sh) (hv : bkV S) {k m : Int} (hk : Rg k) (hm : Rg m) : am_E eX9_heir [.ref 0, .int (iI k), .int (iI m)] (mm sh S L) (fun r M' => r = some (.int (iI (heirR S k m))) ∧ M' = mm sh (heirS S k m) L) := by
  obtain ⟨hB1, hB2, hB3, hB4, hB5⟩ := hb
  obtain ⟨w0, w1, w2, w3⟩ := hv
  refine am_enter rfl rfl (Nat.le_of_ble_eq_true rfl) ?_
  refine am_aload_n rfl dX9_heir_0 ?_
  refine mm_getR dX9_heir_1 fl_X9_10 hx0 rfl ?_
  refine am_iload_n rfl dX9_heir_4 ?_
  refine am_ci (mm_V1 dX9_heir_5 in_X0_hasKind mk_X9_66 im_X0_hasKind sl_X0_hasKind ⟨Nat.le_of_ble_eq_true rfl, Nat.le_of_ble_eq_true rfl⟩ rfl hB1 (Nat.le_of_ble_eq_true rfl)) (c_hasKind ⟨hB1, hB2, hB3, hB4, hB5⟩ ⟨w0, w1, w2, w3⟩ hk) ?_
  refine mm_beq (tgt := 34) dX9_heir_8 (by decide) (fun h8 => ?_) (fun h8 => ?_)
  · refine mm_bipush dX9_heir_34 (by decide) ?_
    refine am_ireturn dX9_heir_36 rfl rfl ?_
    first | exact ⟨by rw [heirR, if_neg (by omega)], by rw [heirS, if_neg (by omega)]⟩ | exact ⟨by rw [heirR, if_pos (by omega), if_neg (by omega)], by rw [heirS, if_pos (by omega), if_neg (by omega)]⟩ | exact ⟨by rw [heirR, if_pos (by omega), if_pos (by omega)], by rw [heirS, if_pos (by omega), if_pos (by omega)]; rfl⟩
  · refine am_iload_n rfl dX9_heir_11 ?_
    refine mm_zlt (tgt := 34) dX9_heir_12 (by decide) (by omega) (fun h12 => ?_) (fun h12 => ?_)
    · refine mm_bipush dX9_heir_34 (by decide) ?_
      refine am_ireturn dX9_heir_36 rfl rfl ?_
      first | exact ⟨by rw [heirR, if_neg (by omega)], by rw [heirS, if_neg (by omega)]⟩ | exact ⟨by rw [heirR, if_pos (by omega), if_neg (by omega)], by rw [heirS, if_pos (by omega), if_neg (by omega)]⟩ | exact ⟨by rw [heirR, if_pos (by omega), if_pos (by omega)], by rw [heirS, if_pos (by omega), if_pos (by omega)]; rfl⟩
    · refine am_iload_n rfl dX9_heir_15 ?_
      refine mm_bipush dX9_heir_16 (by decide) ?_
      refine am_aload_n rfl dX9_heir_18 ?_
      refine mm_getR dX9_heir_19 fl_X9_10 hx0 rfl ?_
      refine mm_getR dX9_heir_22 fl_X9_56 hB1 rfl ?_
      refine am_iload_n rfl dX9_heir_25 ?_
      refine mm_aal dX9_heir_26 (fun _ => rfl) hB2 ⟨by omega, by omega, by omega⟩ (kArr_at (by omega)) ?_
      refine mm_getI dX9_heir_27 fl_X9_70 (hB4 k.toNat (by omega)).1 rfl ?_
      refine mm_isub dX9_heir_30 ?_
      refine mm_jle (tgt := 37) dX9_heir_31 (by decide) (by omega) (by have := (w2 k.toNat (by omega)).1; omega) (fun h31 => ?_) (fun h31 => ?_)
      · refine am_aload_n rfl dX9_heir_37 ?_
        refine mm_getR dX9_heir_38 fl_X9_10 hx0 rfl ?_
        refine mm_getI dX9_heir_41 fl_X9_53 hB1 rfl ?_
        refine mm_bipush dX9_heir_44 (by decide) ?_
        refine mm_jlt (tgt := 52) dX9_heir_46 (by decide) (by omega) (by omega) (fun h46 => ?_) (fun h46 => ?_)
        · refine am_aload_n rfl dX9_heir_52 ?_
          refine mm_getR dX9_heir_53 fl_X9_10 hx0 rfl ?_
          refine mm_getR dX9_heir_56 fl_X9_56 hB1 rfl ?_
          refine am_aload_n rfl dX9_heir_59 ?_
          refine mm_getR dX9_heir_60 fl_X9_10 hx0 rfl ?_
          refine mm_getI dX9_heir_63 fl_X9_53 hB1 rfl ?_
          refine mm_aal dX9_heir_66 (fun _ => rfl) hB2 ⟨by omega, by omega, by omega⟩ (kArr_at (by omega)) ?_
          refine am_aload_n rfl dX9_heir_67 ?_
          refine mm_getR dX9_heir_68 fl_X9_10 hx0 rfl ?_
          refine mm_getR dX9_heir_71 fl_X9_56 hB1 rfl ?_
          refine am_iload_n rfl dX9_heir_74 ?_
          refine mm_aal dX9_heir_75 (fun _ => rfl) hB2 ⟨by omega, by omega, by omega⟩ (kArr_at (by omega)) ?_
          refine am_iload_n rfl dX9_heir_76 ?_
          refine am_cv (mm_V2 dX9_heir_77 in_X4_inherit mk_X9_73 im_X4_inherit sl_X4_inherit ⟨Nat.le_of_ble_eq_true rfl, Nat.le_of_ble_eq_true rfl⟩ rfl (hB4 (S 1 0).toNat (by omega)).1 (Nat.le_of_ble_eq_true rfl)) (c_inherit (hB4 (S 1 0).toNat (by omega)) (hB4 k.toNat (by omega))) ?_
          refine am_aload_n rfl dX9_heir_80 ?_
          refine mm_getR dX9_heir_81 fl_X9_10 hx0 rfl ?_
          refine am_dup rfl dX9_heir_84 ?_
          refine mm_getI dX9_heir_85 fl_X9_53 hB1 rfl ?_
          have e10 : (cpyS (cpyS (up2 (up2 S (4 + 3 * (S 1 0).toNat) 0 (S (4 + 3 * k.toNat) 0 + m)) (4 + 3 * (S 1 0).toNat) 1 (up2 S (4 + 3 * (S 1 0).toNat) 0 (S (4 + 3 * k.toNat) 0 + m) (4 + 3 * k.toNat) 1)) ((4 + 3 * k.toNat) + 1) ((4 + 3 * (S 1 0).toNat) + 1) 48) ((4 + 3 * k.toNat) + 2) ((4 + 3 * (S 1 0).toNat) + 2) 48) 1 0 = S 1 0 := by
            simp only [cpyS, up2]
            rw [if_neg (by omega), if_neg (by omega), if_neg (by omega), if_neg (by omega)]
          rw [e10]
          refine am_dup_x1 rfl rfl dX9_heir_88 ?_
          refine mm_iconst dX9_heir_89 ?_
          refine mm_iadd dX9_heir_90 ?_
          refine mm_putI dX9_heir_91 fp_X9_53 hB1 rfl ?_
          refine am_ireturn dX9_heir_94 rfl rfl ?_
          first | exact ⟨by rw [heirR, if_neg (by omega)], by rw [heirS, if_neg (by omega)]⟩ | exact ⟨by rw [heirR, if_pos (by omega), if_neg (by omega)], by rw [heirS, if_pos (by omega), if_neg (by omega)]⟩ | exact ⟨by rw [heirR, if_pos (by omega), if_pos (by omega)], by rw [heirS, if_pos (by omega), if_pos (by omega)]; rfl⟩
        · refine mm_bipush dX9_heir_49 (by decide) ?_
          refine am_ireturn dX9_heir_51 rfl rfl ?_
          first | exact ⟨by rw [heirR, if_neg (by omega)], by rw [heirS, if_neg (by omega)]⟩ | exact ⟨by rw [heirR, if_pos (by omega), if_neg (by omega)], by rw [heirS, if_pos (by omega), if_neg (by omega)]⟩ | exact ⟨by rw [heirR, if_pos (by omega), if_pos (by omega)], by rw [heirS, if_pos (by omega), if_pos (by omega)]; rfl⟩
      · refine mm_bipush dX9_heir_34 (by decide) ?_
        refine am_ireturn dX9_heir_36 rfl rfl ?_
        first | exact ⟨by rw [heirR, if_neg (by omega)], by rw [heirS, if_neg (by omega)]⟩ | exact ⟨by rw [heirR, if_pos (by omega), if_neg (by omega)], by rw [heirS, if_pos (by omega), if_neg (by omega)]⟩ | exact ⟨by rw [heirR, if_pos (by omega), if_pos (by omega)], by rw [heirS, if_pos (by omega), if_pos (by omega)]; rfl⟩
abbrev okUse (S : mm_S) (k s n y z : Int) : Prop := hasSt S k s ∧ (0 ≤ n ∧ n < 8) ∧ hasSt S k y ∧ (z = -1 ∨ hasSt S k z)
def useR (S : mm_S) (k s n y z : Int) : Int := if okUse S k s n y z then (if kdH S (4 + 3 * k.toNat) s n then -3 else 1) else -2
def useS (S : mm_S) (k s n y z : Int) : mm_S := if okUse S k s n y z then (if kdH S (4 + 3 * k.toNat) s n then S else up2 (up2 S ((4 + 3 * k.toNat) + 1) (s * 8 + n).toNat y) ((4 + 3 * k.toNat) + 2) (s * 8 + n).toNat z) else S
set_option maxRecDepth 100000 in
set_option maxHeartbeats 4000000 in
theorem c_use {sh : List mm_H} {S : mm_S} {L : mm_L} (hx0 : swS sh) (hb : bkS sh) (hv : bkV S) {k s n y z : Int} (hk : Rg k) (hs : Rg s) (hn : Rg n) (hy : Rg y) (hz : Rg z) : am_E eX9_use [.ref 0, .int (iI k), .int (iI s), .int (iI n), .int (iI y), .int (iI z)] (mm sh S L) (fun r M' => r = some (.int (iI (useR S k s n y z))) ∧ M' = mm sh (useS S k s n y z) L) := by
  obtain ⟨hB1, hB2, hB3, hB4, hB5⟩ := hb
  obtain ⟨w0, w1, w2, w3⟩ := hv
  refine am_enter rfl rfl (Nat.le_of_ble_eq_true rfl) ?_
  refine am_aload_n rfl dX9_use_0 ?_
  refine mm_getR dX9_use_1 fl_X9_10 hx0 rfl ?_
  refine am_iload_n rfl dX9_use_4 ?_
  refine am_iload_n rfl dX9_use_5 ?_
  refine am_ci (mm_V2 dX9_use_6 in_X0_hasState mk_X9_77 im_X0_hasState sl_X0_hasState ⟨Nat.le_of_ble_eq_true rfl, Nat.le_of_ble_eq_true rfl⟩ rfl hB1 (Nat.le_of_ble_eq_true rfl)) (c_hasState ⟨hB1, hB2, hB3, hB4, hB5⟩ ⟨w0, w1, w2, w3⟩ hk hs) ?_
  refine mm_beq (tgt := 32) dX9_use_9 (by decide) (fun h9 => ?_) (fun h9 => ?_)
  · refine mm_bipush dX9_use_32 (by decide) ?_
    refine am_ireturn dX9_use_34 rfl rfl ?_
    first | exact ⟨by rw [useR, if_neg (by omega)], by rw [useS, if_neg (by omega)]⟩ | exact ⟨by rw [useR, if_pos (by omega), if_pos (by assumption)], by rw [useS, if_pos (by omega), if_pos (by assumption)]⟩ | exact ⟨by rw [useR, if_pos (by omega), if_neg (by assumption)], by rw [useS, if_pos (by omega), if_neg (by assumption)]⟩
  · refine am_iload_n rfl dX9_use_12 ?_
    refine am_ci (mm_S1 dX9_use_13 in_X9_isName mk_X9_80 st_X9_isName ⟨Nat.le_of_ble_eq_true rfl, Nat.le_of_ble_eq_true rfl⟩ (Nat.le_of_ble_eq_true rfl)) (c_isName hn) ?_
    refine mm_beq (tgt := 32) dX9_use_16 (by decide) (fun h16 => ?_) (fun h16 => ?_)
    · refine mm_bipush dX9_use_32 (by decide) ?_
      refine am_ireturn dX9_use_34 rfl rfl ?_
      first | exact ⟨by rw [useR, if_neg (by omega)], by rw [useS, if_neg (by omega)]⟩ | exact ⟨by rw [useR, if_pos (by omega), if_pos (by assumption)], by rw [useS, if_pos (by omega), if_pos (by assumption)]⟩ | exact ⟨by rw [useR, if_pos (by omega), if_neg (by assumption)], by rw [useS, if_pos (by omega), if_neg (by assumption)]⟩
    · refine am_aload_n rfl dX9_use_19 ?_
      refine mm_getR dX9_use_20 fl_X9_10 hx0 rfl ?_
      refine am_iload_n rfl dX9_use_23 ?_
      refine am_iload rfl dX9_use_24 ?_
      refine am_ci (mm_V2 dX9_use_26 in_X0_hasState mk_X9_77 im_X0_hasState sl_X0_hasState ⟨Nat.le_of_ble_eq_true rfl, Nat.le_of_ble_eq_true rfl⟩ rfl hB1 (Nat.le_of_ble_eq_true rfl)) (c_hasState ⟨hB1, hB2, hB3, hB4, hB5⟩ ⟨w0, w1, w2, w3⟩ hk hy) ?_
      refine mm_bne (tgt := 35) dX9_use_29 (by decide) (fun h29 => ?_) (fun h29 => ?_)
      · refine am_iload rfl dX9_use_35 ?_
        refine mm_iconst dX9_use_37 ?_
        refine mm_jeq (tgt := 57) dX9_use_38 (by decide) (by omega) (by omega) (fun h38 => ?_) (fun h38 => ?_)
        · refine am_aload_n rfl dX9_use_57 ?_
          refine mm_getR dX9_use_58 fl_X9_10 hx0 rfl ?_
          refine mm_getR dX9_use_61 fl_X9_56 hB1 rfl ?_
          refine am_iload_n rfl dX9_use_64 ?_
          refine mm_aal dX9_use_65 (fun _ => rfl) hB2 ⟨by omega, by omega, by omega⟩ (kArr_at (by omega)) ?_
          refine am_iload_n rfl dX9_use_66 ?_
          refine am_iload_n rfl dX9_use_67 ?_
          refine am_ci (mm_V2 dX9_use_68 in_X4_hasUse mk_X9_83 im_X4_hasUse sl_X4_hasUse ⟨Nat.le_of_ble_eq_true rfl, Nat.le_of_ble_eq_true rfl⟩ rfl (hB4 k.toNat (by omega)).1 (Nat.le_of_ble_eq_true rfl)) (c_hasUse (hB4 k.toNat (by omega)) (w2 k.toNat (by omega)) hs hn) ?_
          refine mm_beq (tgt := 77) dX9_use_71 (by decide) (fun h71 => ?_) (fun h71 => ?_)
          · refine am_aload_n rfl dX9_use_77 ?_
            refine mm_getR dX9_use_78 fl_X9_10 hx0 rfl ?_
            refine mm_getR dX9_use_81 fl_X9_56 hB1 rfl ?_
            refine am_iload_n rfl dX9_use_84 ?_
            refine mm_aal dX9_use_85 (fun _ => rfl) hB2 ⟨by omega, by omega, by omega⟩ (kArr_at (by omega)) ?_
            refine am_iload_n rfl dX9_use_86 ?_
            refine am_iload_n rfl dX9_use_87 ?_
            refine am_iload rfl dX9_use_88 ?_
            refine am_iload rfl dX9_use_90 ?_
            refine am_cv (mm_V4 dX9_use_92 in_X4_setUse mk_X9_86 im_X4_setUse sl_X4_setUse ⟨Nat.le_of_ble_eq_true rfl, Nat.le_of_ble_eq_true rfl⟩ rfl (hB4 k.toNat (by omega)).1 (Nat.le_of_ble_eq_true rfl)) (c_setUse (hB4 k.toNat (by omega)) (w2 k.toNat (by omega)) hs hn (by omega)) ?_
            refine mm_iconst dX9_use_95 ?_
            refine am_ireturn dX9_use_96 rfl rfl ?_
            first | exact ⟨by rw [useR, if_neg (by omega)], by rw [useS, if_neg (by omega)]⟩ | exact ⟨by rw [useR, if_pos (by omega), if_pos (by assumption)], by rw [useS, if_pos (by omega), if_pos (by assumption)]⟩ | exact ⟨by rw [useR, if_pos (by omega), if_neg (by assumption)], by rw [useS, if_pos (by omega), if_neg (by assumption)]⟩
          · refine mm_bipush dX9_use_74 (by decide) ?_
            refine am_ireturn dX9_use_76 rfl rfl ?_
            first | exact ⟨by rw [useR, if_neg (by omega)], by rw [useS, if_neg (by omega)]⟩ | exact ⟨by rw [useR, if_pos (by omega), if_pos (by assumption)], by rw [useS, if_pos (by omega), if_pos (by assumption)]⟩ | exact ⟨by rw [useR, if_pos (by omega), if_neg (by assumption)], by rw [useS, if_pos (by omega), if_neg (by assumption)]⟩
        · refine am_aload_n rfl dX9_use_41 ?_
          refine mm_getR dX9_use_42 fl_X9_10 hx0 rfl ?_
          refine am_iload_n rfl dX9_use_45 ?_
          refine am_iload rfl dX9_use_46 ?_
          refine am_ci (mm_V2 dX9_use_48 in_X0_hasState mk_X9_77 im_X0_hasState sl_X0_hasState ⟨Nat.le_of_ble_eq_true rfl, Nat.le_of_ble_eq_true rfl⟩ rfl hB1 (Nat.le_of_ble_eq_true rfl)) (c_hasState ⟨hB1, hB2, hB3, hB4, hB5⟩ ⟨w0, w1, w2, w3⟩ hk hz) ?_
          refine mm_bne (tgt := 57) dX9_use_51 (by decide) (fun h51 => ?_) (fun h51 => ?_)
          · refine am_aload_n rfl dX9_use_57 ?_
            refine mm_getR dX9_use_58 fl_X9_10 hx0 rfl ?_
            refine mm_getR dX9_use_61 fl_X9_56 hB1 rfl ?_
            refine am_iload_n rfl dX9_use_64 ?_
            refine mm_aal dX9_use_65 (fun _ => rfl) hB2 ⟨by omega, by omega, by omega⟩ (kArr_at (by omega)) ?_
            refine am_iload_n rfl dX9_use_66 ?_
            refine am_iload_n rfl dX9_use_67 ?_
            refine am_ci (mm_V2 dX9_use_68 in_X4_hasUse mk_X9_83 im_X4_hasUse sl_X4_hasUse ⟨Nat.le_of_ble_eq_true rfl, Nat.le_of_ble_eq_true rfl⟩ rfl (hB4 k.toNat (by omega)).1 (Nat.le_of_ble_eq_true rfl)) (c_hasUse (hB4 k.toNat (by omega)) (w2 k.toNat (by omega)) hs hn) ?_
            refine mm_beq (tgt := 77) dX9_use_71 (by decide) (fun h71 => ?_) (fun h71 => ?_)
            · refine am_aload_n rfl dX9_use_77 ?_
              refine mm_getR dX9_use_78 fl_X9_10 hx0 rfl ?_
              refine mm_getR dX9_use_81 fl_X9_56 hB1 rfl ?_
              refine am_iload_n rfl dX9_use_84 ?_
              refine mm_aal dX9_use_85 (fun _ => rfl) hB2 ⟨by omega, by omega, by omega⟩ (kArr_at (by omega)) ?_
              refine am_iload_n rfl dX9_use_86 ?_
              refine am_iload_n rfl dX9_use_87 ?_
              refine am_iload rfl dX9_use_88 ?_
              refine am_iload rfl dX9_use_90 ?_
              refine am_cv (mm_V4 dX9_use_92 in_X4_setUse mk_X9_86 im_X4_setUse sl_X4_setUse ⟨Nat.le_of_ble_eq_true rfl, Nat.le_of_ble_eq_true rfl⟩ rfl (hB4 k.toNat (by omega)).1 (Nat.le_of_ble_eq_true rfl)) (c_setUse (hB4 k.toNat (by omega)) (w2 k.toNat (by omega)) hs hn (by omega)) ?_
              refine mm_iconst dX9_use_95 ?_
              refine am_ireturn dX9_use_96 rfl rfl ?_
              first | exact ⟨by rw [useR, if_neg (by omega)], by rw [useS, if_neg (by omega)]⟩ | exact ⟨by rw [useR, if_pos (by omega), if_pos (by assumption)], by rw [useS, if_pos (by omega), if_pos (by assumption)]⟩ | exact ⟨by rw [useR, if_pos (by omega), if_neg (by assumption)], by rw [useS, if_pos (by omega), if_neg (by assumption)]⟩
            · refine mm_bipush dX9_use_74 (by decide) ?_
              refine am_ireturn dX9_use_76 rfl rfl ?_
              first | exact ⟨by rw [useR, if_neg (by omega)], by rw [useS, if_neg (by omega)]⟩ | exact ⟨by rw [useR, if_pos (by omega), if_pos (by assumption)], by rw [useS, if_pos (by omega), if_pos (by assumption)]⟩ | exact ⟨by rw [useR, if_pos (by omega), if_neg (by assumption)], by rw [useS, if_pos (by omega), if_neg (by assumption)]⟩
          · refine mm_bipush dX9_use_54 (by decide) ?_
            refine am_ireturn dX9_use_56 rfl rfl ?_
            first | exact ⟨by rw [useR, if_neg (by omega)], by rw [useS, if_neg (by omega)]⟩ | exact ⟨by rw [useR, if_pos (by omega), if_pos (by assumption)], by rw [useS, if_pos (by omega), if_pos (by assumption)]⟩ | exact ⟨by rw [useR, if_pos (by omega), if_neg (by assumption)], by rw [useS, if_pos (by omega), if_neg (by assumption)]⟩
      · refine mm_bipush dX9_use_32 (by decide) ?_
        refine am_ireturn dX9_use_34 rfl rfl ?_
        first | exact ⟨by rw [useR, if_neg (by omega)], by rw [useS, if_neg (by omega)]⟩ | exact ⟨by rw [useR, if_pos (by omega), if_pos (by assumption)], by rw [useS, if_pos (by omega), if_pos (by assumption)]⟩ | exact ⟨by rw [useR, if_pos (by omega), if_neg (by assumption)], by rw [useS, if_pos (by omega), if_neg (by assumption)]⟩
abbrev okDrop (S : mm_S) (k s n : Int) : Prop := hasSt S k s ∧ (0 ≤ n ∧ n < 8)
def dropR (S : mm_S) (k s n : Int) : Int := if okDrop S k s n then (if kdH S (4 + 3 * k.toNat) s n then 1 else -3) else -2
def dropS (S : mm_S) (k s n : Int) : mm_S := if okDrop S k s n then (if kdH S (4 + 3 * k.toNat) s n then up2 (up2 S ((4 + 3 * k.toNat) + 1) (s * 8 + n).toNat (-1)) ((4 + 3 * k.toNat) + 2) (s * 8 + n).toNat (-1) else S) else S
set_option maxRecDepth 100000 in
set_option maxHeartbeats 4000000 in
theorem c_drop {sh : List mm_H} {S : mm_S} {L : mm_L} (hx0 : swS sh) (hb : bkS sh) (hv : bkV S) {k s n : Int} (hk : Rg k) (hs : Rg s) (hn : Rg n) : am_E eX9_drop [.ref 0, .int (iI k), .int (iI s), .int (iI n)] (mm sh S L) (fun r M' => r = some (.int (iI (dropR S k s n))) ∧ M' = mm sh (dropS S k s n) L) := by
  obtain ⟨hB1, hB2, hB3, hB4, hB5⟩ := hb
  obtain ⟨w0, w1, w2, w3⟩ := hv
  refine am_enter rfl rfl (Nat.le_of_ble_eq_true rfl) ?_
  refine am_aload_n rfl dX9_drop_0 ?_
  refine mm_getR dX9_drop_1 fl_X9_10 hx0 rfl ?_
  refine am_iload_n rfl dX9_drop_4 ?_
  refine am_iload_n rfl dX9_drop_5 ?_
  refine am_ci (mm_V2 dX9_drop_6 in_X0_hasState mk_X9_77 im_X0_hasState sl_X0_hasState ⟨Nat.le_of_ble_eq_true rfl, Nat.le_of_ble_eq_true rfl⟩ rfl hB1 (Nat.le_of_ble_eq_true rfl)) (c_hasState ⟨hB1, hB2, hB3, hB4, hB5⟩ ⟨w0, w1, w2, w3⟩ hk hs) ?_
  refine mm_beq (tgt := 19) dX9_drop_9 (by decide) (fun h9 => ?_) (fun h9 => ?_)
  · refine mm_bipush dX9_drop_19 (by decide) ?_
    refine am_ireturn dX9_drop_21 rfl rfl ?_
    first | exact ⟨by rw [dropR, if_neg (by omega)], by rw [dropS, if_neg (by omega)]⟩ | exact ⟨by rw [dropR, if_pos (by omega), if_pos (by assumption)], by rw [dropS, if_pos (by omega), if_pos (by assumption)]⟩ | exact ⟨by rw [dropR, if_pos (by omega), if_neg (by assumption)], by rw [dropS, if_pos (by omega), if_neg (by assumption)]⟩
  · refine am_iload_n rfl dX9_drop_12 ?_
    refine am_ci (mm_S1 dX9_drop_13 in_X9_isName mk_X9_80 st_X9_isName ⟨Nat.le_of_ble_eq_true rfl, Nat.le_of_ble_eq_true rfl⟩ (Nat.le_of_ble_eq_true rfl)) (c_isName hn) ?_
    refine mm_bne (tgt := 22) dX9_drop_16 (by decide) (fun h16 => ?_) (fun h16 => ?_)
    · refine am_aload_n rfl dX9_drop_22 ?_
      refine mm_getR dX9_drop_23 fl_X9_10 hx0 rfl ?_
      refine mm_getR dX9_drop_26 fl_X9_56 hB1 rfl ?_
      refine am_iload_n rfl dX9_drop_29 ?_
      refine mm_aal dX9_drop_30 (fun _ => rfl) hB2 ⟨by omega, by omega, by omega⟩ (kArr_at (by omega)) ?_
      refine am_iload_n rfl dX9_drop_31 ?_
      refine am_iload_n rfl dX9_drop_32 ?_
      refine am_ci (mm_V2 dX9_drop_33 in_X4_hasUse mk_X9_83 im_X4_hasUse sl_X4_hasUse ⟨Nat.le_of_ble_eq_true rfl, Nat.le_of_ble_eq_true rfl⟩ rfl (hB4 k.toNat (by omega)).1 (Nat.le_of_ble_eq_true rfl)) (c_hasUse (hB4 k.toNat (by omega)) (w2 k.toNat (by omega)) hs hn) ?_
      refine mm_bne (tgt := 42) dX9_drop_36 (by decide) (fun h36 => ?_) (fun h36 => ?_)
      · refine am_aload_n rfl dX9_drop_42 ?_
        refine mm_getR dX9_drop_43 fl_X9_10 hx0 rfl ?_
        refine mm_getR dX9_drop_46 fl_X9_56 hB1 rfl ?_
        refine am_iload_n rfl dX9_drop_49 ?_
        refine mm_aal dX9_drop_50 (fun _ => rfl) hB2 ⟨by omega, by omega, by omega⟩ (kArr_at (by omega)) ?_
        refine am_iload_n rfl dX9_drop_51 ?_
        refine am_iload_n rfl dX9_drop_52 ?_
        refine mm_iconst dX9_drop_53 ?_
        refine mm_iconst dX9_drop_54 ?_
        refine am_cv (mm_V4 dX9_drop_55 in_X4_setUse mk_X9_86 im_X4_setUse sl_X4_setUse ⟨Nat.le_of_ble_eq_true rfl, Nat.le_of_ble_eq_true rfl⟩ rfl (hB4 k.toNat (by omega)).1 (Nat.le_of_ble_eq_true rfl)) (c_setUse (hB4 k.toNat (by omega)) (w2 k.toNat (by omega)) hs hn (by omega)) ?_
        refine mm_iconst dX9_drop_58 ?_
        refine am_ireturn dX9_drop_59 rfl rfl ?_
        first | exact ⟨by rw [dropR, if_neg (by omega)], by rw [dropS, if_neg (by omega)]⟩ | exact ⟨by rw [dropR, if_pos (by omega), if_pos (by assumption)], by rw [dropS, if_pos (by omega), if_pos (by assumption)]⟩ | exact ⟨by rw [dropR, if_pos (by omega), if_neg (by assumption)], by rw [dropS, if_pos (by omega), if_neg (by assumption)]⟩
      · refine mm_bipush dX9_drop_39 (by decide) ?_
        refine am_ireturn dX9_drop_41 rfl rfl ?_
        first | exact ⟨by rw [dropR, if_neg (by omega)], by rw [dropS, if_neg (by omega)]⟩ | exact ⟨by rw [dropR, if_pos (by omega), if_pos (by assumption)], by rw [dropS, if_pos (by omega), if_pos (by assumption)]⟩ | exact ⟨by rw [dropR, if_pos (by omega), if_neg (by assumption)], by rw [dropS, if_pos (by omega), if_neg (by assumption)]⟩
    · refine mm_bipush dX9_drop_19 (by decide) ?_
      refine am_ireturn dX9_drop_21 rfl rfl ?_
      first | exact ⟨by rw [dropR, if_neg (by omega)], by rw [dropS, if_neg (by omega)]⟩ | exact ⟨by rw [dropR, if_pos (by omega), if_pos (by assumption)], by rw [dropS, if_pos (by omega), if_pos (by assumption)]⟩ | exact ⟨by rw [dropR, if_pos (by omega), if_neg (by assumption)], by rw [dropS, if_pos (by omega), if_neg (by assumption)]⟩
abbrev okEnds (S : mm_S) (k e : Int) : Prop := hasK S k ∧ 0 ≤ e ∧ e < 1 * 2 ^ (S (4 + 3 * k.toNat) 0).toNat
def endsR (S : mm_S) (k e : Int) : Int := if okEnds S k e then S (4 + 3 * k.toNat) 1 else -2
def endsS (S : mm_S) (k e : Int) : mm_S := if okEnds S k e then up2 S (4 + 3 * k.toNat) 1 e else S
set_option maxRecDepth 100000 in
set_option maxHeartbeats 4000000 in
theorem c_ends {sh : List mm_H} {S : mm_S} {L : mm_L} (hx0 : swS sh) (hb : bkS sh) (hv : bkV S) {k e : Int} (hk : Rg k) (he : Rg e) : am_E eX9_ends [.ref 0, .int (iI k), .int (iI e)] (mm sh S L) (fun r M' => r = some (.int (iI (endsR S k e))) ∧ M' = mm sh (endsS S k e) L) := by
  obtain ⟨hB1, hB2, hB3, hB4, hB5⟩ := hb
  obtain ⟨w0, w1, w2, w3⟩ := hv
  refine am_enter rfl rfl (Nat.le_of_ble_eq_true rfl) ?_
  refine am_aload_n rfl dX9_ends_0 ?_
  refine mm_getR dX9_ends_1 fl_X9_10 hx0 rfl ?_
  refine am_iload_n rfl dX9_ends_4 ?_
  refine am_ci (mm_V1 dX9_ends_5 in_X0_hasKind mk_X9_66 im_X0_hasKind sl_X0_hasKind ⟨Nat.le_of_ble_eq_true rfl, Nat.le_of_ble_eq_true rfl⟩ rfl hB1 (Nat.le_of_ble_eq_true rfl)) (c_hasKind ⟨hB1, hB2, hB3, hB4, hB5⟩ ⟨w0, w1, w2, w3⟩ hk) ?_
  refine mm_beq (tgt := 30) dX9_ends_8 (by decide) (fun h8 => ?_) (fun h8 => ?_)
  · refine mm_bipush dX9_ends_30 (by decide) ?_
    refine am_ireturn dX9_ends_32 rfl rfl ?_
    first | exact ⟨by rw [endsR, if_neg (by omega)], by rw [endsS, if_neg (by omega)]⟩ | exact ⟨by rw [endsR, if_pos (by omega)], by rw [endsS, if_pos (by omega)]⟩
  · refine am_iload_n rfl dX9_ends_11 ?_
    refine am_aload_n rfl dX9_ends_12 ?_
    refine mm_getR dX9_ends_13 fl_X9_10 hx0 rfl ?_
    refine mm_getR dX9_ends_16 fl_X9_56 hB1 rfl ?_
    refine am_iload_n rfl dX9_ends_19 ?_
    refine mm_aal dX9_ends_20 (fun _ => rfl) hB2 ⟨by omega, by omega, by omega⟩ (kArr_at (by omega)) ?_
    refine mm_getI dX9_ends_21 fl_X9_70 (hB4 k.toNat (by omega)).1 rfl ?_
    refine am_ci (mm_S2 dX9_ends_24 in_X9_areStates mk_X9_49 st_X9_areStates ⟨Nat.le_of_ble_eq_true rfl, Nat.le_of_ble_eq_true rfl⟩ (Nat.le_of_ble_eq_true rfl)) (c_areStates he (by have := (w2 k.toNat (by omega)).1; omega)) ?_
    refine mm_bne (tgt := 33) dX9_ends_27 (by decide) (fun h27 => ?_) (fun h27 => ?_)
    · refine am_aload_n rfl dX9_ends_33 ?_
      refine mm_getR dX9_ends_34 fl_X9_10 hx0 rfl ?_
      refine mm_getR dX9_ends_37 fl_X9_56 hB1 rfl ?_
      refine am_iload_n rfl dX9_ends_40 ?_
      refine mm_aal dX9_ends_41 (fun _ => rfl) hB2 ⟨by omega, by omega, by omega⟩ (kArr_at (by omega)) ?_
      refine mm_getI dX9_ends_42 fl_X9_90 (hB4 k.toNat (by omega)).1 rfl ?_
      refine am_ist3 dX9_ends_45 (Nat.le_of_ble_eq_true rfl) (am_c1i _) ?_
      refine am_aload_n rfl dX9_ends_46 ?_
      refine mm_getR dX9_ends_47 fl_X9_10 hx0 rfl ?_
      refine mm_getR dX9_ends_50 fl_X9_56 hB1 rfl ?_
      refine am_iload_n rfl dX9_ends_53 ?_
      refine mm_aal dX9_ends_54 (fun _ => rfl) hB2 ⟨by omega, by omega, by omega⟩ (kArr_at (by omega)) ?_
      refine am_iload_n rfl dX9_ends_55 ?_
      refine mm_putI dX9_ends_56 fp_X9_90 (hB4 k.toNat (by omega)).1 rfl ?_
      refine am_iload_n rfl dX9_ends_59 ?_
      refine am_ireturn dX9_ends_60 rfl rfl ?_
      first | exact ⟨by rw [endsR, if_neg (by omega)], by rw [endsS, if_neg (by omega)]⟩ | exact ⟨by rw [endsR, if_pos (by omega)], by rw [endsS, if_pos (by omega)]⟩
    · refine mm_bipush dX9_ends_30 (by decide) ?_
      refine am_ireturn dX9_ends_32 rfl rfl ?_
      first | exact ⟨by rw [endsR, if_neg (by omega)], by rw [endsS, if_neg (by omega)]⟩ | exact ⟨by rw [endsR, if_pos (by omega)], by rw [endsS, if_pos (by omega)]⟩
def leadsR (S : mm_S) (k s n : Int) (y : Prop) [Decidable y] : Int := if hasK S k then (if s = -1 ∧ n = -1 then S (4 + 3 * k.toNat) 0 else if hasSt S k s ∧ 0 ≤ n ∧ n < 8 then kdF S (4 + 3 * k.toNat) s n y else -2) else -2
set_option maxRecDepth 100000 in
set_option maxHeartbeats 4000000 in
theorem c_leads {sh : List mm_H} {S : mm_S} {L : mm_L} (hx0 : swS sh) (hb : bkS sh) (hv : bkV S) {k s n : Int} (hk : Rg k) (hs : Rg s) (hn : Rg n) {y : Prop} [Decidable y] : am_E eX9_leads [.ref 0, .int (iI k), .int (iI s), .int (iI n), .int (iI (b2 y))] (mm sh S L) (fun r M' => r = some (.int (iI (leadsR S k s n y))) ∧ M' = mm sh S L) := by
  obtain ⟨hB1, hB2, hB3, hB4, hB5⟩ := hb
  obtain ⟨w0, w1, w2, w3⟩ := hv
  refine am_enter rfl rfl (Nat.le_of_ble_eq_true rfl) ?_
  refine am_aload_n rfl dX9_leads_0 ?_
  refine mm_getR dX9_leads_1 fl_X9_10 hx0 rfl ?_
  refine am_iload_n rfl dX9_leads_4 ?_
  refine am_ci (mm_V1 dX9_leads_5 in_X0_hasKind mk_X9_66 im_X0_hasKind sl_X0_hasKind ⟨Nat.le_of_ble_eq_true rfl, Nat.le_of_ble_eq_true rfl⟩ rfl hB1 (Nat.le_of_ble_eq_true rfl)) (c_hasKind ⟨hB1, hB2, hB3, hB4, hB5⟩ ⟨w0, w1, w2, w3⟩ hk) ?_
  refine mm_bne (tgt := 14) dX9_leads_8 (by decide) (fun h8 => ?_) (fun h8 => ?_)
  · refine am_iload_n rfl dX9_leads_14 ?_
    refine mm_iconst dX9_leads_15 ?_
    refine mm_jne (tgt := 37) dX9_leads_16 (by decide) (by omega) (by omega) (fun h16 => ?_) (fun h16 => ?_)
    · refine am_aload_n rfl dX9_leads_37 ?_
      refine mm_getR dX9_leads_38 fl_X9_10 hx0 rfl ?_
      refine am_iload_n rfl dX9_leads_41 ?_
      refine am_iload_n rfl dX9_leads_42 ?_
      refine am_ci (mm_V2 dX9_leads_43 in_X0_hasState mk_X9_77 im_X0_hasState sl_X0_hasState ⟨Nat.le_of_ble_eq_true rfl, Nat.le_of_ble_eq_true rfl⟩ rfl hB1 (Nat.le_of_ble_eq_true rfl)) (c_hasState ⟨hB1, hB2, hB3, hB4, hB5⟩ ⟨w0, w1, w2, w3⟩ hk hs) ?_
      refine mm_beq (tgt := 56) dX9_leads_46 (by decide) (fun h46 => ?_) (fun h46 => ?_)
      · refine mm_bipush dX9_leads_56 (by decide) ?_
        refine am_ireturn dX9_leads_58 rfl rfl ?_
        first | (exfalso; omega) | exact ⟨by rw [leadsR, if_neg (by omega)], rfl⟩ | exact ⟨by rw [leadsR, if_pos (by omega), if_pos (by omega)], rfl⟩ | exact ⟨by rw [leadsR, if_pos (by omega), if_neg (by omega), if_neg (by omega)], rfl⟩ | exact ⟨by rw [leadsR, if_pos (by omega), if_neg (by omega), if_pos (by omega)], rfl⟩
      · refine am_iload_n rfl dX9_leads_49 ?_
        refine am_ci (mm_S1 dX9_leads_50 in_X9_isName mk_X9_80 st_X9_isName ⟨Nat.le_of_ble_eq_true rfl, Nat.le_of_ble_eq_true rfl⟩ (Nat.le_of_ble_eq_true rfl)) (c_isName hn) ?_
        refine mm_bne (tgt := 59) dX9_leads_53 (by decide) (fun h53 => ?_) (fun h53 => ?_)
        · refine am_aload_n rfl dX9_leads_59 ?_
          refine mm_getR dX9_leads_60 fl_X9_10 hx0 rfl ?_
          refine mm_getR dX9_leads_63 fl_X9_56 hB1 rfl ?_
          refine am_iload_n rfl dX9_leads_66 ?_
          refine mm_aal dX9_leads_67 (fun _ => rfl) hB2 ⟨by omega, by omega, by omega⟩ (kArr_at (by omega)) ?_
          refine am_iload_n rfl dX9_leads_68 ?_
          refine am_iload_n rfl dX9_leads_69 ?_
          refine am_iload rfl dX9_leads_70 ?_
          refine am_ci (mm_V3 dX9_leads_72 in_X4_after mk_X9_93 im_X4_after sl_X4_after ⟨Nat.le_of_ble_eq_true rfl, Nat.le_of_ble_eq_true rfl⟩ rfl (hB4 k.toNat (by omega)).1 (Nat.le_of_ble_eq_true rfl)) (c_after (hB4 k.toNat (by omega)) (w2 k.toNat (by omega)) hs hn) ?_
          refine am_ireturn dX9_leads_75 rfl rfl ?_
          first | (exfalso; omega) | exact ⟨by rw [leadsR, if_neg (by omega)], rfl⟩ | exact ⟨by rw [leadsR, if_pos (by omega), if_pos (by omega)], rfl⟩ | exact ⟨by rw [leadsR, if_pos (by omega), if_neg (by omega), if_neg (by omega)], rfl⟩ | exact ⟨by rw [leadsR, if_pos (by omega), if_neg (by omega), if_pos (by omega)], rfl⟩
        · refine mm_bipush dX9_leads_56 (by decide) ?_
          refine am_ireturn dX9_leads_58 rfl rfl ?_
          first | (exfalso; omega) | exact ⟨by rw [leadsR, if_neg (by omega)], rfl⟩ | exact ⟨by rw [leadsR, if_pos (by omega), if_pos (by omega)], rfl⟩ | exact ⟨by rw [leadsR, if_pos (by omega), if_neg (by omega), if_neg (by omega)], rfl⟩ | exact ⟨by rw [leadsR, if_pos (by omega), if_neg (by omega), if_pos (by omega)], rfl⟩
    · refine am_iload_n rfl dX9_leads_19 ?_
      refine mm_iconst dX9_leads_20 ?_
      refine mm_jne (tgt := 37) dX9_leads_21 (by decide) (by omega) (by omega) (fun h21 => ?_) (fun h21 => ?_)
      · refine am_aload_n rfl dX9_leads_37 ?_
        refine mm_getR dX9_leads_38 fl_X9_10 hx0 rfl ?_
        refine am_iload_n rfl dX9_leads_41 ?_
        refine am_iload_n rfl dX9_leads_42 ?_
        refine am_ci (mm_V2 dX9_leads_43 in_X0_hasState mk_X9_77 im_X0_hasState sl_X0_hasState ⟨Nat.le_of_ble_eq_true rfl, Nat.le_of_ble_eq_true rfl⟩ rfl hB1 (Nat.le_of_ble_eq_true rfl)) (c_hasState ⟨hB1, hB2, hB3, hB4, hB5⟩ ⟨w0, w1, w2, w3⟩ hk hs) ?_
        refine mm_beq (tgt := 56) dX9_leads_46 (by decide) (fun h46 => ?_) (fun h46 => ?_)
        · refine mm_bipush dX9_leads_56 (by decide) ?_
          refine am_ireturn dX9_leads_58 rfl rfl ?_
          first | (exfalso; omega) | exact ⟨by rw [leadsR, if_neg (by omega)], rfl⟩ | exact ⟨by rw [leadsR, if_pos (by omega), if_pos (by omega)], rfl⟩ | exact ⟨by rw [leadsR, if_pos (by omega), if_neg (by omega), if_neg (by omega)], rfl⟩ | exact ⟨by rw [leadsR, if_pos (by omega), if_neg (by omega), if_pos (by omega)], rfl⟩
        · refine am_iload_n rfl dX9_leads_49 ?_
          refine am_ci (mm_S1 dX9_leads_50 in_X9_isName mk_X9_80 st_X9_isName ⟨Nat.le_of_ble_eq_true rfl, Nat.le_of_ble_eq_true rfl⟩ (Nat.le_of_ble_eq_true rfl)) (c_isName hn) ?_
          refine mm_bne (tgt := 59) dX9_leads_53 (by decide) (fun h53 => ?_) (fun h53 => ?_)
          · refine am_aload_n rfl dX9_leads_59 ?_
            refine mm_getR dX9_leads_60 fl_X9_10 hx0 rfl ?_
            refine mm_getR dX9_leads_63 fl_X9_56 hB1 rfl ?_
            refine am_iload_n rfl dX9_leads_66 ?_
            refine mm_aal dX9_leads_67 (fun _ => rfl) hB2 ⟨by omega, by omega, by omega⟩ (kArr_at (by omega)) ?_
            refine am_iload_n rfl dX9_leads_68 ?_
            refine am_iload_n rfl dX9_leads_69 ?_
            refine am_iload rfl dX9_leads_70 ?_
            refine am_ci (mm_V3 dX9_leads_72 in_X4_after mk_X9_93 im_X4_after sl_X4_after ⟨Nat.le_of_ble_eq_true rfl, Nat.le_of_ble_eq_true rfl⟩ rfl (hB4 k.toNat (by omega)).1 (Nat.le_of_ble_eq_true rfl)) (c_after (hB4 k.toNat (by omega)) (w2 k.toNat (by omega)) hs hn) ?_
            refine am_ireturn dX9_leads_75 rfl rfl ?_
            first | (exfalso; omega) | exact ⟨by rw [leadsR, if_neg (by omega)], rfl⟩ | exact ⟨by rw [leadsR, if_pos (by omega), if_pos (by omega)], rfl⟩ | exact ⟨by rw [leadsR, if_pos (by omega), if_neg (by omega), if_neg (by omega)], rfl⟩ | exact ⟨by rw [leadsR, if_pos (by omega), if_neg (by omega), if_pos (by omega)], rfl⟩
          · refine mm_bipush dX9_leads_56 (by decide) ?_
            refine am_ireturn dX9_leads_58 rfl rfl ?_
            first | (exfalso; omega) | exact ⟨by rw [leadsR, if_neg (by omega)], rfl⟩ | exact ⟨by rw [leadsR, if_pos (by omega), if_pos (by omega)], rfl⟩ | exact ⟨by rw [leadsR, if_pos (by omega), if_neg (by omega), if_neg (by omega)], rfl⟩ | exact ⟨by rw [leadsR, if_pos (by omega), if_neg (by omega), if_pos (by omega)], rfl⟩
      · refine am_aload_n rfl dX9_leads_24 ?_
        refine mm_getR dX9_leads_25 fl_X9_10 hx0 rfl ?_
        refine mm_getR dX9_leads_28 fl_X9_56 hB1 rfl ?_
        refine am_iload_n rfl dX9_leads_31 ?_
        refine mm_aal dX9_leads_32 (fun _ => rfl) hB2 ⟨by omega, by omega, by omega⟩ (kArr_at (by omega)) ?_
        refine mm_getI dX9_leads_33 fl_X9_70 (hB4 k.toNat (by omega)).1 rfl ?_
        refine am_ireturn dX9_leads_36 rfl rfl ?_
        first | (exfalso; omega) | exact ⟨by rw [leadsR, if_neg (by omega)], rfl⟩ | exact ⟨by rw [leadsR, if_pos (by omega), if_pos (by omega)], rfl⟩ | exact ⟨by rw [leadsR, if_pos (by omega), if_neg (by omega), if_neg (by omega)], rfl⟩ | exact ⟨by rw [leadsR, if_pos (by omega), if_neg (by omega), if_pos (by omega)], rfl⟩
  · refine mm_bipush dX9_leads_11 (by decide) ?_
    refine am_ireturn dX9_leads_13 rfl rfl ?_
    first | (exfalso; omega) | exact ⟨by rw [leadsR, if_neg (by omega)], rfl⟩ | exact ⟨by rw [leadsR, if_pos (by omega), if_pos (by omega)], rfl⟩ | exact ⟨by rw [leadsR, if_pos (by omega), if_neg (by omega), if_neg (by omega)], rfl⟩ | exact ⟨by rw [leadsR, if_pos (by omega), if_neg (by omega), if_pos (by omega)], rfl⟩
set_option maxRecDepth 100000 in
set_option maxHeartbeats 4000000 in
theorem c_parts {sh : List mm_H} {S : mm_S} {L : mm_L} (hx0 : swS sh) : am_E eX9_parts [.ref 0] (mm sh S L) (fun r M' => r = some (.int (iI (S 0 6))) ∧ M' = mm sh S L) := by
  refine am_enter rfl rfl (Nat.le_of_ble_eq_true rfl) ?_
  refine am_aload_n rfl dX9_parts_0 ?_
  refine mm_getI dX9_parts_1 fl_X9_45 hx0 rfl ?_
  refine am_ireturn dX9_parts_4 rfl rfl ?_
  exact ⟨rfl, rfl⟩
def routineR (S : mm_S) : Int := if S 1 1 < 6 then S 1 1 else -4
def routineS (S : mm_S) : mm_S := if S 1 1 < 6 then up2 S 1 1 (S 1 1 + 1) else S
set_option maxRecDepth 100000 in
set_option maxHeartbeats 4000000 in
theorem c_routine {sh : List mm_H} {S : mm_S} {L : mm_L} (hx0 : swS sh) (hb : bkS sh) (hv : bkV S) : am_E eX9_routine [.ref 0] (mm sh S L) (fun r M' => r = some (.int (iI (routineR S))) ∧ M' = mm sh (routineS S) L) := by
  obtain ⟨hB1, hB2, hB3, hB4, hB5⟩ := hb
  obtain ⟨w0, w1, w2, w3⟩ := hv
  refine am_enter rfl rfl (Nat.le_of_ble_eq_true rfl) ?_
  refine am_aload_n rfl dX9_routine_0 ?_
  refine mm_getR dX9_routine_1 fl_X9_10 hx0 rfl ?_
  refine mm_getI dX9_routine_4 fl_X9_101 hB1 rfl ?_
  refine mm_bipush dX9_routine_7 (by decide) ?_
  refine mm_jlt (tgt := 15) dX9_routine_9 (by decide) (by omega) (by omega) (fun h9 => ?_) (fun h9 => ?_)
  · refine am_aload_n rfl dX9_routine_15 ?_
    refine mm_getR dX9_routine_16 fl_X9_10 hx0 rfl ?_
    refine am_dup rfl dX9_routine_19 ?_
    refine mm_getI dX9_routine_20 fl_X9_101 hB1 rfl ?_
    refine am_dup_x1 rfl rfl dX9_routine_23 ?_
    refine mm_iconst dX9_routine_24 ?_
    refine mm_iadd dX9_routine_25 ?_
    refine mm_putI dX9_routine_26 fp_X9_101 hB1 rfl ?_
    refine am_ireturn dX9_routine_29 rfl rfl ?_
    first | exact ⟨by rw [routineR, if_neg (by omega)], by rw [routineS, if_neg (by omega)]⟩ | exact ⟨by rw [routineR, if_pos (by omega)], by rw [routineS, if_pos (by omega)]⟩
  · refine mm_bipush dX9_routine_12 (by decide) ?_
    refine am_ireturn dX9_routine_14 rfl rfl ?_
    first | exact ⟨by rw [routineR, if_neg (by omega)], by rw [routineS, if_neg (by omega)]⟩ | exact ⟨by rw [routineR, if_pos (by omega)], by rw [routineS, if_pos (by omega)]⟩
def openR (S : mm_S) (k : Int) : Int := if hasR S k then S (22 + 10 * k.toNat) 1 else -2
set_option maxRecDepth 100000 in
set_option maxHeartbeats 4000000 in
theorem c_open {sh : List mm_H} {S : mm_S} {L : mm_L} (hx0 : swS sh) (hb : bkS sh) (hv : bkV S) {k : Int} (hk : Rg k) : am_E eX9_open [.ref 0, .int (iI k)] (mm sh S L) (fun r M' => r = some (.int (iI (openR S k))) ∧ M' = mm sh S L) := by
  obtain ⟨hB1, hB2, hB3, hB4, hB5⟩ := hb
  obtain ⟨w0, w1, w2, w3⟩ := hv
  refine am_enter rfl rfl (Nat.le_of_ble_eq_true rfl) ?_
  refine am_aload_n rfl dX9_open_0 ?_
  refine mm_getR dX9_open_1 fl_X9_10 hx0 rfl ?_
  refine am_iload_n rfl dX9_open_4 ?_
  refine am_ci (mm_V1 dX9_open_5 in_X0_hasRoutine mk_X9_104 im_X0_hasRoutine sl_X0_hasRoutine ⟨Nat.le_of_ble_eq_true rfl, Nat.le_of_ble_eq_true rfl⟩ rfl hB1 (Nat.le_of_ble_eq_true rfl)) (c_hasRoutine ⟨hB1, hB2, hB3, hB4, hB5⟩ ⟨w0, w1, w2, w3⟩ hk) ?_
  refine mm_bne (tgt := 14) dX9_open_8 (by decide) (fun h8 => ?_) (fun h8 => ?_)
  · refine am_aload_n rfl dX9_open_14 ?_
    refine mm_getR dX9_open_15 fl_X9_10 hx0 rfl ?_
    refine mm_getR dX9_open_18 fl_X9_113 hB1 rfl ?_
    refine am_iload_n rfl dX9_open_21 ?_
    refine mm_aal dX9_open_22 (fun _ => rfl) hB3 ⟨by omega, by omega, by omega⟩ (rArr_at (by omega)) ?_
    refine mm_getI dX9_open_23 fl_X9_142 (hB5 k.toNat (by omega)).1 rfl ?_
    refine am_ireturn dX9_open_26 rfl rfl ?_
    first | exact ⟨by rw [openR, if_neg (by omega)], rfl⟩ | exact ⟨by rw [openR, if_pos (by omega)], rfl⟩
  · refine mm_bipush dX9_open_11 (by decide) ?_
    refine am_ireturn dX9_open_13 rfl rfl ?_
    first | exact ⟨by rw [openR, if_neg (by omega)], rfl⟩ | exact ⟨by rw [openR, if_pos (by omega)], rfl⟩
def partR (S : mm_S) (a : Nat) (i w : Int) : Int := if 0 ≤ i ∧ i < S a 0 then (if w = 0 then S (a + 1) i.toNat else if w = 1 then S (a + 2) i.toNat else S (a + 3) i.toNat) else -1
set_option maxRecDepth 100000 in
set_option maxHeartbeats 4000000 in
theorem c_part {sh : List mm_H} {S : mm_S} {L : mm_L} {a : Nat} {i w : Int} (hr : rtS sh a) (hl : 0 ≤ S a 0 ∧ S a 0 ≤ 24) (hi : Rg i) (hw : Rg w) : am_E eX6_part [.ref a, .int (iI i), .int (iI w)] (mm sh S L) (fun r M' => r = some (.int (iI (partR S a i w))) ∧ M' = mm sh S L) := by
  obtain ⟨hr0, hr1, hr2, hr3, hr4, hr5, hr6, hr7, hr8, hr9⟩ := hr
  refine am_enter rfl rfl (Nat.le_of_ble_eq_true rfl) ?_
  refine am_iload_n rfl dX6_part_0 ?_
  refine mm_zlt (tgt := 12) dX6_part_1 (by decide) (by omega) (fun h1 => ?_) (fun h1 => ?_)
  · refine mm_iconst dX6_part_12 ?_
    refine am_ireturn dX6_part_13 rfl rfl ?_
    first | exact ⟨by rw [partR, if_neg (by omega)], rfl⟩ | exact ⟨by rw [partR, if_pos (by omega), if_pos (by omega)], rfl⟩ | exact ⟨by rw [partR, if_pos (by omega), if_neg (by omega), if_pos (by omega)], rfl⟩ | exact ⟨by rw [partR, if_pos (by omega), if_neg (by omega), if_neg (by omega)], rfl⟩
  · refine am_iload_n rfl dX6_part_4 ?_
    refine am_aload_n rfl dX6_part_5 ?_
    refine mm_getI dX6_part_6 fl_X6_9 hr0 rfl ?_
    refine mm_jlt (tgt := 14) dX6_part_9 (by decide) (by omega) (by omega) (fun h9 => ?_) (fun h9 => ?_)
    · refine am_iload_n rfl dX6_part_14 ?_
      refine mm_zne (tgt := 25) dX6_part_15 (by decide) (by omega) (fun h15 => ?_) (fun h15 => ?_)
      · refine am_iload_n rfl dX6_part_25 ?_
        refine mm_iconst dX6_part_26 ?_
        refine mm_jne (tgt := 39) dX6_part_27 (by decide) (by omega) (by omega) (fun h27 => ?_) (fun h27 => ?_)
        · refine am_aload_n rfl dX6_part_39 ?_
          refine mm_getR dX6_part_40 fl_X6_25 hr0 rfl ?_
          refine am_iload_n rfl dX6_part_43 ?_
          refine mm_ial dX6_part_44 hr3 (by omega) ?_
          refine am_ireturn dX6_part_45 rfl rfl ?_
          first | exact ⟨by rw [partR, if_neg (by omega)], rfl⟩ | exact ⟨by rw [partR, if_pos (by omega), if_pos (by omega)], rfl⟩ | exact ⟨by rw [partR, if_pos (by omega), if_neg (by omega), if_pos (by omega)], rfl⟩ | exact ⟨by rw [partR, if_pos (by omega), if_neg (by omega), if_neg (by omega)], rfl⟩
        · refine am_aload_n rfl dX6_part_30 ?_
          refine mm_getR dX6_part_31 fl_X6_22 hr0 rfl ?_
          refine am_iload_n rfl dX6_part_34 ?_
          refine mm_ial dX6_part_35 hr2 (by omega) ?_
          refine am_goto (tgt := 45) dX6_part_36 (by decide) ?_
          refine am_ireturn dX6_part_45 rfl rfl ?_
          first | exact ⟨by rw [partR, if_neg (by omega)], rfl⟩ | exact ⟨by rw [partR, if_pos (by omega), if_pos (by omega)], rfl⟩ | exact ⟨by rw [partR, if_pos (by omega), if_neg (by omega), if_pos (by omega)], rfl⟩ | exact ⟨by rw [partR, if_pos (by omega), if_neg (by omega), if_neg (by omega)], rfl⟩
      · refine am_aload_n rfl dX6_part_18 ?_
        refine mm_getR dX6_part_19 fl_X6_18 hr0 rfl ?_
        refine am_iload_n rfl dX6_part_22 ?_
        refine mm_ial dX6_part_23 hr1 (by omega) ?_
        refine am_ireturn dX6_part_24 rfl rfl ?_
        first | exact ⟨by rw [partR, if_neg (by omega)], rfl⟩ | exact ⟨by rw [partR, if_pos (by omega), if_pos (by omega)], rfl⟩ | exact ⟨by rw [partR, if_pos (by omega), if_neg (by omega), if_pos (by omega)], rfl⟩ | exact ⟨by rw [partR, if_pos (by omega), if_neg (by omega), if_neg (by omega)], rfl⟩
    · refine mm_iconst dX6_part_12 ?_
      refine am_ireturn dX6_part_13 rfl rfl ?_
      first | exact ⟨by rw [partR, if_neg (by omega)], rfl⟩ | exact ⟨by rw [partR, if_pos (by omega), if_pos (by omega)], rfl⟩ | exact ⟨by rw [partR, if_pos (by omega), if_neg (by omega), if_pos (by omega)], rfl⟩ | exact ⟨by rw [partR, if_pos (by omega), if_neg (by omega), if_neg (by omega)], rfl⟩
def toldR (S : mm_S) (k i w : Int) : Int := if hasR S k ∧ 0 ≤ w ∧ w ≤ 2 then partR S (22 + 10 * k.toNat) i w else -2
set_option maxRecDepth 100000 in
set_option maxHeartbeats 4000000 in
theorem c_told {sh : List mm_H} {S : mm_S} {L : mm_L} (hx0 : swS sh) (hb : bkS sh) (hv : bkV S) {k i w : Int} (hk : Rg k) (hi : Rg i) (hw : Rg w) : am_E eX9_told [.ref 0, .int (iI k), .int (iI i), .int (iI w)] (mm sh S L) (fun r M' => r = some (.int (iI (toldR S k i w))) ∧ M' = mm sh S L) := by
  obtain ⟨hB1, hB2, hB3, hB4, hB5⟩ := hb
  obtain ⟨w0, w1, w2, w3⟩ := hv
  refine am_enter rfl rfl (Nat.le_of_ble_eq_true rfl) ?_
  refine am_aload_n rfl dX9_told_0 ?_
  refine mm_getR dX9_told_1 fl_X9_10 hx0 rfl ?_
  refine am_iload_n rfl dX9_told_4 ?_
  refine am_ci (mm_V1 dX9_told_5 in_X0_hasRoutine mk_X9_104 im_X0_hasRoutine sl_X0_hasRoutine ⟨Nat.le_of_ble_eq_true rfl, Nat.le_of_ble_eq_true rfl⟩ rfl hB1 (Nat.le_of_ble_eq_true rfl)) (c_hasRoutine ⟨hB1, hB2, hB3, hB4, hB5⟩ ⟨w0, w1, w2, w3⟩ hk) ?_
  refine mm_beq (tgt := 20) dX9_told_8 (by decide) (fun h8 => ?_) (fun h8 => ?_)
  · refine mm_bipush dX9_told_20 (by decide) ?_
    refine am_ireturn dX9_told_22 rfl rfl ?_
    first | exact ⟨by rw [toldR, if_neg (by omega)], rfl⟩ | exact ⟨by rw [toldR, if_pos (by omega)], rfl⟩
  · refine am_iload_n rfl dX9_told_11 ?_
    refine mm_zlt (tgt := 20) dX9_told_12 (by decide) (by omega) (fun h12 => ?_) (fun h12 => ?_)
    · refine mm_bipush dX9_told_20 (by decide) ?_
      refine am_ireturn dX9_told_22 rfl rfl ?_
      first | exact ⟨by rw [toldR, if_neg (by omega)], rfl⟩ | exact ⟨by rw [toldR, if_pos (by omega)], rfl⟩
    · refine am_iload_n rfl dX9_told_15 ?_
      refine mm_iconst dX9_told_16 ?_
      refine mm_jle (tgt := 23) dX9_told_17 (by decide) (by omega) (by omega) (fun h17 => ?_) (fun h17 => ?_)
      · refine am_aload_n rfl dX9_told_23 ?_
        refine mm_getR dX9_told_24 fl_X9_10 hx0 rfl ?_
        refine mm_getR dX9_told_27 fl_X9_113 hB1 rfl ?_
        refine am_iload_n rfl dX9_told_30 ?_
        refine mm_aal dX9_told_31 (fun _ => rfl) hB3 ⟨by omega, by omega, by omega⟩ (rArr_at (by omega)) ?_
        refine am_iload_n rfl dX9_told_32 ?_
        refine am_iload_n rfl dX9_told_33 ?_
        refine am_ci (mm_V2 dX9_told_34 in_X6_part mk_X9_138 im_X6_part sl_X6_part ⟨Nat.le_of_ble_eq_true rfl, Nat.le_of_ble_eq_true rfl⟩ rfl (hB5 k.toNat (by omega)).1 (Nat.le_of_ble_eq_true rfl)) (c_part (hB5 k.toNat (by omega)) (by have := w3 k.toNat (by omega); omega) hi hw) ?_
        refine am_ireturn dX9_told_37 rfl rfl ?_
        first | exact ⟨by rw [toldR, if_neg (by omega)], rfl⟩ | exact ⟨by rw [toldR, if_pos (by omega)], rfl⟩
      · refine mm_bipush dX9_told_20 (by decide) ?_
        refine am_ireturn dX9_told_22 rfl rfl ?_
        first | exact ⟨by rw [toldR, if_neg (by omega)], rfl⟩ | exact ⟨by rw [toldR, if_pos (by omega)], rfl⟩
