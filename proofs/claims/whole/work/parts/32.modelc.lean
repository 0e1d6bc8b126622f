abbrev mokUse (S : mm_S) (k s n y z : Int) : Prop := mSt S k s ∧ (0 ≤ n ∧ n < 8) ∧ mSt S k y ∧ (z = -1 ∨ mSt S k z)
def museR (S : mm_S) (k s n y z : Int) : Int := if mokUse S k s n y z then (if mH S k s n then -3 else 1) else -2
def museS (S : mm_S) (k s n y z : Int) : mm_S := if mokUse S k s n y z then (if mH S k s n then S else up2 (up2 S 184 (48 * k + 8 * s + n).toNat y) 185 (48 * k + 8 * s + n).toNat z) else S
abbrev mokDrop (S : mm_S) (k s n : Int) : Prop := mSt S k s ∧ (0 ≤ n ∧ n < 8)
def mdropR (S : mm_S) (k s n : Int) : Int := if mokDrop S k s n then (if mH S k s n then 1 else -3) else -2
def mdropS (S : mm_S) (k s n : Int) : mm_S := if mokDrop S k s n then (if mH S k s n then up2 (up2 S 184 (48 * k + 8 * s + n).toNat (-1)) 185 (48 * k + 8 * s + n).toNat (-1) else S) else S
abbrev mokEnds (S : mm_S) (k e : Int) : Prop := mK S k ∧ 0 ≤ e ∧ e < 1 * 2 ^ (S 182 k.toNat).toNat
def mendsR (S : mm_S) (k e : Int) : Int := if mokEnds S k e then S 183 k.toNat else -2
def mendsS (S : mm_S) (k e : Int) : mm_S := if mokEnds S k e then up2 S 183 k.toNat e else S
set_option maxRecDepth 100000 in
set_option maxHeartbeats 4000000 in
theorem m_use {sh : List mm_H} {S : mm_S} {L : mm_L} (hm : mdS sh) (hv : mdV S) {k s n y z : Int} (hk : Rg k) (hs : Rg s) (hn : Rg n) (hy : Rg y) (hz : Rg z) : am_E eX10_use [.ref 181, .int (iI k), .int (iI s), .int (iI n), .int (iI y), .int (iI z)] (mm sh S L) (fun r M' => r = some (.int (iI (museR S k s n y z))) ∧ M' = mm sh (museS S k s n y z) L) := by
  obtain ⟨u0, u1, u2, u3, u4⟩ := hv
  refine am_enter rfl rfl (Nat.le_of_ble_eq_true rfl) ?_
  refine am_aload_n rfl dX10_use_0 ?_
  refine am_iload_n rfl dX10_use_1 ?_
  refine am_iload_n rfl dX10_use_2 ?_
  refine am_ci (mm_V2 dX10_use_3 in_X10_isState mk_X10_156 im_X10_isState sl_X10_isState ⟨Nat.le_of_ble_eq_true rfl, Nat.le_of_ble_eq_true rfl⟩ rfl (md_0 hm) (Nat.le_of_ble_eq_true rfl)) (m_isState hm ⟨u0, u1, u2, u3, u4⟩ hk hs) ?_
  refine mm_beq (tgt := 45) dX10_use_6 (by decide) (fun h6 => ?_) (fun h6 => ?_)
  · refine mm_bipush dX10_use_45 (by decide) ?_
    refine am_ireturn dX10_use_47 rfl rfl ?_
    first | (exfalso; omega) | exact ⟨by rw [museR, if_neg (by omega)], by rw [museS, if_neg (by omega)]⟩ | exact ⟨by rw [museR, if_pos (by omega), if_pos (by assumption)], by rw [museS, if_pos (by omega), if_pos (by assumption)]⟩ | exact ⟨by rw [museR, if_pos (by omega), if_neg (by assumption)], by rw [museS, if_pos (by omega), if_neg (by assumption)]⟩
  · refine am_iload_n rfl dX10_use_9 ?_
    refine mm_iconst dX10_use_10 ?_
    refine mm_bipush dX10_use_11 (by decide) ?_
    refine am_ci (mm_S3 dX10_use_13 in_X10_in mk_X10_144 st_X10_in ⟨Nat.le_of_ble_eq_true rfl, Nat.le_of_ble_eq_true rfl⟩ (Nat.le_of_ble_eq_true rfl)) (m_in hn (by omega) (by omega)) ?_
    refine mm_beq (tgt := 45) dX10_use_16 (by decide) (fun h16 => ?_) (fun h16 => ?_)
    · refine mm_bipush dX10_use_45 (by decide) ?_
      refine am_ireturn dX10_use_47 rfl rfl ?_
      first | (exfalso; omega) | exact ⟨by rw [museR, if_neg (by omega)], by rw [museS, if_neg (by omega)]⟩ | exact ⟨by rw [museR, if_pos (by omega), if_pos (by assumption)], by rw [museS, if_pos (by omega), if_pos (by assumption)]⟩ | exact ⟨by rw [museR, if_pos (by omega), if_neg (by assumption)], by rw [museS, if_pos (by omega), if_neg (by assumption)]⟩
    · refine am_aload_n rfl dX10_use_19 ?_
      refine am_iload_n rfl dX10_use_20 ?_
      refine am_iload rfl dX10_use_21 ?_
      refine am_ci (mm_V2 dX10_use_23 in_X10_isState mk_X10_156 im_X10_isState sl_X10_isState ⟨Nat.le_of_ble_eq_true rfl, Nat.le_of_ble_eq_true rfl⟩ rfl (md_0 hm) (Nat.le_of_ble_eq_true rfl)) (m_isState hm ⟨u0, u1, u2, u3, u4⟩ hk hy) ?_
      refine mm_beq (tgt := 45) dX10_use_26 (by decide) (fun h26 => ?_) (fun h26 => ?_)
      · refine mm_bipush dX10_use_45 (by decide) ?_
        refine am_ireturn dX10_use_47 rfl rfl ?_
        first | (exfalso; omega) | exact ⟨by rw [museR, if_neg (by omega)], by rw [museS, if_neg (by omega)]⟩ | exact ⟨by rw [museR, if_pos (by omega), if_pos (by assumption)], by rw [museS, if_pos (by omega), if_pos (by assumption)]⟩ | exact ⟨by rw [museR, if_pos (by omega), if_neg (by assumption)], by rw [museS, if_pos (by omega), if_neg (by assumption)]⟩
      · refine am_iload rfl dX10_use_29 ?_
        refine mm_iconst dX10_use_31 ?_
        refine mm_jeq (tgt := 48) dX10_use_32 (by decide) (by omega) (by omega) (fun h32 => ?_) (fun h32 => ?_)
        · refine am_aload_n rfl dX10_use_48 ?_
          refine am_iload_n rfl dX10_use_49 ?_
          refine am_iload_n rfl dX10_use_50 ?_
          refine am_iload_n rfl dX10_use_51 ?_
          refine am_ci (mm_V3 dX10_use_52 in_X10_has mk_X10_160 im_X10_has sl_X10_has ⟨Nat.le_of_ble_eq_true rfl, Nat.le_of_ble_eq_true rfl⟩ rfl (md_0 hm) (Nat.le_of_ble_eq_true rfl)) (m_has hm ⟨u0, u1, u2, u3, u4⟩ (by omega) (by have := u2 k.toNat (by omega); omega) (by omega)) ?_
          refine mm_beq (tgt := 61) dX10_use_55 (by decide) (fun h55 => ?_) (fun h55 => ?_)
          · refine am_aload_n rfl dX10_use_61 ?_
            refine mm_getR dX10_use_62 fl_X10_16 (md_0 hm) mdf_3 ?_
            refine am_iload_n rfl dX10_use_65 ?_
            refine am_iload_n rfl dX10_use_66 ?_
            refine am_iload_n rfl dX10_use_67 ?_
            refine am_ci (mm_S3 dX10_use_68 in_X10_useAt mk_X10_152 st_X10_useAt ⟨Nat.le_of_ble_eq_true rfl, Nat.le_of_ble_eq_true rfl⟩ (Nat.le_of_ble_eq_true rfl)) (m_useAt) ?_
            refine am_iload rfl dX10_use_71 ?_
            refine mm_ias dX10_use_73 (md_byYes hm) (by have := u2 k.toNat (by omega); omega) ?_
            refine am_aload_n rfl dX10_use_74 ?_
            refine mm_getR dX10_use_75 fl_X10_19 (md_0 hm) mdf_4 ?_
            refine am_iload_n rfl dX10_use_78 ?_
            refine am_iload_n rfl dX10_use_79 ?_
            refine am_iload_n rfl dX10_use_80 ?_
            refine am_ci (mm_S3 dX10_use_81 in_X10_useAt mk_X10_152 st_X10_useAt ⟨Nat.le_of_ble_eq_true rfl, Nat.le_of_ble_eq_true rfl⟩ (Nat.le_of_ble_eq_true rfl)) (m_useAt) ?_
            refine am_iload rfl dX10_use_84 ?_
            refine mm_ias dX10_use_86 (md_byNo hm) (by have := u2 k.toNat (by omega); omega) ?_
            refine mm_iconst dX10_use_87 ?_
            refine am_ireturn dX10_use_88 rfl rfl ?_
            first | (exfalso; omega) | exact ⟨by rw [museR, if_neg (by omega)], by rw [museS, if_neg (by omega)]⟩ | exact ⟨by rw [museR, if_pos (by omega), if_pos (by assumption)], by rw [museS, if_pos (by omega), if_pos (by assumption)]⟩ | exact ⟨by rw [museR, if_pos (by omega), if_neg (by assumption)], by rw [museS, if_pos (by omega), if_neg (by assumption)]⟩
          · refine mm_bipush dX10_use_58 (by decide) ?_
            refine am_ireturn dX10_use_60 rfl rfl ?_
            first | (exfalso; omega) | exact ⟨by rw [museR, if_neg (by omega)], by rw [museS, if_neg (by omega)]⟩ | exact ⟨by rw [museR, if_pos (by omega), if_pos (by assumption)], by rw [museS, if_pos (by omega), if_pos (by assumption)]⟩ | exact ⟨by rw [museR, if_pos (by omega), if_neg (by assumption)], by rw [museS, if_pos (by omega), if_neg (by assumption)]⟩
        · refine am_aload_n rfl dX10_use_35 ?_
          refine am_iload_n rfl dX10_use_36 ?_
          refine am_iload rfl dX10_use_37 ?_
          refine am_ci (mm_V2 dX10_use_39 in_X10_isState mk_X10_156 im_X10_isState sl_X10_isState ⟨Nat.le_of_ble_eq_true rfl, Nat.le_of_ble_eq_true rfl⟩ rfl (md_0 hm) (Nat.le_of_ble_eq_true rfl)) (m_isState hm ⟨u0, u1, u2, u3, u4⟩ hk hz) ?_
          refine mm_bne (tgt := 48) dX10_use_42 (by decide) (fun h42 => ?_) (fun h42 => ?_)
          · refine am_aload_n rfl dX10_use_48 ?_
            refine am_iload_n rfl dX10_use_49 ?_
            refine am_iload_n rfl dX10_use_50 ?_
            refine am_iload_n rfl dX10_use_51 ?_
            refine am_ci (mm_V3 dX10_use_52 in_X10_has mk_X10_160 im_X10_has sl_X10_has ⟨Nat.le_of_ble_eq_true rfl, Nat.le_of_ble_eq_true rfl⟩ rfl (md_0 hm) (Nat.le_of_ble_eq_true rfl)) (m_has hm ⟨u0, u1, u2, u3, u4⟩ (by omega) (by have := u2 k.toNat (by omega); omega) (by omega)) ?_
            refine mm_beq (tgt := 61) dX10_use_55 (by decide) (fun h55 => ?_) (fun h55 => ?_)
            · refine am_aload_n rfl dX10_use_61 ?_
              refine mm_getR dX10_use_62 fl_X10_16 (md_0 hm) mdf_3 ?_
              refine am_iload_n rfl dX10_use_65 ?_
              refine am_iload_n rfl dX10_use_66 ?_
              refine am_iload_n rfl dX10_use_67 ?_
              refine am_ci (mm_S3 dX10_use_68 in_X10_useAt mk_X10_152 st_X10_useAt ⟨Nat.le_of_ble_eq_true rfl, Nat.le_of_ble_eq_true rfl⟩ (Nat.le_of_ble_eq_true rfl)) (m_useAt) ?_
              refine am_iload rfl dX10_use_71 ?_
              refine mm_ias dX10_use_73 (md_byYes hm) (by have := u2 k.toNat (by omega); omega) ?_
              refine am_aload_n rfl dX10_use_74 ?_
              refine mm_getR dX10_use_75 fl_X10_19 (md_0 hm) mdf_4 ?_
              refine am_iload_n rfl dX10_use_78 ?_
              refine am_iload_n rfl dX10_use_79 ?_
              refine am_iload_n rfl dX10_use_80 ?_
              refine am_ci (mm_S3 dX10_use_81 in_X10_useAt mk_X10_152 st_X10_useAt ⟨Nat.le_of_ble_eq_true rfl, Nat.le_of_ble_eq_true rfl⟩ (Nat.le_of_ble_eq_true rfl)) (m_useAt) ?_
              refine am_iload rfl dX10_use_84 ?_
              refine mm_ias dX10_use_86 (md_byNo hm) (by have := u2 k.toNat (by omega); omega) ?_
              refine mm_iconst dX10_use_87 ?_
              refine am_ireturn dX10_use_88 rfl rfl ?_
              first | (exfalso; omega) | exact ⟨by rw [museR, if_neg (by omega)], by rw [museS, if_neg (by omega)]⟩ | exact ⟨by rw [museR, if_pos (by omega), if_pos (by assumption)], by rw [museS, if_pos (by omega), if_pos (by assumption)]⟩ | exact ⟨by rw [museR, if_pos (by omega), if_neg (by assumption)], by rw [museS, if_pos (by omega), if_neg (by assumption)]⟩
            · refine mm_bipush dX10_use_58 (by decide) ?_
              refine am_ireturn dX10_use_60 rfl rfl ?_
              first | (exfalso; omega) | exact ⟨by rw [museR, if_neg (by omega)], by rw [museS, if_neg (by omega)]⟩ | exact ⟨by rw [museR, if_pos (by omega), if_pos (by assumption)], by rw [museS, if_pos (by omega), if_pos (by assumption)]⟩ | exact ⟨by rw [museR, if_pos (by omega), if_neg (by assumption)], by rw [museS, if_pos (by omega), if_neg (by assumption)]⟩
          · refine mm_bipush dX10_use_45 (by decide) ?_
            refine am_ireturn dX10_use_47 rfl rfl ?_
            first | (exfalso; omega) | exact ⟨by rw [museR, if_neg (by omega)], by rw [museS, if_neg (by omega)]⟩ | exact ⟨by rw [museR, if_pos (by omega), if_pos (by assumption)], by rw [museS, if_pos (by omega), if_pos (by assumption)]⟩ | exact ⟨by rw [museR, if_pos (by omega), if_neg (by assumption)], by rw [museS, if_pos (by omega), if_neg (by assumption)]⟩
set_option maxRecDepth 100000 in
set_option maxHeartbeats 4000000 in
theorem m_drop {sh : List mm_H} {S : mm_S} {L : mm_L} (hm : mdS sh) (hv : mdV S) {k s n : Int} (hk : Rg k) (hs : Rg s) (hn : Rg n) : am_E eX10_drop [.ref 181, .int (iI k), .int (iI s), .int (iI n)] (mm sh S L) (fun r M' => r = some (.int (iI (mdropR S k s n))) ∧ M' = mm sh (mdropS S k s n) L) := by
  obtain ⟨u0, u1, u2, u3, u4⟩ := hv
  refine am_enter rfl rfl (Nat.le_of_ble_eq_true rfl) ?_
  refine am_aload_n rfl dX10_drop_0 ?_
  refine am_iload_n rfl dX10_drop_1 ?_
  refine am_iload_n rfl dX10_drop_2 ?_
  refine am_ci (mm_V2 dX10_drop_3 in_X10_isState mk_X10_156 im_X10_isState sl_X10_isState ⟨Nat.le_of_ble_eq_true rfl, Nat.le_of_ble_eq_true rfl⟩ rfl (md_0 hm) (Nat.le_of_ble_eq_true rfl)) (m_isState hm ⟨u0, u1, u2, u3, u4⟩ hk hs) ?_
  refine mm_beq (tgt := 19) dX10_drop_6 (by decide) (fun h6 => ?_) (fun h6 => ?_)
  · refine mm_bipush dX10_drop_19 (by decide) ?_
    refine am_ireturn dX10_drop_21 rfl rfl ?_
    first | (exfalso; omega) | exact ⟨by rw [mdropR, if_neg (by omega)], by rw [mdropS, if_neg (by omega)]⟩ | exact ⟨by rw [mdropR, if_pos (by omega), if_pos (by assumption)], by rw [mdropS, if_pos (by omega), if_pos (by assumption)]⟩ | exact ⟨by rw [mdropR, if_pos (by omega), if_neg (by assumption)], by rw [mdropS, if_pos (by omega), if_neg (by assumption)]⟩
  · refine am_iload_n rfl dX10_drop_9 ?_
    refine mm_iconst dX10_drop_10 ?_
    refine mm_bipush dX10_drop_11 (by decide) ?_
    refine am_ci (mm_S3 dX10_drop_13 in_X10_in mk_X10_144 st_X10_in ⟨Nat.le_of_ble_eq_true rfl, Nat.le_of_ble_eq_true rfl⟩ (Nat.le_of_ble_eq_true rfl)) (m_in hn (by omega) (by omega)) ?_
    refine mm_bne (tgt := 22) dX10_drop_16 (by decide) (fun h16 => ?_) (fun h16 => ?_)
    · refine am_aload_n rfl dX10_drop_22 ?_
      refine am_iload_n rfl dX10_drop_23 ?_
      refine am_iload_n rfl dX10_drop_24 ?_
      refine am_iload_n rfl dX10_drop_25 ?_
      refine am_ci (mm_V3 dX10_drop_26 in_X10_has mk_X10_160 im_X10_has sl_X10_has ⟨Nat.le_of_ble_eq_true rfl, Nat.le_of_ble_eq_true rfl⟩ rfl (md_0 hm) (Nat.le_of_ble_eq_true rfl)) (m_has hm ⟨u0, u1, u2, u3, u4⟩ (by omega) (by have := u2 k.toNat (by omega); omega) (by omega)) ?_
      refine mm_bne (tgt := 35) dX10_drop_29 (by decide) (fun h29 => ?_) (fun h29 => ?_)
      · refine am_aload_n rfl dX10_drop_35 ?_
        refine mm_getR dX10_drop_36 fl_X10_16 (md_0 hm) mdf_3 ?_
        refine am_iload_n rfl dX10_drop_39 ?_
        refine am_iload_n rfl dX10_drop_40 ?_
        refine am_iload_n rfl dX10_drop_41 ?_
        refine am_ci (mm_S3 dX10_drop_42 in_X10_useAt mk_X10_152 st_X10_useAt ⟨Nat.le_of_ble_eq_true rfl, Nat.le_of_ble_eq_true rfl⟩ (Nat.le_of_ble_eq_true rfl)) (m_useAt) ?_
        refine mm_iconst dX10_drop_45 ?_
        refine mm_ias dX10_drop_46 (md_byYes hm) (by have := u2 k.toNat (by omega); omega) ?_
        refine am_aload_n rfl dX10_drop_47 ?_
        refine mm_getR dX10_drop_48 fl_X10_19 (md_0 hm) mdf_4 ?_
        refine am_iload_n rfl dX10_drop_51 ?_
        refine am_iload_n rfl dX10_drop_52 ?_
        refine am_iload_n rfl dX10_drop_53 ?_
        refine am_ci (mm_S3 dX10_drop_54 in_X10_useAt mk_X10_152 st_X10_useAt ⟨Nat.le_of_ble_eq_true rfl, Nat.le_of_ble_eq_true rfl⟩ (Nat.le_of_ble_eq_true rfl)) (m_useAt) ?_
        refine mm_iconst dX10_drop_57 ?_
        refine mm_ias dX10_drop_58 (md_byNo hm) (by have := u2 k.toNat (by omega); omega) ?_
        refine mm_iconst dX10_drop_59 ?_
        refine am_ireturn dX10_drop_60 rfl rfl ?_
        first | (exfalso; omega) | exact ⟨by rw [mdropR, if_neg (by omega)], by rw [mdropS, if_neg (by omega)]⟩ | exact ⟨by rw [mdropR, if_pos (by omega), if_pos (by assumption)], by rw [mdropS, if_pos (by omega), if_pos (by assumption)]⟩ | exact ⟨by rw [mdropR, if_pos (by omega), if_neg (by assumption)], by rw [mdropS, if_pos (by omega), if_neg (by assumption)]⟩
      · refine mm_bipush dX10_drop_32 (by decide) ?_
        refine am_ireturn dX10_drop_34 rfl rfl ?_
        first | (exfalso; omega) | exact ⟨by rw [mdropR, if_neg (by omega)], by rw [mdropS, if_neg (by omega)]⟩ | exact ⟨by rw [mdropR, if_pos (by omega), if_pos (by assumption)], by rw [mdropS, if_pos (by omega), if_pos (by assumption)]⟩ | exact ⟨by rw [mdropR, if_pos (by omega), if_neg (by assumption)], by rw [mdropS, if_pos (by omega), if_neg (by assumption)]⟩
    · refine mm_bipush dX10_drop_19 (by decide) ?_
      refine am_ireturn dX10_drop_21 rfl rfl ?_
      first | (exfalso; omega) | exact ⟨by rw [mdropR, if_neg (by omega)], by rw [mdropS, if_neg (by omega)]⟩ | exact ⟨by rw [mdropR, if_pos (by omega), if_pos (by assumption)], by rw [mdropS, if_pos (by omega), if_pos (by assumption)]⟩ | exact ⟨by rw [mdropR, if_pos (by omega), if_neg (by assumption)], by rw [mdropS, if_pos (by omega), if_neg (by assumption)]⟩
set_option maxRecDepth 100000 in
set_option maxHeartbeats 4000000 in
theorem m_ends {sh : List mm_H} {S : mm_S} {L : mm_L} (hm : mdS sh) (hv : mdV S) {k e : Int} (hk : Rg k) (he : Rg e) : am_E eX10_ends [.ref 181, .int (iI k), .int (iI e)] (mm sh S L) (fun r M' => r = some (.int (iI (mendsR S k e))) ∧ M' = mm sh (mendsS S k e) L) := by
  obtain ⟨u0, u1, u2, u3, u4⟩ := hv
  refine am_enter rfl rfl (Nat.le_of_ble_eq_true rfl) ?_
  refine am_aload_n rfl dX10_ends_0 ?_
  refine am_iload_n rfl dX10_ends_1 ?_
  refine am_ci (mm_V1 dX10_ends_2 in_X10_isKind mk_X10_148 im_X10_isKind sl_X10_isKind ⟨Nat.le_of_ble_eq_true rfl, Nat.le_of_ble_eq_true rfl⟩ rfl (md_0 hm) (Nat.le_of_ble_eq_true rfl)) (m_isKind hm ⟨u0, u1, u2, u3, u4⟩ hk) ?_
  refine mm_beq (tgt := 26) dX10_ends_5 (by decide) (fun h5 => ?_) (fun h5 => ?_)
  · refine mm_bipush dX10_ends_26 (by decide) ?_
    refine am_ireturn dX10_ends_28 rfl rfl ?_
    first | (exfalso; omega) | exact ⟨by rw [mendsR, if_neg (by omega)], by rw [mendsS, if_neg (by omega)]⟩ | exact ⟨by rw [mendsR, if_pos (by omega)], by rw [mendsS, if_pos (by omega)]⟩
  · refine am_iload_n rfl dX10_ends_8 ?_
    refine mm_iconst dX10_ends_9 ?_
    refine mm_iconst dX10_ends_10 ?_
    refine am_aload_n rfl dX10_ends_11 ?_
    refine mm_getR dX10_ends_12 fl_X10_7 (md_0 hm) mdf_1 ?_
    refine am_iload_n rfl dX10_ends_15 ?_
    refine mm_ial dX10_ends_16 (md_states hm) (by omega) ?_
    have hst := u2 k.toNat (by omega)
    have hp := pow6 (n := S 182 k.toNat) (by omega)
    refine mm_ishl dX10_ends_17 (by omega) (by omega) ?_
    refine mm_iconst dX10_ends_18 ?_
    refine mm_isub dX10_ends_19 ?_
    refine am_ci (mm_S3 dX10_ends_20 in_X10_in mk_X10_144 st_X10_in ⟨Nat.le_of_ble_eq_true rfl, Nat.le_of_ble_eq_true rfl⟩ (Nat.le_of_ble_eq_true rfl)) (m_in he (by omega) (by omega)) ?_
    refine mm_bne (tgt := 29) dX10_ends_23 (by decide) (fun h23 => ?_) (fun h23 => ?_)
    · refine am_aload_n rfl dX10_ends_29 ?_
      refine mm_getR dX10_ends_30 fl_X10_13 (md_0 hm) mdf_2 ?_
      refine am_iload_n rfl dX10_ends_33 ?_
      refine mm_ial dX10_ends_34 (md_ends hm) (by omega) ?_
      refine am_ist3 dX10_ends_35 (Nat.le_of_ble_eq_true rfl) (am_c1i _) ?_
      refine am_aload_n rfl dX10_ends_36 ?_
      refine mm_getR dX10_ends_37 fl_X10_13 (md_0 hm) mdf_2 ?_
      refine am_iload_n rfl dX10_ends_40 ?_
      refine am_iload_n rfl dX10_ends_41 ?_
      refine mm_ias dX10_ends_42 (md_ends hm) (by omega) ?_
      refine am_iload_n rfl dX10_ends_43 ?_
      refine am_ireturn dX10_ends_44 rfl rfl ?_
      first | (exfalso; omega) | exact ⟨by rw [mendsR, if_neg (by omega)], by rw [mendsS, if_neg (by omega)]⟩ | exact ⟨by rw [mendsR, if_pos (by omega)], by rw [mendsS, if_pos (by omega)]⟩
    · refine mm_bipush dX10_ends_26 (by decide) ?_
      refine am_ireturn dX10_ends_28 rfl rfl ?_
      first | (exfalso; omega) | exact ⟨by rw [mendsR, if_neg (by omega)], by rw [mendsS, if_neg (by omega)]⟩ | exact ⟨by rw [mendsR, if_pos (by omega)], by rw [mendsS, if_pos (by omega)]⟩
def mlT (S : mm_S) (k s n : Int) (y : Prop) [Decidable y] : Int := if mH S k s n then mF S k s n y else -1
def mleadsR (S : mm_S) (k s n : Int) (y : Prop) [Decidable y] : Int := if mK S k ∧ s = -1 ∧ n = -1 then S 182 k.toNat else if mSt S k s ∧ 0 ≤ n ∧ n < 8 then mlT S k s n y else -2
set_option maxRecDepth 100000 in
set_option maxHeartbeats 4000000 in
theorem m_leadsTo {sh : List mm_H} {S : mm_S} {L : mm_L} (hm : mdS sh) (hv : mdV S) {k s n : Int} (hk : 0 ≤ k ∧ k < 6) (hs : 0 ≤ s ∧ s < 6) (hn : 0 ≤ n ∧ n < 8) {y : Prop} [Decidable y] : am_E eX10_leadsTo [.ref 181, .int (iI k), .int (iI s), .int (iI n), .int (iI (b2 y))] (mm sh S L) (fun r M' => r = some (.int (iI (mlT S k s n y))) ∧ M' = mm sh S L) := by
  obtain ⟨u0, u1, u2, u3, u4⟩ := hv
  refine am_enter rfl rfl (Nat.le_of_ble_eq_true rfl) ?_
  refine am_aload_n rfl dX10_leadsTo_0 ?_
  refine am_iload_n rfl dX10_leadsTo_1 ?_
  refine am_iload_n rfl dX10_leadsTo_2 ?_
  refine am_iload_n rfl dX10_leadsTo_3 ?_
  refine am_ci (mm_V3 dX10_leadsTo_4 in_X10_has mk_X10_160 im_X10_has sl_X10_has ⟨Nat.le_of_ble_eq_true rfl, Nat.le_of_ble_eq_true rfl⟩ rfl (md_0 hm) (Nat.le_of_ble_eq_true rfl)) (m_has hm ⟨u0, u1, u2, u3, u4⟩ hk hs hn) ?_
  refine mm_beq (tgt := 22) dX10_leadsTo_7 (by decide) (fun h7 => ?_) (fun h7 => ?_)
  · refine mm_iconst dX10_leadsTo_22 ?_
    refine am_ireturn dX10_leadsTo_23 rfl rfl ?_
    first | exact ⟨by rw [mlT, if_pos (by assumption)], rfl⟩ | exact ⟨by rw [mlT, if_neg (by assumption)], rfl⟩
  · refine am_aload_n rfl dX10_leadsTo_10 ?_
    refine am_iload_n rfl dX10_leadsTo_11 ?_
    refine am_iload_n rfl dX10_leadsTo_12 ?_
    refine am_iload_n rfl dX10_leadsTo_13 ?_
    refine am_iload rfl dX10_leadsTo_14 ?_
    refine am_ci (mm_V4 dX10_leadsTo_16 in_X10_led mk_X10_163 im_X10_led sl_X10_led ⟨Nat.le_of_ble_eq_true rfl, Nat.le_of_ble_eq_true rfl⟩ rfl (md_0 hm) (Nat.le_of_ble_eq_true rfl)) (m_led hm ⟨u0, u1, u2, u3, u4⟩ hk hs hn) ?_
    refine am_goto (tgt := 23) dX10_leadsTo_19 (by decide) ?_
    refine am_ireturn dX10_leadsTo_23 rfl rfl ?_
    first | exact ⟨by rw [mlT, if_pos (by assumption)], rfl⟩ | exact ⟨by rw [mlT, if_neg (by assumption)], rfl⟩
set_option maxRecDepth 100000 in
set_option maxHeartbeats 4000000 in
theorem m_leads {sh : List mm_H} {S : mm_S} {L : mm_L} (hm : mdS sh) (hv : mdV S) {k s n : Int} (hk : Rg k) (hs : Rg s) (hn : Rg n) {y : Prop} [Decidable y] : am_E eX10_leads [.ref 181, .int (iI k), .int (iI s), .int (iI n), .int (iI (b2 y))] (mm sh S L) (fun r M' => r = some (.int (iI (mleadsR S k s n y))) ∧ M' = mm sh S L) := by
  obtain ⟨u0, u1, u2, u3, u4⟩ := hv
  refine am_enter rfl rfl (Nat.le_of_ble_eq_true rfl) ?_
  refine am_aload_n rfl dX10_leads_0 ?_
  refine am_iload_n rfl dX10_leads_1 ?_
  refine am_ci (mm_V1 dX10_leads_2 in_X10_isKind mk_X10_148 im_X10_isKind sl_X10_isKind ⟨Nat.le_of_ble_eq_true rfl, Nat.le_of_ble_eq_true rfl⟩ rfl (md_0 hm) (Nat.le_of_ble_eq_true rfl)) (m_isKind hm ⟨u0, u1, u2, u3, u4⟩ hk) ?_
  refine mm_beq (tgt := 25) dX10_leads_5 (by decide) (fun h5 => ?_) (fun h5 => ?_)
  · refine am_aload_n rfl dX10_leads_25 ?_
    refine am_iload_n rfl dX10_leads_26 ?_
    refine am_iload_n rfl dX10_leads_27 ?_
    refine am_ci (mm_V2 dX10_leads_28 in_X10_isState mk_X10_156 im_X10_isState sl_X10_isState ⟨Nat.le_of_ble_eq_true rfl, Nat.le_of_ble_eq_true rfl⟩ rfl (md_0 hm) (Nat.le_of_ble_eq_true rfl)) (m_isState hm ⟨u0, u1, u2, u3, u4⟩ hk hs) ?_
    refine mm_beq (tgt := 56) dX10_leads_31 (by decide) (fun h31 => ?_) (fun h31 => ?_)
    · refine mm_bipush dX10_leads_56 (by decide) ?_
      refine am_ireturn dX10_leads_58 rfl rfl ?_
      first | (exfalso; omega) | exact ⟨by rw [mleadsR, if_pos (by omega)], rfl⟩ | exact ⟨by rw [mleadsR, if_neg (by omega), if_pos (by omega)], rfl⟩ | exact ⟨by rw [mleadsR, if_neg (by omega), if_neg (by omega)], rfl⟩
    · refine am_iload_n rfl dX10_leads_34 ?_
      refine mm_iconst dX10_leads_35 ?_
      refine mm_bipush dX10_leads_36 (by decide) ?_
      refine am_ci (mm_S3 dX10_leads_38 in_X10_in mk_X10_144 st_X10_in ⟨Nat.le_of_ble_eq_true rfl, Nat.le_of_ble_eq_true rfl⟩ (Nat.le_of_ble_eq_true rfl)) (m_in hn (by omega) (by omega)) ?_
      refine mm_beq (tgt := 56) dX10_leads_41 (by decide) (fun h41 => ?_) (fun h41 => ?_)
      · refine mm_bipush dX10_leads_56 (by decide) ?_
        refine am_ireturn dX10_leads_58 rfl rfl ?_
        first | (exfalso; omega) | exact ⟨by rw [mleadsR, if_pos (by omega)], rfl⟩ | exact ⟨by rw [mleadsR, if_neg (by omega), if_pos (by omega)], rfl⟩ | exact ⟨by rw [mleadsR, if_neg (by omega), if_neg (by omega)], rfl⟩
      · refine am_aload_n rfl dX10_leads_44 ?_
        refine am_iload_n rfl dX10_leads_45 ?_
        refine am_iload_n rfl dX10_leads_46 ?_
        refine am_iload_n rfl dX10_leads_47 ?_
        refine am_iload rfl dX10_leads_48 ?_
        refine am_ci (mm_V4 dX10_leads_50 in_X10_leadsTo mk_X10_167 im_X10_leadsTo sl_X10_leadsTo ⟨Nat.le_of_ble_eq_true rfl, Nat.le_of_ble_eq_true rfl⟩ rfl (md_0 hm) (Nat.le_of_ble_eq_true rfl)) (m_leadsTo hm ⟨u0, u1, u2, u3, u4⟩ (by omega) (by have := u2 k.toNat (by omega); omega) (by omega)) ?_
        refine am_goto (tgt := 58) dX10_leads_53 (by decide) ?_
        refine am_ireturn dX10_leads_58 rfl rfl ?_
        first | (exfalso; omega) | exact ⟨by rw [mleadsR, if_pos (by omega)], rfl⟩ | exact ⟨by rw [mleadsR, if_neg (by omega), if_pos (by omega)], rfl⟩ | exact ⟨by rw [mleadsR, if_neg (by omega), if_neg (by omega)], rfl⟩
  · refine am_iload_n rfl dX10_leads_8 ?_
    refine mm_iconst dX10_leads_9 ?_
    refine mm_jne (tgt := 25) dX10_leads_10 (by decide) (by omega) (by omega) (fun h10 => ?_) (fun h10 => ?_)
    · refine am_aload_n rfl dX10_leads_25 ?_
      refine am_iload_n rfl dX10_leads_26 ?_
      refine am_iload_n rfl dX10_leads_27 ?_
      refine am_ci (mm_V2 dX10_leads_28 in_X10_isState mk_X10_156 im_X10_isState sl_X10_isState ⟨Nat.le_of_ble_eq_true rfl, Nat.le_of_ble_eq_true rfl⟩ rfl (md_0 hm) (Nat.le_of_ble_eq_true rfl)) (m_isState hm ⟨u0, u1, u2, u3, u4⟩ hk hs) ?_
      refine mm_beq (tgt := 56) dX10_leads_31 (by decide) (fun h31 => ?_) (fun h31 => ?_)
      · refine mm_bipush dX10_leads_56 (by decide) ?_
        refine am_ireturn dX10_leads_58 rfl rfl ?_
        first | (exfalso; omega) | exact ⟨by rw [mleadsR, if_pos (by omega)], rfl⟩ | exact ⟨by rw [mleadsR, if_neg (by omega), if_pos (by omega)], rfl⟩ | exact ⟨by rw [mleadsR, if_neg (by omega), if_neg (by omega)], rfl⟩
      · refine am_iload_n rfl dX10_leads_34 ?_
        refine mm_iconst dX10_leads_35 ?_
        refine mm_bipush dX10_leads_36 (by decide) ?_
        refine am_ci (mm_S3 dX10_leads_38 in_X10_in mk_X10_144 st_X10_in ⟨Nat.le_of_ble_eq_true rfl, Nat.le_of_ble_eq_true rfl⟩ (Nat.le_of_ble_eq_true rfl)) (m_in hn (by omega) (by omega)) ?_
        refine mm_beq (tgt := 56) dX10_leads_41 (by decide) (fun h41 => ?_) (fun h41 => ?_)
        · refine mm_bipush dX10_leads_56 (by decide) ?_
          refine am_ireturn dX10_leads_58 rfl rfl ?_
          first | (exfalso; omega) | exact ⟨by rw [mleadsR, if_pos (by omega)], rfl⟩ | exact ⟨by rw [mleadsR, if_neg (by omega), if_pos (by omega)], rfl⟩ | exact ⟨by rw [mleadsR, if_neg (by omega), if_neg (by omega)], rfl⟩
        · refine am_aload_n rfl dX10_leads_44 ?_
          refine am_iload_n rfl dX10_leads_45 ?_
          refine am_iload_n rfl dX10_leads_46 ?_
          refine am_iload_n rfl dX10_leads_47 ?_
          refine am_iload rfl dX10_leads_48 ?_
          refine am_ci (mm_V4 dX10_leads_50 in_X10_leadsTo mk_X10_167 im_X10_leadsTo sl_X10_leadsTo ⟨Nat.le_of_ble_eq_true rfl, Nat.le_of_ble_eq_true rfl⟩ rfl (md_0 hm) (Nat.le_of_ble_eq_true rfl)) (m_leadsTo hm ⟨u0, u1, u2, u3, u4⟩ (by omega) (by have := u2 k.toNat (by omega); omega) (by omega)) ?_
          refine am_goto (tgt := 58) dX10_leads_53 (by decide) ?_
          refine am_ireturn dX10_leads_58 rfl rfl ?_
          first | (exfalso; omega) | exact ⟨by rw [mleadsR, if_pos (by omega)], rfl⟩ | exact ⟨by rw [mleadsR, if_neg (by omega), if_pos (by omega)], rfl⟩ | exact ⟨by rw [mleadsR, if_neg (by omega), if_neg (by omega)], rfl⟩
    · refine am_iload_n rfl dX10_leads_13 ?_
      refine mm_iconst dX10_leads_14 ?_
      refine mm_jne (tgt := 25) dX10_leads_15 (by decide) (by omega) (by omega) (fun h15 => ?_) (fun h15 => ?_)
      · refine am_aload_n rfl dX10_leads_25 ?_
        refine am_iload_n rfl dX10_leads_26 ?_
        refine am_iload_n rfl dX10_leads_27 ?_
        refine am_ci (mm_V2 dX10_leads_28 in_X10_isState mk_X10_156 im_X10_isState sl_X10_isState ⟨Nat.le_of_ble_eq_true rfl, Nat.le_of_ble_eq_true rfl⟩ rfl (md_0 hm) (Nat.le_of_ble_eq_true rfl)) (m_isState hm ⟨u0, u1, u2, u3, u4⟩ hk hs) ?_
        refine mm_beq (tgt := 56) dX10_leads_31 (by decide) (fun h31 => ?_) (fun h31 => ?_)
        · refine mm_bipush dX10_leads_56 (by decide) ?_
          refine am_ireturn dX10_leads_58 rfl rfl ?_
          first | (exfalso; omega) | exact ⟨by rw [mleadsR, if_pos (by omega)], rfl⟩ | exact ⟨by rw [mleadsR, if_neg (by omega), if_pos (by omega)], rfl⟩ | exact ⟨by rw [mleadsR, if_neg (by omega), if_neg (by omega)], rfl⟩
        · refine am_iload_n rfl dX10_leads_34 ?_
          refine mm_iconst dX10_leads_35 ?_
          refine mm_bipush dX10_leads_36 (by decide) ?_
          refine am_ci (mm_S3 dX10_leads_38 in_X10_in mk_X10_144 st_X10_in ⟨Nat.le_of_ble_eq_true rfl, Nat.le_of_ble_eq_true rfl⟩ (Nat.le_of_ble_eq_true rfl)) (m_in hn (by omega) (by omega)) ?_
          refine mm_beq (tgt := 56) dX10_leads_41 (by decide) (fun h41 => ?_) (fun h41 => ?_)
          · refine mm_bipush dX10_leads_56 (by decide) ?_
            refine am_ireturn dX10_leads_58 rfl rfl ?_
            first | (exfalso; omega) | exact ⟨by rw [mleadsR, if_pos (by omega)], rfl⟩ | exact ⟨by rw [mleadsR, if_neg (by omega), if_pos (by omega)], rfl⟩ | exact ⟨by rw [mleadsR, if_neg (by omega), if_neg (by omega)], rfl⟩
          · refine am_aload_n rfl dX10_leads_44 ?_
            refine am_iload_n rfl dX10_leads_45 ?_
            refine am_iload_n rfl dX10_leads_46 ?_
            refine am_iload_n rfl dX10_leads_47 ?_
            refine am_iload rfl dX10_leads_48 ?_
            refine am_ci (mm_V4 dX10_leads_50 in_X10_leadsTo mk_X10_167 im_X10_leadsTo sl_X10_leadsTo ⟨Nat.le_of_ble_eq_true rfl, Nat.le_of_ble_eq_true rfl⟩ rfl (md_0 hm) (Nat.le_of_ble_eq_true rfl)) (m_leadsTo hm ⟨u0, u1, u2, u3, u4⟩ (by omega) (by have := u2 k.toNat (by omega); omega) (by omega)) ?_
            refine am_goto (tgt := 58) dX10_leads_53 (by decide) ?_
            refine am_ireturn dX10_leads_58 rfl rfl ?_
            first | (exfalso; omega) | exact ⟨by rw [mleadsR, if_pos (by omega)], rfl⟩ | exact ⟨by rw [mleadsR, if_neg (by omega), if_pos (by omega)], rfl⟩ | exact ⟨by rw [mleadsR, if_neg (by omega), if_neg (by omega)], rfl⟩
      · refine am_aload_n rfl dX10_leads_18 ?_
        refine mm_getR dX10_leads_19 fl_X10_7 (md_0 hm) mdf_1 ?_
        refine am_iload_n rfl dX10_leads_22 ?_
        refine mm_ial dX10_leads_23 (md_states hm) (by omega) ?_
        refine am_ireturn dX10_leads_24 rfl rfl ?_
        first | (exfalso; omega) | exact ⟨by rw [mleadsR, if_pos (by omega)], rfl⟩ | exact ⟨by rw [mleadsR, if_neg (by omega), if_pos (by omega)], rfl⟩ | exact ⟨by rw [mleadsR, if_neg (by omega), if_neg (by omega)], rfl⟩
set_option maxRecDepth 100000 in
set_option maxHeartbeats 4000000 in
theorem m_parts {sh : List mm_H} {S : mm_S} {L : mm_L} (hm : mdS sh) : am_E eX10_parts [.ref 181] (mm sh S L) (fun r M' => r = some (.int (iI (S 181 5))) ∧ M' = mm sh S L) := by
  refine am_enter rfl rfl (Nat.le_of_ble_eq_true rfl) ?_
  refine am_aload_n rfl dX10_parts_0 ?_
  refine mm_getI dX10_parts_1 fl_X10_22 (md_0 hm) mdf_5 ?_
  refine am_ireturn dX10_parts_4 rfl rfl ?_
  exact ⟨rfl, rfl⟩
def mroutineR (S : mm_S) : Int := if S 181 9 < 6 then S 181 9 else -4
def mroutineS (S : mm_S) : mm_S := if S 181 9 < 6 then up2 (up2 S 189 (S 181 9).toNat 0) 181 9 (S 181 9 + 1) else S
set_option maxRecDepth 100000 in
set_option maxHeartbeats 4000000 in
theorem m_routine {sh : List mm_H} {S : mm_S} {L : mm_L} (hm : mdS sh) (hv : mdV S) : am_E eX10_routine [.ref 181] (mm sh S L) (fun r M' => r = some (.int (iI (mroutineR S))) ∧ M' = mm sh (mroutineS S) L) := by
  obtain ⟨u0, u1, u2, u3, u4⟩ := hv
  refine am_enter rfl rfl (Nat.le_of_ble_eq_true rfl) ?_
  refine am_aload_n rfl dX10_routine_0 ?_
  refine mm_getI dX10_routine_1 fl_X10_200 (md_0 hm) mdf_9 ?_
  refine mm_bipush dX10_routine_4 (by decide) ?_
  refine mm_jne (tgt := 12) dX10_routine_6 (by decide) (by omega) (by omega) (fun h6 => ?_) (fun h6 => ?_)
  · refine am_aload_n rfl dX10_routine_12 ?_
    refine mm_getR dX10_routine_13 fl_X10_36 (md_0 hm) mdf_10 ?_
    refine am_aload_n rfl dX10_routine_16 ?_
    refine mm_getI dX10_routine_17 fl_X10_200 (md_0 hm) mdf_9 ?_
    refine mm_iconst dX10_routine_20 ?_
    refine mm_ias dX10_routine_21 (md_many hm) (by omega) ?_
    refine am_aload_n rfl dX10_routine_22 ?_
    refine am_dup rfl dX10_routine_23 ?_
    refine mm_getI dX10_routine_24 fl_X10_200 (md_0 hm) mdf_9 ?_
    change am_AW _ _ _ _ (.int (iI (S 181 9)) :: _) _
    refine mm_iconst dX10_routine_27 ?_
    refine mm_iadd dX10_routine_28 ?_
    refine mm_putI dX10_routine_29 fp_X10_200 (md_0 hm) mdf_9 ?_
    refine am_aload_n rfl dX10_routine_32 ?_
    refine mm_getI dX10_routine_33 fl_X10_200 (md_0 hm) mdf_9 ?_
    rw [up2_same]
    refine mm_iconst dX10_routine_36 ?_
    refine mm_isub dX10_routine_37 ?_
    refine am_ireturn dX10_routine_38 rfl rfl ?_
    first | (exfalso; omega) | exact ⟨by rw [mroutineR, if_neg (by omega)], by rw [mroutineS, if_neg (by omega)]⟩ | exact ⟨by rw [mroutineR, if_pos (by omega)]; congr 3; omega, by rw [mroutineS, if_pos (by omega)]⟩
  · refine mm_bipush dX10_routine_9 (by decide) ?_
    refine am_ireturn dX10_routine_11 rfl rfl ?_
    first | (exfalso; omega) | exact ⟨by rw [mroutineR, if_neg (by omega)], by rw [mroutineS, if_neg (by omega)]⟩ | exact ⟨by rw [mroutineR, if_pos (by omega)]; congr 3; omega, by rw [mroutineS, if_pos (by omega)]⟩
def mtoldOf (S : mm_S) (r i w : Int) : Int := if w = 0 then S 190 (25 * r + i).toNat else if w = 1 then S 191 (25 * r + i).toNat else S 192 (25 * r + i).toNat
def mtoldR (S : mm_S) (k i w : Int) : Int := if mR S k ∧ 0 ≤ w ∧ w ≤ 2 then (if 0 ≤ i ∧ i < S 189 k.toNat then mtoldOf S k i w else -1) else -2
set_option maxRecDepth 100000 in
set_option maxHeartbeats 4000000 in
theorem m_toldOf {sh : List mm_H} {S : mm_S} {L : mm_L} (hm : mdS sh) {r0 i w : Int} (hr : 0 ≤ r0 ∧ r0 < 6) (hi : 0 ≤ i ∧ i < 25) (hw : Rg w) : am_E eX10_toldOf [.ref 181, .int (iI r0), .int (iI i), .int (iI w)] (mm sh S L) (fun r M' => r = some (.int (iI (mtoldOf S r0 i w))) ∧ M' = mm sh S L) := by
  refine am_enter rfl rfl (Nat.le_of_ble_eq_true rfl) ?_
  refine mm_bipush dX10_toldOf_0 (by decide) ?_
  refine am_iload_n rfl dX10_toldOf_2 ?_
  refine mm_imul dX10_toldOf_3 ?_
  refine am_iload_n rfl dX10_toldOf_4 ?_
  refine mm_iadd dX10_toldOf_5 ?_
  refine am_ist4 dX10_toldOf_6 (Nat.le_of_ble_eq_true rfl) (am_c1i _) ?_
  refine am_iload_n rfl dX10_toldOf_8 ?_
  refine mm_zne (tgt := 22) dX10_toldOf_9 (by decide) (by omega) (fun h9 => ?_) (fun h9 => ?_)
  · refine am_iload_n rfl dX10_toldOf_22 ?_
    refine mm_iconst dX10_toldOf_23 ?_
    refine mm_jne (tgt := 37) dX10_toldOf_24 (by decide) (by omega) (by omega) (fun h24 => ?_) (fun h24 => ?_)
    · refine am_aload_n rfl dX10_toldOf_37 ?_
      refine mm_getR dX10_toldOf_38 fl_X10_45 (md_0 hm) mdf_13 ?_
      refine am_iload rfl dX10_toldOf_41 ?_
      refine mm_ial dX10_toldOf_43 (md_bAt hm) (by omega) ?_
      refine am_ireturn dX10_toldOf_44 rfl rfl ?_
      first | exact ⟨by rw [mtoldOf, if_pos (by omega)], rfl⟩ | exact ⟨by rw [mtoldOf, if_neg (by omega), if_pos (by omega)], rfl⟩ | exact ⟨by rw [mtoldOf, if_neg (by omega), if_neg (by omega)], rfl⟩
    · refine am_aload_n rfl dX10_toldOf_27 ?_
      refine mm_getR dX10_toldOf_28 fl_X10_42 (md_0 hm) mdf_12 ?_
      refine am_iload rfl dX10_toldOf_31 ?_
      refine mm_ial dX10_toldOf_33 (md_aAt hm) (by omega) ?_
      refine am_goto (tgt := 44) dX10_toldOf_34 (by decide) ?_
      refine am_ireturn dX10_toldOf_44 rfl rfl ?_
      first | exact ⟨by rw [mtoldOf, if_pos (by omega)], rfl⟩ | exact ⟨by rw [mtoldOf, if_neg (by omega), if_pos (by omega)], rfl⟩ | exact ⟨by rw [mtoldOf, if_neg (by omega), if_neg (by omega)], rfl⟩
  · refine am_aload_n rfl dX10_toldOf_12 ?_
    refine mm_getR dX10_toldOf_13 fl_X10_39 (md_0 hm) mdf_11 ?_
    refine am_iload rfl dX10_toldOf_16 ?_
    refine mm_ial dX10_toldOf_18 (md_sortAt hm) (by omega) ?_
    refine am_goto (tgt := 44) dX10_toldOf_19 (by decide) ?_
    refine am_ireturn dX10_toldOf_44 rfl rfl ?_
    first | exact ⟨by rw [mtoldOf, if_pos (by omega)], rfl⟩ | exact ⟨by rw [mtoldOf, if_neg (by omega), if_pos (by omega)], rfl⟩ | exact ⟨by rw [mtoldOf, if_neg (by omega), if_neg (by omega)], rfl⟩
set_option maxRecDepth 100000 in
set_option maxHeartbeats 4000000 in
theorem m_told {sh : List mm_H} {S : mm_S} {L : mm_L} (hm : mdS sh) (hv : mdV S) {k i w : Int} (hk : Rg k) (hi : Rg i) (hw : Rg w) : am_E eX10_told [.ref 181, .int (iI k), .int (iI i), .int (iI w)] (mm sh S L) (fun r M' => r = some (.int (iI (mtoldR S k i w))) ∧ M' = mm sh S L) := by
  obtain ⟨u0, u1, u2, u3, u4⟩ := hv
  refine am_enter rfl rfl (Nat.le_of_ble_eq_true rfl) ?_
  refine am_aload_n rfl dX10_told_0 ?_
  refine am_iload_n rfl dX10_told_1 ?_
  refine am_ci (mm_V1 dX10_told_2 in_X10_isRoutine mk_X10_203 im_X10_isRoutine sl_X10_isRoutine ⟨Nat.le_of_ble_eq_true rfl, Nat.le_of_ble_eq_true rfl⟩ rfl (md_0 hm) (Nat.le_of_ble_eq_true rfl)) (m_isRoutine hm ⟨u0, u1, u2, u3, u4⟩ hk) ?_
  refine mm_beq (tgt := 17) dX10_told_5 (by decide) (fun h5 => ?_) (fun h5 => ?_)
  · refine mm_bipush dX10_told_17 (by decide) ?_
    refine am_ireturn dX10_told_19 rfl rfl ?_
    first | (exfalso; omega) | exact ⟨by rw [mtoldR, if_neg (by omega)], rfl⟩ | exact ⟨by rw [mtoldR, if_pos (by omega), if_pos (by omega)], rfl⟩ | exact ⟨by rw [mtoldR, if_pos (by omega), if_neg (by omega)], rfl⟩
  · refine am_iload_n rfl dX10_told_8 ?_
    refine mm_iconst dX10_told_9 ?_
    refine mm_iconst dX10_told_10 ?_
    refine am_ci (mm_S3 dX10_told_11 in_X10_in mk_X10_144 st_X10_in ⟨Nat.le_of_ble_eq_true rfl, Nat.le_of_ble_eq_true rfl⟩ (Nat.le_of_ble_eq_true rfl)) (m_in hw (by omega) (by omega)) ?_
    refine mm_bne (tgt := 20) dX10_told_14 (by decide) (fun h14 => ?_) (fun h14 => ?_)
    · refine am_iload_n rfl dX10_told_20 ?_
      refine mm_iconst dX10_told_21 ?_
      refine am_aload_n rfl dX10_told_22 ?_
      refine mm_getR dX10_told_23 fl_X10_36 (md_0 hm) mdf_10 ?_
      refine am_iload_n rfl dX10_told_26 ?_
      refine mm_ial dX10_told_27 (md_many hm) (by omega) ?_
      refine mm_iconst dX10_told_28 ?_
      refine mm_isub dX10_told_29 ?_
      refine am_ci (mm_S3 dX10_told_30 in_X10_in mk_X10_144 st_X10_in ⟨Nat.le_of_ble_eq_true rfl, Nat.le_of_ble_eq_true rfl⟩ (Nat.le_of_ble_eq_true rfl)) (m_in hi (by omega) (by have := u4 k.toNat (by omega); omega)) ?_
      refine mm_beq (tgt := 46) dX10_told_33 (by decide) (fun h33 => ?_) (fun h33 => ?_)
      · refine mm_iconst dX10_told_46 ?_
        refine am_ireturn dX10_told_47 rfl rfl ?_
        first | (exfalso; omega) | exact ⟨by rw [mtoldR, if_neg (by omega)], rfl⟩ | exact ⟨by rw [mtoldR, if_pos (by omega), if_pos (by omega)], rfl⟩ | exact ⟨by rw [mtoldR, if_pos (by omega), if_neg (by omega)], rfl⟩
      · refine am_aload_n rfl dX10_told_36 ?_
        refine am_iload_n rfl dX10_told_37 ?_
        refine am_iload_n rfl dX10_told_38 ?_
        refine am_iload_n rfl dX10_told_39 ?_
        refine am_ci (mm_V3 dX10_told_40 in_X10_toldOf mk_X10_215 im_X10_toldOf sl_X10_toldOf ⟨Nat.le_of_ble_eq_true rfl, Nat.le_of_ble_eq_true rfl⟩ rfl (md_0 hm) (Nat.le_of_ble_eq_true rfl)) (m_toldOf hm (by omega) (by have := u4 k.toNat (by omega); omega) hw) ?_
        refine am_goto (tgt := 47) dX10_told_43 (by decide) ?_
        refine am_ireturn dX10_told_47 rfl rfl ?_
        first | (exfalso; omega) | exact ⟨by rw [mtoldR, if_neg (by omega)], rfl⟩ | exact ⟨by rw [mtoldR, if_pos (by omega), if_pos (by omega)], rfl⟩ | exact ⟨by rw [mtoldR, if_pos (by omega), if_neg (by omega)], rfl⟩
    · refine mm_bipush dX10_told_17 (by decide) ?_
      refine am_ireturn dX10_told_19 rfl rfl ?_
      first | (exfalso; omega) | exact ⟨by rw [mtoldR, if_neg (by omega)], rfl⟩ | exact ⟨by rw [mtoldR, if_pos (by omega), if_pos (by omega)], rfl⟩ | exact ⟨by rw [mtoldR, if_pos (by omega), if_neg (by omega)], rfl⟩
def mcutR (S : mm_S) (k : Int) : Int := if mR S k then (if S 189 k.toNat = 0 then -3 else S 189 k.toNat - 1) else -2
def mcutS (S : mm_S) (k : Int) : mm_S := if mR S k then (if S 189 k.toNat = 0 then S else up2 S 189 k.toNat (S 189 k.toNat - 1)) else S
set_option maxRecDepth 100000 in
set_option maxHeartbeats 4000000 in
theorem m_cut {sh : List mm_H} {S : mm_S} {L : mm_L} (hm : mdS sh) (hv : mdV S) {k : Int} (hk : Rg k) : am_E eX10_cut [.ref 181, .int (iI k)] (mm sh S L) (fun r M' => r = some (.int (iI (mcutR S k))) ∧ M' = mm sh (mcutS S k) L) := by
  obtain ⟨u0, u1, u2, u3, u4⟩ := hv
  refine am_enter rfl rfl (Nat.le_of_ble_eq_true rfl) ?_
  refine am_aload_n rfl dX10_cut_0 ?_
  refine am_iload_n rfl dX10_cut_1 ?_
  refine am_ci (mm_V1 dX10_cut_2 in_X10_isRoutine mk_X10_203 im_X10_isRoutine sl_X10_isRoutine ⟨Nat.le_of_ble_eq_true rfl, Nat.le_of_ble_eq_true rfl⟩ rfl (md_0 hm) (Nat.le_of_ble_eq_true rfl)) (m_isRoutine hm ⟨u0, u1, u2, u3, u4⟩ hk) ?_
  refine mm_bne (tgt := 11) dX10_cut_5 (by decide) (fun h5 => ?_) (fun h5 => ?_)
  · refine am_aload_n rfl dX10_cut_11 ?_
    refine mm_getR dX10_cut_12 fl_X10_36 (md_0 hm) mdf_10 ?_
    refine am_iload_n rfl dX10_cut_15 ?_
    refine mm_ial dX10_cut_16 (md_many hm) (by omega) ?_
    refine mm_zne (tgt := 23) dX10_cut_17 (by decide) (by have := u4 k.toNat (by omega); omega) (fun h17 => ?_) (fun h17 => ?_)
    · refine am_aload_n rfl dX10_cut_23 ?_
      refine mm_getR dX10_cut_24 fl_X10_36 (md_0 hm) mdf_10 ?_
      refine am_iload_n rfl dX10_cut_27 ?_
      refine am_dup2_11 rfl rfl dX10_cut_28 ?_
      refine mm_ial dX10_cut_29 (md_many hm) (by omega) ?_
      refine mm_iconst dX10_cut_30 ?_
      refine mm_isub dX10_cut_31 ?_
      refine mm_ias dX10_cut_32 (md_many hm) (by omega) ?_
      refine am_aload_n rfl dX10_cut_33 ?_
      refine mm_getR dX10_cut_34 fl_X10_36 (md_0 hm) mdf_10 ?_
      refine am_iload_n rfl dX10_cut_37 ?_
      refine mm_ial dX10_cut_38 (md_many hm) (by omega) ?_
      rw [up2_same]
      refine am_ireturn dX10_cut_39 rfl rfl ?_
      first | (exfalso; omega) | exact ⟨by rw [mcutR, if_neg (by omega)], by rw [mcutS, if_neg (by omega)]⟩ | exact ⟨by rw [mcutR, if_pos (by omega), if_pos (by omega)], by rw [mcutS, if_pos (by omega), if_pos (by omega)]⟩ | exact ⟨by rw [mcutR, if_pos (by omega), if_neg (by omega)], by rw [mcutS, if_pos (by omega), if_neg (by omega)]⟩
    · refine mm_bipush dX10_cut_20 (by decide) ?_
      refine am_ireturn dX10_cut_22 rfl rfl ?_
      first | (exfalso; omega) | exact ⟨by rw [mcutR, if_neg (by omega)], by rw [mcutS, if_neg (by omega)]⟩ | exact ⟨by rw [mcutR, if_pos (by omega), if_pos (by omega)], by rw [mcutS, if_pos (by omega), if_pos (by omega)]⟩ | exact ⟨by rw [mcutR, if_pos (by omega), if_neg (by omega)], by rw [mcutS, if_pos (by omega), if_neg (by omega)]⟩
  · refine mm_bipush dX10_cut_8 (by decide) ?_
    refine am_ireturn dX10_cut_10 rfl rfl ?_
    first | (exfalso; omega) | exact ⟨by rw [mcutR, if_neg (by omega)], by rw [mcutS, if_neg (by omega)]⟩ | exact ⟨by rw [mcutR, if_pos (by omega), if_pos (by omega)], by rw [mcutS, if_pos (by omega), if_pos (by omega)]⟩ | exact ⟨by rw [mcutR, if_pos (by omega), if_neg (by omega)], by rw [mcutS, if_pos (by omega), if_neg (by omega)]⟩
