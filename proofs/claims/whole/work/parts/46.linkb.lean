def lbS (S : mm_S) (a i : Nat) : mm_S := up2 (up2 (if S (a + 1) i = 14 then up2 S (a + 6) i (S a 1) else S) a 1 (S a 1 + 1)) (a + 9) (S a 1).toNat i
def lmS (S : mm_S) (a i o : Nat) : mm_S := up2 (up2 S (a + 8) o i) (a + 4) o (if S (a + 1) i = 6 then (i : Int) + 1 else i)
def leS (S : mm_S) (a i o : Nat) : mm_S := if S (a + 1) o = 14 then up2 (up2 S a 1 (S a 1 - 1)) (a + 6) i (S (a + 6) o) else if S (a + 8) o = -1 then (if S (a + 1) o = 4 ∨ S (a + 1) o = 5 then up2 (up2 (up2 S a 1 (S a 1 - 1)) (a + 4) o ((i : Int) + 1)) (a + 4) i o else up2 (up2 S a 1 (S a 1 - 1)) (a + 4) o ((i : Int) + 1)) else up2 (up2 S a 1 (S a 1 - 1)) (a + 4) (S (a + 8) o).toNat ((i : Int) + 1)
set_option maxRecDepth 100000 in
set_option maxHeartbeats 4000000 in
theorem c_linkBlock {sh : List mm_H} {S : mm_S} {L : mm_L} {a i : Nat} (hr : rtS sh a) (hi : i < 24) (hs : Rg (S (a + 1) i)) (h1 : 0 ≤ S a 1 ∧ S a 1 < 6) : am_E eX6_linkBlock [.ref a, .int (iI (i : Int))] (mm sh S L) (fun r M' => r = none ∧ M' = mm sh (lbS S a i) L) := by
  obtain ⟨hr0, hr1, hr2, hr3, hr4, hr5, hr6, hr7, hr8, hr9⟩ := hr
  refine am_enter rfl rfl (Nat.le_of_ble_eq_true rfl) ?_
  refine am_aload_n rfl dX6_linkBlock_0 ?_
  refine mm_getI dX6_linkBlock_1 fl_X6_15 hr0 rfl ?_
  refine mm_bipush dX6_linkBlock_4 (by decide) ?_
  refine mm_jlt (tgt := 10) dX6_linkBlock_6 (by decide) (by omega) (by omega) (fun h6 => ?_) (fun h6 => ?_)
  · refine am_aload_n rfl dX6_linkBlock_10 ?_
    refine mm_getR dX6_linkBlock_11 fl_X6_18 hr0 rfl ?_
    refine am_iload_n rfl dX6_linkBlock_14 ?_
    refine mm_ial dX6_linkBlock_15 hr1 (by omega) ?_
    rw [Int.toNat_natCast]
    refine mm_bipush dX6_linkBlock_16 (by decide) ?_
    refine mm_jne (tgt := 31) dX6_linkBlock_18 (by decide) (by omega) (by omega) (fun h18 => ?_) (fun h18 => ?_)
    · refine am_aload_n rfl dX6_linkBlock_31 ?_
      refine mm_getR dX6_linkBlock_32 fl_X6_43 hr0 rfl ?_
      refine am_aload_n rfl dX6_linkBlock_35 ?_
      refine am_dup rfl dX6_linkBlock_36 ?_
      refine mm_getI dX6_linkBlock_37 fl_X6_15 hr0 rfl ?_
      refine am_dup_x1 rfl rfl dX6_linkBlock_40 ?_
      refine mm_iconst dX6_linkBlock_41 ?_
      refine mm_iadd dX6_linkBlock_42 ?_
      refine mm_putI dX6_linkBlock_43 fp_X6_15 hr0 rfl ?_
      refine am_iload_n rfl dX6_linkBlock_46 ?_
      refine mm_ias dX6_linkBlock_47 hr9 (by omega) ?_
      refine am_return dX6_linkBlock_48 rfl ?_
      first
        | (exfalso; omega)
        | exact ⟨rfl, by rw [lbS, if_pos (by omega)]⟩
        | exact ⟨rfl, by rw [lbS, if_neg (by omega)]⟩
    · refine am_aload_n rfl dX6_linkBlock_21 ?_
      refine mm_getR dX6_linkBlock_22 fl_X6_34 hr0 rfl ?_
      refine am_iload_n rfl dX6_linkBlock_25 ?_
      refine am_aload_n rfl dX6_linkBlock_26 ?_
      refine mm_getI dX6_linkBlock_27 fl_X6_15 hr0 rfl ?_
      refine mm_ias dX6_linkBlock_30 hr6 (by omega) ?_
      rw [Int.toNat_natCast]
      refine am_aload_n rfl dX6_linkBlock_31 ?_
      refine mm_getR dX6_linkBlock_32 fl_X6_43 hr0 rfl ?_
      refine am_aload_n rfl dX6_linkBlock_35 ?_
      refine am_dup rfl dX6_linkBlock_36 ?_
      refine mm_getI dX6_linkBlock_37 fl_X6_15 hr0 rfl ?_
      try simp (disch := omega) only [up2_rd, up2_rc, up2_same]
      refine am_dup_x1 rfl rfl dX6_linkBlock_40 ?_
      refine mm_iconst dX6_linkBlock_41 ?_
      refine mm_iadd dX6_linkBlock_42 ?_
      refine mm_putI dX6_linkBlock_43 fp_X6_15 hr0 rfl ?_
      refine am_iload_n rfl dX6_linkBlock_46 ?_
      refine mm_ias dX6_linkBlock_47 hr9 (by omega) ?_
      refine am_return dX6_linkBlock_48 rfl ?_
      first
        | (exfalso; omega)
        | exact ⟨rfl, by rw [lbS, if_pos (by omega)]⟩
        | exact ⟨rfl, by rw [lbS, if_neg (by omega)]⟩
  · refine am_return dX6_linkBlock_9 rfl ?_
    first
      | (exfalso; omega)
      | exact ⟨rfl, by rw [lbS, if_pos (by omega)]⟩
      | exact ⟨rfl, by rw [lbS, if_neg (by omega)]⟩
set_option maxRecDepth 100000 in
set_option maxHeartbeats 4000000 in
theorem c_linkMiddle {sh : List mm_H} {S : mm_S} {L : mm_L} {a i : Nat} (hr : rtS sh a) (hi : i < 24) (hs : Rg (S (a + 1) i)) {o : Nat} (h1 : 1 ≤ S a 1 ∧ S a 1 ≤ 6) (h9 : S (a + 9) (S a 1 - 1).toNat = (o : Int)) (ho : o < 24) : am_E eX6_linkMiddle [.ref a, .int (iI (i : Int))] (mm sh S L) (fun r M' => r = none ∧ M' = mm sh (lmS S a i o) L) := by
  obtain ⟨hr0, hr1, hr2, hr3, hr4, hr5, hr6, hr7, hr8, hr9⟩ := hr
  refine am_enter rfl rfl (Nat.le_of_ble_eq_true rfl) ?_
  refine am_aload_n rfl dX6_linkMiddle_0 ?_
  refine mm_getI dX6_linkMiddle_1 fl_X6_15 hr0 rfl ?_
  refine mm_iconst dX6_linkMiddle_4 ?_
  refine mm_jge (tgt := 9) dX6_linkMiddle_5 (by decide) (by omega) (by omega) (fun h5 => ?_) (fun h5 => ?_)
  · refine am_aload_n rfl dX6_linkMiddle_9 ?_
    refine mm_getR dX6_linkMiddle_10 fl_X6_43 hr0 rfl ?_
    refine am_aload_n rfl dX6_linkMiddle_13 ?_
    refine mm_getI dX6_linkMiddle_14 fl_X6_15 hr0 rfl ?_
    refine mm_iconst dX6_linkMiddle_17 ?_
    refine mm_isub dX6_linkMiddle_18 ?_
    refine mm_ial dX6_linkMiddle_19 hr9 (by omega) ?_
    rw [h9]
    refine am_ist2 dX6_linkMiddle_20 (Nat.le_of_ble_eq_true rfl) (am_c1i _) ?_
    refine am_aload_n rfl dX6_linkMiddle_21 ?_
    refine mm_getR dX6_linkMiddle_22 fl_X6_40 hr0 rfl ?_
    refine am_iload_n rfl dX6_linkMiddle_25 ?_
    refine am_iload_n rfl dX6_linkMiddle_26 ?_
    refine mm_ias dX6_linkMiddle_27 hr8 (by omega) ?_
    rw [Int.toNat_natCast]
    refine am_aload_n rfl dX6_linkMiddle_28 ?_
    refine mm_getR dX6_linkMiddle_29 fl_X6_28 hr0 rfl ?_
    refine am_iload_n rfl dX6_linkMiddle_32 ?_
    refine am_aload_n rfl dX6_linkMiddle_33 ?_
    refine mm_getR dX6_linkMiddle_34 fl_X6_18 hr0 rfl ?_
    refine am_iload_n rfl dX6_linkMiddle_37 ?_
    refine mm_ial dX6_linkMiddle_38 hr1 (by omega) ?_
    try simp (disch := omega) only [up2_rd, up2_rc, up2_same]
    rw [Int.toNat_natCast]
    refine mm_bipush dX6_linkMiddle_39 (by decide) ?_
    refine mm_jne (tgt := 50) dX6_linkMiddle_41 (by decide) (by omega) (by omega) (fun h41 => ?_) (fun h41 => ?_)
    · refine am_iload_n rfl dX6_linkMiddle_50 ?_
      refine mm_ias dX6_linkMiddle_51 hr4 (by omega) ?_
      rw [Int.toNat_natCast]
      refine am_return dX6_linkMiddle_52 rfl ?_
      first
        | (exfalso; omega)
        | exact ⟨rfl, by rw [lmS, if_pos (by omega)]⟩
        | exact ⟨rfl, by rw [lmS, if_neg (by omega)]⟩
    · refine am_iload_n rfl dX6_linkMiddle_44 ?_
      refine mm_iconst dX6_linkMiddle_45 ?_
      refine mm_iadd dX6_linkMiddle_46 ?_
      refine am_goto (tgt := 51) dX6_linkMiddle_47 (by decide) ?_
      refine mm_ias dX6_linkMiddle_51 hr4 (by omega) ?_
      rw [Int.toNat_natCast]
      refine am_return dX6_linkMiddle_52 rfl ?_
      first
        | (exfalso; omega)
        | exact ⟨rfl, by rw [lmS, if_pos (by omega)]⟩
        | exact ⟨rfl, by rw [lmS, if_neg (by omega)]⟩
  · refine am_return dX6_linkMiddle_8 rfl ?_
    first
      | (exfalso; omega)
      | exact ⟨rfl, by rw [lmS, if_pos (by omega)]⟩
      | exact ⟨rfl, by rw [lmS, if_neg (by omega)]⟩
set_option maxRecDepth 100000 in
set_option maxHeartbeats 4000000 in
theorem c_linkEnd {sh : List mm_H} {S : mm_S} {L : mm_L} {a i : Nat} (hr : rtS sh a) (hi : i < 24) {o : Nat} (h1 : 1 ≤ S a 1 ∧ S a 1 ≤ 6) (h9 : S (a + 9) (S a 1 - 1).toNat = (o : Int)) (ho : o < 24) (hs : Rg (S (a + 1) o)) (hm : -1 ≤ S (a + 8) o ∧ S (a + 8) o < 24) : am_E eX6_linkEnd [.ref a, .int (iI (i : Int))] (mm sh S L) (fun r M' => r = none ∧ M' = mm sh (leS S a i o) L) := by
  obtain ⟨hr0, hr1, hr2, hr3, hr4, hr5, hr6, hr7, hr8, hr9⟩ := hr
  refine am_enter rfl rfl (Nat.le_of_ble_eq_true rfl) ?_
  refine am_aload_n rfl dX6_linkEnd_0 ?_
  refine mm_getI dX6_linkEnd_1 fl_X6_15 hr0 rfl ?_
  refine mm_iconst dX6_linkEnd_4 ?_
  refine mm_jge (tgt := 9) dX6_linkEnd_5 (by decide) (by omega) (by omega) (fun h5 => ?_) (fun h5 => ?_)
  · refine am_aload_n rfl dX6_linkEnd_9 ?_
    refine am_dup rfl dX6_linkEnd_10 ?_
    refine mm_getI dX6_linkEnd_11 fl_X6_15 hr0 rfl ?_
    refine mm_iconst dX6_linkEnd_14 ?_
    refine mm_isub dX6_linkEnd_15 ?_
    refine mm_putI dX6_linkEnd_16 fp_X6_15 hr0 rfl ?_
    refine am_aload_n rfl dX6_linkEnd_19 ?_
    refine mm_getR dX6_linkEnd_20 fl_X6_43 hr0 rfl ?_
    refine am_aload_n rfl dX6_linkEnd_23 ?_
    refine mm_getI dX6_linkEnd_24 fl_X6_15 hr0 rfl ?_
    try simp (disch := omega) only [up2_rd, up2_rc, up2_same]
    refine mm_ial dX6_linkEnd_27 hr9 (by omega) ?_
    try simp (disch := omega) only [up2_rd, up2_rc, up2_same]
    rw [h9]
    refine am_ist2 dX6_linkEnd_28 (Nat.le_of_ble_eq_true rfl) (am_c1i _) ?_
    refine am_aload_n rfl dX6_linkEnd_29 ?_
    refine mm_getR dX6_linkEnd_30 fl_X6_18 hr0 rfl ?_
    refine am_iload_n rfl dX6_linkEnd_33 ?_
    refine mm_ial dX6_linkEnd_34 hr1 (by omega) ?_
    try simp (disch := omega) only [up2_rd, up2_rc, up2_same]
    rw [Int.toNat_natCast]
    refine mm_bipush dX6_linkEnd_35 (by decide) ?_
    refine mm_jne (tgt := 55) dX6_linkEnd_37 (by decide) (by omega) (by omega) (fun h37 => ?_) (fun h37 => ?_)
    · refine am_aload_n rfl dX6_linkEnd_55 ?_
      refine mm_getR dX6_linkEnd_56 fl_X6_40 hr0 rfl ?_
      refine am_iload_n rfl dX6_linkEnd_59 ?_
      refine mm_ial dX6_linkEnd_60 hr8 (by omega) ?_
      try simp (disch := omega) only [up2_rd, up2_rc, up2_same]
      rw [Int.toNat_natCast]
      refine mm_iconst dX6_linkEnd_61 ?_
      refine mm_jeq (tgt := 82) dX6_linkEnd_62 (by decide) (by omega) (by omega) (fun h62 => ?_) (fun h62 => ?_)
      · refine am_aload_n rfl dX6_linkEnd_82 ?_
        refine mm_getR dX6_linkEnd_83 fl_X6_28 hr0 rfl ?_
        refine am_iload_n rfl dX6_linkEnd_86 ?_
        refine am_iload_n rfl dX6_linkEnd_87 ?_
        refine mm_iconst dX6_linkEnd_88 ?_
        refine mm_iadd dX6_linkEnd_89 ?_
        refine mm_ias dX6_linkEnd_90 hr4 (by omega) ?_
        rw [Int.toNat_natCast]
        refine am_aload_n rfl dX6_linkEnd_91 ?_
        refine mm_getR dX6_linkEnd_92 fl_X6_18 hr0 rfl ?_
        refine am_iload_n rfl dX6_linkEnd_95 ?_
        refine mm_ial dX6_linkEnd_96 hr1 (by omega) ?_
        try simp (disch := omega) only [up2_rd, up2_rc, up2_same]
        rw [Int.toNat_natCast]
        refine mm_iconst dX6_linkEnd_97 ?_
        refine mm_jeq (tgt := 111) dX6_linkEnd_98 (by decide) (by omega) (by omega) (fun h98 => ?_) (fun h98 => ?_)
        · refine am_aload_n rfl dX6_linkEnd_111 ?_
          refine mm_getR dX6_linkEnd_112 fl_X6_28 hr0 rfl ?_
          refine am_iload_n rfl dX6_linkEnd_115 ?_
          refine am_iload_n rfl dX6_linkEnd_116 ?_
          refine mm_ias dX6_linkEnd_117 hr4 (by omega) ?_
          rw [Int.toNat_natCast]
          refine am_return dX6_linkEnd_118 rfl ?_
          first
            | (exfalso; omega)
            | exact ⟨rfl, by rw [leS, if_pos (by omega)]⟩
            | exact ⟨rfl, by rw [leS, if_neg (by omega), if_pos (by omega), if_pos (by omega)]⟩
            | exact ⟨rfl, by rw [leS, if_neg (by omega), if_pos (by omega), if_neg (by omega)]⟩
            | exact ⟨rfl, by rw [leS, if_neg (by omega), if_neg (by omega)]⟩
        · refine am_aload_n rfl dX6_linkEnd_101 ?_
          refine mm_getR dX6_linkEnd_102 fl_X6_18 hr0 rfl ?_
          refine am_iload_n rfl dX6_linkEnd_105 ?_
          refine mm_ial dX6_linkEnd_106 hr1 (by omega) ?_
          try simp (disch := omega) only [up2_rd, up2_rc, up2_same]
          rw [Int.toNat_natCast]
          refine mm_iconst dX6_linkEnd_107 ?_
          refine mm_jne (tgt := 118) dX6_linkEnd_108 (by decide) (by omega) (by omega) (fun h108 => ?_) (fun h108 => ?_)
          · refine am_return dX6_linkEnd_118 rfl ?_
            first
              | (exfalso; omega)
              | exact ⟨rfl, by rw [leS, if_pos (by omega)]⟩
              | exact ⟨rfl, by rw [leS, if_neg (by omega), if_pos (by omega), if_pos (by omega)]⟩
              | exact ⟨rfl, by rw [leS, if_neg (by omega), if_pos (by omega), if_neg (by omega)]⟩
              | exact ⟨rfl, by rw [leS, if_neg (by omega), if_neg (by omega)]⟩
          · refine am_aload_n rfl dX6_linkEnd_111 ?_
            refine mm_getR dX6_linkEnd_112 fl_X6_28 hr0 rfl ?_
            refine am_iload_n rfl dX6_linkEnd_115 ?_
            refine am_iload_n rfl dX6_linkEnd_116 ?_
            refine mm_ias dX6_linkEnd_117 hr4 (by omega) ?_
            rw [Int.toNat_natCast]
            refine am_return dX6_linkEnd_118 rfl ?_
            first
              | (exfalso; omega)
              | exact ⟨rfl, by rw [leS, if_pos (by omega)]⟩
              | exact ⟨rfl, by rw [leS, if_neg (by omega), if_pos (by omega), if_pos (by omega)]⟩
              | exact ⟨rfl, by rw [leS, if_neg (by omega), if_pos (by omega), if_neg (by omega)]⟩
              | exact ⟨rfl, by rw [leS, if_neg (by omega), if_neg (by omega)]⟩
      · refine am_aload_n rfl dX6_linkEnd_65 ?_
        refine mm_getR dX6_linkEnd_66 fl_X6_28 hr0 rfl ?_
        refine am_aload_n rfl dX6_linkEnd_69 ?_
        refine mm_getR dX6_linkEnd_70 fl_X6_40 hr0 rfl ?_
        refine am_iload_n rfl dX6_linkEnd_73 ?_
        refine mm_ial dX6_linkEnd_74 hr8 (by omega) ?_
        try simp (disch := omega) only [up2_rd, up2_rc, up2_same]
        rw [Int.toNat_natCast]
        refine am_iload_n rfl dX6_linkEnd_75 ?_
        refine mm_iconst dX6_linkEnd_76 ?_
        refine mm_iadd dX6_linkEnd_77 ?_
        refine mm_ias dX6_linkEnd_78 hr4 (by omega) ?_
        refine am_goto (tgt := 118) dX6_linkEnd_79 (by decide) ?_
        refine am_return dX6_linkEnd_118 rfl ?_
        first
          | (exfalso; omega)
          | exact ⟨rfl, by rw [leS, if_pos (by omega)]⟩
          | exact ⟨rfl, by rw [leS, if_neg (by omega), if_pos (by omega), if_pos (by omega)]⟩
          | exact ⟨rfl, by rw [leS, if_neg (by omega), if_pos (by omega), if_neg (by omega)]⟩
          | exact ⟨rfl, by rw [leS, if_neg (by omega), if_neg (by omega)]⟩
    · refine am_aload_n rfl dX6_linkEnd_40 ?_
      refine mm_getR dX6_linkEnd_41 fl_X6_34 hr0 rfl ?_
      refine am_iload_n rfl dX6_linkEnd_44 ?_
      refine am_aload_n rfl dX6_linkEnd_45 ?_
      refine mm_getR dX6_linkEnd_46 fl_X6_34 hr0 rfl ?_
      refine am_iload_n rfl dX6_linkEnd_49 ?_
      refine mm_ial dX6_linkEnd_50 hr6 (by omega) ?_
      try simp (disch := omega) only [up2_rd, up2_rc, up2_same]
      rw [Int.toNat_natCast]
      refine mm_ias dX6_linkEnd_51 hr6 (by omega) ?_
      rw [Int.toNat_natCast]
      refine am_goto (tgt := 118) dX6_linkEnd_52 (by decide) ?_
      refine am_return dX6_linkEnd_118 rfl ?_
      first
        | (exfalso; omega)
        | exact ⟨rfl, by rw [leS, if_pos (by omega)]⟩
        | exact ⟨rfl, by rw [leS, if_neg (by omega), if_pos (by omega), if_pos (by omega)]⟩
        | exact ⟨rfl, by rw [leS, if_neg (by omega), if_pos (by omega), if_neg (by omega)]⟩
        | exact ⟨rfl, by rw [leS, if_neg (by omega), if_neg (by omega)]⟩
  · refine am_return dX6_linkEnd_8 rfl ?_
    first
      | (exfalso; omega)
      | exact ⟨rfl, by rw [leS, if_pos (by omega)]⟩
      | exact ⟨rfl, by rw [leS, if_neg (by omega), if_pos (by omega), if_pos (by omega)]⟩
      | exact ⟨rfl, by rw [leS, if_neg (by omega), if_pos (by omega), if_neg (by omega)]⟩
      | exact ⟨rfl, by rw [leS, if_neg (by omega), if_neg (by omega)]⟩
