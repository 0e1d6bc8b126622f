def fill2 (S : mm_S) (a b lo n : Nat) (v : Int) : mm_S := fun c j => if (c = a ∨ c = b) ∧ lo ≤ j ∧ j < lo + n then v else S c j
theorem fill2_0 (S : mm_S) (a b lo : Nat) (v : Int) : fill2 S a b lo 0 v = S := by
  funext c j
  simp only [fill2]
  rw [if_neg (by omega)]
theorem fill2_s (S : mm_S) (a b lo n : Nat) (v : Int) : up2 (up2 (fill2 S a b lo n v) a (lo + n) v) b (lo + n) v = fill2 S a b lo (n + 1) v := by
  funext c j
  simp only [up2, fill2]
  by_cases h1 : c = b ∧ j = lo + n
  · rw [if_pos h1, if_pos ⟨Or.inr h1.1, by omega, by omega⟩]
  · rw [if_neg h1]
    by_cases h2 : c = a ∧ j = lo + n
    · rw [if_pos h2, if_pos ⟨Or.inl h2.1, by omega, by omega⟩]
    · rw [if_neg h2]
      by_cases h3 : (c = a ∨ c = b) ∧ lo ≤ j ∧ j < lo + n
      · rw [if_pos h3, if_pos ⟨h3.1, by omega, by omega⟩]
      · rw [if_neg h3, if_neg (by omega)]
def cpy2 (S : mm_S) (a b lo src n : Nat) : mm_S := fun c j => if (c = a ∨ c = b) ∧ lo ≤ j ∧ j < lo + n then S c (src + (j - lo)) else S c j
theorem cpy2_0 (S : mm_S) (a b lo src : Nat) : cpy2 S a b lo src 0 = S := by
  funext c j
  simp only [cpy2]
  rw [if_neg (by omega)]
theorem cpy2_at {S : mm_S} {a b lo src n i : Nat} (h : src + 48 ≤ lo ∨ lo + 48 ≤ src) (hn : n ≤ 48) (hi : i < 48) (c : Nat) : cpy2 S a b lo src n c (src + i) = S c (src + i) := by
  simp only [cpy2]
  rw [if_neg (by omega)]
theorem cpy2_s (S : mm_S) (a b lo src n : Nat) : up2 (up2 (cpy2 S a b lo src n) a (lo + n) (S a (src + n))) b (lo + n) (S b (src + n)) = cpy2 S a b lo src (n + 1) := by
  funext c j
  simp only [up2, cpy2]
  by_cases h1 : c = b ∧ j = lo + n
  · rw [if_pos h1, if_pos ⟨Or.inr h1.1, by omega, by omega⟩, h1.1, h1.2, show lo + n - lo = n by omega]
  · rw [if_neg h1]
    by_cases h2 : c = a ∧ j = lo + n
    · rw [if_pos h2, if_pos ⟨Or.inl h2.1, by omega, by omega⟩, h2.1, h2.2, show lo + n - lo = n by omega]
    · rw [if_neg h2]
      by_cases h3 : (c = a ∨ c = b) ∧ lo ≤ j ∧ j < lo + n
      · rw [if_pos h3, if_pos ⟨h3.1, by omega, by omega⟩]
      · rw [if_neg h3, if_neg (by omega)]
set_option maxRecDepth 100000 in
set_option maxHeartbeats 4000000 in
theorem l_mkind {sh : List mm_H} {S : mm_S} {L : mm_L} (hm : mdS sh) {x y : Int32} {nk : Nat} (hn : S 181 0 = nk) (hk : nk < 6) : ∀ (q : Nat) (i : Nat) (u : Int), 48 - i < q → (i ≤ 48) → (u = 48 * nk + i) → am_AW eX10_kind (mm sh (fill2 S 184 185 (48 * nk) i (-1)) L) 66 [some (.ref 181), some (.int x), some (.int y), some (.int (iI u))] [] (fun r M' => r = some (.int (iI (nk : Int))) ∧ M' = mm sh (up2 (fill2 S 184 185 (48 * nk) 48 (-1)) 181 0 (nk + 1)) L) := by
  intro q
  induction q with
  | zero =>
    intro i u hq
    exact absurd hq (Nat.not_lt_zero _)
  | succ q ih =>
    intro i u hq hi hu
    refine am_iload_n rfl dX10_kind_66 ?_
    refine mm_bipush dX10_kind_67 (by decide) ?_
    refine am_aload_n rfl dX10_kind_69 ?_
    refine mm_getI dX10_kind_70 fl_X10_141 (md_0 hm) mdf_0 ?_
    change am_AW _ _ _ _ (.int (iI (S 181 0)) :: _) _
    refine mm_imul dX10_kind_73 ?_
    refine mm_bipush dX10_kind_74 (by decide) ?_
    refine mm_iadd dX10_kind_76 ?_
    refine mm_jge (tgt := 100) dX10_kind_77 (by decide) (by omega) (by omega) (fun h77 => ?_) (fun h77 => ?_)
    · have hi2 : i = 48 := by omega
      subst hi2
      refine am_aload_n rfl dX10_kind_100 ?_
      refine am_dup rfl dX10_kind_101 ?_
      refine mm_getI dX10_kind_102 fl_X10_141 (md_0 hm) mdf_0 ?_
      change am_AW _ _ _ _ (.int (iI (S 181 0)) :: _) _
      refine mm_iconst dX10_kind_105 ?_
      refine mm_iadd dX10_kind_106 ?_
      refine mm_putI dX10_kind_107 fp_X10_141 (md_0 hm) mdf_0 ?_
      refine am_aload_n rfl dX10_kind_110 ?_
      refine mm_getI dX10_kind_111 fl_X10_141 (md_0 hm) mdf_0 ?_
      rw [up2_same]
      refine mm_iconst dX10_kind_114 ?_
      refine mm_isub dX10_kind_115 ?_
      refine am_ireturn dX10_kind_116 rfl rfl ?_
      exact ⟨by rw [hn]; congr 3; omega, by rw [hn]⟩
    · refine am_aload_n rfl dX10_kind_80 ?_
      refine mm_getR dX10_kind_81 fl_X10_16 (md_0 hm) mdf_3 ?_
      refine am_iload_n rfl dX10_kind_84 ?_
      refine mm_iconst dX10_kind_85 ?_
      refine mm_ias dX10_kind_86 (md_byYes hm) ⟨by omega, by omega, by omega⟩ ?_
      refine am_aload_n rfl dX10_kind_87 ?_
      refine mm_getR dX10_kind_88 fl_X10_19 (md_0 hm) mdf_4 ?_
      refine am_iload_n rfl dX10_kind_91 ?_
      refine mm_iconst dX10_kind_92 ?_
      refine mm_ias dX10_kind_93 (md_byNo hm) ⟨by omega, by omega, by omega⟩ ?_
      refine mm_inc3 dX10_kind_94 (Nat.le_of_ble_eq_true rfl) (am_c1i _) ?_
      refine am_goto (tgt := 66) dX10_kind_97 (by decide) ?_
      have hv : u.toNat = 48 * nk + i := by omega
      rw [hv, fill2_s]
      exact ih (i + 1) (u + 1) (by omega) (by omega) (by omega)
def mkindR (S : mm_S) (s e : Int) : Int := if okKind s e then (if S 181 0 < 6 then S 181 0 else -4) else -2
def mkindNew (S : mm_S) (s e : Int) : mm_S := up2 (fill2 (up2 (up2 S 182 (S 181 0).toNat s) 183 (S 181 0).toNat e) 184 185 (48 * (S 181 0).toNat) 48 (-1)) 181 0 (S 181 0 + 1)
def mkindS (S : mm_S) (s e : Int) : mm_S := if okKind s e then (if S 181 0 < 6 then mkindNew S s e else S) else S
set_option maxRecDepth 100000 in
set_option maxHeartbeats 4000000 in
theorem m_kind {sh : List mm_H} {S : mm_S} {L : mm_L} (hm : mdS sh) (hv : mdV S) {s e : Int} (hs : Rg s) (he : Rg e) : am_E eX10_kind [.ref 181, .int (iI s), .int (iI e)] (mm sh S L) (fun r M' => r = some (.int (iI (mkindR S s e))) ∧ M' = mm sh (mkindS S s e) L) := by
  obtain ⟨u0, u1, u2, u3, u4⟩ := hv
  refine am_enter rfl rfl (Nat.le_of_ble_eq_true rfl) ?_
  refine am_iload_n rfl dX10_kind_0 ?_
  refine mm_iconst dX10_kind_1 ?_
  refine mm_bipush dX10_kind_2 (by decide) ?_
  refine am_ci (mm_S3 dX10_kind_4 in_X10_in mk_X10_144 st_X10_in ⟨Nat.le_of_ble_eq_true rfl, Nat.le_of_ble_eq_true rfl⟩ (Nat.le_of_ble_eq_true rfl)) (m_in hs (by omega) (by omega)) ?_
  refine mm_beq (tgt := 23) dX10_kind_7 (by decide) (fun h7 => ?_) (fun h7 => ?_)
  · refine mm_bipush dX10_kind_23 (by decide) ?_
    refine am_ireturn dX10_kind_25 rfl rfl ?_
    first | (exfalso; omega) | exact ⟨by rw [mkindR, if_neg (by omega)], by rw [mkindS, if_neg (by omega)]⟩ | exact ⟨by rw [mkindR, if_pos (by omega), if_neg (by omega)], by rw [mkindS, if_pos (by omega), if_neg (by omega)]⟩
  · refine am_iload_n rfl dX10_kind_10 ?_
    refine mm_iconst dX10_kind_11 ?_
    refine mm_iconst dX10_kind_12 ?_
    refine am_iload_n rfl dX10_kind_13 ?_
    have hp := pow6 (n := s) (by omega)
    refine mm_ishl dX10_kind_14 (by omega) (by omega) ?_
    refine mm_iconst dX10_kind_15 ?_
    refine mm_isub dX10_kind_16 ?_
    refine am_ci (mm_S3 dX10_kind_17 in_X10_in mk_X10_144 st_X10_in ⟨Nat.le_of_ble_eq_true rfl, Nat.le_of_ble_eq_true rfl⟩ (Nat.le_of_ble_eq_true rfl)) (m_in he (by omega) (by omega)) ?_
    refine mm_bne (tgt := 26) dX10_kind_20 (by decide) (fun h20 => ?_) (fun h20 => ?_)
    · refine am_aload_n rfl dX10_kind_26 ?_
      refine mm_getI dX10_kind_27 fl_X10_141 (md_0 hm) mdf_0 ?_
      refine mm_bipush dX10_kind_30 (by decide) ?_
      refine mm_jne (tgt := 38) dX10_kind_32 (by decide) (by omega) (by omega) (fun h32 => ?_) (fun h32 => ?_)
      · refine am_aload_n rfl dX10_kind_38 ?_
        refine mm_getR dX10_kind_39 fl_X10_7 (md_0 hm) mdf_1 ?_
        refine am_aload_n rfl dX10_kind_42 ?_
        refine mm_getI dX10_kind_43 fl_X10_141 (md_0 hm) mdf_0 ?_
        refine am_iload_n rfl dX10_kind_46 ?_
        refine mm_ias dX10_kind_47 (md_states hm) ⟨by omega, by omega, by omega⟩ ?_
        refine am_aload_n rfl dX10_kind_48 ?_
        refine mm_getR dX10_kind_49 fl_X10_13 (md_0 hm) mdf_2 ?_
        refine am_aload_n rfl dX10_kind_52 ?_
        refine mm_getI dX10_kind_53 fl_X10_141 (md_0 hm) mdf_0 ?_
        change am_AW _ _ _ _ (.int (iI (S 181 0)) :: _) _
        refine am_iload_n rfl dX10_kind_56 ?_
        refine mm_ias dX10_kind_57 (md_ends hm) ⟨by omega, by omega, by omega⟩ ?_
        refine mm_bipush dX10_kind_58 (by decide) ?_
        refine am_aload_n rfl dX10_kind_60 ?_
        refine mm_getI dX10_kind_61 fl_X10_141 (md_0 hm) mdf_0 ?_
        change am_AW _ _ _ _ (.int (iI (S 181 0)) :: _) _
        refine mm_imul dX10_kind_64 ?_
        refine am_ist3 dX10_kind_65 (Nat.le_of_ble_eq_true rfl) (am_c1i _) ?_
        obtain ⟨nk, hnk⟩ : ∃ nk : Nat, S 181 0 = nk := ⟨(S 181 0).toNat, by omega⟩
        have h := l_mkind (S := up2 (up2 S 182 (S 181 0).toNat s) 183 (S 181 0).toNat e) (L := L) (x := iI s) (y := iI e) hm (nk := nk) hnk (by omega) 49 0 (48 * S 181 0) (by omega) (by omega) (by omega)
        rw [fill2_0] at h
        refine am_AW.mono h (fun r M' hq => ?_)
        rw [mkindR, mkindS, if_pos (by omega), if_pos (by omega), if_pos (by omega), if_pos (by omega), mkindNew, hnk]
        rw [hnk] at hq
        exact hq
      · refine mm_bipush dX10_kind_35 (by decide) ?_
        refine am_ireturn dX10_kind_37 rfl rfl ?_
        first | (exfalso; omega) | exact ⟨by rw [mkindR, if_neg (by omega)], by rw [mkindS, if_neg (by omega)]⟩ | exact ⟨by rw [mkindR, if_pos (by omega), if_neg (by omega)], by rw [mkindS, if_pos (by omega), if_neg (by omega)]⟩
    · refine mm_bipush dX10_kind_23 (by decide) ?_
      refine am_ireturn dX10_kind_25 rfl rfl ?_
      first | (exfalso; omega) | exact ⟨by rw [mkindR, if_neg (by omega)], by rw [mkindS, if_neg (by omega)]⟩ | exact ⟨by rw [mkindR, if_pos (by omega), if_neg (by omega)], by rw [mkindS, if_pos (by omega), if_neg (by omega)]⟩
set_option maxRecDepth 100000 in
set_option maxHeartbeats 4000000 in
theorem l_mheir {sh : List mm_H} {S : mm_S} {L : mm_L} (hm : mdS sh) {y : Int32} {nk k : Nat} (hn : S 181 0 = nk) (hk : nk < 6) (hkk : k < nk) : ∀ (q : Nat) (i : Nat), 48 - i < q → (i ≤ 48) → am_AW eX10_heir (mm sh (cpy2 S 184 185 (48 * nk) (48 * k) i) L) 74 [some (.ref 181), some (.int (iI (k : Int))), some (.int y), some (.int (iI (i : Int)))] [] (fun r M' => r = some (.int (iI (nk : Int))) ∧ M' = mm sh (up2 (cpy2 S 184 185 (48 * nk) (48 * k) 48) 181 0 (nk + 1)) L) := by
  intro q
  induction q with
  | zero =>
    intro i hq
    exact absurd hq (Nat.not_lt_zero _)
  | succ q ih =>
    intro i hq hi
    refine am_iload_n rfl dX10_heir_74 ?_
    refine mm_bipush dX10_heir_75 (by decide) ?_
    refine mm_jge (tgt := 136) dX10_heir_77 (by decide) (by omega) (by omega) (fun h77 => ?_) (fun h77 => ?_)
    · have hi2 : i = 48 := by omega
      subst hi2
      refine am_aload_n rfl dX10_heir_136 ?_
      refine am_dup rfl dX10_heir_137 ?_
      refine mm_getI dX10_heir_138 fl_X10_141 (md_0 hm) mdf_0 ?_
      change am_AW _ _ _ _ (.int (iI (S 181 0)) :: _) _
      refine mm_iconst dX10_heir_141 ?_
      refine mm_iadd dX10_heir_142 ?_
      refine mm_putI dX10_heir_143 fp_X10_141 (md_0 hm) mdf_0 ?_
      refine am_aload_n rfl dX10_heir_146 ?_
      refine mm_getI dX10_heir_147 fl_X10_141 (md_0 hm) mdf_0 ?_
      rw [up2_same]
      refine mm_iconst dX10_heir_150 ?_
      refine mm_isub dX10_heir_151 ?_
      refine am_ireturn dX10_heir_152 rfl rfl ?_
      exact ⟨by rw [hn]; congr 3; omega, by rw [hn]⟩
    · refine am_aload_n rfl dX10_heir_80 ?_
      refine mm_getR dX10_heir_81 fl_X10_16 (md_0 hm) mdf_3 ?_
      refine mm_bipush dX10_heir_84 (by decide) ?_
      refine am_aload_n rfl dX10_heir_86 ?_
      refine mm_getI dX10_heir_87 fl_X10_141 (md_0 hm) mdf_0 ?_
      change am_AW _ _ _ _ (.int (iI (S 181 0)) :: _) _
      refine mm_imul dX10_heir_90 ?_
      refine am_iload_n rfl dX10_heir_91 ?_
      refine mm_iadd dX10_heir_92 ?_
      refine am_aload_n rfl dX10_heir_93 ?_
      refine mm_getR dX10_heir_94 fl_X10_16 (md_0 hm) mdf_3 ?_
      refine mm_bipush dX10_heir_97 (by decide) ?_
      refine am_iload_n rfl dX10_heir_99 ?_
      refine mm_imul dX10_heir_100 ?_
      refine am_iload_n rfl dX10_heir_101 ?_
      refine mm_iadd dX10_heir_102 ?_
      refine mm_ial dX10_heir_103 (md_byYes hm) ⟨by omega, by omega, by omega⟩ ?_
      refine mm_ias dX10_heir_104 (md_byYes hm) ⟨by omega, by omega, by omega⟩ ?_
      refine am_aload_n rfl dX10_heir_105 ?_
      refine mm_getR dX10_heir_106 fl_X10_19 (md_0 hm) mdf_4 ?_
      refine mm_bipush dX10_heir_109 (by decide) ?_
      refine am_aload_n rfl dX10_heir_111 ?_
      refine mm_getI dX10_heir_112 fl_X10_141 (md_0 hm) mdf_0 ?_
      change am_AW _ _ _ _ (.int (iI (S 181 0)) :: _) _
      refine mm_imul dX10_heir_115 ?_
      refine am_iload_n rfl dX10_heir_116 ?_
      refine mm_iadd dX10_heir_117 ?_
      refine am_aload_n rfl dX10_heir_118 ?_
      refine mm_getR dX10_heir_119 fl_X10_19 (md_0 hm) mdf_4 ?_
      refine mm_bipush dX10_heir_122 (by decide) ?_
      refine am_iload_n rfl dX10_heir_124 ?_
      refine mm_imul dX10_heir_125 ?_
      refine am_iload_n rfl dX10_heir_126 ?_
      refine mm_iadd dX10_heir_127 ?_
      refine mm_ial dX10_heir_128 (md_byNo hm) ⟨by omega, by omega, by omega⟩ ?_
      refine mm_ias dX10_heir_129 (md_byNo hm) ⟨by omega, by omega, by omega⟩ ?_
      refine mm_inc3 dX10_heir_130 (Nat.le_of_ble_eq_true rfl) (am_c1i _) ?_
      refine am_goto (tgt := 74) dX10_heir_133 (by decide) ?_
      rw [hn, show (48 * (nk : Int) + i).toNat = 48 * nk + i by omega, show (48 * (k : Int) + i).toNat = 48 * k + i by omega]
      rw [show up2 (cpy2 S 184 185 (48 * nk) (48 * k) i) 184 (48 * nk + i) (cpy2 S 184 185 (48 * nk) (48 * k) i 184 (48 * k + i)) 185 (48 * k + i) = cpy2 S 184 185 (48 * nk) (48 * k) i 185 (48 * k + i) from rfl]
      rw [cpy2_at (by omega) (by omega) (by omega), cpy2_at (by omega) (by omega) (by omega), cpy2_s]
      exact ih (i + 1) (by omega) (by omega)
abbrev mokHeir (S : mm_S) (k m : Int) : Prop := mK S k ∧ 0 ≤ m ∧ m ≤ 6 - S 182 k.toNat
def mheirR (S : mm_S) (k m : Int) : Int := if mokHeir S k m then (if S 181 0 < 6 then S 181 0 else -4) else -2
def mheirNew (S : mm_S) (k m : Int) : mm_S := up2 (cpy2 (up2 (up2 S 182 (S 181 0).toNat (S 182 k.toNat + m)) 183 (S 181 0).toNat (S 183 k.toNat)) 184 185 (48 * (S 181 0).toNat) (48 * k.toNat) 48) 181 0 (S 181 0 + 1)
def mheirS (S : mm_S) (k m : Int) : mm_S := if mokHeir S k m then (if S 181 0 < 6 then mheirNew S k m else S) else S
set_option maxRecDepth 100000 in
set_option maxHeartbeats 4000000 in
theorem m_heir {sh : List mm_H} {S : mm_S} {L : mm_L} (hm : mdS sh) (hv : mdV S) {k m : Int} (hk : Rg k) (hmm : Rg m) : am_E eX10_heir [.ref 181, .int (iI k), .int (iI m)] (mm sh S L) (fun r M' => r = some (.int (iI (mheirR S k m))) ∧ M' = mm sh (mheirS S k m) L) := by
  obtain ⟨u0, u1, u2, u3, u4⟩ := hv
  refine am_enter rfl rfl (Nat.le_of_ble_eq_true rfl) ?_
  refine am_aload_n rfl dX10_heir_0 ?_
  refine am_iload_n rfl dX10_heir_1 ?_
  refine am_ci (mm_V1 dX10_heir_2 in_X10_isKind mk_X10_148 im_X10_isKind sl_X10_isKind ⟨Nat.le_of_ble_eq_true rfl, Nat.le_of_ble_eq_true rfl⟩ rfl (md_0 hm) (Nat.le_of_ble_eq_true rfl)) (m_isKind hm ⟨u0, u1, u2, u3, u4⟩ hk) ?_
  refine mm_beq (tgt := 25) dX10_heir_5 (by decide) (fun h5 => ?_) (fun h5 => ?_)
  · refine mm_bipush dX10_heir_25 (by decide) ?_
    refine am_ireturn dX10_heir_27 rfl rfl ?_
    first | (exfalso; omega) | exact ⟨by rw [mheirR, if_neg (by omega)], by rw [mheirS, if_neg (by omega)]⟩ | exact ⟨by rw [mheirR, if_pos (by omega), if_neg (by omega)], by rw [mheirS, if_pos (by omega), if_neg (by omega)]⟩
  · refine am_iload_n rfl dX10_heir_8 ?_
    refine mm_iconst dX10_heir_9 ?_
    refine mm_bipush dX10_heir_10 (by decide) ?_
    refine am_aload_n rfl dX10_heir_12 ?_
    refine mm_getR dX10_heir_13 fl_X10_7 (md_0 hm) mdf_1 ?_
    refine am_iload_n rfl dX10_heir_16 ?_
    refine mm_ial dX10_heir_17 (md_states hm) ⟨by omega, by omega, by omega⟩ ?_
    refine mm_isub dX10_heir_18 ?_
    refine am_ci (mm_S3 dX10_heir_19 in_X10_in mk_X10_144 st_X10_in ⟨Nat.le_of_ble_eq_true rfl, Nat.le_of_ble_eq_true rfl⟩ (Nat.le_of_ble_eq_true rfl)) (m_in hmm (by omega) (by have := u2 k.toNat (by omega); omega)) ?_
    refine mm_bne (tgt := 28) dX10_heir_22 (by decide) (fun h22 => ?_) (fun h22 => ?_)
    · refine am_aload_n rfl dX10_heir_28 ?_
      refine mm_getI dX10_heir_29 fl_X10_141 (md_0 hm) mdf_0 ?_
      refine mm_bipush dX10_heir_32 (by decide) ?_
      refine mm_jne (tgt := 40) dX10_heir_34 (by decide) (by omega) (by omega) (fun h34 => ?_) (fun h34 => ?_)
      · refine am_aload_n rfl dX10_heir_40 ?_
        refine mm_getR dX10_heir_41 fl_X10_7 (md_0 hm) mdf_1 ?_
        refine am_aload_n rfl dX10_heir_44 ?_
        refine mm_getI dX10_heir_45 fl_X10_141 (md_0 hm) mdf_0 ?_
        refine am_aload_n rfl dX10_heir_48 ?_
        refine mm_getR dX10_heir_49 fl_X10_7 (md_0 hm) mdf_1 ?_
        refine am_iload_n rfl dX10_heir_52 ?_
        refine mm_ial dX10_heir_53 (md_states hm) ⟨by omega, by omega, by omega⟩ ?_
        refine am_iload_n rfl dX10_heir_54 ?_
        refine mm_iadd dX10_heir_55 ?_
        refine mm_ias dX10_heir_56 (md_states hm) ⟨by omega, by omega, by omega⟩ ?_
        refine am_aload_n rfl dX10_heir_57 ?_
        refine mm_getR dX10_heir_58 fl_X10_13 (md_0 hm) mdf_2 ?_
        refine am_aload_n rfl dX10_heir_61 ?_
        refine mm_getI dX10_heir_62 fl_X10_141 (md_0 hm) mdf_0 ?_
        change am_AW _ _ _ _ (.int (iI (S 181 0)) :: _) _
        refine am_aload_n rfl dX10_heir_65 ?_
        refine mm_getR dX10_heir_66 fl_X10_13 (md_0 hm) mdf_2 ?_
        refine am_iload_n rfl dX10_heir_69 ?_
        refine mm_ial dX10_heir_70 (md_ends hm) ⟨by omega, by omega, by omega⟩ ?_
        change am_AW _ _ _ _ (.int (iI (S 183 k.toNat)) :: _) _
        refine mm_ias dX10_heir_71 (md_ends hm) ⟨by omega, by omega, by omega⟩ ?_
        refine mm_iconst dX10_heir_72 ?_
        refine am_ist3 dX10_heir_73 (Nat.le_of_ble_eq_true rfl) (am_c1i _) ?_
        obtain ⟨nk, hnk⟩ : ∃ nk : Nat, S 181 0 = nk := ⟨(S 181 0).toNat, by omega⟩
        obtain ⟨k, rfl⟩ := Int.eq_ofNat_of_zero_le (show 0 ≤ k by omega)
        have h := l_mheir (S := up2 (up2 S 182 (S 181 0).toNat (S 182 k + m)) 183 (S 181 0).toNat (S 183 k)) (L := L) (y := iI m) hm (nk := nk) (k := k) hnk (by omega) (by omega) 49 0 (by omega) (by omega)
        rw [cpy2_0] at h
        refine am_AW.mono h (fun r M' hq => ?_)
        rw [mheirR, mheirS, if_pos (by omega), if_pos (by omega), if_pos (by omega), if_pos (by omega), mheirNew, hnk]
        rw [hnk] at hq
        exact hq
      · refine mm_bipush dX10_heir_37 (by decide) ?_
        refine am_ireturn dX10_heir_39 rfl rfl ?_
        first | (exfalso; omega) | exact ⟨by rw [mheirR, if_neg (by omega)], by rw [mheirS, if_neg (by omega)]⟩ | exact ⟨by rw [mheirR, if_pos (by omega), if_neg (by omega)], by rw [mheirS, if_pos (by omega), if_neg (by omega)]⟩
    · refine mm_bipush dX10_heir_25 (by decide) ?_
      refine am_ireturn dX10_heir_27 rfl rfl ?_
      first | (exfalso; omega) | exact ⟨by rw [mheirR, if_neg (by omega)], by rw [mheirS, if_neg (by omega)]⟩ | exact ⟨by rw [mheirR, if_pos (by omega), if_neg (by omega)], by rw [mheirS, if_pos (by omega), if_neg (by omega)]⟩
