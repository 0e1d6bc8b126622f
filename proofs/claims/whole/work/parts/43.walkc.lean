abbrev mokB (S : mm_S) (s b : Int) : Prop := ¬ lookB s ∨ (s = 0 ∧ mK S b) ∨ ((s = 1 ∨ s = 2 ∨ s = 5) ∧ 0 ≤ b ∧ b < 8) ∨ (¬ (s = 0 ∨ s = 1 ∨ s = 2 ∨ s = 5) ∧ 0 ≤ b ∧ b < 5)
set_option maxRecDepth 100000 in
set_option maxHeartbeats 4000000 in
theorem m_isRight {sh : List mm_H} {S : mm_S} {L : mm_L} (hm : mdS sh) (hv : mdV S) {x a b : Int} (hx : Rg x) (ha : Rg a) (hb : Rg b) : am_E eX10_isRight [.ref 181, .int (iI x), .int (iI a), .int (iI b)] (mm sh S L) (fun r M' => r = some (.int (iI (b2 ((0 ≤ x ∧ x ≤ 15) ∧ okA x a ∧ mokB S x b)))) ∧ M' = mm sh S L) := by
  obtain ⟨u0, u1, u2, u3, u4⟩ := hv
  refine am_enter rfl rfl (Nat.le_of_ble_eq_true rfl) ?_
  refine am_iload_n rfl dX10_isRight_0 ?_
  rcases (show (x < 0 ∨ 11 < x) ∨ (x = 0) ∨ (x = 1 ∨ x = 2 ∨ x = 5) ∨ (x = 3 ∨ x = 4 ∨ x = 6 ∨ x = 7) ∨ (x = 8) ∨ (x = 9) ∨ (x = 10 ∨ x = 11) by omega) with h1 | h1 | h1 | h1 | h1 | h1 | h1
  · refine mm_tout (tgt := 155) dX10_isRight_1 (by omega) (by omega) (by decide) ?_
    refine am_iload_n rfl dX10_isRight_155 ?_
    refine mm_iconst dX10_isRight_156 ?_
    refine mm_bipush dX10_isRight_157 (by decide) ?_
    refine am_ci (mm_S3 dX10_isRight_159 in_X10_in mk_X10_144 st_X10_in ⟨Nat.le_of_ble_eq_true rfl, Nat.le_of_ble_eq_true rfl⟩ (Nat.le_of_ble_eq_true rfl)) (m_in (by assumption) (by omega) (by omega)) ?_
    refine am_ireturn dX10_isRight_162 rfl (mm_nz (b2_R _)) ?_
    exact ⟨mm_rb (by omega), rfl⟩
  · refine mm_tsw (tgt := 64) (off := 63) [0] dX10_isRight_1 (by simp only [List.mem_cons, List.mem_nil_iff, or_false]; omega) (by decide) (by decide) ?_
    refine am_iload_n rfl dX10_isRight_64 ?_
    refine am_ci (mm_S1 dX10_isRight_65 in_X10_isVariable mk_X10_187 st_X10_isVariable ⟨Nat.le_of_ble_eq_true rfl, Nat.le_of_ble_eq_true rfl⟩ (Nat.le_of_ble_eq_true rfl)) (m_isVariable (by assumption)) ?_
    refine mm_beq (tgt := 83) dX10_isRight_68 (by decide) (fun h68 => ?_) (fun h68 => ?_)
    · refine mm_iconst dX10_isRight_83 ?_
      refine am_ireturn dX10_isRight_84 rfl rfl ?_
      first | exact ⟨mm_rt (by omega), rfl⟩ | exact ⟨mm_rf (by omega), rfl⟩
    · refine am_aload_n rfl dX10_isRight_71 ?_
      refine am_iload_n rfl dX10_isRight_72 ?_
      refine am_ci (mm_V1 dX10_isRight_73 in_X10_isKind mk_X10_148 im_X10_isKind sl_X10_isKind ⟨Nat.le_of_ble_eq_true rfl, Nat.le_of_ble_eq_true rfl⟩ rfl (md_0 hm) (Nat.le_of_ble_eq_true rfl)) (m_isKind hm ⟨u0, u1, u2, u3, u4⟩ hb) ?_
      refine mm_beq (tgt := 83) dX10_isRight_76 (by decide) (fun h76 => ?_) (fun h76 => ?_)
      · refine mm_iconst dX10_isRight_83 ?_
        refine am_ireturn dX10_isRight_84 rfl rfl ?_
        first | exact ⟨mm_rt (by omega), rfl⟩ | exact ⟨mm_rf (by omega), rfl⟩
      · refine mm_iconst dX10_isRight_79 ?_
        refine am_goto (tgt := 84) dX10_isRight_80 (by decide) ?_
        refine am_ireturn dX10_isRight_84 rfl rfl ?_
        first | exact ⟨mm_rt (by omega), rfl⟩ | exact ⟨mm_rf (by omega), rfl⟩
  · refine mm_tsw (tgt := 85) (off := 84) [1, 2, 5] dX10_isRight_1 (by simp only [List.mem_cons, List.mem_nil_iff, or_false]; omega) (by decide) (by decide) ?_
    refine am_iload_n rfl dX10_isRight_85 ?_
    refine am_ci (mm_S1 dX10_isRight_86 in_X10_isVariable mk_X10_187 st_X10_isVariable ⟨Nat.le_of_ble_eq_true rfl, Nat.le_of_ble_eq_true rfl⟩ (Nat.le_of_ble_eq_true rfl)) (m_isVariable (by assumption)) ?_
    refine mm_beq (tgt := 106) dX10_isRight_89 (by decide) (fun h89 => ?_) (fun h89 => ?_)
    · refine mm_iconst dX10_isRight_106 ?_
      refine am_ireturn dX10_isRight_107 rfl rfl ?_
      first | exact ⟨mm_rt (by omega), rfl⟩ | exact ⟨mm_rf (by omega), rfl⟩
    · refine am_iload_n rfl dX10_isRight_92 ?_
      refine mm_iconst dX10_isRight_93 ?_
      refine mm_bipush dX10_isRight_94 (by decide) ?_
      refine am_ci (mm_S3 dX10_isRight_96 in_X10_in mk_X10_144 st_X10_in ⟨Nat.le_of_ble_eq_true rfl, Nat.le_of_ble_eq_true rfl⟩ (Nat.le_of_ble_eq_true rfl)) (m_in (by assumption) (by omega) (by omega)) ?_
      refine mm_beq (tgt := 106) dX10_isRight_99 (by decide) (fun h99 => ?_) (fun h99 => ?_)
      · refine mm_iconst dX10_isRight_106 ?_
        refine am_ireturn dX10_isRight_107 rfl rfl ?_
        first | exact ⟨mm_rt (by omega), rfl⟩ | exact ⟨mm_rf (by omega), rfl⟩
      · refine mm_iconst dX10_isRight_102 ?_
        refine am_goto (tgt := 107) dX10_isRight_103 (by decide) ?_
        refine am_ireturn dX10_isRight_107 rfl rfl ?_
        first | exact ⟨mm_rt (by omega), rfl⟩ | exact ⟨mm_rf (by omega), rfl⟩
  · refine mm_tsw (tgt := 155) (off := 154) [3, 4, 6, 7] dX10_isRight_1 (by simp only [List.mem_cons, List.mem_nil_iff, or_false]; omega) (by decide) (by decide) ?_
    refine am_iload_n rfl dX10_isRight_155 ?_
    refine mm_iconst dX10_isRight_156 ?_
    refine mm_bipush dX10_isRight_157 (by decide) ?_
    refine am_ci (mm_S3 dX10_isRight_159 in_X10_in mk_X10_144 st_X10_in ⟨Nat.le_of_ble_eq_true rfl, Nat.le_of_ble_eq_true rfl⟩ (Nat.le_of_ble_eq_true rfl)) (m_in (by assumption) (by omega) (by omega)) ?_
    refine am_ireturn dX10_isRight_162 rfl (mm_nz (b2_R _)) ?_
    exact ⟨mm_rb (by omega), rfl⟩
  · refine mm_tsw (tgt := 108) (off := 107) [8] dX10_isRight_1 (by simp only [List.mem_cons, List.mem_nil_iff, or_false]; omega) (by decide) (by decide) ?_
    refine am_iload_n rfl dX10_isRight_108 ?_
    refine am_ci (mm_S1 dX10_isRight_109 in_X10_isVariable mk_X10_187 st_X10_isVariable ⟨Nat.le_of_ble_eq_true rfl, Nat.le_of_ble_eq_true rfl⟩ (Nat.le_of_ble_eq_true rfl)) (m_isVariable (by assumption)) ?_
    refine mm_beq (tgt := 126) dX10_isRight_112 (by decide) (fun h112 => ?_) (fun h112 => ?_)
    · refine mm_iconst dX10_isRight_126 ?_
      refine am_ireturn dX10_isRight_127 rfl rfl ?_
      first | exact ⟨mm_rt (by omega), rfl⟩ | exact ⟨mm_rf (by omega), rfl⟩
    · refine am_iload_n rfl dX10_isRight_115 ?_
      refine am_ci (mm_S1 dX10_isRight_116 in_X10_isVariable mk_X10_187 st_X10_isVariable ⟨Nat.le_of_ble_eq_true rfl, Nat.le_of_ble_eq_true rfl⟩ (Nat.le_of_ble_eq_true rfl)) (m_isVariable (by assumption)) ?_
      refine mm_beq (tgt := 126) dX10_isRight_119 (by decide) (fun h119 => ?_) (fun h119 => ?_)
      · refine mm_iconst dX10_isRight_126 ?_
        refine am_ireturn dX10_isRight_127 rfl rfl ?_
        first | exact ⟨mm_rt (by omega), rfl⟩ | exact ⟨mm_rf (by omega), rfl⟩
      · refine mm_iconst dX10_isRight_122 ?_
        refine am_goto (tgt := 127) dX10_isRight_123 (by decide) ?_
        refine am_ireturn dX10_isRight_127 rfl rfl ?_
        first | exact ⟨mm_rt (by omega), rfl⟩ | exact ⟨mm_rf (by omega), rfl⟩
  · refine mm_tsw (tgt := 128) (off := 127) [9] dX10_isRight_1 (by simp only [List.mem_cons, List.mem_nil_iff, or_false]; omega) (by decide) (by decide) ?_
    refine am_iload_n rfl dX10_isRight_128 ?_
    refine am_ci (mm_S1 dX10_isRight_129 in_X10_isVariable mk_X10_187 st_X10_isVariable ⟨Nat.le_of_ble_eq_true rfl, Nat.le_of_ble_eq_true rfl⟩ (Nat.le_of_ble_eq_true rfl)) (m_isVariable (by assumption)) ?_
    refine am_ireturn dX10_isRight_132 rfl (mm_nz (b2_R _)) ?_
    exact ⟨mm_rb (by omega), rfl⟩
  · refine mm_tsw (tgt := 133) (off := 132) [10, 11] dX10_isRight_1 (by simp only [List.mem_cons, List.mem_nil_iff, or_false]; omega) (by decide) (by decide) ?_
    refine am_iload_n rfl dX10_isRight_133 ?_
    refine mm_iconst dX10_isRight_134 ?_
    refine mm_iconst dX10_isRight_135 ?_
    refine am_ci (mm_S3 dX10_isRight_136 in_X10_in mk_X10_144 st_X10_in ⟨Nat.le_of_ble_eq_true rfl, Nat.le_of_ble_eq_true rfl⟩ (Nat.le_of_ble_eq_true rfl)) (m_in (by assumption) (by omega) (by omega)) ?_
    refine mm_beq (tgt := 153) dX10_isRight_139 (by decide) (fun h139 => ?_) (fun h139 => ?_)
    · refine mm_iconst dX10_isRight_153 ?_
      refine am_ireturn dX10_isRight_154 rfl rfl ?_
      first | exact ⟨mm_rt (by omega), rfl⟩ | exact ⟨mm_rf (by omega), rfl⟩
    · refine am_iload_n rfl dX10_isRight_142 ?_
      refine am_ci (mm_S1 dX10_isRight_143 in_X10_isVariable mk_X10_187 st_X10_isVariable ⟨Nat.le_of_ble_eq_true rfl, Nat.le_of_ble_eq_true rfl⟩ (Nat.le_of_ble_eq_true rfl)) (m_isVariable (by assumption)) ?_
      refine mm_beq (tgt := 153) dX10_isRight_146 (by decide) (fun h146 => ?_) (fun h146 => ?_)
      · refine mm_iconst dX10_isRight_153 ?_
        refine am_ireturn dX10_isRight_154 rfl rfl ?_
        first | exact ⟨mm_rt (by omega), rfl⟩ | exact ⟨mm_rf (by omega), rfl⟩
      · refine mm_iconst dX10_isRight_149 ?_
        refine am_goto (tgt := 154) dX10_isRight_150 (by decide) ?_
        refine am_ireturn dX10_isRight_154 rfl rfl ?_
        first | exact ⟨mm_rt (by omega), rfl⟩ | exact ⟨mm_rf (by omega), rfl⟩
/-- the reference's ROUTINES are as statement() lets them be -/
def mdP (S : mm_S) : Prop := ∀ r : Nat, (r : Int) < S 181 9 → wfP (fun j => S 190 (25 * r + j)) (S 189 r).toNat
abbrev mokSt (S : mm_S) (r x a b : Int) : Prop := mR S r ∧ (0 ≤ x ∧ x ≤ 15) ∧ okA x a ∧ mokB S x b
def pick (p : Prop) [Decidable p] (a : Int) : Int := if p then a else 0
def mstQ (S S' : mm_S) (r x a b v : Int) : Prop := (¬ mokSt S r x a b ∧ v = -2 ∧ S' = S) ∨ (mokSt S r x a b ∧ ¬ mayT (fun j => S 190 (25 * r.toNat + j)) (S 189 r.toNat).toNat x ∧ v = -3 ∧ wkF S S' r.toNat) ∨
  (mokSt S r x a b ∧ mayT (fun j => S 190 (25 * r.toNat + j)) (S 189 r.toNat).toNat x ∧ S 189 r.toNat = 24 ∧ v = -4 ∧ wkF S S' r.toNat) ∨
  (mokSt S r x a b ∧ mayT (fun j => S 190 (25 * r.toNat + j)) (S 189 r.toNat).toNat x ∧ S 189 r.toNat < 24 ∧ v = S 189 r.toNat + 1 ∧ ∃ S2, wkF S S2 r.toNat ∧ S' = up2 (up2 (up2 (up2 S2 190 (25 * r.toNat + (S 189 r.toNat).toNat) x) 191 (25 * r.toNat + (S 189 r.toNat).toNat) (pick (lookA x) a)) 192 (25 * r.toNat + (S 189 r.toNat).toNat) (pick (lookB x) b)) 189 r.toNat (S 189 r.toNat + 1))
set_option maxRecDepth 100000 in
set_option maxHeartbeats 4000000 in
theorem m_statement {sh : List mm_H} {S : mm_S} {L : mm_L} (hm : mdS sh) (hv : mdV S) (hp : mdP S) {r x a b : Int} (hr : Rg r) (hx : Rg x) (ha : Rg a) (hb : Rg b) : am_E eX10_statement [.ref 181, .int (iI r), .int (iI x), .int (iI a), .int (iI b)] (mm sh S L) (fun r0 M' => ∃ v S', r0 = some (.int (iI v)) ∧ M' = mm sh S' L ∧ mstQ S S' r x a b v) := by
  obtain ⟨u0, u1, u2, u3, u4⟩ := hv
  refine am_enter rfl rfl (Nat.le_of_ble_eq_true rfl) ?_
  refine am_aload_n rfl dX10_statement_0 ?_
  refine am_iload_n rfl dX10_statement_1 ?_
  refine am_ci (mm_V1 dX10_statement_2 in_X10_isRoutine mk_X10_203 im_X10_isRoutine sl_X10_isRoutine ⟨Nat.le_of_ble_eq_true rfl, Nat.le_of_ble_eq_true rfl⟩ rfl (md_0 hm) (Nat.le_of_ble_eq_true rfl)) (m_isRoutine hm ⟨u0, u1, u2, u3, u4⟩ hr) ?_
  refine mm_beq (tgt := 29) dX10_statement_5 (by decide) (fun h5 => ?_) (fun h5 => ?_)
  · refine mm_bipush dX10_statement_29 (by decide) ?_
    refine am_ireturn dX10_statement_31 rfl rfl ?_
    exact ⟨_, S, rfl, rfl, Or.inl ⟨by omega, rfl, rfl⟩⟩
  · refine am_iload_n rfl dX10_statement_8 ?_
    refine mm_iconst dX10_statement_9 ?_
    refine mm_bipush dX10_statement_10 (by decide) ?_
    refine am_ci (mm_S3 dX10_statement_12 in_X10_in mk_X10_144 st_X10_in ⟨Nat.le_of_ble_eq_true rfl, Nat.le_of_ble_eq_true rfl⟩ (Nat.le_of_ble_eq_true rfl)) (m_in hx (by omega) (by omega)) ?_
    refine mm_beq (tgt := 29) dX10_statement_15 (by decide) (fun h15 => ?_) (fun h15 => ?_)
    · refine mm_bipush dX10_statement_29 (by decide) ?_
      refine am_ireturn dX10_statement_31 rfl rfl ?_
      exact ⟨_, S, rfl, rfl, Or.inl ⟨by omega, rfl, rfl⟩⟩
    · refine am_aload_n rfl dX10_statement_18 ?_
      refine am_iload_n rfl dX10_statement_19 ?_
      refine am_iload_n rfl dX10_statement_20 ?_
      refine am_iload rfl dX10_statement_21 ?_
      refine am_ci (mm_V3 dX10_statement_23 in_X10_isRight mk_X10_206 im_X10_isRight sl_X10_isRight ⟨Nat.le_of_ble_eq_true rfl, Nat.le_of_ble_eq_true rfl⟩ rfl (md_0 hm) (Nat.le_of_ble_eq_true rfl)) (m_isRight hm ⟨u0, u1, u2, u3, u4⟩ hx ha hb) ?_
      refine mm_bne (tgt := 32) dX10_statement_26 (by decide) (fun h26 => ?_) (fun h26 => ?_)
      · obtain ⟨r, rfl⟩ := Int.eq_ofNat_of_zero_le (show 0 ≤ r by omega)
        have hu4 := u4 r (by omega)
        refine am_aload_n rfl dX10_statement_32 ?_
        refine am_iload_n rfl dX10_statement_33 ?_
        refine am_iload_n rfl dX10_statement_34 ?_
        refine am_cxi (mm_V2 dX10_statement_35 in_X10_mayStand mk_X10_209 im_X10_mayStand sl_X10_mayStand ⟨Nat.le_of_ble_eq_true rfl, Nat.le_of_ble_eq_true rfl⟩ rfl (md_0 hm) (Nat.le_of_ble_eq_true rfl)) (m_mayStand hm (r := r) (n := (S 189 r).toNat) (s := fun j => S 190 (25 * r + j)) (by omega) (by omega) (by omega) (fun _ _ => rfl) (hp r (by omega)) hx) (fun w M1 hM1 => ?_)
        obtain ⟨v, S2, rfl, hv2, rfl, hF, hw2⟩ := hM1
        have hS2 : S2 189 r = S 189 r := by rw [hF.1 189 (by omega) (by omega) (by omega) (by omega) (by omega) (by omega)]
        have hmt : v = 1 → mayT (fun j => S 190 (25 * r + j)) (S 189 r).toNat x := fun h => by rcases hv2 with z | z; exact z.2; omega
        have hmf : v = 0 → ¬ mayT (fun j => S 190 (25 * r + j)) (S 189 r).toNat x := fun h => by rcases hv2 with z | z; omega; exact z.2
        have hv3 : v = 0 ∨ v = 1 := by rcases hv2 with z | z <;> omega
        refine mm_zne (tgt := 44) dX10_statement_38 (by decide) (by omega) (fun h38 => ?_) (fun h38 => ?_)
        · refine am_aload_n rfl dX10_statement_44 ?_
          refine mm_getR dX10_statement_45 fl_X10_36 (md_0 hm) mdf_10 ?_
          refine am_iload_n rfl dX10_statement_48 ?_
          refine mm_ial dX10_statement_49 (md_many hm) (by omega) ?_
          rw [Int.toNat_natCast, hS2]
          refine mm_bipush dX10_statement_50 (by decide) ?_
          refine mm_jne (tgt := 58) dX10_statement_52 (by decide) (by omega) (by omega) (fun h52 => ?_) (fun h52 => ?_)
          · refine mm_bipush dX10_statement_58 (by decide) ?_
            refine am_iload_n rfl dX10_statement_60 ?_
            refine mm_imul dX10_statement_61 ?_
            refine am_aload_n rfl dX10_statement_62 ?_
            refine mm_getR dX10_statement_63 fl_X10_36 (md_0 hm) mdf_10 ?_
            refine am_iload_n rfl dX10_statement_66 ?_
            refine mm_ial dX10_statement_67 (md_many hm) (by omega) ?_
            rw [Int.toNat_natCast, hS2]
            refine mm_iadd dX10_statement_68 ?_
            refine am_ist5 dX10_statement_69 (Nat.le_of_ble_eq_true rfl) (am_c1i _) ?_
            refine am_aload_n rfl dX10_statement_71 ?_
            refine mm_getR dX10_statement_72 fl_X10_39 (md_0 hm) mdf_11 ?_
            refine am_iload rfl dX10_statement_75 ?_
            refine am_iload_n rfl dX10_statement_77 ?_
            refine mm_ias dX10_statement_78 (md_sortAt hm) (by omega) ?_
            refine am_aload_n rfl dX10_statement_79 ?_
            refine mm_getR dX10_statement_80 fl_X10_42 (md_0 hm) mdf_12 ?_
            refine am_iload rfl dX10_statement_83 ?_
            refine am_iload_n rfl dX10_statement_85 ?_
            refine am_ci (mm_S1 dX10_statement_86 in_X10_hasA mk_X10_184 st_X10_hasA ⟨Nat.le_of_ble_eq_true rfl, Nat.le_of_ble_eq_true rfl⟩ (Nat.le_of_ble_eq_true rfl)) (m_hasA hx) ?_
            refine mm_beq (tgt := 96) dX10_statement_89 (by decide) (fun h89 => ?_) (fun h89 => ?_)
            · refine mm_iconst dX10_statement_96 ?_
              refine mm_ias dX10_statement_97 (md_aAt hm) (by omega) ?_
              refine am_aload_n rfl dX10_statement_98 ?_
              refine mm_getR dX10_statement_99 fl_X10_45 (md_0 hm) mdf_13 ?_
              refine am_iload rfl dX10_statement_102 ?_
              refine am_iload_n rfl dX10_statement_104 ?_
              refine am_ci (mm_S1 dX10_statement_105 in_X10_hasB mk_X10_212 st_X10_hasB ⟨Nat.le_of_ble_eq_true rfl, Nat.le_of_ble_eq_true rfl⟩ (Nat.le_of_ble_eq_true rfl)) (m_hasB hx) ?_
              refine mm_beq (tgt := 116) dX10_statement_108 (by decide) (fun h108 => ?_) (fun h108 => ?_)
              · refine mm_iconst dX10_statement_116 ?_
                refine mm_ias dX10_statement_117 (md_bAt hm) (by omega) ?_
                refine am_aload_n rfl dX10_statement_118 ?_
                refine mm_getR dX10_statement_119 fl_X10_36 (md_0 hm) mdf_10 ?_
                refine am_iload_n rfl dX10_statement_122 ?_
                refine am_dup2_11 rfl rfl dX10_statement_123 ?_
                refine mm_ial dX10_statement_124 (md_many hm) (by omega) ?_
                try simp (disch := omega) only [up2_rd, up2_rc, up2_same]
                rw [Int.toNat_natCast, hS2]
                refine mm_iconst dX10_statement_125 ?_
                refine mm_iadd dX10_statement_126 ?_
                refine mm_ias dX10_statement_127 (md_many hm) (by omega) ?_
                refine am_aload_n rfl dX10_statement_128 ?_
                refine mm_getR dX10_statement_129 fl_X10_36 (md_0 hm) mdf_10 ?_
                refine am_iload_n rfl dX10_statement_132 ?_
                refine mm_ial dX10_statement_133 (md_many hm) (by omega) ?_
                try simp (disch := omega) only [up2_rd, up2_rc, up2_same]
                refine am_ireturn dX10_statement_134 rfl rfl ?_
                first
                  | (exfalso; omega)
                  | (refine ⟨_, _, rfl, rfl, Or.inr (Or.inr (Or.inr ⟨by omega, hmt (by omega), show S 189 r < 24 by omega, rfl, S2, hF, ?_⟩))⟩
                     rw [show (25 * (r : Int) + S 189 r).toNat = 25 * r + (S 189 r).toNat by omega]
                     simp only [pick]
                     first | (rw [if_pos h89, if_pos h108]; rfl) | (rw [if_pos h89, if_neg h108]; rfl) | (rw [if_neg h89, if_neg h108]; rfl))
              · refine am_iload rfl dX10_statement_111 ?_
                refine am_goto (tgt := 117) dX10_statement_113 (by decide) ?_
                refine mm_ias dX10_statement_117 (md_bAt hm) (by omega) ?_
                refine am_aload_n rfl dX10_statement_118 ?_
                refine mm_getR dX10_statement_119 fl_X10_36 (md_0 hm) mdf_10 ?_
                refine am_iload_n rfl dX10_statement_122 ?_
                refine am_dup2_11 rfl rfl dX10_statement_123 ?_
                refine mm_ial dX10_statement_124 (md_many hm) (by omega) ?_
                try simp (disch := omega) only [up2_rd, up2_rc, up2_same]
                rw [Int.toNat_natCast, hS2]
                refine mm_iconst dX10_statement_125 ?_
                refine mm_iadd dX10_statement_126 ?_
                refine mm_ias dX10_statement_127 (md_many hm) (by omega) ?_
                refine am_aload_n rfl dX10_statement_128 ?_
                refine mm_getR dX10_statement_129 fl_X10_36 (md_0 hm) mdf_10 ?_
                refine am_iload_n rfl dX10_statement_132 ?_
                refine mm_ial dX10_statement_133 (md_many hm) (by omega) ?_
                try simp (disch := omega) only [up2_rd, up2_rc, up2_same]
                refine am_ireturn dX10_statement_134 rfl rfl ?_
                first
                  | (exfalso; omega)
                  | (refine ⟨_, _, rfl, rfl, Or.inr (Or.inr (Or.inr ⟨by omega, hmt (by omega), show S 189 r < 24 by omega, rfl, S2, hF, ?_⟩))⟩
                     rw [show (25 * (r : Int) + S 189 r).toNat = 25 * r + (S 189 r).toNat by omega]
                     simp only [pick]
                     first | (rw [if_pos h89, if_pos h108]; rfl) | (rw [if_pos h89, if_neg h108]; rfl) | (rw [if_neg h89, if_neg h108]; rfl))
            · refine am_iload_n rfl dX10_statement_92 ?_
              refine am_goto (tgt := 97) dX10_statement_93 (by decide) ?_
              refine mm_ias dX10_statement_97 (md_aAt hm) (by omega) ?_
              refine am_aload_n rfl dX10_statement_98 ?_
              refine mm_getR dX10_statement_99 fl_X10_45 (md_0 hm) mdf_13 ?_
              refine am_iload rfl dX10_statement_102 ?_
              refine am_iload_n rfl dX10_statement_104 ?_
              refine am_ci (mm_S1 dX10_statement_105 in_X10_hasB mk_X10_212 st_X10_hasB ⟨Nat.le_of_ble_eq_true rfl, Nat.le_of_ble_eq_true rfl⟩ (Nat.le_of_ble_eq_true rfl)) (m_hasB hx) ?_
              refine mm_beq (tgt := 116) dX10_statement_108 (by decide) (fun h108 => ?_) (fun h108 => ?_)
              · refine mm_iconst dX10_statement_116 ?_
                refine mm_ias dX10_statement_117 (md_bAt hm) (by omega) ?_
                refine am_aload_n rfl dX10_statement_118 ?_
                refine mm_getR dX10_statement_119 fl_X10_36 (md_0 hm) mdf_10 ?_
                refine am_iload_n rfl dX10_statement_122 ?_
                refine am_dup2_11 rfl rfl dX10_statement_123 ?_
                refine mm_ial dX10_statement_124 (md_many hm) (by omega) ?_
                try simp (disch := omega) only [up2_rd, up2_rc, up2_same]
                rw [Int.toNat_natCast, hS2]
                refine mm_iconst dX10_statement_125 ?_
                refine mm_iadd dX10_statement_126 ?_
                refine mm_ias dX10_statement_127 (md_many hm) (by omega) ?_
                refine am_aload_n rfl dX10_statement_128 ?_
                refine mm_getR dX10_statement_129 fl_X10_36 (md_0 hm) mdf_10 ?_
                refine am_iload_n rfl dX10_statement_132 ?_
                refine mm_ial dX10_statement_133 (md_many hm) (by omega) ?_
                try simp (disch := omega) only [up2_rd, up2_rc, up2_same]
                refine am_ireturn dX10_statement_134 rfl rfl ?_
                first
                  | (exfalso; omega)
                  | (refine ⟨_, _, rfl, rfl, Or.inr (Or.inr (Or.inr ⟨by omega, hmt (by omega), show S 189 r < 24 by omega, rfl, S2, hF, ?_⟩))⟩
                     rw [show (25 * (r : Int) + S 189 r).toNat = 25 * r + (S 189 r).toNat by omega]
                     simp only [pick]
                     first | (rw [if_pos h89, if_pos h108]; rfl) | (rw [if_pos h89, if_neg h108]; rfl) | (rw [if_neg h89, if_neg h108]; rfl))
              · refine am_iload rfl dX10_statement_111 ?_
                refine am_goto (tgt := 117) dX10_statement_113 (by decide) ?_
                refine mm_ias dX10_statement_117 (md_bAt hm) (by omega) ?_
                refine am_aload_n rfl dX10_statement_118 ?_
                refine mm_getR dX10_statement_119 fl_X10_36 (md_0 hm) mdf_10 ?_
                refine am_iload_n rfl dX10_statement_122 ?_
                refine am_dup2_11 rfl rfl dX10_statement_123 ?_
                refine mm_ial dX10_statement_124 (md_many hm) (by omega) ?_
                try simp (disch := omega) only [up2_rd, up2_rc, up2_same]
                rw [Int.toNat_natCast, hS2]
                refine mm_iconst dX10_statement_125 ?_
                refine mm_iadd dX10_statement_126 ?_
                refine mm_ias dX10_statement_127 (md_many hm) (by omega) ?_
                refine am_aload_n rfl dX10_statement_128 ?_
                refine mm_getR dX10_statement_129 fl_X10_36 (md_0 hm) mdf_10 ?_
                refine am_iload_n rfl dX10_statement_132 ?_
                refine mm_ial dX10_statement_133 (md_many hm) (by omega) ?_
                try simp (disch := omega) only [up2_rd, up2_rc, up2_same]
                refine am_ireturn dX10_statement_134 rfl rfl ?_
                first
                  | (exfalso; omega)
                  | (refine ⟨_, _, rfl, rfl, Or.inr (Or.inr (Or.inr ⟨by omega, hmt (by omega), show S 189 r < 24 by omega, rfl, S2, hF, ?_⟩))⟩
                     rw [show (25 * (r : Int) + S 189 r).toNat = 25 * r + (S 189 r).toNat by omega]
                     simp only [pick]
                     first | (rw [if_pos h89, if_pos h108]; rfl) | (rw [if_pos h89, if_neg h108]; rfl) | (rw [if_neg h89, if_neg h108]; rfl))
          · refine mm_bipush dX10_statement_55 (by decide) ?_
            refine am_ireturn dX10_statement_57 rfl rfl ?_
            exact ⟨_, S2, rfl, rfl, Or.inr (Or.inr (Or.inl ⟨by omega, hmt (by omega), show S 189 r = 24 by omega, rfl, hF⟩))⟩
        · refine mm_bipush dX10_statement_41 (by decide) ?_
          refine am_ireturn dX10_statement_43 rfl rfl ?_
          exact ⟨_, S2, rfl, rfl, Or.inr (Or.inl ⟨by omega, hmf (by omega), rfl, hF⟩)⟩
      · refine mm_bipush dX10_statement_29 (by decide) ?_
        refine am_ireturn dX10_statement_31 rfl rfl ?_
        exact ⟨_, S, rfl, rfl, Or.inl ⟨by omega, rfl, rfl⟩⟩
