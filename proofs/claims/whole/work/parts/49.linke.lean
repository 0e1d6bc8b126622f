/-- a ROUTINE of the class, whole in itself -/
def rtI (S : mm_S) (a : Nat) : Prop := (0 ≤ S a 0 ∧ S a 0 ≤ 24) ∧ wfP (S (a + 1)) (S a 0).toNat ∧ lkI S (S (a + 1)) a (S a 0).toNat ∧ S (a + 7) (S a 0).toNat = 0 ∧ ∀ i, (0 ≤ S (a + 1) i ∧ S (a + 1) i ≤ 15) ∧ (0 ≤ S (a + 2) i ∧ S (a + 2) i ≤ 5) ∧ (0 ≤ S (a + 3) i ∧ S (a + 3) i ≤ 7)
set_option maxRecDepth 100000 in
set_option maxHeartbeats 4000000 in
theorem c_takes {sh : List mm_H} {S : mm_S} {L : mm_L} {a : Nat} (hr : rtS sh a) (hR : rtI S a) {x : Int} (hx : Rg x) : am_E eX6_takes [.ref a, .int (iI x)] (mm sh S L) (fun r M' => ∃ w, r = some (.int w) ∧ ∃ v, w = iI v ∧ tells v (mayT (S (a + 1)) (S a 0).toNat x) ∧ M' = mm sh S L) := by
  obtain ⟨hr0, hr1, hr2, hr3, hr4, hr5, hr6, hr7, hr8, hr9⟩ := hr
  obtain ⟨t0, t1, t2, t3, t4⟩ := id hR
  have hlen := stk_len t1
  have g1 := t2.1.1
  refine am_enter rfl rfl (Nat.le_of_ble_eq_true rfl) ?_
  refine am_iload_n rfl dX6_takes_0 ?_
  refine am_ci (mm_SN1 dX6_takes_1 in_X9_opensBlock mk_X6_46 st_X9_opensBlock ⟨Nat.le_of_ble_eq_true rfl, Nat.le_of_ble_eq_true rfl⟩ (Nat.le_of_ble_eq_true rfl)) (c_opensBlock hx) ?_
  refine mm_beq (tgt := 22) dX6_takes_4 (by decide) (fun h4 => ?_) (fun h4 => ?_)
  · refine am_iload_n rfl dX6_takes_22 ?_
    refine mm_bipush dX6_takes_23 (by decide) ?_
    refine mm_jeq (tgt := 42) dX6_takes_25 (by decide) (by omega) (by omega) (fun h25 => ?_) (fun h25 => ?_)
    · refine am_aload_n rfl dX6_takes_42 ?_
      refine mm_getI dX6_takes_43 fl_X6_15 hr0 rfl ?_
      rw [g1]
      refine mm_iconst dX6_takes_46 ?_
      refine mm_jlt (tgt := 59) dX6_takes_47 (by decide) (by omega) (by omega) (fun h47 => ?_) (fun h47 => ?_)
      · refine mm_iconst dX6_takes_59 ?_
        refine am_ireturn dX6_takes_60 rfl rfl ?_
        first
          | (exfalso; omega)
          | exact ⟨_, rfl, 1, rfl, Or.inl ⟨rfl, (mayT_6 (by omega)).mpr ((head_ex ho).mpr (by omega))⟩, rfl⟩
          | exact ⟨_, rfl, 1, rfl, Or.inl ⟨rfl, (mayT_15 (by omega)).mpr ((head_ex ho).mpr (by omega))⟩, rfl⟩
          | exact ⟨_, rfl, 1, rfl, Or.inl ⟨rfl, (mayT_7 (by omega)).mpr ((head_ex ho).mpr (by omega))⟩, rfl⟩
          | exact ⟨_, rfl, 1, rfl, Or.inl ⟨rfl, (mayT_o (by omega)).mpr (by omega)⟩, rfl⟩
          | exact ⟨_, rfl, 0, rfl, Or.inr ⟨rfl, fun z => absurd ((mayT_6 (by omega)).mp z) (head_nex (by omega))⟩, rfl⟩
          | exact ⟨_, rfl, 0, rfl, Or.inr ⟨rfl, fun z => absurd ((mayT_15 (by omega)).mp z) (head_nex (by omega))⟩, rfl⟩
          | exact ⟨_, rfl, 0, rfl, Or.inr ⟨rfl, fun z => absurd ((mayT_7 (by omega)).mp z) (head_nex (by omega))⟩, rfl⟩
          | exact ⟨_, rfl, 0, rfl, Or.inr ⟨rfl, fun z => absurd ((head_ex ho).mp ((mayT_6 (by omega)).mp z)) (by omega)⟩, rfl⟩
          | exact ⟨_, rfl, 0, rfl, Or.inr ⟨rfl, fun z => absurd ((head_ex ho).mp ((mayT_15 (by omega)).mp z)) (by omega)⟩, rfl⟩
          | exact ⟨_, rfl, 0, rfl, Or.inr ⟨rfl, fun z => absurd ((head_ex ho).mp ((mayT_7 (by omega)).mp z)) (by omega)⟩, rfl⟩
          | exact ⟨_, rfl, 0, rfl, Or.inr ⟨rfl, fun z => absurd ((mayT_o (by omega)).mp z) (by omega)⟩, rfl⟩
      · refine am_aload_n rfl dX6_takes_50 ?_
        refine mm_getI dX6_takes_51 fl_X6_15 hr0 rfl ?_
        rw [g1]
        refine mm_bipush dX6_takes_54 (by decide) ?_
        refine mm_jle (tgt := 61) dX6_takes_56 (by decide) (by omega) (by omega) (fun h56 => ?_) (fun h56 => ?_)
        · obtain ⟨o, ho⟩ : ∃ o, (stk (S (a + 1)) (S a 0).toNat).head? = some o := by
            cases hc : stk (S (a + 1)) (S a 0).toNat with
            | nil => exfalso; have z : (stk (S (a + 1)) (S a 0).toNat).length = 0 := by rw [hc]; rfl
                     omega
            | cons c l => exact ⟨c, rfl⟩
          obtain ⟨q1, q2, q3⟩ := t2.1.top ho
          have hmo : S (a + 8) o = midO (S (a + 1)) (S a 0).toNat o := (t2.2 o q3).1
          have hml := midO_lt (S (a + 1)) (S a 0).toNat o
          have hwo := (t4 o).1
          refine am_aload_n rfl dX6_takes_61 ?_
          refine mm_getR dX6_takes_62 fl_X6_43 hr0 rfl ?_
          refine am_aload_n rfl dX6_takes_65 ?_
          refine mm_getI dX6_takes_66 fl_X6_15 hr0 rfl ?_
          refine mm_iconst dX6_takes_69 ?_
          refine mm_isub dX6_takes_70 ?_
          refine mm_ial dX6_takes_71 hr9 (by omega) ?_
          rw [q1]
          refine am_ist2 dX6_takes_72 (Nat.le_of_ble_eq_true rfl) (am_c1i _) ?_
          refine am_aload_n rfl dX6_takes_73 ?_
          refine mm_getR dX6_takes_74 fl_X6_40 hr0 rfl ?_
          refine am_iload_n rfl dX6_takes_77 ?_
          refine mm_ial dX6_takes_78 hr8 (by omega) ?_
          rw [Int.toNat_natCast, hmo]
          refine mm_iconst dX6_takes_79 ?_
          refine mm_jeq (tgt := 87) dX6_takes_80 (by decide) (by omega) (by omega) (fun h80 => ?_) (fun h80 => ?_)
          · refine mm_iconst dX6_takes_87 ?_
            refine am_ist3 dX6_takes_88 (Nat.le_of_ble_eq_true rfl) (am_c1i _) ?_
            refine am_iload_n rfl dX6_takes_89 ?_
            refine mm_bipush dX6_takes_90 (by decide) ?_
            refine mm_jne (tgt := 125) dX6_takes_92 (by decide) (by omega) (by omega) (fun h92 => ?_) (fun h92 => ?_)
            · refine am_iload_n rfl dX6_takes_125 ?_
              refine mm_bipush dX6_takes_126 (by decide) ?_
              refine mm_jne (tgt := 152) dX6_takes_128 (by decide) (by omega) (by omega) (fun h128 => ?_) (fun h128 => ?_)
              · refine am_iload_n rfl dX6_takes_152 ?_
                refine mm_zne (tgt := 167) dX6_takes_153 (by decide) (by omega) (fun h153 => ?_) (fun h153 => ?_)
                · exfalso; omega
                · refine am_aload_n rfl dX6_takes_156 ?_
                  refine mm_getR dX6_takes_157 fl_X6_18 hr0 rfl ?_
                  refine am_iload_n rfl dX6_takes_160 ?_
                  refine mm_ial dX6_takes_161 hr1 (by omega) ?_
                  rw [Int.toNat_natCast]
                  refine mm_bipush dX6_takes_162 (by decide) ?_
                  refine mm_jeq (tgt := 171) dX6_takes_164 (by decide) (by omega) (by omega) (fun h164 => ?_) (fun h164 => ?_)
                  · refine mm_iconst dX6_takes_171 ?_
                    refine am_ireturn dX6_takes_172 rfl rfl ?_
                    first
                      | (exfalso; omega)
                      | exact ⟨_, rfl, 1, rfl, Or.inl ⟨rfl, (mayT_6 (by omega)).mpr ((head_ex ho).mpr (by omega))⟩, rfl⟩
                      | exact ⟨_, rfl, 1, rfl, Or.inl ⟨rfl, (mayT_15 (by omega)).mpr ((head_ex ho).mpr (by omega))⟩, rfl⟩
                      | exact ⟨_, rfl, 1, rfl, Or.inl ⟨rfl, (mayT_7 (by omega)).mpr ((head_ex ho).mpr (by omega))⟩, rfl⟩
                      | exact ⟨_, rfl, 1, rfl, Or.inl ⟨rfl, (mayT_o (by omega)).mpr (by omega)⟩, rfl⟩
                      | exact ⟨_, rfl, 0, rfl, Or.inr ⟨rfl, fun z => absurd ((mayT_6 (by omega)).mp z) (head_nex (by omega))⟩, rfl⟩
                      | exact ⟨_, rfl, 0, rfl, Or.inr ⟨rfl, fun z => absurd ((mayT_15 (by omega)).mp z) (head_nex (by omega))⟩, rfl⟩
                      | exact ⟨_, rfl, 0, rfl, Or.inr ⟨rfl, fun z => absurd ((mayT_7 (by omega)).mp z) (head_nex (by omega))⟩, rfl⟩
                      | exact ⟨_, rfl, 0, rfl, Or.inr ⟨rfl, fun z => absurd ((head_ex ho).mp ((mayT_6 (by omega)).mp z)) (by omega)⟩, rfl⟩
                      | exact ⟨_, rfl, 0, rfl, Or.inr ⟨rfl, fun z => absurd ((head_ex ho).mp ((mayT_15 (by omega)).mp z)) (by omega)⟩, rfl⟩
                      | exact ⟨_, rfl, 0, rfl, Or.inr ⟨rfl, fun z => absurd ((head_ex ho).mp ((mayT_7 (by omega)).mp z)) (by omega)⟩, rfl⟩
                      | exact ⟨_, rfl, 0, rfl, Or.inr ⟨rfl, fun z => absurd ((mayT_o (by omega)).mp z) (by omega)⟩, rfl⟩
                  · refine mm_iconst dX6_takes_167 ?_
                    refine am_goto (tgt := 172) dX6_takes_168 (by decide) ?_
                    refine am_ireturn dX6_takes_172 rfl rfl ?_
                    first
                      | (exfalso; omega)
                      | exact ⟨_, rfl, 1, rfl, Or.inl ⟨rfl, (mayT_6 (by omega)).mpr ((head_ex ho).mpr (by omega))⟩, rfl⟩
                      | exact ⟨_, rfl, 1, rfl, Or.inl ⟨rfl, (mayT_15 (by omega)).mpr ((head_ex ho).mpr (by omega))⟩, rfl⟩
                      | exact ⟨_, rfl, 1, rfl, Or.inl ⟨rfl, (mayT_7 (by omega)).mpr ((head_ex ho).mpr (by omega))⟩, rfl⟩
                      | exact ⟨_, rfl, 1, rfl, Or.inl ⟨rfl, (mayT_o (by omega)).mpr (by omega)⟩, rfl⟩
                      | exact ⟨_, rfl, 0, rfl, Or.inr ⟨rfl, fun z => absurd ((mayT_6 (by omega)).mp z) (head_nex (by omega))⟩, rfl⟩
                      | exact ⟨_, rfl, 0, rfl, Or.inr ⟨rfl, fun z => absurd ((mayT_15 (by omega)).mp z) (head_nex (by omega))⟩, rfl⟩
                      | exact ⟨_, rfl, 0, rfl, Or.inr ⟨rfl, fun z => absurd ((mayT_7 (by omega)).mp z) (head_nex (by omega))⟩, rfl⟩
                      | exact ⟨_, rfl, 0, rfl, Or.inr ⟨rfl, fun z => absurd ((head_ex ho).mp ((mayT_6 (by omega)).mp z)) (by omega)⟩, rfl⟩
                      | exact ⟨_, rfl, 0, rfl, Or.inr ⟨rfl, fun z => absurd ((head_ex ho).mp ((mayT_15 (by omega)).mp z)) (by omega)⟩, rfl⟩
                      | exact ⟨_, rfl, 0, rfl, Or.inr ⟨rfl, fun z => absurd ((head_ex ho).mp ((mayT_7 (by omega)).mp z)) (by omega)⟩, rfl⟩
                      | exact ⟨_, rfl, 0, rfl, Or.inr ⟨rfl, fun z => absurd ((mayT_o (by omega)).mp z) (by omega)⟩, rfl⟩
              · refine am_iload_n rfl dX6_takes_131 ?_
                refine mm_zne (tgt := 150) dX6_takes_132 (by decide) (by omega) (fun h132 => ?_) (fun h132 => ?_)
                · exfalso; omega
                · refine am_aload_n rfl dX6_takes_135 ?_
                  refine mm_getR dX6_takes_136 fl_X6_18 hr0 rfl ?_
                  refine am_iload_n rfl dX6_takes_139 ?_
                  refine mm_ial dX6_takes_140 hr1 (by omega) ?_
                  rw [Int.toNat_natCast]
                  refine mm_bipush dX6_takes_141 (by decide) ?_
                  refine mm_jne (tgt := 150) dX6_takes_143 (by decide) (by omega) (by omega) (fun h143 => ?_) (fun h143 => ?_)
                  · refine mm_iconst dX6_takes_150 ?_
                    refine am_ireturn dX6_takes_151 rfl rfl ?_
                    first
                      | (exfalso; omega)
                      | exact ⟨_, rfl, 1, rfl, Or.inl ⟨rfl, (mayT_6 (by omega)).mpr ((head_ex ho).mpr (by omega))⟩, rfl⟩
                      | exact ⟨_, rfl, 1, rfl, Or.inl ⟨rfl, (mayT_15 (by omega)).mpr ((head_ex ho).mpr (by omega))⟩, rfl⟩
                      | exact ⟨_, rfl, 1, rfl, Or.inl ⟨rfl, (mayT_7 (by omega)).mpr ((head_ex ho).mpr (by omega))⟩, rfl⟩
                      | exact ⟨_, rfl, 1, rfl, Or.inl ⟨rfl, (mayT_o (by omega)).mpr (by omega)⟩, rfl⟩
                      | exact ⟨_, rfl, 0, rfl, Or.inr ⟨rfl, fun z => absurd ((mayT_6 (by omega)).mp z) (head_nex (by omega))⟩, rfl⟩
                      | exact ⟨_, rfl, 0, rfl, Or.inr ⟨rfl, fun z => absurd ((mayT_15 (by omega)).mp z) (head_nex (by omega))⟩, rfl⟩
                      | exact ⟨_, rfl, 0, rfl, Or.inr ⟨rfl, fun z => absurd ((mayT_7 (by omega)).mp z) (head_nex (by omega))⟩, rfl⟩
                      | exact ⟨_, rfl, 0, rfl, Or.inr ⟨rfl, fun z => absurd ((head_ex ho).mp ((mayT_6 (by omega)).mp z)) (by omega)⟩, rfl⟩
                      | exact ⟨_, rfl, 0, rfl, Or.inr ⟨rfl, fun z => absurd ((head_ex ho).mp ((mayT_15 (by omega)).mp z)) (by omega)⟩, rfl⟩
                      | exact ⟨_, rfl, 0, rfl, Or.inr ⟨rfl, fun z => absurd ((head_ex ho).mp ((mayT_7 (by omega)).mp z)) (by omega)⟩, rfl⟩
                      | exact ⟨_, rfl, 0, rfl, Or.inr ⟨rfl, fun z => absurd ((mayT_o (by omega)).mp z) (by omega)⟩, rfl⟩
                  · refine mm_iconst dX6_takes_146 ?_
                    refine am_goto (tgt := 151) dX6_takes_147 (by decide) ?_
                    refine am_ireturn dX6_takes_151 rfl rfl ?_
                    first
                      | (exfalso; omega)
                      | exact ⟨_, rfl, 1, rfl, Or.inl ⟨rfl, (mayT_6 (by omega)).mpr ((head_ex ho).mpr (by omega))⟩, rfl⟩
                      | exact ⟨_, rfl, 1, rfl, Or.inl ⟨rfl, (mayT_15 (by omega)).mpr ((head_ex ho).mpr (by omega))⟩, rfl⟩
                      | exact ⟨_, rfl, 1, rfl, Or.inl ⟨rfl, (mayT_7 (by omega)).mpr ((head_ex ho).mpr (by omega))⟩, rfl⟩
                      | exact ⟨_, rfl, 1, rfl, Or.inl ⟨rfl, (mayT_o (by omega)).mpr (by omega)⟩, rfl⟩
                      | exact ⟨_, rfl, 0, rfl, Or.inr ⟨rfl, fun z => absurd ((mayT_6 (by omega)).mp z) (head_nex (by omega))⟩, rfl⟩
                      | exact ⟨_, rfl, 0, rfl, Or.inr ⟨rfl, fun z => absurd ((mayT_15 (by omega)).mp z) (head_nex (by omega))⟩, rfl⟩
                      | exact ⟨_, rfl, 0, rfl, Or.inr ⟨rfl, fun z => absurd ((mayT_7 (by omega)).mp z) (head_nex (by omega))⟩, rfl⟩
                      | exact ⟨_, rfl, 0, rfl, Or.inr ⟨rfl, fun z => absurd ((head_ex ho).mp ((mayT_6 (by omega)).mp z)) (by omega)⟩, rfl⟩
                      | exact ⟨_, rfl, 0, rfl, Or.inr ⟨rfl, fun z => absurd ((head_ex ho).mp ((mayT_15 (by omega)).mp z)) (by omega)⟩, rfl⟩
                      | exact ⟨_, rfl, 0, rfl, Or.inr ⟨rfl, fun z => absurd ((head_ex ho).mp ((mayT_7 (by omega)).mp z)) (by omega)⟩, rfl⟩
                      | exact ⟨_, rfl, 0, rfl, Or.inr ⟨rfl, fun z => absurd ((mayT_o (by omega)).mp z) (by omega)⟩, rfl⟩
            · refine am_iload_n rfl dX6_takes_95 ?_
              refine mm_zne (tgt := 123) dX6_takes_96 (by decide) (by omega) (fun h96 => ?_) (fun h96 => ?_)
              · exfalso; omega
              · refine am_aload_n rfl dX6_takes_99 ?_
                refine mm_getR dX6_takes_100 fl_X6_18 hr0 rfl ?_
                refine am_iload_n rfl dX6_takes_103 ?_
                refine mm_ial dX6_takes_104 hr1 (by omega) ?_
                rw [Int.toNat_natCast]
                refine mm_iconst dX6_takes_105 ?_
                refine mm_jeq (tgt := 119) dX6_takes_106 (by decide) (by omega) (by omega) (fun h106 => ?_) (fun h106 => ?_)
                · refine mm_iconst dX6_takes_119 ?_
                  refine am_goto (tgt := 124) dX6_takes_120 (by decide) ?_
                  refine am_ireturn dX6_takes_124 rfl rfl ?_
                  first
                    | (exfalso; omega)
                    | exact ⟨_, rfl, 1, rfl, Or.inl ⟨rfl, (mayT_6 (by omega)).mpr ((head_ex ho).mpr (by omega))⟩, rfl⟩
                    | exact ⟨_, rfl, 1, rfl, Or.inl ⟨rfl, (mayT_15 (by omega)).mpr ((head_ex ho).mpr (by omega))⟩, rfl⟩
                    | exact ⟨_, rfl, 1, rfl, Or.inl ⟨rfl, (mayT_7 (by omega)).mpr ((head_ex ho).mpr (by omega))⟩, rfl⟩
                    | exact ⟨_, rfl, 1, rfl, Or.inl ⟨rfl, (mayT_o (by omega)).mpr (by omega)⟩, rfl⟩
                    | exact ⟨_, rfl, 0, rfl, Or.inr ⟨rfl, fun z => absurd ((mayT_6 (by omega)).mp z) (head_nex (by omega))⟩, rfl⟩
                    | exact ⟨_, rfl, 0, rfl, Or.inr ⟨rfl, fun z => absurd ((mayT_15 (by omega)).mp z) (head_nex (by omega))⟩, rfl⟩
                    | exact ⟨_, rfl, 0, rfl, Or.inr ⟨rfl, fun z => absurd ((mayT_7 (by omega)).mp z) (head_nex (by omega))⟩, rfl⟩
                    | exact ⟨_, rfl, 0, rfl, Or.inr ⟨rfl, fun z => absurd ((head_ex ho).mp ((mayT_6 (by omega)).mp z)) (by omega)⟩, rfl⟩
                    | exact ⟨_, rfl, 0, rfl, Or.inr ⟨rfl, fun z => absurd ((head_ex ho).mp ((mayT_15 (by omega)).mp z)) (by omega)⟩, rfl⟩
                    | exact ⟨_, rfl, 0, rfl, Or.inr ⟨rfl, fun z => absurd ((head_ex ho).mp ((mayT_7 (by omega)).mp z)) (by omega)⟩, rfl⟩
                    | exact ⟨_, rfl, 0, rfl, Or.inr ⟨rfl, fun z => absurd ((mayT_o (by omega)).mp z) (by omega)⟩, rfl⟩
                · refine am_aload_n rfl dX6_takes_109 ?_
                  refine mm_getR dX6_takes_110 fl_X6_18 hr0 rfl ?_
                  refine am_iload_n rfl dX6_takes_113 ?_
                  refine mm_ial dX6_takes_114 hr1 (by omega) ?_
                  rw [Int.toNat_natCast]
                  refine mm_iconst dX6_takes_115 ?_
                  refine mm_jne (tgt := 123) dX6_takes_116 (by decide) (by omega) (by omega) (fun h116 => ?_) (fun h116 => ?_)
                  · refine mm_iconst dX6_takes_123 ?_
                    refine am_ireturn dX6_takes_124 rfl rfl ?_
                    first
                      | (exfalso; omega)
                      | exact ⟨_, rfl, 1, rfl, Or.inl ⟨rfl, (mayT_6 (by omega)).mpr ((head_ex ho).mpr (by omega))⟩, rfl⟩
                      | exact ⟨_, rfl, 1, rfl, Or.inl ⟨rfl, (mayT_15 (by omega)).mpr ((head_ex ho).mpr (by omega))⟩, rfl⟩
                      | exact ⟨_, rfl, 1, rfl, Or.inl ⟨rfl, (mayT_7 (by omega)).mpr ((head_ex ho).mpr (by omega))⟩, rfl⟩
                      | exact ⟨_, rfl, 1, rfl, Or.inl ⟨rfl, (mayT_o (by omega)).mpr (by omega)⟩, rfl⟩
                      | exact ⟨_, rfl, 0, rfl, Or.inr ⟨rfl, fun z => absurd ((mayT_6 (by omega)).mp z) (head_nex (by omega))⟩, rfl⟩
                      | exact ⟨_, rfl, 0, rfl, Or.inr ⟨rfl, fun z => absurd ((mayT_15 (by omega)).mp z) (head_nex (by omega))⟩, rfl⟩
                      | exact ⟨_, rfl, 0, rfl, Or.inr ⟨rfl, fun z => absurd ((mayT_7 (by omega)).mp z) (head_nex (by omega))⟩, rfl⟩
                      | exact ⟨_, rfl, 0, rfl, Or.inr ⟨rfl, fun z => absurd ((head_ex ho).mp ((mayT_6 (by omega)).mp z)) (by omega)⟩, rfl⟩
                      | exact ⟨_, rfl, 0, rfl, Or.inr ⟨rfl, fun z => absurd ((head_ex ho).mp ((mayT_15 (by omega)).mp z)) (by omega)⟩, rfl⟩
                      | exact ⟨_, rfl, 0, rfl, Or.inr ⟨rfl, fun z => absurd ((head_ex ho).mp ((mayT_7 (by omega)).mp z)) (by omega)⟩, rfl⟩
                      | exact ⟨_, rfl, 0, rfl, Or.inr ⟨rfl, fun z => absurd ((mayT_o (by omega)).mp z) (by omega)⟩, rfl⟩
                  · refine mm_iconst dX6_takes_119 ?_
                    refine am_goto (tgt := 124) dX6_takes_120 (by decide) ?_
                    refine am_ireturn dX6_takes_124 rfl rfl ?_
                    first
                      | (exfalso; omega)
                      | exact ⟨_, rfl, 1, rfl, Or.inl ⟨rfl, (mayT_6 (by omega)).mpr ((head_ex ho).mpr (by omega))⟩, rfl⟩
                      | exact ⟨_, rfl, 1, rfl, Or.inl ⟨rfl, (mayT_15 (by omega)).mpr ((head_ex ho).mpr (by omega))⟩, rfl⟩
                      | exact ⟨_, rfl, 1, rfl, Or.inl ⟨rfl, (mayT_7 (by omega)).mpr ((head_ex ho).mpr (by omega))⟩, rfl⟩
                      | exact ⟨_, rfl, 1, rfl, Or.inl ⟨rfl, (mayT_o (by omega)).mpr (by omega)⟩, rfl⟩
                      | exact ⟨_, rfl, 0, rfl, Or.inr ⟨rfl, fun z => absurd ((mayT_6 (by omega)).mp z) (head_nex (by omega))⟩, rfl⟩
                      | exact ⟨_, rfl, 0, rfl, Or.inr ⟨rfl, fun z => absurd ((mayT_15 (by omega)).mp z) (head_nex (by omega))⟩, rfl⟩
                      | exact ⟨_, rfl, 0, rfl, Or.inr ⟨rfl, fun z => absurd ((mayT_7 (by omega)).mp z) (head_nex (by omega))⟩, rfl⟩
                      | exact ⟨_, rfl, 0, rfl, Or.inr ⟨rfl, fun z => absurd ((head_ex ho).mp ((mayT_6 (by omega)).mp z)) (by omega)⟩, rfl⟩
                      | exact ⟨_, rfl, 0, rfl, Or.inr ⟨rfl, fun z => absurd ((head_ex ho).mp ((mayT_15 (by omega)).mp z)) (by omega)⟩, rfl⟩
                      | exact ⟨_, rfl, 0, rfl, Or.inr ⟨rfl, fun z => absurd ((head_ex ho).mp ((mayT_7 (by omega)).mp z)) (by omega)⟩, rfl⟩
                      | exact ⟨_, rfl, 0, rfl, Or.inr ⟨rfl, fun z => absurd ((mayT_o (by omega)).mp z) (by omega)⟩, rfl⟩
          · refine mm_iconst dX6_takes_83 ?_
            refine am_goto (tgt := 88) dX6_takes_84 (by decide) ?_
            refine am_ist3 dX6_takes_88 (Nat.le_of_ble_eq_true rfl) (am_c1i _) ?_
            refine am_iload_n rfl dX6_takes_89 ?_
            refine mm_bipush dX6_takes_90 (by decide) ?_
            refine mm_jne (tgt := 125) dX6_takes_92 (by decide) (by omega) (by omega) (fun h92 => ?_) (fun h92 => ?_)
            · refine am_iload_n rfl dX6_takes_125 ?_
              refine mm_bipush dX6_takes_126 (by decide) ?_
              refine mm_jne (tgt := 152) dX6_takes_128 (by decide) (by omega) (by omega) (fun h128 => ?_) (fun h128 => ?_)
              · refine am_iload_n rfl dX6_takes_152 ?_
                refine mm_zne (tgt := 167) dX6_takes_153 (by decide) (by omega) (fun h153 => ?_) (fun h153 => ?_)
                · refine mm_iconst dX6_takes_167 ?_
                  refine am_goto (tgt := 172) dX6_takes_168 (by decide) ?_
                  refine am_ireturn dX6_takes_172 rfl rfl ?_
                  first
                    | (exfalso; omega)
                    | exact ⟨_, rfl, 1, rfl, Or.inl ⟨rfl, (mayT_6 (by omega)).mpr ((head_ex ho).mpr (by omega))⟩, rfl⟩
                    | exact ⟨_, rfl, 1, rfl, Or.inl ⟨rfl, (mayT_15 (by omega)).mpr ((head_ex ho).mpr (by omega))⟩, rfl⟩
                    | exact ⟨_, rfl, 1, rfl, Or.inl ⟨rfl, (mayT_7 (by omega)).mpr ((head_ex ho).mpr (by omega))⟩, rfl⟩
                    | exact ⟨_, rfl, 1, rfl, Or.inl ⟨rfl, (mayT_o (by omega)).mpr (by omega)⟩, rfl⟩
                    | exact ⟨_, rfl, 0, rfl, Or.inr ⟨rfl, fun z => absurd ((mayT_6 (by omega)).mp z) (head_nex (by omega))⟩, rfl⟩
                    | exact ⟨_, rfl, 0, rfl, Or.inr ⟨rfl, fun z => absurd ((mayT_15 (by omega)).mp z) (head_nex (by omega))⟩, rfl⟩
                    | exact ⟨_, rfl, 0, rfl, Or.inr ⟨rfl, fun z => absurd ((mayT_7 (by omega)).mp z) (head_nex (by omega))⟩, rfl⟩
                    | exact ⟨_, rfl, 0, rfl, Or.inr ⟨rfl, fun z => absurd ((head_ex ho).mp ((mayT_6 (by omega)).mp z)) (by omega)⟩, rfl⟩
                    | exact ⟨_, rfl, 0, rfl, Or.inr ⟨rfl, fun z => absurd ((head_ex ho).mp ((mayT_15 (by omega)).mp z)) (by omega)⟩, rfl⟩
                    | exact ⟨_, rfl, 0, rfl, Or.inr ⟨rfl, fun z => absurd ((head_ex ho).mp ((mayT_7 (by omega)).mp z)) (by omega)⟩, rfl⟩
                    | exact ⟨_, rfl, 0, rfl, Or.inr ⟨rfl, fun z => absurd ((mayT_o (by omega)).mp z) (by omega)⟩, rfl⟩
                · exfalso; omega
              · refine am_iload_n rfl dX6_takes_131 ?_
                refine mm_zne (tgt := 150) dX6_takes_132 (by decide) (by omega) (fun h132 => ?_) (fun h132 => ?_)
                · refine mm_iconst dX6_takes_150 ?_
                  refine am_ireturn dX6_takes_151 rfl rfl ?_
                  first
                    | (exfalso; omega)
                    | exact ⟨_, rfl, 1, rfl, Or.inl ⟨rfl, (mayT_6 (by omega)).mpr ((head_ex ho).mpr (by omega))⟩, rfl⟩
                    | exact ⟨_, rfl, 1, rfl, Or.inl ⟨rfl, (mayT_15 (by omega)).mpr ((head_ex ho).mpr (by omega))⟩, rfl⟩
                    | exact ⟨_, rfl, 1, rfl, Or.inl ⟨rfl, (mayT_7 (by omega)).mpr ((head_ex ho).mpr (by omega))⟩, rfl⟩
                    | exact ⟨_, rfl, 1, rfl, Or.inl ⟨rfl, (mayT_o (by omega)).mpr (by omega)⟩, rfl⟩
                    | exact ⟨_, rfl, 0, rfl, Or.inr ⟨rfl, fun z => absurd ((mayT_6 (by omega)).mp z) (head_nex (by omega))⟩, rfl⟩
                    | exact ⟨_, rfl, 0, rfl, Or.inr ⟨rfl, fun z => absurd ((mayT_15 (by omega)).mp z) (head_nex (by omega))⟩, rfl⟩
                    | exact ⟨_, rfl, 0, rfl, Or.inr ⟨rfl, fun z => absurd ((mayT_7 (by omega)).mp z) (head_nex (by omega))⟩, rfl⟩
                    | exact ⟨_, rfl, 0, rfl, Or.inr ⟨rfl, fun z => absurd ((head_ex ho).mp ((mayT_6 (by omega)).mp z)) (by omega)⟩, rfl⟩
                    | exact ⟨_, rfl, 0, rfl, Or.inr ⟨rfl, fun z => absurd ((head_ex ho).mp ((mayT_15 (by omega)).mp z)) (by omega)⟩, rfl⟩
                    | exact ⟨_, rfl, 0, rfl, Or.inr ⟨rfl, fun z => absurd ((head_ex ho).mp ((mayT_7 (by omega)).mp z)) (by omega)⟩, rfl⟩
                    | exact ⟨_, rfl, 0, rfl, Or.inr ⟨rfl, fun z => absurd ((mayT_o (by omega)).mp z) (by omega)⟩, rfl⟩
                · exfalso; omega
            · refine am_iload_n rfl dX6_takes_95 ?_
              refine mm_zne (tgt := 123) dX6_takes_96 (by decide) (by omega) (fun h96 => ?_) (fun h96 => ?_)
              · refine mm_iconst dX6_takes_123 ?_
                refine am_ireturn dX6_takes_124 rfl rfl ?_
                first
                  | (exfalso; omega)
                  | exact ⟨_, rfl, 1, rfl, Or.inl ⟨rfl, (mayT_6 (by omega)).mpr ((head_ex ho).mpr (by omega))⟩, rfl⟩
                  | exact ⟨_, rfl, 1, rfl, Or.inl ⟨rfl, (mayT_15 (by omega)).mpr ((head_ex ho).mpr (by omega))⟩, rfl⟩
                  | exact ⟨_, rfl, 1, rfl, Or.inl ⟨rfl, (mayT_7 (by omega)).mpr ((head_ex ho).mpr (by omega))⟩, rfl⟩
                  | exact ⟨_, rfl, 1, rfl, Or.inl ⟨rfl, (mayT_o (by omega)).mpr (by omega)⟩, rfl⟩
                  | exact ⟨_, rfl, 0, rfl, Or.inr ⟨rfl, fun z => absurd ((mayT_6 (by omega)).mp z) (head_nex (by omega))⟩, rfl⟩
                  | exact ⟨_, rfl, 0, rfl, Or.inr ⟨rfl, fun z => absurd ((mayT_15 (by omega)).mp z) (head_nex (by omega))⟩, rfl⟩
                  | exact ⟨_, rfl, 0, rfl, Or.inr ⟨rfl, fun z => absurd ((mayT_7 (by omega)).mp z) (head_nex (by omega))⟩, rfl⟩
                  | exact ⟨_, rfl, 0, rfl, Or.inr ⟨rfl, fun z => absurd ((head_ex ho).mp ((mayT_6 (by omega)).mp z)) (by omega)⟩, rfl⟩
                  | exact ⟨_, rfl, 0, rfl, Or.inr ⟨rfl, fun z => absurd ((head_ex ho).mp ((mayT_15 (by omega)).mp z)) (by omega)⟩, rfl⟩
                  | exact ⟨_, rfl, 0, rfl, Or.inr ⟨rfl, fun z => absurd ((head_ex ho).mp ((mayT_7 (by omega)).mp z)) (by omega)⟩, rfl⟩
                  | exact ⟨_, rfl, 0, rfl, Or.inr ⟨rfl, fun z => absurd ((mayT_o (by omega)).mp z) (by omega)⟩, rfl⟩
              · exfalso; omega
        · refine mm_iconst dX6_takes_59 ?_
          refine am_ireturn dX6_takes_60 rfl rfl ?_
          first
            | (exfalso; omega)
            | exact ⟨_, rfl, 1, rfl, Or.inl ⟨rfl, (mayT_6 (by omega)).mpr ((head_ex ho).mpr (by omega))⟩, rfl⟩
            | exact ⟨_, rfl, 1, rfl, Or.inl ⟨rfl, (mayT_15 (by omega)).mpr ((head_ex ho).mpr (by omega))⟩, rfl⟩
            | exact ⟨_, rfl, 1, rfl, Or.inl ⟨rfl, (mayT_7 (by omega)).mpr ((head_ex ho).mpr (by omega))⟩, rfl⟩
            | exact ⟨_, rfl, 1, rfl, Or.inl ⟨rfl, (mayT_o (by omega)).mpr (by omega)⟩, rfl⟩
            | exact ⟨_, rfl, 0, rfl, Or.inr ⟨rfl, fun z => absurd ((mayT_6 (by omega)).mp z) (head_nex (by omega))⟩, rfl⟩
            | exact ⟨_, rfl, 0, rfl, Or.inr ⟨rfl, fun z => absurd ((mayT_15 (by omega)).mp z) (head_nex (by omega))⟩, rfl⟩
            | exact ⟨_, rfl, 0, rfl, Or.inr ⟨rfl, fun z => absurd ((mayT_7 (by omega)).mp z) (head_nex (by omega))⟩, rfl⟩
            | exact ⟨_, rfl, 0, rfl, Or.inr ⟨rfl, fun z => absurd ((head_ex ho).mp ((mayT_6 (by omega)).mp z)) (by omega)⟩, rfl⟩
            | exact ⟨_, rfl, 0, rfl, Or.inr ⟨rfl, fun z => absurd ((head_ex ho).mp ((mayT_15 (by omega)).mp z)) (by omega)⟩, rfl⟩
            | exact ⟨_, rfl, 0, rfl, Or.inr ⟨rfl, fun z => absurd ((head_ex ho).mp ((mayT_7 (by omega)).mp z)) (by omega)⟩, rfl⟩
            | exact ⟨_, rfl, 0, rfl, Or.inr ⟨rfl, fun z => absurd ((mayT_o (by omega)).mp z) (by omega)⟩, rfl⟩
    · refine am_iload_n rfl dX6_takes_28 ?_
      refine mm_bipush dX6_takes_29 (by decide) ?_
      refine mm_jeq (tgt := 42) dX6_takes_31 (by decide) (by omega) (by omega) (fun h31 => ?_) (fun h31 => ?_)
      · refine am_aload_n rfl dX6_takes_42 ?_
        refine mm_getI dX6_takes_43 fl_X6_15 hr0 rfl ?_
        rw [g1]
        refine mm_iconst dX6_takes_46 ?_
        refine mm_jlt (tgt := 59) dX6_takes_47 (by decide) (by omega) (by omega) (fun h47 => ?_) (fun h47 => ?_)
        · refine mm_iconst dX6_takes_59 ?_
          refine am_ireturn dX6_takes_60 rfl rfl ?_
          first
            | (exfalso; omega)
            | exact ⟨_, rfl, 1, rfl, Or.inl ⟨rfl, (mayT_6 (by omega)).mpr ((head_ex ho).mpr (by omega))⟩, rfl⟩
            | exact ⟨_, rfl, 1, rfl, Or.inl ⟨rfl, (mayT_15 (by omega)).mpr ((head_ex ho).mpr (by omega))⟩, rfl⟩
            | exact ⟨_, rfl, 1, rfl, Or.inl ⟨rfl, (mayT_7 (by omega)).mpr ((head_ex ho).mpr (by omega))⟩, rfl⟩
            | exact ⟨_, rfl, 1, rfl, Or.inl ⟨rfl, (mayT_o (by omega)).mpr (by omega)⟩, rfl⟩
            | exact ⟨_, rfl, 0, rfl, Or.inr ⟨rfl, fun z => absurd ((mayT_6 (by omega)).mp z) (head_nex (by omega))⟩, rfl⟩
            | exact ⟨_, rfl, 0, rfl, Or.inr ⟨rfl, fun z => absurd ((mayT_15 (by omega)).mp z) (head_nex (by omega))⟩, rfl⟩
            | exact ⟨_, rfl, 0, rfl, Or.inr ⟨rfl, fun z => absurd ((mayT_7 (by omega)).mp z) (head_nex (by omega))⟩, rfl⟩
            | exact ⟨_, rfl, 0, rfl, Or.inr ⟨rfl, fun z => absurd ((head_ex ho).mp ((mayT_6 (by omega)).mp z)) (by omega)⟩, rfl⟩
            | exact ⟨_, rfl, 0, rfl, Or.inr ⟨rfl, fun z => absurd ((head_ex ho).mp ((mayT_15 (by omega)).mp z)) (by omega)⟩, rfl⟩
            | exact ⟨_, rfl, 0, rfl, Or.inr ⟨rfl, fun z => absurd ((head_ex ho).mp ((mayT_7 (by omega)).mp z)) (by omega)⟩, rfl⟩
            | exact ⟨_, rfl, 0, rfl, Or.inr ⟨rfl, fun z => absurd ((mayT_o (by omega)).mp z) (by omega)⟩, rfl⟩
        · refine am_aload_n rfl dX6_takes_50 ?_
          refine mm_getI dX6_takes_51 fl_X6_15 hr0 rfl ?_
          rw [g1]
          refine mm_bipush dX6_takes_54 (by decide) ?_
          refine mm_jle (tgt := 61) dX6_takes_56 (by decide) (by omega) (by omega) (fun h56 => ?_) (fun h56 => ?_)
          · obtain ⟨o, ho⟩ : ∃ o, (stk (S (a + 1)) (S a 0).toNat).head? = some o := by
              cases hc : stk (S (a + 1)) (S a 0).toNat with
              | nil => exfalso; have z : (stk (S (a + 1)) (S a 0).toNat).length = 0 := by rw [hc]; rfl
                       omega
              | cons c l => exact ⟨c, rfl⟩
            obtain ⟨q1, q2, q3⟩ := t2.1.top ho
            have hmo : S (a + 8) o = midO (S (a + 1)) (S a 0).toNat o := (t2.2 o q3).1
            have hml := midO_lt (S (a + 1)) (S a 0).toNat o
            have hwo := (t4 o).1
            refine am_aload_n rfl dX6_takes_61 ?_
            refine mm_getR dX6_takes_62 fl_X6_43 hr0 rfl ?_
            refine am_aload_n rfl dX6_takes_65 ?_
            refine mm_getI dX6_takes_66 fl_X6_15 hr0 rfl ?_
            refine mm_iconst dX6_takes_69 ?_
            refine mm_isub dX6_takes_70 ?_
            refine mm_ial dX6_takes_71 hr9 (by omega) ?_
            rw [q1]
            refine am_ist2 dX6_takes_72 (Nat.le_of_ble_eq_true rfl) (am_c1i _) ?_
            refine am_aload_n rfl dX6_takes_73 ?_
            refine mm_getR dX6_takes_74 fl_X6_40 hr0 rfl ?_
            refine am_iload_n rfl dX6_takes_77 ?_
            refine mm_ial dX6_takes_78 hr8 (by omega) ?_
            rw [Int.toNat_natCast, hmo]
            refine mm_iconst dX6_takes_79 ?_
            refine mm_jeq (tgt := 87) dX6_takes_80 (by decide) (by omega) (by omega) (fun h80 => ?_) (fun h80 => ?_)
            · refine mm_iconst dX6_takes_87 ?_
              refine am_ist3 dX6_takes_88 (Nat.le_of_ble_eq_true rfl) (am_c1i _) ?_
              refine am_iload_n rfl dX6_takes_89 ?_
              refine mm_bipush dX6_takes_90 (by decide) ?_
              refine mm_jne (tgt := 125) dX6_takes_92 (by decide) (by omega) (by omega) (fun h92 => ?_) (fun h92 => ?_)
              · refine am_iload_n rfl dX6_takes_125 ?_
                refine mm_bipush dX6_takes_126 (by decide) ?_
                refine mm_jne (tgt := 152) dX6_takes_128 (by decide) (by omega) (by omega) (fun h128 => ?_) (fun h128 => ?_)
                · refine am_iload_n rfl dX6_takes_152 ?_
                  refine mm_zne (tgt := 167) dX6_takes_153 (by decide) (by omega) (fun h153 => ?_) (fun h153 => ?_)
                  · exfalso; omega
                  · refine am_aload_n rfl dX6_takes_156 ?_
                    refine mm_getR dX6_takes_157 fl_X6_18 hr0 rfl ?_
                    refine am_iload_n rfl dX6_takes_160 ?_
                    refine mm_ial dX6_takes_161 hr1 (by omega) ?_
                    rw [Int.toNat_natCast]
                    refine mm_bipush dX6_takes_162 (by decide) ?_
                    refine mm_jeq (tgt := 171) dX6_takes_164 (by decide) (by omega) (by omega) (fun h164 => ?_) (fun h164 => ?_)
                    · refine mm_iconst dX6_takes_171 ?_
                      refine am_ireturn dX6_takes_172 rfl rfl ?_
                      first
                        | (exfalso; omega)
                        | exact ⟨_, rfl, 1, rfl, Or.inl ⟨rfl, (mayT_6 (by omega)).mpr ((head_ex ho).mpr (by omega))⟩, rfl⟩
                        | exact ⟨_, rfl, 1, rfl, Or.inl ⟨rfl, (mayT_15 (by omega)).mpr ((head_ex ho).mpr (by omega))⟩, rfl⟩
                        | exact ⟨_, rfl, 1, rfl, Or.inl ⟨rfl, (mayT_7 (by omega)).mpr ((head_ex ho).mpr (by omega))⟩, rfl⟩
                        | exact ⟨_, rfl, 1, rfl, Or.inl ⟨rfl, (mayT_o (by omega)).mpr (by omega)⟩, rfl⟩
                        | exact ⟨_, rfl, 0, rfl, Or.inr ⟨rfl, fun z => absurd ((mayT_6 (by omega)).mp z) (head_nex (by omega))⟩, rfl⟩
                        | exact ⟨_, rfl, 0, rfl, Or.inr ⟨rfl, fun z => absurd ((mayT_15 (by omega)).mp z) (head_nex (by omega))⟩, rfl⟩
                        | exact ⟨_, rfl, 0, rfl, Or.inr ⟨rfl, fun z => absurd ((mayT_7 (by omega)).mp z) (head_nex (by omega))⟩, rfl⟩
                        | exact ⟨_, rfl, 0, rfl, Or.inr ⟨rfl, fun z => absurd ((head_ex ho).mp ((mayT_6 (by omega)).mp z)) (by omega)⟩, rfl⟩
                        | exact ⟨_, rfl, 0, rfl, Or.inr ⟨rfl, fun z => absurd ((head_ex ho).mp ((mayT_15 (by omega)).mp z)) (by omega)⟩, rfl⟩
                        | exact ⟨_, rfl, 0, rfl, Or.inr ⟨rfl, fun z => absurd ((head_ex ho).mp ((mayT_7 (by omega)).mp z)) (by omega)⟩, rfl⟩
                        | exact ⟨_, rfl, 0, rfl, Or.inr ⟨rfl, fun z => absurd ((mayT_o (by omega)).mp z) (by omega)⟩, rfl⟩
                    · refine mm_iconst dX6_takes_167 ?_
                      refine am_goto (tgt := 172) dX6_takes_168 (by decide) ?_
                      refine am_ireturn dX6_takes_172 rfl rfl ?_
                      first
                        | (exfalso; omega)
                        | exact ⟨_, rfl, 1, rfl, Or.inl ⟨rfl, (mayT_6 (by omega)).mpr ((head_ex ho).mpr (by omega))⟩, rfl⟩
                        | exact ⟨_, rfl, 1, rfl, Or.inl ⟨rfl, (mayT_15 (by omega)).mpr ((head_ex ho).mpr (by omega))⟩, rfl⟩
                        | exact ⟨_, rfl, 1, rfl, Or.inl ⟨rfl, (mayT_7 (by omega)).mpr ((head_ex ho).mpr (by omega))⟩, rfl⟩
                        | exact ⟨_, rfl, 1, rfl, Or.inl ⟨rfl, (mayT_o (by omega)).mpr (by omega)⟩, rfl⟩
                        | exact ⟨_, rfl, 0, rfl, Or.inr ⟨rfl, fun z => absurd ((mayT_6 (by omega)).mp z) (head_nex (by omega))⟩, rfl⟩
                        | exact ⟨_, rfl, 0, rfl, Or.inr ⟨rfl, fun z => absurd ((mayT_15 (by omega)).mp z) (head_nex (by omega))⟩, rfl⟩
                        | exact ⟨_, rfl, 0, rfl, Or.inr ⟨rfl, fun z => absurd ((mayT_7 (by omega)).mp z) (head_nex (by omega))⟩, rfl⟩
                        | exact ⟨_, rfl, 0, rfl, Or.inr ⟨rfl, fun z => absurd ((head_ex ho).mp ((mayT_6 (by omega)).mp z)) (by omega)⟩, rfl⟩
                        | exact ⟨_, rfl, 0, rfl, Or.inr ⟨rfl, fun z => absurd ((head_ex ho).mp ((mayT_15 (by omega)).mp z)) (by omega)⟩, rfl⟩
                        | exact ⟨_, rfl, 0, rfl, Or.inr ⟨rfl, fun z => absurd ((head_ex ho).mp ((mayT_7 (by omega)).mp z)) (by omega)⟩, rfl⟩
                        | exact ⟨_, rfl, 0, rfl, Or.inr ⟨rfl, fun z => absurd ((mayT_o (by omega)).mp z) (by omega)⟩, rfl⟩
                · refine am_iload_n rfl dX6_takes_131 ?_
                  refine mm_zne (tgt := 150) dX6_takes_132 (by decide) (by omega) (fun h132 => ?_) (fun h132 => ?_)
                  · exfalso; omega
                  · refine am_aload_n rfl dX6_takes_135 ?_
                    refine mm_getR dX6_takes_136 fl_X6_18 hr0 rfl ?_
                    refine am_iload_n rfl dX6_takes_139 ?_
                    refine mm_ial dX6_takes_140 hr1 (by omega) ?_
                    rw [Int.toNat_natCast]
                    refine mm_bipush dX6_takes_141 (by decide) ?_
                    refine mm_jne (tgt := 150) dX6_takes_143 (by decide) (by omega) (by omega) (fun h143 => ?_) (fun h143 => ?_)
                    · refine mm_iconst dX6_takes_150 ?_
                      refine am_ireturn dX6_takes_151 rfl rfl ?_
                      first
                        | (exfalso; omega)
                        | exact ⟨_, rfl, 1, rfl, Or.inl ⟨rfl, (mayT_6 (by omega)).mpr ((head_ex ho).mpr (by omega))⟩, rfl⟩
                        | exact ⟨_, rfl, 1, rfl, Or.inl ⟨rfl, (mayT_15 (by omega)).mpr ((head_ex ho).mpr (by omega))⟩, rfl⟩
                        | exact ⟨_, rfl, 1, rfl, Or.inl ⟨rfl, (mayT_7 (by omega)).mpr ((head_ex ho).mpr (by omega))⟩, rfl⟩
                        | exact ⟨_, rfl, 1, rfl, Or.inl ⟨rfl, (mayT_o (by omega)).mpr (by omega)⟩, rfl⟩
                        | exact ⟨_, rfl, 0, rfl, Or.inr ⟨rfl, fun z => absurd ((mayT_6 (by omega)).mp z) (head_nex (by omega))⟩, rfl⟩
                        | exact ⟨_, rfl, 0, rfl, Or.inr ⟨rfl, fun z => absurd ((mayT_15 (by omega)).mp z) (head_nex (by omega))⟩, rfl⟩
                        | exact ⟨_, rfl, 0, rfl, Or.inr ⟨rfl, fun z => absurd ((mayT_7 (by omega)).mp z) (head_nex (by omega))⟩, rfl⟩
                        | exact ⟨_, rfl, 0, rfl, Or.inr ⟨rfl, fun z => absurd ((head_ex ho).mp ((mayT_6 (by omega)).mp z)) (by omega)⟩, rfl⟩
                        | exact ⟨_, rfl, 0, rfl, Or.inr ⟨rfl, fun z => absurd ((head_ex ho).mp ((mayT_15 (by omega)).mp z)) (by omega)⟩, rfl⟩
                        | exact ⟨_, rfl, 0, rfl, Or.inr ⟨rfl, fun z => absurd ((head_ex ho).mp ((mayT_7 (by omega)).mp z)) (by omega)⟩, rfl⟩
                        | exact ⟨_, rfl, 0, rfl, Or.inr ⟨rfl, fun z => absurd ((mayT_o (by omega)).mp z) (by omega)⟩, rfl⟩
                    · refine mm_iconst dX6_takes_146 ?_
                      refine am_goto (tgt := 151) dX6_takes_147 (by decide) ?_
                      refine am_ireturn dX6_takes_151 rfl rfl ?_
                      first
                        | (exfalso; omega)
                        | exact ⟨_, rfl, 1, rfl, Or.inl ⟨rfl, (mayT_6 (by omega)).mpr ((head_ex ho).mpr (by omega))⟩, rfl⟩
                        | exact ⟨_, rfl, 1, rfl, Or.inl ⟨rfl, (mayT_15 (by omega)).mpr ((head_ex ho).mpr (by omega))⟩, rfl⟩
                        | exact ⟨_, rfl, 1, rfl, Or.inl ⟨rfl, (mayT_7 (by omega)).mpr ((head_ex ho).mpr (by omega))⟩, rfl⟩
                        | exact ⟨_, rfl, 1, rfl, Or.inl ⟨rfl, (mayT_o (by omega)).mpr (by omega)⟩, rfl⟩
                        | exact ⟨_, rfl, 0, rfl, Or.inr ⟨rfl, fun z => absurd ((mayT_6 (by omega)).mp z) (head_nex (by omega))⟩, rfl⟩
                        | exact ⟨_, rfl, 0, rfl, Or.inr ⟨rfl, fun z => absurd ((mayT_15 (by omega)).mp z) (head_nex (by omega))⟩, rfl⟩
                        | exact ⟨_, rfl, 0, rfl, Or.inr ⟨rfl, fun z => absurd ((mayT_7 (by omega)).mp z) (head_nex (by omega))⟩, rfl⟩
                        | exact ⟨_, rfl, 0, rfl, Or.inr ⟨rfl, fun z => absurd ((head_ex ho).mp ((mayT_6 (by omega)).mp z)) (by omega)⟩, rfl⟩
                        | exact ⟨_, rfl, 0, rfl, Or.inr ⟨rfl, fun z => absurd ((head_ex ho).mp ((mayT_15 (by omega)).mp z)) (by omega)⟩, rfl⟩
                        | exact ⟨_, rfl, 0, rfl, Or.inr ⟨rfl, fun z => absurd ((head_ex ho).mp ((mayT_7 (by omega)).mp z)) (by omega)⟩, rfl⟩
                        | exact ⟨_, rfl, 0, rfl, Or.inr ⟨rfl, fun z => absurd ((mayT_o (by omega)).mp z) (by omega)⟩, rfl⟩
              · refine am_iload_n rfl dX6_takes_95 ?_
                refine mm_zne (tgt := 123) dX6_takes_96 (by decide) (by omega) (fun h96 => ?_) (fun h96 => ?_)
                · exfalso; omega
                · refine am_aload_n rfl dX6_takes_99 ?_
                  refine mm_getR dX6_takes_100 fl_X6_18 hr0 rfl ?_
                  refine am_iload_n rfl dX6_takes_103 ?_
                  refine mm_ial dX6_takes_104 hr1 (by omega) ?_
                  rw [Int.toNat_natCast]
                  refine mm_iconst dX6_takes_105 ?_
                  refine mm_jeq (tgt := 119) dX6_takes_106 (by decide) (by omega) (by omega) (fun h106 => ?_) (fun h106 => ?_)
                  · refine mm_iconst dX6_takes_119 ?_
                    refine am_goto (tgt := 124) dX6_takes_120 (by decide) ?_
                    refine am_ireturn dX6_takes_124 rfl rfl ?_
                    first
                      | (exfalso; omega)
                      | exact ⟨_, rfl, 1, rfl, Or.inl ⟨rfl, (mayT_6 (by omega)).mpr ((head_ex ho).mpr (by omega))⟩, rfl⟩
                      | exact ⟨_, rfl, 1, rfl, Or.inl ⟨rfl, (mayT_15 (by omega)).mpr ((head_ex ho).mpr (by omega))⟩, rfl⟩
                      | exact ⟨_, rfl, 1, rfl, Or.inl ⟨rfl, (mayT_7 (by omega)).mpr ((head_ex ho).mpr (by omega))⟩, rfl⟩
                      | exact ⟨_, rfl, 1, rfl, Or.inl ⟨rfl, (mayT_o (by omega)).mpr (by omega)⟩, rfl⟩
                      | exact ⟨_, rfl, 0, rfl, Or.inr ⟨rfl, fun z => absurd ((mayT_6 (by omega)).mp z) (head_nex (by omega))⟩, rfl⟩
                      | exact ⟨_, rfl, 0, rfl, Or.inr ⟨rfl, fun z => absurd ((mayT_15 (by omega)).mp z) (head_nex (by omega))⟩, rfl⟩
                      | exact ⟨_, rfl, 0, rfl, Or.inr ⟨rfl, fun z => absurd ((mayT_7 (by omega)).mp z) (head_nex (by omega))⟩, rfl⟩
                      | exact ⟨_, rfl, 0, rfl, Or.inr ⟨rfl, fun z => absurd ((head_ex ho).mp ((mayT_6 (by omega)).mp z)) (by omega)⟩, rfl⟩
                      | exact ⟨_, rfl, 0, rfl, Or.inr ⟨rfl, fun z => absurd ((head_ex ho).mp ((mayT_15 (by omega)).mp z)) (by omega)⟩, rfl⟩
                      | exact ⟨_, rfl, 0, rfl, Or.inr ⟨rfl, fun z => absurd ((head_ex ho).mp ((mayT_7 (by omega)).mp z)) (by omega)⟩, rfl⟩
                      | exact ⟨_, rfl, 0, rfl, Or.inr ⟨rfl, fun z => absurd ((mayT_o (by omega)).mp z) (by omega)⟩, rfl⟩
                  · refine am_aload_n rfl dX6_takes_109 ?_
                    refine mm_getR dX6_takes_110 fl_X6_18 hr0 rfl ?_
                    refine am_iload_n rfl dX6_takes_113 ?_
                    refine mm_ial dX6_takes_114 hr1 (by omega) ?_
                    rw [Int.toNat_natCast]
                    refine mm_iconst dX6_takes_115 ?_
                    refine mm_jne (tgt := 123) dX6_takes_116 (by decide) (by omega) (by omega) (fun h116 => ?_) (fun h116 => ?_)
                    · refine mm_iconst dX6_takes_123 ?_
                      refine am_ireturn dX6_takes_124 rfl rfl ?_
                      first
                        | (exfalso; omega)
                        | exact ⟨_, rfl, 1, rfl, Or.inl ⟨rfl, (mayT_6 (by omega)).mpr ((head_ex ho).mpr (by omega))⟩, rfl⟩
                        | exact ⟨_, rfl, 1, rfl, Or.inl ⟨rfl, (mayT_15 (by omega)).mpr ((head_ex ho).mpr (by omega))⟩, rfl⟩
                        | exact ⟨_, rfl, 1, rfl, Or.inl ⟨rfl, (mayT_7 (by omega)).mpr ((head_ex ho).mpr (by omega))⟩, rfl⟩
                        | exact ⟨_, rfl, 1, rfl, Or.inl ⟨rfl, (mayT_o (by omega)).mpr (by omega)⟩, rfl⟩
                        | exact ⟨_, rfl, 0, rfl, Or.inr ⟨rfl, fun z => absurd ((mayT_6 (by omega)).mp z) (head_nex (by omega))⟩, rfl⟩
                        | exact ⟨_, rfl, 0, rfl, Or.inr ⟨rfl, fun z => absurd ((mayT_15 (by omega)).mp z) (head_nex (by omega))⟩, rfl⟩
                        | exact ⟨_, rfl, 0, rfl, Or.inr ⟨rfl, fun z => absurd ((mayT_7 (by omega)).mp z) (head_nex (by omega))⟩, rfl⟩
                        | exact ⟨_, rfl, 0, rfl, Or.inr ⟨rfl, fun z => absurd ((head_ex ho).mp ((mayT_6 (by omega)).mp z)) (by omega)⟩, rfl⟩
                        | exact ⟨_, rfl, 0, rfl, Or.inr ⟨rfl, fun z => absurd ((head_ex ho).mp ((mayT_15 (by omega)).mp z)) (by omega)⟩, rfl⟩
                        | exact ⟨_, rfl, 0, rfl, Or.inr ⟨rfl, fun z => absurd ((head_ex ho).mp ((mayT_7 (by omega)).mp z)) (by omega)⟩, rfl⟩
                        | exact ⟨_, rfl, 0, rfl, Or.inr ⟨rfl, fun z => absurd ((mayT_o (by omega)).mp z) (by omega)⟩, rfl⟩
                    · refine mm_iconst dX6_takes_119 ?_
                      refine am_goto (tgt := 124) dX6_takes_120 (by decide) ?_
                      refine am_ireturn dX6_takes_124 rfl rfl ?_
                      first
                        | (exfalso; omega)
                        | exact ⟨_, rfl, 1, rfl, Or.inl ⟨rfl, (mayT_6 (by omega)).mpr ((head_ex ho).mpr (by omega))⟩, rfl⟩
                        | exact ⟨_, rfl, 1, rfl, Or.inl ⟨rfl, (mayT_15 (by omega)).mpr ((head_ex ho).mpr (by omega))⟩, rfl⟩
                        | exact ⟨_, rfl, 1, rfl, Or.inl ⟨rfl, (mayT_7 (by omega)).mpr ((head_ex ho).mpr (by omega))⟩, rfl⟩
                        | exact ⟨_, rfl, 1, rfl, Or.inl ⟨rfl, (mayT_o (by omega)).mpr (by omega)⟩, rfl⟩
                        | exact ⟨_, rfl, 0, rfl, Or.inr ⟨rfl, fun z => absurd ((mayT_6 (by omega)).mp z) (head_nex (by omega))⟩, rfl⟩
                        | exact ⟨_, rfl, 0, rfl, Or.inr ⟨rfl, fun z => absurd ((mayT_15 (by omega)).mp z) (head_nex (by omega))⟩, rfl⟩
                        | exact ⟨_, rfl, 0, rfl, Or.inr ⟨rfl, fun z => absurd ((mayT_7 (by omega)).mp z) (head_nex (by omega))⟩, rfl⟩
                        | exact ⟨_, rfl, 0, rfl, Or.inr ⟨rfl, fun z => absurd ((head_ex ho).mp ((mayT_6 (by omega)).mp z)) (by omega)⟩, rfl⟩
                        | exact ⟨_, rfl, 0, rfl, Or.inr ⟨rfl, fun z => absurd ((head_ex ho).mp ((mayT_15 (by omega)).mp z)) (by omega)⟩, rfl⟩
                        | exact ⟨_, rfl, 0, rfl, Or.inr ⟨rfl, fun z => absurd ((head_ex ho).mp ((mayT_7 (by omega)).mp z)) (by omega)⟩, rfl⟩
                        | exact ⟨_, rfl, 0, rfl, Or.inr ⟨rfl, fun z => absurd ((mayT_o (by omega)).mp z) (by omega)⟩, rfl⟩
            · refine mm_iconst dX6_takes_83 ?_
              refine am_goto (tgt := 88) dX6_takes_84 (by decide) ?_
              refine am_ist3 dX6_takes_88 (Nat.le_of_ble_eq_true rfl) (am_c1i _) ?_
              refine am_iload_n rfl dX6_takes_89 ?_
              refine mm_bipush dX6_takes_90 (by decide) ?_
              refine mm_jne (tgt := 125) dX6_takes_92 (by decide) (by omega) (by omega) (fun h92 => ?_) (fun h92 => ?_)
              · refine am_iload_n rfl dX6_takes_125 ?_
                refine mm_bipush dX6_takes_126 (by decide) ?_
                refine mm_jne (tgt := 152) dX6_takes_128 (by decide) (by omega) (by omega) (fun h128 => ?_) (fun h128 => ?_)
                · refine am_iload_n rfl dX6_takes_152 ?_
                  refine mm_zne (tgt := 167) dX6_takes_153 (by decide) (by omega) (fun h153 => ?_) (fun h153 => ?_)
                  · refine mm_iconst dX6_takes_167 ?_
                    refine am_goto (tgt := 172) dX6_takes_168 (by decide) ?_
                    refine am_ireturn dX6_takes_172 rfl rfl ?_
                    first
                      | (exfalso; omega)
                      | exact ⟨_, rfl, 1, rfl, Or.inl ⟨rfl, (mayT_6 (by omega)).mpr ((head_ex ho).mpr (by omega))⟩, rfl⟩
                      | exact ⟨_, rfl, 1, rfl, Or.inl ⟨rfl, (mayT_15 (by omega)).mpr ((head_ex ho).mpr (by omega))⟩, rfl⟩
                      | exact ⟨_, rfl, 1, rfl, Or.inl ⟨rfl, (mayT_7 (by omega)).mpr ((head_ex ho).mpr (by omega))⟩, rfl⟩
                      | exact ⟨_, rfl, 1, rfl, Or.inl ⟨rfl, (mayT_o (by omega)).mpr (by omega)⟩, rfl⟩
                      | exact ⟨_, rfl, 0, rfl, Or.inr ⟨rfl, fun z => absurd ((mayT_6 (by omega)).mp z) (head_nex (by omega))⟩, rfl⟩
                      | exact ⟨_, rfl, 0, rfl, Or.inr ⟨rfl, fun z => absurd ((mayT_15 (by omega)).mp z) (head_nex (by omega))⟩, rfl⟩
                      | exact ⟨_, rfl, 0, rfl, Or.inr ⟨rfl, fun z => absurd ((mayT_7 (by omega)).mp z) (head_nex (by omega))⟩, rfl⟩
                      | exact ⟨_, rfl, 0, rfl, Or.inr ⟨rfl, fun z => absurd ((head_ex ho).mp ((mayT_6 (by omega)).mp z)) (by omega)⟩, rfl⟩
                      | exact ⟨_, rfl, 0, rfl, Or.inr ⟨rfl, fun z => absurd ((head_ex ho).mp ((mayT_15 (by omega)).mp z)) (by omega)⟩, rfl⟩
                      | exact ⟨_, rfl, 0, rfl, Or.inr ⟨rfl, fun z => absurd ((head_ex ho).mp ((mayT_7 (by omega)).mp z)) (by omega)⟩, rfl⟩
                      | exact ⟨_, rfl, 0, rfl, Or.inr ⟨rfl, fun z => absurd ((mayT_o (by omega)).mp z) (by omega)⟩, rfl⟩
                  · exfalso; omega
                · refine am_iload_n rfl dX6_takes_131 ?_
                  refine mm_zne (tgt := 150) dX6_takes_132 (by decide) (by omega) (fun h132 => ?_) (fun h132 => ?_)
                  · refine mm_iconst dX6_takes_150 ?_
                    refine am_ireturn dX6_takes_151 rfl rfl ?_
                    first
                      | (exfalso; omega)
                      | exact ⟨_, rfl, 1, rfl, Or.inl ⟨rfl, (mayT_6 (by omega)).mpr ((head_ex ho).mpr (by omega))⟩, rfl⟩
                      | exact ⟨_, rfl, 1, rfl, Or.inl ⟨rfl, (mayT_15 (by omega)).mpr ((head_ex ho).mpr (by omega))⟩, rfl⟩
                      | exact ⟨_, rfl, 1, rfl, Or.inl ⟨rfl, (mayT_7 (by omega)).mpr ((head_ex ho).mpr (by omega))⟩, rfl⟩
                      | exact ⟨_, rfl, 1, rfl, Or.inl ⟨rfl, (mayT_o (by omega)).mpr (by omega)⟩, rfl⟩
                      | exact ⟨_, rfl, 0, rfl, Or.inr ⟨rfl, fun z => absurd ((mayT_6 (by omega)).mp z) (head_nex (by omega))⟩, rfl⟩
                      | exact ⟨_, rfl, 0, rfl, Or.inr ⟨rfl, fun z => absurd ((mayT_15 (by omega)).mp z) (head_nex (by omega))⟩, rfl⟩
                      | exact ⟨_, rfl, 0, rfl, Or.inr ⟨rfl, fun z => absurd ((mayT_7 (by omega)).mp z) (head_nex (by omega))⟩, rfl⟩
                      | exact ⟨_, rfl, 0, rfl, Or.inr ⟨rfl, fun z => absurd ((head_ex ho).mp ((mayT_6 (by omega)).mp z)) (by omega)⟩, rfl⟩
                      | exact ⟨_, rfl, 0, rfl, Or.inr ⟨rfl, fun z => absurd ((head_ex ho).mp ((mayT_15 (by omega)).mp z)) (by omega)⟩, rfl⟩
                      | exact ⟨_, rfl, 0, rfl, Or.inr ⟨rfl, fun z => absurd ((head_ex ho).mp ((mayT_7 (by omega)).mp z)) (by omega)⟩, rfl⟩
                      | exact ⟨_, rfl, 0, rfl, Or.inr ⟨rfl, fun z => absurd ((mayT_o (by omega)).mp z) (by omega)⟩, rfl⟩
                  · exfalso; omega
              · refine am_iload_n rfl dX6_takes_95 ?_
                refine mm_zne (tgt := 123) dX6_takes_96 (by decide) (by omega) (fun h96 => ?_) (fun h96 => ?_)
                · refine mm_iconst dX6_takes_123 ?_
                  refine am_ireturn dX6_takes_124 rfl rfl ?_
                  first
                    | (exfalso; omega)
                    | exact ⟨_, rfl, 1, rfl, Or.inl ⟨rfl, (mayT_6 (by omega)).mpr ((head_ex ho).mpr (by omega))⟩, rfl⟩
                    | exact ⟨_, rfl, 1, rfl, Or.inl ⟨rfl, (mayT_15 (by omega)).mpr ((head_ex ho).mpr (by omega))⟩, rfl⟩
                    | exact ⟨_, rfl, 1, rfl, Or.inl ⟨rfl, (mayT_7 (by omega)).mpr ((head_ex ho).mpr (by omega))⟩, rfl⟩
                    | exact ⟨_, rfl, 1, rfl, Or.inl ⟨rfl, (mayT_o (by omega)).mpr (by omega)⟩, rfl⟩
                    | exact ⟨_, rfl, 0, rfl, Or.inr ⟨rfl, fun z => absurd ((mayT_6 (by omega)).mp z) (head_nex (by omega))⟩, rfl⟩
                    | exact ⟨_, rfl, 0, rfl, Or.inr ⟨rfl, fun z => absurd ((mayT_15 (by omega)).mp z) (head_nex (by omega))⟩, rfl⟩
                    | exact ⟨_, rfl, 0, rfl, Or.inr ⟨rfl, fun z => absurd ((mayT_7 (by omega)).mp z) (head_nex (by omega))⟩, rfl⟩
                    | exact ⟨_, rfl, 0, rfl, Or.inr ⟨rfl, fun z => absurd ((head_ex ho).mp ((mayT_6 (by omega)).mp z)) (by omega)⟩, rfl⟩
                    | exact ⟨_, rfl, 0, rfl, Or.inr ⟨rfl, fun z => absurd ((head_ex ho).mp ((mayT_15 (by omega)).mp z)) (by omega)⟩, rfl⟩
                    | exact ⟨_, rfl, 0, rfl, Or.inr ⟨rfl, fun z => absurd ((head_ex ho).mp ((mayT_7 (by omega)).mp z)) (by omega)⟩, rfl⟩
                    | exact ⟨_, rfl, 0, rfl, Or.inr ⟨rfl, fun z => absurd ((mayT_o (by omega)).mp z) (by omega)⟩, rfl⟩
                · exfalso; omega
          · refine mm_iconst dX6_takes_59 ?_
            refine am_ireturn dX6_takes_60 rfl rfl ?_
            first
              | (exfalso; omega)
              | exact ⟨_, rfl, 1, rfl, Or.inl ⟨rfl, (mayT_6 (by omega)).mpr ((head_ex ho).mpr (by omega))⟩, rfl⟩
              | exact ⟨_, rfl, 1, rfl, Or.inl ⟨rfl, (mayT_15 (by omega)).mpr ((head_ex ho).mpr (by omega))⟩, rfl⟩
              | exact ⟨_, rfl, 1, rfl, Or.inl ⟨rfl, (mayT_7 (by omega)).mpr ((head_ex ho).mpr (by omega))⟩, rfl⟩
              | exact ⟨_, rfl, 1, rfl, Or.inl ⟨rfl, (mayT_o (by omega)).mpr (by omega)⟩, rfl⟩
              | exact ⟨_, rfl, 0, rfl, Or.inr ⟨rfl, fun z => absurd ((mayT_6 (by omega)).mp z) (head_nex (by omega))⟩, rfl⟩
              | exact ⟨_, rfl, 0, rfl, Or.inr ⟨rfl, fun z => absurd ((mayT_15 (by omega)).mp z) (head_nex (by omega))⟩, rfl⟩
              | exact ⟨_, rfl, 0, rfl, Or.inr ⟨rfl, fun z => absurd ((mayT_7 (by omega)).mp z) (head_nex (by omega))⟩, rfl⟩
              | exact ⟨_, rfl, 0, rfl, Or.inr ⟨rfl, fun z => absurd ((head_ex ho).mp ((mayT_6 (by omega)).mp z)) (by omega)⟩, rfl⟩
              | exact ⟨_, rfl, 0, rfl, Or.inr ⟨rfl, fun z => absurd ((head_ex ho).mp ((mayT_15 (by omega)).mp z)) (by omega)⟩, rfl⟩
              | exact ⟨_, rfl, 0, rfl, Or.inr ⟨rfl, fun z => absurd ((head_ex ho).mp ((mayT_7 (by omega)).mp z)) (by omega)⟩, rfl⟩
              | exact ⟨_, rfl, 0, rfl, Or.inr ⟨rfl, fun z => absurd ((mayT_o (by omega)).mp z) (by omega)⟩, rfl⟩
      · refine am_iload_n rfl dX6_takes_34 ?_
        refine mm_bipush dX6_takes_35 (by decide) ?_
        refine mm_jeq (tgt := 42) dX6_takes_37 (by decide) (by omega) (by omega) (fun h37 => ?_) (fun h37 => ?_)
        · refine am_aload_n rfl dX6_takes_42 ?_
          refine mm_getI dX6_takes_43 fl_X6_15 hr0 rfl ?_
          rw [g1]
          refine mm_iconst dX6_takes_46 ?_
          refine mm_jlt (tgt := 59) dX6_takes_47 (by decide) (by omega) (by omega) (fun h47 => ?_) (fun h47 => ?_)
          · refine mm_iconst dX6_takes_59 ?_
            refine am_ireturn dX6_takes_60 rfl rfl ?_
            first
              | (exfalso; omega)
              | exact ⟨_, rfl, 1, rfl, Or.inl ⟨rfl, (mayT_6 (by omega)).mpr ((head_ex ho).mpr (by omega))⟩, rfl⟩
              | exact ⟨_, rfl, 1, rfl, Or.inl ⟨rfl, (mayT_15 (by omega)).mpr ((head_ex ho).mpr (by omega))⟩, rfl⟩
              | exact ⟨_, rfl, 1, rfl, Or.inl ⟨rfl, (mayT_7 (by omega)).mpr ((head_ex ho).mpr (by omega))⟩, rfl⟩
              | exact ⟨_, rfl, 1, rfl, Or.inl ⟨rfl, (mayT_o (by omega)).mpr (by omega)⟩, rfl⟩
              | exact ⟨_, rfl, 0, rfl, Or.inr ⟨rfl, fun z => absurd ((mayT_6 (by omega)).mp z) (head_nex (by omega))⟩, rfl⟩
              | exact ⟨_, rfl, 0, rfl, Or.inr ⟨rfl, fun z => absurd ((mayT_15 (by omega)).mp z) (head_nex (by omega))⟩, rfl⟩
              | exact ⟨_, rfl, 0, rfl, Or.inr ⟨rfl, fun z => absurd ((mayT_7 (by omega)).mp z) (head_nex (by omega))⟩, rfl⟩
              | exact ⟨_, rfl, 0, rfl, Or.inr ⟨rfl, fun z => absurd ((head_ex ho).mp ((mayT_6 (by omega)).mp z)) (by omega)⟩, rfl⟩
              | exact ⟨_, rfl, 0, rfl, Or.inr ⟨rfl, fun z => absurd ((head_ex ho).mp ((mayT_15 (by omega)).mp z)) (by omega)⟩, rfl⟩
              | exact ⟨_, rfl, 0, rfl, Or.inr ⟨rfl, fun z => absurd ((head_ex ho).mp ((mayT_7 (by omega)).mp z)) (by omega)⟩, rfl⟩
              | exact ⟨_, rfl, 0, rfl, Or.inr ⟨rfl, fun z => absurd ((mayT_o (by omega)).mp z) (by omega)⟩, rfl⟩
          · refine am_aload_n rfl dX6_takes_50 ?_
            refine mm_getI dX6_takes_51 fl_X6_15 hr0 rfl ?_
            rw [g1]
            refine mm_bipush dX6_takes_54 (by decide) ?_
            refine mm_jle (tgt := 61) dX6_takes_56 (by decide) (by omega) (by omega) (fun h56 => ?_) (fun h56 => ?_)
            · obtain ⟨o, ho⟩ : ∃ o, (stk (S (a + 1)) (S a 0).toNat).head? = some o := by
                cases hc : stk (S (a + 1)) (S a 0).toNat with
                | nil => exfalso; have z : (stk (S (a + 1)) (S a 0).toNat).length = 0 := by rw [hc]; rfl
                         omega
                | cons c l => exact ⟨c, rfl⟩
              obtain ⟨q1, q2, q3⟩ := t2.1.top ho
              have hmo : S (a + 8) o = midO (S (a + 1)) (S a 0).toNat o := (t2.2 o q3).1
              have hml := midO_lt (S (a + 1)) (S a 0).toNat o
              have hwo := (t4 o).1
              refine am_aload_n rfl dX6_takes_61 ?_
              refine mm_getR dX6_takes_62 fl_X6_43 hr0 rfl ?_
              refine am_aload_n rfl dX6_takes_65 ?_
              refine mm_getI dX6_takes_66 fl_X6_15 hr0 rfl ?_
              refine mm_iconst dX6_takes_69 ?_
              refine mm_isub dX6_takes_70 ?_
              refine mm_ial dX6_takes_71 hr9 (by omega) ?_
              rw [q1]
              refine am_ist2 dX6_takes_72 (Nat.le_of_ble_eq_true rfl) (am_c1i _) ?_
              refine am_aload_n rfl dX6_takes_73 ?_
              refine mm_getR dX6_takes_74 fl_X6_40 hr0 rfl ?_
              refine am_iload_n rfl dX6_takes_77 ?_
              refine mm_ial dX6_takes_78 hr8 (by omega) ?_
              rw [Int.toNat_natCast, hmo]
              refine mm_iconst dX6_takes_79 ?_
              refine mm_jeq (tgt := 87) dX6_takes_80 (by decide) (by omega) (by omega) (fun h80 => ?_) (fun h80 => ?_)
              · refine mm_iconst dX6_takes_87 ?_
                refine am_ist3 dX6_takes_88 (Nat.le_of_ble_eq_true rfl) (am_c1i _) ?_
                refine am_iload_n rfl dX6_takes_89 ?_
                refine mm_bipush dX6_takes_90 (by decide) ?_
                refine mm_jne (tgt := 125) dX6_takes_92 (by decide) (by omega) (by omega) (fun h92 => ?_) (fun h92 => ?_)
                · refine am_iload_n rfl dX6_takes_125 ?_
                  refine mm_bipush dX6_takes_126 (by decide) ?_
                  refine mm_jne (tgt := 152) dX6_takes_128 (by decide) (by omega) (by omega) (fun h128 => ?_) (fun h128 => ?_)
                  · refine am_iload_n rfl dX6_takes_152 ?_
                    refine mm_zne (tgt := 167) dX6_takes_153 (by decide) (by omega) (fun h153 => ?_) (fun h153 => ?_)
                    · exfalso; omega
                    · refine am_aload_n rfl dX6_takes_156 ?_
                      refine mm_getR dX6_takes_157 fl_X6_18 hr0 rfl ?_
                      refine am_iload_n rfl dX6_takes_160 ?_
                      refine mm_ial dX6_takes_161 hr1 (by omega) ?_
                      rw [Int.toNat_natCast]
                      refine mm_bipush dX6_takes_162 (by decide) ?_
                      refine mm_jeq (tgt := 171) dX6_takes_164 (by decide) (by omega) (by omega) (fun h164 => ?_) (fun h164 => ?_)
                      · refine mm_iconst dX6_takes_171 ?_
                        refine am_ireturn dX6_takes_172 rfl rfl ?_
                        first
                          | (exfalso; omega)
                          | exact ⟨_, rfl, 1, rfl, Or.inl ⟨rfl, (mayT_6 (by omega)).mpr ((head_ex ho).mpr (by omega))⟩, rfl⟩
                          | exact ⟨_, rfl, 1, rfl, Or.inl ⟨rfl, (mayT_15 (by omega)).mpr ((head_ex ho).mpr (by omega))⟩, rfl⟩
                          | exact ⟨_, rfl, 1, rfl, Or.inl ⟨rfl, (mayT_7 (by omega)).mpr ((head_ex ho).mpr (by omega))⟩, rfl⟩
                          | exact ⟨_, rfl, 1, rfl, Or.inl ⟨rfl, (mayT_o (by omega)).mpr (by omega)⟩, rfl⟩
                          | exact ⟨_, rfl, 0, rfl, Or.inr ⟨rfl, fun z => absurd ((mayT_6 (by omega)).mp z) (head_nex (by omega))⟩, rfl⟩
                          | exact ⟨_, rfl, 0, rfl, Or.inr ⟨rfl, fun z => absurd ((mayT_15 (by omega)).mp z) (head_nex (by omega))⟩, rfl⟩
                          | exact ⟨_, rfl, 0, rfl, Or.inr ⟨rfl, fun z => absurd ((mayT_7 (by omega)).mp z) (head_nex (by omega))⟩, rfl⟩
                          | exact ⟨_, rfl, 0, rfl, Or.inr ⟨rfl, fun z => absurd ((head_ex ho).mp ((mayT_6 (by omega)).mp z)) (by omega)⟩, rfl⟩
                          | exact ⟨_, rfl, 0, rfl, Or.inr ⟨rfl, fun z => absurd ((head_ex ho).mp ((mayT_15 (by omega)).mp z)) (by omega)⟩, rfl⟩
                          | exact ⟨_, rfl, 0, rfl, Or.inr ⟨rfl, fun z => absurd ((head_ex ho).mp ((mayT_7 (by omega)).mp z)) (by omega)⟩, rfl⟩
                          | exact ⟨_, rfl, 0, rfl, Or.inr ⟨rfl, fun z => absurd ((mayT_o (by omega)).mp z) (by omega)⟩, rfl⟩
                      · refine mm_iconst dX6_takes_167 ?_
                        refine am_goto (tgt := 172) dX6_takes_168 (by decide) ?_
                        refine am_ireturn dX6_takes_172 rfl rfl ?_
                        first
                          | (exfalso; omega)
                          | exact ⟨_, rfl, 1, rfl, Or.inl ⟨rfl, (mayT_6 (by omega)).mpr ((head_ex ho).mpr (by omega))⟩, rfl⟩
                          | exact ⟨_, rfl, 1, rfl, Or.inl ⟨rfl, (mayT_15 (by omega)).mpr ((head_ex ho).mpr (by omega))⟩, rfl⟩
                          | exact ⟨_, rfl, 1, rfl, Or.inl ⟨rfl, (mayT_7 (by omega)).mpr ((head_ex ho).mpr (by omega))⟩, rfl⟩
                          | exact ⟨_, rfl, 1, rfl, Or.inl ⟨rfl, (mayT_o (by omega)).mpr (by omega)⟩, rfl⟩
                          | exact ⟨_, rfl, 0, rfl, Or.inr ⟨rfl, fun z => absurd ((mayT_6 (by omega)).mp z) (head_nex (by omega))⟩, rfl⟩
                          | exact ⟨_, rfl, 0, rfl, Or.inr ⟨rfl, fun z => absurd ((mayT_15 (by omega)).mp z) (head_nex (by omega))⟩, rfl⟩
                          | exact ⟨_, rfl, 0, rfl, Or.inr ⟨rfl, fun z => absurd ((mayT_7 (by omega)).mp z) (head_nex (by omega))⟩, rfl⟩
                          | exact ⟨_, rfl, 0, rfl, Or.inr ⟨rfl, fun z => absurd ((head_ex ho).mp ((mayT_6 (by omega)).mp z)) (by omega)⟩, rfl⟩
                          | exact ⟨_, rfl, 0, rfl, Or.inr ⟨rfl, fun z => absurd ((head_ex ho).mp ((mayT_15 (by omega)).mp z)) (by omega)⟩, rfl⟩
                          | exact ⟨_, rfl, 0, rfl, Or.inr ⟨rfl, fun z => absurd ((head_ex ho).mp ((mayT_7 (by omega)).mp z)) (by omega)⟩, rfl⟩
                          | exact ⟨_, rfl, 0, rfl, Or.inr ⟨rfl, fun z => absurd ((mayT_o (by omega)).mp z) (by omega)⟩, rfl⟩
                  · refine am_iload_n rfl dX6_takes_131 ?_
                    refine mm_zne (tgt := 150) dX6_takes_132 (by decide) (by omega) (fun h132 => ?_) (fun h132 => ?_)
                    · exfalso; omega
                    · refine am_aload_n rfl dX6_takes_135 ?_
                      refine mm_getR dX6_takes_136 fl_X6_18 hr0 rfl ?_
                      refine am_iload_n rfl dX6_takes_139 ?_
                      refine mm_ial dX6_takes_140 hr1 (by omega) ?_
                      rw [Int.toNat_natCast]
                      refine mm_bipush dX6_takes_141 (by decide) ?_
                      refine mm_jne (tgt := 150) dX6_takes_143 (by decide) (by omega) (by omega) (fun h143 => ?_) (fun h143 => ?_)
                      · refine mm_iconst dX6_takes_150 ?_
                        refine am_ireturn dX6_takes_151 rfl rfl ?_
                        first
                          | (exfalso; omega)
                          | exact ⟨_, rfl, 1, rfl, Or.inl ⟨rfl, (mayT_6 (by omega)).mpr ((head_ex ho).mpr (by omega))⟩, rfl⟩
                          | exact ⟨_, rfl, 1, rfl, Or.inl ⟨rfl, (mayT_15 (by omega)).mpr ((head_ex ho).mpr (by omega))⟩, rfl⟩
                          | exact ⟨_, rfl, 1, rfl, Or.inl ⟨rfl, (mayT_7 (by omega)).mpr ((head_ex ho).mpr (by omega))⟩, rfl⟩
                          | exact ⟨_, rfl, 1, rfl, Or.inl ⟨rfl, (mayT_o (by omega)).mpr (by omega)⟩, rfl⟩
                          | exact ⟨_, rfl, 0, rfl, Or.inr ⟨rfl, fun z => absurd ((mayT_6 (by omega)).mp z) (head_nex (by omega))⟩, rfl⟩
                          | exact ⟨_, rfl, 0, rfl, Or.inr ⟨rfl, fun z => absurd ((mayT_15 (by omega)).mp z) (head_nex (by omega))⟩, rfl⟩
                          | exact ⟨_, rfl, 0, rfl, Or.inr ⟨rfl, fun z => absurd ((mayT_7 (by omega)).mp z) (head_nex (by omega))⟩, rfl⟩
                          | exact ⟨_, rfl, 0, rfl, Or.inr ⟨rfl, fun z => absurd ((head_ex ho).mp ((mayT_6 (by omega)).mp z)) (by omega)⟩, rfl⟩
                          | exact ⟨_, rfl, 0, rfl, Or.inr ⟨rfl, fun z => absurd ((head_ex ho).mp ((mayT_15 (by omega)).mp z)) (by omega)⟩, rfl⟩
                          | exact ⟨_, rfl, 0, rfl, Or.inr ⟨rfl, fun z => absurd ((head_ex ho).mp ((mayT_7 (by omega)).mp z)) (by omega)⟩, rfl⟩
                          | exact ⟨_, rfl, 0, rfl, Or.inr ⟨rfl, fun z => absurd ((mayT_o (by omega)).mp z) (by omega)⟩, rfl⟩
                      · refine mm_iconst dX6_takes_146 ?_
                        refine am_goto (tgt := 151) dX6_takes_147 (by decide) ?_
                        refine am_ireturn dX6_takes_151 rfl rfl ?_
                        first
                          | (exfalso; omega)
                          | exact ⟨_, rfl, 1, rfl, Or.inl ⟨rfl, (mayT_6 (by omega)).mpr ((head_ex ho).mpr (by omega))⟩, rfl⟩
                          | exact ⟨_, rfl, 1, rfl, Or.inl ⟨rfl, (mayT_15 (by omega)).mpr ((head_ex ho).mpr (by omega))⟩, rfl⟩
                          | exact ⟨_, rfl, 1, rfl, Or.inl ⟨rfl, (mayT_7 (by omega)).mpr ((head_ex ho).mpr (by omega))⟩, rfl⟩
                          | exact ⟨_, rfl, 1, rfl, Or.inl ⟨rfl, (mayT_o (by omega)).mpr (by omega)⟩, rfl⟩
                          | exact ⟨_, rfl, 0, rfl, Or.inr ⟨rfl, fun z => absurd ((mayT_6 (by omega)).mp z) (head_nex (by omega))⟩, rfl⟩
                          | exact ⟨_, rfl, 0, rfl, Or.inr ⟨rfl, fun z => absurd ((mayT_15 (by omega)).mp z) (head_nex (by omega))⟩, rfl⟩
                          | exact ⟨_, rfl, 0, rfl, Or.inr ⟨rfl, fun z => absurd ((mayT_7 (by omega)).mp z) (head_nex (by omega))⟩, rfl⟩
                          | exact ⟨_, rfl, 0, rfl, Or.inr ⟨rfl, fun z => absurd ((head_ex ho).mp ((mayT_6 (by omega)).mp z)) (by omega)⟩, rfl⟩
                          | exact ⟨_, rfl, 0, rfl, Or.inr ⟨rfl, fun z => absurd ((head_ex ho).mp ((mayT_15 (by omega)).mp z)) (by omega)⟩, rfl⟩
                          | exact ⟨_, rfl, 0, rfl, Or.inr ⟨rfl, fun z => absurd ((head_ex ho).mp ((mayT_7 (by omega)).mp z)) (by omega)⟩, rfl⟩
                          | exact ⟨_, rfl, 0, rfl, Or.inr ⟨rfl, fun z => absurd ((mayT_o (by omega)).mp z) (by omega)⟩, rfl⟩
                · refine am_iload_n rfl dX6_takes_95 ?_
                  refine mm_zne (tgt := 123) dX6_takes_96 (by decide) (by omega) (fun h96 => ?_) (fun h96 => ?_)
                  · exfalso; omega
                  · refine am_aload_n rfl dX6_takes_99 ?_
                    refine mm_getR dX6_takes_100 fl_X6_18 hr0 rfl ?_
                    refine am_iload_n rfl dX6_takes_103 ?_
                    refine mm_ial dX6_takes_104 hr1 (by omega) ?_
                    rw [Int.toNat_natCast]
                    refine mm_iconst dX6_takes_105 ?_
                    refine mm_jeq (tgt := 119) dX6_takes_106 (by decide) (by omega) (by omega) (fun h106 => ?_) (fun h106 => ?_)
                    · refine mm_iconst dX6_takes_119 ?_
                      refine am_goto (tgt := 124) dX6_takes_120 (by decide) ?_
                      refine am_ireturn dX6_takes_124 rfl rfl ?_
                      first
                        | (exfalso; omega)
                        | exact ⟨_, rfl, 1, rfl, Or.inl ⟨rfl, (mayT_6 (by omega)).mpr ((head_ex ho).mpr (by omega))⟩, rfl⟩
                        | exact ⟨_, rfl, 1, rfl, Or.inl ⟨rfl, (mayT_15 (by omega)).mpr ((head_ex ho).mpr (by omega))⟩, rfl⟩
                        | exact ⟨_, rfl, 1, rfl, Or.inl ⟨rfl, (mayT_7 (by omega)).mpr ((head_ex ho).mpr (by omega))⟩, rfl⟩
                        | exact ⟨_, rfl, 1, rfl, Or.inl ⟨rfl, (mayT_o (by omega)).mpr (by omega)⟩, rfl⟩
                        | exact ⟨_, rfl, 0, rfl, Or.inr ⟨rfl, fun z => absurd ((mayT_6 (by omega)).mp z) (head_nex (by omega))⟩, rfl⟩
                        | exact ⟨_, rfl, 0, rfl, Or.inr ⟨rfl, fun z => absurd ((mayT_15 (by omega)).mp z) (head_nex (by omega))⟩, rfl⟩
                        | exact ⟨_, rfl, 0, rfl, Or.inr ⟨rfl, fun z => absurd ((mayT_7 (by omega)).mp z) (head_nex (by omega))⟩, rfl⟩
                        | exact ⟨_, rfl, 0, rfl, Or.inr ⟨rfl, fun z => absurd ((head_ex ho).mp ((mayT_6 (by omega)).mp z)) (by omega)⟩, rfl⟩
                        | exact ⟨_, rfl, 0, rfl, Or.inr ⟨rfl, fun z => absurd ((head_ex ho).mp ((mayT_15 (by omega)).mp z)) (by omega)⟩, rfl⟩
                        | exact ⟨_, rfl, 0, rfl, Or.inr ⟨rfl, fun z => absurd ((head_ex ho).mp ((mayT_7 (by omega)).mp z)) (by omega)⟩, rfl⟩
                        | exact ⟨_, rfl, 0, rfl, Or.inr ⟨rfl, fun z => absurd ((mayT_o (by omega)).mp z) (by omega)⟩, rfl⟩
                    · refine am_aload_n rfl dX6_takes_109 ?_
                      refine mm_getR dX6_takes_110 fl_X6_18 hr0 rfl ?_
                      refine am_iload_n rfl dX6_takes_113 ?_
                      refine mm_ial dX6_takes_114 hr1 (by omega) ?_
                      rw [Int.toNat_natCast]
                      refine mm_iconst dX6_takes_115 ?_
                      refine mm_jne (tgt := 123) dX6_takes_116 (by decide) (by omega) (by omega) (fun h116 => ?_) (fun h116 => ?_)
                      · refine mm_iconst dX6_takes_123 ?_
                        refine am_ireturn dX6_takes_124 rfl rfl ?_
                        first
                          | (exfalso; omega)
                          | exact ⟨_, rfl, 1, rfl, Or.inl ⟨rfl, (mayT_6 (by omega)).mpr ((head_ex ho).mpr (by omega))⟩, rfl⟩
                          | exact ⟨_, rfl, 1, rfl, Or.inl ⟨rfl, (mayT_15 (by omega)).mpr ((head_ex ho).mpr (by omega))⟩, rfl⟩
                          | exact ⟨_, rfl, 1, rfl, Or.inl ⟨rfl, (mayT_7 (by omega)).mpr ((head_ex ho).mpr (by omega))⟩, rfl⟩
                          | exact ⟨_, rfl, 1, rfl, Or.inl ⟨rfl, (mayT_o (by omega)).mpr (by omega)⟩, rfl⟩
                          | exact ⟨_, rfl, 0, rfl, Or.inr ⟨rfl, fun z => absurd ((mayT_6 (by omega)).mp z) (head_nex (by omega))⟩, rfl⟩
                          | exact ⟨_, rfl, 0, rfl, Or.inr ⟨rfl, fun z => absurd ((mayT_15 (by omega)).mp z) (head_nex (by omega))⟩, rfl⟩
                          | exact ⟨_, rfl, 0, rfl, Or.inr ⟨rfl, fun z => absurd ((mayT_7 (by omega)).mp z) (head_nex (by omega))⟩, rfl⟩
                          | exact ⟨_, rfl, 0, rfl, Or.inr ⟨rfl, fun z => absurd ((head_ex ho).mp ((mayT_6 (by omega)).mp z)) (by omega)⟩, rfl⟩
                          | exact ⟨_, rfl, 0, rfl, Or.inr ⟨rfl, fun z => absurd ((head_ex ho).mp ((mayT_15 (by omega)).mp z)) (by omega)⟩, rfl⟩
                          | exact ⟨_, rfl, 0, rfl, Or.inr ⟨rfl, fun z => absurd ((head_ex ho).mp ((mayT_7 (by omega)).mp z)) (by omega)⟩, rfl⟩
                          | exact ⟨_, rfl, 0, rfl, Or.inr ⟨rfl, fun z => absurd ((mayT_o (by omega)).mp z) (by omega)⟩, rfl⟩
                      · refine mm_iconst dX6_takes_119 ?_
                        refine am_goto (tgt := 124) dX6_takes_120 (by decide) ?_
                        refine am_ireturn dX6_takes_124 rfl rfl ?_
                        first
                          | (exfalso; omega)
                          | exact ⟨_, rfl, 1, rfl, Or.inl ⟨rfl, (mayT_6 (by omega)).mpr ((head_ex ho).mpr (by omega))⟩, rfl⟩
                          | exact ⟨_, rfl, 1, rfl, Or.inl ⟨rfl, (mayT_15 (by omega)).mpr ((head_ex ho).mpr (by omega))⟩, rfl⟩
                          | exact ⟨_, rfl, 1, rfl, Or.inl ⟨rfl, (mayT_7 (by omega)).mpr ((head_ex ho).mpr (by omega))⟩, rfl⟩
                          | exact ⟨_, rfl, 1, rfl, Or.inl ⟨rfl, (mayT_o (by omega)).mpr (by omega)⟩, rfl⟩
                          | exact ⟨_, rfl, 0, rfl, Or.inr ⟨rfl, fun z => absurd ((mayT_6 (by omega)).mp z) (head_nex (by omega))⟩, rfl⟩
                          | exact ⟨_, rfl, 0, rfl, Or.inr ⟨rfl, fun z => absurd ((mayT_15 (by omega)).mp z) (head_nex (by omega))⟩, rfl⟩
                          | exact ⟨_, rfl, 0, rfl, Or.inr ⟨rfl, fun z => absurd ((mayT_7 (by omega)).mp z) (head_nex (by omega))⟩, rfl⟩
                          | exact ⟨_, rfl, 0, rfl, Or.inr ⟨rfl, fun z => absurd ((head_ex ho).mp ((mayT_6 (by omega)).mp z)) (by omega)⟩, rfl⟩
                          | exact ⟨_, rfl, 0, rfl, Or.inr ⟨rfl, fun z => absurd ((head_ex ho).mp ((mayT_15 (by omega)).mp z)) (by omega)⟩, rfl⟩
                          | exact ⟨_, rfl, 0, rfl, Or.inr ⟨rfl, fun z => absurd ((head_ex ho).mp ((mayT_7 (by omega)).mp z)) (by omega)⟩, rfl⟩
                          | exact ⟨_, rfl, 0, rfl, Or.inr ⟨rfl, fun z => absurd ((mayT_o (by omega)).mp z) (by omega)⟩, rfl⟩
              · refine mm_iconst dX6_takes_83 ?_
                refine am_goto (tgt := 88) dX6_takes_84 (by decide) ?_
                refine am_ist3 dX6_takes_88 (Nat.le_of_ble_eq_true rfl) (am_c1i _) ?_
                refine am_iload_n rfl dX6_takes_89 ?_
                refine mm_bipush dX6_takes_90 (by decide) ?_
                refine mm_jne (tgt := 125) dX6_takes_92 (by decide) (by omega) (by omega) (fun h92 => ?_) (fun h92 => ?_)
                · refine am_iload_n rfl dX6_takes_125 ?_
                  refine mm_bipush dX6_takes_126 (by decide) ?_
                  refine mm_jne (tgt := 152) dX6_takes_128 (by decide) (by omega) (by omega) (fun h128 => ?_) (fun h128 => ?_)
                  · refine am_iload_n rfl dX6_takes_152 ?_
                    refine mm_zne (tgt := 167) dX6_takes_153 (by decide) (by omega) (fun h153 => ?_) (fun h153 => ?_)
                    · refine mm_iconst dX6_takes_167 ?_
                      refine am_goto (tgt := 172) dX6_takes_168 (by decide) ?_
                      refine am_ireturn dX6_takes_172 rfl rfl ?_
                      first
                        | (exfalso; omega)
                        | exact ⟨_, rfl, 1, rfl, Or.inl ⟨rfl, (mayT_6 (by omega)).mpr ((head_ex ho).mpr (by omega))⟩, rfl⟩
                        | exact ⟨_, rfl, 1, rfl, Or.inl ⟨rfl, (mayT_15 (by omega)).mpr ((head_ex ho).mpr (by omega))⟩, rfl⟩
                        | exact ⟨_, rfl, 1, rfl, Or.inl ⟨rfl, (mayT_7 (by omega)).mpr ((head_ex ho).mpr (by omega))⟩, rfl⟩
                        | exact ⟨_, rfl, 1, rfl, Or.inl ⟨rfl, (mayT_o (by omega)).mpr (by omega)⟩, rfl⟩
                        | exact ⟨_, rfl, 0, rfl, Or.inr ⟨rfl, fun z => absurd ((mayT_6 (by omega)).mp z) (head_nex (by omega))⟩, rfl⟩
                        | exact ⟨_, rfl, 0, rfl, Or.inr ⟨rfl, fun z => absurd ((mayT_15 (by omega)).mp z) (head_nex (by omega))⟩, rfl⟩
                        | exact ⟨_, rfl, 0, rfl, Or.inr ⟨rfl, fun z => absurd ((mayT_7 (by omega)).mp z) (head_nex (by omega))⟩, rfl⟩
                        | exact ⟨_, rfl, 0, rfl, Or.inr ⟨rfl, fun z => absurd ((head_ex ho).mp ((mayT_6 (by omega)).mp z)) (by omega)⟩, rfl⟩
                        | exact ⟨_, rfl, 0, rfl, Or.inr ⟨rfl, fun z => absurd ((head_ex ho).mp ((mayT_15 (by omega)).mp z)) (by omega)⟩, rfl⟩
                        | exact ⟨_, rfl, 0, rfl, Or.inr ⟨rfl, fun z => absurd ((head_ex ho).mp ((mayT_7 (by omega)).mp z)) (by omega)⟩, rfl⟩
                        | exact ⟨_, rfl, 0, rfl, Or.inr ⟨rfl, fun z => absurd ((mayT_o (by omega)).mp z) (by omega)⟩, rfl⟩
                    · exfalso; omega
                  · refine am_iload_n rfl dX6_takes_131 ?_
                    refine mm_zne (tgt := 150) dX6_takes_132 (by decide) (by omega) (fun h132 => ?_) (fun h132 => ?_)
                    · refine mm_iconst dX6_takes_150 ?_
                      refine am_ireturn dX6_takes_151 rfl rfl ?_
                      first
                        | (exfalso; omega)
                        | exact ⟨_, rfl, 1, rfl, Or.inl ⟨rfl, (mayT_6 (by omega)).mpr ((head_ex ho).mpr (by omega))⟩, rfl⟩
                        | exact ⟨_, rfl, 1, rfl, Or.inl ⟨rfl, (mayT_15 (by omega)).mpr ((head_ex ho).mpr (by omega))⟩, rfl⟩
                        | exact ⟨_, rfl, 1, rfl, Or.inl ⟨rfl, (mayT_7 (by omega)).mpr ((head_ex ho).mpr (by omega))⟩, rfl⟩
                        | exact ⟨_, rfl, 1, rfl, Or.inl ⟨rfl, (mayT_o (by omega)).mpr (by omega)⟩, rfl⟩
                        | exact ⟨_, rfl, 0, rfl, Or.inr ⟨rfl, fun z => absurd ((mayT_6 (by omega)).mp z) (head_nex (by omega))⟩, rfl⟩
                        | exact ⟨_, rfl, 0, rfl, Or.inr ⟨rfl, fun z => absurd ((mayT_15 (by omega)).mp z) (head_nex (by omega))⟩, rfl⟩
                        | exact ⟨_, rfl, 0, rfl, Or.inr ⟨rfl, fun z => absurd ((mayT_7 (by omega)).mp z) (head_nex (by omega))⟩, rfl⟩
                        | exact ⟨_, rfl, 0, rfl, Or.inr ⟨rfl, fun z => absurd ((head_ex ho).mp ((mayT_6 (by omega)).mp z)) (by omega)⟩, rfl⟩
                        | exact ⟨_, rfl, 0, rfl, Or.inr ⟨rfl, fun z => absurd ((head_ex ho).mp ((mayT_15 (by omega)).mp z)) (by omega)⟩, rfl⟩
                        | exact ⟨_, rfl, 0, rfl, Or.inr ⟨rfl, fun z => absurd ((head_ex ho).mp ((mayT_7 (by omega)).mp z)) (by omega)⟩, rfl⟩
                        | exact ⟨_, rfl, 0, rfl, Or.inr ⟨rfl, fun z => absurd ((mayT_o (by omega)).mp z) (by omega)⟩, rfl⟩
                    · exfalso; omega
                · refine am_iload_n rfl dX6_takes_95 ?_
                  refine mm_zne (tgt := 123) dX6_takes_96 (by decide) (by omega) (fun h96 => ?_) (fun h96 => ?_)
                  · refine mm_iconst dX6_takes_123 ?_
                    refine am_ireturn dX6_takes_124 rfl rfl ?_
                    first
                      | (exfalso; omega)
                      | exact ⟨_, rfl, 1, rfl, Or.inl ⟨rfl, (mayT_6 (by omega)).mpr ((head_ex ho).mpr (by omega))⟩, rfl⟩
                      | exact ⟨_, rfl, 1, rfl, Or.inl ⟨rfl, (mayT_15 (by omega)).mpr ((head_ex ho).mpr (by omega))⟩, rfl⟩
                      | exact ⟨_, rfl, 1, rfl, Or.inl ⟨rfl, (mayT_7 (by omega)).mpr ((head_ex ho).mpr (by omega))⟩, rfl⟩
                      | exact ⟨_, rfl, 1, rfl, Or.inl ⟨rfl, (mayT_o (by omega)).mpr (by omega)⟩, rfl⟩
                      | exact ⟨_, rfl, 0, rfl, Or.inr ⟨rfl, fun z => absurd ((mayT_6 (by omega)).mp z) (head_nex (by omega))⟩, rfl⟩
                      | exact ⟨_, rfl, 0, rfl, Or.inr ⟨rfl, fun z => absurd ((mayT_15 (by omega)).mp z) (head_nex (by omega))⟩, rfl⟩
                      | exact ⟨_, rfl, 0, rfl, Or.inr ⟨rfl, fun z => absurd ((mayT_7 (by omega)).mp z) (head_nex (by omega))⟩, rfl⟩
                      | exact ⟨_, rfl, 0, rfl, Or.inr ⟨rfl, fun z => absurd ((head_ex ho).mp ((mayT_6 (by omega)).mp z)) (by omega)⟩, rfl⟩
                      | exact ⟨_, rfl, 0, rfl, Or.inr ⟨rfl, fun z => absurd ((head_ex ho).mp ((mayT_15 (by omega)).mp z)) (by omega)⟩, rfl⟩
                      | exact ⟨_, rfl, 0, rfl, Or.inr ⟨rfl, fun z => absurd ((head_ex ho).mp ((mayT_7 (by omega)).mp z)) (by omega)⟩, rfl⟩
                      | exact ⟨_, rfl, 0, rfl, Or.inr ⟨rfl, fun z => absurd ((mayT_o (by omega)).mp z) (by omega)⟩, rfl⟩
                  · exfalso; omega
            · refine mm_iconst dX6_takes_59 ?_
              refine am_ireturn dX6_takes_60 rfl rfl ?_
              first
                | (exfalso; omega)
                | exact ⟨_, rfl, 1, rfl, Or.inl ⟨rfl, (mayT_6 (by omega)).mpr ((head_ex ho).mpr (by omega))⟩, rfl⟩
                | exact ⟨_, rfl, 1, rfl, Or.inl ⟨rfl, (mayT_15 (by omega)).mpr ((head_ex ho).mpr (by omega))⟩, rfl⟩
                | exact ⟨_, rfl, 1, rfl, Or.inl ⟨rfl, (mayT_7 (by omega)).mpr ((head_ex ho).mpr (by omega))⟩, rfl⟩
                | exact ⟨_, rfl, 1, rfl, Or.inl ⟨rfl, (mayT_o (by omega)).mpr (by omega)⟩, rfl⟩
                | exact ⟨_, rfl, 0, rfl, Or.inr ⟨rfl, fun z => absurd ((mayT_6 (by omega)).mp z) (head_nex (by omega))⟩, rfl⟩
                | exact ⟨_, rfl, 0, rfl, Or.inr ⟨rfl, fun z => absurd ((mayT_15 (by omega)).mp z) (head_nex (by omega))⟩, rfl⟩
                | exact ⟨_, rfl, 0, rfl, Or.inr ⟨rfl, fun z => absurd ((mayT_7 (by omega)).mp z) (head_nex (by omega))⟩, rfl⟩
                | exact ⟨_, rfl, 0, rfl, Or.inr ⟨rfl, fun z => absurd ((head_ex ho).mp ((mayT_6 (by omega)).mp z)) (by omega)⟩, rfl⟩
                | exact ⟨_, rfl, 0, rfl, Or.inr ⟨rfl, fun z => absurd ((head_ex ho).mp ((mayT_15 (by omega)).mp z)) (by omega)⟩, rfl⟩
                | exact ⟨_, rfl, 0, rfl, Or.inr ⟨rfl, fun z => absurd ((head_ex ho).mp ((mayT_7 (by omega)).mp z)) (by omega)⟩, rfl⟩
                | exact ⟨_, rfl, 0, rfl, Or.inr ⟨rfl, fun z => absurd ((mayT_o (by omega)).mp z) (by omega)⟩, rfl⟩
        · refine mm_iconst dX6_takes_40 ?_
          refine am_ireturn dX6_takes_41 rfl rfl ?_
          first
            | (exfalso; omega)
            | exact ⟨_, rfl, 1, rfl, Or.inl ⟨rfl, (mayT_6 (by omega)).mpr ((head_ex ho).mpr (by omega))⟩, rfl⟩
            | exact ⟨_, rfl, 1, rfl, Or.inl ⟨rfl, (mayT_15 (by omega)).mpr ((head_ex ho).mpr (by omega))⟩, rfl⟩
            | exact ⟨_, rfl, 1, rfl, Or.inl ⟨rfl, (mayT_7 (by omega)).mpr ((head_ex ho).mpr (by omega))⟩, rfl⟩
            | exact ⟨_, rfl, 1, rfl, Or.inl ⟨rfl, (mayT_o (by omega)).mpr (by omega)⟩, rfl⟩
            | exact ⟨_, rfl, 0, rfl, Or.inr ⟨rfl, fun z => absurd ((mayT_6 (by omega)).mp z) (head_nex (by omega))⟩, rfl⟩
            | exact ⟨_, rfl, 0, rfl, Or.inr ⟨rfl, fun z => absurd ((mayT_15 (by omega)).mp z) (head_nex (by omega))⟩, rfl⟩
            | exact ⟨_, rfl, 0, rfl, Or.inr ⟨rfl, fun z => absurd ((mayT_7 (by omega)).mp z) (head_nex (by omega))⟩, rfl⟩
            | exact ⟨_, rfl, 0, rfl, Or.inr ⟨rfl, fun z => absurd ((head_ex ho).mp ((mayT_6 (by omega)).mp z)) (by omega)⟩, rfl⟩
            | exact ⟨_, rfl, 0, rfl, Or.inr ⟨rfl, fun z => absurd ((head_ex ho).mp ((mayT_15 (by omega)).mp z)) (by omega)⟩, rfl⟩
            | exact ⟨_, rfl, 0, rfl, Or.inr ⟨rfl, fun z => absurd ((head_ex ho).mp ((mayT_7 (by omega)).mp z)) (by omega)⟩, rfl⟩
            | exact ⟨_, rfl, 0, rfl, Or.inr ⟨rfl, fun z => absurd ((mayT_o (by omega)).mp z) (by omega)⟩, rfl⟩
  · refine am_aload_n rfl dX6_takes_7 ?_
    refine mm_getI dX6_takes_8 fl_X6_15 hr0 rfl ?_
    rw [g1]
    refine mm_bipush dX6_takes_11 (by decide) ?_
    refine mm_jge (tgt := 20) dX6_takes_13 (by decide) (by omega) (by omega) (fun h13 => ?_) (fun h13 => ?_)
    · refine mm_iconst dX6_takes_20 ?_
      refine am_ireturn dX6_takes_21 rfl rfl ?_
      first
        | (exfalso; omega)
        | exact ⟨_, rfl, 1, rfl, Or.inl ⟨rfl, (mayT_6 (by omega)).mpr ((head_ex ho).mpr (by omega))⟩, rfl⟩
        | exact ⟨_, rfl, 1, rfl, Or.inl ⟨rfl, (mayT_15 (by omega)).mpr ((head_ex ho).mpr (by omega))⟩, rfl⟩
        | exact ⟨_, rfl, 1, rfl, Or.inl ⟨rfl, (mayT_7 (by omega)).mpr ((head_ex ho).mpr (by omega))⟩, rfl⟩
        | exact ⟨_, rfl, 1, rfl, Or.inl ⟨rfl, (mayT_o (by omega)).mpr (by omega)⟩, rfl⟩
        | exact ⟨_, rfl, 0, rfl, Or.inr ⟨rfl, fun z => absurd ((mayT_6 (by omega)).mp z) (head_nex (by omega))⟩, rfl⟩
        | exact ⟨_, rfl, 0, rfl, Or.inr ⟨rfl, fun z => absurd ((mayT_15 (by omega)).mp z) (head_nex (by omega))⟩, rfl⟩
        | exact ⟨_, rfl, 0, rfl, Or.inr ⟨rfl, fun z => absurd ((mayT_7 (by omega)).mp z) (head_nex (by omega))⟩, rfl⟩
        | exact ⟨_, rfl, 0, rfl, Or.inr ⟨rfl, fun z => absurd ((head_ex ho).mp ((mayT_6 (by omega)).mp z)) (by omega)⟩, rfl⟩
        | exact ⟨_, rfl, 0, rfl, Or.inr ⟨rfl, fun z => absurd ((head_ex ho).mp ((mayT_15 (by omega)).mp z)) (by omega)⟩, rfl⟩
        | exact ⟨_, rfl, 0, rfl, Or.inr ⟨rfl, fun z => absurd ((head_ex ho).mp ((mayT_7 (by omega)).mp z)) (by omega)⟩, rfl⟩
        | exact ⟨_, rfl, 0, rfl, Or.inr ⟨rfl, fun z => absurd ((mayT_o (by omega)).mp z) (by omega)⟩, rfl⟩
    · refine mm_iconst dX6_takes_16 ?_
      refine am_goto (tgt := 21) dX6_takes_17 (by decide) ?_
      refine am_ireturn dX6_takes_21 rfl rfl ?_
      first
        | (exfalso; omega)
        | exact ⟨_, rfl, 1, rfl, Or.inl ⟨rfl, (mayT_6 (by omega)).mpr ((head_ex ho).mpr (by omega))⟩, rfl⟩
        | exact ⟨_, rfl, 1, rfl, Or.inl ⟨rfl, (mayT_15 (by omega)).mpr ((head_ex ho).mpr (by omega))⟩, rfl⟩
        | exact ⟨_, rfl, 1, rfl, Or.inl ⟨rfl, (mayT_7 (by omega)).mpr ((head_ex ho).mpr (by omega))⟩, rfl⟩
        | exact ⟨_, rfl, 1, rfl, Or.inl ⟨rfl, (mayT_o (by omega)).mpr (by omega)⟩, rfl⟩
        | exact ⟨_, rfl, 0, rfl, Or.inr ⟨rfl, fun z => absurd ((mayT_6 (by omega)).mp z) (head_nex (by omega))⟩, rfl⟩
        | exact ⟨_, rfl, 0, rfl, Or.inr ⟨rfl, fun z => absurd ((mayT_15 (by omega)).mp z) (head_nex (by omega))⟩, rfl⟩
        | exact ⟨_, rfl, 0, rfl, Or.inr ⟨rfl, fun z => absurd ((mayT_7 (by omega)).mp z) (head_nex (by omega))⟩, rfl⟩
        | exact ⟨_, rfl, 0, rfl, Or.inr ⟨rfl, fun z => absurd ((head_ex ho).mp ((mayT_6 (by omega)).mp z)) (by omega)⟩, rfl⟩
        | exact ⟨_, rfl, 0, rfl, Or.inr ⟨rfl, fun z => absurd ((head_ex ho).mp ((mayT_15 (by omega)).mp z)) (by omega)⟩, rfl⟩
        | exact ⟨_, rfl, 0, rfl, Or.inr ⟨rfl, fun z => absurd ((head_ex ho).mp ((mayT_7 (by omega)).mp z)) (by omega)⟩, rfl⟩
        | exact ⟨_, rfl, 0, rfl, Or.inr ⟨rfl, fun z => absurd ((mayT_o (by omega)).mp z) (by omega)⟩, rfl⟩
def apS (S : mm_S) (a : Nat) (x y z : Int) : mm_S := up2 (up2 (up2 (up2 S (a + 1) (S a 0).toNat x) (a + 2) (S a 0).toNat y) (a + 3) (S a 0).toNat z) a 0 (S a 0 + 1)
theorem ap_so {S : mm_S} {a : Nat} {x y z : Int} : apS S a x y z (a + 1) = fun j => if j = (S a 0).toNat then x else S (a + 1) j := by
  funext j
  unfold apS
  rw [up2_rd (by omega), up2_rd (by omega), up2_rd (by omega)]
  by_cases hj : j = (S a 0).toNat
  · rw [if_pos hj, hj, up2_same]
  · rw [if_neg hj, up2_rc hj]
theorem ap_wf {S : mm_S} {a : Nat} {x y z : Int} (h : rtI S a) (hx : 0 ≤ x ∧ x ≤ 15) (hm : mayT (S (a + 1)) (S a 0).toNat x) : wfP (apS S a x y z (a + 1)) ((S a 0).toNat + 1) := by
  rw [ap_so]
  have e : ∀ i, i < (S a 0).toNat → S (a + 1) i = (fun j => if j = (S a 0).toNat then x else S (a + 1) j) i := fun i hi => by simp only []; rw [if_neg (by omega)]
  refine wfP_snoc (wfP_congr e h.2.1) ?_ ?_
  · simp only [if_pos]; exact hx
  · simp only [if_pos]
    exact (mayT_congr e).mp hm
set_option maxRecDepth 100000 in
set_option maxHeartbeats 4000000 in
theorem c_append {sh : List mm_H} {S : mm_S} {L : mm_L} {a : Nat} (hr : rtS sh a) (hR : rtI S a) {x y z : Int} (hn : S a 0 < 24) (hx : 0 ≤ x ∧ x ≤ 15) (hm : mayT (S (a + 1)) (S a 0).toNat x) : am_E eX6_append [.ref a, .int (iI x), .int (iI y), .int (iI z)] (mm sh S L) (fun r M' => r = none ∧ ∃ S2, M' = mm sh S2 L ∧ lkF (apS S a x y z) S2 a ∧ lkI S2 (apS S a x y z (a + 1)) a ((S a 0).toNat + 1) ∧ S2 (a + 7) ((S a 0).toNat + 1) = 0) := by
  obtain ⟨hr0, hr1, hr2, hr3, hr4, hr5, hr6, hr7, hr8, hr9⟩ := hr
  obtain ⟨t0, t1, t2, t3, t4⟩ := id hR
  have hlen := stk_len t1
  have g1 := t2.1.1
  refine am_enter rfl rfl (Nat.le_of_ble_eq_true rfl) ?_
  refine am_aload_n rfl dX6_append_0 ?_
  refine mm_getI dX6_append_1 fl_X6_9 hr0 rfl ?_
  refine mm_bipush dX6_append_4 (by decide) ?_
  refine mm_jlt (tgt := 10) dX6_append_6 (by decide) (by omega) (by omega) (fun h6 => ?_) (fun h6 => ?_)
  · refine am_aload_n rfl dX6_append_10 ?_
    refine mm_getR dX6_append_11 fl_X6_18 hr0 rfl ?_
    refine am_aload_n rfl dX6_append_14 ?_
    refine mm_getI dX6_append_15 fl_X6_9 hr0 rfl ?_
    refine am_iload_n rfl dX6_append_18 ?_
    refine mm_ias dX6_append_19 hr1 (by omega) ?_
    refine am_aload_n rfl dX6_append_20 ?_
    refine mm_getR dX6_append_21 fl_X6_22 hr0 rfl ?_
    refine am_aload_n rfl dX6_append_24 ?_
    refine mm_getI dX6_append_25 fl_X6_9 hr0 rfl ?_
    try simp (disch := omega) only [up2_rd, up2_rc, up2_same]
    refine am_iload_n rfl dX6_append_28 ?_
    refine mm_ias dX6_append_29 hr2 (by omega) ?_
    refine am_aload_n rfl dX6_append_30 ?_
    refine mm_getR dX6_append_31 fl_X6_25 hr0 rfl ?_
    refine am_aload_n rfl dX6_append_34 ?_
    refine mm_getI dX6_append_35 fl_X6_9 hr0 rfl ?_
    try simp (disch := omega) only [up2_rd, up2_rc, up2_same]
    refine am_iload_n rfl dX6_append_38 ?_
    refine mm_ias dX6_append_39 hr3 (by omega) ?_
    refine am_aload_n rfl dX6_append_40 ?_
    refine am_dup rfl dX6_append_41 ?_
    refine mm_getI dX6_append_42 fl_X6_9 hr0 rfl ?_
    try simp (disch := omega) only [up2_rd, up2_rc, up2_same]
    refine mm_iconst dX6_append_45 ?_
    refine mm_iadd dX6_append_46 ?_
    refine mm_putI dX6_append_47 fp_X6_9 hr0 rfl ?_
    refine am_aload_n rfl dX6_append_50 ?_
    refine am_cxv (mm_V0 dX6_append_51 in_X6_link mk_X6_50 im_X6_link sl_X6_link ⟨Nat.le_of_ble_eq_true rfl, Nat.le_of_ble_eq_true rfl⟩ rfl hr0 (Nat.le_of_ble_eq_true rfl)) (c_link (S := apS S a x y z) ⟨hr0, hr1, hr2, hr3, hr4, hr5, hr6, hr7, hr8, hr9⟩ (n := (S a 0).toNat + 1) (s := apS S a x y z (a + 1)) (by unfold apS; rw [up2_same]; omega) (by omega) (fun _ _ => rfl) (ap_wf hR hx hm)) (fun M1 hM1 => ?_)
    refine am_return dX6_append_54 rfl ?_
    exact ⟨rfl, hM1⟩
  · refine am_return dX6_append_9 rfl ?_
    exfalso; omega
def rmS (S : mm_S) (a : Nat) : mm_S := up2 S a 0 (S a 0 - 1)
set_option maxRecDepth 100000 in
set_option maxHeartbeats 4000000 in
theorem c_removeLast {sh : List mm_H} {S : mm_S} {L : mm_L} {a : Nat} (hr : rtS sh a) (hR : rtI S a) (hn : 1 ≤ S a 0) : am_E eX6_removeLast [.ref a] (mm sh S L) (fun r M' => r = none ∧ ∃ S2, M' = mm sh S2 L ∧ lkF (rmS S a) S2 a ∧ lkI S2 (S (a + 1)) a ((S a 0).toNat - 1) ∧ S2 (a + 7) ((S a 0).toNat - 1) = 0) := by
  obtain ⟨hr0, hr1, hr2, hr3, hr4, hr5, hr6, hr7, hr8, hr9⟩ := hr
  obtain ⟨t0, t1, t2, t3, t4⟩ := id hR
  have hlen := stk_len t1
  have g1 := t2.1.1
  refine am_enter rfl rfl (Nat.le_of_ble_eq_true rfl) ?_
  refine am_aload_n rfl dX6_removeLast_0 ?_
  refine mm_getI dX6_removeLast_1 fl_X6_9 hr0 rfl ?_
  refine mm_iconst dX6_removeLast_4 ?_
  refine mm_jge (tgt := 9) dX6_removeLast_5 (by decide) (by omega) (by omega) (fun h5 => ?_) (fun h5 => ?_)
  · refine am_aload_n rfl dX6_removeLast_9 ?_
    refine am_dup rfl dX6_removeLast_10 ?_
    refine mm_getI dX6_removeLast_11 fl_X6_9 hr0 rfl ?_
    refine mm_iconst dX6_removeLast_14 ?_
    refine mm_isub dX6_removeLast_15 ?_
    refine mm_putI dX6_removeLast_16 fp_X6_9 hr0 rfl ?_
    refine am_aload_n rfl dX6_removeLast_19 ?_
    refine am_cxv (mm_V0 dX6_removeLast_20 in_X6_link mk_X6_50 im_X6_link sl_X6_link ⟨Nat.le_of_ble_eq_true rfl, Nat.le_of_ble_eq_true rfl⟩ rfl hr0 (Nat.le_of_ble_eq_true rfl)) (c_link (S := rmS S a) ⟨hr0, hr1, hr2, hr3, hr4, hr5, hr6, hr7, hr8, hr9⟩ (n := (S a 0).toNat - 1) (s := S (a + 1)) (by unfold rmS; rw [up2_same]; omega) (by omega) (fun j _ => by unfold rmS; rw [up2_rd (by omega)]) (wfP_le t1 (by omega))) (fun M1 hM1 => ?_)
    refine am_return dX6_removeLast_23 rfl ?_
    exact ⟨rfl, hM1⟩
  · refine am_return dX6_removeLast_8 rfl ?_
    exfalso; omega
abbrev cCall (S : mm_S) (a i : Nat) (m : Int) : Prop := (S (a + 1) i = 10 ∨ S (a + 1) i = 11) → S (a + 2) i < m
set_option maxRecDepth 100000 in
set_option maxHeartbeats 4000000 in
theorem l_beyond {sh : List mm_H} {S : mm_S} {L : mm_L} {a : Nat} (hr : rtS sh a) (hR : rtI S a) {m : Int} (hm : Rg m) : ∀ (q : Nat) (i : Nat), (S a 0).toNat - i < q → ((i : Int) ≤ S a 0) → (∀ j : Nat, j < i → cCall S a j m) → am_AW eX6_callsBeyond (mm sh S L) 2 [some (.ref a), some (.int (iI m)), some (.int (iI (i : Int)))] [] (fun r M' => ∃ w, r = some (.int w) ∧ ∃ v, w = iI v ∧ tells v (¬ ∀ j : Nat, (j : Int) < S a 0 → cCall S a j m) ∧ M' = mm sh S L) := by
  intro q
  induction q with
  | zero =>
    intro i hq
    exact absurd hq (Nat.not_lt_zero _)
  | succ q ih =>
    intro i hq hi hb
    obtain ⟨hr0, hr1, hr2, hr3, hr4, hr5, hr6, hr7, hr8, hr9⟩ := hr
    obtain ⟨t0, t1, t2, t3, t4⟩ := id hR
    have hlen := stk_len t1
    have g1 := t2.1.1
    refine am_iload_n rfl dX6_callsBeyond_2 ?_
    refine am_aload_n rfl dX6_callsBeyond_3 ?_
    refine mm_getI dX6_callsBeyond_4 fl_X6_9 hr0 rfl ?_
    refine mm_jge (tgt := 40) dX6_callsBeyond_7 (by decide) (by omega) (by omega) (fun h7 => ?_) (fun h7 => ?_)
    · refine mm_iconst dX6_callsBeyond_40 ?_
      refine am_ireturn dX6_callsBeyond_41 rfl rfl ?_
      exact ⟨_, rfl, 0, rfl, Or.inr ⟨rfl, fun z => z (fun j hj => hb j (by omega))⟩, rfl⟩
    · have hv := t4 i
      refine am_aload_n rfl dX6_callsBeyond_10 ?_
      refine mm_getR dX6_callsBeyond_11 fl_X6_18 hr0 rfl ?_
      refine am_iload_n rfl dX6_callsBeyond_14 ?_
      refine mm_ial dX6_callsBeyond_15 hr1 (by omega) ?_
      rw [Int.toNat_natCast]
      refine am_ci (mm_SN1 dX6_callsBeyond_16 in_X9_isCall mk_X6_53 st_X9_isCall ⟨Nat.le_of_ble_eq_true rfl, Nat.le_of_ble_eq_true rfl⟩ (Nat.le_of_ble_eq_true rfl)) (c_isCall (by omega)) ?_
      refine mm_beq (tgt := 34) dX6_callsBeyond_19 (by decide) (fun h19 => ?_) (fun h19 => ?_)
      · refine mm_inc2 dX6_callsBeyond_34 (Nat.le_of_ble_eq_true rfl) (am_c1i _) ?_
        refine am_goto (tgt := 2) dX6_callsBeyond_37 (by decide) ?_
        refine ih (i + 1) (by omega) (by omega) (fun j hj => ?_)
        by_cases hji : j = i
        · subst hji
          first | exact fun z => absurd z (by assumption) | exact fun _ => by omega
        · exact hb j (by omega)
      · refine am_aload_n rfl dX6_callsBeyond_22 ?_
        refine mm_getR dX6_callsBeyond_23 fl_X6_22 hr0 rfl ?_
        refine am_iload_n rfl dX6_callsBeyond_26 ?_
        refine mm_ial dX6_callsBeyond_27 hr2 (by omega) ?_
        rw [Int.toNat_natCast]
        refine am_iload_n rfl dX6_callsBeyond_28 ?_
        refine mm_jlt (tgt := 34) dX6_callsBeyond_29 (by decide) (by omega) (by omega) (fun h29 => ?_) (fun h29 => ?_)
        · refine mm_inc2 dX6_callsBeyond_34 (Nat.le_of_ble_eq_true rfl) (am_c1i _) ?_
          refine am_goto (tgt := 2) dX6_callsBeyond_37 (by decide) ?_
          refine ih (i + 1) (by omega) (by omega) (fun j hj => ?_)
          by_cases hji : j = i
          · subst hji
            first | exact fun z => absurd z (by assumption) | exact fun _ => by omega
          · exact hb j (by omega)
        · refine mm_iconst dX6_callsBeyond_32 ?_
          refine am_ireturn dX6_callsBeyond_33 rfl rfl ?_
          exact ⟨_, rfl, 1, rfl, Or.inl ⟨rfl, fun z => absurd (z i (by omega) (by assumption)) (by omega)⟩, rfl⟩
set_option maxRecDepth 100000 in
set_option maxHeartbeats 4000000 in
theorem c_beyond {sh : List mm_H} {S : mm_S} {L : mm_L} {a : Nat} (hr : rtS sh a) (hR : rtI S a) {m : Int} (hm : Rg m) : am_E eX6_callsBeyond [.ref a, .int (iI m)] (mm sh S L) (fun r M' => ∃ w, r = some (.int w) ∧ ∃ v, w = iI v ∧ tells v (¬ ∀ j : Nat, (j : Int) < S a 0 → cCall S a j m) ∧ M' = mm sh S L) := by
  obtain ⟨hr0, hr1, hr2, hr3, hr4, hr5, hr6, hr7, hr8, hr9⟩ := id hr
  refine am_enter rfl rfl (Nat.le_of_ble_eq_true rfl) ?_
  refine mm_iconst dX6_callsBeyond_0 ?_
  refine am_ist2 dX6_callsBeyond_1 (Nat.le_of_ble_eq_true rfl) (am_c1i _) ?_
  exact l_beyond hr hR hm (24 + 1) 0 (by have := hR.1; omega) (by have := hR.1; omega) (fun j hj => absurd hj (Nat.not_lt_zero j))
