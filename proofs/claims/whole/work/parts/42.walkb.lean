theorem mayT_6 {s : Nat → Int} {n : Nat} {x : Int} (h : x = 6) : mayT s n x ↔ ∃ o, (stk s n).head? = some o ∧ midO s n o = -1 ∧ (s o = 2 ∨ s o = 3) := ⟨fun z => z.2.1 h, fun z => ⟨fun g => by omega, fun _ => z, fun g => by omega, fun g => by omega⟩⟩
theorem mayT_15 {s : Nat → Int} {n : Nat} {x : Int} (h : x = 15) : mayT s n x ↔ ∃ o, (stk s n).head? = some o ∧ midO s n o = -1 ∧ s o = 14 := ⟨fun z => z.2.2.1 h, fun z => ⟨fun g => by omega, fun g => by omega, fun _ => z, fun g => by omega⟩⟩
theorem mayT_7 {s : Nat → Int} {n : Nat} {x : Int} (h : x = 7) : mayT s n x ↔ ∃ o, (stk s n).head? = some o ∧ (midO s n o ≠ -1 ∨ s o ≠ 14) := ⟨fun z => z.2.2.2 h, fun z => ⟨fun g => by omega, fun g => by omega, fun g => by omega, fun _ => z⟩⟩
theorem mayT_o {s : Nat → Int} {n : Nat} {x : Int} (h : ¬ (x = 6 ∨ x = 15 ∨ x = 7)) : mayT s n x ↔ (opn x → (stk s n).length < 6) := ⟨fun z => z.1, fun z => ⟨z, fun g => by omega, fun g => by omega, fun g => by omega⟩⟩
theorem head_ex {s : Nat → Int} {n o : Nat} {p : Nat → Prop} (ho : (stk s n).head? = some o) : (∃ o', (stk s n).head? = some o' ∧ p o') ↔ p o := ⟨fun ⟨o', h1, h2⟩ => by rw [ho] at h1; cases h1; exact h2, fun h => ⟨o, ho, h⟩⟩
theorem head_nex {s : Nat → Int} {n : Nat} {p : Nat → Prop} (h : (stk s n).length = 0) : ¬ ∃ o', (stk s n).head? = some o' ∧ p o' := by
  rintro ⟨o', h1, -⟩
  rw [List.length_eq_zero_iff.mp h] at h1
  simp at h1
/-- an answer that tells whether p -/
abbrev tells (v : Int) (p : Prop) : Prop := (v = 1 ∧ p) ∨ (v = 0 ∧ ¬ p)
set_option maxRecDepth 100000 in
set_option maxHeartbeats 4000000 in
theorem m_mayStand {sh : List mm_H} {S : mm_S} {L : mm_L} (hm : mdS sh) {r n : Nat} {s : Nat → Int} (hr : r < 6) (hn : S 189 r = n) (hn2 : n ≤ 24) (hs : ∀ j, j < n → S 190 (25 * r + j) = s j) (hw : wfP s n) {x : Int} (hx : Rg x) : am_E eX10_mayStand [.ref 181, .int (iI (r : Int)), .int (iI x)] (mm sh S L) (fun r0 M' => ∃ w, r0 = some (.int w) ∧ ∃ v S2, w = iI v ∧ tells v (mayT s n x) ∧ M' = mm sh S2 L ∧ wkF S S2 r ∧ wkI S2 s r n) := by
  refine am_enter rfl rfl (Nat.le_of_ble_eq_true rfl) ?_
  refine am_aload_n rfl dX10_mayStand_0 ?_
  refine am_iload_n rfl dX10_mayStand_1 ?_
  refine am_cxv (mm_V1 dX10_mayStand_2 in_X10_walk mk_X10_196 im_X10_walk sl_X10_walk ⟨Nat.le_of_ble_eq_true rfl, Nat.le_of_ble_eq_true rfl⟩ rfl (md_0 hm) (Nat.le_of_ble_eq_true rfl)) (m_walk hm hr hn hn2 hs hw) (fun M1 hM1 => ?_)
  obtain ⟨S2, rfl, hF, hw2⟩ := hM1
  obtain ⟨g1, g2, g3, g4⟩ := id hw2
  have hlen := stk_len hw
  refine am_aload_n rfl dX10_mayStand_5 ?_
  refine mm_getI dX10_mayStand_6 fl_X10_190 (md_0 hm) mdf_19 ?_
  rw [g1]
  refine mm_zne (tgt := 16) dX10_mayStand_9 (by decide) (by omega) (fun h9 => ?_) (fun h9 => ?_)
  · obtain ⟨o, ho⟩ : ∃ o, (stk s n).head? = some o := by
      cases hc : stk s n with
      | nil => exfalso; have z : (stk s n).length = 0 := by rw [hc]; rfl
               omega
      | cons c l => exact ⟨c, rfl⟩
    have hst := stk_head ho
    have hl0 : (stk s n).length = (stk s o).length + 1 := by rw [hst]; rfl
    have hoi := (stk_top hst).2
    have hpo : S2 197 (S2 181 19 - 1).toNat = (o : Int) := g2 _ o (by rw [g1, hl0, show (((stk s o).length + 1 : Nat) : Int) - 1 = ((stk s o).length : Int) by omega, Int.toNat_natCast, hst]; exact rev_top)
    have hso : S2 190 (25 * (r : Int) + o).toNat = s o := by
      rw [show (25 * (r : Int) + o).toNat = 25 * r + o by omega, hF.1 190 (by omega) (by omega) (by omega) (by omega) (by omega) (by omega)]
      exact hs o (by omega)
    have hmo : S2 194 (25 * (r : Int) + o).toNat = midO s n o := by
      rw [show (25 * (r : Int) + o).toNat = 25 * r + o by omega]
      exact (g4 o (by omega) hoi.2).1
    have hml := midO_lt s n o
    have hwo := hw o (by omega)
    refine mm_bipush dX10_mayStand_16 (by decide) ?_
    refine am_iload_n rfl dX10_mayStand_18 ?_
    refine mm_imul dX10_mayStand_19 ?_
    refine am_aload_n rfl dX10_mayStand_20 ?_
    refine mm_getR dX10_mayStand_21 fl_X10_60 (md_0 hm) mdf_18 ?_
    refine am_aload_n rfl dX10_mayStand_24 ?_
    refine mm_getI dX10_mayStand_25 fl_X10_190 (md_0 hm) mdf_19 ?_
    refine mm_iconst dX10_mayStand_28 ?_
    refine mm_isub dX10_mayStand_29 ?_
    refine mm_ial dX10_mayStand_30 (md_pile hm) (by omega) ?_
    rw [hpo]
    refine mm_iadd dX10_mayStand_31 ?_
    refine am_ist3 dX10_mayStand_32 (Nat.le_of_ble_eq_true rfl) (am_c1i _) ?_
    refine am_iload_n rfl dX10_mayStand_33 ?_
    refine mm_bipush dX10_mayStand_34 (by decide) ?_
    refine mm_jne (tgt := 80) dX10_mayStand_36 (by decide) (by omega) (by omega) (fun h36 => ?_) (fun h36 => ?_)
    · refine am_iload_n rfl dX10_mayStand_80 ?_
      refine mm_bipush dX10_mayStand_81 (by decide) ?_
      refine mm_jne (tgt := 118) dX10_mayStand_83 (by decide) (by omega) (by omega) (fun h83 => ?_) (fun h83 => ?_)
      · refine am_iload_n rfl dX10_mayStand_118 ?_
        refine mm_bipush dX10_mayStand_119 (by decide) ?_
        refine mm_jne (tgt := 156) dX10_mayStand_121 (by decide) (by omega) (by omega) (fun h121 => ?_) (fun h121 => ?_)
        · refine am_iload_n rfl dX10_mayStand_156 ?_
          refine am_ci (mm_S1 dX10_mayStand_157 in_X10_opens mk_X10_193 st_X10_opens ⟨Nat.le_of_ble_eq_true rfl, Nat.le_of_ble_eq_true rfl⟩ (Nat.le_of_ble_eq_true rfl)) (m_opens hx) ?_
          refine mm_beq (tgt := 172) dX10_mayStand_160 (by decide) (fun h160 => ?_) (fun h160 => ?_)
          · refine mm_iconst dX10_mayStand_172 ?_
            refine am_goto (tgt := 177) dX10_mayStand_173 (by decide) ?_
            refine am_ireturn dX10_mayStand_177 rfl rfl ?_
            first
              | (exfalso; omega)
              | exact ⟨_, rfl, 1, S2, rfl, Or.inl ⟨rfl, (mayT_6 (by omega)).mpr ((head_ex ho).mpr (by omega))⟩, rfl, hF, hw2⟩
              | exact ⟨_, rfl, 1, S2, rfl, Or.inl ⟨rfl, (mayT_15 (by omega)).mpr ((head_ex ho).mpr (by omega))⟩, rfl, hF, hw2⟩
              | exact ⟨_, rfl, 1, S2, rfl, Or.inl ⟨rfl, (mayT_7 (by omega)).mpr ((head_ex ho).mpr (by omega))⟩, rfl, hF, hw2⟩
              | exact ⟨_, rfl, 1, S2, rfl, Or.inl ⟨rfl, (mayT_o (by omega)).mpr (by omega)⟩, rfl, hF, hw2⟩
              | (exfalso; omega)
              | exact ⟨_, rfl, 0, S2, rfl, Or.inr ⟨rfl, fun z => absurd ((mayT_6 (by omega)).mp z) (head_nex (by omega))⟩, rfl, hF, hw2⟩
              | exact ⟨_, rfl, 0, S2, rfl, Or.inr ⟨rfl, fun z => absurd ((mayT_15 (by omega)).mp z) (head_nex (by omega))⟩, rfl, hF, hw2⟩
              | exact ⟨_, rfl, 0, S2, rfl, Or.inr ⟨rfl, fun z => absurd ((mayT_7 (by omega)).mp z) (head_nex (by omega))⟩, rfl, hF, hw2⟩
              | exact ⟨_, rfl, 0, S2, rfl, Or.inr ⟨rfl, fun z => absurd ((head_ex ho).mp ((mayT_6 (by omega)).mp z)) (by omega)⟩, rfl, hF, hw2⟩
              | exact ⟨_, rfl, 0, S2, rfl, Or.inr ⟨rfl, fun z => absurd ((head_ex ho).mp ((mayT_15 (by omega)).mp z)) (by omega)⟩, rfl, hF, hw2⟩
              | exact ⟨_, rfl, 0, S2, rfl, Or.inr ⟨rfl, fun z => absurd ((head_ex ho).mp ((mayT_7 (by omega)).mp z)) (by omega)⟩, rfl, hF, hw2⟩
              | exact ⟨_, rfl, 0, S2, rfl, Or.inr ⟨rfl, fun z => absurd ((mayT_o (by omega)).mp z) (by omega)⟩, rfl, hF, hw2⟩
          · refine am_aload_n rfl dX10_mayStand_163 ?_
            refine mm_getI dX10_mayStand_164 fl_X10_190 (md_0 hm) mdf_19 ?_
            rw [g1]
            refine mm_bipush dX10_mayStand_167 (by decide) ?_
            refine mm_jge (tgt := 176) dX10_mayStand_169 (by decide) (by omega) (by omega) (fun h169 => ?_) (fun h169 => ?_)
            · refine mm_iconst dX10_mayStand_176 ?_
              refine am_ireturn dX10_mayStand_177 rfl rfl ?_
              first
                | (exfalso; omega)
                | exact ⟨_, rfl, 1, S2, rfl, Or.inl ⟨rfl, (mayT_6 (by omega)).mpr ((head_ex ho).mpr (by omega))⟩, rfl, hF, hw2⟩
                | exact ⟨_, rfl, 1, S2, rfl, Or.inl ⟨rfl, (mayT_15 (by omega)).mpr ((head_ex ho).mpr (by omega))⟩, rfl, hF, hw2⟩
                | exact ⟨_, rfl, 1, S2, rfl, Or.inl ⟨rfl, (mayT_7 (by omega)).mpr ((head_ex ho).mpr (by omega))⟩, rfl, hF, hw2⟩
                | exact ⟨_, rfl, 1, S2, rfl, Or.inl ⟨rfl, (mayT_o (by omega)).mpr (by omega)⟩, rfl, hF, hw2⟩
                | (exfalso; omega)
                | exact ⟨_, rfl, 0, S2, rfl, Or.inr ⟨rfl, fun z => absurd ((mayT_6 (by omega)).mp z) (head_nex (by omega))⟩, rfl, hF, hw2⟩
                | exact ⟨_, rfl, 0, S2, rfl, Or.inr ⟨rfl, fun z => absurd ((mayT_15 (by omega)).mp z) (head_nex (by omega))⟩, rfl, hF, hw2⟩
                | exact ⟨_, rfl, 0, S2, rfl, Or.inr ⟨rfl, fun z => absurd ((mayT_7 (by omega)).mp z) (head_nex (by omega))⟩, rfl, hF, hw2⟩
                | exact ⟨_, rfl, 0, S2, rfl, Or.inr ⟨rfl, fun z => absurd ((head_ex ho).mp ((mayT_6 (by omega)).mp z)) (by omega)⟩, rfl, hF, hw2⟩
                | exact ⟨_, rfl, 0, S2, rfl, Or.inr ⟨rfl, fun z => absurd ((head_ex ho).mp ((mayT_15 (by omega)).mp z)) (by omega)⟩, rfl, hF, hw2⟩
                | exact ⟨_, rfl, 0, S2, rfl, Or.inr ⟨rfl, fun z => absurd ((head_ex ho).mp ((mayT_7 (by omega)).mp z)) (by omega)⟩, rfl, hF, hw2⟩
                | exact ⟨_, rfl, 0, S2, rfl, Or.inr ⟨rfl, fun z => absurd ((mayT_o (by omega)).mp z) (by omega)⟩, rfl, hF, hw2⟩
            · refine mm_iconst dX10_mayStand_172 ?_
              refine am_goto (tgt := 177) dX10_mayStand_173 (by decide) ?_
              refine am_ireturn dX10_mayStand_177 rfl rfl ?_
              first
                | (exfalso; omega)
                | exact ⟨_, rfl, 1, S2, rfl, Or.inl ⟨rfl, (mayT_6 (by omega)).mpr ((head_ex ho).mpr (by omega))⟩, rfl, hF, hw2⟩
                | exact ⟨_, rfl, 1, S2, rfl, Or.inl ⟨rfl, (mayT_15 (by omega)).mpr ((head_ex ho).mpr (by omega))⟩, rfl, hF, hw2⟩
                | exact ⟨_, rfl, 1, S2, rfl, Or.inl ⟨rfl, (mayT_7 (by omega)).mpr ((head_ex ho).mpr (by omega))⟩, rfl, hF, hw2⟩
                | exact ⟨_, rfl, 1, S2, rfl, Or.inl ⟨rfl, (mayT_o (by omega)).mpr (by omega)⟩, rfl, hF, hw2⟩
                | (exfalso; omega)
                | exact ⟨_, rfl, 0, S2, rfl, Or.inr ⟨rfl, fun z => absurd ((mayT_6 (by omega)).mp z) (head_nex (by omega))⟩, rfl, hF, hw2⟩
                | exact ⟨_, rfl, 0, S2, rfl, Or.inr ⟨rfl, fun z => absurd ((mayT_15 (by omega)).mp z) (head_nex (by omega))⟩, rfl, hF, hw2⟩
                | exact ⟨_, rfl, 0, S2, rfl, Or.inr ⟨rfl, fun z => absurd ((mayT_7 (by omega)).mp z) (head_nex (by omega))⟩, rfl, hF, hw2⟩
                | exact ⟨_, rfl, 0, S2, rfl, Or.inr ⟨rfl, fun z => absurd ((head_ex ho).mp ((mayT_6 (by omega)).mp z)) (by omega)⟩, rfl, hF, hw2⟩
                | exact ⟨_, rfl, 0, S2, rfl, Or.inr ⟨rfl, fun z => absurd ((head_ex ho).mp ((mayT_15 (by omega)).mp z)) (by omega)⟩, rfl, hF, hw2⟩
                | exact ⟨_, rfl, 0, S2, rfl, Or.inr ⟨rfl, fun z => absurd ((head_ex ho).mp ((mayT_7 (by omega)).mp z)) (by omega)⟩, rfl, hF, hw2⟩
                | exact ⟨_, rfl, 0, S2, rfl, Or.inr ⟨rfl, fun z => absurd ((mayT_o (by omega)).mp z) (by omega)⟩, rfl, hF, hw2⟩
        · refine am_iload_n rfl dX10_mayStand_124 ?_
          refine mm_iconst dX10_mayStand_125 ?_
          refine mm_jeq (tgt := 154) dX10_mayStand_126 (by decide) (by omega) (by omega) (fun h126 => ?_) (fun h126 => ?_)
          · refine mm_iconst dX10_mayStand_154 ?_
            refine am_ireturn dX10_mayStand_155 rfl rfl ?_
            first
              | (exfalso; omega)
              | exact ⟨_, rfl, 1, S2, rfl, Or.inl ⟨rfl, (mayT_6 (by omega)).mpr ((head_ex ho).mpr (by omega))⟩, rfl, hF, hw2⟩
              | exact ⟨_, rfl, 1, S2, rfl, Or.inl ⟨rfl, (mayT_15 (by omega)).mpr ((head_ex ho).mpr (by omega))⟩, rfl, hF, hw2⟩
              | exact ⟨_, rfl, 1, S2, rfl, Or.inl ⟨rfl, (mayT_7 (by omega)).mpr ((head_ex ho).mpr (by omega))⟩, rfl, hF, hw2⟩
              | exact ⟨_, rfl, 1, S2, rfl, Or.inl ⟨rfl, (mayT_o (by omega)).mpr (by omega)⟩, rfl, hF, hw2⟩
              | (exfalso; omega)
              | exact ⟨_, rfl, 0, S2, rfl, Or.inr ⟨rfl, fun z => absurd ((mayT_6 (by omega)).mp z) (head_nex (by omega))⟩, rfl, hF, hw2⟩
              | exact ⟨_, rfl, 0, S2, rfl, Or.inr ⟨rfl, fun z => absurd ((mayT_15 (by omega)).mp z) (head_nex (by omega))⟩, rfl, hF, hw2⟩
              | exact ⟨_, rfl, 0, S2, rfl, Or.inr ⟨rfl, fun z => absurd ((mayT_7 (by omega)).mp z) (head_nex (by omega))⟩, rfl, hF, hw2⟩
              | exact ⟨_, rfl, 0, S2, rfl, Or.inr ⟨rfl, fun z => absurd ((head_ex ho).mp ((mayT_6 (by omega)).mp z)) (by omega)⟩, rfl, hF, hw2⟩
              | exact ⟨_, rfl, 0, S2, rfl, Or.inr ⟨rfl, fun z => absurd ((head_ex ho).mp ((mayT_15 (by omega)).mp z)) (by omega)⟩, rfl, hF, hw2⟩
              | exact ⟨_, rfl, 0, S2, rfl, Or.inr ⟨rfl, fun z => absurd ((head_ex ho).mp ((mayT_7 (by omega)).mp z)) (by omega)⟩, rfl, hF, hw2⟩
              | exact ⟨_, rfl, 0, S2, rfl, Or.inr ⟨rfl, fun z => absurd ((mayT_o (by omega)).mp z) (by omega)⟩, rfl, hF, hw2⟩
          · refine am_aload_n rfl dX10_mayStand_129 ?_
            refine mm_getR dX10_mayStand_130 fl_X10_39 (md_0 hm) mdf_11 ?_
            refine am_iload_n rfl dX10_mayStand_133 ?_
            refine mm_ial dX10_mayStand_134 (md_sortAt hm) (by omega) ?_
            first | rw [hso] | rw [hmo]
            refine mm_bipush dX10_mayStand_135 (by decide) ?_
            refine mm_jne (tgt := 150) dX10_mayStand_137 (by decide) (by omega) (by omega) (fun h137 => ?_) (fun h137 => ?_)
            · refine mm_iconst dX10_mayStand_150 ?_
              refine am_goto (tgt := 155) dX10_mayStand_151 (by decide) ?_
              refine am_ireturn dX10_mayStand_155 rfl rfl ?_
              first
                | (exfalso; omega)
                | exact ⟨_, rfl, 1, S2, rfl, Or.inl ⟨rfl, (mayT_6 (by omega)).mpr ((head_ex ho).mpr (by omega))⟩, rfl, hF, hw2⟩
                | exact ⟨_, rfl, 1, S2, rfl, Or.inl ⟨rfl, (mayT_15 (by omega)).mpr ((head_ex ho).mpr (by omega))⟩, rfl, hF, hw2⟩
                | exact ⟨_, rfl, 1, S2, rfl, Or.inl ⟨rfl, (mayT_7 (by omega)).mpr ((head_ex ho).mpr (by omega))⟩, rfl, hF, hw2⟩
                | exact ⟨_, rfl, 1, S2, rfl, Or.inl ⟨rfl, (mayT_o (by omega)).mpr (by omega)⟩, rfl, hF, hw2⟩
                | (exfalso; omega)
                | exact ⟨_, rfl, 0, S2, rfl, Or.inr ⟨rfl, fun z => absurd ((mayT_6 (by omega)).mp z) (head_nex (by omega))⟩, rfl, hF, hw2⟩
                | exact ⟨_, rfl, 0, S2, rfl, Or.inr ⟨rfl, fun z => absurd ((mayT_15 (by omega)).mp z) (head_nex (by omega))⟩, rfl, hF, hw2⟩
                | exact ⟨_, rfl, 0, S2, rfl, Or.inr ⟨rfl, fun z => absurd ((mayT_7 (by omega)).mp z) (head_nex (by omega))⟩, rfl, hF, hw2⟩
                | exact ⟨_, rfl, 0, S2, rfl, Or.inr ⟨rfl, fun z => absurd ((head_ex ho).mp ((mayT_6 (by omega)).mp z)) (by omega)⟩, rfl, hF, hw2⟩
                | exact ⟨_, rfl, 0, S2, rfl, Or.inr ⟨rfl, fun z => absurd ((head_ex ho).mp ((mayT_15 (by omega)).mp z)) (by omega)⟩, rfl, hF, hw2⟩
                | exact ⟨_, rfl, 0, S2, rfl, Or.inr ⟨rfl, fun z => absurd ((head_ex ho).mp ((mayT_7 (by omega)).mp z)) (by omega)⟩, rfl, hF, hw2⟩
                | exact ⟨_, rfl, 0, S2, rfl, Or.inr ⟨rfl, fun z => absurd ((mayT_o (by omega)).mp z) (by omega)⟩, rfl, hF, hw2⟩
            · refine am_aload_n rfl dX10_mayStand_140 ?_
              refine mm_getR dX10_mayStand_141 fl_X10_51 (md_0 hm) mdf_15 ?_
              refine am_iload_n rfl dX10_mayStand_144 ?_
              refine mm_ial dX10_mayStand_145 (md_midAt hm) (by omega) ?_
              first | rw [hso] | rw [hmo]
              refine mm_iconst dX10_mayStand_146 ?_
              refine mm_jeq (tgt := 154) dX10_mayStand_147 (by decide) (by omega) (by omega) (fun h147 => ?_) (fun h147 => ?_)
              · refine mm_iconst dX10_mayStand_154 ?_
                refine am_ireturn dX10_mayStand_155 rfl rfl ?_
                first
                  | (exfalso; omega)
                  | exact ⟨_, rfl, 1, S2, rfl, Or.inl ⟨rfl, (mayT_6 (by omega)).mpr ((head_ex ho).mpr (by omega))⟩, rfl, hF, hw2⟩
                  | exact ⟨_, rfl, 1, S2, rfl, Or.inl ⟨rfl, (mayT_15 (by omega)).mpr ((head_ex ho).mpr (by omega))⟩, rfl, hF, hw2⟩
                  | exact ⟨_, rfl, 1, S2, rfl, Or.inl ⟨rfl, (mayT_7 (by omega)).mpr ((head_ex ho).mpr (by omega))⟩, rfl, hF, hw2⟩
                  | exact ⟨_, rfl, 1, S2, rfl, Or.inl ⟨rfl, (mayT_o (by omega)).mpr (by omega)⟩, rfl, hF, hw2⟩
                  | (exfalso; omega)
                  | exact ⟨_, rfl, 0, S2, rfl, Or.inr ⟨rfl, fun z => absurd ((mayT_6 (by omega)).mp z) (head_nex (by omega))⟩, rfl, hF, hw2⟩
                  | exact ⟨_, rfl, 0, S2, rfl, Or.inr ⟨rfl, fun z => absurd ((mayT_15 (by omega)).mp z) (head_nex (by omega))⟩, rfl, hF, hw2⟩
                  | exact ⟨_, rfl, 0, S2, rfl, Or.inr ⟨rfl, fun z => absurd ((mayT_7 (by omega)).mp z) (head_nex (by omega))⟩, rfl, hF, hw2⟩
                  | exact ⟨_, rfl, 0, S2, rfl, Or.inr ⟨rfl, fun z => absurd ((head_ex ho).mp ((mayT_6 (by omega)).mp z)) (by omega)⟩, rfl, hF, hw2⟩
                  | exact ⟨_, rfl, 0, S2, rfl, Or.inr ⟨rfl, fun z => absurd ((head_ex ho).mp ((mayT_15 (by omega)).mp z)) (by omega)⟩, rfl, hF, hw2⟩
                  | exact ⟨_, rfl, 0, S2, rfl, Or.inr ⟨rfl, fun z => absurd ((head_ex ho).mp ((mayT_7 (by omega)).mp z)) (by omega)⟩, rfl, hF, hw2⟩
                  | exact ⟨_, rfl, 0, S2, rfl, Or.inr ⟨rfl, fun z => absurd ((mayT_o (by omega)).mp z) (by omega)⟩, rfl, hF, hw2⟩
              · refine mm_iconst dX10_mayStand_150 ?_
                refine am_goto (tgt := 155) dX10_mayStand_151 (by decide) ?_
                refine am_ireturn dX10_mayStand_155 rfl rfl ?_
                first
                  | (exfalso; omega)
                  | exact ⟨_, rfl, 1, S2, rfl, Or.inl ⟨rfl, (mayT_6 (by omega)).mpr ((head_ex ho).mpr (by omega))⟩, rfl, hF, hw2⟩
                  | exact ⟨_, rfl, 1, S2, rfl, Or.inl ⟨rfl, (mayT_15 (by omega)).mpr ((head_ex ho).mpr (by omega))⟩, rfl, hF, hw2⟩
                  | exact ⟨_, rfl, 1, S2, rfl, Or.inl ⟨rfl, (mayT_7 (by omega)).mpr ((head_ex ho).mpr (by omega))⟩, rfl, hF, hw2⟩
                  | exact ⟨_, rfl, 1, S2, rfl, Or.inl ⟨rfl, (mayT_o (by omega)).mpr (by omega)⟩, rfl, hF, hw2⟩
                  | (exfalso; omega)
                  | exact ⟨_, rfl, 0, S2, rfl, Or.inr ⟨rfl, fun z => absurd ((mayT_6 (by omega)).mp z) (head_nex (by omega))⟩, rfl, hF, hw2⟩
                  | exact ⟨_, rfl, 0, S2, rfl, Or.inr ⟨rfl, fun z => absurd ((mayT_15 (by omega)).mp z) (head_nex (by omega))⟩, rfl, hF, hw2⟩
                  | exact ⟨_, rfl, 0, S2, rfl, Or.inr ⟨rfl, fun z => absurd ((mayT_7 (by omega)).mp z) (head_nex (by omega))⟩, rfl, hF, hw2⟩
                  | exact ⟨_, rfl, 0, S2, rfl, Or.inr ⟨rfl, fun z => absurd ((head_ex ho).mp ((mayT_6 (by omega)).mp z)) (by omega)⟩, rfl, hF, hw2⟩
                  | exact ⟨_, rfl, 0, S2, rfl, Or.inr ⟨rfl, fun z => absurd ((head_ex ho).mp ((mayT_15 (by omega)).mp z)) (by omega)⟩, rfl, hF, hw2⟩
                  | exact ⟨_, rfl, 0, S2, rfl, Or.inr ⟨rfl, fun z => absurd ((head_ex ho).mp ((mayT_7 (by omega)).mp z)) (by omega)⟩, rfl, hF, hw2⟩
                  | exact ⟨_, rfl, 0, S2, rfl, Or.inr ⟨rfl, fun z => absurd ((mayT_o (by omega)).mp z) (by omega)⟩, rfl, hF, hw2⟩
      · refine am_iload_n rfl dX10_mayStand_86 ?_
        refine mm_iconst dX10_mayStand_87 ?_
        refine mm_jeq (tgt := 116) dX10_mayStand_88 (by decide) (by omega) (by omega) (fun h88 => ?_) (fun h88 => ?_)
        · refine mm_iconst dX10_mayStand_116 ?_
          refine am_ireturn dX10_mayStand_117 rfl rfl ?_
          first
            | (exfalso; omega)
            | exact ⟨_, rfl, 1, S2, rfl, Or.inl ⟨rfl, (mayT_6 (by omega)).mpr ((head_ex ho).mpr (by omega))⟩, rfl, hF, hw2⟩
            | exact ⟨_, rfl, 1, S2, rfl, Or.inl ⟨rfl, (mayT_15 (by omega)).mpr ((head_ex ho).mpr (by omega))⟩, rfl, hF, hw2⟩
            | exact ⟨_, rfl, 1, S2, rfl, Or.inl ⟨rfl, (mayT_7 (by omega)).mpr ((head_ex ho).mpr (by omega))⟩, rfl, hF, hw2⟩
            | exact ⟨_, rfl, 1, S2, rfl, Or.inl ⟨rfl, (mayT_o (by omega)).mpr (by omega)⟩, rfl, hF, hw2⟩
            | (exfalso; omega)
            | exact ⟨_, rfl, 0, S2, rfl, Or.inr ⟨rfl, fun z => absurd ((mayT_6 (by omega)).mp z) (head_nex (by omega))⟩, rfl, hF, hw2⟩
            | exact ⟨_, rfl, 0, S2, rfl, Or.inr ⟨rfl, fun z => absurd ((mayT_15 (by omega)).mp z) (head_nex (by omega))⟩, rfl, hF, hw2⟩
            | exact ⟨_, rfl, 0, S2, rfl, Or.inr ⟨rfl, fun z => absurd ((mayT_7 (by omega)).mp z) (head_nex (by omega))⟩, rfl, hF, hw2⟩
            | exact ⟨_, rfl, 0, S2, rfl, Or.inr ⟨rfl, fun z => absurd ((head_ex ho).mp ((mayT_6 (by omega)).mp z)) (by omega)⟩, rfl, hF, hw2⟩
            | exact ⟨_, rfl, 0, S2, rfl, Or.inr ⟨rfl, fun z => absurd ((head_ex ho).mp ((mayT_15 (by omega)).mp z)) (by omega)⟩, rfl, hF, hw2⟩
            | exact ⟨_, rfl, 0, S2, rfl, Or.inr ⟨rfl, fun z => absurd ((head_ex ho).mp ((mayT_7 (by omega)).mp z)) (by omega)⟩, rfl, hF, hw2⟩
            | exact ⟨_, rfl, 0, S2, rfl, Or.inr ⟨rfl, fun z => absurd ((mayT_o (by omega)).mp z) (by omega)⟩, rfl, hF, hw2⟩
        · refine am_aload_n rfl dX10_mayStand_91 ?_
          refine mm_getR dX10_mayStand_92 fl_X10_39 (md_0 hm) mdf_11 ?_
          refine am_iload_n rfl dX10_mayStand_95 ?_
          refine mm_ial dX10_mayStand_96 (md_sortAt hm) (by omega) ?_
          first | rw [hso] | rw [hmo]
          refine mm_bipush dX10_mayStand_97 (by decide) ?_
          refine mm_jne (tgt := 116) dX10_mayStand_99 (by decide) (by omega) (by omega) (fun h99 => ?_) (fun h99 => ?_)
          · refine mm_iconst dX10_mayStand_116 ?_
            refine am_ireturn dX10_mayStand_117 rfl rfl ?_
            first
              | (exfalso; omega)
              | exact ⟨_, rfl, 1, S2, rfl, Or.inl ⟨rfl, (mayT_6 (by omega)).mpr ((head_ex ho).mpr (by omega))⟩, rfl, hF, hw2⟩
              | exact ⟨_, rfl, 1, S2, rfl, Or.inl ⟨rfl, (mayT_15 (by omega)).mpr ((head_ex ho).mpr (by omega))⟩, rfl, hF, hw2⟩
              | exact ⟨_, rfl, 1, S2, rfl, Or.inl ⟨rfl, (mayT_7 (by omega)).mpr ((head_ex ho).mpr (by omega))⟩, rfl, hF, hw2⟩
              | exact ⟨_, rfl, 1, S2, rfl, Or.inl ⟨rfl, (mayT_o (by omega)).mpr (by omega)⟩, rfl, hF, hw2⟩
              | (exfalso; omega)
              | exact ⟨_, rfl, 0, S2, rfl, Or.inr ⟨rfl, fun z => absurd ((mayT_6 (by omega)).mp z) (head_nex (by omega))⟩, rfl, hF, hw2⟩
              | exact ⟨_, rfl, 0, S2, rfl, Or.inr ⟨rfl, fun z => absurd ((mayT_15 (by omega)).mp z) (head_nex (by omega))⟩, rfl, hF, hw2⟩
              | exact ⟨_, rfl, 0, S2, rfl, Or.inr ⟨rfl, fun z => absurd ((mayT_7 (by omega)).mp z) (head_nex (by omega))⟩, rfl, hF, hw2⟩
              | exact ⟨_, rfl, 0, S2, rfl, Or.inr ⟨rfl, fun z => absurd ((head_ex ho).mp ((mayT_6 (by omega)).mp z)) (by omega)⟩, rfl, hF, hw2⟩
              | exact ⟨_, rfl, 0, S2, rfl, Or.inr ⟨rfl, fun z => absurd ((head_ex ho).mp ((mayT_15 (by omega)).mp z)) (by omega)⟩, rfl, hF, hw2⟩
              | exact ⟨_, rfl, 0, S2, rfl, Or.inr ⟨rfl, fun z => absurd ((head_ex ho).mp ((mayT_7 (by omega)).mp z)) (by omega)⟩, rfl, hF, hw2⟩
              | exact ⟨_, rfl, 0, S2, rfl, Or.inr ⟨rfl, fun z => absurd ((mayT_o (by omega)).mp z) (by omega)⟩, rfl, hF, hw2⟩
          · refine am_aload_n rfl dX10_mayStand_102 ?_
            refine mm_getR dX10_mayStand_103 fl_X10_51 (md_0 hm) mdf_15 ?_
            refine am_iload_n rfl dX10_mayStand_106 ?_
            refine mm_ial dX10_mayStand_107 (md_midAt hm) (by omega) ?_
            first | rw [hso] | rw [hmo]
            refine mm_iconst dX10_mayStand_108 ?_
            refine mm_jne (tgt := 116) dX10_mayStand_109 (by decide) (by omega) (by omega) (fun h109 => ?_) (fun h109 => ?_)
            · refine mm_iconst dX10_mayStand_116 ?_
              refine am_ireturn dX10_mayStand_117 rfl rfl ?_
              first
                | (exfalso; omega)
                | exact ⟨_, rfl, 1, S2, rfl, Or.inl ⟨rfl, (mayT_6 (by omega)).mpr ((head_ex ho).mpr (by omega))⟩, rfl, hF, hw2⟩
                | exact ⟨_, rfl, 1, S2, rfl, Or.inl ⟨rfl, (mayT_15 (by omega)).mpr ((head_ex ho).mpr (by omega))⟩, rfl, hF, hw2⟩
                | exact ⟨_, rfl, 1, S2, rfl, Or.inl ⟨rfl, (mayT_7 (by omega)).mpr ((head_ex ho).mpr (by omega))⟩, rfl, hF, hw2⟩
                | exact ⟨_, rfl, 1, S2, rfl, Or.inl ⟨rfl, (mayT_o (by omega)).mpr (by omega)⟩, rfl, hF, hw2⟩
                | (exfalso; omega)
                | exact ⟨_, rfl, 0, S2, rfl, Or.inr ⟨rfl, fun z => absurd ((mayT_6 (by omega)).mp z) (head_nex (by omega))⟩, rfl, hF, hw2⟩
                | exact ⟨_, rfl, 0, S2, rfl, Or.inr ⟨rfl, fun z => absurd ((mayT_15 (by omega)).mp z) (head_nex (by omega))⟩, rfl, hF, hw2⟩
                | exact ⟨_, rfl, 0, S2, rfl, Or.inr ⟨rfl, fun z => absurd ((mayT_7 (by omega)).mp z) (head_nex (by omega))⟩, rfl, hF, hw2⟩
                | exact ⟨_, rfl, 0, S2, rfl, Or.inr ⟨rfl, fun z => absurd ((head_ex ho).mp ((mayT_6 (by omega)).mp z)) (by omega)⟩, rfl, hF, hw2⟩
                | exact ⟨_, rfl, 0, S2, rfl, Or.inr ⟨rfl, fun z => absurd ((head_ex ho).mp ((mayT_15 (by omega)).mp z)) (by omega)⟩, rfl, hF, hw2⟩
                | exact ⟨_, rfl, 0, S2, rfl, Or.inr ⟨rfl, fun z => absurd ((head_ex ho).mp ((mayT_7 (by omega)).mp z)) (by omega)⟩, rfl, hF, hw2⟩
                | exact ⟨_, rfl, 0, S2, rfl, Or.inr ⟨rfl, fun z => absurd ((mayT_o (by omega)).mp z) (by omega)⟩, rfl, hF, hw2⟩
            · refine mm_iconst dX10_mayStand_112 ?_
              refine am_goto (tgt := 117) dX10_mayStand_113 (by decide) ?_
              refine am_ireturn dX10_mayStand_117 rfl rfl ?_
              first
                | (exfalso; omega)
                | exact ⟨_, rfl, 1, S2, rfl, Or.inl ⟨rfl, (mayT_6 (by omega)).mpr ((head_ex ho).mpr (by omega))⟩, rfl, hF, hw2⟩
                | exact ⟨_, rfl, 1, S2, rfl, Or.inl ⟨rfl, (mayT_15 (by omega)).mpr ((head_ex ho).mpr (by omega))⟩, rfl, hF, hw2⟩
                | exact ⟨_, rfl, 1, S2, rfl, Or.inl ⟨rfl, (mayT_7 (by omega)).mpr ((head_ex ho).mpr (by omega))⟩, rfl, hF, hw2⟩
                | exact ⟨_, rfl, 1, S2, rfl, Or.inl ⟨rfl, (mayT_o (by omega)).mpr (by omega)⟩, rfl, hF, hw2⟩
                | (exfalso; omega)
                | exact ⟨_, rfl, 0, S2, rfl, Or.inr ⟨rfl, fun z => absurd ((mayT_6 (by omega)).mp z) (head_nex (by omega))⟩, rfl, hF, hw2⟩
                | exact ⟨_, rfl, 0, S2, rfl, Or.inr ⟨rfl, fun z => absurd ((mayT_15 (by omega)).mp z) (head_nex (by omega))⟩, rfl, hF, hw2⟩
                | exact ⟨_, rfl, 0, S2, rfl, Or.inr ⟨rfl, fun z => absurd ((mayT_7 (by omega)).mp z) (head_nex (by omega))⟩, rfl, hF, hw2⟩
                | exact ⟨_, rfl, 0, S2, rfl, Or.inr ⟨rfl, fun z => absurd ((head_ex ho).mp ((mayT_6 (by omega)).mp z)) (by omega)⟩, rfl, hF, hw2⟩
                | exact ⟨_, rfl, 0, S2, rfl, Or.inr ⟨rfl, fun z => absurd ((head_ex ho).mp ((mayT_15 (by omega)).mp z)) (by omega)⟩, rfl, hF, hw2⟩
                | exact ⟨_, rfl, 0, S2, rfl, Or.inr ⟨rfl, fun z => absurd ((head_ex ho).mp ((mayT_7 (by omega)).mp z)) (by omega)⟩, rfl, hF, hw2⟩
                | exact ⟨_, rfl, 0, S2, rfl, Or.inr ⟨rfl, fun z => absurd ((mayT_o (by omega)).mp z) (by omega)⟩, rfl, hF, hw2⟩
    · refine am_iload_n rfl dX10_mayStand_39 ?_
      refine mm_iconst dX10_mayStand_40 ?_
      refine mm_jeq (tgt := 78) dX10_mayStand_41 (by decide) (by omega) (by omega) (fun h41 => ?_) (fun h41 => ?_)
      · refine mm_iconst dX10_mayStand_78 ?_
        refine am_ireturn dX10_mayStand_79 rfl rfl ?_
        first
          | (exfalso; omega)
          | exact ⟨_, rfl, 1, S2, rfl, Or.inl ⟨rfl, (mayT_6 (by omega)).mpr ((head_ex ho).mpr (by omega))⟩, rfl, hF, hw2⟩
          | exact ⟨_, rfl, 1, S2, rfl, Or.inl ⟨rfl, (mayT_15 (by omega)).mpr ((head_ex ho).mpr (by omega))⟩, rfl, hF, hw2⟩
          | exact ⟨_, rfl, 1, S2, rfl, Or.inl ⟨rfl, (mayT_7 (by omega)).mpr ((head_ex ho).mpr (by omega))⟩, rfl, hF, hw2⟩
          | exact ⟨_, rfl, 1, S2, rfl, Or.inl ⟨rfl, (mayT_o (by omega)).mpr (by omega)⟩, rfl, hF, hw2⟩
          | (exfalso; omega)
          | exact ⟨_, rfl, 0, S2, rfl, Or.inr ⟨rfl, fun z => absurd ((mayT_6 (by omega)).mp z) (head_nex (by omega))⟩, rfl, hF, hw2⟩
          | exact ⟨_, rfl, 0, S2, rfl, Or.inr ⟨rfl, fun z => absurd ((mayT_15 (by omega)).mp z) (head_nex (by omega))⟩, rfl, hF, hw2⟩
          | exact ⟨_, rfl, 0, S2, rfl, Or.inr ⟨rfl, fun z => absurd ((mayT_7 (by omega)).mp z) (head_nex (by omega))⟩, rfl, hF, hw2⟩
          | exact ⟨_, rfl, 0, S2, rfl, Or.inr ⟨rfl, fun z => absurd ((head_ex ho).mp ((mayT_6 (by omega)).mp z)) (by omega)⟩, rfl, hF, hw2⟩
          | exact ⟨_, rfl, 0, S2, rfl, Or.inr ⟨rfl, fun z => absurd ((head_ex ho).mp ((mayT_15 (by omega)).mp z)) (by omega)⟩, rfl, hF, hw2⟩
          | exact ⟨_, rfl, 0, S2, rfl, Or.inr ⟨rfl, fun z => absurd ((head_ex ho).mp ((mayT_7 (by omega)).mp z)) (by omega)⟩, rfl, hF, hw2⟩
          | exact ⟨_, rfl, 0, S2, rfl, Or.inr ⟨rfl, fun z => absurd ((mayT_o (by omega)).mp z) (by omega)⟩, rfl, hF, hw2⟩
      · refine am_aload_n rfl dX10_mayStand_44 ?_
        refine mm_getR dX10_mayStand_45 fl_X10_39 (md_0 hm) mdf_11 ?_
        refine am_iload_n rfl dX10_mayStand_48 ?_
        refine mm_ial dX10_mayStand_49 (md_sortAt hm) (by omega) ?_
        first | rw [hso] | rw [hmo]
        refine mm_iconst dX10_mayStand_50 ?_
        refine mm_jeq (tgt := 64) dX10_mayStand_51 (by decide) (by omega) (by omega) (fun h51 => ?_) (fun h51 => ?_)
        · refine am_aload_n rfl dX10_mayStand_64 ?_
          refine mm_getR dX10_mayStand_65 fl_X10_51 (md_0 hm) mdf_15 ?_
          refine am_iload_n rfl dX10_mayStand_68 ?_
          refine mm_ial dX10_mayStand_69 (md_midAt hm) (by omega) ?_
          first | rw [hso] | rw [hmo]
          refine mm_iconst dX10_mayStand_70 ?_
          refine mm_jne (tgt := 78) dX10_mayStand_71 (by decide) (by omega) (by omega) (fun h71 => ?_) (fun h71 => ?_)
          · refine mm_iconst dX10_mayStand_78 ?_
            refine am_ireturn dX10_mayStand_79 rfl rfl ?_
            first
              | (exfalso; omega)
              | exact ⟨_, rfl, 1, S2, rfl, Or.inl ⟨rfl, (mayT_6 (by omega)).mpr ((head_ex ho).mpr (by omega))⟩, rfl, hF, hw2⟩
              | exact ⟨_, rfl, 1, S2, rfl, Or.inl ⟨rfl, (mayT_15 (by omega)).mpr ((head_ex ho).mpr (by omega))⟩, rfl, hF, hw2⟩
              | exact ⟨_, rfl, 1, S2, rfl, Or.inl ⟨rfl, (mayT_7 (by omega)).mpr ((head_ex ho).mpr (by omega))⟩, rfl, hF, hw2⟩
              | exact ⟨_, rfl, 1, S2, rfl, Or.inl ⟨rfl, (mayT_o (by omega)).mpr (by omega)⟩, rfl, hF, hw2⟩
              | (exfalso; omega)
              | exact ⟨_, rfl, 0, S2, rfl, Or.inr ⟨rfl, fun z => absurd ((mayT_6 (by omega)).mp z) (head_nex (by omega))⟩, rfl, hF, hw2⟩
              | exact ⟨_, rfl, 0, S2, rfl, Or.inr ⟨rfl, fun z => absurd ((mayT_15 (by omega)).mp z) (head_nex (by omega))⟩, rfl, hF, hw2⟩
              | exact ⟨_, rfl, 0, S2, rfl, Or.inr ⟨rfl, fun z => absurd ((mayT_7 (by omega)).mp z) (head_nex (by omega))⟩, rfl, hF, hw2⟩
              | exact ⟨_, rfl, 0, S2, rfl, Or.inr ⟨rfl, fun z => absurd ((head_ex ho).mp ((mayT_6 (by omega)).mp z)) (by omega)⟩, rfl, hF, hw2⟩
              | exact ⟨_, rfl, 0, S2, rfl, Or.inr ⟨rfl, fun z => absurd ((head_ex ho).mp ((mayT_15 (by omega)).mp z)) (by omega)⟩, rfl, hF, hw2⟩
              | exact ⟨_, rfl, 0, S2, rfl, Or.inr ⟨rfl, fun z => absurd ((head_ex ho).mp ((mayT_7 (by omega)).mp z)) (by omega)⟩, rfl, hF, hw2⟩
              | exact ⟨_, rfl, 0, S2, rfl, Or.inr ⟨rfl, fun z => absurd ((mayT_o (by omega)).mp z) (by omega)⟩, rfl, hF, hw2⟩
          · refine mm_iconst dX10_mayStand_74 ?_
            refine am_goto (tgt := 79) dX10_mayStand_75 (by decide) ?_
            refine am_ireturn dX10_mayStand_79 rfl rfl ?_
            first
              | (exfalso; omega)
              | exact ⟨_, rfl, 1, S2, rfl, Or.inl ⟨rfl, (mayT_6 (by omega)).mpr ((head_ex ho).mpr (by omega))⟩, rfl, hF, hw2⟩
              | exact ⟨_, rfl, 1, S2, rfl, Or.inl ⟨rfl, (mayT_15 (by omega)).mpr ((head_ex ho).mpr (by omega))⟩, rfl, hF, hw2⟩
              | exact ⟨_, rfl, 1, S2, rfl, Or.inl ⟨rfl, (mayT_7 (by omega)).mpr ((head_ex ho).mpr (by omega))⟩, rfl, hF, hw2⟩
              | exact ⟨_, rfl, 1, S2, rfl, Or.inl ⟨rfl, (mayT_o (by omega)).mpr (by omega)⟩, rfl, hF, hw2⟩
              | (exfalso; omega)
              | exact ⟨_, rfl, 0, S2, rfl, Or.inr ⟨rfl, fun z => absurd ((mayT_6 (by omega)).mp z) (head_nex (by omega))⟩, rfl, hF, hw2⟩
              | exact ⟨_, rfl, 0, S2, rfl, Or.inr ⟨rfl, fun z => absurd ((mayT_15 (by omega)).mp z) (head_nex (by omega))⟩, rfl, hF, hw2⟩
              | exact ⟨_, rfl, 0, S2, rfl, Or.inr ⟨rfl, fun z => absurd ((mayT_7 (by omega)).mp z) (head_nex (by omega))⟩, rfl, hF, hw2⟩
              | exact ⟨_, rfl, 0, S2, rfl, Or.inr ⟨rfl, fun z => absurd ((head_ex ho).mp ((mayT_6 (by omega)).mp z)) (by omega)⟩, rfl, hF, hw2⟩
              | exact ⟨_, rfl, 0, S2, rfl, Or.inr ⟨rfl, fun z => absurd ((head_ex ho).mp ((mayT_15 (by omega)).mp z)) (by omega)⟩, rfl, hF, hw2⟩
              | exact ⟨_, rfl, 0, S2, rfl, Or.inr ⟨rfl, fun z => absurd ((head_ex ho).mp ((mayT_7 (by omega)).mp z)) (by omega)⟩, rfl, hF, hw2⟩
              | exact ⟨_, rfl, 0, S2, rfl, Or.inr ⟨rfl, fun z => absurd ((mayT_o (by omega)).mp z) (by omega)⟩, rfl, hF, hw2⟩
        · refine am_aload_n rfl dX10_mayStand_54 ?_
          refine mm_getR dX10_mayStand_55 fl_X10_39 (md_0 hm) mdf_11 ?_
          refine am_iload_n rfl dX10_mayStand_58 ?_
          refine mm_ial dX10_mayStand_59 (md_sortAt hm) (by omega) ?_
          first | rw [hso] | rw [hmo]
          refine mm_iconst dX10_mayStand_60 ?_
          refine mm_jne (tgt := 78) dX10_mayStand_61 (by decide) (by omega) (by omega) (fun h61 => ?_) (fun h61 => ?_)
          · refine mm_iconst dX10_mayStand_78 ?_
            refine am_ireturn dX10_mayStand_79 rfl rfl ?_
            first
              | (exfalso; omega)
              | exact ⟨_, rfl, 1, S2, rfl, Or.inl ⟨rfl, (mayT_6 (by omega)).mpr ((head_ex ho).mpr (by omega))⟩, rfl, hF, hw2⟩
              | exact ⟨_, rfl, 1, S2, rfl, Or.inl ⟨rfl, (mayT_15 (by omega)).mpr ((head_ex ho).mpr (by omega))⟩, rfl, hF, hw2⟩
              | exact ⟨_, rfl, 1, S2, rfl, Or.inl ⟨rfl, (mayT_7 (by omega)).mpr ((head_ex ho).mpr (by omega))⟩, rfl, hF, hw2⟩
              | exact ⟨_, rfl, 1, S2, rfl, Or.inl ⟨rfl, (mayT_o (by omega)).mpr (by omega)⟩, rfl, hF, hw2⟩
              | (exfalso; omega)
              | exact ⟨_, rfl, 0, S2, rfl, Or.inr ⟨rfl, fun z => absurd ((mayT_6 (by omega)).mp z) (head_nex (by omega))⟩, rfl, hF, hw2⟩
              | exact ⟨_, rfl, 0, S2, rfl, Or.inr ⟨rfl, fun z => absurd ((mayT_15 (by omega)).mp z) (head_nex (by omega))⟩, rfl, hF, hw2⟩
              | exact ⟨_, rfl, 0, S2, rfl, Or.inr ⟨rfl, fun z => absurd ((mayT_7 (by omega)).mp z) (head_nex (by omega))⟩, rfl, hF, hw2⟩
              | exact ⟨_, rfl, 0, S2, rfl, Or.inr ⟨rfl, fun z => absurd ((head_ex ho).mp ((mayT_6 (by omega)).mp z)) (by omega)⟩, rfl, hF, hw2⟩
              | exact ⟨_, rfl, 0, S2, rfl, Or.inr ⟨rfl, fun z => absurd ((head_ex ho).mp ((mayT_15 (by omega)).mp z)) (by omega)⟩, rfl, hF, hw2⟩
              | exact ⟨_, rfl, 0, S2, rfl, Or.inr ⟨rfl, fun z => absurd ((head_ex ho).mp ((mayT_7 (by omega)).mp z)) (by omega)⟩, rfl, hF, hw2⟩
              | exact ⟨_, rfl, 0, S2, rfl, Or.inr ⟨rfl, fun z => absurd ((mayT_o (by omega)).mp z) (by omega)⟩, rfl, hF, hw2⟩
          · refine am_aload_n rfl dX10_mayStand_64 ?_
            refine mm_getR dX10_mayStand_65 fl_X10_51 (md_0 hm) mdf_15 ?_
            refine am_iload_n rfl dX10_mayStand_68 ?_
            refine mm_ial dX10_mayStand_69 (md_midAt hm) (by omega) ?_
            first | rw [hso] | rw [hmo]
            refine mm_iconst dX10_mayStand_70 ?_
            refine mm_jne (tgt := 78) dX10_mayStand_71 (by decide) (by omega) (by omega) (fun h71 => ?_) (fun h71 => ?_)
            · refine mm_iconst dX10_mayStand_78 ?_
              refine am_ireturn dX10_mayStand_79 rfl rfl ?_
              first
                | (exfalso; omega)
                | exact ⟨_, rfl, 1, S2, rfl, Or.inl ⟨rfl, (mayT_6 (by omega)).mpr ((head_ex ho).mpr (by omega))⟩, rfl, hF, hw2⟩
                | exact ⟨_, rfl, 1, S2, rfl, Or.inl ⟨rfl, (mayT_15 (by omega)).mpr ((head_ex ho).mpr (by omega))⟩, rfl, hF, hw2⟩
                | exact ⟨_, rfl, 1, S2, rfl, Or.inl ⟨rfl, (mayT_7 (by omega)).mpr ((head_ex ho).mpr (by omega))⟩, rfl, hF, hw2⟩
                | exact ⟨_, rfl, 1, S2, rfl, Or.inl ⟨rfl, (mayT_o (by omega)).mpr (by omega)⟩, rfl, hF, hw2⟩
                | (exfalso; omega)
                | exact ⟨_, rfl, 0, S2, rfl, Or.inr ⟨rfl, fun z => absurd ((mayT_6 (by omega)).mp z) (head_nex (by omega))⟩, rfl, hF, hw2⟩
                | exact ⟨_, rfl, 0, S2, rfl, Or.inr ⟨rfl, fun z => absurd ((mayT_15 (by omega)).mp z) (head_nex (by omega))⟩, rfl, hF, hw2⟩
                | exact ⟨_, rfl, 0, S2, rfl, Or.inr ⟨rfl, fun z => absurd ((mayT_7 (by omega)).mp z) (head_nex (by omega))⟩, rfl, hF, hw2⟩
                | exact ⟨_, rfl, 0, S2, rfl, Or.inr ⟨rfl, fun z => absurd ((head_ex ho).mp ((mayT_6 (by omega)).mp z)) (by omega)⟩, rfl, hF, hw2⟩
                | exact ⟨_, rfl, 0, S2, rfl, Or.inr ⟨rfl, fun z => absurd ((head_ex ho).mp ((mayT_15 (by omega)).mp z)) (by omega)⟩, rfl, hF, hw2⟩
                | exact ⟨_, rfl, 0, S2, rfl, Or.inr ⟨rfl, fun z => absurd ((head_ex ho).mp ((mayT_7 (by omega)).mp z)) (by omega)⟩, rfl, hF, hw2⟩
                | exact ⟨_, rfl, 0, S2, rfl, Or.inr ⟨rfl, fun z => absurd ((mayT_o (by omega)).mp z) (by omega)⟩, rfl, hF, hw2⟩
            · refine mm_iconst dX10_mayStand_74 ?_
              refine am_goto (tgt := 79) dX10_mayStand_75 (by decide) ?_
              refine am_ireturn dX10_mayStand_79 rfl rfl ?_
              first
                | (exfalso; omega)
                | exact ⟨_, rfl, 1, S2, rfl, Or.inl ⟨rfl, (mayT_6 (by omega)).mpr ((head_ex ho).mpr (by omega))⟩, rfl, hF, hw2⟩
                | exact ⟨_, rfl, 1, S2, rfl, Or.inl ⟨rfl, (mayT_15 (by omega)).mpr ((head_ex ho).mpr (by omega))⟩, rfl, hF, hw2⟩
                | exact ⟨_, rfl, 1, S2, rfl, Or.inl ⟨rfl, (mayT_7 (by omega)).mpr ((head_ex ho).mpr (by omega))⟩, rfl, hF, hw2⟩
                | exact ⟨_, rfl, 1, S2, rfl, Or.inl ⟨rfl, (mayT_o (by omega)).mpr (by omega)⟩, rfl, hF, hw2⟩
                | (exfalso; omega)
                | exact ⟨_, rfl, 0, S2, rfl, Or.inr ⟨rfl, fun z => absurd ((mayT_6 (by omega)).mp z) (head_nex (by omega))⟩, rfl, hF, hw2⟩
                | exact ⟨_, rfl, 0, S2, rfl, Or.inr ⟨rfl, fun z => absurd ((mayT_15 (by omega)).mp z) (head_nex (by omega))⟩, rfl, hF, hw2⟩
                | exact ⟨_, rfl, 0, S2, rfl, Or.inr ⟨rfl, fun z => absurd ((mayT_7 (by omega)).mp z) (head_nex (by omega))⟩, rfl, hF, hw2⟩
                | exact ⟨_, rfl, 0, S2, rfl, Or.inr ⟨rfl, fun z => absurd ((head_ex ho).mp ((mayT_6 (by omega)).mp z)) (by omega)⟩, rfl, hF, hw2⟩
                | exact ⟨_, rfl, 0, S2, rfl, Or.inr ⟨rfl, fun z => absurd ((head_ex ho).mp ((mayT_15 (by omega)).mp z)) (by omega)⟩, rfl, hF, hw2⟩
                | exact ⟨_, rfl, 0, S2, rfl, Or.inr ⟨rfl, fun z => absurd ((head_ex ho).mp ((mayT_7 (by omega)).mp z)) (by omega)⟩, rfl, hF, hw2⟩
                | exact ⟨_, rfl, 0, S2, rfl, Or.inr ⟨rfl, fun z => absurd ((mayT_o (by omega)).mp z) (by omega)⟩, rfl, hF, hw2⟩
  · refine mm_iconst dX10_mayStand_12 ?_
    refine am_goto (tgt := 32) dX10_mayStand_13 (by decide) ?_
    refine am_ist3 dX10_mayStand_32 (Nat.le_of_ble_eq_true rfl) (am_c1i _) ?_
    refine am_iload_n rfl dX10_mayStand_33 ?_
    refine mm_bipush dX10_mayStand_34 (by decide) ?_
    refine mm_jne (tgt := 80) dX10_mayStand_36 (by decide) (by omega) (by omega) (fun h36 => ?_) (fun h36 => ?_)
    · refine am_iload_n rfl dX10_mayStand_80 ?_
      refine mm_bipush dX10_mayStand_81 (by decide) ?_
      refine mm_jne (tgt := 118) dX10_mayStand_83 (by decide) (by omega) (by omega) (fun h83 => ?_) (fun h83 => ?_)
      · refine am_iload_n rfl dX10_mayStand_118 ?_
        refine mm_bipush dX10_mayStand_119 (by decide) ?_
        refine mm_jne (tgt := 156) dX10_mayStand_121 (by decide) (by omega) (by omega) (fun h121 => ?_) (fun h121 => ?_)
        · refine am_iload_n rfl dX10_mayStand_156 ?_
          refine am_ci (mm_S1 dX10_mayStand_157 in_X10_opens mk_X10_193 st_X10_opens ⟨Nat.le_of_ble_eq_true rfl, Nat.le_of_ble_eq_true rfl⟩ (Nat.le_of_ble_eq_true rfl)) (m_opens hx) ?_
          refine mm_beq (tgt := 172) dX10_mayStand_160 (by decide) (fun h160 => ?_) (fun h160 => ?_)
          · refine mm_iconst dX10_mayStand_172 ?_
            refine am_goto (tgt := 177) dX10_mayStand_173 (by decide) ?_
            refine am_ireturn dX10_mayStand_177 rfl rfl ?_
            first
              | (exfalso; omega)
              | exact ⟨_, rfl, 1, S2, rfl, Or.inl ⟨rfl, (mayT_6 (by omega)).mpr ((head_ex ho).mpr (by omega))⟩, rfl, hF, hw2⟩
              | exact ⟨_, rfl, 1, S2, rfl, Or.inl ⟨rfl, (mayT_15 (by omega)).mpr ((head_ex ho).mpr (by omega))⟩, rfl, hF, hw2⟩
              | exact ⟨_, rfl, 1, S2, rfl, Or.inl ⟨rfl, (mayT_7 (by omega)).mpr ((head_ex ho).mpr (by omega))⟩, rfl, hF, hw2⟩
              | exact ⟨_, rfl, 1, S2, rfl, Or.inl ⟨rfl, (mayT_o (by omega)).mpr (by omega)⟩, rfl, hF, hw2⟩
              | (exfalso; omega)
              | exact ⟨_, rfl, 0, S2, rfl, Or.inr ⟨rfl, fun z => absurd ((mayT_6 (by omega)).mp z) (head_nex (by omega))⟩, rfl, hF, hw2⟩
              | exact ⟨_, rfl, 0, S2, rfl, Or.inr ⟨rfl, fun z => absurd ((mayT_15 (by omega)).mp z) (head_nex (by omega))⟩, rfl, hF, hw2⟩
              | exact ⟨_, rfl, 0, S2, rfl, Or.inr ⟨rfl, fun z => absurd ((mayT_7 (by omega)).mp z) (head_nex (by omega))⟩, rfl, hF, hw2⟩
              | exact ⟨_, rfl, 0, S2, rfl, Or.inr ⟨rfl, fun z => absurd ((head_ex ho).mp ((mayT_6 (by omega)).mp z)) (by omega)⟩, rfl, hF, hw2⟩
              | exact ⟨_, rfl, 0, S2, rfl, Or.inr ⟨rfl, fun z => absurd ((head_ex ho).mp ((mayT_15 (by omega)).mp z)) (by omega)⟩, rfl, hF, hw2⟩
              | exact ⟨_, rfl, 0, S2, rfl, Or.inr ⟨rfl, fun z => absurd ((head_ex ho).mp ((mayT_7 (by omega)).mp z)) (by omega)⟩, rfl, hF, hw2⟩
              | exact ⟨_, rfl, 0, S2, rfl, Or.inr ⟨rfl, fun z => absurd ((mayT_o (by omega)).mp z) (by omega)⟩, rfl, hF, hw2⟩
          · refine am_aload_n rfl dX10_mayStand_163 ?_
            refine mm_getI dX10_mayStand_164 fl_X10_190 (md_0 hm) mdf_19 ?_
            rw [g1]
            refine mm_bipush dX10_mayStand_167 (by decide) ?_
            refine mm_jge (tgt := 176) dX10_mayStand_169 (by decide) (by omega) (by omega) (fun h169 => ?_) (fun h169 => ?_)
            · refine mm_iconst dX10_mayStand_176 ?_
              refine am_ireturn dX10_mayStand_177 rfl rfl ?_
              first
                | (exfalso; omega)
                | exact ⟨_, rfl, 1, S2, rfl, Or.inl ⟨rfl, (mayT_6 (by omega)).mpr ((head_ex ho).mpr (by omega))⟩, rfl, hF, hw2⟩
                | exact ⟨_, rfl, 1, S2, rfl, Or.inl ⟨rfl, (mayT_15 (by omega)).mpr ((head_ex ho).mpr (by omega))⟩, rfl, hF, hw2⟩
                | exact ⟨_, rfl, 1, S2, rfl, Or.inl ⟨rfl, (mayT_7 (by omega)).mpr ((head_ex ho).mpr (by omega))⟩, rfl, hF, hw2⟩
                | exact ⟨_, rfl, 1, S2, rfl, Or.inl ⟨rfl, (mayT_o (by omega)).mpr (by omega)⟩, rfl, hF, hw2⟩
                | (exfalso; omega)
                | exact ⟨_, rfl, 0, S2, rfl, Or.inr ⟨rfl, fun z => absurd ((mayT_6 (by omega)).mp z) (head_nex (by omega))⟩, rfl, hF, hw2⟩
                | exact ⟨_, rfl, 0, S2, rfl, Or.inr ⟨rfl, fun z => absurd ((mayT_15 (by omega)).mp z) (head_nex (by omega))⟩, rfl, hF, hw2⟩
                | exact ⟨_, rfl, 0, S2, rfl, Or.inr ⟨rfl, fun z => absurd ((mayT_7 (by omega)).mp z) (head_nex (by omega))⟩, rfl, hF, hw2⟩
                | exact ⟨_, rfl, 0, S2, rfl, Or.inr ⟨rfl, fun z => absurd ((head_ex ho).mp ((mayT_6 (by omega)).mp z)) (by omega)⟩, rfl, hF, hw2⟩
                | exact ⟨_, rfl, 0, S2, rfl, Or.inr ⟨rfl, fun z => absurd ((head_ex ho).mp ((mayT_15 (by omega)).mp z)) (by omega)⟩, rfl, hF, hw2⟩
                | exact ⟨_, rfl, 0, S2, rfl, Or.inr ⟨rfl, fun z => absurd ((head_ex ho).mp ((mayT_7 (by omega)).mp z)) (by omega)⟩, rfl, hF, hw2⟩
                | exact ⟨_, rfl, 0, S2, rfl, Or.inr ⟨rfl, fun z => absurd ((mayT_o (by omega)).mp z) (by omega)⟩, rfl, hF, hw2⟩
            · refine mm_iconst dX10_mayStand_172 ?_
              refine am_goto (tgt := 177) dX10_mayStand_173 (by decide) ?_
              refine am_ireturn dX10_mayStand_177 rfl rfl ?_
              first
                | (exfalso; omega)
                | exact ⟨_, rfl, 1, S2, rfl, Or.inl ⟨rfl, (mayT_6 (by omega)).mpr ((head_ex ho).mpr (by omega))⟩, rfl, hF, hw2⟩
                | exact ⟨_, rfl, 1, S2, rfl, Or.inl ⟨rfl, (mayT_15 (by omega)).mpr ((head_ex ho).mpr (by omega))⟩, rfl, hF, hw2⟩
                | exact ⟨_, rfl, 1, S2, rfl, Or.inl ⟨rfl, (mayT_7 (by omega)).mpr ((head_ex ho).mpr (by omega))⟩, rfl, hF, hw2⟩
                | exact ⟨_, rfl, 1, S2, rfl, Or.inl ⟨rfl, (mayT_o (by omega)).mpr (by omega)⟩, rfl, hF, hw2⟩
                | (exfalso; omega)
                | exact ⟨_, rfl, 0, S2, rfl, Or.inr ⟨rfl, fun z => absurd ((mayT_6 (by omega)).mp z) (head_nex (by omega))⟩, rfl, hF, hw2⟩
                | exact ⟨_, rfl, 0, S2, rfl, Or.inr ⟨rfl, fun z => absurd ((mayT_15 (by omega)).mp z) (head_nex (by omega))⟩, rfl, hF, hw2⟩
                | exact ⟨_, rfl, 0, S2, rfl, Or.inr ⟨rfl, fun z => absurd ((mayT_7 (by omega)).mp z) (head_nex (by omega))⟩, rfl, hF, hw2⟩
                | exact ⟨_, rfl, 0, S2, rfl, Or.inr ⟨rfl, fun z => absurd ((head_ex ho).mp ((mayT_6 (by omega)).mp z)) (by omega)⟩, rfl, hF, hw2⟩
                | exact ⟨_, rfl, 0, S2, rfl, Or.inr ⟨rfl, fun z => absurd ((head_ex ho).mp ((mayT_15 (by omega)).mp z)) (by omega)⟩, rfl, hF, hw2⟩
                | exact ⟨_, rfl, 0, S2, rfl, Or.inr ⟨rfl, fun z => absurd ((head_ex ho).mp ((mayT_7 (by omega)).mp z)) (by omega)⟩, rfl, hF, hw2⟩
                | exact ⟨_, rfl, 0, S2, rfl, Or.inr ⟨rfl, fun z => absurd ((mayT_o (by omega)).mp z) (by omega)⟩, rfl, hF, hw2⟩
        · refine am_iload_n rfl dX10_mayStand_124 ?_
          refine mm_iconst dX10_mayStand_125 ?_
          refine mm_jeq (tgt := 154) dX10_mayStand_126 (by decide) (by omega) (by omega) (fun h126 => ?_) (fun h126 => ?_)
          · refine mm_iconst dX10_mayStand_154 ?_
            refine am_ireturn dX10_mayStand_155 rfl rfl ?_
            first
              | (exfalso; omega)
              | exact ⟨_, rfl, 1, S2, rfl, Or.inl ⟨rfl, (mayT_6 (by omega)).mpr ((head_ex ho).mpr (by omega))⟩, rfl, hF, hw2⟩
              | exact ⟨_, rfl, 1, S2, rfl, Or.inl ⟨rfl, (mayT_15 (by omega)).mpr ((head_ex ho).mpr (by omega))⟩, rfl, hF, hw2⟩
              | exact ⟨_, rfl, 1, S2, rfl, Or.inl ⟨rfl, (mayT_7 (by omega)).mpr ((head_ex ho).mpr (by omega))⟩, rfl, hF, hw2⟩
              | exact ⟨_, rfl, 1, S2, rfl, Or.inl ⟨rfl, (mayT_o (by omega)).mpr (by omega)⟩, rfl, hF, hw2⟩
              | (exfalso; omega)
              | exact ⟨_, rfl, 0, S2, rfl, Or.inr ⟨rfl, fun z => absurd ((mayT_6 (by omega)).mp z) (head_nex (by omega))⟩, rfl, hF, hw2⟩
              | exact ⟨_, rfl, 0, S2, rfl, Or.inr ⟨rfl, fun z => absurd ((mayT_15 (by omega)).mp z) (head_nex (by omega))⟩, rfl, hF, hw2⟩
              | exact ⟨_, rfl, 0, S2, rfl, Or.inr ⟨rfl, fun z => absurd ((mayT_7 (by omega)).mp z) (head_nex (by omega))⟩, rfl, hF, hw2⟩
              | exact ⟨_, rfl, 0, S2, rfl, Or.inr ⟨rfl, fun z => absurd ((head_ex ho).mp ((mayT_6 (by omega)).mp z)) (by omega)⟩, rfl, hF, hw2⟩
              | exact ⟨_, rfl, 0, S2, rfl, Or.inr ⟨rfl, fun z => absurd ((head_ex ho).mp ((mayT_15 (by omega)).mp z)) (by omega)⟩, rfl, hF, hw2⟩
              | exact ⟨_, rfl, 0, S2, rfl, Or.inr ⟨rfl, fun z => absurd ((head_ex ho).mp ((mayT_7 (by omega)).mp z)) (by omega)⟩, rfl, hF, hw2⟩
              | exact ⟨_, rfl, 0, S2, rfl, Or.inr ⟨rfl, fun z => absurd ((mayT_o (by omega)).mp z) (by omega)⟩, rfl, hF, hw2⟩
          · exfalso; omega
      · refine am_iload_n rfl dX10_mayStand_86 ?_
        refine mm_iconst dX10_mayStand_87 ?_
        refine mm_jeq (tgt := 116) dX10_mayStand_88 (by decide) (by omega) (by omega) (fun h88 => ?_) (fun h88 => ?_)
        · refine mm_iconst dX10_mayStand_116 ?_
          refine am_ireturn dX10_mayStand_117 rfl rfl ?_
          first
            | (exfalso; omega)
            | exact ⟨_, rfl, 1, S2, rfl, Or.inl ⟨rfl, (mayT_6 (by omega)).mpr ((head_ex ho).mpr (by omega))⟩, rfl, hF, hw2⟩
            | exact ⟨_, rfl, 1, S2, rfl, Or.inl ⟨rfl, (mayT_15 (by omega)).mpr ((head_ex ho).mpr (by omega))⟩, rfl, hF, hw2⟩
            | exact ⟨_, rfl, 1, S2, rfl, Or.inl ⟨rfl, (mayT_7 (by omega)).mpr ((head_ex ho).mpr (by omega))⟩, rfl, hF, hw2⟩
            | exact ⟨_, rfl, 1, S2, rfl, Or.inl ⟨rfl, (mayT_o (by omega)).mpr (by omega)⟩, rfl, hF, hw2⟩
            | (exfalso; omega)
            | exact ⟨_, rfl, 0, S2, rfl, Or.inr ⟨rfl, fun z => absurd ((mayT_6 (by omega)).mp z) (head_nex (by omega))⟩, rfl, hF, hw2⟩
            | exact ⟨_, rfl, 0, S2, rfl, Or.inr ⟨rfl, fun z => absurd ((mayT_15 (by omega)).mp z) (head_nex (by omega))⟩, rfl, hF, hw2⟩
            | exact ⟨_, rfl, 0, S2, rfl, Or.inr ⟨rfl, fun z => absurd ((mayT_7 (by omega)).mp z) (head_nex (by omega))⟩, rfl, hF, hw2⟩
            | exact ⟨_, rfl, 0, S2, rfl, Or.inr ⟨rfl, fun z => absurd ((head_ex ho).mp ((mayT_6 (by omega)).mp z)) (by omega)⟩, rfl, hF, hw2⟩
            | exact ⟨_, rfl, 0, S2, rfl, Or.inr ⟨rfl, fun z => absurd ((head_ex ho).mp ((mayT_15 (by omega)).mp z)) (by omega)⟩, rfl, hF, hw2⟩
            | exact ⟨_, rfl, 0, S2, rfl, Or.inr ⟨rfl, fun z => absurd ((head_ex ho).mp ((mayT_7 (by omega)).mp z)) (by omega)⟩, rfl, hF, hw2⟩
            | exact ⟨_, rfl, 0, S2, rfl, Or.inr ⟨rfl, fun z => absurd ((mayT_o (by omega)).mp z) (by omega)⟩, rfl, hF, hw2⟩
        · exfalso; omega
    · refine am_iload_n rfl dX10_mayStand_39 ?_
      refine mm_iconst dX10_mayStand_40 ?_
      refine mm_jeq (tgt := 78) dX10_mayStand_41 (by decide) (by omega) (by omega) (fun h41 => ?_) (fun h41 => ?_)
      · refine mm_iconst dX10_mayStand_78 ?_
        refine am_ireturn dX10_mayStand_79 rfl rfl ?_
        first
          | (exfalso; omega)
          | exact ⟨_, rfl, 1, S2, rfl, Or.inl ⟨rfl, (mayT_6 (by omega)).mpr ((head_ex ho).mpr (by omega))⟩, rfl, hF, hw2⟩
          | exact ⟨_, rfl, 1, S2, rfl, Or.inl ⟨rfl, (mayT_15 (by omega)).mpr ((head_ex ho).mpr (by omega))⟩, rfl, hF, hw2⟩
          | exact ⟨_, rfl, 1, S2, rfl, Or.inl ⟨rfl, (mayT_7 (by omega)).mpr ((head_ex ho).mpr (by omega))⟩, rfl, hF, hw2⟩
          | exact ⟨_, rfl, 1, S2, rfl, Or.inl ⟨rfl, (mayT_o (by omega)).mpr (by omega)⟩, rfl, hF, hw2⟩
          | (exfalso; omega)
          | exact ⟨_, rfl, 0, S2, rfl, Or.inr ⟨rfl, fun z => absurd ((mayT_6 (by omega)).mp z) (head_nex (by omega))⟩, rfl, hF, hw2⟩
          | exact ⟨_, rfl, 0, S2, rfl, Or.inr ⟨rfl, fun z => absurd ((mayT_15 (by omega)).mp z) (head_nex (by omega))⟩, rfl, hF, hw2⟩
          | exact ⟨_, rfl, 0, S2, rfl, Or.inr ⟨rfl, fun z => absurd ((mayT_7 (by omega)).mp z) (head_nex (by omega))⟩, rfl, hF, hw2⟩
          | exact ⟨_, rfl, 0, S2, rfl, Or.inr ⟨rfl, fun z => absurd ((head_ex ho).mp ((mayT_6 (by omega)).mp z)) (by omega)⟩, rfl, hF, hw2⟩
          | exact ⟨_, rfl, 0, S2, rfl, Or.inr ⟨rfl, fun z => absurd ((head_ex ho).mp ((mayT_15 (by omega)).mp z)) (by omega)⟩, rfl, hF, hw2⟩
          | exact ⟨_, rfl, 0, S2, rfl, Or.inr ⟨rfl, fun z => absurd ((head_ex ho).mp ((mayT_7 (by omega)).mp z)) (by omega)⟩, rfl, hF, hw2⟩
          | exact ⟨_, rfl, 0, S2, rfl, Or.inr ⟨rfl, fun z => absurd ((mayT_o (by omega)).mp z) (by omega)⟩, rfl, hF, hw2⟩
      · exfalso; omega
