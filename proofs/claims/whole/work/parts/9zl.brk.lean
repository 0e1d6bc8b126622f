/-! ===== breaks ===== -/
def wrE (S : mm_S) (l b : Nat) : Prop := ∃ e, runE S (lI (b : Int)) (l : Int) e ∧ 1 ≤ e.1 ∧ e.1 ≤ 5
/-- what the class tries: the last ANSWER is a yes -/
abbrev rsB (l b : Nat) : Prop := 2 ^ l / 2 ≤ b ∧ b < 2 ^ l
def brC (S : mm_S) (n v : Int) : Prop := (v = 0 ∧ ∀ l b : Nat, (l : Int) ≤ n → rsB l b → ¬ wrE S l b) ∨ ∃ l b : Nat, (l : Int) ≤ n ∧ rsB l b ∧ wrE S l b ∧ v = (b : Int) + ((2 ^ l : Nat) : Int) ∧ ∀ l' b' : Nat, rsB l' b' → (l' < l ∨ (l' = l ∧ b' < b)) → ¬ wrE S l' b'
theorem p2_b {l : Nat} (h : l ≤ 9) : (2 : Int) ^ l = ((2 ^ l : Nat) : Int) ∧ 1 ≤ 2 ^ l ∧ 2 ^ l ≤ 512 := by
  refine ⟨by push_cast; rfl, Nat.one_le_two_pow, ?_⟩
  have := Nat.pow_le_pow_right (n := 2) (by decide) h
  exact this
set_option maxRecDepth 100000 in
set_option maxHeartbeats 4000000 in
theorem l_brk {sh : List mm_H} (hx0 : swS sh) (hb : bkS sh) (rh : rnH sh) {S : mm_S} {L : mm_L} (hB : cbB S) {n : Int} (hn : 0 ≤ n ∧ n ≤ 8) : ∀ (q : Nat) (l b : Nat) (S' : mm_S) (L' : mm_L) (l4 : Option Value), (9 - l) * 1000 + (2 ^ l - b) < q → ((l : Int) ≤ n) → (2 ^ l / 2 ≤ b ∧ b ≤ 2 ^ l) → (rnF S S') → (scA S') → (∀ b, b ≠ 138 → L' b = L b) → (∀ l' b' : Nat, rsB l' b' → (l' < l ∨ (l' = l ∧ b' < b)) → ¬ wrE S l' b') → am_AW eX9_breaks (mm sh S' L') 39 [some (.ref 0), some (.int (iI n)), some (.int (iI (l : Int))), some (.int (iI (b : Int))), l4] [] (fun r0 M' => ∃ v, r0 = some (.int (iI v)) ∧ ∃ S' L', M' = mm sh S' L' ∧ brC S n v ∧ rnF S S' ∧ scA S' ∧ ∀ b, b ≠ 138 → L' b = L b) := by
  intro q
  induction q with
  | zero =>
    intro l b S' L' l4 hq
    exact absurd hq (Nat.not_lt_zero _)
  | succ q ih =>
    intro l b S' L' l4 hq hl hbR hrn hsa hL hE
    obtain ⟨hKi, hK1, hK2⟩ := p2_b (show l ≤ 9 by omega)
    obtain ⟨hKi1, hK11, hK12⟩ := p2_b (show l + 1 ≤ 9 by omega)
    have hKs : 2 ^ (l + 1) = 2 * 2 ^ l := by rw [Nat.pow_succ]; omega
    obtain ⟨hB1, hB2, hB3, hB4, hB5⟩ := id hb
    refine am_iload_n rfl dX9_breaks_39 ?_
    refine mm_iconst dX9_breaks_40 ?_
    refine am_iload_n rfl dX9_breaks_41 ?_
    refine mm_ishl dX9_breaks_42 ⟨by omega, by rw [Int.toNat_natCast, hKi]; omega⟩ (by omega) ?_
    rw [Int.toNat_natCast, hKi, Int.one_mul]
    refine mm_jge (tgt := 86) dX9_breaks_43 (by decide) (by omega) (by omega) (fun h43 => ?_) (fun h43 => ?_)
    · refine mm_inc2 dX9_breaks_86 (Nat.le_of_ble_eq_true rfl) (am_c1i _) ?_
      refine am_goto (tgt := 28) dX9_breaks_89 (by decide) ?_
      refine am_iload_n rfl dX9_breaks_28 ?_
      refine am_iload_n rfl dX9_breaks_29 ?_
      refine mm_jgt (tgt := 92) dX9_breaks_30 (by decide) (by omega) (by omega) (fun h30 => ?_) (fun h30 => ?_)
      · refine mm_iconst dX9_breaks_92 ?_
        refine am_ireturn dX9_breaks_93 rfl rfl ?_
        refine ⟨0, rfl, S', L', rfl, Or.inl ⟨rfl, fun l' b' y1 y2 => hE l' b' y2 ?_⟩, hrn, hsa, hL⟩
        by_cases z : l' = l
        · subst z; right; exact ⟨rfl, by have := y2.2; omega⟩
        · left; omega
      · refine mm_iconst dX9_breaks_33 ?_
        refine am_iload_n rfl dX9_breaks_34 ?_
        rw [show (l : Int) + 1 = ((l + 1 : Nat) : Int) by omega]
        refine mm_ishl dX9_breaks_35 ⟨by omega, by rw [Int.toNat_natCast, hKi1]; omega⟩ (by omega) ?_
        rw [Int.toNat_natCast, hKi1, Int.one_mul]
        refine mm_iconst dX9_breaks_36 ?_
        refine mm_ishr dX9_breaks_37 (by omega) (by omega) ?_
        rw [show (2 : Int) ^ (1 : Int).toNat = 2 from rfl, show ((2 ^ (l + 1) : Nat) : Int) / 2 = ((2 ^ (l + 1) / 2 : Nat) : Int) by omega]
        refine am_ist3 dX9_breaks_38 (Nat.le_of_ble_eq_true rfl) (am_c1i _) ?_
        first
          | (have hnw : ¬ wrE S l b := fun ⟨e', q1, q2, q3⟩ => by
               have := abr_u hrun q1
               subst this
               omega
             refine ih l (b + 1) S2 _ _ (by omega) hl (by omega) hrn2 hsa2 hL2 (fun l' b' y1 y2 => ?_)
             by_cases z : l' = l ∧ b' = b
             · rw [z.1, z.2]; exact hnw
             · exact hE l' b' y1 (by omega))
          | (refine ih (l + 1) (2 ^ (l + 1) / 2) S' L' _ (by omega) (by omega) (by omega) hrn hsa hL (fun l' b' y1 y2 => hE l' b' y1 ?_)
             by_cases z : l' = l + 1
             · subst z; exfalso; have := y1.1; omega
             · by_cases z2 : l' = l
               · subst z2; right; exact ⟨rfl, by have := y1.2; omega⟩
               · left; omega)
    · refine am_aload_n rfl dX9_breaks_46 ?_
      refine mm_getR dX9_breaks_47 fl_X9_33 hx0 rfl ?_
      refine am_aload_n rfl dX9_breaks_50 ?_
      refine mm_getR dX9_breaks_51 fl_X9_10 hx0 rfl ?_
      refine am_iload_n rfl dX9_breaks_54 ?_
      refine mm_i2l dX9_breaks_55 (by omega) ?_
      refine am_iload_n rfl dX9_breaks_56 ?_
      refine am_cxI (mm_V3 dX9_breaks_57 in_X7_play mk_X9_195 im_X7_play sl_X7_play ⟨Nat.le_of_ble_eq_true rfl, Nat.le_of_ble_eq_true rfl⟩ rfl rh.1 (Nat.le_of_ble_eq_true rfl)) ((c_play (S0 := S) (n := (l : Int)) (x := lI (b : Int)) rh hb hB (by omega) hrn hsa (L := L')).mono (Q' := fun r0 M' => ∃ v : Int, r0 = some (.int (iI v)) ∧ ∃ e : aEn, v = e.1 ∧ ∃ S2, M' = mm sh S2 (upL L' 138 6 (lI (b : Int))) ∧ 0 ≤ e.1 ∧ runE S (lI (b : Int)) (l : Int) e ∧ enS S S2 (l : Int) e) (fun r0 M' z => by obtain ⟨e, z1, S2, z2, z3, z4, z5⟩ := z; exact ⟨e.1, z1, e, rfl, S2, z2, z3, z4, z5⟩)) (fun v M1 hq => ?_)
      obtain ⟨en, rfl, S2, rfl, hv0, hrun, hrn2, hsa2, -⟩ := hq
      have hv8 := en_R hrun
      have hL2 : ∀ b', b' ≠ 138 → (upL L' 138 6 (lI (b : Int))) b' = L b' := fun b' hb' => by rw [upL_row hb']; exact hL b' hb'
      refine am_ist4 dX9_breaks_60 (Nat.le_of_ble_eq_true rfl) (am_c1i _) ?_
      refine am_iload rfl dX9_breaks_62 ?_
      refine mm_iconst dX9_breaks_64 ?_
      refine mm_jlt (tgt := 80) dX9_breaks_65 (by decide) (by omega) (by omega) (fun h65 => ?_) (fun h65 => ?_)
      · refine mm_inc3 dX9_breaks_80 (Nat.le_of_ble_eq_true rfl) (am_c1i _) ?_
        refine am_goto (tgt := 39) dX9_breaks_83 (by decide) ?_
        first
          | (have hnw : ¬ wrE S l b := fun ⟨e', q1, q2, q3⟩ => by
               have := abr_u hrun q1
               subst this
               omega
             refine ih l (b + 1) S2 _ _ (by omega) hl (by omega) hrn2 hsa2 hL2 (fun l' b' y1 y2 => ?_)
             by_cases z : l' = l ∧ b' = b
             · rw [z.1, z.2]; exact hnw
             · exact hE l' b' y1 (by omega))
          | (refine ih (l + 1) (2 ^ (l + 1) / 2) S' L' _ (by omega) (by omega) (by omega) hrn hsa hL (fun l' b' y1 y2 => hE l' b' y1 ?_)
             by_cases z : l' = l + 1
             · subst z; exfalso; have := y1.1; omega
             · by_cases z2 : l' = l
               · subst z2; right; exact ⟨rfl, by have := y1.2; omega⟩
               · left; omega)
      · refine am_iload rfl dX9_breaks_68 ?_
        refine mm_iconst dX9_breaks_70 ?_
        refine mm_jgt (tgt := 80) dX9_breaks_71 (by decide) (by omega) (by omega) (fun h71 => ?_) (fun h71 => ?_)
        · refine mm_inc3 dX9_breaks_80 (Nat.le_of_ble_eq_true rfl) (am_c1i _) ?_
          refine am_goto (tgt := 39) dX9_breaks_83 (by decide) ?_
          first
            | (have hnw : ¬ wrE S l b := fun ⟨e', q1, q2, q3⟩ => by
                 have := abr_u hrun q1
                 subst this
                 omega
               refine ih l (b + 1) S2 _ _ (by omega) hl (by omega) hrn2 hsa2 hL2 (fun l' b' y1 y2 => ?_)
               by_cases z : l' = l ∧ b' = b
               · rw [z.1, z.2]; exact hnw
               · exact hE l' b' y1 (by omega))
            | (refine ih (l + 1) (2 ^ (l + 1) / 2) S' L' _ (by omega) (by omega) (by omega) hrn hsa hL (fun l' b' y1 y2 => hE l' b' y1 ?_)
               by_cases z : l' = l + 1
               · subst z; exfalso; have := y1.1; omega
               · by_cases z2 : l' = l
                 · subst z2; right; exact ⟨rfl, by have := y1.2; omega⟩
                 · left; omega)
        · refine am_iload_n rfl dX9_breaks_74 ?_
          refine mm_iconst dX9_breaks_75 ?_
          refine am_iload_n rfl dX9_breaks_76 ?_
          refine mm_ishl dX9_breaks_77 ⟨by omega, by rw [Int.toNat_natCast, hKi]; omega⟩ (by omega) ?_
          rw [Int.toNat_natCast, hKi, Int.one_mul]
          refine mm_iadd dX9_breaks_78 ?_
          refine am_ireturn dX9_breaks_79 rfl rfl ?_
          exact ⟨_, rfl, S2, _, rfl, Or.inr ⟨l, b, hl, ⟨hbR.1, by omega⟩, ⟨en, hrun, by omega, by omega⟩, rfl, hE⟩, hrn2, hsa2, hL2⟩
set_option maxRecDepth 100000 in
set_option maxHeartbeats 4000000 in
theorem c_breaks {sh : List mm_H} {S : mm_S} {L : mm_L} (hx0 : swS sh) (hb : bkS sh) (rh : rnH sh) (hv : bkV S) (hR : rtA S) (hcB : cWhole S → cbB S) (hsa : scA S) {n : Int} (hn : Rg n) : am_E eX9_breaks [.ref 0, .int (iI n)] (mm sh S L) (fun r0 M' => ∃ v, r0 = some (.int (iI v)) ∧ ∃ S' L', M' = mm sh S' L' ∧ ((¬ (0 ≤ n ∧ n ≤ 8) ∧ v = -2 ∧ S' = S ∧ L' = L) ∨ ((0 ≤ n ∧ n ≤ 8) ∧ ¬ cWhole S ∧ v = -3 ∧ S' = S ∧ L' = L) ∨ ((0 ≤ n ∧ n ≤ 8) ∧ cWhole S ∧ brC S n v ∧ rnF S S' ∧ scA S' ∧ ∀ b, b ≠ 138 → L' b = L b))) := by
  obtain ⟨hB1, hB2, hB3, hB4, hB5⟩ := id hb
  refine am_enter rfl rfl (Nat.le_of_ble_eq_true rfl) ?_
  refine am_iload_n rfl dX9_breaks_0 ?_
  refine mm_zlt (tgt := 10) dX9_breaks_1 (by decide) (by omega) (fun h1 => ?_) (fun h1 => ?_)
  · refine mm_bipush dX9_breaks_10 (by decide) ?_
    refine am_ireturn dX9_breaks_12 rfl rfl ?_
    exact ⟨-2, rfl, S, L, rfl, Or.inl ⟨by omega, rfl, rfl, rfl⟩⟩
  · refine am_iload_n rfl dX9_breaks_4 ?_
    refine mm_bipush dX9_breaks_5 (by decide) ?_
    refine mm_jle (tgt := 13) dX9_breaks_7 (by decide) (by omega) (by omega) (fun h7 => ?_) (fun h7 => ?_)
    · refine am_aload_n rfl dX9_breaks_13 ?_
      refine mm_getR dX9_breaks_14 fl_X9_10 hx0 rfl ?_
      refine am_cxi (mm_V0 dX9_breaks_17 in_X0_isWhole mk_X9_145 im_X0_isWhole sl_X0_isWhole ⟨Nat.le_of_ble_eq_true rfl, Nat.le_of_ble_eq_true rfl⟩ rfl hB1 (Nat.le_of_ble_eq_true rfl)) (c_isWhole hb hv hR) (fun aw M1 hq => ?_)
      obtain ⟨av, rfl, hte, rfl⟩ := hq
      have hav := tells_01 hte
      refine mm_zne (tgt := 26) dX9_breaks_20 (by decide) (by omega) (fun h20 => ?_) (fun h20 => ?_)
      · have hwh := tells_t hte (by omega)
        refine mm_iconst dX9_breaks_26 ?_
        refine am_ist2 dX9_breaks_27 (Nat.le_of_ble_eq_true rfl) (am_c1i _) ?_
        refine am_iload_n rfl dX9_breaks_28 ?_
        refine am_iload_n rfl dX9_breaks_29 ?_
        refine mm_jgt (tgt := 92) dX9_breaks_30 (by decide) (by omega) (by omega) (fun h30 => ?_) (fun h30 => ?_)
        · exfalso; omega
        · refine mm_iconst dX9_breaks_33 ?_
          refine am_iload_n rfl dX9_breaks_34 ?_
          refine mm_ishl dX9_breaks_35 ⟨by omega, by show (1 : Int) * 2 ^ 0 < 2147483648; omega⟩ (by omega) ?_
          refine mm_iconst dX9_breaks_36 ?_
          refine mm_ishr dX9_breaks_37 (by show (0 : Int) ≤ 1 * 2 ^ 0 ∧ (1 : Int) * 2 ^ 0 < 2147483648; omega) (by omega) ?_
          refine am_ist3 dX9_breaks_38 (Nat.le_of_ble_eq_true rfl) (am_c1i _) ?_
          have h9 := l_brk hx0 hb rh (L := L) (hcB hwh) (n := n) (by omega) 10000 0 0 S L none (by omega) (by omega) (by show 2 ^ 0 / 2 ≤ 0 ∧ 0 ≤ 2 ^ 0; decide) (rn_rf S) hsa (fun _ _ => rfl) (fun l' b' _ y => by exfalso; omega)
          refine am_AW.mono h9 (fun r0 M' z => ?_)
          obtain ⟨v, z1, S', L', z2, z3, z4, z5, z6⟩ := z
          exact ⟨v, z1, S', L', z2, Or.inr (Or.inr ⟨by omega, hwh, z3, z4, z5, z6⟩)⟩
      · refine mm_bipush dX9_breaks_23 (by decide) ?_
        refine am_ireturn dX9_breaks_25 rfl rfl ?_
        exact ⟨-3, rfl, S, L, rfl, Or.inr (Or.inl ⟨by omega, tells_f hte (by omega), rfl, rfl, rfl⟩)⟩
    · refine mm_bipush dX9_breaks_10 (by decide) ?_
      refine am_ireturn dX9_breaks_12 rfl rfl ?_
      exact ⟨-2, rfl, S, L, rfl, Or.inl ⟨by omega, rfl, rfl, rfl⟩⟩
