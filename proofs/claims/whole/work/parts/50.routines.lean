def rtA (S : mm_S) : Prop := ∀ r : Nat, r < 6 → rtI S (22 + 10 * r)
abbrev cRO (S : mm_S) (r : Nat) : Prop := stk (S ((22 + 10 * r) + 1)) (S (22 + 10 * r) 0).toNat = [] ∧ ∀ i : Nat, (i : Int) < S (22 + 10 * r) 0 → cCall S (22 + 10 * r) i (S 1 1)
def cWhole (S : mm_S) : Prop := 0 < S 1 1 ∧ ∀ r : Nat, (r : Int) < S 1 1 → cRO S r
set_option maxRecDepth 100000 in
set_option maxHeartbeats 4000000 in
theorem l_cwh {sh : List mm_H} {S : mm_S} {L : mm_L} (hb : bkS sh) (hv : bkV S) (hR : rtA S) (h0 : 0 < S 1 1) : ∀ (q : Nat) (r : Nat), (S 1 1).toNat - r < q → ((r : Int) ≤ S 1 1) → (∀ r2 : Nat, r2 < r → cRO S r2) → am_AW eX0_isWhole (mm sh S L) 11 [some (.ref 1), some (.int (iI (r : Int)))] [] (fun r0 M' => ∃ w, r0 = some (.int w) ∧ ∃ v, w = iI v ∧ tells v (cWhole S) ∧ M' = mm sh S L) := by
  intro q
  induction q with
  | zero =>
    intro r hq
    exact absurd hq (Nat.not_lt_zero _)
  | succ q ih =>
    intro r hq hr hob
    obtain ⟨hB1, hB2, hB3, hB4, hB5⟩ := hb
    obtain ⟨w0, w1, w2, w3⟩ := hv
    have hrr := hR
    refine am_iload_n rfl dX0_isWhole_11 ?_
    refine am_aload_n rfl dX0_isWhole_12 ?_
    refine mm_getI dX0_isWhole_13 fl_X0_15 hB1 rfl ?_
    refine mm_jge (tgt := 55) dX0_isWhole_16 (by decide) (by omega) (by omega) (fun h16 => ?_) (fun h16 => ?_)
    · refine mm_iconst dX0_isWhole_55 ?_
      refine am_ireturn dX0_isWhole_56 rfl rfl ?_
      exact ⟨_, rfl, 1, rfl, Or.inl ⟨rfl, h0, fun r2 h2 => hob r2 (by omega)⟩, rfl⟩
    · refine am_aload_n rfl dX0_isWhole_19 ?_
      refine mm_getR dX0_isWhole_20 fl_X0_26 hB1 rfl ?_
      refine am_iload_n rfl dX0_isWhole_23 ?_
      have hlen := stk_len (hR r (by omega)).2.1
      have g1 := (hR r (by omega)).2.2.1.1.1
      refine mm_aal dX0_isWhole_24 (fun _ => rfl) hB3 ⟨by omega, by omega, by omega⟩ (rArr_at (j := r) (by omega)) ?_
      refine mm_getI dX0_isWhole_25 fl_X0_45 (hB5 r (by omega)).1 rfl ?_
      try rw [show 22 + 10 * ((r : Int)).toNat = 22 + 10 * r from rfl]
      rw [g1]
      refine mm_zgt (tgt := 47) dX0_isWhole_28 (by decide) (by omega) (fun h28 => ?_) (fun h28 => ?_)
      · refine mm_iconst dX0_isWhole_47 ?_
        refine am_ireturn dX0_isWhole_48 rfl rfl ?_
        first
          | exact ⟨_, rfl, 0, rfl, Or.inr ⟨rfl, fun z => by have := List.length_eq_zero_iff.mpr (z.2 r (by omega)).1; omega⟩, rfl⟩
          | exact ⟨_, rfl, 0, rfl, Or.inr ⟨rfl, fun z => absurd (z.2 r (by omega)).2 (tells_t hv2 (by omega))⟩, rfl⟩
      · refine am_aload_n rfl dX0_isWhole_31 ?_
        refine mm_getR dX0_isWhole_32 fl_X0_26 hB1 rfl ?_
        refine am_iload_n rfl dX0_isWhole_35 ?_
        refine mm_aal dX0_isWhole_36 (fun _ => rfl) hB3 ⟨by omega, by omega, by omega⟩ (rArr_at (j := r) (by omega)) ?_
        refine am_aload_n rfl dX0_isWhole_37 ?_
        refine mm_getI dX0_isWhole_38 fl_X0_15 hB1 rfl ?_
        refine am_cxi (mm_V1 dX0_isWhole_41 in_X6_callsBeyond mk_X0_48 im_X6_callsBeyond sl_X6_callsBeyond ⟨Nat.le_of_ble_eq_true rfl, Nat.le_of_ble_eq_true rfl⟩ rfl (hB5 r (by omega)).1 (Nat.le_of_ble_eq_true rfl)) (c_beyond (hB5 r (by omega)) (hR r (by omega)) (by omega)) (fun w M1 hM1 => ?_)
        obtain ⟨v, rfl, hv2, rfl⟩ := hM1
        have hv01 := tells_01 hv2
        refine mm_zeq (tgt := 49) dX0_isWhole_44 (by decide) (by omega) (fun h44 => ?_) (fun h44 => ?_)
        · refine mm_inc1 dX0_isWhole_49 (Nat.le_of_ble_eq_true rfl) (am_c1r _) ?_
          refine am_goto (tgt := 11) dX0_isWhole_52 (by decide) ?_
          refine ih (r + 1) (by omega) (by omega) (fun r2 hr2 => ?_)
          by_cases h9 : r2 = r
          · subst h9
            exact ⟨List.length_eq_zero_iff.mp (by omega), Classical.byContradiction (fun z => tells_f hv2 (by omega) z)⟩
          · exact hob r2 (by omega)
        · refine mm_iconst dX0_isWhole_47 ?_
          refine am_ireturn dX0_isWhole_48 rfl rfl ?_
          first
            | exact ⟨_, rfl, 0, rfl, Or.inr ⟨rfl, fun z => by have := List.length_eq_zero_iff.mpr (z.2 r (by omega)).1; omega⟩, rfl⟩
            | exact ⟨_, rfl, 0, rfl, Or.inr ⟨rfl, fun z => absurd (z.2 r (by omega)).2 (tells_t hv2 (by omega))⟩, rfl⟩
set_option maxRecDepth 100000 in
set_option maxHeartbeats 4000000 in
theorem c_isWhole {sh : List mm_H} {S : mm_S} {L : mm_L} (hb : bkS sh) (hv : bkV S) (hR : rtA S) : am_E eX0_isWhole [.ref 1] (mm sh S L) (fun r0 M' => ∃ w, r0 = some (.int w) ∧ ∃ v, w = iI v ∧ tells v (cWhole S) ∧ M' = mm sh S L) := by
  obtain ⟨hB1, hB2, hB3, hB4, hB5⟩ := hb
  obtain ⟨w0, w1, w2, w3⟩ := hv
  refine am_enter rfl rfl (Nat.le_of_ble_eq_true rfl) ?_
  refine am_aload_n rfl dX0_isWhole_0 ?_
  refine mm_getI dX0_isWhole_1 fl_X0_15 hB1 rfl ?_
  refine mm_zne (tgt := 9) dX0_isWhole_4 (by decide) (by omega) (fun h4 => ?_) (fun h4 => ?_)
  · refine mm_iconst dX0_isWhole_9 ?_
    refine am_ist1 dX0_isWhole_10 (Nat.le_of_ble_eq_true rfl) (am_c1r _) ?_
    exact l_cwh ⟨hB1, hB2, hB3, hB4, hB5⟩ ⟨w0, w1, w2, w3⟩ hR (by omega) 7 0 (by omega) (by omega) (fun r2 h => absurd h (Nat.not_lt_zero r2))
  · refine mm_iconst dX0_isWhole_7 ?_
    refine am_ireturn dX0_isWhole_8 rfl rfl ?_
    exact ⟨_, rfl, 0, rfl, Or.inr ⟨rfl, fun z => by have := z.1; omega⟩, rfl⟩
abbrev cokSt (S : mm_S) (r x a b : Int) : Prop := hasR S r ∧ (0 ≤ x ∧ x ≤ 15) ∧ okA x a ∧ okB S x b
/-- what statement() does to the class's cells -/
def cstQ (S S' : mm_S) (r x a b v : Int) : Prop := (¬ cokSt S r x a b ∧ v = -2 ∧ S' = S) ∨ (cokSt S r x a b ∧ ¬ mayT (S (22 + 10 * r.toNat + 1)) (S (22 + 10 * r.toNat) 0).toNat x ∧ v = -3 ∧ S' = S) ∨
  (cokSt S r x a b ∧ mayT (S (22 + 10 * r.toNat + 1)) (S (22 + 10 * r.toNat) 0).toNat x ∧ S (22 + 10 * r.toNat) 0 = 24 ∧ v = -4 ∧ S' = S) ∨
  (cokSt S r x a b ∧ mayT (S (22 + 10 * r.toNat + 1)) (S (22 + 10 * r.toNat) 0).toNat x ∧ S (22 + 10 * r.toNat) 0 < 24 ∧ v = S (22 + 10 * r.toNat) 0 + 1 ∧ lkF (apS S (22 + 10 * r.toNat) x (pick (lookA x) a) (pick (lookB x) b)) S' (22 + 10 * r.toNat) ∧ lkI S' (apS S (22 + 10 * r.toNat) x (pick (lookA x) a) (pick (lookB x) b) (22 + 10 * r.toNat + 1)) (22 + 10 * r.toNat) ((S (22 + 10 * r.toNat) 0).toNat + 1) ∧ S' (22 + 10 * r.toNat + 7) ((S (22 + 10 * r.toNat) 0).toNat + 1) = 0)
set_option maxRecDepth 100000 in
set_option maxHeartbeats 4000000 in
theorem c_statement {sh : List mm_H} {S : mm_S} {L : mm_L} (hx0 : swS sh) (hb : bkS sh) (hv : bkV S) (hR : rtA S) {r x a b : Int} (hr : Rg r) (hx : Rg x) (ha : Rg a) (hbb : Rg b) : am_E eX9_statement [.ref 0, .int (iI r), .int (iI x), .int (iI a), .int (iI b)] (mm sh S L) (fun r0 M' => ∃ v S', r0 = some (.int (iI v)) ∧ M' = mm sh S' L ∧ cstQ S S' r x a b v) := by
  obtain ⟨hB1, hB2, hB3, hB4, hB5⟩ := hb
  obtain ⟨w0, w1, w2, w3⟩ := hv
  refine am_enter rfl rfl (Nat.le_of_ble_eq_true rfl) ?_
  refine am_aload_n rfl dX9_statement_0 ?_
  refine mm_getR dX9_statement_1 fl_X9_10 hx0 rfl ?_
  refine am_iload_n rfl dX9_statement_4 ?_
  refine am_ci (mm_V1 dX9_statement_5 in_X0_hasRoutine mk_X9_104 im_X0_hasRoutine sl_X0_hasRoutine ⟨Nat.le_of_ble_eq_true rfl, Nat.le_of_ble_eq_true rfl⟩ rfl hB1 (Nat.le_of_ble_eq_true rfl)) (c_hasRoutine ⟨hB1, hB2, hB3, hB4, hB5⟩ ⟨w0, w1, w2, w3⟩ hr) ?_
  refine mm_beq (tgt := 21) dX9_statement_8 (by decide) (fun h8 => ?_) (fun h8 => ?_)
  · refine mm_bipush dX9_statement_21 (by decide) ?_
    refine am_ireturn dX9_statement_23 rfl rfl ?_
    exact ⟨_, S, rfl, rfl, Or.inl ⟨by omega, rfl, rfl⟩⟩
  · refine am_iload_n rfl dX9_statement_11 ?_
    refine mm_zlt (tgt := 21) dX9_statement_12 (by decide) (by omega) (fun h12 => ?_) (fun h12 => ?_)
    · refine mm_bipush dX9_statement_21 (by decide) ?_
      refine am_ireturn dX9_statement_23 rfl rfl ?_
      exact ⟨_, S, rfl, rfl, Or.inl ⟨by omega, rfl, rfl⟩⟩
    · refine am_iload_n rfl dX9_statement_15 ?_
      refine mm_bipush dX9_statement_16 (by decide) ?_
      refine mm_jle (tgt := 24) dX9_statement_18 (by decide) (by omega) (by omega) (fun h18 => ?_) (fun h18 => ?_)
      · refine am_iload_n rfl dX9_statement_24 ?_
        refine am_iload_n rfl dX9_statement_25 ?_
        refine am_ci (mm_S2 dX9_statement_26 in_X9_isFirst mk_X9_107 st_X9_isFirst ⟨Nat.le_of_ble_eq_true rfl, Nat.le_of_ble_eq_true rfl⟩ (Nat.le_of_ble_eq_true rfl)) (c_isFirst hx ha) ?_
        refine mm_beq (tgt := 42) dX9_statement_29 (by decide) (fun h29 => ?_) (fun h29 => ?_)
        · refine mm_bipush dX9_statement_42 (by decide) ?_
          refine am_ireturn dX9_statement_44 rfl rfl ?_
          exact ⟨_, S, rfl, rfl, Or.inl ⟨by omega, rfl, rfl⟩⟩
        · refine am_aload_n rfl dX9_statement_32 ?_
          refine am_iload_n rfl dX9_statement_33 ?_
          refine am_iload rfl dX9_statement_34 ?_
          refine am_ci (mm_V2 dX9_statement_36 in_X9_isSecond mk_X9_110 im_X9_isSecond sl_X9_isSecond ⟨Nat.le_of_ble_eq_true rfl, Nat.le_of_ble_eq_true rfl⟩ rfl hx0 (Nat.le_of_ble_eq_true rfl)) (c_isSecond hx0 ⟨hB1, hB2, hB3, hB4, hB5⟩ ⟨w0, w1, w2, w3⟩ hx hbb) ?_
          refine mm_bne (tgt := 45) dX9_statement_39 (by decide) (fun h39 => ?_) (fun h39 => ?_)
          · obtain ⟨r, rfl⟩ := Int.eq_ofNat_of_zero_le (show 0 ≤ r by omega)
            have hw3 := w3 r (by omega)
            refine am_aload_n rfl dX9_statement_45 ?_
            refine mm_getR dX9_statement_46 fl_X9_10 hx0 rfl ?_
            refine mm_getR dX9_statement_49 fl_X9_113 hB1 rfl ?_
            refine am_iload_n rfl dX9_statement_52 ?_
            refine mm_aal dX9_statement_53 (fun _ => rfl) hB3 ⟨by omega, by omega, by omega⟩ (rArr_at (j := r) (by omega)) ?_
            refine am_ast5 dX9_statement_54 (Nat.le_of_ble_eq_true rfl) (am_c1i _) ?_
            refine am_aload rfl dX9_statement_56 ?_
            refine am_iload_n rfl dX9_statement_58 ?_
            refine am_cxi (mm_V1 dX9_statement_59 in_X6_takes mk_X9_117 im_X6_takes sl_X6_takes ⟨Nat.le_of_ble_eq_true rfl, Nat.le_of_ble_eq_true rfl⟩ rfl (hB5 r (by omega)).1 (Nat.le_of_ble_eq_true rfl)) (c_takes (hB5 r (by omega)) (hR r (by omega)) hx) (fun w M1 hM1 => ?_)
            obtain ⟨v, rfl, hv2, rfl⟩ := hM1
            have hv01 := tells_01 hv2
            refine mm_zne (tgt := 68) dX9_statement_62 (by decide) (by omega) (fun h62 => ?_) (fun h62 => ?_)
            · refine am_aload rfl dX9_statement_68 ?_
              refine mm_getI dX9_statement_70 fl_X9_122 (hB5 r (by omega)).1 rfl ?_
              try rw [show 22 + 10 * ((r : Int)).toNat = 22 + 10 * r from rfl]
              refine mm_bipush dX9_statement_73 (by decide) ?_
              refine mm_jlt (tgt := 81) dX9_statement_75 (by decide) (by omega) (by omega) (fun h75 => ?_) (fun h75 => ?_)
              · refine am_aload rfl dX9_statement_81 ?_
                refine am_iload_n rfl dX9_statement_83 ?_
                refine am_iload_n rfl dX9_statement_84 ?_
                refine am_ci (mm_S1 dX9_statement_85 in_X9_looksAtFirst mk_X9_125 st_X9_looksAtFirst ⟨Nat.le_of_ble_eq_true rfl, Nat.le_of_ble_eq_true rfl⟩ (Nat.le_of_ble_eq_true rfl)) (c_looksAtFirst hx) ?_
                refine mm_beq (tgt := 95) dX9_statement_88 (by decide) (fun h88 => ?_) (fun h88 => ?_)
                · refine mm_iconst dX9_statement_95 ?_
                  refine am_iload_n rfl dX9_statement_96 ?_
                  refine am_ci (mm_S1 dX9_statement_97 in_X9_looksAtSecond mk_X9_128 st_X9_looksAtSecond ⟨Nat.le_of_ble_eq_true rfl, Nat.le_of_ble_eq_true rfl⟩ (Nat.le_of_ble_eq_true rfl)) (c_looksAtSecond hx) ?_
                  refine mm_beq (tgt := 108) dX9_statement_100 (by decide) (fun h100 => ?_) (fun h100 => ?_)
                  · refine mm_iconst dX9_statement_108 ?_
                    refine am_cxv (mm_V3 dX9_statement_109 in_X6_append mk_X9_131 im_X6_append sl_X6_append ⟨Nat.le_of_ble_eq_true rfl, Nat.le_of_ble_eq_true rfl⟩ rfl (hB5 r (by omega)).1 (Nat.le_of_ble_eq_true rfl)) (c_append (hB5 r (by omega)) (hR r (by omega)) (by omega) (by omega) (tells_t hv2 (by omega))) (fun M1 hM1 => ?_)
                    obtain ⟨S2, rfl, hF, hl, hz⟩ := hM1
                    have hS2 : S2 (22 + 10 * r) 0 = S (22 + 10 * r) 0 + 1 := by rw [hF.2.2.2.2 0 (by omega)]; exact up2_same _ _ _ _
                    refine am_aload rfl dX9_statement_112 ?_
                    refine mm_getI dX9_statement_114 fl_X9_122 (hB5 r (by omega)).1 rfl ?_
                    try rw [show 22 + 10 * ((r : Int)).toNat = 22 + 10 * r from rfl]
                    rw [hS2]
                    refine am_ireturn dX9_statement_117 rfl rfl ?_
                    first
                      | (exfalso; omega)
                      | (refine ⟨_, S2, rfl, rfl, Or.inr (Or.inr (Or.inr ⟨by omega, tells_t hv2 (by omega), show S (22 + 10 * r) 0 < 24 by omega, rfl, ?_⟩))⟩
                         simp only [pick]
                         first | (rw [if_pos h88, if_pos h100]; exact ⟨hF, hl, hz⟩) | (rw [if_pos h88, if_neg h100]; exact ⟨hF, hl, hz⟩) | (rw [if_neg h88, if_neg h100]; exact ⟨hF, hl, hz⟩))
                  · refine am_iload rfl dX9_statement_103 ?_
                    refine am_goto (tgt := 109) dX9_statement_105 (by decide) ?_
                    refine am_cxv (mm_V3 dX9_statement_109 in_X6_append mk_X9_131 im_X6_append sl_X6_append ⟨Nat.le_of_ble_eq_true rfl, Nat.le_of_ble_eq_true rfl⟩ rfl (hB5 r (by omega)).1 (Nat.le_of_ble_eq_true rfl)) (c_append (hB5 r (by omega)) (hR r (by omega)) (by omega) (by omega) (tells_t hv2 (by omega))) (fun M1 hM1 => ?_)
                    obtain ⟨S2, rfl, hF, hl, hz⟩ := hM1
                    have hS2 : S2 (22 + 10 * r) 0 = S (22 + 10 * r) 0 + 1 := by rw [hF.2.2.2.2 0 (by omega)]; exact up2_same _ _ _ _
                    refine am_aload rfl dX9_statement_112 ?_
                    refine mm_getI dX9_statement_114 fl_X9_122 (hB5 r (by omega)).1 rfl ?_
                    try rw [show 22 + 10 * ((r : Int)).toNat = 22 + 10 * r from rfl]
                    rw [hS2]
                    refine am_ireturn dX9_statement_117 rfl rfl ?_
                    first
                      | (exfalso; omega)
                      | (refine ⟨_, S2, rfl, rfl, Or.inr (Or.inr (Or.inr ⟨by omega, tells_t hv2 (by omega), show S (22 + 10 * r) 0 < 24 by omega, rfl, ?_⟩))⟩
                         simp only [pick]
                         first | (rw [if_pos h88, if_pos h100]; exact ⟨hF, hl, hz⟩) | (rw [if_pos h88, if_neg h100]; exact ⟨hF, hl, hz⟩) | (rw [if_neg h88, if_neg h100]; exact ⟨hF, hl, hz⟩))
                · refine am_iload_n rfl dX9_statement_91 ?_
                  refine am_goto (tgt := 96) dX9_statement_92 (by decide) ?_
                  refine am_iload_n rfl dX9_statement_96 ?_
                  refine am_ci (mm_S1 dX9_statement_97 in_X9_looksAtSecond mk_X9_128 st_X9_looksAtSecond ⟨Nat.le_of_ble_eq_true rfl, Nat.le_of_ble_eq_true rfl⟩ (Nat.le_of_ble_eq_true rfl)) (c_looksAtSecond hx) ?_
                  refine mm_beq (tgt := 108) dX9_statement_100 (by decide) (fun h100 => ?_) (fun h100 => ?_)
                  · refine mm_iconst dX9_statement_108 ?_
                    refine am_cxv (mm_V3 dX9_statement_109 in_X6_append mk_X9_131 im_X6_append sl_X6_append ⟨Nat.le_of_ble_eq_true rfl, Nat.le_of_ble_eq_true rfl⟩ rfl (hB5 r (by omega)).1 (Nat.le_of_ble_eq_true rfl)) (c_append (hB5 r (by omega)) (hR r (by omega)) (by omega) (by omega) (tells_t hv2 (by omega))) (fun M1 hM1 => ?_)
                    obtain ⟨S2, rfl, hF, hl, hz⟩ := hM1
                    have hS2 : S2 (22 + 10 * r) 0 = S (22 + 10 * r) 0 + 1 := by rw [hF.2.2.2.2 0 (by omega)]; exact up2_same _ _ _ _
                    refine am_aload rfl dX9_statement_112 ?_
                    refine mm_getI dX9_statement_114 fl_X9_122 (hB5 r (by omega)).1 rfl ?_
                    try rw [show 22 + 10 * ((r : Int)).toNat = 22 + 10 * r from rfl]
                    rw [hS2]
                    refine am_ireturn dX9_statement_117 rfl rfl ?_
                    first
                      | (exfalso; omega)
                      | (refine ⟨_, S2, rfl, rfl, Or.inr (Or.inr (Or.inr ⟨by omega, tells_t hv2 (by omega), show S (22 + 10 * r) 0 < 24 by omega, rfl, ?_⟩))⟩
                         simp only [pick]
                         first | (rw [if_pos h88, if_pos h100]; exact ⟨hF, hl, hz⟩) | (rw [if_pos h88, if_neg h100]; exact ⟨hF, hl, hz⟩) | (rw [if_neg h88, if_neg h100]; exact ⟨hF, hl, hz⟩))
                  · refine am_iload rfl dX9_statement_103 ?_
                    refine am_goto (tgt := 109) dX9_statement_105 (by decide) ?_
                    refine am_cxv (mm_V3 dX9_statement_109 in_X6_append mk_X9_131 im_X6_append sl_X6_append ⟨Nat.le_of_ble_eq_true rfl, Nat.le_of_ble_eq_true rfl⟩ rfl (hB5 r (by omega)).1 (Nat.le_of_ble_eq_true rfl)) (c_append (hB5 r (by omega)) (hR r (by omega)) (by omega) (by omega) (tells_t hv2 (by omega))) (fun M1 hM1 => ?_)
                    obtain ⟨S2, rfl, hF, hl, hz⟩ := hM1
                    have hS2 : S2 (22 + 10 * r) 0 = S (22 + 10 * r) 0 + 1 := by rw [hF.2.2.2.2 0 (by omega)]; exact up2_same _ _ _ _
                    refine am_aload rfl dX9_statement_112 ?_
                    refine mm_getI dX9_statement_114 fl_X9_122 (hB5 r (by omega)).1 rfl ?_
                    try rw [show 22 + 10 * ((r : Int)).toNat = 22 + 10 * r from rfl]
                    rw [hS2]
                    refine am_ireturn dX9_statement_117 rfl rfl ?_
                    first
                      | (exfalso; omega)
                      | (refine ⟨_, S2, rfl, rfl, Or.inr (Or.inr (Or.inr ⟨by omega, tells_t hv2 (by omega), show S (22 + 10 * r) 0 < 24 by omega, rfl, ?_⟩))⟩
                         simp only [pick]
                         first | (rw [if_pos h88, if_pos h100]; exact ⟨hF, hl, hz⟩) | (rw [if_pos h88, if_neg h100]; exact ⟨hF, hl, hz⟩) | (rw [if_neg h88, if_neg h100]; exact ⟨hF, hl, hz⟩))
              · refine mm_bipush dX9_statement_78 (by decide) ?_
                refine am_ireturn dX9_statement_80 rfl rfl ?_
                exact ⟨_, S, rfl, rfl, Or.inr (Or.inr (Or.inl ⟨by omega, tells_t hv2 (by omega), show S (22 + 10 * r) 0 = 24 by omega, rfl, rfl⟩))⟩
            · refine mm_bipush dX9_statement_65 (by decide) ?_
              refine am_ireturn dX9_statement_67 rfl rfl ?_
              exact ⟨_, S, rfl, rfl, Or.inr (Or.inl ⟨by omega, tells_f hv2 (by omega), rfl, rfl⟩)⟩
          · refine mm_bipush dX9_statement_42 (by decide) ?_
            refine am_ireturn dX9_statement_44 rfl rfl ?_
            exact ⟨_, S, rfl, rfl, Or.inl ⟨by omega, rfl, rfl⟩⟩
      · refine mm_bipush dX9_statement_21 (by decide) ?_
        refine am_ireturn dX9_statement_23 rfl rfl ?_
        exact ⟨_, S, rfl, rfl, Or.inl ⟨by omega, rfl, rfl⟩⟩
def ccutQ (S S' : mm_S) (r v : Int) : Prop := (¬ hasR S r ∧ v = -2 ∧ S' = S) ∨ (hasR S r ∧ S (22 + 10 * r.toNat) 0 = 0 ∧ v = -3 ∧ S' = S) ∨ (hasR S r ∧ 1 ≤ S (22 + 10 * r.toNat) 0 ∧ v = S (22 + 10 * r.toNat) 0 - 1 ∧ lkF (rmS S (22 + 10 * r.toNat)) S' (22 + 10 * r.toNat) ∧ lkI S' (S (22 + 10 * r.toNat + 1)) (22 + 10 * r.toNat) ((S (22 + 10 * r.toNat) 0).toNat - 1) ∧ S' (22 + 10 * r.toNat + 7) ((S (22 + 10 * r.toNat) 0).toNat - 1) = 0)
set_option maxRecDepth 100000 in
set_option maxHeartbeats 4000000 in
theorem c_cut {sh : List mm_H} {S : mm_S} {L : mm_L} (hx0 : swS sh) (hb : bkS sh) (hv : bkV S) (hR : rtA S) {r : Int} (hr : Rg r) : am_E eX9_cut [.ref 0, .int (iI r)] (mm sh S L) (fun r0 M' => ∃ v S', r0 = some (.int (iI v)) ∧ M' = mm sh S' L ∧ ccutQ S S' r v) := by
  obtain ⟨hB1, hB2, hB3, hB4, hB5⟩ := hb
  obtain ⟨w0, w1, w2, w3⟩ := hv
  refine am_enter rfl rfl (Nat.le_of_ble_eq_true rfl) ?_
  refine am_aload_n rfl dX9_cut_0 ?_
  refine mm_getR dX9_cut_1 fl_X9_10 hx0 rfl ?_
  refine am_iload_n rfl dX9_cut_4 ?_
  refine am_ci (mm_V1 dX9_cut_5 in_X0_hasRoutine mk_X9_104 im_X0_hasRoutine sl_X0_hasRoutine ⟨Nat.le_of_ble_eq_true rfl, Nat.le_of_ble_eq_true rfl⟩ rfl hB1 (Nat.le_of_ble_eq_true rfl)) (c_hasRoutine ⟨hB1, hB2, hB3, hB4, hB5⟩ ⟨w0, w1, w2, w3⟩ hr) ?_
  refine mm_bne (tgt := 14) dX9_cut_8 (by decide) (fun h8 => ?_) (fun h8 => ?_)
  · obtain ⟨r, rfl⟩ := Int.eq_ofNat_of_zero_le (show 0 ≤ r by omega)
    have hw3 := w3 r (by omega)
    refine am_aload_n rfl dX9_cut_14 ?_
    refine mm_getR dX9_cut_15 fl_X9_10 hx0 rfl ?_
    refine mm_getR dX9_cut_18 fl_X9_113 hB1 rfl ?_
    refine am_iload_n rfl dX9_cut_21 ?_
    refine mm_aal dX9_cut_22 (fun _ => rfl) hB3 ⟨by omega, by omega, by omega⟩ (rArr_at (j := r) (by omega)) ?_
    refine mm_getI dX9_cut_23 fl_X9_122 (hB5 r (by omega)).1 rfl ?_
    try rw [show 22 + 10 * ((r : Int)).toNat = 22 + 10 * r from rfl]
    refine mm_zne (tgt := 32) dX9_cut_26 (by decide) (by omega) (fun h26 => ?_) (fun h26 => ?_)
    · refine am_aload_n rfl dX9_cut_32 ?_
      refine mm_getR dX9_cut_33 fl_X9_10 hx0 rfl ?_
      refine mm_getR dX9_cut_36 fl_X9_113 hB1 rfl ?_
      refine am_iload_n rfl dX9_cut_39 ?_
      refine mm_aal dX9_cut_40 (fun _ => rfl) hB3 ⟨by omega, by omega, by omega⟩ (rArr_at (j := r) (by omega)) ?_
      refine am_cxv (mm_V0 dX9_cut_41 in_X6_removeLast mk_X9_135 im_X6_removeLast sl_X6_removeLast ⟨Nat.le_of_ble_eq_true rfl, Nat.le_of_ble_eq_true rfl⟩ rfl (hB5 r (by omega)).1 (Nat.le_of_ble_eq_true rfl)) (c_removeLast (hB5 r (by omega)) (hR r (by omega)) (by omega)) (fun M1 hM1 => ?_)
      obtain ⟨S2, rfl, hF, hl, hz⟩ := hM1
      have hS2 : S2 (22 + 10 * r) 0 = S (22 + 10 * r) 0 - 1 := by rw [hF.2.2.2.2 0 (by omega)]; exact up2_same _ _ _ _
      refine am_aload_n rfl dX9_cut_44 ?_
      refine mm_getR dX9_cut_45 fl_X9_10 hx0 rfl ?_
      refine mm_getR dX9_cut_48 fl_X9_113 hB1 rfl ?_
      refine am_iload_n rfl dX9_cut_51 ?_
      refine mm_aal dX9_cut_52 (fun _ => rfl) hB3 ⟨by omega, by omega, by omega⟩ (rArr_at (j := r) (by omega)) ?_
      refine mm_getI dX9_cut_53 fl_X9_122 (hB5 r (by omega)).1 rfl ?_
      try rw [show 22 + 10 * ((r : Int)).toNat = 22 + 10 * r from rfl]
      rw [hS2]
      refine am_ireturn dX9_cut_56 rfl rfl ?_
      exact ⟨_, S2, rfl, rfl, Or.inr (Or.inr ⟨by omega, show 1 ≤ S (22 + 10 * r) 0 by omega, rfl, hF, hl, hz⟩)⟩
    · refine mm_bipush dX9_cut_29 (by decide) ?_
      refine am_ireturn dX9_cut_31 rfl rfl ?_
      exact ⟨_, S, rfl, rfl, Or.inr (Or.inl ⟨by omega, show S (22 + 10 * r) 0 = 0 by omega, rfl, rfl⟩)⟩
  · refine mm_bipush dX9_cut_11 (by decide) ?_
    refine am_ireturn dX9_cut_13 rfl rfl ?_
    exact ⟨_, S, rfl, rfl, Or.inl ⟨by omega, rfl, rfl⟩⟩
