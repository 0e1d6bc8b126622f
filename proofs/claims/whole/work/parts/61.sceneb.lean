/-! ===== Scene: what is ahead; ro: its ROUTINE ===== -/
/-- what STATEMENTS say is right -/
def rtO (S : mm_S) (ro : Nat) : Prop := ∀ i : Nat, (i : Int) < S ro 0 → okA (S (ro + 1) i) (S (ro + 2) i) ∧ okB S (S (ro + 1) i) (S (ro + 3) i)
/-- where STATEMENTS lead keeps to the ROUTINE -/
def rtT (S : mm_S) (ro : Nat) : Prop := (∀ i : Nat, (i : Int) < S ro 0 → (0 ≤ S (ro + 4) i ∧ S (ro + 4) i ≤ S ro 0) ∧ (-1 ≤ S (ro + 5) i ∧ S (ro + 5) i < i) ∧ (S (ro + 5) i ≠ -1 → 0 ≤ S (ro + 6) (S (ro + 5) i).toNat) ∧ (-1 ≤ S (ro + 6) i ∧ S (ro + 6) i ≤ 5)) ∧ ∀ i : Nat, (i : Int) ≤ S ro 0 → 0 ≤ S (ro + 7) i ∧ S (ro + 7) i < 4096
def wAh (S : mm_S) (a ro : Nat) : Int :=
  if S (ro + 1) (S a 1).toNat = 1 ∨ S (ro + 1) (S a 1).toNat = 2 ∨ S (ro + 1) (S a 1).toNat = 5 then wUse S a (S (ro + 2) (S a 1).toNat) (S (ro + 3) (S a 1).toNat)
  else if S (ro + 1) (S a 1).toNat = 10 ∨ S (ro + 1) (S a 1).toNat = 11 then wCall S a (S (ro + 3) (S a 1).toNat) (S (ro + 1) (S a 1).toNat = 11)
  else if S (ro + 1) (S a 1).toNat = 0 ∨ S (ro + 1) (S a 1).toNat = 9 then (if lftB S a (S (ro + 2) (S a 1).toNat) (-1) then 5 else 0)
  else if S (ro + 1) (S a 1).toNat = 8 then (if lftB S a (S (ro + 2) (S a 1).toNat) (S (a + 1) (S (ro + 3) (S a 1).toNat).toNat) then 5 else 0) else 0
def asP (S : mm_S) (a ro : Nat) : Prop := (2 ≤ S (ro + 1) (S a 1).toNat ∧ S (ro + 1) (S a 1).toNat ≤ 5) ∨ (S (ro + 1) (S a 1).toNat = 1 ∧ kdA S (4 + 3 * (skO S a (S (ro + 2) (S a 1).toNat)).toNat) (ssO S a (S (ro + 2) (S a 1).toNat)) (S (ro + 3) (S a 1).toNat))
set_option maxRecDepth 100000 in
set_option maxHeartbeats 4000000 in
theorem c_wrongAhead {sh : List mm_H} {S : mm_S} {L : mm_L} {a : Nat} (hc : scS sh a) (hV : scV S a) (hK : scK S a) (hb : bkS sh) (hbv : bkV S) {ro : Nat} (hro : ro = 22 + 10 * (S a 0).toNat) (hO : rtO S ro) (hR : rtI S ro) (hl : S a 1 < S ro 0) : am_E eX8_wrongAhead [.ref a, .ref 1] (mm sh S L) (fun r M' => r = some (.int (iI (wAh S a ro))) ∧ M' = mm sh S L) := by
  obtain ⟨hc0, hc1, hc2, hc3⟩ := id hc
  obtain ⟨v0, v1, v2, v3, v4⟩ := id hV
  obtain ⟨hB1, hB2, hB3, hB4, hB5⟩ := id hb
  obtain ⟨w0, w1, w2, w3⟩ := id hbv
  obtain ⟨hr0, hr1, hr2, hr3, hr4, hr5, hr6, hr7, hr8, hr9⟩ := (show rtS sh ro by rw [hro]; exact hB5 (S a 0).toNat (by omega))
  have hl24 := hR.1
  have gR := hR.2.2.2.2 (S a 1).toNat
  have gO := hO (S a 1).toNat (by omega)
  obtain ⟨x, hx⟩ : ∃ x, S (ro + 1) (S a 1).toNat = x := ⟨_, rfl⟩
  obtain ⟨y, hy⟩ : ∃ y, S (ro + 2) (S a 1).toNat = y := ⟨_, rfl⟩
  obtain ⟨z, hz⟩ : ∃ z, S (ro + 3) (S a 1).toNat = z := ⟨_, rfl⟩
  rw [hx, hy, hz] at gR
  rw [hx, hy, hz] at gO
  refine am_enter rfl rfl (Nat.le_of_ble_eq_true rfl) ?_
  refine am_aload_n rfl dX8_wrongAhead_0 ?_
  refine mm_getR dX8_wrongAhead_1 fl_X8_49 hB1 rfl ?_
  refine am_aload_n rfl dX8_wrongAhead_4 ?_
  refine mm_getI dX8_wrongAhead_5 fl_X8_11 hc0 rfl ?_
  refine mm_aal dX8_wrongAhead_8 (fun _ => rfl) hB3 ⟨by omega, by omega, by omega⟩ (show rArr _ = some ro by rw [rArr_at (by omega), hro]) ?_
  refine am_ast2 dX8_wrongAhead_9 (Nat.le_of_ble_eq_true rfl) (am_c1r _) ?_
  refine am_aload_n rfl dX8_wrongAhead_10 ?_
  refine mm_getR dX8_wrongAhead_11 fl_X8_55 hr0 rfl ?_
  refine am_aload_n rfl dX8_wrongAhead_14 ?_
  refine mm_getI dX8_wrongAhead_15 fl_X8_15 hc0 rfl ?_
  refine mm_ial dX8_wrongAhead_18 hr2 (by omega) ?_
  rw [hy]
  refine am_ist3 dX8_wrongAhead_19 (Nat.le_of_ble_eq_true rfl) (am_c1r _) ?_
  refine am_aload_n rfl dX8_wrongAhead_20 ?_
  refine mm_getR dX8_wrongAhead_21 fl_X8_60 hr0 rfl ?_
  refine am_aload_n rfl dX8_wrongAhead_24 ?_
  refine mm_getI dX8_wrongAhead_25 fl_X8_15 hc0 rfl ?_
  refine mm_ial dX8_wrongAhead_28 hr3 (by omega) ?_
  rw [hz]
  refine am_ist4 dX8_wrongAhead_29 (Nat.le_of_ble_eq_true rfl) (am_c1i _) ?_
  refine am_aload_n rfl dX8_wrongAhead_31 ?_
  refine mm_getR dX8_wrongAhead_32 fl_X8_63 hr0 rfl ?_
  refine am_aload_n rfl dX8_wrongAhead_35 ?_
  refine mm_getI dX8_wrongAhead_36 fl_X8_15 hc0 rfl ?_
  refine mm_ial dX8_wrongAhead_39 hr1 (by omega) ?_
  rw [hx]
  rcases (show (x < 0 ∨ 11 < x) ∨ (x = 0 ∨ x = 9) ∨ (x = 1 ∨ x = 2 ∨ x = 5) ∨ (x = 3 ∨ x = 4 ∨ x = 6 ∨ x = 7) ∨ (x = 8) ∨ (x = 10 ∨ x = 11) by omega) with h40 | h40 | h40 | h40 | h40 | h40
  · refine mm_tout (tgt := 177) dX8_wrongAhead_40 (by omega) (by omega) (by decide) ?_
    refine mm_iconst dX8_wrongAhead_177 ?_
    refine am_ireturn dX8_wrongAhead_178 rfl rfl ?_
    rw [wAh, hx, hy, hz]
    exact ⟨by rw [if_neg (by omega), if_neg (by omega), if_neg (by omega), if_neg (by omega)], rfl⟩
  · refine mm_tsw (tgt := 139) (off := 99) [0, 9] dX8_wrongAhead_40 (by simp only [List.mem_cons, List.mem_nil_iff, or_false]; omega) (by decide) (by decide) ?_
    refine am_aload_n rfl dX8_wrongAhead_139 ?_
    refine am_aload_n rfl dX8_wrongAhead_140 ?_
    refine am_iload_n rfl dX8_wrongAhead_141 ?_
    refine mm_iconst dX8_wrongAhead_142 ?_
    refine am_ci (mm_V3 dX8_wrongAhead_143 in_X8_isLeftBy mk_X8_74 im_X8_isLeftBy sl_X8_isLeftBy ⟨Nat.le_of_ble_eq_true rfl, Nat.le_of_ble_eq_true rfl⟩ rfl hc0 (Nat.le_of_ble_eq_true rfl)) (c_isLeftBy hc hV hK hb hbv (by omega) (by omega)) ?_
    refine mm_beq (tgt := 153) dX8_wrongAhead_146 (by decide) (fun h146 => ?_) (fun h146 => ?_)
    · refine mm_iconst dX8_wrongAhead_153 ?_
      refine am_ireturn dX8_wrongAhead_154 rfl rfl ?_
      rw [wAh, hx, hy, hz]
      first
        | exact ⟨by rw [if_neg (by omega), if_neg (by omega), if_pos (by omega), if_pos (by assumption)], rfl⟩
        | exact ⟨by rw [if_neg (by omega), if_neg (by omega), if_pos (by omega), if_neg (by assumption)], rfl⟩
    · refine mm_iconst dX8_wrongAhead_149 ?_
      refine am_goto (tgt := 154) dX8_wrongAhead_150 (by decide) ?_
      refine am_ireturn dX8_wrongAhead_154 rfl rfl ?_
      rw [wAh, hx, hy, hz]
      first
        | exact ⟨by rw [if_neg (by omega), if_neg (by omega), if_pos (by omega), if_pos (by assumption)], rfl⟩
        | exact ⟨by rw [if_neg (by omega), if_neg (by omega), if_pos (by omega), if_neg (by assumption)], rfl⟩
  · refine mm_tsw (tgt := 104) (off := 64) [1, 2, 5] dX8_wrongAhead_40 (by simp only [List.mem_cons, List.mem_nil_iff, or_false]; omega) (by decide) (by decide) ?_
    refine am_aload_n rfl dX8_wrongAhead_104 ?_
    refine am_aload_n rfl dX8_wrongAhead_105 ?_
    refine am_iload_n rfl dX8_wrongAhead_106 ?_
    refine am_iload rfl dX8_wrongAhead_107 ?_
    refine am_ci (mm_V3 dX8_wrongAhead_109 in_X8_wrongUse mk_X8_66 im_X8_wrongUse sl_X8_wrongUse ⟨Nat.le_of_ble_eq_true rfl, Nat.le_of_ble_eq_true rfl⟩ rfl hc0 (Nat.le_of_ble_eq_true rfl)) (c_wrongUse hc hV hK hb hbv (by omega) (by omega)) ?_
    refine am_ireturn dX8_wrongAhead_112 rfl rfl ?_
    rw [wAh, hx, hy, hz]
    exact ⟨by rw [if_pos (by omega)], rfl⟩
  · refine mm_tsw (tgt := 177) (off := 137) [3, 4, 6, 7] dX8_wrongAhead_40 (by simp only [List.mem_cons, List.mem_nil_iff, or_false]; omega) (by decide) (by decide) ?_
    refine mm_iconst dX8_wrongAhead_177 ?_
    refine am_ireturn dX8_wrongAhead_178 rfl rfl ?_
    rw [wAh, hx, hy, hz]
    exact ⟨by rw [if_neg (by omega), if_neg (by omega), if_neg (by omega), if_neg (by omega)], rfl⟩
  · refine mm_tsw (tgt := 155) (off := 115) [8] dX8_wrongAhead_40 (by simp only [List.mem_cons, List.mem_nil_iff, or_false]; omega) (by decide) (by decide) ?_
    refine am_aload_n rfl dX8_wrongAhead_155 ?_
    refine am_aload_n rfl dX8_wrongAhead_156 ?_
    refine am_iload_n rfl dX8_wrongAhead_157 ?_
    refine am_aload_n rfl dX8_wrongAhead_158 ?_
    refine mm_getR dX8_wrongAhead_159 fl_X8_21 hc0 rfl ?_
    refine am_iload rfl dX8_wrongAhead_162 ?_
    have g9 := v3 z.toNat (by omega)
    refine mm_ial dX8_wrongAhead_164 hc1 (by omega) ?_
    refine am_ci (mm_V3 dX8_wrongAhead_165 in_X8_isLeftBy mk_X8_74 im_X8_isLeftBy sl_X8_isLeftBy ⟨Nat.le_of_ble_eq_true rfl, Nat.le_of_ble_eq_true rfl⟩ rfl hc0 (Nat.le_of_ble_eq_true rfl)) (c_isLeftBy hc hV hK hb hbv (by omega) (by omega)) ?_
    refine mm_beq (tgt := 175) dX8_wrongAhead_168 (by decide) (fun h168 => ?_) (fun h168 => ?_)
    · refine mm_iconst dX8_wrongAhead_175 ?_
      refine am_ireturn dX8_wrongAhead_176 rfl rfl ?_
      rw [wAh, hx, hy, hz]
      first
        | exact ⟨by rw [if_neg (by omega), if_neg (by omega), if_neg (by omega), if_pos (by omega), if_pos (by assumption)], rfl⟩
        | exact ⟨by rw [if_neg (by omega), if_neg (by omega), if_neg (by omega), if_pos (by omega), if_neg (by assumption)], rfl⟩
    · refine mm_iconst dX8_wrongAhead_171 ?_
      refine am_goto (tgt := 176) dX8_wrongAhead_172 (by decide) ?_
      refine am_ireturn dX8_wrongAhead_176 rfl rfl ?_
      rw [wAh, hx, hy, hz]
      first
        | exact ⟨by rw [if_neg (by omega), if_neg (by omega), if_neg (by omega), if_pos (by omega), if_pos (by assumption)], rfl⟩
        | exact ⟨by rw [if_neg (by omega), if_neg (by omega), if_neg (by omega), if_pos (by omega), if_neg (by assumption)], rfl⟩
  · refine mm_tsw (tgt := 113) (off := 73) [10, 11] dX8_wrongAhead_40 (by simp only [List.mem_cons, List.mem_nil_iff, or_false]; omega) (by decide) (by decide) ?_
    refine am_aload_n rfl dX8_wrongAhead_113 ?_
    refine am_iload rfl dX8_wrongAhead_114 ?_
    refine am_aload_n rfl dX8_wrongAhead_116 ?_
    refine mm_getR dX8_wrongAhead_117 fl_X8_63 hr0 rfl ?_
    refine am_aload_n rfl dX8_wrongAhead_120 ?_
    refine mm_getI dX8_wrongAhead_121 fl_X8_15 hc0 rfl ?_
    refine mm_ial dX8_wrongAhead_124 hr1 (by omega) ?_
    rw [hx]
    refine mm_bipush dX8_wrongAhead_125 (by decide) ?_
    refine mm_jne (tgt := 134) dX8_wrongAhead_127 (by decide) (by omega) (by omega) (fun h127 => ?_) (fun h127 => ?_)
    · refine mm_iconst dX8_wrongAhead_134 ?_
      rw [← b2_f (p := x = 11) (by omega)]
      refine am_ci (mm_V2 dX8_wrongAhead_135 in_X8_wrongCall mk_X8_70 im_X8_wrongCall sl_X8_wrongCall ⟨Nat.le_of_ble_eq_true rfl, Nat.le_of_ble_eq_true rfl⟩ rfl hc0 (Nat.le_of_ble_eq_true rfl)) (c_wrongCall (g := x = 11) hc hV (by omega)) ?_
      refine am_ireturn dX8_wrongAhead_138 rfl rfl ?_
      rw [wAh, hx, hy, hz]
      exact ⟨by rw [if_neg (by omega), if_pos (by omega)], rfl⟩
    · refine mm_iconst dX8_wrongAhead_130 ?_
      rw [← b2_t (p := x = 11) (by omega)]
      refine am_goto (tgt := 135) dX8_wrongAhead_131 (by decide) ?_
      refine am_ci (mm_V2 dX8_wrongAhead_135 in_X8_wrongCall mk_X8_70 im_X8_wrongCall sl_X8_wrongCall ⟨Nat.le_of_ble_eq_true rfl, Nat.le_of_ble_eq_true rfl⟩ rfl hc0 (Nat.le_of_ble_eq_true rfl)) (c_wrongCall (g := x = 11) hc hV (by omega)) ?_
      refine am_ireturn dX8_wrongAhead_138 rfl rfl ?_
      rw [wAh, hx, hy, hz]
      exact ⟨by rw [if_neg (by omega), if_pos (by omega)], rfl⟩
set_option maxRecDepth 100000 in
set_option maxHeartbeats 4000000 in
theorem c_asksAhead {sh : List mm_H} {S : mm_S} {L : mm_L} {a : Nat} (hc : scS sh a) (hV : scV S a) (hK : scK S a) (hb : bkS sh) (hbv : bkV S) {ro : Nat} (hro : ro = 22 + 10 * (S a 0).toNat) (hO : rtO S ro) (hR : rtI S ro) (hl : S a 1 < S ro 0) (hw : wAh S a ro = 0) : am_E eX8_asksAhead [.ref a, .ref 1] (mm sh S L) (fun r M' => ∃ w, r = some (.int w) ∧ ∃ v, w = iI v ∧ tells v (asP S a ro) ∧ M' = mm sh S L) := by
  obtain ⟨hc0, hc1, hc2, hc3⟩ := id hc
  obtain ⟨v0, v1, v2, v3, v4⟩ := id hV
  obtain ⟨hB1, hB2, hB3, hB4, hB5⟩ := id hb
  obtain ⟨w0, w1, w2, w3⟩ := id hbv
  obtain ⟨hr0, hr1, hr2, hr3, hr4, hr5, hr6, hr7, hr8, hr9⟩ := (show rtS sh ro by rw [hro]; exact hB5 (S a 0).toNat (by omega))
  have hl24 := hR.1
  have gR := hR.2.2.2.2 (S a 1).toNat
  have gO := hO (S a 1).toNat (by omega)
  obtain ⟨x, hx⟩ : ∃ x, S (ro + 1) (S a 1).toNat = x := ⟨_, rfl⟩
  obtain ⟨y, hy⟩ : ∃ y, S (ro + 2) (S a 1).toNat = y := ⟨_, rfl⟩
  obtain ⟨z, hz⟩ : ∃ z, S (ro + 3) (S a 1).toNat = z := ⟨_, rfl⟩
  rw [hx, hy, hz] at gR
  rw [hx, hy, hz] at gO
  refine am_enter rfl rfl (Nat.le_of_ble_eq_true rfl) ?_
  refine am_aload_n rfl dX8_asksAhead_0 ?_
  refine mm_getR dX8_asksAhead_1 fl_X8_49 hB1 rfl ?_
  refine am_aload_n rfl dX8_asksAhead_4 ?_
  refine mm_getI dX8_asksAhead_5 fl_X8_11 hc0 rfl ?_
  refine mm_aal dX8_asksAhead_8 (fun _ => rfl) hB3 ⟨by omega, by omega, by omega⟩ (show rArr _ = some ro by rw [rArr_at (by omega), hro]) ?_
  refine am_ast2 dX8_asksAhead_9 (Nat.le_of_ble_eq_true rfl) (am_c1r _) ?_
  refine am_aload_n rfl dX8_asksAhead_10 ?_
  refine mm_getR dX8_asksAhead_11 fl_X8_63 hr0 rfl ?_
  refine am_aload_n rfl dX8_asksAhead_14 ?_
  refine mm_getI dX8_asksAhead_15 fl_X8_15 hc0 rfl ?_
  refine mm_ial dX8_asksAhead_18 hr1 (by omega) ?_
  rw [hx]
  rcases (show (x < 1 ∨ 5 < x) ∨ (x = 1) ∨ (x = 2 ∨ x = 3 ∨ x = 4 ∨ x = 5) by omega) with h19 | h19 | h19
  · refine mm_tout (tgt := 92) dX8_asksAhead_19 (by omega) (by omega) (by decide) ?_
    refine mm_iconst dX8_asksAhead_92 ?_
    refine am_ireturn dX8_asksAhead_93 rfl rfl ?_
    refine ⟨_, rfl, 0, rfl, Or.inr ⟨rfl, fun q => ?_⟩, rfl⟩
    unfold asP at q
    rw [hx] at q
    rcases q with q | q
    · omega
    · have := q.1; omega
  · refine mm_tsw (tgt := 54) (off := 35) [1] dX8_asksAhead_19 (by simp only [List.mem_cons, List.mem_nil_iff, or_false]; omega) (by decide) (by decide) ?_
    refine am_aload_n rfl dX8_asksAhead_54 ?_
    refine mm_getR dX8_asksAhead_55 fl_X8_55 hr0 rfl ?_
    refine am_aload_n rfl dX8_asksAhead_58 ?_
    refine mm_getI dX8_asksAhead_59 fl_X8_15 hc0 rfl ?_
    refine mm_ial dX8_asksAhead_62 hr2 (by omega) ?_
    rw [hy]
    refine am_ist3 dX8_asksAhead_63 (Nat.le_of_ble_eq_true rfl) (am_c1r _) ?_
    have hn : S (a + 1) y.toNat ≠ -1 := by
      intro q
      rw [wAh, hx, hy, hz, if_pos (by omega), wUse, if_pos q] at hw
      omega
    have g3 := skO_R hV (v := y) (by omega)
    have g4 := ssO_R hV (v := y) (by omega)
    have g5 := skO_K hK (v := y) (by omega) hn
    have g6 := w2 (skO S a y).toNat (by omega)
    refine am_aload_n rfl dX8_asksAhead_64 ?_
    refine mm_getR dX8_asksAhead_65 fl_X8_85 hB1 rfl ?_
    refine am_aload_n rfl dX8_asksAhead_68 ?_
    refine am_iload_n rfl dX8_asksAhead_69 ?_
    refine am_ci (mm_V1 dX8_asksAhead_70 in_X8_kindOf mk_X8_88 im_X8_kindOf sl_X8_kindOf ⟨Nat.le_of_ble_eq_true rfl, Nat.le_of_ble_eq_true rfl⟩ rfl hc0 (Nat.le_of_ble_eq_true rfl)) (c_kindOf hc hV (by omega)) ?_
    refine mm_aal dX8_asksAhead_73 (fun _ => rfl) hB2 ⟨by omega, by omega, by omega⟩ (kArr_at (by omega)) ?_
    refine am_aload_n rfl dX8_asksAhead_74 ?_
    refine am_iload_n rfl dX8_asksAhead_75 ?_
    refine am_ci (mm_V1 dX8_asksAhead_76 in_X8_stateOf mk_X8_82 im_X8_stateOf sl_X8_stateOf ⟨Nat.le_of_ble_eq_true rfl, Nat.le_of_ble_eq_true rfl⟩ rfl hc0 (Nat.le_of_ble_eq_true rfl)) (c_stateOf hc hV (by omega)) ?_
    refine am_aload_n rfl dX8_asksAhead_79 ?_
    refine mm_getR dX8_asksAhead_80 fl_X8_60 hr0 rfl ?_
    refine am_aload_n rfl dX8_asksAhead_83 ?_
    refine mm_getI dX8_asksAhead_84 fl_X8_15 hc0 rfl ?_
    refine mm_ial dX8_asksAhead_87 hr3 (by omega) ?_
    rw [hz]
    refine am_ci (mm_V2 dX8_asksAhead_88 in_X4_isAsking mk_X8_104 im_X4_isAsking sl_X4_isAsking ⟨Nat.le_of_ble_eq_true rfl, Nat.le_of_ble_eq_true rfl⟩ rfl (hB4 (skO S a y).toNat (by omega)).1 (Nat.le_of_ble_eq_true rfl)) (c_isAsking (hB4 (skO S a y).toNat (by omega)) g6 (by omega) (by omega)) ?_
    refine am_ireturn dX8_asksAhead_91 rfl (mm_nz (b2_R _)) ?_
    refine ⟨_, rfl, _, rfl, ?_, rfl⟩
    unfold asP
    rw [hx, hy, hz]
    by_cases q : kdA S (4 + 3 * (skO S a y).toNat) (ssO S a y) z
    · exact Or.inl ⟨b2_t q, Or.inr ⟨by omega, q⟩⟩
    · refine Or.inr ⟨b2_f q, fun q2 => ?_⟩
      rcases q2 with q2 | q2
      · omega
      · exact q q2.2
  · refine mm_tsw (tgt := 52) (off := 33) [2, 3, 4, 5] dX8_asksAhead_19 (by simp only [List.mem_cons, List.mem_nil_iff, or_false]; omega) (by decide) (by decide) ?_
    refine mm_iconst dX8_asksAhead_52 ?_
    refine am_ireturn dX8_asksAhead_53 rfl rfl ?_
    exact ⟨_, rfl, 1, rfl, Or.inl ⟨rfl, by unfold asP; rw [hx]; omega⟩, rfl⟩
def cmT (S : mm_S) (a ro : Nat) (w : Int) : mm_S := up2 (up2 S a 1 w) a 2 (((S a 2).toNat &&& (S (ro + 7) w.toNat).toNat : Nat) : Int)
set_option maxRecDepth 100000 in
set_option maxHeartbeats 4000000 in
theorem c_comeTo {sh : List mm_H} {S : mm_S} {L : mm_L} {a ro : Nat} {w : Int} (hc : scS sh a) (hr : rtS sh ro) (ha : ro < a) (ha2 : ro + 7 < a) (hm : 0 ≤ S a 2 ∧ S a 2 < 4096) (hw : 0 ≤ w ∧ w ≤ 24) (hk : 0 ≤ S (ro + 7) w.toNat ∧ S (ro + 7) w.toNat < 4096) : am_E eX8_comeTo [.ref a, .ref ro, .int (iI w)] (mm sh S L) (fun r M' => r = none ∧ M' = mm sh (cmT S a ro w) L) := by
  obtain ⟨hc0, hc1, hc2, hc3⟩ := id hc
  obtain ⟨hr0, hr1, hr2, hr3, hr4, hr5, hr6, hr7, hr8, hr9⟩ := id hr
  refine am_enter rfl rfl (Nat.le_of_ble_eq_true rfl) ?_
  refine am_aload_n rfl dX8_comeTo_0 ?_
  refine am_iload_n rfl dX8_comeTo_1 ?_
  refine mm_putI dX8_comeTo_2 fp_X8_15 hc0 rfl ?_
  refine am_aload_n rfl dX8_comeTo_5 ?_
  refine am_dup rfl dX8_comeTo_6 ?_
  refine mm_getI dX8_comeTo_7 fl_X8_18 hc0 rfl ?_
  try simp (disch := omega) only [up2_rd, up2_rc, up2_same]
  refine am_aload_n rfl dX8_comeTo_10 ?_
  refine mm_getR dX8_comeTo_11 fl_X8_146 hr0 rfl ?_
  refine am_iload_n rfl dX8_comeTo_14 ?_
  refine mm_ial dX8_comeTo_15 hr7 (by omega) ?_
  try simp (disch := omega) only [up2_rd, up2_rc, up2_same]
  refine mm_iand dX8_comeTo_16 (by omega) (by omega) ?_
  refine mm_putI dX8_comeTo_17 fp_X8_18 hc0 rfl ?_
  refine am_return dX8_comeTo_20 rfl ?_
  exact ⟨rfl, rfl⟩
theorem cmT_m {S : mm_S} {a ro : Nat} {w : Int} : cmT S a ro w a 2 = (((S a 2).toNat &&& (S (ro + 7) w.toNat).toNat : Nat) : Int) := by unfold cmT; rw [up2_same]
theorem and_le {x y : Int} (hx : 0 ≤ x) : 0 ≤ ((x.toNat &&& y.toNat : Nat) : Int) ∧ ((x.toNat &&& y.toNat : Nat) : Int) ≤ x := by
  have := Nat.and_le_left (n := x.toNat) (m := y.toNat)
  omega
theorem cmT_rd {S : mm_S} {a ro b j : Nat} {w : Int} (h : b ≠ a) : cmT S a ro w b j = S b j := by unfold cmT; rw [up2_rd h, up2_rd h]
theorem cmT_row {S : mm_S} {a ro b : Nat} {w : Int} (h : b ≠ a) : cmT S a ro w b = S b := by funext j; exact cmT_rd h
/-- LEAVES or FAILS -/
def goP (S : mm_S) (a ro : Nat) (m : Int) : Int × mm_S :=
  if S (ro + 5) (S a 1).toNat ≠ -1 then (1, up2 (cmT S a ro (S (ro + 4) (S (ro + 5) (S a 1).toNat).toNat)) a 2 (((((S a 2).toNat &&& (S (ro + 7) (S (ro + 4) (S (ro + 5) (S a 1).toNat).toNat).toNat).toNat : Nat) : Int).toNat ||| (m * 2 ^ (2 * S (ro + 6) (S (ro + 5) (S a 1).toNat).toNat).toNat).toNat : Nat) : Int))
  else if m = 2 then (0, S) else (1, cmT S a ro (S ro 0))
theorem pw10 {k : Int} (h : 0 ≤ k ∧ k ≤ 5) : (0 : Int) < 2 ^ (2 * k).toNat ∧ (2 : Int) ^ (2 * k).toNat ≤ 1024 := by
  have h1 : (2 * k).toNat ≤ 10 := by omega
  have h2 := Nat.pow_le_pow_right (n := 2) (by decide) h1
  refine ⟨Int.pow_pos (by decide), ?_⟩
  have e : ((2 : Int) ^ (2 * k).toNat) = ((2 ^ (2 * k).toNat : Nat) : Int) := by push_cast; rfl
  rw [e]
  omega
theorem mul3 {m p : Int} (hm : 0 ≤ m ∧ m ≤ 3) (hp : 0 < p ∧ p ≤ 1024) : 0 ≤ m * p ∧ m * p ≤ 3072 := by
  refine ⟨Int.mul_nonneg hm.1 (by omega), ?_⟩
  have := Int.mul_le_mul hm.2 hp.2 (by omega) (by omega)
  omega
set_option maxRecDepth 100000 in
set_option maxHeartbeats 4000000 in
theorem c_goOut {sh : List mm_H} {S : mm_S} {L : mm_L} {a ro : Nat} {m : Int} (hc : scS sh a) (hr : rtS sh ro) (ha : ro + 9 < a) (hp : 0 ≤ S a 1 ∧ S a 1 < S ro 0) (h24 : S ro 0 ≤ 24) (hmm : 0 ≤ S a 2 ∧ S a 2 < 4096) (hm : 0 ≤ m ∧ m ≤ 3) (hT : rtT S ro) : am_E eX8_goOut [.ref a, .ref ro, .int (iI m)] (mm sh S L) (fun r M' => r = some (.int (iI (goP S a ro m).1)) ∧ M' = mm sh (goP S a ro m).2 L) := by
  obtain ⟨hc0, hc1, hc2, hc3⟩ := id hc
  obtain ⟨hr0, hr1, hr2, hr3, hr4, hr5, hr6, hr7, hr8, hr9⟩ := id hr
  have t1 := hT.1 (S a 1).toNat (by omega)
  refine am_enter rfl rfl (Nat.le_of_ble_eq_true rfl) ?_
  refine am_aload_n rfl dX8_goOut_0 ?_
  refine mm_getR dX8_goOut_1 fl_X8_140 hr0 rfl ?_
  refine am_aload_n rfl dX8_goOut_4 ?_
  refine mm_getI dX8_goOut_5 fl_X8_15 hc0 rfl ?_
  refine mm_ial dX8_goOut_8 hr5 (by omega) ?_
  refine am_ist3 dX8_goOut_9 (Nat.le_of_ble_eq_true rfl) (am_c1i _) ?_
  refine am_iload_n rfl dX8_goOut_10 ?_
  refine mm_iconst dX8_goOut_11 ?_
  refine mm_jeq (tgt := 47) dX8_goOut_12 (by decide) (by omega) (by omega) (fun h12 => ?_) (fun h12 => ?_)
  · refine am_iload_n rfl dX8_goOut_47 ?_
    refine mm_iconst dX8_goOut_48 ?_
    refine mm_jne (tgt := 54) dX8_goOut_49 (by decide) (by omega) (by omega) (fun h49 => ?_) (fun h49 => ?_)
    · refine am_aload_n rfl dX8_goOut_54 ?_
      refine am_aload_n rfl dX8_goOut_55 ?_
      refine am_aload_n rfl dX8_goOut_56 ?_
      refine mm_getI dX8_goOut_57 fl_X8_143 hr0 rfl ?_
      refine am_cv (mm_V2 dX8_goOut_60 in_X8_comeTo mk_X8_125 im_X8_comeTo sl_X8_comeTo ⟨Nat.le_of_ble_eq_true rfl, Nat.le_of_ble_eq_true rfl⟩ rfl hc0 (Nat.le_of_ble_eq_true rfl)) (c_comeTo hc hr (by omega) (by omega) hmm (by omega) (hT.2 _ (by omega))) ?_
      refine mm_iconst dX8_goOut_63 ?_
      refine am_ireturn dX8_goOut_64 rfl rfl ?_
      rw [goP, if_neg (by omega), if_neg (by omega)]
      exact ⟨rfl, rfl⟩
    · refine mm_iconst dX8_goOut_52 ?_
      refine am_ireturn dX8_goOut_53 rfl rfl ?_
      rw [goP, if_neg (by omega), if_pos (by omega)]
      exact ⟨rfl, rfl⟩
  · have t3 := hT.1 (S (ro + 5) (S a 1).toNat).toNat (by omega)
    have t4 := hT.2 (S (ro + 4) (S (ro + 5) (S a 1).toNat).toNat).toNat (by omega)
    have t5 := t1.2.2.1 (by omega)
    have t6 := pw10 (k := S (ro + 6) (S (ro + 5) (S a 1).toNat).toNat) (by omega)
    have t7 := mul3 hm t6
    have t8 := and_le (x := S a 2) (y := S (ro + 7) (S (ro + 4) (S (ro + 5) (S a 1).toNat).toNat).toNat) hmm.1
    refine am_aload_n rfl dX8_goOut_15 ?_
    refine am_aload_n rfl dX8_goOut_16 ?_
    refine am_aload_n rfl dX8_goOut_17 ?_
    refine mm_getR dX8_goOut_18 fl_X8_114 hr0 rfl ?_
    refine am_iload_n rfl dX8_goOut_21 ?_
    refine mm_ial dX8_goOut_22 hr4 (by omega) ?_
    refine am_cv (mm_V2 dX8_goOut_23 in_X8_comeTo mk_X8_125 im_X8_comeTo sl_X8_comeTo ⟨Nat.le_of_ble_eq_true rfl, Nat.le_of_ble_eq_true rfl⟩ rfl hc0 (Nat.le_of_ble_eq_true rfl)) (c_comeTo hc hr (by omega) (by omega) hmm (by omega) t4) ?_
    refine am_aload_n rfl dX8_goOut_26 ?_
    refine am_dup rfl dX8_goOut_27 ?_
    refine mm_getI dX8_goOut_28 fl_X8_18 hc0 rfl ?_
    rw [cmT_m]
    refine am_iload_n rfl dX8_goOut_31 ?_
    refine mm_iconst dX8_goOut_32 ?_
    refine am_aload_n rfl dX8_goOut_33 ?_
    refine mm_getR dX8_goOut_34 fl_X8_137 hr0 rfl ?_
    refine am_iload_n rfl dX8_goOut_37 ?_
    refine mm_ial dX8_goOut_38 hr6 (by omega) ?_
    rw [cmT_rd (by omega)]
    refine mm_imul dX8_goOut_39 ?_
    refine mm_ishl dX8_goOut_40 (by omega) (by omega) ?_
    refine mm_ior dX8_goOut_41 (by omega) (by omega) ?_
    refine mm_putI dX8_goOut_42 fp_X8_18 hc0 rfl ?_
    refine mm_iconst dX8_goOut_45 ?_
    refine am_ireturn dX8_goOut_46 rfl rfl ?_
    rw [goP, if_pos (by omega)]
    exact ⟨rfl, rfl⟩
