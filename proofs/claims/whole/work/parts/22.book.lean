/-! ===== Routine: its object at a, its rows at a + 1 .. a + 9 ===== -/
def rtS (sh : List mm_H) (a : Nat) : Prop := sh[a]? = some (.inr (6, [.inl false, .inl false, .inr (some (a + 1)), .inr (some (a + 2)), .inr (some (a + 3)), .inr (some (a + 4)), .inr (some (a + 5)), .inr (some (a + 6)), .inr (some (a + 7)), .inr (some (a + 8)), .inr (some (a + 9))])) ∧ sh[a + 1]? = some (.inl (0, 24, fun _ => none)) ∧ sh[a + 2]? = some (.inl (0, 24, fun _ => none)) ∧ sh[a + 3]? = some (.inl (0, 24, fun _ => none)) ∧ sh[a + 4]? = some (.inl (0, 24, fun _ => none)) ∧ sh[a + 5]? = some (.inl (0, 24, fun _ => none)) ∧ sh[a + 6]? = some (.inl (0, 24, fun _ => none)) ∧ sh[a + 7]? = some (.inl (0, 25, fun _ => none)) ∧ sh[a + 8]? = some (.inl (0, 24, fun _ => none)) ∧ sh[a + 9]? = some (.inl (0, 6, fun _ => none))
def kArr (j : Nat) : Option Nat := if j < 6 then some (4 + 3 * j) else none
def rArr (j : Nat) : Option Nat := if j < 6 then some (22 + 10 * j) else none
theorem kArr_at {j : Nat} (h : j < 6) : kArr j = some (4 + 3 * j) := if_pos h
theorem rArr_at {j : Nat} (h : j < 6) : rArr j = some (22 + 10 * j) := if_pos h
/-! ===== Book, at 1 ===== -/
def bkS (sh : List mm_H) : Prop := sh[1]? = some (.inr (0, [.inl false, .inl false, .inr (some 2), .inr (some 3)])) ∧ sh[2]? = some (.inl (4, 6, kArr)) ∧ sh[3]? = some (.inl (5, 6, rArr)) ∧ (∀ k, k < 6 → kdS sh (4 + 3 * k)) ∧ ∀ r, r < 6 → rtS sh (22 + 10 * r)
/-- how many KINDS, ROUTINES; what their numbers keep to -/
def bkV (S : mm_S) : Prop := (0 ≤ S 1 0 ∧ S 1 0 ≤ 6) ∧ (0 ≤ S 1 1 ∧ S 1 1 ≤ 6) ∧ (∀ k : Nat, (k : Int) < S 1 0 → kdV S (4 + 3 * k)) ∧ ∀ r : Nat, r < 6 → 0 ≤ S (22 + 10 * r) 0 ∧ S (22 + 10 * r) 0 ≤ 24 ∧ 0 ≤ S (22 + 10 * r) 1 ∧ S (22 + 10 * r) 1 ≤ 6
abbrev hasK (S : mm_S) (k : Int) : Prop := 0 ≤ k ∧ k < S 1 0
abbrev hasSt (S : mm_S) (k s : Int) : Prop := hasK S k ∧ 0 ≤ s ∧ s < S (4 + 3 * k.toNat) 0
abbrev hasR (S : mm_S) (r : Int) : Prop := 0 ≤ r ∧ r < S 1 1
abbrev hasPl (S : mm_S) (r i : Int) : Prop := hasR S r ∧ 0 ≤ i ∧ i ≤ S (22 + 10 * r.toNat) 0
set_option maxRecDepth 100000 in
set_option maxHeartbeats 4000000 in
theorem c_hasKind {sh : List mm_H} {S : mm_S} {L : mm_L} (hb : bkS sh) (hv : bkV S) {k : Int} (hk : Rg k) : am_E eX0_hasKind [.ref 1, .int (iI k)] (mm sh S L) (fun r M' => r = some (.int (iI (b2 (hasK S k)))) ∧ M' = mm sh S L) := by
  obtain ⟨hB1, hB2, hB3, hB4, hB5⟩ := hb
  obtain ⟨w0, w1, w2, w3⟩ := hv
  refine am_enter rfl rfl (Nat.le_of_ble_eq_true rfl) ?_
  refine am_iload_n rfl dX0_hasKind_0 ?_
  refine mm_zlt (tgt := 16) dX0_hasKind_1 (by decide) (by omega) (fun h1 => ?_) (fun h1 => ?_)
  · refine mm_iconst dX0_hasKind_16 ?_
    refine am_ireturn dX0_hasKind_17 rfl rfl ?_
    first | exact ⟨mm_rt (by omega), rfl⟩ | exact ⟨mm_rf (by omega), rfl⟩
  · refine am_iload_n rfl dX0_hasKind_4 ?_
    refine am_aload_n rfl dX0_hasKind_5 ?_
    refine mm_getI dX0_hasKind_6 fl_X0_9 hB1 rfl ?_
    refine mm_jge (tgt := 16) dX0_hasKind_9 (by decide) (by omega) (by omega) (fun h9 => ?_) (fun h9 => ?_)
    · refine mm_iconst dX0_hasKind_16 ?_
      refine am_ireturn dX0_hasKind_17 rfl rfl ?_
      first | exact ⟨mm_rt (by omega), rfl⟩ | exact ⟨mm_rf (by omega), rfl⟩
    · refine mm_iconst dX0_hasKind_12 ?_
      refine am_goto (tgt := 17) dX0_hasKind_13 (by decide) ?_
      refine am_ireturn dX0_hasKind_17 rfl rfl ?_
      first | exact ⟨mm_rt (by omega), rfl⟩ | exact ⟨mm_rf (by omega), rfl⟩
set_option maxRecDepth 100000 in
set_option maxHeartbeats 4000000 in
theorem c_hasRoutine {sh : List mm_H} {S : mm_S} {L : mm_L} (hb : bkS sh) (hv : bkV S) {k : Int} (hk : Rg k) : am_E eX0_hasRoutine [.ref 1, .int (iI k)] (mm sh S L) (fun r M' => r = some (.int (iI (b2 (hasR S k)))) ∧ M' = mm sh S L) := by
  obtain ⟨hB1, hB2, hB3, hB4, hB5⟩ := hb
  obtain ⟨w0, w1, w2, w3⟩ := hv
  refine am_enter rfl rfl (Nat.le_of_ble_eq_true rfl) ?_
  refine am_iload_n rfl dX0_hasRoutine_0 ?_
  refine mm_zlt (tgt := 16) dX0_hasRoutine_1 (by decide) (by omega) (fun h1 => ?_) (fun h1 => ?_)
  · refine mm_iconst dX0_hasRoutine_16 ?_
    refine am_ireturn dX0_hasRoutine_17 rfl rfl ?_
    first | exact ⟨mm_rt (by omega), rfl⟩ | exact ⟨mm_rf (by omega), rfl⟩
  · refine am_iload_n rfl dX0_hasRoutine_4 ?_
    refine am_aload_n rfl dX0_hasRoutine_5 ?_
    refine mm_getI dX0_hasRoutine_6 fl_X0_15 hB1 rfl ?_
    refine mm_jge (tgt := 16) dX0_hasRoutine_9 (by decide) (by omega) (by omega) (fun h9 => ?_) (fun h9 => ?_)
    · refine mm_iconst dX0_hasRoutine_16 ?_
      refine am_ireturn dX0_hasRoutine_17 rfl rfl ?_
      first | exact ⟨mm_rt (by omega), rfl⟩ | exact ⟨mm_rf (by omega), rfl⟩
    · refine mm_iconst dX0_hasRoutine_12 ?_
      refine am_goto (tgt := 17) dX0_hasRoutine_13 (by decide) ?_
      refine am_ireturn dX0_hasRoutine_17 rfl rfl ?_
      first | exact ⟨mm_rt (by omega), rfl⟩ | exact ⟨mm_rf (by omega), rfl⟩
set_option maxRecDepth 100000 in
set_option maxHeartbeats 4000000 in
theorem c_hasState {sh : List mm_H} {S : mm_S} {L : mm_L} (hb : bkS sh) (hv : bkV S) {k s : Int} (hk : Rg k) (hs : Rg s) : am_E eX0_hasState [.ref 1, .int (iI k), .int (iI s)] (mm sh S L) (fun r M' => r = some (.int (iI (b2 (hasSt S k s)))) ∧ M' = mm sh S L) := by
  obtain ⟨hB1, hB2, hB3, hB4, hB5⟩ := hb
  obtain ⟨w0, w1, w2, w3⟩ := hv
  refine am_enter rfl rfl (Nat.le_of_ble_eq_true rfl) ?_
  refine am_aload_n rfl dX0_hasState_0 ?_
  refine am_iload_n rfl dX0_hasState_1 ?_
  refine am_ci (mm_V1 dX0_hasState_2 in_X0_hasKind mk_X0_32 im_X0_hasKind sl_X0_hasKind ⟨Nat.le_of_ble_eq_true rfl, Nat.le_of_ble_eq_true rfl⟩ rfl hB1 (Nat.le_of_ble_eq_true rfl)) (c_hasKind ⟨hB1, hB2, hB3, hB4, hB5⟩ ⟨w0, w1, w2, w3⟩ hk) ?_
  refine mm_beq (tgt := 29) dX0_hasState_5 (by decide) (fun h5 => ?_) (fun h5 => ?_)
  · refine mm_iconst dX0_hasState_29 ?_
    refine am_ireturn dX0_hasState_30 rfl rfl ?_
    first | exact ⟨mm_rt (by omega), rfl⟩ | exact ⟨mm_rf (by omega), rfl⟩
  · refine am_iload_n rfl dX0_hasState_8 ?_
    refine mm_zlt (tgt := 29) dX0_hasState_9 (by decide) (by omega) (fun h9 => ?_) (fun h9 => ?_)
    · refine mm_iconst dX0_hasState_29 ?_
      refine am_ireturn dX0_hasState_30 rfl rfl ?_
      first | exact ⟨mm_rt (by omega), rfl⟩ | exact ⟨mm_rf (by omega), rfl⟩
    · refine am_iload_n rfl dX0_hasState_12 ?_
      refine am_aload_n rfl dX0_hasState_13 ?_
      refine mm_getR dX0_hasState_14 fl_X0_20 hB1 rfl ?_
      refine am_iload_n rfl dX0_hasState_17 ?_
      refine mm_aal dX0_hasState_18 (fun _ => rfl) hB2 ⟨by omega, by omega, by omega⟩ (kArr_at (by omega)) ?_
      refine mm_getI dX0_hasState_19 fl_X0_36 (hB4 k.toNat (by omega)).1 rfl ?_
      refine mm_jge (tgt := 29) dX0_hasState_22 (by decide) (by omega) (by have := (w2 k.toNat (by omega)).1; omega) (fun h22 => ?_) (fun h22 => ?_)
      · refine mm_iconst dX0_hasState_29 ?_
        refine am_ireturn dX0_hasState_30 rfl rfl ?_
        first | exact ⟨mm_rt (by omega), rfl⟩ | exact ⟨mm_rf (by omega), rfl⟩
      · refine mm_iconst dX0_hasState_25 ?_
        refine am_goto (tgt := 30) dX0_hasState_26 (by decide) ?_
        refine am_ireturn dX0_hasState_30 rfl rfl ?_
        first | exact ⟨mm_rt (by omega), rfl⟩ | exact ⟨mm_rf (by omega), rfl⟩
set_option maxRecDepth 100000 in
set_option maxHeartbeats 4000000 in
theorem c_hasPlace {sh : List mm_H} {S : mm_S} {L : mm_L} (hb : bkS sh) (hv : bkV S) {k s : Int} (hk : Rg k) (hs : Rg s) : am_E eX0_hasPlace [.ref 1, .int (iI k), .int (iI s)] (mm sh S L) (fun r M' => r = some (.int (iI (b2 (hasPl S k s)))) ∧ M' = mm sh S L) := by
  obtain ⟨hB1, hB2, hB3, hB4, hB5⟩ := hb
  obtain ⟨w0, w1, w2, w3⟩ := hv
  refine am_enter rfl rfl (Nat.le_of_ble_eq_true rfl) ?_
  refine am_aload_n rfl dX0_hasPlace_0 ?_
  refine am_iload_n rfl dX0_hasPlace_1 ?_
  refine am_ci (mm_V1 dX0_hasPlace_2 in_X0_hasRoutine mk_X0_39 im_X0_hasRoutine sl_X0_hasRoutine ⟨Nat.le_of_ble_eq_true rfl, Nat.le_of_ble_eq_true rfl⟩ rfl hB1 (Nat.le_of_ble_eq_true rfl)) (c_hasRoutine ⟨hB1, hB2, hB3, hB4, hB5⟩ ⟨w0, w1, w2, w3⟩ hk) ?_
  refine mm_beq (tgt := 29) dX0_hasPlace_5 (by decide) (fun h5 => ?_) (fun h5 => ?_)
  · refine mm_iconst dX0_hasPlace_29 ?_
    refine am_ireturn dX0_hasPlace_30 rfl rfl ?_
    first | exact ⟨mm_rt (by omega), rfl⟩ | exact ⟨mm_rf (by omega), rfl⟩
  · refine am_iload_n rfl dX0_hasPlace_8 ?_
    refine mm_zlt (tgt := 29) dX0_hasPlace_9 (by decide) (by omega) (fun h9 => ?_) (fun h9 => ?_)
    · refine mm_iconst dX0_hasPlace_29 ?_
      refine am_ireturn dX0_hasPlace_30 rfl rfl ?_
      first | exact ⟨mm_rt (by omega), rfl⟩ | exact ⟨mm_rf (by omega), rfl⟩
    · refine am_iload_n rfl dX0_hasPlace_12 ?_
      refine am_aload_n rfl dX0_hasPlace_13 ?_
      refine mm_getR dX0_hasPlace_14 fl_X0_26 hB1 rfl ?_
      refine am_iload_n rfl dX0_hasPlace_17 ?_
      refine mm_aal dX0_hasPlace_18 (fun _ => rfl) hB3 ⟨by omega, by omega, by omega⟩ (rArr_at (by omega)) ?_
      refine mm_getI dX0_hasPlace_19 fl_X0_42 (hB5 k.toNat (by omega)).1 rfl ?_
      refine mm_jgt (tgt := 29) dX0_hasPlace_22 (by decide) (by omega) (by have := w3 k.toNat (by omega); omega) (fun h22 => ?_) (fun h22 => ?_)
      · refine mm_iconst dX0_hasPlace_29 ?_
        refine am_ireturn dX0_hasPlace_30 rfl rfl ?_
        first | exact ⟨mm_rt (by omega), rfl⟩ | exact ⟨mm_rf (by omega), rfl⟩
      · refine mm_iconst dX0_hasPlace_25 ?_
        refine am_goto (tgt := 30) dX0_hasPlace_26 (by decide) ?_
        refine am_ireturn dX0_hasPlace_30 rfl rfl ?_
        first | exact ⟨mm_rt (by omega), rfl⟩ | exact ⟨mm_rf (by omega), rfl⟩
/-! ===== what numbers may be ===== -/
set_option maxRecDepth 100000 in
set_option maxHeartbeats 4000000 in
theorem c_isName {M : am_M} {x : Int} (hx : Rg x) : am_E eX9_isName [.int (iI x)] M (fun r M' => r = some (.int (iI (b2 (0 ≤ x ∧ x < 8)))) ∧ M' = M) := by
  refine am_enter rfl rfl (Nat.le_of_ble_eq_true rfl) ?_
  refine am_iload_n rfl dX9_isName_0 ?_
  refine mm_zlt (tgt := 14) dX9_isName_1 (by decide) (by omega) (fun h1 => ?_) (fun h1 => ?_)
  · refine mm_iconst dX9_isName_14 ?_
    refine am_ireturn dX9_isName_15 rfl rfl ?_
    first | exact ⟨mm_rt (by omega), rfl⟩ | exact ⟨mm_rf (by omega), rfl⟩
  · refine am_iload_n rfl dX9_isName_4 ?_
    refine mm_bipush dX9_isName_5 (by decide) ?_
    refine mm_jge (tgt := 14) dX9_isName_7 (by decide) (by omega) (by omega) (fun h7 => ?_) (fun h7 => ?_)
    · refine mm_iconst dX9_isName_14 ?_
      refine am_ireturn dX9_isName_15 rfl rfl ?_
      first | exact ⟨mm_rt (by omega), rfl⟩ | exact ⟨mm_rf (by omega), rfl⟩
    · refine mm_iconst dX9_isName_10 ?_
      refine am_goto (tgt := 15) dX9_isName_11 (by decide) ?_
      refine am_ireturn dX9_isName_15 rfl rfl ?_
      first | exact ⟨mm_rt (by omega), rfl⟩ | exact ⟨mm_rf (by omega), rfl⟩
set_option maxRecDepth 100000 in
set_option maxHeartbeats 4000000 in
theorem c_isVariable {M : am_M} {x : Int} (hx : Rg x) : am_E eX9_isVariable [.int (iI x)] M (fun r M' => r = some (.int (iI (b2 (0 ≤ x ∧ x < 5)))) ∧ M' = M) := by
  refine am_enter rfl rfl (Nat.le_of_ble_eq_true rfl) ?_
  refine am_iload_n rfl dX9_isVariable_0 ?_
  refine mm_zlt (tgt := 13) dX9_isVariable_1 (by decide) (by omega) (fun h1 => ?_) (fun h1 => ?_)
  · refine mm_iconst dX9_isVariable_13 ?_
    refine am_ireturn dX9_isVariable_14 rfl rfl ?_
    first | exact ⟨mm_rt (by omega), rfl⟩ | exact ⟨mm_rf (by omega), rfl⟩
  · refine am_iload_n rfl dX9_isVariable_4 ?_
    refine mm_iconst dX9_isVariable_5 ?_
    refine mm_jge (tgt := 13) dX9_isVariable_6 (by decide) (by omega) (by omega) (fun h6 => ?_) (fun h6 => ?_)
    · refine mm_iconst dX9_isVariable_13 ?_
      refine am_ireturn dX9_isVariable_14 rfl rfl ?_
      first | exact ⟨mm_rt (by omega), rfl⟩ | exact ⟨mm_rf (by omega), rfl⟩
    · refine mm_iconst dX9_isVariable_9 ?_
      refine am_goto (tgt := 14) dX9_isVariable_10 (by decide) ?_
      refine am_ireturn dX9_isVariable_14 rfl rfl ?_
      first | exact ⟨mm_rt (by omega), rfl⟩ | exact ⟨mm_rf (by omega), rfl⟩
set_option maxRecDepth 100000 in
set_option maxHeartbeats 4000000 in
theorem c_isCall {M : am_M} {x : Int} (hx : Rg x) : am_E eX9_isCall [.int (iI x)] M (fun r M' => r = some (.int (iI (b2 (x = 10 ∨ x = 11)))) ∧ M' = M) := by
  refine am_enter rfl rfl (Nat.le_of_ble_eq_true rfl) ?_
  refine am_iload_n rfl dX9_isCall_0 ?_
  refine mm_bipush dX9_isCall_1 (by decide) ?_
  refine mm_jeq (tgt := 12) dX9_isCall_3 (by decide) (by omega) (by omega) (fun h3 => ?_) (fun h3 => ?_)
  · refine mm_iconst dX9_isCall_12 ?_
    refine am_goto (tgt := 17) dX9_isCall_13 (by decide) ?_
    refine am_ireturn dX9_isCall_17 rfl rfl ?_
    first | exact ⟨mm_rt (by omega), rfl⟩ | exact ⟨mm_rf (by omega), rfl⟩
  · refine am_iload_n rfl dX9_isCall_6 ?_
    refine mm_bipush dX9_isCall_7 (by decide) ?_
    refine mm_jne (tgt := 16) dX9_isCall_9 (by decide) (by omega) (by omega) (fun h9 => ?_) (fun h9 => ?_)
    · refine mm_iconst dX9_isCall_16 ?_
      refine am_ireturn dX9_isCall_17 rfl rfl ?_
      first | exact ⟨mm_rt (by omega), rfl⟩ | exact ⟨mm_rf (by omega), rfl⟩
    · refine mm_iconst dX9_isCall_12 ?_
      refine am_goto (tgt := 17) dX9_isCall_13 (by decide) ?_
      refine am_ireturn dX9_isCall_17 rfl rfl ?_
      first | exact ⟨mm_rt (by omega), rfl⟩ | exact ⟨mm_rf (by omega), rfl⟩
set_option maxRecDepth 100000 in
set_option maxHeartbeats 4000000 in
theorem c_usesThing {M : am_M} {x : Int} (hx : Rg x) : am_E eX9_usesThing [.int (iI x)] M (fun r M' => r = some (.int (iI (b2 (x = 1 ∨ x = 2 ∨ x = 5)))) ∧ M' = M) := by
  refine am_enter rfl rfl (Nat.le_of_ble_eq_true rfl) ?_
  refine am_iload_n rfl dX9_usesThing_0 ?_
  refine mm_iconst dX9_usesThing_1 ?_
  refine mm_jeq (tgt := 15) dX9_usesThing_2 (by decide) (by omega) (by omega) (fun h2 => ?_) (fun h2 => ?_)
  · refine mm_iconst dX9_usesThing_15 ?_
    refine am_goto (tgt := 20) dX9_usesThing_16 (by decide) ?_
    refine am_ireturn dX9_usesThing_20 rfl rfl ?_
    first | exact ⟨mm_rt (by omega), rfl⟩ | exact ⟨mm_rf (by omega), rfl⟩
  · refine am_iload_n rfl dX9_usesThing_5 ?_
    refine mm_iconst dX9_usesThing_6 ?_
    refine mm_jeq (tgt := 15) dX9_usesThing_7 (by decide) (by omega) (by omega) (fun h7 => ?_) (fun h7 => ?_)
    · refine mm_iconst dX9_usesThing_15 ?_
      refine am_goto (tgt := 20) dX9_usesThing_16 (by decide) ?_
      refine am_ireturn dX9_usesThing_20 rfl rfl ?_
      first | exact ⟨mm_rt (by omega), rfl⟩ | exact ⟨mm_rf (by omega), rfl⟩
    · refine am_iload_n rfl dX9_usesThing_10 ?_
      refine mm_iconst dX9_usesThing_11 ?_
      refine mm_jne (tgt := 19) dX9_usesThing_12 (by decide) (by omega) (by omega) (fun h12 => ?_) (fun h12 => ?_)
      · refine mm_iconst dX9_usesThing_19 ?_
        refine am_ireturn dX9_usesThing_20 rfl rfl ?_
        first | exact ⟨mm_rt (by omega), rfl⟩ | exact ⟨mm_rf (by omega), rfl⟩
      · refine mm_iconst dX9_usesThing_15 ?_
        refine am_goto (tgt := 20) dX9_usesThing_16 (by decide) ?_
        refine am_ireturn dX9_usesThing_20 rfl rfl ?_
        first | exact ⟨mm_rt (by omega), rfl⟩ | exact ⟨mm_rf (by omega), rfl⟩
set_option maxRecDepth 100000 in
set_option maxHeartbeats 4000000 in
theorem c_opensBlock {M : am_M} {x : Int} (hx : Rg x) : am_E eX9_opensBlock [.int (iI x)] M (fun r M' => r = some (.int (iI (b2 (2 ≤ x ∧ x ≤ 5 ∨ x = 14)))) ∧ M' = M) := by
  refine am_enter rfl rfl (Nat.le_of_ble_eq_true rfl) ?_
  refine am_iload_n rfl dX9_opensBlock_0 ?_
  refine mm_iconst dX9_opensBlock_1 ?_
  refine mm_jeq (tgt := 26) dX9_opensBlock_2 (by decide) (by omega) (by omega) (fun h2 => ?_) (fun h2 => ?_)
  · refine mm_iconst dX9_opensBlock_26 ?_
    refine am_goto (tgt := 31) dX9_opensBlock_27 (by decide) ?_
    refine am_ireturn dX9_opensBlock_31 rfl rfl ?_
    first | exact ⟨mm_rt (by omega), rfl⟩ | exact ⟨mm_rf (by omega), rfl⟩
  · refine am_iload_n rfl dX9_opensBlock_5 ?_
    refine mm_iconst dX9_opensBlock_6 ?_
    refine mm_jeq (tgt := 26) dX9_opensBlock_7 (by decide) (by omega) (by omega) (fun h7 => ?_) (fun h7 => ?_)
    · refine mm_iconst dX9_opensBlock_26 ?_
      refine am_goto (tgt := 31) dX9_opensBlock_27 (by decide) ?_
      refine am_ireturn dX9_opensBlock_31 rfl rfl ?_
      first | exact ⟨mm_rt (by omega), rfl⟩ | exact ⟨mm_rf (by omega), rfl⟩
    · refine am_iload_n rfl dX9_opensBlock_10 ?_
      refine mm_iconst dX9_opensBlock_11 ?_
      refine mm_jeq (tgt := 26) dX9_opensBlock_12 (by decide) (by omega) (by omega) (fun h12 => ?_) (fun h12 => ?_)
      · refine mm_iconst dX9_opensBlock_26 ?_
        refine am_goto (tgt := 31) dX9_opensBlock_27 (by decide) ?_
        refine am_ireturn dX9_opensBlock_31 rfl rfl ?_
        first | exact ⟨mm_rt (by omega), rfl⟩ | exact ⟨mm_rf (by omega), rfl⟩
      · refine am_iload_n rfl dX9_opensBlock_15 ?_
        refine mm_iconst dX9_opensBlock_16 ?_
        refine mm_jeq (tgt := 26) dX9_opensBlock_17 (by decide) (by omega) (by omega) (fun h17 => ?_) (fun h17 => ?_)
        · refine mm_iconst dX9_opensBlock_26 ?_
          refine am_goto (tgt := 31) dX9_opensBlock_27 (by decide) ?_
          refine am_ireturn dX9_opensBlock_31 rfl rfl ?_
          first | exact ⟨mm_rt (by omega), rfl⟩ | exact ⟨mm_rf (by omega), rfl⟩
        · refine am_iload_n rfl dX9_opensBlock_20 ?_
          refine mm_bipush dX9_opensBlock_21 (by decide) ?_
          refine mm_jne (tgt := 30) dX9_opensBlock_23 (by decide) (by omega) (by omega) (fun h23 => ?_) (fun h23 => ?_)
          · refine mm_iconst dX9_opensBlock_30 ?_
            refine am_ireturn dX9_opensBlock_31 rfl rfl ?_
            first | exact ⟨mm_rt (by omega), rfl⟩ | exact ⟨mm_rf (by omega), rfl⟩
          · refine mm_iconst dX9_opensBlock_26 ?_
            refine am_goto (tgt := 31) dX9_opensBlock_27 (by decide) ?_
            refine am_ireturn dX9_opensBlock_31 rfl rfl ?_
            first | exact ⟨mm_rt (by omega), rfl⟩ | exact ⟨mm_rf (by omega), rfl⟩
abbrev lookB (x : Int) : Prop := x = 0 ∨ x = 1 ∨ x = 2 ∨ x = 5 ∨ x = 8 ∨ x = 10 ∨ x = 11
abbrev lookA (x : Int) : Prop := lookB x ∨ x = 9
set_option maxRecDepth 100000 in
set_option maxHeartbeats 4000000 in
theorem c_looksAtSecond {M : am_M} {x : Int} (hx : Rg x) : am_E eX9_looksAtSecond [.int (iI x)] M (fun r M' => r = some (.int (iI (b2 (lookB x)))) ∧ M' = M) := by
  refine am_enter rfl rfl (Nat.le_of_ble_eq_true rfl) ?_
  refine am_iload_n rfl dX9_looksAtSecond_0 ?_
  refine mm_zeq (tgt := 24) dX9_looksAtSecond_1 (by decide) (by omega) (fun h1 => ?_) (fun h1 => ?_)
  · refine mm_iconst dX9_looksAtSecond_24 ?_
    refine am_goto (tgt := 29) dX9_looksAtSecond_25 (by decide) ?_
    refine am_ireturn dX9_looksAtSecond_29 rfl rfl ?_
    first | exact ⟨mm_rt (by omega), rfl⟩ | exact ⟨mm_rf (by omega), rfl⟩
  · refine am_iload_n rfl dX9_looksAtSecond_4 ?_
    refine am_ci (mm_S1 dX9_looksAtSecond_5 in_X9_usesThing mk_X9_221 st_X9_usesThing ⟨Nat.le_of_ble_eq_true rfl, Nat.le_of_ble_eq_true rfl⟩ (Nat.le_of_ble_eq_true rfl)) (c_usesThing hx) ?_
    refine mm_bne (tgt := 24) dX9_looksAtSecond_8 (by decide) (fun h8 => ?_) (fun h8 => ?_)
    · refine mm_iconst dX9_looksAtSecond_24 ?_
      refine am_goto (tgt := 29) dX9_looksAtSecond_25 (by decide) ?_
      refine am_ireturn dX9_looksAtSecond_29 rfl rfl ?_
      first | exact ⟨mm_rt (by omega), rfl⟩ | exact ⟨mm_rf (by omega), rfl⟩
    · refine am_iload_n rfl dX9_looksAtSecond_11 ?_
      refine mm_bipush dX9_looksAtSecond_12 (by decide) ?_
      refine mm_jeq (tgt := 24) dX9_looksAtSecond_14 (by decide) (by omega) (by omega) (fun h14 => ?_) (fun h14 => ?_)
      · refine mm_iconst dX9_looksAtSecond_24 ?_
        refine am_goto (tgt := 29) dX9_looksAtSecond_25 (by decide) ?_
        refine am_ireturn dX9_looksAtSecond_29 rfl rfl ?_
        first | exact ⟨mm_rt (by omega), rfl⟩ | exact ⟨mm_rf (by omega), rfl⟩
      · refine am_iload_n rfl dX9_looksAtSecond_17 ?_
        refine am_ci (mm_S1 dX9_looksAtSecond_18 in_X9_isCall mk_X9_224 st_X9_isCall ⟨Nat.le_of_ble_eq_true rfl, Nat.le_of_ble_eq_true rfl⟩ (Nat.le_of_ble_eq_true rfl)) (c_isCall hx) ?_
        refine mm_beq (tgt := 28) dX9_looksAtSecond_21 (by decide) (fun h21 => ?_) (fun h21 => ?_)
        · refine mm_iconst dX9_looksAtSecond_28 ?_
          refine am_ireturn dX9_looksAtSecond_29 rfl rfl ?_
          first | exact ⟨mm_rt (by omega), rfl⟩ | exact ⟨mm_rf (by omega), rfl⟩
        · refine mm_iconst dX9_looksAtSecond_24 ?_
          refine am_goto (tgt := 29) dX9_looksAtSecond_25 (by decide) ?_
          refine am_ireturn dX9_looksAtSecond_29 rfl rfl ?_
          first | exact ⟨mm_rt (by omega), rfl⟩ | exact ⟨mm_rf (by omega), rfl⟩
set_option maxRecDepth 100000 in
set_option maxHeartbeats 4000000 in
theorem c_looksAtFirst {M : am_M} {x : Int} (hx : Rg x) : am_E eX9_looksAtFirst [.int (iI x)] M (fun r M' => r = some (.int (iI (b2 (lookA x)))) ∧ M' = M) := by
  refine am_enter rfl rfl (Nat.le_of_ble_eq_true rfl) ?_
  refine am_iload_n rfl dX9_looksAtFirst_0 ?_
  refine am_ci (mm_S1 dX9_looksAtFirst_1 in_X9_looksAtSecond mk_X9_128 st_X9_looksAtSecond ⟨Nat.le_of_ble_eq_true rfl, Nat.le_of_ble_eq_true rfl⟩ (Nat.le_of_ble_eq_true rfl)) (c_looksAtSecond hx) ?_
  refine mm_bne (tgt := 13) dX9_looksAtFirst_4 (by decide) (fun h4 => ?_) (fun h4 => ?_)
  · refine mm_iconst dX9_looksAtFirst_13 ?_
    refine am_goto (tgt := 18) dX9_looksAtFirst_14 (by decide) ?_
    refine am_ireturn dX9_looksAtFirst_18 rfl rfl ?_
    first | exact ⟨mm_rt (by omega), rfl⟩ | exact ⟨mm_rf (by omega), rfl⟩
  · refine am_iload_n rfl dX9_looksAtFirst_7 ?_
    refine mm_bipush dX9_looksAtFirst_8 (by decide) ?_
    refine mm_jne (tgt := 17) dX9_looksAtFirst_10 (by decide) (by omega) (by omega) (fun h10 => ?_) (fun h10 => ?_)
    · refine mm_iconst dX9_looksAtFirst_17 ?_
      refine am_ireturn dX9_looksAtFirst_18 rfl rfl ?_
      first | exact ⟨mm_rt (by omega), rfl⟩ | exact ⟨mm_rf (by omega), rfl⟩
    · refine mm_iconst dX9_looksAtFirst_13 ?_
      refine am_goto (tgt := 18) dX9_looksAtFirst_14 (by decide) ?_
      refine am_ireturn dX9_looksAtFirst_18 rfl rfl ?_
      first | exact ⟨mm_rt (by omega), rfl⟩ | exact ⟨mm_rf (by omega), rfl⟩
theorem b2_c {p q : Prop} [Decidable p] [Decidable q] (h : p ↔ q) : b2 p = b2 q := by
  unfold b2
  by_cases hp : p
  · rw [if_pos hp, if_pos (h.mp hp)]
  · rw [if_neg hp, if_neg (fun z => hp (h.mpr z))]
theorem mm_rb {p q : Prop} [Decidable p] [Decidable q] (h : p ↔ q) : some (Value.int (iI (b2 p))) = some (Value.int (iI (b2 q))) := by rw [b2_c h]
abbrev okA (s a : Int) : Prop := ¬ lookA s ∨ ((s = 10 ∨ s = 11) ∧ 0 ≤ a ∧ a < 6) ∨ (¬ (s = 10 ∨ s = 11) ∧ 0 ≤ a ∧ a < 5)
