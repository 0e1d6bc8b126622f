/-! ===== java.util.Arrays.fill ===== -/
def fillS (S : mm_S) (a n : Nat) (v : Int) : mm_S := fun b j => if b = a ∧ j < n then v else S b j
theorem fillS_0 (S : mm_S) (a : Nat) (v : Int) : fillS S a 0 v = S := by funext b j; simp [fillS]
theorem fillS_s (S : mm_S) (a n : Nat) (v : Int) : up2 (fillS S a n v) a n v = fillS S a (n + 1) v := by
  funext b j
  simp only [up2, fillS]
  by_cases h1 : b = a
  · by_cases h2 : j = n
    · simp [h1, h2]
    · by_cases h3 : j < n
      · simp [h1, h3, show j < n + 1 by omega]
      · simp [h1, h2, h3, show ¬ j < n + 1 by omega]
  · simp [h1]
set_option maxRecDepth 100000 in
set_option maxHeartbeats 4000000 in
theorem l_fill {sh : List mm_H} {S : mm_S} {L : mm_L} {a n : Nat} {v : Int} (hA : sh[a]? = some (.inl (0, n, fun _ => none))) (hn : n < 1000000) : ∀ (q i : Nat), n ≤ i + q → i ≤ n → am_AW eJ7_fill_53178 (mm sh (fillS S a i v) L) 5 [some (.ref a), some (.int (iI v)), some (.int (iI (i : Int))), some (.int (iI (n : Int)))] [] (fun r M' => r = none ∧ M' = mm sh (fillS S a n v) L) := by
  intro q
  induction q with
  | zero =>
    intro i h1 h2
    have : i = n := by omega
    subst this
    refine am_iload_n rfl dJ7_fill_53178_5 ?_
    refine am_iload_n rfl dJ7_fill_53178_6 ?_
    refine mm_jge (tgt := 20) dJ7_fill_53178_7 (by decide) ⟨by omega, by omega⟩ ⟨by omega, by omega⟩ (fun h7 => ?_) (fun h7 => absurd h7 (by omega))
    refine am_return dJ7_fill_53178_20 rfl ?_
    exact ⟨rfl, rfl⟩
  | succ q ih =>
    intro i h1 h2
    refine am_iload_n rfl dJ7_fill_53178_5 ?_
    refine am_iload_n rfl dJ7_fill_53178_6 ?_
    refine mm_jge (tgt := 20) dJ7_fill_53178_7 (by decide) ⟨by omega, by omega⟩ ⟨by omega, by omega⟩ (fun h7 => ?_) (fun h7 => ?_)
    · refine am_return dJ7_fill_53178_20 rfl ?_
      have : i = n := by omega
      subst this
      exact ⟨rfl, rfl⟩
    · refine am_aload_n rfl dJ7_fill_53178_10 ?_
      refine am_iload_n rfl dJ7_fill_53178_11 ?_
      refine am_iload_n rfl dJ7_fill_53178_12 ?_
      refine mm_ias dJ7_fill_53178_13 hA ⟨by omega, by omega, by omega⟩ ?_
      refine mm_inc2 dJ7_fill_53178_14 (Nat.le_of_ble_eq_true rfl) (am_c1i _) ?_
      refine am_goto (tgt := 5) dJ7_fill_53178_17 (by decide) ?_
      have h := ih (i + 1) (by omega) (by omega)
      rw [← fillS_s] at h
      exact h
set_option maxRecDepth 100000 in
set_option maxHeartbeats 4000000 in
theorem c_fill {sh : List mm_H} {S : mm_S} {L : mm_L} {a n : Nat} {v : Int} (hA : sh[a]? = some (.inl (0, n, fun _ => none))) (hn : n < 1000000) : am_E eJ7_fill_53178 [.ref a, .int (iI v)] (mm sh S L) (fun r M' => r = none ∧ M' = mm sh (fillS S a n v) L) := by
  refine am_enter rfl rfl (Nat.le_of_ble_eq_true rfl) ?_
  refine mm_iconst dJ7_fill_53178_0 ?_
  refine am_ist2 dJ7_fill_53178_1 (Nat.le_of_ble_eq_true rfl) (am_c1i _) ?_
  refine am_aload_n rfl dJ7_fill_53178_2 ?_
  refine mm_len0 dJ7_fill_53178_3 hA ?_
  refine am_ist3 dJ7_fill_53178_4 (Nat.le_of_ble_eq_true rfl) (am_c1i _) ?_
  have h := l_fill (S := S) (L := L) (v := v) hA hn n 0 (by omega) (by omega)
  rw [fillS_0] at h
  exact h
/-! ===== Kind: its object at a, where its USES lead at a + 1, a + 2 ===== -/
def kdS (sh : List mm_H) (a : Nat) : Prop := sh[a]? = some (.inr (4, [.inl false, .inl false, .inr (some (a + 1)), .inr (some (a + 2))])) ∧ sh[a + 1]? = some (.inl (0, 48, fun _ => none)) ∧ sh[a + 2]? = some (.inl (0, 48, fun _ => none))
/-- what its numbers keep to -/
def kdV (S : mm_S) (a : Nat) : Prop := (0 ≤ S a 0 ∧ S a 0 ≤ 6) ∧ (0 ≤ S a 1 ∧ S a 1 < 64) ∧ (∀ i, -1 ≤ S (a + 1) i ∧ S (a + 1) i ≤ 5) ∧ ∀ i, -1 ≤ S (a + 2) i ∧ S (a + 2) i ≤ 5
abbrev kdU (S : mm_S) (a : Nat) (s n : Int) : Prop := 0 ≤ s ∧ s < S a 0 ∧ 0 ≤ n ∧ n < 8
abbrev kdH (S : mm_S) (a : Nat) (s n : Int) : Prop := kdU S a s n ∧ S (a + 1) (s * 8 + n).toNat ≠ -1
abbrev kdA (S : mm_S) (a : Nat) (s n : Int) : Prop := kdU S a s n ∧ S (a + 2) (s * 8 + n).toNat ≠ -1
def kdF (S : mm_S) (a : Nat) (s n : Int) (y : Prop) [Decidable y] : Int := if kdU S a s n then (if y ∨ S (a + 2) (s * 8 + n).toNat = -1 then S (a + 1) (s * 8 + n).toNat else S (a + 2) (s * 8 + n).toNat) else -1
abbrev Rg (x : Int) : Prop := -2147483648 ≤ x ∧ x < 2147483648
set_option maxRecDepth 100000 in
set_option maxHeartbeats 4000000 in
theorem c_isUseful {sh : List mm_H} {S : mm_S} {L : mm_L} {a : Nat} {s n : Int} (hk : kdS sh a) (hv : kdV S a) (hs : Rg s) (hn : Rg n) : am_E eX4_isUseful [.ref a, .int (iI s), .int (iI n)] (mm sh S L) (fun r M' => r = some (.int (iI (b2 (kdU S a s n)))) ∧ M' = mm sh S L) := by
  obtain ⟨hA, hB, hC⟩ := hk
  obtain ⟨v0, v1, v2, v3⟩ := hv
  refine am_enter rfl rfl (Nat.le_of_ble_eq_true rfl) ?_
  refine am_iload_n rfl dX4_isUseful_0 ?_
  refine mm_zlt (tgt := 26) dX4_isUseful_1 (by decide) (by omega) (fun h1 => ?_) (fun h1 => ?_)
  · refine mm_iconst dX4_isUseful_26 ?_
    refine am_ireturn dX4_isUseful_27 rfl rfl ?_
    first | exact ⟨mm_rt (by omega), rfl⟩ | exact ⟨mm_rf (by omega), rfl⟩
  · refine am_iload_n rfl dX4_isUseful_4 ?_
    refine am_aload_n rfl dX4_isUseful_5 ?_
    refine mm_getI dX4_isUseful_6 fl_X4_9 hA rfl ?_
    refine mm_jge (tgt := 26) dX4_isUseful_9 (by decide) (by omega) (by omega) (fun h9 => ?_) (fun h9 => ?_)
    · refine mm_iconst dX4_isUseful_26 ?_
      refine am_ireturn dX4_isUseful_27 rfl rfl ?_
      first | exact ⟨mm_rt (by omega), rfl⟩ | exact ⟨mm_rf (by omega), rfl⟩
    · refine am_iload_n rfl dX4_isUseful_12 ?_
      refine mm_zlt (tgt := 26) dX4_isUseful_13 (by decide) (by omega) (fun h13 => ?_) (fun h13 => ?_)
      · refine mm_iconst dX4_isUseful_26 ?_
        refine am_ireturn dX4_isUseful_27 rfl rfl ?_
        first | exact ⟨mm_rt (by omega), rfl⟩ | exact ⟨mm_rf (by omega), rfl⟩
      · refine am_iload_n rfl dX4_isUseful_16 ?_
        refine mm_bipush dX4_isUseful_17 (by decide) ?_
        refine mm_jge (tgt := 26) dX4_isUseful_19 (by decide) (by omega) (by omega) (fun h19 => ?_) (fun h19 => ?_)
        · refine mm_iconst dX4_isUseful_26 ?_
          refine am_ireturn dX4_isUseful_27 rfl rfl ?_
          first | exact ⟨mm_rt (by omega), rfl⟩ | exact ⟨mm_rf (by omega), rfl⟩
        · refine mm_iconst dX4_isUseful_22 ?_
          refine am_goto (tgt := 27) dX4_isUseful_23 (by decide) ?_
          refine am_ireturn dX4_isUseful_27 rfl rfl ?_
          first | exact ⟨mm_rt (by omega), rfl⟩ | exact ⟨mm_rf (by omega), rfl⟩
set_option maxRecDepth 100000 in
set_option maxHeartbeats 4000000 in
theorem c_hasUse {sh : List mm_H} {S : mm_S} {L : mm_L} {a : Nat} {s n : Int} (hk : kdS sh a) (hv : kdV S a) (hs : Rg s) (hn : Rg n) : am_E eX4_hasUse [.ref a, .int (iI s), .int (iI n)] (mm sh S L) (fun r M' => r = some (.int (iI (b2 (kdH S a s n)))) ∧ M' = mm sh S L) := by
  obtain ⟨hA, hB, hC⟩ := hk
  obtain ⟨v0, v1, v2, v3⟩ := hv
  refine am_enter rfl rfl (Nat.le_of_ble_eq_true rfl) ?_
  refine am_aload_n rfl dX4_hasUse_0 ?_
  refine am_iload_n rfl dX4_hasUse_1 ?_
  refine am_iload_n rfl dX4_hasUse_2 ?_
  refine am_ci (mm_V2 dX4_hasUse_3 in_X4_isUseful mk_X4_37 im_X4_isUseful sl_X4_isUseful ⟨Nat.le_of_ble_eq_true rfl, Nat.le_of_ble_eq_true rfl⟩ rfl hA (Nat.le_of_ble_eq_true rfl)) (c_isUseful ⟨hA, hB, hC⟩ ⟨v0, v1, v2, v3⟩ hs hn) ?_
  refine mm_beq (tgt := 28) dX4_hasUse_6 (by decide) (fun h6 => ?_) (fun h6 => ?_)
  · refine mm_iconst dX4_hasUse_28 ?_
    refine am_ireturn dX4_hasUse_29 rfl rfl ?_
    first | exact ⟨mm_rt ⟨by assumption, by omega⟩, rfl⟩ | exact ⟨mm_rf (fun h => by first | exact absurd h.1 (by assumption) | exact absurd h.2 (by omega)), rfl⟩
  · refine am_aload_n rfl dX4_hasUse_9 ?_
    refine mm_getR dX4_hasUse_10 fl_X4_18 hA rfl ?_
    refine am_iload_n rfl dX4_hasUse_13 ?_
    refine mm_bipush dX4_hasUse_14 (by decide) ?_
    refine mm_imul dX4_hasUse_16 ?_
    refine am_iload_n rfl dX4_hasUse_17 ?_
    refine mm_iadd dX4_hasUse_18 ?_
    refine mm_ial dX4_hasUse_19 hB (by omega) ?_
    refine mm_iconst dX4_hasUse_20 ?_
    refine mm_jeq (tgt := 28) dX4_hasUse_21 (by decide) (by have := v2 (s * 8 + n).toNat; omega) (by have := v2 (s * 8 + n).toNat; omega) (fun h21 => ?_) (fun h21 => ?_)
    · refine mm_iconst dX4_hasUse_28 ?_
      refine am_ireturn dX4_hasUse_29 rfl rfl ?_
      first | exact ⟨mm_rt ⟨by assumption, by omega⟩, rfl⟩ | exact ⟨mm_rf (fun h => by first | exact absurd h.1 (by assumption) | exact absurd h.2 (by omega)), rfl⟩
    · refine mm_iconst dX4_hasUse_24 ?_
      refine am_goto (tgt := 29) dX4_hasUse_25 (by decide) ?_
      refine am_ireturn dX4_hasUse_29 rfl rfl ?_
      first | exact ⟨mm_rt ⟨by assumption, by omega⟩, rfl⟩ | exact ⟨mm_rf (fun h => by first | exact absurd h.1 (by assumption) | exact absurd h.2 (by omega)), rfl⟩
set_option maxRecDepth 100000 in
set_option maxHeartbeats 4000000 in
theorem c_isAsking {sh : List mm_H} {S : mm_S} {L : mm_L} {a : Nat} {s n : Int} (hk : kdS sh a) (hv : kdV S a) (hs : Rg s) (hn : Rg n) : am_E eX4_isAsking [.ref a, .int (iI s), .int (iI n)] (mm sh S L) (fun r M' => r = some (.int (iI (b2 (kdA S a s n)))) ∧ M' = mm sh S L) := by
  obtain ⟨hA, hB, hC⟩ := hk
  obtain ⟨v0, v1, v2, v3⟩ := hv
  refine am_enter rfl rfl (Nat.le_of_ble_eq_true rfl) ?_
  refine am_aload_n rfl dX4_isAsking_0 ?_
  refine am_iload_n rfl dX4_isAsking_1 ?_
  refine am_iload_n rfl dX4_isAsking_2 ?_
  refine am_ci (mm_V2 dX4_isAsking_3 in_X4_isUseful mk_X4_37 im_X4_isUseful sl_X4_isUseful ⟨Nat.le_of_ble_eq_true rfl, Nat.le_of_ble_eq_true rfl⟩ rfl hA (Nat.le_of_ble_eq_true rfl)) (c_isUseful ⟨hA, hB, hC⟩ ⟨v0, v1, v2, v3⟩ hs hn) ?_
  refine mm_beq (tgt := 28) dX4_isAsking_6 (by decide) (fun h6 => ?_) (fun h6 => ?_)
  · refine mm_iconst dX4_isAsking_28 ?_
    refine am_ireturn dX4_isAsking_29 rfl rfl ?_
    first | exact ⟨mm_rt ⟨by assumption, by omega⟩, rfl⟩ | exact ⟨mm_rf (fun h => by first | exact absurd h.1 (by assumption) | exact absurd h.2 (by omega)), rfl⟩
  · refine am_aload_n rfl dX4_isAsking_9 ?_
    refine mm_getR dX4_isAsking_10 fl_X4_22 hA rfl ?_
    refine am_iload_n rfl dX4_isAsking_13 ?_
    refine mm_bipush dX4_isAsking_14 (by decide) ?_
    refine mm_imul dX4_isAsking_16 ?_
    refine am_iload_n rfl dX4_isAsking_17 ?_
    refine mm_iadd dX4_isAsking_18 ?_
    refine mm_ial dX4_isAsking_19 hC (by omega) ?_
    refine mm_iconst dX4_isAsking_20 ?_
    refine mm_jeq (tgt := 28) dX4_isAsking_21 (by decide) (by have := v3 (s * 8 + n).toNat; omega) (by have := v3 (s * 8 + n).toNat; omega) (fun h21 => ?_) (fun h21 => ?_)
    · refine mm_iconst dX4_isAsking_28 ?_
      refine am_ireturn dX4_isAsking_29 rfl rfl ?_
      first | exact ⟨mm_rt ⟨by assumption, by omega⟩, rfl⟩ | exact ⟨mm_rf (fun h => by first | exact absurd h.1 (by assumption) | exact absurd h.2 (by omega)), rfl⟩
    · refine mm_iconst dX4_isAsking_24 ?_
      refine am_goto (tgt := 29) dX4_isAsking_25 (by decide) ?_
      refine am_ireturn dX4_isAsking_29 rfl rfl ?_
      first | exact ⟨mm_rt ⟨by assumption, by omega⟩, rfl⟩ | exact ⟨mm_rf (fun h => by first | exact absurd h.1 (by assumption) | exact absurd h.2 (by omega)), rfl⟩
set_option maxRecDepth 100000 in
set_option maxHeartbeats 4000000 in
theorem c_after {sh : List mm_H} {S : mm_S} {L : mm_L} {a : Nat} {s n : Int} (hk : kdS sh a) (hv : kdV S a) (hs : Rg s) (hn : Rg n) {y : Prop} [Decidable y] : am_E eX4_after [.ref a, .int (iI s), .int (iI n), .int (iI (b2 y))] (mm sh S L) (fun r M' => r = some (.int (iI (kdF S a s n y))) ∧ M' = mm sh S L) := by
  obtain ⟨hA, hB, hC⟩ := hk
  obtain ⟨v0, v1, v2, v3⟩ := hv
  refine am_enter rfl rfl (Nat.le_of_ble_eq_true rfl) ?_
  refine am_aload_n rfl dX4_after_0 ?_
  refine am_iload_n rfl dX4_after_1 ?_
  refine am_iload_n rfl dX4_after_2 ?_
  refine am_ci (mm_V2 dX4_after_3 in_X4_isUseful mk_X4_37 im_X4_isUseful sl_X4_isUseful ⟨Nat.le_of_ble_eq_true rfl, Nat.le_of_ble_eq_true rfl⟩ rfl hA (Nat.le_of_ble_eq_true rfl)) (c_isUseful ⟨hA, hB, hC⟩ ⟨v0, v1, v2, v3⟩ hs hn) ?_
  refine mm_bne (tgt := 11) dX4_after_6 (by decide) (fun h6 => ?_) (fun h6 => ?_)
  · refine am_iload_n rfl dX4_after_11 ?_
    refine mm_bipush dX4_after_12 (by decide) ?_
    refine mm_imul dX4_after_14 ?_
    refine am_iload_n rfl dX4_after_15 ?_
    refine mm_iadd dX4_after_16 ?_
    refine am_ist4 dX4_after_17 (Nat.le_of_ble_eq_true rfl) (am_c1i _) ?_
    refine am_iload_n rfl dX4_after_19 ?_
    refine mm_bne (tgt := 34) dX4_after_20 (by decide) (fun h20 => ?_) (fun h20 => ?_)
    · refine am_aload_n rfl dX4_after_34 ?_
      refine mm_getR dX4_after_35 fl_X4_18 hA rfl ?_
      refine am_iload rfl dX4_after_38 ?_
      refine mm_ial dX4_after_40 hB (by omega) ?_
      refine am_goto (tgt := 51) dX4_after_41 (by decide) ?_
      refine am_ireturn dX4_after_51 rfl rfl ?_
      refine ⟨?_, rfl⟩
      unfold kdF
      first | rw [if_neg (by assumption)] | (rw [if_pos (by assumption), if_pos (Or.inl (by assumption))]) | (rw [if_pos (by assumption), if_pos (Or.inr (by omega))]) | (rw [if_pos (by assumption), if_neg (fun h => h.elim (by assumption) (by omega))])
    · refine am_aload_n rfl dX4_after_23 ?_
      refine mm_getR dX4_after_24 fl_X4_22 hA rfl ?_
      refine am_iload rfl dX4_after_27 ?_
      refine mm_ial dX4_after_29 hC (by omega) ?_
      refine mm_iconst dX4_after_30 ?_
      refine mm_jne (tgt := 44) dX4_after_31 (by decide) (by have := v3 (s * 8 + n).toNat; omega) (by have := v3 (s * 8 + n).toNat; omega) (fun h31 => ?_) (fun h31 => ?_)
      · refine am_aload_n rfl dX4_after_44 ?_
        refine mm_getR dX4_after_45 fl_X4_22 hA rfl ?_
        refine am_iload rfl dX4_after_48 ?_
        refine mm_ial dX4_after_50 hC (by omega) ?_
        refine am_ireturn dX4_after_51 rfl rfl ?_
        refine ⟨?_, rfl⟩
        unfold kdF
        first | rw [if_neg (by assumption)] | (rw [if_pos (by assumption), if_pos (Or.inl (by assumption))]) | (rw [if_pos (by assumption), if_pos (Or.inr (by omega))]) | (rw [if_pos (by assumption), if_neg (fun h => h.elim (by assumption) (by omega))])
      · refine am_aload_n rfl dX4_after_34 ?_
        refine mm_getR dX4_after_35 fl_X4_18 hA rfl ?_
        refine am_iload rfl dX4_after_38 ?_
        refine mm_ial dX4_after_40 hB (by omega) ?_
        refine am_goto (tgt := 51) dX4_after_41 (by decide) ?_
        refine am_ireturn dX4_after_51 rfl rfl ?_
        refine ⟨?_, rfl⟩
        unfold kdF
        first | rw [if_neg (by assumption)] | (rw [if_pos (by assumption), if_pos (Or.inl (by assumption))]) | (rw [if_pos (by assumption), if_pos (Or.inr (by omega))]) | (rw [if_pos (by assumption), if_neg (fun h => h.elim (by assumption) (by omega))])
  · refine mm_iconst dX4_after_9 ?_
    refine am_ireturn dX4_after_10 rfl rfl ?_
    refine ⟨?_, rfl⟩
    unfold kdF
    first | rw [if_neg (by assumption)] | (rw [if_pos (by assumption), if_pos (Or.inl (by assumption))]) | (rw [if_pos (by assumption), if_pos (Or.inr (by omega))]) | (rw [if_pos (by assumption), if_neg (fun h => h.elim (by assumption) (by omega))])
