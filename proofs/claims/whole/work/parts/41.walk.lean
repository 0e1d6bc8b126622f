set_option maxRecDepth 100000 in
set_option maxHeartbeats 4000000 in
theorem m_opens {M : am_M} {x : Int} (hx : Rg x) : am_E eX10_opens [.int (iI x)] M (fun r M' => r = some (.int (iI (b2 (opn x)))) ∧ M' = M) := by
  refine am_enter rfl rfl (Nat.le_of_ble_eq_true rfl) ?_
  refine am_iload_n rfl dX10_opens_0 ?_
  refine mm_iconst dX10_opens_1 ?_
  refine mm_iconst dX10_opens_2 ?_
  refine am_ci (mm_S3 dX10_opens_3 in_X10_in mk_X10_144 st_X10_in ⟨Nat.le_of_ble_eq_true rfl, Nat.le_of_ble_eq_true rfl⟩ (Nat.le_of_ble_eq_true rfl)) (m_in hx (by omega) (by omega)) ?_
  refine mm_bne (tgt := 15) dX10_opens_6 (by decide) (fun h6 => ?_) (fun h6 => ?_)
  · refine mm_iconst dX10_opens_15 ?_
    refine am_goto (tgt := 20) dX10_opens_16 (by decide) ?_
    refine am_ireturn dX10_opens_20 rfl rfl ?_
    first | exact ⟨mm_rt (by omega), rfl⟩ | exact ⟨mm_rf (by omega), rfl⟩
  · refine am_iload_n rfl dX10_opens_9 ?_
    refine mm_bipush dX10_opens_10 (by decide) ?_
    refine mm_jne (tgt := 19) dX10_opens_12 (by decide) (by omega) (by omega) (fun h12 => ?_) (fun h12 => ?_)
    · refine mm_iconst dX10_opens_19 ?_
      refine am_ireturn dX10_opens_20 rfl rfl ?_
      first | exact ⟨mm_rt (by omega), rfl⟩ | exact ⟨mm_rf (by omega), rfl⟩
    · refine mm_iconst dX10_opens_15 ?_
      refine am_goto (tgt := 20) dX10_opens_16 (by decide) ?_
      refine am_ireturn dX10_opens_20 rfl rfl ?_
      first | exact ⟨mm_rt (by omega), rfl⟩ | exact ⟨mm_rf (by omega), rfl⟩
set_option maxRecDepth 100000 in
set_option maxHeartbeats 4000000 in
theorem m_isVariable {M : am_M} {x : Int} (hx : Rg x) : am_E eX10_isVariable [.int (iI x)] M (fun r M' => r = some (.int (iI (b2 (0 ≤ x ∧ x < 5)))) ∧ M' = M) := by
  refine am_enter rfl rfl (Nat.le_of_ble_eq_true rfl) ?_
  refine am_iload_n rfl dX10_isVariable_0 ?_
  refine mm_iconst dX10_isVariable_1 ?_
  refine mm_iconst dX10_isVariable_2 ?_
  refine am_ci (mm_S3 dX10_isVariable_3 in_X10_in mk_X10_144 st_X10_in ⟨Nat.le_of_ble_eq_true rfl, Nat.le_of_ble_eq_true rfl⟩ (Nat.le_of_ble_eq_true rfl)) (m_in hx (by omega) (by omega)) ?_
  refine am_ireturn dX10_isVariable_6 rfl (mm_nz (b2_R _)) ?_
  exact ⟨mm_rb (by omega), rfl⟩
set_option maxRecDepth 100000 in
set_option maxHeartbeats 4000000 in
theorem m_hasA {M : am_M} {x : Int} (hx : Rg x) : am_E eX10_hasA [.int (iI x)] M (fun r M' => r = some (.int (iI (b2 (lookA x)))) ∧ M' = M) := by
  refine am_enter rfl rfl (Nat.le_of_ble_eq_true rfl) ?_
  refine am_iload_n rfl dX10_hasA_0 ?_
  refine mm_iconst dX10_hasA_1 ?_
  refine mm_iconst dX10_hasA_2 ?_
  refine am_ci (mm_S3 dX10_hasA_3 in_X10_in mk_X10_144 st_X10_in ⟨Nat.le_of_ble_eq_true rfl, Nat.le_of_ble_eq_true rfl⟩ (Nat.le_of_ble_eq_true rfl)) (m_in hx (by omega) (by omega)) ?_
  refine mm_bne (tgt := 25) dX10_hasA_6 (by decide) (fun h6 => ?_) (fun h6 => ?_)
  · refine mm_iconst dX10_hasA_25 ?_
    refine am_goto (tgt := 30) dX10_hasA_26 (by decide) ?_
    refine am_ireturn dX10_hasA_30 rfl rfl ?_
    first | exact ⟨mm_rt (by omega), rfl⟩ | exact ⟨mm_rf (by omega), rfl⟩
  · refine am_iload_n rfl dX10_hasA_9 ?_
    refine mm_iconst dX10_hasA_10 ?_
    refine mm_jeq (tgt := 25) dX10_hasA_11 (by decide) (by omega) (by omega) (fun h11 => ?_) (fun h11 => ?_)
    · refine mm_iconst dX10_hasA_25 ?_
      refine am_goto (tgt := 30) dX10_hasA_26 (by decide) ?_
      refine am_ireturn dX10_hasA_30 rfl rfl ?_
      first | exact ⟨mm_rt (by omega), rfl⟩ | exact ⟨mm_rf (by omega), rfl⟩
    · refine am_iload_n rfl dX10_hasA_14 ?_
      refine mm_bipush dX10_hasA_15 (by decide) ?_
      refine mm_bipush dX10_hasA_17 (by decide) ?_
      refine am_ci (mm_S3 dX10_hasA_19 in_X10_in mk_X10_144 st_X10_in ⟨Nat.le_of_ble_eq_true rfl, Nat.le_of_ble_eq_true rfl⟩ (Nat.le_of_ble_eq_true rfl)) (m_in hx (by omega) (by omega)) ?_
      refine mm_beq (tgt := 29) dX10_hasA_22 (by decide) (fun h22 => ?_) (fun h22 => ?_)
      · refine mm_iconst dX10_hasA_29 ?_
        refine am_ireturn dX10_hasA_30 rfl rfl ?_
        first | exact ⟨mm_rt (by omega), rfl⟩ | exact ⟨mm_rf (by omega), rfl⟩
      · refine mm_iconst dX10_hasA_25 ?_
        refine am_goto (tgt := 30) dX10_hasA_26 (by decide) ?_
        refine am_ireturn dX10_hasA_30 rfl rfl ?_
        first | exact ⟨mm_rt (by omega), rfl⟩ | exact ⟨mm_rf (by omega), rfl⟩
set_option maxRecDepth 100000 in
set_option maxHeartbeats 4000000 in
theorem m_hasB {M : am_M} {x : Int} (hx : Rg x) : am_E eX10_hasB [.int (iI x)] M (fun r M' => r = some (.int (iI (b2 (lookB x)))) ∧ M' = M) := by
  refine am_enter rfl rfl (Nat.le_of_ble_eq_true rfl) ?_
  refine am_iload_n rfl dX10_hasB_0 ?_
  refine am_ci (mm_S1 dX10_hasB_1 in_X10_hasA mk_X10_184 st_X10_hasA ⟨Nat.le_of_ble_eq_true rfl, Nat.le_of_ble_eq_true rfl⟩ (Nat.le_of_ble_eq_true rfl)) (m_hasA hx) ?_
  refine mm_beq (tgt := 17) dX10_hasB_4 (by decide) (fun h4 => ?_) (fun h4 => ?_)
  · refine mm_iconst dX10_hasB_17 ?_
    refine am_ireturn dX10_hasB_18 rfl rfl ?_
    first | exact ⟨mm_rt (by omega), rfl⟩ | exact ⟨mm_rf (by omega), rfl⟩
  · refine am_iload_n rfl dX10_hasB_7 ?_
    refine mm_bipush dX10_hasB_8 (by decide) ?_
    refine mm_jeq (tgt := 17) dX10_hasB_10 (by decide) (by omega) (by omega) (fun h10 => ?_) (fun h10 => ?_)
    · refine mm_iconst dX10_hasB_17 ?_
      refine am_ireturn dX10_hasB_18 rfl rfl ?_
      first | exact ⟨mm_rt (by omega), rfl⟩ | exact ⟨mm_rf (by omega), rfl⟩
    · refine mm_iconst dX10_hasB_13 ?_
      refine am_goto (tgt := 18) dX10_hasB_14 (by decide) ?_
      refine am_ireturn dX10_hasB_18 rfl rfl ?_
      first | exact ⟨mm_rt (by omega), rfl⟩ | exact ⟨mm_rf (by omega), rfl⟩
/-- what is known of the blocks before STATEMENT i, in the reference's rows -/
def opA (s : Nat → Int) (j : Nat) : Int := if s j = 6 ∨ s j = 15 ∨ s j = 7 then (match (stk s j).head? with | some o => (o : Int) | none => -1) else -1
def arA (s : Nat → Int) (j : Nat) : Int := if s j = 7 then ((stk s j).length : Int) - 1 else (stk s j).length
def wkF (S S' : mm_S) (r : Nat) : Prop := (∀ b, b ≠ 193 → b ≠ 194 → b ≠ 195 → b ≠ 196 → b ≠ 197 → b ≠ 181 → S' b = S b) ∧ (∀ j, j ≠ 19 → S' 181 j = S 181 j) ∧ ∀ b j, j < 25 * r ∨ 25 * r + 25 ≤ j → b ≠ 197 → b ≠ 181 → S' b j = S b j
def wkI (S' : mm_S) (s : Nat → Int) (r i : Nat) : Prop := S' 181 19 = ((stk s i).length : Int) ∧ (∀ j o : Nat, (stk s i).reverse[j]? = some o → S' 197 j = (o : Int)) ∧ (∀ j, j < i → S' 193 (25 * r + j) = opA s j ∧ S' 196 (25 * r + j) = arA s j) ∧ ∀ o, o < i → opn (s o) → S' 194 (25 * r + o) = midO s i o ∧ S' 195 (25 * r + o) = endO s i o
theorem wkF_up {S S' : mm_S} {r b i : Nat} {x : Int} (h : wkF S S' r) (hb : b = 193 ∨ b = 194 ∨ b = 195 ∨ b = 196) (hi : 25 * r ≤ i ∧ i < 25 * r + 25) : wkF S (up2 S' b i x) r := by
  obtain ⟨h1, h2, h3⟩ := h
  refine ⟨fun c g1 g2 g3 g4 g5 g6 => ?_, fun j hj => ?_, fun c j hj g1 g2 => ?_⟩
  · rw [up2_row (by omega)]; exact h1 c g1 g2 g3 g4 g5 g6
  · rw [up2_rd (by omega)]; exact h2 j hj
  · rw [up2_rc (by omega)]; exact h3 c j hj g1 g2
theorem wkF_pile {S S' : mm_S} {r i : Nat} {x : Int} (h : wkF S S' r) : wkF S (up2 S' 197 i x) r := by
  obtain ⟨h1, h2, h3⟩ := h
  refine ⟨fun c g1 g2 g3 g4 g5 g6 => ?_, fun j hj => ?_, fun c j hj g1 g2 => ?_⟩
  · rw [up2_row g5]; exact h1 c g1 g2 g3 g4 g5 g6
  · rw [up2_rd (by omega)]; exact h2 j hj
  · rw [up2_rd g1]; exact h3 c j hj g1 g2
theorem wkF_piled {S S' : mm_S} {r : Nat} {x : Int} (h : wkF S S' r) : wkF S (up2 S' 181 19 x) r := by
  obtain ⟨h1, h2, h3⟩ := h
  refine ⟨fun c g1 g2 g3 g4 g5 g6 => ?_, fun j hj => ?_, fun c j hj g1 g2 => ?_⟩
  · rw [up2_row g6]; exact h1 c g1 g2 g3 g4 g5 g6
  · rw [up2_rc hj]; exact h2 j hj
  · rw [up2_rd g2]; exact h3 c j hj g1 g2
theorem rev_top {l : List Nat} {o : Nat} : (o :: l).reverse[l.length]? = some o := by simp
theorem rev_low {l : List Nat} {o p j : Nat} (h : l.reverse[j]? = some p) : (o :: l).reverse[j]? = some p := by
  have hl : j < l.reverse.length := (List.getElem?_eq_some_iff.mp h).1
  rw [List.reverse_cons, List.getElem?_append_left hl]
  exact h
theorem wk_D {S' : mm_S} {s : Nat → Int} {r i x : Nat} (hx : x = 25 * r + i) (h : wkI S' s r i) (h1 : ¬ opn (s i)) (h2 : ¬ (s i = 6 ∨ s i = 15 ∨ s i = 7)) : wkI (up2 (up2 S' 193 x (-1)) 196 x ((stk s i).length : Int)) s r (i + 1) := by
  obtain ⟨g1, g2, g3, g4⟩ := h
  unfold wkI
  rw [stk_no h1 (by omega)]
  refine ⟨?_, fun j o hj => ?_, fun j hj => ?_, fun o ho hop => ?_⟩
  · rw [up2_rd (by omega), up2_rd (by omega)]; exact g1
  · rw [up2_rd (by omega), up2_rd (by omega)]; exact g2 j o hj
  · by_cases hji : j = i
    · subst hji
      rw [up2_rd (by omega), ← hx, up2_same, up2_same, opA, if_neg h2, arA, if_neg (by omega)]
      exact ⟨rfl, rfl⟩
    · rw [up2_rd (by omega), up2_rc (by omega), up2_rc (by omega), up2_rd (by omega)]
      exact g3 j (by omega)
  · have hoi : o ≠ i := fun z => h1 (z ▸ hop)
    rw [up2_rd (by omega), up2_rd (by omega), up2_rd (by omega), up2_rd (by omega)]
    simp only [midO, endO]
    rw [if_neg (by omega), if_neg (by omega)]
    exact g4 o (by omega) hop
theorem wk_A {S' : mm_S} {s : Nat → Int} {r i x y o : Nat} (hx : x = 25 * r + i) (hy : y = 25 * r + o) (h : wkI S' s r i) (h2 : s i = 6 ∨ s i = 15) (ho : (stk s i).head? = some o) : wkI (up2 (up2 (up2 (up2 S' 193 x (-1)) 193 x (o : Int)) 194 y (i : Int)) 196 x ((stk s i).length : Int)) s r (i + 1) := by
  obtain ⟨g1, g2, g3, g4⟩ := h
  have hno : ¬ opn (s i) := by omega
  have hoi := (stk_top (stk_head ho)).2
  unfold wkI
  rw [stk_no hno (by omega)]
  refine ⟨?_, fun j p hj => ?_, fun j hj => ?_, fun p hp hop => ?_⟩
  · rw [up2_rd (by omega), up2_rd (by omega), up2_rd (by omega), up2_rd (by omega)]; exact g1
  · rw [up2_rd (by omega), up2_rd (by omega), up2_rd (by omega), up2_rd (by omega)]; exact g2 j p hj
  · by_cases hji : j = i
    · subst hji
      rw [up2_rd (by omega), up2_rd (by omega), ← hx, up2_same, up2_same, opA, if_pos (by omega), ho, arA, if_neg (by omega)]
      exact ⟨rfl, rfl⟩
    · rw [up2_rd (by omega), up2_rd (by omega), up2_rc (by omega), up2_rc (by omega), up2_rc (by omega), up2_rd (by omega), up2_rd (by omega), up2_rd (by omega)]
      exact g3 j (by omega)
  · have hpi : p ≠ i := fun z => hno (z ▸ hop)
    simp only [midO, endO]
    by_cases hpo : p = o
    · subst hpo
      rw [up2_rd (by omega), ← hy, up2_same, if_pos ⟨h2, ho⟩, if_neg (by omega), up2_rd (by omega), up2_rd (by omega), up2_rd (by omega), up2_rd (by omega), hy]
      exact ⟨rfl, (g4 p (by omega) hop).2⟩
    · rw [up2_rd (by omega), up2_rc (by omega), up2_rd (by omega), up2_rd (by omega), if_neg (by rw [ho]; simp; omega), if_neg (by omega), up2_rd (by omega), up2_rd (by omega), up2_rd (by omega), up2_rd (by omega)]
      exact g4 p (by omega) hop
theorem wk_B {S' : mm_S} {s : Nat → Int} {r i x y o : Nat} {n1 : Int} (hx : x = 25 * r + i) (hy : y = 25 * r + o) (h : wkI S' s r i) (h2 : s i = 7) (ho : (stk s i).head? = some o) (hn : n1 = ((stk s i).length : Int) - 1) : wkI (up2 (up2 (up2 (up2 (up2 S' 193 x (-1)) 181 19 n1) 193 x (o : Int)) 195 y (i : Int)) 196 x n1) s r (i + 1) := by
  obtain ⟨g1, g2, g3, g4⟩ := h
  have hno : ¬ opn (s i) := by omega
  have hst := stk_head ho
  have hoi := (stk_top hst).2
  subst hn
  unfold wkI
  rw [stk_end h2, hst, List.tail_cons]
  refine ⟨?_, fun j p hj => ?_, fun j hj => ?_, fun p hp hop => ?_⟩
  · rw [up2_rd (by omega), up2_rd (by omega), up2_rd (by omega), up2_same]
    simp
  · rw [up2_rd (by omega), up2_rd (by omega), up2_rd (by omega), up2_rd (by omega), up2_rd (by omega)]
    exact g2 j p (by rw [hst]; exact rev_low hj)
  · by_cases hji : j = i
    · subst hji
      rw [up2_rd (by omega), up2_rd (by omega), ← hx, up2_same, up2_same, opA, if_pos (by omega), ho, arA, if_pos h2, hst]
      exact ⟨rfl, rfl⟩
    · rw [up2_rd (by omega), up2_rd (by omega), up2_rc (by omega), up2_rd (by omega), up2_rc (by omega), up2_rc (by omega), up2_rd (by omega), up2_rd (by omega), up2_rd (by omega), up2_rd (by omega)]
      exact g3 j (by omega)
  · have hpi : p ≠ i := fun z => hno (z ▸ hop)
    simp only [midO, endO]
    by_cases hpo : p = o
    · subst hpo
      rw [up2_rd (by omega), up2_rd (by omega), up2_rd (by omega), up2_rd (by omega), up2_rd (by omega), if_neg (by omega), up2_rd (by omega), ← hy, up2_same, if_pos ⟨h2, ho⟩, hy]
      exact ⟨(g4 p (by omega) hop).1, rfl⟩
    · rw [up2_rd (by omega), up2_rd (by omega), up2_rd (by omega), up2_rd (by omega), up2_rd (by omega), if_neg (by omega), up2_rd (by omega), up2_rc (by omega), up2_rd (by omega), up2_rd (by omega), up2_rd (by omega), if_neg (by rw [ho]; simp; omega)]
      exact g4 p (by omega) hop
theorem wk_C {S' : mm_S} {s : Nat → Int} {r i x m : Nat} {n1 : Int} (hx : x = 25 * r + i) (h : wkI S' s r i) (h2 : opn (s i)) (hm : m = (stk s i).length) (hn : n1 = ((stk s i).length : Int) + 1) : wkI (up2 (up2 (up2 (up2 (up2 (up2 S' 193 x (-1)) 196 x ((stk s i).length : Int)) 194 x (-1)) 195 x (-1)) 197 m (i : Int)) 181 19 n1) s r (i + 1) := by
  obtain ⟨g1, g2, g3, g4⟩ := h
  subst hn
  subst hm
  unfold wkI
  rw [stk_op h2]
  refine ⟨?_, fun j p hj => ?_, fun j hj => ?_, fun p hp hop => ?_⟩
  · rw [up2_same]
    simp
  · rw [up2_rd (by omega)]
    rw [List.reverse_cons] at hj
    by_cases hjl : j < (stk s i).length
    · rw [List.getElem?_append_left (by simpa using hjl)] at hj
      rw [up2_rc (by omega), up2_rd (by omega), up2_rd (by omega), up2_rd (by omega), up2_rd (by omega)]
      exact g2 j p hj
    · rw [List.getElem?_append_right (by simp; omega)] at hj
      have hz : j - (stk s i).reverse.length = 0 := by
        have := (List.getElem?_eq_some_iff.mp hj).1
        simp at this ⊢
        omega
      have hje : j = (stk s i).length := by simp at hz; omega
      rw [hz] at hj
      simp at hj
      subst hj
      rw [hje, up2_same]
  · by_cases hji : j = i
    · subst hji
      rw [up2_rd (by omega), up2_rd (by omega), up2_rd (by omega), up2_rd (by omega), up2_rd (by omega), ← hx, up2_same, up2_rd (by omega), up2_rd (by omega), up2_rd (by omega), up2_rd (by omega), up2_same, opA, if_neg (by omega), arA, if_neg (by omega)]
      exact ⟨rfl, rfl⟩
    · rw [up2_rd (by omega), up2_rd (by omega), up2_rd (by omega), up2_rd (by omega), up2_rc (by omega), up2_rc (by omega), up2_rd (by omega), up2_rd (by omega), up2_rd (by omega), up2_rd (by omega), up2_rc (by omega), up2_rd (by omega)]
      exact g3 j (by omega)
  · simp only [midO, endO]
    rw [if_neg (by omega), if_neg (by omega)]
    by_cases hpi : p = i
    · subst hpi
      rw [up2_rd (by omega), up2_rd (by omega), up2_rd (by omega), ← hx, up2_same, up2_rd (by omega), up2_rd (by omega), up2_same, midO_before s p p (by omega), endO_before s p p (by omega)]
      exact ⟨rfl, rfl⟩
    · rw [up2_rd (by omega), up2_rd (by omega), up2_rd (by omega), up2_rc (by omega), up2_rd (by omega), up2_rd (by omega), up2_rd (by omega), up2_rd (by omega), up2_rc (by omega), up2_rd (by omega), up2_rd (by omega), up2_rd (by omega)]
      exact g4 p (by omega) hop
set_option maxRecDepth 100000 in
set_option maxHeartbeats 4000000 in
theorem l_walk {sh : List mm_H} {S : mm_S} {L : mm_L} (hm : mdS sh) {r n : Nat} {s : Nat → Int} (hr : r < 6) (hn : S 189 r = n) (hn2 : n ≤ 24) (hs : ∀ j, j < n → S 190 (25 * r + j) = s j) (hw : wfP s n) : ∀ (q : Nat) (i : Nat) (S' : mm_S), n - i < q → (i ≤ n) → (wkF S S' r) → (wkI S' s r i) → am_AW eX10_walk (mm sh S' L) 7 [some (.ref 181), some (.int (iI (r : Int))), some (.int (iI (i : Int))), none, none] [] (fun r0 M' => r0 = none ∧ ∃ S2, M' = mm sh S2 L ∧ wkF S S2 r ∧ wkI S2 s r n) := by
  intro q
  induction q with
  | zero =>
    intro i S' hq
    exact absurd hq (Nat.not_lt_zero _)
  | succ q ih =>
    intro i S' hq hi hF hw2
    obtain ⟨g1, g2, g3, g4⟩ := id hw2
    have hlen := stk_len (wfP_le hw hi)
    have hS1 : S' 189 r = (n : Int) := by rw [hF.1 189 (by omega) (by omega) (by omega) (by omega) (by omega) (by omega)]; exact hn
    refine am_iload_n rfl dX10_walk_7 ?_
    refine am_aload_n rfl dX10_walk_8 ?_
    refine mm_getR dX10_walk_9 fl_X10_36 (md_0 hm) mdf_10 ?_
    refine am_iload_n rfl dX10_walk_12 ?_
    refine mm_ial dX10_walk_13 (md_many hm) (by omega) ?_
    rw [Int.toNat_natCast, hS1]
    refine mm_jge (tgt := 205) dX10_walk_14 (by decide) (by omega) (by omega) (fun h14 => ?_) (fun h14 => ?_)
    · have : i = n := by omega
      subst this
      exact am_return dX10_walk_205 rfl ⟨rfl, S', rfl, hF, hw2⟩
    · refine mm_bipush dX10_walk_17 (by decide) ?_
      refine am_iload_n rfl dX10_walk_19 ?_
      refine mm_imul dX10_walk_20 ?_
      refine am_iload_n rfl dX10_walk_21 ?_
      refine mm_iadd dX10_walk_22 ?_
      refine am_ist3 dX10_walk_23 (Nat.le_of_ble_eq_true rfl) (am_c1i _) ?_
      have hwi := hw i (by omega)
      have hso : S' 190 (25 * (r : Int) + i).toNat = s i := by
        rw [show (25 * (r : Int) + i).toNat = 25 * r + i by omega, hF.1 190 (by omega) (by omega) (by omega) (by omega) (by omega) (by omega)]
        exact hs i (by omega)
      refine am_aload_n rfl dX10_walk_24 ?_
      refine mm_getR dX10_walk_25 fl_X10_39 (md_0 hm) mdf_11 ?_
      refine am_iload_n rfl dX10_walk_28 ?_
      refine mm_ial dX10_walk_29 (md_sortAt hm) (by omega) ?_
      rw [hso]
      refine am_ist4 dX10_walk_30 (Nat.le_of_ble_eq_true rfl) (am_c1i _) ?_
      refine am_aload_n rfl dX10_walk_32 ?_
      refine mm_getR dX10_walk_33 fl_X10_48 (md_0 hm) mdf_14 ?_
      refine am_iload_n rfl dX10_walk_36 ?_
      refine mm_iconst dX10_walk_37 ?_
      refine mm_ias dX10_walk_38 (md_openAt hm) (by omega) ?_
      refine am_iload rfl dX10_walk_39 ?_
      refine mm_bipush dX10_walk_41 (by decide) ?_
      refine mm_jeq (tgt := 53) dX10_walk_43 (by decide) (by omega) (by omega) (fun h43 => ?_) (fun h43 => ?_)
      · obtain ⟨o, ho⟩ : ∃ o, (stk s i).head? = some o := by
          rcases (show s i = 6 ∨ s i = 15 by omega) with z | z
          · obtain ⟨o, h1, -⟩ := hwi.2.2.1 z; exact ⟨o, h1⟩
          · obtain ⟨o, h1, -⟩ := hwi.2.2.2.1 z; exact ⟨o, h1⟩
        have hst := stk_head ho
        have hl0 : (stk s i).length = (stk s o).length + 1 := by rw [hst]; rfl
        have hoi := (stk_top hst).2.1
        have hpo : S' 197 (S' 181 19 - 1).toNat = (o : Int) := g2 _ o (by rw [g1, hl0, show (((stk s o).length + 1 : Nat) : Int) - 1 = ((stk s o).length : Int) by omega, Int.toNat_natCast, hst]; exact rev_top)
        refine am_aload_n rfl dX10_walk_53 ?_
        refine mm_getR dX10_walk_54 fl_X10_48 (md_0 hm) mdf_14 ?_
        refine am_iload_n rfl dX10_walk_57 ?_
        refine am_aload_n rfl dX10_walk_58 ?_
        refine mm_getR dX10_walk_59 fl_X10_60 (md_0 hm) mdf_18 ?_
        refine am_aload_n rfl dX10_walk_62 ?_
        refine mm_getI dX10_walk_63 fl_X10_190 (md_0 hm) mdf_19 ?_
        try simp (disch := omega) only [up2_rd, up2_rc, up2_same]
        refine mm_iconst dX10_walk_66 ?_
        refine mm_isub dX10_walk_67 ?_
        refine mm_ial dX10_walk_68 (md_pile hm) (by omega) ?_
        try simp (disch := omega) only [up2_rd, up2_rc, up2_same]
        rw [hpo]
        refine mm_ias dX10_walk_69 (md_openAt hm) (by omega) ?_
        refine am_aload_n rfl dX10_walk_70 ?_
        refine mm_getR dX10_walk_71 fl_X10_51 (md_0 hm) mdf_15 ?_
        refine mm_bipush dX10_walk_74 (by decide) ?_
        refine am_iload_n rfl dX10_walk_76 ?_
        refine mm_imul dX10_walk_77 ?_
        refine am_aload_n rfl dX10_walk_78 ?_
        refine mm_getR dX10_walk_79 fl_X10_60 (md_0 hm) mdf_18 ?_
        refine am_aload_n rfl dX10_walk_82 ?_
        refine mm_getI dX10_walk_83 fl_X10_190 (md_0 hm) mdf_19 ?_
        try simp (disch := omega) only [up2_rd, up2_rc, up2_same]
        refine mm_iconst dX10_walk_86 ?_
        refine mm_isub dX10_walk_87 ?_
        refine mm_ial dX10_walk_88 (md_pile hm) (by omega) ?_
        try simp (disch := omega) only [up2_rd, up2_rc, up2_same]
        rw [hpo]
        refine mm_iadd dX10_walk_89 ?_
        refine am_iload_n rfl dX10_walk_90 ?_
        refine mm_ias dX10_walk_91 (md_midAt hm) (by omega) ?_
        refine am_goto (tgt := 147) dX10_walk_92 (by decide) ?_
        refine am_aload_n rfl dX10_walk_147 ?_
        refine mm_getR dX10_walk_148 fl_X10_57 (md_0 hm) mdf_17 ?_
        refine am_iload_n rfl dX10_walk_151 ?_
        refine am_aload_n rfl dX10_walk_152 ?_
        refine mm_getI dX10_walk_153 fl_X10_190 (md_0 hm) mdf_19 ?_
        try simp (disch := omega) only [up2_rd, up2_rc, up2_same]
        try rw [g1]
        refine mm_ias dX10_walk_156 (md_around hm) (by omega) ?_
        refine am_iload rfl dX10_walk_157 ?_
        refine am_ci (mm_S1 dX10_walk_159 in_X10_opens mk_X10_193 st_X10_opens ⟨Nat.le_of_ble_eq_true rfl, Nat.le_of_ble_eq_true rfl⟩ (Nat.le_of_ble_eq_true rfl)) (m_opens (by omega)) ?_
        refine mm_beq (tgt := 199) dX10_walk_162 (by decide) (fun h162 => ?_) (fun h162 => ?_)
        · refine mm_inc2 dX10_walk_199 (Nat.le_of_ble_eq_true rfl) (am_c1i _) ?_
          refine am_goto (tgt := 7) dX10_walk_202 (by decide) ?_
          first
            | (exfalso; omega)
            | (refine am_AW.unset 3 (am_AW.unset 4 (ih (i + 1) _ (by omega) (by omega) ?_ ?_)) <;> first
                | exact wkF_up (wkF_up (wkF_up (wkF_up hF (by omega) (by omega)) (by omega) (by omega)) (by omega) (by omega)) (by omega) (by omega)
                | exact wkF_up (wkF_up (wkF_up (wkF_piled (wkF_up hF (by omega) (by omega))) (by omega) (by omega)) (by omega) (by omega)) (by omega) (by omega)
                | exact wkF_piled (wkF_pile (wkF_up (wkF_up (wkF_up (wkF_up hF (by omega) (by omega)) (by omega) (by omega)) (by omega) (by omega)) (by omega) (by omega)))
                | exact wkF_up (wkF_up hF (by omega) (by omega)) (by omega) (by omega)
                | exact wk_A (by omega) (by omega) hw2 (by omega) ho
                | exact wk_B (by omega) (by omega) hw2 (by omega) ho (by omega)
                | exact wk_C (by omega) hw2 (by assumption) (by omega) (by omega)
                | exact wk_D (by omega) hw2 (by assumption) (by omega))
        · refine am_aload_n rfl dX10_walk_165 ?_
          refine mm_getR dX10_walk_166 fl_X10_51 (md_0 hm) mdf_15 ?_
          refine am_iload_n rfl dX10_walk_169 ?_
          refine mm_iconst dX10_walk_170 ?_
          refine mm_ias dX10_walk_171 (md_midAt hm) (by omega) ?_
          refine am_aload_n rfl dX10_walk_172 ?_
          refine mm_getR dX10_walk_173 fl_X10_54 (md_0 hm) mdf_16 ?_
          refine am_iload_n rfl dX10_walk_176 ?_
          refine mm_iconst dX10_walk_177 ?_
          refine mm_ias dX10_walk_178 (md_endAt hm) (by omega) ?_
          refine am_aload_n rfl dX10_walk_179 ?_
          refine mm_getR dX10_walk_180 fl_X10_60 (md_0 hm) mdf_18 ?_
          refine am_aload_n rfl dX10_walk_183 ?_
          refine mm_getI dX10_walk_184 fl_X10_190 (md_0 hm) mdf_19 ?_
          try simp (disch := omega) only [up2_rd, up2_rc, up2_same]
          try rw [g1]
          refine am_iload_n rfl dX10_walk_187 ?_
          refine mm_ias dX10_walk_188 (md_pile hm) (by have := hwi.2.1 (by assumption); omega) ?_
          refine am_aload_n rfl dX10_walk_189 ?_
          refine am_dup rfl dX10_walk_190 ?_
          refine mm_getI dX10_walk_191 fl_X10_190 (md_0 hm) mdf_19 ?_
          try simp (disch := omega) only [up2_rd, up2_rc, up2_same]
          try rw [g1]
          refine mm_iconst dX10_walk_194 ?_
          refine mm_iadd dX10_walk_195 ?_
          refine mm_putI dX10_walk_196 fp_X10_190 (md_0 hm) mdf_19 ?_
          refine mm_inc2 dX10_walk_199 (Nat.le_of_ble_eq_true rfl) (am_c1i _) ?_
          refine am_goto (tgt := 7) dX10_walk_202 (by decide) ?_
          first
            | (exfalso; omega)
            | (refine am_AW.unset 3 (am_AW.unset 4 (ih (i + 1) _ (by omega) (by omega) ?_ ?_)) <;> first
                | exact wkF_up (wkF_up (wkF_up (wkF_up hF (by omega) (by omega)) (by omega) (by omega)) (by omega) (by omega)) (by omega) (by omega)
                | exact wkF_up (wkF_up (wkF_up (wkF_piled (wkF_up hF (by omega) (by omega))) (by omega) (by omega)) (by omega) (by omega)) (by omega) (by omega)
                | exact wkF_piled (wkF_pile (wkF_up (wkF_up (wkF_up (wkF_up hF (by omega) (by omega)) (by omega) (by omega)) (by omega) (by omega)) (by omega) (by omega)))
                | exact wkF_up (wkF_up hF (by omega) (by omega)) (by omega) (by omega)
                | exact wk_A (by omega) (by omega) hw2 (by omega) ho
                | exact wk_B (by omega) (by omega) hw2 (by omega) ho (by omega)
                | exact wk_C (by omega) hw2 (by assumption) (by omega) (by omega)
                | exact wk_D (by omega) hw2 (by assumption) (by omega))
      · refine am_iload rfl dX10_walk_46 ?_
        refine mm_bipush dX10_walk_48 (by decide) ?_
        refine mm_jne (tgt := 95) dX10_walk_50 (by decide) (by omega) (by omega) (fun h50 => ?_) (fun h50 => ?_)
        · refine am_iload rfl dX10_walk_95 ?_
          refine mm_bipush dX10_walk_97 (by decide) ?_
          refine mm_jne (tgt := 147) dX10_walk_99 (by decide) (by omega) (by omega) (fun h99 => ?_) (fun h99 => ?_)
          · refine am_aload_n rfl dX10_walk_147 ?_
            refine mm_getR dX10_walk_148 fl_X10_57 (md_0 hm) mdf_17 ?_
            refine am_iload_n rfl dX10_walk_151 ?_
            refine am_aload_n rfl dX10_walk_152 ?_
            refine mm_getI dX10_walk_153 fl_X10_190 (md_0 hm) mdf_19 ?_
            try simp (disch := omega) only [up2_rd, up2_rc, up2_same]
            try rw [g1]
            refine mm_ias dX10_walk_156 (md_around hm) (by omega) ?_
            refine am_iload rfl dX10_walk_157 ?_
            refine am_ci (mm_S1 dX10_walk_159 in_X10_opens mk_X10_193 st_X10_opens ⟨Nat.le_of_ble_eq_true rfl, Nat.le_of_ble_eq_true rfl⟩ (Nat.le_of_ble_eq_true rfl)) (m_opens (by omega)) ?_
            refine mm_beq (tgt := 199) dX10_walk_162 (by decide) (fun h162 => ?_) (fun h162 => ?_)
            · refine mm_inc2 dX10_walk_199 (Nat.le_of_ble_eq_true rfl) (am_c1i _) ?_
              refine am_goto (tgt := 7) dX10_walk_202 (by decide) ?_
              first
                | (exfalso; omega)
                | (refine am_AW.unset 3 (am_AW.unset 4 (ih (i + 1) _ (by omega) (by omega) ?_ ?_)) <;> first
                    | exact wkF_up (wkF_up (wkF_up (wkF_up hF (by omega) (by omega)) (by omega) (by omega)) (by omega) (by omega)) (by omega) (by omega)
                    | exact wkF_up (wkF_up (wkF_up (wkF_piled (wkF_up hF (by omega) (by omega))) (by omega) (by omega)) (by omega) (by omega)) (by omega) (by omega)
                    | exact wkF_piled (wkF_pile (wkF_up (wkF_up (wkF_up (wkF_up hF (by omega) (by omega)) (by omega) (by omega)) (by omega) (by omega)) (by omega) (by omega)))
                    | exact wkF_up (wkF_up hF (by omega) (by omega)) (by omega) (by omega)
                    | exact wk_A (by omega) (by omega) hw2 (by omega) ho
                    | exact wk_B (by omega) (by omega) hw2 (by omega) ho (by omega)
                    | exact wk_C (by omega) hw2 (by assumption) (by omega) (by omega)
                    | exact wk_D (by omega) hw2 (by assumption) (by omega))
            · refine am_aload_n rfl dX10_walk_165 ?_
              refine mm_getR dX10_walk_166 fl_X10_51 (md_0 hm) mdf_15 ?_
              refine am_iload_n rfl dX10_walk_169 ?_
              refine mm_iconst dX10_walk_170 ?_
              refine mm_ias dX10_walk_171 (md_midAt hm) (by omega) ?_
              refine am_aload_n rfl dX10_walk_172 ?_
              refine mm_getR dX10_walk_173 fl_X10_54 (md_0 hm) mdf_16 ?_
              refine am_iload_n rfl dX10_walk_176 ?_
              refine mm_iconst dX10_walk_177 ?_
              refine mm_ias dX10_walk_178 (md_endAt hm) (by omega) ?_
              refine am_aload_n rfl dX10_walk_179 ?_
              refine mm_getR dX10_walk_180 fl_X10_60 (md_0 hm) mdf_18 ?_
              refine am_aload_n rfl dX10_walk_183 ?_
              refine mm_getI dX10_walk_184 fl_X10_190 (md_0 hm) mdf_19 ?_
              try simp (disch := omega) only [up2_rd, up2_rc, up2_same]
              try rw [g1]
              refine am_iload_n rfl dX10_walk_187 ?_
              refine mm_ias dX10_walk_188 (md_pile hm) (by have := hwi.2.1 (by assumption); omega) ?_
              refine am_aload_n rfl dX10_walk_189 ?_
              refine am_dup rfl dX10_walk_190 ?_
              refine mm_getI dX10_walk_191 fl_X10_190 (md_0 hm) mdf_19 ?_
              try simp (disch := omega) only [up2_rd, up2_rc, up2_same]
              try rw [g1]
              refine mm_iconst dX10_walk_194 ?_
              refine mm_iadd dX10_walk_195 ?_
              refine mm_putI dX10_walk_196 fp_X10_190 (md_0 hm) mdf_19 ?_
              refine mm_inc2 dX10_walk_199 (Nat.le_of_ble_eq_true rfl) (am_c1i _) ?_
              refine am_goto (tgt := 7) dX10_walk_202 (by decide) ?_
              first
                | (exfalso; omega)
                | (refine am_AW.unset 3 (am_AW.unset 4 (ih (i + 1) _ (by omega) (by omega) ?_ ?_)) <;> first
                    | exact wkF_up (wkF_up (wkF_up (wkF_up hF (by omega) (by omega)) (by omega) (by omega)) (by omega) (by omega)) (by omega) (by omega)
                    | exact wkF_up (wkF_up (wkF_up (wkF_piled (wkF_up hF (by omega) (by omega))) (by omega) (by omega)) (by omega) (by omega)) (by omega) (by omega)
                    | exact wkF_piled (wkF_pile (wkF_up (wkF_up (wkF_up (wkF_up hF (by omega) (by omega)) (by omega) (by omega)) (by omega) (by omega)) (by omega) (by omega)))
                    | exact wkF_up (wkF_up hF (by omega) (by omega)) (by omega) (by omega)
                    | exact wk_A (by omega) (by omega) hw2 (by omega) ho
                    | exact wk_B (by omega) (by omega) hw2 (by omega) ho (by omega)
                    | exact wk_C (by omega) hw2 (by assumption) (by omega) (by omega)
                    | exact wk_D (by omega) hw2 (by assumption) (by omega))
          · obtain ⟨o, ho⟩ : ∃ o, (stk s i).head? = some o := by
              obtain ⟨o, h1, -⟩ := hwi.2.2.2.2 (by omega); exact ⟨o, h1⟩
            have hst := stk_head ho
            have hl0 : (stk s i).length = (stk s o).length + 1 := by rw [hst]; rfl
            have hoi := (stk_top hst).2.1
            have hpo : S' 197 (S' 181 19 - 1).toNat = (o : Int) := g2 _ o (by rw [g1, hl0, show (((stk s o).length + 1 : Nat) : Int) - 1 = ((stk s o).length : Int) by omega, Int.toNat_natCast, hst]; exact rev_top)
            refine am_aload_n rfl dX10_walk_102 ?_
            refine am_dup rfl dX10_walk_103 ?_
            refine mm_getI dX10_walk_104 fl_X10_190 (md_0 hm) mdf_19 ?_
            try simp (disch := omega) only [up2_rd, up2_rc, up2_same]
            refine mm_iconst dX10_walk_107 ?_
            refine mm_isub dX10_walk_108 ?_
            refine mm_putI dX10_walk_109 fp_X10_190 (md_0 hm) mdf_19 ?_
            refine am_aload_n rfl dX10_walk_112 ?_
            refine mm_getR dX10_walk_113 fl_X10_48 (md_0 hm) mdf_14 ?_
            refine am_iload_n rfl dX10_walk_116 ?_
            refine am_aload_n rfl dX10_walk_117 ?_
            refine mm_getR dX10_walk_118 fl_X10_60 (md_0 hm) mdf_18 ?_
            refine am_aload_n rfl dX10_walk_121 ?_
            refine mm_getI dX10_walk_122 fl_X10_190 (md_0 hm) mdf_19 ?_
            try simp (disch := omega) only [up2_rd, up2_rc, up2_same]
            refine mm_ial dX10_walk_125 (md_pile hm) (by omega) ?_
            try simp (disch := omega) only [up2_rd, up2_rc, up2_same]
            rw [hpo]
            refine mm_ias dX10_walk_126 (md_openAt hm) (by omega) ?_
            refine am_aload_n rfl dX10_walk_127 ?_
            refine mm_getR dX10_walk_128 fl_X10_54 (md_0 hm) mdf_16 ?_
            refine mm_bipush dX10_walk_131 (by decide) ?_
            refine am_iload_n rfl dX10_walk_133 ?_
            refine mm_imul dX10_walk_134 ?_
            refine am_aload_n rfl dX10_walk_135 ?_
            refine mm_getR dX10_walk_136 fl_X10_60 (md_0 hm) mdf_18 ?_
            refine am_aload_n rfl dX10_walk_139 ?_
            refine mm_getI dX10_walk_140 fl_X10_190 (md_0 hm) mdf_19 ?_
            try simp (disch := omega) only [up2_rd, up2_rc, up2_same]
            refine mm_ial dX10_walk_143 (md_pile hm) (by omega) ?_
            try simp (disch := omega) only [up2_rd, up2_rc, up2_same]
            rw [hpo]
            refine mm_iadd dX10_walk_144 ?_
            refine am_iload_n rfl dX10_walk_145 ?_
            refine mm_ias dX10_walk_146 (md_endAt hm) (by omega) ?_
            refine am_aload_n rfl dX10_walk_147 ?_
            refine mm_getR dX10_walk_148 fl_X10_57 (md_0 hm) mdf_17 ?_
            refine am_iload_n rfl dX10_walk_151 ?_
            refine am_aload_n rfl dX10_walk_152 ?_
            refine mm_getI dX10_walk_153 fl_X10_190 (md_0 hm) mdf_19 ?_
            try simp (disch := omega) only [up2_rd, up2_rc, up2_same]
            try rw [g1]
            refine mm_ias dX10_walk_156 (md_around hm) (by omega) ?_
            refine am_iload rfl dX10_walk_157 ?_
            refine am_ci (mm_S1 dX10_walk_159 in_X10_opens mk_X10_193 st_X10_opens ⟨Nat.le_of_ble_eq_true rfl, Nat.le_of_ble_eq_true rfl⟩ (Nat.le_of_ble_eq_true rfl)) (m_opens (by omega)) ?_
            refine mm_beq (tgt := 199) dX10_walk_162 (by decide) (fun h162 => ?_) (fun h162 => ?_)
            · refine mm_inc2 dX10_walk_199 (Nat.le_of_ble_eq_true rfl) (am_c1i _) ?_
              refine am_goto (tgt := 7) dX10_walk_202 (by decide) ?_
              first
                | (exfalso; omega)
                | (refine am_AW.unset 3 (am_AW.unset 4 (ih (i + 1) _ (by omega) (by omega) ?_ ?_)) <;> first
                    | exact wkF_up (wkF_up (wkF_up (wkF_up hF (by omega) (by omega)) (by omega) (by omega)) (by omega) (by omega)) (by omega) (by omega)
                    | exact wkF_up (wkF_up (wkF_up (wkF_piled (wkF_up hF (by omega) (by omega))) (by omega) (by omega)) (by omega) (by omega)) (by omega) (by omega)
                    | exact wkF_piled (wkF_pile (wkF_up (wkF_up (wkF_up (wkF_up hF (by omega) (by omega)) (by omega) (by omega)) (by omega) (by omega)) (by omega) (by omega)))
                    | exact wkF_up (wkF_up hF (by omega) (by omega)) (by omega) (by omega)
                    | exact wk_A (by omega) (by omega) hw2 (by omega) ho
                    | exact wk_B (by omega) (by omega) hw2 (by omega) ho (by omega)
                    | exact wk_C (by omega) hw2 (by assumption) (by omega) (by omega)
                    | exact wk_D (by omega) hw2 (by assumption) (by omega))
            · refine am_aload_n rfl dX10_walk_165 ?_
              refine mm_getR dX10_walk_166 fl_X10_51 (md_0 hm) mdf_15 ?_
              refine am_iload_n rfl dX10_walk_169 ?_
              refine mm_iconst dX10_walk_170 ?_
              refine mm_ias dX10_walk_171 (md_midAt hm) (by omega) ?_
              refine am_aload_n rfl dX10_walk_172 ?_
              refine mm_getR dX10_walk_173 fl_X10_54 (md_0 hm) mdf_16 ?_
              refine am_iload_n rfl dX10_walk_176 ?_
              refine mm_iconst dX10_walk_177 ?_
              refine mm_ias dX10_walk_178 (md_endAt hm) (by omega) ?_
              refine am_aload_n rfl dX10_walk_179 ?_
              refine mm_getR dX10_walk_180 fl_X10_60 (md_0 hm) mdf_18 ?_
              refine am_aload_n rfl dX10_walk_183 ?_
              refine mm_getI dX10_walk_184 fl_X10_190 (md_0 hm) mdf_19 ?_
              try simp (disch := omega) only [up2_rd, up2_rc, up2_same]
              try rw [g1]
              refine am_iload_n rfl dX10_walk_187 ?_
              refine mm_ias dX10_walk_188 (md_pile hm) (by have := hwi.2.1 (by assumption); omega) ?_
              refine am_aload_n rfl dX10_walk_189 ?_
              refine am_dup rfl dX10_walk_190 ?_
              refine mm_getI dX10_walk_191 fl_X10_190 (md_0 hm) mdf_19 ?_
              try simp (disch := omega) only [up2_rd, up2_rc, up2_same]
              try rw [g1]
              refine mm_iconst dX10_walk_194 ?_
              refine mm_iadd dX10_walk_195 ?_
              refine mm_putI dX10_walk_196 fp_X10_190 (md_0 hm) mdf_19 ?_
              refine mm_inc2 dX10_walk_199 (Nat.le_of_ble_eq_true rfl) (am_c1i _) ?_
              refine am_goto (tgt := 7) dX10_walk_202 (by decide) ?_
              first
                | (exfalso; omega)
                | (refine am_AW.unset 3 (am_AW.unset 4 (ih (i + 1) _ (by omega) (by omega) ?_ ?_)) <;> first
                    | exact wkF_up (wkF_up (wkF_up (wkF_up hF (by omega) (by omega)) (by omega) (by omega)) (by omega) (by omega)) (by omega) (by omega)
                    | exact wkF_up (wkF_up (wkF_up (wkF_piled (wkF_up hF (by omega) (by omega))) (by omega) (by omega)) (by omega) (by omega)) (by omega) (by omega)
                    | exact wkF_piled (wkF_pile (wkF_up (wkF_up (wkF_up (wkF_up hF (by omega) (by omega)) (by omega) (by omega)) (by omega) (by omega)) (by omega) (by omega)))
                    | exact wkF_up (wkF_up hF (by omega) (by omega)) (by omega) (by omega)
                    | exact wk_A (by omega) (by omega) hw2 (by omega) ho
                    | exact wk_B (by omega) (by omega) hw2 (by omega) ho (by omega)
                    | exact wk_C (by omega) hw2 (by assumption) (by omega) (by omega)
                    | exact wk_D (by omega) hw2 (by assumption) (by omega))
        · obtain ⟨o, ho⟩ : ∃ o, (stk s i).head? = some o := by
            rcases (show s i = 6 ∨ s i = 15 by omega) with z | z
            · obtain ⟨o, h1, -⟩ := hwi.2.2.1 z; exact ⟨o, h1⟩
            · obtain ⟨o, h1, -⟩ := hwi.2.2.2.1 z; exact ⟨o, h1⟩
          have hst := stk_head ho
          have hl0 : (stk s i).length = (stk s o).length + 1 := by rw [hst]; rfl
          have hoi := (stk_top hst).2.1
          have hpo : S' 197 (S' 181 19 - 1).toNat = (o : Int) := g2 _ o (by rw [g1, hl0, show (((stk s o).length + 1 : Nat) : Int) - 1 = ((stk s o).length : Int) by omega, Int.toNat_natCast, hst]; exact rev_top)
          refine am_aload_n rfl dX10_walk_53 ?_
          refine mm_getR dX10_walk_54 fl_X10_48 (md_0 hm) mdf_14 ?_
          refine am_iload_n rfl dX10_walk_57 ?_
          refine am_aload_n rfl dX10_walk_58 ?_
          refine mm_getR dX10_walk_59 fl_X10_60 (md_0 hm) mdf_18 ?_
          refine am_aload_n rfl dX10_walk_62 ?_
          refine mm_getI dX10_walk_63 fl_X10_190 (md_0 hm) mdf_19 ?_
          try simp (disch := omega) only [up2_rd, up2_rc, up2_same]
          refine mm_iconst dX10_walk_66 ?_
          refine mm_isub dX10_walk_67 ?_
          refine mm_ial dX10_walk_68 (md_pile hm) (by omega) ?_
          try simp (disch := omega) only [up2_rd, up2_rc, up2_same]
          rw [hpo]
          refine mm_ias dX10_walk_69 (md_openAt hm) (by omega) ?_
          refine am_aload_n rfl dX10_walk_70 ?_
          refine mm_getR dX10_walk_71 fl_X10_51 (md_0 hm) mdf_15 ?_
          refine mm_bipush dX10_walk_74 (by decide) ?_
          refine am_iload_n rfl dX10_walk_76 ?_
          refine mm_imul dX10_walk_77 ?_
          refine am_aload_n rfl dX10_walk_78 ?_
          refine mm_getR dX10_walk_79 fl_X10_60 (md_0 hm) mdf_18 ?_
          refine am_aload_n rfl dX10_walk_82 ?_
          refine mm_getI dX10_walk_83 fl_X10_190 (md_0 hm) mdf_19 ?_
          try simp (disch := omega) only [up2_rd, up2_rc, up2_same]
          refine mm_iconst dX10_walk_86 ?_
          refine mm_isub dX10_walk_87 ?_
          refine mm_ial dX10_walk_88 (md_pile hm) (by omega) ?_
          try simp (disch := omega) only [up2_rd, up2_rc, up2_same]
          rw [hpo]
          refine mm_iadd dX10_walk_89 ?_
          refine am_iload_n rfl dX10_walk_90 ?_
          refine mm_ias dX10_walk_91 (md_midAt hm) (by omega) ?_
          refine am_goto (tgt := 147) dX10_walk_92 (by decide) ?_
          refine am_aload_n rfl dX10_walk_147 ?_
          refine mm_getR dX10_walk_148 fl_X10_57 (md_0 hm) mdf_17 ?_
          refine am_iload_n rfl dX10_walk_151 ?_
          refine am_aload_n rfl dX10_walk_152 ?_
          refine mm_getI dX10_walk_153 fl_X10_190 (md_0 hm) mdf_19 ?_
          try simp (disch := omega) only [up2_rd, up2_rc, up2_same]
          try rw [g1]
          refine mm_ias dX10_walk_156 (md_around hm) (by omega) ?_
          refine am_iload rfl dX10_walk_157 ?_
          refine am_ci (mm_S1 dX10_walk_159 in_X10_opens mk_X10_193 st_X10_opens ⟨Nat.le_of_ble_eq_true rfl, Nat.le_of_ble_eq_true rfl⟩ (Nat.le_of_ble_eq_true rfl)) (m_opens (by omega)) ?_
          refine mm_beq (tgt := 199) dX10_walk_162 (by decide) (fun h162 => ?_) (fun h162 => ?_)
          · refine mm_inc2 dX10_walk_199 (Nat.le_of_ble_eq_true rfl) (am_c1i _) ?_
            refine am_goto (tgt := 7) dX10_walk_202 (by decide) ?_
            first
              | (exfalso; omega)
              | (refine am_AW.unset 3 (am_AW.unset 4 (ih (i + 1) _ (by omega) (by omega) ?_ ?_)) <;> first
                  | exact wkF_up (wkF_up (wkF_up (wkF_up hF (by omega) (by omega)) (by omega) (by omega)) (by omega) (by omega)) (by omega) (by omega)
                  | exact wkF_up (wkF_up (wkF_up (wkF_piled (wkF_up hF (by omega) (by omega))) (by omega) (by omega)) (by omega) (by omega)) (by omega) (by omega)
                  | exact wkF_piled (wkF_pile (wkF_up (wkF_up (wkF_up (wkF_up hF (by omega) (by omega)) (by omega) (by omega)) (by omega) (by omega)) (by omega) (by omega)))
                  | exact wkF_up (wkF_up hF (by omega) (by omega)) (by omega) (by omega)
                  | exact wk_A (by omega) (by omega) hw2 (by omega) ho
                  | exact wk_B (by omega) (by omega) hw2 (by omega) ho (by omega)
                  | exact wk_C (by omega) hw2 (by assumption) (by omega) (by omega)
                  | exact wk_D (by omega) hw2 (by assumption) (by omega))
          · refine am_aload_n rfl dX10_walk_165 ?_
            refine mm_getR dX10_walk_166 fl_X10_51 (md_0 hm) mdf_15 ?_
            refine am_iload_n rfl dX10_walk_169 ?_
            refine mm_iconst dX10_walk_170 ?_
            refine mm_ias dX10_walk_171 (md_midAt hm) (by omega) ?_
            refine am_aload_n rfl dX10_walk_172 ?_
            refine mm_getR dX10_walk_173 fl_X10_54 (md_0 hm) mdf_16 ?_
            refine am_iload_n rfl dX10_walk_176 ?_
            refine mm_iconst dX10_walk_177 ?_
            refine mm_ias dX10_walk_178 (md_endAt hm) (by omega) ?_
            refine am_aload_n rfl dX10_walk_179 ?_
            refine mm_getR dX10_walk_180 fl_X10_60 (md_0 hm) mdf_18 ?_
            refine am_aload_n rfl dX10_walk_183 ?_
            refine mm_getI dX10_walk_184 fl_X10_190 (md_0 hm) mdf_19 ?_
            try simp (disch := omega) only [up2_rd, up2_rc, up2_same]
            try rw [g1]
            refine am_iload_n rfl dX10_walk_187 ?_
            refine mm_ias dX10_walk_188 (md_pile hm) (by have := hwi.2.1 (by assumption); omega) ?_
            refine am_aload_n rfl dX10_walk_189 ?_
            refine am_dup rfl dX10_walk_190 ?_
            refine mm_getI dX10_walk_191 fl_X10_190 (md_0 hm) mdf_19 ?_
            try simp (disch := omega) only [up2_rd, up2_rc, up2_same]
            try rw [g1]
            refine mm_iconst dX10_walk_194 ?_
            refine mm_iadd dX10_walk_195 ?_
            refine mm_putI dX10_walk_196 fp_X10_190 (md_0 hm) mdf_19 ?_
            refine mm_inc2 dX10_walk_199 (Nat.le_of_ble_eq_true rfl) (am_c1i _) ?_
            refine am_goto (tgt := 7) dX10_walk_202 (by decide) ?_
            first
              | (exfalso; omega)
              | (refine am_AW.unset 3 (am_AW.unset 4 (ih (i + 1) _ (by omega) (by omega) ?_ ?_)) <;> first
                  | exact wkF_up (wkF_up (wkF_up (wkF_up hF (by omega) (by omega)) (by omega) (by omega)) (by omega) (by omega)) (by omega) (by omega)
                  | exact wkF_up (wkF_up (wkF_up (wkF_piled (wkF_up hF (by omega) (by omega))) (by omega) (by omega)) (by omega) (by omega)) (by omega) (by omega)
                  | exact wkF_piled (wkF_pile (wkF_up (wkF_up (wkF_up (wkF_up hF (by omega) (by omega)) (by omega) (by omega)) (by omega) (by omega)) (by omega) (by omega)))
                  | exact wkF_up (wkF_up hF (by omega) (by omega)) (by omega) (by omega)
                  | exact wk_A (by omega) (by omega) hw2 (by omega) ho
                  | exact wk_B (by omega) (by omega) hw2 (by omega) ho (by omega)
                  | exact wk_C (by omega) hw2 (by assumption) (by omega) (by omega)
                  | exact wk_D (by omega) hw2 (by assumption) (by omega))
set_option maxRecDepth 100000 in
set_option maxHeartbeats 4000000 in
theorem m_walk {sh : List mm_H} {S : mm_S} {L : mm_L} (hm : mdS sh) {r n : Nat} {s : Nat → Int} (hr : r < 6) (hn : S 189 r = n) (hn2 : n ≤ 24) (hs : ∀ j, j < n → S 190 (25 * r + j) = s j) (hw : wfP s n) : am_E eX10_walk [.ref 181, .int (iI (r : Int))] (mm sh S L) (fun r0 M' => r0 = none ∧ ∃ S2, M' = mm sh S2 L ∧ wkF S S2 r ∧ wkI S2 s r n) := by
  refine am_enter rfl rfl (Nat.le_of_ble_eq_true rfl) ?_
  refine am_aload_n rfl dX10_walk_0 ?_
  refine mm_iconst dX10_walk_1 ?_
  refine mm_putI dX10_walk_2 fp_X10_190 (md_0 hm) mdf_19 ?_
  refine mm_iconst dX10_walk_5 ?_
  refine am_ist2 dX10_walk_6 (Nat.le_of_ble_eq_true rfl) (am_c1i _) ?_
  exact l_walk hm hr hn hn2 hs hw (n + 1) 0 _ (by omega) (by omega) (wkF_piled ⟨fun _ _ _ _ _ _ _ => rfl, fun _ _ => rfl, fun _ _ _ _ _ => rfl⟩) ⟨up2_same _ _ _ _, fun j o h => by simp [stk] at h, fun j h => absurd h (Nat.not_lt_zero j), fun o h => absurd h (Nat.not_lt_zero o)⟩
