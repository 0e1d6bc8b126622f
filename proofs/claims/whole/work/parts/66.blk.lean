/-! ===== Blocks: where they lead, in words of ELSE, LAST and END ===== -/
theorem stk_tl {s : Nat → Int} {i o : Nat} {l : List Nat} (h : stk s i = o :: l) : o ∉ l := by
  intro hm
  rw [(stk_top h).1] at hm
  have := (stk_mem hm).1
  omega
theorem stk_pw (s : Nat → Int) : ∀ i, List.Pairwise (fun a b => b < a) (stk s i)
  | 0 => by simp [stk]
  | i + 1 => by
    have ih := stk_pw s i
    simp only [stk]
    split
    · exact List.Pairwise.cons (fun a ha => (stk_mem ha).1) ih
    · split
      · exact List.Pairwise.tail ih
      · exact ih
/-- a block is open as long as its END hasn't come -/
theorem stk_open {s : Nat → Int} {o : Nat} (ho : opn (s o)) : ∀ {j : Nat}, wfP s j → o < j → (o ∈ stk s j ↔ endO s j o = -1)
  | 0, _, h => absurd h (Nat.not_lt_zero _)
  | j + 1, hw, h => by
    by_cases hj : o = j
    · subst hj
      rw [stk_op ho, endO_before s (o + 1) o (Nat.le_refl _)]
      simp
    · have ih := stk_open ho (wfP_le hw (Nat.le_succ j)) (show o < j by omega)
      by_cases h1 : opn (s j)
      · rw [stk_op h1]
        simp only [endO]
        rw [if_neg (by omega), List.mem_cons]
        constructor
        · rintro (h | h)
          · exact absurd h hj
          · exact ih.mp h
        · exact fun h => Or.inr (ih.mpr h)
      · by_cases h2 : s j = 7
        · obtain ⟨q, hq, -⟩ := (hw j (Nat.lt_succ_self j)).2.2.2.2 h2
          have hst := stk_head hq
          rw [stk_end h2, hst, List.tail_cons]
          simp only [endO]
          by_cases hqo : q = o
          · subst hqo
            rw [if_pos ⟨h2, hq⟩]
            constructor
            · intro h; exact absurd h (stk_tl hst)
            · intro h; omega
          · rw [if_neg (fun z => hqo (by have := z.2; rw [hq] at this; exact Option.some.inj this)), ← ih, hst, List.mem_cons]
            constructor
            · exact fun h => Or.inr h
            · rintro (h | h)
              · exact absurd h.symm hqo
              · exact h
        · rw [stk_no h1 h2]
          simp only [endO]
          rw [if_neg (fun z => h2 z.1)]
          exact ih
theorem midO_mono {s : Nat → Int} {o j : Nat} (h0 : midO s j o ≠ -1) : ∀ {k : Nat}, wfP s k → j ≤ k → midO s k o = midO s j o
  | 0, _, h => by rw [show j = 0 by omega]
  | k + 1, hw, h => by
    by_cases hj : j = k + 1
    · rw [hj]
    · have ih := midO_mono h0 (wfP_le hw (Nat.le_succ k)) (show j ≤ k by omega)
      have hm := (hw k (Nat.lt_succ_self k)).2
      simp only [midO]
      rw [if_neg, ih]
      rintro ⟨h1, h2⟩
      rcases h1 with h1 | h1
      · obtain ⟨q, hq, h3, -⟩ := hm.2.1 h1
        rw [h2] at hq
        obtain rfl := Option.some.inj hq
        omega
      · obtain ⟨q, hq, h3, -⟩ := hm.2.2.1 h1
        rw [h2] at hq
        obtain rfl := Option.some.inj hq
        omega
theorem midO_in {s : Nat → Int} {n o m : Nat} (hw : wfP s n) (h : midO s n o = (m : Int)) {j : Nat} (hj : j ≤ n) (hm : m < j) : midO s j o = m := by
  obtain ⟨h1, h2, h3⟩ := midO_at s n o m h
  have e : midO s (m + 1) o = (m : Int) := by simp only [midO]; rw [if_pos ⟨h2, h3⟩]
  rw [midO_mono (j := m + 1) (by omega) (wfP_le hw hj) (by omega), e]
theorem midO_not {s : Nat → Int} {n o : Nat} (hw : wfP s n) {j : Nat} (hj : j ≤ n) (hm : (j : Int) ≤ midO s n o ∨ midO s n o = -1) : midO s j o = -1 := by
  by_cases h : midO s j o = -1
  · exact h
  · have := midO_mono h hw hj
    have := midO_lt s j o
    omega
theorem endO_mono {s : Nat → Int} {o j : Nat} (ho : opn (s o)) (hoj : o < j) (h0 : endO s j o ≠ -1) : ∀ {k : Nat}, wfP s k → j ≤ k → endO s k o = endO s j o
  | 0, _, h => by rw [show j = 0 by omega]
  | k + 1, hw, h => by
    by_cases hj : j = k + 1
    · rw [hj]
    · have hwk := wfP_le hw (Nat.le_succ k)
      have ih := endO_mono ho hoj h0 hwk (show j ≤ k by omega)
      simp only [endO]
      rw [if_neg, ih]
      rintro ⟨h1, h2⟩
      have h3 : o ∈ stk s k := by rw [stk_head h2]; exact List.mem_cons_self
      rw [stk_open ho hwk (by omega)] at h3
      omega
theorem endO_not {s : Nat → Int} {n o : Nat} (hw : wfP s n) (ho : opn (s o)) {j : Nat} (hj : j ≤ n) (hm : (j : Int) ≤ endO s n o ∨ endO s n o = -1) : endO s j o = -1 := by
  by_cases h : endO s j o = -1
  · exact h
  · have h1 := endO_lt s j o
    have h2 : o < j := by
      by_cases h3 : o < j
      · exact h3
      · exact absurd (endO_before s j o (by omega)) h
    have := endO_mono ho h2 h hw hj
    omega
/-- in a ROUTINE without open blocks -/
theorem blk_end {s : Nat → Int} {n o : Nat} (hw : wfP s n) (hc : stk s n = []) (ho : opn (s o)) (hn : o < n) : (o : Int) < endO s n o ∧ endO s n o < n ∧ s (endO s n o).toNat = 7 ∧ (stk s (endO s n o).toNat).head? = some o := by
  have h1 := stk_open ho hw hn
  rw [hc] at h1
  have h2 : endO s n o ≠ -1 := fun z => by have := h1.mpr z; simp at this
  have h3 := endO_lt s n o
  obtain ⟨g1, g2, g3⟩ := endO_at s n o (endO s n o).toNat (by omega)
  have := (stk_top (stk_head g3)).2.1
  exact ⟨by omega, by omega, g2, g3⟩
theorem blk_mid {s : Nat → Int} {n o : Nat} (hw : wfP s n) (hc : stk s n = []) (ho : opn (s o)) (hn : o < n) (hm : midO s n o ≠ -1) : (o : Int) < midO s n o ∧ midO s n o < endO s n o := by
  have h1 := midO_lt s n o
  obtain ⟨h2, h3, h4⟩ := midO_at s n o (midO s n o).toNat (by omega)
  have h5 := (stk_top (stk_head h4)).2.1
  obtain ⟨g1, g2, g3, g4⟩ := blk_end hw hc ho hn
  refine ⟨by omega, ?_⟩
  have h6 : o ∈ stk s (midO s n o).toNat := by rw [stk_head h4]; exact List.mem_cons_self
  rw [stk_open ho (wfP_le hw (by omega)) (by omega)] at h6
  by_cases h7 : endO s n o < midO s n o
  · exfalso
    have e : endO s ((endO s n o).toNat + 1) o = endO s n o := by
      simp only [endO]
      rw [if_pos ⟨g3, g4⟩]
      omega
    have := endO_mono (j := (endO s n o).toNat + 1) (k := (midO s n o).toNat) ho (by omega) (by omega) (wfP_le hw (by omega)) (by omega)
    omega
  · by_cases h8 : endO s n o = midO s n o
    · rw [← h8] at h3
      omega
    · omega
theorem blk_try {s : Nat → Int} {n o : Nat} (hw : wfP s n) (hc : stk s n = []) (ho : s o = 14) (hn : o < n) : midO s n o ≠ -1 ∧ s (midO s n o).toNat = 15 := by
  obtain ⟨g1, g2, g3, g4⟩ := blk_end hw hc (Or.inr ho) hn
  obtain ⟨q, hq, h1⟩ := (hw (endO s n o).toNat (by omega)).2.2.2.2 g3
  rw [g4] at hq
  obtain rfl := Option.some.inj hq
  have h2 : midO s (endO s n o).toNat o ≠ -1 := by
    rcases h1 with h1 | h1
    · exact h1
    · exact absurd ho h1
  have h3 := midO_mono h2 hw (show (endO s n o).toNat ≤ n by omega)
  refine ⟨by omega, ?_⟩
  have h4 := midO_lt s n o
  have h4' := midO_lt s (endO s n o).toNat o
  obtain ⟨h5, h6, h7⟩ := midO_at s n o (midO s n o).toNat (by omega)
  rcases h6 with h6 | h6
  · obtain ⟨q, hq, -, h8⟩ := (hw (midO s n o).toNat (by omega)).2.2.1 h6
    rw [h7] at hq
    obtain rfl := Option.some.inj hq
    omega
  · exact h6
/-! the innermost TRY in whose first block a place stands -/
def trA (s f : Nat → Int) (pl : Int) : Nat → Int
  | 0 => -1
  | o + 1 => if s o = 14 ∧ (o : Int) < pl ∧ pl < f o then (o : Int) else trA s f pl o
theorem trA_sp (s f : Nat → Int) (pl : Int) : ∀ n, (trA s f pl n = -1 ∧ ∀ o : Nat, o < n → ¬ (s o = 14 ∧ (o : Int) < pl ∧ pl < f o)) ∨ ∃ o : Nat, o < n ∧ trA s f pl n = o ∧ (s o = 14 ∧ (o : Int) < pl ∧ pl < f o) ∧ ∀ q : Nat, q < n → (s q = 14 ∧ (q : Int) < pl ∧ pl < f q) → q ≤ o
  | 0 => Or.inl ⟨rfl, fun o h => absurd h (Nat.not_lt_zero _)⟩
  | n + 1 => by
    simp only [trA]
    by_cases h : s n = 14 ∧ (n : Int) < pl ∧ pl < f n
    · rw [if_pos h]
      exact Or.inr ⟨n, Nat.lt_succ_self n, rfl, h, fun q hq _ => by omega⟩
    · rw [if_neg h]
      rcases trA_sp s f pl n with ⟨h1, h2⟩ | ⟨o, h1, h2, h3, h4⟩
      · refine Or.inl ⟨h1, fun o ho => ?_⟩
        by_cases e : o = n
        · rw [e]; exact h
        · exact h2 o (by omega)
      · refine Or.inr ⟨o, by omega, h2, h3, fun q hq hp => ?_⟩
        by_cases e : q = n
        · rw [e] at hp; exact absurd hp h
        · exact h4 q (by omega) hp
theorem catF_sp (s f : Nat → Int) : ∀ l : List Nat, List.Pairwise (fun a b => b < a) l → (catF s f l = -1 ∧ ∀ o ∈ l, ¬ (s o = 14 ∧ f o = -1)) ∨ ∃ o ∈ l, catF s f l = (o : Int) ∧ (s o = 14 ∧ f o = -1) ∧ ∀ q ∈ l, (s q = 14 ∧ f q = -1) → q ≤ o
  | [], _ => Or.inl ⟨rfl, fun o h => by simp at h⟩
  | a :: l, hp => by
    have hp2 := List.pairwise_cons.mp hp
    simp only [catF]
    by_cases h : s a = 14 ∧ f a = -1
    · rw [if_pos h]
      refine Or.inr ⟨a, List.mem_cons_self, rfl, h, fun q hq _ => ?_⟩
      rcases List.mem_cons.mp hq with e | e
      · omega
      · have := hp2.1 q e; omega
    · rw [if_neg h]
      rcases catF_sp s f l hp2.2 with ⟨h1, h2⟩ | ⟨o, h1, h2, h3, h4⟩
      · refine Or.inl ⟨h1, fun o ho => ?_⟩
        rcases List.mem_cons.mp ho with e | e
        · rw [e]; exact h
        · exact h2 o e
      · refine Or.inr ⟨o, List.mem_cons_of_mem _ h1, h2, h3, fun q hq hp => ?_⟩
        rcases List.mem_cons.mp hq with e | e
        · rw [e] at hp; exact absurd hp h
        · exact h4 q e hp
theorem stk2_pw (s : Nat → Int) (j : Nat) : List.Pairwise (fun a b => b < a) (stk2 s j) := by
  unfold stk2
  split
  · exact List.Pairwise.tail (stk_pw s j)
  · exact stk_pw s j
theorem cat_iff {s : Nat → Int} {n j o : Nat} (hw : wfP s n) (hc : stk s n = []) (hj : j < n) : (o < n ∧ s o = 14 ∧ (o : Int) < j ∧ (j : Int) < midO s n o) ↔ (o ∈ stk2 s j ∧ s o = 14 ∧ midO s (j + 1) o = -1) := by
  constructor
  · rintro ⟨h1, h2, h3, h4⟩
    have h5 := blk_mid hw hc (Or.inr h2) h1 (by omega)
    refine ⟨?_, h2, midO_not hw (by omega) (Or.inl (by omega))⟩
    have h6 : o ∈ stk s j := (stk_open (Or.inr h2) (wfP_le hw (by omega)) (by omega)).mpr (endO_not hw (Or.inr h2) (by omega) (Or.inl (by omega)))
    unfold stk2
    split
    · rename_i h7
      obtain ⟨q, hq, -⟩ := (hw j hj).2.2.2.2 h7
      have hst := stk_head hq
      rw [hst] at h6 ⊢
      rw [List.tail_cons]
      rcases List.mem_cons.mp h6 with e | e
      · exfalso
        subst e
        have e1 : endO s (j + 1) o = j := by simp only [endO]; rw [if_pos ⟨h7, hq⟩]
        have := endO_mono (j := j + 1) (Or.inr h2) (by omega) (by omega) hw (by omega)
        omega
      · exact e
    · exact h6
  · rintro ⟨h1, h2, h3⟩
    have h4 := stk_mem (stk2_mem h1)
    have h5 := (blk_try hw hc h2 (by omega)).1
    refine ⟨by omega, h2, by omega, ?_⟩
    have h6 := midO_lt s n o
    by_cases h7 : (j : Int) < midO s n o
    · exact h7
    · exfalso
      have := midO_in hw (o := o) (m := (midO s n o).toNat) (by omega) (j := j + 1) (by omega) (by omega)
      omega
theorem cat_try {s : Nat → Int} {n j : Nat} (hw : wfP s n) (hc : stk s n = []) (hj : j < n) : trA s (midO s n) j n = ctO s j := by
  have hi := fun o => cat_iff (o := o) hw hc hj
  unfold ctO
  rcases trA_sp s (midO s n) j n with ⟨h1, h2⟩ | ⟨o, h1, h2, h3, h4⟩
  · rcases catF_sp s (midO s (j + 1)) (stk2 s j) (stk2_pw s j) with ⟨g1, g2⟩ | ⟨p, g1, g2, g3, g4⟩
    · rw [h1, g1]
    · exfalso
      have := (hi p).mpr ⟨g1, g3⟩
      exact h2 p this.1 this.2
  · rcases catF_sp s (midO s (j + 1)) (stk2 s j) (stk2_pw s j) with ⟨g1, g2⟩ | ⟨p, g1, g2, g3, g4⟩
    · exfalso
      have := (hi o).mp ⟨h1, h3⟩
      exact g2 o this.1 this.2
    · rw [h2, g2]
      have k1 := (hi o).mp ⟨h1, h3⟩
      have k2 := (hi p).mpr ⟨g1, g3⟩
      have := g4 o k1.1 k1.2
      have := h4 p k2.1 k2.2
      omega
/-! in which second blocks a place stands -/
theorem rev_split {l : List Nat} {k o : Nat} (h : l.reverse[k]? = some o) : ∃ l1 l2, l = l1 ++ o :: l2 ∧ l2.length = k := by
  have hk : k < l.reverse.length := (List.getElem?_eq_some_iff.mp h).1
  refine ⟨(l.reverse.drop (k + 1)).reverse, (l.reverse.take k).reverse, ?_, ?_⟩
  · have e : l.reverse = l.reverse.take k ++ o :: l.reverse.drop (k + 1) := by
      have h2 := (List.getElem?_eq_some_iff.mp h).2
      rw [← h2, List.getElem_cons_drop, List.take_append_drop]
    have e2 := congrArg List.reverse e
    rw [List.reverse_reverse, List.reverse_append, List.reverse_cons, List.append_assoc] at e2
    exact e2
  · rw [List.length_reverse, List.length_take]
    omega
theorem kp_iff {s : Nat → Int} {n j o k : Nat} (hw : wfP s n) (hc : stk s n = []) (hj : j < n) : (o < n ∧ s o = 14 ∧ arA s o = (k : Int) ∧ midO s n o ≤ j ∧ (j : Int) ≤ endO s n o) ↔ ((stk s j).reverse[k]? = some o ∧ s o = 14 ∧ midO s (j + 1) o ≠ -1) := by
  constructor
  · rintro ⟨h1, h2, h3, h4, h5⟩
    have h6 := (blk_try hw hc h2 h1).1
    have h7 := blk_mid hw hc (Or.inr h2) h1 h6
    have h8 : o ∈ stk s j := (stk_open (Or.inr h2) (wfP_le hw (by omega)) (by omega)).mpr (endO_not hw (Or.inr h2) (by omega) (Or.inl h5))
    have h9 := midO_lt s n o
    refine ⟨?_, h2, ?_⟩
    · obtain ⟨l1, l2, e⟩ := List.append_of_mem h8
      have e2 := (stk_suf s j l1 o l2 e).1
      have hk : l2.length = k := by
        unfold arA at h3
        rw [if_neg (by omega), ← e2] at h3
        omega
      rw [e, List.reverse_append, List.reverse_cons, List.append_assoc, List.getElem?_append_right (by rw [List.length_reverse]; omega), List.length_reverse, hk, Nat.sub_self]
      rfl
    · have := midO_in hw (o := o) (m := (midO s n o).toNat) (by omega) (j := j + 1) (by omega) (by omega)
      omega
  · rintro ⟨h1, h2, h3⟩
    obtain ⟨l1, l2, e, hl⟩ := rev_split h1
    obtain ⟨e2, h4, -⟩ := stk_suf s j l1 o l2 e
    have h5 : o ∈ stk s j := by rw [e]; simp
    have h6 := (stk_open (Or.inr h2) (wfP_le hw (by omega)) h4).mp h5
    have h7 := midO_mono h3 hw (show j + 1 ≤ n by omega)
    have h8 := midO_lt s (j + 1) o
    obtain ⟨g1, g2, g3, g4⟩ := blk_end hw hc (Or.inr h2) (show o < n by omega)
    refine ⟨by omega, h2, ?_, by omega, ?_⟩
    · unfold arA
      rw [if_neg (by omega), ← e2, hl]
    · by_cases h9 : (j : Int) ≤ endO s n o
      · exact h9
      · exfalso
        have e3 : endO s ((endO s n o).toNat + 1) o = endO s n o := by
          simp only [endO]
          rw [if_pos ⟨g3, g4⟩]
          omega
        have := endO_mono (j := (endO s n o).toNat + 1) (k := j) (Or.inr h2) (by omega) (by omega) (wfP_le hw (by omega)) (by omega)
        omega
theorem pow4_pos (k : Nat) : (0 : Int) < 4 ^ k := Int.pow_pos (by decide)
theorem dig_lo {x y : Int} {k : Nat} (hx : 0 ≤ x ∧ x < 4 ^ k) : (x + y * 4 ^ k) / 4 ^ k = y := by
  rw [Int.add_mul_ediv_right _ _ (by have := pow4_pos k; omega), Int.ediv_eq_zero_of_lt hx.1 hx.2]
  omega
theorem kpS_dig (s f : Nat → Int) (R : List Nat) : ∀ (K k : Nat), kpS s f R K / 4 ^ k % 4 = if k < K ∧ kpT s f R k ≠ 0 then 3 else 0
  | 0, k => by simp [kpS]
  | K + 1, k => by
    have ih := kpS_dig s f R K k
    have hR := kpS_R s f R K
    have hT := kpT_R s f R K
    simp only [kpS]
    by_cases h1 : k < K
    · have e : (4 : Int) ^ K = 4 ^ k * (4 * 4 ^ (K - k - 1)) := by
        rw [show (4 : Int) * 4 ^ (K - k - 1) = 4 ^ (K - k - 1 + 1) by rw [Int.pow_succ]; omega, ← Int.pow_add]
        congr 1
        omega
      have e3 : ∀ c : Int, (kpS s f R K + c * 4 ^ K) / 4 ^ k % 4 = kpS s f R K / 4 ^ k % 4 := by
        intro c
        rw [e, show c * (4 ^ k * (4 * 4 ^ (K - k - 1))) = 4 ^ k * (4 * (c * 4 ^ (K - k - 1))) by simp only [Int.mul_assoc, Int.mul_left_comm, Int.mul_comm], Int.add_mul_ediv_left _ _ (by have := pow4_pos k; omega)]
        omega
      have e4 : (kpS s f R K + kpT s f R K) / 4 ^ k % 4 = kpS s f R K / 4 ^ k % 4 := by
        rcases hT with h | h
        · rw [h, Int.add_zero]
        · rw [h]; exact e3 3
      rw [e4, ih]
      simp [h1, show k < K + 1 by omega]
    · by_cases h2 : k = K
      · subst h2
        rcases hT with h | h
        · rw [h, Int.add_zero, ih]
          simp
        · rw [h, dig_lo hR]
          have := pow4_pos k
          rw [if_pos ⟨Nat.lt_succ_self _, by omega⟩]
          rfl
      · rw [if_neg (fun z => by have := z.1; omega)]
        have hp : (4 : Int) ^ (K + 1) ≤ 4 ^ k := by
          have := Nat.pow_le_pow_right (n := 4) (by decide) (show K + 1 ≤ k by omega)
          exact_mod_cast this
        have := kpS_R s f R (K + 1)
        simp only [kpS] at this
        rw [Int.ediv_eq_zero_of_lt this.1 (by omega)]
        rfl
theorem kpO_dig {s : Nat → Int} {j k : Nat} : kpO s j / 4 ^ k % 4 = if (∃ o, (stk s j).reverse[k]? = some o ∧ s o = 14 ∧ midO s (j + 1) o ≠ -1) then 3 else 0 := by
  unfold kpO
  rw [kpS_dig]
  have hp := pow4_pos k
  by_cases h : ∃ o, (stk s j).reverse[k]? = some o ∧ s o = 14 ∧ midO s (j + 1) o ≠ -1
  · rw [if_pos h]
    obtain ⟨o, h1, h2⟩ := h
    rw [if_pos]
    refine ⟨by have := (List.getElem?_eq_some_iff.mp h1).1; rw [List.length_reverse] at this; exact this, ?_⟩
    unfold kpT
    rw [h1]
    show (if s o = 14 ∧ midO s (j + 1) o ≠ -1 then (3 : Int) * 4 ^ k else 0) ≠ 0
    rw [if_pos h2]
    omega
  · rw [if_neg h, if_neg]
    rintro ⟨h1, h2⟩
    unfold kpT at h2
    split at h2
    · rename_i o ho
      split at h2
      · rename_i h3
        exact h ⟨o, ho, h3⟩
      · exact h2 rfl
    · exact h2 rfl
