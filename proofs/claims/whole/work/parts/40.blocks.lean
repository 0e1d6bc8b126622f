/-! ===== Blocks: pure. s: the sorts; which blocks are open ahead of each STATEMENT, innermost first ===== -/
abbrev opn (x : Int) : Prop := 2 ≤ x ∧ x ≤ 5 ∨ x = 14
def stk (s : Nat → Int) : Nat → List Nat
  | 0 => []
  | i + 1 => if opn (s i) then i :: stk s i else if s i = 7 then (stk s i).tail else stk s i
/-- the ELSE or LAST of a block among the first n; -1: none -/
def midO (s : Nat → Int) : Nat → Nat → Int
  | 0, _ => -1
  | n + 1, o => if (s n = 6 ∨ s n = 15) ∧ (stk s n).head? = some o then (n : Int) else midO s n o
def endO (s : Nat → Int) : Nat → Nat → Int
  | 0, _ => -1
  | n + 1, o => if s n = 7 ∧ (stk s n).head? = some o then (n : Int) else endO s n o
theorem stk_suf (s : Nat → Int) : ∀ (i : Nat) (l1 : List Nat) (o : Nat) (l2 : List Nat), stk s i = l1 ++ o :: l2 → l2 = stk s o ∧ o < i ∧ opn (s o)
  | 0, l1, o, l2, h => by simp [stk] at h
  | i + 1, l1, o, l2, h => by
    simp only [stk] at h
    by_cases h1 : opn (s i)
    · rw [if_pos h1] at h
      cases l1 with
      | nil =>
        simp at h
        obtain ⟨rfl, h⟩ := h
        exact ⟨h.symm, Nat.lt_succ_self _, h1⟩
      | cons c l1 =>
        simp at h
        obtain ⟨g1, g2, g3⟩ := stk_suf s i l1 o l2 h.2
        exact ⟨g1, by omega, g3⟩
    · rw [if_neg h1] at h
      by_cases h2 : s i = 7
      · rw [if_pos h2] at h
        cases hs : stk s i with
        | nil => rw [hs] at h; simp at h
        | cons c l =>
          rw [hs] at h
          simp at h
          obtain ⟨g1, g2, g3⟩ := stk_suf s i (c :: l1) o l2 (by rw [hs, h]; rfl)
          exact ⟨g1, by omega, g3⟩
      · rw [if_neg h2] at h
        obtain ⟨g1, g2, g3⟩ := stk_suf s i l1 o l2 h
        exact ⟨g1, by omega, g3⟩
theorem stk_top {s : Nat → Int} {i o : Nat} {l : List Nat} (h : stk s i = o :: l) : l = stk s o ∧ o < i ∧ opn (s o) := stk_suf s i [] o l h
theorem stk_mem {s : Nat → Int} {i o : Nat} (h : o ∈ stk s i) : o < i ∧ opn (s o) := by
  obtain ⟨l1, l2, e⟩ := List.append_of_mem h
  exact (stk_suf s i l1 o l2 e).2
theorem stk_head {s : Nat → Int} {i o : Nat} (h : (stk s i).head? = some o) : stk s i = o :: stk s o := by
  cases hs : stk s i with
  | nil => rw [hs] at h; simp at h
  | cons c l =>
    rw [hs] at h
    simp at h
    subst h
    rw [(stk_top hs).1]
theorem stk_nil_head {s : Nat → Int} {i : Nat} : (stk s i).head? = none ↔ stk s i = [] := by
  cases stk s i <;> simp
theorem stk_op {s : Nat → Int} {i : Nat} (h : opn (s i)) : stk s (i + 1) = i :: stk s i := by simp only [stk]; rw [if_pos h]
theorem stk_end {s : Nat → Int} {i : Nat} (h : s i = 7) : stk s (i + 1) = (stk s i).tail := by
  simp only [stk]
  rw [if_neg (by omega), if_pos h]
theorem stk_no {s : Nat → Int} {i : Nat} (h1 : ¬ opn (s i)) (h2 : ¬ s i = 7) : stk s (i + 1) = stk s i := by
  simp only [stk]
  rw [if_neg h1, if_neg h2]
theorem midO_lt (s : Nat → Int) : ∀ (n o : Nat), midO s n o < n ∧ -1 ≤ midO s n o
  | 0, o => by simp [midO]
  | n + 1, o => by
    have := midO_lt s n o
    simp only [midO]
    split <;> omega
theorem endO_lt (s : Nat → Int) : ∀ (n o : Nat), endO s n o < n ∧ -1 ≤ endO s n o
  | 0, o => by simp [endO]
  | n + 1, o => by
    have := endO_lt s n o
    simp only [endO]
    split <;> omega
/-- a mid that is told stands there -/
theorem midO_at (s : Nat → Int) : ∀ (n o : Nat) (m : Nat), midO s n o = (m : Int) → m < n ∧ (s m = 6 ∨ s m = 15) ∧ (stk s m).head? = some o
  | 0, o, m, h => by simp only [midO] at h; omega
  | n + 1, o, m, h => by
    simp only [midO] at h
    split at h
    · rename_i hc
      have : n = m := by omega
      subst this
      exact ⟨Nat.lt_succ_self _, hc.1, hc.2⟩
    · obtain ⟨g1, g2⟩ := midO_at s n o m h
      exact ⟨by omega, g2⟩
theorem endO_at (s : Nat → Int) : ∀ (n o : Nat) (m : Nat), endO s n o = (m : Int) → m < n ∧ s m = 7 ∧ (stk s m).head? = some o
  | 0, o, m, h => by simp only [endO] at h; omega
  | n + 1, o, m, h => by
    simp only [endO] at h
    split at h
    · rename_i hc
      have : n = m := by omega
      subst this
      exact ⟨Nat.lt_succ_self _, hc.1, hc.2⟩
    · obtain ⟨g1, g2⟩ := endO_at s n o m h
      exact ⟨by omega, g2⟩
/-- nothing of a block ahead of it -/
theorem midO_before (s : Nat → Int) : ∀ (n o : Nat), n ≤ o + 1 → midO s n o = -1
  | 0, o, _ => rfl
  | n + 1, o, h => by
    simp only [midO]
    rw [if_neg, midO_before s n o (by omega)]
    rintro ⟨-, h2⟩
    have h3 := stk_head h2
    have := (stk_top h3).2.1
    omega
theorem endO_before (s : Nat → Int) : ∀ (n o : Nat), n ≤ o + 1 → endO s n o = -1
  | 0, o, _ => rfl
  | n + 1, o, h => by
    simp only [endO]
    rw [if_neg, endO_before s n o (by omega)]
    rintro ⟨-, h2⟩
    have h3 := stk_head h2
    have := (stk_top h3).2.1
    omega
/-- which STATEMENT may come next, behind n -/
def mayT (s : Nat → Int) (n : Nat) (x : Int) : Prop :=
  (opn x → (stk s n).length < 6) ∧ (x = 6 → ∃ o, (stk s n).head? = some o ∧ midO s n o = -1 ∧ (s o = 2 ∨ s o = 3)) ∧ (x = 15 → ∃ o, (stk s n).head? = some o ∧ midO s n o = -1 ∧ s o = 14) ∧ (x = 7 → ∃ o, (stk s n).head? = some o ∧ (midO s n o ≠ -1 ∨ s o ≠ 14))
/-- all STATEMENTS might come where they came -/
def wfP (s : Nat → Int) (n : Nat) : Prop := ∀ i, i < n → (0 ≤ s i ∧ s i ≤ 15) ∧ mayT s i (s i)
theorem wfP_le {s : Nat → Int} {n m : Nat} (h : wfP s n) (hm : m ≤ n) : wfP s m := fun i hi => h i (by omega)
theorem stk_len {s : Nat → Int} : ∀ {n : Nat}, wfP s n → (stk s n).length ≤ 6
  | 0, _ => by simp [stk]
  | n + 1, h => by
    have ih := stk_len (wfP_le h (Nat.le_succ n))
    have hn := (h n (Nat.lt_succ_self n)).2.1
    simp only [stk]
    split
    · rename_i ho
      have := hn ho
      simp
      omega
    · split
      · simp
        omega
      · exact ih
/-- they depend on what is ahead alone -/
theorem stk_congr {s t : Nat → Int} : ∀ {n : Nat}, (∀ i, i < n → s i = t i) → stk s n = stk t n
  | 0, _ => rfl
  | n + 1, h => by
    have ih := stk_congr (n := n) (fun i hi => h i (by omega))
    simp only [stk, ih, h n (Nat.lt_succ_self n)]
theorem midO_congr {s t : Nat → Int} {o : Nat} : ∀ {n : Nat}, (∀ i, i < n → s i = t i) → midO s n o = midO t n o
  | 0, _ => rfl
  | n + 1, h => by
    have ih := midO_congr (n := n) (o := o) (fun i hi => h i (by omega))
    simp only [midO, ih, stk_congr (n := n) (fun i hi => h i (by omega)), h n (Nat.lt_succ_self n)]
theorem endO_congr {s t : Nat → Int} {o : Nat} : ∀ {n : Nat}, (∀ i, i < n → s i = t i) → endO s n o = endO t n o
  | 0, _ => rfl
  | n + 1, h => by
    have ih := endO_congr (n := n) (o := o) (fun i hi => h i (by omega))
    simp only [endO, ih, stk_congr (n := n) (fun i hi => h i (by omega)), h n (Nat.lt_succ_self n)]
theorem mayT_congr {s t : Nat → Int} {n : Nat} {x : Int} (h : ∀ i, i < n → s i = t i) : mayT s n x ↔ mayT t n x := by
  have e := stk_congr h
  have key : ∀ o, (stk t n).head? = some o → s o = t o := fun o ho => h o (stk_top (stk_head ho)).2.1
  unfold mayT
  rw [e]
  have em : ∀ o, midO s n o = midO t n o := fun o => midO_congr h
  simp only [em]
  constructor
  · rintro ⟨a, b, c, d⟩
    exact ⟨a, fun z => by obtain ⟨o, h1, h2, h3⟩ := b z; exact ⟨o, h1, h2, by rw [← key o h1]; exact h3⟩, fun z => by obtain ⟨o, h1, h2, h3⟩ := c z; exact ⟨o, h1, h2, by rw [← key o h1]; exact h3⟩, fun z => by obtain ⟨o, h1, h2⟩ := d z; exact ⟨o, h1, by rw [← key o h1]; exact h2⟩⟩
  · rintro ⟨a, b, c, d⟩
    exact ⟨a, fun z => by obtain ⟨o, h1, h2, h3⟩ := b z; exact ⟨o, h1, h2, by rw [key o h1]; exact h3⟩, fun z => by obtain ⟨o, h1, h2, h3⟩ := c z; exact ⟨o, h1, h2, by rw [key o h1]; exact h3⟩, fun z => by obtain ⟨o, h1, h2⟩ := d z; exact ⟨o, h1, by rw [key o h1]; exact h2⟩⟩
theorem wfP_congr {s t : Nat → Int} {n : Nat} (h : ∀ i, i < n → s i = t i) (hw : wfP s n) : wfP t n := fun i hi => by
  have := hw i hi
  rw [← h i hi]
  exact ⟨this.1, (mayT_congr (fun j hj => h j (by omega))).mp this.2⟩
theorem wfP_snoc {s : Nat → Int} {n : Nat} (hw : wfP s n) (h1 : 0 ≤ s n ∧ s n ≤ 15) (h2 : mayT s n (s n)) : wfP s (n + 1) := fun i hi => by
  by_cases h : i = n
  · subst h; exact ⟨h1, h2⟩
  · exact hw i (by omega)
