/-- a ROUTINE more -/
theorem BK_new {S S' : mm_S} {n : Nat} (h : BK S) (hn : S 181 9 = n) (hn6 : n < 6) (r1 : ∀ b, 1 < b → b < 82 → S' b = S b) (r10 : S' 1 0 = S 1 0) (r11 : S' 1 1 = n + 1) (m1 : ∀ b, 182 ≤ b → b < 193 → b ≠ 189 → S' b = S b) (m89 : ∀ j, S' 189 j = if j = n then 0 else S 189 j) (m0 : S' 181 0 = S 181 0) (m9 : S' 181 9 = n + 1) (m5 : S' 0 6 = S' 181 5) : BK S' := by
  obtain ⟨⟨hv, hp, hq, hA, hO⟩, ⟨b0, b1, bk, br⟩, tz, ⟨rt, rz⟩, hp6⟩ := h
  obtain ⟨v0, v1, v2, v3, v4⟩ := hv
  have e2 := m1 182 (by omega) (by omega) (by omega)
  have e3 := m1 183 (by omega) (by omega) (by omega)
  have e4 := m1 184 (by omega) (by omega) (by omega)
  have e5 := m1 185 (by omega) (by omega) (by omega)
  have e90 := m1 190 (by omega) (by omega) (by omega)
  have e91 := m1 191 (by omega) (by omega) (by omega)
  have e92 := m1 192 (by omega) (by omega) (by omega)
  refine ⟨⟨⟨by omega, by omega, by rw [e2, e3]; exact v2, by rw [e4, e5]; exact v3, fun r hr => ?_⟩, fun r hr => ?_, ?_, ?_, fun r hr i hi => ?_⟩, ⟨by rw [r10, m0]; exact b0, by rw [r11, m9], fun k hk => ?_, fun r hr => ?_⟩, ⟨fun k hk i hi => ?_, ?_⟩, ⟨fun r hr => rtI_of (fun b h1 h2 => r1 b (by omega) (by omega)) (rt r hr), fun r hr h1 => ?_⟩, m5⟩
  · rw [m89]
    have := v4 r hr
    split <;> omega
  · rw [e90, m89]
    by_cases hrn : r = n
    · rw [if_pos hrn]
      intro i hi
      exact absurd hi (Nat.not_lt_zero _)
    · rw [if_neg hrn]
      exact hp r (by omega)
  · unfold mdQ at *
    rw [e90, e91, e92]
    exact hq
  · unfold mkA mkW at *
    rw [m0, e2, e4, e5]
    exact hA
  · by_cases hrn : r = n
    · unfold mN at hi
      rw [m89, if_pos hrn] at hi
      exact absurd hi (Nat.not_lt_zero _)
    · have hh := hO r (by omega) i (by unfold mN at *; rw [m89, if_neg hrn] at hi; exact hi)
      unfold mSo mokB mK at *
      rw [e90, e91, e92, m0]
      exact hh
  · rw [r10] at hk
    have hk6 : k < 6 := by omega
    rw [r1 (4 + 3 * k) (by omega) (by omega), r1 (4 + 3 * k + 1) (by omega) (by omega), r1 (4 + 3 * k + 2) (by omega) (by omega), e2, e3, e4, e5]
    exact bk k hk
  · rw [r1 (22 + 10 * r) (by omega) (by omega), r1 (22 + 10 * r + 1) (by omega) (by omega), r1 (22 + 10 * r + 2) (by omega) (by omega), r1 (22 + 10 * r + 3) (by omega) (by omega), m89, e90, e91, e92]
    by_cases hrn : r = n
    · rw [if_pos hrn]
      exact ⟨rz r (by omega) (by omega), fun i hi => by omega⟩
    · rw [if_neg hrn]
      exact br r (by omega)
  · rw [r1 (4 + 3 * k + 1) (by omega) (by omega), r1 (4 + 3 * k + 2) (by omega) (by omega)]
    exact tz.1 k hk i hi
  · rw [m0, e4, e5]
    exact tz.2
  · rw [r1 (22 + 10 * r) (by omega) (by omega)]
    exact rz r hr (by omega)
/-- a ROUTINE changes -/
theorem BK_ro {S S' : mm_S} {r : Nat} {n : Int} (h : BK S) (hr : (r : Int) < S 181 9)
    (r1 : ∀ b, 1 ≤ b → b < 82 → b < 22 + 10 * r ∨ 22 + 10 * r + 9 < b → S' b = S b) (hR : rtI S' (22 + 10 * r)) (hn : S' (22 + 10 * r) 0 = n)
    (m1 : ∀ b, 182 ≤ b → b < 189 → S' b = S b) (m0 : S' 181 0 = S 181 0) (m9 : S' 181 9 = S 181 9) (m5 : S' 0 6 = S' 181 5) (m89 : ∀ j, S' 189 j = if j = r then n else S 189 j) (mo : ∀ j, j < 25 * r ∨ 25 * r + 25 ≤ j → S' 190 j = S 190 j ∧ S' 191 j = S 191 j ∧ S' 192 j = S 192 j) (hq' : mdQ S')
    (hl : ∀ i : Nat, (i : Int) < n → S' (22 + 10 * r + 1) i = S' 190 (25 * r + i) ∧ S' (22 + 10 * r + 2) i = S' 191 (25 * r + i) ∧ S' (22 + 10 * r + 3) i = S' 192 (25 * r + i))
    (ho : ∀ i : Nat, (i : Int) < n → okA (S' 190 (25 * r + i)) (S' 191 (25 * r + i)) ∧ mokB S (S' 190 (25 * r + i)) (S' 192 (25 * r + i))) : BK S' := by
  obtain ⟨⟨hv, hp, hq, hA, hO⟩, ⟨b0, b1, bk, br⟩, tz, ⟨rt, rz⟩, hp6⟩ := h
  obtain ⟨v0, v1, v2, v3, v4⟩ := hv
  have hr6 : r < 6 := by omega
  have e2 := m1 182 (by omega) (by omega)
  have e3 := m1 183 (by omega) (by omega)
  have e4 := m1 184 (by omega) (by omega)
  have e5 := m1 185 (by omega) (by omega)
  have q1 : S' 1 = S 1 := r1 1 (by omega) (by omega) (by omega)
  have hn24 : 0 ≤ n ∧ n ≤ 24 := by rw [← hn]; exact hR.1
  have hso : ∀ s : Nat, s ≠ r → (s : Int) < S 181 9 → ∀ i : Nat, i < 25 → S' 190 (25 * s + i) = S 190 (25 * s + i) ∧ S' 191 (25 * s + i) = S 191 (25 * s + i) ∧ S' 192 (25 * s + i) = S 192 (25 * s + i) := fun s hs _ i hi => mo _ (by omega)
  refine ⟨⟨⟨by omega, by omega, by rw [e2, e3]; exact v2, by rw [e4, e5]; exact v3, fun s hs => ?_⟩, fun s hs => ?_, hq', ?_, fun s hs i hi => ?_⟩, ⟨by rw [q1, m0]; exact b0, by rw [q1, m9]; exact b1, fun k hk => ?_, fun s hs => ?_⟩, ⟨fun k hk i hi => ?_, ?_⟩, ⟨fun s hs => ?_, fun s hs h1 => ?_⟩, m5⟩
  · rw [m89]
    have := v4 s hs
    split <;> omega
  · rw [m89]
    by_cases hsr : s = r
    · rw [if_pos hsr, hsr]
      have w := hR.2.1
      rw [hn] at w
      exact wfP_congr (fun i hi => (hl i (by omega)).1) w
    · rw [if_neg hsr]
      have hs2 : (s : Int) < S 181 9 := by omega
      have h4 := v4 s (by omega)
      exact wfP_congr (fun i hi => ((hso s hsr hs2 i (by omega)).1).symm) (hp s hs2)
  · unfold mkA mkW at *
    rw [m0, e2, e4, e5]
    exact hA
  · unfold mN at hi
    rw [m89] at hi
    have em : mokB S' (S' 190 (25 * s + i)) (S' 192 (25 * s + i)) = mokB S (S' 190 (25 * s + i)) (S' 192 (25 * s + i)) := by
      unfold mokB mK
      rw [m0]
    unfold mSo
    rw [em]
    by_cases hsr : s = r
    · subst hsr
      rw [if_pos rfl] at hi
      exact ho i (by omega)
    · rw [if_neg hsr] at hi
      have hs2 : (s : Int) < S 181 9 := by omega
      have h4 := v4 s (by omega)
      obtain ⟨a1, a2, a3⟩ := hso s hsr hs2 i (by omega)
      rw [a1, a2, a3]
      exact hO s hs2 i hi
  · rw [q1] at hk
    have hk6 : k < 6 := by omega
    rw [r1 (4 + 3 * k) (by omega) (by omega) (by omega), r1 (4 + 3 * k + 1) (by omega) (by omega) (by omega), r1 (4 + 3 * k + 2) (by omega) (by omega) (by omega), e2, e3, e4, e5]
    exact bk k hk
  · rw [q1] at hs
    by_cases hsr : s = r
    · subst hsr
      rw [hn, m89, if_pos rfl]
      exact ⟨rfl, hl⟩
    · have hs2 : (s : Int) < S 181 9 := by omega
      have h4 := v4 s (by omega)
      rw [r1 (22 + 10 * s) (by omega) (by omega) (by omega), r1 (22 + 10 * s + 1) (by omega) (by omega) (by omega), r1 (22 + 10 * s + 2) (by omega) (by omega) (by omega), r1 (22 + 10 * s + 3) (by omega) (by omega) (by omega), m89, if_neg hsr]
      obtain ⟨a1, a2⟩ := br s hs
      refine ⟨a1, fun i hi => ?_⟩
      obtain ⟨c1, c2, c3⟩ := hso s hsr hs2 i (by omega)
      rw [c1, c2, c3]
      exact a2 i hi
  · rw [r1 (4 + 3 * k + 1) (by omega) (by omega) (by omega), r1 (4 + 3 * k + 2) (by omega) (by omega) (by omega)]
    exact tz.1 k hk i hi
  · rw [m0, e4, e5]
    exact tz.2
  · by_cases hsr : s = r
    · rw [hsr]
      exact hR
    · exact rtI_of (fun b h1 h2 => r1 b (by omega) (by omega) (by omega)) (rt s hs)
  · rw [q1] at h1
    have hsr : s ≠ r := by omega
    rw [r1 (22 + 10 * s) (by omega) (by omega) (by omega)]
    exact rz s hs h1
/-! ===== the answers of both, of the book alone ===== -/
/-- what a call leaves of the judges and the runs, where it speaks of the books -/
def okF2 (S S' : mm_S) : Prop := (∀ b, 85 ≤ b → b < 181 ∨ 198 ≤ b → S' b = S b) ∧ (∀ j, 20 ≤ j → S' 181 j = S 181 j) ∧ S' 0 5 = S 0 5
theorem okF2_rf (S : mm_S) : okF2 S S := ⟨fun _ _ _ => rfl, fun _ _ => rfl, rfl⟩
theorem okF2_tr {S S1 S2 : mm_S} (h : okF2 S S1) (h2 : okF2 S1 S2) : okF2 S S2 := ⟨fun b a c => (h2.1 b a c).trans (h.1 b a c), fun j a => (h2.2.1 j a).trans (h.2.1 j a), h2.2.2.trans h.2.2⟩
/-- the same where only the reference's scratch rows change -/
theorem BK_wk {S S' : mm_S} (h : BK S) (e : wkA S S') : BK S' := BK_of h (fun b h1 h2 => e.1 b (by omega) (by omega) (by omega) (by omega) (by omega) (by omega)) (fun b h1 h2 => e.1 b (by omega) (by omega) (by omega) (by omega) (by omega) (by omega)) (e.2 0 (by omega)) (e.2 9 (by omega)) (by rw [e.1 0 (by omega) (by omega) (by omega) (by omega) (by omega) (by omega), e.2 5 (by omega)]; exact h.2.2.2.2)
theorem okF2_wk {S S' : mm_S} (e : wkA S S') : okF2 S S' := ⟨fun b h1 h2 => e.1 b (by omega) (by omega) (by omega) (by omega) (by omega) (by omega), fun j h => e.2 j (by omega), by rw [e.1 0 (by omega) (by omega) (by omega) (by omega) (by omega) (by omega)]⟩
