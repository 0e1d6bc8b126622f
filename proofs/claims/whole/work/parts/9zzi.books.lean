/-! ===== both books, as they stay alike ===== -/
def TZ (S : mm_S) : Prop := (∀ k : Nat, k < 6 → ∀ i, 48 ≤ i → S (4 + 3 * k + 1) i = 0 ∧ S (4 + 3 * k + 2) i = 0) ∧ ∀ k : Nat, (k : Int) < S 181 0 → ∀ i, i < 48 → S 184 (48 * k + i) = -1 → S 185 (48 * k + i) = -1
def RZ (S : mm_S) : Prop := rtA S ∧ ∀ r : Nat, r < 6 → S 1 1 ≤ r → S (22 + 10 * r) 0 = 0
def BKm (S : mm_S) : Prop := mdV S ∧ mdP S ∧ mdQ S ∧ mkA S ∧ mdO S
def BK (S : mm_S) : Prop := BKm S ∧ brE S ∧ TZ S ∧ RZ S ∧ S 0 6 = S 181 5
theorem bk_V {S : mm_S} (h : BK S) : bkV S ∧ kwA S := by
  obtain ⟨⟨hv, hp, hq, hA, hO⟩, ⟨b0, b1, bk, br⟩, tz, ⟨rt, rz⟩, hp6⟩ := h
  obtain ⟨v0, v1, v2, v3, v4⟩ := hv
  refine ⟨⟨by omega, by omega, fun k hk => ?_, fun r hr => ?_⟩, fun k hk => ?_⟩
  · have hk6 : k < 6 := by omega
    obtain ⟨e0, e1, e2⟩ := bk k hk
    obtain ⟨w0, w1, w2, w3⟩ := v2 k hk6
    refine ⟨by omega, by omega, fun i => ?_, fun i => ?_⟩
    · by_cases hi : i < 48
      · rw [(e2 i hi).1]
        exact ⟨(v3 _).1, (v3 _).2.1⟩
      · rw [(tz.1 k hk6 i (by omega)).1]
        omega
    · by_cases hi : i < 48
      · rw [(e2 i hi).2]
        exact (v3 _).2.2
      · rw [(tz.1 k hk6 i (by omega)).2]
        omega
  · obtain ⟨t0, t1, t2, t3, t4⟩ := rt r hr
    have h6 := stk_len t1
    have e := t2.1.1
    exact ⟨t0.1, t0.2, by omega, by omega⟩
  · have hk6 : k < 6 := by omega
    obtain ⟨e0, e1, e2⟩ := bk k hk
    obtain ⟨w, wp⟩ := hA k (by omega)
    refine ⟨fun i => ?_, by omega⟩
    by_cases hi : i < 48
    · rw [(e2 i hi).1, (e2 i hi).2, e0]
      exact w i hi
    · rw [(tz.1 k hk6 i (by omega)).1, (tz.1 k hk6 i (by omega)).2]
      omega
theorem rtI_of {S S' : mm_S} {a : Nat} (e : ∀ b, a ≤ b → b ≤ a + 9 → S' b = S b) (h : rtI S a) : rtI S' a := by
  unfold rtI lkI lkB at *
  rw [e a (by omega) (by omega), e (a + 1) (by omega) (by omega), e (a + 2) (by omega) (by omega), e (a + 3) (by omega) (by omega), e (a + 4) (by omega) (by omega), e (a + 5) (by omega) (by omega), e (a + 6) (by omega) (by omega), e (a + 7) (by omega) (by omega), e (a + 8) (by omega) (by omega), e (a + 9) (by omega) (by omega)]
  exact h
theorem BKm_of {S S' : mm_S} (h : BKm S) (e : ∀ b, 182 ≤ b → b < 193 → S' b = S b) (e0 : S' 181 0 = S 181 0) (e9 : S' 181 9 = S 181 9) : BKm S' := by
  obtain ⟨hv, hp, hq, hA, hO⟩ := h
  have e2 := e 182 (by omega) (by omega)
  have e3 := e 183 (by omega) (by omega)
  have e4 := e 184 (by omega) (by omega)
  have e5 := e 185 (by omega) (by omega)
  have e89 := e 189 (by omega) (by omega)
  have e90 := e 190 (by omega) (by omega)
  have e91 := e 191 (by omega) (by omega)
  have e92 := e 192 (by omega) (by omega)
  refine ⟨?_, ?_, ?_, ?_, ?_⟩
  · unfold mdV at *
    rw [e0, e9, e2, e3, e4, e5, e89]
    exact hv
  · unfold mdP at *
    rw [e9, e89, e90]
    exact hp
  · unfold mdQ at *
    rw [e90, e91, e92]
    exact hq
  · unfold mkA mkW at *
    rw [e0, e2, e4, e5]
    exact hA
  · intro r hr i hi
    have := hO r (by rw [← e9]; exact hr) i (by unfold mN at *; rw [← e89]; exact hi)
    unfold mokB mK mSo at *
    rw [e0, e90, e91, e92]
    exact this
/-- nothing of both books has changed -/
theorem BK_of {S S' : mm_S} (h : BK S) (e1 : ∀ b, 1 ≤ b → b < 82 → S' b = S b) (e : ∀ b, 182 ≤ b → b < 193 → S' b = S b) (e0 : S' 181 0 = S 181 0) (e9 : S' 181 9 = S 181 9) (e6 : S' 0 6 = S' 181 5) : BK S' := by
  obtain ⟨hm, ⟨b0, b1, bk, br⟩, tz, ⟨rt, rz⟩, hp6⟩ := h
  have hv := hm.1
  have q1 := e1 1 (by omega) (by omega)
  refine ⟨BKm_of hm e e0 e9, ⟨by rw [q1, e0]; exact b0, by rw [q1, e9]; exact b1, fun k hk => ?_, fun r hr => ?_⟩, ⟨fun k hk i hi => ?_, fun k hk i hi hz => ?_⟩, ⟨fun r hr => rtI_of (fun b h1 h2 => e1 b (by omega) (by omega)) (rt r hr), fun r hr h1 => ?_⟩, e6⟩
  · rw [q1] at hk
    have hk6 : k < 6 := by have := hv.1; omega
    rw [e1 (4 + 3 * k) (by omega) (by omega), e1 (4 + 3 * k + 1) (by omega) (by omega), e1 (4 + 3 * k + 2) (by omega) (by omega), e 182 (by omega) (by omega), e 183 (by omega) (by omega), e 184 (by omega) (by omega), e 185 (by omega) (by omega)]
    exact bk k hk
  · rw [q1] at hr
    have hk6 : r < 6 := by have := hv.2.1; omega
    rw [e1 (22 + 10 * r) (by omega) (by omega), e1 (22 + 10 * r + 1) (by omega) (by omega), e1 (22 + 10 * r + 2) (by omega) (by omega), e1 (22 + 10 * r + 3) (by omega) (by omega), e 189 (by omega) (by omega), e 190 (by omega) (by omega), e 191 (by omega) (by omega), e 192 (by omega) (by omega)]
    exact br r hr
  · rw [e1 (4 + 3 * k + 1) (by omega) (by omega), e1 (4 + 3 * k + 2) (by omega) (by omega)]
    exact tz.1 k hk i hi
  · rw [e 184 (by omega) (by omega)] at hz
    rw [e 185 (by omega) (by omega)]
    exact tz.2 k (by rw [← e0]; exact hk) i hi hz
  · rw [q1] at h1
    rw [e1 (22 + 10 * r) (by omega) (by omega)]
    exact rz r hr h1
/-- a KIND more -/
theorem BK_add {S S' : mm_S} {n : Nat} {st en : Int} {f g : Nat → Int} (h : BK S) (hn : S 181 0 = n) (hn6 : n < 6) (hst : 1 ≤ st ∧ st ≤ 6) (hen : 0 ≤ en ∧ en < 64) (hf : ∀ i, i < 48 → (-1 ≤ f i ∧ f i < st) ∧ (-1 ≤ g i ∧ g i < st) ∧ (f i = -1 → g i = -1))
    (r1 : ∀ b, 1 < b → b < 82 → b ≠ 4 + 3 * n → b ≠ 4 + 3 * n + 1 → b ≠ 4 + 3 * n + 2 → S' b = S b) (r10 : S' 1 0 = n + 1) (r11 : S' 1 1 = S 1 1) (rs : S' (4 + 3 * n) 0 = st) (re : S' (4 + 3 * n) 1 = en) (rf : ∀ i, i < 48 → S' (4 + 3 * n + 1) i = f i ∧ S' (4 + 3 * n + 2) i = g i) (rz0 : ∀ i, 48 ≤ i → S' (4 + 3 * n + 1) i = S (4 + 3 * n + 1) i ∧ S' (4 + 3 * n + 2) i = S (4 + 3 * n + 2) i)
    (m1 : ∀ b, 186 ≤ b → b < 193 → S' b = S b) (m0 : S' 181 0 = n + 1) (m9 : S' 181 9 = S 181 9) (m5 : S' 0 6 = S' 181 5) (ms : ∀ j, S' 182 j = if j = n then st else S 182 j) (me : ∀ j, S' 183 j = if j = n then en else S 183 j) (mf : ∀ i, i < 48 → S' 184 (48 * n + i) = f i ∧ S' 185 (48 * n + i) = g i) (mz : ∀ j, j < 48 * n ∨ 48 * n + 48 ≤ j → S' 184 j = S 184 j ∧ S' 185 j = S 185 j) : BK S' := by
  obtain ⟨⟨hv, hp, hq, hA, hO⟩, ⟨b0, b1, bk, br⟩, tz, ⟨rt, rz⟩, hp6⟩ := h
  obtain ⟨v0, v1, v2, v3, v4⟩ := hv
  have e89 := m1 189 (by omega) (by omega)
  have e90 := m1 190 (by omega) (by omega)
  have e91 := m1 191 (by omega) (by omega)
  have e92 := m1 192 (by omega) (by omega)
  refine ⟨⟨⟨by omega, by omega, fun k hk => ?_, fun i => ?_, ?_⟩, ?_, ?_, fun k hk => ?_, fun r hr i hi => ?_⟩, ⟨by rw [r10, m0], by rw [r11, m9]; exact b1, fun k hk => ?_, fun r hr => ?_⟩, ⟨fun k hk i hi => ?_, fun k hk i hi hz => ?_⟩, ⟨fun r hr => rtI_of (fun b h1 h2 => r1 b (by omega) (by omega) (by omega) (by omega) (by omega)) (rt r hr), fun r hr h1 => ?_⟩, m5⟩
  · rw [ms, me]
    have := v2 k hk
    split <;> omega
  · by_cases hi : i < 48 * n ∨ 48 * n + 48 ≤ i
    · rw [(mz i hi).1, (mz i hi).2]
      exact v3 i
    · have e : i = 48 * n + (i - 48 * n) := by omega
      have h1 := mf (i - 48 * n) (by omega)
      have h2 := hf (i - 48 * n) (by omega)
      rw [← e] at h1
      omega
  · rw [e89]
    exact v4
  · unfold mdP at *
    rw [m9, e89, e90]
    exact hp
  · unfold mdQ at *
    rw [e90, e91, e92]
    exact hq
  · by_cases hkn : k = n
    · subst hkn
      refine ⟨fun i hi => ?_, ?_⟩
      · rw [(mf i hi).1, (mf i hi).2, ms, if_pos rfl]
        have := hf i hi
        omega
      · rw [ms, if_pos rfl]
        omega
    · have hk2 : (k : Int) < S 181 0 := by omega
      obtain ⟨w, wp⟩ := hA k hk2
      refine ⟨fun i hi => ?_, ?_⟩
      · rw [(mz (48 * k + i) (by omega)).1, (mz (48 * k + i) (by omega)).2, ms, if_neg hkn]
        exact w i hi
      · rw [ms, if_neg hkn]
        exact wp
  · have hh := hO r (by rw [← m9]; exact hr) i (by unfold mN at *; rw [← e89]; exact hi)
    unfold mSo at *
    rw [e90, e91, e92]
    refine ⟨hh.1, ?_⟩
    rcases hh.2 with a | ⟨a1, a2⟩ | a | a
    · exact Or.inl a
    · exact Or.inr (Or.inl ⟨a1, by unfold mK at *; omega⟩)
    · exact Or.inr (Or.inr (Or.inl a))
    · exact Or.inr (Or.inr (Or.inr a))
  · by_cases hkn : k = n
    · subst hkn
      rw [rs, re, ms, me, if_pos rfl, if_pos rfl]
      refine ⟨rfl, rfl, fun i hi => ?_⟩
      rw [(rf i hi).1, (rf i hi).2, (mf i hi).1, (mf i hi).2]
      exact ⟨rfl, rfl⟩
    · have hk2 : (k : Int) < S 1 0 := by omega
      rw [r1 (4 + 3 * k) (by omega) (by omega) (by omega) (by omega) (by omega), r1 (4 + 3 * k + 1) (by omega) (by omega) (by omega) (by omega) (by omega), r1 (4 + 3 * k + 2) (by omega) (by omega) (by omega) (by omega) (by omega), ms, me, if_neg hkn, if_neg hkn]
      obtain ⟨a1, a2, a3⟩ := bk k hk2
      refine ⟨a1, a2, fun i hi => ?_⟩
      rw [(mz (48 * k + i) (by omega)).1, (mz (48 * k + i) (by omega)).2]
      exact a3 i hi
  · rw [r11] at hr
    have hk6 : r < 6 := by omega
    rw [r1 (22 + 10 * r) (by omega) (by omega) (by omega) (by omega) (by omega), r1 (22 + 10 * r + 1) (by omega) (by omega) (by omega) (by omega) (by omega), r1 (22 + 10 * r + 2) (by omega) (by omega) (by omega) (by omega) (by omega), r1 (22 + 10 * r + 3) (by omega) (by omega) (by omega) (by omega) (by omega), e89, e90, e91, e92]
    exact br r hr
  · by_cases hkn : k = n
    · subst hkn
      rw [(rz0 i hi).1, (rz0 i hi).2]
      exact tz.1 k hk i hi
    · rw [r1 (4 + 3 * k + 1) (by omega) (by omega) (by omega) (by omega) (by omega), r1 (4 + 3 * k + 2) (by omega) (by omega) (by omega) (by omega) (by omega)]
      exact tz.1 k hk i hi
  · by_cases hkn : k = n
    · subst hkn
      rw [(mf i hi).1] at hz
      rw [(mf i hi).2]
      exact (hf i hi).2.2 hz
    · rw [(mz (48 * k + i) (by omega)).1] at hz
      rw [(mz (48 * k + i) (by omega)).2]
      exact tz.2 k (by omega) i hi hz
  · rw [r11] at h1
    rw [r1 (22 + 10 * r) (by omega) (by omega) (by omega) (by omega) (by omega)]
    exact rz r hr h1
/-- one entry of a KIND, or which STATES are ENDS -/
theorem BK_ent {S S' : mm_S} {k : Nat} {x : Nat} {y z en : Int} (h : BK S) (hk : (k : Int) < S 181 0) (hx : x < 48) (hy : -1 ≤ y ∧ y < S 182 k) (hz : -1 ≤ z ∧ z < S 182 k) (hyz : y = -1 → z = -1) (hen : 0 ≤ en ∧ en < 64)
    (r1 : ∀ b, 1 ≤ b → b < 82 → b ≠ 4 + 3 * k → b ≠ 4 + 3 * k + 1 → b ≠ 4 + 3 * k + 2 → S' b = S b) (rs : S' (4 + 3 * k) 0 = S (4 + 3 * k) 0) (re : S' (4 + 3 * k) 1 = en) (rf : ∀ i, S' (4 + 3 * k + 1) i = (if i = x then y else S (4 + 3 * k + 1) i) ∧ S' (4 + 3 * k + 2) i = (if i = x then z else S (4 + 3 * k + 2) i))
    (m1 : ∀ b, 186 ≤ b → b < 193 → S' b = S b) (m0 : S' 181 0 = S 181 0) (m9 : S' 181 9 = S 181 9) (m5 : S' 0 6 = S' 181 5) (ms : S' 182 = S 182) (me : ∀ j, S' 183 j = if j = k then en else S 183 j) (mf : ∀ j, S' 184 j = (if j = 48 * k + x then y else S 184 j) ∧ S' 185 j = (if j = 48 * k + x then z else S 185 j)) : BK S' := by
  obtain ⟨⟨hv, hp, hq, hA, hO⟩, ⟨b0, b1, bk, br⟩, tz, ⟨rt, rz⟩, hp6⟩ := h
  obtain ⟨v0, v1, v2, v3, v4⟩ := hv
  have hk6 : k < 6 := by omega
  have e89 := m1 189 (by omega) (by omega)
  have e90 := m1 190 (by omega) (by omega)
  have e91 := m1 191 (by omega) (by omega)
  have e92 := m1 192 (by omega) (by omega)
  have q1 : S' 1 = S 1 := r1 1 (by omega) (by omega) (by omega) (by omega) (by omega)
  have hs6 := v2 k hk6
  refine ⟨⟨⟨by omega, by omega, fun j hj => ?_, fun i => ?_, ?_⟩, ?_, ?_, fun j hj => ?_, fun r hr i hi => ?_⟩, ⟨by rw [q1, m0]; exact b0, by rw [q1, m9]; exact b1, fun j hj => ?_, fun r hr => ?_⟩, ⟨fun j hj i hi => ?_, fun j hj i hi hw => ?_⟩, ⟨fun r hr => rtI_of (fun b h1 h2 => r1 b (by omega) (by omega) (by omega) (by omega) (by omega)) (rt r hr), fun r hr h1 => ?_⟩, m5⟩
  · rw [ms, me]
    have := v2 j hj
    split <;> omega
  · rw [(mf i).1, (mf i).2]
    have := v3 i
    split <;> omega
  · rw [e89]
    exact v4
  · unfold mdP at *
    rw [m9, e89, e90]
    exact hp
  · unfold mdQ at *
    rw [e90, e91, e92]
    exact hq
  · obtain ⟨w, wp⟩ := hA j (by omega)
    refine ⟨fun i hi => ?_, by rw [ms]; exact wp⟩
    rw [(mf _).1, (mf _).2, ms]
    have := w i hi
    by_cases hj2 : 48 * j + i = 48 * k + x
    · have e : j = k := by omega
      subst e
      rw [if_pos hj2, if_pos hj2]
      omega
    · rw [if_neg hj2, if_neg hj2]
      exact this
  · have hh := hO r (by rw [← m9]; exact hr) i (by unfold mN at *; rw [← e89]; exact hi)
    unfold mSo mokB mK at *
    rw [e90, e91, e92, m0]
    exact hh
  · rw [q1] at hj
    obtain ⟨a1, a2, a3⟩ := bk j hj
    by_cases hjk : j = k
    · subst hjk
      rw [rs, re, ms, me, if_pos rfl]
      refine ⟨a1, rfl, fun i hi => ?_⟩
      rw [(rf i).1, (rf i).2, (mf _).1, (mf _).2]
      by_cases hix : i = x
      · subst hix
        simp only [if_true]
        exact ⟨trivial, trivial⟩
      · rw [if_neg hix, if_neg hix, if_neg (by omega), if_neg (by omega)]
        exact a3 i hi
    · rw [r1 (4 + 3 * j) (by omega) (by omega) (by omega) (by omega) (by omega), r1 (4 + 3 * j + 1) (by omega) (by omega) (by omega) (by omega) (by omega), r1 (4 + 3 * j + 2) (by omega) (by omega) (by omega) (by omega) (by omega), ms, me, if_neg hjk]
      refine ⟨a1, a2, fun i hi => ?_⟩
      rw [(mf _).1, (mf _).2, if_neg (by omega), if_neg (by omega)]
      exact a3 i hi
  · rw [q1] at hr
    have hk6 : r < 6 := by omega
    rw [r1 (22 + 10 * r) (by omega) (by omega) (by omega) (by omega) (by omega), r1 (22 + 10 * r + 1) (by omega) (by omega) (by omega) (by omega) (by omega), r1 (22 + 10 * r + 2) (by omega) (by omega) (by omega) (by omega) (by omega), r1 (22 + 10 * r + 3) (by omega) (by omega) (by omega) (by omega) (by omega), e89, e90, e91, e92]
    exact br r hr
  · by_cases hjk : j = k
    · subst hjk
      rw [(rf i).1, (rf i).2, if_neg (by omega), if_neg (by omega)]
      exact tz.1 j hj i hi
    · rw [r1 (4 + 3 * j + 1) (by omega) (by omega) (by omega) (by omega) (by omega), r1 (4 + 3 * j + 2) (by omega) (by omega) (by omega) (by omega) (by omega)]
      exact tz.1 j hj i hi
  · rw [(mf _).1] at hw
    rw [(mf _).2]
    by_cases hj2 : 48 * j + i = 48 * k + x
    · rw [if_pos hj2] at hw
      rw [if_pos hj2]
      exact hyz hw
    · rw [if_neg hj2] at hw
      rw [if_neg hj2]
      exact tz.2 j (by omega) i hi hw
  · rw [q1] at h1
    rw [r1 (22 + 10 * r) (by omega) (by omega) (by omega) (by omega) (by omega)]
    exact rz r hr h1
