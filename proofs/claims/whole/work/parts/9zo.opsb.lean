/-! ===== names, and new THINGS ===== -/
section
variable {S S' : mm_S} {f : Fr} {t : List Fr}
theorem pl_lent : ∀ (l : List Fr) (h : Int), plM S l h → ∀ k, k < l.length → S 219 k = -1 ∨ (0 ≤ S 219 k ∧ S 219 k < S 181 41)
  | [], _, _ => fun k hk => absurd hk (Nat.not_lt_zero k)
  | g :: u, h, hp => fun k hk => by
    simp only [List.length_cons] at hk
    by_cases z : k = u.length
    · subst z
      by_cases hk1 : g.1.1 = 1
      · exact Or.inr (hp.1.2.1.2.2.2.1 hk1).1
      · exact Or.inl (hp.1.2.1.2.2.2.2 hk1)
    · exact pl_lent u _ hp.2 k (by omega)
theorem pl_vis : ∀ (l : List Fr) (h : Int), plM S l h → ∀ k, k < l.length → ∀ y, 0 ≤ y → vsM S k y → y < S 181 41
  | [], _, _ => fun k hk => absurd hk (Nat.not_lt_zero k)
  | g :: u, h, hp => fun k hk y hy q => by
    simp only [List.length_cons] at hk
    by_cases z : k = u.length
    · subst z
      have c := hp.1.2.1
      rcases q with ⟨v, q1, q2⟩ | q
      · have := (c.1 v q1).1; omega
      · by_cases hk1 : g.1.1 = 1
        · have := (c.2.2.2.1 hk1).1; omega
        · have := c.2.2.2.2 hk1; omega
    · exact pl_vis u _ hp.2 k (by omega) y hy q
/-- a VARIABLE of the top names nothing, or what another one names -/
theorem mo_nm {a : Nat} (ha : a < 5) {x tv : Int} (hv : hvM S t.length) (hp : plM S (f :: t) (-1)) (ht : thM S (t.length + 1)) (hx : (x = -1 ∧ tv = 0) ∨ ∃ b, b < 5 ∧ x = S 220 (5 * t.length + b) ∧ tv = f.2.2.1 b) (hnl : S 220 (5 * t.length + a) = -1 ∨ (∃ v, v < 5 ∧ S' 220 (5 * t.length + v) = S 220 (5 * t.length + a)) ∨ ¬ (S 216 (S 220 (5 * t.length + a)).toNat = (t.length : Int) ∧ ¬ mE S (S 214 (S 220 (5 * t.length + a)).toNat) (S 215 (S 220 (5 * t.length + a)).toNat))) (e : ∀ b, b ≠ 220 → S' b = S b) (e0 : ∀ i, i ≠ 5 * t.length + a → S' 220 i = S 220 i) (e0a : S' 220 (5 * t.length + a) = x) : plM S' ((f.1, f.2.1, nmR f.2.2 a tv) :: t) (-1) ∧ thM S' (t.length + 1) := by
  obtain ⟨⟨⟨g1, g2⟩, ⟨a1, a2, a3, a4, a5⟩, g3⟩, hpt⟩ := hp
  obtain ⟨h1, h2, h3, h4, h5, h6⟩ := id ht
  have e19 := e 219 (by omega)
  have e14 := e 214 (by omega)
  have e15 := e 215 (by omega)
  have e16 := e 216 (by omega)
  have e81 := e 181 (by omega)
  have key : ∀ v, v < 5 → (ud f.2.2.1 a tv v = 0 ∧ S' 220 (5 * t.length + v) = -1) ∨ ∃ w, w < 5 ∧ ud f.2.2.1 a tv v = f.2.2.1 w ∧ S' 220 (5 * t.length + v) = S 220 (5 * t.length + w) := fun v hv2 => by
    by_cases z : v = a
    · subst z
      rw [ud_same, e0a]
      rcases hx with ⟨y1, y2⟩ | ⟨b, y1, y2, y3⟩
      · exact Or.inl ⟨y2, y1⟩
      · exact Or.inr ⟨b, y1, y3, y2⟩
    · exact Or.inr ⟨v, hv2, ud_ne z, e0 _ (by omega)⟩
  have e0k : ∀ k v, k < t.length → v < 5 → S' 220 (5 * k + v) = S 220 (5 * k + v) := fun k v hk hv2 => e0 _ (by omega)
  refine ⟨⟨⟨⟨by rw [e 217 (by omega)]; exact g1, by rw [e 218 (by omega)]; exact g2⟩, ⟨fun v hv2 => ?_, fun v w hv2 hw2 => ?_, fun v hv2 h2v => ?_, fun hk => ?_, fun hk => by rw [e19]; exact a5 hk⟩, fun j hj => by rw [e 221 (by omega)]; exact g3 j hj⟩, ?_⟩, ?_⟩
  · show _ ∧ (ud f.2.2.1 a tv v = 0 ↔ _) ∧ (ud f.2.2.1 a tv v = 1 ↔ _)
    rw [e19, e81]
    rcases key v hv2 with ⟨k1, k2⟩ | ⟨w, k0, k1, k2⟩
    · rw [k1, k2]
      refine ⟨by omega, ⟨fun _ => rfl, fun _ => rfl⟩, ⟨fun z => by omega, fun z => by exfalso; exact z.1 z.2.symm⟩⟩
    · rw [k1, k2]
      exact a1 w k0
  · show ud f.2.2.1 a tv v = ud f.2.2.1 a tv w ↔ _
    rcases key v hv2 with ⟨k1, k2⟩ | ⟨v', k0, k1, k2⟩ <;> rcases key w hw2 with ⟨m1, m2⟩ | ⟨w', m0, m1, m2⟩
    · rw [k1, k2, m1, m2]; exact ⟨fun _ => rfl, fun _ => rfl⟩
    · rw [k1, k2, m1, m2]
      have := (a1 w' m0).2.1
      exact ⟨fun z => (this.mp z.symm).symm, fun z => (this.mpr z.symm).symm⟩
    · rw [k1, k2, m1, m2]
      exact (a1 v' k0).2.1
    · rw [k1, k2, m1, m2]
      exact a2 v' w' k0 m0
  · have h2v : 2 ≤ ud f.2.2.1 a tv v := h2v
    show f.2.2.2.1 (ud f.2.2.1 a tv v - 2).toNat / 7 = _ ∧ (_ → f.2.2.2.1 (ud f.2.2.1 a tv v - 2).toNat = _)
    rcases key v hv2 with ⟨k1, k2⟩ | ⟨w, k0, k1, k2⟩
    · omega
    · rw [k1] at h2v ⊢
      rw [k2]
      unfold cdT
      rw [e14, e15, e16]
      exact a3 w k0 h2v
  · have hk : f.1.1 = 1 := hk
    rw [e19, e81, e14, e15]
    exact a4 hk
  · exact pl_of (n := t.length) (by rw [e81]; exact Int.le_refl _) (e 192 (by omega)) (fun k _ => by rw [e 217 (by omega)]) (fun k _ => by rw [e 218 (by omega)]) (fun k _ => by rw [e19]) e0k (fun k j _ _ => by rw [e 221 (by omega)]) hv (fun k hk y hy0 hy1 hy2 => ⟨by rw [e14], fun hne => ⟨by rw [e15], by rw [e16]⟩⟩) t (Nat.le_refl _) hpt
  · have eh : ∀ k, k < t.length → hoM S' k = hoM S k := fun k hk => ho_of (e 192 (by omega)) (by rw [e 217 (by omega)]) (by rw [e 218 (by omega)]) (fun v hv2 => e0k k v hk hv2) (hv k hk)
    have vs : ∀ k y, k < t.length + 1 → 0 ≤ y → vsM S' k y → vsM S k y := fun k y hk hy q => by
      rcases q with ⟨v, q1, q2⟩ | q
      · by_cases z : k = t.length
        · subst z
          rcases key v q1 with ⟨k1, k2⟩ | ⟨w, k0, k1, k2⟩
          · omega
          · exact Or.inl ⟨w, k0, by rw [← k2]; exact q2⟩
        · exact Or.inl ⟨v, q1, by rw [← e0k k v (by omega) q1]; exact q2⟩
      · exact Or.inr (by rw [← e19]; exact q)
    refine ⟨by rw [e81]; exact h1, fun y hy => ?_, fun y k hy hk q => ?_, fun k hk q => ?_, fun j k hjk hk y hy q1 q2 => ?_, fun k hk => ?_⟩
    · rw [e81] at hy ⊢
      rw [e16, e14, e15, e 182 (by omega)]
      exact h2 y hy
    · rw [e81] at hy
      rw [e16] at q
      rw [e14, e15]
      have hmE : mE S' (S 214 y) (S 215 y) ↔ mE S (S 214 y) (S 215 y) := by unfold mE; rw [e 183 (by omega)]
      rw [hmE]
      rcases h3 y k hy hk q with ⟨v, w1, w2⟩ | w
      · by_cases z : k = t.length
        · subst z
          by_cases z2 : v = a
          · subst z2
            rcases hnl with m | m | m
            · omega
            · obtain ⟨v', m1, m2⟩ := m
              exact Or.inl ⟨v', m1, by rw [m2]; exact w2⟩
            · right
              rw [w2, Int.toNat_natCast] at m
              exact Classical.byContradiction (fun n => m ⟨q, n⟩)
          · exact Or.inl ⟨v, w1, by rw [e0 _ (by omega)]; exact w2⟩
        · exact Or.inl ⟨v, w1, by rw [e0k k v (by omega) w1]; exact w2⟩
      · exact Or.inr w
    · rw [e19] at q ⊢
      rw [e16]
      obtain ⟨j, w1, w2, v, w3, w4⟩ := h4 k hk q
      exact ⟨j, w1, w2, v, w3, by rw [e0k j v (by omega) w3]; exact w4⟩
    · rw [eh j (by omega)]
      exact h5 j k hjk hk y hy (vs j y (by omega) hy q1) (vs k y hk hy q2)
    · rw [eh k (by omega), e19, e16]
      exact h6 k hk
/-- a VARIABLE of the top names a new THING -/
theorem mo_mk {a : Nat} (ha : a < 5) {b : Int} (hb : 0 ≤ b ∧ b < S 181 0) (hb2 : 0 < S 182 b.toNat) (hv : hvM S t.length) (hp : plM S (f :: t) (-1)) (ht : thM S (t.length + 1)) (h41 : S 181 41 < 500) (hR6 : ∀ v, v < 5 → f.2.2.1 v ≤ 6) (hnl : S 220 (5 * t.length + a) = -1 ∨ (∃ v, v < 5 ∧ S' 220 (5 * t.length + v) = S 220 (5 * t.length + a)) ∨ ¬ (S 216 (S 220 (5 * t.length + a)).toNat = (t.length : Int) ∧ ¬ mE S (S 214 (S 220 (5 * t.length + a)).toNat) (S 215 (S 220 (5 * t.length + a)).toNat))) (e : ∀ b, b ≠ 220 → b ≠ 214 → b ≠ 215 → b ≠ 216 → b ≠ 181 → S' b = S b) (ec : ∀ j, j ≠ 41 → S' 181 j = S 181 j) (ec41 : S' 181 41 = S 181 41 + 1) (e4 : ∀ i, i ≠ (S 181 41).toNat → S' 214 i = S 214 i) (e5 : ∀ i, i ≠ (S 181 41).toNat → S' 215 i = S 215 i) (e6 : ∀ i, i ≠ (S 181 41).toNat → S' 216 i = S 216 i) (e4t : S' 214 (S 181 41).toNat = b) (e5t : S' 215 (S 181 41).toNat = 0) (e6t : S' 216 (S 181 41).toNat = (t.length : Int)) (e0 : ∀ i, i ≠ 5 * t.length + a → S' 220 i = S 220 i) (e0a : S' 220 (5 * t.length + a) = S 181 41) : plM S' ((f.1, f.2.1, mkR f.2.2 a b) :: t) (-1) ∧ thM S' (t.length + 1) := by
  obtain ⟨⟨⟨g1, g2⟩, ⟨a1, a2, a3, a4, a5⟩, g3⟩, hpt⟩ := hp
  obtain ⟨h1, h2, h3, h4, h5, h6⟩ := id ht
  obtain ⟨T, hT⟩ : ∃ T : Nat, S 181 41 = T := ⟨(S 181 41).toNat, by omega⟩
  rw [hT, Int.toNat_natCast] at e4 e5 e6 e4t e5t e6t
  rw [hT] at ec41 e0a h41
  have e19 := e 219 (by omega) (by omega) (by omega) (by omega) (by omega)
  have hfree : ∃ u, (2 : Int) ≤ u ∧ u < 2 + (5 : Nat) ∧ ∀ v : Nat, v < 5 → ud f.2.2.1 a 0 v ≠ u := by
    apply Classical.byContradiction
    intro hno
    have hall : ∀ u : Int, 2 ≤ u → u < 7 → ∃ v : Nat, v < 5 ∧ ud f.2.2.1 a 0 v = u := fun u x y => Classical.byContradiction (fun n => hno ⟨u, x, y, fun v hv2 q => n ⟨v, hv2, q⟩⟩)
    have := inj_le 5 4 (fun i => if h : i < 5 then (let v := Classical.choose (hall ((i : Int) + 2) (by omega) (by omega)); if v < a then v else v - 1) else 0) (fun i hi => by
      simp only [hi, dif_pos]
      have u := Classical.choose_spec (hall ((i : Int) + 2) (by omega) (by omega))
      have hne : Classical.choose (hall ((i : Int) + 2) (by omega) (by omega)) ≠ a := fun z => by
        have u2 := u.2
        rw [z, ud_same] at u2
        omega
      split <;> omega) (fun i j hi hj q => by
      simp only [hi, hj, dif_pos] at q
      have u := Classical.choose_spec (hall ((i : Int) + 2) (by omega) (by omega))
      have w := Classical.choose_spec (hall ((j : Int) + 2) (by omega) (by omega))
      have hnu : Classical.choose (hall ((i : Int) + 2) (by omega) (by omega)) ≠ a := fun z => by
        have u2 := u.2
        rw [z, ud_same] at u2
        omega
      have hnw : Classical.choose (hall ((j : Int) + 2) (by omega) (by omega)) ≠ a := fun z => by
        have u2 := w.2
        rw [z, ud_same] at u2
        omega
      have hvw : Classical.choose (hall ((i : Int) + 2) (by omega) (by omega)) = Classical.choose (hall ((j : Int) + 2) (by omega) (by omega)) := by
        split at q <;> split at q <;> omega
      have e1 := u.2
      rw [hvw, w.2] at e1
      omega)
    omega
  have hfr := frF_free (ud f.2.2.1 a 0) 5 2 hfree
  obtain ⟨s, hs⟩ : ∃ s, frF (ud f.2.2.1 a 0) 5 2 = s := ⟨_, rfl⟩
  rw [hs] at hfr
  have eR : mkR f.2.2 a b = (ud f.2.2.1 a s, ud f.2.2.2.1 (s - 2).toNat (7 * b), f.2.2.2.2.1, f.2.2.2.2.2) := by unfold mkR; rw [hs]
  have hvs : ∀ v, v < 5 → v ≠ a → f.2.2.1 v ≠ s := fun v hv2 z => by have := hfr.1 v hv2; rw [ud_ne z] at this; exact this
  have e0k : ∀ k v, k < t.length → v < 5 → S' 220 (5 * k + v) = S 220 (5 * k + v) := fun k v hk hv2 => e0 _ (by omega)
  rw [eR]
  refine ⟨⟨⟨⟨by rw [e 217 (by omega) (by omega) (by omega) (by omega) (by omega)]; exact g1, by rw [e 218 (by omega) (by omega) (by omega) (by omega) (by omega)]; exact g2⟩, ⟨fun v hv2 => ?_, fun v w hv2 hw2 => ?_, fun v hv2 h2v => ?_, fun hk => ?_, fun hk => by rw [e19]; exact a5 hk⟩, fun j hj => by rw [e 221 (by omega) (by omega) (by omega) (by omega) (by omega)]; exact g3 j hj⟩, ?_⟩, ?_⟩
  · show _ ∧ (ud f.2.2.1 a s v = 0 ↔ _) ∧ (ud f.2.2.1 a s v = 1 ↔ _)
    rw [e19, ec41]
    by_cases z : v = a
    · subst z
      rw [ud_same, e0a]
      refine ⟨by omega, ⟨fun q => by omega, fun q => by omega⟩, ⟨fun q => by omega, fun q => ?_⟩⟩
      exfalso
      by_cases hk : f.1.1 = 1
      · have := (a4 hk).1; omega
      · exact q.1 (a5 hk)
    · rw [ud_ne z, e0 _ (by omega)]
      have := a1 v hv2
      exact ⟨by omega, this.2.1, this.2.2⟩
  · show ud f.2.2.1 a s v = ud f.2.2.1 a s w ↔ _
    by_cases z1 : v = a <;> by_cases z2 : w = a
    · rw [z1, z2]; exact ⟨fun _ => rfl, fun _ => rfl⟩
    · rw [z1, ud_same, ud_ne z2, e0a, e0 _ (by omega)]
      have := (a1 w hw2).1
      exact ⟨fun q => absurd q.symm (hvs w hw2 z2), fun q => by omega⟩
    · rw [z2, ud_same, ud_ne z1, e0a, e0 _ (by omega)]
      have := (a1 v hv2).1
      exact ⟨fun q => absurd q (hvs v hv2 z1), fun q => by omega⟩
    · rw [ud_ne z1, ud_ne z2, e0 _ (by omega), e0 _ (by omega)]
      exact a2 v w hv2 hw2
  · have h2v : 2 ≤ ud f.2.2.1 a s v := h2v
    show ud f.2.2.2.1 (s - 2).toNat (7 * b) (ud f.2.2.1 a s v - 2).toNat / 7 = _ ∧ (_ → ud f.2.2.2.1 (s - 2).toNat (7 * b) (ud f.2.2.1 a s v - 2).toNat = _)
    by_cases z : v = a
    · subst z
      rw [ud_same, ud_same, e0a, Int.toNat_natCast, e4t]
      refine ⟨by omega, fun _ => ?_⟩
      unfold cdT
      rw [Int.toNat_natCast, e4t, e5t, e6t, if_pos rfl]
      omega
    · rw [ud_ne z] at h2v ⊢
      rw [ud_ne (by have := hvs v hv2 z; omega), e0 _ (by omega)]
      have c := (a1 v hv2).1
      have hne : S 220 (5 * t.length + v) ≠ -1 := fun y => by have := (a1 v hv2).2.1.mpr y; omega
      unfold cdT
      rw [e4 _ (by omega), e5 _ (by omega), e6 _ (by omega)]
      exact a3 v hv2 h2v
  · have hk : f.1.1 = 1 := hk
    have q := a4 hk
    rw [e19, ec41, e4 _ (by omega), e5 _ (by omega)]
    exact ⟨by omega, q.2.1, q.2.2⟩
  · exact pl_of (n := t.length) (by omega) (e 192 (by omega) (by omega) (by omega) (by omega) (by omega)) (fun k _ => by rw [e 217 (by omega) (by omega) (by omega) (by omega) (by omega)]) (fun k _ => by rw [e 218 (by omega) (by omega) (by omega) (by omega) (by omega)]) (fun k _ => by rw [e19]) e0k (fun k j _ _ => by rw [e 221 (by omega) (by omega) (by omega) (by omega) (by omega)]) hv (fun k hk y hy0 hy1 hy2 => ⟨e4 _ (by omega), fun hne => ⟨e5 _ (by omega), by rw [e6 _ (by omega)]⟩⟩) t (Nat.le_refl _) hpt
  · have eh : ∀ k, k < t.length → hoM S' k = hoM S k := fun k hk => ho_of (e 192 (by omega) (by omega) (by omega) (by omega) (by omega)) (by rw [e 217 (by omega) (by omega) (by omega) (by omega) (by omega)]) (by rw [e 218 (by omega) (by omega) (by omega) (by omega) (by omega)]) (fun v hv2 => e0k k v hk hv2) (hv k hk)
    have vs : ∀ (k : Nat) (y : Int), k < t.length + 1 → y < T → vsM S' k y → vsM S k y := fun k y hk hy q => by
      rcases q with ⟨v, q1, q2⟩ | q
      · by_cases z : 5 * k + v = 5 * t.length + a
        · rw [z, e0a] at q2; omega
        · exact Or.inl ⟨v, q1, by rw [← e0 _ z]; exact q2⟩
      · exact Or.inr (by rw [← e19]; exact q)
    have bn : ∀ (k : Nat) (y : Int), k < t.length → 0 ≤ y → vsM S' k y → vsM S k y := fun k y hk hy q => by
      rcases q with ⟨v, q1, q2⟩ | q
      · exact Or.inl ⟨v, q1, by rw [← e0k k v hk q1]; exact q2⟩
      · exact Or.inr (by rw [← e19]; exact q)
    have lt : ∀ (k : Nat) (y : Int), k < t.length → 0 ≤ y → vsM S k y → y < T := fun k y hk hy q => by have := pl_vis t _ hpt k hk y hy q; omega
    refine ⟨by rw [ec41]; omega, fun y hy => ?_, fun y k hy hk q => ?_, fun k hk q => ?_, fun j k hjk hk y hy q1 q2 => ?_, fun k hk => ?_⟩
    · rw [ec41] at hy
      rw [ec 0 (by omega), e 182 (by omega) (by omega) (by omega) (by omega) (by omega)]
      by_cases z : y = T
      · rw [z, e4t, e5t, e6t]
        exact ⟨by omega, hb, by omega⟩
      · rw [e4 y z, e5 y z, e6 y z]
        exact h2 y (by omega)
    · rw [ec41] at hy
      have hmE : ∀ p q, mE S' p q ↔ mE S p q := fun p q => by unfold mE; rw [e 183 (by omega) (by omega) (by omega) (by omega) (by omega)]
      rw [hmE]
      by_cases z : y = T
      · rw [z, e6t] at q
        left
        exact ⟨a, ha, by rw [show k = t.length by omega, e0a, z]⟩
      · rw [e6 y z] at q
        rw [e4 y z, e5 y z]
        rcases h3 y k (by omega) hk q with ⟨v, w1, w2⟩ | w
        · by_cases z3 : k = t.length
          · subst z3
            by_cases z2 : v = a
            · subst z2
              rcases hnl with m | m | m
              · omega
              · obtain ⟨v', m1, m2⟩ := m
                exact Or.inl ⟨v', m1, by rw [m2]; exact w2⟩
              · right
                rw [w2, Int.toNat_natCast] at m
                exact Classical.byContradiction (fun n => m ⟨q, n⟩)
            · exact Or.inl ⟨v, w1, by rw [e0 _ (by omega)]; exact w2⟩
          · exact Or.inl ⟨v, w1, by rw [e0k k v (by omega) w1]; exact w2⟩
        · exact Or.inr w
    · rw [e19] at q ⊢
      obtain ⟨j, w1, w2, v, w3, w4⟩ := h4 k hk q
      have c : (S 219 k).toNat ≠ T := fun z => by
        have : S 219 k < T := by
          by_cases hkt : k = t.length
          · subst hkt
            by_cases hk1 : f.1.1 = 1
            · have := (a4 hk1).1; omega
            · exact absurd (a5 hk1) q
          · have := pl_lent t _ hpt k (by omega)
            omega
        have := pl_lent t _ hpt k
        by_cases hkt : k = t.length
        · subst hkt
          by_cases hk1 : f.1.1 = 1
          · have := (a4 hk1).1; omega
          · exact absurd (a5 hk1) q
        · have := pl_lent t _ hpt k (by omega)
          omega
      exact ⟨j, w1, by rw [e6 _ c]; exact w2, v, w3, by rw [e0k j v (by omega) w3]; exact w4⟩
    · rw [eh j (by omega)]
      have q1' := bn j y (by omega) hy q1
      have hyT := lt j y (by omega) hy q1'
      exact h5 j k hjk hk y hy q1' (vs k y hk hyT q2)
    · rw [eh k (by omega), e19]
      have w := h6 k hk
      have hoT : hoM S k < T := lt k (hoM S k) (by omega) w.2.2 (Or.inl ⟨_, by have := hv k (by omega); omega, rfl⟩)
      rw [e6 _ (by have := w.2.2; omega)]
      exact w
end
