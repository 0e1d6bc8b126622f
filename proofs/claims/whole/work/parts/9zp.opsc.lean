/-! ===== calls, and the way back ===== -/
section
variable {S S' : mm_S} {f g : Fr} {t u : List Fr}
/-- what the top makes of a THING that it may use -/
theorem top_cd {a : Nat} (ha : a < 5) (hp : plM S (f :: t) (-1)) (hlc : ∀ v, v < 5 → f.2.2.1 v = 1 → f.1.1 = 1) (hR1 : ∀ v, v < 5 → 0 ≤ f.2.2.1 v) {x : Nat} (hx : S 220 (5 * t.length + a) = (x : Int)) (hown : (x : Int) = S 219 t.length ∨ S 216 x = (t.length : Int)) : cdR f.1.2.2.1 f.2.2 (f.2.2.1 a) = 7 * S 214 x + S 215 x := by
  obtain ⟨a1, a2, a3, a4, a5⟩ := hp.1.2.1
  have hn0 : f.2.2.1 a ≠ 0 := fun z => by have := (a1 a ha).2.1.mp z; omega
  unfold cdR
  by_cases z : f.2.2.1 a = 1
  · rw [if_pos z]
    have q := (a1 a ha).2.2.mp z
    obtain ⟨b1, b2, b3⟩ := a4 (hlc a ha z)
    rw [← q.2, hx, Int.toNat_natCast] at b2
    have b3 := b3 q.1
    rw [← q.2, hx, Int.toNat_natCast] at b3
    rw [b2, b3]
  · rw [if_neg z]
    have g := hR1 a ha
    have := (a3 a ha (by omega)).2 (by omega)
    rw [hx] at this
    rw [this]
    unfold cdT
    rw [Int.toNat_natCast, if_pos]
    rcases hown with y | y
    · exfalso
      exact z ((a1 a ha).2.2.mpr ⟨by omega, by rw [hx]; exact y⟩)
    · exact y
/-- a ROUTINE is called with a THING -/
theorem mo_push (hm : mdV S) (hv : hvM S t.length) (hv0 : 0 ≤ mBb S f.1.2.1 f.2.1 ∧ mBb S f.1.2.1 f.2.1 < 5) (hp : plM S (f :: t) (-1)) (ht : thM S (t.length + 1)) (hlc : ∀ v, v < 5 → f.2.2.1 v = 1 → f.1.1 = 1) (hR1 : ∀ v, v < 5 → 0 ≤ f.2.2.1 v) {x : Nat} (hx : S 220 (5 * t.length + (mBb S f.1.2.1 f.2.1).toNat) = (x : Int)) (hown : (x : Int) = S 219 t.length ∨ S 216 x = (t.length : Int)) (hg : mSo S f.1.2.1 f.2.1 = 11 → (x : Int) ≠ S 219 t.length)
    (e : ∀ b, b ≠ 181 → b < 216 ∨ 221 < b → S' b = S b) (ec : ∀ j, j ≠ 45 → j ≠ 55 → S' 181 j = S 181 j) (e7 : ∀ i, i ≠ t.length + 1 → S' 217 i = S 217 i) (e7t : S' 217 (t.length + 1) = ((clK S f.1 f.2.1 f.2.2).2.1 : Int)) (e8 : ∀ i, i ≠ t.length + 1 → S' 218 i = S 218 i) (e8t : S' 218 (t.length + 1) = 0) (e9 : ∀ i, i ≠ t.length + 1 → S' 219 i = S 219 i) (e9t : S' 219 (t.length + 1) = if mSo S f.1.2.1 f.2.1 = 11 then -1 else (x : Int)) (e0 : ∀ i, i < 5 * (t.length + 1) → S' 220 i = S 220 i) (e0t : ∀ v, v < 5 → S' 220 (5 * (t.length + 1) + v) = if v = 0 then (x : Int) else -1) (e1 : ∀ i, i < 6 * (t.length + 1) → S' 221 i = S 221 i) (e1t : ∀ j, j < 6 → S' 221 (6 * (t.length + 1) + j) = 0) (e6 : ∀ i, i ≠ x → S' 216 i = S 216 i) (e6x : S' 216 x = if mSo S f.1.2.1 f.2.1 = 11 then ((t.length : Int) + 1) else S 216 x) :
    plM S' ((clK S f.1 f.2.1 f.2.2, 0, bgR (clK S f.1 f.2.1 f.2.2)) :: f :: t) (-1) ∧ thM S' (t.length + 1 + 1) := by
  have hcd := top_cd (a := (mBb S f.1.2.1 f.2.1).toNat) (by omega) hp hlc hR1 hx hown
  obtain ⟨⟨⟨g1, g2⟩, ⟨a1, a2, a3, a4, a5⟩, g3⟩, hpt⟩ := id hp
  obtain ⟨h1, h2, h3, h4, h5, h6⟩ := id ht
  have hxb := (a1 _ (show (mBb S f.1.2.1 f.2.1).toNat < 5 by omega)).1
  rw [hx] at hxb
  have hx2 := h2 x (by omega)
  have hk6 := hm.1
  have hs6 := (hm.2.2.1 (S 214 x).toNat (by omega)).2.1
  have hvis : vsM S t.length (x : Int) := Or.inl ⟨(mBb S f.1.2.1 f.2.1).toNat, by omega, hx⟩
  have e41 : S' 181 41 = S 181 41 := ec 41 (by omega) (by omega)
  have e14 : S' 214 = S 214 := e 214 (by omega) (by omega)
  have e15 : S' 215 = S 215 := e 215 (by omega) (by omega)
  have e92 : S' 192 = S 192 := e 192 (by omega) (by omega)
  have hho : hoM S t.length = (x : Int) := by
    unfold hoM
    rw [g1, g2, Int.toNat_natCast, Int.toNat_natCast]
    exact hx
  have hhv : 0 ≤ mBb S (S 217 t.length).toNat (S 218 t.length).toNat ∧ mBb S (S 217 t.length).toNat (S 218 t.length).toNat < 5 := by rw [g1, g2, Int.toNat_natCast, Int.toNat_natCast]; exact hv0
  have hv' : hvM S (t.length + 1) := fun k hk => by
    by_cases z : k = t.length
    · subst z; exact hhv
    · exact hv k (by omega)
  have e0k : ∀ k v, k < t.length + 1 → v < 5 → S' 220 (5 * k + v) = S 220 (5 * k + v) := fun k v hk hv2 => e0 _ (by omega)
  have eh : ∀ k, k < t.length + 1 → hoM S' k = hoM S k := fun k hk => ho_of e92 (e7 k (by omega)) (e8 k (by omega)) (fun v hv2 => e0k k v hk hv2) (hv' k hk)
  have kk1 : (clK S f.1 f.2.1 f.2.2).1 = (if mSo S f.1.2.1 f.2.1 = 11 then 2 else 1) := rfl
  have kk2 : (clK S f.1 f.2.1 f.2.2).2.2.1 = S 214 x := by
    show cdR f.1.2.2.1 f.2.2 (f.2.2.1 (mBb S f.1.2.1 f.2.1).toNat) / 7 = _
    rw [hcd]; omega
  have kk3 : (clK S f.1 f.2.1 f.2.2).2.2.2 = S 215 x := by
    show cdR f.1.2.2.1 f.2.2 (f.2.2.1 (mBb S f.1.2.1 f.2.1).toNat) % 7 = _
    rw [hcd]; omega
  generalize clK S f.1 f.2.1 f.2.2 = κ at *
  have b1 : ∀ v, v < 5 → (bgR κ).1 v = if v = 0 then κ.1 else 0 := fun v hv2 => by
    show nrm 5 (ud (fun _ => 0) 0 κ.1) v = _
    rw [nrm_in hv2]
    by_cases z : v = 0
    · rw [z, ud_same, if_pos rfl]
    · rw [ud_ne z, if_neg z]
  have b2 : (bgR κ).2.1 0 = if κ.1 = 2 then 7 * κ.2.2.1 + κ.2.2.2 else 0 := by
    show nrm 5 (ud (fun _ => (0 : Int)) 0 (if κ.1 = 2 then 7 * κ.2.2.1 + κ.2.2.2 else 0)) 0 = _
    rw [nrm_in (show 0 < 5 by omega), ud_same]
  have b3 : (bgR κ).2.2.1 = if κ.1 = 1 then κ.2.2.2 else 7 := rfl
  have hl : (f :: t).length = t.length + 1 := rfl
  refine ⟨⟨⟨⟨?_, ?_⟩, ⟨fun v hv2 => ?_, fun v w hv2 hw2 => ?_, fun v hv2 h2v => ?_, fun hk => ?_, fun hk => ?_⟩, fun j hj => ?_⟩, ?_⟩, ?_⟩
  · exact e7t
  · exact e8t
  · show _ ∧ ((bgR κ).1 v = 0 ↔ _) ∧ ((bgR κ).1 v = 1 ↔ _)
    rw [hl, b1 v hv2, e0t v hv2, e9t, e41, kk1]
    by_cases z : v = 0
    · rw [if_pos z, if_pos z]
      by_cases y : mSo S f.1.2.1 f.2.1 = 11
      · rw [if_pos y, if_pos y]
        refine ⟨by omega, by omega, ⟨fun q => by omega, fun q => absurd rfl q.1⟩⟩
      · rw [if_neg y, if_neg y]
        refine ⟨by omega, by omega, ⟨fun _ => ⟨by omega, rfl⟩, fun _ => rfl⟩⟩
    · rw [if_neg z, if_neg z]
      refine ⟨by omega, ⟨fun _ => rfl, fun _ => rfl⟩, ⟨fun q => by omega, fun q => by exfalso; exact q.1 q.2.symm⟩⟩
  · show (bgR κ).1 v = (bgR κ).1 w ↔ _
    rw [hl, b1 v hv2, b1 w hw2, e0t v hv2, e0t w hw2, kk1]
    by_cases z1 : v = 0 <;> by_cases z2 : w = 0
    · rw [if_pos z1, if_pos z2, if_pos z1, if_pos z2]; exact ⟨fun _ => rfl, fun _ => rfl⟩
    · rw [if_pos z1, if_neg z2, if_pos z1, if_neg z2]
      constructor
      · intro q; split at q <;> omega
      · intro q; omega
    · rw [if_neg z1, if_pos z2, if_neg z1, if_pos z2]
      constructor
      · intro q; split at q <;> omega
      · intro q; omega
    · rw [if_neg z1, if_neg z2, if_neg z1, if_neg z2]; exact ⟨fun _ => rfl, fun _ => rfl⟩
  · have h2v : 2 ≤ (bgR κ).1 v := h2v
    show (bgR κ).2.1 ((bgR κ).1 v - 2).toNat / 7 = _ ∧ (_ → (bgR κ).2.1 ((bgR κ).1 v - 2).toNat = _)
    rw [b1 v hv2, kk1] at h2v ⊢
    by_cases z : v = 0
    · rw [if_pos z] at h2v ⊢
      by_cases y : mSo S f.1.2.1 f.2.1 = 11
      · rw [if_pos y]
        rw [if_pos y] at kk1 e6x
        rw [hl, e0t v hv2, if_pos z, Int.toNat_natCast, e14, show ((2 : Int) - 2).toNat = 0 from rfl, b2, if_pos kk1, kk2, kk3]
        refine ⟨by omega, fun _ => ?_⟩
        unfold cdT
        rw [Int.toNat_natCast, e6x, e14, e15, if_pos (by omega)]
      · rw [if_neg y] at h2v; omega
    · rw [if_neg z] at h2v; omega
  · have hk : κ.1 = 1 := hk
    have y : ¬ mSo S f.1.2.1 f.2.1 = 11 := fun y => by rw [if_pos y] at kk1; omega
    show (0 ≤ S' 219 (f :: t).length ∧ S' 219 (f :: t).length < S' 181 41) ∧ S' 214 (S' 219 (f :: t).length).toNat = κ.2.2.1 ∧ (_ → (bgR κ).2.2.1 = _)
    rw [hl, e9t, if_neg y, Int.toNat_natCast, e14, e15, e41, b3, if_pos hk, kk2, kk3]
    exact ⟨by omega, rfl, fun _ => rfl⟩
  · have hk : κ.1 ≠ 1 := hk
    have y : mSo S f.1.2.1 f.2.1 = 11 := Classical.byContradiction (fun y => by rw [if_neg y] at kk1; exact hk kk1)
    rw [hl, e9t, if_pos y]
  · show (0 : Int) = _
    rw [hl]
    exact (e1t j hj).symm
  · refine pl_of (n := t.length + 1) (by omega) e92 (fun k hk => e7 k (by omega)) (fun k hk => e8 k (by omega)) (fun k hk => e9 k (by omega)) e0k (fun k j hk hj => e1 _ (by omega)) hv' (fun k hk y hy0 hy1 hy2 => ⟨by rw [e14], fun hne => ⟨by rw [e15], ?_⟩⟩) (f :: t) (Nat.le_refl _) ?_
    · have hyx : y.toNat ≠ x := fun z => hne (by
        have ey : y = (x : Int) := by omega
        by_cases hkt : k = t.length
        · rw [hkt, hho, ey]
        · exact h5 k t.length (by omega) (by omega) y hy0 hy2 (by rw [ey]; exact hvis))
      rw [e6 _ hyx]
    · rw [hl, Nat.add_sub_cancel, hho]
      refine ⟨⟨⟨g1, g2⟩, ⟨a1, a2, fun v hv2 h2v => ⟨(a3 v hv2 h2v).1, fun hne => (a3 v hv2 h2v).2 (fun z => ?_)⟩, fun hk => ?_, a5⟩, g3⟩, hpt⟩
      · have := (a1 v hv2).2.1.mpr z; omega
      · obtain ⟨c1, c2, c3⟩ := a4 hk
        exact ⟨c1, c2, fun _ => c3 (by omega)⟩
  · have vs : ∀ (k : Nat) (y : Int), k < t.length + 1 → vsM S' k y → vsM S k y := fun k y hk q => by
      rcases q with ⟨v, q1, q2⟩ | q
      · exact Or.inl ⟨v, q1, by rw [← e0k k v hk q1]; exact q2⟩
      · exact Or.inr (by rw [← e9 k (by omega)]; exact q)
    refine ⟨by rw [e41]; exact h1, fun y hy => ?_, fun y k hy hk q => ?_, fun k hk q => ?_, fun j k hjk hk y hy q1 q2 => ?_, fun k hk => ?_⟩
    · rw [e41] at hy
      have b := h2 y hy
      rw [e14, e15, ec 0 (by omega) (by omega), e 182 (by omega) (by omega)]
      refine ⟨?_, b.2.1, b.2.2⟩
      by_cases z : y = x
      · rw [z, e6x]
        rw [z] at b
        split
        · omega
        · omega
      · rw [e6 y z]; omega
    · rw [e41] at hy
      have hmE : ∀ p q, mE S' p q ↔ mE S p q := fun p q => by unfold mE; rw [e 183 (by omega) (by omega)]
      rw [hmE, e14, e15]
      by_cases z : y = x
      · rw [z, e6x] at q
        by_cases w : mSo S f.1.2.1 f.2.1 = 11
        · rw [if_pos w] at q
          left
          refine ⟨0, by omega, ?_⟩
          rw [show k = t.length + 1 by omega, e0t 0 (by omega), if_pos rfl, z]
        · rw [if_neg w] at q
          rw [← z] at q
          have hkt : k < t.length + 1 := by have := (h2 y hy).1; omega
          rcases h3 y k hy hkt q with ⟨v, w1, w2⟩ | w
          · exact Or.inl ⟨v, w1, by rw [e0k k v hkt w1]; exact w2⟩
          · exact Or.inr w
      · rw [e6 y z] at q
        have hkt : k < t.length + 1 := by have := (h2 y hy).1; omega
        rcases h3 y k hy hkt q with ⟨v, w1, w2⟩ | w
        · exact Or.inl ⟨v, w1, by rw [e0k k v hkt w1]; exact w2⟩
        · exact Or.inr w
    · by_cases z : k = t.length + 1
      · subst z
        rw [e9t] at q ⊢
        have y : ¬ mSo S f.1.2.1 f.2.1 = 11 := fun y => by rw [if_pos y] at q; exact q rfl
        rw [if_neg y] at e6x
        rw [if_neg y, Int.toNat_natCast, e6x]
        rcases hown with w | w
        · obtain ⟨j, w1, w2, v, w3, w4⟩ := h4 t.length (by omega) (by omega)
          rw [← w] at w4
          rw [← w, Int.toNat_natCast] at w2
          exact ⟨j, by omega, w2, v, w3, by rw [e0k j v (by omega) w3]; exact w4⟩
        · exact ⟨t.length, by omega, w, (mBb S f.1.2.1 f.2.1).toNat, by omega, by rw [e0k t.length _ (by omega) (show (mBb S f.1.2.1 f.2.1).toNat < 5 by omega)]; exact hx⟩
      · rw [e9 k z] at q ⊢
        obtain ⟨j, w1, w2, v, w3, w4⟩ := h4 k (by omega) q
        refine ⟨j, w1, ?_, v, w3, by rw [e0k j v (by omega) w3]; exact w4⟩
        by_cases y : (S 219 k).toNat = x
        · rw [y, e6x]
          rw [y] at w2
          by_cases gv : mSo S f.1.2.1 f.2.1 = 11
          · exfalso
            have hne := hg gv
            rcases hown with w | w
            · exact hne w
            · omega
          · rw [if_neg gv]; exact w2
        · rw [e6 _ y]; exact w2
    · rw [eh j (by omega)]
      by_cases z : k = t.length + 1
      · subst z
        have hyx : y = (x : Int) := by
          rcases q2 with ⟨v, w1, w2⟩ | w
          · rw [e0t v w1] at w2
            split at w2 <;> omega
          · rw [e9t] at w
            split at w <;> omega
        have q1' := vs j y (by omega) q1
        rw [hyx] at q1' ⊢
        by_cases hj : j = t.length
        · rw [hj, hho]
        · exact h5 j t.length (by omega) (by omega) x (by omega) q1' hvis
      · exact h5 j k hjk (by omega) y hy (vs j y (by omega) q1) (vs k y (by omega) q2)
    · rw [eh k (by omega)]
      by_cases z : k = t.length
      · subst z
        rw [e9t, hho, e9 _ (by omega), Int.toNat_natCast, e6x]
        by_cases gv : mSo S f.1.2.1 f.2.1 = 11
        · rw [if_pos gv, if_pos gv]
          exact ⟨fun q => absurd rfl q, fun _ => by omega, by omega⟩
        · rw [if_neg gv, if_neg gv]
          exact ⟨fun _ => ⟨rfl, hown⟩, fun q => by omega, by omega⟩
      · have w := h6 k (by omega)
        rw [e9 k (by omega), e9 (k + 1) (by omega)]
        have key : S' 216 (hoM S k).toNat = (k : Int) ↔ S 216 (hoM S k).toNat = (k : Int) := by
          by_cases y : (hoM S k).toNat = x
          · rw [y, e6x]
            by_cases gv : mSo S f.1.2.1 f.2.1 = 11
            · rw [if_pos gv]
              have hne := hg gv
              rcases hown with w | w
              · exact absurd w hne
              · constructor <;> intro q <;> omega
            · rw [if_neg gv]
          · rw [e6 _ y]
        refine ⟨fun q => ⟨(w.1 q).1, ?_⟩, fun q z2 => w.2.1 q (key.mp z2), w.2.2⟩
        rcases (w.1 q).2 with y | y
        · exact Or.inl y
        · exact Or.inr (key.mpr y)
/-- and comes back -/
theorem mo_pop (hm : mdV S) (hv : hvM S (u.length + 1)) (hp : plM S (f :: g :: u) (-1)) (ht : thM S (u.length + 1 + 1)) (hR1 : ∀ v, v < 5 → 0 ≤ g.2.2.1 v) (hv0 : 0 ≤ mBb S g.1.2.1 g.2.1 ∧ mBb S g.1.2.1 g.2.1 < 5) (hkf : f.1.1 = if mSo S g.1.2.1 g.2.1 = 11 then 2 else 1) (hwl : ¬ (mSo S g.1.2.1 g.2.1 = 11 ∧ g.2.2.1 (mBb S g.1.2.1 g.2.1).toNat = 1)) (e : ∀ b, b ≠ 181 → b ≠ 216 → S' b = S b) (ec : ∀ j, j ≠ 45 → S' 181 j = S 181 j) (e6 : ∀ i : Nat, (i : Int) < S 181 41 → S' 216 i = if S 216 i = (u.length : Int) + 1 then -1 else S 216 i) : plM S' ((g.1, g.2.1, cbT S g.1 g.2.1 g.2.2 (etR f.1 f.2.2)) :: u) (-1) ∧ thM S' (u.length + 1) := by
  obtain ⟨hf, ⟨⟨g1, g2⟩, ⟨a1, a2, a3, a4, a5⟩, g3⟩, hpu⟩ := hp
  have hf := hf.2.1
  obtain ⟨h1, h2, h3, h4, h5, h6⟩ := id ht
  have hlf : (g :: u).length = u.length + 1 := rfl
  rw [hlf] at hf
  rw [hlf, Nat.add_sub_cancel] at a3 a4
  have hho : hoM S u.length = S 220 (5 * u.length + (mBb S g.1.2.1 g.2.1).toNat) := by
    unfold hoM
    rw [g1, g2, Int.toNat_natCast, Int.toNat_natCast]
  obtain ⟨v0, hv0e⟩ : ∃ v0, (mBb S g.1.2.1 g.2.1).toNat = v0 := ⟨_, rfl⟩
  have hv05 : v0 < 5 := by omega
  rw [hv0e] at hho hwl
  have hl6 := h6 u.length (by omega)
  obtain ⟨x, hx⟩ : ∃ x : Nat, hoM S u.length = (x : Int) := ⟨(hoM S u.length).toNat, by omega⟩
  rw [hx] at hho hl6 a3 a4
  rw [Int.toNat_natCast] at hl6
  have hxb := (a1 v0 hv05).1
  rw [← hho] at hxb
  have e41 : S' 181 41 = S 181 41 := ec 41 (by omega)
  have e14 : S' 214 = S 214 := e 214 (by omega) (by omega)
  have e15 : S' 215 = S 215 := e 215 (by omega) (by omega)
  have e19 : S' 219 = S 219 := e 219 (by omega) (by omega)
  have e20 : S' 220 = S 220 := e 220 (by omega) (by omega)
  have e92 : S' 192 = S 192 := e 192 (by omega) (by omega)
  have key : ∀ (y k : Nat), (y : Int) < S 181 41 → k < u.length + 1 → (S' 216 y = (k : Int) ↔ S 216 y = (k : Int)) := fun y k hy hk => by
    rw [e6 y hy]
    split <;> omega
  have hn0 : g.2.2.1 v0 ≠ 0 := fun z => by have := (a1 v0 hv05).2.1.mp z; omega
  -- what it comes back with
  have hst : ¬ mSo S g.1.2.1 g.2.1 = 11 → etR f.1 f.2.2 = S 215 x ∧ S 219 (u.length + 1) = (x : Int) := fun z => by
    rw [if_neg z] at hkf
    have b := hf.2.2.2.1 hkf
    have l := hl6.1 (by omega)
    refine ⟨?_, l.1⟩
    have b3 := b.2.2 (by omega)
    rw [l.1, Int.toNat_natCast] at b3
    unfold etR
    rw [if_pos hkf]
    exact b3
  obtain ⟨st, hst0⟩ : ∃ st, (if mSo S g.1.2.1 g.2.1 = 11 then 6 else etR f.1 f.2.2) = st := ⟨_, rfl⟩
  have hx2 := h2 x (by omega)
  have hs6 := (hm.2.2.1 (S 214 x).toNat (by have := hm.1; omega)).2.1
  have hstR : 0 ≤ st ∧ st < 7 := by
    rw [← hst0]
    split
    · omega
    · rename_i z; rw [(hst z).1]; omega
  have eR : cbT S g.1 g.2.1 g.2.2 (etR f.1 f.2.2) = tnR g.2.2 (g.2.2.1 v0) st := by unfold cbT; rw [hv0e, hst0]
  rw [eR]
  have hR : (tnR g.2.2 (g.2.2.1 v0) st).1 = g.2.2.1 ∧ (tnR g.2.2 (g.2.2.1 v0) st).2.2.2 = g.2.2.2.2.2 := by unfold tnR; split <;> exact ⟨rfl, rfl⟩
  refine ⟨⟨⟨⟨by rw [e 217 (by omega) (by omega)]; exact g1, by rw [e 218 (by omega) (by omega)]; exact g2⟩, ⟨?_, ?_, ?_, ?_, fun z => by rw [e19]; exact a5 z⟩, fun j hj => by
    show (tnR g.2.2 (g.2.2.1 v0) st).2.2.2 j = _
    rw [hR.2, e 221 (by omega) (by omega)]
    exact g3 j hj⟩, ?_⟩, ?_⟩
  · show ∀ v, v < 5 → _
    rw [hR.1, e20, e19, e41]
    exact a1
  · show ∀ v w, v < 5 → w < 5 → _
    rw [hR.1, e20]
    exact a2
  · show ∀ v, v < 5 → 2 ≤ (tnR g.2.2 (g.2.2.1 v0) st).1 v → _
    rw [hR.1, e20, e14]
    intro v hv2 h2v
    have b := a3 v hv2 h2v
    have hnv : S 220 (5 * u.length + v) ≠ -1 := fun y => by have := (a1 v hv2).2.1.mpr y; omega
    have hbv := (a1 v hv2).1
    have hcdT : cdT S' u.length (S 220 (5 * u.length + v)) = cdT S u.length (S 220 (5 * u.length + v)) := by
      unfold cdT
      rw [e14, e15]
      have kq := key (S 220 (5 * u.length + v)).toNat u.length (by omega) (by omega)
      by_cases z : S 216 (S 220 (5 * u.length + v)).toNat = (u.length : Int)
      · rw [if_pos z, if_pos (kq.mpr z)]
      · rw [if_neg z, if_neg (fun q => z (kq.mp q))]
    rw [hcdT]
    by_cases z1 : g.2.2.1 v0 = 1
    · have et : tnR g.2.2 (g.2.2.1 v0) st = (g.2.2.1, g.2.2.2.1, st, g.2.2.2.2.2) := by unfold tnR; rw [if_pos z1]
      rw [et]
      refine ⟨b.1, fun _ => b.2 (fun z => ?_)⟩
      have := (a2 v v0 hv2 hv05).mpr (by rw [z, hho])
      omega
    · have et : tnR g.2.2 (g.2.2.1 v0) st = (g.2.2.1, ud g.2.2.2.1 (g.2.2.1 v0 - 2).toNat (g.2.2.2.1 (g.2.2.1 v0 - 2).toNat / 7 * 7 + st), g.2.2.2.2.1, g.2.2.2.2.2) := by unfold tnR; rw [if_neg z1]
      rw [et]
      have ga := hR1 v0 hv05
      by_cases z2 : g.2.2.1 v = g.2.2.1 v0
      · have ev := (a2 v v0 hv2 hv05).mp z2
        have b7 := b.1
        rw [ev, ← hho, Int.toNat_natCast] at b7 ⊢
        rw [z2] at b7 ⊢
        show ud g.2.2.2.1 (g.2.2.1 v0 - 2).toNat _ (g.2.2.1 v0 - 2).toNat / 7 = _ ∧ (_ → ud g.2.2.2.1 (g.2.2.1 v0 - 2).toNat _ (g.2.2.1 v0 - 2).toNat = _)
        rw [ud_same, b7]
        refine ⟨by omega, fun _ => ?_⟩
        unfold cdT
        rw [Int.toNat_natCast]
        by_cases gv : mSo S g.1.2.1 g.2.1 = 11
        · rw [if_pos gv] at hkf hst0
          have h9 : S 219 (u.length + 1) = -1 := hf.2.2.2.2 (by omega)
          rw [if_neg (hl6.2.1 h9)]
          omega
        · rw [if_neg gv] at hst0
          obtain ⟨s1, s2⟩ := hst gv
          have h16 : S 216 x = (u.length : Int) := by
            rcases (hl6.1 (by omega)).2 with y | y
            · exfalso
              exact z1 ((a1 v0 hv05).2.2.mpr ⟨by omega, by rw [← hho]; exact y⟩)
            · exact y
          rw [if_pos h16]
          omega
      · have hne : (g.2.2.1 v - 2).toNat ≠ (g.2.2.1 v0 - 2).toNat := by omega
        show ud g.2.2.2.1 (g.2.2.1 v0 - 2).toNat _ (g.2.2.1 v - 2).toNat / 7 = _ ∧ (_ → ud g.2.2.2.1 (g.2.2.1 v0 - 2).toNat _ (g.2.2.1 v - 2).toNat = _)
        rw [ud_ne hne]
        exact ⟨b.1, fun _ => b.2 (fun z => z2 ((a2 v v0 hv2 hv05).mpr (by rw [z, hho])))⟩
  · show g.1.1 = 1 → _
    intro hk
    obtain ⟨b1, b2, b3⟩ := a4 hk
    rw [e19, e41, e14, e15]
    refine ⟨b1, b2, fun q => ?_⟩
    by_cases z1 : g.2.2.1 v0 = 1
    · have et : tnR g.2.2 (g.2.2.1 v0) st = (g.2.2.1, g.2.2.2.1, st, g.2.2.2.2.2) := by unfold tnR; rw [if_pos z1]
      rw [et]
      have := ((a1 v0 hv05).2.2.mp z1).2
      rw [← this, ← hho, Int.toNat_natCast]
      have gv : ¬ mSo S g.1.2.1 g.2.1 = 11 := fun gv => hwl ⟨gv, z1⟩
      rw [if_neg gv] at hst0
      show st = _
      rw [← hst0, (hst gv).1]
    · have et : tnR g.2.2 (g.2.2.1 v0) st = (g.2.2.1, ud g.2.2.2.1 (g.2.2.1 v0 - 2).toNat (g.2.2.2.1 (g.2.2.1 v0 - 2).toNat / 7 * 7 + st), g.2.2.2.2.1, g.2.2.2.2.2) := by unfold tnR; rw [if_neg z1]
      rw [et]
      exact b3 (fun z => z1 ((a1 v0 hv05).2.2.mpr ⟨q, by rw [← hho]; exact z.symm⟩))
  · refine pl_of (n := u.length) (by omega) e92 (fun k _ => by rw [e 217 (by omega) (by omega)]) (fun k _ => by rw [e 218 (by omega) (by omega)]) (fun k _ => by rw [e19]) (fun k v _ _ => by rw [e20]) (fun k j _ _ => by rw [e 221 (by omega) (by omega)]) (fun k hk => hv k (by omega)) (fun k hk y hy0 hy1 hy2 => ⟨by rw [e14], fun hne => ⟨by rw [e15], key y.toNat k (by omega) (by omega)⟩⟩) u (Nat.le_refl _) hpu
  · have eh : ∀ k, hoM S' k = hoM S k := fun k => by unfold hoM mBb; rw [e20, e 217 (by omega) (by omega), e 218 (by omega) (by omega), e92]
    refine ⟨by rw [e41]; exact h1, fun y hy => ?_, fun y k hy hk q => ?_, fun k hk q => ?_, fun j k hjk hk y hy q1 q2 => ?_, fun k hk => ?_⟩
    · rw [e41] at hy
      have b := h2 y hy
      rw [e14, e15, ec 0 (by omega), e 182 (by omega) (by omega), e6 y hy]
      refine ⟨?_, b.2.1, b.2.2⟩
      split <;> omega
    · rw [e41] at hy
      have hmE : ∀ p q, mE S' p q ↔ mE S p q := fun p q => by unfold mE; rw [e 183 (by omega) (by omega)]
      rw [hmE, e14, e15, e20]
      exact h3 y k hy (by omega) ((key y k hy hk).mp q)
    · rw [e19] at q ⊢
      rw [e20]
      obtain ⟨j, w1, w2, v, w3, w4⟩ := h4 k (by omega) q
      have hl : 0 ≤ S 219 k ∧ S 219 k < S 181 41 := by
        by_cases z : k = u.length
        · subst z
          by_cases hk1 : g.1.1 = 1
          · exact (a4 hk1).1
          · exact absurd (a5 hk1) q
        · have := pl_lent u _ hpu k (by omega)
          omega
      exact ⟨j, w1, (key _ j (by omega) (by omega)).mpr w2, v, w3, w4⟩
    · rw [eh]
      unfold vsM at q1 q2
      rw [e20, e19] at q1 q2
      exact h5 j k hjk (by omega) y hy q1 q2
    · rw [eh, e19]
      have w := h6 k (by omega)
      have hoT : hoM S k < S 181 41 := pl_vis u _ hpu k (by omega) _ w.2.2 (Or.inl ⟨_, by have := hv k (by omega); omega, rfl⟩)
      have kq := key (hoM S k).toNat k (by omega) (by omega)
      refine ⟨fun q => ⟨(w.1 q).1, ?_⟩, fun q z2 => w.2.1 q (kq.mp z2), w.2.2⟩
      rcases (w.1 q).2 with y | y
      · exact Or.inl y
      · exact Or.inr (kq.mpr y)
end
