/-! ===== what a run does to its THINGS ===== -/
section
variable {S S' : mm_S} {f : Fr} {t : List Fr}
abbrev hvM (S : mm_S) (n : Nat) : Prop := ∀ k, k < n → 0 ≤ mBb S (S 217 k).toNat (S 218 k).toNat ∧ mBb S (S 217 k).toNat (S 218 k).toNat < 5
theorem hv_ok (hm : mbC S) : ∀ (l : List Fr) (h : Int), okF S l → plM S l h → hvM S (l.length - 1)
  | [], _, _, _ => fun k hk => absurd hk (Nat.not_lt_zero k)
  | [f], _, _, _ => fun k hk => absurd hk (Nat.not_lt_zero k)
  | f :: g :: u, h, ho, hp => fun k hk => by
    have hk' : k < u.length + 1 := by simp only [List.length_cons] at hk; omega
    by_cases z : k = u.length
    · subst z
      have hg := hp.2.1.1
      have hr := (ho.2.2.1 g u rfl).1
      have hky := ho.2.2.2.2.1
      rw [hg.1, hg.2, Int.toNat_natCast, Int.toNat_natCast]
      have ok := (hm.2.2.2 g.1.2.1 hky.2.1).2.2.2 g.2.1 hr.1
      have hx := hr.2.1
      omega
    · exact hv_ok hm (g :: u) _ ho.2.2.2 hp.2 k (by simp only [List.length_cons]; omega)
/-- the top goes to another place -/
theorem mo_go {to : Nat} {P : Nat → Int} (hv : hvM S t.length) (hp : plM S (f :: t) (-1)) (ht : thM S (t.length + 1)) (e : ∀ b, b ≠ 218 → b ≠ 221 → S' b = S b) (e8 : ∀ k, k ≠ t.length → S' 218 k = S 218 k) (e8t : S' 218 t.length = (to : Int)) (e1 : ∀ i, i < 6 * t.length → S' 221 i = S 221 i) (e1t : ∀ j, j < 6 → S' 221 (6 * t.length + j) = P j) : plM S' ((f.1, to, (f.2.2.1, f.2.2.2.1, f.2.2.2.2.1, P)) :: t) (-1) ∧ thM S' (t.length + 1) := by
  have r : ∀ b, b ≠ 218 → b ≠ 221 → S' b = S b := e
  have e41 : S' 181 41 = S 181 41 := by rw [e 181 (by omega) (by omega)]
  refine ⟨⟨⟨⟨?_, e8t⟩, ?_, fun j hj => (e1t j hj).symm⟩, ?_⟩, ?_⟩
  · rw [e 217 (by omega) (by omega)]; exact hp.1.1.1
  · have h := hp.1.2.1
    unfold nmP cdT at *
    rw [e 220 (by omega) (by omega), e 181 (by omega) (by omega), e 219 (by omega) (by omega), e 214 (by omega) (by omega), e 215 (by omega) (by omega), e 216 (by omega) (by omega)]
    exact h
  · exact pl_of (n := t.length) (by omega) (e 192 (by omega) (by omega)) (fun k _ => by rw [e 217 (by omega) (by omega)]) (fun k hk => e8 k (by omega)) (fun k _ => by rw [e 219 (by omega) (by omega)]) (fun k v _ _ => by rw [e 220 (by omega) (by omega)]) (fun k j hk hj => e1 _ (by omega)) hv (fun k hk x _ _ _ => ⟨by rw [e 214 (by omega) (by omega)], fun _ => ⟨by rw [e 215 (by omega) (by omega)], by rw [e 216 (by omega) (by omega)]⟩⟩) t (Nat.le_refl _) hp.2
  · exact th_of e41 (by rw [e 181 (by omega) (by omega)]) (e 182 (by omega) (by omega)) (e 183 (by omega) (by omega)) (e 192 (by omega) (by omega)) (e 214 (by omega) (by omega)) (e 215 (by omega) (by omega)) (e 216 (by omega) (by omega)) (fun k _ => by rw [e 217 (by omega) (by omega)]) (fun k hk => e8 k (by omega)) (fun k _ => by rw [e 219 (by omega) (by omega)]) (fun k v _ _ => by rw [e 220 (by omega) (by omega)]) (fun k hk => hv k (by omega)) ht
/-- a THING that the top names is in another STATE -/
theorem mo_use {a : Nat} (ha : a < 5) {st : Int} (hv : hvM S t.length) (hp : plM S (f :: t) (-1)) (ht : thM S (t.length + 1)) (hlc : ∀ v, v < 5 → f.2.2.1 v = 1 → f.1.1 = 1) {x : Nat} (hx : S 220 (5 * t.length + a) = (x : Int)) (hown : (x : Int) = S 219 t.length ∨ S 216 x = (t.length : Int)) (hst : 0 ≤ st ∧ st < S 182 (S 214 x).toNat) (hs6 : st < 6) (e : ∀ b, b ≠ 215 → S' b = S b) (e5 : ∀ i, i ≠ x → S' 215 i = S 215 i) (e5x : S' 215 x = st) (hR1 : ∀ v, v < 5 → 0 ≤ f.2.2.1 v) : plM S' ((f.1, f.2.1, tnR f.2.2 (f.2.2.1 a) st) :: t) (-1) ∧ thM S' (t.length + 1) := by
  obtain ⟨⟨⟨g1, g2⟩, ⟨a1, a2, a3, a4, a5⟩, g3⟩, hpt⟩ := hp
  obtain ⟨h1, h2, h3, h4, h5, h6⟩ := id ht
  have hxb := (a1 a ha).1
  rw [hx] at hxb
  have hvis : vsM S t.length (x : Int) := Or.inl ⟨a, ha, hx⟩
  have hn0 : f.2.2.1 a ≠ 0 := fun z => by have := (a1 a ha).2.1.mp z; omega
  have e20 := e 220 (by omega)
  have e19 := e 219 (by omega)
  have e14 := e 214 (by omega)
  have e16 := e 216 (by omega)
  have e81 := e 181 (by omega)
  have hR : (tnR f.2.2 (f.2.2.1 a) st).1 = f.2.2.1 ∧ (tnR f.2.2 (f.2.2.1 a) st).2.2.2 = f.2.2.2.2.2 := by unfold tnR; split <;> exact ⟨rfl, rfl⟩
  refine ⟨⟨⟨⟨by rw [e 217 (by omega)]; exact g1, by rw [e 218 (by omega)]; exact g2⟩, ⟨?_, ?_, ?_, ?_, fun z => by rw [e19]; exact a5 z⟩, fun j hj => by
    show (tnR f.2.2 (f.2.2.1 a) st).2.2.2 j = _
    rw [hR.2, e 221 (by omega)]
    exact g3 j hj⟩, ?_⟩, ?_⟩
  · show ∀ v, v < 5 → _
    rw [hR.1, e20, e19, e81]
    exact a1
  · show ∀ v w, v < 5 → w < 5 → _
    rw [hR.1, e20]
    exact a2
  · show ∀ v, v < 5 → 2 ≤ (tnR f.2.2 (f.2.2.1 a) st).1 v → _
    rw [hR.1, e20, e14]
    intro v hv2 h2v
    have b := a3 v hv2 h2v
    by_cases z1 : f.2.2.1 a = 1
    · have et : tnR f.2.2 (f.2.2.1 a) st = (f.2.2.1, f.2.2.2.1, st, f.2.2.2.2.2) := by unfold tnR; rw [if_pos z1]
      rw [et]
      refine ⟨b.1, fun q => ?_⟩
      rw [b.2 q]
      unfold cdT
      have hne : (S 220 (5 * t.length + v)).toNat ≠ x := fun z => by
        have c := (a1 v hv2).1
        have e1 := (a2 v a hv2 ha).mpr (by rw [hx]; have := (a1 v hv2).2.1; have : S 220 (5 * t.length + v) ≠ -1 := fun y => by have := this.mpr y; omega
                                           omega)
        omega
      rw [e14, e16, e5 _ hne]
    · have et : tnR f.2.2 (f.2.2.1 a) st = (f.2.2.1, ud f.2.2.2.1 (f.2.2.1 a - 2).toNat (f.2.2.2.1 (f.2.2.1 a - 2).toNat / 7 * 7 + st), f.2.2.2.2.1, f.2.2.2.2.2) := by unfold tnR; rw [if_neg z1]
      rw [et]
      have ga := hR1 a ha
      have h16 : S 216 x = (t.length : Int) := by
        rcases hown with y | y
        · exfalso
          exact z1 ((a1 a ha).2.2.mpr ⟨by omega, by rw [hx]; exact y⟩)
        · exact y
      by_cases z2 : f.2.2.1 v = f.2.2.1 a
      · have ev := (a2 v a hv2 ha).mp z2
        have b7 := b.1
        rw [ev, hx, Int.toNat_natCast] at b7 ⊢
        rw [z2] at b7 ⊢
        show ud f.2.2.2.1 (f.2.2.1 a - 2).toNat _ (f.2.2.1 a - 2).toNat / 7 = _ ∧ (_ → ud f.2.2.2.1 (f.2.2.1 a - 2).toNat _ (f.2.2.1 a - 2).toNat = _)
        rw [ud_same, b7]
        refine ⟨by omega, fun _ => ?_⟩
        unfold cdT
        rw [Int.toNat_natCast, e14, e16, if_pos h16, e5x]
        omega
      · have hne : (f.2.2.1 v - 2).toNat ≠ (f.2.2.1 a - 2).toNat := by omega
        show ud f.2.2.2.1 (f.2.2.1 a - 2).toNat _ (f.2.2.1 v - 2).toNat / 7 = _ ∧ (_ → ud f.2.2.2.1 (f.2.2.1 a - 2).toNat _ (f.2.2.1 v - 2).toNat = _)
        rw [ud_ne hne]
        refine ⟨b.1, fun q => ?_⟩
        rw [b.2 q]
        unfold cdT
        have hne2 : (S 220 (5 * t.length + v)).toNat ≠ x := fun z => by
          apply z2
          have c := (a1 v hv2).1
          have : S 220 (5 * t.length + v) ≠ -1 := fun y => by have := (a1 v hv2).2.1.mpr y; omega
          exact (a2 v a hv2 ha).mpr (by rw [hx]; omega)
        rw [e14, e16, e5 _ hne2]
  · show f.1.1 = 1 → _
    intro hk
    obtain ⟨b1, b2, b3⟩ := a4 hk
    rw [e19, e81, e14]
    refine ⟨b1, b2, fun q => ?_⟩
    by_cases z1 : f.2.2.1 a = 1
    · have et : tnR f.2.2 (f.2.2.1 a) st = (f.2.2.1, f.2.2.2.1, st, f.2.2.2.2.2) := by unfold tnR; rw [if_pos z1]
      rw [et]
      have := ((a1 a ha).2.2.mp z1).2
      rw [← this, hx, Int.toNat_natCast]
      exact e5x.symm
    · have et : tnR f.2.2 (f.2.2.1 a) st = (f.2.2.1, ud f.2.2.2.1 (f.2.2.1 a - 2).toNat (f.2.2.2.1 (f.2.2.1 a - 2).toNat / 7 * 7 + st), f.2.2.2.2.1, f.2.2.2.2.2) := by unfold tnR; rw [if_neg z1]
      rw [et]
      have hne : (S 219 t.length).toNat ≠ x := fun z => z1 ((a1 a ha).2.2.mpr ⟨q, by rw [hx]; omega⟩)
      rw [e5 _ hne]
      exact b3 q
  · exact pl_of (n := t.length) (by rw [e81]; exact Int.le_refl _) (e 192 (by omega)) (fun k _ => by rw [e 217 (by omega)]) (fun k _ => by rw [e 218 (by omega)]) (fun k _ => by rw [e19]) (fun k v _ _ => by rw [e20]) (fun k j _ _ => by rw [e 221 (by omega)]) hv (fun k hk y hy0 hy1 hy2 => ⟨by rw [e14], fun hne => ⟨e5 _ (fun z => hne (h5 k t.length hk (by omega) y hy0 hy2 (by rw [show y = (x : Int) by omega]; exact hvis))), by rw [e16]⟩⟩) t (Nat.le_refl _) hpt
  · have eh : ∀ k, hoM S' k = hoM S k := fun k => by unfold hoM mBb; rw [e20, e 217 (by omega), e 218 (by omega), e 192 (by omega)]
    refine ⟨by rw [e81]; exact h1, fun y hy => ?_, fun y k hy hk q => ?_, fun k hk q => ?_, fun j k hjk hk y hy q1 q2 => ?_, fun k hk => ?_⟩
    · rw [e81] at hy
      have b := h2 y hy
      rw [e16, e14, e81, e 182 (by omega)]
      refine ⟨b.1, b.2.1, ?_⟩
      by_cases z : y = x
      · rw [z, e5x]; exact hst
      · rw [e5 y z]; exact b.2.2
    · rw [e81] at hy
      rw [e16] at q
      rw [e20, e14]
      by_cases z : y = x
      · left
        rcases hown with w | w
        · obtain ⟨j, w1, w2, v, w3, w4⟩ := h4 t.length (by omega) (by omega)
          rw [← w, Int.toNat_natCast] at w2
          rw [z, w2] at q
          exact ⟨v, w3, by rw [show k = j by omega, w4, z]; exact w.symm⟩
        · rw [z, w] at q
          exact ⟨a, ha, by rw [show k = t.length by omega, z]; exact hx⟩
      · rw [e5 y z]
        rcases h3 y k hy hk q with w | w
        · exact Or.inl w
        · right
          unfold mE at *
          rw [e 183 (by omega)]
          exact w
    · rw [e19] at q ⊢
      rw [e16, e20]
      exact h4 k hk q
    · rw [eh]
      unfold vsM at q1 q2
      rw [e20, e19] at q1 q2
      exact h5 j k hjk hk y hy q1 q2
    · rw [eh, e19, e16]
      exact h6 k hk
end
