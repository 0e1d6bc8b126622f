/-! ===== a caller is noted ===== -/
theorem po_call {S S' : mm_S} {L : mm_L} {p1 p2 p3 n : Nat} (hD : plD p1 p2 p3 n) (hI : imC S L p1 p2 p3 n) {i a : Nat} (hi : (i : Int) < S 86 0) (ha : (a : Int) < S 85 1) (e : ∀ b, b ≠ p2 → b ≠ 98 + a → S' b = S b) (e2 : ∀ j, j ≠ i → S' p2 j = S p2 j) (e2i : S' p2 i = S (98 + a) 6) (ec : ∀ j, j ≠ 6 → S' (98 + a) j = S (98 + a) j) (ec6 : S' (98 + a) 6 = i) : imC S' L p1 p2 p3 n ∧ XC S' L p1 = XC S L p1 ∧ FC S' = FC S ∧ WC S' = WC S ∧ ∀ c, c < 40 → keyC S' c = keyC S c := by
  obtain ⟨⟨d1, d2, d3⟩, d4, -⟩ := id hD
  obtain ⟨⟨a1, a2, a3⟩, b1, ⟨c1, c2⟩, ⟨f1, f2⟩, E, ⟨g1, g2, g3, g4⟩, k1, ks⟩ := id hI
  have ha40 : a < 40 := by omega
  have e' : ∀ b, b < 87 ∨ (90 ≤ b ∧ b < 223) → b ≠ 98 + a → S' b = S b := fun b hb hb2 => e b (by omega) hb2
  have e85 := e' 85 (by omega) (by omega)
  have e86 := e' 86 (by omega) (by omega)
  have ecj : ∀ c j, c < 40 → j ≠ 6 → S' (98 + c) j = S (98 + c) j := fun c j hc hj => by
    by_cases y : c = a
    · rw [y]; exact ec j hj
    · rw [e' (98 + c) (by omega) (by omega)]
  have kk : ∀ c, c < 40 → keyC S' c = keyC S c ∧ codC S' c = codC S c := fun c hc => key_of (fun j hj => ecj c j hc (by omega))
  have he : bkE S S' := ⟨fun b _ _ => e' b (by omega) (by omega), by rw [e' 181 (by omega) (by omega)], by rw [e' 181 (by omega) (by omega)]⟩
  have hp6 := (c2 a ha).2.2.2.2.1
  refine ⟨⟨⟨by rw [e86]; exact a1, ?_, fun i j hi hj q => ?_⟩, fun j hj => ?_, ⟨by rw [e85]; exact c1, fun c x => ?_⟩, ⟨fun q hq => ?_, fun c x => ?_⟩, by rw [e' 92 (by omega) (by omega), e85]; exact E, ⟨by rw [e85]; exact g1, fun k x => ?_, fun k l x y q => ?_, fun c b x y => ?_⟩, by rw [e85]; exact k1, ?_⟩, ?_, ?_, ?_, fun c hc => (kk c hc).1⟩
  · unfold plT at *
    rw [e86, e p3 (by omega) (by omega)]
    exact a2
  · rw [e86] at hi hj
    exact a3 i j hi hj q
  · rw [e86] at hj
    obtain ⟨u1, c, x, pl, p, u2, u3⟩ := b1 j hj
    have hc : c < 40 := by have := u2.1; omega
    refine ⟨?_, c, x, pl, p, en_of (kk c hc).1 (by rw [e85]; exact Int.le_refl _) rfl u2, by rw [(kk c hc).1]; exact itV_of he u3⟩
    rw [e86]
    by_cases y : j = i
    · rw [y, e2i]; exact hp6
    · rw [e2 j y]; exact u1
  · rw [e85] at x
    have w := c2 c x
    have hc : c < 40 := by omega
    have h6 : -1 ≤ S' (98 + c) 6 ∧ S' (98 + c) 6 < S 86 0 := by
      by_cases y : c = a
      · rw [y, ec6]; omega
      · rw [e' (98 + c) (by omega) (by omega)]; exact w.2.2.2.2.1
    unfold csC at *
    rw [ecj c 0 hc (by omega), ecj c 1 hc (by omega), ecj c 2 hc (by omega), ecj c 3 hc (by omega), ecj c 4 hc (by omega), ecj c 5 hc (by omega), e85, e86, (kk c hc).1, bm_of he]
    exact ⟨w.1, w.2.1, w.2.2.1, w.2.2.2.1, h6, kyV_of he w.2.2.2.2.2.1, w.2.2.2.2.2.2⟩
  · rw [e' 91 (by omega) (by omega), e85]
    have w := f1 q hq
    exact ⟨w.1, w.2.1, fun z => by rw [(kk _ (by omega)).2]; exact w.2.2 z⟩
  · rw [e85] at x
    rw [e' 91 (by omega) (by omega), (kk c (by omega)).2]
    exact f2 c x
  · rw [e85] at x
    rw [e' 93 (by omega) (by omega), e85]
    have w := g2 k x
    exact ⟨w.1, w.2.1, by rw [ecj _ 4 (by omega) (by omega)]; exact w.2.2⟩
  · rw [e85] at x y
    rw [e' 93 (by omega) (by omega)] at q
    exact g3 k l x y q
  · rw [e85] at x
    rw [ecj c 4 (by omega) (by omega)] at y
    rw [e85, e' 93 (by omega) (by omega)]
    exact g4 c b x y
  · unfold scV at *
    rw [e' 94 (by omega) (by omega), e' (94 + 1) (by omega) (by omega), e' (94 + 2) (by omega) (by omega), e' (94 + 3) (by omega) (by omega)]
    exact ks
  · funext κ pl p
    apply propext
    constructor
    · rintro ⟨j, c, x, y1, y2, y3⟩
      have y0 := y3.1
      rw [e85] at y0
      have kc := (kk c (by omega)).1
      exact ⟨j, c, x, by rw [e86] at y1; exact y1, by rw [kc] at y2; exact y2, en_of kc.symm (by rw [e85]; exact Int.le_refl _) rfl y3⟩
    · rintro ⟨j, c, x, y1, y2, y3⟩
      have y0 := y3.1
      have kc := (kk c (by omega)).1
      exact ⟨j, c, x, by rw [e86]; exact y1, by rw [kc]; exact y2, en_of kc (by rw [e85]; exact Int.le_refl _) rfl y3⟩
  · funext κ b
    apply propext
    constructor
    · rintro ⟨y0, c, y1, y2, y3⟩
      rw [e85] at y1
      rw [(kk c (by omega)).1] at y2
      rw [ecj c 4 (by omega) (by omega)] at y3
      exact ⟨y0, c, y1, y2, y3⟩
    · rintro ⟨y0, c, y1, y2, y3⟩
      exact ⟨y0, c, by rw [e85]; exact y1, by rw [(kk c (by omega)).1]; exact y2, by rw [ecj c 4 (by omega) (by omega)]; exact y3⟩
  · unfold WC
    rw [e' 92 (by omega) (by omega)]
