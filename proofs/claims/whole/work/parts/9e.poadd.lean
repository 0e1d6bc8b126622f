/-! ===== room, and one scene more ===== -/
section
variable {sh sh' : List mm_H} {S S' : mm_S} {L L' : mm_L} {p1 p2 p3 n q1 q2 q3 m : Nat} {X : XT} {F : FT} {W : WT}
theorem po_room (hD : plD p1 p2 p3 n) (hI : imC S L p1 p2 p3 n) (hS : SubC S L p1 X F W) (hE : shE sh sh') (hpl' : plS sh' q1 q2 q3 m) (hD' : plD q1 q2 q3 m) (hB : ∀ z0, shB z0 sh n → shB z0 sh' m) (hN : (S 86 0).toNat < m) (hT : plT S' L' q1 q3 m (S 86 0).toNat) (fS : ∀ b, b < 223 → b ≠ p1 → b ≠ p2 → b ≠ p3 → S' b = S b) (fL : ∀ b, b < 223 → b ≠ p1 → L' b = L b) (hC : ∀ i, i < (S 86 0).toNat → L' q1 i = L p1 i ∧ S' q2 i = S p2 i) : poC sh S L p1 p2 n X F W sh' S' L' q1 q2 q3 m := by
  obtain ⟨⟨d1, d2, d3⟩, d4, -⟩ := id hD
  have e : ∀ b, b < 87 ∨ (90 ≤ b ∧ b < 223) → S' b = S b := fun b hb => fS b (by omega) (by omega) (by omega) (by omega)
  have he : bkE S S' := ⟨fun b _ _ => e b (by omega), by rw [e 181 (by omega)], by rw [e 181 (by omega)]⟩
  have e85 := e 85 (by omega)
  have e86 := e 86 (by omega)
  obtain ⟨⟨a1, a2, a3⟩, b1, ⟨c1, c2⟩, ⟨f1, f2⟩, E, ⟨g1, g2, g3, g4⟩, k1, ks⟩ := id hI
  have hc : ∀ c, c < 40 → S' (98 + c) = S (98 + c) := fun c hc => e (98 + c) (by omega)
  have kk : ∀ c : Nat, (c : Int) < S 85 1 → keyC S' c = keyC S c ∧ codC S' c = codC S c := fun c x => key_of (fun j _ => by rw [hc c (by omega)])
  refine ⟨⟨hE, hpl', hD', hB⟩, ⟨⟨fun b hb => e b (by omega), fun b hb => fL b (by omega) (by omega)⟩, ⟨by rw [e85]; exact Int.le_refl _, fun c x => by rw [hc c (by omega)]; exact ⟨fun _ _ => rfl, rfl, fun _ h => h⟩⟩, ⟨by rw [e86]; exact Int.le_refl _, fun i hi => hC i (by omega)⟩, by rw [e 92 (by omega)]; exact fun _ _ h => h, ⟨by rw [e85]; exact Int.le_refl _, fun k _ => by rw [e 93 (by omega)]⟩, by rw [e85]; exact Int.le_refl _, fun c x => Or.inl (by rw [e85] at x; exact x)⟩, ⟨⟨by rw [e86]; omega, by rw [e86]; exact hT, fun i j hi hj q => ?_⟩, fun i hi => ?_, ⟨by rw [e85]; exact c1, fun c x => ?_⟩, ⟨fun q hq => ?_, fun c x => ?_⟩, by rw [e 92 (by omega), e85]; exact E, ⟨by rw [e85]; exact g1, fun k x => ?_, fun k l x y q => ?_, fun c b x y => ?_⟩, by rw [e85]; exact k1, ?_⟩, ⟨?_, ?_, ?_⟩, by rw [e85]; exact Or.inl⟩
  · rw [e86] at hi hj
    rw [(hC i (by omega)).1, (hC j (by omega)).1] at q
    exact a3 i j hi hj q
  · rw [e86] at hi
    obtain ⟨u1, c, x, pl, p, u2, u3⟩ := b1 i hi
    rw [e86, (hC i (by omega)).2]
    have kc := (kk c u2.1).1
    exact ⟨u1, c, x, pl, p, en_of kc (by rw [e85]; exact Int.le_refl _) (hC i (by omega)).1 u2, by rw [kc]; exact itV_of he u3⟩
  · rw [e85] at x
    have kc := (kk c x).1
    have u := c2 c x
    have ec := hc c (by omega)
    unfold csC at *
    rw [ec, e86, e85, kc, bm_of he]
    refine ⟨u.1, u.2.1, ?_, u.2.2.2.1, u.2.2.2.2.1, kyV_of he u.2.2.2.2.2.1, u.2.2.2.2.2.2⟩
    rw [cn_of _ (fun i hi => (hC i hi).1)]
    exact u.2.2.1
  · rw [e 91 (by omega), e85]
    have u := f1 q hq
    exact ⟨u.1, u.2.1, fun z => by rw [(kk _ (by omega)).2]; exact u.2.2 z⟩
  · rw [e85] at x
    rw [e 91 (by omega), (kk c x).2]
    exact f2 c x
  · rw [e85] at x
    rw [e 93 (by omega), e85]
    have u := g2 k x
    exact ⟨u.1, u.2.1, by rw [hc _ (by omega)]; exact u.2.2⟩
  · rw [e85] at x y
    rw [e 93 (by omega)] at q
    exact g3 k l x y q
  · rw [e85] at x
    rw [hc c (by omega)] at y
    rw [e85, e 93 (by omega)]
    exact g4 c b x y
  · unfold scV at *
    rw [e 94 (by omega), e (94 + 1) (by omega), e (94 + 2) (by omega), e (94 + 3) (by omega)]
    exact ks
  · rintro κ pl p ⟨i, c, x, y1, y2, y3⟩
    rw [e86] at y1
    have y0 := y3.1
    rw [e85] at y0
    have kc := (kk c y0).1
    exact hS.1 κ pl p ⟨i, c, x, y1, by rw [kc] at y2; exact y2, en_of kc.symm (by rw [e85]; exact Int.le_refl _) (hC i (by omega)).1.symm y3⟩
  · rintro κ b ⟨y0, c, y1, y2, y3⟩
    rw [e85] at y1
    rw [(kk c y1).1] at y2
    rw [hc c (by omega)] at y3
    exact hS.2.1 κ b ⟨y0, c, y1, y2, y3⟩
  · unfold WC
    rw [e 92 (by omega)]
    exact hS.2.2
theorem cn_R {c : Nat} : ∀ N, 0 ≤ cnC L p1 c N ∧ cnC L p1 c N ≤ N
  | 0 => by simp [cnC]
  | N + 1 => by
    have := cn_R (c := c) N
    unfold cnC
    split <;> omega
theorem cn_ex {c : Nat} : ∀ (N k : Nat), (k : Int) ≤ cnC L p1 c N → ∃ f : Nat → Nat, (∀ i, i < k → f i < N ∧ (L p1 (f i)).toInt / 1125899906842624 % 64 = c) ∧ ∀ i j, i < k → j < k → f i = f j → i = j
  | 0, k, h => by
    have : k = 0 := by simp only [cnC] at h; omega
    subst this
    exact ⟨fun _ => 0, fun i hi => absurd hi (Nat.not_lt_zero i), fun i j hi => absurd hi (Nat.not_lt_zero i)⟩
  | N + 1, 0, h => ⟨fun _ => 0, fun i hi => absurd hi (Nat.not_lt_zero i), fun i j hi => absurd hi (Nat.not_lt_zero i)⟩
  | N + 1, k + 1, h => by
    unfold cnC at h
    by_cases z : (L p1 N).toInt / 1125899906842624 % 64 = c
    · rw [if_pos z] at h
      obtain ⟨f, h1, h2⟩ := cn_ex (c := c) N k (by omega)
      refine ⟨fun i => if i < k then f i else N, fun i hi => ?_, fun i j hi hj q => ?_⟩
      · by_cases y : i < k
        · simp only [y, if_true]
          have := h1 i y
          exact ⟨by omega, this.2⟩
        · simp only [y, if_false]
          exact ⟨by omega, z⟩
      · by_cases y1 : i < k <;> by_cases y2 : j < k
        · simp only [y1, y2, if_true] at q
          exact h2 i j y1 y2 q
        · simp only [y1, y2, if_true, if_false] at q
          have := (h1 i y1).1
          omega
        · simp only [y1, y2, if_true, if_false] at q
          have := (h1 j y2).1
          omega
        · omega
    · rw [if_neg z] at h
      obtain ⟨f, h1, h2⟩ := cn_ex (c := c) N (k + 1) (by omega)
      exact ⟨f, fun i hi => ⟨by have := (h1 i hi).1; omega, (h1 i hi).2⟩, h2⟩
/-- 2001 scenes of one CASE are too many -/
theorem ov_cn {N c : Nat} (hX : ∀ i, i < N → ∃ a x pl p, enC S L p1 i a x pl p ∧ X (keyC S a) pl p) (h40 : S 85 1 ≤ 40) (hd : ∀ i j, i < N → j < N → L p1 i = L p1 j → i = j) (hn : 2001 ≤ cnC L p1 c N) : OvX X := by
  obtain ⟨f, f1, f2⟩ := cn_ex (L := L) (p1 := p1) (c := c) N 2001 hn
  have key : ∀ i, i < 2001 → ∃ z : Nat × Int, X (keyC S c) z.1 z.2 ∧ ∃ x, enC S L p1 (f i) c x z.1 z.2 := fun i hi => by
    obtain ⟨h1, h2⟩ := f1 i hi
    obtain ⟨a, x, pl, p, y1, y2⟩ := hX (f i) h1
    have q1 := y1.1
    have q2 := y1.2.1
    have q3 := y1.2.2.1
    have : a = c := by omega
    subst this
    exact ⟨(pl, p), y2, x, y1⟩
  refine Or.inl ⟨keyC S c, fun i => if h : i < 2001 then Classical.choose (key i h) else (0, 0), fun i hi => ?_, fun i j hi hj q => ?_⟩
  · simp only [hi, dif_pos]
    exact (Classical.choose_spec (key i hi)).1
  · simp only [hi, hj, dif_pos] at q
    obtain ⟨-, x, u⟩ := Classical.choose_spec (key i hi)
    obtain ⟨-, x', u'⟩ := Classical.choose_spec (key j hj)
    rw [q] at u
    have ex := lnk_inj u.2.2.2 u'.2.2.2
    have e1 := u.2.1
    have e2 := u'.2.1
    rw [← ex] at e2
    have : L p1 (f i) = L p1 (f j) := Int64.toInt_inj.mp (e1.trans e2.symm)
    exact f2 i j hi hj (hd _ _ (f1 i hi).1 (f1 j hj).1 this)
end
