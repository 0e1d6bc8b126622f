/-! ===== a CASE more ===== -/
section
variable {S S' : mm_S} {L : mm_L} {p1 p2 p3 n : Nat} {X : XT} {F : FT} {W : WT}
theorem cn_0 {c : Nat} : ∀ N, (∀ i, i < N → (L p1 i).toInt / 1125899906842624 % 64 ≠ c) → cnC L p1 c N = 0
  | 0, _ => rfl
  | N + 1, h => by
    show cnC L p1 c N + (if (L p1 N).toInt / 1125899906842624 % 64 = c then 1 else 0) = 0
    rw [cn_0 N (fun i hi => h i (by omega)), if_neg (h N (by omega))]
    rfl
theorem bt_z {b : Nat} : ¬ bt 0 b := by
  unfold bt
  rw [Int.zero_ediv]
  decide
theorem po_new (hD : plD p1 p2 p3 n) (hI : imC S L p1 p2 p3 n) (hS : SubC S L p1 X F W) {N0 : Nat} (hN : S 85 1 = N0) (hN40 : N0 < 40) {r h k s cod : Int} (hr : 0 ≤ r ∧ r < 6) (hh : 0 ≤ h ∧ h ≤ 2) (hk : 0 ≤ k ∧ k < 6) (hs : 0 ≤ s ∧ s < 6) (hcod : cod = ((h * 6 + r) * 6 + k) * 6 + s) (hc4 : cod < 433) (hno : S 91 cod.toNat = -1) (hky : kyV S (soC h, r.toNat, k, s)) (e : ∀ b, b ≠ 85 → b ≠ 91 → b ≠ 98 + N0 → b < 94 ∨ 97 < b → S' b = S b) (e1 : S' 85 1 = (N0 : Int) + 1) (e5 : ∀ j, j ≠ 1 → S' 85 j = S 85 j) (e9 : S' 91 cod.toNat = N0) (e9o : ∀ q, q ≠ cod.toNat → S' 91 q = S 91 q) (c0 : S' (98 + N0) 0 = r) (c1 : S' (98 + N0) 1 = h) (c2 : S' (98 + N0) 2 = k) (c3 : S' (98 + N0) 3 = s) (c4 : S' (98 + N0) 4 = 0) (c5 : S' (98 + N0) 5 = 0) (c6 : S' (98 + N0) 6 = -1) (hsc : scV S' 94) : imC S' L p1 p2 p3 n ∧ SubC S' L p1 X F W ∧ keyC S' N0 = (soC h, r.toNat, k, s) ∧ ∀ S2 L2 q1 q2, grC S' L p1 p2 S2 L2 q1 q2 → XC S2 L2 q1 (keyC S' N0) 0 (pkM (bgR (keyC S' N0))) → grC S L p1 p2 S2 L2 q1 q2 := by
  obtain ⟨⟨d1, d2, d3⟩, d4, -⟩ := id hD
  obtain ⟨⟨a1, a2, a3⟩, b1, ⟨k1, k2⟩, ⟨f1, f2⟩, E, ⟨g1, g2, g3, g4⟩, h01, -⟩ := id hI
  have eo : ∀ a, a < N0 → S' (98 + a) = S (98 + a) := fun a ha => e (98 + a) (by omega) (by omega) (by omega) (by omega)
  have kk : ∀ a, a < N0 → keyC S' a = keyC S a ∧ codC S' a = codC S a := fun a ha => key_of (fun j _ => by rw [eo a ha])
  have kN : keyC S' N0 = (soC h, r.toNat, k, s) := by
    unfold keyC
    rw [c0, c1, c2, c3]
  have cN : codC S' N0 = cod := by
    unfold codC
    rw [c0, c1, c2, c3, hcod]
  have he : bkE S S' := ⟨fun b _ _ => e b (by omega) (by omega) (by omega) (by omega), by rw [e 181 (by omega) (by omega) (by omega) (by omega)], by rw [e 181 (by omega) (by omega) (by omega) (by omega)]⟩
  have e86 : S' 86 = S 86 := e 86 (by omega) (by omega) (by omega) (by omega)
  have e92 : S' 92 = S 92 := e 92 (by omega) (by omega) (by omega) (by omega)
  have e93 : S' 93 = S 93 := e 93 (by omega) (by omega) (by omega) (by omega)
  have ep2 : S' p2 = S p2 := e p2 (by omega) (by omega) (by omega) (by omega)
  have ep3 : S' p3 = S p3 := e p3 (by omega) (by omega) (by omega) (by omega)
  have hcode : ∀ i : Nat, (i : Int) < S 86 0 → ∀ a x pl p, enC S' L p1 i a x pl p → a < N0 := fun i hi a x pl p u => by
    obtain ⟨-, a', x', pl', p', u2, -⟩ := b1 i hi
    have q1 := u.2.1
    have q2 := u.2.2.1
    have q3 := u2.2.1
    have q4 := u2.2.2.1
    have q5 := u2.1
    omega
  refine ⟨⟨⟨by rw [e86]; exact a1, ?_, fun i j hi hj q => ?_⟩, fun i hi => ?_, ⟨by omega, fun a x => ?_⟩, ⟨fun q hq => ?_, fun a x => ?_⟩, by rw [e92, e5 2 (by omega)]; exact E, ⟨by rw [e5 8 (by omega)]; exact g1, fun q x => ?_, fun q l x y z => ?_, fun a b x y => ?_⟩, by rw [e5 0 (by omega)]; exact h01, hsc⟩, ⟨?_, ?_, ?_⟩, kN, fun S2 L2 q1 q2 gr hx => ?_⟩
  · unfold plT at *
    rw [e86, ep3]
    exact a2
  · rw [e86] at hi hj
    exact a3 i j hi hj q
  · rw [e86] at hi
    obtain ⟨u1, a, x, pl, p, u2, u3⟩ := b1 i hi
    have ha : a < N0 := by have := u2.1; omega
    rw [e86, ep2]
    exact ⟨u1, a, x, pl, p, en_of (kk a ha).1 (by omega) rfl u2, by rw [(kk a ha).1]; exact itV_of he u3⟩
  · by_cases y : a < N0
    · have u := k2 a (by omega)
      unfold csC at *
      rw [eo a y, e86, e5 0 (by omega), (kk a y).1, bm_of he]
      exact ⟨u.1, u.2.1, u.2.2.1, u.2.2.2.1, u.2.2.2.2.1, kyV_of he u.2.2.2.2.2.1, u.2.2.2.2.2.2⟩
    · have ha : a = N0 := by omega
      subst ha
      have hcn : cnC L p1 a (S 86 0).toNat = 0 := cn_0 _ (fun i hi q => by
        obtain ⟨-, a', x', pl', p', u2, -⟩ := b1 i (by omega)
        have q3 := u2.2.1
        have q4 := u2.2.2.1
        have q5 := u2.1
        omega)
      unfold csC
      rw [kN, c0, c1, c2, c3, c4, c5, c6, e86, hcn]
      exact ⟨⟨hr, hh, hk, hs⟩, by omega, rfl, by omega, by omega, kyV_of he hky, fun b hb => absurd hb bt_z⟩
  · by_cases y : q = cod.toNat
    · rw [y, e9]
      refine ⟨by omega, by omega, fun _ => ?_⟩
      rw [Int.toNat_natCast, cN]
      omega
    · rw [e9o q y]
      have u := f1 q hq
      exact ⟨u.1, by omega, fun z => by rw [(kk _ (by omega)).2]; exact u.2.2 z⟩
  · by_cases y : a < N0
    · rw [(kk a y).2]
      have u := f2 a (by omega)
      rw [e9o _ (fun z => by rw [z, hno] at u; omega)]
      exact u
    · have ha : a = N0 := by omega
      rw [ha, cN, e9]
  · rw [e5 8 (by omega)] at x
    rw [e93]
    have u := g2 q x
    exact ⟨u.1, by omega, by rw [eo _ (by omega)]; exact u.2.2⟩
  · rw [e5 8 (by omega)] at x y
    rw [e93] at z
    exact g3 q l x y z
  · rw [e5 8 (by omega), e93]
    by_cases w : a < N0
    · rw [eo a w] at y
      exact g4 a b (by omega) y
    · have ha : a = N0 := by omega
      rw [ha, c4] at y
      exact absurd y bt_z
  · rintro κ pl p ⟨i, a, x, y1, y2, y3⟩
    rw [e86] at y1
    have ha := hcode i y1 a x pl p y3
    have ka := (kk a ha).1
    obtain ⟨z1, z2, z3, z4⟩ := y3
    exact hS.1 κ pl p ⟨i, a, x, y1, by rw [ka] at y2; exact y2, by omega, z2, z3, by rw [ka] at z4; exact z4⟩
  · rintro κ b ⟨y0, a, y1, y2, y3⟩
    by_cases w : a < N0
    · rw [(kk a w).1] at y2
      rw [eo a w] at y3
      exact hS.2.1 κ b ⟨y0, a, by omega, y2, y3⟩
    · have ha : a = N0 := by omega
      rw [ha, c4] at y3
      exact absurd y3 bt_z
  · unfold WC
    rw [e92]
    exact hS.2.2
  · have hk2 := gr_key gr (c := N0) (by omega)
    obtain ⟨⟨x1, x2⟩, ⟨x3, x4⟩, ⟨x5, x6⟩, x7, ⟨x8, x9⟩, x10, x11⟩ := gr
    refine ⟨⟨fun b hb => (x1 b hb).trans (e b (by omega) (by omega) (by omega) (by omega)), x2⟩, ⟨by omega, fun a ha => ?_⟩, ⟨by rw [e86] at x5; exact x5, fun i hi => ?_⟩, by rw [e92] at x7; exact x7, ⟨by rw [e5 8 (by omega)] at x8; exact x8, fun q hq => ?_⟩, by rw [e5 0 (by omega)] at x10; exact x10, fun a ha => ?_⟩
    · have u := x4 a (by omega)
      rw [eo a (by omega)] at u
      exact u
    · have u := x6 i (by rw [e86]; exact hi)
      rw [ep2] at u
      exact u
    · have u := x9 q (by rw [e5 8 (by omega)]; exact hq)
      rw [e93] at u
      exact u
    · rcases x11 a ha with z | z
      · by_cases w : a < N0
        · exact Or.inl (by omega)
        · have : a = N0 := by omega
          subst this
          right
          rw [hk2]
          exact ⟨hx, by rw [(x4 a (by omega)).2.1]; exact c6⟩
      · exact Or.inr z
end
