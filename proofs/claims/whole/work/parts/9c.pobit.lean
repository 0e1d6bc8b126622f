/-! ===== a way in which a CASE ends ===== -/
theorem news_room {S : mm_S} {L : mm_L} {p1 p2 p3 n : Nat} (hI : imC S L p1 p2 p3 n) {c b : Nat} (hc : (c : Int) < S 85 1) (hb : b < 16) (hn : ¬ bt (S (98 + c) 4) b) : S 85 8 < 640 := by
  obtain ⟨-, -, ⟨c1, -⟩, -, -, ⟨g1, g2, g3, -⟩, -, -⟩ := hI
  by_cases h : S 85 8 < 640
  · exact h
  · exfalso
    have h6 : S 85 8 = 640 := by omega
    have hne : ∀ k : Nat, k < 640 → S 93 k ≠ 16 * (c : Int) + b := fun k hk e => by
      have u := (g2 k (by omega)).2.2
      have e1 : (S 93 k / 16).toNat = c := by omega
      have e2 : (S 93 k % 16).toNat = b := by omega
      rw [e1, e2] at u
      exact hn u
    have := inj_le 641 640 (fun k => if k < 640 then (S 93 k).toNat else 16 * c + b) (fun k hk => by
      by_cases z : k < 640
      · simp only [z, if_true]
        have := (g2 k (by omega)).1
        omega
      · simp only [z, if_false]
        omega) (fun i j hi hj e => by
      by_cases z1 : i < 640 <;> by_cases z2 : j < 640
      · simp only [z1, z2, if_true] at e
        have u1 := (g2 i (by omega)).1
        have u2 := (g2 j (by omega)).1
        exact g3 i j (by omega) (by omega) (by omega)
      · simp only [z1, z2, if_true, if_false] at e
        have u1 := (g2 i (by omega)).1
        exact absurd (show S 93 i = 16 * (c : Int) + b by omega) (hne i z1)
      · simp only [z1, z2, if_true, if_false] at e
        have u1 := (g2 j (by omega)).1
        exact absurd (show S 93 j = 16 * (c : Int) + b by omega) (hne j z2)
      · omega)
    omega
theorem po_bt {sh : List mm_H} {S : mm_S} {L : mm_L} {p1 p2 p3 n : Nat} (hpl : plS sh p1 p2 p3 n) (hD : plD p1 p2 p3 n) (hI : imC S L p1 p2 p3 n) {X : XT} {F : FT} {W : WT} (hS : SubC S L p1 X F W) {c b : Nat} (hc : (c : Int) < S 85 1) (hb : b < 16) (hbm : ((b % 8 : Nat) : Int) < bmS S (keyC S c)) (hF : F (keyC S c) b) (hn : ¬ bt (S (98 + c) 4) b) : poC sh S L p1 p2 n X F W sh (up2 (up2 (up2 S (98 + c) 4 (orB (S (98 + c) 4) b)) 85 8 (S 85 8 + 1)) 93 (S 85 8).toNat ((c : Int) * 2 * 8 + b)) L p1 p2 p3 n ∧ FC (up2 (up2 (up2 S (98 + c) 4 (orB (S (98 + c) 4) b)) 85 8 (S 85 8 + 1)) 93 (S 85 8).toNat ((c : Int) * 2 * 8 + b)) (keyC S c) b := by
  have hroom := news_room hI hc hb hn
  obtain ⟨S1, hS1⟩ : ∃ S1, up2 (up2 (up2 S (98 + c) 4 (orB (S (98 + c) 4) b)) 85 8 (S 85 8 + 1)) 93 (S 85 8).toNat ((c : Int) * 2 * 8 + b) = S1 := ⟨_, rfl⟩
  have h40 := hI.2.2.1.1
  have hnc := hI.2.2.2.2.2.1.1
  have hc40 : c < 40 := by omega
  have e : ∀ a, a ≠ 93 → a ≠ 85 → a ≠ 98 + c → S1 a = S a := fun a a1 a2 a3 => by rw [← hS1, up2_row a1, up2_row a2, up2_row a3]
  have e5 : ∀ j, j ≠ 8 → S1 85 j = S 85 j := fun j hj => by rw [← hS1, up2_rd (by omega), up2_rc hj, up2_rd (by omega)]
  have e58 : S1 85 8 = S 85 8 + 1 := by rw [← hS1, up2_rd (by omega), up2_same]
  have ec : ∀ j, j ≠ 4 → S1 (98 + c) j = S (98 + c) j := fun j hj => by rw [← hS1, up2_rd (by omega), up2_rd (by omega), up2_rc hj]
  have ec4 : S1 (98 + c) 4 = orB (S (98 + c) 4) b := by rw [← hS1, up2_rd (by omega), up2_rd (by omega), up2_same]
  have e9 : ∀ j : Nat, (j : Int) < S 85 8 → S1 93 j = S 93 j := fun j hj => by rw [← hS1, up2_rc (by omega), up2_rd (by omega), up2_rd (by omega)]
  have e9x : S1 93 (S 85 8).toNat = 16 * (c : Int) + b := by rw [← hS1, up2_same]; omega
  rw [hS1]
  clear hS1
  obtain ⟨⟨d1, d2, d3⟩, d4, -⟩ := id hD
  have he : bkE S S1 := ⟨fun b _ _ => e b (by omega) (by omega) (by omega), by rw [e 181 (by omega) (by omega) (by omega)], by rw [e 181 (by omega) (by omega) (by omega)]⟩
  have ekj : ∀ a j, j < 4 → S1 (98 + a) j = S (98 + a) j := fun a j hj => by
    by_cases z : a = c
    · rw [z]; exact ec j (by omega)
    · rw [e (98 + a) (by omega) (by omega) (by omega)]
  have kk : ∀ a, keyC S1 a = keyC S a ∧ codC S1 a = codC S a := fun a => key_of (ekj a)
  obtain ⟨⟨a1, a2, a3⟩, b1, ⟨c1, c2⟩, ⟨f1, f2⟩, E, ⟨g1, g2, g3, g4⟩, k1, ks⟩ := id hI
  have hp0 := (c2 c hc).2.1
  have up4 : ∀ (a q : Nat), bt (S (98 + a) 4) q → bt (S1 (98 + a) 4) q := fun a q z => by
    by_cases y : a = c
    · rw [y, ec4]; rw [y] at z; exact (orB_bt hp0.1).mpr (Or.inl z)
    · rw [e (98 + a) (by omega) (by omega) (by omega)]; exact z
  have dn4 : ∀ (a q : Nat), bt (S1 (98 + a) 4) q → bt (S (98 + a) 4) q ∨ (a = c ∧ q = b) := fun a q z => by
    by_cases y : a = c
    · rw [y, ec4] at z
      rcases (orB_bt hp0.1).mp z with x | x
      · left; rw [y]; exact x
      · exact Or.inr ⟨y, x⟩
    · rw [e (98 + a) (by omega) (by omega) (by omega)] at z; exact Or.inl z
  have e86 : S1 86 = S 86 := e 86 (by omega) (by omega) (by omega)
  have eX : XC S1 L p1 = XC S L p1 := by
    funext κ pl p
    apply propext
    constructor
    · rintro ⟨i, a, x, y1, y2, y3⟩
      exact ⟨i, a, x, by rw [e86] at y1; exact y1, by rw [(kk a).1] at y2; exact y2, en_of (kk a).1.symm (by rw [e5 1 (by omega)]; exact Int.le_refl _) rfl y3⟩
    · rintro ⟨i, a, x, y1, y2, y3⟩
      exact ⟨i, a, x, by rw [e86]; exact y1, by rw [(kk a).1]; exact y2, en_of (kk a).1 (by rw [e5 1 (by omega)]; exact Int.le_refl _) rfl y3⟩
  have eW : WC S1 = WC S := by unfold WC; rw [e 92 (by omega) (by omega) (by omega)]
  refine ⟨⟨⟨shE_rf sh, hpl, hD, fun _ h => h⟩, ⟨⟨fun a ha => e a (by omega) (by omega) (by omega), fun _ _ => rfl⟩, ⟨by rw [e5 1 (by omega)]; exact Int.le_refl _, fun a ha => ⟨ekj a, ?_, up4 a⟩⟩, ⟨by rw [e86]; exact Int.le_refl _, fun i hi => ⟨rfl, by rw [e p2 (by omega) (by omega) (by omega)]⟩⟩, by rw [e 92 (by omega) (by omega) (by omega)]; exact fun _ _ h => h, ⟨by omega, fun k hk => e9 k hk⟩, by rw [e5 0 (by omega)]; exact Int.le_refl _, fun a ha => Or.inl (by rw [e5 1 (by omega)] at ha; exact ha)⟩, ⟨⟨by rw [e86]; exact a1, ?_, fun i j hi hj q => ?_⟩, fun i hi => ?_, ⟨by rw [e5 1 (by omega)]; exact c1, fun a x => ?_⟩, ⟨fun q hq => ?_, fun a x => ?_⟩, by rw [e 92 (by omega) (by omega) (by omega), e5 2 (by omega)]; exact E, ⟨by omega, fun k x => ?_, fun k l x y q => ?_, fun a q x y => ?_⟩, by rw [e5 0 (by omega)]; exact k1, ?_⟩, ⟨by rw [eX]; exact hS.1, fun κ q z => ?_, by rw [eW]; exact hS.2.2⟩, by rw [e5 0 (by omega)]; exact Or.inl⟩, ⟨by omega, c, by rw [e5 1 (by omega)]; exact hc, (kk c).1, by rw [ec4, Int.toNat_natCast]; exact (orB_bt hp0.1).mpr (Or.inr rfl)⟩⟩
  · by_cases z : a = c
    · rw [z]; exact ec 6 (by omega)
    · rw [e (98 + a) (by omega) (by omega) (by omega)]
  · unfold plT at *
    rw [e86, e p3 (by omega) (by omega) (by omega)]
    exact a2
  · rw [e86] at hi hj
    exact a3 i j hi hj q
  · rw [e86] at hi
    obtain ⟨u1, a, x, pl, p, u2, u3⟩ := b1 i hi
    rw [e86, e p2 (by omega) (by omega) (by omega)]
    exact ⟨u1, a, x, pl, p, en_of (kk a).1 (by rw [e5 1 (by omega)]; exact Int.le_refl _) rfl u2, by rw [(kk a).1]; exact itV_of he u3⟩
  · rw [e5 1 (by omega)] at x
    have u := c2 a x
    by_cases z : a = c
    · subst z
      unfold csC at *
      rw [ec 0 (by omega), ec 1 (by omega), ec 2 (by omega), ec 3 (by omega), ec 5 (by omega), ec 6 (by omega), ec4, e86, e5 0 (by omega), (kk a).1, bm_of he]
      refine ⟨u.1, orB_lt (n := 16) hp0 hb, u.2.2.1, u.2.2.2.1, u.2.2.2.2.1, kyV_of he u.2.2.2.2.2.1, fun q hq => ?_⟩
      rcases (orB_bt hp0.1).mp hq with y | y
      · exact u.2.2.2.2.2.2 q y
      · rw [y]; exact ⟨hbm, hb⟩
    · have ea := e (98 + a) (by omega) (by omega) (by omega)
      unfold csC at *
      rw [ea, e86, e5 0 (by omega), (kk a).1, bm_of he]
      exact ⟨u.1, u.2.1, u.2.2.1, u.2.2.2.1, u.2.2.2.2.1, kyV_of he u.2.2.2.2.2.1, u.2.2.2.2.2.2⟩
  · rw [e 91 (by omega) (by omega) (by omega), e5 1 (by omega)]
    have u := f1 q hq
    exact ⟨u.1, u.2.1, fun z => by rw [(kk _).2]; exact u.2.2 z⟩
  · rw [e5 1 (by omega)] at x
    rw [e 91 (by omega) (by omega) (by omega), (kk a).2]
    exact f2 a x
  · rw [e5 1 (by omega)]
    by_cases z : (k : Int) < S 85 8
    · rw [e9 k z]
      have u := g2 k z
      exact ⟨u.1, u.2.1, up4 _ _ u.2.2⟩
    · have hk : k = (S 85 8).toNat := by omega
      rw [hk, e9x]
      have q1 : ((16 * (c : Int) + b) / 16).toNat = c := by omega
      have q2 : ((16 * (c : Int) + b) % 16).toNat = b := by omega
      refine ⟨by omega, by omega, ?_⟩
      rw [q1, q2, ec4]
      exact (orB_bt hp0.1).mpr (Or.inr rfl)
  · have hne : ∀ k : Nat, (k : Int) < S 85 8 → S 93 k ≠ 16 * (c : Int) + b := fun k hk e => by
      have u := (g2 k hk).2.2
      have e1 : (S 93 k / 16).toNat = c := by omega
      have e2 : (S 93 k % 16).toNat = b := by omega
      rw [e1, e2] at u
      exact hn u
    by_cases z1 : (k : Int) < S 85 8 <;> by_cases z2 : (l : Int) < S 85 8
    · rw [e9 k z1, e9 l z2] at q
      exact g3 k l z1 z2 q
    · have hl : l = (S 85 8).toNat := by omega
      rw [e9 k z1, hl, e9x] at q
      exact absurd q (hne k z1)
    · have hk : k = (S 85 8).toNat := by omega
      rw [e9 l z2, hk, e9x] at q
      exact absurd q.symm (hne l z2)
    · omega
  · rw [e5 1 (by omega)] at x
    rcases dn4 a q y with z | ⟨z1, z2⟩
    · obtain ⟨k, y1, y2⟩ := g4 a q x z
      exact ⟨k, by omega, by rw [e9 k y1]; exact y2⟩
    · exact ⟨(S 85 8).toNat, by omega, by rw [e9x, z1, z2]⟩
  · unfold scV at *
    rw [e 94 (by omega) (by omega) (by omega), e (94 + 1) (by omega) (by omega) (by omega), e (94 + 2) (by omega) (by omega) (by omega), e (94 + 3) (by omega) (by omega) (by omega)]
    exact ks
  · obtain ⟨z0, a, z1, z2, z3⟩ := z
    rw [e5 1 (by omega)] at z1
    rw [(kk a).1] at z2
    rcases dn4 a _ z3 with y | ⟨y1, y2⟩
    · exact hS.2.1 κ q ⟨z0, a, z1, z2, y⟩
    · rw [← z2, y1, show q = ((b : Nat) : Int) by omega]
      exact hF
