/-! ===== what a step of the class's judge keeps ===== -/
section
variable {S S' : mm_S} {L L' : mm_L} {p1 p2 p3 n q1 : Nat} {X : XT} {F : FT} {W : WT}
theorem key_of {c : Nat} (h : ∀ j, j < 4 → S' (98 + c) j = S (98 + c) j) : keyC S' c = keyC S c ∧ codC S' c = codC S c := by
  unfold keyC codC
  rw [h 0 (by omega), h 1 (by omega), h 2 (by omega), h 3 (by omega)]
  exact ⟨rfl, rfl⟩
theorem en_of {i c : Nat} {x : Int} {pl : Nat} {p : Int} (hk : keyC S' c = keyC S c) (h1 : S 85 1 ≤ S' 85 1) (hl : L' q1 i = L p1 i) (h : enC S L p1 i c x pl p) : enC S' L' q1 i c x pl p := by
  obtain ⟨a1, a2, a3, a4⟩ := h
  exact ⟨by omega, by rw [hl]; exact a2, a3, by rw [hk]; exact a4⟩
theorem cn_of {c : Nat} : ∀ N, (∀ i, i < N → L' q1 i = L p1 i) → cnC L' q1 c N = cnC L p1 c N
  | 0, _ => rfl
  | N + 1, h => by
    unfold cnC
    rw [cn_of N (fun i hi => h i (by omega)), h N (by omega)]
theorem bm_of (he : bkE S S') (κ : kyT) : bmS S' κ = bmS S κ := by
  unfold bmS
  rw [he.1 182 (by omega) (by omega)]
/-- the pool, the CASES and the news stay -/
theorem im_con (hI : imC S L p1 p2 p3 n) (he : bkE S S') (h0 : S' 85 0 = S 85 0) (h1 : S' 85 1 = S 85 1) (h8 : S' 85 8 = S 85 8) (h86 : S' 86 = S 86) (h2 : S' p2 = S p2) (h3 : S' p3 = S p3) (hc : ∀ c, c < 40 → S' (98 + c) = S (98 + c)) (h91 : S' 91 = S 91) (h93 : S' 93 = S 93) (hL : L' p1 = L p1) (hE : (∀ x : Nat, x < 150 → 0 ≤ S' 92 x ∧ S' 92 x < 64) ∧ S' 85 2 = wO (S' 92) 150) (hs : scV S' 94) : imC S' L' p1 p2 p3 n := by
  obtain ⟨⟨a1, a2, a3⟩, b1, ⟨c1, c2⟩, ⟨d1, d2⟩, -, ⟨g1, g2, g3, g4⟩, k1, -⟩ := hI
  have kk : ∀ c : Nat, (c : Int) < S 85 1 → keyC S' c = keyC S c ∧ codC S' c = codC S c := fun c x => key_of (fun j _ => by rw [hc c (by omega)])
  refine ⟨⟨by rw [h86]; exact a1, ?_, fun i j hi hj e => ?_⟩, fun i hi => ?_, ⟨by rw [h1]; exact c1, fun c x => ?_⟩, ⟨fun q hq => ?_, fun c x => ?_⟩, hE, ⟨by rw [h8]; exact g1, fun k x => ?_, fun k l x y e => ?_, fun c b x y => ?_⟩, by rw [h0]; exact k1, hs⟩
  · unfold plT at *
    rw [h86, h3, hL]
    exact a2
  · rw [h86] at hi hj
    rw [hL] at e
    exact a3 i j hi hj e
  · rw [h86] at hi
    obtain ⟨u1, c, x, pl, p, u2, u3⟩ := b1 i hi
    rw [h86, h2]
    have kc := (kk c u2.1).1
    exact ⟨u1, c, x, pl, p, en_of kc (by omega) (by rw [hL]) u2, by rw [kc]; exact itV_of he u3⟩
  · rw [h1] at x
    have kc := (kk c x).1
    have u := c2 c x
    have ec := hc c (by omega)
    unfold csC at *
    rw [ec, h86, h0, kc, bm_of he]
    refine ⟨u.1, u.2.1, ?_, u.2.2.2.1, u.2.2.2.2.1, kyV_of he u.2.2.2.2.2.1, u.2.2.2.2.2.2⟩
    rw [cn_of _ (fun i _ => by rw [hL])]
    exact u.2.2.1
  · rw [h91, h1]
    have u := d1 q hq
    exact ⟨u.1, u.2.1, fun z => by rw [(kk _ (by omega)).2]; exact u.2.2 z⟩
  · rw [h1] at x
    rw [h91, (kk c x).2]
    exact d2 c x
  · rw [h8] at x
    rw [h93, h1]
    have u := g2 k x
    exact ⟨u.1, u.2.1, by rw [hc _ (by omega)]; exact u.2.2⟩
  · rw [h8] at x y
    rw [h93] at e
    exact g3 k l x y e
  · rw [h1] at x
    rw [hc c (by omega)] at y
    rw [h8, h93]
    exact g4 c b x y
theorem XC_con (hb : S 85 1 ≤ 40) (h1 : S' 85 1 = S 85 1) (h86 : S' 86 = S 86) (hc : ∀ c, c < 40 → S' (98 + c) = S (98 + c)) (hL : L' p1 = L p1) : XC S' L' p1 = XC S L p1 ∧ FC S' = FC S := by
  have kk : ∀ c : Nat, (c : Int) < S 85 1 → keyC S' c = keyC S c := fun c x => (key_of (fun j _ => by rw [hc c (by omega)])).1
  constructor
  · funext κ pl p
    apply propext
    constructor
    · rintro ⟨i, c, x, a1, a2, a3⟩
      have hc := a3.1
      rw [h1] at hc
      have kc := kk c hc
      exact ⟨i, c, x, by rw [h86] at a1; exact a1, by rw [kc] at a2; exact a2, en_of kc.symm (by omega) (by rw [hL]) a3⟩
    · rintro ⟨i, c, x, a1, a2, a3⟩
      have kc := kk c a3.1
      exact ⟨i, c, x, by rw [h86]; exact a1, by rw [kc]; exact a2, en_of kc (by omega) (by rw [hL]) a3⟩
  · funext κ b
    apply propext
    constructor
    · rintro ⟨a0, c, a1, a2, a3⟩
      rw [h1] at a1
      have kc := kk c a1
      exact ⟨a0, c, a1, by rw [kc] at a2; exact a2, by rw [hc c (by omega)] at a3; exact a3⟩
    · rintro ⟨a0, c, a1, a2, a3⟩
      have kc := kk c a1
      exact ⟨a0, c, by rw [h1]; exact a1, by rw [kc]; exact a2, by rw [hc c (by omega)]; exact a3⟩
end
def poC (sh : List mm_H) (S : mm_S) (L : mm_L) (p1 p2 n : Nat) (X : XT) (F : FT) (W : WT) (sh' : List mm_H) (S' : mm_S) (L' : mm_L) (q1 q2 q3 m : Nat) : Prop := (shE sh sh' ∧ plS sh' q1 q2 q3 m ∧ plD q1 q2 q3 m ∧ ∀ z0, shB z0 sh n → shB z0 sh' m) ∧ grC S L p1 p2 S' L' q1 q2 ∧ imC S' L' q1 q2 q3 m ∧ SubC S' L' q1 X F W ∧ (S' 85 0 = 1 → S 85 0 = 1 ∨ OvX X)
section
variable {sh sh1 sh2 : List mm_H} {S S1 S2 : mm_S} {L L1 L2 : mm_L} {p1 p2 p3 n q1 q2 q3 m r1 r2 r3 l : Nat} {X : XT} {F : FT} {W : WT}
theorem po_rf (hpl : plS sh p1 p2 p3 n) (hD : plD p1 p2 p3 n) (hI : imC S L p1 p2 p3 n) (hS : SubC S L p1 X F W) : poC sh S L p1 p2 n X F W sh S L p1 p2 p3 n := ⟨⟨shE_rf sh, hpl, hD, fun _ h => h⟩, gr_rf, hI, hS, Or.inl⟩
theorem po_tr (h : poC sh S L p1 p2 n X F W sh1 S1 L1 q1 q2 q3 m) (h2 : poC sh1 S1 L1 q1 q2 m X F W sh2 S2 L2 r1 r2 r3 l) : poC sh S L p1 p2 n X F W sh2 S2 L2 r1 r2 r3 l := by
  obtain ⟨⟨a1, a2, a3, a4⟩, a5, a6, a7, a8⟩ := h
  obtain ⟨⟨b1, b2, b3, b4⟩, b5, b6, b7, b8⟩ := h2
  refine ⟨⟨shE_tr a1 b1, b2, b3, fun z hz => b4 z (a4 z hz)⟩, gr_tr a5 b5, b6, b7, fun e => ?_⟩
  rcases b8 e with z | z
  · exact a8 z
  · exact Or.inr z
/-- only the scene at hand is changed -/
theorem po_sc (hpl : plS sh p1 p2 p3 n) (hD : plD p1 p2 p3 n) (hI : imC S L p1 p2 p3 n) (hS : SubC S L p1 X F W) (hF : scF S S1 94) (hs : scV S1 94) : poC sh S L p1 p2 n X F W sh S1 L p1 p2 p3 n := by
  have e : ∀ b, b < 94 ∨ 97 < b → S1 b = S b := hF
  obtain ⟨⟨d1, d2, d3⟩, d4, -⟩ := id hD
  have h40 := hI.2.2.1.1
  have he : bkE S S1 := ⟨fun b _ _ => e b (by omega), by rw [e 181 (by omega)], by rw [e 181 (by omega)]⟩
  have u := XC_con (S := S) (S' := S1) (L := L) (L' := L) (p1 := p1) h40.2 (by rw [e 85 (by omega)]) (e 86 (by omega)) (fun c _ => e (98 + c) (by omega)) rfl
  have hW : WC S1 = WC S := by unfold WC; rw [e 92 (by omega)]
  refine ⟨⟨shE_rf sh, hpl, hD, fun _ h => h⟩, ⟨⟨fun b hb => e b (by omega), fun _ _ => rfl⟩, ⟨by rw [e 85 (by omega)]; exact Int.le_refl _, fun c hc => by rw [e (98 + c) (by omega)]; exact ⟨fun _ _ => rfl, rfl, fun _ h => h⟩⟩, ⟨by rw [e 86 (by omega)]; exact Int.le_refl _, fun i hi => ⟨rfl, by rw [e p2 (by omega)]⟩⟩, by rw [e 92 (by omega)]; exact fun _ _ h => h, ⟨by rw [e 85 (by omega)]; exact Int.le_refl _, fun k _ => by rw [e 93 (by omega)]⟩, by rw [e 85 (by omega)]; exact Int.le_refl _, fun c hc => Or.inl (by rw [e 85 (by omega)] at hc; exact hc)⟩, ?_, ?_, ?_⟩
  · exact im_con hI he (by rw [e 85 (by omega)]) (by rw [e 85 (by omega)]) (by rw [e 85 (by omega)]) (e 86 (by omega)) (e p2 (by omega)) (e p3 (by omega)) (fun c _ => e (98 + c) (by omega)) (e 91 (by omega)) (e 93 (by omega)) rfl (by rw [e 92 (by omega), e 85 (by omega)]; exact hI.2.2.2.2.1) hs
  · unfold SubC
    rw [u.1, u.2, hW]
    exact hS
  · rw [e 85 (by omega)]
    exact Or.inl
/-! ===== a WRONG ===== -/
theorem bt_1 {x : Int} {b : Nat} (h : bt x b) : x / 2 ^ b % 2 = 1 := h
theorem bt_0 {x : Int} {b : Nat} (h : ¬ bt x b) : x / 2 ^ b % 2 = 0 := by
  rcases bt_dec x b with z | z
  · exact absurd z h
  · exact z
theorem wI_or {f g : Nat → Int} {x : Nat} {w0 : Nat} (h0 : 0 ≤ f x) (hg : g x = orB (f x) w0) (hb : ¬ bt (f x) w0) : ∀ w, wI g x w = wI f x w + (if 0 < w0 ∧ w0 ≤ w then 1 else 0)
  | 0 => by simp only [wI]; rw [if_neg (by omega)]; rfl
  | w + 1 => by
    have ih := wI_or h0 hg hb w
    simp only [wI]
    rw [ih, hg]
    by_cases e : w0 = w + 1
    · rw [bt_1 (x := orB (f x) w0) ((orB_bt h0).mpr (Or.inr e.symm)), bt_0 (x := f x) (by rw [← e]; exact hb), if_neg (by omega), if_pos (by omega)]
    · have hh : orB (f x) w0 / 2 ^ (w + 1) % 2 = f x / 2 ^ (w + 1) % 2 := by
        by_cases z : bt (f x) (w + 1)
        · rw [bt_1 (x := orB (f x) w0) ((orB_bt h0).mpr (Or.inl z)), bt_1 z]
        · rw [bt_0 z, bt_0 (x := orB (f x) w0) (fun y => by
            rcases (orB_bt h0).mp y with y | y
            · exact z y
            · exact e y.symm)]
      rw [hh]
      by_cases c : 0 < w0 ∧ w0 ≤ w
      · rw [if_pos c, if_pos (by omega)]; omega
      · rw [if_neg c, if_neg (by omega)]; omega
theorem wI_cg {f g : Nat → Int} {x : Nat} (h : g x = f x) : ∀ w, wI g x w = wI f x w
  | 0 => rfl
  | w + 1 => by
    simp only [wI]
    rw [wI_cg h w, h]
theorem wO_or {f g : Nat → Int} {x : Nat} {w0 : Nat} (h0 : 0 ≤ f x) (hg : g x = orB (f x) w0) (hd : ∀ y, y ≠ x → g y = f y) (hb : ¬ bt (f x) w0) (hw : 0 < w0 ∧ w0 < 6) : ∀ n, wO g n = wO f n + (if x < n then 1 else 0)
  | 0 => by simp only [wO]; rw [if_neg (by omega)]; rfl
  | n + 1 => by
    have ih := wO_or h0 hg hd hb hw n
    simp only [wO]
    rw [ih]
    by_cases e : n = x
    · subst e
      rw [wI_or h0 hg hb 5, if_neg (by omega), if_pos (by omega), if_pos (by omega)]
      omega
    · rw [wI_cg (hd n e) 5]
      by_cases c : x < n
      · rw [if_pos c, if_pos (by omega)]; omega
      · rw [if_neg c, if_neg (by omega)]; omega
theorem po_wr (hpl : plS sh p1 p2 p3 n) (hD : plD p1 p2 p3 n) (hI : imC S L p1 p2 p3 n) (hS : SubC S L p1 X F W) {r pl : Nat} (hr : r < 6) (hp : pl < 25) {w : Int} (hw : 0 < w ∧ w < 6) (hW : W r pl w) (hb : ¬ bt (S 92 (25 * r + pl)) w.toNat) : poC sh S L p1 p2 n X F W sh (up2 (up2 S 92 (25 * r + pl) (orB (S 92 (25 * r + pl)) w.toNat)) 85 2 (S 85 2 + 1)) L p1 p2 p3 n ∧ WC (up2 (up2 S 92 (25 * r + pl) (orB (S 92 (25 * r + pl)) w.toNat)) 85 2 (S 85 2 + 1)) r pl w := by
  obtain ⟨x, hxx⟩ : ∃ x, 25 * r + pl = x := ⟨_, rfl⟩
  rw [hxx] at hb ⊢
  obtain ⟨hx0, hcnt⟩ := hI.2.2.2.2.1
  have hx := hx0 x (by omega)
  obtain ⟨S1, hS1⟩ : ∃ S1, up2 (up2 S 92 x (orB (S 92 x) w.toNat)) 85 2 (S 85 2 + 1) = S1 := ⟨_, rfl⟩
  have e : ∀ b, b ≠ 92 → b ≠ 85 → S1 b = S b := fun b a1 a2 => by rw [← hS1, up2_row a2, up2_row a1]
  have e5 : ∀ j, j ≠ 2 → S1 85 j = S 85 j := fun j hj => by rw [← hS1, up2_rc hj, up2_rd (by omega)]
  have e52 : S1 85 2 = S 85 2 + 1 := by rw [← hS1, up2_same]
  have e9 : ∀ y, y ≠ x → S1 92 y = S 92 y := fun y hy => by rw [← hS1, up2_rd (by omega), up2_rc hy]
  have e9x : S1 92 x = orB (S 92 x) w.toNat := by rw [← hS1, up2_rd (by omega), up2_same]
  rw [hS1]
  clear hS1
  obtain ⟨⟨d1, d2, d3⟩, d4, -⟩ := id hD
  have h40 := hI.2.2.1.1
  have he : bkE S S1 := ⟨fun b _ _ => e b (by omega) (by omega), by rw [e 181 (by omega) (by omega)], by rw [e 181 (by omega) (by omega)]⟩
  have u := XC_con (S := S) (S' := S1) (L := L) (L' := L) (p1 := p1) h40.2 (e5 1 (by omega)) (e 86 (by omega) (by omega)) (fun c _ => e (98 + c) (by omega) (by omega)) rfl
  have wup : ∀ y b, bt (S 92 y) b → bt (S1 92 y) b := fun y b z => by
    by_cases c : y = x
    · rw [c, e9x]; rw [c] at z; exact (orB_bt hx.1).mpr (Or.inl z)
    · rw [e9 y c]; exact z
  have hrg := orB_lt (n := 6) hx (show w.toNat < 6 by omega)
  refine ⟨⟨⟨shE_rf sh, hpl, hD, fun _ h => h⟩, ⟨⟨fun b hb => e b (by omega) (by omega), fun _ _ => rfl⟩, ⟨by rw [e5 1 (by omega)]; exact Int.le_refl _, fun c hc => by rw [e (98 + c) (by omega) (by omega)]; exact ⟨fun _ _ => rfl, rfl, fun _ h => h⟩⟩, ⟨by rw [e 86 (by omega) (by omega)]; exact Int.le_refl _, fun i hi => ⟨rfl, by rw [e p2 (by omega) (by omega)]⟩⟩, wup, ⟨by rw [e5 8 (by omega)]; exact Int.le_refl _, fun k _ => by rw [e 93 (by omega) (by omega)]⟩, by rw [e5 0 (by omega)]; exact Int.le_refl _, fun c hc => Or.inl (by rw [e5 1 (by omega)] at hc; exact hc)⟩, ?_, ⟨by rw [u.1]; exact hS.1, by rw [u.2]; exact hS.2.1, fun r' pl' w' y1 y2 y3 => ?_⟩, by rw [e5 0 (by omega)]; exact Or.inl⟩, ⟨hr, hp, ?_⟩⟩
  · refine im_con hI he (e5 0 (by omega)) (e5 1 (by omega)) (e5 8 (by omega)) (e 86 (by omega) (by omega)) (e p2 (by omega) (by omega)) (e p3 (by omega) (by omega)) (fun c _ => e (98 + c) (by omega) (by omega)) (e 91 (by omega) (by omega)) (e 93 (by omega) (by omega)) rfl ⟨fun y hy => ?_, ?_⟩ ?_
    · by_cases c : y = x
      · rw [c, e9x]; exact hrg
      · rw [e9 y c]; exact hx0 y hy
    · rw [e52, wO_or (f := S 92) (g := S1 92) hx.1 e9x e9 hb (by omega) 150, if_pos (by omega), ← hcnt]
    · have hs := hI.2.2.2.2.2.2.2
      unfold scV at *
      rw [e 94 (by omega) (by omega), e (94 + 1) (by omega) (by omega), e (94 + 2) (by omega) (by omega), e (94 + 3) (by omega) (by omega)]
      exact hs
  · obtain ⟨z1, z2, z3⟩ := y3
    by_cases c : 25 * r' + pl' = x
    · rw [c, e9x] at z3
      rcases (orB_bt hx.1).mp z3 with z | z
      · exact hS.2.2 r' pl' w' y1 y2 ⟨z1, z2, by rw [c]; exact z⟩
      · have a1 : r' = r := by omega
        subst a1
        have a2 : pl' = pl := by omega
        subst a2
        have a3 : w' = w := by omega
        subst a3
        exact hW
    · rw [e9 _ c] at z3
      exact hS.2.2 r' pl' w' y1 y2 ⟨z1, z2, z3⟩
  · rw [hxx, e9x]
    exact (orB_bt hx.1).mpr (Or.inr rfl)
end
