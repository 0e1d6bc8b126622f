/-! ===== goes, wrong, ends, out ===== -/
theorem or_orB {x : Int} {w : Int} : ((x.toNat ||| (1 * 2 ^ w.toNat : Int).toNat : Nat) : Int) = orB x w.toNat := by
  unfold orB
  have e : (1 * 2 ^ w.toNat : Int).toNat = 2 ^ w.toNat := by
    rw [Int.one_mul]
    have : ((2 : Int) ^ w.toNat) = ((2 ^ w.toNat : Nat) : Int) := by push_cast; rfl
    rw [this, Int.toNat_natCast]
  rw [e]
theorem im_bits {S S' : mm_S} {L : mm_L} (hI : imS S L) (er : ∀ b, b ≠ 181 → b ≠ 207 → b ≠ 208 → b ≠ 213 → S' b = S b) (ec : ∀ j, j ≠ 40 → S' 181 j = S 181 j) (r7 : ∀ c : Nat, (c : Int) < S 181 27 → (0 ≤ S' 207 c ∧ S' 207 c < 64) ∧ (0 ≤ S' 208 c ∧ S' 208 c < 64)) (r13 : ∀ x : Nat, x < 150 → 0 ≤ S' 213 x ∧ S' 213 x < 64) (r40 : S' 181 40 = 0 ∨ S' 181 40 = 1) : imS S' L ∧ XM S' L = XM S L ∧ bkE S S' ∧ ∀ c, keyM S' c = keyM S c := by
  obtain ⟨h1, h2, h3, h4, h5⟩ := hI
  have he : bkE S S' := ⟨fun b x y => er b (by omega) (by omega) (by omega) (by omega), ec 0 (by omega), ec 9 (by omega)⟩
  have ek : ∀ c, keyM S' c = keyM S c := fun c => by
    unfold keyM
    rw [er 203 (by omega) (by omega) (by omega) (by omega), er 204 (by omega) (by omega) (by omega) (by omega), er 205 (by omega) (by omega) (by omega) (by omega), er 206 (by omega) (by omega) (by omega) (by omega)]
  have ee : ∀ c i, enE S' L c i = enE S L c i := fun c i => by unfold enE; rw [er 210 (by omega) (by omega) (by omega) (by omega)]
  refine ⟨⟨?_, fun c hc => ?_, fun c d hc hd e => ?_, r13, ?_⟩, ?_, he, ek⟩
  · unfold csR at *
    rw [ec 27 (by omega), er 203 (by omega) (by omega) (by omega) (by omega), er 204 (by omega) (by omega) (by omega) (by omega), er 205 (by omega) (by omega) (by omega) (by omega), er 206 (by omega) (by omega) (by omega) (by omega)]
    exact h1
  · rw [ec 27 (by omega)] at hc
    obtain ⟨k1, k2, k3, k4, k5⟩ := h2 c hc
    refine ⟨by rw [ek]; exact kyV_of he k1, ⟨?_, r7 c hc⟩, ?_, fun i hi => ?_, fun i j hi hj e => ?_⟩
    · rw [er 209 (by omega) (by omega) (by omega) (by omega)]; exact k2.1
    · rw [er 209 (by omega) (by omega) (by omega) (by omega), er 212 (by omega) (by omega) (by omega) (by omega)]
      exact tb_congr k3 (fun _ _ => rfl) (fun i _ => ee c i)
    · rw [er 209 (by omega) (by omega) (by omega) (by omega)] at hi
      rw [ee, ek]
      exact ⟨(k4 i hi).1, itV_of he (k4 i hi).2⟩
    · rw [er 209 (by omega) (by omega) (by omega) (by omega)] at hi hj
      rw [ee, ee] at e
      exact k5 i j hi hj e
  · rw [ec 27 (by omega)] at hc hd
    rw [ek, ek] at e
    exact h3 c d hc hd e
  · exact ⟨by rw [ec 39 (by omega)]; exact h5.1, r40⟩
  · unfold XM keyM
    rw [er 203 (by omega) (by omega) (by omega) (by omega), er 204 (by omega) (by omega) (by omega) (by omega), er 205 (by omega) (by omega) (by omega) (by omega), er 206 (by omega) (by omega) (by omega) (by omega), er 209 (by omega) (by omega) (by omega) (by omega), er 210 (by omega) (by omega) (by omega) (by omega), ec 27 (by omega)]
section
variable {S : mm_S} {L : mm_L} {X : XT} {F : FT} {W : WT}
theorem po_wrong (hI : imS S L) (hS : SubM S L X F W) {r pl : Nat} (hr : r < 6) (hp : pl < 25) {w : Int} (hw : 0 < w ∧ w < 6) (hW : W r pl w) {m : Int} (hm : m = 1 ∧ (S 181 40 = 1 ∨ ¬ bt (S 213 (25 * r + pl)) w.toNat) ∨ m = 0 ∧ S 181 40 = 0 ∧ bt (S 213 (25 * r + pl)) w.toNat) : poM S L X F W (up2 (up2 S 181 40 m) 213 (25 * r + pl) (orB (S 213 (25 * r + pl)) w.toNat)) L ∧ WM (up2 (up2 S 181 40 m) 213 (25 * r + pl) (orB (S 213 (25 * r + pl)) w.toNat)) r pl w := by
  have hx := hI.2.2.2.1 (25 * r + pl) (by omega)
  obtain ⟨x, hxx⟩ : ∃ x, 25 * r + pl = x := ⟨_, rfl⟩
  rw [hxx] at hx hm ⊢
  have hwm : WM (up2 (up2 S 181 40 m) 213 x (orB (S 213 x) w.toNat)) r pl w := ⟨hr, hp, by rw [hxx, up2_same]; exact (orB_bt hx.1).mpr (Or.inr rfl)⟩
  refine ⟨?_, hwm⟩
  have f40 := hI.2.2.2.2.2
  by_cases hb : bt (S 213 x) w.toNat
  · have e1 : m = S 181 40 := by rcases hm with ⟨a, b | b⟩ | ⟨a, b, -⟩; omega; exact absurd hb b; omega
    rw [orB_eq hx.1 hb, e1, up2_id, up2_id]
    exact poM_rg (rgF_rf S) hI hS
  · have e1 : m = 1 := by rcases hm with ⟨a, -⟩ | ⟨-, -, b⟩; exact a; exact absurd b hb
    subst e1
    have hlt := orB_gt hx.1 hb
    have hrg := orB_lt (n := 6) hx (show w.toNat < 6 by omega)
    have er : ∀ b, b ≠ 181 → b ≠ 207 → b ≠ 208 → b ≠ 213 → up2 (up2 S 181 40 1) 213 x (orB (S 213 x) w.toNat) b = S b := fun b a1 a2 a3 a4 => by rw [up2_row a4, up2_row a1]
    have er2 : ∀ b, b ≠ 181 → b ≠ 213 → up2 (up2 S 181 40 1) 213 x (orB (S 213 x) w.toNat) b = S b := fun b a1 a4 => by rw [up2_row a4, up2_row a1]
    have ec : ∀ j, j ≠ 40 → up2 (up2 S 181 40 1) 213 x (orB (S 213 x) w.toNat) 181 j = S 181 j := fun j hj => by rw [up2_rd (by omega), up2_rc hj]
    have e40 : up2 (up2 S 181 40 1) 213 x (orB (S 213 x) w.toNat) 181 40 = 1 := by rw [up2_rd (by omega), up2_same]
    have e13 : ∀ d, d ≠ x → up2 (up2 S 181 40 1) 213 x (orB (S 213 x) w.toNat) 213 d = S 213 d := fun d hd => by rw [up2_rc hd, up2_rd (by omega)]
    have e13x : up2 (up2 S 181 40 1) 213 x (orB (S 213 x) w.toNat) 213 x = orB (S 213 x) w.toNat := up2_same _ _ _ _
    obtain ⟨i1, i2, i3, i4⟩ := im_bits (S' := up2 (up2 S 181 40 1) 213 x (orB (S 213 x) w.toNat)) hI er ec (fun c hc => by rw [er2 207 (by omega) (by omega), er2 208 (by omega) (by omega)]; exact (hI.2.1 c hc).2.1.2) (fun y hy => by
      by_cases e : y = x
      · rw [e, e13x]; exact hrg
      · rw [e13 y e]; exact hI.2.2.2.1 y hy) (Or.inr e40)
    have eF : FM (up2 (up2 S 181 40 1) 213 x (orB (S 213 x) w.toNat)) = FM S := by
      unfold FM keyM
      rw [er2 203 (by omega) (by omega), er2 204 (by omega) (by omega), er2 205 (by omega) (by omega), er2 206 (by omega) (by omega), er2 207 (by omega) (by omega), er2 208 (by omega) (by omega), ec 27 (by omega)]
    have htot : tot (up2 (up2 S 181 40 1) 213 x (orB (S 213 x) w.toNat)) = tot S + (orB (S 213 x) w.toNat - S 213 x) := by
      unfold tot
      rw [ec 27 (by omega), toC_congr (er2 207 (by omega) (by omega)) (er2 208 (by omega) (by omega)) (er2 209 (by omega) (by omega)), (toW_one e13 150).2 (by omega), e13x]
      omega
    refine ⟨⟨⟨fun b h1 h2 => er2 b h2 (by omega), fun j x1 x2 x3 x4 => ec j x4, fun _ _ => rfl⟩, ⟨by rw [ec 27 (by omega)]; exact Int.le_refl _, fun c _ => i4 c, fun c hc => Or.inl (by rw [ec 27 (by omega)] at hc; exact hc)⟩, ⟨fun κ q p h => by rw [i2]; exact h, fun κ b h => by rw [eF]; exact h, fun r' q w' h => ?_⟩, ⟨by rw [ec 39 (by omega)]; exact Int.le_refl _, by rw [e40]; omega⟩, ⟨by omega, fun _ => Or.inr (by omega)⟩, fun e => by rw [e40] at e; omega⟩, i1, ⟨fun κ q p h => hS.1 κ q p (by rw [i2] at h; exact h), fun κ b h => hS.2.1 κ b (by rw [eF] at h; exact h), fun r' q w' w1 w2 h => ?_⟩, fun e => Or.inl (by rw [ec 39 (by omega)] at e; exact e), bvS_of i3 (fun c _ => i4 c) (ec 27 (by omega)) (er2 207 (by omega) (by omega)) (er2 208 (by omega) (by omega))⟩
    · refine ⟨h.1, h.2.1, ?_⟩
      by_cases e : 25 * r' + q = x
      · rw [e, e13x]
        have := h.2.2
        rw [e] at this
        exact (orB_bt hx.1).mpr (Or.inl this)
      · rw [e13 _ e]; exact h.2.2
    · obtain ⟨q1, q2, q3⟩ := h
      by_cases e : 25 * r' + q = x
      · rw [e, e13x] at q3
        rcases (orB_bt hx.1).mp q3 with z | z
        · exact hS.2.2 r' q w' w1 w2 ⟨q1, q2, by rw [e]; exact z⟩
        · have : r' = r := by omega
          subst this
          have : q = pl := by omega
          subst this
          have : w' = w := by omega
          subst this
          exact hW
      · rw [e13 _ e] at q3
        exact hS.2.2 r' q w' w1 w2 ⟨q1, q2, q3⟩
theorem po_bit (hI : imS S L) (hS : SubM S L X F W) {c : Nat} (hc : (c : Int) < S 181 27) {q : Nat} {g : Int} (hq : q = 207 ∧ g = 0 ∨ q = 208 ∧ g = 8) {b : Int} (hb : 0 ≤ b ∧ b < 6) (hF : F (keyM S c) (g + b)) (hbm : b < bmS S (keyM S c)) {m : Int} (hm : m = 1 ∧ (S 181 40 = 1 ∨ ¬ bt (S q c) b.toNat) ∨ m = 0 ∧ S 181 40 = 0 ∧ bt (S q c) b.toNat) : poM S L X F W (up2 (up2 S 181 40 m) q c (orB (S q c) b.toNat)) L ∧ FM (up2 (up2 S 181 40 m) q c (orB (S q c) b.toNat)) (keyM S c) (g + b) := by
  have hq1 : q ≠ 181 ∧ q ≠ 203 ∧ q ≠ 204 ∧ q ≠ 205 ∧ q ≠ 206 ∧ q ≠ 209 ∧ q ≠ 213 := by omega
  have hx : 0 ≤ S q c ∧ S q c < 64 := by
    have := (hI.2.1 c hc).2.1.2
    rcases hq with ⟨rfl, -⟩ | ⟨rfl, -⟩
    · exact this.1
    · exact this.2
  have f40 := hI.2.2.2.2.2
  have ek0 : ∀ d, keyM (up2 (up2 S 181 40 m) q c (orB (S q c) b.toNat)) d = keyM S d := fun d => by
    unfold keyM
    rw [up2_row (show 203 ≠ q by omega), up2_row (show 203 ≠ 181 by omega), up2_row (show 204 ≠ q by omega), up2_row (show 204 ≠ 181 by omega), up2_row (show 205 ≠ q by omega), up2_row (show 205 ≠ 181 by omega), up2_row (show 206 ≠ q by omega), up2_row (show 206 ≠ 181 by omega)]
  have hfm : FM (up2 (up2 S 181 40 m) q c (orB (S q c) b.toNat)) (keyM S c) (g + b) := by
    refine ⟨c, by rw [up2_rd (by omega), up2_rc (by omega)]; exact hc, ek0 c, ?_⟩
    rcases hq with ⟨rfl, rfl⟩ | ⟨rfl, rfl⟩
    · refine Or.inl ⟨by omega, by omega, ?_⟩
      rw [up2_same, show (0 + b).toNat = b.toNat by omega]; exact (orB_bt hx.1).mpr (Or.inr rfl)
    · refine Or.inr ⟨by omega, ?_⟩
      rw [up2_same, show (8 + b - 8).toNat = b.toNat by omega]; exact (orB_bt hx.1).mpr (Or.inr rfl)
  refine ⟨?_, hfm⟩
  by_cases hbt : bt (S q c) b.toNat
  · have e1 : m = S 181 40 := by rcases hm with ⟨a, d | d⟩ | ⟨a, d, -⟩; omega; exact absurd hbt d; omega
    rw [orB_eq hx.1 hbt, e1, up2_id, up2_id]
    exact poM_rg (rgF_rf S) hI hS
  · have e1 : m = 1 := by rcases hm with ⟨a, -⟩ | ⟨-, -, d⟩; exact a; exact absurd d hbt
    subst e1
    have hlt := orB_gt hx.1 hbt
    have hrg := orB_lt (n := 6) hx (show b.toNat < 6 by omega)
    generalize hU : up2 (up2 S 181 40 1) q c (orB (S q c) b.toNat) = U at *
    have er2 : ∀ d, d ≠ 181 → d ≠ q → U d = S d := fun d a1 a4 => by rw [← hU, up2_row a4, up2_row a1]
    have ec : ∀ j, j ≠ 40 → U 181 j = S 181 j := fun j hj => by rw [← hU, up2_rd (by omega), up2_rc hj]
    have e40 : U 181 40 = 1 := by rw [← hU, up2_rd (by omega), up2_same]
    have eq : ∀ d, d ≠ c → U q d = S q d := fun d hd => by rw [← hU, up2_rc hd, up2_rd (by omega)]
    have eqc : U q c = orB (S q c) b.toNat := by rw [← hU]; exact up2_same _ _ _ _
    have rng : ∀ d : Nat, (d : Int) < S 181 27 → (0 ≤ U 207 d ∧ U 207 d < 64) ∧ (0 ≤ U 208 d ∧ U 208 d < 64) := fun d hd => by
      have h0 := (hI.2.1 d hd).2.1.2
      rcases hq with ⟨rfl, -⟩ | ⟨rfl, -⟩
      · refine ⟨?_, by rw [er2 208 (by omega) (by omega)]; exact h0.2⟩
        by_cases e : d = c
        · rw [e, eqc]; exact hrg
        · rw [eq d e]; exact h0.1
      · refine ⟨by rw [er2 207 (by omega) (by omega)]; exact h0.1, ?_⟩
        by_cases e : d = c
        · rw [e, eqc]; exact hrg
        · rw [eq d e]; exact h0.2
    obtain ⟨i1, i2, i3, i4⟩ := im_bits (S' := U) hI (fun d a1 a2 a3 a4 => er2 d a1 (by omega)) ec rng (fun y hy => by rw [er2 213 (by omega) (by omega)]; exact hI.2.2.2.1 y hy) (Or.inr e40)
    have eW : WM U = WM S := by unfold WM; rw [er2 213 (by omega) (by omega)]
    have hrow : ∀ d, d ≠ c → U 209 d = S 209 d ∧ U 207 d = S 207 d ∧ U 208 d = S 208 d := fun d hd => by
      refine ⟨by rw [er2 209 (by omega) (by omega)], ?_, ?_⟩
      · rcases hq with ⟨rfl, -⟩ | ⟨rfl, -⟩
        · exact eq d hd
        · rw [er2 207 (by omega) (by omega)]
      · rcases hq with ⟨rfl, -⟩ | ⟨rfl, -⟩
        · rw [er2 208 (by omega) (by omega)]
        · exact eq d hd
    have htot : tot U = tot S + (orB (S q c) b.toNat - S q c) := by
      unfold tot
      rw [ec 27 (by omega), (toC_one hrow (S 181 27).toNat).2 (by omega), toW_congr (er2 213 (by omega) (by omega)), er2 209 (by omega) (by omega)]
      rcases hq with ⟨rfl, -⟩ | ⟨rfl, -⟩
      · rw [eqc, er2 208 (by omega) (by omega)]; omega
      · rw [eqc, er2 207 (by omega) (by omega)]; omega
    have mono : ∀ d x, (bt (S 207 d) x → bt (U 207 d) x) ∧ (bt (S 208 d) x → bt (U 208 d) x) := fun d x => by
      by_cases e : d = c
      · subst e
        rcases hq with ⟨rfl, -⟩ | ⟨rfl, -⟩
        · exact ⟨fun h => by rw [eqc]; exact (orB_bt hx.1).mpr (Or.inl h), fun h => by rw [er2 208 (by omega) (by omega)]; exact h⟩
        · exact ⟨fun h => by rw [er2 207 (by omega) (by omega)]; exact h, fun h => by rw [eqc]; exact (orB_bt hx.1).mpr (Or.inl h)⟩
      · have := hrow d e
        rw [this.2.1, this.2.2]; exact ⟨id, id⟩
    refine ⟨⟨⟨fun d h1 h2 => er2 d h2 (by omega), fun j x1 x2 x3 x4 => ec j x4, fun _ _ => rfl⟩, ⟨by rw [ec 27 (by omega)]; exact Int.le_refl _, fun d _ => i4 d, fun d hd => Or.inl (by rw [ec 27 (by omega)] at hd; exact hd)⟩, ⟨fun κ x p h => by rw [i2]; exact h, fun κ x h => ?_, fun r' x w' h => by rw [eW]; exact h⟩, ⟨by rw [ec 39 (by omega)]; exact Int.le_refl _, by rw [e40]; omega⟩, ⟨by omega, fun _ => Or.inr (by omega)⟩, fun e => by rw [e40] at e; omega⟩, i1, ⟨fun κ x p h => hS.1 κ x p (by rw [i2] at h; exact h), fun κ x h => ?_, fun r' x w' w1 w2 h => hS.2.2 r' x w' w1 w2 (by rw [eW] at h; exact h)⟩, fun e => Or.inl (by rw [ec 39 (by omega)] at e; exact e), fun hv d hd x hx2 => ?_⟩
    · obtain ⟨d, a1, a2, a3⟩ := h
      refine ⟨d, by rw [ec 27 (by omega)]; exact a1, by rw [i4]; exact a2, ?_⟩
      rcases a3 with ⟨z1, z2, z3⟩ | ⟨z1, z2⟩
      · exact Or.inl ⟨z1, z2, (mono d _).1 z3⟩
      · exact Or.inr ⟨z1, (mono d _).2 z2⟩
    · obtain ⟨d, a1, a2, a3⟩ := h
      rw [ec 27 (by omega)] at a1
      rw [i4] at a2
      by_cases e : d = c
      · subst e
        rcases hq with ⟨rfl, rfl⟩ | ⟨rfl, rfl⟩
        · rw [eqc, er2 208 (by omega) (by omega)] at a3
          rcases a3 with ⟨z1, z2, z3⟩ | ⟨z1, z2⟩
          · rcases (orB_bt hx.1).mp z3 with z | z
            · exact hS.2.1 κ x ⟨d, a1, a2, Or.inl ⟨z1, z2, z⟩⟩
            · rw [← a2, show x = 0 + b by omega]; exact hF
          · exact hS.2.1 κ x ⟨d, a1, a2, Or.inr ⟨z1, z2⟩⟩
        · rw [eqc, er2 207 (by omega) (by omega)] at a3
          rcases a3 with ⟨z1, z2, z3⟩ | ⟨z1, z2⟩
          · exact hS.2.1 κ x ⟨d, a1, a2, Or.inl ⟨z1, z2, z3⟩⟩
          · rcases (orB_bt hx.1).mp z2 with z | z
            · exact hS.2.1 κ x ⟨d, a1, a2, Or.inr ⟨z1, z⟩⟩
            · rw [← a2, show x = 8 + b by omega]; exact hF
      · have := hrow d e
        rw [this.2.1, this.2.2] at a3
        exact hS.2.1 κ x ⟨d, a1, a2, a3⟩
    · rw [ec 27 (by omega)] at hd
      rw [i4]
      have eb : bmS U (keyM S d) = bmS S (keyM S d) := by unfold bmS; rw [i3.1 182 (by omega) (by omega)]
      rw [eb]
      by_cases e : d = c
      · subst e
        rcases hq with ⟨rfl, -⟩ | ⟨rfl, -⟩
        · rw [eqc, er2 208 (by omega) (by omega)] at hx2
          rcases hx2 with z | z
          · rcases (orB_bt hx.1).mp z with z | z
            · exact hv d hd x (Or.inl z)
            · omega
          · exact hv d hd x (Or.inr z)
        · rw [eqc, er2 207 (by omega) (by omega)] at hx2
          rcases hx2 with z | z
          · exact hv d hd x (Or.inl z)
          · rcases (orB_bt hx.1).mp z with z | z
            · exact hv d hd x (Or.inr z)
            · omega
      · have := hrow d e
        rw [this.2.1, this.2.2] at hx2
        exact hv d hd x hx2
/-- goes -/
theorem it_gt {κ : kyT} {R : rgT} (hR : rgV S κ R) {w : Int} (hw : 0 ≤ w ∧ w ≤ S 189 κ.2.1) : itV S κ w (gtR S κ.2.1 w R).2.2 := ⟨rg_pend hR (mv_R hR), hw, fun k hk hne => by
  rcases mv_in (S := S) (r := κ.2.1) (w := w) (P := R.2.2.2) hk with ⟨-, e⟩ | e
  · exact e
  · exact absurd e hne⟩
end
set_option maxRecDepth 100000 in
set_option maxHeartbeats 4000000 in
theorem m_goes {sh : List mm_H} {S : mm_S} {L : mm_L} (hm : mdS sh) (hb : mbW S) (hI : imS S L) {X : XT} {F : FT} {W : WT} (hS : SubM S L X F W) {c : Nat} (hc : (c : Int) < S 181 27) {to : Int} (hto : 0 ≤ to ∧ to ≤ S 189 (S 204 c).toNat) (hR : rgV S (keyM S c) (rgS S)) (hX : X (keyM S c) to.toNat (pkM (gtR S (S 204 c).toNat to (rgS S)).2.2)) : am_E eX10_goes [.ref 181, .int (iI (c : Int)), .int (iI to)] (mm sh S L) (fun r0 M' => r0 = none ∧ ∃ S' L', M' = mm sh S' L' ∧ poM S L X F W S' L' ∧ (S' 181 39 = 0 → XM S' L' (keyM S c) to.toNat (pkM (gtR S (S 204 c).toNat to (rgS S)).2.2))) := by
  have hcs := hI.1
  have hc27 := hI.1.1
  have hcc := hcs.2 c hc
  have hκ := (hI.2.1 c hc).1
  have hr9 : (((S 204 c).toNat : Nat) : Int) < S 181 9 := hκ.2.1
  have hrw := hb.2.2.2.2 (S 204 c).toNat hr9
  have h24 := hb.1.2.2.2.2 (S 204 c).toNat (by omega)
  have hc40 : c < 40 := by omega
  have er204 : S 204 c = (((S 204 c).toNat : Nat) : Int) := by omega
  refine am_enter rfl rfl (Nat.le_of_ble_eq_true rfl) ?_
  refine am_aload_n rfl dX10_goes_0 ?_
  refine am_iload_n rfl dX10_goes_1 ?_
  refine am_iload_n rfl dX10_goes_2 ?_
  refine am_cxv (mm_V2 dX10_goes_3 in_X10_moves mk_X10_251 im_X10_moves sl_X10_moves ⟨Nat.le_of_ble_eq_true rfl, Nat.le_of_ble_eq_true rfl⟩ rfl (md_0 hm) (Nat.le_of_ble_eq_true rfl)) (m_moves hm (r := (S 204 c).toNat) (by omega) h24.2 hrw h24.1 (by omega) (fun k hk => by have := (rgB_S hR.1).2.2.2 k hk; exact this) hc40 er204) (fun M1 hq => ?_)
  obtain ⟨S1, rfl, hmv⟩ := hq
  have hF := rgF_mv hmv
  have hk1 : keyM S1 c = keyM S c := rgF_key hF c
  have hrg : rgS S1 = (gtR S (S 204 c).toNat to (rgS S)).2.2 := mvF_rg hrw hmv
  refine am_aload_n rfl dX10_goes_6 ?_
  refine am_iload_n rfl dX10_goes_7 ?_
  refine am_iload_n rfl dX10_goes_8 ?_
  refine am_cxv (mm_V2 dX10_goes_9 in_X10_add mk_X10_247 im_X10_add sl_X10_add ⟨Nat.le_of_ble_eq_true rfl, Nat.le_of_ble_eq_true rfl⟩ rfl (md_0 hm) (Nat.le_of_ble_eq_true rfl)) (m_add (X := X) (F := F) (W := W) hm (mbW_of (rgF_E hF) hb) (rgF_I hF hI) (rgF_S hF hS) (c := c) (by rw [hF.2 27 (by omega)]; exact hc) (pl := to) (by rw [hk1, hrg]; exact itV_of (rgF_E hF) (it_gt hR hto)) (by rw [hk1, hrg]; exact hX)) (fun M2 hq2 => ?_)
  obtain ⟨S2, L2, rfl, hpo, hx⟩ := hq2
  refine am_return dX10_goes_12 rfl ?_
  refine ⟨rfl, S2, L2, rfl, poM_tr (poM_rg hF hI hS) hpo, fun e => ?_⟩
  rw [hk1, hrg] at hx
  rcases hx with z | z
  · exact z
  · rw [z.2] at e; omega
theorem pow2_6 {w : Int} (h : 0 < w ∧ w < 6) : (0 : Int) < 2 ^ w.toNat ∧ (2 : Int) ^ w.toNat ≤ 32 := by
  have h2 := Nat.pow_le_pow_right (n := 2) (by decide) (show w.toNat ≤ 5 by omega)
  refine ⟨Int.pow_pos (by decide), ?_⟩
  have e : ((2 : Int) ^ w.toNat) = ((2 ^ w.toNat : Nat) : Int) := by push_cast; rfl
  rw [e]
  omega
set_option maxRecDepth 100000 in
set_option maxHeartbeats 4000000 in
theorem m_wrongP {sh : List mm_H} {S : mm_S} {L : mm_L} (hm : mdS sh) (hb : mbW S) (hI : imS S L) {X : XT} {F : FT} {W : WT} (hS : SubM S L X F W) {c : Nat} (hc : (c : Int) < S 181 27) {pl : Nat} (hp : pl < 25) {w : Int} (hw : 0 < w ∧ w < 6) (hW : W (S 204 c).toNat pl w) : am_E eX10_wrong [.ref 181, .int (iI (c : Int)), .int (iI (pl : Int)), .int (iI w)] (mm sh S L) (fun r0 M' => r0 = none ∧ ∃ S', M' = mm sh S' L ∧ poM S L X F W S' L ∧ WM S' (S 204 c).toNat pl w) := by
  have hcs := hI.1
  have hc27 := hI.1.1
  have hcc := hcs.2 c hc
  have hκ := (hI.2.1 c hc).1
  have hr9 : (((S 204 c).toNat : Nat) : Int) < S 181 9 := hκ.2.1
  have hrw := hb.2.2.2.2 (S 204 c).toNat hr9
  have h24 := hb.1.2.2.2.2 (S 204 c).toNat (by omega)
  have hc40 : c < 40 := by omega
  have er204 : S 204 c = (((S 204 c).toNat : Nat) : Int) := by omega
  refine am_enter rfl rfl (Nat.le_of_ble_eq_true rfl) ?_
  refine mm_bipush dX10_wrong_0 (by decide) ?_
  refine am_aload_n rfl dX10_wrong_2 ?_
  refine mm_getR dX10_wrong_3 fl_X10_81 (md_0 hm) mdf_29 ?_
  refine am_iload_n rfl dX10_wrong_6 ?_
  refine mm_ial dX10_wrong_7 (md_caseRoutine hm) (by omega) ?_
  rw [Int.toNat_natCast, er204]
  refine mm_imul dX10_wrong_8 ?_
  refine am_iload_n rfl dX10_wrong_9 ?_
  refine mm_iadd dX10_wrong_10 ?_
  rw [show (25 * (((S 204 c).toNat : Nat) : Int) + (pl : Int)) = ((25 * (S 204 c).toNat + pl : Nat) : Int) by omega]
  have hx := hI.2.2.2.1 (25 * (S 204 c).toNat + pl) (by omega)
  have hf := hI.2.2.2.2.2
  refine am_ist4 dX10_wrong_11 (Nat.le_of_ble_eq_true rfl) (am_c1i _) ?_
  refine am_aload_n rfl dX10_wrong_13 ?_
  refine am_aload_n rfl dX10_wrong_14 ?_
  refine mm_getI dX10_wrong_15 fl_X10_237 (md_0 hm) mdf_40 ?_
  refine mm_zne (tgt := 35) dX10_wrong_18 (by decide) (by omega) (fun h18 => ?_) (fun h18 => ?_)
  · refine mm_iconst dX10_wrong_35 ?_
    refine am_goto (tgt := 40) dX10_wrong_36 (by decide) ?_
    refine mm_putZ dX10_wrong_40 fp_X10_237 (md_0 hm) mdf_40 (by omega) ?_
    refine am_aload_n rfl dX10_wrong_43 ?_
    refine mm_getR dX10_wrong_44 fl_X10_111 (md_0 hm) mdf_38 ?_
    refine am_iload rfl dX10_wrong_47 ?_
    refine am_dup2_11 rfl rfl dX10_wrong_49 ?_
    refine mm_ial dX10_wrong_50 (md_wrongs hm) (by omega) ?_
    rw [Int.toNat_natCast, up2_rd (by omega)]
    refine mm_iconst dX10_wrong_51 ?_
    refine am_iload_n rfl dX10_wrong_52 ?_
    refine mm_ishl dX10_wrong_53 ⟨by omega, by have := (pow2_6 hw); omega⟩ (by omega) ?_
    refine mm_ior dX10_wrong_54 (by omega) ⟨by have := (pow2_6 hw); omega, by have := (pow2_6 hw); omega⟩ ?_
    rw [or_orB]
    refine mm_ias dX10_wrong_55 (md_wrongs hm) (by omega) ?_
    rw [Int.toNat_natCast]
    refine am_return dX10_wrong_56 rfl ?_
    first
      | (have key := po_wrong (r := (S 204 c).toNat) (pl := pl) (m := 1) hI hS (by omega) hp hw hW (Or.inl ⟨rfl, Or.inl (by omega)⟩); exact ⟨rfl, _, rfl, key.1, key.2⟩)
      | (have key := po_wrong (r := (S 204 c).toNat) (pl := pl) (m := 1) hI hS (by omega) hp hw hW (Or.inl ⟨rfl, Or.inr (fun z => by unfold bt at z; omega)⟩); exact ⟨rfl, _, rfl, key.1, key.2⟩)
      | (have key := po_wrong (r := (S 204 c).toNat) (pl := pl) (m := 0) hI hS (by omega) hp hw hW (Or.inr ⟨rfl, by omega, by rcases bt_dec (S 213 (25 * (S 204 c).toNat + pl)) w.toNat with z | z; exact z; omega⟩); exact ⟨rfl, _, rfl, key.1, key.2⟩)
  · refine am_aload_n rfl dX10_wrong_21 ?_
    refine mm_getR dX10_wrong_22 fl_X10_111 (md_0 hm) mdf_38 ?_
    refine am_iload rfl dX10_wrong_25 ?_
    refine mm_ial dX10_wrong_27 (md_wrongs hm) (by omega) ?_
    rw [Int.toNat_natCast]
    refine am_iload_n rfl dX10_wrong_28 ?_
    refine mm_ishr dX10_wrong_29 (by omega) (by omega) ?_
    refine mm_iconst dX10_wrong_30 ?_
    refine mm_iand1 dX10_wrong_31 (div_pow_R (by omega)) ?_
    refine mm_zne (tgt := 39) dX10_wrong_32 (by decide) (by omega) (fun h32 => ?_) (fun h32 => ?_)
    · refine mm_iconst dX10_wrong_39 ?_
      refine mm_putZ dX10_wrong_40 fp_X10_237 (md_0 hm) mdf_40 (by omega) ?_
      refine am_aload_n rfl dX10_wrong_43 ?_
      refine mm_getR dX10_wrong_44 fl_X10_111 (md_0 hm) mdf_38 ?_
      refine am_iload rfl dX10_wrong_47 ?_
      refine am_dup2_11 rfl rfl dX10_wrong_49 ?_
      refine mm_ial dX10_wrong_50 (md_wrongs hm) (by omega) ?_
      rw [Int.toNat_natCast, up2_rd (by omega)]
      refine mm_iconst dX10_wrong_51 ?_
      refine am_iload_n rfl dX10_wrong_52 ?_
      refine mm_ishl dX10_wrong_53 ⟨by omega, by have := (pow2_6 hw); omega⟩ (by omega) ?_
      refine mm_ior dX10_wrong_54 (by omega) ⟨by have := (pow2_6 hw); omega, by have := (pow2_6 hw); omega⟩ ?_
      rw [or_orB]
      refine mm_ias dX10_wrong_55 (md_wrongs hm) (by omega) ?_
      rw [Int.toNat_natCast]
      refine am_return dX10_wrong_56 rfl ?_
      first
        | (have key := po_wrong (r := (S 204 c).toNat) (pl := pl) (m := 1) hI hS (by omega) hp hw hW (Or.inl ⟨rfl, Or.inl (by omega)⟩); exact ⟨rfl, _, rfl, key.1, key.2⟩)
        | (have key := po_wrong (r := (S 204 c).toNat) (pl := pl) (m := 1) hI hS (by omega) hp hw hW (Or.inl ⟨rfl, Or.inr (fun z => by unfold bt at z; omega)⟩); exact ⟨rfl, _, rfl, key.1, key.2⟩)
        | (have key := po_wrong (r := (S 204 c).toNat) (pl := pl) (m := 0) hI hS (by omega) hp hw hW (Or.inr ⟨rfl, by omega, by rcases bt_dec (S 213 (25 * (S 204 c).toNat + pl)) w.toNat with z | z; exact z; omega⟩); exact ⟨rfl, _, rfl, key.1, key.2⟩)
    · refine mm_iconst dX10_wrong_35 ?_
      refine am_goto (tgt := 40) dX10_wrong_36 (by decide) ?_
      refine mm_putZ dX10_wrong_40 fp_X10_237 (md_0 hm) mdf_40 (by omega) ?_
      refine am_aload_n rfl dX10_wrong_43 ?_
      refine mm_getR dX10_wrong_44 fl_X10_111 (md_0 hm) mdf_38 ?_
      refine am_iload rfl dX10_wrong_47 ?_
      refine am_dup2_11 rfl rfl dX10_wrong_49 ?_
      refine mm_ial dX10_wrong_50 (md_wrongs hm) (by omega) ?_
      rw [Int.toNat_natCast, up2_rd (by omega)]
      refine mm_iconst dX10_wrong_51 ?_
      refine am_iload_n rfl dX10_wrong_52 ?_
      refine mm_ishl dX10_wrong_53 ⟨by omega, by have := (pow2_6 hw); omega⟩ (by omega) ?_
      refine mm_ior dX10_wrong_54 (by omega) ⟨by have := (pow2_6 hw); omega, by have := (pow2_6 hw); omega⟩ ?_
      rw [or_orB]
      refine mm_ias dX10_wrong_55 (md_wrongs hm) (by omega) ?_
      rw [Int.toNat_natCast]
      refine am_return dX10_wrong_56 rfl ?_
      first
        | (have key := po_wrong (r := (S 204 c).toNat) (pl := pl) (m := 1) hI hS (by omega) hp hw hW (Or.inl ⟨rfl, Or.inl (by omega)⟩); exact ⟨rfl, _, rfl, key.1, key.2⟩)
        | (have key := po_wrong (r := (S 204 c).toNat) (pl := pl) (m := 1) hI hS (by omega) hp hw hW (Or.inl ⟨rfl, Or.inr (fun z => by unfold bt at z; omega)⟩); exact ⟨rfl, _, rfl, key.1, key.2⟩)
        | (have key := po_wrong (r := (S 204 c).toNat) (pl := pl) (m := 0) hI hS (by omega) hp hw hW (Or.inr ⟨rfl, by omega, by rcases bt_dec (S 213 (25 * (S 204 c).toNat + pl)) w.toNat with z | z; exact z; omega⟩); exact ⟨rfl, _, rfl, key.1, key.2⟩)
