theorem am_cxl {Y Y' : am_Y} {pc nx : Nat} {M : am_M} {sa st as : List Value} {ls : List (Option Value)} {Q : Option Value → am_M → Prop} {P : Int64 → am_M → Prop} (c : am_CL Y pc nx M sa st Y' as) (hE : am_E Y' as M (fun r M' => ∃ x, r = some (.long x) ∧ P x M')) (k : ∀ x M1, P x M1 → am_AW Y M1 nx ls (.long x :: st) Q) : am_AW Y M pc ls sa Q := c ls _ Q hE (fun r M1 h => by obtain ⟨x, rfl, h⟩ := h; exact k x M1 h)
/-! ===== add ===== -/
theorem toC_one {S S' : mm_S} {c : Nat} (h : ∀ d, d ≠ c → S' 209 d = S 209 d ∧ S' 207 d = S 207 d ∧ S' 208 d = S 208 d) : ∀ n, (n ≤ c → toC S' n = toC S n) ∧ (c < n → toC S' n = toC S n + (S' 209 c - S 209 c) + (S' 207 c - S 207 c) + (S' 208 c - S 208 c))
  | 0 => ⟨fun _ => rfl, fun h => absurd h (Nat.not_lt_zero _)⟩
  | n + 1 => by
    obtain ⟨i1, i2⟩ := toC_one h n
    simp only [toC]
    refine ⟨fun hc => ?_, fun hc => ?_⟩
    · have := h n (by omega)
      rw [i1 (by omega), this.1, this.2.1, this.2.2]
    · by_cases e : n = c
      · subst e
        rw [i1 (Nat.le_refl _)]
        omega
      · have := h n e
        rw [i2 (by omega), this.1, this.2.1, this.2.2]
        omega
theorem toW_one {S S' : mm_S} {x : Nat} (h : ∀ d, d ≠ x → S' 213 d = S 213 d) : ∀ n, (n ≤ x → toW S' n = toW S n) ∧ (x < n → toW S' n = toW S n + (S' 213 x - S 213 x))
  | 0 => ⟨fun _ => rfl, fun h => absurd h (Nat.not_lt_zero _)⟩
  | n + 1 => by
    obtain ⟨i1, i2⟩ := toW_one h n
    simp only [toW]
    refine ⟨fun hc => ?_, fun hc => ?_⟩
    · rw [i1 (by omega), h n (by omega)]
    · by_cases e : n = x
      · subst e
        rw [i1 (Nat.le_refl _)]
        omega
      · rw [i2 (by omega), h n e]
        omega
/-- CASES end in STATES of what was lent -/
def bmS (S : mm_S) (κ : kyT) : Int := if κ.1 = 1 then S 182 κ.2.2.1.toNat else 1
def bvS (S : mm_S) : Prop := ∀ c : Nat, (c : Int) < S 181 27 → ∀ b : Nat, bt (S 207 c) b ∨ bt (S 208 c) b → (b : Int) < bmS S (keyM S c)
theorem bvS_of {S S' : mm_S} (he : bkE S S') (ek : ∀ c : Nat, (c : Int) < S 181 27 → keyM S' c = keyM S c) (e27 : S' 181 27 = S 181 27) (e7 : S' 207 = S 207) (e8 : S' 208 = S 208) (h : bvS S) : bvS S' := fun c hc b hb => by
  rw [e27] at hc
  rw [e7, e8] at hb
  have := h c hc b hb
  rw [ek c hc]
  unfold bmS at *
  rw [he.1 182 (by omega) (by omega)]
  exact this
/-- the post of all that adds -/
def poM (S : mm_S) (L : mm_L) (X : XT) (F : FT) (W : WT) (S' : mm_S) (L' : mm_L) : Prop := Jm S L S' L' ∧ imS S' L' ∧ SubM S' L' X F W ∧ (S' 181 39 = 1 → S 181 39 = 1 ∨ OvX X) ∧ (bvS S → bvS S')
theorem poM_tr {S S1 S2 : mm_S} {L L1 L2 : mm_L} {X : XT} {F : FT} {W : WT} (h : poM S L X F W S1 L1) (h2 : poM S1 L1 X F W S2 L2) : poM S L X F W S2 L2 := ⟨Jm_tr h2.2.1 h.2.1 h.1 h2.1, h2.2.1, h2.2.2.1, fun e => by
  rcases h2.2.2.2.1 e with q | q
  · exact h.2.2.2.1 q
  · exact Or.inr q, fun e => h2.2.2.2.2 (h.2.2.2.2 e)⟩
theorem poM_rg {S S' : mm_S} {L : mm_L} {X : XT} {F : FT} {W : WT} (h : rgF S S') (hI : imS S L) (hS : SubM S L X F W) : poM S L X F W S' L := ⟨rgF_J h, rgF_I h hI, rgF_S h hS, fun e => Or.inl (by rw [h.2 39 (by omega)] at e; exact e), bvS_of (rgF_E h) (fun c _ => rgF_key h c) (h.2 27 (by omega)) (h.1 207 (by omega) (by omega)) (h.1 208 (by omega) (by omega))⟩
section
variable {S : mm_S} {L : mm_L} {X : XT} {F : FT} {W : WT}
theorem po_spent (hI : imS S L) (hS : SubM S L X F W) (hO : OvX X) : poM S L X F W (up2 S 181 39 1) L := by
  obtain ⟨h1, h2, h3, h4, h5⟩ := hI
  have er : ∀ b, b ≠ 181 → up2 S 181 39 1 b = S b := fun b hb => up2_row hb
  have ec : ∀ j, j ≠ 39 → up2 S 181 39 1 181 j = S 181 j := fun j hj => up2_rc hj
  have he : bkE S (up2 S 181 39 1) := ⟨fun b h1 h2 => er b (by omega), ec 0 (by omega), ec 9 (by omega)⟩
  have eX : XM (up2 S 181 39 1) L = XM S L := by
    unfold XM keyM
    rw [er 203 (by omega), er 204 (by omega), er 205 (by omega), er 206 (by omega), er 209 (by omega), er 210 (by omega), ec 27 (by omega)]
  have eF : FM (up2 S 181 39 1) = FM S := by
    unfold FM keyM
    rw [er 203 (by omega), er 204 (by omega), er 205 (by omega), er 206 (by omega), er 207 (by omega), er 208 (by omega), ec 27 (by omega)]
  have eW : WM (up2 S 181 39 1) = WM S := by unfold WM; rw [er 213 (by omega)]
  have ek : ∀ c, keyM (up2 S 181 39 1) c = keyM S c := fun c => by
    unfold keyM
    rw [er 203 (by omega), er 204 (by omega), er 205 (by omega), er 206 (by omega)]
  have ee : ∀ c i, enE (up2 S 181 39 1) L c i = enE S L c i := fun c i => by unfold enE; rw [er 210 (by omega)]
  refine ⟨⟨⟨fun b x y => er b y, fun j x1 x2 x3 x4 => ec j x3, fun _ _ => rfl⟩, ⟨by rw [ec 27 (by omega)]; exact Int.le_refl _, fun c _ => ek c, fun c hc => Or.inl (by rw [ec 27 (by omega)] at hc; exact hc)⟩, ⟨fun κ pl p x => by rw [eX]; exact x, fun κ b x => by rw [eF]; exact x, fun r pl w x => by rw [eW]; exact x⟩, ⟨by rw [up2_same]; omega, by rw [ec 40 (by omega)]; exact Int.le_refl _⟩, ⟨?_, fun e => Or.inl (by rw [ec 40 (by omega)] at e; exact e)⟩, fun _ => ⟨fun b x y => er b (by omega), rfl, ec 27 (by omega)⟩⟩, ⟨?_, fun c hc => ?_, fun c d hc hd e => ?_, ?_, ?_⟩, ?_, fun _ => Or.inr hO, bvS_of he (fun c _ => ek c) (ec 27 (by omega)) (er 207 (by omega)) (er 208 (by omega))⟩
  · unfold tot
    rw [ec 27 (by omega), toC_congr (er 207 (by omega)) (er 208 (by omega)) (er 209 (by omega)), toW_congr (er 213 (by omega))]
    exact Int.le_refl _
  · unfold csR at *
    rw [ec 27 (by omega), er 203 (by omega), er 204 (by omega), er 205 (by omega), er 206 (by omega)]
    exact h1
  · rw [ec 27 (by omega)] at hc
    obtain ⟨k1, k2, k3, k4, k5⟩ := h2 c hc
    refine ⟨by rw [ek]; exact kyV_of he k1, ?_, ?_, fun i hi => ?_, fun i j hi hj e => ?_⟩
    · rw [er 209 (by omega), er 207 (by omega), er 208 (by omega)]; exact k2
    · rw [er 209 (by omega), er 212 (by omega)]
      exact tb_congr k3 (fun _ _ => rfl) (fun i _ => ee c i)
    · rw [er 209 (by omega)] at hi
      rw [ee, ek]
      exact ⟨(k4 i hi).1, itV_of he (k4 i hi).2⟩
    · rw [er 209 (by omega)] at hi hj
      rw [ee, ee] at e
      exact k5 i j hi hj e
  · rw [ec 27 (by omega)] at hc hd
    rw [ek, ek] at e
    exact h3 c d hc hd e
  · rw [er 213 (by omega)]; exact h4
  · exact ⟨Or.inr (up2_same _ _ _ _), by rw [ec 40 (by omega)]; exact h5.2⟩
  · unfold SubM
    rw [eX, eF, eW]
    exact hS
def adS (S : mm_S) (c n T : Nat) (pl : Int) : mm_S := up2 (up2 (up2 (up2 S 210 (2000 * c + n) pl) 209 c ((n : Int) + 1)) 212 T ((n : Int) + 1)) 181 40 1
theorem po_add (hI : imS S L) (hS : SubM S L X F W) {c : Nat} (hc : (c : Int) < S 181 27) {pl p : Int} (hpl : 0 ≤ pl) (hp0 : 0 ≤ p ∧ p < 2 ^ 60) (hpk : pkM (unM p) = p) (hit : itV S (keyM S c) pl (unM p)) (hX : X (keyM S c) pl.toNat p) {n d : Nat} (hn : S 209 c = n) (hn2 : n < 2000) (hd : d < 4096) (h0 : S 212 (4096 * c + (hMK (p, pl) + d) % 4096) = 0) (hpath : ∀ e, e < d → S 212 (4096 * c + (hMK (p, pl) + e) % 4096) ≠ 0 ∧ enE S L c (S 212 (4096 * c + (hMK (p, pl) + e) % 4096) - 1).toNat ≠ (p, pl)) : poM S L X F W (adS S c n (4096 * c + (hMK (p, pl) + d) % 4096) pl) (upL L 211 (2000 * c + n) (lI p)) ∧ XM (adS S c n (4096 * c + (hMK (p, pl) + d) % 4096) pl) (upL L 211 (2000 * c + n) (lI p)) (keyM S c) pl.toNat p := by
  obtain ⟨h1, h2, h3, h4, h5⟩ := hI
  obtain ⟨T, hT⟩ : ∃ T, (hMK (p, pl) + d) % 4096 = T := ⟨_, rfl⟩
  have hTl : T < 4096 := by rw [← hT]; exact Nat.mod_lt _ (by decide)
  rw [hT]
  rw [hT] at h0
  have hpl2 : (lI p).toInt = p := lI_toInt (by omega) (by omega)
  have er : ∀ b, b ≠ 181 → b ≠ 209 → b ≠ 210 → b ≠ 212 → adS S c n (4096 * c + T) pl b = S b := fun b a1 a2 a3 a4 => by
    unfold adS
    rw [up2_row a1, up2_row a4, up2_row a2, up2_row a3]
  have ec : ∀ j, j ≠ 40 → adS S c n (4096 * c + T) pl 181 j = S 181 j := fun j hj => by
    unfold adS
    rw [up2_rc hj, up2_rd (by omega), up2_rd (by omega), up2_rd (by omega)]
  have e9 : ∀ q, adS S c n (4096 * c + T) pl 209 q = if q = c then (n : Int) + 1 else S 209 q := fun q => by
    unfold adS
    rw [up2_rd (by omega), up2_rd (by omega)]
    by_cases e : q = c
    · subst e; rw [up2_same, if_pos rfl]
    · rw [up2_rc e, up2_rd (by omega), if_neg e]
  have e10 : ∀ q, adS S c n (4096 * c + T) pl 210 q = if q = 2000 * c + n then pl else S 210 q := fun q => by
    unfold adS
    rw [up2_rd (by omega), up2_rd (by omega), up2_rd (by omega)]
    by_cases e : q = 2000 * c + n
    · rw [e, up2_same, if_pos rfl]
    · rw [up2_rc e, if_neg e]
  have e12 : ∀ q, adS S c n (4096 * c + T) pl 212 q = if q = 4096 * c + T then (n : Int) + 1 else S 212 q := fun q => by
    unfold adS
    rw [up2_rd (by omega)]
    by_cases e : q = 4096 * c + T
    · rw [e, up2_same, if_pos rfl]
    · rw [up2_rc e, up2_rd (by omega), up2_rd (by omega), if_neg e]
  have e40 : adS S c n (4096 * c + T) pl 181 40 = 1 := by unfold adS; rw [up2_same]
  have he : bkE S (adS S c n (4096 * c + T) pl) := ⟨fun b x y => er b (by omega) (by omega) (by omega) (by omega), ec 0 (by omega), ec 9 (by omega)⟩
  have ek : ∀ q, keyM (adS S c n (4096 * c + T) pl) q = keyM S q := fun q => by
    unfold keyM
    rw [er 203 (by omega) (by omega) (by omega) (by omega), er 204 (by omega) (by omega) (by omega) (by omega), er 205 (by omega) (by omega) (by omega) (by omega), er 206 (by omega) (by omega) (by omega) (by omega)]
  have hsz : ∀ q : Nat, (q : Int) < S 181 27 → 0 ≤ S 209 q ∧ S 209 q ≤ 2000 := fun q hq => (h2 q hq).2.1.1
  have een : ∀ q i : Nat, (q : Int) < S 181 27 → (i : Int) < S 209 q → enE (adS S c n (4096 * c + T) pl) (upL L 211 (2000 * c + n) (lI p)) q i = enE S L q i := fun q i hq hi => by
    have := hsz q hq
    have hne : 2000 * q + i ≠ 2000 * c + n := by
      by_cases e : q = c
      · rw [e] at hi ⊢; omega
      · omega
    unfold enE
    rw [e10, if_neg hne, upL_col hne]
  have enw : enE (adS S c n (4096 * c + T) pl) (upL L 211 (2000 * c + n) (lI p)) c n = (p, pl) := by
    unfold enE
    rw [e10, if_pos rfl, upL_same, hpl2]
  have hXw : XM (adS S c n (4096 * c + T) pl) (upL L 211 (2000 * c + n) (lI p)) (keyM S c) pl.toNat p := by
    refine ⟨c, n, by rw [ec 27 (by omega)]; exact hc, ek c, by rw [e9, if_pos rfl]; omega, ?_, ?_⟩
    · rw [e10, if_pos rfl]; omega
    · rw [upL_same]; exact hpl2
  have hXinv : ∀ κ q r, XM (adS S c n (4096 * c + T) pl) (upL L 211 (2000 * c + n) (lI p)) κ q r → XM S L κ q r ∨ (κ = keyM S c ∧ q = pl.toNat ∧ r = p) := by
    rintro κ q r ⟨c', i, a1, a2, a3, a4, a5⟩
    rw [ec 27 (by omega)] at a1
    rw [ek] at a2
    rw [e9] at a3
    by_cases e : c' = c ∧ i = n
    · right
      obtain ⟨rfl, rfl⟩ := e
      rw [e10, if_pos rfl] at a4
      rw [upL_same, hpl2] at a5
      exact ⟨a2.symm, by omega, a5.symm⟩
    · left
      have hi : (i : Int) < S 209 c' := by
        by_cases e2 : c' = c
        · rw [if_pos e2] at a3
          rw [e2, hn]
          have : i ≠ n := fun z => e ⟨e2, z⟩
          omega
        · rw [if_neg e2] at a3; exact a3
      have := een c' i a1 hi
      refine ⟨c', i, a1, a2, hi, ?_, ?_⟩
      · have h := congrArg Prod.snd this
        exact h.symm.trans a4
      · have h := congrArg Prod.fst this
        exact h.symm.trans a5
  obtain ⟨g1, g2, g3, g4, g5⟩ := h2 c hc
  have hfresh := tb_not g3 (k := (p, pl)) (d := d) (by show S 212 (4096 * c + (hMK (p, pl) + d) % 4096) = 0; rw [hT]; exact h0) hpath
  have h209 : ∀ q, q ≠ c → adS S c n (4096 * c + T) pl 209 q = S 209 q ∧ adS S c n (4096 * c + T) pl 207 q = S 207 q ∧ adS S c n (4096 * c + T) pl 208 q = S 208 q := fun q hq => by
    rw [e9, if_neg hq, er 207 (by omega) (by omega) (by omega) (by omega), er 208 (by omega) (by omega) (by omega) (by omega)]
    exact ⟨rfl, rfl, rfl⟩
  have htot : tot (adS S c n (4096 * c + T) pl) = tot S + 1 := by
    unfold tot
    rw [ec 27 (by omega), toW_congr (er 213 (by omega) (by omega) (by omega) (by omega)), (toC_one h209 (S 181 27).toNat).2 (by omega), e9, if_pos rfl, er 207 (by omega) (by omega) (by omega) (by omega), er 208 (by omega) (by omega) (by omega) (by omega), hn]
    omega
  refine ⟨⟨⟨⟨fun b x y => er b y (by omega) (by omega) (by omega), fun j x1 x2 x3 x4 => ec j x4, fun b hb => upL_row hb⟩, ⟨by rw [ec 27 (by omega)]; exact Int.le_refl _, fun q _ => ek q, fun q hq => Or.inl (by rw [ec 27 (by omega)] at hq; exact hq)⟩, ⟨?_, ?_, ?_⟩, ⟨by rw [ec 39 (by omega)]; exact Int.le_refl _, by rw [e40]; omega⟩, ⟨by omega, fun _ => Or.inr (by omega)⟩, fun e => by rw [e40] at e; omega⟩, ⟨?_, fun q hq => ?_, fun q r hq hr e => ?_, ?_, ?_⟩, ?_, fun e => Or.inl (by rw [ec 39 (by omega)] at e; exact e), bvS_of he (fun q _ => ek q) (ec 27 (by omega)) (er 207 (by omega) (by omega) (by omega) (by omega)) (er 208 (by omega) (by omega) (by omega) (by omega))⟩, hXw⟩
  · rintro κ q r ⟨c', i, a1, a2, a3, a4, a5⟩
    have := een c' i a1 a3
    refine ⟨c', i, by rw [ec 27 (by omega)]; exact a1, by rw [ek]; exact a2, ?_, ?_, ?_⟩
    · rw [e9]
      split
      · rename_i e; rw [e, hn] at a3; omega
      · exact a3
    · have h := congrArg Prod.snd this
      exact h.trans a4
    · have h := congrArg Prod.fst this
      exact h.trans a5
  · rintro κ b ⟨c', a1, a2, a3⟩
    refine ⟨c', by rw [ec 27 (by omega)]; exact a1, by rw [ek]; exact a2, ?_⟩
    rw [er 207 (by omega) (by omega) (by omega) (by omega), er 208 (by omega) (by omega) (by omega) (by omega)]; exact a3
  · rintro r q w ⟨a1, a2, a3⟩
    exact ⟨a1, a2, by rw [er 213 (by omega) (by omega) (by omega) (by omega)]; exact a3⟩
  · unfold csR at *
    rw [ec 27 (by omega), er 203 (by omega) (by omega) (by omega) (by omega), er 204 (by omega) (by omega) (by omega) (by omega), er 205 (by omega) (by omega) (by omega) (by omega), er 206 (by omega) (by omega) (by omega) (by omega)]
    exact h1
  · rw [ec 27 (by omega)] at hq
    obtain ⟨k1, k2, k3, k4, k5⟩ := h2 q hq
    refine ⟨by rw [ek]; exact kyV_of he k1, ⟨?_, ?_⟩, ?_, fun i hi => ?_, fun i j hi hj e => ?_⟩
    · rw [e9]; split <;> omega
    · rw [er 207 (by omega) (by omega) (by omega) (by omega), er 208 (by omega) (by omega) (by omega) (by omega)]; exact k2.2
    · by_cases e : q = c
      · subst e
        have key := tb_add g3 (k := (p, pl)) (d := d) hd (by show S 212 (4096 * q + (hMK (p, pl) + d) % 4096) = 0; rw [hT]; exact h0) (fun e he => (hpath e he).1) (key' := enE (adS S q n (4096 * q + T) pl) (upL L 211 (2000 * q + n) (lI p)) q) (fun i hi => een q i hq (by omega)) (by rw [show (S 209 q).toNat = n by omega]; exact enw)
        rw [hT] at key
        rw [e9, if_pos rfl, show ((n : Int) + 1).toNat = (S 209 q).toNat + 1 by omega]
        refine tb_congr key (fun t ht => ?_) (fun _ _ => rfl)
        rw [e12]
        unfold ud
        by_cases z : t = T
        · rw [if_pos (by omega), if_pos z]; omega
        · rw [if_neg (by omega), if_neg z]
      · rw [e9, if_neg e]
        refine tb_congr k3 (fun t ht => ?_) (fun i hi => een q i hq (by omega))
        rw [e12, if_neg (by omega)]
    · rw [e9] at hi
      rw [ek]
      by_cases e : q = c ∧ i = n
      · obtain ⟨rfl, rfl⟩ := e
        rw [enw]
        exact ⟨hpk, itV_of he hit⟩
      · have hi2 : (i : Int) < S 209 q := by
          by_cases e2 : q = c
          · rw [if_pos e2] at hi
            rw [e2, hn]
            have : i ≠ n := fun z => e ⟨e2, z⟩
            omega
          · rw [if_neg e2] at hi; exact hi
        rw [een q i hq hi2]
        exact ⟨(k4 i hi2).1, itV_of he (k4 i hi2).2⟩
    · rw [e9] at hi hj
      by_cases e2 : q = c
      · subst e2
        rw [if_pos rfl] at hi hj
        by_cases c1 : i = n <;> by_cases c2 : j = n
        · omega
        · rw [c1, enw, een q j hq (by omega)] at e
          exact absurd e.symm (hfresh j (by omega))
        · rw [c2, enw, een q i hq (by omega)] at e
          exact absurd e (hfresh i (by omega))
        · rw [een q i hq (by omega), een q j hq (by omega)] at e
          exact k5 i j (by omega) (by omega) e
      · rw [if_neg e2] at hi hj
        rw [een q i hq hi, een q j hq hj] at e
        exact k5 i j hi hj e
  · rw [ec 27 (by omega)] at hq hr
    rw [ek, ek] at e
    exact h3 q r hq hr e
  · rw [er 213 (by omega) (by omega) (by omega) (by omega)]; exact h4
  · exact ⟨by rw [ec 39 (by omega)]; exact h5.1, Or.inr e40⟩
  · refine ⟨fun κ q r hx => ?_, fun κ b hx => ?_, fun r q w w1 w2 hx => ?_⟩
    · rcases hXinv κ q r hx with g | ⟨rfl, rfl, rfl⟩
      · exact hS.1 κ q r g
      · exact hX
    · obtain ⟨c', a1, a2, a3⟩ := hx
      refine hS.2.1 κ b ⟨c', by rw [ec 27 (by omega)] at a1; exact a1, by rw [ek] at a2; exact a2, ?_⟩
      rw [er 207 (by omega) (by omega) (by omega) (by omega), er 208 (by omega) (by omega) (by omega) (by omega)] at a3; exact a3
    · obtain ⟨a1, a2, a3⟩ := hx
      refine hS.2.2 r q w w1 w2 ⟨a1, a2, ?_⟩
      rw [er 213 (by omega) (by omega) (by omega) (by omega)] at a3; exact a3
end
set_option maxRecDepth 100000 in
set_option maxHeartbeats 16000000 in
theorem l_add {sh : List mm_H} {S : mm_S} {L : mm_L} (hm : mdS sh) (hb : mbW S) (hI : imS S L) {X : XT} {F : FT} {W : WT} (hS : SubM S L X F W) {c : Nat} (hc : (c : Int) < S 181 27) {pl p : Int} (hpl : 0 ≤ pl ∧ pl ≤ 24) (hp0 : 0 ≤ p ∧ p < 2 ^ 60) (hpk : pkM (unM p) = p) (hit : itV S (keyM S c) pl (unM p)) (hX : X (keyM S c) pl.toNat p) {D : Nat} (hD : D < 4096) (hD0 : S 212 (4096 * c + (hMK (p, pl) + D) % 4096) = 0) : ∀ (q : Nat) (d : Nat), D - d < q → (d ≤ D) → (∀ e, e < d → S 212 (4096 * c + (hMK (p, pl) + e) % 4096) ≠ 0 ∧ enE S L c (S 212 (4096 * c + (hMK (p, pl) + e) % 4096) - 1).toNat ≠ (p, pl)) → am_AW eX10_add (mm sh S L) 37 [some (.ref 181), some (.int (iI (c : Int))), some (.int (iI pl)), some (.long (lI p)), none, none, none, some (.int (iI (((hMK (p, pl) + d) % 4096 : Nat) : Int))), some (.int (iI ((4096 * c + (hMK (p, pl) + d) % 4096 : Nat) : Int))), none] [] (fun r0 M' => r0 = none ∧ ∃ S' L', M' = mm sh S' L' ∧ poM S L X F W S' L' ∧ (XM S' L' (keyM S c) pl.toNat p ∨ (S 209 c = 2000 ∧ S' 181 39 = 1))) := by
  intro q
  induction q with
  | zero =>
    intro d hq
    exact absurd hq (Nat.not_lt_zero _)
  | succ q ih =>
    intro d hq hd hpath
    obtain ⟨⟨g1, g2, g3⟩, gt, gv, gu⟩ := (hI.2.1 c hc).2
    have hc40 := hI.1.1
    have hTl : (hMK (p, pl) + d) % 4096 < 4096 := Nat.mod_lt _ (by decide)
    have hft := gt.2.1 ((hMK (p, pl) + d) % 4096) hTl
    have hft : 0 ≤ S 212 (4096 * c + (hMK (p, pl) + d) % 4096) ∧ S 212 (4096 * c + (hMK (p, pl) + d) % 4096) ≤ (S 209 c).toNat := hft
    refine am_aload_n rfl dX10_add_37 ?_
    refine mm_getR dX10_add_38 fl_X10_108 (md_0 hm) mdf_37 ?_
    refine am_iload rfl dX10_add_41 ?_
    refine mm_ial dX10_add_43 (md_table hm) (by omega) ?_
    rw [Int.toNat_natCast]
    refine mm_zeq (tgt := 111) dX10_add_44 (by decide) (by omega) (fun h44 => ?_) (fun h44 => ?_)
    · refine am_aload_n rfl dX10_add_111 ?_
      refine mm_getR dX10_add_112 fl_X10_96 (md_0 hm) mdf_34 ?_
      refine am_iload_n rfl dX10_add_115 ?_
      refine mm_ial dX10_add_116 (md_size hm) (by omega) ?_
      rw [Int.toNat_natCast]
      refine mm_sipush dX10_add_117 (by decide) ?_
      refine mm_jne (tgt := 129) dX10_add_120 (by decide) (by omega) (by omega) (fun h120 => ?_) (fun h120 => ?_)
      · refine am_aload_n rfl dX10_add_129 ?_
        refine mm_getR dX10_add_130 fl_X10_103 (md_0 hm) mdf_36 ?_
        refine mm_sipush dX10_add_133 (by decide) ?_
        refine am_iload_n rfl dX10_add_136 ?_
        refine mm_imul dX10_add_137 ?_
        refine am_aload_n rfl dX10_add_138 ?_
        refine mm_getR dX10_add_139 fl_X10_96 (md_0 hm) mdf_34 ?_
        refine am_iload_n rfl dX10_add_142 ?_
        refine mm_ial dX10_add_143 (md_size hm) (by omega) ?_
        rw [Int.toNat_natCast]
        refine mm_iadd dX10_add_144 ?_
        obtain ⟨n, hn⟩ : ∃ n : Nat, S 209 c = n := ⟨(S 209 c).toNat, by omega⟩
        rw [hn, show (2000 * (c : Int) + (n : Int)) = ((2000 * c + n : Nat) : Int) by omega]
        refine am_lload_n rfl dX10_add_145 ?_
        refine mm_las dX10_add_146 (md_packed hm) (by omega) ?_
        rw [Int.toNat_natCast]
        refine am_aload_n rfl dX10_add_147 ?_
        refine mm_getR dX10_add_148 fl_X10_100 (md_0 hm) mdf_35 ?_
        refine mm_sipush dX10_add_151 (by decide) ?_
        refine am_iload_n rfl dX10_add_154 ?_
        refine mm_imul dX10_add_155 ?_
        refine am_aload_n rfl dX10_add_156 ?_
        refine mm_getR dX10_add_157 fl_X10_96 (md_0 hm) mdf_34 ?_
        refine am_iload_n rfl dX10_add_160 ?_
        refine mm_ial dX10_add_161 (md_size hm) (by omega) ?_
        rw [Int.toNat_natCast, hn]
        refine mm_iadd dX10_add_162 ?_
        rw [show (2000 * (c : Int) + (n : Int)) = ((2000 * c + n : Nat) : Int) by omega]
        refine am_iload_n rfl dX10_add_163 ?_
        refine mm_ias dX10_add_164 (md_placeAt hm) (by omega) ?_
        rw [Int.toNat_natCast]
        refine am_aload_n rfl dX10_add_165 ?_
        refine mm_getR dX10_add_166 fl_X10_96 (md_0 hm) mdf_34 ?_
        refine am_iload_n rfl dX10_add_169 ?_
        refine am_dup2_11 rfl rfl dX10_add_170 ?_
        refine mm_ial dX10_add_171 (md_size hm) (by omega) ?_
        rw [Int.toNat_natCast, up2_rd (by omega), hn]
        refine mm_iconst dX10_add_172 ?_
        refine mm_iadd dX10_add_173 ?_
        refine mm_ias dX10_add_174 (md_size hm) (by omega) ?_
        rw [Int.toNat_natCast]
        refine am_aload_n rfl dX10_add_175 ?_
        refine mm_getR dX10_add_176 fl_X10_108 (md_0 hm) mdf_37 ?_
        refine am_iload rfl dX10_add_179 ?_
        refine am_aload_n rfl dX10_add_181 ?_
        refine mm_getR dX10_add_182 fl_X10_96 (md_0 hm) mdf_34 ?_
        refine am_iload_n rfl dX10_add_185 ?_
        refine mm_ial dX10_add_186 (md_size hm) (by omega) ?_
        rw [Int.toNat_natCast, up2_same]
        refine mm_ias dX10_add_187 (md_table hm) (by omega) ?_
        rw [Int.toNat_natCast]
        refine am_aload_n rfl dX10_add_188 ?_
        refine mm_iconst dX10_add_189 ?_
        refine mm_putZ dX10_add_190 fp_X10_237 (md_0 hm) mdf_40 (Or.inr rfl) ?_
        refine am_return dX10_add_193 rfl ?_
        have key := po_add hI hS hc hpl.1 hp0 hpk hit hX (n := n) (d := d) hn (by omega) (by omega) h44 hpath
        exact ⟨rfl, _, _, rfl, key.1, Or.inl key.2⟩
      · refine am_aload_n rfl dX10_add_123 ?_
        refine mm_iconst dX10_add_124 ?_
        refine mm_putZ dX10_add_125 fp_X10_233 (md_0 hm) mdf_39 (Or.inr rfl) ?_
        refine am_return dX10_add_128 rfl ?_
        exact ⟨rfl, _, _, rfl, po_spent hI hS (ov_full hI hS hc (by omega) hpl.1 hX (fun i hi => tb_not gt (k := (p, pl)) (d := d) h44 hpath i (by omega))), Or.inr ⟨by omega, up2_same _ _ _ _⟩⟩
    · obtain ⟨i, hi⟩ : ∃ i : Nat, S 212 (4096 * c + (hMK (p, pl) + d) % 4096) = (i : Int) + 1 := ⟨(S 212 (4096 * c + (hMK (p, pl) + d) % 4096) - 1).toNat, by omega⟩
      have hdD : d < D := by
        by_cases e : d = D
        · rw [e] at h44; exact absurd hD0 h44
        · omega
      refine mm_sipush dX10_add_47 (by decide) ?_
      refine am_iload_n rfl dX10_add_50 ?_
      refine mm_imul dX10_add_51 ?_
      refine am_aload_n rfl dX10_add_52 ?_
      refine mm_getR dX10_add_53 fl_X10_108 (md_0 hm) mdf_37 ?_
      refine am_iload rfl dX10_add_56 ?_
      refine mm_ial dX10_add_58 (md_table hm) (by omega) ?_
      rw [Int.toNat_natCast, hi]
      refine mm_iadd dX10_add_59 ?_
      refine mm_iconst dX10_add_60 ?_
      refine mm_isub dX10_add_61 ?_
      rw [show (2000 * (c : Int) + ((i : Int) + 1) - 1) = ((2000 * c + i : Nat) : Int) by omega]
      refine am_ist9 dX10_add_62 (Nat.le_of_ble_eq_true rfl) (am_c1i _) ?_
      refine am_aload_n rfl dX10_add_64 ?_
      refine mm_getR dX10_add_65 fl_X10_103 (md_0 hm) mdf_36 ?_
      refine am_iload rfl dX10_add_68 ?_
      refine mm_lal dX10_add_70 (md_packed hm) (by omega) ?_
      rw [Int.toNat_natCast]
      refine am_lload_n rfl dX10_add_71 ?_
      refine am_lcmp dX10_add_72 ?_
      obtain ⟨z, hz1, hz2, hz3⟩ := lcmp_z (L 211 (2000 * c + i)) (lI p)
      rw [hz1]
      refine mm_zne (tgt := 88) dX10_add_73 (by decide) (by omega) (fun h73 => ?_) (fun h73 => ?_)
      · refine am_iload rfl dX10_add_88 ?_
        refine mm_iconst dX10_add_90 ?_
        refine mm_iadd dX10_add_91 ?_
        refine mm_sipush dX10_add_92 (by decide) ?_
        refine mm_iandm 12 dX10_add_95 (by decide) (by decide) (by omega) ?_
        rw [show (((((hMK (p, pl) + d) % 4096 : Nat) : Int) + 1) % 2 ^ 12) = (((hMK (p, pl) + (d + 1)) % 4096 : Nat) : Int) by omega]
        refine am_ist7 dX10_add_96 (Nat.le_of_ble_eq_true rfl) am_c1n ?_
        refine mm_sipush dX10_add_98 (by decide) ?_
        refine am_iload_n rfl dX10_add_101 ?_
        refine mm_imul dX10_add_102 ?_
        refine am_iload rfl dX10_add_103 ?_
        refine mm_iadd dX10_add_105 ?_
        rw [show (4096 * (c : Int) + (((hMK (p, pl) + (d + 1)) % 4096 : Nat) : Int)) = ((4096 * c + (hMK (p, pl) + (d + 1)) % 4096 : Nat) : Int) by omega]
        refine am_ist8 dX10_add_106 (Nat.le_of_ble_eq_true rfl) (am_c1i _) ?_
        refine am_goto (tgt := 37) dX10_add_108 (by decide) ?_
        refine am_AW.unset 9 ?_
        refine ih (d + 1) (by omega) (by omega) (fun e he => ?_)
        by_cases q : e = d
        · subst q
          refine ⟨by omega, ?_⟩
          rw [hi, show ((i : Int) + 1 - 1).toNat = i by omega]
          intro z
          first
            | exact h73 (hz3.mpr (by rw [← lI_of (L 211 (2000 * c + i)), show (L 211 (2000 * c + i)).toInt = p from congrArg Prod.fst z]))
            | exact h84 (congrArg Prod.snd z)
        · exact hpath e (by omega)
      · refine am_aload_n rfl dX10_add_76 ?_
        refine mm_getR dX10_add_77 fl_X10_100 (md_0 hm) mdf_35 ?_
        refine am_iload rfl dX10_add_80 ?_
        refine mm_ial dX10_add_82 (md_placeAt hm) (by omega) ?_
        rw [Int.toNat_natCast]
        refine am_iload_n rfl dX10_add_83 ?_
        have hvi := (gv i (by omega)).2.2.1
        have hvi : 0 ≤ S 210 (2000 * c + i) ∧ S 210 (2000 * c + i) ≤ S 189 (S 204 c).toNat := hvi
        have h24 := (hb.1.2.2.2.2 (S 204 c).toNat (by have := hI.1.2 c hc; omega)).2
        refine mm_jne (tgt := 88) dX10_add_84 (by decide) (by omega) (by omega) (fun h84 => ?_) (fun h84 => ?_)
        · refine am_iload rfl dX10_add_88 ?_
          refine mm_iconst dX10_add_90 ?_
          refine mm_iadd dX10_add_91 ?_
          refine mm_sipush dX10_add_92 (by decide) ?_
          refine mm_iandm 12 dX10_add_95 (by decide) (by decide) (by omega) ?_
          rw [show (((((hMK (p, pl) + d) % 4096 : Nat) : Int) + 1) % 2 ^ 12) = (((hMK (p, pl) + (d + 1)) % 4096 : Nat) : Int) by omega]
          refine am_ist7 dX10_add_96 (Nat.le_of_ble_eq_true rfl) am_c1n ?_
          refine mm_sipush dX10_add_98 (by decide) ?_
          refine am_iload_n rfl dX10_add_101 ?_
          refine mm_imul dX10_add_102 ?_
          refine am_iload rfl dX10_add_103 ?_
          refine mm_iadd dX10_add_105 ?_
          rw [show (4096 * (c : Int) + (((hMK (p, pl) + (d + 1)) % 4096 : Nat) : Int)) = ((4096 * c + (hMK (p, pl) + (d + 1)) % 4096 : Nat) : Int) by omega]
          refine am_ist8 dX10_add_106 (Nat.le_of_ble_eq_true rfl) (am_c1i _) ?_
          refine am_goto (tgt := 37) dX10_add_108 (by decide) ?_
          refine am_AW.unset 9 ?_
          refine ih (d + 1) (by omega) (by omega) (fun e he => ?_)
          by_cases q : e = d
          · subst q
            refine ⟨by omega, ?_⟩
            rw [hi, show ((i : Int) + 1 - 1).toNat = i by omega]
            intro z
            first
              | exact h73 (hz3.mpr (by rw [← lI_of (L 211 (2000 * c + i)), show (L 211 (2000 * c + i)).toInt = p from congrArg Prod.fst z]))
              | exact h84 (congrArg Prod.snd z)
          · exact hpath e (by omega)
        · refine am_return dX10_add_87 rfl ?_
          exact ⟨rfl, S, L, rfl, poM_rg (rgF_rf S) hI hS, Or.inl ⟨c, i, hc, rfl, by omega, by omega, by rw [hz3.mp h73]; exact lI_toInt (by omega) (by omega)⟩⟩
set_option maxRecDepth 100000 in
set_option maxHeartbeats 4000000 in
theorem m_add {sh : List mm_H} {S : mm_S} {L : mm_L} (hm : mdS sh) (hb : mbW S) (hI : imS S L) {X : XT} {F : FT} {W : WT} (hS : SubM S L X F W) {c : Nat} (hc : (c : Int) < S 181 27) {pl : Int} (hit : itV S (keyM S c) pl (rgS S)) (hX : X (keyM S c) pl.toNat (pkM (rgS S))) : am_E eX10_add [.ref 181, .int (iI (c : Int)), .int (iI pl)] (mm sh S L) (fun r0 M' => r0 = none ∧ ∃ S' L', M' = mm sh S' L' ∧ poM S L X F W S' L' ∧ (XM S' L' (keyM S c) pl.toNat (pkM (rgS S)) ∨ (S 209 c = 2000 ∧ S' 181 39 = 1))) := by
  have h24 := (hb.1.2.2.2.2 (S 204 c).toNat (by have := hI.1.2 c hc; omega)).2
  have hpl : 0 ≤ pl ∧ pl ≤ S 189 (S 204 c).toNat := hit.2.1
  refine am_enter rfl rfl (Nat.le_of_ble_eq_true rfl) ?_
  refine am_aload_n rfl dX10_add_0 ?_
  refine am_cxl (mm_V0 dX10_add_1 in_X10_pack mk_X10_225 im_X10_pack sl_X10_pack ⟨Nat.le_of_ble_eq_true rfl, Nat.le_of_ble_eq_true rfl⟩ rfl (md_0 hm) (Nat.le_of_ble_eq_true rfl)) ((m_pack hm (rgB_S hit.1.1)).mono (Q' := fun r M' => ∃ x, r = some (.long x) ∧ (x = lI (pkM (rgS S)) ∧ ∃ S', M' = mm sh S' L ∧ pkF2 S S')) (fun r0 M' ⟨S', h1, h2, h3⟩ => ⟨_, h1, rfl, S', h2, h3⟩)) (fun q M1 hq => ?_)
  obtain ⟨rfl, S1, rfl, hpf⟩ := hq
  refine am_lst3 dX10_add_4 (Nat.le_of_ble_eq_true rfl) (am_c1i _) ?_
  refine am_lload_n rfl dX10_add_5 ?_
  refine am_ldc2 cc_X10_229 dX10_add_6 ?_
  refine mm_lmul dX10_add_9 ?_
  refine am_iload_n rfl dX10_add_10 ?_
  refine mm_i2l dX10_add_11 (by omega) ?_
  refine mm_ladd dX10_add_12 ?_
  refine am_ldc2 cc_X10_231 dX10_add_13 ?_
  refine mm_lmul dX10_add_16 ?_
  refine am_lst5 dX10_add_17 (Nat.le_of_ble_eq_true rfl) am_c1n ?_
  refine am_lload rfl dX10_add_19 ?_
  refine mm_bipush dX10_add_21 (by decide) ?_
  refine am_lushr dX10_add_23 ?_
  refine am_l2i dX10_add_24 ?_
  rw [h52_eq]
  rw [show h52 (lI ((pkM (rgS S) * 31 + pl) * -7046029254386353131)) = hMK (pkM (rgS S), pl) from rfl]
  refine am_ist7 dX10_add_25 (Nat.le_of_ble_eq_true rfl) am_c1n ?_
  refine mm_sipush dX10_add_27 (by decide) ?_
  refine am_iload_n rfl dX10_add_30 ?_
  refine mm_imul dX10_add_31 ?_
  refine am_iload rfl dX10_add_32 ?_
  refine mm_iadd dX10_add_34 ?_
  rw [show (4096 * (c : Int) + ((hMK (pkM (rgS S), pl) : Nat) : Int)) = ((4096 * c + hMK (pkM (rgS S), pl) : Nat) : Int) by omega]
  refine am_ist8 dX10_add_35 (Nat.le_of_ble_eq_true rfl) (am_c1i _) ?_
  have hF := rgF_pk hpf
  obtain ⟨p, hp⟩ : ∃ p, pkM (rgS S) = p := ⟨_, rfl⟩
  have hp0 := pkM_R hit.1.1
  have hiu := it_un hit
  have hpu := pkun hit.1.1
  rw [hp] at hp0 hiu hpu hX ⊢
  have hI1 := rgF_I hF hI
  have hS1 := rgF_S hF hS
  have hc1 : (c : Int) < S1 181 27 := by rw [hF.2 27 (by omega)]; exact hc
  have hk1 : keyM S1 c = keyM S c := rgF_key hF c
  have g := (hI1.2.1 c hc1).2
  obtain ⟨D, hD, hD0⟩ := tb_open g.2.1 (by have := g.1.1; omega) (hMK (p, pl))
  have h9 := l_add (sh := sh) (S := S1) (L := L) hm (mbW_of (rgF_E hF) hb) hI1 hS1 hc1 (pl := pl) (by omega) hp0 hpu (by rw [hk1]; exact itV_of (rgF_E hF) hiu) (by rw [hk1]; exact hX) hD hD0 (D + 1) 0 (by omega) (by omega) (fun e he => absurd he (Nat.not_lt_zero e))
  have e0 : ((hMK (p, pl) + 0) % 4096 : Nat) = hMK (p, pl) := Nat.mod_eq_of_lt (h52_R _)
  rw [e0] at h9
  refine am_AW.unset 5 ?_
  refine am_AW.mono (am_AW.fewer h9 (fun i v hi => ?_)) (fun r0 M' z => ?_)
  · match i, hi with
    | 0, hi => exact hi
    | 1, hi => exact hi
    | 2, hi => exact hi
    | 3, hi => exact hi
    | 4, hi => simp at hi
    | 5, hi => simp at hi
    | 6, hi => simp at hi
    | 7, hi => exact hi
    | 8, hi => exact hi
    | 9, hi => simp at hi
    | n + 10, hi => simp at hi
  · obtain ⟨z1, S', L', z2, z3, z4⟩ := z
    exact ⟨z1, S', L', z2, poM_tr (poM_rg hF hI hS) z3, by rw [hk1, hF.1 209 (by omega) (by omega)] at z4; exact z4⟩
