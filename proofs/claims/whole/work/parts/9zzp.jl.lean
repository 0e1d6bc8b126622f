/-! ===== both judges: what is asked of them ===== -/
theorem caF_c {S S' : mm_S} (e3 : S' 203 = S 203) (e4 : S' 204 = S 204) (e5 : S' 205 = S 205) (e6 : S' 206 = S 206) (so r k st : Int) : ∀ n c, caF S' so r k st n c = caF S so r k st n c
  | 0, c => rfl
  | n + 1, c => by
    simp only [caF]
    rw [e3, e4, e5, e6, caF_c e3 e4 e5 e6 so r k st n (c + 1)]
theorem szM_c {S S' : mm_S} (e : S' 209 = S 209) : ∀ n, szM S' n = szM S n
  | 0 => rfl
  | n + 1 => by
    simp only [szM]
    rw [e, szM_c e n]
def pcC (S : mm_S) (t r k s : Int) : Int := if S 91 (((t * 6 + r) * 6 + k) * 6 + s).toNat = -1 then -1 else S (98 + (S 91 (((t * 6 + r) * 6 + k) * 6 + s).toNat).toNat) 4
def pcM (S : mm_S) (t r k s : Int) : Int := if S 181 26 = 1 ∧ caM S (t + 1) r k s ≠ -1 then S 207 (caM S (t + 1) r k s).toNat + 256 * S 208 (caM S (t + 1) r k s).toNat else -1
def jaX (S : mm_S) (L : mm_L) (p1 : Nat) : Prop := ∀ κ pl p, XC S L p1 κ pl p ↔ (S 181 26 = 1 ∧ XM S L κ pl p)
def jaP (S : mm_S) : Prop := ∀ t r k s : Int, (0 ≤ t ∧ t ≤ 1) → (0 ≤ r ∧ r < 6) → (0 ≤ k ∧ k < 6) → (0 ≤ s ∧ s < 6) → pcC S t r k s = pcM S t r k s
def jaN (S : mm_S) : Prop := S 85 2 = (if S 181 26 = 1 then wO (S 213) 150 else 0) ∧ S 85 1 = (if S 181 26 = 1 then S 181 27 else 0) ∧ S 86 0 = (if S 181 26 = 1 then szM S (S 181 27).toNat else 0)
def jaW (S : mm_S) : Prop := S 181 26 = 1 → ∀ x, x < 150 → ∀ v, 0 < v → v ≤ 5 → (bt (S 92 x) v ↔ bt (S 213 x) v)
def jaR (S : mm_S) : Prop := (∀ q, q < 433 → -1 ≤ S 91 q ∧ S 91 q < 40) ∧ (∀ x, x < 150 → 0 ≤ S 92 x ∧ S 92 x < 64) ∧ Rg (S 85 2)
/-- what both judges hold -/
def jA (S : mm_S) (L : mm_L) (p1 n : Nat) : Prop := ((S 85 0 = 0 ∨ S 85 0 = 1) ∧ (S 181 40 = 0 ∨ S 181 40 = 1)) ∧ qsC S L p1 n ∧ qsM S L ∧ jaR S ∧ jaX S L p1 ∧ jaP S ∧ jaN S ∧ jaW S
theorem XM_c {S S' : mm_S} {L L' : mm_L} (e : ∀ b, 203 ≤ b → b < 214 → S' b = S b) (e27 : S' 181 27 = S 181 27) (hl : L' 211 = L 211) : XM S' L' = XM S L := by
  have e3 := e 203 (by omega) (by omega)
  have e4 := e 204 (by omega) (by omega)
  have e5 := e 205 (by omega) (by omega)
  have e6 := e 206 (by omega) (by omega)
  have e9 := e 209 (by omega) (by omega)
  have e0 := e 210 (by omega) (by omega)
  unfold XM keyM
  rw [e3, e4, e5, e6, e9, e0, e27, hl]
theorem qsM_c {S S' : mm_S} {L L' : mm_L} (h : qsM S L) (e : ∀ b, 203 ≤ b → b < 214 → S' b = S b) (e26 : S' 181 26 = S 181 26) (e27 : S' 181 27 = S 181 27) (hl : L' 211 = L 211) : qsM S' L' := by
  have e3 := e 203 (by omega) (by omega)
  have e4 := e 204 (by omega) (by omega)
  have e5 := e 205 (by omega) (by omega)
  have e6 := e 206 (by omega) (by omega)
  have e7 := e 207 (by omega) (by omega)
  have e8 := e 208 (by omega) (by omega)
  have e9 := e 209 (by omega) (by omega)
  have e0 := e 210 (by omega) (by omega)
  have e13 := e 213 (by omega) (by omega)
  unfold qsM csR enP at *
  rw [e3, e4, e5, e6, e7, e8, e9, e0, e13, e26, e27, hl]
  exact h
theorem qsC_c {S S' : mm_S} {L L' : mm_L} {p1 n : Nat} (h : qsC S L p1 n) (h1 : S' 85 1 = S 85 1) (h86 : S' 86 = S 86) (hc : ∀ c, c < 40 → S' (98 + c) = S (98 + c)) (hL : L' p1 = L p1) (hs : scV S' 94) : qsC S' L' p1 n := by
  obtain ⟨a1, a2, a3, a4, -⟩ := h
  have kk : ∀ c : Nat, (c : Int) < S 85 1 → keyC S' c = keyC S c := fun c x => (key_of (fun j _ => by rw [hc c (by omega)])).1
  refine ⟨by rw [h86]; exact a1, by rw [h1]; exact a2, fun c x => ?_, fun i hi => ?_, hs⟩
  · rw [h1] at x
    have := a3 c x
    unfold ckR at *
    rw [hc c (by omega)]
    exact this
  · rw [h86] at hi
    obtain ⟨c, x, pl, p, u1, u2⟩ := a4 i hi
    exact ⟨c, x, pl, p, en_of (kk c u1.1) (by omega) (by rw [hL]) u1, by rw [kk c u1.1]; exact u2⟩
/-- what both judges hold stays where their cells stay -/
theorem jA_c {S S' : mm_S} {L L' : mm_L} {p1 n : Nat} (h : jA S L p1 n) (e85 : S' 85 = S 85) (e86 : S' 86 = S 86) (e91 : S' 91 = S 91) (e92 : S' 92 = S 92) (hc : ∀ c, c < 40 → S' (98 + c) = S (98 + c)) (hs : scV S' 94) (e : ∀ b, 203 ≤ b → b < 214 → S' b = S b) (e26 : S' 181 26 = S 181 26) (e27 : S' 181 27 = S 181 27) (e40 : S' 181 40 = S 181 40) (hL : L' p1 = L p1) (hl : L' 211 = L 211) : jA S' L' p1 n := by
  obtain ⟨⟨a1, a2⟩, q1, q2, r1, x1, x2, x3, x4⟩ := h
  have c40 := q1.2.1
  have r91 := r1.1
  refine ⟨⟨by rw [e85]; exact a1, by rw [e40]; exact a2⟩, qsC_c q1 (by rw [e85]) e86 hc hL hs, qsM_c q2 e e26 e27 hl, ?_, ?_, ?_, ?_, ?_⟩
  · unfold jaR at *
    rw [e91, e92, e85]
    exact r1
  · unfold jaX at *
    rw [(XC_con (by omega) (by rw [e85]) e86 hc hL).1, XM_c e e27 hl, e26]
    exact x1
  · intro t r k s ht hr hk hs2
    have y := x2 t r k s ht hr hk hs2
    have z := r91 (((t * 6 + r) * 6 + k) * 6 + s).toNat (by omega)
    have u : pcC S' t r k s = pcC S t r k s := by
      unfold pcC
      rw [e91]
      by_cases w : S 91 (((t * 6 + r) * 6 + k) * 6 + s).toNat = -1
      · rw [if_pos w, if_pos w]
      · rw [if_neg w, if_neg w, hc _ (by omega)]
    have v : pcM S' t r k s = pcM S t r k s := by
      unfold pcM caM
      rw [e26, e27, caF_c (e 203 (by omega) (by omega)) (e 204 (by omega) (by omega)) (e 205 (by omega) (by omega)) (e 206 (by omega) (by omega)), e 207 (by omega) (by omega), e 208 (by omega) (by omega)]
    rw [u, v]
    exact y
  · unfold jaN at *
    rw [e85, e86, e26, e27, e 213 (by omega) (by omega), szM_c (e 209 (by omega) (by omega))]
    exact x3
  · unfold jaW at *
    rw [e92, e26, e 213 (by omega) (by omega)]
    exact x4
theorem qsM_of {S : mm_S} {L : mm_L} (h : imS S L) (h26 : S 181 26 = 0 ∨ S 181 26 = 1) (hv : mdV S) : qsM S L := by
  obtain ⟨a, b, -, d, -⟩ := h
  refine ⟨a, fun c hc => (b c hc).2.1, fun c k hc hk => ?_, d, h26⟩
  have u := (b c hc).2.2.2.1 k hk
  have w := a.2 c hc
  have z := hv.2.2.2.2 (S 204 c).toNat (by omega)
  have y := u.2.2.1
  exact ⟨u.2.1.1, u.1, y.1, by have := y.2; show S 210 (2000 * c + k) ≤ 24; exact Int.le_trans this z.2⟩
theorem qsC_of {S : mm_S} {L : mm_L} {p1 p2 p3 n : Nat} (h : imC S L p1 p2 p3 n) : qsC S L p1 n := by
  obtain ⟨⟨a1, -⟩, b1, ⟨c1, c2⟩, -, -, -, -, hs⟩ := h
  refine ⟨a1, c1, fun c hc => (c2 c hc).1, fun i hi => ?_, hs⟩
  obtain ⟨-, c, x, pl, p, u1, u2⟩ := b1 i hi
  exact ⟨c, x, pl, p, u1, u2.1.2.1⟩
/-- nothing has been judged, or it was too much -/
theorem jA_0 {S : mm_S} {L : mm_L} {p1 n : Nat} (h26 : S 181 26 = 0) (h85 : S 85 0 = 0 ∨ S 85 0 = 1) (h40 : S 181 40 = 0 ∨ S 181 40 = 1) (h1 : S 85 1 = 0) (h2 : S 85 2 = 0) (h86 : S 86 0 = 0) (h91 : ∀ q, q < 433 → S 91 q = -1) (h92 : ∀ x, x < 150 → S 92 x = 0) (hs : scV S 94) (hM : qsM S L) : jA S L p1 n := by
  refine ⟨⟨h85, h40⟩, ⟨by omega, by omega, fun c hc => by omega, fun i hi => by omega, hs⟩, hM, ⟨fun q hq => by rw [h91 q hq]; omega, fun x hx => by rw [h92 x hx]; omega, by rw [h2]; decide⟩, ?_, ?_, ?_, fun z => by omega⟩
  · intro κ pl p
    constructor
    · rintro ⟨i, c, x, hi, -⟩
      omega
    · intro z
      omega
  · intro t r k s ht hr hk hs2
    unfold pcC pcM
    rw [if_pos (h91 _ (by omega)), if_neg (fun z => by omega)]
  · unfold jaN
    rw [h26, if_neg (by decide), if_neg (by decide), if_neg (by decide)]
    exact ⟨h2, h1, h86⟩
theorem bt_sum {x y : Int} (hx : 0 ≤ x ∧ x < 64) (b : Nat) : bt (x + 256 * y) b ↔ (b < 8 ∧ bt x b) ∨ (8 ≤ b ∧ bt y (b - 8)) := by
  by_cases h : b < 8
  · have : bt (x + 256 * y) b ↔ bt x b := by
      unfold bt
      have : b = 0 ∨ b = 1 ∨ b = 2 ∨ b = 3 ∨ b = 4 ∨ b = 5 ∨ b = 6 ∨ b = 7 := by omega
      rcases this with rfl | rfl | rfl | rfl | rfl | rfl | rfl | rfl <;> omega
    rw [this]
    constructor
    · intro z; exact Or.inl ⟨h, z⟩
    · rintro (z | z)
      · exact z.2
      · exact absurd z.1 (by omega)
  · obtain ⟨c, rfl⟩ : ∃ c, b = 8 + c := ⟨b - 8, by omega⟩
    have : bt (x + 256 * y) (8 + c) ↔ bt y c := by
      unfold bt
      rw [Int.pow_add, ← Int.ediv_ediv_of_nonneg (by decide), show (x + 256 * y) / 2 ^ 8 = y by omega]
    rw [this, show 8 + c - 8 = c by omega]
    constructor
    · intro z; exact Or.inr ⟨by omega, z⟩
    · rintro (z | z)
      · exact absurd z.1 h
      · exact z.2
theorem cod_u {h r k s h' r' k' s' : Int} (a1 : 0 ≤ r ∧ r < 6) (a2 : 0 ≤ k ∧ k < 6) (a3 : 0 ≤ s ∧ s < 6) (b1 : 0 ≤ r' ∧ r' < 6) (b2 : 0 ≤ k' ∧ k' < 6) (b3 : 0 ≤ s' ∧ s' < 6) (e : ((h * 6 + r) * 6 + k) * 6 + s = ((h' * 6 + r') * 6 + k') * 6 + s') : h = h' ∧ r = r' ∧ k = k' ∧ s = s' := by omega
