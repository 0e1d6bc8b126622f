/-! ===== The reference's judge: what it holds ===== -/
/-! bits -/
def bt (x : Int) (b : Nat) : Prop := x / 2 ^ b % 2 = 1
def orB (x : Int) (w : Nat) : Int := ((x.toNat ||| 2 ^ w : Nat) : Int)
theorem bt_nat {n b : Nat} : bt (n : Int) b ↔ n.testBit b = true := by
  unfold bt
  rw [Nat.testBit_eq_decide_div_mod_eq, decide_eq_true_iff]
  have e : ((n : Int) / 2 ^ b % 2) = ((n / 2 ^ b % 2 : Nat) : Int) := by push_cast; rfl
  rw [e]
  omega
theorem orB_bt {x : Int} (hx : 0 ≤ x) {w b : Nat} : bt (orB x w) b ↔ bt x b ∨ b = w := by
  obtain ⟨n, rfl⟩ := Int.eq_ofNat_of_zero_le hx
  unfold orB
  rw [bt_nat, bt_nat, Int.toNat_natCast, Nat.testBit_or, Nat.testBit_two_pow, Bool.or_eq_true, decide_eq_true_iff]
  exact or_congr Iff.rfl ⟨fun h => h.symm, fun h => h.symm⟩
theorem orB_ge {x : Int} (hx : 0 ≤ x) {w : Nat} : x ≤ orB x w := by
  obtain ⟨n, rfl⟩ := Int.eq_ofNat_of_zero_le hx
  unfold orB
  rw [Int.toNat_natCast]
  have := Nat.left_le_or (n := n) (m := 2 ^ w)
  omega
theorem orB_eq {x : Int} (hx : 0 ≤ x) {w : Nat} (h : bt x w) : orB x w = x := by
  obtain ⟨n, rfl⟩ := Int.eq_ofNat_of_zero_le hx
  rw [bt_nat] at h
  unfold orB
  rw [Int.toNat_natCast]
  congr 1
  apply Nat.eq_of_testBit_eq
  intro i
  rw [Nat.testBit_or, Nat.testBit_two_pow]
  by_cases e : w = i
  · subst e; simp [h]
  · simp [e]
theorem orB_gt {x : Int} (hx : 0 ≤ x) {w : Nat} (h : ¬ bt x w) : x < orB x w := by
  have h1 := orB_ge hx (w := w)
  by_cases e : orB x w = x
  · exfalso
    have := (orB_bt hx (w := w) (b := w)).mpr (Or.inr rfl)
    rw [e] at this
    exact h this
  · omega
theorem orB_lt {x : Int} {w n : Nat} (hx : 0 ≤ x ∧ x < 2 ^ n) (hw : w < n) : 0 ≤ orB x w ∧ orB x w < 2 ^ n := by
  obtain ⟨m, rfl⟩ := Int.eq_ofNat_of_zero_le hx.1
  unfold orB
  rw [Int.toNat_natCast]
  have h1 : m < 2 ^ n := by exact_mod_cast hx.2
  have := Nat.or_lt_two_pow h1 (Nat.pow_lt_pow_right (a := 2) (by decide) hw)
  refine ⟨by omega, ?_⟩
  exact_mod_cast this
theorem bt_dec (x : Int) (b : Nat) : bt x b ∨ x / 2 ^ b % 2 = 0 := by
  unfold bt
  have := Int.emod_two_eq (x / 2 ^ b)
  omega
/-! sets in the reference's rows -/
abbrev keyM (S : mm_S) (c : Nat) : kyT := (S 203 c, (S 204 c).toNat, S 205 c, S 206 c)
abbrev enE (S : mm_S) (L : mm_L) (c i : Nat) : Int × Int := ((L 211 (2000 * c + i)).toInt, S 210 (2000 * c + i))
def hMK (k : Int × Int) : Nat := h52 (lI ((k.1 * 31 + k.2) * (-7046029254386353131)))
def XM (S : mm_S) (L : mm_L) : XT := fun κ pl p => ∃ c i : Nat, (c : Int) < S 181 27 ∧ keyM S c = κ ∧ (i : Int) < S 209 c ∧ S 210 (2000 * c + i) = pl ∧ (L 211 (2000 * c + i)).toInt = p
def FM (S : mm_S) : FT := fun κ b => ∃ c : Nat, (c : Int) < S 181 27 ∧ keyM S c = κ ∧ ((0 ≤ b ∧ b < 8 ∧ bt (S 207 c) b.toNat) ∨ (8 ≤ b ∧ bt (S 208 c) (b - 8).toNat))
def WM (S : mm_S) : WT := fun r pl w => r < 6 ∧ pl < 25 ∧ bt (S 213 (25 * r + pl)) w.toNat
def csI (S : mm_S) (L : mm_L) (c : Nat) : Prop := ((0 ≤ S 209 c ∧ S 209 c ≤ 2000) ∧ (0 ≤ S 207 c ∧ S 207 c < 64) ∧ (0 ≤ S 208 c ∧ S 208 c < 64)) ∧ tbI (fun t => S 212 (4096 * c + t)) 4096 (S 209 c).toNat (enE S L c) hMK ∧ (∀ i : Nat, (i : Int) < S 209 c → pkM (unM (enE S L c i).1) = (enE S L c i).1 ∧ itV S (keyM S c) (enE S L c i).2 (unM (enE S L c i).1)) ∧ ∀ i j : Nat, (i : Int) < S 209 c → (j : Int) < S 209 c → enE S L c i = enE S L c j → i = j
def imS (S : mm_S) (L : mm_L) : Prop := csR S ∧ (∀ c : Nat, (c : Int) < S 181 27 → kyV S (keyM S c) ∧ csI S L c) ∧ (∀ c d : Nat, (c : Int) < S 181 27 → (d : Int) < S 181 27 → keyM S c = keyM S d → c = d) ∧ (∀ x : Nat, x < 150 → 0 ≤ S 213 x ∧ S 213 x < 64) ∧ ((S 181 39 = 0 ∨ S 181 39 = 1) ∧ (S 181 40 = 0 ∨ S 181 40 = 1))
def SubM (S : mm_S) (L : mm_L) (X : XT) (F : FT) (W : WT) : Prop := (∀ κ pl p, XM S L κ pl p → X κ pl p) ∧ (∀ κ b, FM S κ b → F κ b) ∧ ∀ r pl w, 0 < w → w < 6 → WM S r pl w → W r pl w
/-! how much there is -/
def toC (S : mm_S) : Nat → Int
  | 0 => 0
  | c + 1 => toC S c + S 209 c + S 207 c + S 208 c
def toW (S : mm_S) : Nat → Int
  | 0 => 0
  | x + 1 => toW S x + S 213 x
abbrev tot (S : mm_S) : Int := toC S (S 181 27).toNat + toW S 150
def samM (S : mm_S) (L : mm_L) (S' : mm_S) (L' : mm_L) : Prop := (∀ b, 203 ≤ b → b ≤ 213 → S' b = S b) ∧ L' = L ∧ S' 181 27 = S 181 27
/-- nothing but the judge's rows has changed -/
def jmF (S : mm_S) (L : mm_L) (S' : mm_S) (L' : mm_L) : Prop := (∀ b, b < 198 ∨ 214 ≤ b → b ≠ 181 → S' b = S b) ∧ (∀ j, j ≠ 22 → j ≠ 27 → j ≠ 39 → j ≠ 40 → S' 181 j = S 181 j) ∧ ∀ b, b ≠ 211 → L' b = L b
/-- the judge has gone on -/
def Jm (S : mm_S) (L : mm_L) (S' : mm_S) (L' : mm_L) : Prop := jmF S L S' L' ∧ (S 181 27 ≤ S' 181 27 ∧ (∀ c : Nat, (c : Int) < S 181 27 → keyM S' c = keyM S c) ∧ ∀ c : Nat, (c : Int) < S' 181 27 → (c : Int) < S 181 27 ∨ XM S' L' (keyM S' c) 0 (pkM (bgR (keyM S' c)))) ∧ ((∀ κ pl p, XM S L κ pl p → XM S' L' κ pl p) ∧ (∀ κ b, FM S κ b → FM S' κ b) ∧ ∀ r pl w, WM S r pl w → WM S' r pl w) ∧ (S 181 39 ≤ S' 181 39 ∧ S 181 40 ≤ S' 181 40) ∧ (tot S ≤ tot S' ∧ (S' 181 40 = 1 → S 181 40 = 1 ∨ tot S < tot S')) ∧ (S' 181 40 = 0 → samM S L S' L')
theorem jmF_E {S S' : mm_S} {L L' : mm_L} (h : jmF S L S' L') : bkE S S' := ⟨fun b h1 h2 => h.1 b (Or.inl h2) (by omega), h.2.1 0 (by omega) (by omega) (by omega) (by omega), h.2.1 9 (by omega) (by omega) (by omega) (by omega)⟩
theorem samM_tr {S S1 S2 : mm_S} {L L1 L2 : mm_L} (h : samM S L S1 L1) (h2 : samM S1 L1 S2 L2) : samM S L S2 L2 := ⟨fun b a1 a2 => (h2.1 b a1 a2).trans (h.1 b a1 a2), h2.2.1.trans h.2.1, h2.2.2.trans h.2.2⟩
theorem Jm_tr {S S1 S2 : mm_S} {L L1 L2 : mm_L} (hI2 : imS S2 L2) (hI1 : imS S1 L1) (h : Jm S L S1 L1) (h2 : Jm S1 L1 S2 L2) : Jm S L S2 L2 := by
  obtain ⟨a1, a2, a3, a4, a5, a6⟩ := h
  obtain ⟨b1, b2, b3, b4, b5, b6⟩ := h2
  have f2 := hI2.2.2.2.2.2
  have f1 := hI1.2.2.2.2.2
  refine ⟨⟨fun b x y => (b1.1 b x y).trans (a1.1 b x y), fun j x1 x2 x3 x4 => (b1.2.1 j x1 x2 x3 x4).trans (a1.2.1 j x1 x2 x3 x4), fun b x => (b1.2.2 b x).trans (a1.2.2 b x)⟩, ⟨by omega, fun c hc => (b2.2.1 c (by omega)).trans (a2.2.1 c hc), fun c hc => ?_⟩, ⟨fun κ pl p x => b3.1 κ pl p (a3.1 κ pl p x), fun κ b x => b3.2.1 κ b (a3.2.1 κ b x), fun r pl w x => b3.2.2 r pl w (a3.2.2 r pl w x)⟩, by omega, ⟨by omega, fun e => ?_⟩, fun e => ?_⟩
  · rcases b2.2.2 c hc with q | q
    · rcases a2.2.2 c q with q2 | q2
      · exact Or.inl q2
      · right
        rw [b2.2.1 c q]
        exact b3.1 _ _ _ q2
    · exact Or.inr q
  · rcases b5.2 e with q | q
    · rcases a5.2 q with q2 | q2
      · exact Or.inl q2
      · exact Or.inr (by omega)
    · exact Or.inr (by omega)
  · exact samM_tr (a6 (by omega)) (b6 e)
/-! the book is as it was -/
theorem kyV_of {S S' : mm_S} (he : bkE S S') {κ : kyT} (h : kyV S κ) : kyV S' κ := by
  unfold kyV at *
  rw [he.2.1, he.2.2, he.1 182 (by omega) (by omega)]
  exact h
theorem okC_of {S S' : mm_S} (he : bkE S S') {c : Int} (h : okC S c) : okC S' c := by
  unfold okC at *
  rw [he.2.1, he.1 182 (by omega) (by omega)]
  exact h
theorem rgV_of {S S' : mm_S} (he : bkE S S') {κ : kyT} {R : rgT} (h : rgV S κ R) : rgV S' κ R := by
  obtain ⟨h1, h2, h3, h4, h5⟩ := h
  refine ⟨h1, h2, fun v hv e => okC_of he (h3 v hv e), fun e => ?_, h5⟩
  rw [he.2.1, he.1 182 (by omega) (by omega)]
  exact h4 e
theorem inL_of {S S' : mm_S} (he : bkE S S') {r : Nat} {to k : Int} (h : inL S r to k) : inL S' r to k := by
  unfold inL mN mSo at *
  rw [he.1 189 (by omega) (by omega), he.1 190 (by omega) (by omega)]
  exact h
theorem itV_of {S S' : mm_S} (he : bkE S S') {κ : kyT} {pl : Int} {R : rgT} (h : itV S κ pl R) : itV S' κ pl R := by
  obtain ⟨h1, h2, h3⟩ := h
  refine ⟨rgV_of he h1, by rw [he.1 189 (by omega) (by omega)]; exact h2, fun k hk e => inL_of he (h3 k hk e)⟩
/-! the registers alone have changed -/
def rgF (S S' : mm_S) : Prop := (∀ b, b < 198 ∨ 203 ≤ b → b ≠ 181 → S' b = S b) ∧ ∀ j, j ≠ 22 → S' 181 j = S 181 j
theorem rgF_rf (S : mm_S) : rgF S S := ⟨fun _ _ _ => rfl, fun _ _ => rfl⟩
theorem rgF_tr {S S1 S2 : mm_S} (h : rgF S S1) (h2 : rgF S1 S2) : rgF S S2 := ⟨fun b x y => (h2.1 b x y).trans (h.1 b x y), fun j x => (h2.2 j x).trans (h.2 j x)⟩
theorem rgF_E {S S' : mm_S} (h : rgF S S') : bkE S S' := ⟨fun b h1 h2 => h.1 b (Or.inl h2) (by omega), h.2 0 (by omega), h.2 9 (by omega)⟩
theorem rgF_up {S : mm_S} {b i : Nat} {x : Int} (h : 198 ≤ b ∧ b < 203) : rgF S (up2 S b i x) := ⟨fun c h1 h2 => up2_row (by omega), fun j hj => up2_rd (by omega)⟩
theorem rgF_le {S : mm_S} {x : Int} : rgF S (up2 S 181 22 x) := ⟨fun c h1 h2 => up2_row h2, fun j hj => up2_rc hj⟩
theorem rgF_un {S : mm_S} {p : Int} : rgF S (unS S p) := ⟨fun b h1 h2 => unS_rd (by omega) (by omega) (by omega) h2, fun j hj => unS_rc hj⟩
theorem rgF_pk {S S' : mm_S} (h : pkF2 S S') : rgF S S' := ⟨fun b h1 h2 => h b (by omega) (by omega), fun j hj => by rw [h 181 (by omega) (by omega)]⟩
theorem rgF_mv {S S' : mm_S} {r : Nat} {to : Int} (h : mvF S S' r to 6) : rgF S S' := ⟨fun b h1 h2 => h.1 b (by omega), fun j hj => by rw [h.1 181 (by omega)]⟩
theorem rgF_tn {S : mm_S} {t st : Int} : rgF S (tnS S t st) := by
  unfold tnS
  split
  · exact rgF_le
  · exact rgF_up (by omega)
section
variable {S S' : mm_S} {L : mm_L}
theorem rgF_key (h : rgF S S') (c : Nat) : keyM S' c = keyM S c := by
  unfold keyM
  rw [h.1 203 (by omega) (by omega), h.1 204 (by omega) (by omega), h.1 205 (by omega) (by omega), h.1 206 (by omega) (by omega)]
theorem rgF_en (h : rgF S S') (c i : Nat) : enE S' L c i = enE S L c i := by
  unfold enE
  rw [h.1 210 (by omega) (by omega)]
theorem rgF_X (h : rgF S S') : XM S' L = XM S L := by
  unfold XM keyM
  rw [h.1 203 (by omega) (by omega), h.1 204 (by omega) (by omega), h.1 205 (by omega) (by omega), h.1 206 (by omega) (by omega), h.1 209 (by omega) (by omega), h.1 210 (by omega) (by omega), h.2 27 (by omega)]
theorem rgF_FF (h : rgF S S') : FM S' = FM S := by
  unfold FM keyM
  rw [h.1 203 (by omega) (by omega), h.1 204 (by omega) (by omega), h.1 205 (by omega) (by omega), h.1 206 (by omega) (by omega), h.1 207 (by omega) (by omega), h.1 208 (by omega) (by omega), h.2 27 (by omega)]
theorem rgF_W (h : rgF S S') : WM S' = WM S := by
  unfold WM
  rw [h.1 213 (by omega) (by omega)]
theorem rgF_I (h : rgF S S') (hI : imS S L) : imS S' L := by
  obtain ⟨h1, h2, h3, h4, h5⟩ := hI
  have he := rgF_E h
  have e27 := h.2 27 (by omega)
  refine ⟨?_, fun c hc => ?_, fun c d hc hd e => ?_, ?_, ?_⟩
  · unfold csR at *
    rw [e27, h.1 203 (by omega) (by omega), h.1 204 (by omega) (by omega), h.1 205 (by omega) (by omega), h.1 206 (by omega) (by omega)]
    exact h1
  · rw [e27] at hc
    obtain ⟨k1, k2, k3, k4, k5⟩ := h2 c hc
    refine ⟨by rw [rgF_key h]; exact kyV_of he k1, ?_, ?_, fun i hi => ?_, fun i j hi hj e => ?_⟩
    · rw [h.1 209 (by omega) (by omega), h.1 207 (by omega) (by omega), h.1 208 (by omega) (by omega)]; exact k2
    · rw [h.1 209 (by omega) (by omega), h.1 212 (by omega) (by omega)]
      exact tb_congr k3 (fun _ _ => rfl) (fun i _ => rgF_en h c i)
    · rw [h.1 209 (by omega) (by omega)] at hi
      rw [rgF_en h, rgF_key h]
      exact ⟨(k4 i hi).1, itV_of he (k4 i hi).2⟩
    · rw [h.1 209 (by omega) (by omega)] at hi hj
      rw [rgF_en h, rgF_en h] at e
      exact k5 i j hi hj e
  · rw [e27] at hc hd
    rw [rgF_key h, rgF_key h] at e
    exact h3 c d hc hd e
  · rw [h.1 213 (by omega) (by omega)]; exact h4
  · rw [h.2 39 (by omega), h.2 40 (by omega)]; exact h5
theorem rgF_S (h : rgF S S') {X : XT} {F : FT} {W : WT} (hS : SubM S L X F W) : SubM S' L X F W := by
  unfold SubM
  rw [rgF_X h, rgF_FF h, rgF_W h]
  exact hS
theorem toC_congr (h7 : S' 207 = S 207) (h8 : S' 208 = S 208) (h9 : S' 209 = S 209) : ∀ n, toC S' n = toC S n
  | 0 => rfl
  | n + 1 => by simp only [toC]; rw [toC_congr h7 h8 h9 n, h7, h8, h9]
theorem toW_congr (h : S' 213 = S 213) : ∀ n, toW S' n = toW S n
  | 0 => rfl
  | n + 1 => by simp only [toW]; rw [toW_congr h n, h]
theorem rgF_J (h : rgF S S') : Jm S L S' L := by
  have e27 := h.2 27 (by omega)
  refine ⟨⟨fun b x y => h.1 b (by omega) y, fun j x _ _ _ => h.2 j x, fun _ _ => rfl⟩, ⟨by rw [e27]; exact Int.le_refl _, fun c _ => rgF_key h c, fun c hc => Or.inl (by rw [e27] at hc; exact hc)⟩, ⟨fun κ pl p x => by rw [rgF_X h]; exact x, fun κ b x => by rw [rgF_FF h]; exact x, fun r pl w x => by rw [rgF_W h]; exact x⟩, ⟨by rw [h.2 39 (by omega)]; exact Int.le_refl _, by rw [h.2 40 (by omega)]; exact Int.le_refl _⟩, ⟨?_, fun e => Or.inl (by rw [h.2 40 (by omega)] at e; exact e)⟩, fun _ => ⟨fun b x y => h.1 b (by omega) (by omega), rfl, e27⟩⟩
  unfold tot
  rw [e27, toC_congr (h.1 207 (by omega) (by omega)) (h.1 208 (by omega) (by omega)) (h.1 209 (by omega) (by omega)), toW_congr (h.1 213 (by omega) (by omega))]
  exact Int.le_refl _
end
/-- too much MAY BE -/
def OvX (X : XT) : Prop := (∃ (κ : kyT) (f : Nat → Nat × Int), (∀ i, i < 2001 → X κ (f i).1 (f i).2) ∧ ∀ i j, i < 2001 → j < 2001 → f i = f j → i = j) ∨ ∃ f : Nat → kyT, (∀ i, i < 41 → X (f i) 0 (pkM (bgR (f i)))) ∧ ∀ i j, i < 41 → j < 41 → f i = f j → i = j
/-- every CASE has its beginning -/
def inS (S : mm_S) (L : mm_L) : Prop := ∀ c : Nat, (c : Int) < S 181 27 → XM S L (keyM S c) 0 (pkM (bgR (keyM S c)))
theorem inS_J {S S' : mm_S} {L L' : mm_L} (h : Jm S L S' L') (hn : inS S L) : inS S' L' := fun c hc => by
  rcases h.2.1.2.2 c hc with q | q
  · rw [h.2.1.2.1 c q]
    exact h.2.2.1.1 _ _ _ (hn c q)
  · exact q
theorem ov_full {S : mm_S} {L : mm_L} {X : XT} {F : FT} {W : WT} (hI : imS S L) (hS : SubM S L X F W) {c : Nat} (hc : (c : Int) < S 181 27) (hn : S 209 c = 2000) {pl p : Int} (hpl : 0 ≤ pl) (hX : X (keyM S c) pl.toNat p) (hf : ∀ i, i < 2000 → enE S L c i ≠ (p, pl)) : OvX X := by
  obtain ⟨-, k2, k3, k4, k5⟩ := hI.2.1 c hc
  have hp : ∀ i : Nat, i < 2000 → 0 ≤ S 210 (2000 * c + i) := fun i hi => (k4 i (by omega)).2.2.1.1
  refine Or.inl ⟨keyM S c, fun i => if i < 2000 then ((S 210 (2000 * c + i)).toNat, (L 211 (2000 * c + i)).toInt) else (pl.toNat, p), fun i hi => ?_, fun i j hi hj e => ?_⟩
  · by_cases h : i < 2000
    · simp only [h, if_true]
      exact hS.1 _ _ _ ⟨c, i, hc, rfl, by omega, by have := hp i h; omega, rfl⟩
    · simp only [h, if_false]
      exact hX
  · by_cases h1 : i < 2000 <;> by_cases h2 : j < 2000
    · simp only [h1, h2, if_true] at e
      have a1 := hp i h1
      have a2 := hp j h2
      have e1 := congrArg Prod.fst e
      have e2 := congrArg Prod.snd e
      exact k5 i j (by omega) (by omega) (Prod.ext e2 (by show S 210 (2000 * c + i) = S 210 (2000 * c + j); have e1 : (S 210 (2000 * c + i)).toNat = (S 210 (2000 * c + j)).toNat := e1; omega))
    · simp only [h1, h2, if_true, if_false] at e
      have a1 := hp i h1
      have e1 : (S 210 (2000 * c + i)).toNat = pl.toNat := congrArg Prod.fst e
      exact absurd (Prod.ext (congrArg Prod.snd e) (by show S 210 (2000 * c + i) = pl; omega)) (hf i h1)
    · simp only [h1, h2, if_true, if_false] at e
      have a1 := hp j h2
      have e1 : pl.toNat = (S 210 (2000 * c + j)).toNat := congrArg Prod.fst e
      exact absurd (Prod.ext (congrArg Prod.snd e).symm (by show S 210 (2000 * c + j) = pl; omega)) (hf j h2)
    · omega
theorem ov_case {S : mm_S} {L : mm_L} {X : XT} {F : FT} {W : WT} (hI : imS S L) (hS : SubM S L X F W) (hn : inS S L) (hC : S 181 27 = 40) {κ : kyT} (hX : X κ 0 (pkM (bgR κ))) (hf : ∀ c : Nat, c < 40 → keyM S c ≠ κ) : OvX X := by
  refine Or.inr ⟨fun i => if i < 40 then keyM S i else κ, fun i hi => ?_, fun i j hi hj e => ?_⟩
  · by_cases h : i < 40
    · simp only [h, if_true]
      exact hS.1 _ _ _ (hn i (by omega))
    · simp only [h, if_false]
      exact hX
  · by_cases h1 : i < 40 <;> by_cases h2 : j < 40
    · simp only [h1, h2, if_true] at e
      exact hI.2.2.1 i j (by omega) (by omega) e
    · simp only [h1, h2, if_true, if_false] at e
      exact absurd e (hf i h1)
    · simp only [h1, h2, if_true, if_false] at e
      exact absurd e.symm (hf j h2)
    · omega
