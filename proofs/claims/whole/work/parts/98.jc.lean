/-! ===== The class's judge: what it holds. Judge 85, Pool 86, CASES 90, codes 91, WRONGS 92, news 93, scene 94, CASE c at 98 + c ===== -/
def caArr (j : Nat) : Option Nat := if j < 40 then some (98 + j) else none
theorem caArr_at {i : Int} (h : 0 ≤ i ∧ i < 40) : caArr i.toNat = some (98 + i.toNat) := by unfold caArr; rw [if_pos (by omega)]
abbrev jdFd : List (Bool ⊕ Option Nat) := [.inl false, .inl false, .inl false, .inr (some 86), .inr (some 90), .inr (some 91), .inr (some 92), .inr (some 93), .inl false, .inr (some 94)]
abbrev csFd : List (Bool ⊕ Option Nat) := [.inl false, .inl false, .inl false, .inl false, .inl false, .inl false, .inl false]
/-- the judge's shape, but for the Pool's rows -/
def jsH (sh : List mm_H) : Prop := sh[85]? = some (.inr (3, jdFd)) ∧ sh[90]? = some (.inl (3, 40, caArr)) ∧ sh[91]? = some (.inl (0, 433, fun _ => none)) ∧ sh[92]? = some (.inl (0, 150, fun _ => none)) ∧ sh[93]? = some (.inl (0, 640, fun _ => none)) ∧ scS sh 94 ∧ (∀ c, c < 40 → sh[98 + c]? = some (.inr (1, csFd))) ∧ 223 ≤ sh.length
theorem jsH_of {sh sh' : List mm_H} (h : shE sh sh') (hj : jsH sh) : jsH sh' := by
  obtain ⟨h1, h2, h3, h4, h5, h6, h7, h8⟩ := hj
  have e : ∀ a, a < 223 → a ≠ 86 → sh'[a]? = sh[a]? := fun a x y => h.2 a (by omega) y
  refine ⟨by rw [e 85 (by omega) (by omega)]; exact h1, by rw [e 90 (by omega) (by omega)]; exact h2, by rw [e 91 (by omega) (by omega)]; exact h3, by rw [e 92 (by omega) (by omega)]; exact h4, by rw [e 93 (by omega) (by omega)]; exact h5, ?_, fun c hc => by rw [e (98 + c) (by omega) (by omega)]; exact h7 c hc, by have := h.1; omega⟩
  unfold scS at *
  rw [e 94 (by omega) (by omega), e (94 + 1) (by omega) (by omega), e (94 + 2) (by omega) (by omega), e (94 + 3) (by omega) (by omega)]
  exact h6
theorem bkS_of {sh sh' : List mm_H} (h : shE sh sh') (hl : 223 ≤ sh.length) (hb : bkS sh) : bkS sh' := by
  have e : ∀ a, a < 86 → sh'[a]? = sh[a]? := fun a x => h.2 a (by omega) (by omega)
  obtain ⟨h1, h2, h3, h4, h5⟩ := hb
  refine ⟨by rw [e 1 (by omega)]; exact h1, by rw [e 2 (by omega)]; exact h2, by rw [e 3 (by omega)]; exact h3, fun k hk => ?_, fun r hr => ?_⟩
  · have := h4 k hk
    unfold kdS at *
    rw [e _ (by omega), e _ (by omega), e _ (by omega)]
    exact this
  · have := h5 r hr
    unfold rtS at *
    rw [e _ (by omega), e _ (by omega), e _ (by omega), e _ (by omega), e _ (by omega), e _ (by omega), e _ (by omega), e _ (by omega), e _ (by omega), e _ (by omega)]
    exact this
theorem mdS_of {sh sh' : List mm_H} (h : shE sh sh') (hm : mdS sh) : mdS sh' := by
  have hl : 222 < sh.length := (List.getElem?_eq_some_iff.mp (md_ended hm)).1
  refine ⟨by rw [h.2 181 (by omega) (by omega)]; exact hm.1, fun q hq => ?_⟩
  have h1 := hm.2 q hq
  have h2 : q.1 < sh.length := (List.getElem?_eq_some_iff.mp h1).1
  have h3 : q.1 ≠ 86 := by
    have : ∀ q ∈ mdTab, q.1 ≠ 86 := by decide
    exact this q hq
  rw [h.2 q.1 h2 h3]
  exact h1
abbrev soC (h : Int) : Int := if h = 0 then 1 else if h = 1 then 2 else 0
abbrev keyC (S : mm_S) (c : Nat) : kyT := (soC (S (98 + c) 1), (S (98 + c) 0).toNat, S (98 + c) 2, S (98 + c) 3)
abbrev codC (S : mm_S) (c : Nat) : Int := ((S (98 + c) 1 * 6 + S (98 + c) 0) * 6 + S (98 + c) 2) * 6 + S (98 + c) 3
/-- entry i of the pool is of CASE c, and says this -/
def enC (S : mm_S) (L : mm_L) (p1 i c : Nat) (x : Int) (pl : Nat) (p : Int) : Prop := (c : Int) < S 85 1 ∧ (L p1 i).toInt = x + (c : Int) * 1125899906842624 ∧ (0 ≤ x ∧ x < 1125899906842624) ∧ lnk (keyC S c) pl x p
def XC (S : mm_S) (L : mm_L) (p1 : Nat) : XT := fun κ pl p => ∃ (i c : Nat) (x : Int), (i : Int) < S 86 0 ∧ keyC S c = κ ∧ enC S L p1 i c x pl p
def FC (S : mm_S) : FT := fun κ b => 0 ≤ b ∧ ∃ c : Nat, (c : Int) < S 85 1 ∧ keyC S c = κ ∧ bt (S (98 + c) 4) b.toNat
def WC (S : mm_S) : WT := fun r pl w => r < 6 ∧ pl < 25 ∧ bt (S 92 (25 * r + pl)) w.toNat
def SubC (S : mm_S) (L : mm_L) (p1 : Nat) (X : XT) (F : FT) (W : WT) : Prop := (∀ κ pl p, XC S L p1 κ pl p → X κ pl p) ∧ (∀ κ b, FC S κ b → F κ b) ∧ ∀ r pl w, 0 < w → w < 6 → WC S r pl w → W r pl w
/-- how many entries of the pool are of CASE c -/
def cnC (L : mm_L) (p1 c : Nat) : Nat → Int
  | 0 => 0
  | i + 1 => cnC L p1 c i + (if (L p1 i).toInt / 1125899906842624 % 64 = c then 1 else 0)
def csC (S : mm_S) (L : mm_L) (p1 c : Nat) : Prop := ((0 ≤ S (98 + c) 0 ∧ S (98 + c) 0 < 6) ∧ (0 ≤ S (98 + c) 1 ∧ S (98 + c) 1 ≤ 2) ∧ (0 ≤ S (98 + c) 2 ∧ S (98 + c) 2 < 6) ∧ (0 ≤ S (98 + c) 3 ∧ S (98 + c) 3 < 6)) ∧ (0 ≤ S (98 + c) 4 ∧ S (98 + c) 4 < 65536) ∧ S (98 + c) 5 = cnC L p1 c (S 86 0).toNat ∧ (S 85 0 = 0 → S (98 + c) 5 ≤ 2000) ∧ (-1 ≤ S (98 + c) 6 ∧ S (98 + c) 6 < S 86 0) ∧ kyV S (keyC S c) ∧ ∀ b : Nat, bt (S (98 + c) 4) b → ((b % 8 : Nat) : Int) < bmS S (keyC S c) ∧ b < 16
def imC (S : mm_S) (L : mm_L) (p1 p2 p3 n : Nat) : Prop := ((0 ≤ S 86 0 ∧ S 86 0 ≤ n) ∧ plT S L p1 p3 n (S 86 0).toNat ∧ ∀ i j : Nat, (i : Int) < S 86 0 → (j : Int) < S 86 0 → L p1 i = L p1 j → i = j) ∧ (∀ i : Nat, (i : Int) < S 86 0 → (-1 ≤ S p2 i ∧ S p2 i < S 86 0) ∧ ∃ c x pl p, enC S L p1 i c x pl p ∧ itV S (keyC S c) pl (unM p)) ∧ ((0 ≤ S 85 1 ∧ S 85 1 ≤ 40) ∧ ∀ c : Nat, (c : Int) < S 85 1 → csC S L p1 c) ∧ ((∀ q : Nat, q < 433 → -1 ≤ S 91 q ∧ S 91 q < S 85 1 ∧ (S 91 q ≠ -1 → codC S (S 91 q).toNat = q)) ∧ ∀ c : Nat, (c : Int) < S 85 1 → S 91 (codC S c).toNat = c) ∧ ((∀ x : Nat, x < 150 → 0 ≤ S 92 x ∧ S 92 x < 64) ∧ S 85 2 = wO (S 92) 150) ∧ ((0 ≤ S 85 8 ∧ S 85 8 ≤ 640) ∧ (∀ k : Nat, (k : Int) < S 85 8 → (0 ≤ S 93 k ∧ S 93 k < 640) ∧ S 93 k / 16 < S 85 1 ∧ bt (S (98 + (S 93 k / 16).toNat) 4) (S 93 k % 16).toNat) ∧ (∀ k l : Nat, (k : Int) < S 85 8 → (l : Int) < S 85 8 → S 93 k = S 93 l → k = l) ∧ ∀ c b : Nat, (c : Int) < S 85 1 → bt (S (98 + c) 4) b → ∃ k : Nat, (k : Int) < S 85 8 ∧ S 93 k = 16 * (c : Int) + b) ∧ (S 85 0 = 0 ∨ S 85 0 = 1) ∧ scV S 94
/-- the judge has gone on; callers are as they were -/
def grC (S : mm_S) (L : mm_L) (p1 p2 : Nat) (S' : mm_S) (L' : mm_L) (q1 q2 : Nat) : Prop := ((∀ b, b < 85 ∨ (138 ≤ b ∧ b < 223) → S' b = S b) ∧ ∀ b, b < 85 ∨ (90 ≤ b ∧ b < 223) → L' b = L b) ∧ (S 85 1 ≤ S' 85 1 ∧ ∀ c : Nat, (c : Int) < S 85 1 → (∀ j, j < 4 → S' (98 + c) j = S (98 + c) j) ∧ S' (98 + c) 6 = S (98 + c) 6 ∧ ∀ b, bt (S (98 + c) 4) b → bt (S' (98 + c) 4) b) ∧ (S 86 0 ≤ S' 86 0 ∧ ∀ i : Nat, (i : Int) < S 86 0 → L' q1 i = L p1 i ∧ S' q2 i = S p2 i) ∧ (∀ x b, bt (S 92 x) b → bt (S' 92 x) b) ∧ (S 85 8 ≤ S' 85 8 ∧ ∀ k : Nat, (k : Int) < S 85 8 → S' 93 k = S 93 k) ∧ S 85 0 ≤ S' 85 0 ∧ ∀ c : Nat, (c : Int) < S' 85 1 → (c : Int) < S 85 1 ∨ (XC S' L' q1 (keyC S' c) 0 (pkM (bgR (keyC S' c))) ∧ S' (98 + c) 6 = -1)
section
variable {S S' S2 : mm_S} {L L' L2 : mm_L} {p1 p2 q1 q2 r1 r2 : Nat}
theorem gr_key (h : grC S L p1 p2 S' L' q1 q2) {c : Nat} (hc : (c : Int) < S 85 1) : keyC S' c = keyC S c := by
  have := (h.2.1.2 c hc).1
  unfold keyC
  rw [this 0 (by omega), this 1 (by omega), this 2 (by omega), this 3 (by omega)]
theorem gr_en (h : grC S L p1 p2 S' L' q1 q2) {i c : Nat} {x : Int} {pl : Nat} {p : Int} (hi : (i : Int) < S 86 0) (he : enC S L p1 i c x pl p) : enC S' L' q1 i c x pl p := by
  obtain ⟨h1, h2, h3, h4⟩ := he
  exact ⟨by have := h.2.1.1; omega, by rw [(h.2.2.1.2 i hi).1]; exact h2, h3, by rw [gr_key h h1]; exact h4⟩
theorem gr_X (h : grC S L p1 p2 S' L' q1 q2) : ∀ κ pl p, XC S L p1 κ pl p → XC S' L' q1 κ pl p := by
  rintro κ pl p ⟨i, c, x, a1, a2, a3⟩
  exact ⟨i, c, x, by have := h.2.2.1.1; omega, by rw [gr_key h a3.1]; exact a2, gr_en h a1 a3⟩
theorem gr_F (h : grC S L p1 p2 S' L' q1 q2) : ∀ κ b, FC S κ b → FC S' κ b := by
  rintro κ b ⟨h0, c, a1, a2, a3⟩
  exact ⟨h0, c, by have := h.2.1.1; omega, by rw [gr_key h a1]; exact a2, (h.2.1.2 c a1).2.2 _ a3⟩
theorem gr_W (h : grC S L p1 p2 S' L' q1 q2) : ∀ r pl w, WC S r pl w → WC S' r pl w := by
  rintro r pl w ⟨a1, a2, a3⟩
  exact ⟨a1, a2, h.2.2.2.1 _ _ a3⟩
theorem gr_tr (h : grC S L p1 p2 S' L' q1 q2) (h2 : grC S' L' q1 q2 S2 L2 r1 r2) : grC S L p1 p2 S2 L2 r1 r2 := by
  have hX := gr_X h2
  have hk := fun {c : Nat} (hc : (c : Int) < S' 85 1) => gr_key h2 hc
  obtain ⟨⟨a1, a2⟩, ⟨a3, a4⟩, ⟨a5, a6⟩, a7, ⟨a8, a9⟩, a10, a11⟩ := h
  obtain ⟨⟨b1, b2⟩, ⟨b3, b4⟩, ⟨b5, b6⟩, b7, ⟨b8, b9⟩, b10, b11⟩ := h2
  refine ⟨⟨fun b hb => (b1 b hb).trans (a1 b hb), fun b hb => (b2 b hb).trans (a2 b hb)⟩, ⟨by omega, fun c hc => ?_⟩, ⟨by omega, fun i hi => ?_⟩, fun x b hb => b7 x b (a7 x b hb), ⟨by omega, fun k hk => (b9 k (by omega)).trans (a9 k hk)⟩, by omega, fun c hc => ?_⟩
  · have x1 := a4 c hc
    have x2 := b4 c (by omega)
    exact ⟨fun j hj => (x2.1 j hj).trans (x1.1 j hj), x2.2.1.trans x1.2.1, fun b hb => x2.2.2 b (x1.2.2 b hb)⟩
  · have x1 := a6 i hi
    have x2 := b6 i (by omega)
    exact ⟨x2.1.trans x1.1, x2.2.trans x1.2⟩
  · rcases b11 c hc with q | q
    · rcases a11 c q with q' | q'
      · exact Or.inl q'
      · right
        rw [hk q]
        exact ⟨hX _ _ _ q'.1, by rw [(b4 c q).2.1]; exact q'.2⟩
    · exact Or.inr q
theorem gr_rf : grC S L p1 p2 S L p1 p2 := ⟨⟨fun _ _ => rfl, fun _ _ => rfl⟩, ⟨Int.le_refl _, fun _ _ => ⟨fun _ _ => rfl, rfl, fun _ h => h⟩⟩, ⟨Int.le_refl _, fun _ _ => ⟨rfl, rfl⟩⟩, fun _ _ h => h, ⟨Int.le_refl _, fun _ _ => rfl⟩, Int.le_refl _, fun _ h => Or.inl h⟩
theorem gr_E (h : grC S L p1 p2 S' L' q1 q2) : bkE S S' := ⟨fun b h1 h2 => h.1.1 b (Or.inr (by omega)), by rw [h.1.1 181 (Or.inr (by omega))], by rw [h.1.1 181 (Or.inr (by omega))]⟩
end
