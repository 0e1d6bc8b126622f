/-! ===== both judges hold the same ===== -/
section
variable {S S' B : mm_S} {L L' LB : mm_L} {p1 p2 p3 n : Nat}
theorem bk_cls (he : bkE S S') {X : XT} {F : FT} {W : WT} : clsK X F W S' = clsK X F W S := by
  unfold clsK
  simp only [bk_fo he]
theorem bk_lfS (he : bkE S S') : lfX S' = lfX S ∧ lfF S' = lfF S ∧ lfW S' = lfW S := by
  refine ⟨?_, ?_, ?_⟩
  · unfold lfX; simp only [bk_cls he]
  · unfold lfF; simp only [bk_cls he]
  · unfold lfW; simp only [bk_cls he]
theorem lf_C (hS : SubC S L p1 (lfX B) (lfF B) (lfW B)) (hc : clsK (XC S L p1) (FC S) (WC S) B) : XC S L p1 = lfX B ∧ FC S = lfF B ∧ ∀ r pl w, 0 < w → w < 6 → (WC S r pl w ↔ lfW B r pl w) := by
  refine ⟨?_, ?_, fun r pl w h1 h2 => ⟨hS.2.2 r pl w h1 h2, fun h => h _ _ _ hc⟩⟩
  · funext κ pl p; exact propext ⟨hS.1 κ pl p, fun h => h _ _ _ hc⟩
  · funext κ b; exact propext ⟨hS.2.1 κ b, fun h => h _ _ _ hc⟩
theorem lf_M (hS : SubM S L (lfX B) (lfF B) (lfW B)) (hc : clsK (XM S L) (FM S) (WM S) B) : XM S L = lfX B ∧ FM S = lfF B ∧ ∀ r pl w, 0 < w → w < 6 → (WM S r pl w ↔ lfW B r pl w) := by
  refine ⟨?_, ?_, fun r pl w h1 h2 => ⟨hS.2.2 r pl w h1 h2, fun h => h _ _ _ hc⟩⟩
  · funext κ pl p; exact propext ⟨hS.1 κ pl p, fun h => h _ _ _ hc⟩
  · funext κ b; exact propext ⟨hS.2.1 κ b, fun h => h _ _ _ hc⟩
theorem cn_mono {c : Nat} : ∀ (a k : Nat), cnC L p1 c a ≤ cnC L p1 c (a + k)
  | _, 0 => Int.le_refl _
  | a, k + 1 => by
    have := cn_mono (c := c) a k
    show cnC L p1 c a ≤ cnC L p1 c (a + k) + (if (L p1 (a + k)).toInt / 1125899906842624 % 64 = c then 1 else 0)
    split <;> omega
theorem cn_inj {c N k : Nat} (g : Nat → Nat) (h1 : ∀ i, i < k → g i < N ∧ (L p1 (g i)).toInt / 1125899906842624 % 64 = c) (h2 : ∀ i j, i < k → j < k → g i = g j → i = j) : (k : Int) ≤ cnC L p1 c N := by
  have step : ∀ a b, a < b → (L p1 a).toInt / 1125899906842624 % 64 = c → cnC L p1 c a + 1 ≤ cnC L p1 c b := fun a b hab hc => by
    have e : cnC L p1 c (a + 1) = cnC L p1 c a + 1 := by
      show cnC L p1 c a + (if (L p1 a).toInt / 1125899906842624 % 64 = c then 1 else 0) = _
      rw [if_pos hc]
    have := cn_mono (L := L) (p1 := p1) (c := c) (a + 1) (b - (a + 1))
    rw [show a + 1 + (b - (a + 1)) = b by omega] at this
    omega
  have hN := cn_R (L := L) (p1 := p1) (c := c) N
  have := inj_le k (cnC L p1 c N).toNat (fun i => (cnC L p1 c (g i)).toNat) (fun i hi => by
    have u := h1 i hi
    have v := step (g i) N u.1 u.2
    have w := cn_R (L := L) (p1 := p1) (c := c) (g i)
    show (cnC L p1 c (g i)).toNat < _
    omega) (fun i j hi hj e => by
    have e : (cnC L p1 c (g i)).toNat = (cnC L p1 c (g j)).toNat := e
    have wi := cn_R (L := L) (p1 := p1) (c := c) (g i)
    have wj := cn_R (L := L) (p1 := p1) (c := c) (g j)
    have ui := h1 i hi
    have uj := h1 j hj
    apply h2 i j hi hj
    rcases Nat.lt_trichotomy (g i) (g j) with z | z | z
    · have := step (g i) (g j) z ui.2; omega
    · exact z
    · have := step (g j) (g i) z uj.2; omega)
  omega
theorem no_ovC (hI : imC S L p1 p2 p3 n) (h0 : S 85 0 = 0) : ¬ OvX (XC S L p1) := by
  have h40 := hI.2.2.1.1
  rintro (⟨κ, f, h1, h2⟩ | ⟨f, h1, h2⟩)
  · obtain ⟨j0, c, x0, a1, a2, a3⟩ := h1 0 (by omega)
    have key : ∀ i, i < 2001 → ∃ j : Nat, (j : Int) < S 86 0 ∧ ∃ x, enC S L p1 j c x (f i).1 (f i).2 := fun i hi => by
      obtain ⟨j, c', x, b1, b2, b3⟩ := h1 i hi
      have : c' = c := key_inj hI b3.1 a3.1 (b2.trans a2.symm)
      subst this
      exact ⟨j, b1, x, b3⟩
    have hN := hI.1.1
    have := cn_inj (L := L) (p1 := p1) (c := c) (N := (S 86 0).toNat) (k := 2001) (fun i => if h : i < 2001 then Classical.choose (key i h) else 0) (fun i hi => by
      simp only [hi, dif_pos]
      obtain ⟨u1, x, u2⟩ := Classical.choose_spec (key i hi)
      refine ⟨by omega, ?_⟩
      have q1 := u2.1
      have q2 := u2.2.1
      have q3 := u2.2.2.1
      omega) (fun i j hi hj e => by
      simp only [hi, hj, dif_pos] at e
      obtain ⟨u1, x, u2⟩ := Classical.choose_spec (key i hi)
      obtain ⟨v1, y, v2⟩ := Classical.choose_spec (key j hj)
      rw [e] at u2
      have w := en_fun hI u2 v2
      exact h2 i j hi hj (Prod.ext w.2.2.1 w.2.2.2))
    have u := hI.2.2.1.2 c a3.1
    have u3 := u.2.2.1
    have u4 := u.2.2.2.1 h0
    omega
  · have key : ∀ i, i < 41 → ∃ c : Nat, (c : Int) < S 85 1 ∧ keyC S c = f i := fun i hi => by
      obtain ⟨j, c, x, b1, b2, b3⟩ := h1 i hi
      exact ⟨c, b3.1, b2⟩
    have := inj_le 41 40 (fun i => if h : i < 41 then Classical.choose (key i h) else 0) (fun i hi => by
      simp only [hi, dif_pos]
      have u := (Classical.choose_spec (key i hi)).1
      omega) (fun i j hi hj e => by
      simp only [hi, hj, dif_pos] at e
      have u := (Classical.choose_spec (key i hi)).2
      have v := (Classical.choose_spec (key j hj)).2
      rw [e] at u
      exact h2 i j hi hj (u.symm.trans v))
    omega
theorem no_ovM (hI : imS S L) : ¬ OvX (XM S L) := by
  have h40 := hI.1.1
  rintro (⟨κ, f, h1, h2⟩ | ⟨f, h1, h2⟩)
  · obtain ⟨c, i0, a1, a2, a3, -, -⟩ := h1 0 (by omega)
    have hz := (hI.2.1 c a1).2.1.1
    have key : ∀ i, i < 2001 → ∃ j : Nat, (j : Int) < S 209 c ∧ S 210 (2000 * c + j) = ((f i).1 : Int) ∧ (L 211 (2000 * c + j)).toInt = (f i).2 := fun i hi => by
      obtain ⟨c', j, b1, b2, b3, b4, b5⟩ := h1 i hi
      have : c' = c := hI.2.2.1 c' c b1 a1 (b2.trans a2.symm)
      subst this
      exact ⟨j, b3, b4, b5⟩
    have := inj_le 2001 2000 (fun i => if h : i < 2001 then Classical.choose (key i h) else 0) (fun i hi => by
      simp only [hi, dif_pos]
      have u := (Classical.choose_spec (key i hi)).1
      omega) (fun i j hi hj e => by
      simp only [hi, hj, dif_pos] at e
      have u := (Classical.choose_spec (key i hi)).2
      have v := (Classical.choose_spec (key j hj)).2
      rw [e] at u
      refine h2 i j hi hj (Prod.ext ?_ (u.2.symm.trans v.2))
      have := u.1.symm.trans v.1
      omega)
    omega
  · have key : ∀ i, i < 41 → ∃ c : Nat, (c : Int) < S 181 27 ∧ keyM S c = f i := fun i hi => by
      obtain ⟨c, j, b1, b2, -⟩ := h1 i hi
      exact ⟨c, b1, b2⟩
    have := inj_le 41 40 (fun i => if h : i < 41 then Classical.choose (key i h) else 0) (fun i hi => by
      simp only [hi, dif_pos]
      have u := (Classical.choose_spec (key i hi)).1
      omega) (fun i j hi hj e => by
      simp only [hi, hj, dif_pos] at e
      have u := (Classical.choose_spec (key i hi)).2
      have v := (Classical.choose_spec (key j hj)).2
      rw [e] at u
      exact h2 i j hi hj (u.symm.trans v))
    omega
/-- as many CASES -/
theorem cs_eq (hI : imC S L p1 p2 p3 n) (hM : imS S L) (hn : inC S L p1) (hm : inS S L) (hX : XC S L p1 = XM S L) : S 85 1 = S 181 27 := by
  have h40 := hI.2.2.1.1
  have h41 := hM.1.1
  have k1 : ∀ i : Nat, i < (S 85 1).toNat → ∃ c : Nat, (c : Int) < S 181 27 ∧ keyM S c = keyC S i := fun i hi => by
    have u := hn i (by omega)
    rw [hX] at u
    obtain ⟨c, j, b1, b2, -⟩ := u
    exact ⟨c, b1, b2⟩
  have k2 : ∀ i : Nat, i < (S 181 27).toNat → ∃ c : Nat, (c : Int) < S 85 1 ∧ keyC S c = keyM S i := fun i hi => by
    have u := hm i (by omega)
    rw [← hX] at u
    obtain ⟨j, c, x, b1, b2, b3⟩ := u
    exact ⟨c, b3.1, b2⟩
  have l1 := inj_le (S 85 1).toNat (S 181 27).toNat (fun i => if h : i < (S 85 1).toNat then Classical.choose (k1 i h) else 0) (fun i hi => by
    simp only [hi, dif_pos]
    have u := (Classical.choose_spec (k1 i hi)).1
    omega) (fun i j hi hj e => by
    simp only [hi, hj, dif_pos] at e
    have u := (Classical.choose_spec (k1 i hi)).2
    have v := (Classical.choose_spec (k1 j hj)).2
    rw [e] at u
    exact key_inj hI (by omega) (by omega) (u.symm.trans v))
  have l2 := inj_le (S 181 27).toNat (S 85 1).toNat (fun i => if h : i < (S 181 27).toNat then Classical.choose (k2 i h) else 0) (fun i hi => by
    simp only [hi, dif_pos]
    have u := (Classical.choose_spec (k2 i hi)).1
    omega) (fun i j hi hj e => by
    simp only [hi, hj, dif_pos] at e
    have u := (Classical.choose_spec (k2 i hi)).2
    have v := (Classical.choose_spec (k2 j hj)).2
    rw [e] at u
    exact hM.2.2.1 i j (by omega) (by omega) (u.symm.trans v))
  omega
/-- all that may be, counted -/
def szM (S : mm_S) : Nat → Int
  | 0 => 0
  | c + 1 => szM S c + S 209 c
theorem szM_R (hM : imS S L) : ∀ C : Nat, (C : Int) ≤ S 181 27 → 0 ≤ szM S C ∧ szM S C ≤ 2000 * C
  | 0, _ => by simp [szM]
  | C + 1, h => by
    have ih := szM_R hM C (by omega)
    have u := (hM.2.1 C (by omega)).2.1.1
    simp only [szM]
    omega
theorem szM_mono (hM : imS S L) (c : Nat) : ∀ k : Nat, ((c + k : Nat) : Int) ≤ S 181 27 → szM S c ≤ szM S (c + k)
  | 0, _ => Int.le_refl _
  | k + 1, h => by
    have ih := szM_mono hM c k (by omega)
    have u := (hM.2.1 (c + k) (by omega)).2.1.1
    show szM S c ≤ szM S (c + k) + S 209 (c + k)
    omega
theorem fl_lt (hM : imS S L) {c d k : Nat} (hcd : c < d) (hd : (d : Int) ≤ S 181 27) (hk : (k : Int) < S 209 c) : szM S c + k < szM S d := by
  have := szM_mono hM (c + 1) (d - (c + 1)) (by omega)
  rw [show c + 1 + (d - (c + 1)) = d by omega] at this
  have e : szM S (c + 1) = szM S c + S 209 c := rfl
  omega
theorem fl_ex (hM : imS S L) (t : Nat) : ∀ C : Nat, (C : Int) ≤ S 181 27 → (t : Int) < szM S C → ∃ c k : Nat, c < C ∧ (k : Int) < S 209 c ∧ (t : Int) = szM S c + k
  | 0, _, h => by simp only [szM] at h; exfalso; omega
  | C + 1, h1, h => by
    have e : szM S (C + 1) = szM S C + S 209 C := rfl
    have r := szM_R hM C (by omega)
    by_cases z : (t : Int) < szM S C
    · obtain ⟨c, k, a1, a2, a3⟩ := fl_ex hM t C (by omega) z
      exact ⟨c, k, by omega, a2, a3⟩
    · exact ⟨C, ((t : Int) - szM S C).toNat, by omega, by omega, by omega⟩
theorem fl_inj (hM : imS S L) {c d k l : Nat} (hc : (c : Int) < S 181 27) (hd : (d : Int) < S 181 27) (hk : (k : Int) < S 209 c) (hl : (l : Int) < S 209 d) (e : szM S c + k = szM S d + l) : c = d ∧ k = l := by
  rcases Nat.lt_trichotomy c d with z | z | z
  · have := fl_lt hM z (by omega) hk; omega
  · subst z; exact ⟨rfl, by omega⟩
  · have := fl_lt hM z (by omega) hl; omega
theorem sz_eq (hI : imC S L p1 p2 p3 n) (hM : imS S L) (hX : XC S L p1 = XM S L) : S 86 0 = szM S (S 181 27).toNat := by
  have h41 := hM.1.1
  have hN := hI.1.1
  have hR := szM_R hM (S 181 27).toNat (by omega)
  have k1 : ∀ i : Nat, i < (S 86 0).toNat → ∃ z : Nat × Nat, (z.1 : Int) < S 181 27 ∧ (z.2 : Int) < S 209 z.1 ∧ ∃ (c : Nat) (x : Int) (pl : Nat) (p : Int), enC S L p1 i c x pl p ∧ keyM S z.1 = keyC S c ∧ S 210 (2000 * z.1 + z.2) = pl ∧ (L 211 (2000 * z.1 + z.2)).toInt = p := fun i hi => by
    obtain ⟨-, c, x, pl, p, u, -⟩ := hI.2.1 i (by omega)
    have hx : XC S L p1 (keyC S c) pl p := ⟨i, c, x, by omega, rfl, u⟩
    rw [hX] at hx
    obtain ⟨c', j, b1, b2, b3, b4, b5⟩ := hx
    exact ⟨(c', j), b1, b3, c, x, pl, p, u, b2, b4, b5⟩
  have k2 : ∀ t : Nat, t < (szM S (S 181 27).toNat).toNat → ∃ i : Nat, (i : Int) < S 86 0 ∧ ∃ c' k : Nat, (c' : Int) < S 181 27 ∧ (k : Int) < S 209 c' ∧ (t : Int) = szM S c' + k ∧ ∃ (c : Nat) (x : Int) (pl : Nat) (p : Int), enC S L p1 i c x pl p ∧ keyM S c' = keyC S c ∧ S 210 (2000 * c' + k) = pl ∧ (L 211 (2000 * c' + k)).toInt = p := fun t ht => by
    obtain ⟨c', k, a1, a2, a3⟩ := fl_ex hM t (S 181 27).toNat (by omega) (by omega)
    have u := ((hM.2.1 c' (by omega)).2.2.2.1 k a2).2.2.1.1
    have u : 0 ≤ S 210 (2000 * c' + k) := u
    have hx : XM S L (keyM S c') (S 210 (2000 * c' + k)).toNat (L 211 (2000 * c' + k)).toInt := ⟨c', k, by omega, rfl, a2, by omega, rfl⟩
    rw [← hX] at hx
    obtain ⟨i, c, x, b1, b2, b3⟩ := hx
    exact ⟨i, b1, c', k, by omega, a2, a3, c, x, _, _, b3, b2.symm, by omega, rfl⟩
  have l1 := inj_le (S 86 0).toNat (szM S (S 181 27).toNat).toNat (fun i => if h : i < (S 86 0).toNat then (szM S (Classical.choose (k1 i h)).1 + (Classical.choose (k1 i h)).2).toNat else 0) (fun i hi => by
    simp only [hi, dif_pos]
    obtain ⟨u1, u2, -⟩ := Classical.choose_spec (k1 i hi)
    have := fl_lt hM (c := (Classical.choose (k1 i hi)).1) (d := (S 181 27).toNat) (by omega) (by omega) u2
    have := szM_R hM (Classical.choose (k1 i hi)).1 (by omega)
    omega) (fun i j hi hj e => by
    simp only [hi, hj, dif_pos] at e
    obtain ⟨u1, u2, c, x, pl, p, u3, u4, u5, u6⟩ := Classical.choose_spec (k1 i hi)
    obtain ⟨v1, v2, d, y, ql, q, v3, v4, v5, v6⟩ := Classical.choose_spec (k1 j hj)
    have r1 := szM_R hM (Classical.choose (k1 i hi)).1 (by omega)
    have r2 := szM_R hM (Classical.choose (k1 j hj)).1 (by omega)
    have w := fl_inj hM u1 v1 u2 v2 (by omega)
    rw [w.1] at u4 u5 u6
    rw [w.2] at u5 u6
    have ec : c = d := key_inj hI u3.1 v3.1 (u4.symm.trans v4)
    subst ec
    have ep : pl = ql := by omega
    subst ep
    have eq : p = q := u6.symm.trans v6
    subst eq
    have ex := lnk_inj u3.2.2.2 v3.2.2.2
    subst ex
    exact hI.1.2.2 i j (by omega) (by omega) (Int64.toInt_inj.mp (u3.2.1.trans v3.2.1.symm)))
  have l2 := inj_le (szM S (S 181 27).toNat).toNat (S 86 0).toNat (fun t => if h : t < (szM S (S 181 27).toNat).toNat then Classical.choose (k2 t h) else 0) (fun i hi => by
    simp only [hi, dif_pos]
    have u := (Classical.choose_spec (k2 i hi)).1
    omega) (fun i j hi hj e => by
    simp only [hi, hj, dif_pos] at e
    obtain ⟨u0, c', k, u1, u2, ut, c, x, pl, p, u3, u4, u5, u6⟩ := Classical.choose_spec (k2 i hi)
    obtain ⟨v0, d', l, v1, v2, vt, d, y, ql, q, v3, v4, v5, v6⟩ := Classical.choose_spec (k2 j hj)
    rw [e] at u3
    obtain ⟨e1, e2, e3, e4⟩ := en_fun hI u3 v3
    subst e1 e2 e3 e4
    have ed : c' = d' := hM.2.2.1 c' d' u1 v1 (u4.trans v4.symm)
    subst ed
    have ek : k = l := (hM.2.1 c' u1).2.2.2.2 k l u2 v2 (Prod.ext (u6.trans v6.symm) (u5.trans v5.symm))
    omega)
  omega
/-! bits -/
theorem bits_eq : ∀ (n : Nat) (x y : Int), (0 ≤ x ∧ x < 2 ^ n) → (0 ≤ y ∧ y < 2 ^ n) → (∀ b, b < n → (bt x b ↔ bt y b)) → x = y
  | 0, x, y, h1, h2, _ => by
    rw [Int.pow_zero] at h1 h2
    omega
  | n + 1, x, y, h1, h2, h => by
    rw [Int.pow_succ] at h1 h2
    have hh : ∀ z : Int, ∀ b, bt (z / 2) b ↔ bt z (b + 1) := fun z b => by
      unfold bt
      rw [Int.pow_succ, Int.mul_comm, Int.ediv_ediv_of_nonneg (by omega)]
    have ih := bits_eq n (x / 2) (y / 2) (by omega) (by omega) (fun b hb => by rw [hh, hh]; exact h (b + 1) (by omega))
    have h0 := h 0 (by omega)
    unfold bt at h0
    rw [Int.pow_zero, Int.ediv_one, Int.ediv_one] at h0
    by_cases z : x % 2 = 1
    · have := h0.mp z; omega
    · have : ¬ y % 2 = 1 := fun q => z (h0.mpr q)
      omega
theorem bt_lt {x : Int} {n b : Nat} (h : 0 ≤ x ∧ x < 2 ^ n) (hb : bt x b) : b < n := by
  rcases Nat.lt_or_ge b n with z | z
  · exact z
  · exfalso
    have h2 : (2 : Int) ^ n ≤ 2 ^ b := by
      have := Nat.pow_le_pow_right (n := 2) (by decide) z
      exact_mod_cast this
    unfold bt at hb
    rw [Int.ediv_eq_zero_of_lt h.1 (by omega)] at hb
    omega
theorem wI_bt {f g : Nat → Int} {x : Nat} : ∀ w, (∀ v, 0 < v → v ≤ w → (bt (f x) v ↔ bt (g x) v)) → wI f x w = wI g x w
  | 0, _ => rfl
  | w + 1, h => by
    simp only [wI]
    rw [wI_bt w (fun v a b => h v a (by omega))]
    have := h (w + 1) (by omega) (by omega)
    rcases bt_dec (f x) (w + 1) with z | z
    · rw [bt_1 z, bt_1 (this.mp z)]
    · have nz : ¬ bt (f x) (w + 1) := fun q => by have := bt_1 q; omega
      rw [z, bt_0 (fun q => nz (this.mpr q))]
theorem wO_bt {f g : Nat → Int} : ∀ n, (∀ x, x < n → ∀ v, 0 < v → v ≤ 5 → (bt (f x) v ↔ bt (g x) v)) → wO f n = wO g n
  | 0, _ => rfl
  | n + 1, h => by
    simp only [wO]
    rw [wO_bt n (fun x hx => h x (by omega)), wI_bt 5 (fun v a b => h n (by omega) v a b)]
end
