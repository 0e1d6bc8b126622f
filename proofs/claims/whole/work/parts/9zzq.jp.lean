/-! ===== judge of both ===== -/
theorem jA_p {S : mm_S} {L : mm_L} {p1 p2 p3 n : Nat} (hI : imC S L p1 p2 p3 n) (hn : inC S L p1) (hM : imS S L) (hm : inS S L) (hX : XC S L p1 = XM S L) (hF : FC S = FM S) (h26 : S 181 26 = 1) : jaP S := by
  intro t r k s ht hr hk hs
  obtain ⟨q, hq⟩ : ∃ q : Nat, (q : Int) = ((t * 6 + r) * 6 + k) * 6 + s := ⟨(((t * 6 + r) * 6 + k) * 6 + s).toNat, by omega⟩
  have hq4 : q < 433 := by omega
  have so : soC t = t + 1 := by
    rcases (show t = 0 ∨ t = 1 by omega) with rfl | rfl <;> rfl
  have hu := hI.2.2.2.1.1 q hq4
  have hC1 := hI.2.2.1.1
  obtain ⟨κ, hκ⟩ : ∃ κ : kyT, κ = (t + 1, r.toNat, k, s) := ⟨_, rfl⟩
  have hC : ∀ c : Nat, (c : Int) < S 85 1 → (keyC S c = κ ↔ S 91 q = c) := by
    intro c hc
    constructor
    · intro e
      have h1 := key_cod hI hc (r := r) (h := t) (k := k) (s := s) hr (by omega) (by rw [e, hκ, so])
      have h2 := hI.2.2.2.1.2 c hc
      rw [h1, ← hq, Int.toNat_natCast] at h2
      exact h2
    · intro e
      have h3 := hu.2.2 (by omega)
      rw [e, Int.toNat_natCast] at h3
      have u := (hI.2.2.1.2 c hc).1
      obtain ⟨e1, e2, e3, e4⟩ := cod_u u.1 u.2.2.1 u.2.2.2 hr hk hs (h3.trans hq)
      rw [hκ]
      show (soC (S (98 + c) 1), (S (98 + c) 0).toNat, S (98 + c) 2, S (98 + c) 3) = _
      rw [e1, e2, e3, e4, so]
  have hD : ∀ d : Nat, (d : Int) < S 181 27 → (keyM S d = κ ↔ (S 203 d = t + 1 ∧ S 204 d = r ∧ S 205 d = k ∧ S 206 d = s)) := by
    intro d hd
    have u := hM.1.2 d hd
    constructor
    · intro e
      rw [hκ] at e
      have e2 : (S 204 d).toNat = r.toNat := congrArg (fun z => z.2.1) e
      exact ⟨congrArg Prod.fst e, by omega, congrArg (fun z => z.2.2.1) e, congrArg (fun z => z.2.2.2) e⟩
    · rintro ⟨e1, e2, e3, e4⟩
      rw [hκ]
      show (S 203 d, (S 204 d).toNat, S 205 d, S 206 d) = _
      rw [e1, e2, e3, e4]
  have hex : (∃ c : Nat, (c : Int) < S 85 1 ∧ keyC S c = κ) ↔ ∃ d : Nat, (d : Int) < S 181 27 ∧ keyM S d = κ := by
    constructor
    · rintro ⟨c, hc, e⟩
      have h1 := hn c hc
      rw [hX, e] at h1
      obtain ⟨d, i, h2, h3, -⟩ := h1
      exact ⟨d, h2, h3⟩
    · rintro ⟨d, hd, e⟩
      have h1 := hm d hd
      rw [← hX, e] at h1
      obtain ⟨i, c, x, h2, h3, h4⟩ := h1
      exact ⟨c, h4.1, h3⟩
  have h27 := hM.1.1
  rcases caF_sp S (t + 1) r k s (S 181 27).toNat 0 with ⟨h1, h2⟩ | ⟨d, h1, h2, h3, h4⟩
  · have h9 : S 91 q = -1 := by
      refine Classical.byContradiction fun z => ?_
      obtain ⟨c, hc⟩ : ∃ c : Nat, (c : Int) = S 91 q := ⟨(S 91 q).toNat, by omega⟩
      have hcl : (c : Int) < S 85 1 := by omega
      obtain ⟨d, d1, d2⟩ := hex.1 ⟨c, hcl, (hC c hcl).2 hc.symm⟩
      exact h2 d (by omega) (by omega) ((hD d d1).1 d2)
    unfold pcC pcM
    rw [← hq, Int.toNat_natCast, if_pos h9, if_neg (fun z => z.2 h1)]
  · have d1 : (d : Int) < S 181 27 := by omega
    have hd : caM S (t + 1) r k s = d := h1
    have ek := (hD d d1).2 h4
    obtain ⟨c, hc, e⟩ := hex.2 ⟨d, d1, ek⟩
    have e91 := (hC c hc).1 e
    have u := (hM.2.1 d d1).2.1
    have w := (hI.2.2.1.2 c hc).2.1
    unfold pcC pcM
    rw [← hq, Int.toNat_natCast, e91, if_neg (by omega), Int.toNat_natCast, hd, if_pos ⟨h26, by omega⟩, Int.toNat_natCast]
    refine bits_eq 16 _ _ ⟨by omega, by omega⟩ ⟨by omega, by omega⟩ (fun b hb => ?_)
    have h5 : FC S κ (b : Int) ↔ FM S κ (b : Int) := by rw [hF]
    have h6 : FC S κ (b : Int) ↔ bt (S (98 + c) 4) b := by
      constructor
      · rintro ⟨-, c', hc', e', h'⟩
        have := key_inj hI hc' hc (e'.trans e.symm)
        rw [this] at h'
        exact h'
      · intro z
        exact ⟨by omega, c, hc, e, z⟩
    have h7 : FM S κ (b : Int) ↔ bt (S 207 d + 256 * S 208 d) b := by
      rw [bt_sum u.2.1]
      constructor
      · rintro ⟨d', hd', e', h'⟩
        have := hM.2.2.1 d' d hd' d1 (e'.trans ek.symm)
        rw [this] at h'
        rcases h' with ⟨y1, y2, y3⟩ | ⟨y1, y2⟩
        · exact Or.inl ⟨by omega, y3⟩
        · rw [show ((b : Int) - 8).toNat = b - 8 by omega] at y2
          exact Or.inr ⟨by omega, y2⟩
      · intro z
        refine ⟨d, d1, ek, ?_⟩
        rcases z with ⟨y1, y2⟩ | ⟨y1, y2⟩
        · exact Or.inl ⟨by omega, by omega, y2⟩
        · refine Or.inr ⟨by omega, ?_⟩
          rw [show ((b : Int) - 8).toNat = b - 8 by omega]
          exact y2
    rw [← h6, ← h7]
    exact h5
theorem jA_1 {S : mm_S} {L : mm_L} {p1 p2 p3 n : Nat} (hI : imC S L p1 p2 p3 n) (hn : inC S L p1) (hM : imS S L) (hm : inS S L) (hX : XC S L p1 = XM S L) (hF : FC S = FM S) (hW : ∀ r pl w, 0 < w → w < 6 → (WC S r pl w ↔ WM S r pl w)) (h26 : S 181 26 = 1) (hv : mdV S) : jA S L p1 n := by
  have hw : jaW S := fun _ x hx v h1 h2 => by
    have h3 := hW (x / 25) (x % 25) (v : Int) (by omega) (by omega)
    unfold WC WM at h3
    rw [show 25 * (x / 25) + x % 25 = x by omega, Int.toNat_natCast] at h3
    constructor
    · intro z; exact (h3.1 ⟨by omega, by omega, z⟩).2.2
    · intro z; exact (h3.2 ⟨by omega, by omega, z⟩).2.2
  have hwo : wO (S 92) 150 = wO (S 213) 150 := wO_bt 150 (fun x hx v h1 h2 => hw h26 x hx v h1 h2)
  have h2 := hI.2.2.2.2.1.2
  have c1 := hI.2.2.1.1
  have wr := wO_R (S 92) 150
  refine ⟨⟨hI.2.2.2.2.2.2.1, hM.2.2.2.2.2⟩, qsC_of hI, qsM_of hM (Or.inr h26) hv, ⟨fun q hq => ?_, hI.2.2.2.2.1.1, ?_⟩, ?_, jA_p hI hn hM hm hX hF h26, ⟨?_, ?_, ?_⟩, hw⟩
  · have := hI.2.2.2.1.1 q hq
    omega
  · rw [h2]
    unfold Rg
    omega
  · intro κ pl p
    rw [hX]
    exact ⟨fun z => ⟨h26, z⟩, fun z => z.2⟩
  · rw [if_pos h26, h2, hwo]
  · rw [if_pos h26]
    exact cs_eq hI hM hn hm hX
  · rw [if_pos h26]
    exact sz_eq hI hM hX
section
variable {S S' : mm_S}
theorem kyV_w (he : bkW S S') {κ : kyT} (h : kyV S κ) : kyV S' κ := by
  unfold kyV at *
  rw [he.2.1, he.2.2, he.1 182 (by omega) (by omega)]
  exact h
theorem okC_w (he : bkW S S') {c : Int} (h : okC S c) : okC S' c := by
  unfold okC at *
  rw [he.2.1, he.1 182 (by omega) (by omega)]
  exact h
theorem rgV_w (he : bkW S S') {κ : kyT} {R : rgT} (h : rgV S κ R) : rgV S' κ R := by
  obtain ⟨h1, h2, h3, h4, h5⟩ := h
  refine ⟨h1, h2, fun v hv e => okC_w he (h3 v hv e), fun e => ?_, h5⟩
  rw [he.2.1, he.1 182 (by omega) (by omega)]
  exact h4 e
theorem inL_w (he : bkW S S') {r : Nat} {to k : Int} (h : inL S r to k) : inL S' r to k := by
  unfold inL mN mSo at *
  rw [he.1 189 (by omega) (by omega), he.1 190 (by omega) (by omega)]
  exact h
theorem itV_w (he : bkW S S') {κ : kyT} {pl : Int} {R : rgT} (h : itV S κ pl R) : itV S' κ pl R := by
  obtain ⟨h1, h2, h3⟩ := h
  refine ⟨rgV_w he h1, by rw [he.1 189 (by omega) (by omega)]; exact h2, fun k hk e => inL_w he (h3 k hk e)⟩
theorem bm_w (he : bkW S S') (κ : kyT) : bmS S' κ = bmS S κ := by
  unfold bmS
  rw [he.1 182 (by omega) (by omega)]
theorem im_w {L L' : mm_L} {p1 p2 p3 n : Nat} (hI : imC S L p1 p2 p3 n) (he : bkW S S') (h2 : S' p2 = S p2) (h3 : S' p3 = S p3) (hL : L' p1 = L p1) : imC S' L' p1 p2 p3 n := by
  obtain ⟨⟨a1, a2, a3⟩, b1, ⟨c1, c2⟩, ⟨d1, d2⟩, e1, ⟨g1, g2, g3, g4⟩, k1, k2⟩ := hI
  have h85 := he.1 85 (by omega) (by omega)
  have h86 := he.1 86 (by omega) (by omega)
  have h91 := he.1 91 (by omega) (by omega)
  have h92 := he.1 92 (by omega) (by omega)
  have h93 := he.1 93 (by omega) (by omega)
  have hc : ∀ c, c < 40 → S' (98 + c) = S (98 + c) := fun c h => he.1 (98 + c) (by omega) (by omega)
  have kk : ∀ c : Nat, (c : Int) < S 85 1 → keyC S' c = keyC S c ∧ codC S' c = codC S c := fun c x => key_of (fun j _ => by rw [hc c (by omega)])
  refine ⟨⟨by rw [h86]; exact a1, ?_, fun i j hi hj e => ?_⟩, fun i hi => ?_, ⟨by rw [h85]; exact c1, fun c x => ?_⟩, ⟨fun q hq => ?_, fun c x => ?_⟩, by rw [h92, h85]; exact e1, ⟨by rw [h85]; exact g1, fun k x => ?_, fun k l x y e => ?_, fun c b x y => ?_⟩, by rw [h85]; exact k1, ?_⟩
  · unfold plT at *
    rw [h86, h3, hL]
    exact a2
  · rw [h86] at hi hj
    rw [hL] at e
    exact a3 i j hi hj e
  · rw [h86] at hi
    obtain ⟨u1, c, x, pl, p, u2, u3⟩ := b1 i hi
    rw [h86, h2]
    have kc := (kk c u2.1).1
    exact ⟨u1, c, x, pl, p, en_of kc (by rw [h85]; omega) (by rw [hL]) u2, by rw [kc]; exact itV_w he u3⟩
  · rw [h85] at x
    have kc := (kk c x).1
    have u := c2 c x
    have ec := hc c (by omega)
    unfold csC at *
    rw [ec, h86, h85, kc, bm_w he]
    refine ⟨u.1, u.2.1, ?_, u.2.2.2.1, u.2.2.2.2.1, kyV_w he u.2.2.2.2.2.1, u.2.2.2.2.2.2⟩
    rw [cn_of _ (fun i _ => by rw [hL])]
    exact u.2.2.1
  · rw [h91, h85]
    have u := d1 q hq
    exact ⟨u.1, u.2.1, fun z => by rw [(kk _ (by omega)).2]; exact u.2.2 z⟩
  · rw [h85] at x
    rw [h91, (kk c x).2]
    exact d2 c x
  · rw [h85] at x
    rw [h93, h85]
    have u := g2 k x
    exact ⟨u.1, u.2.1, by rw [hc _ (by omega)]; exact u.2.2⟩
  · rw [h85] at x y
    rw [h93] at e
    exact g3 k l x y e
  · rw [h85] at x
    rw [hc c (by omega)] at y
    rw [h85, h93]
    exact g4 c b x y
  · unfold scV at *
    rw [he.1 94 (by omega) (by omega), he.1 (94 + 1) (by omega) (by omega), he.1 (94 + 2) (by omega) (by omega), he.1 (94 + 3) (by omega) (by omega)]
    exact k2
end
theorem whole_eq {S : mm_S} (h : BK S) : cWhole S ↔ mWhole S := by
  have hb := h.2.1
  have hv := h.1.1
  have hq := h.1.2.2.1
  have key : ∀ r : Nat, (r : Int) < S 1 1 → (cRO S r ↔ (stk (fun j => S 190 (25 * r + j)) (S 189 r).toNat = [] ∧ ∀ i : Nat, (i : Int) < S 189 r → mCall S r i)) := by
    intro r hr
    obtain ⟨e1, e2⟩ := hb.2.2.2 r hr
    unfold cRO
    rw [e1]
    refine and_congr ?_ (forall_congr' fun i => forall_congr' fun hi => ?_)
    · rw [stk_congr (t := fun j => S 190 (25 * r + j)) (fun i hi => (e2 i (by omega)).1)]
    · obtain ⟨f1, f2, -⟩ := e2 i hi
      unfold cCall mCall mR
      rw [f1, f2, hb.2.1]
      have := (hq (25 * r + i)).2.1
      exact forall_congr' fun _ => ⟨fun z => ⟨this.1, z⟩, fun z => z.2⟩
  unfold cWhole mWhole
  rw [← hb.2.1]
  exact and_congr Iff.rfl (forall_congr' fun r => forall_congr' fun hr => key r hr)
theorem cbB_bk {S : mm_S} (h : BK S) (w : mWhole S) : cbB S := by
  refine ⟨(bk_V h).1, h.2.2.2.1.1, h.2.1, h.1.1, h.1.2.2.2.1, w.1, fun r hr => ?_⟩
  have w2 := w.2 r hr
  exact ⟨h.1.2.1 r hr, w2.1, fun i hi => w2.2 i (by have hi' : i < (S 189 r).toNat := hi; omega), fun i hi => h.1.2.2.2.2 r hr i hi⟩
theorem mW_of {S S' : mm_S} (e : ∀ b, 182 ≤ b → b < 193 → S' b = S b) (e9 : S' 181 9 = S 181 9) : mWhole S' ↔ mWhole S := by
  unfold mWhole mCall mR
  rw [e9, e 189 (by omega) (by omega), e 190 (by omega) (by omega), e 191 (by omega) (by omega)]
/-- what the runs keep stays -/
def jdF (S S' : mm_S) : Prop := (∀ b, b = 0 ∨ (138 ≤ b ∧ b < 181) ∨ b = 222 → S' b = S b) ∧ S' 181 60 = S 181 60
