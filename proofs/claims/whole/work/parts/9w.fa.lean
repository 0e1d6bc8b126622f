/-! ===== all that may be: what the search keeps ===== -/
def faC (sh0 : List mm_H) (S0 : mm_S) (L0 : mm_L) (n0 : Nat) (X : XT) (F : FT) (W : WT) (sh : List mm_H) (S : mm_S) (L : mm_L) (p1 p2 p3 n : Nat) : Prop := (shE sh0 sh ∧ plS sh p1 p2 p3 n ∧ plD p1 p2 p3 n ∧ ∀ z0, shB z0 sh0 n0 → shB z0 sh n) ∧ (cbF S0 S ∧ ∀ b, b < 85 ∨ (90 ≤ b ∧ b < 223) → L b = L0 b) ∧ imC S L p1 p2 p3 n ∧ inC S L p1 ∧ SubC S L p1 X F W ∧ (S 85 0 = 1 → OvX X) ∧ (S 85 0 = 1 ∨ ∃ d : Nat, (d : Int) < S 85 1 ∧ keyC S d = ky0)
section
variable {sh0 sh sh' : List mm_H} {S0 S S' : mm_S} {L0 L L' : mm_L} {n0 p1 p2 p3 n q1 q2 q3 m : Nat} {X : XT} {F : FT} {W : WT}
theorem fa_po (h : faC sh0 S0 L0 n0 X F W sh S L p1 p2 p3 n) (hp : poC sh S L p1 p2 n X F W sh' S' L' q1 q2 q3 m) : faC sh0 S0 L0 n0 X F W sh' S' L' q1 q2 q3 m := by
  obtain ⟨⟨a1, a2, a3, a4⟩, ⟨a5, a6⟩, a7, a8, a9, a10, a11⟩ := h
  obtain ⟨⟨b1, b2, b3, b4⟩, b5, b6, b7, b8⟩ := hp
  refine ⟨⟨shE_tr a1 b1, b2, b3, fun z hz => b4 z (a4 z hz)⟩, ⟨fun b hb => (gr_cb b5 b hb).trans (a5 b hb), fun b hb => (b5.1.2 b hb).trans (a6 b hb)⟩, b6, in_gr b5 a8, b7, fun e => ?_, ?_⟩
  · rcases b8 e with z | z
    · exact a10 z
    · exact z
  · rcases a11 with z | ⟨d, z1, z2⟩
    · left
      have u := b5.2.2.2.2.2.1
      have v := b6.2.2.2.2.2.2.1
      omega
    · exact Or.inr ⟨d, by have := b5.2.1.1; omega, by rw [gr_key b5 z1]; exact z2⟩
theorem fa_nt (h : faC sh0 S0 L0 n0 X F W sh S L p1 p2 p3 n) {i a : Nat} (hi : (i : Int) < S 86 0) (ha : (a : Int) < S 85 1) (hn : ntC S S' p2 i a) : faC sh0 S0 L0 n0 X F W sh S' L p1 p2 p3 n := by
  obtain ⟨⟨a1, a2, a3, a4⟩, ⟨a5, a6⟩, a7, a8, a9, a10, a11⟩ := h
  have h40 := a7.2.2.1.1
  have pc := po_call a3 a7 hi ha hn.1 hn.2.1 hn.2.2.1 hn.2.2.2.1 hn.2.2.2.2
  obtain ⟨e, hbe, hcb⟩ := nt_rd a3 (by omega) hn
  have e85 := e 85 (by omega) (by omega)
  refine ⟨⟨a1, a2, a3, a4⟩, ⟨fun b hb => (hcb b hb).trans (a5 b hb), a6⟩, pc.1, fun c hc => ?_, ?_, by rw [e85]; exact a10, ?_⟩
  · rw [e85] at hc
    rw [pc.2.1, pc.2.2.2.2 c (by omega)]
    exact a8 c hc
  · unfold SubC
    rw [pc.2.1, pc.2.2.1, pc.2.2.2.1]
    exact a9
  · rw [e85]
    rcases a11 with z | ⟨d, z1, z2⟩
    · exact Or.inl z
    · exact Or.inr ⟨d, z1, by rw [pc.2.2.2.2 d (by omega)]; exact z2⟩
/-- how many there are, all CASES together -/
def smC (L : mm_L) (p1 N : Nat) : Nat → Int
  | 0 => 0
  | c + 1 => smC L p1 N c + cnC L p1 c N
theorem sm_s (L : mm_L) (p1 N : Nat) : ∀ C : Nat, smC L p1 (N + 1) C = smC L p1 N C + (if (L p1 N).toInt / 1125899906842624 % 64 < C then 1 else 0)
  | 0 => by
    simp only [smC]
    rw [if_neg (by omega)]
    rfl
  | C + 1 => by
    have ih := sm_s L p1 N C
    simp only [smC, cnC]
    rw [ih]
    by_cases z : (L p1 N).toInt / 1125899906842624 % 64 = C
    · rw [if_pos z, if_neg (by omega), if_pos (by omega)]; omega
    · rw [if_neg z]
      by_cases y : (L p1 N).toInt / 1125899906842624 % 64 < C
      · rw [if_pos y, if_pos (by omega)]; omega
      · rw [if_neg y, if_neg (by omega)]; omega
theorem sm_ge (L : mm_L) (p1 C : Nat) : ∀ N : Nat, (∀ i, i < N → (L p1 i).toInt / 1125899906842624 % 64 < C) → (N : Int) ≤ smC L p1 N C
  | 0, _ => by
    have : ∀ C : Nat, smC L p1 0 C = 0 := fun C => by
      induction C with
      | zero => rfl
      | succ C ih => simp only [smC, cnC]; omega
    rw [this]
    omega
  | N + 1, h => by
    have ih := sm_ge L p1 C N (fun i hi => h i (by omega))
    rw [sm_s, if_pos (h N (by omega))]
    omega
theorem sm_le (L : mm_L) (p1 N : Nat) : ∀ C : Nat, (∀ c, c < C → cnC L p1 c N ≤ 2000) → smC L p1 N C ≤ 2000 * C
  | 0, _ => by simp [smC]
  | C + 1, h => by
    have ih := sm_le L p1 N C (fun c hc => h c (by omega))
    have := h C (by omega)
    simp only [smC]
    omega
theorem sz_le (hI : imC S L p1 p2 p3 n) (h0 : S 85 0 = 0) : S 86 0 ≤ 80000 := by
  have hs := hI.1.1
  have h40 := hI.2.2.1.1
  have h1 := sm_ge L p1 (S 85 1).toNat (S 86 0).toNat (fun i hi => by
    obtain ⟨-, c, x, pl, p, u, -⟩ := hI.2.1 i (by omega)
    have u1 := u.1
    have u2 := u.2.1
    have u3 := u.2.2.1
    omega)
  have h2 := sm_le L p1 (S 86 0).toNat (S 85 1).toNat (fun c hc => by
    have u := hI.2.2.1.2 c (by omega)
    have u3 := u.2.2.1
    have u4 := u.2.2.2.1 h0
    omega)
  omega
/-- at the beginning: nothing -/
theorem im_z (hI : imC S L p1 p2 p3 n) (hD : plD p1 p2 p3 n) (h1 : S 85 1 = 0) (e : ∀ b, b ≠ 85 → S' b = S b) (e5 : ∀ j, j ≠ 0 → S' 85 j = S 85 j) (e0 : S' 85 0 = 0) (h86 : S 86 0 = 0) : imC S' L p1 p2 p3 n := by
  obtain ⟨⟨d1, d2, d3⟩, d4, -⟩ := id hD
  obtain ⟨⟨a1, a2, a3⟩, b1, ⟨c1, c2⟩, ⟨f1, f2⟩, E, ⟨g1, g2, g3, g4⟩, k1, ks⟩ := id hI
  have e86 := e 86 (by omega)
  have e1 := e5 1 (by omega)
  have g8 : S 85 8 = 0 := by
    by_cases z : S 85 8 = 0
    · exact z
    · have := (g2 0 (by omega)).2.1
      have := (g2 0 (by omega)).1
      omega
  refine ⟨⟨by rw [e86]; exact a1, ?_, fun i j hi => ?_⟩, fun i hi => ?_, ⟨by omega, fun c x => ?_⟩, ⟨fun q hq => ?_, fun c x => ?_⟩, by rw [e 92 (by omega), e5 2 (by omega)]; exact E, ⟨by rw [e5 8 (by omega)]; exact g1, fun k x => ?_, fun k l x => ?_, fun c b x => ?_⟩, Or.inl e0, ?_⟩
  · unfold plT at *
    rw [e86, e p3 (by omega)]
    exact a2
  · rw [e86] at hi; exfalso; omega
  · rw [e86] at hi; exfalso; omega
  · exfalso; omega
  · rw [e 91 (by omega), e1]
    have w := f1 q hq
    exact ⟨w.1, w.2.1, fun z => by exfalso; omega⟩
  · exfalso; omega
  · rw [e5 8 (by omega)] at x; exfalso; omega
  · rw [e5 8 (by omega)] at x; exfalso; omega
  · exfalso; omega
  · unfold scV at *
    rw [e 94 (by omega), e (94 + 1) (by omega), e (94 + 2) (by omega), e (94 + 3) (by omega)]
    exact ks
theorem fa_0 (h1 : S 85 1 = 0) (h86 : S 86 0 = 0) (h92 : ∀ x, x < 150 → S 92 x = 0) : inC S L p1 ∧ SubC S L p1 X F W := by
  refine ⟨fun c hc => by exfalso; omega, fun κ pl p ⟨i, c, x, y1, _⟩ => by exfalso; omega, fun κ b ⟨_, c, y1, _⟩ => by exfalso; omega, fun r pl w _ _ ⟨y1, y2, y3⟩ => ?_⟩
  rw [h92 _ (by omega)] at y3
  exact absurd y3 bt_z
theorem wl_0 (hI : imC S L p1 p2 p3 n) (h1 : S 85 1 = 0) : wlC S L p1 p2 0 0 0 := ⟨fun d hd => by exfalso; omega, fun i hi => absurd hi (Nat.not_lt_zero i), by have := hI.1.1; omega, by have := hI.2.2.2.2.2.1.1; omega⟩
theorem fa_end (h : faC sh0 S0 L0 n0 X F W sh S L p1 p2 p3 n) (h0 : S 85 0 = 0) {V K : Nat} (hw : wlC S L p1 p2 V V K) (hx : 80640 ≤ V + K ∨ (S 86 0 ≤ V ∧ S 85 8 ≤ K)) : clsK (XC S L p1) (FC S) (WC S) S := by
  obtain ⟨-, -, hI, hn, -, -, hk⟩ := h
  have u1 := sz_le hI h0
  have u2 := hI.2.2.2.2.2.1.1
  have u3 := hw.2.2.1
  have u4 := hw.2.2.2
  refine ⟨?_, wl_end hI hn hw (by omega) (by omega)⟩
  rcases hk with z | ⟨d, z1, z2⟩
  · exfalso; omega
  · rw [← z2]; exact hn d z1
/-- what a caller's way back needs -/
theorem cb_hq (hI : imC S L p1 p2 p3 n) (hv : mdV S) {d b : Nat} (hd : (d : Int) < S 85 1) (hb : bt (S (98 + d) 4) b) {κ : kyT} {pl : Nat} {R : rgT} (hk : clK S κ pl R = keyC S d) : b < 16 ∧ b % 8 < 6 ∧ (mSo S κ.2.1 pl = 10 → 0 ≤ ((b % 8 : Nat) : Int) ∧ ((b % 8 : Nat) : Int) < S 182 (cdR κ.2.2.1 R (R.1 (mBb S κ.2.1 pl).toNat) / 7).toNat) := by
  have u := hI.2.2.1.2 d hd
  have w := u.2.2.2.2.2.2 b hb
  have k := u.2.2.2.2.2.1
  rw [← hk] at w k
  have w1 := w.1
  refine ⟨w.2, ?_, fun h10 => ?_⟩
  · unfold bmS at w1
    split at w1
    · rename_i e1
      have k2 := (k.2.2.1 (by omega)).1
      have k3 := hv.1
      have := (hv.2.2.1 (clK S κ pl R).2.2.1.toNat (by omega)).2.1
      omega
    · omega
  · have e : (clK S κ pl R).1 = 1 := by show (if mSo S κ.2.1 pl = 11 then (2 : Int) else 1) = 1; rw [if_neg (by omega)]
    unfold bmS at w1
    rw [if_pos e] at w1
    exact ⟨by omega, w1⟩
theorem cb_hE {κ : kyT} {pl : Nat} {R : rgT} (h : foK X F W S κ pl R) (hr : rcC S κ pl R) {b : Nat} (hb6 : b % 8 < 6) (hb16 : b < 16) (hF : F (clK S κ pl R) (b : Int)) : otK X F W S κ (cbR S κ pl R (8 ≤ b) ((b % 8 : Nat) : Int)) := by
  have u := ((h.2 hr.1).2.1 hr.2.2 hr.2.1).2 (b % 8) hb6
  by_cases z : 8 ≤ b
  · have v := u.2 (by rw [show (8 : Int) + ((b % 8 : Nat) : Int) = (b : Int) by omega]; exact hF)
    unfold cbR at *
    rw [if_pos z]
    rw [if_pos trivial] at v
    exact v
  · have v := u.1 (by rw [show ((b % 8 : Nat) : Int) = (b : Int) by omega]; exact hF)
    unfold cbR at *
    rw [if_neg z]
    rw [if_neg (by trivial)] at v
    exact v
end
