/-! ===== judge of both, and what is asked ===== -/
set_option maxHeartbeats 2000000 in
theorem pr_judge {sh sh1 : List mm_H} {S S1 S2 : mm_S} {L L1 L2 : mm_L} {p1 p2 p3 n q1 q2 q3 m : Nat} {v w : Int} (h : BK S) (hj : jA S L p1 n) (hpl : plS sh p1 p2 p3 n) (hD : plD p1 p2 p3 n) (hc : (¬ cWhole S ∧ v = -3 ∧ sh1 = sh ∧ S1 = S ∧ L1 = L) ∨ (cWhole S ∧ fdC sh S L n (lfX S) (lfF S) (lfW S) sh1 S1 L1 q1 q2 q3 m ∧ v = if S1 85 0 = 1 then -5 else if S1 85 2 = 0 then 1 else 0)) (hm : (¬ mWhole S1 ∧ w = -3 ∧ L2 = L1 ∧ wkA S1 S2) ∨ (mWhole S1 ∧ ∃ B, wkA S1 B ∧ jdP B L1 w S2 L2)) : v = w ∧ BK S2 ∧ jdF S S2 ∧ shE sh sh1 ∧ ∃ u1 u2 u3 k, plS sh1 u1 u2 u3 k ∧ plD u1 u2 u3 k ∧ (∀ z0, shB z0 sh n → shB z0 sh1 k) ∧ jA S2 L2 u1 k := by
  have hwe := whole_eq h
  rcases hc with ⟨c1, hv, hsh, hS, hL⟩ | ⟨c1, fd, hv⟩
  · rw [hS] at hm
    rcases hm with ⟨-, hw, hL2, hwk⟩ | ⟨z, -⟩
    · have e : ∀ b, b < 193 ∨ 198 ≤ b → b ≠ 181 → S2 b = S b := fun b x y => hwk.1 b (by omega) (by omega) (by omega) (by omega) (by omega) y
      refine ⟨by omega, BK_wk h hwk, ⟨fun b hb => e b (by omega) (by omega), hwk.2 60 (by omega)⟩, by rw [hsh]; exact shE_rf _, p1, p2, p3, n, by rw [hsh]; exact hpl, hD, by rw [hsh]; exact fun _ z => z, ?_⟩
      have hs := hj.2.1.2.2.2.2
      refine jA_c hj (e 85 (by omega) (by omega)) (e 86 (by omega) (by omega)) (e 91 (by omega) (by omega)) (e 92 (by omega) (by omega)) (fun c hc => e (98 + c) (by omega) (by omega)) ?_ (fun b x y => e b (by omega) (by omega)) (hwk.2 26 (by omega)) (hwk.2 27 (by omega)) (hwk.2 40 (by omega)) (by rw [hL2, hL]) (by rw [hL2, hL])
      unfold scV at *
      rw [e 94 (by omega) (by omega), e (94 + 1) (by omega) (by omega), e (94 + 2) (by omega) (by omega), e (94 + 3) (by omega) (by omega)]
      exact hs
    · exact absurd (hwe.2 z) c1
  · have hw1 := hwe.1 c1
    obtain ⟨⟨sE, pl1, pD1, sB⟩, ⟨cF, cL⟩, hI, hal⟩ := fd
    have r1 : ∀ b, b < 85 ∨ (138 ≤ b ∧ b < 223) → S1 b = S b := cF
    have e181 : S1 181 = S 181 := r1 181 (by omega)
    have hw2 : mWhole S1 := (mW_of (fun b x y => r1 b (by omega)) (by rw [e181])).2 hw1
    rcases hm with ⟨z, -⟩ | ⟨-, B, hwk, jg, f4, alt⟩
    · exact absurd hw2 z
    have r2 : ∀ b, b < 193 → b ≠ 181 → S2 b = S1 b := fun b x y => (jg.1 b (Or.inl (by omega)) y).trans (hwk.1 b (by omega) (by omega) (by omega) (by omega) (by omega) y)
    have r3 : ∀ b, 214 ≤ b → S2 b = S1 b := fun b x => (jg.1 b (Or.inr x) (by omega)).trans (hwk.1 b (by omega) (by omega) (by omega) (by omega) (by omega) (by omega))
    have c2 : ∀ j, j ≠ 19 → j ≠ 22 → j ≠ 26 → j ≠ 27 → j ≠ 39 → j ≠ 40 → S2 181 j = S1 181 j := fun j a b c d e f => (jg.2.1 j b c d e f).trans (hwk.2 j a)
    have hW12 : bkW S1 S2 := ⟨r2, c2 0 (by omega) (by omega) (by omega) (by omega) (by omega) (by omega), c2 9 (by omega) (by omega) (by omega) (by omega) (by omega) (by omega)⟩
    have hB2 : BK S2 := BK_of h (fun b x y => (r2 b (by omega) (by omega)).trans (r1 b (by omega))) (fun b x y => (r2 b (by omega) (by omega)).trans (r1 b (by omega))) (by rw [hW12.2.1, e181]) (by rw [hW12.2.2, e181]) (by rw [r2 0 (by omega) (by omega), r1 0 (by omega), c2 5 (by omega) (by omega) (by omega) (by omega) (by omega) (by omega), e181]; exact h.2.2.2.2)
    have hE1 : bkE S S1 := ⟨fun b x y => r1 b (by omega), by rw [e181], by rw [e181]⟩
    have l1 := bk_lfS hE1
    have l2 := bw_lfS (wkA_W hwk)
    have pDD := pD1.1
    have hp2 : S2 q2 = S1 q2 := by
      rcases pDD.2.1.2 with z | z
      · exact r2 q2 (by omega) (by omega)
      · by_cases y : q2 < 214
        · omega
        · exact r3 q2 (by omega)
    have hp3 : S2 q3 = S1 q3 := by
      rcases pDD.2.2.2 with z | z
      · exact r2 q3 (by omega) (by omega)
      · exact r3 q3 (by omega)
    have hL12 : L2 q1 = L1 q1 := jg.2.2 q1 (by omega)
    have hI2 := im_w (L' := L2) hI hW12 hp2 hp3 hL12
    have key : v = w ∧ jA S2 L2 q1 m := by
      rcases hal with ⟨s1, ov, s85, s86, s92⟩ | ⟨s1, inc, sub, cls⟩
      · rcases alt with ⟨a1, a26, aov, aim⟩ | ⟨a1, a26, aim, ain, acl, asub⟩
        · refine ⟨by rw [hv, if_pos s1, a1], jA_0 a26 (by rw [r2 85 (by omega) (by omega)]; exact Or.inr s1) aim.2.2.2.2.2 (by rw [r2 85 (by omega) (by omega)]; exact s85) ?_ (by rw [r2 86 (by omega) (by omega)]; exact s86) (fun q hq => ?_) (fun x hx => by rw [r2 92 (by omega) (by omega)]; exact s92 x hx) hI2.2.2.2.2.2.2.2 (qsM_of aim (Or.inl a26) hB2.1.1)⟩
          · rw [r2 85 (by omega) (by omega), hI.2.2.2.2.1.2]
            exact wO_z 150 s92
          · rw [r2 91 (by omega) (by omega)]
            have := hI.2.2.2.1.1 q hq
            omega
        · exfalso
          have := lf_M asub acl
          exact no_ovM aim (by rw [this.1, l2.1, l1.1]; exact ov)
      · rw [← l1.1, ← l1.2.1, ← l1.2.2] at sub
        have lc := lf_C sub cls
        rcases alt with ⟨a1, a26, aov, aim⟩ | ⟨a1, a26, aim, ain, acl, asub⟩
        · exfalso
          exact no_ovC hI s1 (by rw [lc.1, ← l2.1]; exact aov)
        · have lm := lf_M asub acl
          have xx := XC_con (S := S1) (S' := S2) (L := L1) (L' := L2) (p1 := q1) hI.2.2.1.1.2 (by rw [r2 85 (by omega) (by omega)]) (r2 86 (by omega) (by omega)) (fun c hc => r2 (98 + c) (by omega) (by omega)) hL12
          have c40 := hI.2.2.1.1.2
          have hX : XC S2 L2 q1 = XM S2 L2 := by rw [xx.1, lc.1, lm.1, l2.1]
          have hF : FC S2 = FM S2 := by rw [xx.2, lc.2.1, lm.2.1, l2.2.1]
          have hWW : ∀ r pl w, 0 < w → w < 6 → (WC S2 r pl w ↔ WM S2 r pl w) := fun r pl w a b => by
            rw [lm.2.2 r pl w a b, l2.2.2, ← lc.2.2 r pl w a b]
            unfold WC
            rw [r2 92 (by omega) (by omega)]
          have inc2 : inC S2 L2 q1 := fun c hc => by
            rw [r2 85 (by omega) (by omega)] at hc
            rw [xx.1, (key_of (S := S1) (S' := S2) (c := c) (fun j _ => by rw [r2 (98 + c) (by omega) (by omega)])).1]
            exact inc c hc
          have hjA := jA_1 hI2 inc2 aim ain hX hF hWW a26 hB2.1.1
          refine ⟨?_, hjA⟩
          have hn := hjA.2.2.2.2.2.2.1.1
          rw [if_pos a26, r2 85 (by omega) (by omega)] at hn
          rw [hv, if_neg (by omega), hn, a1]
    refine ⟨key.1, hB2, ⟨fun b hb => ?_, ?_⟩, sE, q1, q2, q3, m, pl1, pD1, sB, key.2⟩
    · rcases hb with rfl | hb | rfl
      · exact (r2 0 (by omega) (by omega)).trans (r1 0 (by omega))
      · exact (r2 b (by omega) (by omega)).trans (r1 b (by omega))
      · exact (r3 222 (by omega)).trans (r1 222 (by omega))
    · rw [c2 60 (by omega) (by omega) (by omega) (by omega) (by omega) (by omega), e181]
theorem pr_wrong {S : mm_S} {L : mm_L} {p1 n : Nat} (hj : jA S L p1 n) (i wt : Int) : (if 0 ≤ wt ∧ wt ≤ 2 then (if 0 ≤ i ∧ i < S 85 2 then wnA (nthW (S 92) 750 i) wt else -1) else -2) = (if 0 ≤ wt ∧ wt ≤ 2 then (if S 181 26 = 1 ∧ 0 ≤ i then wnA (nthW (S 213) 750 i) wt else -1) else -2) := by
  obtain ⟨-, -, hq, -, -, -, hN, hW⟩ := hj
  have h2 := hN.1
  by_cases z : S 181 26 = 1
  · rw [if_pos z] at h2
    have e : nthW (S 92) 750 i = nthW (S 213) 750 i := nth_bt (fun x hx v a b => hW z x hx v a b) 750 i (by omega)
    by_cases y : 0 ≤ i
    · rw [if_pos (show S 181 26 = 1 ∧ 0 ≤ i from ⟨z, y⟩)]
      by_cases x : i < S 85 2
      · rw [if_pos (show 0 ≤ i ∧ i < S 85 2 from ⟨y, x⟩), e]
      · rw [if_neg (show ¬ (0 ≤ i ∧ i < S 85 2) from fun u => x u.2), nth_out (S 213) (l := i) (by omega)]
        rfl
    · rw [if_neg (show ¬ (S 181 26 = 1 ∧ 0 ≤ i) from fun u => y u.2), if_neg (show ¬ (0 ≤ i ∧ i < S 85 2) from fun u => y u.1)]
  · rw [if_neg z] at h2
    rw [if_neg (show ¬ (S 181 26 = 1 ∧ 0 ≤ i) from fun u => z u.1), if_neg (show ¬ (0 ≤ i ∧ i < S 85 2) by omega)]
theorem pr_count {S : mm_S} {L : mm_L} {p1 n : Nat} (h : BK S) (hj : jA S L p1 n) (w : Int) : cntC S w = cntM S w := by
  obtain ⟨-, -, -, -, -, -, ⟨h2, h1, h0⟩, -⟩ := hj
  unfold cntC cntM
  rw [h.2.1.1, h.2.1.2.1, h2, h1, h0]
theorem scV_h {S S' : mm_S} (e : ∀ b, 94 ≤ b → b < 98 → S' b = S b) (h : scV S 94) : scV S' 94 := by
  unfold scV at *
  rw [e 94 (by omega) (by omega), e (94 + 1) (by omega) (by omega), e (94 + 2) (by omega) (by omega), e (94 + 3) (by omega) (by omega)]
  exact h
/-- after a question to the class's judge, and one to the reference's -/
theorem qa_keep {S S1 S2 : mm_S} {L : mm_L} {p1 n : Nat} (h : BK S) (hj : jA S L p1 n) (f : scF S S1 94) (hV : scV S1 94) (g : rgF S1 S2) : BK S2 ∧ jA S2 L p1 n ∧ jdF S S2 := by
  have e : ∀ b, b < 94 ∨ (98 ≤ b ∧ b < 198) ∨ 203 ≤ b → b ≠ 181 → S2 b = S b := fun b x y => (g.1 b (by omega) y).trans (f b (by omega))
  have c : ∀ j, j ≠ 22 → S2 181 j = S 181 j := fun j x => by rw [g.2 j x, f 181 (by omega)]
  refine ⟨BK_of h (fun b x y => e b (by omega) (by omega)) (fun b x y => e b (by omega) (by omega)) (c 0 (by omega)) (c 9 (by omega)) (by rw [e 0 (by omega) (by omega), c 5 (by omega)]; exact h.2.2.2.2), jA_c hj (e 85 (by omega) (by omega)) (e 86 (by omega) (by omega)) (e 91 (by omega) (by omega)) (e 92 (by omega) (by omega)) (fun c hc => e (98 + c) (by omega) (by omega)) (scV_h (fun b x y => g.1 b (by omega) (by omega)) hV) (fun b x y => e b (by omega) (by omega)) (c 26 (by omega)) (c 27 (by omega)) (c 40 (by omega)) rfl rfl, fun b hb => e b (by omega) (by omega), c 60 (by omega)⟩
theorem rgF_refl (S : mm_S) : rgF S S := ⟨fun _ _ _ => rfl, fun _ _ => rfl⟩
theorem pr_may {S S1 : mm_S} {L : mm_L} {p1 n : Nat} (h : BK S) (hj : jA S L p1 n) (f : scF S S1 94) (hV : scV S1 94) {r i v a b : Int} (ha : (¬ (hasPl S r i ∧ (0 ≤ v ∧ v < 5)) ∧ a = -2) ∨ ((hasPl S r i ∧ (0 ≤ v ∧ v < 5)) ∧ (0 ≤ a ∧ a < 256) ∧ ∀ j, bt a j ↔ mayP (XC S L p1) r.toNat i.toNat v.toNat j)) (hb : (¬ (mPl S1 r i ∧ (0 ≤ v ∧ v < 5)) ∧ b = -2) ∨ ((mPl S1 r i ∧ (0 ≤ v ∧ v < 5)) ∧ (0 ≤ b ∧ b < 256) ∧ ∀ j : Nat, bt b j ↔ (S1 181 26 = 1 ∧ itX (XM S1 L) r.toNat i.toNat (fun κ p => stB κ p v.toNat = j)))) : a = b := by
  have hx := hj.2.2.2.2.1
  have e : ∀ b, 98 ≤ b → S1 b = S b := fun b x => f b (by omega)
  have hp : mPl S1 r i ↔ hasPl S r i := by
    rw [pl_iff h]
    unfold mPl mR
    rw [e 181 (by omega), e 189 (by omega)]
  have hXM : XM S1 L = XM S L := XM_c (fun b x y => e b (by omega)) (by rw [e 181 (by omega)]) rfl
  rw [hp, hXM, e 181 (by omega)] at hb
  rcases ha with ⟨a1, a2⟩ | ⟨a1, a2, a3⟩
  · rcases hb with ⟨b1, b2⟩ | ⟨b1, -⟩
    · omega
    · exact absurd b1 a1
  · rcases hb with ⟨b1, -⟩ | ⟨b1, b2, b3⟩
    · exact absurd a1 b1
    · refine bits_eq 8 a b ⟨a2.1, a2.2⟩ ⟨b2.1, b2.2⟩ (fun j _ => ?_)
      rw [a3 j, b3 j]
      constructor
      · rintro ⟨κ, p, y1, y2, y3⟩
        have := (hx _ _ _).1 y1
        exact ⟨this.1, κ, p, this.2, y2, y3⟩
      · rintro ⟨y0, κ, p, y1, y2, y3⟩
        exact ⟨κ, p, (hx _ _ _).2 ⟨y0, y1⟩, y2, y3⟩
theorem pr_one {S S1 : mm_S} {L : mm_L} {p1 n : Nat} (h : BK S) (hj : jA S L p1 n) (f : scF S S1 94) (hV : scV S1 94) {r i v w a b : Int} (ha : (¬ (hasPl S r i ∧ (0 ≤ v ∧ v < 5) ∧ (0 ≤ w ∧ w < 5)) ∧ a = -2) ∨ ((hasPl S r i ∧ (0 ≤ v ∧ v < 5) ∧ (0 ≤ w ∧ w < 5)) ∧ oneR (itP (XC S L p1) r.toNat i.toNat (fun _ => True)) (itP (XC S L p1) r.toNat i.toNat (fun p => smB p v.toNat w.toNat)) (itP (XC S L p1) r.toNat i.toNat (fun p => ¬ smB p v.toNat w.toNat)) a)) (hb : (¬ (mPl S1 r i ∧ (0 ≤ v ∧ v < 5) ∧ (0 ≤ w ∧ w < 5)) ∧ b = -2) ∨ ((mPl S1 r i ∧ (0 ≤ v ∧ v < 5) ∧ (0 ≤ w ∧ w < 5)) ∧ oneR (S1 181 26 = 1 ∧ itX (XM S1 L) r.toNat i.toNat (fun _ _ => True)) (S1 181 26 = 1 ∧ itX (XM S1 L) r.toNat i.toNat (fun _ p => smB p v.toNat w.toNat)) (S1 181 26 = 1 ∧ itX (XM S1 L) r.toNat i.toNat (fun _ p => ¬ smB p v.toNat w.toNat)) b)) : a = b := by
  have hx := hj.2.2.2.2.1
  have e : ∀ b, 98 ≤ b → S1 b = S b := fun b x => f b (by omega)
  have hp : mPl S1 r i ↔ hasPl S r i := by
    rw [pl_iff h]
    unfold mPl mR
    rw [e 181 (by omega), e 189 (by omega)]
  have hXM : XM S1 L = XM S L := XM_c (fun b x y => e b (by omega)) (by rw [e 181 (by omega)]) rfl
  have hit : ∀ P : Int → Prop, (S 181 26 = 1 ∧ itX (XM S L) r.toNat i.toNat (fun _ p => P p)) ↔ itP (XC S L p1) r.toNat i.toNat P := fun P => by
    constructor
    · rintro ⟨y0, κ, p, y1, y2, y3⟩
      exact ⟨κ, p, (hx _ _ _).2 ⟨y0, y1⟩, y2, y3⟩
    · rintro ⟨κ, p, y1, y2, y3⟩
      have := (hx _ _ _).1 y1
      exact ⟨this.1, κ, p, this.2, y2, y3⟩
  rw [hp, hXM, e 181 (by omega), hit (fun _ => True), hit (fun p => smB p v.toNat w.toNat), hit (fun p => ¬ smB p v.toNat w.toNat)] at hb
  rcases ha with ⟨a1, a2⟩ | ⟨a1, a2⟩
  · rcases hb with ⟨b1, b2⟩ | ⟨b1, -⟩
    · omega
    · exact absurd b1 a1
  · rcases hb with ⟨b1, -⟩ | ⟨b1, b2⟩
    · exact absurd a1 b1
    · exact oneR_u a2 b2
theorem caM_R {S : mm_S} {L : mm_L} (hQ : qsM S L) (so r k s : Int) : -1 ≤ caM S so r k s ∧ caM S so r k s < S 181 27 := by
  have h27 := hQ.1.1
  rcases caF_R S so r k s (S 181 27).toNat 0 with z | z
  · have z' : -1 ≤ caM S so r k s ∧ caM S so r k s < ((0 : Nat) : Int) + (S 181 27).toNat := z
    omega
  · have z' : caM S so r k s = -1 := z.2
    omega
theorem pr_paper {S : mm_S} {L : mm_L} {p1 n : Nat} (h : BK S) (hj : jA S L p1 n) (r k s : Int) (g : Prop) [Decidable g] : (if hasR S r ∧ hasSt S k s then ppC S r g k s else -2) = (if mR S r ∧ mSt S k s then ppM S r g k s else -2) := by
  have hp := hj.2.2.2.2.2.1
  have hv := h.1.1
  have h9 := hv.2.1
  have h0 := hv.1
  have e : (hasR S r ∧ hasSt S k s) ↔ (mR S r ∧ mSt S k s) := by rw [r_iff h, st_iff h]
  by_cases z : mR S r ∧ mSt S k s
  · rw [if_pos z, if_pos (e.2 z)]
    obtain ⟨z1, z2, z3, z4⟩ := z
    have k6 := hv.2.2.1 k.toNat (by have := z2.1; have := z2.2; omega)
    have hb : 0 ≤ b2 g ∧ b2 g ≤ 1 := by unfold b2; split <;> omega
    exact hp (b2 g) r k s hb ⟨z1.1, by have := z1.2; omega⟩ ⟨z2.1, by have := z2.2; omega⟩ ⟨z3, by omega⟩
  · rw [if_neg z, if_neg (fun y => z (e.1 y))]
