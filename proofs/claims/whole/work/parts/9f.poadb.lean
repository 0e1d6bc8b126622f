/-! ===== one scene more ===== -/
section
variable {sh : List mm_H} {S S' : mm_S} {L : mm_L} {p1 p2 p3 n : Nat} {X : XT} {F : FT} {W : WT}
theorem z_toInt {x : Int} {c : Nat} (hx : 0 ≤ x ∧ x < 1125899906842624) (hc : c < 40) : (lI (x + (c : Int) * 1125899906842624)).toInt = x + (c : Int) * 1125899906842624 := Int64.toInt_ofInt_of_le (by omega) (by omega)
theorem sc_pkR (hV : scV S 94) : 0 ≤ scPk S 94 ∧ scPk S 94 < 1125899906842624 := pkN_R (fun v hv => cdO_R hV hv) (by have := (hV.2.2.2.2 5 (by omega)).2; omega) hV.2.2.1 (by have := hV.2.1; omega)
theorem sim_lnk {κ : kyT} {pl : Nat} {R : rgT} (h : simP S 94 κ pl R) : lnk κ pl (scPk S 94) (pkM R) := ⟨S, 94, R, h.1, h.2.2.1, h.2.1.1.1, h.2.1.1.2.2.2.2.1, h.2.2.2.1, rfl, rfl⟩
theorem po_ad (hpl : plS sh p1 p2 p3 n) (hD : plD p1 p2 p3 n) (hI : imC S L p1 p2 p3 n) (hS : SubC S L p1 X F W) {N c : Nat} (hN : S 86 0 = N) (hNn : N < n) (hc : (c : Int) < S 85 1) {pl : Nat} {R : rgT} (hsim : simP S 94 (keyC S c) pl R) (hX : X (keyC S c) pl (pkM R)) {z : Int64} (hz : z = lI (scPk S 94 + (c : Int) * 1125899906842624)) (hnew : ∀ i, i < N → L p1 i ≠ z) (hT : plT S' (upL L p1 N z) p1 p3 n (N + 1)) (e : ∀ b, b ≠ p2 → b ≠ p3 → b ≠ 85 → b ≠ 86 → b ≠ 98 + c → S' b = S b) (e2 : ∀ j, j ≠ N → S' p2 j = S p2 j) (e2n : S' p2 N = -1) (e86 : S' 86 0 = (N : Int) + 1) (ec : ∀ j, j ≠ 5 → S' (98 + c) j = S (98 + c) j) (ec5 : S' (98 + c) 5 = S (98 + c) 5 + 1) (e85 : ∀ j, j ≠ 0 → S' 85 j = S 85 j) (e850 : S' 85 0 = if 2000 < S (98 + c) 5 + 1 then 1 else S 85 0) : poC sh S L p1 p2 n X F W sh S' (upL L p1 N z) p1 p2 p3 n ∧ XC S' (upL L p1 N z) p1 (keyC S c) pl (pkM R) := by
  obtain ⟨⟨d1, d2, d3⟩, d4, -⟩ := id hD
  obtain ⟨⟨a1, a2, a3⟩, b1, ⟨c1, c2⟩, ⟨f1, f2⟩, E, ⟨g1, g2, g3, g4⟩, k1, ks⟩ := id hI
  have hc40 : c < 40 := by omega
  have e' : ∀ b, b < 85 ∨ (90 ≤ b ∧ b < 223) → b ≠ 98 + c → S' b = S b := fun b hb hb2 => e b (by omega) (by omega) (by omega) (by omega) hb2
  have he : bkE S S' := ⟨fun b _ _ => e' b (by omega) (by omega), by rw [e' 181 (by omega) (by omega)], by rw [e' 181 (by omega) (by omega)]⟩
  have ecj : ∀ a j, a < 40 → j ≠ 5 → S' (98 + a) j = S (98 + a) j := fun a j ha hj => by
    by_cases y : a = c
    · rw [y]; exact ec j hj
    · rw [e' (98 + a) (by omega) (by omega)]
  have e851 := e85 1 (by omega)
  have kk : ∀ a : Nat, a < 40 → keyC S' a = keyC S a ∧ codC S' a = codC S a := fun a ha => key_of (fun j hj => ecj a j ha (by omega))
  have hxr := sc_pkR hsim.2.2.1
  have hzi : z.toInt = scPk S 94 + (c : Int) * 1125899906842624 := by rw [hz]; exact z_toInt hxr hc40
  have hLo : ∀ i, i < N → upL L p1 N z p1 i = L p1 i := fun i hi => upL_col (by omega) p1
  have hLn : upL L p1 N z p1 N = z := upL_same L p1 N z
  have hen : enC S' (upL L p1 N z) p1 N c (scPk S 94) pl (pkM R) := ⟨by omega, by rw [hLn]; exact hzi, hxr, by rw [(kk c hc40).1]; exact sim_lnk hsim⟩
  have heo : ∀ {i a : Nat} {x : Int} {pl' : Nat} {p : Int}, i < N → enC S L p1 i a x pl' p → enC S' (upL L p1 N z) p1 i a x pl' p := fun hi h => en_of (kk _ (by have := h.1; omega)).1 (by omega) (hLo _ hi) h
  have heb : ∀ {i a : Nat} {x : Int} {pl' : Nat} {p : Int}, i < N → enC S' (upL L p1 N z) p1 i a x pl' p → enC S L p1 i a x pl' p := fun hi h => en_of (kk _ (by have := h.1; omega)).1.symm (by omega) (hLo _ hi).symm h
  have hXC : XC S' (upL L p1 N z) p1 (keyC S c) pl (pkM R) := ⟨N, c, _, by omega, (kk c hc40).1, hen⟩
  have hcn : ∀ a : Nat, a < 40 → cnC (upL L p1 N z) p1 a (N + 1) = cnC L p1 a N + (if a = c then 1 else 0) := fun a ha => by
    have : (z.toInt / 1125899906842624 % 64 = a) ↔ a = c := by rw [hzi]; omega
    show cnC (upL L p1 N z) p1 a N + (if (upL L p1 N z p1 N).toInt / 1125899906842624 % 64 = a then 1 else 0) = _
    rw [cn_of N hLo, hLn]
    simp only [this]
  have hds : ∀ i j : Nat, i < N + 1 → j < N + 1 → upL L p1 N z p1 i = upL L p1 N z p1 j → i = j := fun i j hi hj q => by
    by_cases y1 : i < N <;> by_cases y2 : j < N
    · rw [hLo i y1, hLo j y2] at q
      exact a3 i j (by omega) (by omega) q
    · have : j = N := by omega
      rw [hLo i y1, this, hLn] at q
      exact absurd q (hnew i y1)
    · have : i = N := by omega
      rw [hLo j y2, this, hLn] at q
      exact absurd q.symm (hnew j y2)
    · omega
  have hSub : ∀ κ pl' p, XC S' (upL L p1 N z) p1 κ pl' p → X κ pl' p := by
    rintro κ pl' p ⟨i, a, x, y1, y2, y3⟩
    have y0 := y3.1
    have ka := (kk a (by omega)).1
    by_cases y : i < N
    · exact hS.1 κ pl' p ⟨i, a, x, by omega, by rw [ka] at y2; exact y2, heb y y3⟩
    · have hi : i = N := by omega
      subst hi
      have q1 := y3.2.1
      rw [hLn, hzi] at q1
      have q2 := y3.2.2.1
      have hac : a = c := by omega
      subst hac
      have hxx : x = scPk S 94 := by omega
      subst hxx
      have hky := (c2 a hc).1
      have hkv := (c2 a hc).2.2.2.2.2.1
      have q3 := y3.2.2.2
      rw [ka] at q3 y2
      obtain ⟨r1, r2⟩ := lnk_fun hkv.1 (show (S (98 + a) 0).toNat < 6 by omega) (show 0 ≤ S (98 + a) 2 ∧ S (98 + a) 2 ≤ 5 by omega) (show 0 ≤ S (98 + a) 3 ∧ S (98 + a) 3 ≤ 6 by omega) q3 (sim_lnk hsim)
      have r1' : pl' = pl := by omega
      rw [← y2, r1', r2]
      exact hX
  have h5 := (c2 c hc).2.2.1
  have hN' : (S 86 0).toNat = N := by omega
  rw [hN'] at h5 a2
  have hov : S' 85 0 = 1 → S 85 0 = 1 ∨ OvX X := fun q => by
    by_cases y : 2000 < S (98 + c) 5 + 1
    · right
      refine ov_cn (S := S') (L := upL L p1 N z) (p1 := p1) (N := N + 1) (c := c) (fun i hi => ?_) (by omega) hds (by rw [hcn c hc40, if_pos rfl]; omega)
      by_cases y2 : i < N
      · obtain ⟨-, a, x, pl', p, u2, -⟩ := b1 i (by omega)
        have u3 := heo y2 u2
        exact ⟨a, x, pl', p, u3, hSub _ _ _ ⟨i, a, x, by omega, rfl, u3⟩⟩
      · have hi : i = N := by omega
        subst hi
        exact ⟨c, _, pl, _, hen, by rw [(kk c hc40).1]; exact hX⟩
    · rw [if_neg y] at e850
      left; omega
  have h01 : S' 85 0 = 0 ∨ S' 85 0 = 1 := by
    rw [e850]
    split
    · exact Or.inr rfl
    · exact k1
  have hle : S 85 0 ≤ S' 85 0 := by
    rw [e850]
    split <;> omega
  refine ⟨⟨⟨shE_rf sh, hpl, hD, fun _ h => h⟩, ⟨⟨fun b hb => e' b (by omega) (by omega), fun b hb => upL_row (by omega)⟩, ⟨by omega, fun a ha => ⟨fun j hj => ecj a j (by omega) (by omega), ecj a 6 (by omega) (by omega), by rw [ecj a 4 (by omega) (by omega)]; exact fun _ h => h⟩⟩, ⟨by omega, fun i hi => ⟨hLo i (by omega), e2 i (by omega)⟩⟩, by rw [e' 92 (by omega) (by omega)]; exact fun _ _ h => h, ⟨by rw [e85 8 (by omega)]; exact Int.le_refl _, fun k _ => by rw [e' 93 (by omega) (by omega)]⟩, hle, fun a ha => Or.inl (by omega)⟩, ⟨⟨by omega, by rw [show (S' 86 0).toNat = N + 1 by omega]; exact hT, fun i j hi hj q => hds i j (by omega) (by omega) q⟩, fun i hi => ?_, ⟨by rw [e851]; exact c1, fun a x => ?_⟩, ⟨fun q hq => ?_, fun a x => ?_⟩, by rw [e' 92 (by omega) (by omega), e85 2 (by omega)]; exact E, ⟨by rw [e85 8 (by omega)]; exact g1, fun k x => ?_, fun k l x y q => ?_, fun a b x y => ?_⟩, h01, ?_⟩, ⟨hSub, ?_, ?_⟩, hov⟩, hXC⟩
  · by_cases y : i < N
    · obtain ⟨u1, a, x, pl', p, u2, u3⟩ := b1 i (by omega)
      rw [e2 i (by omega)]
      exact ⟨by omega, a, x, pl', p, heo y u2, by rw [(kk a (by have := u2.1; omega)).1]; exact itV_of he u3⟩
    · have hi : i = N := by omega
      subst hi
      rw [e2n]
      exact ⟨by omega, c, _, pl, _, hen, by rw [(kk c hc40).1]; exact itV_of he (it_un hsim.2.1)⟩
  · rw [e851] at x
    have u := c2 a x
    have ha : a < 40 := by omega
    have ucn := u.2.2.1
    rw [hN'] at ucn
    have hcna := hcn a ha
    have hs5 : S' (98 + a) 5 = cnC (upL L p1 N z) p1 a (N + 1) := by
      rw [hcna]
      by_cases y : a = c
      · rw [if_pos y]; rw [y] at ucn ⊢; omega
      · rw [if_neg y, e' (98 + a) (by omega) (by omega)]; omega
    have hlim : S' 85 0 = 0 → S' (98 + a) 5 ≤ 2000 := fun q => by
      by_cases y : a = c
      · rw [e850] at q
        by_cases w : 2000 < S (98 + c) 5 + 1
        · rw [if_pos w] at q; omega
        · rw [y, ec5]; omega
      · rw [e' (98 + a) (by omega) (by omega)]
        exact u.2.2.2.1 (by omega)
    unfold csC at *
    rw [ecj a 0 ha (by omega), ecj a 1 ha (by omega), ecj a 2 ha (by omega), ecj a 3 ha (by omega), ecj a 4 ha (by omega), ecj a 6 ha (by omega), (kk a ha).1, bm_of he, show (S' 86 0).toNat = N + 1 by omega]
    exact ⟨u.1, u.2.1, hs5, hlim, by have := u.2.2.2.2.1; omega, kyV_of he u.2.2.2.2.2.1, u.2.2.2.2.2.2⟩
  · rw [e' 91 (by omega) (by omega), e851]
    have u := f1 q hq
    exact ⟨u.1, u.2.1, fun y => by rw [(kk _ (by omega)).2]; exact u.2.2 y⟩
  · rw [e851] at x
    rw [e' 91 (by omega) (by omega), (kk a (by omega)).2]
    exact f2 a x
  · rw [e85 8 (by omega)] at x
    rw [e' 93 (by omega) (by omega), e851]
    have u := g2 k x
    exact ⟨u.1, u.2.1, by rw [ecj _ 4 (by omega) (by omega)]; exact u.2.2⟩
  · rw [e85 8 (by omega)] at x y
    rw [e' 93 (by omega) (by omega)] at q
    exact g3 k l x y q
  · rw [e851] at x
    rw [ecj a 4 (by omega) (by omega)] at y
    rw [e85 8 (by omega), e' 93 (by omega) (by omega)]
    exact g4 a b x y
  · unfold scV at *
    rw [e' 94 (by omega) (by omega), e' (94 + 1) (by omega) (by omega), e' (94 + 2) (by omega) (by omega), e' (94 + 3) (by omega) (by omega)]
    exact ks
  · rintro κ b ⟨y0, a, y1, y2, y3⟩
    rw [e851] at y1
    rw [(kk a (by omega)).1] at y2
    rw [ecj a 4 (by omega) (by omega)] at y3
    exact hS.2.1 κ b ⟨y0, a, y1, y2, y3⟩
  · unfold WC
    rw [e' 92 (by omega) (by omega)]
    exact hS.2.2
end
