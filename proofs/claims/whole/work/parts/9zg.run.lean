/-! ===== the class's runs: what is kept ===== -/
def rnArr (j : Nat) : Option Nat := if j < 10 then some (140 + 4 * j) else none
abbrev rnFd : List (Bool ⊕ Option Nat) := [.inl false, .inl false, .inl false, .inl false, .inl false, .inl false, .inl true, .inl false, .inr (some 139)]
def rnH (sh : List mm_H) : Prop := sh[138]? = some (.inr (7, rnFd)) ∧ sh[139]? = some (.inl (6, 10, rnArr)) ∧ ∀ i, i < 10 → scS sh (140 + 4 * i)
def rnF (S S' : mm_S) : Prop := ∀ b, b < 138 ∨ 180 ≤ b → S' b = S b
theorem rn_E {S S' : mm_S} (h : rnF S S') : bkE S S' := ⟨fun b h1 h2 => h b (Or.inr (by omega)), by rw [h 181 (Or.inr (by omega))], by rw [h 181 (Or.inr (by omega))]⟩
theorem rn_rf (S : mm_S) : rnF S S := fun _ _ => rfl
theorem rn_tr {S S1 S2 : mm_S} (h : rnF S S1) (h2 : rnF S1 S2) : rnF S S2 := fun b hb => (h2 b hb).trans (h b hb)
theorem cbB_rn {S S' : mm_S} (h : rnF S S') (hb : cbB S) : cbB S' := by
  obtain ⟨h1, h2, h3, h4⟩ := hb
  have e : ∀ b, b < 85 → S' b = S b := fun b hb => h b (Or.inl (by omega))
  have f : ∀ b, 180 ≤ b → b < 223 → S' b = S b := fun b x y => h b (Or.inr x)
  have u0 := h1.1
  have u1 := h1.2.1
  refine ⟨⟨by rw [e 1 (by omega)]; exact h1.1, by rw [e 1 (by omega)]; exact h1.2.1, fun k hk => ?_, fun r hr => ?_⟩, fun r hr => ?_, ?_, mbC_of (rn_E h) h4⟩
  · rw [e 1 (by omega)] at hk
    have := h1.2.2.1 k hk
    unfold kdV at *
    rw [e _ (by omega), e _ (by omega), e _ (by omega)]
    exact this
  · rw [e _ (by omega)]; exact h1.2.2.2 r hr
  · have := h2 r hr
    unfold rtI lkI lkB at *
    rw [e (22 + 10 * r) (by omega), e (22 + 10 * r + 1) (by omega), e (22 + 10 * r + 2) (by omega), e (22 + 10 * r + 3) (by omega), e (22 + 10 * r + 4) (by omega), e (22 + 10 * r + 5) (by omega), e (22 + 10 * r + 6) (by omega), e (22 + 10 * r + 7) (by omega), e (22 + 10 * r + 8) (by omega), e (22 + 10 * r + 9) (by omega)]
    exact this
  · obtain ⟨g1, g2, g3, g4⟩ := h3
    refine ⟨by rw [e 1 (by omega), f 181 (by omega) (by omega)]; exact g1, by rw [e 1 (by omega), f 181 (by omega) (by omega)]; exact g2, fun k hk => ?_, fun r hr => ?_⟩
    · rw [e 1 (by omega)] at hk
      rw [e (4 + 3 * k) (by omega), e (4 + 3 * k + 1) (by omega), e (4 + 3 * k + 2) (by omega), f 182 (by omega) (by omega), f 183 (by omega) (by omega), f 184 (by omega) (by omega), f 185 (by omega) (by omega)]
      exact g3 k hk
    · rw [e 1 (by omega)] at hr
      rw [e (22 + 10 * r) (by omega), e (22 + 10 * r + 1) (by omega), e (22 + 10 * r + 2) (by omega), e (22 + 10 * r + 3) (by omega), f 189 (by omega) (by omega), f 190 (by omega) (by omega), f 191 (by omega) (by omega), f 192 (by omega) (by omega)]
      exact g4 r hr
/-- a pile of the class's scenes -/
def clF (S : mm_S) : List Fr → Prop
  | [] => True
  | f :: t => (scR S (140 + 4 * t.length) f.1 f.2.2 ∧ scV S (140 + 4 * t.length) ∧ S (140 + 4 * t.length) 1 = f.2.1 ∧ S (140 + 4 * t.length) 0 = f.1.2.1) ∧ clF S t
theorem cl_of {S S' : mm_S} : ∀ t : List Fr, (∀ b, 140 ≤ b → b < 140 + 4 * t.length → S' b = S b) → clF S t → clF S' t
  | [], _, _ => trivial
  | f :: t, e, h => by
    obtain ⟨⟨h1, h2, h3, h4⟩, h5⟩ := h
    rw [List.length_cons] at e
    have e0 := e (140 + 4 * t.length) (by omega) (by omega)
    have e1 := e (140 + 4 * t.length + 1) (by omega) (by omega)
    have e2 := e (140 + 4 * t.length + 2) (by omega) (by omega)
    have e3 := e (140 + 4 * t.length + 3) (by omega) (by omega)
    refine ⟨⟨?_, ?_, by rw [e0]; exact h3, by rw [e0]; exact h4⟩, cl_of t (fun b x y => e b x (by omega)) h5⟩
    · unfold scR at *
      rw [e0, e1, e2, e3]
      exact h1
    · unfold scV at *
      rw [e0, e1, e2, e3]
      exact h2
def scA (S : mm_S) : Prop := ∀ i : Nat, i < 10 → scW S (140 + 4 * i)
theorem sa_of {S S' : mm_S} {k : Nat} (h : scA S) (e : scF S S' (140 + 4 * k)) (hV : scV S' (140 + 4 * k)) : scA S' := fun i hi => by
  by_cases z : i = k
  · subst z; exact hV.2.2.2.2
  · have := h i hi
    unfold scW at *
    rw [e (140 + 4 * i + 2) (by omega), e (140 + 4 * i + 3) (by omega)]
    exact this
theorem sa_up {S : mm_S} {j : Nat} {x : Int} (h : scA S) : scA (up2 S 138 j x) := fun i hi => by
  have := h i hi
  unfold scW at *
  rw [up2_row (by omega), up2_row (by omega)]
  exact this
/-- the class's run, told in registers; n ANSWERS are told -/
def crS (S0 S : mm_S) (n : Int) (s : aSt) : Prop := rnF S0 S ∧ okS S0 s ∧ clF S s.1 ∧ (S 138 5 = (s.1.length : Int) ∧ S 138 2 = s.2.2.1 ∧ S 138 3 = s.2.2.2.1 ∧ S 138 4 = s.2.2.2.2) ∧ scA S ∧ S 138 7 = n
def enS (S0 S : mm_S) (n : Int) (e : aEn) : Prop := rnF S0 S ∧ scA S ∧ S 138 7 = n ∧ S 138 0 = e.2.1 ∧ S 138 1 = e.2.2.1 ∧ S 138 2 = e.2.2.2.1 ∧ S 138 3 = e.2.2.2.2.1 ∧ S 138 4 = e.2.2.2.2.2
theorem cr_sim {S0 S : mm_S} {n : Int} {f : Fr} {t : List Fr} {z : Int × Int × Int × Int} (h : crS S0 S n (f :: t, z)) : simP S (140 + 4 * t.length) f.1 f.2.1 f.2.2 := by
  obtain ⟨h1, h2, ⟨⟨h3, h4, h5, h6⟩, -⟩, -⟩ := h
  exact ⟨h3, itV_of (rn_E h1) h2.1.1, h4, h5, h6⟩
theorem sim_ud {S S' : mm_S} {a : Nat} {κ : kyT} {pl : Int} {R : rgT} (he : bkE S S') (e0 : S' a = S a) (e1 : S' (a + 1) = S (a + 1)) (e2 : S' (a + 2) = S (a + 2)) (e3 : S' (a + 3) = S (a + 3)) (h : simP S a κ pl R) : simP S' a κ pl R := by
  obtain ⟨a1, a2, a3, a4, a5⟩ := h
  refine ⟨?_, itV_of he a2, ?_, by rw [e0]; exact a4, by rw [e0]; exact a5⟩
  · unfold scR at *
    rw [e0, e1, e2, e3]
    exact a1
  · unfold scV at *
    rw [e0, e1, e2, e3]
    exact a3
/-- the top of the pile is changed, or taken off -/
theorem cl_st {S : mm_S} {κ : kyT} {g : Int × mm_S} {z : Int × Int × rgT} {u : List Fr} (h : stP S (140 + 4 * u.length) κ g z) (h0 : S (140 + 4 * u.length) 0 = κ.2.1) (hu : clF S u) : clF g.2 ((κ, z.2.1.toNat, z.2.2) :: u) := by
  obtain ⟨-, -, a3, a4, a5, a6, a7, a8⟩ := h
  have hz := a5.2.1.1
  refine ⟨⟨a4, a6, ?_, a7.trans h0⟩, cl_of u (fun b x y => a3 b (by omega)) hu⟩
  rw [a8]
  show z.2.1 = ((z.2.1.toNat : Nat) : Int)
  omega
/-- what the scene's methods need -/
theorem cr_ro {S0 S : mm_S} {n : Int} (hB : cbB S0) {f : Fr} {t : List Fr} {z : Int × Int × Int × Int} (h : crS S0 S n (f :: t, z)) : kyV S f.1 ∧ cbB S ∧ f.1.2.1 < 6 ∧ (f.2.1 ≤ mN S f.1.2.1 ∧ mN S f.1.2.1 ≤ 24 ∧ ((mN S f.1.2.1 : Nat) : Int) = S (22 + 10 * f.1.2.1) 0) ∧ mN S f.1.2.1 = mN S0 f.1.2.1 := by
  have hbe := rn_E h.1
  have hB' := cbB_rn h.1 hB
  have hk := kyV_of hbe h.2.1.1.2.1
  have hro := cb_ro hB' hk.2.1
  have hit := h.2.1.1.1.2.1.2
  have e := bk_N hbe f.1.2.1
  refine ⟨hk, hB', hro.2.2.2.2.1, ⟨?_, hro.2.2.2.2.2.2, hro.2.2.2.2.2.1⟩, e⟩
  rw [e]
  have hv := (hB.2.2.2.1.2.2.2.2 f.1.2.1 (by have := hro.2.2.2.2.1; omega)).1
  unfold mN
  omega
