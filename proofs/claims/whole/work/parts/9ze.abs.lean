/-! ===== a run, told by a pile of scenes in registers ===== -/
abbrev Fr : Type := kyT × Nat × rgT
/-- the pile, innermost first; whether it fails out; ANSWERS asked for; STATEMENTS done; the deepest -/
abbrev aSt : Type := List Fr × Int × Int × Int × Int
/-- how it ended, ROUTINE, place; asked, done, deepest -/
abbrev aEn : Type := Int × Int × Int × Int × Int × Int
noncomputable def nyR (S : mm_S) (A : Int → Prop) (f : Fr) (as : Int) : Int × Int × rgT := @nxR S f.1 f.2.1 f.2.2 (asR S f.1 f.2.1 f.2.2 ∧ A as) (Classical.propDecidable _)
noncomputable def abStep (S : mm_S) (A : Int → Prop) : aSt → aSt ⊕ aEn
  | ([], _, as, dn, ms) => .inr (0, 0, 0, as, dn, ms)
  | (f :: t, fl, as, dn, ms) =>
    @ite _ (fl = 1 ∨ f.2.1 = mN S f.1.2.1) (Classical.propDecidable _)
      (@ite _ (lvM S f.2.2) (Classical.propDecidable _) (.inr (5, (f.1.2.1 : Int), (mN S f.1.2.1 : Int), as, dn, ms))
        (match t with
          | [] => .inr (if fl = 1 then 6 else 0, (f.1.2.1 : Int), (mN S f.1.2.1 : Int), as, dn, ms)
          | g :: u => .inl ((g.1, (cbR S g.1 g.2.1 g.2.2 (fl = 1) (etR f.1 f.2.2)).2.1.toNat, (cbR S g.1 g.2.1 g.2.2 (fl = 1) (etR f.1 f.2.2)).2.2) :: u, 1 - (cbR S g.1 g.2.1 g.2.2 (fl = 1) (etR f.1 f.2.2)).1, as, dn, ms)))
      (if dn = 500 then .inr (7, (f.1.2.1 : Int), (f.2.1 : Int), as, dn, ms)
        else if wrR S f.1 f.2.1 f.2.2 ≠ 0 then .inr (wrR S f.1 f.2.1 f.2.2, (f.1.2.1 : Int), (f.2.1 : Int), as, dn + 1, ms)
        else if mSo S f.1.2.1 f.2.1 = 10 ∨ mSo S f.1.2.1 f.2.1 = 11 then
          (if t.length = 9 then .inr (8, (f.1.2.1 : Int), (f.2.1 : Int), as, dn + 1, ms)
            else .inl ((clK S f.1 f.2.1 f.2.2, 0, bgR (clK S f.1 f.2.1 f.2.2)) :: f :: t, 0, as, dn + 1, max ms ((t.length : Int) + 2)))
        else .inl ((f.1, (nyR S A f as).2.1.toNat, (nyR S A f as).2.2) :: t, 1 - (nyR S A f as).1, as + ifP (asR S f.1 f.2.1 f.2.2) 1 0, dn + 1, ms))
section
variable {S : mm_S} {A : Int → Prop} {f g : Fr} {t u : List Fr} {fl as dn ms : Int}
theorem itp {p : Prop} {α : Type} {x y : α} (h : p) : @ite α p (Classical.propDecidable p) x y = x := @if_pos p (Classical.propDecidable p) h _ _ _
theorem itn {p : Prop} {α : Type} {x y : α} (h : ¬ p) : @ite α p (Classical.propDecidable p) x y = y := @if_neg p (Classical.propDecidable p) h _ _ _
theorem ab_left (h : fl = 1 ∨ f.2.1 = mN S f.1.2.1) (h1 : lvM S f.2.2) : abStep S A (f :: t, fl, as, dn, ms) = .inr (5, (f.1.2.1 : Int), (mN S f.1.2.1 : Int), as, dn, ms) := by
  simp only [abStep]
  rw [itp h, itp h1]
theorem ab_over (h : fl = 1 ∨ f.2.1 = mN S f.1.2.1) (h1 : ¬ lvM S f.2.2) : abStep S A ([f], fl, as, dn, ms) = .inr (if fl = 1 then 6 else 0, (f.1.2.1 : Int), (mN S f.1.2.1 : Int), as, dn, ms) := (itp h).trans (itn h1)
theorem ab_back (h : fl = 1 ∨ f.2.1 = mN S f.1.2.1) (h1 : ¬ lvM S f.2.2) : abStep S A (f :: g :: u, fl, as, dn, ms) = .inl ((g.1, (cbR S g.1 g.2.1 g.2.2 (fl = 1) (etR f.1 f.2.2)).2.1.toNat, (cbR S g.1 g.2.1 g.2.2 (fl = 1) (etR f.1 f.2.2)).2.2) :: u, 1 - (cbR S g.1 g.2.1 g.2.2 (fl = 1) (etR f.1 f.2.2)).1, as, dn, ms) := (itp h).trans (itn h1)
theorem ab_long (h : ¬ (fl = 1 ∨ f.2.1 = mN S f.1.2.1)) (h1 : dn = 500) : abStep S A (f :: t, fl, as, dn, ms) = .inr (7, (f.1.2.1 : Int), (f.2.1 : Int), as, dn, ms) := by
  simp only [abStep]
  rw [itn h, if_pos h1]
theorem ab_wr (h : ¬ (fl = 1 ∨ f.2.1 = mN S f.1.2.1)) (h1 : dn ≠ 500) (h2 : wrR S f.1 f.2.1 f.2.2 ≠ 0) : abStep S A (f :: t, fl, as, dn, ms) = .inr (wrR S f.1 f.2.1 f.2.2, (f.1.2.1 : Int), (f.2.1 : Int), as, dn + 1, ms) := by
  simp only [abStep]
  rw [itn h, if_neg h1, if_pos h2]
theorem ab_deep (h : ¬ (fl = 1 ∨ f.2.1 = mN S f.1.2.1)) (h1 : dn ≠ 500) (h2 : wrR S f.1 f.2.1 f.2.2 = 0) (h3 : mSo S f.1.2.1 f.2.1 = 10 ∨ mSo S f.1.2.1 f.2.1 = 11) (h4 : t.length = 9) : abStep S A (f :: t, fl, as, dn, ms) = .inr (8, (f.1.2.1 : Int), (f.2.1 : Int), as, dn + 1, ms) := by
  simp only [abStep]
  rw [itn h, if_neg h1, if_neg (fun z => z h2), if_pos h3, if_pos h4]
theorem ab_call (h : ¬ (fl = 1 ∨ f.2.1 = mN S f.1.2.1)) (h1 : dn ≠ 500) (h2 : wrR S f.1 f.2.1 f.2.2 = 0) (h3 : mSo S f.1.2.1 f.2.1 = 10 ∨ mSo S f.1.2.1 f.2.1 = 11) (h4 : t.length ≠ 9) : abStep S A (f :: t, fl, as, dn, ms) = .inl ((clK S f.1 f.2.1 f.2.2, 0, bgR (clK S f.1 f.2.1 f.2.2)) :: f :: t, 0, as, dn + 1, max ms ((t.length : Int) + 2)) := by
  simp only [abStep]
  rw [itn h, if_neg h1, if_neg (fun z => z h2), if_pos h3, if_neg h4]
theorem ab_nx (h : ¬ (fl = 1 ∨ f.2.1 = mN S f.1.2.1)) (h1 : dn ≠ 500) (h2 : wrR S f.1 f.2.1 f.2.2 = 0) (h3 : ¬ (mSo S f.1.2.1 f.2.1 = 10 ∨ mSo S f.1.2.1 f.2.1 = 11)) : abStep S A (f :: t, fl, as, dn, ms) = .inl ((f.1, (nyR S A f as).2.1.toNat, (nyR S A f as).2.2) :: t, 1 - (nyR S A f as).1, as + ifP (asR S f.1 f.2.1 f.2.2) 1 0, dn + 1, ms) := by
  simp only [abStep]
  rw [itn h, if_neg h1, if_neg (fun z => z h2), if_neg h3]
end
noncomputable def abRun (S : mm_S) (A : Int → Prop) : Nat → aSt → Option aEn
  | 0, _ => none
  | n + 1, s => match abStep S A s with
    | .inl s' => abRun S A n s'
    | .inr e => some e
def abRes (S : mm_S) (A : Int → Prop) (s : aSt) (e : aEn) : Prop := ∃ n, abRun S A n s = some e
theorem abr_s {S : mm_S} {A : Int → Prop} {s s' : aSt} (h : abStep S A s = .inl s') {e : aEn} (hr : abRes S A s' e) : abRes S A s e := by
  obtain ⟨n, hn⟩ := hr
  exact ⟨n + 1, by simp only [abRun]; rw [h]; exact hn⟩
theorem abr_e {S : mm_S} {A : Int → Prop} {s : aSt} {e : aEn} (h : abStep S A s = .inr e) : abRes S A s e := ⟨1, by simp only [abRun]; rw [h]⟩
theorem abr_m {S : mm_S} {A : Int → Prop} : ∀ (n m : Nat) (s : aSt) (e e' : aEn), abRun S A n s = some e → abRun S A m s = some e' → e = e'
  | 0, _, _, _, _, h, _ => by simp [abRun] at h
  | _ + 1, 0, _, _, _, _, h => by simp [abRun] at h
  | n + 1, m + 1, s, e, e', h, h' => by
    simp only [abRun] at h h'
    cases hs : abStep S A s with
    | inl s' =>
      rw [hs] at h h'
      exact abr_m n m s' e e' h h'
    | inr x =>
      rw [hs] at h h'
      have h : some x = some e := h
      have h' : some x = some e' := h'
      rw [h] at h'
      exact Option.some.inj h'
theorem abr_u {S : mm_S} {A : Int → Prop} {s : aSt} {e e' : aEn} (h : abRes S A s e) (h' : abRes S A s e') : e = e' := by
  obtain ⟨n, hn⟩ := h
  obtain ⟨m, hm⟩ := h'
  exact abr_m n m s e e' hn hm
/-- the pile is right -/
def okF (S : mm_S) : List Fr → Prop
  | [] => True
  | f :: t => itV S f.1 f.2.1 f.2.2 ∧ kyV S f.1 ∧ (∀ g u, t = g :: u → rcC S g.1 g.2.1 g.2.2 ∧ clK S g.1 g.2.1 g.2.2 = f.1) ∧ okF S t
/-- what is kept of a run's numbers -/
def okS (S : mm_S) (s : aSt) : Prop := okF S s.1 ∧ (1 ≤ s.1.length ∧ s.1.length ≤ 10) ∧ (s.2.1 = 0 ∨ s.2.1 = 1) ∧ (0 ≤ s.2.2.1 ∧ s.2.2.1 ≤ s.2.2.2.1 ∧ s.2.2.2.1 ≤ 500) ∧ (1 ≤ s.2.2.2.2 ∧ s.2.2.2.2 ≤ 10)
theorem ok_q {S : mm_S} (hm : mdV S) {f g : Fr} {u : List Fr} (h : okF S (f :: g :: u)) : rcC S g.1 g.2.1 g.2.2 ∧ (mSo S g.1.2.1 g.2.1 = 10 → 0 ≤ etR f.1 f.2.2 ∧ etR f.1 f.2.2 < S 182 (cdR g.1.2.2.1 g.2.2 (g.2.2.1 (mBb S g.1.2.1 g.2.1).toNat) / 7).toNat) := by
  obtain ⟨h1, h2, h3, h4⟩ := h
  obtain ⟨a1, a2⟩ := h3 g u rfl
  refine ⟨a1, fun h10 => ?_⟩
  have e1 := et_R h1.1 hm
  have e2 := et_bm h1.1
  refine ⟨e1.1, ?_⟩
  rw [← a2] at e2
  have e : (clK S g.1 g.2.1 g.2.2).1 = 1 := by show (if mSo S g.1.2.1 g.2.1 = 11 then (2 : Int) else 1) = 1; rw [if_neg (by omega)]
  unfold bmS at e2
  rw [if_pos e, a2] at e2
  rw [show cdR g.1.2.2.1 g.2.2 (g.2.2.1 (mBb S g.1.2.1 g.2.1).toNat) / 7 = f.1.2.2.1 by rw [← a2]; rfl]
  exact e2
