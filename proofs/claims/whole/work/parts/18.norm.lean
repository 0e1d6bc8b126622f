theorem up2_rd {S : mm_S} {a i b j : Nat} {x : Int} (h : b ≠ a) : up2 S a i x b j = S b j := by simp [up2, h]
theorem up2_rc {S : mm_S} {a i b j : Nat} {x : Int} (h : j ≠ i) : up2 S a i x b j = S b j := by simp [up2, h]
/-- a local of which nothing need be known any more -/
theorem am_AW.unset {Y : am_Y} {M : am_M} {pc : Nat} {ls : List (Option Value)} {st : List Value} {Q : Option Value → am_M → Prop} (k : Nat) (h : am_AW Y M pc (ls.set k none) st Q) : am_AW Y M pc ls st Q := by
  refine am_AW.fewer h (fun i v hi => ?_)
  rw [List.getElem?_set] at hi
  by_cases hk : k = i
  · subst hk
    simp at hi
  · rw [if_neg hk] at hi
    exact hi
theorem mm_tsw {Y : am_Y} {M : am_M} {pc nx tgt : Nat} {ls : List (Option Value)} {st : List Value} {Q : Option Value → am_M → Prop} {off dflt lo hi : Int} {offs : Array Int} {len : Nat} {x : Int} (vs : List Int) (d : am_at Y pc (.tableswitch dflt lo hi offs) len nx) (hx : x ∈ vs) (hall : ∀ v ∈ vs, (lo ≤ v ∧ v ≤ hi ∧ -2147483648 ≤ v ∧ v < 2147483648) ∧ offs[(v - lo).toNat]? = some off) (ht : (pc : Int) + off = (tgt : Int)) (k : am_AW Y M tgt ls st Q) : am_AW Y M pc ls (.int (iI x) :: st) Q := by
  obtain ⟨h1, h2⟩ := hall x hx
  have e : (iI x).toInt = x := iI_toInt h1.2.2.1 h1.2.2.2
  exact am_tableIn (off := off) d (by rw [e]; omega) (by rw [e]; omega) (by rw [e]; exact h2) ht k
theorem mm_tout {Y : am_Y} {M : am_M} {pc nx tgt : Nat} {ls : List (Option Value)} {st : List Value} {Q : Option Value → am_M → Prop} {dflt lo hi : Int} {offs : Array Int} {len : Nat} {x : Int} (d : am_at Y pc (.tableswitch dflt lo hi offs) len nx) (hx : -2147483648 ≤ x ∧ x < 2147483648) (h : x < lo ∨ hi < x) (ht : (pc : Int) + dflt = (tgt : Int)) (k : am_AW Y M tgt ls st Q) : am_AW Y M pc ls (.int (iI x) :: st) Q := by
  have e : (iI x).toInt = x := iI_toInt hx.1 hx.2
  exact am_tableOut (off := 0) d (by rw [e]; exact h) ht k
