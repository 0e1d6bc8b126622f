theorem up2_rd {S : mm_S} {a i b j : Nat} {x : Int} (h : b ≠ a) : up2 S a i x b j = S b j := by simp [up2, h]
theorem up2_rc {S : mm_S} {a i b j : Nat} {x : Int} (h : j ≠ i) : up2 S a i x b j = S b j := by simp [up2, h]
/-- a local of which nothing need be known any more -/
theorem am_AW.unset {Y : am_Y} {M : am_M} {pc : Nat} {ls : List (Option Value)} {st : List Value} {Q : Option Value → am_M → Prop} (k : Nat) (h : am_AW Y M pc (ls.set k none) st Q) : am_AW Y M pc ls st Q := by
  refine am_AW.fewer h (fun i v hi => ?_)
  rw [List.getElem?_set] at hi
  by_cases hk : k = i
  · subst hk
    simp at hi
  · rw [if_neg hk] at hi
    exact hi
