/-! where a STATEMENT leads, if not to the next one -/
def hdS (s : Nat → Int) (j : Nat) : Nat := match (stk s j).head? with
  | some o => o
  | none => 0
theorem hdS_of {s : Nat → Int} {j o : Nat} (h : (stk s j).head? = some o) : hdS s j = o := by unfold hdS; rw [h]
def tgX (s : Nat → Int) (n j : Nat) : Int :=
  if s j = 14 then (if midO s n j ≠ -1 then midO s n j else (j : Int) + 1)
  else if 2 ≤ s j ∧ s j ≤ 5 then (if midO s n j ≠ -1 then midO s n j + 1 else if endO s n j ≠ -1 then endO s n j + 1 else (j : Int) + 1)
  else if s j = 6 then (if endO s n (hdS s j) ≠ -1 then endO s n (hdS s j) + 1 else (j : Int) + 1)
  else if s j = 7 then (if s (hdS s j) = 4 ∨ s (hdS s j) = 5 then (hdS s j : Int) else (j : Int) + 1)
  else (j : Int) + 1
theorem tgX_keep {s : Nat → Int} {n j : Nat} (h1 : midO s (n + 1) j = midO s n j) (h2 : endO s (n + 1) j = endO s n j) (h3 : s j = 6 → endO s (n + 1) (hdS s j) = endO s n (hdS s j)) : tgX s (n + 1) j = tgX s n j := by
  unfold tgX
  rw [h1, h2]
  by_cases h : s j = 6
  · rw [h3 h]
  · rw [if_neg h, if_neg h]
theorem tgX_new {s : Nat → Int} {n : Nat} (h : s n = 6 → endO s (n + 1) (hdS s n) = -1) (h7 : s n ≠ 7) : tgX s (n + 1) n = (n : Int) + 1 := by
  unfold tgX
  rw [midO_before s (n + 1) n (Nat.le_refl _), endO_before s (n + 1) n (Nat.le_refl _)]
  by_cases h6 : s n = 6
  · rw [h h6]
    simp [h6]
  · simp [h6, h7]
theorem tgt_at {s : Nat → Int} : ∀ {n : Nat}, wfP s n → ∀ j, j < n → tgt s n j = tgX s n j
  | 0, _, j, h => absurd h (Nat.not_lt_zero _)
  | n + 1, hw, j, hj => by
    have hwn := wfP_le hw (Nat.le_succ n)
    have ih := tgt_at hwn
    have hm := (hw n (Nat.lt_succ_self n)).2
    simp only [tgt]
    by_cases c7 : s n = 7
    · obtain ⟨o, ho, h1⟩ := hm.2.2.2 c7
      have hst := stk_head ho
      have hoo := stk_top hst
      have hop : o ∈ stk s n := by rw [hst]; exact List.mem_cons_self
      have eM : ∀ q, midO s (n + 1) q = midO s n q := fun q => by simp only [midO]; rw [if_neg (by omega)]
      have eE : ∀ q, q ≠ o → endO s (n + 1) q = endO s n q := fun q hq => by simp only [endO]; rw [if_neg (fun z => hq (by have := z.2; rw [ho] at this; exact (Option.some.inj this).symm))]
      have eo : endO s (n + 1) o = n := by simp only [endO]; rw [if_pos ⟨c7, ho⟩]
      have e0 : endO s n o = -1 := (stk_open hoo.2.2 hwn hoo.2.1).mp hop
      have eh := hdS_of ho
      have tM : ∀ q, tgM s (tgt s n) n q = if q = n then (n : Int) + 1 else tgt s n q := fun q => by
        unfold tgM; rw [ho]
        show (if (s n = 6 ∨ s n = 15) ∧ q = o then _ else _) = _
        rw [if_neg (by omega)]
      have tE : tgE s (tgM s (tgt s n) n) n j = if s o = 14 then tgM s (tgt s n) n j else if midO s (n + 1) o = -1 then (if (s o = 4 ∨ s o = 5) ∧ j = n then (o : Int) else if j = o then (n : Int) + 1 else tgM s (tgt s n) n j) else if (j : Int) = midO s (n + 1) o then (n : Int) + 1 else tgM s (tgt s n) n j := by
        unfold tgE; rw [ho]
        show (if s n = 7 then _ else _) = _
        rw [if_pos c7]
      rw [tE, tM]
      have key : ∀ q, q < n → s q = 6 → hdS s q = o → midO s n o = (q : Int) ∧ s o ≠ 14 ∧ s o ≠ 4 ∧ s o ≠ 5 := by
        intro q hq h6 hh
        obtain ⟨p, hp, h3, h4⟩ := (hw q (by omega)).2.2.1 h6
        have := hdS_of hp
        rw [hh] at this
        subst this
        have e1 : midO s (q + 1) o = (q : Int) := by simp only [midO]; rw [if_pos ⟨Or.inl h6, hp⟩]
        have := midO_mono (o := o) (j := q + 1) (k := n) (by omega) hwn (by omega)
        exact ⟨by omega, by omega, by omega, by omega⟩
      by_cases s14 : s o = 14
      · rw [if_pos s14]
        by_cases jn : j = n
        · rw [if_pos jn, jn]
          unfold tgX
          rw [if_neg (by omega), if_neg (by omega), if_neg (by omega), if_pos c7, eh, if_neg (by omega)]
        · rw [if_neg jn, ih j (by omega)]
          by_cases jo : j = o
          · subst jo
            unfold tgX
            rw [if_pos s14, if_pos s14, eM]
          · rw [tgX_keep (eM j) (eE j jo) (fun h6 => eE _ (fun hh => (key j (by omega) h6 hh).2.1 s14))]
      · rw [if_neg s14]
        by_cases hmid : midO s (n + 1) o = -1
        · rw [if_pos hmid]
          by_cases jn : j = n
          · subst jn
            rw [if_neg (show ¬ j = o by omega), if_pos rfl]
            unfold tgX
            rw [if_neg (show ¬ s j = 14 by omega), if_neg (show ¬ (2 ≤ s j ∧ s j ≤ 5) by omega), if_neg (show ¬ s j = 6 by omega), if_pos c7, eh]
            by_cases h45 : s o = 4 ∨ s o = 5
            · rw [if_pos ⟨h45, rfl⟩, if_pos h45]
            · rw [if_neg (fun z => h45 z.1), if_neg h45]
          · rw [if_neg (fun z => jn z.2)]
            by_cases jo : j = o
            · subst jo
              rw [if_pos rfl]
              have hop2 := hoo.2.2
              unfold tgX
              rw [if_neg s14, if_pos (by omega), hmid, eo, if_neg (by omega), if_pos (by omega)]
            · rw [if_neg jo, if_neg jn, ih j (by omega), tgX_keep (eM j) (eE j jo) (fun h6 => eE _ (fun hh => by
                have := (key j (by omega) h6 hh).1
                rw [eM] at hmid
                omega))]
        · rw [if_neg hmid]
          rw [eM] at hmid ⊢
          have hml := midO_lt s n o
          obtain ⟨k1, k2, k3⟩ := midO_at s n o (midO s n o).toNat (by omega)
          have k6 : s (midO s n o).toNat = 6 ∧ (s o = 2 ∨ s o = 3) := by
            rcases k2 with k2 | k2
            · obtain ⟨p, hp, -, h4⟩ := (hw (midO s n o).toNat (by omega)).2.2.1 k2
              rw [k3] at hp
              obtain rfl := Option.some.inj hp
              exact ⟨k2, h4⟩
            · obtain ⟨p, hp, -, h4⟩ := (hw (midO s n o).toNat (by omega)).2.2.2.1 k2
              rw [k3] at hp
              obtain rfl := Option.some.inj hp
              exact absurd h4 s14
          by_cases jm : (j : Int) = midO s n o
          · rw [if_pos jm]
            have ej : (midO s n o).toNat = j := by omega
            rw [ej] at k3 k6
            unfold tgX
            rw [if_neg (by omega), if_neg (by omega), if_pos k6.1, hdS_of k3, eo, if_pos (by omega)]
          · rw [if_neg jm]
            by_cases jn : j = n
            · rw [if_pos jn, jn]
              unfold tgX
              rw [if_neg (by omega), if_neg (by omega), if_neg (by omega), if_pos c7, eh, if_neg (by omega)]
            · rw [if_neg jn, ih j (by omega)]
              by_cases jo : j = o
              · subst jo
                unfold tgX
                rw [if_neg s14, if_neg s14, if_pos (by omega), if_pos (by omega), eM, if_pos hmid, if_pos (by omega)]
              · rw [tgX_keep (eM j) (eE j jo) (fun h6 => eE _ (fun hh => jm ((key j (by omega) h6 hh).1.symm)))]
    · have eE : ∀ q, endO s (n + 1) q = endO s n q := fun q => by simp only [endO]; rw [if_neg (fun z => c7 z.1)]
      have tE : ∀ T : Nat → Int, tgE s T n j = T j := fun T => by
        unfold tgE
        split
        · rw [if_neg c7]
        · rfl
      rw [tE]
      by_cases c6 : s n = 6 ∨ s n = 15
      · have hx : ∃ o, (stk s n).head? = some o ∧ midO s n o = -1 ∧ ((s n = 6 ∧ (s o = 2 ∨ s o = 3)) ∨ (s n = 15 ∧ s o = 14)) := by
          rcases c6 with c | c
          · obtain ⟨o, h1, h2, h3⟩ := hm.2.1 c
            exact ⟨o, h1, h2, Or.inl ⟨c, h3⟩⟩
          · obtain ⟨o, h1, h2, h3⟩ := hm.2.2.1 c
            exact ⟨o, h1, h2, Or.inr ⟨c, h3⟩⟩
        obtain ⟨o, ho, h2, h3⟩ := hx
        have hst := stk_head ho
        have hoo := stk_top hst
        have hop : o ∈ stk s n := by rw [hst]; exact List.mem_cons_self
        have e0 : endO s n o = -1 := (stk_open hoo.2.2 hwn hoo.2.1).mp hop
        have eM : ∀ q, q ≠ o → midO s (n + 1) q = midO s n q := fun q hq => by simp only [midO]; rw [if_neg (fun z => hq (by have := z.2; rw [ho] at this; exact (Option.some.inj this).symm))]
        have eo : midO s (n + 1) o = n := by simp only [midO]; rw [if_pos ⟨c6, ho⟩]
        have tM : tgM s (tgt s n) n j = if (s n = 6 ∨ s n = 15) ∧ j = o then (if s n = 6 then (n : Int) + 1 else n) else if j = n then (n : Int) + 1 else tgt s n j := by
          unfold tgM; rw [ho]
        rw [tM]
        by_cases jo : j = o
        · subst jo
          rw [if_pos ⟨c6, rfl⟩]
          unfold tgX
          rw [eo]
          rcases h3 with ⟨h3, h4⟩ | ⟨h3, h4⟩
          · rw [if_pos h3, if_neg (by omega), if_pos (by omega), if_pos (by omega)]
          · rw [if_neg (by omega), if_pos h4, if_pos (by omega)]
        · rw [if_neg (fun z => jo z.2)]
          by_cases jn : j = n
          · rw [if_pos jn, jn, tgX_new (fun _ => by rw [hdS_of ho, eE]; exact e0) c7]
          · rw [if_neg jn, ih j (by omega), tgX_keep (eM j jo) (eE j) (fun _ => eE _)]
      · have eM : ∀ q, midO s (n + 1) q = midO s n q := fun q => by simp only [midO]; rw [if_neg (fun z => c6 z.1)]
        have tM : tgM s (tgt s n) n j = if j = n then (n : Int) + 1 else tgt s n j := by
          unfold tgM
          split
          · rw [if_neg (fun z => c6 z.1)]
          · rfl
        rw [tM]
        by_cases jn : j = n
        · rw [if_pos jn, jn, tgX_new (fun z => absurd (Or.inl z) c6) c7]
        · rw [if_neg jn, ih j (by omega), tgX_keep (eM j) (eE j) (fun _ => eE _)]
/-! two bits of a number -/
theorem and_dig {x y : Int} (hx : 0 ≤ x) (hy : 0 ≤ y) (k : Nat) (h : y / 4 ^ k % 4 = 3 ∨ y / 4 ^ k % 4 = 0) : ((x.toNat &&& y.toNat : Nat) : Int) / 4 ^ k % 4 = if y / 4 ^ k % 4 = 3 then x / 4 ^ k % 4 else 0 := by
  obtain ⟨m, rfl⟩ := Int.eq_ofNat_of_zero_le hx
  obtain ⟨n, rfl⟩ := Int.eq_ofNat_of_zero_le hy
  rw [Int.toNat_natCast, Int.toNat_natCast]
  have e : ∀ z : Nat, ((z : Int) / 4 ^ k % 4) = ((z / 2 ^ (2 * k) % 2 ^ 2 : Nat) : Int) := by
    intro z
    rw [Nat.pow_mul]
    push_cast
    rfl
  rw [e, e] at *
  rw [e, Nat.and_div_two_pow, Nat.and_mod_two_pow]
  rcases h with h | h
  · have h2 : n / 2 ^ (2 * k) % 2 ^ 2 = 3 := by omega
    rw [h2, if_pos (by rfl)]
    have h3 : m / 2 ^ (2 * k) % 2 ^ 2 < 4 := Nat.mod_lt _ (by decide)
    generalize m / 2 ^ (2 * k) % 2 ^ 2 = z at h3 ⊢
    have key : ∀ z : Fin 4, z.val &&& 3 = z.val := by decide
    rw [key ⟨z, h3⟩]
  · have h2 : n / 2 ^ (2 * k) % 2 ^ 2 = 0 := by omega
    rw [h2, if_neg (by decide), Nat.and_zero]
    rfl
theorem or_dig {x : Int} (hx : 0 ≤ x) {m : Int} (hm : 0 ≤ m ∧ m ≤ 3) {l k : Nat} (h0 : x / 4 ^ l % 4 = 0) : ((x.toNat ||| (m * 4 ^ l).toNat : Nat) : Int) / 4 ^ k % 4 = if k = l then m else x / 4 ^ k % 4 := by
  obtain ⟨n, rfl⟩ := Int.eq_ofNat_of_zero_le hx
  obtain ⟨w, rfl⟩ := Int.eq_ofNat_of_zero_le hm.1
  have hw : w ≤ 3 := by omega
  have e : ∀ (z j : Nat), ((z : Int) / 4 ^ j % 4) = ((z / 2 ^ (2 * j) % 2 ^ 2 : Nat) : Int) := by
    intro z j
    rw [Nat.pow_mul]
    push_cast
    rfl
  have e2 : ((w : Int) * 4 ^ l).toNat = w * 2 ^ (2 * l) := by
    rw [Nat.pow_mul]
    have : ((w : Int) * 4 ^ l) = ((w * (2 ^ 2) ^ l : Nat) : Int) := by push_cast; rfl
    rw [this, Int.toNat_natCast]
  rw [e] at h0
  rw [Int.toNat_natCast, e2, e, e, Nat.or_div_two_pow, Nat.or_mod_two_pow]
  have h1 : n / 2 ^ (2 * l) % 2 ^ 2 = 0 := by omega
  by_cases hk : k = l
  · subst hk
    rw [if_pos rfl, h1, Nat.mul_div_cancel _ (Nat.two_pow_pos _), Nat.zero_or, Nat.mod_eq_of_lt (by omega)]
  · rw [if_neg hk]
    have h3 : w * 2 ^ (2 * l) / 2 ^ (2 * k) % 2 ^ 2 = 0 := by
      by_cases hlt : k < l
      · have e3 : 2 ^ (2 * l) = 2 ^ (2 * k) * (4 * 2 ^ (2 * (l - k - 1))) := by
          rw [show 4 * 2 ^ (2 * (l - k - 1)) = 2 ^ (2 * (l - k - 1) + 2) by rw [Nat.pow_add]; omega, ← Nat.pow_add]
          congr 1
          omega
        rw [e3, show w * (2 ^ (2 * k) * (4 * 2 ^ (2 * (l - k - 1)))) = 2 ^ (2 * k) * (4 * (w * 2 ^ (2 * (l - k - 1)))) by simp only [Nat.mul_assoc, Nat.mul_left_comm, Nat.mul_comm], Nat.mul_div_cancel_left _ (Nat.two_pow_pos _)]
        omega
      · have e3 : 2 ^ (2 * l) * 4 ≤ 2 ^ (2 * k) := by
          rw [show 2 ^ (2 * l) * 4 = 2 ^ (2 * l + 2) by rw [Nat.pow_add]]
          exact Nat.pow_le_pow_right (by decide) (by omega)
        have e4 : w * 2 ^ (2 * l) < 2 ^ (2 * k) := by
          have := Nat.mul_le_mul_right (2 ^ (2 * l)) hw
          have := Nat.two_pow_pos (2 * l)
          omega
        rw [Nat.div_eq_of_lt e4]
    rw [h3, Nat.or_zero]
