theorem am_gen {Y : am_Y} {sh : List mm_H} {S0 : mm_S} {L : mm_L} {pc : Nat} {ls : List (Option Value)} {st : List Value} {Q : Option Value → am_M → Prop} {P : mm_S → Prop} (h : P S0) (k : ∀ S1, P S1 → am_AW Y (mm sh S1 L) pc ls st Q) : am_AW Y (mm sh S0 L) pc ls st Q := k S0 h
/-! where STATEMENTS lead -/
def tgM (s : Nat → Int) (T : Nat → Int) (i j : Nat) : Int := match (stk s i).head? with
  | some o => if (s i = 6 ∨ s i = 15) ∧ j = o then (if s i = 6 then (i : Int) + 1 else i) else if j = i then (i : Int) + 1 else T j
  | none => if j = i then (i : Int) + 1 else T j
def tgE (s : Nat → Int) (T : Nat → Int) (i j : Nat) : Int := match (stk s i).head? with
  | some o => if s i = 7 then (if s o = 14 then T j else if midO s (i + 1) o = -1 then (if (s o = 4 ∨ s o = 5) ∧ j = i then (o : Int) else if j = o then (i : Int) + 1 else T j) else if (j : Int) = midO s (i + 1) o then (i : Int) + 1 else T j) else T j
  | none => T j
def tgt (s : Nat → Int) : Nat → Nat → Int
  | 0, _ => 0
  | i + 1, j => tgE s (tgM s (tgt s i) i) i j
def lvO (s : Nat → Int) (j : Nat) : Int := if s j = 14 then ((stk s j).length : Int) else match (stk s j).head? with
  | some o => if s j = 7 ∧ s o = 14 then ((stk s j).length : Int) - 1 else -1
  | none => -1
def kpO (s : Nat → Int) (j : Nat) : Int := kpS s (midO s (j + 1)) (stk s j).reverse (stk s j).length
def stk2 (s : Nat → Int) (j : Nat) : List Nat := if s j = 7 then (stk s j).tail else stk s j
def ctO (s : Nat → Int) (j : Nat) : Int := catF s (midO s (j + 1)) (stk2 s j)
def lkF (S S' : mm_S) (a : Nat) : Prop := (∀ b, b < a ∨ a + 9 < b → S' b = S b) ∧ S' (a + 1) = S (a + 1) ∧ S' (a + 2) = S (a + 2) ∧ S' (a + 3) = S (a + 3) ∧ ∀ j, j ≠ 1 → S' a j = S a j
def lkB (S' : mm_S) (B : List Nat) (a : Nat) : Prop := S' a 1 = (B.length : Int) ∧ ∀ j o : Nat, B.reverse[j]? = some o → S' (a + 9) j = (o : Int)
def lkI (S' : mm_S) (s : Nat → Int) (a i : Nat) : Prop := lkB S' (stk s i) a ∧ ∀ j, j < i → S' (a + 8) j = midO s i j ∧ S' (a + 4) j = tgt s i j ∧ S' (a + 6) j = lvO s j ∧ S' (a + 7) j = kpO s j ∧ S' (a + 5) j = ctO s j
def lk1 (S' : mm_S) (s : Nat → Int) (a i : Nat) : Prop := lkB S' (stk s i) a ∧ (∀ j, j < i + 1 → S' (a + 8) j = midO s (i + 1) j ∧ S' (a + 4) j = tgM s (tgt s i) i j) ∧ S' (a + 6) i = -1 ∧ ∀ j, j < i → S' (a + 6) j = lvO s j ∧ S' (a + 7) j = kpO s j ∧ S' (a + 5) j = ctO s j
def lk2 (S' : mm_S) (s : Nat → Int) (a i : Nat) : Prop := lkB S' (stk2 s i) a ∧ (∀ j, j < i + 1 → S' (a + 8) j = midO s (i + 1) j ∧ S' (a + 4) j = tgt s (i + 1) j ∧ S' (a + 7) j = kpO s j) ∧ S' (a + 6) i = (if s i = 7 then lvO s i else -1) ∧ ∀ j, j < i → S' (a + 6) j = lvO s j ∧ S' (a + 5) j = ctO s j
theorem lkF_rf (S : mm_S) (a : Nat) : lkF S S a := ⟨fun _ _ => rfl, rfl, rfl, rfl, fun _ _ => rfl⟩
theorem lkF_up {S S' : mm_S} {a b i : Nat} {x : Int} (h : lkF S S' a) (hb : a + 4 ≤ b ∧ b ≤ a + 9) : lkF S (up2 S' b i x) a := by
  obtain ⟨h1, h2, h3, h4, h5⟩ := h
  refine ⟨fun c hc => ?_, ?_, ?_, ?_, fun j hj => ?_⟩
  · rw [up2_row (by omega)]; exact h1 c hc
  · rw [up2_row (by omega)]; exact h2
  · rw [up2_row (by omega)]; exact h3
  · rw [up2_row (by omega)]; exact h4
  · rw [up2_rd (by omega)]; exact h5 j hj
theorem lkF_op {S S' : mm_S} {a : Nat} {x : Int} (h : lkF S S' a) : lkF S (up2 S' a 1 x) a := by
  obtain ⟨h1, h2, h3, h4, h5⟩ := h
  refine ⟨fun c hc => ?_, ?_, ?_, ?_, fun j hj => ?_⟩
  · rw [up2_row (by omega)]; exact h1 c hc
  · rw [up2_row (by omega)]; exact h2
  · rw [up2_row (by omega)]; exact h3
  · rw [up2_row (by omega)]; exact h4
  · rw [up2_rc hj]; exact h5 j hj
theorem lkB_up {S' : mm_S} {B : List Nat} {a b i : Nat} {x : Int} (h : lkB S' B a) (hb : a + 4 ≤ b ∧ b ≤ a + 8) : lkB (up2 S' b i x) B a := by
  refine ⟨?_, fun j o ho => ?_⟩
  · rw [up2_rd (by omega)]; exact h.1
  · rw [up2_rd (by omega)]; exact h.2 j o ho
theorem lkB.bl {S' : mm_S} {B : List Nat} {a n : Nat} {s f : Nat → Int} (h : lkB S' B a) (h6 : B.length ≤ 6) (hn : n ≤ 24) (hB : ∀ o ∈ B, o < n) (hs : ∀ o, o < n → S' (a + 1) o = s o ∧ Rg (s o)) (hf : ∀ o ∈ B, S' (a + 8) o = f o ∧ Rg (f o)) : blS S' a B s f := ⟨h.1, h6, h.2, fun o ho => ⟨by have := hB o ho; omega, (hs o (hB o ho)).1, (hf o ho).1, (hs o (hB o ho)).2, (hf o ho).2⟩⟩
theorem lkB.top {S' : mm_S} {s : Nat → Int} {a i o : Nat} (h : lkB S' (stk s i) a) (ho : (stk s i).head? = some o) : S' (a + 9) (S' a 1 - 1).toNat = (o : Int) ∧ (stk s i).length = (stk s o).length + 1 ∧ o < i := by
  have hst := stk_head ho
  have hl0 : (stk s i).length = (stk s o).length + 1 := by rw [hst]; rfl
  refine ⟨h.2 _ o ?_, hl0, (stk_top hst).2.1⟩
  rw [h.1, hl0, show (((stk s o).length + 1 : Nat) : Int) - 1 = ((stk s o).length : Int) by omega, Int.toNat_natCast, hst]
  exact rev_top
/-! the loop's three steps -/
theorem lk1_no {S' : mm_S} {s : Nat → Int} {a i : Nat} (h : lkI S' s a i) (hs : ¬ (s i = 6 ∨ s i = 15)) : lk1 (up2 (up2 (up2 S' (a + 4) i ((i : Int) + 1)) (a + 6) i (-1)) (a + 8) i (-1)) s a i := by
  obtain ⟨hb, hj⟩ := h
  refine ⟨lkB_up (lkB_up (lkB_up hb (by omega)) (by omega)) (by omega), fun j hji => ?_, ?_, fun j hji => ?_⟩
  · have eM : midO s (i + 1) j = midO s i j := by simp only [midO]; rw [if_neg (by omega)]
    have eT : tgM s (tgt s i) i j = if j = i then (i : Int) + 1 else tgt s i j := by
      unfold tgM
      split
      · rw [if_neg (by omega)]
      · rfl
    rw [eM, eT]
    by_cases hx : j = i
    · subst hx
      rw [if_pos rfl, midO_before s j j (by omega), up2_same]
      refine ⟨rfl, ?_⟩
      rw [up2_rd (by omega), up2_rd (by omega), up2_same]
    · rw [if_neg hx, up2_rc hx, up2_rc hx, up2_rc hx, up2_rc hx, up2_rc hx, up2_rc hx]
      exact ⟨(hj j (by omega)).1, (hj j (by omega)).2.1⟩
  · rw [up2_rd (by omega), up2_same]
  · have hx : j ≠ i := by omega
    rw [up2_rc hx, up2_rc hx, up2_rc hx, up2_rc hx, up2_rc hx, up2_rc hx, up2_rc hx, up2_rc hx, up2_rc hx]
    exact (hj j hji).2.2
theorem lk1_mid {S' : mm_S} {s : Nat → Int} {a i o : Nat} (h : lkI S' s a i) (hs : s i = 6 ∨ s i = 15) (ho : (stk s i).head? = some o) (hS : S' (a + 1) i = s i) : lk1 (lmS (up2 (up2 (up2 S' (a + 4) i ((i : Int) + 1)) (a + 6) i (-1)) (a + 8) i (-1)) a i o) s a i := by
  obtain ⟨hb, hj⟩ := h
  have hoi := (stk_top (stk_head ho)).2.1
  unfold lmS
  rw [up2_rd (by omega), up2_rd (by omega), up2_rd (by omega), hS]
  refine ⟨lkB_up (lkB_up (lkB_up (lkB_up (lkB_up hb (by omega)) (by omega)) (by omega)) (by omega)) (by omega), fun j hji => ?_, ?_, fun j hji => ?_⟩
  · have eM : midO s (i + 1) j = if j = o then (i : Int) else midO s i j := by
      simp only [midO]
      by_cases hx : j = o
      · subst hx; rw [if_pos ⟨hs, ho⟩, if_pos rfl]
      · rw [if_neg (fun z => hx (by rw [ho] at z; exact (Option.some.inj z.2).symm)), if_neg hx]
    have eT : tgM s (tgt s i) i j = if j = o then (if s i = 6 then (i : Int) + 1 else i) else if j = i then (i : Int) + 1 else tgt s i j := by
      unfold tgM
      rw [ho]
      by_cases hx : j = o
      · simp only []; rw [if_pos ⟨hs, hx⟩, if_pos hx]
      · simp only []; rw [if_neg (fun z => hx z.2), if_neg hx]
    rw [eM, eT]
    by_cases hx : j = o
    · subst hx
      rw [if_pos rfl, if_pos rfl, up2_same, up2_rd (by omega), up2_same]
      exact ⟨rfl, rfl⟩
    · rw [if_neg hx, if_neg hx, up2_rc hx, up2_rc hx, up2_rc hx, up2_rc hx]
      by_cases hx2 : j = i
      · subst hx2
        rw [if_pos rfl, midO_before s j j (by omega), up2_same, up2_rd (by omega), up2_rd (by omega), up2_same]
        exact ⟨rfl, rfl⟩
      · rw [if_neg hx2, up2_rc hx2, up2_rc hx2, up2_rc hx2, up2_rc hx2, up2_rc hx2, up2_rc hx2]
        exact ⟨(hj j (by omega)).1, (hj j (by omega)).2.1⟩
  · rw [up2_rd (by omega), up2_rd (by omega), up2_rd (by omega), up2_same]
  · have hx : j ≠ i := by omega
    rw [up2_rd (show a + 6 ≠ a + 4 by omega), up2_rd (show a + 6 ≠ a + 8 by omega), up2_rd (show a + 7 ≠ a + 4 by omega), up2_rd (show a + 7 ≠ a + 8 by omega), up2_rd (show a + 5 ≠ a + 4 by omega), up2_rd (show a + 5 ≠ a + 8 by omega)]
    rw [up2_rc hx, up2_rc hx, up2_rc hx, up2_rc hx, up2_rc hx, up2_rc hx, up2_rc hx, up2_rc hx, up2_rc hx]
    exact (hj j hji).2.2
theorem lk2_no {S1 : mm_S} {s : Nat → Int} {a i : Nat} (h : lk1 S1 s a i) (hs : ¬ s i = 7) : lk2 (up2 S1 (a + 7) i (kpO s i)) s a i := by
  obtain ⟨hb, h1, h2, h3⟩ := h
  have e2 : stk2 s i = stk s i := if_neg hs
  unfold lk2
  rw [e2, if_neg hs]
  refine ⟨lkB_up hb (by omega), fun j hj => ?_, ?_, fun j hj => ?_⟩
  · have eT : tgt s (i + 1) j = tgM s (tgt s i) i j := by
      simp only [tgt, tgE]
      split
      · rw [if_neg hs]
      · rfl
    rw [eT, up2_rd (by omega), up2_rd (by omega)]
    refine ⟨(h1 j hj).1, (h1 j hj).2, ?_⟩
    by_cases hx : j = i
    · subst hx; rw [up2_same]
    · rw [up2_rc hx]; exact (h3 j (by omega)).2.1
  · rw [up2_rd (by omega)]; exact h2
  · rw [up2_rd (by omega), up2_rd (by omega)]
    exact ⟨(h3 j hj).1, (h3 j hj).2.2⟩
theorem lkB_pop {S' : mm_S} {s : Nat → Int} {a i o : Nat} {x : Int} (h : lkB S' (stk s i) a) (ho : (stk s i).head? = some o) (hx : x = ((stk s i).length : Int) - 1) : lkB (up2 S' a 1 x) (stk s i).tail a := by
  have hst := stk_head ho
  rw [hst, List.tail_cons]
  rw [hst] at h hx
  refine ⟨by rw [up2_same, hx]; simp, fun j p hp => ?_⟩
  rw [up2_rd (by omega)]
  exact h.2 j p (rev_low hp)
theorem lk2_end {S1 : mm_S} {s : Nat → Int} {a i o : Nat} (h : lk1 S1 s a i) (hs : s i = 7) (ho : (stk s i).head? = some o) (hS : S1 (a + 1) o = s o) : lk2 (leS (up2 S1 (a + 7) i (kpO s i)) a i o) s a i := by
  obtain ⟨hb, h1, h2, h3⟩ := h
  have hst := stk_head ho
  have hoi := (stk_top hst).2.1
  have e2 : stk2 s i = (stk s i).tail := if_pos hs
  have hmo : S1 (a + 8) o = midO s (i + 1) o := (h1 o (by omega)).1
  have hml := midO_lt s (i + 1) o
  have hno : ∀ m : Nat, midO s (i + 1) o = (m : Int) → m < i ∧ m ≠ o := fun m hm => by
    obtain ⟨g1, g2, g3⟩ := midO_at s (i + 1) o m hm
    refine ⟨?_, fun z => ?_⟩
    · by_cases hz : m = i
      · subst hz; omega
      · omega
    · subst z
      have := (stk_top (stk_head g3)).2.1
      omega
  have lvi : lvO s i = if s o = 14 then ((stk s i).length : Int) - 1 else -1 := by
    unfold lvO
    rw [if_neg (by omega), ho]
    simp only []
    by_cases hz : s o = 14
    · rw [if_pos ⟨hs, hz⟩, if_pos hz]
    · rw [if_neg (fun z => hz z.2), if_neg hz]
  have hb7 : lkB (up2 S1 (a + 7) i (kpO s i)) (stk s i) a := lkB_up hb (by omega)
  have tE : ∀ j, tgt s (i + 1) j = if s o = 14 then tgM s (tgt s i) i j else if midO s (i + 1) o = -1 then (if (s o = 4 ∨ s o = 5) ∧ j = i then (o : Int) else if j = o then (i : Int) + 1 else tgM s (tgt s i) i j) else if (j : Int) = midO s (i + 1) o then (i : Int) + 1 else tgM s (tgt s i) i j := by
    intro j
    simp only [tgt, tgE]
    rw [ho]
    simp only [if_pos hs]
  have kp : ∀ j, j < i + 1 → up2 S1 (a + 7) i (kpO s i) (a + 7) j = kpO s j := fun j hj => by
    by_cases hx : j = i
    · subst hx; rw [up2_same]
    · rw [up2_rc hx]; exact (h3 j (by omega)).2.1
  unfold lk2
  rw [e2, if_pos hs, lvi]
  have q1 : up2 S1 (a + 7) i (kpO s i) (a + 1) o = s o := by rw [up2_rd (by omega)]; exact hS
  have q2 : up2 S1 (a + 7) i (kpO s i) (a + 8) o = midO s (i + 1) o := by rw [up2_rd (by omega)]; exact hmo
  have q3 : up2 S1 (a + 7) i (kpO s i) a 1 = ((stk s i).length : Int) := hb7.1
  have q6 : up2 S1 (a + 7) i (kpO s i) (a + 6) o = lvO s o := by rw [up2_rd (by omega)]; exact (h3 o hoi).1
  have lvo : s o = 14 → lvO s o = ((stk s i).length : Int) - 1 := fun z => by
    unfold lvO
    rw [if_pos z, hst]
    simp
  unfold leS
  rw [q1, q2, q3, q6]
  have hpop := lkB_pop (x := ((stk s i).length : Int) - 1) hb7 ho rfl
  by_cases c1 : s o = 14
  · rw [if_pos c1, if_pos c1]
    refine ⟨lkB_up hpop (by omega), fun j hj => ?_, ?_, fun j hj => ?_⟩
    · rw [tE, if_pos c1, up2_rd (by omega), up2_rd (by omega), up2_rd (by omega), up2_rd (by omega), up2_rd (by omega), up2_rd (by omega), up2_rd (by omega), up2_rd (by omega)]
      exact ⟨(h1 j hj).1, (h1 j hj).2, kp j hj⟩
    · rw [up2_same]; exact lvo c1
    · have hx : j ≠ i := by omega
      rw [up2_rc hx, up2_rd (by omega), up2_rd (by omega), up2_rd (by omega), up2_rd (by omega), up2_rd (by omega)]
      exact ⟨(h3 j hj).1, (h3 j hj).2.2⟩
  · rw [if_neg c1, if_neg c1]
    by_cases c2 : midO s (i + 1) o = -1
    · rw [if_pos c2]
      by_cases c3 : s o = 4 ∨ s o = 5
      · rw [if_pos c3]
        refine ⟨lkB_up (lkB_up hpop (by omega)) (by omega), fun j hj => ?_, ?_, fun j hj => ?_⟩
        · rw [tE, if_neg c1, if_pos c2, up2_rd (by omega), up2_rd (by omega), up2_rd (by omega), up2_rd (by omega)]
          refine ⟨(h1 j hj).1, ?_, ?_⟩
          · by_cases hx : j = i
            · rw [if_pos ⟨c3, hx⟩, hx, up2_same]
            · rw [if_neg (fun z => hx z.2), up2_rc hx]
              by_cases hx2 : j = o
              · rw [if_pos hx2, hx2, up2_same]
              · rw [if_neg hx2, up2_rc hx2, up2_rd (by omega), up2_rd (by omega)]
                exact (h1 j hj).2
          · rw [up2_rd (by omega), up2_rd (by omega), up2_rd (by omega)]
            exact kp j hj
        · rw [up2_rd (by omega), up2_rd (by omega), up2_rd (by omega), up2_rd (by omega)]
          exact h2
        · rw [up2_rd (by omega), up2_rd (by omega), up2_rd (by omega), up2_rd (by omega), up2_rd (by omega), up2_rd (by omega), up2_rd (by omega), up2_rd (by omega)]
          exact ⟨(h3 j hj).1, (h3 j hj).2.2⟩
      · rw [if_neg c3]
        refine ⟨lkB_up hpop (by omega), fun j hj => ?_, ?_, fun j hj => ?_⟩
        · rw [tE, if_neg c1, if_pos c2, if_neg (fun z => c3 z.1), up2_rd (by omega), up2_rd (by omega), up2_rd (by omega)]
          refine ⟨(h1 j hj).1, ?_, ?_⟩
          · by_cases hx2 : j = o
            · rw [if_pos hx2, hx2, up2_same]
            · rw [if_neg hx2, up2_rc hx2, up2_rd (by omega), up2_rd (by omega)]
              exact (h1 j hj).2
          · rw [up2_rd (by omega), up2_rd (by omega)]
            exact kp j hj
        · rw [up2_rd (by omega), up2_rd (by omega), up2_rd (by omega)]
          exact h2
        · rw [up2_rd (by omega), up2_rd (by omega), up2_rd (by omega), up2_rd (by omega), up2_rd (by omega), up2_rd (by omega)]
          exact ⟨(h3 j hj).1, (h3 j hj).2.2⟩
    · rw [if_neg c2]
      obtain ⟨m, hm⟩ : ∃ m : Nat, midO s (i + 1) o = (m : Int) := ⟨(midO s (i + 1) o).toNat, by omega⟩
      have hmi := hno m hm
      rw [hm, Int.toNat_natCast]
      refine ⟨lkB_up hpop (by omega), fun j hj => ?_, ?_, fun j hj => ?_⟩
      · rw [tE, if_neg c1, if_neg c2, hm, up2_rd (by omega), up2_rd (by omega), up2_rd (by omega)]
        refine ⟨(h1 j hj).1, ?_, ?_⟩
        · by_cases hx2 : j = m
          · rw [if_pos (by rw [hx2]), hx2, up2_same]
          · rw [if_neg (by omega), up2_rc hx2, up2_rd (by omega), up2_rd (by omega)]
            exact (h1 j hj).2
        · rw [up2_rd (by omega), up2_rd (by omega)]
          exact kp j hj
      · rw [up2_rd (by omega), up2_rd (by omega), up2_rd (by omega)]
        exact h2
      · rw [up2_rd (by omega), up2_rd (by omega), up2_rd (by omega), up2_rd (by omega), up2_rd (by omega), up2_rd (by omega)]
        exact ⟨(h3 j hj).1, (h3 j hj).2.2⟩
