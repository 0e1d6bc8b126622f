/-! ===== fits: one search, nearest pairs first; a pair of STATES is 6 s + t ===== -/
noncomputable def cif {α : Type} (p : Prop) (a b : α) : α := @ite α p (Classical.propDecidable p) a b
theorem cif_t {α : Type} {p : Prop} {a b : α} (h : p) : cif p a b = a := @if_pos p (Classical.propDecidable p) h α a b
theorem cif_f {α : Type} {p : Prop} {a b : α} (h : ¬ p) : cif p a b = b := @if_neg p (Classical.propDecidable p) h α a b
noncomputable def nxtL (h : Nat → Prop) (g : Nat → Nat → Nat) : Nat → List Nat
  | 0 => []
  | n + 1 => nxtL h g n ++ cif (h n) [g n 1, g n 0] []
def fnd (d : Nat) (l : List (Nat × Nat)) (q : Nat) : List (Nat × Nat) := if q ∈ l.map Prod.fst then l else l ++ [(q, d)]
noncomputable def bfs (par : Nat → Prop) (nx : Nat → List Nat) : Nat → Nat → List (Nat × Nat) → Int
  | 0, _, _ => -1
  | f + 1, i, l => match l[i]? with
    | none => -1
    | some (p, d) => cif (par p) (d : Int) (bfs par nx f (i + 1) ((nx p).foldl (fnd (d + 1)) l))
theorem nodup_le : ∀ (n : Nat) (l : List Nat), l.Nodup → (∀ x ∈ l, x < n) → l.length ≤ n
  | 0, l, _, h => by
    cases l with
    | nil => simp
    | cons a l => exact absurd (h a List.mem_cons_self) (Nat.not_lt_zero a)
  | n + 1, l, hn, h => by
    by_cases hm : n ∈ l
    · have h1 : (l.erase n).Nodup := hn.erase n
      have h2 : ∀ x ∈ l.erase n, x < n := fun x hx => by
        have g1 := h x (List.mem_of_mem_erase hx)
        have g2 : x ≠ n := fun z => by subst z; exact (List.Nodup.not_mem_erase hn) hx
        omega
      have h3 := nodup_le n _ h1 h2
      have h4 := List.length_erase_of_mem hm
      have h5 : 0 < l.length := List.length_pos_of_mem hm
      omega
    · have h2 : ∀ x ∈ l, x < n := fun x hx => by
        have g1 := h x hx
        have g2 : x ≠ n := fun z => by subst z; exact hm hx
        omega
      have := nodup_le n l hn h2
      omega
def lOK (l : List (Nat × Nat)) : Prop := (l.map Prod.fst).Nodup ∧ ∀ x ∈ l, x.1 < 36 ∧ x.2 ≤ 40
theorem lOK.len {l : List (Nat × Nat)} (h : lOK l) : l.length ≤ 36 := by
  have := nodup_le 36 _ h.1 (fun x hx => by obtain ⟨y, hy, rfl⟩ := List.mem_map.mp hx; exact (h.2 y hy).1)
  simpa using this
theorem lOK_fnd {l : List (Nat × Nat)} (h : lOK l) {q d : Nat} (hq : q < 36) (hd : d ≤ 40) : lOK (fnd d l q) := by
  unfold fnd
  by_cases hm : q ∈ l.map Prod.fst
  · rw [if_pos hm]; exact h
  · rw [if_neg hm]
    refine ⟨?_, fun x hx => ?_⟩
    · rw [List.map_append, List.nodup_append]
      refine ⟨h.1, by simp, fun a ha b hb => ?_⟩
      simp at hb
      subst hb
      exact fun z => hm (z ▸ ha)
    · rcases List.mem_append.mp hx with h1 | h1
      · exact h.2 x h1
      · simp at h1; subst h1; exact ⟨hq, hd⟩
def ftS (sh : List mm_H) : Prop := sh[82]? = some (.inr (2, [.inr (some 83), .inr (some 84), .inl false])) ∧ sh[83]? = some (.inl (0, 36, fun _ => none)) ∧ sh[84]? = some (.inl (0, 36, fun _ => none))
def ftI (S : mm_S) (l : List (Nat × Nat)) : Prop := S 82 2 = (l.length : Int) ∧ (∀ j q d : Nat, l[j]? = some (q, d) → S 84 j = (q : Int) ∧ S 83 q = (d : Int)) ∧ ∀ q, q ∉ l.map Prod.fst → q < 36 → S 83 q = -1
def ftF (S S' : mm_S) : Prop := ∀ b, b ≠ 82 → b ≠ 83 → b ≠ 84 → S' b = S b
theorem ftI_new {S : mm_S} {l : List (Nat × Nat)} {q d m : Nat} {n1 : Int} (h : ftI S l) (hq : q ∉ l.map Prod.fst) (hm : m = l.length) (hn : n1 = (l.length : Int) + 1) : ftI (up2 (up2 (up2 S 83 q (d : Int)) 82 2 n1) 84 m (q : Int)) (fnd d l q) := by
  obtain ⟨h1, h2, h3⟩ := h
  subst hm hn
  unfold fnd
  rw [if_neg hq]
  refine ⟨?_, fun j p e hj => ?_, fun p hp hp2 => ?_⟩
  · rw [up2_rd (by omega), up2_same]; simp
  · rw [up2_rd (show 83 ≠ 84 by omega), up2_rd (show 83 ≠ 82 by omega)]
    by_cases hjl : j < l.length
    · rw [List.getElem?_append_left hjl] at hj
      have hpm : p ∈ l.map Prod.fst := List.mem_map.mpr ⟨(p, e), List.mem_of_getElem? hj, rfl⟩
      have hpq : p ≠ q := fun z => hq (z ▸ hpm)
      rw [up2_rc (by omega), up2_rd (by omega), up2_rd (by omega), up2_rc hpq]
      exact h2 j p e hj
    · rw [List.getElem?_append_right (by omega)] at hj
      have hz : j - l.length = 0 := by
        have := (List.getElem?_eq_some_iff.mp hj).1
        simp at this
        omega
      have hjl2 : j = l.length := by omega
      rw [hz] at hj
      simp at hj
      obtain ⟨rfl, rfl⟩ := hj
      rw [hjl2, up2_same, up2_same]
      exact ⟨rfl, rfl⟩
  · rw [List.map_append, List.mem_append] at hp
    simp at hp
    rw [up2_rd (by omega), up2_rd (by omega), up2_rc hp.2]
    exact h3 p (fun z => by obtain ⟨y, hy, rfl⟩ := List.mem_map.mp z; exact hp.1 y.2 hy) hp2
theorem ftI_old {S : mm_S} {l : List (Nat × Nat)} {q d : Nat} (h : ftI S l) (hq : q ∈ l.map Prod.fst) : ftI S (fnd d l q) := by
  unfold fnd
  rw [if_pos hq]
  exact h
set_option maxRecDepth 100000 in
set_option maxHeartbeats 4000000 in
theorem c_find {sh : List mm_H} {S : mm_S} {L : mm_L} {l : List (Nat × Nat)} (hf : ftS sh) (hI : ftI S l) (hl : lOK l) {x y : Int} {d : Nat} (hx : 0 ≤ x ∧ x < 6) (hy : 0 ≤ y ∧ y < 6) (hd : d ≤ 40) : am_E eX2_find [.ref 82, .int (iI x), .int (iI y), .int (iI (d : Int))] (mm sh S L) (fun r M' => r = none ∧ ∃ S', M' = mm sh S' L ∧ ftI S' (fnd d l (x * 6 + y).toNat) ∧ ftF S S') := by
  obtain ⟨hf0, hf1, hf2⟩ := hf
  obtain ⟨i1, i2, i3⟩ := id hI
  have hlen := hl.len
  refine am_enter rfl rfl (Nat.le_of_ble_eq_true rfl) ?_
  refine am_iload_n rfl dX2_find_0 ?_
  refine mm_zlt (tgt := 20) dX2_find_1 (by decide) (by omega) (fun h1 => ?_) (fun h1 => ?_)
  · refine am_return dX2_find_20 rfl ?_
    first
      | (exfalso; omega)
      | (refine ⟨rfl, S, rfl, ftI_old hI (Classical.byContradiction (fun hm => ?_)), fun _ _ _ _ => rfl⟩
         have h9 := (lOK_fnd hl (q := (x * 6 + y).toNat) (d := d) (by omega) hd).len
         unfold fnd at h9
         rw [if_neg hm] at h9
         simp at h9
         omega)
  · refine am_iload_n rfl dX2_find_4 ?_
    refine mm_zlt (tgt := 20) dX2_find_5 (by decide) (by omega) (fun h5 => ?_) (fun h5 => ?_)
    · refine am_return dX2_find_20 rfl ?_
      first
        | (exfalso; omega)
        | (refine ⟨rfl, S, rfl, ftI_old hI (Classical.byContradiction (fun hm => ?_)), fun _ _ _ _ => rfl⟩
           have h9 := (lOK_fnd hl (q := (x * 6 + y).toNat) (d := d) (by omega) hd).len
           unfold fnd at h9
           rw [if_neg hm] at h9
           simp at h9
           omega)
    · refine am_aload_n rfl dX2_find_8 ?_
      refine mm_getI dX2_find_9 fl_X2_18 hf0 rfl ?_
      rw [i1]
      refine am_aload_n rfl dX2_find_12 ?_
      refine mm_getR dX2_find_13 fl_X2_15 hf0 rfl ?_
      refine mm_len0 dX2_find_16 hf2 ?_
      refine mm_jlt (tgt := 21) dX2_find_17 (by decide) (by omega) (by omega) (fun h17 => ?_) (fun h17 => ?_)
      · obtain ⟨q, hq⟩ : ∃ q : Nat, x * 6 + y = (q : Int) := ⟨(x * 6 + y).toNat, by omega⟩
        have hq36 : q < 36 := by omega
        refine am_iload_n rfl dX2_find_21 ?_
        refine mm_bipush dX2_find_22 (by decide) ?_
        refine mm_imul dX2_find_24 ?_
        refine am_iload_n rfl dX2_find_25 ?_
        refine mm_iadd dX2_find_26 ?_
        rw [hq]
        have hR : -1 ≤ S 83 q ∧ S 83 q ≤ 40 := by
          by_cases hm : q ∈ l.map Prod.fst
          · obtain ⟨y2, hy, e⟩ := List.mem_map.mp hm
            obtain ⟨j, hj⟩ := List.getElem?_of_mem hy
            obtain ⟨y3, y4⟩ := y2
            simp at e
            subst e
            rw [(i2 j y3 y4 hj).2]
            have := (hl.2 _ hy).2
            simp at this
            omega
          · rw [i3 q hm hq36]; omega
        refine am_ist4 dX2_find_27 (Nat.le_of_ble_eq_true rfl) (am_c1i _) ?_
        refine am_aload_n rfl dX2_find_29 ?_
        refine mm_getR dX2_find_30 fl_X2_9 hf0 rfl ?_
        refine am_iload rfl dX2_find_33 ?_
        refine mm_ial dX2_find_35 hf1 (by omega) ?_
        rw [Int.toNat_natCast]
        refine mm_iconst dX2_find_36 ?_
        refine mm_jeq (tgt := 41) dX2_find_37 (by decide) (by omega) (by omega) (fun h37 => ?_) (fun h37 => ?_)
        · refine am_aload_n rfl dX2_find_41 ?_
          refine mm_getR dX2_find_42 fl_X2_9 hf0 rfl ?_
          refine am_iload rfl dX2_find_45 ?_
          refine am_iload_n rfl dX2_find_47 ?_
          refine mm_ias dX2_find_48 hf1 (by omega) ?_
          rw [Int.toNat_natCast]
          refine am_aload_n rfl dX2_find_49 ?_
          refine mm_getR dX2_find_50 fl_X2_15 hf0 rfl ?_
          refine am_aload_n rfl dX2_find_53 ?_
          refine am_dup rfl dX2_find_54 ?_
          refine mm_getI dX2_find_55 fl_X2_18 hf0 rfl ?_
          try simp (disch := omega) only [up2_rd, up2_rc, up2_same]
          rw [i1]
          refine am_dup_x1 rfl rfl dX2_find_58 ?_
          refine mm_iconst dX2_find_59 ?_
          refine mm_iadd dX2_find_60 ?_
          refine mm_putI dX2_find_61 fp_X2_18 hf0 rfl ?_
          refine am_iload rfl dX2_find_64 ?_
          refine mm_ias dX2_find_66 hf2 (by omega) ?_
          rw [Int.toNat_natCast]
          refine am_return dX2_find_67 rfl ?_
          try rw [hq, Int.toNat_natCast]
          refine ⟨rfl, _, rfl, ftI_new hI (fun hm => ?_) rfl rfl, fun b h1 h2 h3 => ?_⟩
          · obtain ⟨y2, hy2, e⟩ := List.mem_map.mp hm
            obtain ⟨j, hj⟩ := List.getElem?_of_mem hy2
            obtain ⟨y3, y4⟩ := y2
            simp at e
            subst e
            have := (i2 j y3 y4 hj).2
            omega
          · rw [up2_row h3, up2_row h1, up2_row h2]
        · refine am_return dX2_find_40 rfl ?_
          try rw [hq, Int.toNat_natCast]
          refine ⟨rfl, S, rfl, ftI_old hI (Classical.byContradiction (fun hm => ?_)), fun _ _ _ _ => rfl⟩
          have := i3 q hm hq36
          omega
      · refine am_return dX2_find_20 rfl ?_
        first
          | (exfalso; omega)
          | (refine ⟨rfl, S, rfl, ftI_old hI (Classical.byContradiction (fun hm => ?_)), fun _ _ _ _ => rfl⟩
             have h9 := (lOK_fnd hl (q := (x * 6 + y).toNat) (d := d) (by omega) hd).len
             unfold fnd at h9
             rw [if_neg hm] at h9
             simp at h9
             omega)
