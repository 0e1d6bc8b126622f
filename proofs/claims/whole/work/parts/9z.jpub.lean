/-! ===== the nth WRONG ===== -/
def nthW (f : Nat → Int) : Nat → Int → Option Nat
  | 0, _ => none
  | k + 1, l => if f ((750 - (k + 1)) / 5) / 2 ^ ((750 - (k + 1)) % 5 + 1) % 2 = 1 then (if l = 0 then some (750 - (k + 1)) else nthW f k (l - 1)) else nthW f k l
def wnA (o : Option Nat) (what : Int) : Int := match o with
  | none => -1
  | some t => if what = 0 then ((t / 5 / 25 : Nat) : Int) else if what = 1 then ((t / 5 % 25 : Nat) : Int) else ((t % 5 + 1 : Nat) : Int)
theorem nth_step (f : Nat → Int) {x w : Nat} (hx : x < 150) (hw : 1 ≤ w ∧ w ≤ 5) (l : Int) : nthW f (750 - (5 * x + w - 1)) l = if f x / 2 ^ w % 2 = 1 then (if l = 0 then some (5 * x + w - 1) else nthW f (750 - (5 * x + w)) (l - 1)) else nthW f (750 - (5 * x + w)) l := by
  obtain ⟨k, hk⟩ : ∃ k, 750 - (5 * x + w - 1) = k + 1 := ⟨749 - (5 * x + w - 1), by omega⟩
  rw [hk, show 750 - (5 * x + w) = k by omega]
  show (if f ((750 - (k + 1)) / 5) / 2 ^ ((750 - (k + 1)) % 5 + 1) % 2 = 1 then (if l = 0 then some (750 - (k + 1)) else nthW f k (l - 1)) else nthW f k l) = _
  rw [show 750 - (k + 1) = 5 * x + w - 1 by omega, show (5 * x + w - 1) / 5 = x by omega, show (5 * x + w - 1) % 5 + 1 = w by omega]
theorem nth_bt {f g : Nat → Int} (h : ∀ x, x < 150 → ∀ v, 0 < v → v ≤ 5 → (bt (f x) v ↔ bt (g x) v)) : ∀ k l, k ≤ 750 → nthW f k l = nthW g k l
  | 0, _, _ => rfl
  | k + 1, l, hk => by
    have e := h ((750 - (k + 1)) / 5) (by omega) ((750 - (k + 1)) % 5 + 1) (by omega) (by omega)
    unfold bt at e
    simp only [nthW]
    rw [nth_bt h k l (by omega), nth_bt h k (l - 1) (by omega)]
    by_cases z : f ((750 - (k + 1)) / 5) / 2 ^ ((750 - (k + 1)) % 5 + 1) % 2 = 1
    · rw [if_pos z, if_pos (e.mp z)]
    · rw [if_neg z, if_neg (fun q => z (e.mpr q))]
/-- how many there are before a place -/
abbrev wpre (f : Nat → Int) (t : Nat) : Int := wO f (t / 5) + wI f (t / 5) (t % 5)
theorem wpre_s (f : Nat → Int) (t : Nat) : wpre f (t + 1) = wpre f t + f (t / 5) / 2 ^ (t % 5 + 1) % 2 := by
  unfold wpre
  by_cases z : t % 5 = 4
  · rw [show (t + 1) / 5 = t / 5 + 1 by omega, show (t + 1) % 5 = 0 by omega, z]
    simp only [wO, wI]
    omega
  · rw [show (t + 1) / 5 = t / 5 by omega, show (t + 1) % 5 = t % 5 + 1 by omega]
    simp only [wI]
    omega
theorem wn_some (t : Nat) (what : Int) : wnA (some t) what = if what = 0 then ((t / 5 / 25 : Nat) : Int) else if what = 1 then ((t / 5 % 25 : Nat) : Int) else ((t % 5 + 1 : Nat) : Int) := rfl
theorem nth_0 (f : Nat → Int) (l : Int) : nthW f 0 l = none := rfl
theorem nth_s (f : Nat → Int) (k : Nat) (l : Int) : nthW f (k + 1) l = if f ((750 - (k + 1)) / 5) / 2 ^ ((750 - (k + 1)) % 5 + 1) % 2 = 1 then (if l = 0 then some (750 - (k + 1)) else nthW f k (l - 1)) else nthW f k l := rfl
theorem nth_none (f : Nat → Int) (W : Int) (hm : ∀ t, t ≤ 750 → wpre f t ≤ W) : ∀ k l, k ≤ 750 → W - wpre f (750 - k) ≤ l → nthW f k l = none := by
  intro k
  induction k with
  | zero => intro l _ _; exact nth_0 f l
  | succ k ih =>
    intro l hk h
    have e := wpre_s f (750 - (k + 1))
    rw [show 750 - (k + 1) + 1 = 750 - k by omega] at e
    have hm1 := hm (750 - k) (by omega)
    rw [nth_s]
    have c1 := Int.emod_nonneg (f ((750 - (k + 1)) / 5) / 2 ^ ((750 - (k + 1)) % 5 + 1)) (show (2 : Int) ≠ 0 by decide)
    have c2 := Int.emod_lt_of_pos (f ((750 - (k + 1)) / 5) / 2 ^ ((750 - (k + 1)) % 5 + 1)) (show (0 : Int) < 2 by decide)
    generalize f ((750 - (k + 1)) / 5) / 2 ^ ((750 - (k + 1)) % 5 + 1) % 2 = bb at *
    generalize wpre f (750 - k) = u1 at *
    generalize wpre f (750 - (k + 1)) = u2 at *
    by_cases z : bb = 1
    · rw [if_pos z, if_neg (by omega)]
      exact ih (l - 1) (by omega) (by omega)
    · rw [if_neg z]
      exact ih l (by omega) (by omega)
theorem wpre_m (f : Nat → Int) : ∀ d t, wpre f t ≤ wpre f (t + d) := by
  intro d
  induction d with
  | zero => intro t; exact Int.le_refl _
  | succ d ih =>
    intro t
    have a := ih t
    have b := wpre_s f (t + d)
    have c := Int.emod_nonneg (f ((t + d) / 5) / 2 ^ ((t + d) % 5 + 1)) (show (2 : Int) ≠ 0 by decide)
    rw [show t + (d + 1) = t + d + 1 by omega]
    omega
theorem wpre_e (f : Nat → Int) : wpre f 750 = wO f 150 := by
  unfold wpre
  rw [show 750 / 5 = 150 from rfl, show 750 % 5 = 0 from rfl, show wI f 150 0 = 0 from rfl]
  omega
theorem nth_out (f : Nat → Int) {l : Int} (h : wO f 150 ≤ l) : nthW f 750 l = none := nth_none f (wO f 150) (fun t ht => by
  have := wpre_m f (750 - t) t
  rw [show t + (750 - t) = 750 by omega, wpre_e] at this
  exact this) 750 l (Nat.le_refl _) (by
  have : wpre f (750 - 750) = 0 := by
    unfold wpre
    rw [show (750 - 750) / 5 = 0 from rfl, show (750 - 750) % 5 = 0 from rfl, show wO f 0 = 0 from rfl, show wI f 0 0 = 0 from rfl]
    rfl
  omega)
set_option maxRecDepth 100000 in
set_option maxHeartbeats 4000000 in
theorem l_pow {sh : List mm_H} {S : mm_S} {L : mm_L} (jh : jsH sh) (hW : ∀ x : Nat, x < 150 → 0 ≤ S 92 x ∧ S 92 x < 64) {wt : Int} (hwt : 0 ≤ wt ∧ wt ≤ 2) {i : Int} : ∀ (q : Nat) (x w : Nat) (l : Int), 1000 - (6 * x + w) < q → (x < 150) → (1 ≤ w ∧ w ≤ 6) → (0 ≤ l ∧ l < 2147483648) → am_AW eX3_partOfWrong (mm sh S L) 32 [some (.ref 85), some (.int (iI i)), some (.int (iI wt)), some (.int (iI l)), some (.int (iI (x : Int))), some (.int (iI (w : Int)))] [] (fun r M' => r = some (.int (iI (wnA (nthW (S 92) (750 - (5 * x + w - 1)) l) wt))) ∧ M' = mm sh S L) := by
  intro q
  induction q with
  | zero =>
    intro x w l hq
    exact absurd hq (Nat.not_lt_zero _)
  | succ q ih =>
    intro x w l hq hx hw hl
    have hW92 := hW x hx
    refine am_iload rfl dX3_partOfWrong_32 ?_
    refine mm_iconst dX3_partOfWrong_34 ?_
    refine mm_jgt (tgt := 97) dX3_partOfWrong_35 (by decide) (by omega) (by omega) (fun h35 => ?_) (fun h35 => ?_)
    · refine mm_inc4 dX3_partOfWrong_97 (Nat.le_of_ble_eq_true rfl) (am_c1i _) ?_
      refine am_goto (tgt := 19) dX3_partOfWrong_100 (by decide) ?_
      refine am_iload rfl dX3_partOfWrong_19 ?_
      refine am_aload_n rfl dX3_partOfWrong_21 ?_
      refine mm_getR dX3_partOfWrong_22 fl_X3_39 jh.1 rfl ?_
      refine mm_len0 dX3_partOfWrong_25 jh.2.2.2.1 ?_
      refine mm_jge (tgt := 103) dX3_partOfWrong_26 (by decide) (by omega) (by omega) (fun h26 => ?_) (fun h26 => ?_)
      · refine mm_iconst dX3_partOfWrong_103 ?_
        refine am_ireturn dX3_partOfWrong_104 rfl rfl ?_
        refine ⟨?_, rfl⟩
        rw [show 750 - (5 * x + w - 1) = 0 by omega]
        rfl
      · refine mm_iconst dX3_partOfWrong_29 ?_
        refine am_ist5 dX3_partOfWrong_30 (Nat.le_of_ble_eq_true rfl) (am_c1i _) ?_
        first
          | (have h35' := h35
             have ih := ih (x + 1) 1 l (by omega) (by omega) (by omega) hl
             rw [show 5 * (x + 1) + 1 - 1 = 5 * x + w - 1 by omega] at ih
             exact ih)
          | (have ns := nth_step (S 92) hx (show 1 ≤ w ∧ w ≤ 5 by omega) l
             rw [if_pos (by omega), if_neg (by omega), show l - 1 = l + -1 by omega] at ns
             rw [ns]
             have ih := ih x (w + 1) (l + -1) (by omega) hx (by omega) (by omega)
             rw [show 5 * x + (w + 1) - 1 = 5 * x + w by omega] at ih
             exact ih)
          | (have ns := nth_step (S 92) hx (show 1 ≤ w ∧ w ≤ 5 by omega) l
             rw [if_neg (by omega)] at ns
             rw [ns]
             have ih := ih x (w + 1) l (by omega) hx (by omega) hl
             rw [show 5 * x + (w + 1) - 1 = 5 * x + w by omega] at ih
             exact ih)
    · refine am_aload_n rfl dX3_partOfWrong_38 ?_
      refine mm_getR dX3_partOfWrong_39 fl_X3_39 jh.1 rfl ?_
      refine am_iload rfl dX3_partOfWrong_42 ?_
      refine mm_ial dX3_partOfWrong_44 jh.2.2.2.1 (by omega) ?_
      rw [Int.toNat_natCast]
      refine am_iload rfl dX3_partOfWrong_45 ?_
      refine mm_ishr dX3_partOfWrong_47 (by omega) (by omega) ?_
      rw [Int.toNat_natCast]
      refine mm_iconst dX3_partOfWrong_48 ?_
      refine mm_iand1 dX3_partOfWrong_49 (div_pow_R (by omega)) ?_
      refine mm_zne (tgt := 56) dX3_partOfWrong_50 (by decide) (by omega) (fun h50 => ?_) (fun h50 => ?_)
      · refine am_iload_n rfl dX3_partOfWrong_56 ?_
        refine mm_zne (tgt := 88) dX3_partOfWrong_57 (by decide) (by omega) (fun h57 => ?_) (fun h57 => ?_)
        · refine mm_inc3 dX3_partOfWrong_88 (Nat.le_of_ble_eq_true rfl) (am_c1i _) ?_
          refine mm_inc5 dX3_partOfWrong_91 (Nat.le_of_ble_eq_true rfl) (am_c1i _) ?_
          refine am_goto (tgt := 32) dX3_partOfWrong_94 (by decide) ?_
          first
            | (have h35' := h35
               have ih := ih (x + 1) 1 l (by omega) (by omega) (by omega) hl
               rw [show 5 * (x + 1) + 1 - 1 = 5 * x + w - 1 by omega] at ih
               exact ih)
            | (have ns := nth_step (S 92) hx (show 1 ≤ w ∧ w ≤ 5 by omega) l
               rw [if_pos (by omega), if_neg (by omega), show l - 1 = l + -1 by omega] at ns
               rw [ns]
               have ih := ih x (w + 1) (l + -1) (by omega) hx (by omega) (by omega)
               rw [show 5 * x + (w + 1) - 1 = 5 * x + w by omega] at ih
               exact ih)
            | (have ns := nth_step (S 92) hx (show 1 ≤ w ∧ w ≤ 5 by omega) l
               rw [if_neg (by omega)] at ns
               rw [ns]
               have ih := ih x (w + 1) l (by omega) hx (by omega) hl
               rw [show 5 * x + (w + 1) - 1 = 5 * x + w by omega] at ih
               exact ih)
        · refine am_iload_n rfl dX3_partOfWrong_60 ?_
          refine mm_zne (tgt := 72) dX3_partOfWrong_61 (by decide) (by omega) (fun h61 => ?_) (fun h61 => ?_)
          · refine am_iload_n rfl dX3_partOfWrong_72 ?_
            refine mm_iconst dX3_partOfWrong_73 ?_
            refine mm_jne (tgt := 85) dX3_partOfWrong_74 (by decide) (by omega) (by omega) (fun h74 => ?_) (fun h74 => ?_)
            · refine am_iload rfl dX3_partOfWrong_85 ?_
              refine am_ireturn dX3_partOfWrong_87 rfl rfl ?_
              have ns := nth_step (S 92) hx (show 1 ≤ w ∧ w ≤ 5 by omega) l
              rw [if_pos (by omega), if_pos (by omega)] at ns
              refine ⟨?_, rfl⟩
              rw [ns, wn_some]
              first
                | rw [if_pos (by omega), show (5 * x + w - 1) / 5 / 25 = x / 25 by omega]; exact congrArg (fun z => some (Value.int (iI z))) (by omega)
                | rw [if_neg (by omega), if_pos (by omega), show (5 * x + w - 1) / 5 % 25 = x % 25 by omega]; exact congrArg (fun z => some (Value.int (iI z))) (by omega)
                | rw [if_neg (by omega), if_neg (by omega), show (5 * x + w - 1) % 5 + 1 = w by omega]
            · refine am_iload rfl dX3_partOfWrong_77 ?_
              refine mm_bipush dX3_partOfWrong_79 (by decide) ?_
              refine mm_irem dX3_partOfWrong_81 (by omega) (by omega) ?_
              refine am_goto (tgt := 87) dX3_partOfWrong_82 (by decide) ?_
              refine am_ireturn dX3_partOfWrong_87 rfl rfl ?_
              have ns := nth_step (S 92) hx (show 1 ≤ w ∧ w ≤ 5 by omega) l
              rw [if_pos (by omega), if_pos (by omega)] at ns
              refine ⟨?_, rfl⟩
              rw [ns, wn_some]
              first
                | rw [if_pos (by omega), show (5 * x + w - 1) / 5 / 25 = x / 25 by omega]; exact congrArg (fun z => some (Value.int (iI z))) (by omega)
                | rw [if_neg (by omega), if_pos (by omega), show (5 * x + w - 1) / 5 % 25 = x % 25 by omega]; exact congrArg (fun z => some (Value.int (iI z))) (by omega)
                | rw [if_neg (by omega), if_neg (by omega), show (5 * x + w - 1) % 5 + 1 = w by omega]
          · refine am_iload rfl dX3_partOfWrong_64 ?_
            refine mm_bipush dX3_partOfWrong_66 (by decide) ?_
            refine mm_idiv dX3_partOfWrong_68 (by omega) (by omega) ?_
            refine am_goto (tgt := 87) dX3_partOfWrong_69 (by decide) ?_
            refine am_ireturn dX3_partOfWrong_87 rfl rfl ?_
            have ns := nth_step (S 92) hx (show 1 ≤ w ∧ w ≤ 5 by omega) l
            rw [if_pos (by omega), if_pos (by omega)] at ns
            refine ⟨?_, rfl⟩
            rw [ns, wn_some]
            first
              | rw [if_pos (by omega), show (5 * x + w - 1) / 5 / 25 = x / 25 by omega]; exact congrArg (fun z => some (Value.int (iI z))) (by omega)
              | rw [if_neg (by omega), if_pos (by omega), show (5 * x + w - 1) / 5 % 25 = x % 25 by omega]; exact congrArg (fun z => some (Value.int (iI z))) (by omega)
              | rw [if_neg (by omega), if_neg (by omega), show (5 * x + w - 1) % 5 + 1 = w by omega]
      · refine am_goto (tgt := 91) dX3_partOfWrong_53 (by decide) ?_
        refine mm_inc5 dX3_partOfWrong_91 (Nat.le_of_ble_eq_true rfl) (am_c1i _) ?_
        refine am_goto (tgt := 32) dX3_partOfWrong_94 (by decide) ?_
        first
          | (have h35' := h35
             have ih := ih (x + 1) 1 l (by omega) (by omega) (by omega) hl
             rw [show 5 * (x + 1) + 1 - 1 = 5 * x + w - 1 by omega] at ih
             exact ih)
          | (have ns := nth_step (S 92) hx (show 1 ≤ w ∧ w ≤ 5 by omega) l
             rw [if_pos (by omega), if_neg (by omega), show l - 1 = l + -1 by omega] at ns
             rw [ns]
             have ih := ih x (w + 1) (l + -1) (by omega) hx (by omega) (by omega)
             rw [show 5 * x + (w + 1) - 1 = 5 * x + w by omega] at ih
             exact ih)
          | (have ns := nth_step (S 92) hx (show 1 ≤ w ∧ w ≤ 5 by omega) l
             rw [if_neg (by omega)] at ns
             rw [ns]
             have ih := ih x (w + 1) l (by omega) hx (by omega) hl
             rw [show 5 * x + (w + 1) - 1 = 5 * x + w by omega] at ih
             exact ih)
set_option maxRecDepth 100000 in
set_option maxHeartbeats 4000000 in
theorem c_partOfWrong {sh : List mm_H} {S : mm_S} {L : mm_L} (jh : jsH sh) (hW : ∀ x : Nat, x < 150 → 0 ≤ S 92 x ∧ S 92 x < 64) {wt : Int} (hwt : 0 ≤ wt ∧ wt ≤ 2) (h2 : Rg (S 85 2)) {i : Int} (hi : Rg i) : am_E eX3_partOfWrong [.ref 85, .int (iI i), .int (iI wt)] (mm sh S L) (fun r M' => r = some (.int (iI (if 0 ≤ i ∧ i < S 85 2 then wnA (nthW (S 92) 750 i) wt else -1))) ∧ M' = mm sh S L) := by
  refine am_enter rfl rfl (Nat.le_of_ble_eq_true rfl) ?_
  refine am_iload_n rfl dX3_partOfWrong_0 ?_
  refine mm_zlt (tgt := 12) dX3_partOfWrong_1 (by decide) (by omega) (fun h1 => ?_) (fun h1 => ?_)
  · refine mm_iconst dX3_partOfWrong_12 ?_
    refine am_ireturn dX3_partOfWrong_13 rfl rfl ?_
    exact ⟨by rw [if_neg (by omega)], rfl⟩
  · refine am_iload_n rfl dX3_partOfWrong_4 ?_
    refine am_aload_n rfl dX3_partOfWrong_5 ?_
    refine mm_getI dX3_partOfWrong_6 fl_X3_19 jh.1 rfl ?_
    refine mm_jlt (tgt := 14) dX3_partOfWrong_9 (by decide) (by omega) (by omega) (fun h9 => ?_) (fun h9 => ?_)
    · refine am_iload_n rfl dX3_partOfWrong_14 ?_
      refine am_ist3 dX3_partOfWrong_15 (Nat.le_of_ble_eq_true rfl) (am_c1i _) ?_
      refine mm_iconst dX3_partOfWrong_16 ?_
      refine am_ist4 dX3_partOfWrong_17 (Nat.le_of_ble_eq_true rfl) (am_c1i _) ?_
      refine am_iload rfl dX3_partOfWrong_19 ?_
      refine am_aload_n rfl dX3_partOfWrong_21 ?_
      refine mm_getR dX3_partOfWrong_22 fl_X3_39 jh.1 rfl ?_
      refine mm_len0 dX3_partOfWrong_25 jh.2.2.2.1 ?_
      refine mm_jge (tgt := 103) dX3_partOfWrong_26 (by decide) (by omega) (by omega) (fun h26 => ?_) (fun h26 => ?_)
      · exfalso; omega
      · refine mm_iconst dX3_partOfWrong_29 ?_
        refine am_ist5 dX3_partOfWrong_30 (Nat.le_of_ble_eq_true rfl) (am_c1i _) ?_
        have key := l_pow (i := i) (L := L) jh hW hwt 1000 0 1 i (by omega) (by omega) (by omega) (by omega)
        rw [if_pos (by omega)]
        exact key
    · refine mm_iconst dX3_partOfWrong_12 ?_
      refine am_ireturn dX3_partOfWrong_13 rfl rfl ?_
      exact ⟨by rw [if_neg (by omega)], rfl⟩
set_option maxRecDepth 100000 in
set_option maxHeartbeats 4000000 in
theorem c_wrong {sh : List mm_H} {S : mm_S} {L : mm_L} (hx0 : swS sh) (jh : jsH sh) (hW : ∀ x : Nat, x < 150 → 0 ≤ S 92 x ∧ S 92 x < 64) (h2 : Rg (S 85 2)) {i wt : Int} (hi : Rg i) (hw : Rg wt) : am_E eX9_wrong [.ref 0, .int (iI i), .int (iI wt)] (mm sh S L) (fun r M' => r = some (.int (iI (if 0 ≤ wt ∧ wt ≤ 2 then (if 0 ≤ i ∧ i < S 85 2 then wnA (nthW (S 92) 750 i) wt else -1) else -2))) ∧ M' = mm sh S L) := by
  refine am_enter rfl rfl (Nat.le_of_ble_eq_true rfl) ?_
  refine am_iload_n rfl dX9_wrong_0 ?_
  refine mm_zlt (tgt := 9) dX9_wrong_1 (by decide) (by omega) (fun h1 => ?_) (fun h1 => ?_)
  · refine mm_bipush dX9_wrong_9 (by decide) ?_
    refine am_ireturn dX9_wrong_11 rfl rfl ?_
    exact ⟨by rw [if_neg (by omega)], rfl⟩
  · refine am_iload_n rfl dX9_wrong_4 ?_
    refine mm_iconst dX9_wrong_5 ?_
    refine mm_jle (tgt := 12) dX9_wrong_6 (by decide) (by omega) (by omega) (fun h6 => ?_) (fun h6 => ?_)
    · refine am_aload_n rfl dX9_wrong_12 ?_
      refine mm_getR dX9_wrong_13 fl_X9_26 hx0 rfl ?_
      refine am_iload_n rfl dX9_wrong_16 ?_
      refine am_iload_n rfl dX9_wrong_17 ?_
      refine am_ci (mm_V2 dX9_wrong_18 in_X3_partOfWrong mk_X9_159 im_X3_partOfWrong sl_X3_partOfWrong ⟨Nat.le_of_ble_eq_true rfl, Nat.le_of_ble_eq_true rfl⟩ rfl jh.1 (Nat.le_of_ble_eq_true rfl)) (c_partOfWrong jh hW (by omega) h2 hi) ?_
      refine am_ireturn dX9_wrong_21 rfl rfl ?_
      exact ⟨by rw [if_pos (show 0 ≤ wt ∧ wt ≤ 2 by omega)], rfl⟩
    · refine mm_bipush dX9_wrong_9 (by decide) ?_
      refine am_ireturn dX9_wrong_11 rfl rfl ?_
      exact ⟨by rw [if_neg (by omega)], rfl⟩
def cntC (S : mm_S) (w : Int) : Int := if w = 0 then S 1 0 else if w = 1 then S 1 1 else if w = 2 then S 85 2 else if w = 3 then S 85 1 else if w = 4 then S 86 0 else -2
set_option maxRecDepth 100000 in
set_option maxHeartbeats 4000000 in
theorem c_count {sh : List mm_H} {S : mm_S} {L : mm_L} {p1 p2 p3 n : Nat} (hx0 : swS sh) (hb : bkS sh) (jh : jsH sh) (hpl : plS sh p1 p2 p3 n) {w : Int} (hw : Rg w) : am_E eX9_count [.ref 0, .int (iI w)] (mm sh S L) (fun r M' => r = some (.int (iI (cntC S w))) ∧ M' = mm sh S L) := by
  obtain ⟨hB1, hB2, hB3, hB4, hB5⟩ := id hb
  refine am_enter rfl rfl (Nat.le_of_ble_eq_true rfl) ?_
  refine am_iload_n rfl dX9_count_0 ?_
  rcases (show (w < 0 ∨ 4 < w) ∨ (w = 0) ∨ (w = 1) ∨ (w = 2) ∨ (w = 3) ∨ (w = 4) by omega) with h1 | h1 | h1 | h1 | h1 | h1
  · refine mm_tout (tgt := 79) dX9_count_1 (by omega) (by omega) (by decide) ?_
    refine mm_bipush dX9_count_79 (by decide) ?_
    refine am_ireturn dX9_count_81 rfl rfl ?_
    refine ⟨?_, rfl⟩
    unfold cntC
    first
      | rw [if_pos (by omega)]
      | rw [if_neg (by omega), if_pos (by omega)]
      | rw [if_neg (by omega), if_neg (by omega), if_pos (by omega)]
      | rw [if_neg (by omega), if_neg (by omega), if_neg (by omega), if_pos (by omega)]
      | rw [if_neg (by omega), if_neg (by omega), if_neg (by omega), if_neg (by omega), if_pos (by omega)]
      | rw [if_neg (by omega), if_neg (by omega), if_neg (by omega), if_neg (by omega), if_neg (by omega)]
  · refine mm_tsw (tgt := 36) (off := 35) [0] dX9_count_1 (by simp only [List.mem_cons, List.mem_nil_iff, or_false]; omega) (by decide) (by decide) ?_
    refine am_aload_n rfl dX9_count_36 ?_
    refine mm_getR dX9_count_37 fl_X9_10 hx0 rfl ?_
    refine mm_getI dX9_count_40 fl_X9_53 hB1 rfl ?_
    refine am_ireturn dX9_count_43 rfl rfl ?_
    refine ⟨?_, rfl⟩
    unfold cntC
    first
      | rw [if_pos (by omega)]
      | rw [if_neg (by omega), if_pos (by omega)]
      | rw [if_neg (by omega), if_neg (by omega), if_pos (by omega)]
      | rw [if_neg (by omega), if_neg (by omega), if_neg (by omega), if_pos (by omega)]
      | rw [if_neg (by omega), if_neg (by omega), if_neg (by omega), if_neg (by omega), if_pos (by omega)]
      | rw [if_neg (by omega), if_neg (by omega), if_neg (by omega), if_neg (by omega), if_neg (by omega)]
  · refine mm_tsw (tgt := 44) (off := 43) [1] dX9_count_1 (by simp only [List.mem_cons, List.mem_nil_iff, or_false]; omega) (by decide) (by decide) ?_
    refine am_aload_n rfl dX9_count_44 ?_
    refine mm_getR dX9_count_45 fl_X9_10 hx0 rfl ?_
    refine mm_getI dX9_count_48 fl_X9_101 hB1 rfl ?_
    refine am_ireturn dX9_count_51 rfl rfl ?_
    refine ⟨?_, rfl⟩
    unfold cntC
    first
      | rw [if_pos (by omega)]
      | rw [if_neg (by omega), if_pos (by omega)]
      | rw [if_neg (by omega), if_neg (by omega), if_pos (by omega)]
      | rw [if_neg (by omega), if_neg (by omega), if_neg (by omega), if_pos (by omega)]
      | rw [if_neg (by omega), if_neg (by omega), if_neg (by omega), if_neg (by omega), if_pos (by omega)]
      | rw [if_neg (by omega), if_neg (by omega), if_neg (by omega), if_neg (by omega), if_neg (by omega)]
  · refine mm_tsw (tgt := 52) (off := 51) [2] dX9_count_1 (by simp only [List.mem_cons, List.mem_nil_iff, or_false]; omega) (by decide) (by decide) ?_
    refine am_aload_n rfl dX9_count_52 ?_
    refine mm_getR dX9_count_53 fl_X9_26 hx0 rfl ?_
    refine mm_getI dX9_count_56 fl_X9_156 jh.1 rfl ?_
    refine am_ireturn dX9_count_59 rfl rfl ?_
    refine ⟨?_, rfl⟩
    unfold cntC
    first
      | rw [if_pos (by omega)]
      | rw [if_neg (by omega), if_pos (by omega)]
      | rw [if_neg (by omega), if_neg (by omega), if_pos (by omega)]
      | rw [if_neg (by omega), if_neg (by omega), if_neg (by omega), if_pos (by omega)]
      | rw [if_neg (by omega), if_neg (by omega), if_neg (by omega), if_neg (by omega), if_pos (by omega)]
      | rw [if_neg (by omega), if_neg (by omega), if_neg (by omega), if_neg (by omega), if_neg (by omega)]
  · refine mm_tsw (tgt := 60) (off := 59) [3] dX9_count_1 (by simp only [List.mem_cons, List.mem_nil_iff, or_false]; omega) (by decide) (by decide) ?_
    refine am_aload_n rfl dX9_count_60 ?_
    refine mm_getR dX9_count_61 fl_X9_26 hx0 rfl ?_
    refine mm_getI dX9_count_64 fl_X9_183 jh.1 rfl ?_
    refine am_ireturn dX9_count_67 rfl rfl ?_
    refine ⟨?_, rfl⟩
    unfold cntC
    first
      | rw [if_pos (by omega)]
      | rw [if_neg (by omega), if_pos (by omega)]
      | rw [if_neg (by omega), if_neg (by omega), if_pos (by omega)]
      | rw [if_neg (by omega), if_neg (by omega), if_neg (by omega), if_pos (by omega)]
      | rw [if_neg (by omega), if_neg (by omega), if_neg (by omega), if_neg (by omega), if_pos (by omega)]
      | rw [if_neg (by omega), if_neg (by omega), if_neg (by omega), if_neg (by omega), if_neg (by omega)]
  · refine mm_tsw (tgt := 68) (off := 67) [4] dX9_count_1 (by simp only [List.mem_cons, List.mem_nil_iff, or_false]; omega) (by decide) (by decide) ?_
    refine am_aload_n rfl dX9_count_68 ?_
    refine mm_getR dX9_count_69 fl_X9_26 hx0 rfl ?_
    refine mm_getR dX9_count_72 fl_X9_186 jh.1 rfl ?_
    refine mm_getI dX9_count_75 fl_X9_190 hpl.1 rfl ?_
    refine am_ireturn dX9_count_78 rfl rfl ?_
    refine ⟨?_, rfl⟩
    unfold cntC
    first
      | rw [if_pos (by omega)]
      | rw [if_neg (by omega), if_pos (by omega)]
      | rw [if_neg (by omega), if_neg (by omega), if_pos (by omega)]
      | rw [if_neg (by omega), if_neg (by omega), if_neg (by omega), if_pos (by omega)]
      | rw [if_neg (by omega), if_neg (by omega), if_neg (by omega), if_neg (by omega), if_pos (by omega)]
      | rw [if_neg (by omega), if_neg (by omega), if_neg (by omega), if_neg (by omega), if_neg (by omega)]
set_option maxRecDepth 100000 in
set_option maxHeartbeats 4000000 in
theorem c_judge {sh : List mm_H} {S : mm_S} {L : mm_L} {p1 p2 p3 n : Nat} (hx0 : swS sh) (hb : bkS sh) (hv : bkV S) (hR : rtA S) (jh : jsH sh) (hpl : plS sh p1 p2 p3 n) (hD : plD p1 p2 p3 n) (h01 : S 85 0 = 0 ∨ S 85 0 = 1) (hs : scV S 94) (hcB : cWhole S → cbB S) : am_E eX9_judge [.ref 0] (mm sh S L) (fun r0 M' => ∃ v, r0 = some (.int (iI v)) ∧ ∃ sh' S' L' q1 q2 q3 m, M' = mm sh' S' L' ∧ ((¬ cWhole S ∧ v = -3 ∧ sh' = sh ∧ S' = S ∧ L' = L) ∨ (cWhole S ∧ fdC sh S L n (lfX S) (lfF S) (lfW S) sh' S' L' q1 q2 q3 m ∧ v = if S' 85 0 = 1 then -5 else if S' 85 2 = 0 then 1 else 0))) := by
  obtain ⟨hB1, hB2, hB3, hB4, hB5⟩ := id hb
  refine am_enter rfl rfl (Nat.le_of_ble_eq_true rfl) ?_
  refine am_aload_n rfl dX9_judge_0 ?_
  refine mm_getR dX9_judge_1 fl_X9_10 hx0 rfl ?_
  refine am_cxi (mm_V0 dX9_judge_4 in_X0_isWhole mk_X9_145 im_X0_isWhole sl_X0_isWhole ⟨Nat.le_of_ble_eq_true rfl, Nat.le_of_ble_eq_true rfl⟩ rfl hB1 (Nat.le_of_ble_eq_true rfl)) (c_isWhole hb hv hR) (fun aw M1 hq => ?_)
  obtain ⟨av, rfl, hte, rfl⟩ := hq
  have hav := tells_01 hte
  refine mm_zne (tgt := 13) dX9_judge_7 (by decide) (by omega) (fun h7 => ?_) (fun h7 => ?_)
  · have hwh := tells_t hte (by omega)
    refine am_aload_n rfl dX9_judge_13 ?_
    refine mm_getR dX9_judge_14 fl_X9_26 hx0 rfl ?_
    refine am_aload_n rfl dX9_judge_17 ?_
    refine mm_getR dX9_judge_18 fl_X9_10 hx0 rfl ?_
    refine am_cxv (mm_V1 dX9_judge_21 in_X3_findAll mk_X9_149 im_X3_findAll sl_X3_findAll ⟨Nat.le_of_ble_eq_true rfl, Nat.le_of_ble_eq_true rfl⟩ rfl jh.1 (Nat.le_of_ble_eq_true rfl)) (c_findAll (X := lfX S) (F := lfF S) (W := lfW S) jh hb (hcB hwh) (cls_lf S) hpl hD h01 hs) (fun M1 hq => ?_)
    obtain ⟨sh2, S2, L2, q1, q2, q3, m, rfl, hfd⟩ := hq
    have hx2 : swS sh2 := by unfold swS at *; rw [hfd.1.1.2 0 (by have := jh.2.2.2.2.2.2.2; omega) (by omega)]; exact hx0
    have jh2 := jsH_of hfd.1.1 jh
    have h012 := hfd.2.2.1.2.2.2.2.2.2.1
    have hwc : S2 85 2 = wO (S2 92) 150 := hfd.2.2.1.2.2.2.2.1.2
    have hwr := wO_R (S2 92) 150
    refine am_aload_n rfl dX9_judge_24 ?_
    refine mm_getR dX9_judge_25 fl_X9_26 hx2 rfl ?_
    refine mm_getI dX9_judge_28 fl_X9_153 jh2.1 rfl ?_
    refine mm_zeq (tgt := 37) dX9_judge_31 (by decide) (by omega) (fun h31 => ?_) (fun h31 => ?_)
    · refine am_aload_n rfl dX9_judge_37 ?_
      refine mm_getR dX9_judge_38 fl_X9_26 hx2 rfl ?_
      refine mm_getI dX9_judge_41 fl_X9_156 jh2.1 rfl ?_
      refine mm_zne (tgt := 51) dX9_judge_44 (by decide) (by omega) (fun h44 => ?_) (fun h44 => ?_)
      · refine mm_iconst dX9_judge_51 ?_
        refine am_ireturn dX9_judge_52 rfl rfl ?_
        first
          | exact ⟨1, rfl, sh2, S2, L2, q1, q2, q3, m, rfl, Or.inr ⟨hwh, hfd, by rw [if_neg (by omega), if_pos (by omega)]⟩⟩
          | exact ⟨0, rfl, sh2, S2, L2, q1, q2, q3, m, rfl, Or.inr ⟨hwh, hfd, by rw [if_neg (by omega), if_neg (by omega)]⟩⟩
      · refine mm_iconst dX9_judge_47 ?_
        refine am_goto (tgt := 52) dX9_judge_48 (by decide) ?_
        refine am_ireturn dX9_judge_52 rfl rfl ?_
        first
          | exact ⟨1, rfl, sh2, S2, L2, q1, q2, q3, m, rfl, Or.inr ⟨hwh, hfd, by rw [if_neg (by omega), if_pos (by omega)]⟩⟩
          | exact ⟨0, rfl, sh2, S2, L2, q1, q2, q3, m, rfl, Or.inr ⟨hwh, hfd, by rw [if_neg (by omega), if_neg (by omega)]⟩⟩
    · refine mm_bipush dX9_judge_34 (by decide) ?_
      refine am_ireturn dX9_judge_36 rfl rfl ?_
      exact ⟨-5, rfl, sh2, S2, L2, q1, q2, q3, m, rfl, Or.inr ⟨hwh, hfd, by rw [if_pos (by omega)]⟩⟩
  · refine mm_bipush dX9_judge_10 (by decide) ?_
    refine am_ireturn dX9_judge_12 rfl rfl ?_
    exact ⟨-3, rfl, sh, S, L, p1, p2, p3, n, rfl, Or.inl ⟨tells_f hte (by omega), rfl, rfl, rfl, rfl⟩⟩
