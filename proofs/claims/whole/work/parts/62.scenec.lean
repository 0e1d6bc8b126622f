/-- the lowest free slot -/
def frF (nm : Nat → Int) : Nat → Int → Int
  | 0, _ => 0
  | n + 1, j => if ∀ v : Nat, v < 5 → nm v ≠ j then j else frF nm n (j + 1)
abbrev frSl (nm : Nat → Int) : Int := frF nm 5 0
theorem frF_R (nm : Nat → Int) : ∀ (n : Nat) (j : Int), 0 ≤ j → j + n ≤ 5 → 0 ≤ frF nm n j ∧ frF nm n j < 5
  | 0, j, _, _ => by simp [frF]
  | n + 1, j, h1, h2 => by
    simp only [frF]
    split
    · omega
    · exact frF_R nm n (j + 1) (by omega) (by omega)
set_option maxRecDepth 100000 in
set_option maxHeartbeats 4000000 in
theorem l_frI {sh : List mm_H} {S : mm_S} {L : mm_L} {a : Nat} (hc : scS sh a) (hs : ∀ v : Nat, v < 5 → -1 ≤ S (a + 1) v ∧ S (a + 1) v ≤ 5) {j : Nat} (hj : j < 5) {Q : Option Value → am_M → Prop} (hqq : ∀ y, tells y (∀ v : Nat, v < 5 → S (a + 1) v ≠ j) → am_AW eX8_freeSlot (mm sh S L) 42 [some (.ref a), some (.int (iI (j : Int))), some (.int (iI y)), some (.int (iI ((5 : Nat) : Int)))] [] Q) : ∀ (q : Nat) (v : Nat) (x : Int), 5 - v < q → (v ≤ 5) → (tells x (∀ u : Nat, u < v → S (a + 1) u ≠ j)) → am_AW eX8_freeSlot (mm sh S L) 11 [some (.ref a), some (.int (iI (j : Int))), some (.int (iI x)), some (.int (iI (v : Int)))] [] Q := by
  intro q
  induction q with
  | zero =>
    intro v x hq
    exact absurd hq (Nat.not_lt_zero _)
  | succ q ih =>
    intro v x hq hv ht
    obtain ⟨hc0, hc1, hc2, hc3⟩ := id hc
    refine am_iload_n rfl dX8_freeSlot_11 ?_
    refine mm_iconst dX8_freeSlot_12 ?_
    refine mm_jge (tgt := 42) dX8_freeSlot_13 (by decide) (by omega) (by omega) (fun h13 => ?_) (fun h13 => ?_)
    · have h5 : v = 5 := by omega
      subst h5
      exact hqq x ht
    · refine am_iload_n rfl dX8_freeSlot_16 ?_
      have hx01 := tells_01 ht
      refine mm_zeq (tgt := 34) dX8_freeSlot_17 (by decide) (by omega) (fun h17 => ?_) (fun h17 => ?_)
      · refine mm_iconst dX8_freeSlot_34 ?_
        refine am_ist2 dX8_freeSlot_35 (Nat.le_of_ble_eq_true rfl) (am_c1i _) ?_
        refine mm_inc3 dX8_freeSlot_36 (Nat.le_of_ble_eq_true rfl) (am_c1i _) ?_
        refine am_goto (tgt := 11) dX8_freeSlot_39 (by decide) ?_
        refine ih (v + 1) _ (by omega) (by omega) ?_
        first
          | exact Or.inl ⟨rfl, all_s.mpr ⟨tells_t ht (by omega), by omega⟩⟩
          | exact Or.inr ⟨rfl, fun z => (all_s.mp z).2 (by omega)⟩
          | exact Or.inr ⟨rfl, fun z => tells_f ht (by omega) (all_s.mp z).1⟩
      · refine am_aload_n rfl dX8_freeSlot_20 ?_
        refine mm_getR dX8_freeSlot_21 fl_X8_21 hc0 rfl ?_
        refine am_iload_n rfl dX8_freeSlot_24 ?_
        refine mm_ial dX8_freeSlot_25 hc1 (by omega) ?_
        rw [Int.toNat_natCast]
        refine am_iload_n rfl dX8_freeSlot_26 ?_
        have g1 := hs v (by omega)
        refine mm_jeq (tgt := 34) dX8_freeSlot_27 (by decide) (by omega) (by omega) (fun h27 => ?_) (fun h27 => ?_)
        · refine mm_iconst dX8_freeSlot_34 ?_
          refine am_ist2 dX8_freeSlot_35 (Nat.le_of_ble_eq_true rfl) (am_c1i _) ?_
          refine mm_inc3 dX8_freeSlot_36 (Nat.le_of_ble_eq_true rfl) (am_c1i _) ?_
          refine am_goto (tgt := 11) dX8_freeSlot_39 (by decide) ?_
          refine ih (v + 1) _ (by omega) (by omega) ?_
          first
            | exact Or.inl ⟨rfl, all_s.mpr ⟨tells_t ht (by omega), by omega⟩⟩
            | exact Or.inr ⟨rfl, fun z => (all_s.mp z).2 (by omega)⟩
            | exact Or.inr ⟨rfl, fun z => tells_f ht (by omega) (all_s.mp z).1⟩
        · refine mm_iconst dX8_freeSlot_30 ?_
          refine am_goto (tgt := 35) dX8_freeSlot_31 (by decide) ?_
          refine am_ist2 dX8_freeSlot_35 (Nat.le_of_ble_eq_true rfl) (am_c1i _) ?_
          refine mm_inc3 dX8_freeSlot_36 (Nat.le_of_ble_eq_true rfl) (am_c1i _) ?_
          refine am_goto (tgt := 11) dX8_freeSlot_39 (by decide) ?_
          refine ih (v + 1) _ (by omega) (by omega) ?_
          first
            | exact Or.inl ⟨rfl, all_s.mpr ⟨tells_t ht (by omega), by omega⟩⟩
            | exact Or.inr ⟨rfl, fun z => (all_s.mp z).2 (by omega)⟩
            | exact Or.inr ⟨rfl, fun z => tells_f ht (by omega) (all_s.mp z).1⟩
set_option maxRecDepth 100000 in
set_option maxHeartbeats 4000000 in
theorem l_frO {sh : List mm_H} {S : mm_S} {L : mm_L} {a : Nat} (hc : scS sh a) (hs : ∀ v : Nat, v < 5 → -1 ≤ S (a + 1) v ∧ S (a + 1) v ≤ 5) : ∀ (q : Nat) (j : Nat), 5 - j < q → (j ≤ 5) → am_AW eX8_freeSlot (mm sh S L) 2 [some (.ref a), some (.int (iI (j : Int))), none, none] [] (fun r M' => r = some (.int (iI (frF (S (a + 1)) (5 - j) j))) ∧ M' = mm sh S L) := by
  intro q
  induction q with
  | zero =>
    intro j hq
    exact absurd hq (Nat.not_lt_zero _)
  | succ q ih =>
    intro j hq hj
    obtain ⟨hc0, hc1, hc2, hc3⟩ := id hc
    refine am_iload_n rfl dX8_freeSlot_2 ?_
    refine mm_iconst dX8_freeSlot_3 ?_
    refine mm_jge (tgt := 54) dX8_freeSlot_4 (by decide) (by omega) (by omega) (fun h4 => ?_) (fun h4 => ?_)
    · have h5 : j = 5 := by omega
      subst h5
      refine mm_iconst dX8_freeSlot_54 ?_
      exact am_ireturn dX8_freeSlot_55 rfl rfl ⟨rfl, rfl⟩
    · refine mm_iconst dX8_freeSlot_7 ?_
      refine am_ist2 dX8_freeSlot_8 (Nat.le_of_ble_eq_true rfl) (am_c1i _) ?_
      refine mm_iconst dX8_freeSlot_9 ?_
      refine am_ist3 dX8_freeSlot_10 (Nat.le_of_ble_eq_true rfl) (am_c1i _) ?_
      obtain ⟨n, hn⟩ : ∃ n, 5 - j = n + 1 := ⟨4 - j, by omega⟩
      refine l_frI hc hs (show j < 5 by omega) (fun y hy => ?_) 6 0 1 (by omega) (by omega) (Or.inl ⟨rfl, fun u hu => absurd hu (Nat.not_lt_zero u)⟩)
      have hx01 := tells_01 hy
      refine am_iload_n rfl dX8_freeSlot_42 ?_
      refine mm_zeq (tgt := 48) dX8_freeSlot_43 (by decide) (by omega) (fun h43 => ?_) (fun h43 => ?_)
      · refine mm_inc1 dX8_freeSlot_48 (Nat.le_of_ble_eq_true rfl) (am_c1r _) ?_
        refine am_goto (tgt := 2) dX8_freeSlot_51 (by decide) ?_
        refine am_AW.unset 2 (am_AW.unset 3 ?_)
        have h9 := ih (j + 1) (by omega) (by omega)
        rw [hn, frF, if_neg (tells_f hy h43)]
        rw [show 5 - (j + 1) = n by omega] at h9
        exact h9
      · refine am_iload_n rfl dX8_freeSlot_46 ?_
        refine am_ireturn dX8_freeSlot_47 rfl rfl ?_
        rw [hn, frF, if_pos (tells_t hy h43)]
        exact ⟨rfl, rfl⟩
set_option maxRecDepth 100000 in
set_option maxHeartbeats 4000000 in
theorem c_freeSlot {sh : List mm_H} {S : mm_S} {L : mm_L} {a : Nat} (hc : scS sh a) (hs : ∀ v : Nat, v < 5 → -1 ≤ S (a + 1) v ∧ S (a + 1) v ≤ 5) : am_E eX8_freeSlot [.ref a] (mm sh S L) (fun r M' => r = some (.int (iI (frSl (S (a + 1))))) ∧ M' = mm sh S L) := by
  refine am_enter rfl rfl (Nat.le_of_ble_eq_true rfl) ?_
  refine mm_iconst dX8_freeSlot_0 ?_
  refine am_ist1 dX8_freeSlot_1 (Nat.le_of_ble_eq_true rfl) (am_c1r _) ?_
  exact l_frO hc hs 6 0 (by omega) (by omega)
def mkS (S : mm_S) (a : Nat) (v k : Int) : mm_S := up2 (up2 (up2 (up2 S (a + 1) v.toNat (-1)) (a + 1) v.toNat (frSl (up2 S (a + 1) v.toNat (-1) (a + 1)))) (a + 2) (frSl (up2 S (a + 1) v.toNat (-1) (a + 1))).toNat k) (a + 3) (frSl (up2 S (a + 1) v.toNat (-1) (a + 1))).toNat 0
def usS (S : mm_S) (a : Nat) (v n : Int) (y : Prop) [Decidable y] : mm_S := up2 S (a + 3) (S (a + 1) v.toNat).toNat (kdF S (4 + 3 * (S (a + 2) (S (a + 1) v.toNat).toNat).toNat) (S (a + 3) (S (a + 1) v.toNat).toNat) n y)
def mdT (S : mm_S) (a ro : Nat) : Int := if S (ro + 6) (S a 1).toNat = -1 then 0 else S a 2 / 2 ^ (2 * S (ro + 6) (S a 1).toNat).toNat % 4
set_option maxRecDepth 100000 in
set_option maxHeartbeats 4000000 in
theorem c_makeThing {sh : List mm_H} {S : mm_S} {L : mm_L} {a : Nat} (hc : scS sh a) (hs : ∀ v : Nat, v < 5 → -1 ≤ S (a + 1) v ∧ S (a + 1) v ≤ 5) {v : Int} (hv : 0 ≤ v ∧ v < 5) {k : Int} : am_E eX8_makeThing [.ref a, .int (iI v), .int (iI k)] (mm sh S L) (fun r M' => r = none ∧ M' = mm sh (mkS S a v k) L) := by
  obtain ⟨hc0, hc1, hc2, hc3⟩ := id hc
  refine am_enter rfl rfl (Nat.le_of_ble_eq_true rfl) ?_
  refine am_aload_n rfl dX8_makeThing_0 ?_
  refine mm_getR dX8_makeThing_1 fl_X8_21 hc0 rfl ?_
  refine am_iload_n rfl dX8_makeThing_4 ?_
  refine mm_iconst dX8_makeThing_5 ?_
  refine mm_ias dX8_makeThing_6 hc1 (by omega) ?_
  refine am_aload_n rfl dX8_makeThing_7 ?_
  refine am_ci (mm_V0 dX8_makeThing_8 in_X8_freeSlot mk_X8_129 im_X8_freeSlot sl_X8_freeSlot ⟨Nat.le_of_ble_eq_true rfl, Nat.le_of_ble_eq_true rfl⟩ rfl hc0 (Nat.le_of_ble_eq_true rfl)) (c_freeSlot hc (fun u hu => by by_cases hq : u = v.toNat <;> simp [up2, hq] <;> first | omega | exact hs u hu)) ?_
  have g1 : 0 ≤ frSl (up2 S (a + 1) v.toNat (-1) (a + 1)) ∧ frSl (up2 S (a + 1) v.toNat (-1) (a + 1)) < 5 := frF_R (up2 S (a + 1) v.toNat (-1) (a + 1)) 5 0 (by omega) (by omega)
  refine am_ist3 dX8_makeThing_11 (Nat.le_of_ble_eq_true rfl) (am_c1i _) ?_
  refine am_aload_n rfl dX8_makeThing_12 ?_
  refine mm_getR dX8_makeThing_13 fl_X8_21 hc0 rfl ?_
  refine am_iload_n rfl dX8_makeThing_16 ?_
  refine am_iload_n rfl dX8_makeThing_17 ?_
  refine mm_ias dX8_makeThing_18 hc1 (by omega) ?_
  refine am_aload_n rfl dX8_makeThing_19 ?_
  refine mm_getR dX8_makeThing_20 fl_X8_25 hc0 rfl ?_
  refine am_iload_n rfl dX8_makeThing_23 ?_
  refine am_iload_n rfl dX8_makeThing_24 ?_
  refine mm_ias dX8_makeThing_25 hc2 (by omega) ?_
  refine am_aload_n rfl dX8_makeThing_26 ?_
  refine mm_getR dX8_makeThing_27 fl_X8_28 hc0 rfl ?_
  refine am_iload_n rfl dX8_makeThing_30 ?_
  refine mm_iconst dX8_makeThing_31 ?_
  refine mm_ias dX8_makeThing_32 hc3 (by omega) ?_
  refine am_return dX8_makeThing_33 rfl ?_
  exact ⟨rfl, rfl⟩
set_option maxRecDepth 100000 in
set_option maxHeartbeats 4000000 in
theorem c_useThing {sh : List mm_H} {S : mm_S} {L : mm_L} {a : Nat} (hc : scS sh a) (hV : scV S a) (hK : scK S a) (hb : bkS sh) (hbv : bkV S) {v : Int} (hv : 0 ≤ v ∧ v < 5) (hn1 : S (a + 1) v.toNat ≠ -1) {n : Int} (hn : Rg n) {y : Prop} [Decidable y] : am_E eX8_useThing [.ref a, .ref 1, .int (iI v), .int (iI n), .int (iI (b2 y))] (mm sh S L) (fun r M' => r = none ∧ M' = mm sh (usS S a v n y) L) := by
  obtain ⟨hc0, hc1, hc2, hc3⟩ := id hc
  obtain ⟨v0, v1, v2, v3, v4⟩ := id hV
  obtain ⟨hB1, hB2, hB3, hB4, hB5⟩ := id hb
  obtain ⟨w0, w1, w2, w3⟩ := id hbv
  have g1 := v3 v.toNat (by omega)
  refine am_enter rfl rfl (Nat.le_of_ble_eq_true rfl) ?_
  refine am_aload_n rfl dX8_useThing_0 ?_
  refine mm_getR dX8_useThing_1 fl_X8_21 hc0 rfl ?_
  refine am_iload_n rfl dX8_useThing_4 ?_
  refine mm_ial dX8_useThing_5 hc1 (by omega) ?_
  refine am_ist5 dX8_useThing_6 (Nat.le_of_ble_eq_true rfl) (am_c1i _) ?_
  refine am_iload rfl dX8_useThing_8 ?_
  refine mm_iconst dX8_useThing_10 ?_
  refine mm_jne (tgt := 15) dX8_useThing_11 (by decide) (by omega) (by omega) (fun h11 => ?_) (fun h11 => ?_)
  · have g2 := v4 (S (a + 1) v.toNat).toNat (by omega)
    have g5 := hK v.toNat (by omega) hn1
    have g6 := w2 (S (a + 2) (S (a + 1) v.toNat).toNat).toNat (by omega)
    refine am_aload_n rfl dX8_useThing_15 ?_
    refine mm_getR dX8_useThing_16 fl_X8_28 hc0 rfl ?_
    refine am_iload rfl dX8_useThing_19 ?_
    refine am_aload_n rfl dX8_useThing_21 ?_
    refine mm_getR dX8_useThing_22 fl_X8_85 hB1 rfl ?_
    refine am_aload_n rfl dX8_useThing_25 ?_
    refine mm_getR dX8_useThing_26 fl_X8_25 hc0 rfl ?_
    refine am_iload rfl dX8_useThing_29 ?_
    refine mm_ial dX8_useThing_31 hc2 (by omega) ?_
    refine mm_aal dX8_useThing_32 (fun _ => rfl) hB2 ⟨by omega, by omega, by omega⟩ (kArr_at (by omega)) ?_
    refine am_aload_n rfl dX8_useThing_33 ?_
    refine mm_getR dX8_useThing_34 fl_X8_28 hc0 rfl ?_
    refine am_iload rfl dX8_useThing_37 ?_
    refine mm_ial dX8_useThing_39 hc3 (by omega) ?_
    refine am_iload_n rfl dX8_useThing_40 ?_
    refine am_iload rfl dX8_useThing_41 ?_
    refine am_ci (mm_V3 dX8_useThing_43 in_X4_after mk_X8_133 im_X4_after sl_X4_after ⟨Nat.le_of_ble_eq_true rfl, Nat.le_of_ble_eq_true rfl⟩ rfl (hB4 (S (a + 2) (S (a + 1) v.toNat).toNat).toNat (by omega)).1 (Nat.le_of_ble_eq_true rfl)) (c_after (hB4 (S (a + 2) (S (a + 1) v.toNat).toNat).toNat (by omega)) g6 (by omega) hn) ?_
    refine mm_ias dX8_useThing_46 hc3 (by omega) ?_
    refine am_return dX8_useThing_47 rfl ?_
    exact ⟨rfl, rfl⟩
  · exact absurd (by assumption) hn1
set_option maxRecDepth 100000 in
set_option maxHeartbeats 4000000 in
theorem c_modeOfTry {sh : List mm_H} {S : mm_S} {L : mm_L} {a ro : Nat} (hc : scS sh a) (hr : rtS sh ro) (hp : 0 ≤ S a 1 ∧ S a 1 < S ro 0) (h24 : S ro 0 ≤ 24) (hmm : 0 ≤ S a 2 ∧ S a 2 < 4096) (hT : rtT S ro) : am_E eX8_modeOfTry [.ref a, .ref ro] (mm sh S L) (fun r M' => r = some (.int (iI (mdT S a ro))) ∧ M' = mm sh S L) := by
  obtain ⟨hc0, hc1, hc2, hc3⟩ := id hc
  obtain ⟨hr0, hr1, hr2, hr3, hr4, hr5, hr6, hr7, hr8, hr9⟩ := id hr
  have t1 := hT.1 (S a 1).toNat (by omega)
  refine am_enter rfl rfl (Nat.le_of_ble_eq_true rfl) ?_
  refine am_aload_n rfl dX8_modeOfTry_0 ?_
  refine mm_getR dX8_modeOfTry_1 fl_X8_137 hr0 rfl ?_
  refine am_aload_n rfl dX8_modeOfTry_4 ?_
  refine mm_getI dX8_modeOfTry_5 fl_X8_15 hc0 rfl ?_
  refine mm_ial dX8_modeOfTry_8 hr6 (by omega) ?_
  refine am_ist2 dX8_modeOfTry_9 (Nat.le_of_ble_eq_true rfl) (am_c1r _) ?_
  refine am_iload_n rfl dX8_modeOfTry_10 ?_
  refine mm_iconst dX8_modeOfTry_11 ?_
  refine mm_jne (tgt := 19) dX8_modeOfTry_12 (by decide) (by omega) (by omega) (fun h12 => ?_) (fun h12 => ?_)
  · refine am_aload_n rfl dX8_modeOfTry_19 ?_
    refine mm_getI dX8_modeOfTry_20 fl_X8_18 hc0 rfl ?_
    refine mm_iconst dX8_modeOfTry_23 ?_
    refine am_iload_n rfl dX8_modeOfTry_24 ?_
    refine mm_imul dX8_modeOfTry_25 ?_
    refine mm_ishr dX8_modeOfTry_26 (by omega) (by omega) ?_
    refine mm_iconst dX8_modeOfTry_27 ?_
    refine mm_iandm 2 dX8_modeOfTry_28 (by decide) (by decide) (div_pow_R (by omega)) ?_
    refine am_ireturn dX8_modeOfTry_29 rfl rfl ?_
    first
      | (refine ⟨?_, rfl⟩; rw [mdT, if_pos (by omega)])
      | (refine ⟨?_, rfl⟩; rw [mdT, if_neg (by omega)]; rfl)
  · refine mm_iconst dX8_modeOfTry_15 ?_
    refine am_goto (tgt := 29) dX8_modeOfTry_16 (by decide) ?_
    refine am_ireturn dX8_modeOfTry_29 rfl rfl ?_
    first
      | (refine ⟨?_, rfl⟩; rw [mdT, if_pos (by omega)])
      | (refine ⟨?_, rfl⟩; rw [mdT, if_neg (by omega)]; rfl)
theorem mdT_R {S : mm_S} {a ro : Nat} : 0 ≤ mdT S a ro ∧ mdT S a ro ≤ 3 := by
  unfold mdT
  split
  · omega
  · have := Int.emod_nonneg (S a 2 / 2 ^ (2 * S (ro + 6) (S a 1).toNat).toNat) (show (4 : Int) ≠ 0 by decide)
    have := Int.emod_lt_of_pos (S a 2 / 2 ^ (2 * S (ro + 6) (S a 1).toNat).toNat) (show (0 : Int) < 4 by decide)
    omega
/-- the call is over -/
def cbS (S : mm_S) (a ro : Nat) (q : Int) : mm_S := if S (a + 1) (S (ro + 3) (S a 1).toNat).toNat = -1 then S else up2 S (a + 3) (S (a + 1) (S (ro + 3) (S a 1).toNat).toNat).toNat (if S (ro + 1) (S a 1).toNat = 11 then 6 else q)
def cbP (S : mm_S) (a ro : Nat) (f : Prop) [Decidable f] (q : Int) : Int × mm_S := if f then goP (cbS S a ro q) a ro 2 else (1, cmT (cbS S a ro q) a ro (S a 1 + 1))
def gnP (S : mm_S) (a ro : Nat) (y : Prop) [Decidable y] : Int × mm_S :=
  if S (ro + 1) (S a 1).toNat = 0 then (1, cmT (mkS S a (S (ro + 2) (S a 1).toNat) (S (ro + 3) (S a 1).toNat)) a ro (S a 1 + 1))
  else if S (ro + 1) (S a 1).toNat = 1 ∨ S (ro + 1) (S a 1).toNat = 2 ∨ S (ro + 1) (S a 1).toNat = 5 then (1, cmT (usS S a (S (ro + 2) (S a 1).toNat) (S (ro + 3) (S a 1).toNat) y) a ro (if S (ro + 1) (S a 1).toNat ≠ 1 ∧ ¬ y then S (ro + 4) (S a 1).toNat else S a 1 + 1))
  else if S (ro + 1) (S a 1).toNat = 3 ∨ S (ro + 1) (S a 1).toNat = 4 then (1, cmT S a ro (if ¬ y then S (ro + 4) (S a 1).toNat else S a 1 + 1))
  else if S (ro + 1) (S a 1).toNat = 6 then (1, cmT S a ro (S (ro + 4) (S a 1).toNat))
  else if S (ro + 1) (S a 1).toNat = 7 then (if mdT S a ro ≠ 0 then goP S a ro (mdT S a ro) else (1, cmT S a ro (S (ro + 4) (S a 1).toNat)))
  else if S (ro + 1) (S a 1).toNat = 8 then (1, cmT (up2 S (a + 1) (S (ro + 2) (S a 1).toNat).toNat (S (a + 1) (S (ro + 3) (S a 1).toNat).toNat)) a ro (S a 1 + 1))
  else if S (ro + 1) (S a 1).toNat = 9 then (1, cmT (up2 S (a + 1) (S (ro + 2) (S a 1).toNat).toNat (-1)) a ro (S a 1 + 1))
  else if S (ro + 1) (S a 1).toNat = 12 then goP S a ro 1 else if S (ro + 1) (S a 1).toNat = 13 then goP S a ro 2 else (1, cmT S a ro (S a 1 + 1))
theorem rtT_of {S S' : mm_S} {ro : Nat} (h : rtT S ro) (h0 : S' ro = S ro) (h4 : S' (ro + 4) = S (ro + 4)) (h5 : S' (ro + 5) = S (ro + 5)) (h6 : S' (ro + 6) = S (ro + 6)) (h7 : S' (ro + 7) = S (ro + 7)) : rtT S' ro := by
  unfold rtT
  rw [h0, h4, h5, h6, h7]
  exact h
theorem mkS_rd {S : mm_S} {a b j : Nat} {v k : Int} (h : b ≤ a) : mkS S a v k b j = S b j := by
  unfold mkS
  rw [up2_rd (by omega), up2_rd (by omega), up2_rd (by omega), up2_rd (by omega)]
theorem usS_rd {S : mm_S} {a b j : Nat} {v n : Int} {y : Prop} [Decidable y] (h : b ≠ a + 3) : usS S a v n y b j = S b j := by
  unfold usS
  rw [up2_rd h]
theorem cbS_rd {S : mm_S} {a ro b j : Nat} {q : Int} (h : b ≠ a + 3) : cbS S a ro q b j = S b j := by
  unfold cbS
  split
  · rfl
  · rw [up2_rd h]
theorem goP_01 {S : mm_S} {a ro : Nat} {m : Int} : (goP S a ro m).1 = 0 ∨ (goP S a ro m).1 = 1 := by
  unfold goP
  split
  · exact Or.inr rfl
  · split
    · exact Or.inl rfl
    · exact Or.inr rfl
set_option maxRecDepth 100000 in
set_option maxHeartbeats 4000000 in
theorem l_cb62 {sh : List mm_H} {S : mm_S} {L : mm_L} {a ro : Nat} {f : Prop} [Decidable f] {q z : Int} (hc : scS sh a) (hr : rtS sh ro) (ha : ro + 9 < a) (hp : 0 ≤ S a 1 ∧ S a 1 < S ro 0) (h24 : S ro 0 ≤ 24) (hmm : 0 ≤ S a 2 ∧ S a 2 < 4096) (hT : rtT S ro) : am_AW eX8_comeBack (mm sh (cbS S a ro q) L) 62 [some (.ref a), some (.ref 1), some (.int (iI (b2 f))), some (.int (iI q)), some (.ref ro), some (.int (iI z))] [] (fun r M' => r = some (.int (iI (cbP S a ro f q).1)) ∧ M' = mm sh (cbP S a ro f q).2 L) := by
  obtain ⟨hc0, hc1, hc2, hc3⟩ := id hc
  have e1 : cbS S a ro q a 1 = S a 1 := cbS_rd (by omega)
  have e2 : cbS S a ro q ro 0 = S ro 0 := cbS_rd (by omega)
  have e3 : cbS S a ro q a 2 = S a 2 := cbS_rd (by omega)
  have hT2 : rtT (cbS S a ro q) ro := rtT_of hT (funext fun j => cbS_rd (by omega)) (funext fun j => cbS_rd (by omega)) (funext fun j => cbS_rd (by omega)) (funext fun j => cbS_rd (by omega)) (funext fun j => cbS_rd (by omega))
  refine am_iload_n rfl dX8_comeBack_62 ?_
  refine mm_beq (tgt := 74) dX8_comeBack_63 (by decide) (fun h63 => ?_) (fun h63 => ?_)
  · refine am_aload_n rfl dX8_comeBack_74 ?_
    refine am_aload rfl dX8_comeBack_75 ?_
    refine am_aload_n rfl dX8_comeBack_77 ?_
    refine mm_getI dX8_comeBack_78 fl_X8_15 hc0 rfl ?_
    rw [e1]
    refine mm_iconst dX8_comeBack_81 ?_
    refine mm_iadd dX8_comeBack_82 ?_
    refine am_cv (mm_V2 dX8_comeBack_83 in_X8_comeTo mk_X8_125 im_X8_comeTo sl_X8_comeTo ⟨Nat.le_of_ble_eq_true rfl, Nat.le_of_ble_eq_true rfl⟩ rfl hc0 (Nat.le_of_ble_eq_true rfl)) (c_comeTo hc hr (by omega) (by omega) (by rw [e3]; exact hmm) (by omega) (hT2.2 _ (by rw [e2]; omega))) ?_
    refine mm_iconst dX8_comeBack_86 ?_
    refine am_ireturn dX8_comeBack_87 rfl rfl ?_
    rw [cbP, if_neg (by assumption)]
    exact ⟨rfl, rfl⟩
  · refine am_aload_n rfl dX8_comeBack_66 ?_
    refine am_aload rfl dX8_comeBack_67 ?_
    refine mm_iconst dX8_comeBack_69 ?_
    refine am_civ (mm_V2 dX8_comeBack_70 in_X8_goOut mk_X8_121 im_X8_goOut sl_X8_goOut ⟨Nat.le_of_ble_eq_true rfl, Nat.le_of_ble_eq_true rfl⟩ rfl hc0 (Nat.le_of_ble_eq_true rfl)) (c_goOut hc hr ha (by rw [e1, e2]; exact hp) (by rw [e2]; omega) (by rw [e3]; exact hmm) (by omega) hT2) ?_
    refine am_ireturn dX8_comeBack_73 rfl (by rcases goP_01 (S := cbS S a ro q) (a := a) (ro := ro) (m := 2) with h | h <;> rw [h] <;> rfl) ?_
    rw [cbP, if_pos (by assumption)]
    exact ⟨rfl, rfl⟩
set_option maxRecDepth 100000 in
set_option maxHeartbeats 4000000 in
theorem c_comeBack {sh : List mm_H} {S : mm_S} {L : mm_L} {a : Nat} (hc : scS sh a) (hV : scV S a) (hK : scK S a) (hb : bkS sh) (hbv : bkV S) {ro : Nat} (hro : ro = 22 + 10 * (S a 0).toNat) (hO : rtO S ro) (hR : rtI S ro) (hl : S a 1 < S ro 0) (hT : rtT S ro) (ha : ro + 9 < a) {f : Prop} [Decidable f] {q : Int} (hcall : S (ro + 1) (S a 1).toNat = 10 ∨ S (ro + 1) (S a 1).toNat = 11) : am_E eX8_comeBack [.ref a, .ref 1, .int (iI (b2 f)), .int (iI q)] (mm sh S L) (fun r M' => r = some (.int (iI (cbP S a ro f q).1)) ∧ M' = mm sh (cbP S a ro f q).2 L) := by
  obtain ⟨hc0, hc1, hc2, hc3⟩ := id hc
  obtain ⟨v0, v1, v2, v3, v4⟩ := id hV
  obtain ⟨hB1, hB2, hB3, hB4, hB5⟩ := id hb
  obtain ⟨w0, w1, w2, w3⟩ := id hbv
  obtain ⟨hr0, hr1, hr2, hr3, hr4, hr5, hr6, hr7, hr8, hr9⟩ := (show rtS sh ro by rw [hro]; exact hB5 (S a 0).toNat (by omega))
  have hl24 := hR.1
  have gR := hR.2.2.2.2 (S a 1).toNat
  have gO := hO (S a 1).toNat (by omega)
  have hrS : rtS sh ro := ⟨hr0, hr1, hr2, hr3, hr4, hr5, hr6, hr7, hr8, hr9⟩
  have t1 := hT.1 (S a 1).toNat (by omega)
  obtain ⟨x, hx⟩ : ∃ x, S (ro + 1) (S a 1).toNat = x := ⟨_, rfl⟩
  obtain ⟨y, hy⟩ : ∃ y, S (ro + 2) (S a 1).toNat = y := ⟨_, rfl⟩
  obtain ⟨z, hz⟩ : ∃ z, S (ro + 3) (S a 1).toNat = z := ⟨_, rfl⟩
  rw [hx, hy, hz] at gR
  rw [hx, hy, hz] at gO
  rw [hx] at hcall
  refine am_enter rfl rfl (Nat.le_of_ble_eq_true rfl) ?_
  refine am_aload_n rfl dX8_comeBack_0 ?_
  refine mm_getR dX8_comeBack_1 fl_X8_49 hB1 rfl ?_
  refine am_aload_n rfl dX8_comeBack_4 ?_
  refine mm_getI dX8_comeBack_5 fl_X8_11 hc0 rfl ?_
  refine mm_aal dX8_comeBack_8 (fun _ => rfl) hB3 ⟨by omega, by omega, by omega⟩ (show rArr _ = some ro by rw [rArr_at (by omega), hro]) ?_
  refine am_ast4 dX8_comeBack_9 (Nat.le_of_ble_eq_true rfl) (am_c1i _) ?_
  refine am_aload_n rfl dX8_comeBack_11 ?_
  refine mm_getR dX8_comeBack_12 fl_X8_21 hc0 rfl ?_
  refine am_aload rfl dX8_comeBack_15 ?_
  refine mm_getR dX8_comeBack_17 fl_X8_60 hr0 rfl ?_
  refine am_aload_n rfl dX8_comeBack_20 ?_
  refine mm_getI dX8_comeBack_21 fl_X8_15 hc0 rfl ?_
  refine mm_ial dX8_comeBack_24 hr3 (by omega) ?_
  rw [hz]
  have g9 := v3 z.toNat (by omega)
  refine mm_ial dX8_comeBack_25 hc1 (by omega) ?_
  refine am_ist5 dX8_comeBack_26 (Nat.le_of_ble_eq_true rfl) (am_c1r _) ?_
  refine am_iload rfl dX8_comeBack_28 ?_
  refine mm_iconst dX8_comeBack_30 ?_
  refine mm_jeq (tgt := 62) dX8_comeBack_31 (by decide) (by omega) (by omega) (fun h31 => ?_) (fun h31 => ?_)
  · first
      | (rw [show mm sh S L = mm sh (cbS S a ro q) L by rw [cbS, hz, if_pos (by omega)]]; exact l_cb62 hc hrS ha (by omega) (by omega) v2 hT)
      | (rw [show mm sh (up2 S (a + 3) (S (a + 1) z.toNat).toNat 6) L = mm sh (cbS S a ro q) L by rw [cbS, hz, hx, if_neg (by omega), if_pos (by omega)]]; exact l_cb62 hc hrS ha (by omega) (by omega) v2 hT)
      | (rw [show mm sh (up2 S (a + 3) (S (a + 1) z.toNat).toNat q) L = mm sh (cbS S a ro q) L by rw [cbS, hz, hx, if_neg (by omega), if_neg (by omega)]]; exact l_cb62 hc hrS ha (by omega) (by omega) v2 hT)
  · refine am_aload_n rfl dX8_comeBack_34 ?_
    refine mm_getR dX8_comeBack_35 fl_X8_28 hc0 rfl ?_
    refine am_iload rfl dX8_comeBack_38 ?_
    refine am_aload rfl dX8_comeBack_40 ?_
    refine mm_getR dX8_comeBack_42 fl_X8_63 hr0 rfl ?_
    refine am_aload_n rfl dX8_comeBack_45 ?_
    refine mm_getI dX8_comeBack_46 fl_X8_15 hc0 rfl ?_
    refine mm_ial dX8_comeBack_49 hr1 (by omega) ?_
    rw [hx]
    refine mm_bipush dX8_comeBack_50 (by decide) ?_
    refine mm_jne (tgt := 60) dX8_comeBack_52 (by decide) (by omega) (by omega) (fun h52 => ?_) (fun h52 => ?_)
    · refine am_iload_n rfl dX8_comeBack_60 ?_
      refine mm_ias dX8_comeBack_61 hc3 (by omega) ?_
      first
        | (rw [show mm sh S L = mm sh (cbS S a ro q) L by rw [cbS, hz, if_pos (by omega)]]; exact l_cb62 hc hrS ha (by omega) (by omega) v2 hT)
        | (rw [show mm sh (up2 S (a + 3) (S (a + 1) z.toNat).toNat 6) L = mm sh (cbS S a ro q) L by rw [cbS, hz, hx, if_neg (by omega), if_pos (by omega)]]; exact l_cb62 hc hrS ha (by omega) (by omega) v2 hT)
        | (rw [show mm sh (up2 S (a + 3) (S (a + 1) z.toNat).toNat q) L = mm sh (cbS S a ro q) L by rw [cbS, hz, hx, if_neg (by omega), if_neg (by omega)]]; exact l_cb62 hc hrS ha (by omega) (by omega) v2 hT)
    · refine mm_bipush dX8_comeBack_55 (by decide) ?_
      refine am_goto (tgt := 61) dX8_comeBack_57 (by decide) ?_
      refine mm_ias dX8_comeBack_61 hc3 (by omega) ?_
      first
        | (rw [show mm sh S L = mm sh (cbS S a ro q) L by rw [cbS, hz, if_pos (by omega)]]; exact l_cb62 hc hrS ha (by omega) (by omega) v2 hT)
        | (rw [show mm sh (up2 S (a + 3) (S (a + 1) z.toNat).toNat 6) L = mm sh (cbS S a ro q) L by rw [cbS, hz, hx, if_neg (by omega), if_pos (by omega)]]; exact l_cb62 hc hrS ha (by omega) (by omega) v2 hT)
        | (rw [show mm sh (up2 S (a + 3) (S (a + 1) z.toNat).toNat q) L = mm sh (cbS S a ro q) L by rw [cbS, hz, hx, if_neg (by omega), if_neg (by omega)]]; exact l_cb62 hc hrS ha (by omega) (by omega) v2 hT)
