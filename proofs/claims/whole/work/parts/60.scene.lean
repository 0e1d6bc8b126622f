/-! ===== bits of longs ===== -/
theorem iI_msk {x m : Int} (k : Nat) (hm : m = 2 ^ k - 1) (hk : k ≤ 30) : iI x &&& iI m = iI (x % 2 ^ k) := by
  have e0 : iI x = iI (x % 4294967296) := by
    apply Int32.toBitVec_inj.mp
    show BitVec.ofInt 32 x = BitVec.ofInt 32 _
    apply BitVec.eq_of_toNat_eq
    simp only [BitVec.toNat_ofInt]
    omega
  have hp : (0 : Int) < 2 ^ k := Int.pow_pos (by decide)
  have e1 : ((2 : Int) ^ k) = ((2 ^ k : Nat) : Int) := by push_cast; rfl
  have h2 := Nat.pow_le_pow_right (n := 2) (by decide) hk
  have em : m.toNat = 2 ^ k - 1 := by subst hm; rw [e1]; omega
  apply Int32.toBitVec_inj.mp
  show BitVec.ofInt 32 x &&& BitVec.ofInt 32 m = BitVec.ofInt 32 _
  have hm0 : m = ((2 ^ k - 1 : Nat) : Int) := by rw [← em]; rw [e1] at hm; omega
  apply BitVec.eq_of_toNat_eq
  rw [BitVec.toNat_and]
  simp only [BitVec.toNat_ofInt]
  have e5 : (m % (2 ^ 32 : Nat)).toNat = 2 ^ k - 1 := by rw [hm0]; omega
  rw [e5, and_mask]
  have hd : ((2 ^ k : Nat) : Int) ∣ ((2 ^ 32 : Nat) : Int) := by
    exact_mod_cast Nat.pow_dvd_pow 2 (show k ≤ 32 by omega)
  have e6 : ((x % (2 ^ 32 : Nat)) % ((2 ^ k : Nat) : Int)) = x % ((2 ^ k : Nat) : Int) := Int.emod_emod_of_dvd x hd
  have h7 : 0 ≤ x % ((2 ^ 32 : Nat) : Int) := Int.emod_nonneg _ (by decide)
  have h8 : 0 ≤ x % ((2 ^ k : Nat) : Int) := Int.emod_nonneg _ (by omega)
  have h9 : x % ((2 ^ k : Nat) : Int) < ((2 ^ k : Nat) : Int) := Int.emod_lt_of_pos _ (by omega)
  rw [e1]
  have e7 : (x % ((2 ^ 32 : Nat) : Int)).toNat % 2 ^ k = (x % ((2 ^ k : Nat) : Int)).toNat := by
    rw [← e6]
    obtain ⟨y, hy⟩ := Int.eq_ofNat_of_zero_le h7
    rw [hy, Int.toNat_natCast]
    omega
  rw [e7]
  omega
theorem lI_ushr {x y : Int} (hx : 0 ≤ x ∧ x < 9223372036854775808) (hy : 0 ≤ y ∧ y < 64) : ((lI x).toUInt64 >>> ((iI y).toInt64.toUInt64 &&& Int64.toUInt64 63)).toInt64 = lI (x / 2 ^ y.toNat) := by
  have key : ∀ j : Fin 64, ((iI (j.val : Int)).toInt64.toUInt64 &&& Int64.toUInt64 63).toNat = j.val := by decide +kernel
  have h := key ⟨y.toNat, by omega⟩
  simp only [show ((y.toNat : Nat) : Int) = y by omega] at h
  obtain ⟨m, rfl⟩ := Int.eq_ofNat_of_zero_le hx.1
  have e1 : ((m : Int) / 2 ^ y.toNat) = ((m / 2 ^ y.toNat : Nat) : Int) := by push_cast; rfl
  rw [e1]
  apply Int64.toBitVec_inj.mp
  apply BitVec.eq_of_toNat_eq
  rw [lI_bv (Int.natCast_nonneg _)]
  show ((lI (m : Int)).toUInt64 >>> _).toNat = _
  rw [UInt64.toNat_shiftRight, h]
  show (lI (m : Int)).toBitVec.toNat >>> _ = _
  rw [lI_bv (by omega), Int.toNat_natCast, Int.toNat_natCast, BitVec.toNat_ofNat, BitVec.toNat_ofNat, Nat.shiftRight_eq_div_pow, Nat.mod_eq_of_lt (show y.toNat < 64 by omega), Nat.mod_eq_of_lt (show m < 2 ^ 64 by omega), Nat.mod_eq_of_lt]
  have := Nat.div_le_self m (2 ^ y.toNat)
  omega
theorem lI_shr {x y : Int} (hx : -9223372036854775808 ≤ x ∧ x < 9223372036854775808) (hy : 0 ≤ y ∧ y < 64) : lI x >>> ((iI y).toInt64 &&& 63) = lI (x / 2 ^ y.toNat) := by
  rw [lI_sh63 y hy]
  have key : ∀ j : Fin 64, ((lI (j.val : Int)).toBitVec.smod 64).toNat = j.val := by decide +kernel
  have h := key ⟨y.toNat, by omega⟩
  simp only [show ((y.toNat : Nat) : Int) = y by omega] at h
  apply Int64.toInt_inj.mp
  show (BitVec.sshiftRight' (lI x).toBitVec ((lI y).toBitVec.smod 64)).toInt = _
  rw [BitVec.toInt_sshiftRight', h]
  show (lI x).toInt >>> _ = _
  rw [lI_toInt hx.1 hx.2, Int.shiftRight_eq_div_pow]
  have hp : (0 : Int) < 2 ^ y.toNat := Int.pow_pos (by decide)
  have hp2 : (1 : Int) ≤ 2 ^ y.toNat := by omega
  have e1 : ((2 : Int) ^ y.toNat) = ((2 ^ y.toNat : Nat) : Int) := by push_cast; rfl
  rw [← e1]
  have h3 : x / 2 ^ y.toNat < 9223372036854775808 := by
    by_cases h0 : 0 ≤ x
    · exact Int.lt_of_le_of_lt (Int.ediv_le_self _ h0) hx.2
    · have := Int.ediv_neg_of_neg_of_pos (show x < 0 by omega) hp
      omega
  have h4 : -9223372036854775808 ≤ x / 2 ^ y.toNat := by
    rw [Int.le_ediv_iff_mul_le hp]
    have : (-9223372036854775808 : Int) * 2 ^ y.toNat ≤ -9223372036854775808 * 1 := Int.mul_le_mul_of_nonpos_left (by decide) hp2
    omega
  rw [lI_toInt h4 h3]
theorem lI_of (z : Int64) : lI z.toInt = z := Int64.ofInt_toInt z
theorem lI_and_msk {x : Int} (k : Nat) (hk : k ≤ 62) (hx : 0 ≤ x) : lI x &&& lI (2 ^ k - 1) = lI (x % 2 ^ k) := by
  have hp : (0 : Int) < 2 ^ k := Int.pow_pos (by decide)
  have e1 : ((2 : Int) ^ k) = ((2 ^ k : Nat) : Int) := by push_cast; rfl
  rw [lI_and hx (by omega)]
  obtain ⟨m, rfl⟩ := Int.eq_ofNat_of_zero_le hx
  rw [show ((2 : Int) ^ k - 1).toNat = 2 ^ k - 1 by rw [e1]; omega, Int.toNat_natCast, and_mask, e1]
  congr 1
section
variable {Y : am_Y} {M : am_M} {pc nx tgt : Nat} {ls : List (Option Value)} {st : List Value} {Q : Option Value → am_M → Prop}
theorem mm_iandg {x m : Int} (k : Nat) (d : am_at Y pc .iand 1 nx) (hm : m = 2 ^ k - 1) (hk : k ≤ 30) (kk : am_AW Y M nx ls (.int (iI (x % 2 ^ k)) :: st) Q) : am_AW Y M pc ls (.int (iI m) :: .int (iI x) :: st) Q := am_iand d (by rw [iI_msk k hm hk]; exact kk)
theorem mm_lushr {x y : Int} (d : am_at Y pc .lushr 1 nx) (hx : 0 ≤ x ∧ x < 9223372036854775808) (hy : 0 ≤ y ∧ y < 64) (kk : am_AW Y M nx ls (.long (lI (x / 2 ^ y.toNat)) :: st) Q) : am_AW Y M pc ls (.int (iI y) :: .long (lI x) :: st) Q := am_lushr d (by rw [lI_ushr hx hy]; exact kk)
theorem mm_lshr {x y : Int} (d : am_at Y pc .lshr 1 nx) (hx : -9223372036854775808 ≤ x ∧ x < 9223372036854775808) (hy : 0 ≤ y ∧ y < 64) (kk : am_AW Y M nx ls (.long (lI (x / 2 ^ y.toNat)) :: st) Q) : am_AW Y M pc ls (.int (iI y) :: .long (lI x) :: st) Q := am_lshr d (by rw [lI_shr hx hy]; exact kk)
end
/-! ===== Scene: its object at a, slots at a + 1, KINDS at a + 2, STATES at a + 3 ===== -/
def scS (sh : List mm_H) (a : Nat) : Prop := sh[a]? = some (.inr (8, [.inl false, .inl false, .inl false, .inr (some (a + 1)), .inr (some (a + 2)), .inr (some (a + 3))])) ∧ sh[a + 1]? = some (.inl (0, 5, fun _ => none)) ∧ sh[a + 2]? = some (.inl (0, 6, fun _ => none)) ∧ sh[a + 3]? = some (.inl (0, 6, fun _ => none))
def scV (S : mm_S) (a : Nat) : Prop := (0 ≤ S a 0 ∧ S a 0 < 6) ∧ (0 ≤ S a 1 ∧ S a 1 ≤ 24) ∧ (0 ≤ S a 2 ∧ S a 2 < 4096) ∧ (∀ v : Nat, v < 5 → -1 ≤ S (a + 1) v ∧ S (a + 1) v ≤ 5) ∧ ∀ j : Nat, j < 6 → (0 ≤ S (a + 2) j ∧ S (a + 2) j ≤ 5) ∧ (0 ≤ S (a + 3) j ∧ S (a + 3) j ≤ 6)
def scK (S : mm_S) (a : Nat) : Prop := ∀ v : Nat, v < 5 → S (a + 1) v ≠ -1 → S (a + 2) (S (a + 1) v).toNat < S 1 0
abbrev skO (S : mm_S) (a : Nat) (v : Int) : Int := if S (a + 1) v.toNat = -1 then 0 else S (a + 2) (S (a + 1) v.toNat).toNat
abbrev ssO (S : mm_S) (a : Nat) (v : Int) : Int := if S (a + 1) v.toNat = -1 then 0 else S (a + 3) (S (a + 1) v.toNat).toNat
theorem skO_n {S : mm_S} {a : Nat} {v : Int} (h : S (a + 1) v.toNat = -1) : skO S a v = 0 := if_pos h
theorem skO_y {S : mm_S} {a : Nat} {v : Int} (h : S (a + 1) v.toNat ≠ -1) : skO S a v = S (a + 2) (S (a + 1) v.toNat).toNat := if_neg h
theorem ssO_n {S : mm_S} {a : Nat} {v : Int} (h : S (a + 1) v.toNat = -1) : ssO S a v = 0 := if_pos h
theorem ssO_y {S : mm_S} {a : Nat} {v : Int} (h : S (a + 1) v.toNat ≠ -1) : ssO S a v = S (a + 3) (S (a + 1) v.toNat).toNat := if_neg h
theorem skO_R {S : mm_S} {a : Nat} {v : Int} (h : scV S a) (hv : 0 ≤ v ∧ v < 5) : 0 ≤ skO S a v ∧ skO S a v ≤ 5 := by
  have h1 := h.2.2.2.1 v.toNat (by omega)
  unfold skO
  split
  · omega
  · exact (h.2.2.2.2 _ (by omega)).1
theorem ssO_R {S : mm_S} {a : Nat} {v : Int} (h : scV S a) (hv : 0 ≤ v ∧ v < 5) : 0 ≤ ssO S a v ∧ ssO S a v ≤ 6 := by
  have h1 := h.2.2.2.1 v.toNat (by omega)
  unfold ssO
  split
  · omega
  · exact (h.2.2.2.2 _ (by omega)).2
theorem skO_K {S : mm_S} {a : Nat} {v : Int} (h : scK S a) (hv : 0 ≤ v ∧ v < 5) (hn : S (a + 1) v.toNat ≠ -1) : skO S a v < S 1 0 := by
  rw [skO_y hn]
  exact h v.toNat (by omega) hn
abbrev wUse (S : mm_S) (a : Nat) (v n : Int) : Int := if S (a + 1) v.toNat = -1 then 1 else if ssO S a v = 6 then 2 else if kdH S (4 + 3 * (skO S a v).toNat) (ssO S a v) n then 0 else 3
abbrev wCall (S : mm_S) (a : Nat) (v : Int) (g : Prop) [Decidable g] : Int := if S (a + 1) v.toNat = -1 then 1 else if ssO S a v = 6 then 2 else if g ∧ S (a + 1) v.toNat = 5 then 4 else 0
abbrev mstN (S : mm_S) (a : Nat) (v : Int) : Prop := S (a + 1) v.toNat ≠ -1 ∧ S (a + 1) v.toNat ≠ 5 ∧ ssO S a v ≠ 6 ∧ ¬ kdE S (4 + 3 * (skO S a v).toNat) (ssO S a v)
abbrev lftB (S : mm_S) (a : Nat) (v x : Int) : Prop := S (a + 1) v.toNat ≠ x ∧ mstN S a v ∧ ∀ w : Nat, w < 5 → (w : Int) ≠ v → S (a + 1) w ≠ S (a + 1) v.toNat
abbrev lvsP (S : mm_S) (a : Nat) : Prop := ¬ ∀ v : Nat, v < 5 → ¬ mstN S a v
set_option maxRecDepth 100000 in
set_option maxHeartbeats 4000000 in
theorem c_namesNothing {sh : List mm_H} {S : mm_S} {L : mm_L} {a : Nat} (hc : scS sh a) (hV : scV S a) {v : Int} (hv : 0 ≤ v ∧ v < 5) : am_E eX8_namesNothing [.ref a, .int (iI v)] (mm sh S L) (fun r M' => r = some (.int (iI (b2 (S (a + 1) v.toNat = -1)))) ∧ M' = mm sh S L) := by
  obtain ⟨hc0, hc1, hc2, hc3⟩ := id hc
  obtain ⟨v0, v1, v2, v3, v4⟩ := id hV
  have g1 := v3 v.toNat (by omega)
  refine am_enter rfl rfl (Nat.le_of_ble_eq_true rfl) ?_
  refine am_aload_n rfl dX8_namesNothing_0 ?_
  refine mm_getR dX8_namesNothing_1 fl_X8_21 hc0 rfl ?_
  refine am_iload_n rfl dX8_namesNothing_4 ?_
  refine mm_ial dX8_namesNothing_5 hc1 (by omega) ?_
  refine mm_iconst dX8_namesNothing_6 ?_
  refine mm_jne (tgt := 14) dX8_namesNothing_7 (by decide) (by omega) (by omega) (fun h7 => ?_) (fun h7 => ?_)
  · refine mm_iconst dX8_namesNothing_14 ?_
    refine am_ireturn dX8_namesNothing_15 rfl rfl ?_
    first | exact ⟨mm_rt (by omega), rfl⟩ | exact ⟨mm_rf (by omega), rfl⟩
  · refine mm_iconst dX8_namesNothing_10 ?_
    refine am_goto (tgt := 15) dX8_namesNothing_11 (by decide) ?_
    refine am_ireturn dX8_namesNothing_15 rfl rfl ?_
    first | exact ⟨mm_rt (by omega), rfl⟩ | exact ⟨mm_rf (by omega), rfl⟩
set_option maxRecDepth 100000 in
set_option maxHeartbeats 4000000 in
theorem c_nameOne {sh : List mm_H} {S : mm_S} {L : mm_L} {a : Nat} (hc : scS sh a) (hV : scV S a) {v : Int} (hv : 0 ≤ v ∧ v < 5) {w : Int} (hw : 0 ≤ w ∧ w < 5) : am_E eX8_nameOne [.ref a, .int (iI v), .int (iI w)] (mm sh S L) (fun r M' => r = some (.int (iI (b2 (S (a + 1) v.toNat ≠ -1 ∧ S (a + 1) v.toNat = S (a + 1) w.toNat)))) ∧ M' = mm sh S L) := by
  obtain ⟨hc0, hc1, hc2, hc3⟩ := id hc
  obtain ⟨v0, v1, v2, v3, v4⟩ := id hV
  have g1 := v3 v.toNat (by omega)
  have g2 := v3 w.toNat (by omega)
  refine am_enter rfl rfl (Nat.le_of_ble_eq_true rfl) ?_
  refine am_aload_n rfl dX8_nameOne_0 ?_
  refine mm_getR dX8_nameOne_1 fl_X8_21 hc0 rfl ?_
  refine am_iload_n rfl dX8_nameOne_4 ?_
  refine mm_ial dX8_nameOne_5 hc1 (by omega) ?_
  refine mm_iconst dX8_nameOne_6 ?_
  refine mm_jeq (tgt := 29) dX8_nameOne_7 (by decide) (by omega) (by omega) (fun h7 => ?_) (fun h7 => ?_)
  · refine mm_iconst dX8_nameOne_29 ?_
    refine am_ireturn dX8_nameOne_30 rfl rfl ?_
    first | exact ⟨mm_rt (by omega), rfl⟩ | exact ⟨mm_rf (by omega), rfl⟩
  · refine am_aload_n rfl dX8_nameOne_10 ?_
    refine mm_getR dX8_nameOne_11 fl_X8_21 hc0 rfl ?_
    refine am_iload_n rfl dX8_nameOne_14 ?_
    refine mm_ial dX8_nameOne_15 hc1 (by omega) ?_
    refine am_aload_n rfl dX8_nameOne_16 ?_
    refine mm_getR dX8_nameOne_17 fl_X8_21 hc0 rfl ?_
    refine am_iload_n rfl dX8_nameOne_20 ?_
    refine mm_ial dX8_nameOne_21 hc1 (by omega) ?_
    refine mm_jne (tgt := 29) dX8_nameOne_22 (by decide) (by omega) (by omega) (fun h22 => ?_) (fun h22 => ?_)
    · refine mm_iconst dX8_nameOne_29 ?_
      refine am_ireturn dX8_nameOne_30 rfl rfl ?_
      first | exact ⟨mm_rt (by omega), rfl⟩ | exact ⟨mm_rf (by omega), rfl⟩
    · refine mm_iconst dX8_nameOne_25 ?_
      refine am_goto (tgt := 30) dX8_nameOne_26 (by decide) ?_
      refine am_ireturn dX8_nameOne_30 rfl rfl ?_
      first | exact ⟨mm_rt (by omega), rfl⟩ | exact ⟨mm_rf (by omega), rfl⟩
set_option maxRecDepth 100000 in
set_option maxHeartbeats 4000000 in
theorem c_kindOf {sh : List mm_H} {S : mm_S} {L : mm_L} {a : Nat} (hc : scS sh a) (hV : scV S a) {v : Int} (hv : 0 ≤ v ∧ v < 5) : am_E eX8_kindOf [.ref a, .int (iI v)] (mm sh S L) (fun r M' => r = some (.int (iI (skO S a v))) ∧ M' = mm sh S L) := by
  obtain ⟨hc0, hc1, hc2, hc3⟩ := id hc
  obtain ⟨v0, v1, v2, v3, v4⟩ := id hV
  have g1 := v3 v.toNat (by omega)
  refine am_enter rfl rfl (Nat.le_of_ble_eq_true rfl) ?_
  refine am_aload_n rfl dX8_kindOf_0 ?_
  refine mm_getR dX8_kindOf_1 fl_X8_21 hc0 rfl ?_
  refine am_iload_n rfl dX8_kindOf_4 ?_
  refine mm_ial dX8_kindOf_5 hc1 (by omega) ?_
  refine mm_iconst dX8_kindOf_6 ?_
  refine mm_jne (tgt := 14) dX8_kindOf_7 (by decide) (by omega) (by omega) (fun h7 => ?_) (fun h7 => ?_)
  · refine am_aload_n rfl dX8_kindOf_14 ?_
    refine mm_getR dX8_kindOf_15 fl_X8_25 hc0 rfl ?_
    refine am_aload_n rfl dX8_kindOf_18 ?_
    refine mm_getR dX8_kindOf_19 fl_X8_21 hc0 rfl ?_
    refine am_iload_n rfl dX8_kindOf_22 ?_
    refine mm_ial dX8_kindOf_23 hc1 (by omega) ?_
    refine mm_ial dX8_kindOf_24 hc2 (by omega) ?_
    refine am_ireturn dX8_kindOf_25 rfl rfl ?_
    first | exact ⟨by rw [skO_n (by omega)], rfl⟩ | exact ⟨by rw [skO_y (by omega)], rfl⟩
  · refine mm_iconst dX8_kindOf_10 ?_
    refine am_goto (tgt := 25) dX8_kindOf_11 (by decide) ?_
    refine am_ireturn dX8_kindOf_25 rfl rfl ?_
    first | exact ⟨by rw [skO_n (by omega)], rfl⟩ | exact ⟨by rw [skO_y (by omega)], rfl⟩
set_option maxRecDepth 100000 in
set_option maxHeartbeats 4000000 in
theorem c_stateOf {sh : List mm_H} {S : mm_S} {L : mm_L} {a : Nat} (hc : scS sh a) (hV : scV S a) {v : Int} (hv : 0 ≤ v ∧ v < 5) : am_E eX8_stateOf [.ref a, .int (iI v)] (mm sh S L) (fun r M' => r = some (.int (iI (ssO S a v))) ∧ M' = mm sh S L) := by
  obtain ⟨hc0, hc1, hc2, hc3⟩ := id hc
  obtain ⟨v0, v1, v2, v3, v4⟩ := id hV
  have g1 := v3 v.toNat (by omega)
  refine am_enter rfl rfl (Nat.le_of_ble_eq_true rfl) ?_
  refine am_aload_n rfl dX8_stateOf_0 ?_
  refine mm_getR dX8_stateOf_1 fl_X8_21 hc0 rfl ?_
  refine am_iload_n rfl dX8_stateOf_4 ?_
  refine mm_ial dX8_stateOf_5 hc1 (by omega) ?_
  refine mm_iconst dX8_stateOf_6 ?_
  refine mm_jne (tgt := 14) dX8_stateOf_7 (by decide) (by omega) (by omega) (fun h7 => ?_) (fun h7 => ?_)
  · refine am_aload_n rfl dX8_stateOf_14 ?_
    refine mm_getR dX8_stateOf_15 fl_X8_28 hc0 rfl ?_
    refine am_aload_n rfl dX8_stateOf_18 ?_
    refine mm_getR dX8_stateOf_19 fl_X8_21 hc0 rfl ?_
    refine am_iload_n rfl dX8_stateOf_22 ?_
    refine mm_ial dX8_stateOf_23 hc1 (by omega) ?_
    refine mm_ial dX8_stateOf_24 hc3 (by omega) ?_
    refine am_ireturn dX8_stateOf_25 rfl rfl ?_
    first | exact ⟨by rw [ssO_n (by omega)], rfl⟩ | exact ⟨by rw [ssO_y (by omega)], rfl⟩
  · refine mm_iconst dX8_stateOf_10 ?_
    refine am_goto (tgt := 25) dX8_stateOf_11 (by decide) ?_
    refine am_ireturn dX8_stateOf_25 rfl rfl ?_
    first | exact ⟨by rw [ssO_n (by omega)], rfl⟩ | exact ⟨by rw [ssO_y (by omega)], rfl⟩
set_option maxRecDepth 100000 in
set_option maxHeartbeats 4000000 in
theorem c_stateOfLent {sh : List mm_H} {S : mm_S} {L : mm_L} {a : Nat} (hc : scS sh a) : am_E eX8_stateOfLent [.ref a] (mm sh S L) (fun r M' => r = some (.int (iI (S (a + 3) 5))) ∧ M' = mm sh S L) := by
  obtain ⟨hc0, hc1, hc2, hc3⟩ := id hc
  refine am_enter rfl rfl (Nat.le_of_ble_eq_true rfl) ?_
  refine am_aload_n rfl dX8_stateOfLent_0 ?_
  refine mm_getR dX8_stateOfLent_1 fl_X8_28 hc0 rfl ?_
  refine mm_iconst dX8_stateOfLent_4 ?_
  refine mm_ial dX8_stateOfLent_5 hc3 (by omega) ?_
  refine am_ireturn dX8_stateOfLent_6 rfl rfl ?_
  exact ⟨rfl, rfl⟩
set_option maxRecDepth 100000 in
set_option maxHeartbeats 4000000 in
theorem c_wrongUse {sh : List mm_H} {S : mm_S} {L : mm_L} {a : Nat} (hc : scS sh a) (hV : scV S a) (hK : scK S a) (hb : bkS sh) (hbv : bkV S) {v : Int} (hv : 0 ≤ v ∧ v < 5) {n : Int} (hn : Rg n) : am_E eX8_wrongUse [.ref a, .ref 1, .int (iI v), .int (iI n)] (mm sh S L) (fun r M' => r = some (.int (iI (wUse S a v n))) ∧ M' = mm sh S L) := by
  obtain ⟨hc0, hc1, hc2, hc3⟩ := id hc
  obtain ⟨v0, v1, v2, v3, v4⟩ := id hV
  obtain ⟨hB1, hB2, hB3, hB4, hB5⟩ := id hb
  obtain ⟨w0, w1, w2, w3⟩ := id hbv
  have g1 := v3 v.toNat (by omega)
  have g3 := skO_R hV hv
  have g4 := ssO_R hV hv
  refine am_enter rfl rfl (Nat.le_of_ble_eq_true rfl) ?_
  refine am_aload_n rfl dX8_wrongUse_0 ?_
  refine am_iload_n rfl dX8_wrongUse_1 ?_
  refine am_ci (mm_V1 dX8_wrongUse_2 in_X8_namesNothing mk_X8_78 im_X8_namesNothing sl_X8_namesNothing ⟨Nat.le_of_ble_eq_true rfl, Nat.le_of_ble_eq_true rfl⟩ rfl hc0 (Nat.le_of_ble_eq_true rfl)) (c_namesNothing hc hV hv) ?_
  refine mm_beq (tgt := 10) dX8_wrongUse_5 (by decide) (fun h5 => ?_) (fun h5 => ?_)
  · refine am_aload_n rfl dX8_wrongUse_10 ?_
    refine am_iload_n rfl dX8_wrongUse_11 ?_
    refine am_ci (mm_V1 dX8_wrongUse_12 in_X8_stateOf mk_X8_82 im_X8_stateOf sl_X8_stateOf ⟨Nat.le_of_ble_eq_true rfl, Nat.le_of_ble_eq_true rfl⟩ rfl hc0 (Nat.le_of_ble_eq_true rfl)) (c_stateOf hc hV hv) ?_
    refine mm_bipush dX8_wrongUse_15 (by decide) ?_
    refine mm_jne (tgt := 22) dX8_wrongUse_17 (by decide) (by omega) (by omega) (fun h17 => ?_) (fun h17 => ?_)
    · have g5 := skO_K hK hv (by omega)
      have g6 := w2 (skO S a v).toNat (by omega)
      refine am_aload_n rfl dX8_wrongUse_22 ?_
      refine mm_getR dX8_wrongUse_23 fl_X8_85 hB1 rfl ?_
      refine am_aload_n rfl dX8_wrongUse_26 ?_
      refine am_iload_n rfl dX8_wrongUse_27 ?_
      refine am_ci (mm_V1 dX8_wrongUse_28 in_X8_kindOf mk_X8_88 im_X8_kindOf sl_X8_kindOf ⟨Nat.le_of_ble_eq_true rfl, Nat.le_of_ble_eq_true rfl⟩ rfl hc0 (Nat.le_of_ble_eq_true rfl)) (c_kindOf hc hV hv) ?_
      refine mm_aal dX8_wrongUse_31 (fun _ => rfl) hB2 ⟨by omega, by omega, by omega⟩ (kArr_at (by omega)) ?_
      refine am_aload_n rfl dX8_wrongUse_32 ?_
      refine am_iload_n rfl dX8_wrongUse_33 ?_
      refine am_ci (mm_V1 dX8_wrongUse_34 in_X8_stateOf mk_X8_82 im_X8_stateOf sl_X8_stateOf ⟨Nat.le_of_ble_eq_true rfl, Nat.le_of_ble_eq_true rfl⟩ rfl hc0 (Nat.le_of_ble_eq_true rfl)) (c_stateOf hc hV hv) ?_
      refine am_iload_n rfl dX8_wrongUse_37 ?_
      refine am_ci (mm_V2 dX8_wrongUse_38 in_X4_hasUse mk_X8_91 im_X4_hasUse sl_X4_hasUse ⟨Nat.le_of_ble_eq_true rfl, Nat.le_of_ble_eq_true rfl⟩ rfl (hB4 (skO S a v).toNat (by omega)).1 (Nat.le_of_ble_eq_true rfl)) (c_hasUse (hB4 (skO S a v).toNat (by omega)) g6 (by omega) hn) ?_
      refine mm_beq (tgt := 48) dX8_wrongUse_41 (by decide) (fun h41 => ?_) (fun h41 => ?_)
      · refine mm_iconst dX8_wrongUse_48 ?_
        refine am_ireturn dX8_wrongUse_49 rfl rfl ?_
        first
          | exact ⟨by rw [wUse, if_pos (by omega)], rfl⟩
          | exact ⟨by rw [wUse, if_neg (by omega), if_pos (by omega)], rfl⟩
          | exact ⟨by rw [wUse, if_neg (by omega), if_neg (by omega), if_pos (by assumption)], rfl⟩
          | exact ⟨by rw [wUse, if_neg (by omega), if_neg (by omega), if_neg (by assumption)], rfl⟩
      · refine mm_iconst dX8_wrongUse_44 ?_
        refine am_goto (tgt := 49) dX8_wrongUse_45 (by decide) ?_
        refine am_ireturn dX8_wrongUse_49 rfl rfl ?_
        first
          | exact ⟨by rw [wUse, if_pos (by omega)], rfl⟩
          | exact ⟨by rw [wUse, if_neg (by omega), if_pos (by omega)], rfl⟩
          | exact ⟨by rw [wUse, if_neg (by omega), if_neg (by omega), if_pos (by assumption)], rfl⟩
          | exact ⟨by rw [wUse, if_neg (by omega), if_neg (by omega), if_neg (by assumption)], rfl⟩
    · refine mm_iconst dX8_wrongUse_20 ?_
      refine am_ireturn dX8_wrongUse_21 rfl rfl ?_
      first
        | exact ⟨by rw [wUse, if_pos (by omega)], rfl⟩
        | exact ⟨by rw [wUse, if_neg (by omega), if_pos (by omega)], rfl⟩
        | exact ⟨by rw [wUse, if_neg (by omega), if_neg (by omega), if_pos (by assumption)], rfl⟩
        | exact ⟨by rw [wUse, if_neg (by omega), if_neg (by omega), if_neg (by assumption)], rfl⟩
  · refine mm_iconst dX8_wrongUse_8 ?_
    refine am_ireturn dX8_wrongUse_9 rfl rfl ?_
    first
      | exact ⟨by rw [wUse, if_pos (by omega)], rfl⟩
      | exact ⟨by rw [wUse, if_neg (by omega), if_pos (by omega)], rfl⟩
      | exact ⟨by rw [wUse, if_neg (by omega), if_neg (by omega), if_pos (by assumption)], rfl⟩
      | exact ⟨by rw [wUse, if_neg (by omega), if_neg (by omega), if_neg (by assumption)], rfl⟩
set_option maxRecDepth 100000 in
set_option maxHeartbeats 4000000 in
theorem c_wrongCall {sh : List mm_H} {S : mm_S} {L : mm_L} {a : Nat} (hc : scS sh a) (hV : scV S a) {v : Int} (hv : 0 ≤ v ∧ v < 5) {g : Prop} [Decidable g] : am_E eX8_wrongCall [.ref a, .int (iI v), .int (iI (b2 g))] (mm sh S L) (fun r M' => r = some (.int (iI (wCall S a v g))) ∧ M' = mm sh S L) := by
  obtain ⟨hc0, hc1, hc2, hc3⟩ := id hc
  obtain ⟨v0, v1, v2, v3, v4⟩ := id hV
  have g1 := v3 v.toNat (by omega)
  have g3 := skO_R hV hv
  have g4 := ssO_R hV hv
  refine am_enter rfl rfl (Nat.le_of_ble_eq_true rfl) ?_
  refine am_aload_n rfl dX8_wrongCall_0 ?_
  refine am_iload_n rfl dX8_wrongCall_1 ?_
  refine am_ci (mm_V1 dX8_wrongCall_2 in_X8_namesNothing mk_X8_78 im_X8_namesNothing sl_X8_namesNothing ⟨Nat.le_of_ble_eq_true rfl, Nat.le_of_ble_eq_true rfl⟩ rfl hc0 (Nat.le_of_ble_eq_true rfl)) (c_namesNothing hc hV hv) ?_
  refine mm_beq (tgt := 10) dX8_wrongCall_5 (by decide) (fun h5 => ?_) (fun h5 => ?_)
  · refine am_aload_n rfl dX8_wrongCall_10 ?_
    refine am_iload_n rfl dX8_wrongCall_11 ?_
    refine am_ci (mm_V1 dX8_wrongCall_12 in_X8_stateOf mk_X8_82 im_X8_stateOf sl_X8_stateOf ⟨Nat.le_of_ble_eq_true rfl, Nat.le_of_ble_eq_true rfl⟩ rfl hc0 (Nat.le_of_ble_eq_true rfl)) (c_stateOf hc hV hv) ?_
    refine mm_bipush dX8_wrongCall_15 (by decide) ?_
    refine mm_jne (tgt := 22) dX8_wrongCall_17 (by decide) (by omega) (by omega) (fun h17 => ?_) (fun h17 => ?_)
    · refine am_iload_n rfl dX8_wrongCall_22 ?_
      refine mm_beq (tgt := 40) dX8_wrongCall_23 (by decide) (fun h23 => ?_) (fun h23 => ?_)
      · refine mm_iconst dX8_wrongCall_40 ?_
        refine am_ireturn dX8_wrongCall_41 rfl rfl ?_
        first
          | exact ⟨by rw [wCall, if_pos (by omega)], rfl⟩
          | exact ⟨by rw [wCall, if_neg (by omega), if_pos (by omega)], rfl⟩
          | exact ⟨by rw [wCall, if_neg (by omega), if_neg (by omega), if_pos ⟨by assumption, by omega⟩], rfl⟩
          | exact ⟨by rw [wCall, if_neg (by omega), if_neg (by omega), if_neg (fun z => by first | exact absurd z.1 (by assumption) | (have := z.2; omega))], rfl⟩
      · refine am_aload_n rfl dX8_wrongCall_26 ?_
        refine mm_getR dX8_wrongCall_27 fl_X8_21 hc0 rfl ?_
        refine am_iload_n rfl dX8_wrongCall_30 ?_
        refine mm_ial dX8_wrongCall_31 hc1 (by omega) ?_
        refine mm_iconst dX8_wrongCall_32 ?_
        refine mm_jne (tgt := 40) dX8_wrongCall_33 (by decide) (by omega) (by omega) (fun h33 => ?_) (fun h33 => ?_)
        · refine mm_iconst dX8_wrongCall_40 ?_
          refine am_ireturn dX8_wrongCall_41 rfl rfl ?_
          first
            | exact ⟨by rw [wCall, if_pos (by omega)], rfl⟩
            | exact ⟨by rw [wCall, if_neg (by omega), if_pos (by omega)], rfl⟩
            | exact ⟨by rw [wCall, if_neg (by omega), if_neg (by omega), if_pos ⟨by assumption, by omega⟩], rfl⟩
            | exact ⟨by rw [wCall, if_neg (by omega), if_neg (by omega), if_neg (fun z => by first | exact absurd z.1 (by assumption) | (have := z.2; omega))], rfl⟩
        · refine mm_iconst dX8_wrongCall_36 ?_
          refine am_goto (tgt := 41) dX8_wrongCall_37 (by decide) ?_
          refine am_ireturn dX8_wrongCall_41 rfl rfl ?_
          first
            | exact ⟨by rw [wCall, if_pos (by omega)], rfl⟩
            | exact ⟨by rw [wCall, if_neg (by omega), if_pos (by omega)], rfl⟩
            | exact ⟨by rw [wCall, if_neg (by omega), if_neg (by omega), if_pos ⟨by assumption, by omega⟩], rfl⟩
            | exact ⟨by rw [wCall, if_neg (by omega), if_neg (by omega), if_neg (fun z => by first | exact absurd z.1 (by assumption) | (have := z.2; omega))], rfl⟩
    · refine mm_iconst dX8_wrongCall_20 ?_
      refine am_ireturn dX8_wrongCall_21 rfl rfl ?_
      first
        | exact ⟨by rw [wCall, if_pos (by omega)], rfl⟩
        | exact ⟨by rw [wCall, if_neg (by omega), if_pos (by omega)], rfl⟩
        | exact ⟨by rw [wCall, if_neg (by omega), if_neg (by omega), if_pos ⟨by assumption, by omega⟩], rfl⟩
        | exact ⟨by rw [wCall, if_neg (by omega), if_neg (by omega), if_neg (fun z => by first | exact absurd z.1 (by assumption) | (have := z.2; omega))], rfl⟩
  · refine mm_iconst dX8_wrongCall_8 ?_
    refine am_ireturn dX8_wrongCall_9 rfl rfl ?_
    first
      | exact ⟨by rw [wCall, if_pos (by omega)], rfl⟩
      | exact ⟨by rw [wCall, if_neg (by omega), if_pos (by omega)], rfl⟩
      | exact ⟨by rw [wCall, if_neg (by omega), if_neg (by omega), if_pos ⟨by assumption, by omega⟩], rfl⟩
      | exact ⟨by rw [wCall, if_neg (by omega), if_neg (by omega), if_neg (fun z => by first | exact absurd z.1 (by assumption) | (have := z.2; omega))], rfl⟩
set_option maxRecDepth 100000 in
set_option maxHeartbeats 4000000 in
theorem c_mustBeNamed {sh : List mm_H} {S : mm_S} {L : mm_L} {a : Nat} (hc : scS sh a) (hV : scV S a) (hK : scK S a) (hb : bkS sh) (hbv : bkV S) {v : Int} (hv : 0 ≤ v ∧ v < 5) : am_E eX8_mustBeNamed [.ref a, .ref 1, .int (iI v)] (mm sh S L) (fun r M' => r = some (.int (iI (b2 (mstN S a v)))) ∧ M' = mm sh S L) := by
  obtain ⟨hc0, hc1, hc2, hc3⟩ := id hc
  obtain ⟨v0, v1, v2, v3, v4⟩ := id hV
  obtain ⟨hB1, hB2, hB3, hB4, hB5⟩ := id hb
  obtain ⟨w0, w1, w2, w3⟩ := id hbv
  have g1 := v3 v.toNat (by omega)
  have g3 := skO_R hV hv
  have g4 := ssO_R hV hv
  refine am_enter rfl rfl (Nat.le_of_ble_eq_true rfl) ?_
  refine am_aload_n rfl dX8_mustBeNamed_0 ?_
  refine mm_getR dX8_mustBeNamed_1 fl_X8_21 hc0 rfl ?_
  refine am_iload_n rfl dX8_mustBeNamed_4 ?_
  refine mm_ial dX8_mustBeNamed_5 hc1 (by omega) ?_
  refine mm_iconst dX8_mustBeNamed_6 ?_
  refine mm_jeq (tgt := 30) dX8_mustBeNamed_7 (by decide) (by omega) (by omega) (fun h7 => ?_) (fun h7 => ?_)
  · refine mm_iconst dX8_mustBeNamed_30 ?_
    refine am_ireturn dX8_mustBeNamed_31 rfl rfl ?_
    first
      | exact ⟨mm_rt ⟨by omega, by omega, by omega, by assumption⟩, rfl⟩
      | exact ⟨mm_rf (fun z => z.2.2.2 (by assumption)), rfl⟩
      | exact ⟨mm_rf (fun z => by have := z.1; have := z.2.1; have := z.2.2.1; omega), rfl⟩
  · refine am_aload_n rfl dX8_mustBeNamed_10 ?_
    refine mm_getR dX8_mustBeNamed_11 fl_X8_21 hc0 rfl ?_
    refine am_iload_n rfl dX8_mustBeNamed_14 ?_
    refine mm_ial dX8_mustBeNamed_15 hc1 (by omega) ?_
    refine mm_iconst dX8_mustBeNamed_16 ?_
    refine mm_jeq (tgt := 30) dX8_mustBeNamed_17 (by decide) (by omega) (by omega) (fun h17 => ?_) (fun h17 => ?_)
    · refine mm_iconst dX8_mustBeNamed_30 ?_
      refine am_ireturn dX8_mustBeNamed_31 rfl rfl ?_
      first
        | exact ⟨mm_rt ⟨by omega, by omega, by omega, by assumption⟩, rfl⟩
        | exact ⟨mm_rf (fun z => z.2.2.2 (by assumption)), rfl⟩
        | exact ⟨mm_rf (fun z => by have := z.1; have := z.2.1; have := z.2.2.1; omega), rfl⟩
    · refine am_aload_n rfl dX8_mustBeNamed_20 ?_
      refine am_iload_n rfl dX8_mustBeNamed_21 ?_
      refine am_ci (mm_V1 dX8_mustBeNamed_22 in_X8_stateOf mk_X8_82 im_X8_stateOf sl_X8_stateOf ⟨Nat.le_of_ble_eq_true rfl, Nat.le_of_ble_eq_true rfl⟩ rfl hc0 (Nat.le_of_ble_eq_true rfl)) (c_stateOf hc hV hv) ?_
      refine mm_bipush dX8_mustBeNamed_25 (by decide) ?_
      refine mm_jne (tgt := 32) dX8_mustBeNamed_27 (by decide) (by omega) (by omega) (fun h27 => ?_) (fun h27 => ?_)
      · have g5 := skO_K hK hv (by omega)
        have g6 := w2 (skO S a v).toNat (by omega)
        refine am_aload_n rfl dX8_mustBeNamed_32 ?_
        refine mm_getR dX8_mustBeNamed_33 fl_X8_85 hB1 rfl ?_
        refine am_aload_n rfl dX8_mustBeNamed_36 ?_
        refine am_iload_n rfl dX8_mustBeNamed_37 ?_
        refine am_ci (mm_V1 dX8_mustBeNamed_38 in_X8_kindOf mk_X8_88 im_X8_kindOf sl_X8_kindOf ⟨Nat.le_of_ble_eq_true rfl, Nat.le_of_ble_eq_true rfl⟩ rfl hc0 (Nat.le_of_ble_eq_true rfl)) (c_kindOf hc hV hv) ?_
        refine mm_aal dX8_mustBeNamed_41 (fun _ => rfl) hB2 ⟨by omega, by omega, by omega⟩ (kArr_at (by omega)) ?_
        refine am_aload_n rfl dX8_mustBeNamed_42 ?_
        refine am_iload_n rfl dX8_mustBeNamed_43 ?_
        refine am_ci (mm_V1 dX8_mustBeNamed_44 in_X8_stateOf mk_X8_82 im_X8_stateOf sl_X8_stateOf ⟨Nat.le_of_ble_eq_true rfl, Nat.le_of_ble_eq_true rfl⟩ rfl hc0 (Nat.le_of_ble_eq_true rfl)) (c_stateOf hc hV hv) ?_
        refine am_ci (mm_V1 dX8_mustBeNamed_47 in_X4_isEnd mk_X8_101 im_X4_isEnd sl_X4_isEnd ⟨Nat.le_of_ble_eq_true rfl, Nat.le_of_ble_eq_true rfl⟩ rfl (hB4 (skO S a v).toNat (by omega)).1 (Nat.le_of_ble_eq_true rfl)) (c_isEnd (hB4 (skO S a v).toNat (by omega)) g6 (by omega)) ?_
        refine mm_bne (tgt := 57) dX8_mustBeNamed_50 (by decide) (fun h50 => ?_) (fun h50 => ?_)
        · refine mm_iconst dX8_mustBeNamed_57 ?_
          refine am_ireturn dX8_mustBeNamed_58 rfl rfl ?_
          first
            | exact ⟨mm_rt ⟨by omega, by omega, by omega, by assumption⟩, rfl⟩
            | exact ⟨mm_rf (fun z => z.2.2.2 (by assumption)), rfl⟩
            | exact ⟨mm_rf (fun z => by have := z.1; have := z.2.1; have := z.2.2.1; omega), rfl⟩
        · refine mm_iconst dX8_mustBeNamed_53 ?_
          refine am_goto (tgt := 58) dX8_mustBeNamed_54 (by decide) ?_
          refine am_ireturn dX8_mustBeNamed_58 rfl rfl ?_
          first
            | exact ⟨mm_rt ⟨by omega, by omega, by omega, by assumption⟩, rfl⟩
            | exact ⟨mm_rf (fun z => z.2.2.2 (by assumption)), rfl⟩
            | exact ⟨mm_rf (fun z => by have := z.1; have := z.2.1; have := z.2.2.1; omega), rfl⟩
      · refine mm_iconst dX8_mustBeNamed_30 ?_
        refine am_ireturn dX8_mustBeNamed_31 rfl rfl ?_
        first
          | exact ⟨mm_rt ⟨by omega, by omega, by omega, by assumption⟩, rfl⟩
          | exact ⟨mm_rf (fun z => z.2.2.2 (by assumption)), rfl⟩
          | exact ⟨mm_rf (fun z => by have := z.1; have := z.2.1; have := z.2.2.1; omega), rfl⟩
set_option maxRecDepth 100000 in
set_option maxHeartbeats 4000000 in
theorem l_isLeft {sh : List mm_H} {S : mm_S} {L : mm_L} {a : Nat} (hc : scS sh a) (hV : scV S a) {v : Int} (hv : 0 ≤ v ∧ v < 5) {x : Int} (h1 : S (a + 1) v.toNat ≠ x) (h2 : mstN S a v) : ∀ (q : Nat) (w : Nat), 5 - w < q → (w ≤ 5) → (∀ u : Nat, u < w → (u : Int) ≠ v → S (a + 1) u ≠ S (a + 1) v.toNat) → am_AW eX8_isLeftBy (mm sh S L) 24 [some (.ref a), some (.ref 1), some (.int (iI v)), some (.int (iI x)), some (.int (iI (w : Int)))] [] (fun r M' => r = some (.int (iI (b2 (lftB S a v x)))) ∧ M' = mm sh S L) := by
  intro q
  induction q with
  | zero =>
    intro w hq
    exact absurd hq (Nat.not_lt_zero _)
  | succ q ih =>
    intro w hq hw hp
    obtain ⟨hc0, hc1, hc2, hc3⟩ := id hc
    obtain ⟨v0, v1, v2, v3, v4⟩ := id hV
    have g1 := v3 v.toNat (by omega)
    refine am_iload rfl dX8_isLeftBy_24 ?_
    refine mm_iconst dX8_isLeftBy_26 ?_
    refine mm_jge (tgt := 60) dX8_isLeftBy_27 (by decide) (by omega) (by omega) (fun h27 => ?_) (fun h27 => ?_)
    · have h5 : w = 5 := by omega
      subst h5
      refine mm_iconst dX8_isLeftBy_60 ?_
      exact am_ireturn dX8_isLeftBy_61 rfl rfl ⟨mm_rt ⟨h1, h2, hp⟩, rfl⟩
    · refine am_iload rfl dX8_isLeftBy_30 ?_
      refine am_iload_n rfl dX8_isLeftBy_32 ?_
      refine mm_jeq (tgt := 54) dX8_isLeftBy_33 (by decide) (by omega) (by omega) (fun h33 => ?_) (fun h33 => ?_)
      · refine mm_inc4 dX8_isLeftBy_54 (Nat.le_of_ble_eq_true rfl) (am_c1i _) ?_
        refine am_goto (tgt := 24) dX8_isLeftBy_57 (by decide) ?_
        refine ih (w + 1) (by omega) (by omega) (fun u hu hne => ?_)
        by_cases hz : u = w
        · subst hz; omega
        · exact hp u (by omega) hne
      · refine am_aload_n rfl dX8_isLeftBy_36 ?_
        refine mm_getR dX8_isLeftBy_37 fl_X8_21 hc0 rfl ?_
        refine am_iload rfl dX8_isLeftBy_40 ?_
        refine mm_ial dX8_isLeftBy_42 hc1 (by omega) ?_
        rw [Int.toNat_natCast]
        refine am_aload_n rfl dX8_isLeftBy_43 ?_
        refine mm_getR dX8_isLeftBy_44 fl_X8_21 hc0 rfl ?_
        refine am_iload_n rfl dX8_isLeftBy_47 ?_
        refine mm_ial dX8_isLeftBy_48 hc1 (by omega) ?_
        have g7 := v3 w (by omega)
        refine mm_jne (tgt := 54) dX8_isLeftBy_49 (by decide) (by omega) (by omega) (fun h49 => ?_) (fun h49 => ?_)
        · refine mm_inc4 dX8_isLeftBy_54 (Nat.le_of_ble_eq_true rfl) (am_c1i _) ?_
          refine am_goto (tgt := 24) dX8_isLeftBy_57 (by decide) ?_
          refine ih (w + 1) (by omega) (by omega) (fun u hu hne => ?_)
          by_cases hz : u = w
          · subst hz; omega
          · exact hp u (by omega) hne
        · refine mm_iconst dX8_isLeftBy_52 ?_
          refine am_ireturn dX8_isLeftBy_53 rfl rfl ?_
          exact ⟨mm_rf (fun z => z.2.2 w (by omega) (by omega) (by omega)), rfl⟩
set_option maxRecDepth 100000 in
set_option maxHeartbeats 4000000 in
theorem c_isLeftBy {sh : List mm_H} {S : mm_S} {L : mm_L} {a : Nat} (hc : scS sh a) (hV : scV S a) (hK : scK S a) (hb : bkS sh) (hbv : bkV S) {v : Int} (hv : 0 ≤ v ∧ v < 5) {x : Int} (hx : Rg x) : am_E eX8_isLeftBy [.ref a, .ref 1, .int (iI v), .int (iI x)] (mm sh S L) (fun r M' => r = some (.int (iI (b2 (lftB S a v x)))) ∧ M' = mm sh S L) := by
  obtain ⟨hc0, hc1, hc2, hc3⟩ := id hc
  obtain ⟨v0, v1, v2, v3, v4⟩ := id hV
  have g1 := v3 v.toNat (by omega)
  refine am_enter rfl rfl (Nat.le_of_ble_eq_true rfl) ?_
  refine am_aload_n rfl dX8_isLeftBy_0 ?_
  refine mm_getR dX8_isLeftBy_1 fl_X8_21 hc0 rfl ?_
  refine am_iload_n rfl dX8_isLeftBy_4 ?_
  refine mm_ial dX8_isLeftBy_5 hc1 (by omega) ?_
  refine am_iload_n rfl dX8_isLeftBy_6 ?_
  refine mm_jeq (tgt := 19) dX8_isLeftBy_7 (by decide) (by omega) (by omega) (fun h7 => ?_) (fun h7 => ?_)
  · refine mm_iconst dX8_isLeftBy_19 ?_
    refine am_ireturn dX8_isLeftBy_20 rfl rfl ?_
    first | exact ⟨mm_rf (fun z => z.1 (by omega)), rfl⟩ | exact ⟨mm_rf (fun z => absurd z.2.1 (by assumption)), rfl⟩
  · refine am_aload_n rfl dX8_isLeftBy_10 ?_
    refine am_aload_n rfl dX8_isLeftBy_11 ?_
    refine am_iload_n rfl dX8_isLeftBy_12 ?_
    refine am_ci (mm_V2 dX8_isLeftBy_13 in_X8_mustBeNamed mk_X8_97 im_X8_mustBeNamed sl_X8_mustBeNamed ⟨Nat.le_of_ble_eq_true rfl, Nat.le_of_ble_eq_true rfl⟩ rfl hc0 (Nat.le_of_ble_eq_true rfl)) (c_mustBeNamed hc hV hK hb hbv hv) ?_
    refine mm_bne (tgt := 21) dX8_isLeftBy_16 (by decide) (fun h16 => ?_) (fun h16 => ?_)
    · refine mm_iconst dX8_isLeftBy_21 ?_
      refine am_ist4 dX8_isLeftBy_22 (Nat.le_of_ble_eq_true rfl) (am_c1i _) ?_
      exact l_isLeft hc hV hv (by omega) (by assumption) 6 0 (by omega) (by omega) (fun u hu => absurd hu (Nat.not_lt_zero u))
    · refine mm_iconst dX8_isLeftBy_19 ?_
      refine am_ireturn dX8_isLeftBy_20 rfl rfl ?_
      first | exact ⟨mm_rf (fun z => z.1 (by omega)), rfl⟩ | exact ⟨mm_rf (fun z => absurd z.2.1 (by assumption)), rfl⟩
set_option maxRecDepth 100000 in
set_option maxHeartbeats 4000000 in
theorem l_leaves {sh : List mm_H} {S : mm_S} {L : mm_L} {a : Nat} (hc : scS sh a) (hV : scV S a) (hK : scK S a) (hb : bkS sh) (hbv : bkV S) : ∀ (q : Nat) (w : Nat), 5 - w < q → (w ≤ 5) → (∀ u : Nat, u < w → ¬ mstN S a u) → am_AW eX8_leavesThings (mm sh S L) 2 [some (.ref a), some (.ref 1), some (.int (iI (w : Int)))] [] (fun r M' => r = some (.int (iI (b2 (lvsP S a)))) ∧ M' = mm sh S L) := by
  intro q
  induction q with
  | zero =>
    intro w hq
    exact absurd hq (Nat.not_lt_zero _)
  | succ q ih =>
    intro w hq hw hp
    obtain ⟨hc0, hc1, hc2, hc3⟩ := id hc
    refine am_iload_n rfl dX8_leavesThings_2 ?_
    refine mm_iconst dX8_leavesThings_3 ?_
    refine mm_jge (tgt := 24) dX8_leavesThings_4 (by decide) (by omega) (by omega) (fun h4 => ?_) (fun h4 => ?_)
    · have h5 : w = 5 := by omega
      subst h5
      refine mm_iconst dX8_leavesThings_24 ?_
      exact am_ireturn dX8_leavesThings_25 rfl rfl ⟨mm_rf (fun z => z hp), rfl⟩
    · refine am_aload_n rfl dX8_leavesThings_7 ?_
      refine am_aload_n rfl dX8_leavesThings_8 ?_
      refine am_iload_n rfl dX8_leavesThings_9 ?_
      refine am_ci (mm_V2 dX8_leavesThings_10 in_X8_mustBeNamed mk_X8_97 im_X8_mustBeNamed sl_X8_mustBeNamed ⟨Nat.le_of_ble_eq_true rfl, Nat.le_of_ble_eq_true rfl⟩ rfl hc0 (Nat.le_of_ble_eq_true rfl)) (c_mustBeNamed (v := (w : Int)) hc hV hK hb hbv (by omega)) ?_
      refine mm_beq (tgt := 18) dX8_leavesThings_13 (by decide) (fun h13 => ?_) (fun h13 => ?_)
      · refine mm_inc2 dX8_leavesThings_18 (Nat.le_of_ble_eq_true rfl) (am_c1r _) ?_
        refine am_goto (tgt := 2) dX8_leavesThings_21 (by decide) ?_
        refine ih (w + 1) (by omega) (by omega) (fun u hu => ?_)
        by_cases hz : u = w
        · subst hz; assumption
        · exact hp u (by omega)
      · refine mm_iconst dX8_leavesThings_16 ?_
        refine am_ireturn dX8_leavesThings_17 rfl rfl ?_
        exact ⟨mm_rt (fun z => z w (by omega) (by assumption)), rfl⟩
set_option maxRecDepth 100000 in
set_option maxHeartbeats 4000000 in
theorem c_leaves {sh : List mm_H} {S : mm_S} {L : mm_L} {a : Nat} (hc : scS sh a) (hV : scV S a) (hK : scK S a) (hb : bkS sh) (hbv : bkV S) : am_E eX8_leavesThings [.ref a, .ref 1] (mm sh S L) (fun r M' => r = some (.int (iI (b2 (lvsP S a)))) ∧ M' = mm sh S L) := by
  refine am_enter rfl rfl (Nat.le_of_ble_eq_true rfl) ?_
  refine mm_iconst dX8_leavesThings_0 ?_
  refine am_ist2 dX8_leavesThings_1 (Nat.le_of_ble_eq_true rfl) (am_c1r _) ?_
  exact l_leaves hc hV hK hb hbv 6 0 (by omega) (by omega) (fun u hu => absurd hu (Nat.not_lt_zero u))
