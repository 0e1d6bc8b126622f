/-! ===== more rows: masks, copies, longs ===== -/
theorem and_mask (x : Nat) (k : Nat) : x &&& (2 ^ k - 1) = x % 2 ^ k := Nat.and_two_pow_sub_one_eq_mod x k
theorem iI_mask {x : Int} {m : Int} (k : Nat) (hm : m = 2 ^ k - 1) (hk : k ≤ 30) (hx : 0 ≤ x ∧ x < 2147483648) : iI x &&& iI m = iI (x % 2 ^ k) := by
  have h1 : (1 : Int) ≤ 2 ^ k := by
    have : (0 : Int) < 2 ^ k := Int.pow_pos (by decide)
    omega
  have h2 : ((2 : Int) ^ k) ≤ 2 ^ 30 := by
    have := Nat.pow_le_pow_right (n := 2) (by decide) hk
    have e : ((2 : Int) ^ k) = ((2 ^ k : Nat) : Int) := by push_cast; rfl
    rw [e]
    exact_mod_cast this
  rw [iI_and hx (by constructor <;> omega)]
  have e : m.toNat = 2 ^ k - 1 := by
    subst hm
    have e : ((2 : Int) ^ k) = ((2 ^ k : Nat) : Int) := by push_cast; rfl
    rw [e]
    omega
  rw [e, and_mask]
  congr 1
  push_cast
  rw [show ((x.toNat : Nat) : Int) = x by omega]
/-! longs -/
def lI (x : Int) : Int64 := Int64.ofInt x
theorem lI_add (a b : Int) : lI a + lI b = lI (a + b) := (Int64.ofInt_add a b).symm
theorem lI_mul (a b : Int) : lI a * lI b = lI (a * b) := (Int64.ofInt_mul a b).symm
theorem lI_toInt {x : Int} (h1 : -9223372036854775808 ≤ x) (h2 : x < 9223372036854775808) : (lI x).toInt = x := Int64.toInt_ofInt_of_le (by simpa using h1) (by simpa using h2)
theorem lI_eq {a b : Int} (ha : -9223372036854775808 ≤ a ∧ a < 9223372036854775808) (hb : -9223372036854775808 ≤ b ∧ b < 9223372036854775808) : lI a = lI b ↔ a = b := by
  constructor
  · intro h
    have := congrArg Int64.toInt h
    rw [lI_toInt ha.1 ha.2, lI_toInt hb.1 hb.2] at this
    exact this
  · intro h; rw [h]
theorem iI_long {x : Int} (hx : -2147483648 ≤ x ∧ x < 2147483648) : (iI x).toInt64 = lI x := by
  apply Int64.toInt_inj.mp
  rw [Int32.toInt_toInt64, iI_toInt hx.1 hx.2, lI_toInt (by omega) (by omega)]
theorem lI_int (x : Int) : (lI x).toInt32 = iI x := by
  apply Int32.toBitVec_inj.mp
  show (BitVec.signExtend 32 (BitVec.ofInt 64 x)) = BitVec.ofInt 32 x
  rw [BitVec.signExtend_eq_setWidth_of_le _ (by decide)]
  apply BitVec.eq_of_toNat_eq
  simp only [BitVec.toNat_setWidth, BitVec.toNat_ofInt]
  omega
theorem lI_sh63 (y : Int) (hy : 0 ≤ y ∧ y < 64) : ((iI y).toInt64 &&& 63) = lI y := by
  have key : ∀ j : Fin 64, ((iI (j.val : Int)).toInt64 &&& 63) = lI (j.val : Int) := by decide +kernel
  have h := key ⟨y.toNat, by omega⟩
  simp only [show ((y.toNat : Nat) : Int) = y by omega] at h
  exact h
theorem lI_shl {x y : Int} (hy : 0 ≤ y ∧ y < 64) : lI x <<< ((iI y).toInt64 &&& 63) = lI (x * 2 ^ y.toNat) := by
  rw [lI_sh63 y hy]
  apply Int64.toBitVec_inj.mp
  have key : ∀ j : Fin 64, ((lI (j.val : Int)).toBitVec.smod 64).toNat = j.val := by decide +kernel
  have h := key ⟨y.toNat, by omega⟩
  simp only [show ((y.toNat : Nat) : Int) = y by omega] at h
  show (lI x).toBitVec <<< ((lI y).toBitVec.smod 64) = _
  rw [BitVec.shiftLeft_eq', h, BitVec.shiftLeft_eq_mul_twoPow]
  show BitVec.ofInt 64 x * _ = BitVec.ofInt 64 _
  rw [BitVec.ofInt_mul]
  congr 1
  apply BitVec.eq_of_toNat_eq
  simp only [BitVec.toNat_twoPow, BitVec.toNat_ofInt]
  have : ((2 : Int) ^ y.toNat) = ((2 ^ y.toNat : Nat) : Int) := by push_cast; rfl
  rw [this]
  omega
theorem lI_bv {x : Int} (h : 0 ≤ x) : (lI x).toBitVec = BitVec.ofNat 64 x.toNat := by
  show BitVec.ofInt 64 x = _
  apply BitVec.eq_of_toNat_eq
  simp only [BitVec.toNat_ofInt, BitVec.toNat_ofNat]
  omega
theorem lI_or {x y : Int} (hx : 0 ≤ x) (hy : 0 ≤ y) : lI x ||| lI y = lI ((x.toNat ||| y.toNat : Nat) : Int) := by
  apply Int64.toBitVec_inj.mp
  rw [lI_bv (by omega)]
  show (lI x).toBitVec ||| (lI y).toBitVec = _
  rw [lI_bv hx, lI_bv hy, ← BitVec.ofNat_or]
  simp
theorem lI_and {x y : Int} (hx : 0 ≤ x) (hy : 0 ≤ y) : lI x &&& lI y = lI ((x.toNat &&& y.toNat : Nat) : Int) := by
  apply Int64.toBitVec_inj.mp
  rw [lI_bv (by omega)]
  show (lI x).toBitVec &&& (lI y).toBitVec = _
  rw [lI_bv hx, lI_bv hy, ← BitVec.ofNat_and]
  simp
/-- a number whose low bits are free, and one that fits there -/
theorem lI_or_add {x y : Int} (k : Nat) (hx : 0 ≤ x) (hy : 0 ≤ y ∧ y < 2 ^ k) : lI (x * 2 ^ k) ||| lI y = lI (x * 2 ^ k + y) := by
  have hp : (0 : Int) < 2 ^ k := Int.pow_pos (by decide)
  have e : ((2 : Int) ^ k) = ((2 ^ k : Nat) : Int) := by push_cast; rfl
  rw [lI_or (Int.mul_nonneg hx (by omega)) hy.1]
  congr 1
  obtain ⟨m, rfl⟩ := Int.eq_ofNat_of_zero_le hx
  obtain ⟨n, rfl⟩ := Int.eq_ofNat_of_zero_le hy.1
  have h2 : n < 2 ^ k := by have := hy.2; rw [e] at this; exact_mod_cast this
  rw [e]
  have e2 : ((m : Int) * ((2 ^ k : Nat) : Int)) = ((m * 2 ^ k : Nat) : Int) := by push_cast; rfl
  rw [e2]
  simp only [Int.toNat_natCast]
  rw [Nat.mul_comm m, ← Nat.two_pow_add_eq_or_of_lt h2 m]
  push_cast
  rfl
section
variable {Y : am_Y} {sh : List mm_H} {S : mm_S} {L : mm_L} {M : am_M} {pc nx tgt : Nat} {ls : List (Option Value)} {st : List Value} {Q : Option Value → am_M → Prop}
theorem mm_iandm {x m : Int} (k : Nat) (d : am_at Y pc .iand 1 nx) (hm : m = 2 ^ k - 1) (hk : k ≤ 30) (hx : 0 ≤ x ∧ x < 2147483648) (kk : am_AW Y M nx ls (.int (iI (x % 2 ^ k)) :: st) Q) : am_AW Y M pc ls (.int (iI m) :: .int (iI x) :: st) Q := am_iand d (by rw [iI_mask k hm hk hx]; exact kk)
theorem mm_iand1 {x : Int} (d : am_at Y pc .iand 1 nx) (hx : 0 ≤ x ∧ x < 2147483648) (kk : am_AW Y M nx ls (.int (iI (x % 2)) :: st) Q) : am_AW Y M pc ls (.int (iI 1) :: .int (iI x) :: st) Q := mm_iandm 1 d rfl (by decide) hx kk
theorem mm_i2l {x : Int} (d : am_at Y pc .i2l 1 nx) (hx : -2147483648 ≤ x ∧ x < 2147483648) (kk : am_AW Y M nx ls (.long (lI x) :: st) Q) : am_AW Y M pc ls (.int (iI x) :: st) Q := am_i2l d (by rw [iI_long hx]; exact kk)
theorem mm_l2i {x : Int} (d : am_at Y pc .l2i 1 nx) (kk : am_AW Y M nx ls (.int (iI x) :: st) Q) : am_AW Y M pc ls (.long (lI x) :: st) Q := am_l2i d (by rw [lI_int x]; exact kk)
theorem mm_ladd {x y : Int} (d : am_at Y pc .ladd 1 nx) (kk : am_AW Y M nx ls (.long (lI (x + y)) :: st) Q) : am_AW Y M pc ls (.long (lI y) :: .long (lI x) :: st) Q := am_ladd d (by rw [lI_add]; exact kk)
theorem mm_lmul {x y : Int} (d : am_at Y pc .lmul 1 nx) (kk : am_AW Y M nx ls (.long (lI (x * y)) :: st) Q) : am_AW Y M pc ls (.long (lI y) :: .long (lI x) :: st) Q := am_lmul d (by rw [lI_mul]; exact kk)
theorem mm_lshl {x y : Int} (d : am_at Y pc .lshl 1 nx) (hy : 0 ≤ y ∧ y < 64) (kk : am_AW Y M nx ls (.long (lI (x * 2 ^ y.toNat)) :: st) Q) : am_AW Y M pc ls (.int (iI y) :: .long (lI x) :: st) Q := am_lshl d (by rw [lI_shl hy]; exact kk)
theorem mm_lora {x y : Int} (k : Nat) (d : am_at Y pc .lor 1 nx) (hx : 0 ≤ x) (hy : 0 ≤ y ∧ y < 2 ^ k) (kk : am_AW Y M nx ls (.long (lI (x * 2 ^ k + y)) :: st) Q) : am_AW Y M pc ls (.long (lI y) :: .long (lI (x * 2 ^ k)) :: st) Q := am_lor d (by rw [lI_or_add k hx hy]; exact kk)
def cpyS (S : mm_S) (a0 a n : Nat) : mm_S := fun b j => if b = a ∧ j < n then S a0 j else S b j
theorem mm_copy0 {idx a0 a n0 n1 : Nat} {g0 g1 : Nat → Option Nat} {n : Int} (d : am_at Y pc (.invokestatic idx) 3 nx) (w1 : Cond.methodLink Y.1.cls idx arraycopyName ∈ am_tbl) (h0 : sh[a0]? = some (.inl (0, n0, g0))) (h1 : sh[a]? = some (.inl (0, n1, g1))) (hn : 0 ≤ n ∧ n ≤ n0 ∧ n ≤ n1 ∧ n < 2147483648) (hf : 1 ≤ Y.2.2.2.2.1) (hlo : (st.map fun v => v.category).sum + (nativeFrameWords "java/lang/System" "arraycopy" 5 + 11) ≤ Y.2.2.2.2.2)
    (k : am_AW Y (mm sh (cpyS S a0 a n.toNat) L) nx ls st Q) : am_AW Y (mm sh S L) pc ls (.int (iI n) :: .int (iI 0) :: .ref a :: .int (iI 0) :: .ref a0 :: st) Q := by
  have e0 : (iI 0).toNatClampNeg = 0 := rfl
  have en : (iI n).toNatClampNeg = n.toNat := iI_clamp hn.1 hn.2.2.2
  refine am_copyi d w1 nat_copy st_copy iniJ10 (mm_get h0) (mm_get h1) (by decide) (by decide) (fun h => ?_) (by rw [e0, en]; omega) (by rw [e0, en]; omega) hf hlo ?_
  · rw [← iI_0, iI_lt (by omega) (by omega)] at h; omega
  · rw [e0, en, mm_set (S' := cpyS S a0 a n.toNat) (L' := L) h1 ?_ (fun b hb => by funext j; simp [cpyS, hb]) (fun _ _ => rfl)]
    · exact k
    · show (Sum.inl _ : am_C) = Sum.inl _
      congr 4
      funext q
      by_cases hq : q < n.toNat <;> simp [va_cpy, cpyS, hq]
end
