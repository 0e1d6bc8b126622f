/-! ===== told ANSWERS: bits of a long ===== -/
def bitA (x : Int64) (i : Nat) : Prop := x.toBitVec.toNat / 2 ^ i % 2 = 1
theorem bv_one {v : BitVec 64} {j : Nat} : ((v >>> j) &&& 1#64).toNat = v.toNat / 2 ^ j % 2 := by
  rw [BitVec.toNat_and, BitVec.toNat_ushiftRight, Nat.shiftRight_eq_div_pow]
  show v.toNat / 2 ^ j &&& 1 = _
  exact Nat.and_one_is_mod _
theorem sh_iI {i : Nat} (hi : i < 64) : ((iI (i : Int)).toInt64.toUInt64 &&& Int64.toUInt64 63).toNat = i := by
  have key : ∀ j : Fin 64, ((iI (j.val : Int)).toInt64.toUInt64 &&& Int64.toUInt64 63).toNat = j.val := by decide +kernel
  exact key ⟨i, hi⟩
theorem bA_u {x : Int64} {i : Nat} (hi : i < 64) : ((x.toUInt64 >>> ((iI (i : Int)).toInt64.toUInt64 &&& Int64.toUInt64 63)).toInt64 &&& lI 1).toBitVec.toNat = x.toBitVec.toNat / 2 ^ i % 2 := by
  have h := sh_iI hi
  show (((x.toUInt64 >>> _).toInt64).toBitVec &&& (lI 1).toBitVec).toNat = _
  rw [show (lI 1).toBitVec = 1#64 from by decide +kernel, BitVec.toNat_and]
  show (x.toUInt64 >>> _).toNat &&& 1 = _
  rw [UInt64.toNat_shiftRight, h, Nat.shiftRight_eq_div_pow, Nat.mod_eq_of_lt hi, Nat.and_one_is_mod]
  rfl
theorem bA_s {x : Int64} {i : Nat} (hi : i < 64) : (x >>> ((iI (i : Int)).toInt64 &&& 63) &&& lI 1).toBitVec.toNat = x.toBitVec.toNat / 2 ^ i % 2 := by
  have hlt : x.toBitVec.toNat < 18446744073709551616 := x.toBitVec.isLt
  have e2 : (x.toInt = (x.toBitVec.toNat : Int) ∧ 2 * x.toBitVec.toNat < 18446744073709551616) ∨ (x.toInt = (x.toBitVec.toNat : Int) - 18446744073709551616 ∧ ¬ 2 * x.toBitVec.toNat < 18446744073709551616) := by
    have e : x.toInt = x.toBitVec.toInt := rfl
    rw [e, BitVec.toInt_eq_toNat_cond]
    by_cases z : 2 * x.toBitVec.toNat < 2 ^ 64
    · left; rw [if_pos z]; exact ⟨rfl, z⟩
    · right; rw [if_neg z]; exact ⟨rfl, z⟩
  have h0 := lI_shr (x := x.toInt) (y := (i : Int)) (by omega) (by omega)
  rw [lI_of, Int.toNat_natCast] at h0
  rw [h0]
  show ((lI (x.toInt / 2 ^ i)).toBitVec &&& (lI 1).toBitVec).toNat = _
  rw [show (lI 1).toBitVec = 1#64 from by decide +kernel, BitVec.toNat_and]
  show (lI (x.toInt / 2 ^ i)).toBitVec.toNat &&& 1 = _
  rw [Nat.and_one_is_mod]
  have e1 : (lI (x.toInt / 2 ^ i)).toBitVec = BitVec.ofInt 64 (x.toInt / 2 ^ i) := rfl
  rw [e1, BitVec.toNat_ofInt]
  obtain ⟨v, hv⟩ : ∃ v, x.toBitVec.toNat = v := ⟨_, rfl⟩
  rw [hv] at e2 ⊢
  have hp : (0 : Int) < 2 ^ i := Int.pow_pos (by decide)
  have e3 : ((2 : Int) ^ i) = ((2 ^ i : Nat) : Int) := by push_cast; rfl
  have hd : ∃ c : Nat, 18446744073709551616 = 2 ^ i * (2 * c) := ⟨2 ^ (63 - i), by rw [show 2 * 2 ^ (63 - i) = 2 ^ (63 - i + 1) by rw [Nat.pow_succ]; omega, ← Nat.pow_add, show i + (63 - i + 1) = 64 by omega]⟩
  obtain ⟨c, hc⟩ := hd
  have q : ((18446744073709551616 : Nat) : Int) = ((2 ^ i * (2 * c) : Nat) : Int) := congrArg (fun n : Nat => (n : Int)) hc
  rw [Int.natCast_mul, Int.natCast_mul, ← e3] at q
  have q : (18446744073709551616 : Int) = (2 : Int) ^ i * (2 * (c : Int)) := q
  have qv : ((v / 2 ^ i : Nat) : Int) = (v : Int) / (2 : Int) ^ i := by rw [e3]; push_cast; rfl
  have key : x.toInt / 2 ^ i % 2 = ((v / 2 ^ i % 2 : Nat) : Int) := by
    rcases e2 with ⟨z, -⟩ | ⟨z, -⟩
    · rw [z, ← qv]; omega
    · have w : (v : Int) - 18446744073709551616 = (v : Int) + (2 : Int) ^ i * (-(2 * (c : Int))) := by
        rw [Int.mul_neg, ← q]
        omega
      rw [z, w, Int.add_mul_ediv_left _ _ (by omega), ← qv]
      omega
  have k2 : ∀ z : Int, (z % ((2 ^ 64 : Nat) : Int)).toNat % 2 = (z % 2).toNat := fun z => by omega
  rw [k2, key]
  omega
theorem bA_z {z : Int64} : z.toBitVec.toNat = 0 ↔ z = lI 0 := by
  constructor
  · intro h
    apply Int64.toBitVec_inj.mp
    apply BitVec.eq_of_toNat_eq
    rw [h]
    rfl
  · intro h
    rw [h]
    rfl
theorem bA_1 {z : Int64} : z.toBitVec.toNat = 1 ↔ z = lI 1 := by
  constructor
  · intro h
    apply Int64.toBitVec_inj.mp
    apply BitVec.eq_of_toNat_eq
    rw [h]
    rfl
  · intro h
    rw [h]
    rfl
