/-! ===== A table with open places: pure. f: the table (numbers plus one; 0: open), len: its length, n: how many, key: what is numbered, h: where a search begins ===== -/
def czF (f : Nat → Int) : Nat → Nat
  | 0 => 0
  | t + 1 => czF f t + (if f t = 0 then 1 else 0)
theorem czF_congr {f g : Nat → Int} : ∀ {n : Nat}, (∀ t, t < n → f t = g t) → czF f n = czF g n
  | 0, _ => rfl
  | n + 1, h => by simp only [czF]; rw [czF_congr (n := n) (fun t ht => h t (by omega)), h n (Nat.lt_succ_self n)]
theorem czF_up {f : Nat → Int} {t : Nat} {x : Int} (h0 : f t = 0) (hx : x ≠ 0) : ∀ {n : Nat}, t < n → czF (ud f t x) n + 1 = czF f n
  | 0, h => absurd h (Nat.not_lt_zero _)
  | n + 1, h => by
    simp only [czF]
    by_cases e : t = n
    · subst e
      rw [ud_same, if_neg hx, if_pos h0, czF_congr (f := ud f t x) (g := f) (fun i hi => ud_ne (by omega))]
    · have := czF_up h0 hx (show t < n by omega)
      rw [ud_ne (by omega)]
      omega
theorem czF_pos {f : Nat → Int} : ∀ {n : Nat}, 0 < czF f n → ∃ t, t < n ∧ f t = 0
  | 0, h => absurd h (Nat.not_lt_zero _)
  | n + 1, h => by
    simp only [czF] at h
    by_cases e : f n = 0
    · exact ⟨n, Nat.lt_succ_self n, e⟩
    · rw [if_neg e] at h
      obtain ⟨t, h1, h2⟩ := czF_pos (n := n) (by omega)
      exact ⟨t, by omega, h2⟩
theorem czF_all {f : Nat → Int} : ∀ {n : Nat}, (∀ t, t < n → f t = 0) → czF f n = n
  | 0, _ => rfl
  | n + 1, h => by simp only [czF]; rw [czF_all (n := n) (fun t ht => h t (by omega)), if_pos (h n (Nat.lt_succ_self n))]
def tbI {α : Type} (f : Nat → Int) (len n : Nat) (key : Nat → α) (h : α → Nat) : Prop := 0 < len ∧ (∀ t, t < len → 0 ≤ f t ∧ f t ≤ n) ∧ (∀ i, i < n → ∃ d, d < len ∧ f ((h (key i) + d) % len) = (i : Int) + 1 ∧ ∀ e, e < d → f ((h (key i) + e) % len) ≠ 0) ∧ czF f len + n = len
theorem tb_empty {α : Type} {f : Nat → Int} {len : Nat} {key : Nat → α} {h : α → Nat} (hl : 0 < len) (h0 : ∀ t, t < len → f t = 0) : tbI f len 0 key h := ⟨hl, fun t ht => by rw [h0 t ht]; omega, fun i hi => absurd hi (Nat.not_lt_zero i), by rw [czF_all h0]; rfl⟩
theorem tb_congr {α : Type} {f g : Nat → Int} {len n : Nat} {key key' : Nat → α} {h : α → Nat} (hI : tbI f len n key h) (hf : ∀ t, t < len → g t = f t) (hk : ∀ i, i < n → key' i = key i) : tbI g len n key' h := by
  obtain ⟨h1, h2, h3, h4⟩ := hI
  refine ⟨h1, fun t ht => by rw [hf t ht]; exact h2 t ht, fun i hi => ?_, by rw [czF_congr hf]; exact h4⟩
  obtain ⟨d, d1, d2, d3⟩ := h3 i hi
  refine ⟨d, d1, ?_, fun e he => ?_⟩
  · rw [hk i hi, hf _ (Nat.mod_lt _ h1)]; exact d2
  · rw [hk i hi, hf _ (Nat.mod_lt _ h1)]; exact d3 e he
/-- a search comes to an open place -/
theorem tb_open {α : Type} {f : Nat → Int} {len n : Nat} {key : Nat → α} {h : α → Nat} (hI : tbI f len n key h) (hn : n < len) (H : Nat) : ∃ D, D < len ∧ f ((H + D) % len) = 0 := by
  obtain ⟨h1, h2, h3, h4⟩ := hI
  obtain ⟨t, t1, t2⟩ := czF_pos (f := f) (n := len) (by omega)
  refine ⟨(t + (len - H % len)) % len, Nat.mod_lt _ h1, ?_⟩
  have e : (H + (t + (len - H % len)) % len) % len = t := by
    have hm := Nat.mod_lt H h1
    have hd := Nat.div_add_mod H len
    rw [Nat.add_mod, Nat.mod_mod, ← Nat.add_mod]
    have e2 : H + (t + (len - H % len)) = t + len * (H / len + 1) := by rw [Nat.mul_add]; omega
    rw [e2, Nat.add_mul_mod_self_left, Nat.mod_eq_of_lt t1]
  rw [e]; exact t2
/-- at an open place: it isn't there -/
theorem tb_not {α : Type} {f : Nat → Int} {len n : Nat} {key : Nat → α} {h : α → Nat} (hI : tbI f len n key h) {k : α} {d : Nat} (h0 : f ((h k + d) % len) = 0) (hd : ∀ e, e < d → f ((h k + e) % len) ≠ 0 ∧ key (f ((h k + e) % len) - 1).toNat ≠ k) : ∀ i, i < n → key i ≠ k := by
  intro i hi e
  obtain ⟨h1, h2, h3, h4⟩ := hI
  obtain ⟨D, d1, d2, d3⟩ := h3 i hi
  rw [e] at d2 d3
  by_cases c1 : D < d
  · have := (hd D c1).2
    rw [d2] at this
    exact this (by rw [show ((i : Int) + 1 - 1).toNat = i by omega]; exact e)
  · by_cases c2 : D = d
    · rw [c2, h0] at d2; omega
    · exact d3 d (by omega) h0
theorem tb_add {α : Type} {f : Nat → Int} {len n : Nat} {key : Nat → α} {h : α → Nat} (hI : tbI f len n key h) {k : α} {d : Nat} (hdl : d < len) (h0 : f ((h k + d) % len) = 0) (hd : ∀ e, e < d → f ((h k + e) % len) ≠ 0) {key' : Nat → α} (hk : ∀ i, i < n → key' i = key i) (hkn : key' n = k) : tbI (ud f ((h k + d) % len) ((n : Int) + 1)) len (n + 1) key' h := by
  obtain ⟨h1, h2, h3, h4⟩ := hI
  refine ⟨h1, fun t ht => ?_, fun i hi => ?_, ?_⟩
  · unfold ud
    have := h2 t ht
    split <;> omega
  · by_cases c : i = n
    · subst c
      rw [hkn]
      refine ⟨d, hdl, ud_same _ _ _, fun e he => ?_⟩
      have := hd e he
      unfold ud
      split
      · omega
      · exact this
    · obtain ⟨D, d1, d2, d3⟩ := h3 i (by omega)
      rw [hk i (by omega)]
      refine ⟨D, d1, ?_, fun e he => ?_⟩
      · rw [ud_ne]
        · exact d2
        · intro z; rw [z, h0] at d2; omega
      · have := d3 e he
        unfold ud
        split
        · omega
        · exact this
  · have := czF_up (x := (n : Int) + 1) h0 (by omega) (Nat.mod_lt (h k + d) h1)
    omega
/-! longs: compared, shifted -/
theorem lcmp_z (x y : Int64) : ∃ z : Int, lg_cmp x y = iI z ∧ (-1 ≤ z ∧ z ≤ 1) ∧ (z = 0 ↔ x = y) := by
  unfold lg_cmp
  by_cases h : x > y
  · rw [if_pos h]
    exact ⟨1, rfl, by omega, ⟨fun z => by omega, fun z => by subst z; exact absurd h Int64.lt_irrefl⟩⟩
  · rw [if_neg h]
    by_cases h2 : x = y
    · rw [if_pos h2]
      exact ⟨0, rfl, by omega, ⟨fun _ => h2, fun _ => rfl⟩⟩
    · rw [if_neg h2]
      exact ⟨-1, rfl, by omega, ⟨fun z => by omega, fun z => absurd z h2⟩⟩
def h52 (z : Int64) : Nat := z.toBitVec.toNat / 2 ^ 52
theorem h52_R (z : Int64) : h52 z < 4096 := by
  unfold h52
  have := z.toBitVec.isLt
  omega
theorem h52_eq (z : Int64) : ((z.toUInt64 >>> ((iI 52).toInt64.toUInt64 &&& Int64.toUInt64 63)).toInt64).toInt32 = iI (h52 z : Int) := by
  have e : ((iI 52).toInt64.toUInt64 &&& Int64.toUInt64 63).toNat = 52 := by decide
  have hR := h52_R z
  apply Int32.toBitVec_inj.mp
  apply BitVec.eq_of_toNat_eq
  show ((z.toUInt64 >>> ((iI 52).toInt64.toUInt64 &&& Int64.toUInt64 63)).toInt64).toInt32.toBitVec.toNat = (BitVec.ofInt 32 (h52 z : Int)).toNat
  have e2 : ((z.toUInt64 >>> ((iI 52).toInt64.toUInt64 &&& Int64.toUInt64 63)).toInt64).toInt32.toBitVec = ((z.toUInt64 >>> ((iI 52).toInt64.toUInt64 &&& Int64.toUInt64 63)).toBitVec).signExtend 32 := rfl
  rw [e2, BitVec.signExtend_eq_setWidth_of_le _ (by decide), BitVec.toNat_setWidth]
  have e3 : (z.toUInt64 >>> ((iI 52).toInt64.toUInt64 &&& Int64.toUInt64 63)).toBitVec.toNat = h52 z := by
    show (z.toUInt64 >>> ((iI 52).toInt64.toUInt64 &&& Int64.toUInt64 63)).toNat = _
    rw [UInt64.toNat_shiftRight, e, Nat.shiftRight_eq_div_pow]
    rfl
  rw [e3, BitVec.toNat_ofInt]
  omega
