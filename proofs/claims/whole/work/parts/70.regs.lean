/-! ===== The reference: its registers (var 198, own 199, lent 181.22, pend 200) ===== -/
abbrev rgT : Type := (Nat → Int) × (Nat → Int) × Int × (Nat → Int)
def ud (f : Nat → Int) (v : Nat) (x : Int) : Nat → Int := fun j => if j = v then x else f j
theorem ud_same (f : Nat → Int) (v : Nat) (x : Int) : ud f v x v = x := by simp [ud]
theorem ud_ne {f : Nat → Int} {v j : Nat} {x : Int} (h : j ≠ v) : ud f v x j = f j := by simp [ud, h]
def nrm (n : Nat) (f : Nat → Int) : Nat → Int := fun j => if j < n then f j else 0
theorem nrm_in {n : Nat} {f : Nat → Int} {j : Nat} (h : j < n) : nrm n f j = f j := by simp [nrm, h]
theorem nrm_up {n : Nat} {S : mm_S} {a i : Nat} {x : Int} (h : i < n) : nrm n (up2 S a i x a) = ud (nrm n (S a)) i x := by
  funext j
  unfold nrm ud up2
  by_cases hj : j = i
  · subst hj; simp [h]
  · simp [hj]
def rgS (S : mm_S) : rgT := (nrm 5 (S 198), nrm 5 (S 199), S 181 22, nrm 6 (S 200))
theorem rgS_eq {S S' : mm_S} (h1 : S' 198 = S 198) (h2 : S' 199 = S 199) (h3 : S' 181 22 = S 181 22) (h4 : S' 200 = S 200) : rgS S' = rgS S := by unfold rgS; rw [h1, h2, h3, h4]
theorem lI_sub (a b : Int) : lI a - lI b = lI (a - b) := (Int64.ofInt_sub a b).symm
def unM (p : Int) : rgT := (nrm 5 (fun j => p / 2 ^ (3 * (j : Int)).toNat % 2 ^ 3), nrm 5 (fun j => p / 2 ^ (15 + 6 * (j : Int)).toNat % 2 ^ 6), p / 2 ^ (45 : Int).toNat % 2 ^ 3, nrm 6 (fun j => p / 2 ^ (48 + 2 * (j : Int)).toNat % 2 ^ 2))
def un1 (S : mm_S) (p : Int) (v : Nat) : mm_S := fun b j => if b = 198 ∧ j < v then p / 2 ^ (3 * (j : Int)).toNat % 2 ^ 3 else if b = 199 ∧ j < v then p / 2 ^ (15 + 6 * (j : Int)).toNat % 2 ^ 6 else S b j
def un2 (S : mm_S) (p : Int) (v : Nat) : mm_S := fun b j => if b = 200 ∧ j < v then p / 2 ^ (48 + 2 * (j : Int)).toNat % 2 ^ 2 else S b j
def unS (S : mm_S) (p : Int) : mm_S := un2 (up2 (un1 S p 5) 181 22 (p / 2 ^ (45 : Int).toNat % 2 ^ 3)) p 6
theorem un1_0 (S : mm_S) (p : Int) : un1 S p 0 = S := by funext b j; simp [un1]
theorem un2_0 (S : mm_S) (p : Int) : un2 S p 0 = S := by funext b j; simp [un2]
theorem un1_s (S : mm_S) (p : Int) (v : Nat) : up2 (up2 (un1 S p v) 198 v (p / 2 ^ (3 * (v : Int)).toNat % 2 ^ 3)) 199 v (p / 2 ^ (15 + 6 * (v : Int)).toNat % 2 ^ 6) = un1 S p (v + 1) := by
  funext b j
  simp only [un1, up2]
  by_cases h1 : b = 198
  · subst h1
    by_cases h2 : j = v
    · subst h2; simp
    · simp [h2, show (j < v + 1) ↔ j < v by omega]
  · by_cases h3 : b = 199
    · subst h3
      by_cases h2 : j = v
      · subst h2; simp
      · simp [h2, show (j < v + 1) ↔ j < v by omega]
    · simp [h1, h3]
theorem un2_s (S : mm_S) (p : Int) (v : Nat) : up2 (un2 S p v) 200 v (p / 2 ^ (48 + 2 * (v : Int)).toNat % 2 ^ 2) = un2 S p (v + 1) := by
  funext b j
  simp only [un2, up2]
  by_cases h1 : b = 200
  · subst h1
    by_cases h2 : j = v
    · subst h2; simp
    · simp [h2, show (j < v + 1) ↔ j < v by omega]
  · simp [h1]
theorem unS_rd {S : mm_S} {p : Int} {b : Nat} (h1 : b ≠ 198) (h2 : b ≠ 199) (h3 : b ≠ 200) (h4 : b ≠ 181) : unS S p b = S b := by
  funext j
  simp [unS, un2, un1, up2, h1, h2, h3, h4]
theorem unS_rc {S : mm_S} {p : Int} {j : Nat} (h : j ≠ 22) : unS S p 181 j = S 181 j := by
  simp [unS, un2, un1, up2, h]
theorem rgS_un (S : mm_S) (p : Int) : rgS (unS S p) = unM p := by
  unfold rgS unM
  refine Prod.ext ?_ (Prod.ext ?_ (Prod.ext ?_ ?_))
  · funext j
    by_cases h : j < 5 <;> simp [nrm, h, unS, un2, un1, up2]
  · funext j
    by_cases h : j < 5 <;> simp [nrm, h, unS, un2, un1, up2]
  · simp [unS, un2, up2]
  · funext j
    by_cases h : j < 6 <;> simp [nrm, h, unS, un2]
section
variable {Y : am_Y} {M : am_M} {pc nx tgt : Nat} {ls : List (Option Value)} {st : List Value} {Q : Option Value → am_M → Prop}
theorem mm_lsub {x y : Int} (d : am_at Y pc .lsub 1 nx) (kk : am_AW Y M nx ls (.long (lI (x - y)) :: st) Q) : am_AW Y M pc ls (.long (lI y) :: .long (lI x) :: st) Q := am_lsub d (by rw [lI_sub]; exact kk)
theorem mm_landm {x m : Int} (k : Nat) (d : am_at Y pc .land 1 nx) (hm : m = 2 ^ k - 1) (hk : k ≤ 62) (hx : 0 ≤ x) (kk : am_AW Y M nx ls (.long (lI (x % 2 ^ k)) :: st) Q) : am_AW Y M pc ls (.long (lI m) :: .long (lI x) :: st) Q := am_land d (by rw [hm, lI_and_msk k hk hx]; exact kk)
end
set_option maxRecDepth 100000 in
set_option maxHeartbeats 4000000 in
theorem m_bits {M : am_M} {p f : Int} {k : Nat} (hp : 0 ≤ p ∧ p < 9223372036854775808) (hf : 0 ≤ f ∧ f < 64) (hk : k ≤ 62) : am_E eX10_bits [.long (lI p), .int (iI f), .int (iI (k : Int))] M (fun r M' => r = some (.long (lI (p / 2 ^ f.toNat % 2 ^ k))) ∧ M' = M) := by
  refine am_enter rfl rfl (Nat.le_of_ble_eq_true rfl) ?_
  refine am_lload_n rfl dX10_bits_0 ?_
  refine am_iload_n rfl dX10_bits_1 ?_
  refine mm_lshr dX10_bits_2 (by omega) (by omega) ?_
  refine am_lconst (v := lI 1) (by decide) dX10_bits_3 ?_
  refine am_iload_n rfl dX10_bits_4 ?_
  refine mm_lshl dX10_bits_5 (by omega) ?_
  refine am_lconst (v := lI 1) (by decide) dX10_bits_6 ?_
  refine mm_lsub dX10_bits_7 ?_
  refine mm_landm k dX10_bits_8 (by rw [Int.toNat_natCast]; omega) hk (Int.ediv_nonneg hp.1 (by have : (0 : Int) < 2 ^ f.toNat := Int.pow_pos (by decide); omega)) ?_
  exact am_lreturn dX10_bits_9 rfl ⟨rfl, rfl⟩
set_option maxRecDepth 100000 in
set_option maxHeartbeats 4000000 in
theorem l_un1 {sh : List mm_H} {S : mm_S} {L : mm_L} (hm : mdS sh) {p : Int} (hp : 0 ≤ p ∧ p < 9223372036854775808) {Q : Option Value → am_M → Prop} (kk : am_AW eX10_unpack (mm sh (un1 S p 5) L) 48 [some (.ref 181), some (.long (lI p)), none, none] [] Q) : ∀ (q : Nat) (v : Nat), 5 - v < q → (v ≤ 5) → am_AW eX10_unpack (mm sh (un1 S p v) L) 2 [some (.ref 181), some (.long (lI p)), none, some (.int (iI (v : Int)))] [] Q := by
  intro q
  induction q with
  | zero =>
    intro v hq
    exact absurd hq (Nat.not_lt_zero _)
  | succ q ih =>
    intro v hq hv
    refine am_iload_n rfl dX10_unpack_2 ?_
    refine mm_iconst dX10_unpack_3 ?_
    refine mm_jge (tgt := 48) dX10_unpack_4 (by decide) (by omega) (by omega) (fun h4 => ?_) (fun h4 => ?_)
    · have h5 : v = 5 := by omega
      subst h5
      exact am_AW.unset 3 kk
    · refine am_aload_n rfl dX10_unpack_7 ?_
      refine mm_getR dX10_unpack_8 fl_X10_63 (md_0 hm) mdf_20 ?_
      refine am_iload_n rfl dX10_unpack_11 ?_
      refine am_lload_n rfl dX10_unpack_12 ?_
      refine mm_iconst dX10_unpack_13 ?_
      refine am_iload_n rfl dX10_unpack_14 ?_
      refine mm_imul dX10_unpack_15 ?_
      refine mm_iconst dX10_unpack_16 ?_
      refine am_cl (mm_S3 dX10_unpack_17 in_X10_bits mk_X10_218 st_X10_bits ⟨Nat.le_of_ble_eq_true rfl, Nat.le_of_ble_eq_true rfl⟩ (Nat.le_of_ble_eq_true rfl)) (m_bits (k := 3) hp (by omega) (by omega)) ?_
      refine mm_l2i dX10_unpack_20 ?_
      refine mm_ias dX10_unpack_21 (md_var hm) (by omega) ?_
      rw [Int.toNat_natCast]
      refine am_aload_n rfl dX10_unpack_22 ?_
      refine mm_getR dX10_unpack_23 fl_X10_66 (md_0 hm) mdf_21 ?_
      refine am_iload_n rfl dX10_unpack_26 ?_
      refine am_lload_n rfl dX10_unpack_27 ?_
      refine mm_bipush dX10_unpack_28 (by decide) ?_
      refine mm_bipush dX10_unpack_30 (by decide) ?_
      refine am_iload_n rfl dX10_unpack_32 ?_
      refine mm_imul dX10_unpack_33 ?_
      refine mm_iadd dX10_unpack_34 ?_
      refine mm_bipush dX10_unpack_35 (by decide) ?_
      refine am_cl (mm_S3 dX10_unpack_37 in_X10_bits mk_X10_218 st_X10_bits ⟨Nat.le_of_ble_eq_true rfl, Nat.le_of_ble_eq_true rfl⟩ (Nat.le_of_ble_eq_true rfl)) (m_bits (k := 6) hp (by omega) (by omega)) ?_
      refine mm_l2i dX10_unpack_40 ?_
      refine mm_ias dX10_unpack_41 (md_own hm) (by omega) ?_
      rw [Int.toNat_natCast]
      refine mm_inc3 dX10_unpack_42 (Nat.le_of_ble_eq_true rfl) am_c1n ?_
      refine am_goto (tgt := 2) dX10_unpack_45 (by decide) ?_
      have h9 := ih (v + 1) (by omega) (by omega)
      rw [← un1_s] at h9
      exact h9
set_option maxRecDepth 100000 in
set_option maxHeartbeats 4000000 in
theorem l_un2 {sh : List mm_H} {S : mm_S} {L : mm_L} (hm : mdS sh) {p : Int} (hp : 0 ≤ p ∧ p < 9223372036854775808) : ∀ (q : Nat) (v : Nat), 6 - v < q → (v ≤ 6) → am_AW eX10_unpack (mm sh (un2 S p v) L) 62 [some (.ref 181), some (.long (lI p)), none, some (.int (iI (v : Int)))] [] (fun r M' => r = none ∧ M' = mm sh (un2 S p 6) L) := by
  intro q
  induction q with
  | zero =>
    intro v hq
    exact absurd hq (Nat.not_lt_zero _)
  | succ q ih =>
    intro v hq hv
    refine am_iload_n rfl dX10_unpack_62 ?_
    refine mm_bipush dX10_unpack_63 (by decide) ?_
    refine mm_jge (tgt := 92) dX10_unpack_65 (by decide) (by omega) (by omega) (fun h65 => ?_) (fun h65 => ?_)
    · have h5 : v = 6 := by omega
      subst h5
      exact am_return dX10_unpack_92 rfl ⟨rfl, rfl⟩
    · refine am_aload_n rfl dX10_unpack_68 ?_
      refine mm_getR dX10_unpack_69 fl_X10_69 (md_0 hm) mdf_23 ?_
      refine am_iload_n rfl dX10_unpack_72 ?_
      refine am_lload_n rfl dX10_unpack_73 ?_
      refine mm_bipush dX10_unpack_74 (by decide) ?_
      refine mm_iconst dX10_unpack_76 ?_
      refine am_iload_n rfl dX10_unpack_77 ?_
      refine mm_imul dX10_unpack_78 ?_
      refine mm_iadd dX10_unpack_79 ?_
      refine mm_iconst dX10_unpack_80 ?_
      refine am_cl (mm_S3 dX10_unpack_81 in_X10_bits mk_X10_218 st_X10_bits ⟨Nat.le_of_ble_eq_true rfl, Nat.le_of_ble_eq_true rfl⟩ (Nat.le_of_ble_eq_true rfl)) (m_bits (k := 2) hp (by omega) (by omega)) ?_
      refine mm_l2i dX10_unpack_84 ?_
      refine mm_ias dX10_unpack_85 (md_pend hm) (by omega) ?_
      rw [Int.toNat_natCast]
      refine mm_inc3 dX10_unpack_86 (Nat.le_of_ble_eq_true rfl) am_c1n ?_
      refine am_goto (tgt := 62) dX10_unpack_89 (by decide) ?_
      have h9 := ih (v + 1) (by omega) (by omega)
      rw [← un2_s] at h9
      exact h9
set_option maxRecDepth 100000 in
set_option maxHeartbeats 4000000 in
theorem m_unpack {sh : List mm_H} {S : mm_S} {L : mm_L} (hm : mdS sh) {p : Int} (hp : 0 ≤ p ∧ p < 9223372036854775808) : am_E eX10_unpack [.ref 181, .long (lI p)] (mm sh S L) (fun r M' => r = none ∧ M' = mm sh (unS S p) L) := by
  refine am_enter rfl rfl (Nat.le_of_ble_eq_true rfl) ?_
  refine mm_iconst dX10_unpack_0 ?_
  refine am_ist3 dX10_unpack_1 (Nat.le_of_ble_eq_true rfl) am_c1n ?_
  have h8 := l_un1 (S := S) (L := L) hm hp (Q := fun r M' => r = none ∧ M' = mm sh (unS S p) L) ?_ 6 0 (by omega) (by omega)
  · rw [un1_0] at h8
    exact h8
  refine am_aload_n rfl dX10_unpack_48 ?_
  refine am_lload_n rfl dX10_unpack_49 ?_
  refine mm_bipush dX10_unpack_50 (by decide) ?_
  refine mm_iconst dX10_unpack_52 ?_
  refine am_cl (mm_S3 dX10_unpack_53 in_X10_bits mk_X10_218 st_X10_bits ⟨Nat.le_of_ble_eq_true rfl, Nat.le_of_ble_eq_true rfl⟩ (Nat.le_of_ble_eq_true rfl)) (m_bits (k := 3) hp (by omega) (by omega)) ?_
  refine mm_l2i dX10_unpack_56 ?_
  refine mm_putI dX10_unpack_57 fp_X10_222 (md_0 hm) mdf_22 ?_
  refine mm_iconst dX10_unpack_60 ?_
  refine am_ist3 dX10_unpack_61 (Nat.le_of_ble_eq_true rfl) am_c1n ?_
  have h9 := l_un2 (S := up2 (un1 S p 5) 181 22 (p / 2 ^ (45 : Int).toNat % 2 ^ 3)) (L := L) hm hp 7 0 (by omega) (by omega)
  rw [un2_0] at h9
  exact h9
/-! ===== pack ===== -/
theorem or_lo {x y : Nat} (k : Nat) (h : x < 2 ^ k) : x ||| y * 2 ^ k = x + y * 2 ^ k := by
  rw [Nat.or_comm, Nat.mul_comm y, ← Nat.two_pow_add_eq_or_of_lt h, Nat.add_comm]
theorem or_split {l1 l2 h1 h2 : Nat} (m : Nat) (a : l1 < 2 ^ m) (b : l2 < 2 ^ m) : (h1 * 2 ^ m + l1) ||| (h2 * 2 ^ m + l2) = (h1 ||| h2) * 2 ^ m + (l1 ||| l2) := by
  have e : ∀ x y : Nat, y < 2 ^ m → x * 2 ^ m + y = x * 2 ^ m ||| y := fun x y h => by rw [Nat.mul_comm x, Nat.two_pow_add_eq_or_of_lt h]
  rw [e _ _ a, e _ _ b, e _ _ (Nat.or_lt_two_pow a b)]
  have e2 : (h1 ||| h2) * 2 ^ m = h1 * 2 ^ m ||| h2 * 2 ^ m := by
    rw [← Nat.shiftLeft_eq, ← Nat.shiftLeft_eq, ← Nat.shiftLeft_eq, Nat.shiftLeft_or_distrib]
  rw [e2]
  ac_rfl
def dgB (c : Nat → Int) (b : Nat) : Nat → Int
  | 0 => 0
  | k + 1 => dgB c b k + c k * 2 ^ (b * k)
theorem two_pos (k : Nat) : (0 : Int) < 2 ^ k := Int.pow_pos (by decide)
theorem dgB_R {c : Nat → Int} {b : Nat} : ∀ {k : Nat}, (∀ j, j < k → 0 ≤ c j ∧ c j < 2 ^ b) → 0 ≤ dgB c b k ∧ dgB c b k < 2 ^ (b * k)
  | 0, _ => by simp [dgB]
  | k + 1, h => by
    have ih := dgB_R (c := c) (b := b) (k := k) (fun j hj => h j (by omega))
    have h1 := h k (Nat.lt_succ_self k)
    have hp := two_pos (b * k)
    have e : (2 : Int) ^ (b * (k + 1)) = 2 ^ b * 2 ^ (b * k) := by rw [Nat.mul_succ, Int.pow_add, Int.mul_comm]
    simp only [dgB]
    rw [e]
    have h2 : 0 ≤ c k * 2 ^ (b * k) := Int.mul_nonneg h1.1 (by omega)
    have h3 : (c k + 1) * 2 ^ (b * k) ≤ 2 ^ b * 2 ^ (b * k) := Int.mul_le_mul_of_nonneg_right (by omega) (by omega)
    rw [Int.add_mul] at h3
    omega
theorem dig_low {X lo : Int} {m i b : Nat} (h : i + b ≤ m) : (X * 2 ^ m + lo) / 2 ^ i % 2 ^ b = lo / 2 ^ i % 2 ^ b := by
  have e : (2 : Int) ^ m = 2 ^ i * (2 ^ b * 2 ^ (m - i - b)) := by
    rw [← Int.pow_add, ← Int.pow_add]
    congr 1
    omega
  have hp := two_pos i
  rw [e, show X * (2 ^ i * (2 ^ b * 2 ^ (m - i - b))) = 2 ^ i * (2 ^ b * (X * 2 ^ (m - i - b))) by simp only [Int.mul_assoc, Int.mul_left_comm, Int.mul_comm], Int.add_comm, Int.add_mul_ediv_left _ _ (by omega), Int.add_mul_emod_self_left]
theorem dig_hi {X lo : Int} {m i : Nat} (h : 0 ≤ lo ∧ lo < 2 ^ m) : (X * 2 ^ m + lo) / 2 ^ (m + i) = X / 2 ^ i := by
  have hp := two_pos m
  rw [Int.pow_add, ← Int.ediv_ediv_of_nonneg (by omega), Int.add_comm, Int.add_mul_ediv_right _ _ (by omega), Int.ediv_eq_zero_of_lt h.1 h.2, Int.zero_add]
theorem dgB_at {c : Nat → Int} {b : Nat} : ∀ {k : Nat}, (∀ j, j < k → 0 ≤ c j ∧ c j < 2 ^ b) → ∀ j, j < k → dgB c b k / 2 ^ (b * j) % 2 ^ b = c j
  | 0, _, j, hj => absurd hj (Nat.not_lt_zero _)
  | k + 1, h, j, hj => by
    have h0 := dgB_R (c := c) (b := b) (k := k) (fun j hj => h j (by omega))
    simp only [dgB]
    rw [Int.add_comm]
    by_cases e : j = k
    · subst e
      have := dig_hi (X := c j) (i := 0) h0
      rw [Nat.add_zero, Int.pow_zero, Int.ediv_one] at this
      rw [this, Int.emod_eq_of_lt (h j (Nat.lt_succ_self j)).1 (h j (Nat.lt_succ_self j)).2]
    · rw [dig_low (by have := Nat.mul_le_mul_left b (show j + 1 ≤ k by omega); rw [Nat.mul_succ] at this; omega)]
      exact dgB_at (fun i hi => h i (by omega)) j (by omega)
/-- numbers by first use: how many, of each THING its number, what each is -/
def pkI (V O : Nat → Int) : Nat → Int × (Nat → Int) × (Nat → Int)
  | 0 => (0, fun k => if k < 2 then (k : Int) else -1, fun _ => 0)
  | k + 1 => if (pkI V O k).2.1 (V k).toNat = -1 then ((pkI V O k).1 + 1, ud (pkI V O k).2.1 (V k).toNat ((pkI V O k).1 + 2), ud (pkI V O k).2.2 (pkI V O k).1.toNat (O (V k - 2).toNat)) else pkI V O k
theorem pkI_R {V O : Nat → Int} (hV : ∀ k, k < 5 → 0 ≤ V k ∧ V k ≤ 6) (hO : ∀ j, j < 5 → 0 ≤ O j ∧ O j < 64) : ∀ k, k ≤ 5 → (0 ≤ (pkI V O k).1 ∧ (pkI V O k).1 ≤ k) ∧ (∀ j, -1 ≤ (pkI V O k).2.1 j ∧ (pkI V O k).2.1 j < (pkI V O k).1 + 2) ∧ ((pkI V O k).2.1 0 = 0 ∧ (pkI V O k).2.1 1 = 1) ∧ (∀ j, 0 ≤ (pkI V O k).2.2 j ∧ (pkI V O k).2.2 j < 64) ∧ ∀ j, j < k → 0 ≤ (pkI V O k).2.1 (V j).toNat
  | 0, _ => by
    refine ⟨by simp [pkI], fun j => ?_, by simp [pkI], fun j => by simp [pkI], fun j hj => absurd hj (Nat.not_lt_zero _)⟩
    simp only [pkI]
    split <;> omega
  | k + 1, h => by
    obtain ⟨h1, h2, h3, h4, h5⟩ := pkI_R hV hO k (by omega)
    have hk := hV k (by omega)
    simp only [pkI]
    split
    · rename_i hn
      have hg : 2 ≤ V k := by
        by_cases e0 : V k = 0
        · rw [e0] at hn; simp only [Int.toNat_zero] at hn; omega
        · by_cases e1 : V k = 1
          · rw [e1] at hn; simp only [show (1 : Int).toNat = 1 from rfl] at hn; omega
          · omega
      have ho := hO (V k - 2).toNat (by omega)
      dsimp only
      refine ⟨by omega, fun j => ?_, ⟨?_, ?_⟩, fun j => ?_, fun j hj => ?_⟩
      · by_cases e : j = (V k).toNat
        · subst e; rw [ud_same]; omega
        · rw [ud_ne e]; have := h2 j; omega
      · rw [ud_ne (by omega)]; exact h3.1
      · rw [ud_ne (by omega)]; exact h3.2
      · by_cases e : j = ((pkI V O k).1).toNat
        · subst e; rw [ud_same]; exact ho
        · rw [ud_ne e]; exact h4 j
      · by_cases e : (V j).toNat = (V k).toNat
        · rw [e, ud_same]; omega
        · rw [ud_ne e]
          by_cases e2 : j = k
          · rw [e2] at e; exact absurd rfl e
          · exact h5 j (by omega)
    · rename_i hn
      refine ⟨by omega, h2, h3, h4, fun j hj => ?_⟩
      by_cases e2 : j = k
      · rw [e2]; have := h2 (V k).toNat; omega
      · exact h5 j (by omega)
def pkM (R : rgT) : Int := ((dgB R.2.2.2 2 6 * 2 ^ 3 + R.2.2.1) * 2 ^ 30 + dgB (pkI R.1 R.2.1 5).2.2 6 5) * 2 ^ 15 + dgB (fun k => (pkI R.1 R.2.1 5).2.1 (R.1 k).toNat) 3 5
theorem pkI_congr {V V' O O' : Nat → Int} (hV : ∀ k, k < 5 → V k = V' k) (hV2 : ∀ k, k < 5 → 0 ≤ V k ∧ V k ≤ 6) (hO : ∀ j, j < 5 → O j = O' j) : ∀ k, k ≤ 5 → pkI V O k = pkI V' O' k
  | 0, _ => rfl
  | k + 1, h => by
    have ih := pkI_congr hV hV2 hO k (by omega)
    simp only [pkI]
    rw [ih, hV k (by omega)]
    have h2 := hV2 k (by omega)
    rw [hV k (by omega)] at h2
    rw [hO (V' k - 2).toNat (by omega)]
theorem dgB_congr {c c' : Nat → Int} {b : Nat} : ∀ {k : Nat}, (∀ j, j < k → c j = c' j) → dgB c b k = dgB c' b k
  | 0, _ => rfl
  | k + 1, h => by simp only [dgB]; rw [dgB_congr (k := k) (fun j hj => h j (by omega)), h k (Nat.lt_succ_self k)]
theorem lI_or2 {l1 h1 n f : Int} {k : Nat} (hk : k ≤ 4) (hl : 0 ≤ l1 ∧ l1 < 2 ^ (3 * k)) (hh : 0 ≤ h1 ∧ h1 < 2 ^ (6 * k)) (hn : 0 ≤ n ∧ n < 2 ^ 3) (hf : 0 ≤ f) : lI (h1 * 2 ^ 15 + l1) ||| (lI (n * 2 ^ (3 * (k : Int)).toNat) ||| lI (f * 2 ^ (15 + 6 * (k : Int)).toNat)) = lI ((h1 + f * 2 ^ (6 * k)) * 2 ^ 15 + (l1 + n * 2 ^ (3 * k))) := by
  have e1 : (3 * (k : Int)).toNat = 3 * k := by omega
  have e2 : (15 + 6 * (k : Int)).toNat = 15 + 6 * k := by omega
  rw [e1, e2]
  obtain ⟨l1, rfl⟩ := Int.eq_ofNat_of_zero_le hl.1
  obtain ⟨h1, rfl⟩ := Int.eq_ofNat_of_zero_le hh.1
  obtain ⟨n, rfl⟩ := Int.eq_ofNat_of_zero_le hn.1
  obtain ⟨f, rfl⟩ := Int.eq_ofNat_of_zero_le hf
  have hl2 : l1 < 2 ^ (3 * k) := by exact_mod_cast hl.2
  have hh2 : h1 < 2 ^ (6 * k) := by exact_mod_cast hh.2
  have hn2 : n < 8 := by omega
  have c1 : ((n : Int) * 2 ^ (3 * k)) = ((n * 2 ^ (3 * k) : Nat) : Int) := by push_cast; rfl
  have c2 : ((f : Int) * 2 ^ (15 + 6 * k)) = ((f * 2 ^ (15 + 6 * k) : Nat) : Int) := by push_cast; rfl
  have c3 : ((h1 : Int) * 2 ^ 15 + l1) = ((h1 * 2 ^ 15 + l1 : Nat) : Int) := by omega
  have c4 : (((h1 : Int) + f * 2 ^ (6 * k)) * 2 ^ 15 + (l1 + n * 2 ^ (3 * k))) = (((h1 + f * 2 ^ (6 * k)) * 2 ^ 15 + (l1 + n * 2 ^ (3 * k)) : Nat) : Int) := by
    have c5 : ((f : Int) * 2 ^ (6 * k)) = ((f * 2 ^ (6 * k) : Nat) : Int) := by push_cast; rfl
    rw [c5, c1]
    omega
  rw [c4, c1, c2, c3, lI_or (by omega) (by omega), Int.toNat_natCast, Int.toNat_natCast, lI_or (by omega) (by omega), Int.toNat_natCast, Int.toNat_natCast]
  congr 1
  have p3 : 2 ^ (3 * k) ≤ 2 ^ 12 := Nat.pow_le_pow_right (by decide) (by omega)
  have p4 : n * 2 ^ (3 * k) ≤ 7 * 2 ^ (3 * k) := Nat.mul_le_mul_right _ (by omega)
  have p5 : n * 2 ^ (3 * k) < 2 ^ 15 := by omega
  have e4 : n * 2 ^ (3 * k) ||| f * 2 ^ (15 + 6 * k) = (f * 2 ^ (6 * k)) * 2 ^ 15 + n * 2 ^ (3 * k) := by
    rw [show f * 2 ^ (15 + 6 * k) = (f * 2 ^ (6 * k)) * 2 ^ 15 by rw [Nat.pow_add, Nat.mul_comm (2 ^ 15), Nat.mul_assoc], or_lo 15 p5, Nat.add_comm]
  rw [e4, or_split 15 (by omega) p5, or_lo _ hl2, or_lo _ hh2]
theorem lI_or_up {x y : Int} {k : Nat} (hx : 0 ≤ x ∧ x < 2 ^ k) (hy : 0 ≤ y) : lI x ||| lI (y * 2 ^ k) = lI (y * 2 ^ k + x) := by
  have h := lI_or_add (x := y) (y := x) k hy hx
  rw [← h]
  apply Int64.toBitVec_inj.mp
  exact BitVec.or_comm _ _
def pi1 (S : mm_S) (k : Nat) : mm_S := fun b j => if b = 202 ∧ j < k then (if j < 2 then (j : Int) else -1) else S b j
def pi2 (S : mm_S) (k : Nat) : mm_S := fun b j => if b = 201 ∧ j < k then 0 else S b j
theorem pi1_s (S : mm_S) (k : Nat) {x : Int} (hx : x = if k < 2 then (k : Int) else -1) : up2 (pi1 S k) 202 k x = pi1 S (k + 1) := by
  subst hx
  funext b j
  simp only [pi1, up2]
  by_cases h1 : b = 202
  · subst h1
    by_cases h2 : j = k
    · subst h2; simp
    · simp [h2, show (j < k + 1) ↔ j < k by omega]
  · simp [h1]
theorem pi2_s (S : mm_S) (k : Nat) : up2 (pi2 S k) 201 k 0 = pi2 S (k + 1) := by
  funext b j
  simp only [pi2, up2]
  by_cases h1 : b = 201
  · subst h1
    by_cases h2 : j = k
    · subst h2; simp
    · simp [h2, show (j < k + 1) ↔ j < k by omega]
  · simp [h1]
theorem pi1_0 (S : mm_S) : pi1 S 0 = S := by funext b j; simp [pi1]
theorem pi2_0 (S : mm_S) : pi2 S 0 = S := by funext b j; simp [pi2]
/-- what pack leaves: only its own two rows have changed -/
def pkF2 (S S' : mm_S) : Prop := ∀ b, b ≠ 201 → b ≠ 202 → S' b = S b
/-- registers hold what they may -/
def rgR (S : mm_S) : Prop := (∀ k, k < 5 → 0 ≤ S 198 k ∧ S 198 k ≤ 6) ∧ (∀ k, k < 5 → 0 ≤ S 199 k ∧ S 199 k < 42) ∧ (0 ≤ S 181 22 ∧ S 181 22 < 8) ∧ ∀ k, k < 6 → 0 ≤ S 200 k ∧ S 200 k < 4
theorem dgB_0 {c : Nat → Int} {b : Nat} {x : Int} : dgB c b 0 * 2 ^ 48 + x = x := by simp only [dgB, Int.zero_mul, Int.zero_add]
def pkH (S S' : mm_S) (k : Nat) : Prop := pkF2 S S' ∧ (∀ j, j < 7 → S' 202 j = (pkI (S 198) (S 199) k).2.1 j) ∧ ∀ j, j < 5 → S' 201 j = (pkI (S 198) (S 199) k).2.2 j
set_option maxRecDepth 100000 in
set_option maxHeartbeats 4000000 in
theorem l_pk5 {sh : List mm_H} {S : mm_S} {L : mm_L} (hm : mdS sh) (hr : rgR S) {S' : mm_S} (hh : pkF2 S S') {x : Int} (hx : 0 ≤ x ∧ x < 2 ^ 48) : ∀ (q : Nat) (k : Nat), 6 - k < q → (k ≤ 6) → am_AW eX10_pack (mm sh S' L) 186 [some (.ref 181), none, some (.long (lI (dgB (S 200) 2 k * 2 ^ 48 + x))), none, some (.int (iI (k : Int)))] [] (fun r M' => r = some (.long (lI (dgB (S 200) 2 6 * 2 ^ 48 + x))) ∧ M' = mm sh S' L) := by
  intro q
  induction q with
  | zero =>
    intro k hq
    exact absurd hq (Nat.not_lt_zero _)
  | succ q ih =>
    intro k hq hk
    obtain ⟨r1, r2, r3, r4⟩ := id hr
    refine am_iload rfl dX10_pack_186 ?_
    refine mm_bipush dX10_pack_188 (by decide) ?_
    refine mm_jge (tgt := 218) dX10_pack_190 (by decide) (by omega) (by omega) (fun h190 => ?_) (fun h190 => ?_)
    · have h5 : k = 6 := by omega
      subst h5
      refine am_lload_n rfl dX10_pack_218 ?_
      exact am_lreturn dX10_pack_219 rfl ⟨rfl, rfl⟩
    · refine am_lload_n rfl dX10_pack_193 ?_
      refine am_aload_n rfl dX10_pack_194 ?_
      refine mm_getR dX10_pack_195 fl_X10_69 (md_0 hm) mdf_23 ?_
      refine am_iload rfl dX10_pack_198 ?_
      refine mm_ial dX10_pack_200 (md_pend hm) (by omega) ?_
      rw [hh 200 (by omega) (by omega), Int.toNat_natCast]
      have g1 := r4 k (by omega)
      have g2 := dgB_R (c := S 200) (b := 2) (k := k) (fun j hj => r4 j (by omega))
      refine mm_i2l dX10_pack_201 (by omega) ?_
      refine mm_bipush dX10_pack_202 (by decide) ?_
      refine mm_iconst dX10_pack_204 ?_
      refine am_iload rfl dX10_pack_205 ?_
      refine mm_imul dX10_pack_207 ?_
      refine mm_iadd dX10_pack_208 ?_
      refine mm_lshl dX10_pack_209 (by omega) ?_
      refine am_lor dX10_pack_210 ?_
      rw [show (48 + 2 * (k : Int)).toNat = 48 + 2 * k by omega, lI_or_up (k := 48 + 2 * k) (by rw [Int.pow_add]; have := two_pos (2 * k); omega) (by omega), show S 200 k * 2 ^ (48 + 2 * k) + (dgB (S 200) 2 k * 2 ^ 48 + x) = dgB (S 200) 2 (k + 1) * 2 ^ 48 + x by simp only [dgB]; rw [Int.pow_add, Int.add_mul, Int.mul_comm (2 ^ 48), Int.mul_assoc]; omega]
      refine am_lst2 dX10_pack_211 (Nat.le_of_ble_eq_true rfl) am_c1n ?_
      refine mm_inc4 dX10_pack_212 (Nat.le_of_ble_eq_true rfl) am_c1n ?_
      refine am_goto (tgt := 186) dX10_pack_215 (by decide) ?_
      exact ih (k + 1) (by omega) (by omega)
set_option maxRecDepth 100000 in
set_option maxHeartbeats 4000000 in
theorem l_pk4 {sh : List mm_H} {S : mm_S} {L : mm_L} (hm : mdS sh) (hr : rgR S) {S' : mm_S} (hh : pkH S S' 5) : ∀ (q : Nat) (k : Nat), 5 - k < q → (k ≤ 5) → am_AW eX10_pack (mm sh S' L) 121 [some (.ref 181), none, some (.long (lI (dgB (pkI (S 198) (S 199) 5).2.2 6 k * 2 ^ 15 + dgB (fun j => (pkI (S 198) (S 199) 5).2.1 (S 198 j).toNat) 3 k))), none, some (.int (iI (k : Int)))] [] (fun r M' => ∃ S', r = some (.long (lI (pkM (rgS S)))) ∧ M' = mm sh S' L ∧ pkF2 S S') := by
  intro q
  induction q with
  | zero =>
    intro k hq
    exact absurd hq (Nat.not_lt_zero _)
  | succ q ih =>
    intro k hq hk
    obtain ⟨r1, r2, r3, r4⟩ := id hr
    have nb := pkI_R (V := S 198) (O := S 199) r1 (fun j hj => ⟨(r2 j hj).1, by have := (r2 j hj).2; omega⟩) 5 (by omega)
    refine am_iload rfl dX10_pack_121 ?_
    refine mm_iconst dX10_pack_123 ?_
    refine mm_jge (tgt := 172) dX10_pack_124 (by decide) (by omega) (by omega) (fun h124 => ?_) (fun h124 => ?_)
    · have h5 : k = 5 := by omega
      subst h5
      have gl := dgB_R (c := fun j => (pkI (S 198) (S 199) 5).2.1 (S 198 j).toNat) (b := 3) (k := 5) (fun j hj => by have := nb.2.1 (S 198 j).toNat; have := nb.2.2.2.2 j hj; show 0 ≤ (pkI (S 198) (S 199) 5).2.1 (S 198 j).toNat ∧ (pkI (S 198) (S 199) 5).2.1 (S 198 j).toNat < 2 ^ 3; omega)
      have gh := dgB_R (c := (pkI (S 198) (S 199) 5).2.2) (b := 6) (k := 5) (fun j hj => nb.2.2.2.1 j)
      have hfin : dgB (S 200) 2 6 * 2 ^ 48 + (S 181 22 * 2 ^ 45 + (dgB (pkI (S 198) (S 199) 5).2.2 6 5 * 2 ^ 15 + dgB (fun j => (pkI (S 198) (S 199) 5).2.1 (S 198 j).toNat) 3 5)) = pkM (rgS S) := by
        have e0 : pkI (rgS S).1 (rgS S).2.1 5 = pkI (S 198) (S 199) 5 := (pkI_congr (fun k hk => (nrm_in hk).symm) r1 (fun k hk => (nrm_in hk).symm) 5 (by omega)).symm
        unfold pkM
        rw [e0, dgB_congr (c := (rgS S).2.2.2) (c' := S 200) (fun j hj => nrm_in hj), dgB_congr (c := fun k => (pkI (S 198) (S 199) 5).2.1 ((rgS S).1 k).toNat) (c' := fun j => (pkI (S 198) (S 199) 5).2.1 (S 198 j).toNat) (fun j hj => by show _ = (pkI (S 198) (S 199) 5).2.1 (S 198 j).toNat; rw [show (rgS S).1 j = S 198 j from nrm_in hj])]
        show _ = ((dgB (S 200) 2 6 * 2 ^ 3 + S 181 22) * 2 ^ 30 + dgB (pkI (S 198) (S 199) 5).2.2 6 5) * 2 ^ 15 + dgB (fun j => (pkI (S 198) (S 199) 5).2.1 (S 198 j).toNat) 3 5
        omega
      refine am_AW.unset 4 ?_
      refine am_lload_n rfl dX10_pack_172 ?_
      refine am_aload_n rfl dX10_pack_173 ?_
      refine mm_getI dX10_pack_174 fl_X10_222 (md_0 hm) mdf_22 ?_
      rw [hh.1 181 (by omega) (by omega)]
      refine mm_i2l dX10_pack_177 (by omega) ?_
      refine mm_bipush dX10_pack_178 (by decide) ?_
      refine mm_lshl dX10_pack_180 (by omega) ?_
      refine am_lor dX10_pack_181 ?_
      rw [show (45 : Int).toNat = 45 from rfl, lI_or_up (k := 45) (by omega) (by omega)]
      refine am_lst2 dX10_pack_182 (Nat.le_of_ble_eq_true rfl) am_c1n ?_
      refine mm_iconst dX10_pack_183 ?_
      refine am_ist4 dX10_pack_184 (Nat.le_of_ble_eq_true rfl) am_c1n ?_
      have h9 := l_pk5 (L := L) hm hr hh.1 (x := S 181 22 * 2 ^ 45 + (dgB (pkI (S 198) (S 199) 5).2.2 6 5 * 2 ^ 15 + dgB (fun j => (pkI (S 198) (S 199) 5).2.1 (S 198 j).toNat) 3 5)) (by omega) 7 0 (by omega) (by omega)
      rw [dgB_0] at h9
      exact am_AW.mono h9 (fun r M' z => ⟨S', by rw [z.1, hfin], z.2, hh.1⟩)
    · refine am_lload_n rfl dX10_pack_127 ?_
      refine am_aload_n rfl dX10_pack_128 ?_
      refine mm_getR dX10_pack_129 fl_X10_75 (md_0 hm) mdf_25 ?_
      refine am_aload_n rfl dX10_pack_132 ?_
      refine mm_getR dX10_pack_133 fl_X10_63 (md_0 hm) mdf_20 ?_
      refine am_iload rfl dX10_pack_136 ?_
      refine mm_ial dX10_pack_138 (md_var hm) (by omega) ?_
      rw [hh.1 198 (by omega) (by omega), Int.toNat_natCast]
      have g1 := r1 k (by omega)
      have g2 := nb.2.1 (S 198 k).toNat
      have g3 := nb.2.2.2.2 k (by omega)
      have g4 := nb.2.2.2.1 k
      have g5 := dgB_R (c := fun j => (pkI (S 198) (S 199) 5).2.1 (S 198 j).toNat) (b := 3) (k := k) (fun j hj => by have := nb.2.1 (S 198 j).toNat; have := nb.2.2.2.2 j (by omega); show 0 ≤ (pkI (S 198) (S 199) 5).2.1 (S 198 j).toNat ∧ (pkI (S 198) (S 199) 5).2.1 (S 198 j).toNat < 2 ^ 3; omega)
      have g6 := dgB_R (c := (pkI (S 198) (S 199) 5).2.2) (b := 6) (k := k) (fun j hj => nb.2.2.2.1 j)
      refine mm_ial dX10_pack_139 (md_numbered hm) (by omega) ?_
      rw [hh.2.1 (S 198 k).toNat (by omega)]
      refine mm_i2l dX10_pack_140 (by omega) ?_
      refine mm_iconst dX10_pack_141 ?_
      refine am_iload rfl dX10_pack_142 ?_
      refine mm_imul dX10_pack_144 ?_
      refine mm_lshl dX10_pack_145 (by omega) ?_
      refine am_aload_n rfl dX10_pack_146 ?_
      refine mm_getR dX10_pack_147 fl_X10_72 (md_0 hm) mdf_24 ?_
      refine am_iload rfl dX10_pack_150 ?_
      refine mm_ial dX10_pack_152 (md_fresh hm) (by omega) ?_
      rw [Int.toNat_natCast, hh.2.2 k (by omega)]
      refine mm_i2l dX10_pack_153 (by omega) ?_
      refine mm_bipush dX10_pack_154 (by decide) ?_
      refine mm_bipush dX10_pack_156 (by decide) ?_
      refine am_iload rfl dX10_pack_158 ?_
      refine mm_imul dX10_pack_160 ?_
      refine mm_iadd dX10_pack_161 ?_
      refine mm_lshl dX10_pack_162 (by omega) ?_
      refine am_lor dX10_pack_163 ?_
      refine am_lor dX10_pack_164 ?_
      rw [lI_or2 (by omega) g5 g6 (by omega) (by omega)]
      refine am_lst2 dX10_pack_165 (Nat.le_of_ble_eq_true rfl) am_c1n ?_
      refine mm_inc4 dX10_pack_166 (Nat.le_of_ble_eq_true rfl) am_c1n ?_
      refine am_goto (tgt := 121) dX10_pack_169 (by decide) ?_
      exact ih (k + 1) (by omega) (by omega)
set_option maxRecDepth 100000 in
set_option maxHeartbeats 4000000 in
theorem l_pk3 {sh : List mm_H} {S : mm_S} {L : mm_L} (hm : mdS sh) (hr : rgR S) : ∀ (q : Nat) (k : Nat) (S' : mm_S) (n : Int), 5 - k < q → (k ≤ 5) → (pkH S S' k) → (n = (pkI (S 198) (S 199) k).1) → am_AW eX10_pack (mm sh S' L) 54 [some (.ref 181), some (.int (iI n)), some (.int (iI (k : Int))), none, none] [] (fun r M' => ∃ S', r = some (.long (lI (pkM (rgS S)))) ∧ M' = mm sh S' L ∧ pkF2 S S') := by
  intro q
  induction q with
  | zero =>
    intro k S' n hq
    exact absurd hq (Nat.not_lt_zero _)
  | succ q ih =>
    intro k S' n hq hk hh hn
    obtain ⟨r1, r2, r3, r4⟩ := id hr
    refine am_iload_n rfl dX10_pack_54 ?_
    refine mm_iconst dX10_pack_55 ?_
    refine mm_jge (tgt := 116) dX10_pack_56 (by decide) (by omega) (by omega) (fun h56 => ?_) (fun h56 => ?_)
    · have h5 : k = 5 := by omega
      subst h5
      refine am_lconst (v := lI 0) (by decide) dX10_pack_116 ?_
      refine am_lst2 dX10_pack_117 (Nat.le_of_ble_eq_true rfl) (am_c1i _) ?_
      refine mm_iconst dX10_pack_118 ?_
      refine am_ist4 dX10_pack_119 (Nat.le_of_ble_eq_true rfl) am_c1n ?_
      refine am_AW.unset 1 ?_
      exact l_pk4 hm hr hh 6 0 (by omega) (by omega)
    · refine am_aload_n rfl dX10_pack_59 ?_
      refine mm_getR dX10_pack_60 fl_X10_75 (md_0 hm) mdf_25 ?_
      refine am_aload_n rfl dX10_pack_63 ?_
      refine mm_getR dX10_pack_64 fl_X10_63 (md_0 hm) mdf_20 ?_
      refine am_iload_n rfl dX10_pack_67 ?_
      refine mm_ial dX10_pack_68 (md_var hm) (by omega) ?_
      rw [hh.1 198 (by omega) (by omega), Int.toNat_natCast]
      have g1 := r1 k (by omega)
      have nk := pkI_R (V := S 198) (O := S 199) r1 (fun j hj => ⟨(r2 j hj).1, by have := (r2 j hj).2; omega⟩) k (by omega)
      have g2 := nk.2.1 (S 198 k).toNat
      refine mm_ial dX10_pack_69 (md_numbered hm) (by omega) ?_
      rw [hh.2.1 (S 198 k).toNat (by omega)]
      refine mm_iconst dX10_pack_70 ?_
      refine mm_jne (tgt := 110) dX10_pack_71 (by decide) (by omega) (by omega) (fun h71 => ?_) (fun h71 => ?_)
      · refine mm_inc2 dX10_pack_110 (Nat.le_of_ble_eq_true rfl) (am_c1i _) ?_
        refine am_goto (tgt := 54) dX10_pack_113 (by decide) ?_
        first
          | (refine ih (k + 1) _ _ (by omega) (by omega) ?_ ?_
             · have e : pkI (S 198) (S 199) (k + 1) = pkI (S 198) (S 199) k := by simp only [pkI]; rw [if_neg h71]
               unfold pkH; rw [e]; exact hh
             · have e : pkI (S 198) (S 199) (k + 1) = pkI (S 198) (S 199) k := by simp only [pkI]; rw [if_neg h71]
               rw [e]; exact hn)
          | (refine ih (k + 1) _ _ (by omega) (by omega) ?_ ?_
             · have e : pkI (S 198) (S 199) (k + 1) = ((pkI (S 198) (S 199) k).1 + 1, ud (pkI (S 198) (S 199) k).2.1 (S 198 k).toNat ((pkI (S 198) (S 199) k).1 + 2), ud (pkI (S 198) (S 199) k).2.2 (pkI (S 198) (S 199) k).1.toNat (S 199 (S 198 k - 2).toNat)) := by simp only [pkI]; rw [if_pos h71]
               refine ⟨fun b h1 h2 => by rw [up2_row h1, up2_row h2]; exact hh.1 b h1 h2, fun j hj => ?_, fun j hj => ?_⟩
               · rw [up2_rd (by omega), e]
                 show up2 S' 202 (S 198 k).toNat (n + 2) 202 j = ud (pkI (S 198) (S 199) k).2.1 (S 198 k).toNat ((pkI (S 198) (S 199) k).1 + 2) j
                 rw [← hn]
                 unfold ud up2
                 by_cases hq : j = (S 198 k).toNat
                 · simp [hq]
                 · simp only [hq, and_false, if_false]; exact hh.2.1 j hj
               · rw [e]
                 show up2 (up2 S' 202 (S 198 k).toNat (n + 2)) 201 n.toNat (S 199 (S 198 k - 2).toNat) 201 j = ud (pkI (S 198) (S 199) k).2.2 (pkI (S 198) (S 199) k).1.toNat (S 199 (S 198 k - 2).toNat) j
                 rw [← hn]
                 unfold ud
                 by_cases hq : j = n.toNat
                 · subst hq; rw [up2_same]; simp
                 · rw [up2_rc hq, up2_rd (by omega), if_neg hq]; exact hh.2.2 j hj
             · have e : (pkI (S 198) (S 199) (k + 1)).1 = (pkI (S 198) (S 199) k).1 + 1 := by simp only [pkI]; rw [if_pos h71]
               rw [e, hn])
      · have hg : 2 ≤ S 198 k := by
          by_cases e0 : S 198 k = 0
          · rw [e0] at h71; have := nk.2.2.1.1; simp only [Int.toNat_zero] at h71; omega
          · by_cases e1 : S 198 k = 1
            · rw [e1] at h71; have := nk.2.2.1.2; simp only [show (1 : Int).toNat = 1 from rfl] at h71; omega
            · omega
        refine am_aload_n rfl dX10_pack_74 ?_
        refine mm_getR dX10_pack_75 fl_X10_75 (md_0 hm) mdf_25 ?_
        refine am_aload_n rfl dX10_pack_78 ?_
        refine mm_getR dX10_pack_79 fl_X10_63 (md_0 hm) mdf_20 ?_
        refine am_iload_n rfl dX10_pack_82 ?_
        refine mm_ial dX10_pack_83 (md_var hm) (by omega) ?_
        rw [hh.1 198 (by omega) (by omega), Int.toNat_natCast]
        refine am_iload_n rfl dX10_pack_84 ?_
        refine mm_iconst dX10_pack_85 ?_
        refine mm_iadd dX10_pack_86 ?_
        refine mm_ias dX10_pack_87 (md_numbered hm) (by omega) ?_
        refine am_aload_n rfl dX10_pack_88 ?_
        refine mm_getR dX10_pack_89 fl_X10_72 (md_0 hm) mdf_24 ?_
        refine am_iload_n rfl dX10_pack_92 ?_
        refine am_aload_n rfl dX10_pack_93 ?_
        refine mm_getR dX10_pack_94 fl_X10_66 (md_0 hm) mdf_21 ?_
        refine am_aload_n rfl dX10_pack_97 ?_
        refine mm_getR dX10_pack_98 fl_X10_63 (md_0 hm) mdf_20 ?_
        refine am_iload_n rfl dX10_pack_101 ?_
        refine mm_ial dX10_pack_102 (md_var hm) (by omega) ?_
        rw [up2_rd (by omega), hh.1 198 (by omega) (by omega), Int.toNat_natCast]
        refine mm_iconst dX10_pack_103 ?_
        refine mm_isub dX10_pack_104 ?_
        refine mm_ial dX10_pack_105 (md_own hm) (by omega) ?_
        rw [up2_rd (by omega), hh.1 199 (by omega) (by omega)]
        refine mm_ias dX10_pack_106 (md_fresh hm) (by omega) ?_
        refine mm_inc1 dX10_pack_107 (Nat.le_of_ble_eq_true rfl) (am_c1r _) ?_
        refine mm_inc2 dX10_pack_110 (Nat.le_of_ble_eq_true rfl) (am_c1i _) ?_
        refine am_goto (tgt := 54) dX10_pack_113 (by decide) ?_
        first
          | (refine ih (k + 1) _ _ (by omega) (by omega) ?_ ?_
             · have e : pkI (S 198) (S 199) (k + 1) = pkI (S 198) (S 199) k := by simp only [pkI]; rw [if_neg h71]
               unfold pkH; rw [e]; exact hh
             · have e : pkI (S 198) (S 199) (k + 1) = pkI (S 198) (S 199) k := by simp only [pkI]; rw [if_neg h71]
               rw [e]; exact hn)
          | (refine ih (k + 1) _ _ (by omega) (by omega) ?_ ?_
             · have e : pkI (S 198) (S 199) (k + 1) = ((pkI (S 198) (S 199) k).1 + 1, ud (pkI (S 198) (S 199) k).2.1 (S 198 k).toNat ((pkI (S 198) (S 199) k).1 + 2), ud (pkI (S 198) (S 199) k).2.2 (pkI (S 198) (S 199) k).1.toNat (S 199 (S 198 k - 2).toNat)) := by simp only [pkI]; rw [if_pos h71]
               refine ⟨fun b h1 h2 => by rw [up2_row h1, up2_row h2]; exact hh.1 b h1 h2, fun j hj => ?_, fun j hj => ?_⟩
               · rw [up2_rd (by omega), e]
                 show up2 S' 202 (S 198 k).toNat (n + 2) 202 j = ud (pkI (S 198) (S 199) k).2.1 (S 198 k).toNat ((pkI (S 198) (S 199) k).1 + 2) j
                 rw [← hn]
                 unfold ud up2
                 by_cases hq : j = (S 198 k).toNat
                 · simp [hq]
                 · simp only [hq, and_false, if_false]; exact hh.2.1 j hj
               · rw [e]
                 show up2 (up2 S' 202 (S 198 k).toNat (n + 2)) 201 n.toNat (S 199 (S 198 k - 2).toNat) 201 j = ud (pkI (S 198) (S 199) k).2.2 (pkI (S 198) (S 199) k).1.toNat (S 199 (S 198 k - 2).toNat) j
                 rw [← hn]
                 unfold ud
                 by_cases hq : j = n.toNat
                 · subst hq; rw [up2_same]; simp
                 · rw [up2_rc hq, up2_rd (by omega), if_neg hq]; exact hh.2.2 j hj
             · have e : (pkI (S 198) (S 199) (k + 1)).1 = (pkI (S 198) (S 199) k).1 + 1 := by simp only [pkI]; rw [if_pos h71]
               rw [e, hn])
set_option maxRecDepth 100000 in
set_option maxHeartbeats 4000000 in
theorem l_pk2 {sh : List mm_H} {S : mm_S} {L : mm_L} (hm : mdS sh) (hr : rgR S) {S1 : mm_S} (h1 : ∀ b, b ≠ 202 → S1 b = S b) (h2 : ∀ j, j < 7 → S1 202 j = if j < 2 then (j : Int) else -1) : ∀ (q : Nat) (k : Nat), 5 - k < q → (k ≤ 5) → am_AW eX10_pack (mm sh (pi2 S1 k) L) 34 [some (.ref 181), some (.int (iI 0)), some (.int (iI (k : Int))), none, none] [] (fun r M' => ∃ S', r = some (.long (lI (pkM (rgS S)))) ∧ M' = mm sh S' L ∧ pkF2 S S') := by
  intro q
  induction q with
  | zero =>
    intro k hq
    exact absurd hq (Nat.not_lt_zero _)
  | succ q ih =>
    intro k hq hk
    refine am_iload_n rfl dX10_pack_34 ?_
    refine mm_iconst dX10_pack_35 ?_
    refine mm_jge (tgt := 52) dX10_pack_36 (by decide) (by omega) (by omega) (fun h36 => ?_) (fun h36 => ?_)
    · have h5 : k = 5 := by omega
      subst h5
      refine mm_iconst dX10_pack_52 ?_
      refine am_ist2 dX10_pack_53 (Nat.le_of_ble_eq_true rfl) (am_c1i _) ?_
      refine l_pk3 hm hr 6 0 _ 0 (by omega) (by omega) ⟨fun b g1 g2 => ?_, fun j hj => ?_, fun j hj => ?_⟩ rfl
      · funext j; simp only [pi2, g1, false_and, if_false]; rw [h1 b g2]
      · simp only [pi2, pkI]; rw [if_neg (by omega)]; exact h2 j hj
      · simp [pi2, pkI, hj]
    · refine am_aload_n rfl dX10_pack_39 ?_
      refine mm_getR dX10_pack_40 fl_X10_72 (md_0 hm) mdf_24 ?_
      refine am_iload_n rfl dX10_pack_43 ?_
      refine mm_iconst dX10_pack_44 ?_
      refine mm_ias dX10_pack_45 (md_fresh hm) (by omega) ?_
      rw [Int.toNat_natCast, pi2_s]
      refine mm_inc2 dX10_pack_46 (Nat.le_of_ble_eq_true rfl) (am_c1i _) ?_
      refine am_goto (tgt := 34) dX10_pack_49 (by decide) ?_
      exact ih (k + 1) (by omega) (by omega)
set_option maxRecDepth 100000 in
set_option maxHeartbeats 4000000 in
theorem l_pk1 {sh : List mm_H} {S : mm_S} {L : mm_L} (hm : mdS sh) (hr : rgR S) : ∀ (q : Nat) (k : Nat), 7 - k < q → (k ≤ 7) → am_AW eX10_pack (mm sh (pi1 S k) L) 4 [some (.ref 181), some (.int (iI 0)), some (.int (iI (k : Int))), none, none] [] (fun r M' => ∃ S', r = some (.long (lI (pkM (rgS S)))) ∧ M' = mm sh S' L ∧ pkF2 S S') := by
  intro q
  induction q with
  | zero =>
    intro k hq
    exact absurd hq (Nat.not_lt_zero _)
  | succ q ih =>
    intro k hq hk
    refine am_iload_n rfl dX10_pack_4 ?_
    refine mm_bipush dX10_pack_5 (by decide) ?_
    refine mm_jge (tgt := 32) dX10_pack_7 (by decide) (by omega) (by omega) (fun h7 => ?_) (fun h7 => ?_)
    · have h5 : k = 7 := by omega
      subst h5
      refine mm_iconst dX10_pack_32 ?_
      refine am_ist2 dX10_pack_33 (Nat.le_of_ble_eq_true rfl) (am_c1i _) ?_
      have h9 := l_pk2 (L := L) (S1 := pi1 S 7) hm hr (fun b hb => by funext j; simp [pi1, hb]) (fun j hj => by simp [pi1, hj]) 6 0 (by omega) (by omega)
      rw [pi2_0] at h9
      exact h9
    · refine am_aload_n rfl dX10_pack_10 ?_
      refine mm_getR dX10_pack_11 fl_X10_75 (md_0 hm) mdf_25 ?_
      refine am_iload_n rfl dX10_pack_14 ?_
      refine am_iload_n rfl dX10_pack_15 ?_
      refine mm_iconst dX10_pack_16 ?_
      refine mm_jge (tgt := 24) dX10_pack_17 (by decide) (by omega) (by omega) (fun h17 => ?_) (fun h17 => ?_)
      · refine mm_iconst dX10_pack_24 ?_
        refine mm_ias dX10_pack_25 (md_numbered hm) (by omega) ?_
        rw [Int.toNat_natCast, pi1_s S k (by first | rw [if_pos (by omega)] | rw [if_neg (by omega)])]
        refine mm_inc2 dX10_pack_26 (Nat.le_of_ble_eq_true rfl) (am_c1i _) ?_
        refine am_goto (tgt := 4) dX10_pack_29 (by decide) ?_
        exact ih (k + 1) (by omega) (by omega)
      · refine am_iload_n rfl dX10_pack_20 ?_
        refine am_goto (tgt := 25) dX10_pack_21 (by decide) ?_
        refine mm_ias dX10_pack_25 (md_numbered hm) (by omega) ?_
        rw [Int.toNat_natCast, pi1_s S k (by first | rw [if_pos (by omega)] | rw [if_neg (by omega)])]
        refine mm_inc2 dX10_pack_26 (Nat.le_of_ble_eq_true rfl) (am_c1i _) ?_
        refine am_goto (tgt := 4) dX10_pack_29 (by decide) ?_
        exact ih (k + 1) (by omega) (by omega)
set_option maxRecDepth 100000 in
set_option maxHeartbeats 4000000 in
theorem m_pack {sh : List mm_H} {S : mm_S} {L : mm_L} (hm : mdS sh) (hr : rgR S) : am_E eX10_pack [.ref 181] (mm sh S L) (fun r M' => ∃ S', r = some (.long (lI (pkM (rgS S)))) ∧ M' = mm sh S' L ∧ pkF2 S S') := by
  refine am_enter rfl rfl (Nat.le_of_ble_eq_true rfl) ?_
  refine mm_iconst dX10_pack_0 ?_
  refine am_ist1 dX10_pack_1 (Nat.le_of_ble_eq_true rfl) (am_c1r _) ?_
  refine mm_iconst dX10_pack_2 ?_
  refine am_ist2 dX10_pack_3 (Nat.le_of_ble_eq_true rfl) (am_c1i _) ?_
  have h9 := l_pk1 (L := L) hm hr 8 0 (by omega) (by omega)
  rw [pi1_0] at h9
  exact h9
