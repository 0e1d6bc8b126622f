/-! ===== Scene: pack, unpack ===== -/
/-- the first VARIABLE from w on, among n, that names what x is; -1: none -/
def sameF (nm : Nat → Int) (x : Int) : Nat → Nat → Int
  | 0, _ => -1
  | n + 1, w => if nm w = x then (w : Int) else sameF nm x n (w + 1)
abbrev sameV (nm : Nat → Int) (v : Nat) : Int := sameF nm (nm v) v 0
theorem sameF_R (nm : Nat → Int) (x : Int) : ∀ (n w : Nat), sameF nm x n w = -1 ∨ ((w : Int) ≤ sameF nm x n w ∧ sameF nm x n w < (w : Int) + n)
  | 0, w => Or.inl rfl
  | n + 1, w => by
    simp only [sameF]
    split
    · omega
    · have := sameF_R nm x n (w + 1)
      omega
def cdV (nm cd : Nat → Int) (v : Nat) : Int := if nm v = -1 then 0 else if nm v = 5 then 1 else if sameV nm v ≠ -1 then 2 + sameV nm v else 6 + cd (nm v).toNat
abbrev scCd (S : mm_S) (a : Nat) : Nat → Int := fun j => S (a + 2) j * 7 + S (a + 3) j
abbrev cdO (S : mm_S) (a v : Nat) : Int := cdV (S (a + 1)) (scCd S a) v
theorem cdO_R {S : mm_S} {a v : Nat} (h : scV S a) (hv : v < 5) : 0 ≤ cdO S a v ∧ cdO S a v < 64 := by
  have h1 := h.2.2.2.1 v hv
  have h3 : sameV (S (a + 1)) v = -1 ∨ (0 ≤ sameV (S (a + 1)) v ∧ sameV (S (a + 1)) v < v) := by
    have := sameF_R (S (a + 1)) (S (a + 1) v) v 0
    simp only [sameV]
    omega
  unfold cdO cdV
  split
  · omega
  · have h2 := h.2.2.2.2 (S (a + 1) v).toNat (by omega)
    split
    · omega
    · split
      · omega
      · show 0 ≤ 6 + (S (a + 2) (S (a + 1) v).toNat * 7 + S (a + 3) (S (a + 1) v).toNat) ∧ 6 + (S (a + 2) (S (a + 1) v).toNat * 7 + S (a + 3) (S (a + 1) v).toNat) < 64
        omega
set_option maxRecDepth 100000 in
set_option maxHeartbeats 4000000 in
theorem l_code {sh : List mm_H} {S : mm_S} {L : mm_L} {a : Nat} (hc : scS sh a) (hV : scV S a) {v : Nat} (hv : v < 5) (hn : S (a + 1) v ≠ -1 ∧ S (a + 1) v ≠ 5) : ∀ (q : Nat) (n : Nat) (w : Nat), n < q → (w + n = v) → (sameV (S (a + 1)) v = sameF (S (a + 1)) (S (a + 1) v) n w) → am_AW eX8_codeOf (mm sh S L) 23 [some (.ref a), some (.int (iI (v : Int))), some (.int (iI (S (a + 1) v))), some (.int (iI (w : Int)))] [] (fun r M' => r = some (.int (iI (cdO S a v))) ∧ M' = mm sh S L) := by
  intro q
  induction q with
  | zero =>
    intro n w hq
    exact absurd hq (Nat.not_lt_zero _)
  | succ q ih =>
    intro n w hq hw hp
    obtain ⟨hc0, hc1, hc2, hc3⟩ := id hc
    obtain ⟨v0, v1, v2, v3, v4⟩ := id hV
    refine am_iload_n rfl dX8_codeOf_23 ?_
    refine am_iload_n rfl dX8_codeOf_24 ?_
    have g1 := v3 v hv
    have g2 := v4 (S (a + 1) v).toNat (by omega)
    refine mm_jge (tgt := 48) dX8_codeOf_25 (by decide) (by omega) (by omega) (fun h25 => ?_) (fun h25 => ?_)
    · refine mm_bipush dX8_codeOf_48 (by decide) ?_
      refine am_aload_n rfl dX8_codeOf_50 ?_
      refine mm_getR dX8_codeOf_51 fl_X8_25 hc0 rfl ?_
      refine am_iload_n rfl dX8_codeOf_54 ?_
      refine mm_ial dX8_codeOf_55 hc2 (by omega) ?_
      refine mm_bipush dX8_codeOf_56 (by decide) ?_
      refine mm_imul dX8_codeOf_58 ?_
      refine mm_iadd dX8_codeOf_59 ?_
      refine am_aload_n rfl dX8_codeOf_60 ?_
      refine mm_getR dX8_codeOf_61 fl_X8_28 hc0 rfl ?_
      refine am_iload_n rfl dX8_codeOf_64 ?_
      refine mm_ial dX8_codeOf_65 hc3 (by omega) ?_
      refine mm_iadd dX8_codeOf_66 ?_
      refine am_ireturn dX8_codeOf_67 rfl rfl ?_
      have h0 : n = 0 := by omega
      subst h0
      rw [sameF] at hp
      refine ⟨?_, rfl⟩
      rw [cdO, cdV, if_neg hn.1, if_neg hn.2, if_neg (by omega)]
      congr 3
      show _ = 6 + (S (a + 2) (S (a + 1) v).toNat * 7 + S (a + 3) (S (a + 1) v).toNat)
      omega
    · refine am_aload_n rfl dX8_codeOf_28 ?_
      refine mm_getR dX8_codeOf_29 fl_X8_21 hc0 rfl ?_
      refine am_iload_n rfl dX8_codeOf_32 ?_
      refine mm_ial dX8_codeOf_33 hc1 (by omega) ?_
      rw [Int.toNat_natCast]
      refine am_iload_n rfl dX8_codeOf_34 ?_
      have g3 := v3 w (by omega)
      refine mm_jne (tgt := 42) dX8_codeOf_35 (by decide) (by omega) (by omega) (fun h35 => ?_) (fun h35 => ?_)
      · refine mm_inc3 dX8_codeOf_42 (Nat.le_of_ble_eq_true rfl) (am_c1i _) ?_
        refine am_goto (tgt := 23) dX8_codeOf_45 (by decide) ?_
        obtain ⟨n, rfl⟩ : ∃ m, n = m + 1 := ⟨n - 1, by omega⟩
        rw [sameF, if_neg (by omega)] at hp
        exact ih n (w + 1) (by omega) (by omega) hp
      · refine mm_iconst dX8_codeOf_38 ?_
        refine am_iload_n rfl dX8_codeOf_39 ?_
        refine mm_iadd dX8_codeOf_40 ?_
        refine am_ireturn dX8_codeOf_41 rfl rfl ?_
        obtain ⟨n, rfl⟩ : ∃ m, n = m + 1 := ⟨n - 1, by omega⟩
        rw [sameF, if_pos (by omega)] at hp
        refine ⟨?_, rfl⟩
        rw [cdO, cdV, if_neg hn.1, if_neg hn.2, if_pos (by omega), hp]
set_option maxRecDepth 100000 in
set_option maxHeartbeats 4000000 in
theorem c_codeOf {sh : List mm_H} {S : mm_S} {L : mm_L} {a : Nat} (hc : scS sh a) (hV : scV S a) {v : Nat} (hv : v < 5) : am_E eX8_codeOf [.ref a, .int (iI (v : Int))] (mm sh S L) (fun r M' => r = some (.int (iI (cdO S a v))) ∧ M' = mm sh S L) := by
  obtain ⟨hc0, hc1, hc2, hc3⟩ := id hc
  obtain ⟨v0, v1, v2, v3, v4⟩ := id hV
  have g1 := v3 v hv
  refine am_enter rfl rfl (Nat.le_of_ble_eq_true rfl) ?_
  refine am_aload_n rfl dX8_codeOf_0 ?_
  refine mm_getR dX8_codeOf_1 fl_X8_21 hc0 rfl ?_
  refine am_iload_n rfl dX8_codeOf_4 ?_
  refine mm_ial dX8_codeOf_5 hc1 (by omega) ?_
  rw [Int.toNat_natCast]
  refine am_ist2 dX8_codeOf_6 (Nat.le_of_ble_eq_true rfl) (am_c1i _) ?_
  refine am_iload_n rfl dX8_codeOf_7 ?_
  refine mm_iconst dX8_codeOf_8 ?_
  refine mm_jne (tgt := 14) dX8_codeOf_9 (by decide) (by omega) (by omega) (fun h9 => ?_) (fun h9 => ?_)
  · refine am_iload_n rfl dX8_codeOf_14 ?_
    refine mm_iconst dX8_codeOf_15 ?_
    refine mm_jne (tgt := 21) dX8_codeOf_16 (by decide) (by omega) (by omega) (fun h16 => ?_) (fun h16 => ?_)
    · refine mm_iconst dX8_codeOf_21 ?_
      refine am_ist3 dX8_codeOf_22 (Nat.le_of_ble_eq_true rfl) (am_c1i _) ?_
      exact l_code hc hV hv ⟨by omega, by omega⟩ (v + 1) v 0 (by omega) (by omega) rfl
    · refine mm_iconst dX8_codeOf_19 ?_
      refine am_ireturn dX8_codeOf_20 rfl rfl ?_
      exact ⟨by rw [cdO, cdV, if_neg (by omega), if_pos (by omega)], rfl⟩
  · refine mm_iconst dX8_codeOf_12 ?_
    refine am_ireturn dX8_codeOf_13 rfl rfl ?_
    exact ⟨by rw [cdO, cdV, if_pos (by omega)], rfl⟩
def pkF (c : Nat → Int) : Nat → Int
  | 0 => 0
  | n + 1 => pkF c n * 64 + c (4 - n)
theorem pkF_R {c : Nat → Int} (h : ∀ v, v < 5 → 0 ≤ c v ∧ c v < 64) : ∀ n, 0 ≤ pkF c n ∧ pkF c n < 64 ^ n
  | 0 => by simp [pkF]
  | n + 1 => by
    have := pkF_R h n
    have h2 := h (4 - n) (by omega)
    have hp : (64 : Int) ^ (n + 1) = 64 ^ n * 64 := Int.pow_succ 64 n
    simp only [pkF]
    rw [hp]
    omega
/-- what is here, as one number -/
def pkN (c : Nat → Int) (le mo pl : Int) : Int := ((pkF c 5 * 8 + le) * 4096 + mo) * 32 + pl
abbrev scPk (S : mm_S) (a : Nat) : Int := pkN (cdO S a) (S (a + 3) 5) (S a 2) (S a 1)
theorem pkN_R {c : Nat → Int} {le mo pl : Int} (h : ∀ v, v < 5 → 0 ≤ c v ∧ c v < 64) (h1 : 0 ≤ le ∧ le < 8) (h2 : 0 ≤ mo ∧ mo < 4096) (h3 : 0 ≤ pl ∧ pl < 32) : 0 ≤ pkN c le mo pl ∧ pkN c le mo pl < 1125899906842624 := by
  have := pkF_R h 5
  unfold pkN
  omega
set_option maxRecDepth 100000 in
set_option maxHeartbeats 4000000 in
theorem l_pack {sh : List mm_H} {S : mm_S} {L : mm_L} {a : Nat} (hc : scS sh a) (hV : scV S a) {Q : Option Value → am_M → Prop} (hk : am_AW eX8_pack (mm sh S L) 26 [some (.ref a), some (.long (lI (pkF (cdO S a) 5))), none, none] [] Q) : ∀ (q : Nat) (n : Nat), 5 - n < q → (n ≤ 5) → am_AW eX8_pack (mm sh S L) 4 [some (.ref a), some (.long (lI (pkF (cdO S a) n))), none, some (.int (iI (4 - (n : Int))))] [] Q := by
  intro q
  induction q with
  | zero =>
    intro n hq
    exact absurd hq (Nat.not_lt_zero _)
  | succ q ih =>
    intro n hq hn
    obtain ⟨hc0, hc1, hc2, hc3⟩ := id hc
    obtain ⟨v0, v1, v2, v3, v4⟩ := id hV
    refine am_iload_n rfl dX8_pack_4 ?_
    refine mm_zlt (tgt := 26) dX8_pack_5 (by decide) (by omega) (fun h5 => ?_) (fun h5 => ?_)
    · have h5 : n = 5 := by omega
      subst h5
      exact am_AW.unset 3 hk
    · have gp := pkF_R (c := cdO S a) (fun v hv => cdO_R hV hv) n
      have gc := cdO_R (v := 4 - n) hV (by omega)
      have e4 : (4 - (n : Int)) = ((4 - n : Nat) : Int) := by omega
      rw [e4]
      refine am_lload_n rfl dX8_pack_8 ?_
      refine mm_bipush dX8_pack_9 (by decide) ?_
      refine mm_lshl dX8_pack_11 (by omega) ?_
      refine am_aload_n rfl dX8_pack_12 ?_
      refine am_iload_n rfl dX8_pack_13 ?_
      refine am_ci (mm_V1 dX8_pack_14 in_X8_codeOf mk_X8_37 im_X8_codeOf sl_X8_codeOf ⟨Nat.le_of_ble_eq_true rfl, Nat.le_of_ble_eq_true rfl⟩ rfl hc0 (Nat.le_of_ble_eq_true rfl)) (c_codeOf (v := 4 - n) hc hV (by omega)) ?_
      refine mm_i2l dX8_pack_17 (by omega) ?_
      refine mm_lora 6 dX8_pack_18 (by omega) (by omega) ?_
      refine am_lst1 dX8_pack_19 (Nat.le_of_ble_eq_true rfl) (am_c1r _) ?_
      refine mm_inc3 dX8_pack_20 (Nat.le_of_ble_eq_true rfl) am_c1n ?_
      refine am_goto (tgt := 4) dX8_pack_23 (by decide) ?_
      have h9 := ih (n + 1) (by omega) (by omega)
      rw [show (4 - ((n + 1 : Nat) : Int)) = ((4 - n : Nat) : Int) + -1 by omega] at h9
      exact h9
set_option maxRecDepth 100000 in
set_option maxHeartbeats 4000000 in
theorem c_pack {sh : List mm_H} {S : mm_S} {L : mm_L} {a : Nat} (hc : scS sh a) (hV : scV S a) : am_E eX8_pack [.ref a] (mm sh S L) (fun r M' => r = some (.long (lI (scPk S a))) ∧ M' = mm sh S L) := by
  obtain ⟨hc0, hc1, hc2, hc3⟩ := id hc
  obtain ⟨v0, v1, v2, v3, v4⟩ := id hV
  refine am_enter rfl rfl (Nat.le_of_ble_eq_true rfl) ?_
  refine am_lconst (v := lI 0) (by decide) dX8_pack_0 ?_
  refine am_lst1 dX8_pack_1 (Nat.le_of_ble_eq_true rfl) (am_c1r _) ?_
  refine mm_iconst dX8_pack_2 ?_
  refine am_ist3 dX8_pack_3 (Nat.le_of_ble_eq_true rfl) am_c1n ?_
  refine l_pack hc hV ?_ 6 0 (by omega) (by omega)
  have gp := pkF_R (c := cdO S a) (fun v hv => cdO_R hV hv) 5
  have g5 := (v4 5 (by omega)).2
  refine am_lload_n rfl dX8_pack_26 ?_
  refine mm_iconst dX8_pack_27 ?_
  refine mm_lshl dX8_pack_28 (by omega) ?_
  refine am_aload_n rfl dX8_pack_29 ?_
  refine mm_getR dX8_pack_30 fl_X8_28 hc0 rfl ?_
  refine mm_iconst dX8_pack_33 ?_
  refine mm_ial dX8_pack_34 hc3 (by omega) ?_
  rw [show (5 : Int).toNat = 5 from rfl]
  refine mm_i2l dX8_pack_35 (by omega) ?_
  refine mm_lora 3 dX8_pack_36 (by omega) (by omega) ?_
  refine am_lst1 dX8_pack_37 (Nat.le_of_ble_eq_true rfl) (am_c1r _) ?_
  refine am_lload_n rfl dX8_pack_38 ?_
  refine mm_bipush dX8_pack_39 (by decide) ?_
  refine mm_lshl dX8_pack_41 (by omega) ?_
  refine am_aload_n rfl dX8_pack_42 ?_
  refine mm_getI dX8_pack_43 fl_X8_18 hc0 rfl ?_
  refine mm_i2l dX8_pack_46 (by omega) ?_
  refine mm_lora 12 dX8_pack_47 (by omega) (by omega) ?_
  refine am_lst1 dX8_pack_48 (Nat.le_of_ble_eq_true rfl) (am_c1r _) ?_
  refine am_lload_n rfl dX8_pack_49 ?_
  refine mm_iconst dX8_pack_50 ?_
  refine mm_lshl dX8_pack_51 (by omega) ?_
  refine am_aload_n rfl dX8_pack_52 ?_
  refine mm_getI dX8_pack_53 fl_X8_15 hc0 rfl ?_
  refine mm_i2l dX8_pack_56 (by omega) ?_
  refine mm_lora 5 dX8_pack_57 (by omega) (by omega) ?_
  refine am_lreturn dX8_pack_58 rfl ?_
  exact ⟨rfl, rfl⟩
set_option maxRecDepth 100000 in
set_option maxHeartbeats 4000000 in
theorem c_placeIn {M : am_M} {p : Int} : am_E eX8_placeIn [.long (lI p)] M (fun r M' => r = some (.int (iI (p % 32))) ∧ M' = M) := by
  refine am_enter rfl rfl (Nat.le_of_ble_eq_true rfl) ?_
  refine am_lload_n rfl dX8_placeIn_0 ?_
  refine mm_l2i dX8_placeIn_1 ?_
  refine mm_bipush dX8_placeIn_2 (by decide) ?_
  refine mm_iandg 5 dX8_placeIn_4 (by decide) (by decide) ?_
  refine am_ireturn dX8_placeIn_5 rfl rfl ?_
  exact ⟨rfl, rfl⟩
set_option maxRecDepth 100000 in
set_option maxHeartbeats 4000000 in
theorem c_caseIn {M : am_M} {p : Int} (hp : 0 ≤ p ∧ p < 9223372036854775808) : am_E eX8_caseIn [.long (lI p)] M (fun r M' => r = some (.int (iI (p / 1125899906842624 % 64))) ∧ M' = M) := by
  refine am_enter rfl rfl (Nat.le_of_ble_eq_true rfl) ?_
  refine am_lload_n rfl dX8_caseIn_0 ?_
  refine mm_bipush dX8_caseIn_1 (by decide) ?_
  refine mm_lushr dX8_caseIn_3 (by omega) (by omega) ?_
  refine mm_l2i dX8_caseIn_4 ?_
  refine mm_bipush dX8_caseIn_5 (by decide) ?_
  refine mm_iandg 6 dX8_caseIn_7 (by decide) (by decide) ?_
  refine am_ireturn dX8_caseIn_8 rfl rfl ?_
  exact ⟨rfl, rfl⟩
theorem lI_or_hi {x y : Int} (hx : 0 ≤ x ∧ x < 1125899906842624) (hy : 0 ≤ y) : lI x ||| lI (y * 2 ^ (50 : Int).toNat) = lI (x + y * 1125899906842624) := by
  have h := lI_or_add (x := y) (y := x) 50 hy hx
  rw [Int.add_comm x]
  rw [show lI x ||| lI (y * 2 ^ (50 : Int).toNat) = lI (y * 2 ^ 50) ||| lI x by
    apply Int64.toBitVec_inj.mp
    exact BitVec.or_comm _ _]
  exact h
set_option maxRecDepth 100000 in
set_option maxHeartbeats 4000000 in
theorem c_packWithCase {M : am_M} {p n : Int} (hp : 0 ≤ p ∧ p < 1125899906842624) (hn : 0 ≤ n ∧ n < 64) : am_E eX8_packWithCase [.long (lI p), .int (iI n)] M (fun r M' => r = some (.long (lI (p + n * 1125899906842624))) ∧ M' = M) := by
  refine am_enter rfl rfl (Nat.le_of_ble_eq_true rfl) ?_
  refine am_lload_n rfl dX8_packWithCase_0 ?_
  refine am_iload_n rfl dX8_packWithCase_1 ?_
  refine mm_i2l dX8_packWithCase_2 (by omega) ?_
  refine mm_bipush dX8_packWithCase_3 (by decide) ?_
  refine mm_lshl dX8_packWithCase_5 (by omega) ?_
  refine am_lor dX8_packWithCase_6 ?_
  rw [lI_or_hi hp hn.1]
  refine am_lreturn dX8_packWithCase_7 rfl ?_
  exact ⟨rfl, rfl⟩
def tkS (S : mm_S) (a : Nat) (v c : Int) : mm_S := if c = 0 then up2 S (a + 1) v.toNat (-1) else if c = 1 then up2 S (a + 1) v.toNat 5 else if c < 6 then up2 S (a + 1) v.toNat (S (a + 1) (c - 2).toNat) else up2 (up2 (up2 S (a + 1) v.toNat v) (a + 2) v.toNat ((c - 6) / 7)) (a + 3) v.toNat ((c - 6) % 7)
def unF (S : mm_S) (a : Nat) (p : Int) : Nat → mm_S
  | 0 => up2 (up2 (up2 S a 1 (p % 32)) a 2 (p / 32 % 4096)) (a + 3) 5 (p / 131072 % 8)
  | v + 1 => tkS (unF S a p v) a v (p / 2 ^ (20 + 6 * (v : Int)).toNat % 64)
set_option maxRecDepth 100000 in
set_option maxHeartbeats 4000000 in
theorem c_takeCode {sh : List mm_H} {S : mm_S} {L : mm_L} {a : Nat} (hc : scS sh a) {v c : Int} (hv : 0 ≤ v ∧ v < 5) (hcc : 0 ≤ c ∧ c < 64) : am_E eX8_takeCode [.ref a, .int (iI v), .int (iI c)] (mm sh S L) (fun r M' => r = none ∧ M' = mm sh (tkS S a v c) L) := by
  obtain ⟨hc0, hc1, hc2, hc3⟩ := id hc
  refine am_enter rfl rfl (Nat.le_of_ble_eq_true rfl) ?_
  refine am_iload_n rfl dX8_takeCode_0 ?_
  refine mm_zne (tgt := 14) dX8_takeCode_1 (by decide) (by omega) (fun h1 => ?_) (fun h1 => ?_)
  · refine am_iload_n rfl dX8_takeCode_14 ?_
    refine mm_iconst dX8_takeCode_15 ?_
    refine mm_jne (tgt := 29) dX8_takeCode_16 (by decide) (by omega) (by omega) (fun h16 => ?_) (fun h16 => ?_)
    · refine am_iload_n rfl dX8_takeCode_29 ?_
      refine mm_bipush dX8_takeCode_30 (by decide) ?_
      refine mm_jge (tgt := 52) dX8_takeCode_32 (by decide) (by omega) (by omega) (fun h32 => ?_) (fun h32 => ?_)
      · refine am_aload_n rfl dX8_takeCode_52 ?_
        refine mm_getR dX8_takeCode_53 fl_X8_21 hc0 rfl ?_
        refine am_iload_n rfl dX8_takeCode_56 ?_
        refine am_iload_n rfl dX8_takeCode_57 ?_
        refine mm_ias dX8_takeCode_58 hc1 (by omega) ?_
        refine am_aload_n rfl dX8_takeCode_59 ?_
        refine mm_getR dX8_takeCode_60 fl_X8_25 hc0 rfl ?_
        refine am_iload_n rfl dX8_takeCode_63 ?_
        refine am_iload_n rfl dX8_takeCode_64 ?_
        refine mm_bipush dX8_takeCode_65 (by decide) ?_
        refine mm_isub dX8_takeCode_67 ?_
        refine mm_bipush dX8_takeCode_68 (by decide) ?_
        refine mm_idiv dX8_takeCode_70 (by omega) (by omega) ?_
        refine mm_ias dX8_takeCode_71 hc2 (by omega) ?_
        refine am_aload_n rfl dX8_takeCode_72 ?_
        refine mm_getR dX8_takeCode_73 fl_X8_28 hc0 rfl ?_
        refine am_iload_n rfl dX8_takeCode_76 ?_
        refine am_iload_n rfl dX8_takeCode_77 ?_
        refine mm_bipush dX8_takeCode_78 (by decide) ?_
        refine mm_isub dX8_takeCode_80 ?_
        refine mm_bipush dX8_takeCode_81 (by decide) ?_
        refine mm_irem dX8_takeCode_83 (by omega) (by omega) ?_
        refine mm_ias dX8_takeCode_84 hc3 (by omega) ?_
        refine am_return dX8_takeCode_85 rfl ?_
        first
          | exact ⟨rfl, by rw [tkS, if_pos (by omega)]⟩
          | exact ⟨rfl, by rw [tkS, if_neg (by omega), if_pos (by omega)]⟩
          | exact ⟨rfl, by rw [tkS, if_neg (by omega), if_neg (by omega), if_pos (by omega)]⟩
          | exact ⟨rfl, by rw [tkS, if_neg (by omega), if_neg (by omega), if_neg (by omega)]⟩
      · refine am_aload_n rfl dX8_takeCode_35 ?_
        refine mm_getR dX8_takeCode_36 fl_X8_21 hc0 rfl ?_
        refine am_iload_n rfl dX8_takeCode_39 ?_
        refine am_aload_n rfl dX8_takeCode_40 ?_
        refine mm_getR dX8_takeCode_41 fl_X8_21 hc0 rfl ?_
        refine am_iload_n rfl dX8_takeCode_44 ?_
        refine mm_iconst dX8_takeCode_45 ?_
        refine mm_isub dX8_takeCode_46 ?_
        refine mm_ial dX8_takeCode_47 hc1 (by omega) ?_
        refine mm_ias dX8_takeCode_48 hc1 (by omega) ?_
        refine am_goto (tgt := 85) dX8_takeCode_49 (by decide) ?_
        refine am_return dX8_takeCode_85 rfl ?_
        first
          | exact ⟨rfl, by rw [tkS, if_pos (by omega)]⟩
          | exact ⟨rfl, by rw [tkS, if_neg (by omega), if_pos (by omega)]⟩
          | exact ⟨rfl, by rw [tkS, if_neg (by omega), if_neg (by omega), if_pos (by omega)]⟩
          | exact ⟨rfl, by rw [tkS, if_neg (by omega), if_neg (by omega), if_neg (by omega)]⟩
    · refine am_aload_n rfl dX8_takeCode_19 ?_
      refine mm_getR dX8_takeCode_20 fl_X8_21 hc0 rfl ?_
      refine am_iload_n rfl dX8_takeCode_23 ?_
      refine mm_iconst dX8_takeCode_24 ?_
      refine mm_ias dX8_takeCode_25 hc1 (by omega) ?_
      refine am_goto (tgt := 85) dX8_takeCode_26 (by decide) ?_
      refine am_return dX8_takeCode_85 rfl ?_
      first
        | exact ⟨rfl, by rw [tkS, if_pos (by omega)]⟩
        | exact ⟨rfl, by rw [tkS, if_neg (by omega), if_pos (by omega)]⟩
        | exact ⟨rfl, by rw [tkS, if_neg (by omega), if_neg (by omega), if_pos (by omega)]⟩
        | exact ⟨rfl, by rw [tkS, if_neg (by omega), if_neg (by omega), if_neg (by omega)]⟩
  · refine am_aload_n rfl dX8_takeCode_4 ?_
    refine mm_getR dX8_takeCode_5 fl_X8_21 hc0 rfl ?_
    refine am_iload_n rfl dX8_takeCode_8 ?_
    refine mm_iconst dX8_takeCode_9 ?_
    refine mm_ias dX8_takeCode_10 hc1 (by omega) ?_
    refine am_goto (tgt := 85) dX8_takeCode_11 (by decide) ?_
    refine am_return dX8_takeCode_85 rfl ?_
    first
      | exact ⟨rfl, by rw [tkS, if_pos (by omega)]⟩
      | exact ⟨rfl, by rw [tkS, if_neg (by omega), if_pos (by omega)]⟩
      | exact ⟨rfl, by rw [tkS, if_neg (by omega), if_neg (by omega), if_pos (by omega)]⟩
      | exact ⟨rfl, by rw [tkS, if_neg (by omega), if_neg (by omega), if_neg (by omega)]⟩
set_option maxRecDepth 100000 in
set_option maxHeartbeats 4000000 in
theorem l_unp {sh : List mm_H} {S : mm_S} {L : mm_L} {a : Nat} (hc : scS sh a) {p : Int} (hp : 0 ≤ p ∧ p < 9223372036854775808) : ∀ (q : Nat) (v : Nat), 5 - v < q → (v ≤ 5) → am_AW eX8_unpack (mm sh (unF S a p v) L) 36 [some (.ref a), some (.long (lI p)), none, some (.int (iI (v : Int)))] [] (fun r M' => r = none ∧ M' = mm sh (unF S a p 5) L) := by
  intro q
  induction q with
  | zero =>
    intro v hq
    exact absurd hq (Nat.not_lt_zero _)
  | succ q ih =>
    intro v hq hv
    obtain ⟨hc0, hc1, hc2, hc3⟩ := id hc
    refine am_iload_n rfl dX8_unpack_36 ?_
    refine mm_iconst dX8_unpack_37 ?_
    refine mm_jge (tgt := 65) dX8_unpack_38 (by decide) (by omega) (by omega) (fun h38 => ?_) (fun h38 => ?_)
    · have h5 : v = 5 := by omega
      subst h5
      exact am_return dX8_unpack_65 rfl ⟨rfl, rfl⟩
    · refine am_aload_n rfl dX8_unpack_41 ?_
      refine am_iload_n rfl dX8_unpack_42 ?_
      refine am_lload_n rfl dX8_unpack_43 ?_
      refine mm_bipush dX8_unpack_44 (by decide) ?_
      refine mm_bipush dX8_unpack_46 (by decide) ?_
      refine am_iload_n rfl dX8_unpack_48 ?_
      refine mm_imul dX8_unpack_49 ?_
      refine mm_iadd dX8_unpack_50 ?_
      refine mm_lushr dX8_unpack_51 (by omega) (by omega) ?_
      refine mm_l2i dX8_unpack_52 ?_
      refine mm_bipush dX8_unpack_53 (by decide) ?_
      refine mm_iandg 6 dX8_unpack_55 (by decide) (by decide) ?_
      refine am_cv (mm_V2 dX8_unpack_56 in_X8_takeCode mk_X8_45 im_X8_takeCode sl_X8_takeCode ⟨Nat.le_of_ble_eq_true rfl, Nat.le_of_ble_eq_true rfl⟩ rfl hc0 (Nat.le_of_ble_eq_true rfl)) (c_takeCode hc (by omega) (by omega)) ?_
      refine mm_inc3 dX8_unpack_59 (Nat.le_of_ble_eq_true rfl) am_c1n ?_
      refine am_goto (tgt := 36) dX8_unpack_62 (by decide) ?_
      exact ih (v + 1) (by omega) (by omega)
set_option maxRecDepth 100000 in
set_option maxHeartbeats 4000000 in
theorem c_unpack {sh : List mm_H} {S : mm_S} {L : mm_L} {a : Nat} (hc : scS sh a) {p : Int} (hp : 0 ≤ p ∧ p < 9223372036854775808) : am_E eX8_unpack [.ref a, .long (lI p)] (mm sh S L) (fun r M' => r = none ∧ M' = mm sh (unF S a p 5) L) := by
  obtain ⟨hc0, hc1, hc2, hc3⟩ := id hc
  refine am_enter rfl rfl (Nat.le_of_ble_eq_true rfl) ?_
  refine am_aload_n rfl dX8_unpack_0 ?_
  refine am_lload_n rfl dX8_unpack_1 ?_
  refine am_ci (mm_S1 dX8_unpack_2 in_X8_placeIn mk_X8_41 st_X8_placeIn ⟨Nat.le_of_ble_eq_true rfl, Nat.le_of_ble_eq_true rfl⟩ (Nat.le_of_ble_eq_true rfl)) (c_placeIn) ?_
  refine mm_putI dX8_unpack_5 fp_X8_15 hc0 rfl ?_
  refine am_aload_n rfl dX8_unpack_8 ?_
  refine am_lload_n rfl dX8_unpack_9 ?_
  refine mm_iconst dX8_unpack_10 ?_
  refine mm_lushr dX8_unpack_11 (by omega) (by omega) ?_
  refine mm_l2i dX8_unpack_12 ?_
  refine mm_sipush dX8_unpack_13 (by decide) ?_
  refine mm_iandg 12 dX8_unpack_16 (by decide) (by decide) ?_
  refine mm_putI dX8_unpack_17 fp_X8_18 hc0 rfl ?_
  refine am_aload_n rfl dX8_unpack_20 ?_
  refine mm_getR dX8_unpack_21 fl_X8_28 hc0 rfl ?_
  refine mm_iconst dX8_unpack_24 ?_
  refine am_lload_n rfl dX8_unpack_25 ?_
  refine mm_bipush dX8_unpack_26 (by decide) ?_
  refine mm_lushr dX8_unpack_28 (by omega) (by omega) ?_
  refine mm_l2i dX8_unpack_29 ?_
  refine mm_bipush dX8_unpack_30 (by decide) ?_
  refine mm_iandg 3 dX8_unpack_32 (by decide) (by decide) ?_
  refine mm_ias dX8_unpack_33 hc3 (by omega) ?_
  refine mm_iconst dX8_unpack_34 ?_
  refine am_ist3 dX8_unpack_35 (Nat.le_of_ble_eq_true rfl) am_c1n ?_
  exact l_unp hc hp 6 0 (by omega) (by omega)
