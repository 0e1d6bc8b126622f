set_option maxRecDepth 100000 in
set_option maxHeartbeats 4000000 in
theorem c_plAdd {sh : List mm_H} {S : mm_S} {L : mm_L} {p1 p2 p3 n N : Nat} (hpl : plS sh p1 p2 p3 n) (hD : plD p1 p2 p3 n) (hT : plT S L p1 p3 n N) (hS : S 86 0 = N) (hN : N < n) {z : Int64} : am_E eX5_add [.ref 86, .long z] (mm sh S L) (fun r0 M' => (r0 = some (.int (iI 0)) ∧ M' = mm sh S L ∧ ∃ i : Nat, i < N ∧ L p1 i = z) ∨ (r0 = some (.int (iI 1)) ∧ (∀ i, i < N → L p1 i ≠ z) ∧ ∃ t : Nat, t < 2 * n ∧ M' = mm sh (up2 (up2 (up2 S p2 N (-1)) 86 0 ((N : Int) + 1)) p3 t ((N : Int) + 1)) (upL L p1 N z) ∧ plT (up2 (up2 (up2 S p2 N (-1)) 86 0 ((N : Int) + 1)) p3 t ((N : Int) + 1)) (upL L p1 N z) p1 p3 n (N + 1))) := by
  have hn := plD_n hD
  obtain ⟨⟨dd1, dd2, dd3⟩, dd4, -⟩ := id hD
  have ne1 : p3 ≠ 86 := by omega
  have ne2 : p3 ≠ p2 := by omega
  refine am_enter rfl rfl (Nat.le_of_ble_eq_true rfl) ?_
  refine am_aload_n rfl dX5_add_0 ?_
  refine am_lload_n rfl dX5_add_1 ?_
  refine am_cxi (mm_V1 dX5_add_2 in_X5_find mk_X5_32 im_X5_find sl_X5_find ⟨Nat.le_of_ble_eq_true rfl, Nat.le_of_ble_eq_true rfl⟩ rfl hpl.1 (Nat.le_of_ble_eq_true rfl)) ((c_plFind (z := z) hpl hD hT (by omega) (by omega)).mono (Q' := fun r0 M' => ∃ x, r0 = some (.int x) ∧ ∃ d : Nat, d < 2 * n ∧ x = iI (((h32 z + d) % (2 * n) : Nat) : Int) ∧ M' = mm sh S L ∧ (∀ e, e < d → S p3 ((h32 z + e) % (2 * n)) ≠ 0 ∧ L p1 (S p3 ((h32 z + e) % (2 * n)) - 1).toNat ≠ z) ∧ (S p3 ((h32 z + d) % (2 * n)) = 0 ∨ ∃ i : Nat, i < N ∧ S p3 ((h32 z + d) % (2 * n)) = (i : Int) + 1 ∧ L p1 i = z)) (fun r0 M' ⟨d, a1, a2, a3, a4, a5⟩ => ⟨_, a2, d, a1, rfl, a3, a4, a5⟩)) (fun x M1 hq => ?_)
  obtain ⟨d, hd1, rfl, rfl, hpath, hend⟩ := hq
  have hTl : (h32 z + d) % (2 * n) < 2 * n := Nat.mod_lt _ (by omega)
  have hft := hT.2.1 _ hTl
  refine am_ist3 dX5_add_5 (Nat.le_of_ble_eq_true rfl) am_c1n ?_
  refine am_aload_n rfl dX5_add_6 ?_
  refine mm_getR dX5_add_7 fl_X5_23 hpl.1 rfl ?_
  refine am_iload_n rfl dX5_add_10 ?_
  refine mm_ial dX5_add_11 hpl.2.2.2 (by omega) ?_
  rw [Int.toNat_natCast]
  refine mm_zne (tgt := 27) dX5_add_12 (by decide) (by omega) (fun h12 => ?_) (fun h12 => ?_)
  · refine mm_iconst dX5_add_27 ?_
    refine am_ireturn dX5_add_28 rfl rfl ?_
    first
      | (rcases hend with z0 | z0; exact absurd z0 h12; obtain ⟨i, i1, -, i3⟩ := z0; exact Or.inl ⟨rfl, rfl, i, i1, i3⟩)
      | (exfalso; omega)
  · refine am_aload_n rfl dX5_add_15 ?_
    refine mm_getI dX5_add_16 fl_X5_9 hpl.1 rfl ?_
    rw [hS]
    refine am_aload_n rfl dX5_add_19 ?_
    refine mm_getR dX5_add_20 fl_X5_15 hpl.1 rfl ?_
    refine mm_len1 dX5_add_23 hpl.2.1 ?_
    refine mm_jlt (tgt := 29) dX5_add_24 (by decide) (by omega) (by omega) (fun h24 => ?_) (fun h24 => ?_)
    · have hz0 := h12
      refine am_aload_n rfl dX5_add_29 ?_
      refine mm_getR dX5_add_30 fl_X5_15 hpl.1 rfl ?_
      refine am_aload_n rfl dX5_add_33 ?_
      refine mm_getI dX5_add_34 fl_X5_9 hpl.1 rfl ?_
      rw [hS]
      refine am_lload_n rfl dX5_add_37 ?_
      refine mm_las dX5_add_38 hpl.2.1 (by omega) ?_
      rw [Int.toNat_natCast]
      refine am_aload_n rfl dX5_add_39 ?_
      refine mm_getR dX5_add_40 fl_X5_19 hpl.1 rfl ?_
      refine am_aload_n rfl dX5_add_43 ?_
      refine mm_getI dX5_add_44 fl_X5_9 hpl.1 rfl ?_
      rw [hS]
      refine mm_iconst dX5_add_47 ?_
      refine mm_ias dX5_add_48 hpl.2.2.1 (by omega) ?_
      rw [Int.toNat_natCast]
      refine am_aload_n rfl dX5_add_49 ?_
      refine am_dup rfl dX5_add_50 ?_
      refine mm_getI dX5_add_51 fl_X5_9 hpl.1 rfl ?_
      rw [up2_rd (by omega), hS]
      refine mm_iconst dX5_add_54 ?_
      refine mm_iadd dX5_add_55 ?_
      refine mm_putI dX5_add_56 fp_X5_9 hpl.1 rfl ?_
      refine am_aload_n rfl dX5_add_59 ?_
      refine mm_getR dX5_add_60 fl_X5_23 hpl.1 rfl ?_
      refine am_iload_n rfl dX5_add_63 ?_
      refine am_aload_n rfl dX5_add_64 ?_
      refine mm_getI dX5_add_65 fl_X5_9 hpl.1 rfl ?_
      rw [up2_same]
      refine mm_ias dX5_add_68 hpl.2.2.2 (by omega) ?_
      rw [Int.toNat_natCast]
      refine mm_iconst dX5_add_69 ?_
      refine am_ireturn dX5_add_70 rfl rfl ?_
      have hTn := tb_not hT (k := z) (d := d) hz0 hpath
      have key := tb_add hT (k := z) (d := d) hd1 hz0 (fun e he => (hpath e he).1) (key' := upL L p1 N z p1) (fun i hi => upL_col (by omega) p1) (upL_same L p1 N z)
      refine Or.inr ⟨rfl, hTn, (h32 z + d) % (2 * n), Nat.mod_lt _ (by omega), rfl, ?_⟩
      refine tb_congr key (fun t ht => ?_) (fun _ _ => rfl)
      unfold ud
      by_cases e : t = (h32 z + d) % (2 * n)
      · rw [if_pos e, e, up2_same]
      · rw [if_neg e, up2_rc e, up2_rd ne1, up2_rd ne2]
    · refine mm_iconst dX5_add_27 ?_
      refine am_ireturn dX5_add_28 rfl rfl ?_
      first
        | (rcases hend with z0 | z0; exact absurd z0 h12; obtain ⟨i, i1, -, i3⟩ := z0; exact Or.inl ⟨rfl, rfl, i, i1, i3⟩)
        | (exfalso; omega)
/-! ===== room ===== -/
def shz (sh : List mm_H) : Nat := (sh.map (fun s => match s with | .inl (_, n, _) => n | .inr (_, fd) => fd.length)).sum
def shE (sh sh' : List mm_H) : Prop := sh.length ≤ sh'.length ∧ ∀ a, a < sh.length → a ≠ 86 → sh'[a]? = sh[a]?
theorem shE_rf (sh : List mm_H) : shE sh sh := ⟨Nat.le_refl _, fun _ _ _ => rfl⟩
theorem shE_tr {sh s1 s2 : List mm_H} (h : shE sh s1) (h2 : shE s1 s2) : shE sh s2 := ⟨Nat.le_trans h.1 h2.1, fun a x y => (h2.2 a (by have := h.1; omega) y).trans (h.2 a x y)⟩
theorem shz_app (sh : List mm_H) (s : mm_H) : shz (sh ++ [s]) = shz sh + (match s with | .inl (_, n, _) => n | .inr (_, fd) => fd.length) := by simp [shz]
theorem shz_set : ∀ (sh : List mm_H) (a : Nat) (s s' : mm_H), sh[a]? = some s → (match s' with | .inl (_, n, _) => n | .inr (_, fd) => fd.length) = (match s with | .inl (_, n, _) => n | .inr (_, fd) => fd.length) → shz (sh.set a s') = shz sh
  | [], a, s, s', h, _ => by simp at h
  | x :: sh, 0, s, s', h, hz => by
    simp at h
    subst h
    simp only [shz, List.set_cons_zero, List.map_cons, List.sum_cons]
    rw [hz]
  | x :: sh, a + 1, s, s', h, hz => by
    have := shz_set sh a s s' (by simpa using h) hz
    simp only [shz, List.set_cons_succ, List.map_cons, List.sum_cons] at this ⊢
    omega
/-- how large the memory is -/
def shB (z0 : Nat) (sh : List mm_H) (n : Nat) : Prop := shz sh + 1024 = z0 + 8 * n ∧ ∃ k, k ≤ 11 ∧ n = 128 * 2 ^ k ∧ sh.length = 223 + 3 * k
theorem gr_1 {sh : List mm_H} {s X X0 : mm_H} (h86 : sh[86]? = some X0) (hz : (match X with | .inl (_, n, _) => n | .inr (_, fd) => fd.length) = (match X0 with | .inl (_, n, _) => n | .inr (_, fd) => fd.length)) : ((sh ++ [s]).set 86 X)[86]? = some X ∧ (∀ a, a < sh.length → a ≠ 86 → ((sh ++ [s]).set 86 X)[a]? = sh[a]?) ∧ ((sh ++ [s]).set 86 X)[sh.length]? = some s ∧ ((sh ++ [s]).set 86 X).length = sh.length + 1 ∧ shz ((sh ++ [s]).set 86 X) = shz sh + (match s with | .inl (_, n, _) => n | .inr (_, fd) => fd.length) := by
  have hl : 86 < sh.length := (List.getElem?_eq_some_iff.mp h86).1
  have ha : (sh ++ [s])[86]? = some X0 := by rw [List.getElem?_append_left hl]; exact h86
  refine ⟨List.getElem?_set_self (by simp; omega), fun a h1 h2 => ?_, ?_, by simp, ?_⟩
  · rw [List.getElem?_set_ne (fun z => h2 z.symm), List.getElem?_append_left h1]
  · rw [List.getElem?_set_ne (by omega), List.getElem?_append_right (Nat.le_refl _), Nat.sub_self]
    rfl
  · rw [shz_set _ 86 X0 X ha hz, shz_app]
set_option maxRecDepth 100000 in
set_option maxHeartbeats 4000000 in
theorem l_room {sh : List mm_H} {S : mm_S} {L : mm_L} {p1 p2 p3 n N : Nat} (hpl : plS sh p1 p2 p3 n) (hD : plD p1 p2 p3 n) (hS : S 86 0 = N) (hN : N < n) (hd : ∀ i j, i < N → j < N → L p1 i = L p1 j → i = j) {Q : Option Value → am_M → Prop} (kk : ∀ S2, (∀ b, b ≠ p3 → S2 b = S b) → plT S2 L p1 p3 n N → Q none (mm sh S2 L)) : ∀ (q : Nat) (i : Nat) (S' : mm_S), N - i < q → (i ≤ N) → (∀ b, b ≠ p3 → S' b = S b) → (plT S' L p1 p3 n i) → am_AW eX5_makeRoom (mm sh S' L) 61 [some (.ref 86), some (.int (iI (i : Int)))] [] Q := by
  intro q
  induction q with
  | zero =>
    intro i S' hq
    exact absurd hq (Nat.not_lt_zero _)
  | succ q ih =>
    intro i S' hq hi hF hT
    have hn := plD_n hD
    obtain ⟨⟨dd1, dd2, dd3⟩, dd4, -⟩ := id hD
    refine am_iload_n rfl dX5_makeRoom_61 ?_
    refine am_aload_n rfl dX5_makeRoom_62 ?_
    refine mm_getI dX5_makeRoom_63 fl_X5_9 hpl.1 rfl ?_
    rw [hF 86 (by omega), hS]
    refine mm_jge (tgt := 93) dX5_makeRoom_66 (by decide) (by omega) (by omega) (fun h66 => ?_) (fun h66 => ?_)
    · have h5 : i = N := by omega
      subst h5
      exact am_return dX5_makeRoom_93 rfl (kk S' hF hT)
    · refine am_aload_n rfl dX5_makeRoom_69 ?_
      refine mm_getR dX5_makeRoom_70 fl_X5_23 hpl.1 rfl ?_
      refine am_aload_n rfl dX5_makeRoom_73 ?_
      refine am_aload_n rfl dX5_makeRoom_74 ?_
      refine mm_getR dX5_makeRoom_75 fl_X5_15 hpl.1 rfl ?_
      refine am_iload_n rfl dX5_makeRoom_78 ?_
      refine mm_lal dX5_makeRoom_79 hpl.2.1 (by omega) ?_
      rw [Int.toNat_natCast]
      refine am_cxi (mm_V1 dX5_makeRoom_80 in_X5_find mk_X5_32 im_X5_find sl_X5_find ⟨Nat.le_of_ble_eq_true rfl, Nat.le_of_ble_eq_true rfl⟩ rfl hpl.1 (Nat.le_of_ble_eq_true rfl)) ((c_plFind (z := L p1 i) hpl hD hT (by omega) (by omega)).mono (Q' := fun r0 M' => ∃ x, r0 = some (.int x) ∧ ∃ d : Nat, d < 2 * n ∧ x = iI (((h32 (L p1 i) + d) % (2 * n) : Nat) : Int) ∧ M' = mm sh S' L ∧ (∀ e, e < d → S' p3 ((h32 (L p1 i) + e) % (2 * n)) ≠ 0 ∧ L p1 (S' p3 ((h32 (L p1 i) + e) % (2 * n)) - 1).toNat ≠ L p1 i) ∧ (S' p3 ((h32 (L p1 i) + d) % (2 * n)) = 0 ∨ ∃ j : Nat, j < i ∧ S' p3 ((h32 (L p1 i) + d) % (2 * n)) = (j : Int) + 1 ∧ L p1 j = L p1 i)) (fun r0 M' ⟨d, a1, a2, a3, a4, a5⟩ => ⟨_, a2, d, a1, rfl, a3, a4, a5⟩)) (fun x M1 hqq => ?_)
      obtain ⟨d, hd1, rfl, rfl, hpath, hend⟩ := hqq
      have hTl : (h32 (L p1 i) + d) % (2 * n) < 2 * n := Nat.mod_lt _ (by omega)
      have hz0 : S' p3 ((h32 (L p1 i) + d) % (2 * n)) = 0 := by
        rcases hend with z | ⟨j, j1, -, j3⟩
        · exact z
        · have := hd j i (by omega) (by omega) j3; omega
      refine am_iload_n rfl dX5_makeRoom_83 ?_
      refine mm_iconst dX5_makeRoom_84 ?_
      refine mm_iadd dX5_makeRoom_85 ?_
      refine mm_ias dX5_makeRoom_86 hpl.2.2.2 (by omega) ?_
      rw [Int.toNat_natCast]
      refine mm_inc1 dX5_makeRoom_87 (Nat.le_of_ble_eq_true rfl) (am_c1r _) ?_
      refine am_goto (tgt := 61) dX5_makeRoom_90 (by decide) ?_
      have key := tb_add hT (k := L p1 i) (d := d) hd1 hz0 (fun e he => (hpath e he).1) (key' := L p1) (fun _ _ => rfl) rfl
      refine ih (i + 1) _ (by omega) (by omega) (fun b hb => by rw [up2_row hb]; exact hF b hb) ?_
      refine tb_congr key (fun t ht => ?_) (fun _ _ => rfl)
      unfold ud
      by_cases e : t = (h32 (L p1 i) + d) % (2 * n)
      · rw [if_pos e, e, up2_same]
      · rw [if_neg e, up2_rc e]
set_option maxRecDepth 100000 in
set_option maxHeartbeats 8000000 in
theorem c_plRoom {sh : List mm_H} {S : mm_S} {L : mm_L} {p1 p2 p3 n N : Nat} (hpl : plS sh p1 p2 p3 n) (hD : plD p1 p2 p3 n) (hT : plT S L p1 p3 n N) (hS : S 86 0 = N) (hN : N ≤ n) (hN8 : N < 262144) (hd : ∀ i j, i < N → j < N → L p1 i = L p1 j → i = j) (hlen : 223 ≤ sh.length) : am_E eX5_makeRoom [.ref 86] (mm sh S L) (fun r0 M' => r0 = none ∧ ∃ sh' S' L' q1 q2 q3 m, M' = mm sh' S' L' ∧ shE sh sh' ∧ plS sh' q1 q2 q3 m ∧ plD q1 q2 q3 m ∧ (∀ z0, shB z0 sh n → shB z0 sh' m) ∧ N < m ∧ plT S' L' q1 q3 m N ∧ (∀ b, b < 223 → b ≠ p1 → b ≠ p2 → b ≠ p3 → S' b = S b) ∧ (∀ b, b < 223 → b ≠ p1 → L' b = L b) ∧ ∀ i, i < N → L' q1 i = L p1 i ∧ S' q2 i = S p2 i) := by
  have hn := plD_n hD
  obtain ⟨⟨dd1, dd2, dd3⟩, dd4, kk, hk10, hkn⟩ := id hD
  have hl1 : p1 < sh.length := (List.getElem?_eq_some_iff.mp hpl.2.1).1
  have hl2 : p2 < sh.length := (List.getElem?_eq_some_iff.mp hpl.2.2.1).1
  have hl3 : p3 < sh.length := (List.getElem?_eq_some_iff.mp hpl.2.2.2).1
  refine am_enter rfl rfl (Nat.le_of_ble_eq_true rfl) ?_
  refine am_aload_n rfl dX5_makeRoom_0 ?_
  refine mm_getI dX5_makeRoom_1 fl_X5_9 hpl.1 rfl ?_
  rw [hS]
  refine am_aload_n rfl dX5_makeRoom_4 ?_
  refine mm_getR dX5_makeRoom_5 fl_X5_15 hpl.1 rfl ?_
  refine mm_len1 dX5_makeRoom_8 hpl.2.1 ?_
  refine mm_jge (tgt := 13) dX5_makeRoom_9 (by decide) (by omega) (by omega) (fun h9 => ?_) (fun h9 => ?_)
  · have hNn : N = n := by omega
    subst hNn
    have hk9 : kk + 1 ≤ 11 := by
      by_cases z : kk = 11
      · rw [z] at hkn; omega
      · omega
    have hN17 : N ≤ 131072 := by
      have := Nat.pow_le_pow_right (n := 2) (by decide) (show kk ≤ 10 by omega)
      omega
    refine am_aload_n rfl dX5_makeRoom_13 ?_
    refine am_aload_n rfl dX5_makeRoom_14 ?_
    refine mm_getR dX5_makeRoom_15 fl_X5_15 hpl.1 rfl ?_
    refine mm_iconst dX5_makeRoom_18 ?_
    refine am_aload_n rfl dX5_makeRoom_19 ?_
    refine mm_getI dX5_makeRoom_20 fl_X5_9 hpl.1 rfl ?_
    rw [hS]
    refine mm_imul dX5_makeRoom_23 ?_
    refine am_cxr (mm_S2 dX5_makeRoom_24 in_J7_copyOf_c38d5 mk_X5_38 st_J7_copyOf_c38d5 ⟨Nat.le_of_ble_eq_true rfl, Nat.le_of_ble_eq_true rfl⟩ (Nat.le_of_ble_eq_true rfl)) (c_copyL hpl.2.1 (m := 2 * (N : Int)) (by omega)) (fun x M1 hq => ?_)
    obtain ⟨rfl, rfl⟩ := hq
    have hA86 : (sh ++ [Sum.inl (1, (2 * (N : Int)).toNat, fun _ => none)] : List mm_H)[86]? = some (.inr (5, [.inl false, .inr (some p1), .inr (some p2), .inr (some p3)])) := by rw [List.getElem?_append_left (by omega)]; exact hpl.1
    refine mm_putR dX5_makeRoom_27 fp_X5_15 hA86 (show 1 < 4 by decide) (fun _ => rfl) (fun _ => rfl) ?_
    have g1 := gr_1 (sh := sh) (s := Sum.inl (1, (2 * (N : Int)).toNat, fun _ => none)) (X := Sum.inr (5, ([Sum.inl false, Sum.inr (some p1), Sum.inr (some p2), Sum.inr (some p3)] : List (Bool ⊕ Option Nat)).set 1 (Sum.inr (some sh.length)))) hpl.1 rfl
    generalize hs1 : (sh ++ [Sum.inl (1, (2 * (N : Int)).toNat, fun _ => none)]).set 86 (Sum.inr (5, ([Sum.inl false, Sum.inr (some p1), Sum.inr (some p2), Sum.inr (some p3)] : List (Bool ⊕ Option Nat)).set 1 (Sum.inr (some sh.length)))) = sh1 at *
    obtain ⟨a1, a2, a3, a4, a5⟩ := g1
    have a1 : sh1[86]? = some (.inr (5, [.inl false, .inr (some sh.length), .inr (some p2), .inr (some p3)])) := a1
    refine am_aload_n rfl dX5_makeRoom_30 ?_
    refine am_aload_n rfl dX5_makeRoom_31 ?_
    refine mm_getR dX5_makeRoom_32 fl_X5_19 a1 rfl ?_
    refine mm_iconst dX5_makeRoom_35 ?_
    refine am_aload_n rfl dX5_makeRoom_36 ?_
    refine mm_getI dX5_makeRoom_37 fl_X5_9 a1 rfl ?_
    rw [zrS_ne (show 86 ≠ sh.length by omega), hS]
    refine mm_imul dX5_makeRoom_40 ?_
    refine am_cxr (mm_S2 dX5_makeRoom_41 in_J7_copyOf_59c91 mk_X5_42 st_J7_copyOf_59c91 ⟨Nat.le_of_ble_eq_true rfl, Nat.le_of_ble_eq_true rfl⟩ (Nat.le_of_ble_eq_true rfl)) (c_copyI (n := N) (show sh1[p2]? = _ by rw [a2 p2 hl2 (by omega)]; exact hpl.2.2.1) (m := 2 * (N : Int)) (by omega)) (fun x M1 hq => ?_)
    obtain ⟨rfl, rfl⟩ := hq
    have hB86 : (sh1 ++ [Sum.inl (0, (2 * (N : Int)).toNat, fun _ => none)] : List mm_H)[86]? = some (.inr (5, [.inl false, .inr (some sh.length), .inr (some p2), .inr (some p3)])) := by rw [List.getElem?_append_left (by omega)]; exact a1
    refine mm_putR dX5_makeRoom_44 fp_X5_19 hB86 (show 2 < 4 by decide) (fun _ => rfl) (fun _ => rfl) ?_
    have g2 := gr_1 (sh := sh1) (s := Sum.inl (0, (2 * (N : Int)).toNat, fun _ => none)) (X := Sum.inr (5, ([Sum.inl false, Sum.inr (some sh.length), Sum.inr (some p2), Sum.inr (some p3)] : List (Bool ⊕ Option Nat)).set 2 (Sum.inr (some sh1.length)))) a1 rfl
    generalize hs2 : (sh1 ++ [Sum.inl (0, (2 * (N : Int)).toNat, fun _ => none)]).set 86 (Sum.inr (5, ([Sum.inl false, Sum.inr (some sh.length), Sum.inr (some p2), Sum.inr (some p3)] : List (Bool ⊕ Option Nat)).set 2 (Sum.inr (some sh1.length)))) = sh2 at *
    obtain ⟨b1, b2, b3, b4, b5⟩ := g2
    have b1 : sh2[86]? = some (.inr (5, [.inl false, .inr (some sh.length), .inr (some sh1.length), .inr (some p3)])) := b1
    refine am_aload_n rfl dX5_makeRoom_47 ?_
    refine mm_iconst dX5_makeRoom_48 ?_
    refine am_aload_n rfl dX5_makeRoom_49 ?_
    refine mm_getI dX5_makeRoom_50 fl_X5_9 b1 rfl ?_
    generalize hS2 : cpyS (zrS (zrS S sh.length) sh1.length) p2 sh1.length N = S2
    generalize hL2 : zrL (cpyL (zrL L sh.length) p1 sh.length N) sh1.length = L2
    have sF : ∀ b, b ≠ sh.length → b ≠ sh1.length → S2 b = S b := fun b x y => by
      rw [← hS2]
      funext j
      simp only [cpyS, y, false_and, if_false]
      rw [zrS_ne y, zrS_ne x]
    have lF : ∀ b, b ≠ sh.length → b ≠ sh1.length → L2 b = L b := fun b x y => by
      rw [← hL2, zrL_ne y]
      funext j
      simp only [cpyL, x, false_and, if_false]
      rw [zrL_ne x]
    have sC : ∀ i, i < N → S2 sh1.length i = S p2 i := fun i hi => by
      rw [← hS2]
      simp only [cpyS, true_and, hi, if_true]
      rw [zrS_ne (by omega), zrS_ne (by omega)]
    have lC : ∀ i, i < N → L2 sh.length i = L p1 i := fun i hi => by
      rw [← hL2, zrL_ne (by omega)]
      simp only [cpyL, true_and, hi, if_true]
      rw [zrL_ne (by omega)]
    rw [sF 86 (by omega) (by omega), hS]
    refine mm_imul dX5_makeRoom_53 ?_
    refine mm_newI dX5_makeRoom_54 (by omega) ?_
    have hC86 : (sh2 ++ [Sum.inl (0, (4 * (N : Int)).toNat, fun _ => none)] : List mm_H)[86]? = some (.inr (5, [.inl false, .inr (some sh.length), .inr (some sh1.length), .inr (some p3)])) := by rw [List.getElem?_append_left (by omega)]; exact b1
    refine mm_putR dX5_makeRoom_56 fp_X5_23 hC86 (show 3 < 4 by decide) (fun _ => rfl) (fun _ => rfl) ?_
    have g3 := gr_1 (sh := sh2) (s := Sum.inl (0, (4 * (N : Int)).toNat, fun _ => none)) (X := Sum.inr (5, ([Sum.inl false, Sum.inr (some sh.length), Sum.inr (some sh1.length), Sum.inr (some p3)] : List (Bool ⊕ Option Nat)).set 3 (Sum.inr (some sh2.length)))) b1 rfl
    generalize hs3 : (sh2 ++ [Sum.inl (0, (4 * (N : Int)).toNat, fun _ => none)]).set 86 (Sum.inr (5, ([Sum.inl false, Sum.inr (some sh.length), Sum.inr (some sh1.length), Sum.inr (some p3)] : List (Bool ⊕ Option Nat)).set 3 (Sum.inr (some sh2.length)))) = sh3 at *
    obtain ⟨c1, c2, c3, c4, c5⟩ := g3
    have c1 : sh3[86]? = some (.inr (5, [.inl false, .inr (some sh.length), .inr (some sh1.length), .inr (some sh2.length)])) := c1
    have e2N : (2 * (N : Int)).toNat = 2 * N := by omega
    have e4N : (4 * (N : Int)).toNat = 2 * (2 * N) := by omega
    rw [e2N] at a3 b3 a5 b5
    rw [e4N] at c3 c5
    have a5 : shz sh1 = shz sh + 2 * N := a5
    have b5 : shz sh2 = shz sh1 + 2 * N := b5
    have c5 : shz sh3 = shz sh2 + 2 * (2 * N) := c5
    have hpl3 : plS sh3 sh.length sh1.length sh2.length (2 * N) := ⟨c1, by rw [c2 _ (by omega) (by omega), b2 _ (by omega) (by omega)]; exact a3, by rw [c2 _ (by omega) (by omega)]; exact b3, c3⟩
    have hD3 : plD sh.length sh1.length sh2.length (2 * N) := ⟨by omega, by omega, kk + 1, hk9, by rw [Nat.pow_succ]; omega⟩
    refine mm_iconst dX5_makeRoom_59 ?_
    refine am_ist1 dX5_makeRoom_60 (Nat.le_of_ble_eq_true rfl) (am_c1r _) ?_
    have fS : ∀ b, b ≠ sh2.length → zrS S2 sh2.length b = S2 b := fun b hb => zrS_ne hb
    have fL : ∀ b, b ≠ sh2.length → zrL L2 sh2.length b = L2 b := fun b hb => zrL_ne hb
    refine l_room (N := N) hpl3 hD3 (by rw [fS _ (by omega), sF 86 (by omega) (by omega)]; exact hS) (by omega) (fun i j hi hj e => hd i j hi hj (by rw [fL _ (by omega), lC i hi, lC j hj] at e; exact e)) (fun S3 f3 t3 => ?_) (N + 1) 0 _ (by omega) (by omega) (fun _ _ => rfl) (tb_empty (by omega) (fun t ht => zrS_eq))
    refine ⟨rfl, sh3, S3, _, sh.length, sh1.length, sh2.length, 2 * N, rfl, ?_, hpl3, hD3, ?_, by omega, t3, fun b x1 x2 x3 x4 => ?_, fun b x1 x2 => ?_, fun i hi => ⟨?_, ?_⟩⟩
    · exact ⟨by omega, fun a x y => by rw [c2 a (by omega) y, b2 a (by omega) y, a2 a x y]⟩
    · rintro z0 ⟨q1, k, q2, q3, q4⟩
      have : k = kk := by
        have e : 2 ^ k = 2 ^ kk := by omega
        by_cases c1 : k < kk
        · have := Nat.pow_lt_pow_right (a := 2) (by decide) c1; omega
        · by_cases c2 : kk < k
          · have := Nat.pow_lt_pow_right (a := 2) (by decide) c2; omega
          · omega
      subst this
      exact ⟨by omega, k + 1, hk9, by rw [Nat.pow_succ]; omega, by omega⟩
    · rw [f3 b (by omega), fS b (by omega), sF b (by omega) (by omega)]
    · rw [fL b (by omega), lF b (by omega) (by omega)]
    · rw [fL _ (by omega), lC i hi]
    · rw [f3 _ (by omega), fS _ (by omega), sC i hi]
  · exact am_return dX5_makeRoom_12 rfl ⟨rfl, sh, S, L, p1, p2, p3, n, rfl, shE_rf sh, hpl, hD, fun _ h => h, by omega, hT, fun _ _ _ _ _ => rfl, fun _ _ _ => rfl, fun _ _ => ⟨rfl, rfl⟩⟩
