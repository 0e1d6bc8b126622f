abbrev cpF (S : mm_S) (a b s t n : Nat) : Prop := kdH S b t n ∧ (¬ kdH S a s n ∨ (kdA S a s n ∧ ¬ kdA S b t n))
def cPar (S : mm_S) (a b s t : Nat) : Prop := (kdE S b t ∧ ¬ kdE S a s) ∨ ∃ n : Nat, n < 8 ∧ cpF S a b s t n
def cG (S : mm_S) (a b s t n y : Nat) : Nat := if y = 1 then (kdF S a s n True * 6 + kdF S b t n True).toNat else (kdF S a s n False * 6 + kdF S b t n False).toNat
noncomputable def cNx (S : mm_S) (a b : Nat) (p : Nat) : List Nat := nxtL (fun n => kdH S b (p % 6 : Nat) n) (cG S a b (p / 6) (p % 6)) 8
set_option maxRecDepth 100000 in
set_option maxHeartbeats 4000000 in
theorem l_cpar {sh : List mm_H} {S : mm_S} {L : mm_L} {a b s t : Nat} (hk : kdS sh a) (hv : kdV S a) (hk2 : kdS sh b) (hv2 : kdV S b) (hs : (s : Int) < S a 0) (ht : (t : Int) < S b 0) (hE : ¬ (kdE S b t ∧ ¬ kdE S a s)) : ∀ (q : Nat) (n : Nat), 8 - n < q → (n ≤ 8) → (∀ m : Nat, m < n → ¬ cpF S a b s t m) → am_AW eX2_arePartedAt (mm sh S L) 21 [some (.ref a), some (.int (iI (s : Int))), some (.ref b), some (.int (iI (t : Int))), some (.int (iI (n : Int)))] [] (fun r M' => ∃ w, r = some (.int w) ∧ ∃ v, w = iI v ∧ tells v (cPar S a b s t) ∧ M' = mm sh S L) := by
  intro q
  induction q with
  | zero =>
    intro n hq
    exact absurd hq (Nat.not_lt_zero _)
  | succ q ih =>
    intro n hq hn hb
    obtain ⟨hA, hB, hC⟩ := id hk
    obtain ⟨hA2, hB2, hC2⟩ := id hk2
    have n1 := hv.1
    have n2 := hv2.1
    refine am_iload rfl dX2_arePartedAt_21 ?_
    refine mm_bipush dX2_arePartedAt_23 (by decide) ?_
    refine mm_jge (tgt := 81) dX2_arePartedAt_25 (by decide) (by omega) (by omega) (fun h25 => ?_) (fun h25 => ?_)
    · refine mm_iconst dX2_arePartedAt_81 ?_
      refine am_ireturn dX2_arePartedAt_82 rfl rfl ?_
      exact ⟨_, rfl, 0, rfl, Or.inr ⟨rfl, fun z => z.elim hE (fun ⟨m, h1, h2⟩ => hb m (by omega) h2)⟩, rfl⟩
    · refine am_aload_n rfl dX2_arePartedAt_28 ?_
      refine am_iload_n rfl dX2_arePartedAt_29 ?_
      refine am_iload rfl dX2_arePartedAt_30 ?_
      refine am_ci (mm_V2 dX2_arePartedAt_32 in_X4_hasUse mk_X2_46 im_X4_hasUse sl_X4_hasUse ⟨Nat.le_of_ble_eq_true rfl, Nat.le_of_ble_eq_true rfl⟩ rfl hA2 (Nat.le_of_ble_eq_true rfl)) (c_hasUse hk2 hv2 (by omega) (by omega)) ?_
      refine mm_bne (tgt := 41) dX2_arePartedAt_35 (by decide) (fun h35 => ?_) (fun h35 => ?_)
      · refine am_aload_n rfl dX2_arePartedAt_41 ?_
        refine am_iload_n rfl dX2_arePartedAt_42 ?_
        refine am_iload rfl dX2_arePartedAt_43 ?_
        refine am_ci (mm_V2 dX2_arePartedAt_45 in_X4_hasUse mk_X2_46 im_X4_hasUse sl_X4_hasUse ⟨Nat.le_of_ble_eq_true rfl, Nat.le_of_ble_eq_true rfl⟩ rfl hA (Nat.le_of_ble_eq_true rfl)) (c_hasUse hk hv (by omega) (by omega)) ?_
        refine mm_bne (tgt := 53) dX2_arePartedAt_48 (by decide) (fun h48 => ?_) (fun h48 => ?_)
        · refine am_aload_n rfl dX2_arePartedAt_53 ?_
          refine am_iload_n rfl dX2_arePartedAt_54 ?_
          refine am_iload rfl dX2_arePartedAt_55 ?_
          refine am_ci (mm_V2 dX2_arePartedAt_57 in_X4_isAsking mk_X2_50 im_X4_isAsking sl_X4_isAsking ⟨Nat.le_of_ble_eq_true rfl, Nat.le_of_ble_eq_true rfl⟩ rfl hA (Nat.le_of_ble_eq_true rfl)) (c_isAsking hk hv (by omega) (by omega)) ?_
          refine mm_beq (tgt := 75) dX2_arePartedAt_60 (by decide) (fun h60 => ?_) (fun h60 => ?_)
          · refine mm_inc4 dX2_arePartedAt_75 (Nat.le_of_ble_eq_true rfl) (am_c1i _) ?_
            refine am_goto (tgt := 21) dX2_arePartedAt_78 (by decide) ?_
            refine ih (n + 1) (by omega) (by omega) (fun m hm z => ?_)
            by_cases hmn : m = n
            · subst hmn
              first | exact absurd z.1 (by assumption) | exact z.2.elim (fun q => q (by assumption)) (fun q => absurd q.1 (by assumption)) | exact z.2.elim (fun q => q (by assumption)) (fun q => q.2 (by assumption))
            · exact hb m (by omega) z
          · refine am_aload_n rfl dX2_arePartedAt_63 ?_
            refine am_iload_n rfl dX2_arePartedAt_64 ?_
            refine am_iload rfl dX2_arePartedAt_65 ?_
            refine am_ci (mm_V2 dX2_arePartedAt_67 in_X4_isAsking mk_X2_50 im_X4_isAsking sl_X4_isAsking ⟨Nat.le_of_ble_eq_true rfl, Nat.le_of_ble_eq_true rfl⟩ rfl hA2 (Nat.le_of_ble_eq_true rfl)) (c_isAsking hk2 hv2 (by omega) (by omega)) ?_
            refine mm_bne (tgt := 75) dX2_arePartedAt_70 (by decide) (fun h70 => ?_) (fun h70 => ?_)
            · refine mm_inc4 dX2_arePartedAt_75 (Nat.le_of_ble_eq_true rfl) (am_c1i _) ?_
              refine am_goto (tgt := 21) dX2_arePartedAt_78 (by decide) ?_
              refine ih (n + 1) (by omega) (by omega) (fun m hm z => ?_)
              by_cases hmn : m = n
              · subst hmn
                first | exact absurd z.1 (by assumption) | exact z.2.elim (fun q => q (by assumption)) (fun q => absurd q.1 (by assumption)) | exact z.2.elim (fun q => q (by assumption)) (fun q => q.2 (by assumption))
              · exact hb m (by omega) z
            · refine mm_iconst dX2_arePartedAt_73 ?_
              refine am_ireturn dX2_arePartedAt_74 rfl rfl ?_
              exact ⟨_, rfl, 1, rfl, Or.inl ⟨rfl, Or.inr ⟨n, by omega, by assumption, Or.inr ⟨by assumption, by assumption⟩⟩⟩, rfl⟩
        · refine mm_iconst dX2_arePartedAt_51 ?_
          refine am_ireturn dX2_arePartedAt_52 rfl rfl ?_
          exact ⟨_, rfl, 1, rfl, Or.inl ⟨rfl, Or.inr ⟨n, by omega, by assumption, Or.inl (by assumption)⟩⟩, rfl⟩
      · refine am_goto (tgt := 75) dX2_arePartedAt_38 (by decide) ?_
        refine mm_inc4 dX2_arePartedAt_75 (Nat.le_of_ble_eq_true rfl) (am_c1i _) ?_
        refine am_goto (tgt := 21) dX2_arePartedAt_78 (by decide) ?_
        refine ih (n + 1) (by omega) (by omega) (fun m hm z => ?_)
        by_cases hmn : m = n
        · subst hmn
          first | exact absurd z.1 (by assumption) | exact z.2.elim (fun q => q (by assumption)) (fun q => absurd q.1 (by assumption)) | exact z.2.elim (fun q => q (by assumption)) (fun q => q.2 (by assumption))
        · exact hb m (by omega) z
set_option maxRecDepth 100000 in
set_option maxHeartbeats 4000000 in
theorem c_arePartedAt {sh : List mm_H} {S : mm_S} {L : mm_L} {a b s t : Nat} (hk : kdS sh a) (hv : kdV S a) (hk2 : kdS sh b) (hv2 : kdV S b) (hs : (s : Int) < S a 0) (ht : (t : Int) < S b 0) : am_E eX2_arePartedAt [.ref a, .int (iI (s : Int)), .ref b, .int (iI (t : Int))] (mm sh S L) (fun r M' => ∃ w, r = some (.int w) ∧ ∃ v, w = iI v ∧ tells v (cPar S a b s t) ∧ M' = mm sh S L) := by
  obtain ⟨hA, hB, hC⟩ := id hk
  obtain ⟨hA2, hB2, hC2⟩ := id hk2
  have n1 := hv.1
  have n2 := hv2.1
  refine am_enter rfl rfl (Nat.le_of_ble_eq_true rfl) ?_
  refine am_aload_n rfl dX2_arePartedAt_0 ?_
  refine am_iload_n rfl dX2_arePartedAt_1 ?_
  refine am_ci (mm_V1 dX2_arePartedAt_2 in_X4_isEnd mk_X2_40 im_X4_isEnd sl_X4_isEnd ⟨Nat.le_of_ble_eq_true rfl, Nat.le_of_ble_eq_true rfl⟩ rfl hA2 (Nat.le_of_ble_eq_true rfl)) (c_isEnd hk2 hv2 (by omega)) ?_
  refine mm_beq (tgt := 18) dX2_arePartedAt_5 (by decide) (fun h5 => ?_) (fun h5 => ?_)
  · refine mm_iconst dX2_arePartedAt_18 ?_
    refine am_ist4 dX2_arePartedAt_19 (Nat.le_of_ble_eq_true rfl) (am_c1i _) ?_
    exact l_cpar hk hv hk2 hv2 hs ht (fun z => by first | exact z.2 (by assumption) | exact absurd z.1 (by assumption)) 9 0 (by omega) (by omega) (fun m hm => absurd hm (Nat.not_lt_zero m))
  · refine am_aload_n rfl dX2_arePartedAt_8 ?_
    refine am_iload_n rfl dX2_arePartedAt_9 ?_
    refine am_ci (mm_V1 dX2_arePartedAt_10 in_X4_isEnd mk_X2_40 im_X4_isEnd sl_X4_isEnd ⟨Nat.le_of_ble_eq_true rfl, Nat.le_of_ble_eq_true rfl⟩ rfl hA (Nat.le_of_ble_eq_true rfl)) (c_isEnd hk hv (by omega)) ?_
    refine mm_bne (tgt := 18) dX2_arePartedAt_13 (by decide) (fun h13 => ?_) (fun h13 => ?_)
    · refine mm_iconst dX2_arePartedAt_18 ?_
      refine am_ist4 dX2_arePartedAt_19 (Nat.le_of_ble_eq_true rfl) (am_c1i _) ?_
      exact l_cpar hk hv hk2 hv2 hs ht (fun z => by first | exact z.2 (by assumption) | exact absurd z.1 (by assumption)) 9 0 (by omega) (by omega) (fun m hm => absurd hm (Nat.not_lt_zero m))
    · refine mm_iconst dX2_arePartedAt_16 ?_
      refine am_ireturn dX2_arePartedAt_17 rfl rfl ?_
      exact ⟨_, rfl, 1, rfl, Or.inl ⟨rfl, Or.inl ⟨by assumption, by assumption⟩⟩, rfl⟩
theorem ftF.kv {S S' : mm_S} {a : Nat} (h : ftF S S') (ha : a + 2 < 82) (hv : kdV S a) : kdV S' a := by
  unfold kdV
  rw [h a (by omega) (by omega) (by omega), h (a + 1) (by omega) (by omega) (by omega), h (a + 2) (by omega) (by omega) (by omega)]
  exact hv
theorem ftF.rf (S : mm_S) : ftF S S := fun _ _ _ _ => rfl
theorem ftF.tr {S S1 S2 : mm_S} (h : ftF S S1) (h2 : ftF S1 S2) : ftF S S2 := fun b b1 b2 b3 => (h2 b b1 b2 b3).trans (h b b1 b2 b3)
theorem ftF.H {S S' : mm_S} {a : Nat} {s n : Int} (h : ftF S S') (ha : a + 2 < 82) : kdH S' a s n ↔ kdH S a s n := by
  unfold kdH kdU
  rw [h a (by omega) (by omega) (by omega), h (a + 1) (by omega) (by omega) (by omega)]
theorem ftF.kF {S S' : mm_S} {a : Nat} {s n : Int} {y : Prop} [Decidable y] (h : ftF S S') (ha : a + 2 < 82) : kdF S' a s n y = kdF S a s n y := by
  unfold kdF kdU
  rw [h a (by omega) (by omega) (by omega), h (a + 1) (by omega) (by omega) (by omega), h (a + 2) (by omega) (by omega) (by omega)]
theorem ftF.Par {S S' : mm_S} {a b s t : Nat} (h : ftF S S') (ha : a + 2 < 82) (hb : b + 2 < 82) : cPar S' a b s t ↔ cPar S a b s t := by
  unfold cPar cpF kdH kdA kdU kdE
  rw [h a (by omega) (by omega) (by omega), h (a + 1) (by omega) (by omega) (by omega), h (a + 2) (by omega) (by omega) (by omega), h b (by omega) (by omega) (by omega), h (b + 1) (by omega) (by omega) (by omega), h (b + 2) (by omega) (by omega) (by omega)]
/-- where a USE leads is a STATE, if entries are STATES -/
def kdW (S : mm_S) (a : Nat) : Prop := ∀ i, S (a + 1) i < S a 0 ∧ S (a + 2) i < S a 0
theorem kdF_st {S : mm_S} {a : Nat} {s n : Int} {y : Prop} [Decidable y] (hv : kdV S a) (hw : kdW S a) (h : kdH S a s n) : 0 ≤ kdF S a s n y ∧ kdF S a s n y < S a 0 := by
  unfold kdF
  rw [if_pos h.1]
  have h1 := hv.2.2.1 (s * 8 + n).toNat
  have h2 := hv.2.2.2 (s * 8 + n).toNat
  have h3 := hw (s * 8 + n).toNat
  have h4 := h.2
  split
  · omega
  · rename_i hc
    have : ¬ S (a + 2) (s * 8 + n).toNat = -1 := fun z => hc (Or.inr z)
    omega
def lD (l : List (Nat × Nat)) : Prop := ∀ j q d : Nat, l[j]? = some (q, d) → d ≤ j
theorem lD_fnd {l : List (Nat × Nat)} {q d : Nat} (h : lD l) (hd : d ≤ l.length) : lD (fnd d l q) ∧ l.length ≤ (fnd d l q).length ∧ ∀ j : Nat, j < l.length → (fnd d l q)[j]? = l[j]? := by
  unfold fnd
  split
  · exact ⟨h, Nat.le_refl _, fun _ _ => rfl⟩
  · refine ⟨fun j p e hj => ?_, by simp, fun j hj => List.getElem?_append_left hj⟩
    by_cases hjl : j < l.length
    · rw [List.getElem?_append_left hjl] at hj
      exact h j p e hj
    · rw [List.getElem?_append_right (by omega)] at hj
      have := (List.getElem?_eq_some_iff.mp hj).1
      simp at this
      rw [show j - l.length = 0 by omega] at hj
      simp at hj
      omega
/-- the pairs' STATES are there -/
def lSt (l : List (Nat × Nat)) (m1 m2 : Int) : Prop := ∀ x ∈ l, ((x.1 / 6 : Nat) : Int) < m1 ∧ ((x.1 % 6 : Nat) : Int) < m2
theorem lSt_fnd {l : List (Nat × Nat)} {m1 m2 : Int} {q d : Nat} (h : lSt l m1 m2) (hq : ((q / 6 : Nat) : Int) < m1 ∧ ((q % 6 : Nat) : Int) < m2) : lSt (fnd d l q) m1 m2 := by
  unfold fnd
  split
  · exact h
  · intro x hx
    rcases List.mem_append.mp hx with h1 | h1
    · exact h x h1
    · simp at h1; subst h1; exact hq
set_option maxRecDepth 100000 in
set_option maxHeartbeats 4000000 in
theorem l_behind {sh : List mm_H} {S : mm_S} {L : mm_L} {a b s t d : Nat} {l : List (Nat × Nat)} (hf : ftS sh) (hk : kdS sh a) (hv : kdV S a) (hk2 : kdS sh b) (hv2 : kdV S b) (hw1 : kdW S a) (hw2 : kdW S b) (hs : (s : Int) < S a 0) (ht : (t : Int) < S b 0) (ha : a + 2 < 82) (hb : b + 2 < 82) (hnp : ¬ cPar S a b s t) (hd : d + 1 ≤ 36) (hdl : d + 1 ≤ l.length) : ∀ (q : Nat) (n : Nat) (S' : mm_S), 8 - n < q → (n ≤ 8) → (ftF S S') → (ftI S' ((nxtL (fun n => kdH S b t n) (cG S a b s t) n).foldl (fnd (d + 1)) l)) → (lOK ((nxtL (fun n => kdH S b t n) (cG S a b s t) n).foldl (fnd (d + 1)) l) ∧ lD ((nxtL (fun n => kdH S b t n) (cG S a b s t) n).foldl (fnd (d + 1)) l) ∧ lSt ((nxtL (fun n => kdH S b t n) (cG S a b s t) n).foldl (fnd (d + 1)) l) (S a 0) (S b 0) ∧ l.length ≤ ((nxtL (fun n => kdH S b t n) (cG S a b s t) n).foldl (fnd (d + 1)) l).length ∧ ∀ j : Nat, j < l.length → ((nxtL (fun n => kdH S b t n) (cG S a b s t) n).foldl (fnd (d + 1)) l)[j]? = l[j]?) → am_AW eX2_findBehind (mm sh S' L) 19 [some (.ref 82), some (.ref a), some (.int (iI (s : Int))), some (.ref b), some (.int (iI (t : Int))), some (.int (iI ((d : Int) + 1))), some (.int (iI (n : Int)))] [] (fun r M' => r = none ∧ ∃ S2, M' = mm sh S2 L ∧ ftI S2 ((nxtL (fun n => kdH S b t n) (cG S a b s t) 8).foldl (fnd (d + 1)) l) ∧ (lOK ((nxtL (fun n => kdH S b t n) (cG S a b s t) 8).foldl (fnd (d + 1)) l) ∧ lD ((nxtL (fun n => kdH S b t n) (cG S a b s t) 8).foldl (fnd (d + 1)) l) ∧ lSt ((nxtL (fun n => kdH S b t n) (cG S a b s t) 8).foldl (fnd (d + 1)) l) (S a 0) (S b 0) ∧ l.length ≤ ((nxtL (fun n => kdH S b t n) (cG S a b s t) 8).foldl (fnd (d + 1)) l).length ∧ ∀ j : Nat, j < l.length → ((nxtL (fun n => kdH S b t n) (cG S a b s t) 8).foldl (fnd (d + 1)) l)[j]? = l[j]?) ∧ ftF S S2) := by
  intro q
  induction q with
  | zero =>
    intro n S' hq
    exact absurd hq (Nat.not_lt_zero _)
  | succ q ih =>
    intro n S' hq hn hF hI hL
    obtain ⟨hf0, hf1, hf2⟩ := id hf
    obtain ⟨hA, hB, hC⟩ := id hk
    obtain ⟨hA2, hB2, hC2⟩ := id hk2
    have n1 := hv.1
    have n2 := hv2.1
    have v1 := hF.kv ha hv
    have v2 := hF.kv hb hv2
    have ea : S' a = S a := hF a (by omega) (by omega) (by omega)
    have eb : S' b = S b := hF b (by omega) (by omega) (by omega)
    refine am_iload rfl dX2_findBehind_19 ?_
    refine mm_bipush dX2_findBehind_21 (by decide) ?_
    refine mm_jge (tgt := 92) dX2_findBehind_23 (by decide) (by omega) (by omega) (fun h23 => ?_) (fun h23 => ?_)
    · have : n = 8 := by omega
      subst this
      exact am_return dX2_findBehind_92 rfl ⟨rfl, S', rfl, hI, hL, hF⟩
    · refine am_aload_n rfl dX2_findBehind_26 ?_
      refine am_iload rfl dX2_findBehind_27 ?_
      refine am_iload rfl dX2_findBehind_29 ?_
      refine am_ci (mm_V2 dX2_findBehind_31 in_X4_hasUse mk_X2_46 im_X4_hasUse sl_X4_hasUse ⟨Nat.le_of_ble_eq_true rfl, Nat.le_of_ble_eq_true rfl⟩ rfl hA2 (Nat.le_of_ble_eq_true rfl)) (c_hasUse hk2 v2 (by omega) (by omega)) ?_
      refine mm_bne (tgt := 40) dX2_findBehind_34 (by decide) (fun h34 => ?_) (fun h34 => ?_)
      · have hH2 : kdH S b t n := (hF.H hb).mp (by assumption)
        have hH1 : kdH S a s n := Classical.byContradiction (fun z => hnp (Or.inr ⟨n, by omega, hH2, Or.inl z⟩))
        have s1 := kdF_st (y := True) hv hw1 hH1
        have s2 := kdF_st (y := True) hv2 hw2 hH2
        have s3 := kdF_st (y := False) hv hw1 hH1
        have s4 := kdF_st (y := False) hv2 hw2 hH2
        obtain ⟨j1, j2, j3, j4, j5⟩ := hL
        have j0 := j1.len
        refine am_aload_n rfl dX2_findBehind_40 ?_
        refine am_aload_n rfl dX2_findBehind_41 ?_
        refine am_iload_n rfl dX2_findBehind_42 ?_
        refine am_iload rfl dX2_findBehind_43 ?_
        refine mm_iconst dX2_findBehind_45 ?_
        refine am_ci (mm_V3 dX2_findBehind_46 in_X4_after mk_X2_53 im_X4_after sl_X4_after ⟨Nat.le_of_ble_eq_true rfl, Nat.le_of_ble_eq_true rfl⟩ rfl hA (Nat.le_of_ble_eq_true rfl)) (c_after (y := True) hk v1 (by omega) (by omega)) ?_
        rw [hF.kF ha]
        refine am_aload_n rfl dX2_findBehind_49 ?_
        refine am_iload rfl dX2_findBehind_50 ?_
        refine am_iload rfl dX2_findBehind_52 ?_
        refine mm_iconst dX2_findBehind_54 ?_
        refine am_ci (mm_V3 dX2_findBehind_55 in_X4_after mk_X2_53 im_X4_after sl_X4_after ⟨Nat.le_of_ble_eq_true rfl, Nat.le_of_ble_eq_true rfl⟩ rfl hA2 (Nat.le_of_ble_eq_true rfl)) (c_after (y := True) hk2 v2 (by omega) (by omega)) ?_
        rw [hF.kF hb]
        refine am_iload rfl dX2_findBehind_58 ?_
        refine am_cxv (mm_V3 dX2_findBehind_60 in_X2_find mk_X2_28 im_X2_find sl_X2_find ⟨Nat.le_of_ble_eq_true rfl, Nat.le_of_ble_eq_true rfl⟩ rfl hf0 (Nat.le_of_ble_eq_true rfl)) (c_find (l := ((nxtL (fun n => kdH S b t n) (cG S a b s t) n).foldl (fnd (d + 1)) l)) (d := d + 1) hf hI j1 (by omega) (by omega) (by omega)) (fun M1 hM1 => ?_)
        obtain ⟨S1, rfl, hI1, hF1⟩ := hM1
        have hF01 := hF.tr hF1
        have k1 := lOK_fnd j1 (q := (kdF S a s n True * 6 + kdF S b t n True).toNat) (d := d + 1) (by omega) (by omega)
        have k2 := lD_fnd (q := (kdF S a s n True * 6 + kdF S b t n True).toNat) (d := d + 1) j2 (by omega)
        have k3 := lSt_fnd (q := (kdF S a s n True * 6 + kdF S b t n True).toNat) (d := d + 1) j3 (by constructor <;> omega)
        have v1 := hF01.kv ha hv
        have v2 := hF01.kv hb hv2
        refine am_aload_n rfl dX2_findBehind_63 ?_
        refine am_aload_n rfl dX2_findBehind_64 ?_
        refine am_iload_n rfl dX2_findBehind_65 ?_
        refine am_iload rfl dX2_findBehind_66 ?_
        refine mm_iconst dX2_findBehind_68 ?_
        refine am_ci (mm_V3 dX2_findBehind_69 in_X4_after mk_X2_53 im_X4_after sl_X4_after ⟨Nat.le_of_ble_eq_true rfl, Nat.le_of_ble_eq_true rfl⟩ rfl hA (Nat.le_of_ble_eq_true rfl)) (c_after (y := False) hk v1 (by omega) (by omega)) ?_
        rw [hF01.kF ha]
        refine am_aload_n rfl dX2_findBehind_72 ?_
        refine am_iload rfl dX2_findBehind_73 ?_
        refine am_iload rfl dX2_findBehind_75 ?_
        refine mm_iconst dX2_findBehind_77 ?_
        refine am_ci (mm_V3 dX2_findBehind_78 in_X4_after mk_X2_53 im_X4_after sl_X4_after ⟨Nat.le_of_ble_eq_true rfl, Nat.le_of_ble_eq_true rfl⟩ rfl hA2 (Nat.le_of_ble_eq_true rfl)) (c_after (y := False) hk2 v2 (by omega) (by omega)) ?_
        rw [hF01.kF hb]
        refine am_iload rfl dX2_findBehind_81 ?_
        refine am_cxv (mm_V3 dX2_findBehind_83 in_X2_find mk_X2_28 im_X2_find sl_X2_find ⟨Nat.le_of_ble_eq_true rfl, Nat.le_of_ble_eq_true rfl⟩ rfl hf0 (Nat.le_of_ble_eq_true rfl)) (c_find (d := d + 1) hf hI1 k1 (by omega) (by omega) (by omega)) (fun M2 hM2 => ?_)
        obtain ⟨S2, rfl, hI2, hF2⟩ := hM2
        have m1 := lOK_fnd k1 (q := (kdF S a s n False * 6 + kdF S b t n False).toNat) (d := d + 1) (by omega) (by omega)
        have m2 := lD_fnd (q := (kdF S a s n False * 6 + kdF S b t n False).toNat) (d := d + 1) k2.1 (by omega)
        have m3 := lSt_fnd (q := (kdF S a s n False * 6 + kdF S b t n False).toNat) (d := d + 1) k3 (by constructor <;> omega)
        refine mm_inc6 dX2_findBehind_86 (Nat.le_of_ble_eq_true rfl) (am_c1i _) ?_
        refine am_goto (tgt := 19) dX2_findBehind_89 (by decide) ?_
        first
          | (have e : ((nxtL (fun n => kdH S b t n) (cG S a b s t) (n + 1)).foldl (fnd (d + 1)) l) = fnd (d + 1) (fnd (d + 1) ((nxtL (fun n => kdH S b t n) (cG S a b s t) n).foldl (fnd (d + 1)) l) (kdF S a s n True * 6 + kdF S b t n True).toNat) (kdF S a s n False * 6 + kdF S b t n False).toNat := by
               simp only [nxtL]
               rw [cif_t hH2, List.foldl_append]
               rfl
             refine ih (n + 1) S2 (by omega) (by omega) (hF01.tr hF2) (by rw [e]; exact hI2) ?_
             rw [e]
             exact ⟨m1, m2.1, m3, by omega, fun j hj => by rw [m2.2.2 j (by omega), k2.2.2 j (by omega)]; exact j5 j hj⟩)
          | (have e : ((nxtL (fun n => kdH S b t n) (cG S a b s t) (n + 1)).foldl (fnd (d + 1)) l) = ((nxtL (fun n => kdH S b t n) (cG S a b s t) n).foldl (fnd (d + 1)) l) := by
               simp only [nxtL]
               rw [cif_f (fun z => absurd ((hF.H hb).mpr z) (by assumption)), List.append_nil]
             refine ih (n + 1) S' (by omega) (by omega) hF (by rw [e]; exact hI) ?_
             rw [e]
             exact hL)
      · refine am_goto (tgt := 86) dX2_findBehind_37 (by decide) ?_
        refine mm_inc6 dX2_findBehind_86 (Nat.le_of_ble_eq_true rfl) (am_c1i _) ?_
        refine am_goto (tgt := 19) dX2_findBehind_89 (by decide) ?_
        first
          | (have e : ((nxtL (fun n => kdH S b t n) (cG S a b s t) (n + 1)).foldl (fnd (d + 1)) l) = fnd (d + 1) (fnd (d + 1) ((nxtL (fun n => kdH S b t n) (cG S a b s t) n).foldl (fnd (d + 1)) l) (kdF S a s n True * 6 + kdF S b t n True).toNat) (kdF S a s n False * 6 + kdF S b t n False).toNat := by
               simp only [nxtL]
               rw [cif_t hH2, List.foldl_append]
               rfl
             refine ih (n + 1) S2 (by omega) (by omega) (hF01.tr hF2) (by rw [e]; exact hI2) ?_
             rw [e]
             exact ⟨m1, m2.1, m3, by omega, fun j hj => by rw [m2.2.2 j (by omega), k2.2.2 j (by omega)]; exact j5 j hj⟩)
          | (have e : ((nxtL (fun n => kdH S b t n) (cG S a b s t) (n + 1)).foldl (fnd (d + 1)) l) = ((nxtL (fun n => kdH S b t n) (cG S a b s t) n).foldl (fnd (d + 1)) l) := by
               simp only [nxtL]
               rw [cif_f (fun z => absurd ((hF.H hb).mpr z) (by assumption)), List.append_nil]
             refine ih (n + 1) S' (by omega) (by omega) hF (by rw [e]; exact hI) ?_
             rw [e]
             exact hL)
