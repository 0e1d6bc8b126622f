set_option maxRecDepth 100000 in
set_option maxHeartbeats 4000000 in
theorem c_findBehind {sh : List mm_H} {S : mm_S} {L : mm_L} {a b s t d : Nat} {l : List (Nat × Nat)} (hf : ftS sh) (hk : kdS sh a) (hv : kdV S a) (hk2 : kdS sh b) (hv2 : kdV S b) (hw1 : kdW S a) (hw2 : kdW S b) (hs : (s : Int) < S a 0) (ht : (t : Int) < S b 0) (ha : a + 2 < 82) (hb : b + 2 < 82) (hnp : ¬ cPar S a b s t) (hI : ftI S l) (hL : lOK l ∧ lD l ∧ lSt l (S a 0) (S b 0)) (hq : (6 * s + t, d) ∈ l) (hd : d + 1 ≤ 36) (hdl : d + 1 ≤ l.length) : am_E eX2_findBehind [.ref 82, .ref a, .int (iI (s : Int)), .ref b, .int (iI (t : Int))] (mm sh S L) (fun r M' => r = none ∧ ∃ S2, M' = mm sh S2 L ∧ ftI S2 ((nxtL (fun n => kdH S b t n) (cG S a b s t) 8).foldl (fnd (d + 1)) l) ∧ (lOK ((nxtL (fun n => kdH S b t n) (cG S a b s t) 8).foldl (fnd (d + 1)) l) ∧ lD ((nxtL (fun n => kdH S b t n) (cG S a b s t) 8).foldl (fnd (d + 1)) l) ∧ lSt ((nxtL (fun n => kdH S b t n) (cG S a b s t) 8).foldl (fnd (d + 1)) l) (S a 0) (S b 0) ∧ l.length ≤ ((nxtL (fun n => kdH S b t n) (cG S a b s t) 8).foldl (fnd (d + 1)) l).length ∧ ∀ j : Nat, j < l.length → ((nxtL (fun n => kdH S b t n) (cG S a b s t) 8).foldl (fnd (d + 1)) l)[j]? = l[j]?) ∧ ftF S S2) := by
  obtain ⟨hf0, hf1, hf2⟩ := id hf
  obtain ⟨hA, hB, hC⟩ := id hk
  obtain ⟨hA2, hB2, hC2⟩ := id hk2
  have n1 := hv.1
  have n2 := hv2.1
  have hu : S 83 ((s : Int) * 6 + t).toNat = (d : Int) := by
    obtain ⟨j, hj⟩ := List.getElem?_of_mem hq
    rw [show ((s : Int) * 6 + t).toNat = 6 * s + t by omega]
    exact (hI.2.1 j _ d hj).2
  refine am_enter rfl rfl (Nat.le_of_ble_eq_true rfl) ?_
  refine am_aload_n rfl dX2_findBehind_0 ?_
  refine mm_getR dX2_findBehind_1 fl_X2_9 hf0 rfl ?_
  refine am_iload_n rfl dX2_findBehind_4 ?_
  refine mm_bipush dX2_findBehind_5 (by decide) ?_
  refine mm_imul dX2_findBehind_7 ?_
  refine am_iload rfl dX2_findBehind_8 ?_
  refine mm_iadd dX2_findBehind_10 ?_
  refine mm_ial dX2_findBehind_11 hf1 (by omega) ?_
  rw [hu]
  refine mm_iconst dX2_findBehind_12 ?_
  refine mm_iadd dX2_findBehind_13 ?_
  refine am_ist5 dX2_findBehind_14 (Nat.le_of_ble_eq_true rfl) (am_c1i _) ?_
  refine mm_iconst dX2_findBehind_16 ?_
  refine am_ist6 dX2_findBehind_17 (Nat.le_of_ble_eq_true rfl) (am_c1i _) ?_
  exact l_behind hf hk hv hk2 hv2 hw1 hw2 hs ht ha hb hnp hd hdl 9 0 S (by omega) (by omega) (ftF.rf S) hI ⟨hL.1, hL.2.1, hL.2.2, Nat.le_refl _, fun _ _ => rfl⟩
set_option maxRecDepth 100000 in
set_option maxHeartbeats 4000000 in
theorem l_uses {sh : List mm_H} {S : mm_S} {L : mm_L} {a b : Nat} (hf : ftS sh) (hk : kdS sh a) (hv : kdV S a) (hk2 : kdS sh b) (hv2 : kdV S b) (hw1 : kdW S a) (hw2 : kdW S b) (ha : a + 2 < 82) (hb : b + 2 < 82) (hp1 : 0 < S a 0) (hp2 : 0 < S b 0) : ∀ (q : Nat) (i : Nat) (S' : mm_S) (l : List (Nat × Nat)), 36 - i < q → (i ≤ l.length) → (ftF S S') → (ftI S' l) → (lOK l ∧ lD l ∧ lSt l (S a 0) (S b 0)) → am_AW eX2_usesToParting (mm sh S' L) 22 [some (.ref 82), some (.ref a), some (.ref b), some (.int (iI (i : Int))), none, none] [] (fun r M' => ∃ S2 x, r = some (.int (iI x)) ∧ x = bfs (fun p => cPar S a b (p / 6) (p % 6)) (cNx S a b) q i l ∧ (-1 ≤ x ∧ x ≤ 40) ∧ M' = mm sh S2 L ∧ ftF S S2) := by
  intro q
  induction q with
  | zero =>
    intro i S' l hq
    exact absurd hq (Nat.not_lt_zero _)
  | succ q ih =>
    intro i S' l hq hi hF hI hL
    obtain ⟨hf0, hf1, hf2⟩ := id hf
    obtain ⟨i1, i2, i3⟩ := id hI
    have hlen := hL.1.len
    obtain ⟨hA, hB, hC⟩ := id hk
    obtain ⟨hA2, hB2, hC2⟩ := id hk2
    have n1 := hv.1
    have n2 := hv2.1
    have v1 := hF.kv ha hv
    have v2 := hF.kv hb hv2
    refine am_iload_n rfl dX2_usesToParting_22 ?_
    refine am_aload_n rfl dX2_usesToParting_23 ?_
    refine mm_getI dX2_usesToParting_24 fl_X2_18 hf0 rfl ?_
    rw [i1]
    refine mm_jge (tgt := 101) dX2_usesToParting_27 (by decide) (by omega) (by omega) (fun h27 => ?_) (fun h27 => ?_)
    · refine mm_iconst dX2_usesToParting_101 ?_
      refine am_ireturn dX2_usesToParting_102 rfl rfl ?_
      refine ⟨S', -1, rfl, ?_, by omega, rfl, hF⟩
      rw [bfs, List.getElem?_eq_none (by omega)]
    · refine am_iload_n rfl dX2_usesToParting_30 ?_
      refine am_aload_n rfl dX2_usesToParting_31 ?_
      refine mm_getR dX2_usesToParting_32 fl_X2_15 hf0 rfl ?_
      refine mm_len0 dX2_usesToParting_35 hf2 ?_
      refine mm_jge (tgt := 101) dX2_usesToParting_36 (by decide) (by omega) (by omega) (fun h36 => ?_) (fun h36 => ?_)
      · refine mm_iconst dX2_usesToParting_101 ?_
        refine am_ireturn dX2_usesToParting_102 rfl rfl ?_
        refine ⟨S', -1, rfl, ?_, by omega, rfl, hF⟩
        rw [bfs, List.getElem?_eq_none (by omega)]
      · obtain ⟨⟨p, d⟩, hpd⟩ : ∃ x, l[i]? = some x := ⟨_, List.getElem?_eq_getElem (by omega)⟩
        have hmem := List.mem_of_getElem? hpd
        have hp84 := (i2 i p d hpd).1
        have hp36 := (hL.1.2 _ hmem).1
        have hst := hL.2.2 _ hmem
        have hdj := hL.2.1 i p d hpd
        simp only [] at hp36 hst
        have ea : S' a = S a := hF a (by omega) (by omega) (by omega)
        have eb : S' b = S b := hF b (by omega) (by omega) (by omega)
        have e6 : ((p : Int) / 6) = ((p / 6 : Nat) : Int) := by omega
        have e7 : ((p : Int) % 6) = ((p % 6 : Nat) : Int) := by omega
        refine am_aload_n rfl dX2_usesToParting_39 ?_
        refine mm_getR dX2_usesToParting_40 fl_X2_15 hf0 rfl ?_
        refine am_iload_n rfl dX2_usesToParting_43 ?_
        refine mm_ial dX2_usesToParting_44 hf2 (by omega) ?_
        rw [Int.toNat_natCast, hp84]
        refine mm_bipush dX2_usesToParting_45 (by decide) ?_
        refine mm_idiv dX2_usesToParting_47 (by omega) (by omega) ?_
        rw [e6]
        refine am_ist4 dX2_usesToParting_48 (Nat.le_of_ble_eq_true rfl) (am_c1i _) ?_
        refine am_aload_n rfl dX2_usesToParting_50 ?_
        refine mm_getR dX2_usesToParting_51 fl_X2_15 hf0 rfl ?_
        refine am_iload_n rfl dX2_usesToParting_54 ?_
        refine mm_ial dX2_usesToParting_55 hf2 (by omega) ?_
        rw [Int.toNat_natCast, hp84]
        refine mm_bipush dX2_usesToParting_56 (by decide) ?_
        refine mm_irem dX2_usesToParting_58 (by omega) (by omega) ?_
        rw [e7]
        refine am_ist5 dX2_usesToParting_59 (Nat.le_of_ble_eq_true rfl) (am_c1i _) ?_
        refine am_aload_n rfl dX2_usesToParting_61 ?_
        refine am_iload rfl dX2_usesToParting_62 ?_
        refine am_aload_n rfl dX2_usesToParting_64 ?_
        refine am_iload rfl dX2_usesToParting_65 ?_
        refine am_cxi (mm_S4 dX2_usesToParting_67 in_X2_arePartedAt mk_X2_32 st_X2_arePartedAt ⟨Nat.le_of_ble_eq_true rfl, Nat.le_of_ble_eq_true rfl⟩ (Nat.le_of_ble_eq_true rfl)) (c_arePartedAt hk v1 hk2 v2 (by rw [ea]; omega) (by rw [eb]; omega)) (fun w M1 hM1 => ?_)
        obtain ⟨v, rfl, hv3, rfl⟩ := hM1
        have hv01 := tells_01 hv3
        refine mm_zeq (tgt := 85) dX2_usesToParting_70 (by decide) (by omega) (fun h70 => ?_) (fun h70 => ?_)
        · refine am_aload_n rfl dX2_usesToParting_85 ?_
          refine am_aload_n rfl dX2_usesToParting_86 ?_
          refine am_iload rfl dX2_usesToParting_87 ?_
          refine am_aload_n rfl dX2_usesToParting_89 ?_
          refine am_iload rfl dX2_usesToParting_90 ?_
          refine am_cxv (mm_V4 dX2_usesToParting_92 in_X2_findBehind mk_X2_36 im_X2_findBehind sl_X2_findBehind ⟨Nat.le_of_ble_eq_true rfl, Nat.le_of_ble_eq_true rfl⟩ rfl hf0 (Nat.le_of_ble_eq_true rfl)) (c_findBehind (s := p / 6) (t := p % 6) (d := d) (l := l) hf hk v1 hk2 v2 (fun i => by rw [hF (a + 1) (by omega) (by omega) (by omega), hF (a + 2) (by omega) (by omega) (by omega), ea]; exact hw1 i) (fun i => by rw [hF (b + 1) (by omega) (by omega) (by omega), hF (b + 2) (by omega) (by omega) (by omega), eb]; exact hw2 i) (by rw [ea]; omega) (by rw [eb]; omega) ha hb (tells_f hv3 (by omega)) hI (by rw [ea, eb]; exact hL) (by rw [show 6 * (p / 6) + p % 6 = p by omega]; exact hmem) (by omega) (by omega)) (fun M1 hM1 => ?_)
          obtain ⟨S2, rfl, hI2, hL2, hF2⟩ := hM1
          refine mm_inc3 dX2_usesToParting_95 (Nat.le_of_ble_eq_true rfl) (am_c1r _) ?_
          refine am_goto (tgt := 22) dX2_usesToParting_98 (by decide) ?_
          have hnx : nxtL (fun n => kdH S' b (p % 6 : Nat) n) (cG S' a b (p / 6) (p % 6)) 8 = cNx S a b p := by
            unfold cNx
            congr 1
            · funext n; exact propext (hF.H hb)
            · funext n y; unfold cG; rw [hF.kF ha, hF.kF hb, hF.kF ha, hF.kF hb]
          rw [hnx, ea, eb] at hL2
          rw [hnx] at hI2
          refine am_AW.unset 4 (am_AW.unset 5 (am_AW.mono (ih (i + 1) S2 _ (by omega) (by omega) (hF.tr hF2) hI2 ⟨hL2.1, hL2.2.1, hL2.2.2.1⟩) (fun r M2 h => ?_)))
          obtain ⟨S3, x, h1, h2, h3⟩ := h
          refine ⟨S3, x, h1, ?_, h3⟩
          rw [bfs, hpd]
          simp only []
          rw [cif_f (fun z => tells_f hv3 (by omega) ((hF.Par ha hb).mpr z))]
          exact h2
        · refine am_aload_n rfl dX2_usesToParting_73 ?_
          refine mm_getR dX2_usesToParting_74 fl_X2_9 hf0 rfl ?_
          refine am_aload_n rfl dX2_usesToParting_77 ?_
          refine mm_getR dX2_usesToParting_78 fl_X2_15 hf0 rfl ?_
          refine am_iload_n rfl dX2_usesToParting_81 ?_
          refine mm_ial dX2_usesToParting_82 hf2 (by omega) ?_
          rw [Int.toNat_natCast, hp84]
          refine mm_ial dX2_usesToParting_83 hf1 (by omega) ?_
          rw [Int.toNat_natCast, (i2 i p d hpd).2]
          refine am_ireturn dX2_usesToParting_84 rfl rfl ?_
          refine ⟨S', (d : Int), rfl, ?_, by omega, rfl, hF⟩
          rw [bfs, hpd]
          simp only []
          rw [cif_t ((hF.Par ha hb).mp (tells_t hv3 (by omega)))]
set_option maxRecDepth 100000 in
set_option maxHeartbeats 4000000 in
theorem c_usesToParting {sh : List mm_H} {S : mm_S} {L : mm_L} {a b : Nat} (hf : ftS sh) (hk : kdS sh a) (hv : kdV S a) (hk2 : kdS sh b) (hv2 : kdV S b) (hw1 : kdW S a) (hw2 : kdW S b) (ha : a + 2 < 82) (hb : b + 2 < 82) (hp1 : 0 < S a 0) (hp2 : 0 < S b 0) : am_E eX2_usesToParting [.ref 82, .ref a, .ref b] (mm sh S L) (fun r M' => ∃ S2 x, r = some (.int (iI x)) ∧ x = bfs (fun p => cPar S a b (p / 6) (p % 6)) (cNx S a b) 37 0 [(0, 0)] ∧ (-1 ≤ x ∧ x ≤ 40) ∧ M' = mm sh S2 L ∧ ftF S S2) := by
  obtain ⟨hf0, hf1, hf2⟩ := id hf
  obtain ⟨hA, hB, hC⟩ := id hk
  obtain ⟨hA2, hB2, hC2⟩ := id hk2
  have n1 := hv.1
  have n2 := hv2.1
  refine am_enter rfl rfl (Nat.le_of_ble_eq_true rfl) ?_
  refine am_aload_n rfl dX2_usesToParting_0 ?_
  refine mm_getR dX2_usesToParting_1 fl_X2_9 hf0 rfl ?_
  refine mm_iconst dX2_usesToParting_4 ?_
  refine am_cv (mm_S2 dX2_usesToParting_5 in_J7_fill_53178 mk_X2_22 st_J7_fill_53178 ⟨Nat.le_of_ble_eq_true rfl, Nat.le_of_ble_eq_true rfl⟩ (Nat.le_of_ble_eq_true rfl)) (c_fill hf1 (by decide)) ?_
  refine am_aload_n rfl dX2_usesToParting_8 ?_
  refine mm_iconst dX2_usesToParting_9 ?_
  refine mm_putI dX2_usesToParting_10 fp_X2_18 hf0 rfl ?_
  refine am_aload_n rfl dX2_usesToParting_13 ?_
  refine mm_iconst dX2_usesToParting_14 ?_
  refine mm_iconst dX2_usesToParting_15 ?_
  refine mm_iconst dX2_usesToParting_16 ?_
  refine am_cxv (mm_V3 dX2_usesToParting_17 in_X2_find mk_X2_28 im_X2_find sl_X2_find ⟨Nat.le_of_ble_eq_true rfl, Nat.le_of_ble_eq_true rfl⟩ rfl hf0 (Nat.le_of_ble_eq_true rfl)) (c_find (l := []) (d := 0) (x := 0) (y := 0) hf ⟨up2_same _ _ _ _, fun j q d h => by simp at h, fun q _ hq => by rw [up2_rd (by omega)]; simp [fillS, hq]⟩ ⟨by simp, fun x hx => by simp at hx⟩ (by omega) (by omega) (by omega)) (fun M1 hM1 => ?_)
  obtain ⟨S3, rfl, hI3, hF3⟩ := hM1
  have e0 : fnd 0 [] ((0 : Int) * 6 + 0).toNat = [(0, 0)] := by decide
  rw [e0] at hI3
  have hF : ftF S S3 := fun c c1 c2 c3 => by
    rw [hF3 c c1 c2 c3, up2_row c1]
    funext j
    simp [fillS, c2]
  refine mm_iconst dX2_usesToParting_20 ?_
  refine am_ist3 dX2_usesToParting_21 (Nat.le_of_ble_eq_true rfl) (am_c1r _) ?_
  exact l_uses hf hk hv hk2 hv2 hw1 hw2 ha hb hp1 hp2 37 0 S3 [(0, 0)] (by omega) (by simp) hF hI3 ⟨⟨by simp, fun x hx => by simp at hx; subst hx; exact ⟨by omega, by omega⟩⟩, fun j q d h => by
    have hj := (List.getElem?_eq_some_iff.mp h).1
    simp at hj
    subst hj
    simp at h
    omega, fun x hx => by simp at hx; subst hx; exact ⟨by simpa using hp1, by simpa using hp2⟩⟩
/-- the KINDS' entries are STATES -/
def kwA (S : mm_S) : Prop := ∀ k : Nat, (k : Int) < S 1 0 → kdW S (4 + 3 * k) ∧ 0 < S (4 + 3 * k) 0
noncomputable def cFit (S : mm_S) (k p : Int) : Int := bfs (fun q => cPar S (4 + 3 * k.toNat) (4 + 3 * p.toNat) (q / 6) (q % 6)) (cNx S (4 + 3 * k.toNat) (4 + 3 * p.toNat)) 37 0 [(0, 0)]
def cfitQ (S S' : mm_S) (k p v : Int) : Prop := (¬ (hasK S k ∧ hasK S p) ∧ v = -2 ∧ S' = S) ∨ ((hasK S k ∧ hasK S p) ∧ cFit S k p = -1 ∧ v = 1 ∧ ftF S S') ∨ ((hasK S k ∧ hasK S p) ∧ cFit S k p ≠ -1 ∧ v = 0 ∧ ∃ S2, ftF S S2 ∧ S' = up2 S2 0 6 (cFit S k p))
set_option maxRecDepth 100000 in
set_option maxHeartbeats 4000000 in
theorem c_fits {sh : List mm_H} {S : mm_S} {L : mm_L} (hx0 : swS sh) (hb : bkS sh) (hv : bkV S) (hf : ftS sh) (hW : kwA S) {k p : Int} (hk : Rg k) (hp : Rg p) : am_E eX9_fits [.ref 0, .int (iI k), .int (iI p)] (mm sh S L) (fun r0 M' => ∃ v S', r0 = some (.int (iI v)) ∧ M' = mm sh S' L ∧ cfitQ S S' k p v) := by
  obtain ⟨hB1, hB2, hB3, hB4, hB5⟩ := hb
  obtain ⟨w0, w1, w2, w3⟩ := hv
  refine am_enter rfl rfl (Nat.le_of_ble_eq_true rfl) ?_
  refine am_aload_n rfl dX9_fits_0 ?_
  refine mm_getR dX9_fits_1 fl_X9_10 hx0 rfl ?_
  refine am_iload_n rfl dX9_fits_4 ?_
  refine am_ci (mm_V1 dX9_fits_5 in_X0_hasKind mk_X9_66 im_X0_hasKind sl_X0_hasKind ⟨Nat.le_of_ble_eq_true rfl, Nat.le_of_ble_eq_true rfl⟩ rfl hB1 (Nat.le_of_ble_eq_true rfl)) (c_hasKind ⟨hB1, hB2, hB3, hB4, hB5⟩ ⟨w0, w1, w2, w3⟩ hk) ?_
  refine mm_beq (tgt := 22) dX9_fits_8 (by decide) (fun h8 => ?_) (fun h8 => ?_)
  · refine mm_bipush dX9_fits_22 (by decide) ?_
    refine am_ireturn dX9_fits_24 rfl rfl ?_
    exact ⟨_, S, rfl, rfl, Or.inl ⟨by omega, rfl, rfl⟩⟩
  · refine am_aload_n rfl dX9_fits_11 ?_
    refine mm_getR dX9_fits_12 fl_X9_10 hx0 rfl ?_
    refine am_iload_n rfl dX9_fits_15 ?_
    refine am_ci (mm_V1 dX9_fits_16 in_X0_hasKind mk_X9_66 im_X0_hasKind sl_X0_hasKind ⟨Nat.le_of_ble_eq_true rfl, Nat.le_of_ble_eq_true rfl⟩ rfl hB1 (Nat.le_of_ble_eq_true rfl)) (c_hasKind ⟨hB1, hB2, hB3, hB4, hB5⟩ ⟨w0, w1, w2, w3⟩ hp) ?_
    refine mm_bne (tgt := 25) dX9_fits_19 (by decide) (fun h19 => ?_) (fun h19 => ?_)
    · refine am_aload_n rfl dX9_fits_25 ?_
      refine mm_getR dX9_fits_26 fl_X9_19 hx0 rfl ?_
      refine am_aload_n rfl dX9_fits_29 ?_
      refine mm_getR dX9_fits_30 fl_X9_10 hx0 rfl ?_
      refine mm_getR dX9_fits_33 fl_X9_56 hB1 rfl ?_
      refine am_iload_n rfl dX9_fits_36 ?_
      refine mm_aal dX9_fits_37 (fun _ => rfl) hB2 ⟨by omega, by omega, by omega⟩ (kArr_at (by omega)) ?_
      refine am_aload_n rfl dX9_fits_38 ?_
      refine mm_getR dX9_fits_39 fl_X9_10 hx0 rfl ?_
      refine mm_getR dX9_fits_42 fl_X9_56 hB1 rfl ?_
      refine am_iload_n rfl dX9_fits_45 ?_
      refine mm_aal dX9_fits_46 (fun _ => rfl) hB2 ⟨by omega, by omega, by omega⟩ (kArr_at (by omega)) ?_
      refine am_cxi (mm_V2 dX9_fits_47 in_X2_usesToParting mk_X9_97 im_X2_usesToParting sl_X2_usesToParting ⟨Nat.le_of_ble_eq_true rfl, Nat.le_of_ble_eq_true rfl⟩ rfl hf.1 (Nat.le_of_ble_eq_true rfl)) (am_E.mono (c_usesToParting hf (hB4 k.toNat (by omega)) (w2 k.toNat (by omega)) (hB4 p.toNat (by omega)) (w2 p.toNat (by omega)) (hW k.toNat (by omega)).1 (hW p.toNat (by omega)).1 (by omega) (by omega) (hW k.toNat (by omega)).2 (hW p.toNat (by omega)).2) (Q' := fun r0 M' => ∃ y, r0 = some (.int y) ∧ ∃ S2 x, y = iI x ∧ x = cFit S k p ∧ (-1 ≤ x ∧ x ≤ 40) ∧ M' = mm sh S2 L ∧ ftF S S2) (fun r M2 ⟨S2, x, h1, h2⟩ => ⟨_, h1, S2, x, rfl, h2⟩)) (fun w M1 hM1 => ?_)
      obtain ⟨S2, x, rfl, hx, hxR, rfl, hF⟩ := hM1
      refine am_ist3 dX9_fits_50 (Nat.le_of_ble_eq_true rfl) (am_c1i _) ?_
      refine am_iload_n rfl dX9_fits_51 ?_
      refine mm_iconst dX9_fits_52 ?_
      refine mm_jne (tgt := 58) dX9_fits_53 (by decide) (by omega) (by omega) (fun h53 => ?_) (fun h53 => ?_)
      · refine am_aload_n rfl dX9_fits_58 ?_
        refine am_iload_n rfl dX9_fits_59 ?_
        refine mm_putI dX9_fits_60 fp_X9_45 hx0 rfl ?_
        refine mm_iconst dX9_fits_63 ?_
        refine am_ireturn dX9_fits_64 rfl rfl ?_
        exact ⟨_, _, rfl, rfl, Or.inr (Or.inr ⟨by omega, by omega, rfl, S2, hF, by rw [hx]⟩)⟩
      · refine mm_iconst dX9_fits_56 ?_
        refine am_ireturn dX9_fits_57 rfl rfl ?_
        exact ⟨_, S2, rfl, rfl, Or.inr (Or.inl ⟨by omega, by omega, rfl, hF⟩)⟩
    · refine mm_bipush dX9_fits_22 (by decide) ?_
      refine am_ireturn dX9_fits_24 rfl rfl ?_
      exact ⟨_, S, rfl, rfl, Or.inl ⟨by omega, rfl, rfl⟩⟩
