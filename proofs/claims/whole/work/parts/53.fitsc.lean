set_option maxRecDepth 100000 in
set_option maxHeartbeats 4000000 in
theorem c_findBehind {sh : List mm_H} {S : mm_S} {L : mm_L} {a b s t d : Nat} {l : List (Nat × Nat)} (hf : ftS sh) (hk : kdS sh a) (hv : kdV S a) (hk2 : kdS sh b) (hv2 : kdV S b) (hw1 : kdW S a) (hw2 : kdW S b) (hs : (s : Int) < S a 0) (ht : (t : Int) < S b 0) (ha : a + 2 < 82) (hb : b + 2 < 82) (hnp : ¬ cPar S a b s t) (hI : ftI S l) (hL : lOK l ∧ lD l ∧ lSt l (S a 0) (S b 0)) (hq : (6 * s + t, d) ∈ l) (hd : d + 1 ≤ 36) (hdl : d + 1 ≤ l.length) : am_E eX2_findBehind [.ref 82, .ref a, .int (iI (s : Int)), .ref b, .int (iI (t : Int))] (mm sh S L) (fun r M' => r = none ∧ ∃ S2, M' = mm sh S2 L ∧ ftI S2 ((nxtL (fun n => kdH S b t n) (cG S a b s t) 8).foldl (fnd (d + 1)) l) ∧ (lOK ((nxtL (fun n => kdH S b t n) (cG S a b s t) 8).foldl (fnd (d + 1)) l) ∧ lD ((nxtL (fun n => kdH S b t n) (cG S a b s t) 8).foldl (fnd (d + 1)) l) ∧ lSt ((nxtL (fun n => kdH S b t n) (cG S a b s t) 8).foldl (fnd (d + 1)) l) (S a 0) (S b 0) ∧ l.length ≤ ((nxtL (fun n => kdH S b t n) (cG S a b s t) 8).foldl (fnd (d + 1)) l).length ∧ ∀ j : Nat, j < l.length → ((nxtL (fun n => kdH S b t n) (cG S a b s t) 8).foldl (fnd (d + 1)) l)[j]? = l[j]?) ∧ ftF S S2) := by
  obtain ⟨hf0, hf1, hf2⟩ := id hf
  obtain ⟨hA, hB, hC⟩ := id hk
  obtain ⟨hA2, hB2, hC2⟩ := id hk2
  have n1 := hv.1
  have n2 := hv2.1
  have hu : S 83 ((s : Int) * 6 + t).toNat = (d : Int) := by
    obtain ⟨j, hj⟩ := List.getElem?_of_mem hq
    rw [show ((s : Int) * 6 + t).toNat = 6 * s + t by omega]
    exact (hI.2.1 j _ d hj).2
  refine am_enter rfl rfl (Nat.le_of_ble_eq_true rfl) ?_
  refine am_aload_n rfl dX2_findBehind_0 ?_
  refine mm_getR dX2_findBehind_1 fl_X2_9 hf0 rfl ?_
  refine am_iload_n rfl dX2_findBehind_4 ?_
  refine mm_bipush dX2_findBehind_5 (by decide) ?_
  refine mm_imul dX2_findBehind_7 ?_
  refine am_iload rfl dX2_findBehind_8 ?_
  refine mm_iadd dX2_findBehind_10 ?_
  refine mm_ial dX2_findBehind_11 hf1 (by omega) ?_
  rw [hu]
  refine mm_iconst dX2_findBehind_12 ?_
  refine mm_iadd dX2_findBehind_13 ?_
  refine am_ist5 dX2_findBehind_14 (Nat.le_of_ble_eq_true rfl) (am_c1i _) ?_
  refine mm_iconst dX2_findBehind_16 ?_
  refine am_ist6 dX2_findBehind_17 (Nat.le_of_ble_eq_true rfl) (am_c1i _) ?_
  exact l_behind hf hk hv hk2 hv2 hw1 hw2 hs ht ha hb hnp hd hdl 9 0 S (by omega) (by omega) (ftF.rf S) hI ⟨hL.1, hL.2.1, hL.2.2, Nat.le_refl _, fun _ _ => rfl⟩
set_option maxRecDepth 100000 in
set_option maxHeartbeats 4000000 in
theorem l_uses {sh : List mm_H} {S : mm_S} {L : mm_L} {a b : Nat} (hf : ftS sh) (hk : kdS sh a) (hv : kdV S a) (hk2 : kdS sh b) (hv2 : kdV S b) (hw1 : kdW S a) (hw2 : kdW S b) (ha : a + 2 < 82) (hb : b + 2 < 82) (hp1 : 0 < S a 0) (hp2 : 0 < S b 0) : ∀ (q : Nat) (i : Nat) (S' : mm_S) (l : List (Nat × Nat)), 36 - i < q → (i ≤ l.length) → (ftF S S') → (ftI S' l) → (lOK l ∧ lD l ∧ lSt l (S a 0) (S b 0)) → am_AW eX2_usesToParting (mm sh S' L) 22 [some (.ref 82), some (.ref a), some (.ref b), some (.int (iI (i : Int))), none, none] [] (fun r M' => ∃ S2, r = some (.int (iI (bfs (fun p => cPar S a b (p / 6) (p % 6)) (cNx S a b) q i l))) ∧ M' = mm sh S2 L ∧ ftF S S2) := by
  intro q
  induction q with
  | zero =>
    intro i S' l hq
    exact absurd hq (Nat.not_lt_zero _)
  | succ q ih =>
    intro i S' l hq hi hF hI hL
    obtain ⟨hf0, hf1, hf2⟩ := id hf
    obtain ⟨i1, i2, i3⟩ := id hI
    have hlen := hL.1.len
    obtain ⟨hA, hB, hC⟩ := id hk
    obtain ⟨hA2, hB2, hC2⟩ := id hk2
    have n1 := hv.1
    have n2 := hv2.1
    have v1 := hF.kv ha hv
    have v2 := hF.kv hb hv2
    refine am_iload_n rfl dX2_usesToParting_22 ?_
    refine am_aload_n rfl dX2_usesToParting_23 ?_
    refine mm_getI dX2_usesToParting_24 fl_X2_18 hf0 rfl ?_
    rw [i1]
    refine mm_jge (tgt := 101) dX2_usesToParting_27 (by decide) (by omega) (by omega) (fun h27 => ?_) (fun h27 => ?_)
    · refine mm_iconst dX2_usesToParting_101 ?_
      refine am_ireturn dX2_usesToParting_102 rfl rfl ?_
      refine ⟨S', ?_, rfl, hF⟩
      rw [bfs, List.getElem?_eq_none (by omega)]
    · refine am_iload_n rfl dX2_usesToParting_30 ?_
      refine am_aload_n rfl dX2_usesToParting_31 ?_
      refine mm_getR dX2_usesToParting_32 fl_X2_15 hf0 rfl ?_
      refine mm_len0 dX2_usesToParting_35 hf2 ?_
      refine mm_jge (tgt := 101) dX2_usesToParting_36 (by decide) (by omega) (by omega) (fun h36 => ?_) (fun h36 => ?_)
      · refine mm_iconst dX2_usesToParting_101 ?_
        refine am_ireturn dX2_usesToParting_102 rfl rfl ?_
        refine ⟨S', ?_, rfl, hF⟩
        rw [bfs, List.getElem?_eq_none (by omega)]
      · obtain ⟨⟨p, d⟩, hpd⟩ : ∃ x, l[i]? = some x := ⟨_, List.getElem?_eq_getElem (by omega)⟩
        have hmem := List.mem_of_getElem? hpd
        have hp84 := (i2 i p d hpd).1
        have hp36 := (hL.1.2 _ hmem).1
        have hst := hL.2.2 _ hmem
        have hdj := hL.2.1 i p d hpd
        simp only [] at hp36 hst
        have ea : S' a = S a := hF a (by omega) (by omega) (by omega)
        have eb : S' b = S b := hF b (by omega) (by omega) (by omega)
        have e6 : ((p : Int) / 6) = ((p / 6 : Nat) : Int) := by omega
        have e7 : ((p : Int) % 6) = ((p % 6 : Nat) : Int) := by omega
        refine am_aload_n rfl dX2_usesToParting_39 ?_
        refine mm_getR dX2_usesToParting_40 fl_X2_15 hf0 rfl ?_
        refine am_iload_n rfl dX2_usesToParting_43 ?_
        refine mm_ial dX2_usesToParting_44 hf2 (by omega) ?_
        rw [Int.toNat_natCast, hp84]
        refine mm_bipush dX2_usesToParting_45 (by decide) ?_
        refine mm_idiv dX2_usesToParting_47 (by omega) (by omega) ?_
        rw [e6]
        refine am_ist4 dX2_usesToParting_48 (Nat.le_of_ble_eq_true rfl) (am_c1i _) ?_
        refine am_aload_n rfl dX2_usesToParting_50 ?_
        refine mm_getR dX2_usesToParting_51 fl_X2_15 hf0 rfl ?_
        refine am_iload_n rfl dX2_usesToParting_54 ?_
        refine mm_ial dX2_usesToParting_55 hf2 (by omega) ?_
        rw [Int.toNat_natCast, hp84]
        refine mm_bipush dX2_usesToParting_56 (by decide) ?_
        refine mm_irem dX2_usesToParting_58 (by omega) (by omega) ?_
        rw [e7]
        refine am_ist5 dX2_usesToParting_59 (Nat.le_of_ble_eq_true rfl) (am_c1i _) ?_
        refine am_aload_n rfl dX2_usesToParting_61 ?_
        refine am_iload rfl dX2_usesToParting_62 ?_
        refine am_aload_n rfl dX2_usesToParting_64 ?_
        refine am_iload rfl dX2_usesToParting_65 ?_
        refine am_cxi (mm_S4 dX2_usesToParting_67 in_X2_arePartedAt mk_X2_32 st_X2_arePartedAt ⟨Nat.le_of_ble_eq_true rfl, Nat.le_of_ble_eq_true rfl⟩ (Nat.le_of_ble_eq_true rfl)) (c_arePartedAt hk v1 hk2 v2 (by rw [ea]; omega) (by rw [eb]; omega)) (fun w M1 hM1 => ?_)
        obtain ⟨v, rfl, hv3, rfl⟩ := hM1
        have hv01 := tells_01 hv3
        refine mm_zeq (tgt := 85) dX2_usesToParting_70 (by decide) (by omega) (fun h70 => ?_) (fun h70 => ?_)
        · refine am_aload_n rfl dX2_usesToParting_85 ?_
          refine am_aload_n rfl dX2_usesToParting_86 ?_
          refine am_iload rfl dX2_usesToParting_87 ?_
          refine am_aload_n rfl dX2_usesToParting_89 ?_
          refine am_iload rfl dX2_usesToParting_90 ?_
          refine am_cxv (mm_V4 dX2_usesToParting_92 in_X2_findBehind mk_X2_36 im_X2_findBehind sl_X2_findBehind ⟨Nat.le_of_ble_eq_true rfl, Nat.le_of_ble_eq_true rfl⟩ rfl hf0 (Nat.le_of_ble_eq_true rfl)) (c_findBehind (s := p / 6) (t := p % 6) (d := d) (l := l) hf hk v1 hk2 v2 (fun i => by rw [hF (a + 1) (by omega) (by omega) (by omega), hF (a + 2) (by omega) (by omega) (by omega), ea]; exact hw1 i) (fun i => by rw [hF (b + 1) (by omega) (by omega) (by omega), hF (b + 2) (by omega) (by omega) (by omega), eb]; exact hw2 i) (by rw [ea]; omega) (by rw [eb]; omega) ha hb (tells_f hv3 (by omega)) hI (by rw [ea, eb]; exact hL) (by rw [show 6 * (p / 6) + p % 6 = p by omega]; exact hmem) (by omega) (by omega)) (fun M1 hM1 => ?_)
          obtain ⟨S2, rfl, hI2, hL2, hF2⟩ := hM1
          refine mm_inc3 dX2_usesToParting_95 (Nat.le_of_ble_eq_true rfl) (am_c1r _) ?_
          refine am_goto (tgt := 22) dX2_usesToParting_98 (by decide) ?_
          have hnx : nxtL (fun n => kdH S' b (p % 6 : Nat) n) (cG S' a b (p / 6) (p % 6)) 8 = cNx S a b p := by
            unfold cNx
            congr 1
            · funext n; exact propext (hF.H hb)
            · funext n y; unfold cG; rw [hF.kF ha, hF.kF hb, hF.kF ha, hF.kF hb]
          rw [hnx, ea, eb] at hL2
          rw [hnx] at hI2
          refine am_AW.unset 4 (am_AW.unset 5 (am_AW.mono (ih (i + 1) S2 _ (by omega) (by omega) (hF.tr hF2) hI2 ⟨hL2.1, hL2.2.1, hL2.2.2.1⟩) (fun r M2 h => ?_)))
          rw [bfs, hpd]
          simp only []
          rw [cif_f (fun z => tells_f hv3 (by omega) ((hF.Par ha hb).mpr z))]
          exact h
        · refine am_aload_n rfl dX2_usesToParting_73 ?_
          refine mm_getR dX2_usesToParting_74 fl_X2_9 hf0 rfl ?_
          refine am_aload_n rfl dX2_usesToParting_77 ?_
          refine mm_getR dX2_usesToParting_78 fl_X2_15 hf0 rfl ?_
          refine am_iload_n rfl dX2_usesToParting_81 ?_
          refine mm_ial dX2_usesToParting_82 hf2 (by omega) ?_
          rw [Int.toNat_natCast, hp84]
          refine mm_ial dX2_usesToParting_83 hf1 (by omega) ?_
          rw [Int.toNat_natCast, (i2 i p d hpd).2]
          refine am_ireturn dX2_usesToParting_84 rfl rfl ?_
          refine ⟨S', ?_, rfl, hF⟩
          rw [bfs, hpd]
          simp only []
          rw [cif_t ((hF.Par ha hb).mp (tells_t hv3 (by omega)))]
