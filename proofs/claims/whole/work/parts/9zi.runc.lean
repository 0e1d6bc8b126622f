/-! ===== the class's runs: a turn, and all turns ===== -/
theorem max_I (x y : Int) : maxI x y = max x y := by unfold maxI; rw [Int.max_def]
set_option maxRecDepth 100000 in
set_option maxHeartbeats 4000000 in
theorem c_rcall {sh : List mm_H} {L : mm_L} (rh : rnH sh) (hb : bkS sh) {S0 : mm_S} (hB : cbB S0) {n : Int} {as dn ms : Int} {f : Fr} {t : List Fr} {S : mm_S} (hcr : crS S0 S n (f :: t, 0, as, dn, ms)) (hr : rcC S0 f.1 f.2.1 f.2.2) : am_E eX7_callFrom [.ref 138, .ref (140 + 4 * t.length), .ref (22 + 10 * f.1.2.1)] (mm sh S L) (fun r0 M' => ∃ v, r0 = some (.int (iI v)) ∧ ∃ S', M' = mm sh S' L ∧ ((v = -1 ∧ t.length ≠ 9 ∧ crS S0 S' n (((clK S0 f.1 f.2.1 f.2.2), 0, bgR (clK S0 f.1 f.2.1 f.2.2)) :: f :: t, 0, as, dn, max ms ((t.length : Int) + 2))) ∨ (v = 8 ∧ t.length = 9 ∧ enS S0 S' n (8, (f.1.2.1 : Int), (f.2.1 : Int), as, dn, ms)))) := by
  obtain ⟨hrn, hok, hcl, ⟨c5, c2, c3, c4⟩, hsa, c7⟩ := id hcr
  obtain ⟨hky, hBS, hr6, ⟨hpl, hN24, hNl⟩, hNe⟩ := cr_ro hB hcr
  have hsim := cr_sim hcr
  have hlen := hok.2.1
  simp only [List.length_cons] at hlen c5
  have c2 : S 138 2 = as := c2
  have c3 : S 138 3 = dn := c3
  have c4 : S 138 4 = ms := c4
  have hms : 1 ≤ ms ∧ ms ≤ 10 := hok.2.2.2.2
  have hda : 0 ≤ as ∧ as ≤ dn ∧ dn ≤ 500 := hok.2.2.2.1
  have hsc := rh.2.2 t.length (by omega)
  have hK := sim_K hBS.2.2.1 hBS.2.2.2 hsim
  have h940 := hsim.2.2.2.2
  have h941 := hsim.2.2.2.1
  have hbe := rn_E hrn
  obtain ⟨hB1, hB2, hB3, hB4, hB5⟩ := id hb
  obtain ⟨hr0, hr1, hr2, hr3, -⟩ := hB5 f.1.2.1 hr6
  obtain ⟨hp, hx, hw⟩ := id hr
  rw [← hNe] at hp
  rw [← bk_So hbe] at hx
  rw [← bk_wr hbe] at hw
  obtain ⟨eS, eA, eB⟩ := (br_rt hBS.2.2.1 hky.2.1).2 f.2.1 hp
  have hmr := hBS.2.2.2.2.2.2 f.1.2.1 hky.2.1
  have hv5 : 0 ≤ mBb S f.1.2.1 f.2.1 ∧ mBb S f.1.2.1 f.2.1 < 5 := by have ok := hmr.2.2.2 f.2.1 hp; omega
  have hmc : 0 ≤ mAa S f.1.2.1 f.2.1 ∧ mAa S f.1.2.1 f.2.1 < S 181 9 := hmr.2.2.1 f.2.1 hp hx
  have h9 := hBS.2.2.2.1.2.1
  have u := wr_call hx hw
  have dm := sc_dm hsim.1 hsim.2.2.1 hsim.2.1.1.2.1 hv5 u.1
  have hkR := skO_R hsim.2.2.1 hv5
  have hsR := ssO_R hsim.2.2.1 hv5
  have hkc := ky_cl hB.2.2.2 hok.1.2.1.2.1 hok.1.1.1 hr.1 hr.2.1 hr.2.2
  obtain ⟨hh, hhw⟩ : ∃ hh : Int, hh = (if mSo S f.1.2.1 f.2.1 = 11 then 1 else 0) := ⟨_, rfl⟩
  have hhR : 0 ≤ hh ∧ hh ≤ 2 := by rw [hhw]; split <;> omega
  have hkk : ((soC hh, (mAa S f.1.2.1 f.2.1).toNat, skO S (140 + 4 * t.length) (mBb S f.1.2.1 f.2.1), ssO S (140 + 4 * t.length) (mBb S f.1.2.1 f.2.1)) : kyT) = clK S0 f.1 f.2.1 f.2.2 := by
    rw [← bk_cl hbe]
    unfold clK
    rw [dm.1, dm.2, hhw]
    by_cases z : mSo S f.1.2.1 f.2.1 = 11
    · rw [if_pos z, if_pos z]; rfl
    · rw [if_neg z, if_neg z]; rfl
  refine am_enter rfl rfl (Nat.le_of_ble_eq_true rfl) ?_
  refine am_aload_n rfl dX7_callFrom_0 ?_
  refine mm_getI dX7_callFrom_1 fl_X7_27 rh.1 rfl ?_
  rw [c5]
  refine mm_bipush dX7_callFrom_4 (by decide) ?_
  refine mm_jlt (tgt := 24) dX7_callFrom_6 (by decide) (by omega) (by omega) (fun h6 => ?_) (fun h6 => ?_)
  · refine am_aload_n rfl dX7_callFrom_24 ?_
    refine mm_getR dX7_callFrom_25 fl_X7_113 hr0 rfl ?_
    refine am_aload_n rfl dX7_callFrom_28 ?_
    refine mm_getI dX7_callFrom_29 fl_X7_70 hsc.1 rfl ?_
    rw [h941]
    refine mm_ial dX7_callFrom_32 hr3 (by omega) ?_
    rw [Int.toNat_natCast, eB]
    refine am_ist3 dX7_callFrom_33 (Nat.le_of_ble_eq_true rfl) (am_c1r _) ?_
    refine am_aload_n rfl dX7_callFrom_34 ?_
    refine mm_getR dX7_callFrom_35 fl_X7_89 hr0 rfl ?_
    refine am_aload_n rfl dX7_callFrom_38 ?_
    refine mm_getI dX7_callFrom_39 fl_X7_70 hsc.1 rfl ?_
    rw [h941]
    refine mm_ial dX7_callFrom_42 hr1 (by omega) ?_
    rw [Int.toNat_natCast, eS]
    refine mm_bipush dX7_callFrom_43 (by decide) ?_
    refine mm_jne (tgt := 52) dX7_callFrom_45 (by decide) (by omega) (by omega) (fun h45 => ?_) (fun h45 => ?_)
    · refine mm_iconst dX7_callFrom_52 ?_
      first
        | rw [show iI 1 = iI hh from congrArg iI (by rw [hhw, if_pos (by omega)])]
        | rw [show iI 0 = iI hh from congrArg iI (by rw [hhw, if_neg (by omega)])]
      refine am_ist4 dX7_callFrom_53 (Nat.le_of_ble_eq_true rfl) (am_c1i _) ?_
      refine am_aload_n rfl dX7_callFrom_55 ?_
      refine am_aload_n rfl dX7_callFrom_56 ?_
      refine mm_getR dX7_callFrom_57 fl_X7_116 hr0 rfl ?_
      refine am_aload_n rfl dX7_callFrom_60 ?_
      refine mm_getI dX7_callFrom_61 fl_X7_70 hsc.1 rfl ?_
      rw [h941]
      refine mm_ial dX7_callFrom_64 hr2 (by omega) ?_
      rw [Int.toNat_natCast, eA]
      refine am_iload rfl dX7_callFrom_65 ?_
      refine am_aload_n rfl dX7_callFrom_67 ?_
      refine am_iload_n rfl dX7_callFrom_68 ?_
      refine am_ci (mm_V1 dX7_callFrom_69 in_X8_kindOf mk_X7_119 im_X8_kindOf sl_X8_kindOf ⟨Nat.le_of_ble_eq_true rfl, Nat.le_of_ble_eq_true rfl⟩ rfl hsc.1 (Nat.le_of_ble_eq_true rfl)) (c_kindOf hsc hsim.2.2.1 hv5) ?_
      refine am_aload_n rfl dX7_callFrom_72 ?_
      refine am_iload_n rfl dX7_callFrom_73 ?_
      refine am_ci (mm_V1 dX7_callFrom_74 in_X8_stateOf mk_X7_123 im_X8_stateOf sl_X8_stateOf ⟨Nat.le_of_ble_eq_true rfl, Nat.le_of_ble_eq_true rfl⟩ rfl hsc.1 (Nat.le_of_ble_eq_true rfl)) (c_stateOf hsc hsim.2.2.1 hv5) ?_
      refine am_cv (mm_V4 dX7_callFrom_77 in_X7_openRoutine mk_X7_44 im_X7_openRoutine sl_X7_openRoutine ⟨Nat.le_of_ble_eq_true rfl, Nat.le_of_ble_eq_true rfl⟩ rfl rh.1 (Nat.le_of_ble_eq_true rfl)) (c_openRoutine (S := S) (k0 := t.length + 1) rh (by omega) (by omega) (by omega) hhR) ?_
      have hF3 := bg_F (S := S) (a := 140 + 4 * (t.length + 1)) (r := mAa S f.1.2.1 f.2.1) (h := hh) (k := skO S (140 + 4 * t.length) (mBb S f.1.2.1 f.2.1)) (s := ssO S (140 + 4 * t.length) (mBb S f.1.2.1 f.2.1))
      have hsb : scR (bgS S (140 + 4 * (t.length + 1)) (mAa S f.1.2.1 f.2.1) hh (skO S (140 + 4 * t.length) (mBb S f.1.2.1 f.2.1)) (ssO S (140 + 4 * t.length) (mBb S f.1.2.1 f.2.1))) (140 + 4 * (t.length + 1)) ((soC hh, (mAa S f.1.2.1 f.2.1).toNat, skO S (140 + 4 * t.length) (mBb S f.1.2.1 f.2.1), ssO S (140 + 4 * t.length) (mBb S f.1.2.1 f.2.1)) : kyT) (bgR ((soC hh, (mAa S f.1.2.1 f.2.1).toNat, skO S (140 + 4 * t.length) (mBb S f.1.2.1 f.2.1), ssO S (140 + 4 * t.length) (mBb S f.1.2.1 f.2.1)) : kyT)) := by
        have q := sc_bg (S := S) (a := 140 + 4 * (t.length + 1)) (κ := ((soC hh, (mAa S f.1.2.1 f.2.1).toNat, skO S (140 + 4 * t.length) (mBb S f.1.2.1 f.2.1), ssO S (140 + 4 * t.length) (mBb S f.1.2.1 f.2.1)) : kyT)) (so_R hhR) (r := mAa S f.1.2.1 f.2.1)
        rw [show hwC ((soC hh, (mAa S f.1.2.1 f.2.1).toNat, skO S (140 + 4 * t.length) (mBb S f.1.2.1 f.2.1), ssO S (140 + 4 * t.length) (mBb S f.1.2.1 f.2.1)) : kyT).1 = hh from hwC_so hhR] at q
        exact q
      have hbV := bg_V (S := S) (a := 140 + 4 * (t.length + 1)) (r := mAa S f.1.2.1 f.2.1) (h := hh) (k := skO S (140 + 4 * t.length) (mBb S f.1.2.1 f.2.1)) (s := ssO S (140 + 4 * t.length) (mBb S f.1.2.1 f.2.1)) (hsa (t.length + 1) (by omega)) (by omega) (by omega) (by omega)
      have hbp := bg_pl (S := S) (a := 140 + 4 * (t.length + 1)) (r := mAa S f.1.2.1 f.2.1) (h := hh) (k := skO S (140 + 4 * t.length) (mBb S f.1.2.1 f.2.1)) (s := ssO S (140 + 4 * t.length) (mBb S f.1.2.1 f.2.1))
      generalize bgS S (140 + 4 * (t.length + 1)) (mAa S f.1.2.1 f.2.1) hh (skO S (140 + 4 * t.length) (mBb S f.1.2.1 f.2.1)) (ssO S (140 + 4 * t.length) (mBb S f.1.2.1 f.2.1)) = S3 at *
      rw [hkk] at hsb
      obtain ⟨S4, hS4⟩ : ∃ S4, up2 (up2 S3 138 5 (((t.length + 1 : Nat) : Int) + 1)) 138 4 (maxI (S 138 4) (((t.length + 1 : Nat) : Int) + 1)) = S4 := ⟨_, rfl⟩
      have er : ∀ b, b ≠ 138 → S4 b = S3 b := fun b hb => by rw [← hS4, up2_row hb, up2_row hb]
      have ec : ∀ j, j ≠ 5 → j ≠ 4 → S4 138 j = S 138 j := fun j y1 y2 => by rw [← hS4, up2_rc y2, up2_rc y1, hF3 138 (by omega)]
      have ec5 : S4 138 5 = (t.length : Int) + 2 := by rw [← hS4, up2_rc (by omega), up2_same]; omega
      have ec4 : S4 138 4 = max ms ((t.length : Int) + 2) := by rw [← hS4, up2_same, max_I, c4]; congr 1
      rw [hS4]
      refine mm_iconst dX7_callFrom_80 ?_
      refine am_ireturn dX7_callFrom_81 rfl rfl ?_
      refine ⟨-1, rfl, S4, rfl, Or.inl ⟨rfl, by omega, fun b hb => (er b (by omega)).trans ((hF3 b (by omega)).trans (hrn b hb)), ⟨⟨?_, hkc, fun g u e => ?_, hok.1⟩, by simp only [List.length_cons]; omega, Or.inl rfl, hok.2.2.2.1, by show 1 ≤ max ms ((t.length : Int) + 2) ∧ max ms ((t.length : Int) + 2) ≤ 10; omega⟩, ⟨⟨?_, ?_, ?_, ?_⟩, ?_⟩, ⟨by rw [ec5]; simp only [List.length_cons]; omega, by rw [ec 2 (by omega) (by omega)]; exact c2, by rw [ec 3 (by omega) (by omega)]; exact c3, ec4⟩, fun i hi => ?_, by rw [ec 7 (by omega) (by omega)]; exact c7⟩⟩
      · exact ⟨rg_bg hkc hB.2.2.2.1, ⟨Int.le_refl _, (hB.2.2.2.1.2.2.2.2 (clK S0 f.1 f.2.1 f.2.2).2.1 (by have := hkc.2.1; have := hB.2.2.2.1.2.1; omega)).1⟩, fun k hk hne => absurd rfl hne⟩
      · obtain ⟨rfl, rfl⟩ := List.cons.inj e
        exact ⟨⟨hr.1, hr.2.1, hr.2.2⟩, rfl⟩
      · show scR S4 (140 + 4 * (t.length + 1)) (clK S0 f.1 f.2.1 f.2.2) (bgR (clK S0 f.1 f.2.1 f.2.2))
        unfold scR at *
        rw [er _ (by omega), er _ (by omega), er _ (by omega), er _ (by omega)]
        exact hsb
      · show scV S4 (140 + 4 * (t.length + 1))
        unfold scV at *
        rw [er _ (by omega), er _ (by omega), er _ (by omega), er _ (by omega)]
        exact hbV
      · show S4 (140 + 4 * (t.length + 1)) 1 = ((0 : Nat) : Int)
        rw [er _ (by omega)]
        exact hbp.2
      · show S4 (140 + 4 * (t.length + 1)) 0 = (((clK S0 f.1 f.2.1 f.2.2).2.1 : Nat) : Int)
        rw [er _ (by omega), hbp.1, ← hkk]
        show _ = (((mAa S f.1.2.1 f.2.1).toNat : Nat) : Int)
        omega
      · exact cl_of (f :: t) (fun b x y => by rw [er b (by omega)]; exact hF3 b (by simp only [List.length_cons] at y; omega)) hcl
      · by_cases z : i = t.length + 1
        · subst z
          have := hbV.2.2.2.2
          unfold scW
          rw [er _ (by omega), er _ (by omega)]
          exact this
        · have := hsa i hi
          unfold scW at *
          rw [er _ (by omega), er _ (by omega), hF3 _ (by omega), hF3 _ (by omega)]
          exact this
    · refine mm_iconst dX7_callFrom_48 ?_
      refine am_goto (tgt := 53) dX7_callFrom_49 (by decide) ?_
      first
        | rw [show iI 1 = iI hh from congrArg iI (by rw [hhw, if_pos (by omega)])]
        | rw [show iI 0 = iI hh from congrArg iI (by rw [hhw, if_neg (by omega)])]
      refine am_ist4 dX7_callFrom_53 (Nat.le_of_ble_eq_true rfl) (am_c1i _) ?_
      refine am_aload_n rfl dX7_callFrom_55 ?_
      refine am_aload_n rfl dX7_callFrom_56 ?_
      refine mm_getR dX7_callFrom_57 fl_X7_116 hr0 rfl ?_
      refine am_aload_n rfl dX7_callFrom_60 ?_
      refine mm_getI dX7_callFrom_61 fl_X7_70 hsc.1 rfl ?_
      rw [h941]
      refine mm_ial dX7_callFrom_64 hr2 (by omega) ?_
      rw [Int.toNat_natCast, eA]
      refine am_iload rfl dX7_callFrom_65 ?_
      refine am_aload_n rfl dX7_callFrom_67 ?_
      refine am_iload_n rfl dX7_callFrom_68 ?_
      refine am_ci (mm_V1 dX7_callFrom_69 in_X8_kindOf mk_X7_119 im_X8_kindOf sl_X8_kindOf ⟨Nat.le_of_ble_eq_true rfl, Nat.le_of_ble_eq_true rfl⟩ rfl hsc.1 (Nat.le_of_ble_eq_true rfl)) (c_kindOf hsc hsim.2.2.1 hv5) ?_
      refine am_aload_n rfl dX7_callFrom_72 ?_
      refine am_iload_n rfl dX7_callFrom_73 ?_
      refine am_ci (mm_V1 dX7_callFrom_74 in_X8_stateOf mk_X7_123 im_X8_stateOf sl_X8_stateOf ⟨Nat.le_of_ble_eq_true rfl, Nat.le_of_ble_eq_true rfl⟩ rfl hsc.1 (Nat.le_of_ble_eq_true rfl)) (c_stateOf hsc hsim.2.2.1 hv5) ?_
      refine am_cv (mm_V4 dX7_callFrom_77 in_X7_openRoutine mk_X7_44 im_X7_openRoutine sl_X7_openRoutine ⟨Nat.le_of_ble_eq_true rfl, Nat.le_of_ble_eq_true rfl⟩ rfl rh.1 (Nat.le_of_ble_eq_true rfl)) (c_openRoutine (S := S) (k0 := t.length + 1) rh (by omega) (by omega) (by omega) hhR) ?_
      have hF3 := bg_F (S := S) (a := 140 + 4 * (t.length + 1)) (r := mAa S f.1.2.1 f.2.1) (h := hh) (k := skO S (140 + 4 * t.length) (mBb S f.1.2.1 f.2.1)) (s := ssO S (140 + 4 * t.length) (mBb S f.1.2.1 f.2.1))
      have hsb : scR (bgS S (140 + 4 * (t.length + 1)) (mAa S f.1.2.1 f.2.1) hh (skO S (140 + 4 * t.length) (mBb S f.1.2.1 f.2.1)) (ssO S (140 + 4 * t.length) (mBb S f.1.2.1 f.2.1))) (140 + 4 * (t.length + 1)) ((soC hh, (mAa S f.1.2.1 f.2.1).toNat, skO S (140 + 4 * t.length) (mBb S f.1.2.1 f.2.1), ssO S (140 + 4 * t.length) (mBb S f.1.2.1 f.2.1)) : kyT) (bgR ((soC hh, (mAa S f.1.2.1 f.2.1).toNat, skO S (140 + 4 * t.length) (mBb S f.1.2.1 f.2.1), ssO S (140 + 4 * t.length) (mBb S f.1.2.1 f.2.1)) : kyT)) := by
        have q := sc_bg (S := S) (a := 140 + 4 * (t.length + 1)) (κ := ((soC hh, (mAa S f.1.2.1 f.2.1).toNat, skO S (140 + 4 * t.length) (mBb S f.1.2.1 f.2.1), ssO S (140 + 4 * t.length) (mBb S f.1.2.1 f.2.1)) : kyT)) (so_R hhR) (r := mAa S f.1.2.1 f.2.1)
        rw [show hwC ((soC hh, (mAa S f.1.2.1 f.2.1).toNat, skO S (140 + 4 * t.length) (mBb S f.1.2.1 f.2.1), ssO S (140 + 4 * t.length) (mBb S f.1.2.1 f.2.1)) : kyT).1 = hh from hwC_so hhR] at q
        exact q
      have hbV := bg_V (S := S) (a := 140 + 4 * (t.length + 1)) (r := mAa S f.1.2.1 f.2.1) (h := hh) (k := skO S (140 + 4 * t.length) (mBb S f.1.2.1 f.2.1)) (s := ssO S (140 + 4 * t.length) (mBb S f.1.2.1 f.2.1)) (hsa (t.length + 1) (by omega)) (by omega) (by omega) (by omega)
      have hbp := bg_pl (S := S) (a := 140 + 4 * (t.length + 1)) (r := mAa S f.1.2.1 f.2.1) (h := hh) (k := skO S (140 + 4 * t.length) (mBb S f.1.2.1 f.2.1)) (s := ssO S (140 + 4 * t.length) (mBb S f.1.2.1 f.2.1))
      generalize bgS S (140 + 4 * (t.length + 1)) (mAa S f.1.2.1 f.2.1) hh (skO S (140 + 4 * t.length) (mBb S f.1.2.1 f.2.1)) (ssO S (140 + 4 * t.length) (mBb S f.1.2.1 f.2.1)) = S3 at *
      rw [hkk] at hsb
      obtain ⟨S4, hS4⟩ : ∃ S4, up2 (up2 S3 138 5 (((t.length + 1 : Nat) : Int) + 1)) 138 4 (maxI (S 138 4) (((t.length + 1 : Nat) : Int) + 1)) = S4 := ⟨_, rfl⟩
      have er : ∀ b, b ≠ 138 → S4 b = S3 b := fun b hb => by rw [← hS4, up2_row hb, up2_row hb]
      have ec : ∀ j, j ≠ 5 → j ≠ 4 → S4 138 j = S 138 j := fun j y1 y2 => by rw [← hS4, up2_rc y2, up2_rc y1, hF3 138 (by omega)]
      have ec5 : S4 138 5 = (t.length : Int) + 2 := by rw [← hS4, up2_rc (by omega), up2_same]; omega
      have ec4 : S4 138 4 = max ms ((t.length : Int) + 2) := by rw [← hS4, up2_same, max_I, c4]; congr 1
      rw [hS4]
      refine mm_iconst dX7_callFrom_80 ?_
      refine am_ireturn dX7_callFrom_81 rfl rfl ?_
      refine ⟨-1, rfl, S4, rfl, Or.inl ⟨rfl, by omega, fun b hb => (er b (by omega)).trans ((hF3 b (by omega)).trans (hrn b hb)), ⟨⟨?_, hkc, fun g u e => ?_, hok.1⟩, by simp only [List.length_cons]; omega, Or.inl rfl, hok.2.2.2.1, by show 1 ≤ max ms ((t.length : Int) + 2) ∧ max ms ((t.length : Int) + 2) ≤ 10; omega⟩, ⟨⟨?_, ?_, ?_, ?_⟩, ?_⟩, ⟨by rw [ec5]; simp only [List.length_cons]; omega, by rw [ec 2 (by omega) (by omega)]; exact c2, by rw [ec 3 (by omega) (by omega)]; exact c3, ec4⟩, fun i hi => ?_, by rw [ec 7 (by omega) (by omega)]; exact c7⟩⟩
      · exact ⟨rg_bg hkc hB.2.2.2.1, ⟨Int.le_refl _, (hB.2.2.2.1.2.2.2.2 (clK S0 f.1 f.2.1 f.2.2).2.1 (by have := hkc.2.1; have := hB.2.2.2.1.2.1; omega)).1⟩, fun k hk hne => absurd rfl hne⟩
      · obtain ⟨rfl, rfl⟩ := List.cons.inj e
        exact ⟨⟨hr.1, hr.2.1, hr.2.2⟩, rfl⟩
      · show scR S4 (140 + 4 * (t.length + 1)) (clK S0 f.1 f.2.1 f.2.2) (bgR (clK S0 f.1 f.2.1 f.2.2))
        unfold scR at *
        rw [er _ (by omega), er _ (by omega), er _ (by omega), er _ (by omega)]
        exact hsb
      · show scV S4 (140 + 4 * (t.length + 1))
        unfold scV at *
        rw [er _ (by omega), er _ (by omega), er _ (by omega), er _ (by omega)]
        exact hbV
      · show S4 (140 + 4 * (t.length + 1)) 1 = ((0 : Nat) : Int)
        rw [er _ (by omega)]
        exact hbp.2
      · show S4 (140 + 4 * (t.length + 1)) 0 = (((clK S0 f.1 f.2.1 f.2.2).2.1 : Nat) : Int)
        rw [er _ (by omega), hbp.1, ← hkk]
        show _ = (((mAa S f.1.2.1 f.2.1).toNat : Nat) : Int)
        omega
      · exact cl_of (f :: t) (fun b x y => by rw [er b (by omega)]; exact hF3 b (by simp only [List.length_cons] at y; omega)) hcl
      · by_cases z : i = t.length + 1
        · subst z
          have := hbV.2.2.2.2
          unfold scW
          rw [er _ (by omega), er _ (by omega)]
          exact this
        · have := hsa i hi
          unfold scW at *
          rw [er _ (by omega), er _ (by omega), hF3 _ (by omega), hF3 _ (by omega)]
          exact this
  · refine am_aload_n rfl dX7_callFrom_9 ?_
    refine am_aload_n rfl dX7_callFrom_10 ?_
    refine mm_getI dX7_callFrom_11 fl_X7_67 hsc.1 rfl ?_
    rw [h940]
    refine am_aload_n rfl dX7_callFrom_14 ?_
    refine mm_getI dX7_callFrom_15 fl_X7_70 hsc.1 rfl ?_
    rw [h941]
    refine mm_bipush dX7_callFrom_18 (by decide) ?_
    refine am_civ (mm_V3 dX7_callFrom_20 in_X7_endAt mk_X7_82 im_X7_endAt sl_X7_endAt ⟨Nat.le_of_ble_eq_true rfl, Nat.le_of_ble_eq_true rfl⟩ rfl rh.1 (Nat.le_of_ble_eq_true rfl)) (c_endAt (S := S) rh) ?_
    refine am_ireturn dX7_callFrom_23 rfl rfl ?_
    exact ⟨8, rfl, _, rfl, Or.inr ⟨rfl, by omega, en_up hrn hsa c7 rfl rfl c2 c3 c4⟩⟩
set_option maxRecDepth 100000 in
set_option maxHeartbeats 4000000 in
theorem l_turn2 {sh : List mm_H} {L : mm_L} (rh : rnH sh) (hb : bkS sh) {S0 : mm_S} (hB : cbB S0) {n : Int} {as dn ms : Int} {f : Fr} {t : List Fr} {S : mm_S} {A : Int → Prop} (hcr : crS S0 S n (f :: t, 0, as, dn, ms)) (hp0 : f.2.1 < mN S0 f.1.2.1) (hw : wrR S0 f.1 f.2.1 f.2.2 = 0) {y : Prop} [Decidable y] {z : Int × Int × rgT} (hz : nxR S0 f.1 f.2.1 f.2.2 y = z) {l4 : Option Value} : am_AW eX7_takeTurn (mm sh S L) 146 [some (.ref 138), some (.ref 1), some (.ref (140 + 4 * t.length)), some (.ref (22 + 10 * f.1.2.1)), l4, some (.int (iI (b2 y)))] [] (fun r0 M' => ∃ v, r0 = some (.int (iI v)) ∧ ∃ S', M' = mm sh S' L ∧ ((v = -1 ∧ ∃ s : aSt, crS S0 S' n s ∧ s.2.1 = 0 ∧ s.1.length ≤ t.length + 1 ∧ s.2.2 = (as, dn, ms) ∧ ∀ e, abRes S0 A s e → abRes S0 A ((f.1, z.2.1.toNat, z.2.2) :: t, 1 - z.1, as, dn, ms) e) ∨ (0 ≤ v ∧ ∃ e : aEn, e.1 = v ∧ abRes S0 A ((f.1, z.2.1.toNat, z.2.2) :: t, 1 - z.1, as, dn, ms) e ∧ enS S0 S' n e))) := by
  obtain ⟨hrn, hok, hcl, ⟨c5, c2, c3, c4⟩, hsa, c7⟩ := id hcr
  obtain ⟨hky, hBS, hr6, ⟨hpl, hN24, hNl⟩, hNe⟩ := cr_ro hB hcr
  have hsim := cr_sim hcr
  have hlen := hok.2.1
  simp only [List.length_cons] at hlen c5
  have c2 : S 138 2 = as := c2
  have c3 : S 138 3 = dn := c3
  have c4 : S 138 4 = ms := c4
  have hms : 1 ≤ ms ∧ ms ≤ 10 := hok.2.2.2.2
  have hda : 0 ≤ as ∧ as ≤ dn ∧ dn ≤ 500 := hok.2.2.2.1
  have hsc := rh.2.2 t.length (by omega)
  have hK := sim_K hBS.2.2.1 hBS.2.2.2 hsim
  have h940 := hsim.2.2.2.2
  have h941 := hsim.2.2.2.1
  have hbe := rn_E hrn
  obtain ⟨hB1, hB2, hB3, hB4, hB5⟩ := id hb
  obtain ⟨hr0, hr1, hr2, hr3, -⟩ := hB5 f.1.2.1 hr6
  have hro := cb_ro hBS hky.2.1
  have hp : f.2.1 < mN S f.1.2.1 := by rw [hNe]; exact hp0
  refine am_aload_n rfl dX7_takeTurn_146 ?_
  refine am_aload_n rfl dX7_takeTurn_147 ?_
  refine am_iload rfl dX7_takeTurn_148 ?_
  refine am_civ (mm_V2 dX7_takeTurn_150 in_X8_goOn mk_X7_109 im_X8_goOn sl_X8_goOn ⟨Nat.le_of_ble_eq_true rfl, Nat.le_of_ble_eq_true rfl⟩ rfl hsc.1 (Nat.le_of_ble_eq_true rfl)) (c_goOn (ro := 22 + 10 * f.1.2.1) (y0 := y) hsc hsim.2.2.1 hK hb hBS.1 (by rw [h940, Int.toNat_natCast]) hro.1 hro.2.1 (by omega) hro.2.2.1 (by omega) (by rw [sim_wr hBS.2.2.1 hBS.2.2.2 hky hsim hp, bk_wr hbe]; exact hw)) ?_
  have hst2 := sim_nx (y := y) hBS.2.2.1 hBS.2.2.2 hky hro.2.2.2.1 (by omega) hsim hp (by rw [bk_wr hbe]; exact hw)
  rw [bk_nx hbe, hz] at hst2
  generalize gnP S (140 + 4 * t.length) (22 + 10 * f.1.2.1) y = gg at *
  have hg1 := hst2.1
  have h01 := hst2.2.1
  have hF2 := hst2.2.2.1
  have hcl2 := cl_st hst2 h940 hcl.2
  have hit2 := hst2.2.2.2.2.1
  have hz0 := hit2.2.1.1
  have hcr2 : ∀ fl', (fl' = 0 ∨ fl' = 1) → crS S0 gg.2 n ((f.1, z.2.1.toNat, z.2.2) :: t, fl', as, dn, ms) := fun fl' hf' => ⟨fun b hb => (hF2 b (by omega)).trans (hrn b hb), ⟨⟨by show itV S0 f.1 ((z.2.1.toNat : Nat) : Int) z.2.2; rw [show ((z.2.1.toNat : Nat) : Int) = z.2.1 by omega]; exact itV_of ⟨fun b x y => (hbe.1 b x y).symm, hbe.2.1.symm, hbe.2.2.symm⟩ hit2, hok.1.2.1, hok.1.2.2.1, hok.1.2.2.2⟩, by simp only [List.length_cons]; omega, hf', hok.2.2.2.1, hok.2.2.2.2⟩, hcl2, ⟨by rw [hF2 138 (by omega)]; simp only [List.length_cons]; omega, by rw [hF2 138 (by omega)]; exact c2, by rw [hF2 138 (by omega)]; exact c3, by rw [hF2 138 (by omega)]; exact c4⟩, sa_of hsa hF2 hst2.2.2.2.2.2.1, by rw [hF2 138 (by omega)]; exact c7⟩
  refine mm_zeq (tgt := 160) dX7_takeTurn_153 (by decide) (by omega) (fun h153 => ?_) (fun h153 => ?_)
  · refine am_aload_n rfl dX7_takeTurn_160 ?_
    refine am_aload_n rfl dX7_takeTurn_161 ?_
    refine mm_iconst dX7_takeTurn_162 ?_
    rw [show iI 1 = iI (b2 ((1 : Int) = 1)) from rfl]
    refine am_cxI (mm_V2 dX7_takeTurn_163 in_X7_goBack mk_X7_78 im_X7_goBack sl_X7_goBack ⟨Nat.le_of_ble_eq_true rfl, Nat.le_of_ble_eq_true rfl⟩ rfl rh.1 (Nat.le_of_ble_eq_true rfl)) (c_goBack (A := A) (fl := 1) (as := as) (dn := dn) (ms := ms) rh hb hB (hcr2 1 (Or.inr rfl)) (Or.inl rfl)) (fun v M1 hq => ?_)
    obtain ⟨S9, rfl, hv⟩ := hq
    refine am_ireturn dX7_takeTurn_166 rfl rfl ?_
    first
      | (have e1 : z.1 = 1 := by omega
         rw [e1]
         exact ⟨-1, rfl, gg.2, rfl, Or.inl ⟨rfl, ((f.1, z.2.1.toNat, z.2.2) :: t, 0, as, dn, ms), hcr2 0 (Or.inl rfl), rfl, by simp only [List.length_cons]; omega, rfl, fun e he => he⟩⟩)
      | (have e1 : z.1 = 0 := by omega
         rw [e1]
         refine ⟨v, rfl, S9, rfl, ?_⟩
         rcases hv with ⟨y1, s, y2, y3, y4, y5, y6⟩ | y
         · exact Or.inl ⟨y1, s, y2, y3, by omega, y5, y6⟩
         · exact Or.inr y)
  · refine mm_iconst dX7_takeTurn_156 ?_
    refine am_goto (tgt := 166) dX7_takeTurn_157 (by decide) ?_
    refine am_ireturn dX7_takeTurn_166 rfl rfl ?_
    first
      | (have e1 : z.1 = 1 := by omega
         rw [e1]
         exact ⟨-1, rfl, gg.2, rfl, Or.inl ⟨rfl, ((f.1, z.2.1.toNat, z.2.2) :: t, 0, as, dn, ms), hcr2 0 (Or.inl rfl), rfl, by simp only [List.length_cons]; omega, rfl, fun e he => he⟩⟩)
      | (have e1 : z.1 = 0 := by omega
         rw [e1]
         refine ⟨v, rfl, S9, rfl, ?_⟩
         rcases hv with ⟨y1, s, y2, y3, y4, y5, y6⟩ | y
         · exact Or.inl ⟨y1, s, y2, y3, by omega, y5, y6⟩
         · exact Or.inr y)
set_option maxRecDepth 100000 in
set_option maxHeartbeats 4000000 in
theorem c_takeTurn {sh : List mm_H} {L : mm_L} (rh : rnH sh) (hb : bkS sh) {S0 : mm_S} (hB : cbB S0) {n : Int} {as dn ms : Int} {f : Fr} {t : List Fr} {S : mm_S} (hn6 : 0 ≤ n ∧ n ≤ 60) (hcr : crS S0 S n (f :: t, 0, as, dn, ms)) : am_E eX7_takeTurn [.ref 138, .ref 1] (mm sh S L) (fun r0 M' => ∃ v, r0 = some (.int (iI v)) ∧ ∃ S', M' = mm sh S' L ∧ ((v = -1 ∧ ∃ s : aSt, crS S0 S' n s ∧ s.2.1 = 0 ∧ (s.1.length : Int) ≤ (t.length : Int) + 2 * (s.2.2.2.1 - dn) ∧ ∀ e, abRes S0 (ansA (L 138 6) n) s e → abRes S0 (ansA (L 138 6) n) (f :: t, 0, as, dn, ms) e) ∨ (0 ≤ v ∧ ∃ e : aEn, e.1 = v ∧ abRes S0 (ansA (L 138 6) n) (f :: t, 0, as, dn, ms) e ∧ enS S0 S' n e))) := by
  obtain ⟨hrn, hok, hcl, ⟨c5, c2, c3, c4⟩, hsa, c7⟩ := id hcr
  obtain ⟨hky, hBS, hr6, ⟨hpl, hN24, hNl⟩, hNe⟩ := cr_ro hB hcr
  have hsim := cr_sim hcr
  have hlen := hok.2.1
  simp only [List.length_cons] at hlen c5
  have c2 : S 138 2 = as := c2
  have c3 : S 138 3 = dn := c3
  have c4 : S 138 4 = ms := c4
  have hms : 1 ≤ ms ∧ ms ≤ 10 := hok.2.2.2.2
  have hda : 0 ≤ as ∧ as ≤ dn ∧ dn ≤ 500 := hok.2.2.2.1
  have hsc := rh.2.2 t.length (by omega)
  have hK := sim_K hBS.2.2.1 hBS.2.2.2 hsim
  have h940 := hsim.2.2.2.2
  have h941 := hsim.2.2.2.1
  have hbe := rn_E hrn
  obtain ⟨hB1, hB2, hB3, hB4, hB5⟩ := id hb
  obtain ⟨hr0, hr1, hr2, hr3, -⟩ := hB5 f.1.2.1 hr6
  refine am_enter rfl rfl (Nat.le_of_ble_eq_true rfl) ?_
  refine am_aload_n rfl dX7_takeTurn_0 ?_
  refine mm_getR dX7_takeTurn_1 fl_X7_39 rh.1 rfl ?_
  refine am_aload_n rfl dX7_takeTurn_4 ?_
  refine mm_getI dX7_takeTurn_5 fl_X7_27 rh.1 rfl ?_
  refine mm_iconst dX7_takeTurn_8 ?_
  refine mm_isub dX7_takeTurn_9 ?_
  rw [show S 138 5 - 1 = (t.length : Int) by omega]
  refine mm_aal dX7_takeTurn_10 (fun _ => rfl) rh.2.1 ⟨by omega, by omega, by omega⟩ (show rnArr _ = some (140 + 4 * t.length) by rw [Int.toNat_natCast]; exact if_pos (by omega)) ?_
  refine am_ast2 dX7_takeTurn_11 (Nat.le_of_ble_eq_true rfl) (am_c1r _) ?_
  refine am_aload_n rfl dX7_takeTurn_12 ?_
  refine mm_getR dX7_takeTurn_13 fl_X7_61 hB1 rfl ?_
  refine am_aload_n rfl dX7_takeTurn_16 ?_
  refine mm_getI dX7_takeTurn_17 fl_X7_67 hsc.1 rfl ?_
  refine mm_aal dX7_takeTurn_20 (fun _ => rfl) hB3 ⟨by omega, by omega, by omega⟩ (show rArr _ = some (22 + 10 * f.1.2.1) by rw [h940, Int.toNat_natCast]; exact rArr_at hr6) ?_
  refine am_ast3 dX7_takeTurn_21 (Nat.le_of_ble_eq_true rfl) (am_c1r _) ?_
  refine am_aload_n rfl dX7_takeTurn_22 ?_
  refine mm_getI dX7_takeTurn_23 fl_X7_70 hsc.1 rfl ?_
  rw [h941]
  refine am_aload_n rfl dX7_takeTurn_26 ?_
  refine mm_getI dX7_takeTurn_27 fl_X7_73 hr0 rfl ?_
  rw [← hNl, hNe]
  refine mm_jlt (tgt := 40) dX7_takeTurn_30 (by decide) (by omega) (by omega) (fun h30 => ?_) (fun h30 => ?_)
  · have hp0 : f.2.1 < mN S0 f.1.2.1 := by omega
    have hnr : ¬ ((0 : Int) = 1 ∨ f.2.1 = mN S0 f.1.2.1) := by omega
    refine am_aload_n rfl dX7_takeTurn_40 ?_
    refine mm_getI dX7_takeTurn_41 fl_X7_21 rh.1 rfl ?_
    rw [c3]
    refine mm_sipush dX7_takeTurn_44 (by decide) ?_
    refine mm_jlt (tgt := 65) dX7_takeTurn_47 (by decide) (by omega) (by omega) (fun h47 => ?_) (fun h47 => ?_)
    · refine am_aload_n rfl dX7_takeTurn_65 ?_
      refine am_dup rfl dX7_takeTurn_66 ?_
      refine mm_getI dX7_takeTurn_67 fl_X7_21 rh.1 rfl ?_
      rw [c3]
      refine mm_iconst dX7_takeTurn_70 ?_
      refine mm_iadd dX7_takeTurn_71 ?_
      refine mm_putI dX7_takeTurn_72 fp_X7_21 rh.1 rfl ?_
      obtain ⟨S1, hS1⟩ : ∃ S1, up2 S 138 3 (dn + 1) = S1 := ⟨_, rfl⟩
      have er : ∀ b, b ≠ 138 → S1 b = S b := fun b hb => by rw [← hS1, up2_row hb]
      have ec : ∀ j, j ≠ 3 → S1 138 j = S 138 j := fun j hj => by rw [← hS1, up2_rc hj]
      have ec3 : S1 138 3 = dn + 1 := by rw [← hS1, up2_same]
      have hsa1 : scA S1 := by rw [← hS1]; exact sa_up hsa
      rw [hS1]
      clear hS1
      have hcr1 : crS S0 S1 n (f :: t, 0, as, dn + 1, ms) := ⟨fun b hb => (er b (by omega)).trans (hrn b hb), ⟨hok.1, hok.2.1, hok.2.2.1, by show 0 ≤ as ∧ as ≤ dn + 1 ∧ dn + 1 ≤ 500; omega, hok.2.2.2.2⟩, cl_of (f :: t) (fun b x _ => er b (by omega)) hcl, ⟨by rw [ec 5 (by omega)]; simp only [List.length_cons]; omega, by rw [ec 2 (by omega)]; exact c2, ec3, by rw [ec 4 (by omega)]; exact c4⟩, hsa1, by rw [ec 7 (by omega)]; exact c7⟩
      have hsim1 := cr_sim hcr1
      have hBS1 := cbB_rn hcr1.1 hB
      have hbe1 := rn_E hcr1.1
      have hky1 := kyV_of hbe1 hok.1.2.1
      have hro := cb_ro hBS1 hky1.2.1
      have hK1 := sim_K hBS1.2.2.1 hBS1.2.2.2 hsim1
      have hN1 := bk_N hbe1 f.1.2.1
      have hp1 : f.2.1 < mN S1 f.1.2.1 := by rw [hN1]; exact hp0
      have h9401 := hsim1.2.2.2.2
      have h9411 := hsim1.2.2.2.1
      have hwah := sim_wr hBS1.2.2.1 hBS1.2.2.2 hky1 hsim1 hp1
      rw [bk_wr hbe1] at hwah
      have hwR := wr_R (S := S0) (κ := f.1) (pl := f.2.1) (R := f.2.2)
      obtain ⟨eS, eA, eB⟩ := (br_rt hBS1.2.2.1 hky1.2.1).2 f.2.1 hp1
      have hl1 : S1 (140 + 4 * t.length) 1 < S1 (22 + 10 * f.1.2.1) 0 := by have := hro.2.2.2.2.2.1; omega
      refine am_aload_n rfl dX7_takeTurn_75 ?_
      refine am_aload_n rfl dX7_takeTurn_76 ?_
      refine am_ci (mm_V1 dX7_takeTurn_77 in_X8_wrongAhead mk_X7_86 im_X8_wrongAhead sl_X8_wrongAhead ⟨Nat.le_of_ble_eq_true rfl, Nat.le_of_ble_eq_true rfl⟩ rfl hsc.1 (Nat.le_of_ble_eq_true rfl)) (c_wrongAhead (ro := 22 + 10 * f.1.2.1) hsc hsim1.2.2.1 hK1 hb hBS1.1 (by rw [h9401, Int.toNat_natCast]) hro.1 hro.2.1 hl1) ?_
      rw [hwah]
      refine am_ist4 dX7_takeTurn_80 (Nat.le_of_ble_eq_true rfl) (am_c1r _) ?_
      refine am_iload rfl dX7_takeTurn_82 ?_
      refine mm_zeq (tgt := 102) dX7_takeTurn_84 (by decide) (by omega) (fun h84 => ?_) (fun h84 => ?_)
      · have hw0 : wrR S0 f.1 f.2.1 f.2.2 = 0 := h84
        have hmso : 0 ≤ mSo S1 f.1.2.1 f.2.1 ∧ mSo S1 f.1.2.1 f.2.1 ≤ 15 := by have := (hro.2.1.2.2.2.2 f.2.1).1; rw [eS] at this; exact this
        refine am_aload_n rfl dX7_takeTurn_102 ?_
        refine mm_getR dX7_takeTurn_103 fl_X7_89 hr0 rfl ?_
        refine am_aload_n rfl dX7_takeTurn_106 ?_
        refine mm_getI dX7_takeTurn_107 fl_X7_70 hsc.1 rfl ?_
        rw [h9411]
        refine mm_ial dX7_takeTurn_110 hr1 (by omega) ?_
        rw [Int.toNat_natCast, eS, bk_So hbe1]
        refine am_ci (mm_SN1 dX7_takeTurn_111 in_X9_isCall mk_X7_93 st_X9_isCall ⟨Nat.le_of_ble_eq_true rfl, Nat.le_of_ble_eq_true rfl⟩ (Nat.le_of_ble_eq_true rfl)) (c_isCall (x := mSo S0 f.1.2.1 f.2.1) (by rw [bk_So hbe1] at hmso; omega)) ?_
        refine mm_beq (tgt := 124) dX7_takeTurn_114 (by decide) (fun h114 => ?_) (fun h114 => ?_)
        · refine am_aload_n rfl dX7_takeTurn_124 ?_
          refine am_aload_n rfl dX7_takeTurn_125 ?_
          have hfin : ∀ (r0 : Option Value) (M' : am_M) (as' : Int), as' = as + ifP (asR S0 f.1 f.2.1 f.2.2) 1 0 → (∃ v, r0 = some (.int (iI v)) ∧ ∃ S', M' = mm sh S' L ∧ ((v = -1 ∧ ∃ s : aSt, crS S0 S' n s ∧ s.2.1 = 0 ∧ s.1.length ≤ t.length + 1 ∧ s.2.2 = (as', dn + 1, ms) ∧ ∀ e, abRes S0 (ansA (L 138 6) n) s e → abRes S0 (ansA (L 138 6) n) ((f.1, (nyR S0 (ansA (L 138 6) n) f as).2.1.toNat, (nyR S0 (ansA (L 138 6) n) f as).2.2) :: t, 1 - (nyR S0 (ansA (L 138 6) n) f as).1, as', dn + 1, ms) e) ∨ (0 ≤ v ∧ ∃ e : aEn, e.1 = v ∧ abRes S0 (ansA (L 138 6) n) ((f.1, (nyR S0 (ansA (L 138 6) n) f as).2.1.toNat, (nyR S0 (ansA (L 138 6) n) f as).2.2) :: t, 1 - (nyR S0 (ansA (L 138 6) n) f as).1, as', dn + 1, ms) e ∧ enS S0 S' n e))) → ∃ v, r0 = some (.int (iI v)) ∧ ∃ S', M' = mm sh S' L ∧ ((v = -1 ∧ ∃ s : aSt, crS S0 S' n s ∧ s.2.1 = 0 ∧ (s.1.length : Int) ≤ (t.length : Int) + 2 * (s.2.2.2.1 - dn) ∧ ∀ e, abRes S0 (ansA (L 138 6) n) s e → abRes S0 (ansA (L 138 6) n) (f :: t, 0, as, dn, ms) e) ∨ (0 ≤ v ∧ ∃ e : aEn, e.1 = v ∧ abRes S0 (ansA (L 138 6) n) (f :: t, 0, as, dn, ms) e ∧ enS S0 S' n e)) := fun r0 M' as' he q => by
            have hab := ab_nx (A := ansA (L 138 6) n) (t := t) (as := as) (ms := ms) hnr (show dn ≠ 500 by omega) hw0 h114
            rw [← he] at hab
            obtain ⟨v, q1, S', q2, q3⟩ := q
            refine ⟨v, q1, S', q2, ?_⟩
            rcases q3 with ⟨y1, s, y2, y3, y4, y5, y6⟩ | ⟨y1, e, y2, y3, y4⟩
            · exact Or.inl ⟨y1, s, y2, y3, by rw [y5]; show (s.1.length : Int) ≤ (t.length : Int) + 2 * (dn + 1 - dn); omega, fun e he => abr_s hab (y6 e he)⟩
            · exact Or.inr ⟨y1, e, y2, abr_s hab y3, y4⟩
          refine am_cxi (mm_V1 dX7_takeTurn_126 in_X8_asksAhead mk_X7_101 im_X8_asksAhead sl_X8_asksAhead ⟨Nat.le_of_ble_eq_true rfl, Nat.le_of_ble_eq_true rfl⟩ rfl hsc.1 (Nat.le_of_ble_eq_true rfl)) (c_asksAhead (ro := 22 + 10 * f.1.2.1) hsc hsim1.2.2.1 hK1 hb hBS1.1 (by rw [h9401, Int.toNat_natCast]) hro.1 hro.2.1 hl1 (by rw [hwah]; exact hw0)) (fun aw M1 hq => ?_)
          obtain ⟨av, rfl, hte, rfl⟩ := hq
          have hav := tells_01 hte
          have hte := tells_iff hte (sim_as hBS1.2.2.1 hBS1.2.2.2 hky1 hsim1 hp1 (by rw [bk_wr hbe1]; exact hw0))
          rw [bk_as hbe1] at hte
          refine mm_zeq (tgt := 143) dX7_takeTurn_129 (by decide) (by omega) (fun h129 => ?_) (fun h129 => ?_)
          · refine mm_iconst dX7_takeTurn_143 ?_
            refine am_ist5 dX7_takeTurn_144 (Nat.le_of_ble_eq_true rfl) (am_c1i _) ?_
            first
              | (have hy : (asR S0 f.1 f.2.1 f.2.2 ∧ ansA (L 138 6) n as) := ⟨tells_t hte (by omega), tells_t htn (by omega)⟩
                 have hny : ifP (asR S0 f.1 f.2.1 f.2.2) 1 0 = 1 := ifP_t (tells_t hte (by omega))
                 rw [show iI 1 = iI (@b2 (asR S0 f.1 f.2.1 f.2.2 ∧ ansA (L 138 6) n as) (Classical.propDecidable _)) from congrArg iI (@b2_t _ (Classical.propDecidable _) hy).symm]
                 have h9 := @l_turn2 sh L rh hb S0 hB n (as + 1) (dn + 1) ms f t S2 (ansA (L 138 6) n) hcr2 hp0 hw0 (asR S0 f.1 f.2.1 f.2.2 ∧ ansA (L 138 6) n as) (Classical.propDecidable _) (nyR S0 (ansA (L 138 6) n) f as) rfl (some (.int (iI (wrR S0 f.1 f.2.1 f.2.2))))
                 refine am_AW.mono h9 (fun r0 M' q => hfin r0 M' (as + 1) (by rw [hny]) q))
              | (have hy : ¬ (asR S0 f.1 f.2.1 f.2.2 ∧ ansA (L 138 6) n as) := fun q => tells_f htn (by omega) q.2
                 have hny : ifP (asR S0 f.1 f.2.1 f.2.2) 1 0 = 1 := ifP_t (tells_t hte (by omega))
                 rw [show iI 0 = iI (@b2 (asR S0 f.1 f.2.1 f.2.2 ∧ ansA (L 138 6) n as) (Classical.propDecidable _)) from congrArg iI (@b2_f _ (Classical.propDecidable _) hy).symm]
                 have h9 := @l_turn2 sh L rh hb S0 hB n (as + 1) (dn + 1) ms f t S2 (ansA (L 138 6) n) hcr2 hp0 hw0 (asR S0 f.1 f.2.1 f.2.2 ∧ ansA (L 138 6) n as) (Classical.propDecidable _) (nyR S0 (ansA (L 138 6) n) f as) rfl (some (.int (iI (wrR S0 f.1 f.2.1 f.2.2))))
                 refine am_AW.mono h9 (fun r0 M' q => hfin r0 M' (as + 1) (by rw [hny]) q))
              | (have hy : ¬ (asR S0 f.1 f.2.1 f.2.2 ∧ ansA (L 138 6) n as) := fun q => tells_f hte (by omega) q.1
                 have hny : ifP (asR S0 f.1 f.2.1 f.2.2) 1 0 = 0 := ifP_f (tells_f hte (by omega))
                 rw [show iI 0 = iI (@b2 (asR S0 f.1 f.2.1 f.2.2 ∧ ansA (L 138 6) n as) (Classical.propDecidable _)) from congrArg iI (@b2_f _ (Classical.propDecidable _) hy).symm]
                 have h9 := @l_turn2 sh L rh hb S0 hB n as (dn + 1) ms f t S1 (ansA (L 138 6) n) hcr1 hp0 hw0 (asR S0 f.1 f.2.1 f.2.2 ∧ ansA (L 138 6) n as) (Classical.propDecidable _) (nyR S0 (ansA (L 138 6) n) f as) rfl (some (.int (iI (wrR S0 f.1 f.2.1 f.2.2))))
                 refine am_AW.mono h9 (fun r0 M' q => hfin r0 M' as (by rw [hny]; omega) q))
          · refine am_aload_n rfl dX7_takeTurn_132 ?_
            obtain ⟨ai, hai⟩ : ∃ ai : Nat, as = ai := ⟨as.toNat, by omega⟩
            refine am_cxI (mm_V0 dX7_takeTurn_133 in_X7_nextAnswer mk_X7_105 im_X7_nextAnswer sl_X7_nextAnswer ⟨Nat.le_of_ble_eq_true rfl, Nat.le_of_ble_eq_true rfl⟩ rfl rh.1 (Nat.le_of_ble_eq_true rfl)) (c_nextAnswer (S := S1) (L := L) (i := ai) (n := n) rh (by rw [ec 2 (by omega), c2]; exact hai) (by omega) (by rw [ec 7 (by omega)]; exact c7) hn6) (fun bv M1 hq => ?_)
            obtain ⟨htn, rfl⟩ := hq
            rw [← hai] at htn
            have hbv2 := tells_01 htn
            obtain ⟨S2, hS2⟩ : ∃ S2, up2 S1 138 2 ((ai : Int) + 1) = S2 := ⟨_, rfl⟩
            have fr : ∀ b, b ≠ 138 → S2 b = S1 b := fun b hb => by rw [← hS2, up2_row hb]
            have fc : ∀ j, j ≠ 2 → S2 138 j = S1 138 j := fun j hj => by rw [← hS2, up2_rc hj]
            have fc2 : S2 138 2 = as + 1 := by rw [← hS2, up2_same, hai]
            have hsa2 : scA S2 := by rw [← hS2]; exact sa_up hsa1
            rw [hS2]
            clear hS2
            have hcr2 : crS S0 S2 n (f :: t, 0, as + 1, dn + 1, ms) := ⟨fun b hb => (fr b (by omega)).trans (hcr1.1 b hb), ⟨hok.1, hok.2.1, hok.2.2.1, by show 0 ≤ as + 1 ∧ as + 1 ≤ dn + 1 ∧ dn + 1 ≤ 500; omega, hok.2.2.2.2⟩, cl_of (f :: t) (fun b x _ => fr b (by omega)) hcr1.2.2.1, ⟨by rw [fc 5 (by omega)]; exact hcr1.2.2.2.1.1, fc2, by rw [fc 3 (by omega)]; exact ec3, by rw [fc 4 (by omega)]; exact hcr1.2.2.2.1.2.2.2⟩, hsa2, by rw [fc 7 (by omega)]; exact hcr1.2.2.2.2.2⟩
            refine mm_zeq (tgt := 143) dX7_takeTurn_136 (by decide) (by omega) (fun h136 => ?_) (fun h136 => ?_)
            · refine mm_iconst dX7_takeTurn_143 ?_
              refine am_ist5 dX7_takeTurn_144 (Nat.le_of_ble_eq_true rfl) (am_c1i _) ?_
              first
                | (have hy : (asR S0 f.1 f.2.1 f.2.2 ∧ ansA (L 138 6) n as) := ⟨tells_t hte (by omega), tells_t htn (by omega)⟩
                   have hny : ifP (asR S0 f.1 f.2.1 f.2.2) 1 0 = 1 := ifP_t (tells_t hte (by omega))
                   rw [show iI 1 = iI (@b2 (asR S0 f.1 f.2.1 f.2.2 ∧ ansA (L 138 6) n as) (Classical.propDecidable _)) from congrArg iI (@b2_t _ (Classical.propDecidable _) hy).symm]
                   have h9 := @l_turn2 sh L rh hb S0 hB n (as + 1) (dn + 1) ms f t S2 (ansA (L 138 6) n) hcr2 hp0 hw0 (asR S0 f.1 f.2.1 f.2.2 ∧ ansA (L 138 6) n as) (Classical.propDecidable _) (nyR S0 (ansA (L 138 6) n) f as) rfl (some (.int (iI (wrR S0 f.1 f.2.1 f.2.2))))
                   refine am_AW.mono h9 (fun r0 M' q => hfin r0 M' (as + 1) (by rw [hny]) q))
                | (have hy : ¬ (asR S0 f.1 f.2.1 f.2.2 ∧ ansA (L 138 6) n as) := fun q => tells_f htn (by omega) q.2
                   have hny : ifP (asR S0 f.1 f.2.1 f.2.2) 1 0 = 1 := ifP_t (tells_t hte (by omega))
                   rw [show iI 0 = iI (@b2 (asR S0 f.1 f.2.1 f.2.2 ∧ ansA (L 138 6) n as) (Classical.propDecidable _)) from congrArg iI (@b2_f _ (Classical.propDecidable _) hy).symm]
                   have h9 := @l_turn2 sh L rh hb S0 hB n (as + 1) (dn + 1) ms f t S2 (ansA (L 138 6) n) hcr2 hp0 hw0 (asR S0 f.1 f.2.1 f.2.2 ∧ ansA (L 138 6) n as) (Classical.propDecidable _) (nyR S0 (ansA (L 138 6) n) f as) rfl (some (.int (iI (wrR S0 f.1 f.2.1 f.2.2))))
                   refine am_AW.mono h9 (fun r0 M' q => hfin r0 M' (as + 1) (by rw [hny]) q))
                | (have hy : ¬ (asR S0 f.1 f.2.1 f.2.2 ∧ ansA (L 138 6) n as) := fun q => tells_f hte (by omega) q.1
                   have hny : ifP (asR S0 f.1 f.2.1 f.2.2) 1 0 = 0 := ifP_f (tells_f hte (by omega))
                   rw [show iI 0 = iI (@b2 (asR S0 f.1 f.2.1 f.2.2 ∧ ansA (L 138 6) n as) (Classical.propDecidable _)) from congrArg iI (@b2_f _ (Classical.propDecidable _) hy).symm]
                   have h9 := @l_turn2 sh L rh hb S0 hB n as (dn + 1) ms f t S1 (ansA (L 138 6) n) hcr1 hp0 hw0 (asR S0 f.1 f.2.1 f.2.2 ∧ ansA (L 138 6) n as) (Classical.propDecidable _) (nyR S0 (ansA (L 138 6) n) f as) rfl (some (.int (iI (wrR S0 f.1 f.2.1 f.2.2))))
                   refine am_AW.mono h9 (fun r0 M' q => hfin r0 M' as (by rw [hny]; omega) q))
            · refine mm_iconst dX7_takeTurn_139 ?_
              refine am_goto (tgt := 144) dX7_takeTurn_140 (by decide) ?_
              refine am_ist5 dX7_takeTurn_144 (Nat.le_of_ble_eq_true rfl) (am_c1i _) ?_
              first
                | (have hy : (asR S0 f.1 f.2.1 f.2.2 ∧ ansA (L 138 6) n as) := ⟨tells_t hte (by omega), tells_t htn (by omega)⟩
                   have hny : ifP (asR S0 f.1 f.2.1 f.2.2) 1 0 = 1 := ifP_t (tells_t hte (by omega))
                   rw [show iI 1 = iI (@b2 (asR S0 f.1 f.2.1 f.2.2 ∧ ansA (L 138 6) n as) (Classical.propDecidable _)) from congrArg iI (@b2_t _ (Classical.propDecidable _) hy).symm]
                   have h9 := @l_turn2 sh L rh hb S0 hB n (as + 1) (dn + 1) ms f t S2 (ansA (L 138 6) n) hcr2 hp0 hw0 (asR S0 f.1 f.2.1 f.2.2 ∧ ansA (L 138 6) n as) (Classical.propDecidable _) (nyR S0 (ansA (L 138 6) n) f as) rfl (some (.int (iI (wrR S0 f.1 f.2.1 f.2.2))))
                   refine am_AW.mono h9 (fun r0 M' q => hfin r0 M' (as + 1) (by rw [hny]) q))
                | (have hy : ¬ (asR S0 f.1 f.2.1 f.2.2 ∧ ansA (L 138 6) n as) := fun q => tells_f htn (by omega) q.2
                   have hny : ifP (asR S0 f.1 f.2.1 f.2.2) 1 0 = 1 := ifP_t (tells_t hte (by omega))
                   rw [show iI 0 = iI (@b2 (asR S0 f.1 f.2.1 f.2.2 ∧ ansA (L 138 6) n as) (Classical.propDecidable _)) from congrArg iI (@b2_f _ (Classical.propDecidable _) hy).symm]
                   have h9 := @l_turn2 sh L rh hb S0 hB n (as + 1) (dn + 1) ms f t S2 (ansA (L 138 6) n) hcr2 hp0 hw0 (asR S0 f.1 f.2.1 f.2.2 ∧ ansA (L 138 6) n as) (Classical.propDecidable _) (nyR S0 (ansA (L 138 6) n) f as) rfl (some (.int (iI (wrR S0 f.1 f.2.1 f.2.2))))
                   refine am_AW.mono h9 (fun r0 M' q => hfin r0 M' (as + 1) (by rw [hny]) q))
                | (have hy : ¬ (asR S0 f.1 f.2.1 f.2.2 ∧ ansA (L 138 6) n as) := fun q => tells_f hte (by omega) q.1
                   have hny : ifP (asR S0 f.1 f.2.1 f.2.2) 1 0 = 0 := ifP_f (tells_f hte (by omega))
                   rw [show iI 0 = iI (@b2 (asR S0 f.1 f.2.1 f.2.2 ∧ ansA (L 138 6) n as) (Classical.propDecidable _)) from congrArg iI (@b2_f _ (Classical.propDecidable _) hy).symm]
                   have h9 := @l_turn2 sh L rh hb S0 hB n as (dn + 1) ms f t S1 (ansA (L 138 6) n) hcr1 hp0 hw0 (asR S0 f.1 f.2.1 f.2.2 ∧ ansA (L 138 6) n as) (Classical.propDecidable _) (nyR S0 (ansA (L 138 6) n) f as) rfl (some (.int (iI (wrR S0 f.1 f.2.1 f.2.2))))
                   refine am_AW.mono h9 (fun r0 M' q => hfin r0 M' as (by rw [hny]; omega) q))
        · refine am_aload_n rfl dX7_takeTurn_117 ?_
          refine am_aload_n rfl dX7_takeTurn_118 ?_
          refine am_aload_n rfl dX7_takeTurn_119 ?_
          refine am_cxI (mm_V2 dX7_takeTurn_120 in_X7_callFrom mk_X7_97 im_X7_callFrom sl_X7_callFrom ⟨Nat.le_of_ble_eq_true rfl, Nat.le_of_ble_eq_true rfl⟩ rfl rh.1 (Nat.le_of_ble_eq_true rfl)) (c_rcall rh hb hB hcr1 ⟨hp0, h114, hw0⟩) (fun v M1 hq => ?_)
          obtain ⟨S9, rfl, hv⟩ := hq
          refine am_ireturn dX7_takeTurn_123 rfl rfl ?_
          refine ⟨v, rfl, S9, rfl, ?_⟩
          rcases hv with ⟨y1, y2, y3⟩ | ⟨y1, y2, y3⟩
          · exact Or.inl ⟨y1, _, y3, rfl, by show (((t.length + 1 + 1 : Nat)) : Int) ≤ (t.length : Int) + 2 * (dn + 1 - dn); omega, fun e he => abr_s (ab_call hnr (by omega) hw0 h114 y2) he⟩
          · exact Or.inr ⟨by omega, _, y1.symm, abr_e (ab_deep hnr (by omega) hw0 h114 y2), y3⟩
      · refine am_aload_n rfl dX7_takeTurn_87 ?_
        refine am_aload_n rfl dX7_takeTurn_88 ?_
        refine mm_getI dX7_takeTurn_89 fl_X7_67 hsc.1 rfl ?_
        rw [h9401]
        refine am_aload_n rfl dX7_takeTurn_92 ?_
        refine mm_getI dX7_takeTurn_93 fl_X7_70 hsc.1 rfl ?_
        rw [h9411]
        refine am_iload rfl dX7_takeTurn_96 ?_
        refine am_civ (mm_V3 dX7_takeTurn_98 in_X7_endAt mk_X7_82 im_X7_endAt sl_X7_endAt ⟨Nat.le_of_ble_eq_true rfl, Nat.le_of_ble_eq_true rfl⟩ rfl rh.1 (Nat.le_of_ble_eq_true rfl)) (c_endAt (S := S1) rh) ?_
        refine am_ireturn dX7_takeTurn_101 rfl rfl ?_
        exact ⟨_, rfl, _, rfl, Or.inr ⟨by omega, (wrR S0 f.1 f.2.1 f.2.2, (f.1.2.1 : Int), (f.2.1 : Int), as, dn + 1, ms), rfl, abr_e (ab_wr hnr (by omega) h84), en_up hcr1.1 hsa1 hcr1.2.2.2.2.2 rfl rfl hcr1.2.2.2.1.2.1 hcr1.2.2.2.1.2.2.1 hcr1.2.2.2.1.2.2.2⟩⟩
    · refine am_aload_n rfl dX7_takeTurn_50 ?_
      refine am_aload_n rfl dX7_takeTurn_51 ?_
      refine mm_getI dX7_takeTurn_52 fl_X7_67 hsc.1 rfl ?_
      rw [h940]
      refine am_aload_n rfl dX7_takeTurn_55 ?_
      refine mm_getI dX7_takeTurn_56 fl_X7_70 hsc.1 rfl ?_
      rw [h941]
      refine mm_bipush dX7_takeTurn_59 (by decide) ?_
      refine am_civ (mm_V3 dX7_takeTurn_61 in_X7_endAt mk_X7_82 im_X7_endAt sl_X7_endAt ⟨Nat.le_of_ble_eq_true rfl, Nat.le_of_ble_eq_true rfl⟩ rfl rh.1 (Nat.le_of_ble_eq_true rfl)) (c_endAt (S := S) rh) ?_
      refine am_ireturn dX7_takeTurn_64 rfl rfl ?_
      exact ⟨7, rfl, _, rfl, Or.inr ⟨by omega, (7, (f.1.2.1 : Int), (f.2.1 : Int), as, dn, ms), rfl, abr_e (ab_long hnr (by omega)), en_up hrn hsa c7 rfl rfl c2 c3 c4⟩⟩
  · refine am_aload_n rfl dX7_takeTurn_33 ?_
    refine am_aload_n rfl dX7_takeTurn_34 ?_
    refine mm_iconst dX7_takeTurn_35 ?_
    rw [show iI 0 = iI (b2 ((0 : Int) = 1)) from rfl]
    refine am_cxI (mm_V2 dX7_takeTurn_36 in_X7_goBack mk_X7_78 im_X7_goBack sl_X7_goBack ⟨Nat.le_of_ble_eq_true rfl, Nat.le_of_ble_eq_true rfl⟩ rfl rh.1 (Nat.le_of_ble_eq_true rfl)) (c_goBack (A := ansA (L 138 6) n) (fl := 0) (as := as) (dn := dn) (ms := ms) rh hb hB hcr (Or.inr (by omega))) (fun v M1 hq => ?_)
    obtain ⟨S9, rfl, hv⟩ := hq
    refine am_ireturn dX7_takeTurn_39 rfl rfl ?_
    refine ⟨v, rfl, S9, rfl, ?_⟩
    rcases hv with ⟨y1, s, y2, y3, y4, y5, y6⟩ | y
    · exact Or.inl ⟨y1, s, y2, y3, by rw [y5]; show (s.1.length : Int) ≤ (t.length : Int) + 2 * (dn - dn); omega, y6⟩
    · exact Or.inr y
