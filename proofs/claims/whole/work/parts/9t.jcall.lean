/-! ===== from a call ===== -/
theorem am_cxI {Y Y' : am_Y} {M : am_M} {pc nx : Nat} {ls : List (Option Value)} {st sa as : List Value} {Q : Option Value → am_M → Prop} {P : Int → am_M → Prop} (c : am_CL Y pc nx M sa st Y' as) (hE : am_E Y' as M (fun r M' => ∃ v : Int, r = some (.int (iI v)) ∧ P v M')) (k : ∀ v M1, P v M1 → am_AW Y M1 nx ls (.int (iI v) :: st) Q) : am_AW Y M pc ls sa Q := c ls _ Q hE (fun r M1 h => by obtain ⟨x, rfl, h⟩ := h; exact k x M1 h)
set_option maxRecDepth 100000 in
set_option maxHeartbeats 4000000 in
theorem c_callFrom {sh : List mm_H} {S : mm_S} {L : mm_L} {p1 p2 p3 n : Nat} (jh : jsH sh) (hpl : plS sh p1 p2 p3 n) (hD : plD p1 p2 p3 n) (hI : imC S L p1 p2 p3 n) {X : XT} {F : FT} {W : WT} (hS : SubC S L p1 X F W) (hb : bkS sh) (hB : cbB S) {c : Nat} (hc : (c : Int) < S 85 1) {i pl : Nat} {R : rgT} (hi : (i : Int) < S 86 0) (hsim : simP S 94 (keyC S c) pl R) (hr : rcC S (keyC S c) pl R) (hn : inC S L p1) (hX : X (clK S (keyC S c) pl R) 0 (pkM (bgR (clK S (keyC S c) pl R)))) (hN8 : S 86 0 < 262144) : am_E eX3_callFrom [.ref 85, .ref (22 + 10 * (keyC S c).2.1), .int (iI (i : Int))] (mm sh S L) (fun r0 M' => ∃ v, r0 = some (.int (iI v)) ∧ ∃ sh' S' L' q1 q2 q3 m, M' = mm sh' S' L' ∧ S' 86 0 ≤ S 86 0 + 1 ∧ ((v = -1 ∧ S' 85 0 = 1 ∧ poC sh S L p1 p2 n X F W sh' S' L' q1 q2 q3 m) ∨ ∃ (a : Nat) (S1 : mm_S), v = a ∧ (a : Int) < S1 85 1 ∧ keyC S1 a = clK S (keyC S c) pl R ∧ poC sh S L p1 p2 n X F W sh' S1 L' q1 q2 q3 m ∧ ntC S1 S' q2 i a)) := by
  obtain ⟨hp, hx, hw⟩ := id hr
  have h40 := hI.2.2.1.1
  have hc40 : c < 40 := by omega
  have hcs := hI.2.2.1.2 c hc
  have hky := hcs.2.2.2.2.2.1
  have hro := cb_ro hB hky.2.1
  have hr6 := hro.2.2.2.2.1
  have hN := hro.2.2.2.2.2
  have h940 := hsim.2.2.2.2
  have h941 := hsim.2.2.2.1
  have hK := sim_K hB.2.2.1 hB.2.2.2 hsim
  have hroe : 22 + 10 * (keyC S c).2.1 = 22 + 10 * (S 94 0).toNat := by rw [h940, Int.toNat_natCast]
  have hl : S 94 1 < S (22 + 10 * (keyC S c).2.1) 0 := by omega
  obtain ⟨hr0, hr1, hr2, hr3, -⟩ := hb.2.2.2.2 (keyC S c).2.1 hr6
  obtain ⟨eS, eA, eB⟩ := (br_rt hB.2.2.1 hky.2.1).2 pl hp
  have hmr := hB.2.2.2.2.2.2 (keyC S c).2.1 hky.2.1
  have hv5 : 0 ≤ mBb S (keyC S c).2.1 pl ∧ mBb S (keyC S c).2.1 pl < 5 := by have ok := hmr.2.2.2 pl hp; omega
  have hmc : 0 ≤ mAa S (keyC S c).2.1 pl ∧ mAa S (keyC S c).2.1 pl < S 181 9 := hmr.2.2.1 pl hp hx
  have h9 := hB.2.2.2.1.2.1
  have u := wr_call hx hw
  have dm := sc_dm hsim.1 hsim.2.2.1 hsim.2.1.1.2.1 hv5 u.1
  have hkR := skO_R hsim.2.2.1 hv5
  have hsR := ssO_R hsim.2.2.1 hv5
  have hs6 : ssO S 94 (mBb S (keyC S c).2.1 pl) ≠ 6 := by rw [← dm.2]; exact u.2.1
  have hkc := ky_cl hB.2.2.2 hky.2.1 hsim.2.1.1 hp hx hw
  obtain ⟨hh, hhw⟩ : ∃ hh : Int, hh = (if mSo S (keyC S c).2.1 pl = 11 then 1 else 0) := ⟨_, rfl⟩
  have hhR : 0 ≤ hh ∧ hh ≤ 2 := by rw [hhw]; split <;> omega
  have hkk : ((soC hh, (mAa S (keyC S c).2.1 pl).toNat, skO S 94 (mBb S (keyC S c).2.1 pl), ssO S 94 (mBb S (keyC S c).2.1 pl)) : kyT) = clK S (keyC S c) pl R := by
    unfold clK
    rw [dm.1, dm.2, hhw]
    by_cases z : mSo S (keyC S c).2.1 pl = 11
    · rw [if_pos z, if_pos z]; rfl
    · rw [if_neg z, if_neg z]; rfl
  refine am_enter rfl rfl (Nat.le_of_ble_eq_true rfl) ?_
  refine am_aload_n rfl dX3_callFrom_0 ?_
  refine mm_getR dX3_callFrom_1 fl_X3_189 hr0 rfl ?_
  refine am_aload_n rfl dX3_callFrom_4 ?_
  refine mm_getR dX3_callFrom_5 fl_X3_51 jh.1 rfl ?_
  refine mm_getI dX3_callFrom_8 fl_X3_148 jh.2.2.2.2.2.1.1 rfl ?_
  rw [h941]
  refine mm_ial dX3_callFrom_11 hr3 (by omega) ?_
  rw [Int.toNat_natCast, eB]
  refine am_ist3 dX3_callFrom_12 (Nat.le_of_ble_eq_true rfl) (am_c1i _) ?_
  refine am_aload_n rfl dX3_callFrom_13 ?_
  refine mm_getR dX3_callFrom_14 fl_X3_168 hr0 rfl ?_
  refine am_aload_n rfl dX3_callFrom_17 ?_
  refine mm_getR dX3_callFrom_18 fl_X3_51 jh.1 rfl ?_
  refine mm_getI dX3_callFrom_21 fl_X3_148 jh.2.2.2.2.2.1.1 rfl ?_
  rw [h941]
  refine mm_ial dX3_callFrom_24 hr1 (by omega) ?_
  rw [Int.toNat_natCast, eS]
  refine mm_bipush dX3_callFrom_25 (by decide) ?_
  refine mm_jne (tgt := 34) dX3_callFrom_27 (by decide) (by omega) (by omega) (fun h27 => ?_) (fun h27 => ?_)
  · refine mm_iconst dX3_callFrom_34 ?_
    first
      | rw [show iI 1 = iI hh from congrArg iI (by rw [hhw, if_pos (by omega)])]
      | rw [show iI 0 = iI hh from congrArg iI (by rw [hhw, if_neg (by omega)])]
    refine am_ist4 dX3_callFrom_35 (Nat.le_of_ble_eq_true rfl) (am_c1i _) ?_
    refine am_aload_n rfl dX3_callFrom_37 ?_
    refine am_aload_n rfl dX3_callFrom_38 ?_
    refine mm_getR dX3_callFrom_39 fl_X3_192 hr0 rfl ?_
    refine am_aload_n rfl dX3_callFrom_42 ?_
    refine mm_getR dX3_callFrom_43 fl_X3_51 jh.1 rfl ?_
    refine mm_getI dX3_callFrom_46 fl_X3_148 jh.2.2.2.2.2.1.1 rfl ?_
    rw [h941]
    refine mm_ial dX3_callFrom_49 hr2 (by omega) ?_
    rw [Int.toNat_natCast, eA]
    refine am_iload rfl dX3_callFrom_50 ?_
    refine am_aload_n rfl dX3_callFrom_52 ?_
    refine mm_getR dX3_callFrom_53 fl_X3_51 jh.1 rfl ?_
    refine am_iload_n rfl dX3_callFrom_56 ?_
    refine am_ci (mm_V1 dX3_callFrom_57 in_X8_kindOf mk_X3_195 im_X8_kindOf sl_X8_kindOf ⟨Nat.le_of_ble_eq_true rfl, Nat.le_of_ble_eq_true rfl⟩ rfl jh.2.2.2.2.2.1.1 (Nat.le_of_ble_eq_true rfl)) (c_kindOf jh.2.2.2.2.2.1 hsim.2.2.1 hv5) ?_
    refine am_aload_n rfl dX3_callFrom_60 ?_
    refine mm_getR dX3_callFrom_61 fl_X3_51 jh.1 rfl ?_
    refine am_iload_n rfl dX3_callFrom_64 ?_
    refine am_ci (mm_V1 dX3_callFrom_65 in_X8_stateOf mk_X3_199 im_X8_stateOf sl_X8_stateOf ⟨Nat.le_of_ble_eq_true rfl, Nat.le_of_ble_eq_true rfl⟩ rfl jh.2.2.2.2.2.1.1 (Nat.le_of_ble_eq_true rfl)) (c_stateOf jh.2.2.2.2.2.1 hsim.2.2.1 hv5) ?_
    refine am_cxI (mm_V4 dX3_callFrom_68 in_X3_caseFor mk_X3_66 im_X3_caseFor sl_X3_caseFor ⟨Nat.le_of_ble_eq_true rfl, Nat.le_of_ble_eq_true rfl⟩ rfl jh.1 (Nat.le_of_ble_eq_true rfl)) (c_caseFor (X := X) (F := F) (W := W) (r := mAa S (keyC S c).2.1 pl) (h := hh) (k := skO S 94 (mBb S (keyC S c).2.1 pl)) (s := ssO S 94 (mBb S (keyC S c).2.1 pl)) jh hpl hD hI hS hB hn (by omega) hhR (by omega) (by omega) (by omega) (by rw [hkk]; exact hkc) (by rw [hkk]; exact hX) hN8) (fun v M1 hq => ?_)
    obtain ⟨sh2, S2, L2, q1, q2, q3, m, rfl, hpo, hsz, hv⟩ := hq
    rw [hkk] at hv
    have h402 := hpo.2.2.1.2.2.1.1
    have hsz2 := hpo.2.2.1.1.1
    have hszg := hpo.2.1.2.2.1.1
    have hvr : -1 ≤ v ∧ v < 40 := by rcases hv with ⟨e, -⟩ | ⟨a, e1, e2, -⟩ <;> omega
    refine am_ist5 dX3_callFrom_71 (Nat.le_of_ble_eq_true rfl) (am_c1i _) ?_
    refine am_iload rfl dX3_callFrom_73 ?_
    refine mm_iconst dX3_callFrom_75 ?_
    refine mm_jne (tgt := 81) dX3_callFrom_76 (by decide) (by omega) (by omega) (fun h76 => ?_) (fun h76 => ?_)
    · obtain ⟨a, rfl, ha, hka⟩ : ∃ a : Nat, v = a ∧ (a : Int) < S2 85 1 ∧ keyC S2 a = clK S (keyC S c) pl R := by
        rcases hv with ⟨e, -⟩ | z
        · exfalso; omega
        · exact z
      have jh := jsH_of hpo.1.1 jh
      have hpl := hpo.1.2.1
      obtain ⟨⟨d1, d2, d3⟩, d4, -⟩ := id hpo.1.2.2.1
      refine am_aload_n rfl dX3_callFrom_81 ?_
      refine mm_getR dX3_callFrom_82 fl_X3_25 jh.1 rfl ?_
      refine mm_getR dX3_callFrom_85 fl_X3_202 hpl.1 rfl ?_
      refine am_iload_n rfl dX3_callFrom_88 ?_
      refine am_aload_n rfl dX3_callFrom_89 ?_
      refine mm_getR dX3_callFrom_90 fl_X3_31 jh.1 rfl ?_
      refine am_iload rfl dX3_callFrom_93 ?_
      refine mm_aal dX3_callFrom_95 (fun _ => rfl) jh.2.1 ⟨by omega, by omega, by omega⟩ (show caArr _ = some (98 + a) by rw [Int.toNat_natCast]; exact if_pos (by omega)) ?_
      refine mm_getI dX3_callFrom_96 fl_X3_205 (jh.2.2.2.2.2.2.1 a (by omega)) rfl ?_
      refine mm_ias dX3_callFrom_99 hpl.2.2.1 (by omega) ?_
      rw [Int.toNat_natCast]
      refine am_aload_n rfl dX3_callFrom_100 ?_
      refine mm_getR dX3_callFrom_101 fl_X3_31 jh.1 rfl ?_
      refine am_iload rfl dX3_callFrom_104 ?_
      refine mm_aal dX3_callFrom_106 (fun _ => rfl) jh.2.1 ⟨by omega, by omega, by omega⟩ (show caArr _ = some (98 + a) by rw [Int.toNat_natCast]; exact if_pos (by omega)) ?_
      refine am_iload_n rfl dX3_callFrom_107 ?_
      refine mm_putI dX3_callFrom_108 fp_X3_205 (jh.2.2.2.2.2.2.1 a (by omega)) rfl ?_
      refine am_iload rfl dX3_callFrom_111 ?_
      refine am_ireturn dX3_callFrom_113 rfl rfl ?_
      refine ⟨(a : Int), rfl, sh2, _, L2, q1, q2, q3, m, rfl, by rw [up2_rd (by omega), up2_rd (by omega)]; exact hsz, Or.inr ⟨a, S2, rfl, ha, hka, hpo, fun b y1 y2 => by rw [up2_row y2, up2_row y1], fun j hj => by rw [up2_rd (by omega), up2_rc hj], by rw [up2_rd (by omega), up2_same], fun j hj => by rw [up2_rc hj, up2_rd (by omega)], up2_same _ _ _ _⟩⟩
    · refine mm_iconst dX3_callFrom_79 ?_
      refine am_ireturn dX3_callFrom_80 rfl rfl ?_
      refine ⟨-1, rfl, sh2, S2, L2, q1, q2, q3, m, rfl, hsz, Or.inl ⟨rfl, ?_, hpo⟩⟩
      rcases hv with ⟨-, e⟩ | ⟨a, e1, -⟩
      · exact e
      · exfalso; omega
  · refine mm_iconst dX3_callFrom_30 ?_
    refine am_goto (tgt := 35) dX3_callFrom_31 (by decide) ?_
    first
      | rw [show iI 1 = iI hh from congrArg iI (by rw [hhw, if_pos (by omega)])]
      | rw [show iI 0 = iI hh from congrArg iI (by rw [hhw, if_neg (by omega)])]
    refine am_ist4 dX3_callFrom_35 (Nat.le_of_ble_eq_true rfl) (am_c1i _) ?_
    refine am_aload_n rfl dX3_callFrom_37 ?_
    refine am_aload_n rfl dX3_callFrom_38 ?_
    refine mm_getR dX3_callFrom_39 fl_X3_192 hr0 rfl ?_
    refine am_aload_n rfl dX3_callFrom_42 ?_
    refine mm_getR dX3_callFrom_43 fl_X3_51 jh.1 rfl ?_
    refine mm_getI dX3_callFrom_46 fl_X3_148 jh.2.2.2.2.2.1.1 rfl ?_
    rw [h941]
    refine mm_ial dX3_callFrom_49 hr2 (by omega) ?_
    rw [Int.toNat_natCast, eA]
    refine am_iload rfl dX3_callFrom_50 ?_
    refine am_aload_n rfl dX3_callFrom_52 ?_
    refine mm_getR dX3_callFrom_53 fl_X3_51 jh.1 rfl ?_
    refine am_iload_n rfl dX3_callFrom_56 ?_
    refine am_ci (mm_V1 dX3_callFrom_57 in_X8_kindOf mk_X3_195 im_X8_kindOf sl_X8_kindOf ⟨Nat.le_of_ble_eq_true rfl, Nat.le_of_ble_eq_true rfl⟩ rfl jh.2.2.2.2.2.1.1 (Nat.le_of_ble_eq_true rfl)) (c_kindOf jh.2.2.2.2.2.1 hsim.2.2.1 hv5) ?_
    refine am_aload_n rfl dX3_callFrom_60 ?_
    refine mm_getR dX3_callFrom_61 fl_X3_51 jh.1 rfl ?_
    refine am_iload_n rfl dX3_callFrom_64 ?_
    refine am_ci (mm_V1 dX3_callFrom_65 in_X8_stateOf mk_X3_199 im_X8_stateOf sl_X8_stateOf ⟨Nat.le_of_ble_eq_true rfl, Nat.le_of_ble_eq_true rfl⟩ rfl jh.2.2.2.2.2.1.1 (Nat.le_of_ble_eq_true rfl)) (c_stateOf jh.2.2.2.2.2.1 hsim.2.2.1 hv5) ?_
    refine am_cxI (mm_V4 dX3_callFrom_68 in_X3_caseFor mk_X3_66 im_X3_caseFor sl_X3_caseFor ⟨Nat.le_of_ble_eq_true rfl, Nat.le_of_ble_eq_true rfl⟩ rfl jh.1 (Nat.le_of_ble_eq_true rfl)) (c_caseFor (X := X) (F := F) (W := W) (r := mAa S (keyC S c).2.1 pl) (h := hh) (k := skO S 94 (mBb S (keyC S c).2.1 pl)) (s := ssO S 94 (mBb S (keyC S c).2.1 pl)) jh hpl hD hI hS hB hn (by omega) hhR (by omega) (by omega) (by omega) (by rw [hkk]; exact hkc) (by rw [hkk]; exact hX) hN8) (fun v M1 hq => ?_)
    obtain ⟨sh2, S2, L2, q1, q2, q3, m, rfl, hpo, hsz, hv⟩ := hq
    rw [hkk] at hv
    have h402 := hpo.2.2.1.2.2.1.1
    have hsz2 := hpo.2.2.1.1.1
    have hszg := hpo.2.1.2.2.1.1
    have hvr : -1 ≤ v ∧ v < 40 := by rcases hv with ⟨e, -⟩ | ⟨a, e1, e2, -⟩ <;> omega
    refine am_ist5 dX3_callFrom_71 (Nat.le_of_ble_eq_true rfl) (am_c1i _) ?_
    refine am_iload rfl dX3_callFrom_73 ?_
    refine mm_iconst dX3_callFrom_75 ?_
    refine mm_jne (tgt := 81) dX3_callFrom_76 (by decide) (by omega) (by omega) (fun h76 => ?_) (fun h76 => ?_)
    · obtain ⟨a, rfl, ha, hka⟩ : ∃ a : Nat, v = a ∧ (a : Int) < S2 85 1 ∧ keyC S2 a = clK S (keyC S c) pl R := by
        rcases hv with ⟨e, -⟩ | z
        · exfalso; omega
        · exact z
      have jh := jsH_of hpo.1.1 jh
      have hpl := hpo.1.2.1
      obtain ⟨⟨d1, d2, d3⟩, d4, -⟩ := id hpo.1.2.2.1
      refine am_aload_n rfl dX3_callFrom_81 ?_
      refine mm_getR dX3_callFrom_82 fl_X3_25 jh.1 rfl ?_
      refine mm_getR dX3_callFrom_85 fl_X3_202 hpl.1 rfl ?_
      refine am_iload_n rfl dX3_callFrom_88 ?_
      refine am_aload_n rfl dX3_callFrom_89 ?_
      refine mm_getR dX3_callFrom_90 fl_X3_31 jh.1 rfl ?_
      refine am_iload rfl dX3_callFrom_93 ?_
      refine mm_aal dX3_callFrom_95 (fun _ => rfl) jh.2.1 ⟨by omega, by omega, by omega⟩ (show caArr _ = some (98 + a) by rw [Int.toNat_natCast]; exact if_pos (by omega)) ?_
      refine mm_getI dX3_callFrom_96 fl_X3_205 (jh.2.2.2.2.2.2.1 a (by omega)) rfl ?_
      refine mm_ias dX3_callFrom_99 hpl.2.2.1 (by omega) ?_
      rw [Int.toNat_natCast]
      refine am_aload_n rfl dX3_callFrom_100 ?_
      refine mm_getR dX3_callFrom_101 fl_X3_31 jh.1 rfl ?_
      refine am_iload rfl dX3_callFrom_104 ?_
      refine mm_aal dX3_callFrom_106 (fun _ => rfl) jh.2.1 ⟨by omega, by omega, by omega⟩ (show caArr _ = some (98 + a) by rw [Int.toNat_natCast]; exact if_pos (by omega)) ?_
      refine am_iload_n rfl dX3_callFrom_107 ?_
      refine mm_putI dX3_callFrom_108 fp_X3_205 (jh.2.2.2.2.2.2.1 a (by omega)) rfl ?_
      refine am_iload rfl dX3_callFrom_111 ?_
      refine am_ireturn dX3_callFrom_113 rfl rfl ?_
      refine ⟨(a : Int), rfl, sh2, _, L2, q1, q2, q3, m, rfl, by rw [up2_rd (by omega), up2_rd (by omega)]; exact hsz, Or.inr ⟨a, S2, rfl, ha, hka, hpo, fun b y1 y2 => by rw [up2_row y2, up2_row y1], fun j hj => by rw [up2_rd (by omega), up2_rc hj], by rw [up2_rd (by omega), up2_same], fun j hj => by rw [up2_rc hj, up2_rd (by omega)], up2_same _ _ _ _⟩⟩
    · refine mm_iconst dX3_callFrom_79 ?_
      refine am_ireturn dX3_callFrom_80 rfl rfl ?_
      refine ⟨-1, rfl, sh2, S2, L2, q1, q2, q3, m, rfl, hsz, Or.inl ⟨rfl, ?_, hpo⟩⟩
      rcases hv with ⟨-, e⟩ | ⟨a, e1, -⟩
      · exact e
      · exfalso; omega
