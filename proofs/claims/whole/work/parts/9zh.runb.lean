/-! ===== the class's runs: leaves, and the way back ===== -/
set_option maxRecDepth 100000 in
set_option maxHeartbeats 4000000 in
theorem c_endAt {sh : List mm_H} {S : mm_S} {L : mm_L} (rh : rnH sh) {r p e : Int} : am_E eX7_endAt [.ref 138, .int (iI r), .int (iI p), .int (iI e)] (mm sh S L) (fun r0 M' => r0 = some (.int (iI e)) ∧ M' = mm sh (up2 (up2 S 138 0 r) 138 1 p) L) := by
  refine am_enter rfl rfl (Nat.le_of_ble_eq_true rfl) ?_
  refine am_aload_n rfl dX7_endAt_0 ?_
  refine am_iload_n rfl dX7_endAt_1 ?_
  refine mm_putI dX7_endAt_2 fp_X7_9 rh.1 rfl ?_
  refine am_aload_n rfl dX7_endAt_5 ?_
  refine am_iload_n rfl dX7_endAt_6 ?_
  refine mm_putI dX7_endAt_7 fp_X7_15 rh.1 rfl ?_
  refine am_iload_n rfl dX7_endAt_10 ?_
  refine am_ireturn dX7_endAt_11 rfl rfl ?_
  exact ⟨rfl, rfl⟩
/-- the ANSWER of this number is yes -/
def ansA (x : Int64) (n i : Int) : Prop := i < n ∧ bitA x i.toNat
set_option maxRecDepth 100000 in
set_option maxHeartbeats 4000000 in
theorem c_nextAnswer {sh : List mm_H} {S : mm_S} {L : mm_L} (rh : rnH sh) {i : Nat} (hi : S 138 2 = (i : Int)) (hi5 : i < 100000) {n : Int} (hn : S 138 7 = n) (hn6 : 0 ≤ n ∧ n ≤ 60) : am_E eX7_nextAnswer [.ref 138] (mm sh S L) (fun r0 M' => ∃ v, r0 = some (.int (iI v)) ∧ tells v (ansA (L 138 6) n (i : Int)) ∧ M' = mm sh (up2 S 138 2 ((i : Int) + 1)) L) := by
  refine am_enter rfl rfl (Nat.le_of_ble_eq_true rfl) ?_
  refine am_aload_n rfl dX7_nextAnswer_0 ?_
  refine am_dup rfl dX7_nextAnswer_1 ?_
  refine mm_getI dX7_nextAnswer_2 fl_X7_18 rh.1 rfl ?_
  rw [hi]
  refine am_dup_x1 rfl rfl dX7_nextAnswer_5 ?_
  refine mm_iconst dX7_nextAnswer_6 ?_
  refine mm_iadd dX7_nextAnswer_7 ?_
  refine mm_putI dX7_nextAnswer_8 fp_X7_18 rh.1 rfl ?_
  refine am_ist1 dX7_nextAnswer_11 (Nat.le_of_ble_eq_true rfl) (am_c1r _) ?_
  refine am_iload_n rfl dX7_nextAnswer_12 ?_
  refine am_aload_n rfl dX7_nextAnswer_13 ?_
  refine mm_getI dX7_nextAnswer_14 fl_X7_34 rh.1 rfl ?_
  rw [up2_rc (by omega), hn]
  refine mm_jge (tgt := 37) dX7_nextAnswer_17 (by decide) (by omega) (by omega) (fun h17 => ?_) (fun h17 => ?_)
  · refine mm_iconst dX7_nextAnswer_37 ?_
    refine am_ireturn dX7_nextAnswer_38 rfl (by decide) ?_
    first
      | exact ⟨1, rfl, Or.inl ⟨rfl, by omega, by
          have hne : (((L 138 6).toUInt64 >>> ((iI (i : Int)).toInt64.toUInt64 &&& Int64.toUInt64 63)).toInt64 &&& lI 1).toBitVec.toNat ≠ 0 := fun q => h30 (hz0.mpr (bA_z.mp q))
          unfold bitA
          rw [Int.toNat_natCast]
          omega⟩, rfl⟩
      | exact ⟨0, rfl, Or.inr ⟨rfl, fun q => by
          have q1 := q.2
          unfold bitA at q1
          rw [Int.toNat_natCast] at q1
          have := bA_z.mpr (hz0.mp h30)
          omega⟩, rfl⟩
      | exact ⟨0, rfl, Or.inr ⟨rfl, fun q => by have := q.1; omega⟩, rfl⟩
  · refine am_aload_n rfl dX7_nextAnswer_20 ?_
    refine mm_getL dX7_nextAnswer_21 fl_X7_30 rh.1 rfl ?_
    refine am_iload_n rfl dX7_nextAnswer_24 ?_
    refine am_lushr dX7_nextAnswer_25 ?_
    refine am_lconst (v := lI 1) (by decide) dX7_nextAnswer_26 ?_
    refine am_land dX7_nextAnswer_27 ?_
    refine am_lconst (v := lI 0) (by decide) dX7_nextAnswer_28 ?_
    refine am_lcmp dX7_nextAnswer_29 ?_
    obtain ⟨z, hz, hzr, hz0⟩ := lcmp_z (((L 138 6).toUInt64 >>> ((iI (i : Int)).toInt64.toUInt64 &&& Int64.toUInt64 63)).toInt64 &&& lI 1) (lI 0)
    rw [hz]
    have hbu := bA_u (x := L 138 6) (i := i) (by omega)
    refine mm_zeq (tgt := 37) dX7_nextAnswer_30 (by decide) (by omega) (fun h30 => ?_) (fun h30 => ?_)
    · refine mm_iconst dX7_nextAnswer_37 ?_
      refine am_ireturn dX7_nextAnswer_38 rfl (by decide) ?_
      first
        | exact ⟨1, rfl, Or.inl ⟨rfl, by omega, by
            have hne : (((L 138 6).toUInt64 >>> ((iI (i : Int)).toInt64.toUInt64 &&& Int64.toUInt64 63)).toInt64 &&& lI 1).toBitVec.toNat ≠ 0 := fun q => h30 (hz0.mpr (bA_z.mp q))
            unfold bitA
            rw [Int.toNat_natCast]
            omega⟩, rfl⟩
        | exact ⟨0, rfl, Or.inr ⟨rfl, fun q => by
            have q1 := q.2
            unfold bitA at q1
            rw [Int.toNat_natCast] at q1
            have := bA_z.mpr (hz0.mp h30)
            omega⟩, rfl⟩
        | exact ⟨0, rfl, Or.inr ⟨rfl, fun q => by have := q.1; omega⟩, rfl⟩
    · refine mm_iconst dX7_nextAnswer_33 ?_
      refine am_goto (tgt := 38) dX7_nextAnswer_34 (by decide) ?_
      refine am_ireturn dX7_nextAnswer_38 rfl (by decide) ?_
      first
        | exact ⟨1, rfl, Or.inl ⟨rfl, by omega, by
            have hne : (((L 138 6).toUInt64 >>> ((iI (i : Int)).toInt64.toUInt64 &&& Int64.toUInt64 63)).toInt64 &&& lI 1).toBitVec.toNat ≠ 0 := fun q => h30 (hz0.mpr (bA_z.mp q))
            unfold bitA
            rw [Int.toNat_natCast]
            omega⟩, rfl⟩
        | exact ⟨0, rfl, Or.inr ⟨rfl, fun q => by
            have q1 := q.2
            unfold bitA at q1
            rw [Int.toNat_natCast] at q1
            have := bA_z.mpr (hz0.mp h30)
            omega⟩, rfl⟩
        | exact ⟨0, rfl, Or.inr ⟨rfl, fun q => by have := q.1; omega⟩, rfl⟩
set_option maxRecDepth 100000 in
set_option maxHeartbeats 4000000 in
theorem c_openRoutine {sh : List mm_H} {S : mm_S} {L : mm_L} (rh : rnH sh) {k0 : Nat} (hd : S 138 5 = (k0 : Int)) (hk0 : k0 < 10) (h4 : Rg (S 138 4)) {r h k s : Int} (hh : 0 ≤ h ∧ h ≤ 2) : am_E eX7_openRoutine [.ref 138, .int (iI r), .int (iI h), .int (iI k), .int (iI s)] (mm sh S L) (fun r0 M' => r0 = none ∧ M' = mm sh (up2 (up2 (bgS S (140 + 4 * k0) r h k s) 138 5 ((k0 : Int) + 1)) 138 4 (maxI (S 138 4) ((k0 : Int) + 1))) L) := by
  have hsc := rh.2.2 k0 hk0
  refine am_enter rfl rfl (Nat.le_of_ble_eq_true rfl) ?_
  refine am_aload_n rfl dX7_openRoutine_0 ?_
  refine mm_getI dX7_openRoutine_1 fl_X7_27 rh.1 rfl ?_
  rw [hd]
  refine mm_bipush dX7_openRoutine_4 (by decide) ?_
  refine mm_jlt (tgt := 10) dX7_openRoutine_6 (by decide) (by omega) (by omega) (fun h6 => ?_) (fun h6 => ?_)
  · refine am_aload_n rfl dX7_openRoutine_10 ?_
    refine mm_getR dX7_openRoutine_11 fl_X7_39 rh.1 rfl ?_
    refine am_aload_n rfl dX7_openRoutine_14 ?_
    refine mm_getI dX7_openRoutine_15 fl_X7_27 rh.1 rfl ?_
    rw [hd]
    refine mm_aal dX7_openRoutine_18 (fun _ => rfl) rh.2.1 ⟨by omega, by omega, by omega⟩ (show rnArr _ = some (140 + 4 * k0) by rw [Int.toNat_natCast]; exact if_pos (by omega)) ?_
    refine am_iload_n rfl dX7_openRoutine_19 ?_
    refine am_iload_n rfl dX7_openRoutine_20 ?_
    refine am_iload_n rfl dX7_openRoutine_21 ?_
    refine am_iload rfl dX7_openRoutine_22 ?_
    refine am_cv (mm_V4 dX7_openRoutine_24 in_X8_begin mk_X7_52 im_X8_begin sl_X8_begin ⟨Nat.le_of_ble_eq_true rfl, Nat.le_of_ble_eq_true rfl⟩ rfl hsc.1 (Nat.le_of_ble_eq_true rfl)) (c_scBegin hsc hh) ?_
    have e138 : bgS S (140 + 4 * k0) r h k s 138 = S 138 := bg_F 138 (by omega)
    generalize bgS S (140 + 4 * k0) r h k s = S1 at *
    refine am_aload_n rfl dX7_openRoutine_27 ?_
    refine am_dup rfl dX7_openRoutine_28 ?_
    refine mm_getI dX7_openRoutine_29 fl_X7_27 rh.1 rfl ?_
    rw [e138, hd]
    refine mm_iconst dX7_openRoutine_32 ?_
    refine mm_iadd dX7_openRoutine_33 ?_
    refine mm_putI dX7_openRoutine_34 fp_X7_27 rh.1 rfl ?_
    refine am_aload_n rfl dX7_openRoutine_37 ?_
    refine am_aload_n rfl dX7_openRoutine_38 ?_
    refine mm_getI dX7_openRoutine_39 fl_X7_24 rh.1 rfl ?_
    rw [up2_rc (by omega), e138]
    refine am_aload_n rfl dX7_openRoutine_42 ?_
    refine mm_getI dX7_openRoutine_43 fl_X7_27 rh.1 rfl ?_
    rw [up2_same]
    refine mm_max dX7_openRoutine_46 mk_X7_55 (by omega) (by omega) (Nat.le_of_ble_eq_true rfl) (Nat.le_of_ble_eq_true rfl) ?_
    refine mm_putI dX7_openRoutine_49 fp_X7_24 rh.1 rfl ?_
    refine am_return dX7_openRoutine_52 rfl ?_
    exact ⟨rfl, rfl⟩
  · exfalso; omega
theorem en_up {S0 S : mm_S} {n : Int} {r p : Int} (h1 : rnF S0 S) (h2 : scA S) (h3 : S 138 7 = n) {e : aEn} (e0 : e.2.1 = r) (e1 : e.2.2.1 = p) (e2 : S 138 2 = e.2.2.2.1) (e3 : S 138 3 = e.2.2.2.2.1) (e4 : S 138 4 = e.2.2.2.2.2) : enS S0 (up2 (up2 S 138 0 r) 138 1 p) n e := by
  refine ⟨fun b hb => by rw [up2_row (by omega), up2_row (by omega)]; exact h1 b hb, sa_up (sa_up h2), by rw [up2_rc (by omega), up2_rc (by omega)]; exact h3, by rw [up2_rc (by omega), up2_same]; exact e0.symm, by rw [up2_same]; exact e1.symm, by rw [up2_rc (by omega), up2_rc (by omega)]; exact e2, by rw [up2_rc (by omega), up2_rc (by omega)]; exact e3, by rw [up2_rc (by omega), up2_rc (by omega)]; exact e4⟩
set_option maxRecDepth 100000 in
set_option maxHeartbeats 4000000 in
theorem l_goBack {sh : List mm_H} {L : mm_L} (rh : rnH sh) (hb : bkS sh) {S0 : mm_S} (hB : cbB S0) {A : Int → Prop} {n : Int} {fl as dn ms : Int} : ∀ (q : Nat) (f : Fr) (t : List Fr) (S : mm_S) (lf : Int) (l4 l5 : Option Value), t.length < q → (crS S0 S n (f :: t, fl, as, dn, ms)) → (fl = 1 ∨ f.2.1 = mN S0 f.1.2.1) → ((t.length : Int) + 1 ≤ lf ∧ lf ≤ 10) → am_AW eX7_goBack (mm sh S L) 3 [some (.ref 138), some (.ref 1), some (.int (iI (b2 (fl = 1)))), some (.int (iI lf)), l4, l5] [] (fun r0 M' => ∃ v, r0 = some (.int (iI v)) ∧ ∃ S', M' = mm sh S' L ∧ ((v = -1 ∧ ∃ s : aSt, crS S0 S' n s ∧ s.2.1 = 0 ∧ s.1.length ≤ t.length ∧ s.2.2 = (as, dn, ms) ∧ ∀ e, abRes S0 A s e → abRes S0 A (f :: t, fl, as, dn, ms) e) ∨ (0 ≤ v ∧ ∃ e : aEn, e.1 = v ∧ abRes S0 A (f :: t, fl, as, dn, ms) e ∧ enS S0 S' n e))) := by
  intro q
  induction q with
  | zero =>
    intro f t S lf l4 l5 hq
    exact absurd hq (Nat.not_lt_zero _)
  | succ q ih =>
    intro f t S lf l4 l5 hq' hcr hrt hlf
    obtain ⟨hrn, hok, hcl, ⟨c5, c2, c3, c4⟩, hsa, c7⟩ := id hcr
    obtain ⟨hky, hBS, hr6, ⟨hpl, hN24, hNl⟩, hNe⟩ := cr_ro hB hcr
    have hsim := cr_sim hcr
    have hlen := hok.2.1
    simp only [List.length_cons] at hlen c5
    have hsc := rh.2.2 t.length (by omega)
    have hK := sim_K hBS.2.2.1 hBS.2.2.2 hsim
    have hlv := sim_lvs hBS.2.2.1 hBS.2.2.2 hsim
    have h940 := hsim.2.2.2.2
    have hbe := rn_E hrn
    have hlm : lvM S f.2.2 = lvM S0 f.2.2 := bk_lv hbe f.2.2
    obtain ⟨hB1, hB2, hB3, hB4, hB5⟩ := id hb
    obtain ⟨hr0, -⟩ := hB5 f.1.2.1 hr6
    refine am_iload_n rfl dX7_goBack_3 ?_
    refine mm_zle (tgt := 129) dX7_goBack_4 (by decide) (by omega) (fun h4 => ?_) (fun h4 => ?_)
    · exfalso; omega
    · refine am_aload_n rfl dX7_goBack_7 ?_
      refine mm_getR dX7_goBack_8 fl_X7_39 rh.1 rfl ?_
      refine am_aload_n rfl dX7_goBack_11 ?_
      refine mm_getI dX7_goBack_12 fl_X7_27 rh.1 rfl ?_
      refine mm_iconst dX7_goBack_15 ?_
      refine mm_isub dX7_goBack_16 ?_
      rw [show S 138 5 - 1 = (t.length : Int) by omega]
      refine mm_aal dX7_goBack_17 (fun _ => rfl) rh.2.1 ⟨by omega, by omega, by omega⟩ (show rnArr _ = some (140 + 4 * t.length) by rw [Int.toNat_natCast]; exact if_pos (by omega)) ?_
      refine am_ast4 dX7_goBack_18 (Nat.le_of_ble_eq_true rfl) (am_c1i _) ?_
      refine am_aload_n rfl dX7_goBack_20 ?_
      refine mm_getR dX7_goBack_21 fl_X7_61 hB1 rfl ?_
      refine am_aload rfl dX7_goBack_24 ?_
      refine mm_getI dX7_goBack_26 fl_X7_67 hsc.1 rfl ?_
      refine mm_aal dX7_goBack_29 (fun _ => rfl) hB3 ⟨by omega, by omega, by omega⟩ (show rArr _ = some (22 + 10 * f.1.2.1) by rw [h940, Int.toNat_natCast]; exact rArr_at hr6) ?_
      refine mm_getI dX7_goBack_30 fl_X7_73 hr0 rfl ?_
      rw [← hNl, hNe]
      refine am_ist5 dX7_goBack_33 (Nat.le_of_ble_eq_true rfl) (am_c1r _) ?_
      refine am_aload rfl dX7_goBack_35 ?_
      refine am_aload_n rfl dX7_goBack_37 ?_
      refine am_ci (mm_V1 dX7_goBack_38 in_X8_leavesThings mk_X7_126 im_X8_leavesThings sl_X8_leavesThings ⟨Nat.le_of_ble_eq_true rfl, Nat.le_of_ble_eq_true rfl⟩ rfl hsc.1 (Nat.le_of_ble_eq_true rfl)) (c_leaves hsc hsim.2.2.1 hK hb hBS.1) ?_
      refine mm_beq (tgt := 57) dX7_goBack_41 (by decide) (fun h41 => ?_) (fun h41 => ?_)
      · have hnl : ¬ lvM S0 f.2.2 := fun q => h41 (hlv.mpr (by rw [hlm]; exact q))
        refine am_aload_n rfl dX7_goBack_57 ?_
        refine mm_getI dX7_goBack_58 fl_X7_27 rh.1 rfl ?_
        refine mm_iconst dX7_goBack_61 ?_
        refine mm_jne (tgt := 87) dX7_goBack_62 (by decide) (by omega) (by omega) (fun h62 => ?_) (fun h62 => ?_)
        · obtain ⟨g, u, rfl⟩ : ∃ g u, t = g :: u := by
            cases t with
            | nil => exfalso; simp only [List.length_nil] at c5; omega
            | cons g u => exact ⟨g, u, rfl⟩
          simp only [List.length_cons] at hlen c5 hlf hsc hsim
          refine am_aload_n rfl dX7_goBack_87 ?_
          refine am_dup rfl dX7_goBack_88 ?_
          refine mm_getI dX7_goBack_89 fl_X7_27 rh.1 rfl ?_
          refine mm_iconst dX7_goBack_92 ?_
          refine mm_isub dX7_goBack_93 ?_
          rw [show S 138 5 - 1 = (u.length : Int) + 1 by omega]
          refine mm_putI dX7_goBack_94 fp_X7_27 rh.1 rfl ?_
          obtain ⟨S1, hS1⟩ : ∃ S1, up2 S 138 5 ((u.length : Int) + 1) = S1 := ⟨_, rfl⟩
          have er : ∀ b, b ≠ 138 → S1 b = S b := fun b hb => by rw [← hS1, up2_row hb]
          have ec : ∀ j, j ≠ 5 → S1 138 j = S 138 j := fun j hj => by rw [← hS1, up2_rc hj]
          have ec5 : S1 138 5 = (u.length : Int) + 1 := by rw [← hS1, up2_same]
          rw [hS1]
          have hcr1 : crS S0 S1 n (g :: u, 0, as, dn, ms) := ⟨fun b hb => (er b (by omega)).trans (hrn b hb), ⟨hok.1.2.2.2, by simp only [List.length_cons]; omega, Or.inl rfl, hok.2.2.2.1, hok.2.2.2.2⟩, cl_of (g :: u) (fun b x _ => er b (by omega)) hcl.2, ⟨by rw [ec5]; simp only [List.length_cons]; omega, by rw [ec 2 (by omega)]; exact c2, by rw [ec 3 (by omega)]; exact c3, by rw [ec 4 (by omega)]; exact c4⟩, by rw [← hS1]; exact sa_up hsa, by rw [ec 7 (by omega)]; exact c7⟩
          have hq := ok_q hB.2.2.2.1 hok.1
          obtain ⟨gky, gBS, gr6, ⟨gpl, gN24, gNl⟩, gNe⟩ := cr_ro hB hcr1
          have gsim := cr_sim hcr1
          have hsg := rh.2.2 u.length (by omega)
          have gK := sim_K gBS.2.2.1 gBS.2.2.2 gsim
          have gbe := rn_E hcr1.1
          have gro := cb_ro gBS gky.2.1
          have g940 := gsim.2.2.2.2
          have g941 := gsim.2.2.2.1
          have gp : g.2.1 < mN S1 g.1.2.1 := by rw [gNe]; exact hq.1.1
          have gx : mSo S1 g.1.2.1 g.2.1 = 10 ∨ mSo S1 g.1.2.1 g.2.1 = 11 := by rw [bk_So gbe]; exact hq.1.2.1
          have gw : wrR S1 g.1 g.2.1 g.2.2 = 0 := by rw [bk_wr gbe]; exact hq.1.2.2
          have get1 := sim_et hsim
          have hst : S1 (140 + 4 * (u.length + 1) + 3) 5 = etR f.1 f.2.2 := by rw [er _ (by omega)]; exact get1
          refine am_aload_n rfl dX7_goBack_97 ?_
          refine mm_getR dX7_goBack_98 fl_X7_39 rh.1 rfl ?_
          refine am_aload_n rfl dX7_goBack_101 ?_
          refine mm_getI dX7_goBack_102 fl_X7_27 rh.1 rfl ?_
          rw [ec5]
          refine mm_iconst dX7_goBack_105 ?_
          refine mm_isub dX7_goBack_106 ?_
          rw [show (u.length : Int) + 1 - 1 = (u.length : Int) by omega]
          refine mm_aal dX7_goBack_107 (fun _ => rfl) rh.2.1 ⟨by omega, by omega, by omega⟩ (show rnArr _ = some (140 + 4 * u.length) by rw [Int.toNat_natCast]; exact if_pos (by omega)) ?_
          refine am_aload_n rfl dX7_goBack_108 ?_
          refine am_iload_n rfl dX7_goBack_109 ?_
          refine am_aload rfl dX7_goBack_110 ?_
          refine am_ci (mm_V0 dX7_goBack_112 in_X8_stateOfLent mk_X7_129 im_X8_stateOfLent sl_X8_stateOfLent ⟨Nat.le_of_ble_eq_true rfl, Nat.le_of_ble_eq_true rfl⟩ rfl hsc.1 (Nat.le_of_ble_eq_true rfl)) (c_stateOfLent (a := 140 + 4 * (u.length + 1)) hsc) ?_
          rw [hst]
          refine am_civ (mm_V3 dX7_goBack_115 in_X8_comeBack mk_X7_133 im_X8_comeBack sl_X8_comeBack ⟨Nat.le_of_ble_eq_true rfl, Nat.le_of_ble_eq_true rfl⟩ rfl hsg.1 (Nat.le_of_ble_eq_true rfl)) (c_comeBack (ro := 22 + 10 * g.1.2.1) (f := fl = 1) (q := etR f.1 f.2.2) hsg gsim.2.2.1 gK hb gBS.1 (by rw [g940, Int.toNat_natCast]) gro.1 gro.2.1 (by omega) gro.2.2.1 (by omega) (by rw [g941, Int.toNat_natCast, (br_rt gBS.2.2.1 gky.2.1).2 g.2.1 gp |>.1]; exact gx)) ?_
          have hst2 := sim_cb (f := fl = 1) (q := etR f.1 f.2.2) gBS.2.2.1 gBS.2.2.2 gky gro.2.2.2.1 (by omega) gsim gp gx gw (by rw [bk_So gbe, bk_Bb gbe, gbe.1 182 (by omega) (by omega)]; exact hq.2)
          rw [bk_cd gbe] at hst2
          have hab := ab_back (A := A) (g := g) (u := u) (as := as) (dn := dn) (ms := ms) hrt hnl
          have hfl : fl ≠ 1 → (cbR S0 g.1 g.2.1 g.2.2 (fl = 1) (etR f.1 f.2.2)).1 = 1 := fun q => by unfold cbR; rw [if_neg q]
          generalize cbP S1 (140 + 4 * u.length) (22 + 10 * g.1.2.1) (fl = 1) (etR f.1 f.2.2) = gg at *
          generalize hz : cbR S0 g.1 g.2.1 g.2.2 (fl = 1) (etR f.1 f.2.2) = zz at *
          have hg1 := hst2.1
          have h01 := hst2.2.1
          have hF2 := hst2.2.2.1
          have hcl2 := cl_st hst2 g940 hcr1.2.2.1.2
          have hit2 := hst2.2.2.2.2.1
          have hz0 := hit2.2.1.1
          have hcr2 : ∀ fl', (fl' = 0 ∨ fl' = 1) → crS S0 gg.2 n ((g.1, zz.2.1.toNat, zz.2.2) :: u, fl', as, dn, ms) := fun fl' hf' => ⟨fun b hb => (hF2 b (by omega)).trans (hcr1.1 b hb), ⟨⟨by show itV S0 g.1 ((zz.2.1.toNat : Nat) : Int) zz.2.2; rw [show ((zz.2.1.toNat : Nat) : Int) = zz.2.1 by omega]; exact itV_of ⟨fun b x y => (gbe.1 b x y).symm, gbe.2.1.symm, gbe.2.2.symm⟩ hit2, hok.1.2.2.2.2.1, hok.1.2.2.2.2.2.1, hok.1.2.2.2.2.2.2⟩, by simp only [List.length_cons]; omega, hf', hok.2.2.2.1, hok.2.2.2.2⟩, hcl2, ⟨by rw [hF2 138 (by omega)]; exact hcr1.2.2.2.1.1, by rw [hF2 138 (by omega)]; exact hcr1.2.2.2.1.2.1, by rw [hF2 138 (by omega)]; exact hcr1.2.2.2.1.2.2.1, by rw [hF2 138 (by omega)]; exact hcr1.2.2.2.1.2.2.2⟩, sa_of hcr1.2.2.2.2.1 hF2 hst2.2.2.2.2.2.1, by rw [hF2 138 (by omega)]; exact hcr1.2.2.2.2.2⟩
          refine mm_zeq (tgt := 123) dX7_goBack_118 (by decide) (by omega) (fun h118 => ?_) (fun h118 => ?_)
          · refine mm_inc3 dX7_goBack_123 (Nat.le_of_ble_eq_true rfl) (am_c1i _) ?_
            refine am_goto (tgt := 3) dX7_goBack_126 (by decide) ?_
            have e0 : zz.1 = 0 := by omega
            have hf1 : fl = 1 := Classical.byContradiction (fun q => by have := hfl q; omega)
            rw [e0] at hab
            have h9 := ih (g.1, zz.2.1.toNat, zz.2.2) u gg.2 (lf + -1) (some (.ref (140 + 4 * (u.length + 1)))) (some (.int (iI (mN S0 f.1.2.1 : Int)))) (by simp only [List.length_cons] at hq'; omega) (hcr2 fl (Or.inr hf1)) (Or.inl hf1) (by omega)
            refine am_AW.mono h9 (fun r0 M' z => ?_)
            obtain ⟨v, z1, S', z2, z3⟩ := z
            refine ⟨v, z1, S', z2, ?_⟩
            rw [show (1 : Int) - 0 = fl by omega] at hab
            rcases z3 with ⟨y1, s, y2, y3, y4, y5, y6⟩ | ⟨y1, e, y2, y3, y4⟩
            · exact Or.inl ⟨y1, s, y2, y3, by simp only [List.length_cons]; omega, y5, fun e he => abr_s hab (y6 e he)⟩
            · exact Or.inr ⟨y1, e, y2, abr_s hab y3, y4⟩
          · refine mm_iconst dX7_goBack_121 ?_
            refine am_ireturn dX7_goBack_122 rfl rfl ?_
            have e1 : zz.1 = 1 := by omega
            rw [e1] at hab
            exact ⟨-1, rfl, gg.2, rfl, Or.inl ⟨rfl, ((g.1, zz.2.1.toNat, zz.2.2) :: u, 0, as, dn, ms), hcr2 0 (Or.inl rfl), rfl, by simp only [List.length_cons]; omega, rfl, fun e he => abr_s hab he⟩⟩
        · have ht0 : t = [] := List.length_eq_zero_iff.mp (by omega)
          subst ht0
          refine am_aload_n rfl dX7_goBack_65 ?_
          refine am_aload rfl dX7_goBack_66 ?_
          refine mm_getI dX7_goBack_68 fl_X7_67 hsc.1 rfl ?_
          rw [h940]
          refine am_iload rfl dX7_goBack_71 ?_
          refine am_iload_n rfl dX7_goBack_73 ?_
          refine mm_beq (tgt := 82) dX7_goBack_74 (by decide) (fun h74 => ?_) (fun h74 => ?_)
          · refine mm_iconst dX7_goBack_82 ?_
            refine am_civ (mm_V3 dX7_goBack_83 in_X7_endAt mk_X7_82 im_X7_endAt sl_X7_endAt ⟨Nat.le_of_ble_eq_true rfl, Nat.le_of_ble_eq_true rfl⟩ rfl rh.1 (Nat.le_of_ble_eq_true rfl)) (c_endAt (S := S) rh) ?_
            refine am_ireturn dX7_goBack_86 rfl rfl ?_
            first
              | exact ⟨6, rfl, _, rfl, Or.inr ⟨by omega, (6, (f.1.2.1 : Int), (mN S0 f.1.2.1 : Int), as, dn, ms), rfl, abr_e (by rw [ab_over hrt hnl, if_pos h74]), en_up hrn hsa c7 rfl rfl c2 c3 c4⟩⟩
              | exact ⟨0, rfl, _, rfl, Or.inr ⟨by omega, (0, (f.1.2.1 : Int), (mN S0 f.1.2.1 : Int), as, dn, ms), rfl, abr_e (by rw [ab_over hrt hnl, if_neg h74]), en_up hrn hsa c7 rfl rfl c2 c3 c4⟩⟩
          · refine mm_bipush dX7_goBack_77 (by decide) ?_
            refine am_goto (tgt := 83) dX7_goBack_79 (by decide) ?_
            refine am_civ (mm_V3 dX7_goBack_83 in_X7_endAt mk_X7_82 im_X7_endAt sl_X7_endAt ⟨Nat.le_of_ble_eq_true rfl, Nat.le_of_ble_eq_true rfl⟩ rfl rh.1 (Nat.le_of_ble_eq_true rfl)) (c_endAt (S := S) rh) ?_
            refine am_ireturn dX7_goBack_86 rfl rfl ?_
            first
              | exact ⟨6, rfl, _, rfl, Or.inr ⟨by omega, (6, (f.1.2.1 : Int), (mN S0 f.1.2.1 : Int), as, dn, ms), rfl, abr_e (by rw [ab_over hrt hnl, if_pos h74]), en_up hrn hsa c7 rfl rfl c2 c3 c4⟩⟩
              | exact ⟨0, rfl, _, rfl, Or.inr ⟨by omega, (0, (f.1.2.1 : Int), (mN S0 f.1.2.1 : Int), as, dn, ms), rfl, abr_e (by rw [ab_over hrt hnl, if_neg h74]), en_up hrn hsa c7 rfl rfl c2 c3 c4⟩⟩
      · refine am_aload_n rfl dX7_goBack_44 ?_
        refine am_aload rfl dX7_goBack_45 ?_
        refine mm_getI dX7_goBack_47 fl_X7_67 hsc.1 rfl ?_
        rw [h940]
        refine am_iload rfl dX7_goBack_50 ?_
        refine mm_iconst dX7_goBack_52 ?_
        refine am_civ (mm_V3 dX7_goBack_53 in_X7_endAt mk_X7_82 im_X7_endAt sl_X7_endAt ⟨Nat.le_of_ble_eq_true rfl, Nat.le_of_ble_eq_true rfl⟩ rfl rh.1 (Nat.le_of_ble_eq_true rfl)) (c_endAt (S := S) rh) ?_
        refine am_ireturn dX7_goBack_56 rfl rfl ?_
        exact ⟨5, rfl, _, rfl, Or.inr ⟨by omega, (5, (f.1.2.1 : Int), (mN S0 f.1.2.1 : Int), as, dn, ms), rfl, abr_e (ab_left hrt (by rw [← hlm]; exact hlv.mp h41)), en_up hrn hsa c7 rfl rfl c2 c3 c4⟩⟩
set_option maxRecDepth 100000 in
set_option maxHeartbeats 4000000 in
theorem c_goBack {sh : List mm_H} {L : mm_L} (rh : rnH sh) (hb : bkS sh) {S0 : mm_S} (hB : cbB S0) {A : Int → Prop} {n : Int} {fl as dn ms : Int} {f : Fr} {t : List Fr} {S : mm_S} (hcr : crS S0 S n (f :: t, fl, as, dn, ms)) (hrt : fl = 1 ∨ f.2.1 = mN S0 f.1.2.1) : am_E eX7_goBack [.ref 138, .ref 1, .int (iI (b2 (fl = 1)))] (mm sh S L) (fun r0 M' => ∃ v, r0 = some (.int (iI v)) ∧ ∃ S', M' = mm sh S' L ∧ ((v = -1 ∧ ∃ s : aSt, crS S0 S' n s ∧ s.2.1 = 0 ∧ s.1.length ≤ t.length ∧ s.2.2 = (as, dn, ms) ∧ ∀ e, abRes S0 A s e → abRes S0 A (f :: t, fl, as, dn, ms) e) ∨ (0 ≤ v ∧ ∃ e : aEn, e.1 = v ∧ abRes S0 A (f :: t, fl, as, dn, ms) e ∧ enS S0 S' n e))) := by
  refine am_enter rfl rfl (Nat.le_of_ble_eq_true rfl) ?_
  refine mm_bipush dX7_goBack_0 (by decide) ?_
  refine am_ist3 dX7_goBack_2 (Nat.le_of_ble_eq_true rfl) (am_c1i _) ?_
  exact l_goBack rh hb hB 11 f t S 10 none none (by have := hcr.2.1.2.1; simp only [List.length_cons] at this; omega) hcr hrt (by have := hcr.2.1.2.1; simp only [List.length_cons] at this; omega)
