/-! ===== a STATEMENT is done ===== -/
set_option maxRecDepth 100000 in
set_option maxHeartbeats 2000000 in
theorem m_runStatement {sh : List mm_H} {L : mm_L} (hm : mdS sh) {S0 : mm_S} (hbW : mbW S0) {S : mm_S} {n : Int} {f : Fr} {t : List Fr} {as d0 ms : Int} (hmr : mrS S0 S n (f :: t, 0, as, d0 + 1, ms)) (hp : f.2.1 < mN S0 f.1.2.1) (hd0 : d0 ≤ 499) (hn6 : 0 ≤ n ∧ n ≤ 60) (has0 : as ≤ d0) (h41d : S 181 41 ≤ d0) : am_E eX10_runStatement [.ref 181] (mm sh S L) (fun r0 M' => r0 = none ∧ ∃ S', M' = mm sh S' L ∧ stQ S0 (ansA (L 181 51) n) n (f :: t, 0, as, d0, ms) S') := by
  obtain ⟨hbe, hW, hr6, ⟨hw, hn24, hn0, hNe, hNS⟩, ⟨h17, h18⟩, ⟨hpl, hN24⟩, hP, hrg, hk10, hd, hvM⟩ := mr_top hbW hmr
  have hr9 : (f.1.2.1 : Int) < S0 181 9 := hmr.2.1.1.2.1.2.1
  have hrw := hbW.2.2.2.2 f.1.2.1 hr9
  have hth : thM S (t.length + 1) := hmr.2.2.1.2
  have h500 := hth.1
  have dd : S 181 45 = _ ∧ S 181 53 = as ∧ S 181 54 = d0 + 1 ∧ S 181 55 = ms ∧ S 181 61 = 0 ∧ S 181 52 = n ∧ S 181 56 = -1 := hmr.2.2.2.1
  have h41 : S 181 41 ≤ d0 + 1 := hmr.2.2.2.2
  have hnr : ¬ ((0 : Int) = 1 ∨ f.2.1 = mN S0 f.1.2.1) := by omega
  have hd5 : d0 ≠ 500 := by omega
  have hmc := (mbW_C hbW).2.2.2 f.1.2.1 hr9
  have hR1 : ∀ v, v < 5 → 0 ≤ f.2.2.1 v := fun v hv2 => (hrg.1.1 v hv2).1
  have hSoE : S 190 (25 * f.1.2.1 + f.2.1) = mSo S0 f.1.2.1 f.2.1 := by rw [hbe.1 190 (by omega) (by omega)]
  have hAaE : S 191 (25 * f.1.2.1 + f.2.1) = mAa S0 f.1.2.1 f.2.1 := by rw [hbe.1 191 (by omega) (by omega)]
  have hBbE : S 192 (25 * f.1.2.1 + f.2.1) = mBb S0 f.1.2.1 f.2.1 := by rw [hbe.1 192 (by omega) (by omega)]
  have hso := (hrw.1 f.2.1 hp).1
  have hok := hmc.2.2.2 f.2.1 hp
  have hto1 : 0 ≤ (f.2.1 : Int) + 1 ∧ (f.2.1 : Int) + 1 ≤ S0 189 f.1.2.1 := by omega
  refine am_enter rfl rfl (Nat.le_of_ble_eq_true rfl) ?_
  refine am_aload_n rfl dX10_runStatement_0 ?_
  refine mm_getI dX10_runStatement_1 fl_X10_346 (md_0 hm) mdf_45 ?_
  rw [hd]
  refine mm_iconst dX10_runStatement_4 ?_
  refine mm_isub dX10_runStatement_5 ?_
  rw [show (t.length : Int) + 1 - 1 = (t.length : Int) by omega]
  refine am_ist1 dX10_runStatement_6 (Nat.le_of_ble_eq_true rfl) (am_c1r _) ?_
  refine am_aload_n rfl dX10_runStatement_7 ?_
  refine mm_getR dX10_runStatement_8 fl_X10_126 (md_0 hm) mdf_47 ?_
  refine am_iload_n rfl dX10_runStatement_11 ?_
  refine mm_ial dX10_runStatement_12 (md_atPlace hm) (by omega) ?_
  rw [Int.toNat_natCast, h18]
  refine am_ist2 dX10_runStatement_13 (Nat.le_of_ble_eq_true rfl) (am_c1i _) ?_
  refine mm_bipush dX10_runStatement_14 (by decide) ?_
  refine am_aload_n rfl dX10_runStatement_16 ?_
  refine mm_getR dX10_runStatement_17 fl_X10_123 (md_0 hm) mdf_46 ?_
  refine am_iload_n rfl dX10_runStatement_20 ?_
  refine mm_ial dX10_runStatement_21 (md_atRoutine hm) (by omega) ?_
  rw [Int.toNat_natCast, h17]
  refine mm_imul dX10_runStatement_22 ?_
  refine am_iload_n rfl dX10_runStatement_23 ?_
  refine mm_iadd dX10_runStatement_24 ?_
  rw [show (25 : Int) * (f.1.2.1 : Int) + (f.2.1 : Int) = ((25 * f.1.2.1 + f.2.1 : Nat) : Int) by omega]
  refine am_ist3 dX10_runStatement_25 (Nat.le_of_ble_eq_true rfl) (am_c1i _) ?_
  refine am_aload_n rfl dX10_runStatement_26 ?_
  refine mm_getR dX10_runStatement_27 fl_X10_42 (md_0 hm) mdf_12 ?_
  refine am_iload_n rfl dX10_runStatement_30 ?_
  refine mm_ial dX10_runStatement_31 (md_aAt hm) (by omega) ?_
  rw [Int.toNat_natCast, hAaE]
  refine am_ist4 dX10_runStatement_32 (Nat.le_of_ble_eq_true rfl) (am_c1i _) ?_
  refine am_aload_n rfl dX10_runStatement_34 ?_
  refine mm_getR dX10_runStatement_35 fl_X10_45 (md_0 hm) mdf_13 ?_
  refine am_iload_n rfl dX10_runStatement_38 ?_
  refine mm_ial dX10_runStatement_39 (md_bAt hm) (by omega) ?_
  rw [Int.toNat_natCast, hBbE]
  refine am_ist5 dX10_runStatement_40 (Nat.le_of_ble_eq_true rfl) (am_c1i _) ?_
  refine am_aload_n rfl dX10_runStatement_42 ?_
  refine mm_getR dX10_runStatement_43 fl_X10_39 (md_0 hm) mdf_11 ?_
  refine am_iload_n rfl dX10_runStatement_46 ?_
  refine mm_ial dX10_runStatement_47 (md_sortAt hm) (by omega) ?_
  rw [Int.toNat_natCast, hSoE]
  rcases (show ((mSo S0 f.1.2.1 f.2.1) < 0 ∨ 13 < (mSo S0 f.1.2.1 f.2.1)) ∨ ((mSo S0 f.1.2.1 f.2.1) = 0) ∨ ((mSo S0 f.1.2.1 f.2.1) = 1 ∨ (mSo S0 f.1.2.1 f.2.1) = 2 ∨ (mSo S0 f.1.2.1 f.2.1) = 5) ∨ ((mSo S0 f.1.2.1 f.2.1) = 3 ∨ (mSo S0 f.1.2.1 f.2.1) = 4) ∨ ((mSo S0 f.1.2.1 f.2.1) = 6) ∨ ((mSo S0 f.1.2.1 f.2.1) = 7) ∨ ((mSo S0 f.1.2.1 f.2.1) = 8) ∨ ((mSo S0 f.1.2.1 f.2.1) = 9) ∨ ((mSo S0 f.1.2.1 f.2.1) = 10 ∨ (mSo S0 f.1.2.1 f.2.1) = 11) ∨ ((mSo S0 f.1.2.1 f.2.1) = 12) ∨ ((mSo S0 f.1.2.1 f.2.1) = 13) by omega) with h48 | h48 | h48 | h48 | h48 | h48 | h48 | h48 | h48 | h48 | h48
  · refine mm_tout (tgt := 342) dX10_runStatement_48 (by omega) (by omega) (by decide) ?_
    have hw0 : wrR S0 f.1 f.2.1 f.2.2 = 0 := wr_oth (by omega)
    have hnas : ¬ asR S0 f.1 f.2.1 f.2.2 := fun q => by rcases q with q | q <;> omega
    have hnx : ∀ (y : Prop) [Decidable y], nxR S0 f.1 f.2.1 f.2.2 y = gtR S0 f.1.2.1 ((f.2.1 : Int) + 1) f.2.2 := fun y _ => by
      unfold nxR
      rw [if_neg (by omega), if_neg (by omega), if_neg (by omega), if_neg (by omega), if_neg (by omega), if_neg (by omega), if_neg (by omega), if_neg (by omega), if_neg (by omega)]
    refine am_aload_n rfl dX10_runStatement_342 ?_
    refine am_iload_n rfl dX10_runStatement_343 ?_
    refine mm_iconst dX10_runStatement_344 ?_
    refine mm_iadd dX10_runStatement_345 ?_
    refine am_cxv (mm_V1 dX10_runStatement_346 in_X10_runsTo mk_X10_367 im_X10_runsTo sl_X10_runsTo ⟨Nat.le_of_ble_eq_true rfl, Nat.le_of_ble_eq_true rfl⟩ rfl (md_0 hm) (Nat.le_of_ble_eq_true rfl)) (m_to (to := (f.2.1 : Int) + 1) hm hbW hmr hto1) (fun M1 hq2 => ?_)
    obtain ⟨SE, rfl, hvE, -⟩ := hq2
    refine am_return dX10_runStatement_349 rfl ?_
    first
      | (refine ⟨rfl, SU, rfl, ?_⟩
         rcases hvU with ⟨q1, q2⟩ | ⟨q1, q2⟩
         · exact Or.inr ⟨_, ab_wr hnr hd5 q1, q2⟩
         · exact Or.inl ⟨_, ab_nx hnr hd5 q1 (by omega), q2⟩)
      | (refine ⟨rfl, SI, rfl, Or.inl ⟨_, ab_nx hnr hd5 hw0 (by omega), ?_⟩⟩
         have ez : nyR S0 (ansA (L 181 51) n) f as = gtR S0 f.1.2.1 TI f.2.2 := by
           unfold nyR nxR
           rw [if_neg (by omega), if_neg (by omega), if_pos (by omega)]
           first
             | rw [if_neg (fun q => q ⟨has, tells_t htn (by omega)⟩), hTI]
             | rw [if_pos (fun q => tells_f htn (by omega) q.2), hTI]
         rw [ez, ifP_t has]
         exact hvI)
      | (refine ⟨rfl, SE, rfl, Or.inl ⟨_, ab_nx hnr hd5 hw0 (by omega), ?_⟩⟩
         rw [nx_y hnx, ifP_f hnas, Int.add_zero]
         exact hvE)
      | (obtain ⟨hvR1, SR, rfl, hvR⟩ := hvR
         exact ⟨rfl, SR, rfl, hvR⟩)
      | (refine ⟨rfl, SC, rfl, ?_⟩
         rcases hvC with ⟨q1, q2⟩ | ⟨q1, q2, q3⟩ | ⟨q1, q2, q3⟩
         · exact Or.inr ⟨_, ab_wr hnr hd5 q1, q2⟩
         · exact Or.inr ⟨_, ab_deep hnr hd5 q1 (by omega) q2, q3⟩
         · exact Or.inl ⟨_, ab_call hnr hd5 q1 (by omega) q2, q3⟩)
  · refine mm_tsw (tgt := 120) (off := 72) [0] dX10_runStatement_48 (by simp only [List.mem_cons, List.mem_nil_iff, or_false]; omega) (by decide) (by decide) ?_
    obtain ⟨a, haA⟩ : ∃ a : Nat, mAa S0 f.1.2.1 f.2.1 = (a : Int) := ⟨(mAa S0 f.1.2.1 f.2.1).toNat, by omega⟩
    rw [show iI (mAa S0 f.1.2.1 f.2.1) = iI (a : Int) from congrArg iI haA]
    have hkB : 0 ≤ mBb S0 f.1.2.1 f.2.1 ∧ mBb S0 f.1.2.1 f.2.1 < S0 181 0 := by
      rcases hok.2 with q | q | q | q
      · exfalso; omega
      · exact q.2
      · exfalso; omega
      · exfalso; omega
    exact l_stM hm hbW hmr hp hd0 hn6 has0 h48 haA (by omega) hkB h41d
  · refine mm_tsw (tgt := 178) (off := 130) [1, 2, 5] dX10_runStatement_48 (by simp only [List.mem_cons, List.mem_nil_iff, or_false]; omega) (by decide) (by decide) ?_
    obtain ⟨a, haA⟩ : ∃ a : Nat, mAa S0 f.1.2.1 f.2.1 = (a : Int) := ⟨(mAa S0 f.1.2.1 f.2.1).toNat, by omega⟩
    rw [show iI (mAa S0 f.1.2.1 f.2.1) = iI (a : Int) from congrArg iI haA]
    refine am_aload_n rfl dX10_runStatement_178 ?_
    refine am_iload_n rfl dX10_runStatement_179 ?_
    refine am_iload_n rfl dX10_runStatement_180 ?_
    refine am_aload_n rfl dX10_runStatement_181 ?_
    refine mm_getR dX10_runStatement_182 fl_X10_39 (md_0 hm) mdf_11 ?_
    refine am_iload_n rfl dX10_runStatement_185 ?_
    refine mm_ial dX10_runStatement_186 (md_sortAt hm) (by omega) ?_
    rw [Int.toNat_natCast, hSoE]
    refine am_iload rfl dX10_runStatement_187 ?_
    refine am_iload rfl dX10_runStatement_189 ?_
    refine am_cxv (mm_V5 dX10_runStatement_191 in_X10_runUse mk_X10_392 im_X10_runUse sl_X10_runUse ⟨Nat.le_of_ble_eq_true rfl, Nat.le_of_ble_eq_true rfl⟩ rfl (md_0 hm) (Nat.le_of_ble_eq_true rfl)) (m_runUse (a := a) hm hbW hmr hp h48 haA (by omega) (by omega) hn6 (by omega)) (fun M1 hq2 => ?_)
    obtain ⟨SU, rfl, hvU⟩ := hq2
    refine am_goto (tgt := 349) dX10_runStatement_194 (by decide) ?_
    refine am_return dX10_runStatement_349 rfl ?_
    first
      | (refine ⟨rfl, SU, rfl, ?_⟩
         rcases hvU with ⟨q1, q2⟩ | ⟨q1, q2⟩
         · exact Or.inr ⟨_, ab_wr hnr hd5 q1, q2⟩
         · exact Or.inl ⟨_, ab_nx hnr hd5 q1 (by omega), q2⟩)
      | (refine ⟨rfl, SI, rfl, Or.inl ⟨_, ab_nx hnr hd5 hw0 (by omega), ?_⟩⟩
         have ez : nyR S0 (ansA (L 181 51) n) f as = gtR S0 f.1.2.1 TI f.2.2 := by
           unfold nyR nxR
           rw [if_neg (by omega), if_neg (by omega), if_pos (by omega)]
           first
             | rw [if_neg (fun q => q ⟨has, tells_t htn (by omega)⟩), hTI]
             | rw [if_pos (fun q => tells_f htn (by omega) q.2), hTI]
         rw [ez, ifP_t has]
         exact hvI)
      | (refine ⟨rfl, SE, rfl, Or.inl ⟨_, ab_nx hnr hd5 hw0 (by omega), ?_⟩⟩
         rw [nx_y hnx, ifP_f hnas, Int.add_zero]
         exact hvE)
      | (obtain ⟨hvR1, SR, rfl, hvR⟩ := hvR
         exact ⟨rfl, SR, rfl, hvR⟩)
      | (refine ⟨rfl, SC, rfl, ?_⟩
         rcases hvC with ⟨q1, q2⟩ | ⟨q1, q2, q3⟩ | ⟨q1, q2, q3⟩
         · exact Or.inr ⟨_, ab_wr hnr hd5 q1, q2⟩
         · exact Or.inr ⟨_, ab_deep hnr hd5 q1 (by omega) q2, q3⟩
         · exact Or.inl ⟨_, ab_call hnr hd5 q1 (by omega) q2, q3⟩)
  · refine mm_tsw (tgt := 197) (off := 149) [3, 4] dX10_runStatement_48 (by simp only [List.mem_cons, List.mem_nil_iff, or_false]; omega) (by decide) (by decide) ?_
    have has : asR S0 f.1 f.2.1 f.2.2 := Or.inl (by omega)
    have hw0 : wrR S0 f.1 f.2.1 f.2.2 = 0 := wr_oth (by omega)
    obtain ⟨ai, hai⟩ : ∃ ai : Nat, as = ai := ⟨as.toNat, by have q0 : 0 ≤ as := hmr.2.1.2.2.2.1.1; omega⟩
    have hmr2 := mr_as hbW hmr (by omega)
    generalize hS2 : up2 S 181 53 (as + 1) = S2 at hmr2
    have s2 : ∀ b, b ≠ 181 → S2 b = S b := fun b hb => by rw [← hS2, up2_row hb]
    refine am_aload_n rfl dX10_runStatement_197 ?_
    refine am_aload_n rfl dX10_runStatement_198 ?_
    refine am_cxI (mm_V0 dX10_runStatement_199 in_X10_answer mk_X10_382 im_X10_answer sl_X10_answer ⟨Nat.le_of_ble_eq_true rfl, Nat.le_of_ble_eq_true rfl⟩ rfl (md_0 hm) (Nat.le_of_ble_eq_true rfl)) (m_answer (S := S) (L := L) (i := ai) (n := n) hm (by rw [dd.2.1]; exact hai) (by omega) dd.2.2.2.2.2.1 hn6) (fun bv M1 hq => ?_)
    obtain ⟨htn, rfl⟩ := hq
    rw [← hai] at htn
    rw [← hai, hS2]
    have hbv2 := tells_01 htn
    refine mm_zeq (tgt := 211) dX10_runStatement_202 (by decide) (by omega) (fun h202 => ?_) (fun h202 => ?_)
    · refine am_aload_n rfl dX10_runStatement_211 ?_
      refine am_aload_n rfl dX10_runStatement_212 ?_
      refine mm_getR dX10_runStatement_213 fl_X10_123 (md_0 hm) mdf_46 ?_
      refine am_iload_n rfl dX10_runStatement_216 ?_
      refine mm_ial dX10_runStatement_217 (md_atRoutine hm) (by omega) ?_
      rw [Int.toNat_natCast, s2 217 (by omega), h17]
      refine am_iload_n rfl dX10_runStatement_218 ?_
      refine am_ci (mm_V2 dX10_runStatement_219 in_X10_behindNo mk_X10_297 im_X10_behindNo sl_X10_behindNo ⟨Nat.le_of_ble_eq_true rfl, Nat.le_of_ble_eq_true rfl⟩ rfl (md_0 hm) (Nat.le_of_ble_eq_true rfl)) (m_behindNo (S := S2) (r := f.1.2.1) (i := f.2.1) hm hr6 (by rw [s2 189 (by omega)]; exact hn24) (mbW_of (mf_E hmr2.1) hbW |>.2.2.2.2 f.1.2.1 (by rw [(mf_E hmr2.1).2.2]; exact hr9)) (by rw [bk_N (mf_E hmr2.1)]; exact hp) (by rw [bk_So (mf_E hmr2.1)]; exact Or.inl (by omega))) ?_
      first
        | (obtain ⟨TI, hTI⟩ : ∃ TI : Int, (f.2.1 : Int) + 1 = TI := ⟨_, rfl⟩
           have hyes : bv ≠ 0 := h202
           rw [show iI ((f.2.1 : Int) + 1) = iI TI from congrArg iI hTI]
           have htoI : 0 ≤ TI ∧ TI ≤ S0 189 f.1.2.1 := by omega)
        | (obtain ⟨TI, hTI⟩ : ∃ TI : Int, bnM S0 f.1.2.1 f.2.1 = TI := ⟨_, rfl⟩
           have hbn := bn_R hmc hp (show opn (mSo S0 f.1.2.1 f.2.1) from Or.inl (by omega))
           rw [show iI (bnM S2 f.1.2.1 f.2.1) = iI TI from congrArg iI ((bk_bn (mf_E hmr2.1) f.1.2.1 f.2.1).trans hTI)]
           have htoI : 0 ≤ TI ∧ TI ≤ S0 189 f.1.2.1 := by omega)
      refine am_cxv (mm_V1 dX10_runStatement_222 in_X10_runsTo mk_X10_367 im_X10_runsTo sl_X10_runsTo ⟨Nat.le_of_ble_eq_true rfl, Nat.le_of_ble_eq_true rfl⟩ rfl (md_0 hm) (Nat.le_of_ble_eq_true rfl)) (m_to hm hbW hmr2 htoI) (fun M1 hq2 => ?_)
      obtain ⟨SI, rfl, hvI, -⟩ := hq2
      refine am_goto (tgt := 349) dX10_runStatement_225 (by decide) ?_
      refine am_return dX10_runStatement_349 rfl ?_
      first
        | (refine ⟨rfl, SU, rfl, ?_⟩
           rcases hvU with ⟨q1, q2⟩ | ⟨q1, q2⟩
           · exact Or.inr ⟨_, ab_wr hnr hd5 q1, q2⟩
           · exact Or.inl ⟨_, ab_nx hnr hd5 q1 (by omega), q2⟩)
        | (refine ⟨rfl, SI, rfl, Or.inl ⟨_, ab_nx hnr hd5 hw0 (by omega), ?_⟩⟩
           have ez : nyR S0 (ansA (L 181 51) n) f as = gtR S0 f.1.2.1 TI f.2.2 := by
             unfold nyR nxR
             rw [if_neg (by omega), if_neg (by omega), if_pos (by omega)]
             first
               | rw [if_neg (fun q => q ⟨has, tells_t htn (by omega)⟩), hTI]
               | rw [if_pos (fun q => tells_f htn (by omega) q.2), hTI]
           rw [ez, ifP_t has]
           exact hvI)
        | (refine ⟨rfl, SE, rfl, Or.inl ⟨_, ab_nx hnr hd5 hw0 (by omega), ?_⟩⟩
           rw [nx_y hnx, ifP_f hnas, Int.add_zero]
           exact hvE)
        | (obtain ⟨hvR1, SR, rfl, hvR⟩ := hvR
           exact ⟨rfl, SR, rfl, hvR⟩)
        | (refine ⟨rfl, SC, rfl, ?_⟩
           rcases hvC with ⟨q1, q2⟩ | ⟨q1, q2, q3⟩ | ⟨q1, q2, q3⟩
           · exact Or.inr ⟨_, ab_wr hnr hd5 q1, q2⟩
           · exact Or.inr ⟨_, ab_deep hnr hd5 q1 (by omega) q2, q3⟩
           · exact Or.inl ⟨_, ab_call hnr hd5 q1 (by omega) q2, q3⟩)
    · refine am_iload_n rfl dX10_runStatement_205 ?_
      refine mm_iconst dX10_runStatement_206 ?_
      refine mm_iadd dX10_runStatement_207 ?_
      refine am_goto (tgt := 222) dX10_runStatement_208 (by decide) ?_
      first
        | (obtain ⟨TI, hTI⟩ : ∃ TI : Int, (f.2.1 : Int) + 1 = TI := ⟨_, rfl⟩
           have hyes : bv ≠ 0 := h202
           rw [show iI ((f.2.1 : Int) + 1) = iI TI from congrArg iI hTI]
           have htoI : 0 ≤ TI ∧ TI ≤ S0 189 f.1.2.1 := by omega)
        | (obtain ⟨TI, hTI⟩ : ∃ TI : Int, bnM S0 f.1.2.1 f.2.1 = TI := ⟨_, rfl⟩
           have hbn := bn_R hmc hp (show opn (mSo S0 f.1.2.1 f.2.1) from Or.inl (by omega))
           rw [show iI (bnM S2 f.1.2.1 f.2.1) = iI TI from congrArg iI ((bk_bn (mf_E hmr2.1) f.1.2.1 f.2.1).trans hTI)]
           have htoI : 0 ≤ TI ∧ TI ≤ S0 189 f.1.2.1 := by omega)
      refine am_cxv (mm_V1 dX10_runStatement_222 in_X10_runsTo mk_X10_367 im_X10_runsTo sl_X10_runsTo ⟨Nat.le_of_ble_eq_true rfl, Nat.le_of_ble_eq_true rfl⟩ rfl (md_0 hm) (Nat.le_of_ble_eq_true rfl)) (m_to hm hbW hmr2 htoI) (fun M1 hq2 => ?_)
      obtain ⟨SI, rfl, hvI, -⟩ := hq2
      refine am_goto (tgt := 349) dX10_runStatement_225 (by decide) ?_
      refine am_return dX10_runStatement_349 rfl ?_
      first
        | (refine ⟨rfl, SU, rfl, ?_⟩
           rcases hvU with ⟨q1, q2⟩ | ⟨q1, q2⟩
           · exact Or.inr ⟨_, ab_wr hnr hd5 q1, q2⟩
           · exact Or.inl ⟨_, ab_nx hnr hd5 q1 (by omega), q2⟩)
        | (refine ⟨rfl, SI, rfl, Or.inl ⟨_, ab_nx hnr hd5 hw0 (by omega), ?_⟩⟩
           have ez : nyR S0 (ansA (L 181 51) n) f as = gtR S0 f.1.2.1 TI f.2.2 := by
             unfold nyR nxR
             rw [if_neg (by omega), if_neg (by omega), if_pos (by omega)]
             first
               | rw [if_neg (fun q => q ⟨has, tells_t htn (by omega)⟩), hTI]
               | rw [if_pos (fun q => tells_f htn (by omega) q.2), hTI]
           rw [ez, ifP_t has]
           exact hvI)
        | (refine ⟨rfl, SE, rfl, Or.inl ⟨_, ab_nx hnr hd5 hw0 (by omega), ?_⟩⟩
           rw [nx_y hnx, ifP_f hnas, Int.add_zero]
           exact hvE)
        | (obtain ⟨hvR1, SR, rfl, hvR⟩ := hvR
           exact ⟨rfl, SR, rfl, hvR⟩)
        | (refine ⟨rfl, SC, rfl, ?_⟩
           rcases hvC with ⟨q1, q2⟩ | ⟨q1, q2, q3⟩ | ⟨q1, q2, q3⟩
           · exact Or.inr ⟨_, ab_wr hnr hd5 q1, q2⟩
           · exact Or.inr ⟨_, ab_deep hnr hd5 q1 (by omega) q2, q3⟩
           · exact Or.inl ⟨_, ab_call hnr hd5 q1 (by omega) q2, q3⟩)
  · refine mm_tsw (tgt := 228) (off := 180) [6] dX10_runStatement_48 (by simp only [List.mem_cons, List.mem_nil_iff, or_false]; omega) (by decide) (by decide) ?_
    have hw0 : wrR S0 f.1 f.2.1 f.2.2 = 0 := wr_oth (by omega)
    have hnas : ¬ asR S0 f.1 f.2.1 f.2.2 := fun q => by rcases q with q | q <;> omega
    obtain ⟨u, g1, -⟩ := (hrw.1 f.2.1 hp).2.2.1 (by omega)
    have g4 := stk_top (stk_head g1)
    have eh : hdS (mSo S0 f.1.2.1) f.2.1 = u := hdS_of g1
    have gop : S 193 (25 * f.1.2.1 + f.2.1) = (u : Int) := by
      rw [hbe.1 193 (by omega) (by omega)]
      have := (wk_ar hrw f.2.1 hp).1
      rw [this]
      unfold opA
      rw [if_pos (by omega), g1]
    have ge : S 195 (25 * f.1.2.1 + u) = endO (mSo S0 f.1.2.1) (mN S0 f.1.2.1) u := by
      rw [hbe.1 195 (by omega) (by omega)]
      exact (wk_mid hrw u (by omega) g4.2.2).2
    have hend := blk_end hrw.1 hrw.2.1 g4.2.2 (show u < mN S0 f.1.2.1 by omega)
    have hnx : ∀ (y : Prop) [Decidable y], nxR S0 f.1 f.2.1 f.2.2 y = gtR S0 f.1.2.1 (endO (mSo S0 f.1.2.1) (mN S0 f.1.2.1) u + 1) f.2.2 := fun y _ => by
      unfold nxR
      rw [if_neg (by omega), if_neg (by omega), if_neg (by omega), if_pos (by omega), eh]
    refine am_aload_n rfl dX10_runStatement_228 ?_
    refine am_aload_n rfl dX10_runStatement_229 ?_
    refine mm_getR dX10_runStatement_230 fl_X10_54 (md_0 hm) mdf_16 ?_
    refine mm_bipush dX10_runStatement_233 (by decide) ?_
    refine am_aload_n rfl dX10_runStatement_235 ?_
    refine mm_getR dX10_runStatement_236 fl_X10_123 (md_0 hm) mdf_46 ?_
    refine am_iload_n rfl dX10_runStatement_239 ?_
    refine mm_ial dX10_runStatement_240 (md_atRoutine hm) (by omega) ?_
    rw [Int.toNat_natCast, h17]
    refine mm_imul dX10_runStatement_241 ?_
    refine am_aload_n rfl dX10_runStatement_242 ?_
    refine mm_getR dX10_runStatement_243 fl_X10_48 (md_0 hm) mdf_14 ?_
    refine am_iload_n rfl dX10_runStatement_246 ?_
    refine mm_ial dX10_runStatement_247 (md_openAt hm) (by omega) ?_
    rw [Int.toNat_natCast, gop]
    refine mm_iadd dX10_runStatement_248 ?_
    rw [show (25 : Int) * (f.1.2.1 : Int) + (u : Int) = ((25 * f.1.2.1 + u : Nat) : Int) by omega]
    refine mm_ial dX10_runStatement_249 (md_endAt hm) (by omega) ?_
    rw [Int.toNat_natCast, ge]
    refine mm_iconst dX10_runStatement_250 ?_
    refine mm_iadd dX10_runStatement_251 ?_
    refine am_cxv (mm_V1 dX10_runStatement_252 in_X10_runsTo mk_X10_367 im_X10_runsTo sl_X10_runsTo ⟨Nat.le_of_ble_eq_true rfl, Nat.le_of_ble_eq_true rfl⟩ rfl (md_0 hm) (Nat.le_of_ble_eq_true rfl)) (m_to (to := endO (mSo S0 f.1.2.1) (mN S0 f.1.2.1) u + 1) hm hbW hmr (by omega)) (fun M1 hq2 => ?_)
    obtain ⟨SE, rfl, hvE, -⟩ := hq2
    refine am_goto (tgt := 349) dX10_runStatement_255 (by decide) ?_
    refine am_return dX10_runStatement_349 rfl ?_
    first
      | (refine ⟨rfl, SU, rfl, ?_⟩
         rcases hvU with ⟨q1, q2⟩ | ⟨q1, q2⟩
         · exact Or.inr ⟨_, ab_wr hnr hd5 q1, q2⟩
         · exact Or.inl ⟨_, ab_nx hnr hd5 q1 (by omega), q2⟩)
      | (refine ⟨rfl, SI, rfl, Or.inl ⟨_, ab_nx hnr hd5 hw0 (by omega), ?_⟩⟩
         have ez : nyR S0 (ansA (L 181 51) n) f as = gtR S0 f.1.2.1 TI f.2.2 := by
           unfold nyR nxR
           rw [if_neg (by omega), if_neg (by omega), if_pos (by omega)]
           first
             | rw [if_neg (fun q => q ⟨has, tells_t htn (by omega)⟩), hTI]
             | rw [if_pos (fun q => tells_f htn (by omega) q.2), hTI]
         rw [ez, ifP_t has]
         exact hvI)
      | (refine ⟨rfl, SE, rfl, Or.inl ⟨_, ab_nx hnr hd5 hw0 (by omega), ?_⟩⟩
         rw [nx_y hnx, ifP_f hnas, Int.add_zero]
         exact hvE)
      | (obtain ⟨hvR1, SR, rfl, hvR⟩ := hvR
         exact ⟨rfl, SR, rfl, hvR⟩)
      | (refine ⟨rfl, SC, rfl, ?_⟩
         rcases hvC with ⟨q1, q2⟩ | ⟨q1, q2, q3⟩ | ⟨q1, q2, q3⟩
         · exact Or.inr ⟨_, ab_wr hnr hd5 q1, q2⟩
         · exact Or.inr ⟨_, ab_deep hnr hd5 q1 (by omega) q2, q3⟩
         · exact Or.inl ⟨_, ab_call hnr hd5 q1 (by omega) q2, q3⟩)
  · refine mm_tsw (tgt := 258) (off := 210) [7] dX10_runStatement_48 (by simp only [List.mem_cons, List.mem_nil_iff, or_false]; omega) (by decide) (by decide) ?_
    have hw0 : wrR S0 f.1 f.2.1 f.2.2 = 0 := wr_oth (by omega)
    have hnas : ¬ asR S0 f.1 f.2.1 f.2.2 := fun q => by rcases q with q | q <;> omega
    have hnx : ∀ (y : Prop) [Decidable y], nxR S0 f.1 f.2.1 f.2.2 y = zcR S0 f.1.2.1 f.2.1 f.2.2 := fun y _ => by
      unfold nxR
      rw [if_neg (by omega), if_neg (by omega), if_neg (by omega), if_neg (by omega), if_pos (by omega)]
    refine am_aload_n rfl dX10_runStatement_258 ?_
    refine am_iload_n rfl dX10_runStatement_259 ?_
    refine am_iload_n rfl dX10_runStatement_260 ?_
    refine am_cxv (mm_V2 dX10_runStatement_261 in_X10_runEnd mk_X10_396 im_X10_runEnd sl_X10_runEnd ⟨Nat.le_of_ble_eq_true rfl, Nat.le_of_ble_eq_true rfl⟩ rfl (md_0 hm) (Nat.le_of_ble_eq_true rfl)) (m_runEnd hm hbW hmr hp h48) (fun M1 hq2 => ?_)
    obtain ⟨SE, rfl, hvE⟩ := hq2
    refine am_goto (tgt := 349) dX10_runStatement_264 (by decide) ?_
    refine am_return dX10_runStatement_349 rfl ?_
    first
      | (refine ⟨rfl, SU, rfl, ?_⟩
         rcases hvU with ⟨q1, q2⟩ | ⟨q1, q2⟩
         · exact Or.inr ⟨_, ab_wr hnr hd5 q1, q2⟩
         · exact Or.inl ⟨_, ab_nx hnr hd5 q1 (by omega), q2⟩)
      | (refine ⟨rfl, SI, rfl, Or.inl ⟨_, ab_nx hnr hd5 hw0 (by omega), ?_⟩⟩
         have ez : nyR S0 (ansA (L 181 51) n) f as = gtR S0 f.1.2.1 TI f.2.2 := by
           unfold nyR nxR
           rw [if_neg (by omega), if_neg (by omega), if_pos (by omega)]
           first
             | rw [if_neg (fun q => q ⟨has, tells_t htn (by omega)⟩), hTI]
             | rw [if_pos (fun q => tells_f htn (by omega) q.2), hTI]
         rw [ez, ifP_t has]
         exact hvI)
      | (refine ⟨rfl, SE, rfl, Or.inl ⟨_, ab_nx hnr hd5 hw0 (by omega), ?_⟩⟩
         rw [nx_y hnx, ifP_f hnas, Int.add_zero]
         exact hvE)
      | (obtain ⟨hvR1, SR, rfl, hvR⟩ := hvR
         exact ⟨rfl, SR, rfl, hvR⟩)
      | (refine ⟨rfl, SC, rfl, ?_⟩
         rcases hvC with ⟨q1, q2⟩ | ⟨q1, q2, q3⟩ | ⟨q1, q2, q3⟩
         · exact Or.inr ⟨_, ab_wr hnr hd5 q1, q2⟩
         · exact Or.inr ⟨_, ab_deep hnr hd5 q1 (by omega) q2, q3⟩
         · exact Or.inl ⟨_, ab_call hnr hd5 q1 (by omega) q2, q3⟩)
  · refine mm_tsw (tgt := 267) (off := 219) [8] dX10_runStatement_48 (by simp only [List.mem_cons, List.mem_nil_iff, or_false]; omega) (by decide) (by decide) ?_
    obtain ⟨a, haA⟩ : ∃ a : Nat, mAa S0 f.1.2.1 f.2.1 = (a : Int) := ⟨(mAa S0 f.1.2.1 f.2.1).toNat, by omega⟩
    rw [show iI (mAa S0 f.1.2.1 f.2.1) = iI (a : Int) from congrArg iI haA]
    obtain ⟨b, hbB⟩ : ∃ b : Nat, mBb S0 f.1.2.1 f.2.1 = (b : Int) := ⟨(mBb S0 f.1.2.1 f.2.1).toNat, by omega⟩
    rw [show iI (mBb S0 f.1.2.1 f.2.1) = iI (b : Int) from congrArg iI hbB]
    have hb5 : b < 5 := by omega
    refine am_aload_n rfl dX10_runStatement_267 ?_
    refine am_iload_n rfl dX10_runStatement_268 ?_
    refine am_iload_n rfl dX10_runStatement_269 ?_
    refine am_iload rfl dX10_runStatement_270 ?_
    refine am_aload_n rfl dX10_runStatement_272 ?_
    refine am_iload_n rfl dX10_runStatement_273 ?_
    refine am_iload rfl dX10_runStatement_274 ?_
    refine am_ci (mm_V2 dX10_runStatement_276 in_X10_named mk_X10_376 im_X10_named sl_X10_named ⟨Nat.le_of_ble_eq_true rfl, Nat.le_of_ble_eq_true rfl⟩ rfl (md_0 hm) (Nat.le_of_ble_eq_true rfl)) (m_named (v := b) hm hk10 hb5) ?_
    refine am_cxv (mm_V4 dX10_runStatement_279 in_X10_runRename mk_X10_389 im_X10_runRename sl_X10_runRename ⟨Nat.le_of_ble_eq_true rfl, Nat.le_of_ble_eq_true rfl⟩ rfl (md_0 hm) (Nat.le_of_ble_eq_true rfl)) ((m_nmd (a := a) (x := S 220 (5 * t.length + b)) (tv := f.2.2.1 b) hm hbW hmr hp hd0 hn6 has0 (by omega) (Or.inr ⟨b, hb5, rfl, rfl⟩) (by unfold wrR; rw [if_neg (by omega), if_neg (by omega), if_neg (by omega), if_pos h48, haA, hbB, Int.toNat_natCast, Int.toNat_natCast]) (by omega) (fun q => by rcases q with q | q <;> omega) (fun y _ => by unfold nxR; rw [if_neg (by omega), if_neg (by omega), if_neg (by omega), if_neg (by omega), if_neg (by omega), if_pos h48, haA, hbB, Int.toNat_natCast, Int.toNat_natCast]))) (fun M1 hvR0 => ?_)
    have hvR := (show none = none ∧ _ from ⟨(rfl : (none : Option Value) = none), hvR0⟩)
    refine am_goto (tgt := 349) dX10_runStatement_282 (by decide) ?_
    refine am_return dX10_runStatement_349 rfl ?_
    first
      | (refine ⟨rfl, SU, rfl, ?_⟩
         rcases hvU with ⟨q1, q2⟩ | ⟨q1, q2⟩
         · exact Or.inr ⟨_, ab_wr hnr hd5 q1, q2⟩
         · exact Or.inl ⟨_, ab_nx hnr hd5 q1 (by omega), q2⟩)
      | (refine ⟨rfl, SI, rfl, Or.inl ⟨_, ab_nx hnr hd5 hw0 (by omega), ?_⟩⟩
         have ez : nyR S0 (ansA (L 181 51) n) f as = gtR S0 f.1.2.1 TI f.2.2 := by
           unfold nyR nxR
           rw [if_neg (by omega), if_neg (by omega), if_pos (by omega)]
           first
             | rw [if_neg (fun q => q ⟨has, tells_t htn (by omega)⟩), hTI]
             | rw [if_pos (fun q => tells_f htn (by omega) q.2), hTI]
         rw [ez, ifP_t has]
         exact hvI)
      | (refine ⟨rfl, SE, rfl, Or.inl ⟨_, ab_nx hnr hd5 hw0 (by omega), ?_⟩⟩
         rw [nx_y hnx, ifP_f hnas, Int.add_zero]
         exact hvE)
      | (obtain ⟨hvR1, SR, rfl, hvR⟩ := hvR
         exact ⟨rfl, SR, rfl, hvR⟩)
      | (refine ⟨rfl, SC, rfl, ?_⟩
         rcases hvC with ⟨q1, q2⟩ | ⟨q1, q2, q3⟩ | ⟨q1, q2, q3⟩
         · exact Or.inr ⟨_, ab_wr hnr hd5 q1, q2⟩
         · exact Or.inr ⟨_, ab_deep hnr hd5 q1 (by omega) q2, q3⟩
         · exact Or.inl ⟨_, ab_call hnr hd5 q1 (by omega) q2, q3⟩)
  · refine mm_tsw (tgt := 285) (off := 237) [9] dX10_runStatement_48 (by simp only [List.mem_cons, List.mem_nil_iff, or_false]; omega) (by decide) (by decide) ?_
    obtain ⟨a, haA⟩ : ∃ a : Nat, mAa S0 f.1.2.1 f.2.1 = (a : Int) := ⟨(mAa S0 f.1.2.1 f.2.1).toNat, by omega⟩
    rw [show iI (mAa S0 f.1.2.1 f.2.1) = iI (a : Int) from congrArg iI haA]
    refine am_aload_n rfl dX10_runStatement_285 ?_
    refine am_iload_n rfl dX10_runStatement_286 ?_
    refine am_iload_n rfl dX10_runStatement_287 ?_
    refine am_iload rfl dX10_runStatement_288 ?_
    refine mm_iconst dX10_runStatement_290 ?_
    refine am_cxv (mm_V4 dX10_runStatement_291 in_X10_runRename mk_X10_389 im_X10_runRename sl_X10_runRename ⟨Nat.le_of_ble_eq_true rfl, Nat.le_of_ble_eq_true rfl⟩ rfl (md_0 hm) (Nat.le_of_ble_eq_true rfl)) ((m_nmd (a := a) (x := -1) (tv := 0) hm hbW hmr hp hd0 hn6 has0 (by omega) (Or.inl ⟨rfl, rfl⟩) (by unfold wrR; rw [if_neg (by omega), if_neg (by omega), if_pos (Or.inr h48), haA, Int.toNat_natCast]) (by omega) (fun q => by rcases q with q | q <;> omega) (fun y _ => by unfold nxR; rw [if_neg (by omega), if_neg (by omega), if_neg (by omega), if_neg (by omega), if_neg (by omega), if_neg (by omega), if_pos h48, haA, Int.toNat_natCast]))) (fun M1 hvR0 => ?_)
    have hvR := (show none = none ∧ _ from ⟨(rfl : (none : Option Value) = none), hvR0⟩)
    refine am_goto (tgt := 349) dX10_runStatement_294 (by decide) ?_
    refine am_return dX10_runStatement_349 rfl ?_
    first
      | (refine ⟨rfl, SU, rfl, ?_⟩
         rcases hvU with ⟨q1, q2⟩ | ⟨q1, q2⟩
         · exact Or.inr ⟨_, ab_wr hnr hd5 q1, q2⟩
         · exact Or.inl ⟨_, ab_nx hnr hd5 q1 (by omega), q2⟩)
      | (refine ⟨rfl, SI, rfl, Or.inl ⟨_, ab_nx hnr hd5 hw0 (by omega), ?_⟩⟩
         have ez : nyR S0 (ansA (L 181 51) n) f as = gtR S0 f.1.2.1 TI f.2.2 := by
           unfold nyR nxR
           rw [if_neg (by omega), if_neg (by omega), if_pos (by omega)]
           first
             | rw [if_neg (fun q => q ⟨has, tells_t htn (by omega)⟩), hTI]
             | rw [if_pos (fun q => tells_f htn (by omega) q.2), hTI]
         rw [ez, ifP_t has]
         exact hvI)
      | (refine ⟨rfl, SE, rfl, Or.inl ⟨_, ab_nx hnr hd5 hw0 (by omega), ?_⟩⟩
         rw [nx_y hnx, ifP_f hnas, Int.add_zero]
         exact hvE)
      | (obtain ⟨hvR1, SR, rfl, hvR⟩ := hvR
         exact ⟨rfl, SR, rfl, hvR⟩)
      | (refine ⟨rfl, SC, rfl, ?_⟩
         rcases hvC with ⟨q1, q2⟩ | ⟨q1, q2, q3⟩ | ⟨q1, q2, q3⟩
         · exact Or.inr ⟨_, ab_wr hnr hd5 q1, q2⟩
         · exact Or.inr ⟨_, ab_deep hnr hd5 q1 (by omega) q2, q3⟩
         · exact Or.inl ⟨_, ab_call hnr hd5 q1 (by omega) q2, q3⟩)
  · refine mm_tsw (tgt := 297) (off := 249) [10, 11] dX10_runStatement_48 (by simp only [List.mem_cons, List.mem_nil_iff, or_false]; omega) (by decide) (by decide) ?_
    obtain ⟨b, hbB⟩ : ∃ b : Nat, mBb S0 f.1.2.1 f.2.1 = (b : Int) := ⟨(mBb S0 f.1.2.1 f.2.1).toNat, by omega⟩
    rw [show iI (mBb S0 f.1.2.1 f.2.1) = iI (b : Int) from congrArg iI hbB]
    refine am_aload_n rfl dX10_runStatement_297 ?_
    refine am_iload_n rfl dX10_runStatement_298 ?_
    refine am_iload_n rfl dX10_runStatement_299 ?_
    refine am_iload rfl dX10_runStatement_300 ?_
    refine am_iload rfl dX10_runStatement_302 ?_
    refine am_aload_n rfl dX10_runStatement_304 ?_
    refine mm_getR dX10_runStatement_305 fl_X10_39 (md_0 hm) mdf_11 ?_
    refine am_iload_n rfl dX10_runStatement_308 ?_
    refine mm_ial dX10_runStatement_309 (md_sortAt hm) (by omega) ?_
    rw [Int.toNat_natCast, hSoE]
    refine mm_bipush dX10_runStatement_310 (by decide) ?_
    refine mm_jne (tgt := 319) dX10_runStatement_312 (by decide) (by omega) (by omega) (fun h312 => ?_) (fun h312 => ?_)
    · refine mm_iconst dX10_runStatement_319 ?_
      first
        | rw [show iI 1 = iI (b2 (mSo S0 f.1.2.1 f.2.1 = 11)) from congrArg iI (b2_t (by omega)).symm]
        | rw [show iI 0 = iI (b2 (mSo S0 f.1.2.1 f.2.1 = 11)) from congrArg iI (b2_f (by omega)).symm]
      refine am_cxv (mm_V5 dX10_runStatement_320 in_X10_runCall mk_X10_399 im_X10_runCall sl_X10_runCall ⟨Nat.le_of_ble_eq_true rfl, Nat.le_of_ble_eq_true rfl⟩ rfl (md_0 hm) (Nat.le_of_ble_eq_true rfl)) (m_runCall (v := b) hm hbW hmr hp h48 hbB (by omega) (by omega)) (fun M1 hq2 => ?_)
      obtain ⟨SC, rfl, hvC⟩ := hq2
      refine am_goto (tgt := 349) dX10_runStatement_323 (by decide) ?_
      refine am_return dX10_runStatement_349 rfl ?_
      first
        | (refine ⟨rfl, SU, rfl, ?_⟩
           rcases hvU with ⟨q1, q2⟩ | ⟨q1, q2⟩
           · exact Or.inr ⟨_, ab_wr hnr hd5 q1, q2⟩
           · exact Or.inl ⟨_, ab_nx hnr hd5 q1 (by omega), q2⟩)
        | (refine ⟨rfl, SI, rfl, Or.inl ⟨_, ab_nx hnr hd5 hw0 (by omega), ?_⟩⟩
           have ez : nyR S0 (ansA (L 181 51) n) f as = gtR S0 f.1.2.1 TI f.2.2 := by
             unfold nyR nxR
             rw [if_neg (by omega), if_neg (by omega), if_pos (by omega)]
             first
               | rw [if_neg (fun q => q ⟨has, tells_t htn (by omega)⟩), hTI]
               | rw [if_pos (fun q => tells_f htn (by omega) q.2), hTI]
           rw [ez, ifP_t has]
           exact hvI)
        | (refine ⟨rfl, SE, rfl, Or.inl ⟨_, ab_nx hnr hd5 hw0 (by omega), ?_⟩⟩
           rw [nx_y hnx, ifP_f hnas, Int.add_zero]
           exact hvE)
        | (obtain ⟨hvR1, SR, rfl, hvR⟩ := hvR
           exact ⟨rfl, SR, rfl, hvR⟩)
        | (refine ⟨rfl, SC, rfl, ?_⟩
           rcases hvC with ⟨q1, q2⟩ | ⟨q1, q2, q3⟩ | ⟨q1, q2, q3⟩
           · exact Or.inr ⟨_, ab_wr hnr hd5 q1, q2⟩
           · exact Or.inr ⟨_, ab_deep hnr hd5 q1 (by omega) q2, q3⟩
           · exact Or.inl ⟨_, ab_call hnr hd5 q1 (by omega) q2, q3⟩)
    · refine mm_iconst dX10_runStatement_315 ?_
      refine am_goto (tgt := 320) dX10_runStatement_316 (by decide) ?_
      first
        | rw [show iI 1 = iI (b2 (mSo S0 f.1.2.1 f.2.1 = 11)) from congrArg iI (b2_t (by omega)).symm]
        | rw [show iI 0 = iI (b2 (mSo S0 f.1.2.1 f.2.1 = 11)) from congrArg iI (b2_f (by omega)).symm]
      refine am_cxv (mm_V5 dX10_runStatement_320 in_X10_runCall mk_X10_399 im_X10_runCall sl_X10_runCall ⟨Nat.le_of_ble_eq_true rfl, Nat.le_of_ble_eq_true rfl⟩ rfl (md_0 hm) (Nat.le_of_ble_eq_true rfl)) (m_runCall (v := b) hm hbW hmr hp h48 hbB (by omega) (by omega)) (fun M1 hq2 => ?_)
      obtain ⟨SC, rfl, hvC⟩ := hq2
      refine am_goto (tgt := 349) dX10_runStatement_323 (by decide) ?_
      refine am_return dX10_runStatement_349 rfl ?_
      first
        | (refine ⟨rfl, SU, rfl, ?_⟩
           rcases hvU with ⟨q1, q2⟩ | ⟨q1, q2⟩
           · exact Or.inr ⟨_, ab_wr hnr hd5 q1, q2⟩
           · exact Or.inl ⟨_, ab_nx hnr hd5 q1 (by omega), q2⟩)
        | (refine ⟨rfl, SI, rfl, Or.inl ⟨_, ab_nx hnr hd5 hw0 (by omega), ?_⟩⟩
           have ez : nyR S0 (ansA (L 181 51) n) f as = gtR S0 f.1.2.1 TI f.2.2 := by
             unfold nyR nxR
             rw [if_neg (by omega), if_neg (by omega), if_pos (by omega)]
             first
               | rw [if_neg (fun q => q ⟨has, tells_t htn (by omega)⟩), hTI]
               | rw [if_pos (fun q => tells_f htn (by omega) q.2), hTI]
           rw [ez, ifP_t has]
           exact hvI)
        | (refine ⟨rfl, SE, rfl, Or.inl ⟨_, ab_nx hnr hd5 hw0 (by omega), ?_⟩⟩
           rw [nx_y hnx, ifP_f hnas, Int.add_zero]
           exact hvE)
        | (obtain ⟨hvR1, SR, rfl, hvR⟩ := hvR
           exact ⟨rfl, SR, rfl, hvR⟩)
        | (refine ⟨rfl, SC, rfl, ?_⟩
           rcases hvC with ⟨q1, q2⟩ | ⟨q1, q2, q3⟩ | ⟨q1, q2, q3⟩
           · exact Or.inr ⟨_, ab_wr hnr hd5 q1, q2⟩
           · exact Or.inr ⟨_, ab_deep hnr hd5 q1 (by omega) q2, q3⟩
           · exact Or.inl ⟨_, ab_call hnr hd5 q1 (by omega) q2, q3⟩)
  · refine mm_tsw (tgt := 326) (off := 278) [12] dX10_runStatement_48 (by simp only [List.mem_cons, List.mem_nil_iff, or_false]; omega) (by decide) (by decide) ?_
    have hw0 : wrR S0 f.1 f.2.1 f.2.2 = 0 := wr_oth (by omega)
    have hnas : ¬ asR S0 f.1 f.2.1 f.2.2 := fun q => by rcases q with q | q <;> omega
    have hnx : ∀ (y : Prop) [Decidable y], nxR S0 f.1 f.2.1 f.2.2 y = otR S0 f.1.2.1 f.2.1 1 f.2.2 := fun y _ => by
      unfold nxR
      rw [if_neg (by omega), if_neg (by omega), if_neg (by omega), if_neg (by omega), if_neg (by omega), if_neg (by omega), if_neg (by omega), if_pos (by omega)]
    refine am_aload_n rfl dX10_runStatement_326 ?_
    refine mm_iconst dX10_runStatement_327 ?_
    refine am_cxv (mm_V1 dX10_runStatement_328 in_X10_outOf mk_X10_370 im_X10_outOf sl_X10_outOf ⟨Nat.le_of_ble_eq_true rfl, Nat.le_of_ble_eq_true rfl⟩ rfl (md_0 hm) (Nat.le_of_ble_eq_true rfl)) (m_outOf (w := 1) hm hbW hmr (Or.inl rfl)) (fun M1 hq2 => ?_)
    obtain ⟨SE, rfl, hvE⟩ := hq2
    refine am_goto (tgt := 349) dX10_runStatement_331 (by decide) ?_
    refine am_return dX10_runStatement_349 rfl ?_
    first
      | (refine ⟨rfl, SU, rfl, ?_⟩
         rcases hvU with ⟨q1, q2⟩ | ⟨q1, q2⟩
         · exact Or.inr ⟨_, ab_wr hnr hd5 q1, q2⟩
         · exact Or.inl ⟨_, ab_nx hnr hd5 q1 (by omega), q2⟩)
      | (refine ⟨rfl, SI, rfl, Or.inl ⟨_, ab_nx hnr hd5 hw0 (by omega), ?_⟩⟩
         have ez : nyR S0 (ansA (L 181 51) n) f as = gtR S0 f.1.2.1 TI f.2.2 := by
           unfold nyR nxR
           rw [if_neg (by omega), if_neg (by omega), if_pos (by omega)]
           first
             | rw [if_neg (fun q => q ⟨has, tells_t htn (by omega)⟩), hTI]
             | rw [if_pos (fun q => tells_f htn (by omega) q.2), hTI]
         rw [ez, ifP_t has]
         exact hvI)
      | (refine ⟨rfl, SE, rfl, Or.inl ⟨_, ab_nx hnr hd5 hw0 (by omega), ?_⟩⟩
         rw [nx_y hnx, ifP_f hnas, Int.add_zero]
         exact hvE)
      | (obtain ⟨hvR1, SR, rfl, hvR⟩ := hvR
         exact ⟨rfl, SR, rfl, hvR⟩)
      | (refine ⟨rfl, SC, rfl, ?_⟩
         rcases hvC with ⟨q1, q2⟩ | ⟨q1, q2, q3⟩ | ⟨q1, q2, q3⟩
         · exact Or.inr ⟨_, ab_wr hnr hd5 q1, q2⟩
         · exact Or.inr ⟨_, ab_deep hnr hd5 q1 (by omega) q2, q3⟩
         · exact Or.inl ⟨_, ab_call hnr hd5 q1 (by omega) q2, q3⟩)
  · refine mm_tsw (tgt := 334) (off := 286) [13] dX10_runStatement_48 (by simp only [List.mem_cons, List.mem_nil_iff, or_false]; omega) (by decide) (by decide) ?_
    have hw0 : wrR S0 f.1 f.2.1 f.2.2 = 0 := wr_oth (by omega)
    have hnas : ¬ asR S0 f.1 f.2.1 f.2.2 := fun q => by rcases q with q | q <;> omega
    have hnx : ∀ (y : Prop) [Decidable y], nxR S0 f.1 f.2.1 f.2.2 y = otR S0 f.1.2.1 f.2.1 2 f.2.2 := fun y _ => by
      unfold nxR
      rw [if_neg (by omega), if_neg (by omega), if_neg (by omega), if_neg (by omega), if_neg (by omega), if_neg (by omega), if_neg (by omega), if_neg (by omega), if_pos (by omega)]
    refine am_aload_n rfl dX10_runStatement_334 ?_
    refine mm_iconst dX10_runStatement_335 ?_
    refine am_cxv (mm_V1 dX10_runStatement_336 in_X10_outOf mk_X10_370 im_X10_outOf sl_X10_outOf ⟨Nat.le_of_ble_eq_true rfl, Nat.le_of_ble_eq_true rfl⟩ rfl (md_0 hm) (Nat.le_of_ble_eq_true rfl)) (m_outOf (w := 2) hm hbW hmr (Or.inr rfl)) (fun M1 hq2 => ?_)
    obtain ⟨SE, rfl, hvE⟩ := hq2
    refine am_goto (tgt := 349) dX10_runStatement_339 (by decide) ?_
    refine am_return dX10_runStatement_349 rfl ?_
    first
      | (refine ⟨rfl, SU, rfl, ?_⟩
         rcases hvU with ⟨q1, q2⟩ | ⟨q1, q2⟩
         · exact Or.inr ⟨_, ab_wr hnr hd5 q1, q2⟩
         · exact Or.inl ⟨_, ab_nx hnr hd5 q1 (by omega), q2⟩)
      | (refine ⟨rfl, SI, rfl, Or.inl ⟨_, ab_nx hnr hd5 hw0 (by omega), ?_⟩⟩
         have ez : nyR S0 (ansA (L 181 51) n) f as = gtR S0 f.1.2.1 TI f.2.2 := by
           unfold nyR nxR
           rw [if_neg (by omega), if_neg (by omega), if_pos (by omega)]
           first
             | rw [if_neg (fun q => q ⟨has, tells_t htn (by omega)⟩), hTI]
             | rw [if_pos (fun q => tells_f htn (by omega) q.2), hTI]
         rw [ez, ifP_t has]
         exact hvI)
      | (refine ⟨rfl, SE, rfl, Or.inl ⟨_, ab_nx hnr hd5 hw0 (by omega), ?_⟩⟩
         rw [nx_y hnx, ifP_f hnas, Int.add_zero]
         exact hvE)
      | (obtain ⟨hvR1, SR, rfl, hvR⟩ := hvR
         exact ⟨rfl, SR, rfl, hvR⟩)
      | (refine ⟨rfl, SC, rfl, ?_⟩
         rcases hvC with ⟨q1, q2⟩ | ⟨q1, q2, q3⟩ | ⟨q1, q2, q3⟩
         · exact Or.inr ⟨_, ab_wr hnr hd5 q1, q2⟩
         · exact Or.inr ⟨_, ab_deep hnr hd5 q1 (by omega) q2, q3⟩
         · exact Or.inl ⟨_, ab_call hnr hd5 q1 (by omega) q2, q3⟩)
