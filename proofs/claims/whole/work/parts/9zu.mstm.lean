/-! ===== STATEMENTS of the reference's runs ===== -/
theorem pt_col {S : mm_S} {t : List Fr} {f : Fr} (hvM : hvM S t.length) (hp : plM S (f :: t) (-1)) (ht : thM S (t.length + 1)) {j : Nat} (hj : j ≠ 41) (hj0 : j ≠ 0) (x : Int) : plM (up2 S 181 j x) (f :: t) (-1) ∧ thM (up2 S 181 j x) (t.length + 1) := by
  have er : ∀ b, b ≠ 181 → up2 S 181 j x b = S b := fun b hb => up2_row hb
  have ec : ∀ i, i ≠ j → up2 S 181 j x 181 i = S 181 i := fun i hi => up2_rc hi
  refine ⟨?_, th_of (ec 41 (by omega)) (ec 0 (by omega)) (er 182 (by omega)) (er 183 (by omega)) (er 192 (by omega)) (er 214 (by omega)) (er 215 (by omega)) (er 216 (by omega)) (fun k _ => by rw [er 217 (by omega)]) (fun k _ => by rw [er 218 (by omega)]) (fun k _ => by rw [er 219 (by omega)]) (fun k v _ _ => by rw [er 220 (by omega)]) (fun k hk => hvM k (by omega)) ht⟩
  have gen : ∀ (l : List Fr) (h : Int), plM S l h → plM (up2 S 181 j x) l h := fun l => by
    induction l with
    | nil => intro _ _; trivial
    | cons g u ih =>
      intro h q
      have eh : ∀ k, hoM (up2 S 181 j x) k = hoM S k := fun k => by unfold hoM mBb; rw [er 220 (by omega), er 217 (by omega), er 218 (by omega), er 192 (by omega)]
      refine ⟨?_, by rw [eh]; exact ih _ q.2⟩
      have q1 := q.1
      unfold frM nmP cdT at *
      rw [er 217 (by omega), er 218 (by omega), er 219 (by omega), er 220 (by omega), er 221 (by omega), er 214 (by omega), er 215 (by omega), er 216 (by omega), ec 41 (by omega)]
      exact q1
  exact gen _ _ hp
theorem mr_as {S0 S : mm_S} {n : Int} {f : Fr} {t : List Fr} {fl as dn ms : Int} (hbW : mbW S0) (hmr : mrS S0 S n (f :: t, fl, as, dn, ms)) (ha : as + 1 ≤ dn) : mrS S0 (up2 S 181 53 (as + 1)) n (f :: t, fl, as + 1, dn, ms) := by
  obtain ⟨hbe, hW, hr6, ⟨hw, hn24, hn0, hNe, hNS⟩, ⟨h17, h18⟩, ⟨hpl, hN24⟩, hP, hrg, hk10, hd, hvM⟩ := mr_top hbW hmr
  have er : ∀ b, b ≠ 181 → up2 S 181 53 (as + 1) b = S b := fun b hb => up2_row hb
  have ec : ∀ j, j ≠ 53 → up2 S 181 53 (as + 1) 181 j = S 181 j := fun j hj => up2_rc hj
  have dd := hmr.2.2.2.1
  have ha0 : 0 ≤ as := hmr.2.1.2.2.2.1.1
  exact mr_set (f' := f) hmr (pt_col hvM hmr.2.2.1.1 hmr.2.2.1.2 (by omega) (by omega) _) rfl hmr.2.1.1.1 ⟨fun b y1 y2 => by rw [er b y2]; exact hmr.1.1 b y1 y2, fun j hj => by rw [ec j (by omega)]; exact hmr.1.2 j hj⟩ (ec 45 (by omega)) (up2_same _ _ _ _) (ec 54 (by omega)) (ec 55 (by omega)) (by rw [ec 61 (by omega)]; exact dd.2.2.2.2.1) (ec 52 (by omega)) (ec 56 (by omega)) (by rw [ec 41 (by omega)]; exact hmr.2.2.2.2) ⟨by omega, ha⟩ hmr.2.1.2.2.1
set_option maxRecDepth 100000 in
set_option maxHeartbeats 4000000 in
theorem m_runEnd {sh : List mm_H} {L : mm_L} (hm : mdS sh) {S0 : mm_S} (hbW : mbW S0) {S : mm_S} {n : Int} {f : Fr} {t : List Fr} {as dn ms : Int} (hmr : mrS S0 S n (f :: t, 0, as, dn, ms)) (hp : f.2.1 < mN S0 f.1.2.1) (h7 : mSo S0 f.1.2.1 f.2.1 = 7) : am_E eX10_runEnd [.ref 181, .int (iI (t.length : Int)), .int (iI (f.2.1 : Int))] (mm sh S L) (fun r0 M' => r0 = none ∧ ∃ S', M' = mm sh S' L ∧ mrS S0 S' n ((f.1, (zcR S0 f.1.2.1 f.2.1 f.2.2).2.1.toNat, (zcR S0 f.1.2.1 f.2.1 f.2.2).2.2) :: t, 1 - (zcR S0 f.1.2.1 f.2.1 f.2.2).1, as, dn, ms)) := by
  obtain ⟨hbe, hW, hr6, ⟨hw, hn24, hn0, hNe, hNS⟩, ⟨h17, h18⟩, ⟨hpl, hN24⟩, hP, hrg, hk10, hd, hvM⟩ := mr_top hbW hmr
  have hr9 : (f.1.2.1 : Int) < S0 181 9 := hmr.2.1.1.2.1.2.1
  have hrw := hbW.2.2.2.2 f.1.2.1 hr9
  obtain ⟨o, g1, -⟩ := (hrw.1 f.2.1 hp).2.2.2.2 h7
  have g4 := stk_top (stk_head g1)
  have eh : hdS (mSo S0 f.1.2.1) f.2.1 = o := hdS_of g1
  have gop : S0 193 (25 * f.1.2.1 + f.2.1) = (o : Int) := by
    have := (wk_ar hrw f.2.1 hp).1
    rw [this]
    unfold opA
    rw [if_pos (by omega), g1]
  have gs := (hrw.1 o (by omega)).1
  have hl6 := stk_len (wfP_le hrw.1 (Nat.le_of_lt hp))
  have hl : (stk (mSo S0 f.1.2.1) f.2.1).length = (stk (mSo S0 f.1.2.1) o).length + 1 := by rw [stk_head g1]; rfl
  obtain ⟨l, hll⟩ : ∃ l : Nat, (stk (mSo S0 f.1.2.1) o).length = l := ⟨_, rfl⟩
  obtain ⟨x, hx⟩ : ∃ x, mSo S0 f.1.2.1 o = x := ⟨_, rfl⟩
  have gso : S0 190 (25 * f.1.2.1 + o) = x := hx
  have gar : x = 14 → S0 196 (25 * f.1.2.1 + o) = (l : Int) := fun z => by
    have := (wk_ar hrw o (by omega)).2
    rw [show S0 196 (25 * f.1.2.1 + o) = mAr S0 f.1.2.1 o from rfl, this]
    unfold arA
    rw [if_neg (by omega), hll]
  have ehr : ehR S0 f.1.2.1 f.2.1 f.2.2 = if x = 14 then f.2.2.2.2.2 l else 0 := by
    unfold ehR
    rw [eh, hx]
    by_cases z : x = 14
    · rw [if_pos z, if_pos z]
      unfold arA
      rw [if_neg (by omega), hll, Int.toNat_natCast]
    · rw [if_neg z, if_neg z]
  have hp2 : 0 ≤ f.2.2.2.2.2 l ∧ f.2.2.2.2.2 l ≤ 2 := ⟨(hrg.1.2.2.2 l (by omega)).1, hrg.2.2.2.2.2 l (by omega)⟩
  have hehR : 0 ≤ ehR S0 f.1.2.1 f.2.1 f.2.2 ∧ ehR S0 f.1.2.1 f.2.1 f.2.2 ≤ 2 := by rw [ehr]; split <;> omega
  rw [hx] at gs
  refine am_enter rfl rfl (Nat.le_of_ble_eq_true rfl) ?_
  refine am_aload_n rfl dX10_runEnd_0 ?_
  refine mm_getR dX10_runEnd_1 fl_X10_123 (md_0 hm) mdf_46 ?_
  refine am_iload_n rfl dX10_runEnd_4 ?_
  refine mm_ial dX10_runEnd_5 (md_atRoutine hm) (by omega) ?_
  rw [Int.toNat_natCast, h17]
  refine am_ist3 dX10_runEnd_6 (Nat.le_of_ble_eq_true rfl) (am_c1i _) ?_
  refine am_aload_n rfl dX10_runEnd_7 ?_
  refine mm_getR dX10_runEnd_8 fl_X10_48 (md_0 hm) mdf_14 ?_
  refine mm_bipush dX10_runEnd_11 (by decide) ?_
  refine am_iload_n rfl dX10_runEnd_13 ?_
  refine mm_imul dX10_runEnd_14 ?_
  refine am_iload_n rfl dX10_runEnd_15 ?_
  refine mm_iadd dX10_runEnd_16 ?_
  rw [show (25 : Int) * (f.1.2.1 : Int) + (f.2.1 : Int) = ((25 * f.1.2.1 + f.2.1 : Nat) : Int) by omega]
  refine mm_ial dX10_runEnd_17 (md_openAt hm) (by omega) ?_
  rw [Int.toNat_natCast, hbe.1 193 (by omega) (by omega), gop]
  refine am_ist4 dX10_runEnd_18 (Nat.le_of_ble_eq_true rfl) (am_c1i _) ?_
  refine am_aload_n rfl dX10_runEnd_20 ?_
  refine mm_getR dX10_runEnd_21 fl_X10_39 (md_0 hm) mdf_11 ?_
  refine mm_bipush dX10_runEnd_24 (by decide) ?_
  refine am_iload_n rfl dX10_runEnd_26 ?_
  refine mm_imul dX10_runEnd_27 ?_
  refine am_iload rfl dX10_runEnd_28 ?_
  refine mm_iadd dX10_runEnd_30 ?_
  rw [show (25 : Int) * (f.1.2.1 : Int) + (o : Int) = ((25 * f.1.2.1 + o : Nat) : Int) by omega]
  refine mm_ial dX10_runEnd_31 (md_sortAt hm) (by omega) ?_
  rw [Int.toNat_natCast, hbe.1 190 (by omega) (by omega), gso]
  refine am_ist5 dX10_runEnd_32 (Nat.le_of_ble_eq_true rfl) (am_c1i _) ?_
  refine am_iload rfl dX10_runEnd_34 ?_
  refine mm_bipush dX10_runEnd_36 (by decide) ?_
  refine mm_jne (tgt := 66) dX10_runEnd_38 (by decide) (by omega) (by omega) (fun h38 => ?_) (fun h38 => ?_)
  · refine mm_iconst dX10_runEnd_66 ?_
    first
      | rw [show iI (f.2.2.2.2.2 l) = iI (ehR S0 f.1.2.1 f.2.1 f.2.2) from congrArg iI (by rw [ehr, if_pos h38])]
      | rw [show iI 0 = iI (ehR S0 f.1.2.1 f.2.1 f.2.2) from congrArg iI (by rw [ehr, if_neg h38])]
    refine am_ist6 dX10_runEnd_67 (Nat.le_of_ble_eq_true rfl) (am_c1i _) ?_
    refine am_iload rfl dX10_runEnd_69 ?_
    refine mm_zle (tgt := 83) dX10_runEnd_71 (by decide) (by omega) (fun h71 => ?_) (fun h71 => ?_)
    · refine am_aload_n rfl dX10_runEnd_83 ?_
      refine am_iload rfl dX10_runEnd_84 ?_
      refine mm_iconst dX10_runEnd_86 ?_
      refine mm_jeq (tgt := 96) dX10_runEnd_87 (by decide) (by omega) (by omega) (fun h87 => ?_) (fun h87 => ?_)
      · refine am_iload rfl dX10_runEnd_96 ?_
        refine am_goto (tgt := 104) dX10_runEnd_98 (by decide) ?_
        first
          | (have hto : 0 ≤ (o : Int) ∧ (o : Int) ≤ S0 189 f.1.2.1 := by omega
             have ezt : (if x = 4 ∨ x = 5 then (o : Int) else (f.2.1 : Int) + 1) = (o : Int) := if_pos (by omega))
          | (have hto : 0 ≤ (f.2.1 : Int) + 1 ∧ (f.2.1 : Int) + 1 ≤ S0 189 f.1.2.1 := by omega
             have ezt : (if x = 4 ∨ x = 5 then (o : Int) else (f.2.1 : Int) + 1) = (f.2.1 : Int) + 1 := if_neg (by omega))
        refine am_cxv (mm_V1 dX10_runEnd_104 in_X10_runsTo mk_X10_367 im_X10_runsTo sl_X10_runsTo ⟨Nat.le_of_ble_eq_true rfl, Nat.le_of_ble_eq_true rfl⟩ rfl (md_0 hm) (Nat.le_of_ble_eq_true rfl)) (m_to hm hbW hmr hto) (fun M1 hq2 => ?_)
        obtain ⟨S4, rfl, hmr4, -⟩ := hq2
        refine am_return dX10_runEnd_107 rfl ?_
        first
          | (refine ⟨rfl, S4, rfl, ?_⟩
             have ez : zcR S0 f.1.2.1 f.2.1 f.2.2 = otR S0 f.1.2.1 f.2.1 (ehR S0 f.1.2.1 f.2.1 f.2.2) f.2.2 := by unfold zcR; rw [if_pos (by omega)]
             rw [ez]
             exact hmr4)
          | (refine ⟨rfl, S4, rfl, ?_⟩
             have ez : zcR S0 f.1.2.1 f.2.1 f.2.2 = gtR S0 f.1.2.1 (if x = 4 ∨ x = 5 then (o : Int) else (f.2.1 : Int) + 1) f.2.2 := by unfold zcR; rw [if_neg (by omega), eh, hx]
             rw [ez, ezt]
             exact hmr4)
      · refine am_iload rfl dX10_runEnd_90 ?_
        refine mm_iconst dX10_runEnd_92 ?_
        refine mm_jne (tgt := 101) dX10_runEnd_93 (by decide) (by omega) (by omega) (fun h93 => ?_) (fun h93 => ?_)
        · refine am_iload_n rfl dX10_runEnd_101 ?_
          refine mm_iconst dX10_runEnd_102 ?_
          refine mm_iadd dX10_runEnd_103 ?_
          first
            | (have hto : 0 ≤ (o : Int) ∧ (o : Int) ≤ S0 189 f.1.2.1 := by omega
               have ezt : (if x = 4 ∨ x = 5 then (o : Int) else (f.2.1 : Int) + 1) = (o : Int) := if_pos (by omega))
            | (have hto : 0 ≤ (f.2.1 : Int) + 1 ∧ (f.2.1 : Int) + 1 ≤ S0 189 f.1.2.1 := by omega
               have ezt : (if x = 4 ∨ x = 5 then (o : Int) else (f.2.1 : Int) + 1) = (f.2.1 : Int) + 1 := if_neg (by omega))
          refine am_cxv (mm_V1 dX10_runEnd_104 in_X10_runsTo mk_X10_367 im_X10_runsTo sl_X10_runsTo ⟨Nat.le_of_ble_eq_true rfl, Nat.le_of_ble_eq_true rfl⟩ rfl (md_0 hm) (Nat.le_of_ble_eq_true rfl)) (m_to hm hbW hmr hto) (fun M1 hq2 => ?_)
          obtain ⟨S4, rfl, hmr4, -⟩ := hq2
          refine am_return dX10_runEnd_107 rfl ?_
          first
            | (refine ⟨rfl, S4, rfl, ?_⟩
               have ez : zcR S0 f.1.2.1 f.2.1 f.2.2 = otR S0 f.1.2.1 f.2.1 (ehR S0 f.1.2.1 f.2.1 f.2.2) f.2.2 := by unfold zcR; rw [if_pos (by omega)]
               rw [ez]
               exact hmr4)
            | (refine ⟨rfl, S4, rfl, ?_⟩
               have ez : zcR S0 f.1.2.1 f.2.1 f.2.2 = gtR S0 f.1.2.1 (if x = 4 ∨ x = 5 then (o : Int) else (f.2.1 : Int) + 1) f.2.2 := by unfold zcR; rw [if_neg (by omega), eh, hx]
               rw [ez, ezt]
               exact hmr4)
        · refine am_iload rfl dX10_runEnd_96 ?_
          refine am_goto (tgt := 104) dX10_runEnd_98 (by decide) ?_
          first
            | (have hto : 0 ≤ (o : Int) ∧ (o : Int) ≤ S0 189 f.1.2.1 := by omega
               have ezt : (if x = 4 ∨ x = 5 then (o : Int) else (f.2.1 : Int) + 1) = (o : Int) := if_pos (by omega))
            | (have hto : 0 ≤ (f.2.1 : Int) + 1 ∧ (f.2.1 : Int) + 1 ≤ S0 189 f.1.2.1 := by omega
               have ezt : (if x = 4 ∨ x = 5 then (o : Int) else (f.2.1 : Int) + 1) = (f.2.1 : Int) + 1 := if_neg (by omega))
          refine am_cxv (mm_V1 dX10_runEnd_104 in_X10_runsTo mk_X10_367 im_X10_runsTo sl_X10_runsTo ⟨Nat.le_of_ble_eq_true rfl, Nat.le_of_ble_eq_true rfl⟩ rfl (md_0 hm) (Nat.le_of_ble_eq_true rfl)) (m_to hm hbW hmr hto) (fun M1 hq2 => ?_)
          obtain ⟨S4, rfl, hmr4, -⟩ := hq2
          refine am_return dX10_runEnd_107 rfl ?_
          first
            | (refine ⟨rfl, S4, rfl, ?_⟩
               have ez : zcR S0 f.1.2.1 f.2.1 f.2.2 = otR S0 f.1.2.1 f.2.1 (ehR S0 f.1.2.1 f.2.1 f.2.2) f.2.2 := by unfold zcR; rw [if_pos (by omega)]
               rw [ez]
               exact hmr4)
            | (refine ⟨rfl, S4, rfl, ?_⟩
               have ez : zcR S0 f.1.2.1 f.2.1 f.2.2 = gtR S0 f.1.2.1 (if x = 4 ∨ x = 5 then (o : Int) else (f.2.1 : Int) + 1) f.2.2 := by unfold zcR; rw [if_neg (by omega), eh, hx]
               rw [ez, ezt]
               exact hmr4)
    · exfalso; omega
  · refine am_aload_n rfl dX10_runEnd_41 ?_
    refine mm_getR dX10_runEnd_42 fl_X10_135 (md_0 hm) mdf_50 ?_
    refine mm_bipush dX10_runEnd_45 (by decide) ?_
    refine am_iload_n rfl dX10_runEnd_47 ?_
    refine mm_imul dX10_runEnd_48 ?_
    refine am_aload_n rfl dX10_runEnd_49 ?_
    refine mm_getR dX10_runEnd_50 fl_X10_57 (md_0 hm) mdf_17 ?_
    refine mm_bipush dX10_runEnd_53 (by decide) ?_
    refine am_iload_n rfl dX10_runEnd_55 ?_
    refine mm_imul dX10_runEnd_56 ?_
    refine am_iload rfl dX10_runEnd_57 ?_
    refine mm_iadd dX10_runEnd_59 ?_
    rw [show (25 : Int) * (f.1.2.1 : Int) + (o : Int) = ((25 * f.1.2.1 + o : Nat) : Int) by omega]
    refine mm_ial dX10_runEnd_60 (md_around hm) (by omega) ?_
    rw [Int.toNat_natCast, hbe.1 196 (by omega) (by omega), gar h38]
    refine mm_iadd dX10_runEnd_61 ?_
    rw [show (6 : Int) * (t.length : Int) + (l : Int) = ((6 * t.length + l : Nat) : Int) by omega]
    refine mm_ial dX10_runEnd_62 (md_goesOn hm) (by omega) ?_
    rw [Int.toNat_natCast, ← (hP l (by omega)).2]
    refine am_goto (tgt := 67) dX10_runEnd_63 (by decide) ?_
    first
      | rw [show iI (f.2.2.2.2.2 l) = iI (ehR S0 f.1.2.1 f.2.1 f.2.2) from congrArg iI (by rw [ehr, if_pos h38])]
      | rw [show iI 0 = iI (ehR S0 f.1.2.1 f.2.1 f.2.2) from congrArg iI (by rw [ehr, if_neg h38])]
    refine am_ist6 dX10_runEnd_67 (Nat.le_of_ble_eq_true rfl) (am_c1i _) ?_
    refine am_iload rfl dX10_runEnd_69 ?_
    refine mm_zle (tgt := 83) dX10_runEnd_71 (by decide) (by omega) (fun h71 => ?_) (fun h71 => ?_)
    · refine am_aload_n rfl dX10_runEnd_83 ?_
      refine am_iload rfl dX10_runEnd_84 ?_
      refine mm_iconst dX10_runEnd_86 ?_
      refine mm_jeq (tgt := 96) dX10_runEnd_87 (by decide) (by omega) (by omega) (fun h87 => ?_) (fun h87 => ?_)
      · refine am_iload rfl dX10_runEnd_96 ?_
        refine am_goto (tgt := 104) dX10_runEnd_98 (by decide) ?_
        first
          | (have hto : 0 ≤ (o : Int) ∧ (o : Int) ≤ S0 189 f.1.2.1 := by omega
             have ezt : (if x = 4 ∨ x = 5 then (o : Int) else (f.2.1 : Int) + 1) = (o : Int) := if_pos (by omega))
          | (have hto : 0 ≤ (f.2.1 : Int) + 1 ∧ (f.2.1 : Int) + 1 ≤ S0 189 f.1.2.1 := by omega
             have ezt : (if x = 4 ∨ x = 5 then (o : Int) else (f.2.1 : Int) + 1) = (f.2.1 : Int) + 1 := if_neg (by omega))
        refine am_cxv (mm_V1 dX10_runEnd_104 in_X10_runsTo mk_X10_367 im_X10_runsTo sl_X10_runsTo ⟨Nat.le_of_ble_eq_true rfl, Nat.le_of_ble_eq_true rfl⟩ rfl (md_0 hm) (Nat.le_of_ble_eq_true rfl)) (m_to hm hbW hmr hto) (fun M1 hq2 => ?_)
        obtain ⟨S4, rfl, hmr4, -⟩ := hq2
        refine am_return dX10_runEnd_107 rfl ?_
        first
          | (refine ⟨rfl, S4, rfl, ?_⟩
             have ez : zcR S0 f.1.2.1 f.2.1 f.2.2 = otR S0 f.1.2.1 f.2.1 (ehR S0 f.1.2.1 f.2.1 f.2.2) f.2.2 := by unfold zcR; rw [if_pos (by omega)]
             rw [ez]
             exact hmr4)
          | (refine ⟨rfl, S4, rfl, ?_⟩
             have ez : zcR S0 f.1.2.1 f.2.1 f.2.2 = gtR S0 f.1.2.1 (if x = 4 ∨ x = 5 then (o : Int) else (f.2.1 : Int) + 1) f.2.2 := by unfold zcR; rw [if_neg (by omega), eh, hx]
             rw [ez, ezt]
             exact hmr4)
      · refine am_iload rfl dX10_runEnd_90 ?_
        refine mm_iconst dX10_runEnd_92 ?_
        refine mm_jne (tgt := 101) dX10_runEnd_93 (by decide) (by omega) (by omega) (fun h93 => ?_) (fun h93 => ?_)
        · refine am_iload_n rfl dX10_runEnd_101 ?_
          refine mm_iconst dX10_runEnd_102 ?_
          refine mm_iadd dX10_runEnd_103 ?_
          first
            | (have hto : 0 ≤ (o : Int) ∧ (o : Int) ≤ S0 189 f.1.2.1 := by omega
               have ezt : (if x = 4 ∨ x = 5 then (o : Int) else (f.2.1 : Int) + 1) = (o : Int) := if_pos (by omega))
            | (have hto : 0 ≤ (f.2.1 : Int) + 1 ∧ (f.2.1 : Int) + 1 ≤ S0 189 f.1.2.1 := by omega
               have ezt : (if x = 4 ∨ x = 5 then (o : Int) else (f.2.1 : Int) + 1) = (f.2.1 : Int) + 1 := if_neg (by omega))
          refine am_cxv (mm_V1 dX10_runEnd_104 in_X10_runsTo mk_X10_367 im_X10_runsTo sl_X10_runsTo ⟨Nat.le_of_ble_eq_true rfl, Nat.le_of_ble_eq_true rfl⟩ rfl (md_0 hm) (Nat.le_of_ble_eq_true rfl)) (m_to hm hbW hmr hto) (fun M1 hq2 => ?_)
          obtain ⟨S4, rfl, hmr4, -⟩ := hq2
          refine am_return dX10_runEnd_107 rfl ?_
          first
            | (refine ⟨rfl, S4, rfl, ?_⟩
               have ez : zcR S0 f.1.2.1 f.2.1 f.2.2 = otR S0 f.1.2.1 f.2.1 (ehR S0 f.1.2.1 f.2.1 f.2.2) f.2.2 := by unfold zcR; rw [if_pos (by omega)]
               rw [ez]
               exact hmr4)
            | (refine ⟨rfl, S4, rfl, ?_⟩
               have ez : zcR S0 f.1.2.1 f.2.1 f.2.2 = gtR S0 f.1.2.1 (if x = 4 ∨ x = 5 then (o : Int) else (f.2.1 : Int) + 1) f.2.2 := by unfold zcR; rw [if_neg (by omega), eh, hx]
               rw [ez, ezt]
               exact hmr4)
        · refine am_iload rfl dX10_runEnd_96 ?_
          refine am_goto (tgt := 104) dX10_runEnd_98 (by decide) ?_
          first
            | (have hto : 0 ≤ (o : Int) ∧ (o : Int) ≤ S0 189 f.1.2.1 := by omega
               have ezt : (if x = 4 ∨ x = 5 then (o : Int) else (f.2.1 : Int) + 1) = (o : Int) := if_pos (by omega))
            | (have hto : 0 ≤ (f.2.1 : Int) + 1 ∧ (f.2.1 : Int) + 1 ≤ S0 189 f.1.2.1 := by omega
               have ezt : (if x = 4 ∨ x = 5 then (o : Int) else (f.2.1 : Int) + 1) = (f.2.1 : Int) + 1 := if_neg (by omega))
          refine am_cxv (mm_V1 dX10_runEnd_104 in_X10_runsTo mk_X10_367 im_X10_runsTo sl_X10_runsTo ⟨Nat.le_of_ble_eq_true rfl, Nat.le_of_ble_eq_true rfl⟩ rfl (md_0 hm) (Nat.le_of_ble_eq_true rfl)) (m_to hm hbW hmr hto) (fun M1 hq2 => ?_)
          obtain ⟨S4, rfl, hmr4, -⟩ := hq2
          refine am_return dX10_runEnd_107 rfl ?_
          first
            | (refine ⟨rfl, S4, rfl, ?_⟩
               have ez : zcR S0 f.1.2.1 f.2.1 f.2.2 = otR S0 f.1.2.1 f.2.1 (ehR S0 f.1.2.1 f.2.1 f.2.2) f.2.2 := by unfold zcR; rw [if_pos (by omega)]
               rw [ez]
               exact hmr4)
            | (refine ⟨rfl, S4, rfl, ?_⟩
               have ez : zcR S0 f.1.2.1 f.2.1 f.2.2 = gtR S0 f.1.2.1 (if x = 4 ∨ x = 5 then (o : Int) else (f.2.1 : Int) + 1) f.2.2 := by unfold zcR; rw [if_neg (by omega), eh, hx]
               rw [ez, ezt]
               exact hmr4)
    · refine am_aload_n rfl dX10_runEnd_74 ?_
      refine am_iload rfl dX10_runEnd_75 ?_
      refine am_cxv (mm_V1 dX10_runEnd_77 in_X10_outOf mk_X10_370 im_X10_outOf sl_X10_outOf ⟨Nat.le_of_ble_eq_true rfl, Nat.le_of_ble_eq_true rfl⟩ rfl (md_0 hm) (Nat.le_of_ble_eq_true rfl)) (m_outOf (w := ehR S0 f.1.2.1 f.2.1 f.2.2) hm hbW hmr (by omega)) (fun M1 hq2 => ?_)
      obtain ⟨S4, rfl, hmr4⟩ := hq2
      refine am_goto (tgt := 107) dX10_runEnd_80 (by decide) ?_
      refine am_return dX10_runEnd_107 rfl ?_
      first
        | (refine ⟨rfl, S4, rfl, ?_⟩
           have ez : zcR S0 f.1.2.1 f.2.1 f.2.2 = otR S0 f.1.2.1 f.2.1 (ehR S0 f.1.2.1 f.2.1 f.2.2) f.2.2 := by unfold zcR; rw [if_pos (by omega)]
           rw [ez]
           exact hmr4)
        | (refine ⟨rfl, S4, rfl, ?_⟩
           have ez : zcR S0 f.1.2.1 f.2.1 f.2.2 = gtR S0 f.1.2.1 (if x = 4 ∨ x = 5 then (o : Int) else (f.2.1 : Int) + 1) f.2.2 := by unfold zcR; rw [if_neg (by omega), eh, hx]
           rw [ez, ezt]
           exact hmr4)
set_option maxRecDepth 100000 in
set_option maxHeartbeats 4000000 in
theorem l_mren {sh : List mm_H} {S1 : mm_S} {L : mm_L} (hm : mdS sh) {k : Nat} (hk : k < 10) {h : Int} (hh : -1 ≤ h ∧ h < 500) (hnR : ∀ v, v < 5 → Rg (S1 220 (5 * k + v))) {l2 l3 l4 : Option Value} {Q : Option Value → am_M → Prop} (kk : ∀ (iv : Int) l7, tells iv (h = -1 ∨ ∃ u, u < 5 ∧ S1 220 (5 * k + u) = h) → am_AW eX10_runRename (mm sh S1 L) 72 [some (.ref 181), some (.int (iI (k : Int))), l2, l3, l4, some (.int (iI h)), some (.int (iI iv)), l7] [] Q) : ∀ (q : Nat) (v : Nat) (iv : Int), 5 - v < q → (v ≤ 5) → (tells iv (h = -1 ∨ ∃ u, u < v ∧ S1 220 (5 * k + u) = h)) → am_AW eX10_runRename (mm sh S1 L) 36 [some (.ref 181), some (.int (iI (k : Int))), l2, l3, l4, some (.int (iI h)), some (.int (iI iv)), some (.int (iI (v : Int)))] [] Q := by
  intro q
  induction q with
  | zero =>
    intro v iv hq
    exact absurd hq (Nat.not_lt_zero _)
  | succ q ih =>
    intro v iv hq hv hte
    have hiv := tells_01 hte
    refine am_iload rfl dX10_runRename_36 ?_
    refine mm_iconst dX10_runRename_38 ?_
    refine mm_jge (tgt := 72) dX10_runRename_39 (by decide) (by omega) (by omega) (fun h39 => ?_) (fun h39 => ?_)
    · have h5 : v = 5 := by omega
      subst h5
      exact kk iv _ hte
    · refine am_iload rfl dX10_runRename_42 ?_
      refine mm_zne (tgt := 59) dX10_runRename_44 (by decide) (by omega) (fun h44 => ?_) (fun h44 => ?_)
      · refine mm_iconst dX10_runRename_59 ?_
        refine am_goto (tgt := 64) dX10_runRename_60 (by decide) ?_
        refine am_ist6 dX10_runRename_64 (Nat.le_of_ble_eq_true rfl) (am_c1i _) ?_
        refine mm_inc7 dX10_runRename_66 (Nat.le_of_ble_eq_true rfl) (am_c1i _) ?_
        refine am_goto (tgt := 36) dX10_runRename_69 (by decide) ?_
        first
          | (refine ih (v + 1) 1 (by omega) (by omega) (Or.inl ⟨rfl, ?_⟩)
             first
               | (have hivn : iv ≠ 0 := by omega
                  rcases tells_t hte hivn with z | ⟨u, z1, z2⟩
                  · exact Or.inl z
                  · exact Or.inr ⟨u, by omega, z2⟩)
               | exact Or.inr ⟨v, by omega, by omega⟩)
          | (refine ih (v + 1) 0 (by omega) (by omega) (Or.inr ⟨rfl, fun z => ?_⟩)
             rcases z with z | ⟨u, z1, z2⟩
             · exact tells_f hte (by omega) (Or.inl z)
             · by_cases w : u = v
               · subst w; omega
               · exact tells_f hte (by omega) (Or.inr ⟨u, by omega, z2⟩))
      · refine am_aload_n rfl dX10_runRename_47 ?_
        refine am_iload_n rfl dX10_runRename_48 ?_
        refine am_iload rfl dX10_runRename_49 ?_
        refine am_ci (mm_V2 dX10_runRename_51 in_X10_named mk_X10_376 im_X10_named sl_X10_named ⟨Nat.le_of_ble_eq_true rfl, Nat.le_of_ble_eq_true rfl⟩ rfl (md_0 hm) (Nat.le_of_ble_eq_true rfl)) (m_named (v := v) hm hk (by omega)) ?_
        refine am_iload rfl dX10_runRename_54 ?_
        have hnv := hnR v (by omega)
        refine mm_jne (tgt := 63) dX10_runRename_56 (by decide) (by omega) (by omega) (fun h56 => ?_) (fun h56 => ?_)
        · refine mm_iconst dX10_runRename_63 ?_
          refine am_ist6 dX10_runRename_64 (Nat.le_of_ble_eq_true rfl) (am_c1i _) ?_
          refine mm_inc7 dX10_runRename_66 (Nat.le_of_ble_eq_true rfl) (am_c1i _) ?_
          refine am_goto (tgt := 36) dX10_runRename_69 (by decide) ?_
          first
            | (refine ih (v + 1) 1 (by omega) (by omega) (Or.inl ⟨rfl, ?_⟩)
               first
                 | (have hivn : iv ≠ 0 := by omega
                    rcases tells_t hte hivn with z | ⟨u, z1, z2⟩
                    · exact Or.inl z
                    · exact Or.inr ⟨u, by omega, z2⟩)
                 | exact Or.inr ⟨v, by omega, by omega⟩)
            | (refine ih (v + 1) 0 (by omega) (by omega) (Or.inr ⟨rfl, fun z => ?_⟩)
               rcases z with z | ⟨u, z1, z2⟩
               · exact tells_f hte (by omega) (Or.inl z)
               · by_cases w : u = v
                 · subst w; omega
                 · exact tells_f hte (by omega) (Or.inr ⟨u, by omega, z2⟩))
        · refine mm_iconst dX10_runRename_59 ?_
          refine am_goto (tgt := 64) dX10_runRename_60 (by decide) ?_
          refine am_ist6 dX10_runRename_64 (Nat.le_of_ble_eq_true rfl) (am_c1i _) ?_
          refine mm_inc7 dX10_runRename_66 (Nat.le_of_ble_eq_true rfl) (am_c1i _) ?_
          refine am_goto (tgt := 36) dX10_runRename_69 (by decide) ?_
          first
            | (refine ih (v + 1) 1 (by omega) (by omega) (Or.inl ⟨rfl, ?_⟩)
               first
                 | (have hivn : iv ≠ 0 := by omega
                    rcases tells_t hte hivn with z | ⟨u, z1, z2⟩
                    · exact Or.inl z
                    · exact Or.inr ⟨u, by omega, z2⟩)
                 | exact Or.inr ⟨v, by omega, by omega⟩)
            | (refine ih (v + 1) 0 (by omega) (by omega) (Or.inr ⟨rfl, fun z => ?_⟩)
               rcases z with z | ⟨u, z1, z2⟩
               · exact tells_f hte (by omega) (Or.inl z)
               · by_cases w : u = v
                 · subst w; omega
                 · exact tells_f hte (by omega) (Or.inr ⟨u, by omega, z2⟩))
set_option maxRecDepth 100000 in
set_option maxHeartbeats 4000000 in
theorem l_mren2 {sh : List mm_H} {L : mm_L} (hm : mdS sh) {S0 : mm_S} (hbW : mbW S0) {S S1 : mm_S} {n : Int} {f1 : Fr} {t : List Fr} {as dn ms : Int} (hv : mdV S) {k a : Nat} (hkt : k = t.length) (hk : k < 10) (ha : a < 5) {x : Int} (hx : -1 ≤ x ∧ x < 500) {pl : Nat} (hd : S 181 45 = (k : Int) + 1) (hS1 : S1 = up2 S 220 (5 * k + a) x) (hnR : ∀ v, v < 5 → -1 ≤ S 220 (5 * k + v) ∧ S 220 (5 * k + v) < 500) (hTh : ∀ i : Nat, (i : Int) = S 220 (5 * k + a) → Rg (S 216 i) ∧ (0 ≤ S 214 i ∧ S 214 i < 6) ∧ (0 ≤ S 215 i ∧ S 215 i < 6)) (hmr1 : ¬ (S 220 (5 * k + a) ≠ -1 ∧ (∀ v, v < 5 → S1 220 (5 * k + v) ≠ S 220 (5 * k + a)) ∧ S 216 (S 220 (5 * k + a)).toNat = (k : Int) ∧ ¬ mE S (S 214 (S 220 (5 * k + a)).toNat) (S 215 (S 220 (5 * k + a)).toNat)) → mrS S0 S1 n (f1 :: t, 0, as, dn, ms)) (hto : (pl : Int) + 1 ≤ S0 189 f1.1.2.1) {iv : Int} (hte : tells iv (S 220 (5 * k + a) = -1 ∨ ∃ u, u < 5 ∧ S1 220 (5 * k + u) = S 220 (5 * k + a))) {l3 l4 l7 : Option Value} : am_AW eX10_runRename (mm sh S1 L) 72 [some (.ref 181), some (.int (iI (k : Int))), some (.int (iI (pl : Int))), l3, l4, some (.int (iI (S 220 (5 * k + a)))), some (.int (iI iv)), l7] [] (fun r0 M' => r0 = none ∧ ∃ S', M' = mm sh S' L ∧ (((S 220 (5 * k + a) ≠ -1 ∧ (∀ v, v < 5 → S1 220 (5 * k + v) ≠ S 220 (5 * k + a)) ∧ S 216 (S 220 (5 * k + a)).toNat = (k : Int) ∧ ¬ mE S (S 214 (S 220 (5 * k + a)).toNat) (S 215 (S 220 (5 * k + a)).toNat)) ∧ S' = up2 (up2 (up2 S1 181 56 5) 181 57 (S 217 k)) 181 58 (pl : Int)) ∨ (¬ (S 220 (5 * k + a) ≠ -1 ∧ (∀ v, v < 5 → S1 220 (5 * k + v) ≠ S 220 (5 * k + a)) ∧ S 216 (S 220 (5 * k + a)).toNat = (k : Int) ∧ ¬ mE S (S 214 (S 220 (5 * k + a)).toNat) (S 215 (S 220 (5 * k + a)).toNat)) ∧ mrS S0 S' n ((f1.1, pl + 1, (gtR S0 f1.1.2.1 ((pl : Int) + 1) f1.2.2).2.2) :: t, 0, as, dn, ms)))) := by
  have hiv := tells_01 hte
  have hha := hnR a ha
  refine am_iload rfl dX10_runRename_72 ?_
  refine mm_zne (tgt := 96) dX10_runRename_74 (by decide) (by omega) (fun h74 => ?_) (fun h74 => ?_)
  · have hnl : ¬ (S 220 (5 * k + a) ≠ -1 ∧ (∀ v, v < 5 → S1 220 (5 * k + v) ≠ S 220 (5 * k + a)) ∧ S 216 (S 220 (5 * k + a)).toNat = (k : Int) ∧ ¬ mE S (S 214 (S 220 (5 * k + a)).toNat) (S 215 (S 220 (5 * k + a)).toNat)) := by
      intro q
      first
        | (have hivn : iv ≠ 0 := by omega
           rcases tells_t hte hivn with z | ⟨u, z1, z2⟩
           · exact q.1 z
           · exact q.2.1 u z1 z2)
        | (apply h84
           rw [r1 216 (by omega), r1 214 (by omega), r1 215 (by omega)]
           have q3 := q.2.2
           rw [hi, Int.toNat_natCast] at q3
           have q4 := q3.2
           refine ⟨q3.1, fun z => q4 ?_⟩
           unfold mE at *
           rw [r1 183 (by omega)] at z
           exact z)
    have hmr := hmr1 hnl
    refine am_aload_n rfl dX10_runRename_96 ?_
    refine am_iload_n rfl dX10_runRename_97 ?_
    refine mm_iconst dX10_runRename_98 ?_
    refine mm_iadd dX10_runRename_99 ?_
    refine am_cxv (mm_V1 dX10_runRename_100 in_X10_runsTo mk_X10_367 im_X10_runsTo sl_X10_runsTo ⟨Nat.le_of_ble_eq_true rfl, Nat.le_of_ble_eq_true rfl⟩ rfl (md_0 hm) (Nat.le_of_ble_eq_true rfl)) (m_to (to := (pl : Int) + 1) hm hbW hmr ⟨by omega, hto⟩) (fun M1 hq2 => ?_)
    obtain ⟨S4, rfl, hmr4, -⟩ := hq2
    refine am_return dX10_runRename_103 rfl ?_
    first
      | exact ⟨rfl, S4, rfl, Or.inr ⟨hnl, hmr4⟩⟩
      | (refine ⟨rfl, _, rfl, Or.inl ⟨⟨fun z => hni (Or.inl z), fun v y1 y2 => hni (Or.inr ⟨v, y1, y2⟩), ?_⟩, ?_⟩⟩
         · have q := h84
           rw [r1 216 (by omega), r1 214 (by omega), r1 215 (by omega)] at q
           rw [hi, Int.toNat_natCast]
           refine ⟨q.1, fun z => q.2 ?_⟩
           unfold mE at *
           rw [r1 183 (by omega)]
           exact z
         · rw [r1 217 (by omega)])
  · refine am_aload_n rfl dX10_runRename_77 ?_
    refine am_iload rfl dX10_runRename_78 ?_
    refine am_iload_n rfl dX10_runRename_80 ?_
    have hni : ¬ (S 220 (5 * k + a) = -1 ∨ ∃ u, u < 5 ∧ S1 220 (5 * k + u) = S 220 (5 * k + a)) := tells_f hte (by omega)
    obtain ⟨i, hi⟩ : ∃ i : Nat, S 220 (5 * k + a) = (i : Int) := ⟨(S 220 (5 * k + a)).toNat, by have : S 220 (5 * k + a) ≠ -1 := fun z => hni (Or.inl z); omega⟩
    have hT := hTh i hi.symm
    rw [show iI (S 220 (5 * k + a)) = iI (i : Int) from congrArg iI hi]
    have r1 : ∀ b, b ≠ 220 → S1 b = S b := fun b hb => by rw [hS1, up2_row hb]
    refine am_ci (mm_V2 dX10_runRename_81 in_X10_isLeftOf mk_X10_361 im_X10_isLeftOf sl_X10_isLeftOf ⟨Nat.le_of_ble_eq_true rfl, Nat.le_of_ble_eq_true rfl⟩ rfl (md_0 hm) (Nat.le_of_ble_eq_true rfl)) (m_isLeftOf (S := S1) (t := i) (k := k) hm (by unfold mdV at *; rw [r1 181 (by omega), r1 182 (by omega), r1 183 (by omega), r1 184 (by omega), r1 185 (by omega), r1 189 (by omega)]; exact hv) (by omega) (by rw [r1 216 (by omega)]; exact hT.1) hk (by rw [r1 214 (by omega)]; exact hT.2.1) (by rw [r1 215 (by omega)]; exact hT.2.2)) ?_
    refine mm_beq (tgt := 96) dX10_runRename_84 (by decide) (fun h84 => ?_) (fun h84 => ?_)
    · have hnl : ¬ (S 220 (5 * k + a) ≠ -1 ∧ (∀ v, v < 5 → S1 220 (5 * k + v) ≠ S 220 (5 * k + a)) ∧ S 216 (S 220 (5 * k + a)).toNat = (k : Int) ∧ ¬ mE S (S 214 (S 220 (5 * k + a)).toNat) (S 215 (S 220 (5 * k + a)).toNat)) := by
        intro q
        first
          | (have hivn : iv ≠ 0 := by omega
             rcases tells_t hte hivn with z | ⟨u, z1, z2⟩
             · exact q.1 z
             · exact q.2.1 u z1 z2)
          | (apply h84
             rw [r1 216 (by omega), r1 214 (by omega), r1 215 (by omega)]
             have q3 := q.2.2
             rw [hi, Int.toNat_natCast] at q3
             have q4 := q3.2
             refine ⟨q3.1, fun z => q4 ?_⟩
             unfold mE at *
             rw [r1 183 (by omega)] at z
             exact z)
      have hmr := hmr1 hnl
      refine am_aload_n rfl dX10_runRename_96 ?_
      refine am_iload_n rfl dX10_runRename_97 ?_
      refine mm_iconst dX10_runRename_98 ?_
      refine mm_iadd dX10_runRename_99 ?_
      refine am_cxv (mm_V1 dX10_runRename_100 in_X10_runsTo mk_X10_367 im_X10_runsTo sl_X10_runsTo ⟨Nat.le_of_ble_eq_true rfl, Nat.le_of_ble_eq_true rfl⟩ rfl (md_0 hm) (Nat.le_of_ble_eq_true rfl)) (m_to (to := (pl : Int) + 1) hm hbW hmr ⟨by omega, hto⟩) (fun M1 hq2 => ?_)
      obtain ⟨S4, rfl, hmr4, -⟩ := hq2
      refine am_return dX10_runRename_103 rfl ?_
      first
        | exact ⟨rfl, S4, rfl, Or.inr ⟨hnl, hmr4⟩⟩
        | (refine ⟨rfl, _, rfl, Or.inl ⟨⟨fun z => hni (Or.inl z), fun v y1 y2 => hni (Or.inr ⟨v, y1, y2⟩), ?_⟩, ?_⟩⟩
           · have q := h84
             rw [r1 216 (by omega), r1 214 (by omega), r1 215 (by omega)] at q
             rw [hi, Int.toNat_natCast]
             refine ⟨q.1, fun z => q.2 ?_⟩
             unfold mE at *
             rw [r1 183 (by omega)]
             exact z
           · rw [r1 217 (by omega)])
    · refine am_aload_n rfl dX10_runRename_87 ?_
      refine mm_iconst dX10_runRename_88 ?_
      refine am_iload_n rfl dX10_runRename_89 ?_
      refine am_cv (mm_V2 dX10_runRename_90 in_X10_stops mk_X10_364 im_X10_stops sl_X10_stops ⟨Nat.le_of_ble_eq_true rfl, Nat.le_of_ble_eq_true rfl⟩ rfl (md_0 hm) (Nat.le_of_ble_eq_true rfl)) (m_stops (S := S1) (k := k) hm (by rw [r1 181 (by omega)]; exact hd) hk) ?_
      refine am_goto (tgt := 103) dX10_runRename_93 (by decide) ?_
      refine am_return dX10_runRename_103 rfl ?_
      first
        | exact ⟨rfl, S4, rfl, Or.inr ⟨hnl, hmr4⟩⟩
        | (refine ⟨rfl, _, rfl, Or.inl ⟨⟨fun z => hni (Or.inl z), fun v y1 y2 => hni (Or.inr ⟨v, y1, y2⟩), ?_⟩, ?_⟩⟩
           · have q := h84
             rw [r1 216 (by omega), r1 214 (by omega), r1 215 (by omega)] at q
             rw [hi, Int.toNat_natCast]
             refine ⟨q.1, fun z => q.2 ?_⟩
             unfold mE at *
             rw [r1 183 (by omega)]
             exact z
           · rw [r1 217 (by omega)])
set_option maxRecDepth 100000 in
set_option maxHeartbeats 4000000 in
theorem m_mren {sh : List mm_H} {L : mm_L} (hm : mdS sh) {S0 : mm_S} (hbW : mbW S0) {S S1 : mm_S} {n : Int} {f1 : Fr} {t : List Fr} {as dn ms : Int} (hv : mdV S) {k a : Nat} (hkt : k = t.length) (hk : k < 10) (ha : a < 5) {x : Int} (hx : -1 ≤ x ∧ x < 500) {pl : Nat} (hd : S 181 45 = (k : Int) + 1) (hS1 : S1 = up2 S 220 (5 * k + a) x) (hnR : ∀ v, v < 5 → -1 ≤ S 220 (5 * k + v) ∧ S 220 (5 * k + v) < 500) (hTh : ∀ i : Nat, (i : Int) = S 220 (5 * k + a) → Rg (S 216 i) ∧ (0 ≤ S 214 i ∧ S 214 i < 6) ∧ (0 ≤ S 215 i ∧ S 215 i < 6)) (hmr1 : ¬ (S 220 (5 * k + a) ≠ -1 ∧ (∀ v, v < 5 → S1 220 (5 * k + v) ≠ S 220 (5 * k + a)) ∧ S 216 (S 220 (5 * k + a)).toNat = (k : Int) ∧ ¬ mE S (S 214 (S 220 (5 * k + a)).toNat) (S 215 (S 220 (5 * k + a)).toNat)) → mrS S0 S1 n (f1 :: t, 0, as, dn, ms)) (hto : (pl : Int) + 1 ≤ S0 189 f1.1.2.1) : am_E eX10_runRename [.ref 181, .int (iI (k : Int)), .int (iI (pl : Int)), .int (iI (a : Int)), .int (iI x)] (mm sh S L) (fun r0 M' => r0 = none ∧ ∃ S', M' = mm sh S' L ∧ (((S 220 (5 * k + a) ≠ -1 ∧ (∀ v, v < 5 → S1 220 (5 * k + v) ≠ S 220 (5 * k + a)) ∧ S 216 (S 220 (5 * k + a)).toNat = (k : Int) ∧ ¬ mE S (S 214 (S 220 (5 * k + a)).toNat) (S 215 (S 220 (5 * k + a)).toNat)) ∧ S' = up2 (up2 (up2 S1 181 56 5) 181 57 (S 217 k)) 181 58 (pl : Int)) ∨ (¬ (S 220 (5 * k + a) ≠ -1 ∧ (∀ v, v < 5 → S1 220 (5 * k + v) ≠ S 220 (5 * k + a)) ∧ S 216 (S 220 (5 * k + a)).toNat = (k : Int) ∧ ¬ mE S (S 214 (S 220 (5 * k + a)).toNat) (S 215 (S 220 (5 * k + a)).toNat)) ∧ mrS S0 S' n ((f1.1, pl + 1, (gtR S0 f1.1.2.1 ((pl : Int) + 1) f1.2.2).2.2) :: t, 0, as, dn, ms)))) := by
  have hha := hnR a ha
  have hn1 : ∀ v, v < 5 → Rg (S1 220 (5 * k + v)) := fun v hv2 => by
    have := hnR v hv2
    rw [hS1]
    by_cases z : v = a
    · rw [z, up2_same]; omega
    · rw [up2_rc (by omega)]; omega
  refine am_enter rfl rfl (Nat.le_of_ble_eq_true rfl) ?_
  refine am_aload_n rfl dX10_runRename_0 ?_
  refine am_iload_n rfl dX10_runRename_1 ?_
  refine am_iload_n rfl dX10_runRename_2 ?_
  refine am_ci (mm_V2 dX10_runRename_3 in_X10_named mk_X10_376 im_X10_named sl_X10_named ⟨Nat.le_of_ble_eq_true rfl, Nat.le_of_ble_eq_true rfl⟩ rfl (md_0 hm) (Nat.le_of_ble_eq_true rfl)) (m_named (v := a) hm hk ha) ?_
  refine am_ist5 dX10_runRename_6 (Nat.le_of_ble_eq_true rfl) (am_c1i _) ?_
  refine am_aload_n rfl dX10_runRename_8 ?_
  refine mm_getR dX10_runRename_9 fl_X10_132 (md_0 hm) mdf_49 ?_
  refine mm_iconst dX10_runRename_12 ?_
  refine am_iload_n rfl dX10_runRename_13 ?_
  refine mm_imul dX10_runRename_14 ?_
  refine am_iload_n rfl dX10_runRename_15 ?_
  refine mm_iadd dX10_runRename_16 ?_
  refine am_iload rfl dX10_runRename_17 ?_
  rw [show (5 : Int) * (k : Int) + (a : Int) = ((5 * k + a : Nat) : Int) by omega]
  refine mm_ias dX10_runRename_19 (md_names hm) (by omega) ?_
  rw [Int.toNat_natCast, ← hS1]
  refine am_iload rfl dX10_runRename_20 ?_
  refine mm_iconst dX10_runRename_22 ?_
  refine mm_jne (tgt := 30) dX10_runRename_23 (by decide) (by omega) (by omega) (fun h23 => ?_) (fun h23 => ?_)
  · refine mm_iconst dX10_runRename_30 ?_
    refine am_ist6 dX10_runRename_31 (Nat.le_of_ble_eq_true rfl) (am_c1i _) ?_
    refine mm_iconst dX10_runRename_33 ?_
    refine am_ist7 dX10_runRename_34 (Nat.le_of_ble_eq_true rfl) (am_c1i _) ?_
    refine l_mren (S1 := S1) hm hk hha hn1 (fun iv l7 hte => ?_) 6 0 _ (by omega) (by omega) ?_
    · exact l_mren2 hm hbW hv hkt hk ha hx hd hS1 hnR hTh hmr1 hto hte
    · first
        | exact Or.inl ⟨rfl, Or.inl (by omega)⟩
        | exact Or.inr ⟨rfl, fun z => by rcases z with z | ⟨u, z1, -⟩; exact absurd z (by omega); exact absurd z1 (Nat.not_lt_zero u)⟩
  · refine mm_iconst dX10_runRename_26 ?_
    refine am_goto (tgt := 31) dX10_runRename_27 (by decide) ?_
    refine am_ist6 dX10_runRename_31 (Nat.le_of_ble_eq_true rfl) (am_c1i _) ?_
    refine mm_iconst dX10_runRename_33 ?_
    refine am_ist7 dX10_runRename_34 (Nat.le_of_ble_eq_true rfl) (am_c1i _) ?_
    refine l_mren (S1 := S1) hm hk hha hn1 (fun iv l7 hte => ?_) 6 0 _ (by omega) (by omega) ?_
    · exact l_mren2 hm hbW hv hkt hk ha hx hd hS1 hnR hTh hmr1 hto hte
    · first
        | exact Or.inl ⟨rfl, Or.inl (by omega)⟩
        | exact Or.inr ⟨rfl, fun z => by rcases z with z | ⟨u, z1, -⟩; exact absurd z (by omega); exact absurd z1 (Nat.not_lt_zero u)⟩
