/-! ===== the same book, the same run ===== -/
theorem bk_ny {S S' : mm_S} (he : bkE S S') (A : Int → Prop) (f : Fr) (as : Int) : nyR S' A f as = nyR S A f as := by
  unfold nyR
  rw [bk_as he, bk_nx he]
theorem bk_ab {S S' : mm_S} (he : bkE S S') (A : Int → Prop) (s : aSt) : abStep S' A s = abStep S A s := by
  obtain ⟨fs, fl, as, dn, ms⟩ := s
  cases fs with
  | nil => rfl
  | cons f t =>
    have eN := bk_N he f.1.2.1
    have eL := bk_lv he f.2.2
    have eW := bk_wr he f.1 f.2.1 f.2.2
    have eS := bk_So he f.1.2.1
    have eC := bk_cl he f.1 f.2.1 f.2.2
    rcases Classical.em (fl = 1 ∨ f.2.1 = mN S f.1.2.1) with z | z
    · have z' : fl = 1 ∨ f.2.1 = mN S' f.1.2.1 := by rw [eN]; exact z
      rcases Classical.em (lvM S f.2.2) with y | y
      · rw [ab_left z y, ab_left z' (by rw [eL]; exact y), eN]
      · have y' : ¬ lvM S' f.2.2 := by rw [eL]; exact y
        cases t with
        | nil => rw [ab_over z y, ab_over z' y', eN]
        | cons g u => rw [ab_back z y, ab_back z' y', bk_cd he]
    · have z' : ¬ (fl = 1 ∨ f.2.1 = mN S' f.1.2.1) := by rw [eN]; exact z
      by_cases y1 : dn = 500
      · rw [ab_long z y1, ab_long z' y1]
      · by_cases y2 : wrR S f.1 f.2.1 f.2.2 = 0
        · have y2' : wrR S' f.1 f.2.1 f.2.2 = 0 := by rw [eW]; exact y2
          by_cases y3 : mSo S f.1.2.1 f.2.1 = 10 ∨ mSo S f.1.2.1 f.2.1 = 11
          · have y3' : mSo S' f.1.2.1 f.2.1 = 10 ∨ mSo S' f.1.2.1 f.2.1 = 11 := by rw [eS]; exact y3
            by_cases y4 : t.length = 9
            · rw [ab_deep z y1 y2 y3 y4, ab_deep z' y1 y2' y3' y4]
            · rw [ab_call z y1 y2 y3 y4, ab_call z' y1 y2' y3' y4, eC]
          · have y3' : ¬ (mSo S' f.1.2.1 f.2.1 = 10 ∨ mSo S' f.1.2.1 f.2.1 = 11) := by rw [eS]; exact y3
            rw [ab_nx z y1 y2 y3, ab_nx z' y1 y2' y3', bk_ny he, bk_as he]
        · have y2' : wrR S' f.1 f.2.1 f.2.2 ≠ 0 := by rw [eW]; exact y2
          rw [ab_wr z y1 y2, ab_wr z' y1 y2', eW]
theorem bk_run {S S' : mm_S} (he : bkE S S') (A : Int → Prop) : ∀ (k : Nat) (s : aSt), abRun S' A k s = abRun S A k s
  | 0, _ => rfl
  | k + 1, s => by
    simp only [abRun]
    rw [bk_ab he]
    cases abStep S A s with
    | inl s' => exact bk_run he A k s'
    | inr e => rfl
theorem bk_rE {S S' : mm_S} (he : bkE S S') (x : Int64) (n : Int) (e : aEn) : runE S' x n e = runE S x n e := by
  unfold runE abRes
  simp only [bk_run he]
theorem cbB_0 {S S' : mm_S} (h : ∀ b, b ≠ 0 → S' b = S b) (hb : cbB S) : cbB S' := by
  obtain ⟨h1, h2, h3, h4⟩ := hb
  have he : bkE S S' := ⟨fun b x y => h b (by omega), by rw [h 181 (by omega)], by rw [h 181 (by omega)]⟩
  refine ⟨⟨by rw [h 1 (by omega)]; exact h1.1, by rw [h 1 (by omega)]; exact h1.2.1, fun k hk => ?_, fun r hr => ?_⟩, fun r hr => ?_, ?_, mbC_of he h4⟩
  · rw [h 1 (by omega)] at hk
    have := h1.2.2.1 k hk
    unfold kdV at *
    rw [h _ (by omega), h _ (by omega), h _ (by omega)]
    exact this
  · rw [h _ (by omega)]; exact h1.2.2.2 r hr
  · have := h2 r hr
    unfold rtI lkI lkB at *
    rw [h (22 + 10 * r) (by omega), h (22 + 10 * r + 1) (by omega), h (22 + 10 * r + 2) (by omega), h (22 + 10 * r + 3) (by omega), h (22 + 10 * r + 4) (by omega), h (22 + 10 * r + 5) (by omega), h (22 + 10 * r + 6) (by omega), h (22 + 10 * r + 7) (by omega), h (22 + 10 * r + 8) (by omega), h (22 + 10 * r + 9) (by omega)]
    exact this
  · obtain ⟨g1, g2, g3, g4⟩ := h3
    refine ⟨by rw [h 1 (by omega), h 181 (by omega)]; exact g1, by rw [h 1 (by omega), h 181 (by omega)]; exact g2, fun k hk => ?_, fun r hr => ?_⟩
    · rw [h 1 (by omega)] at hk
      rw [h (4 + 3 * k) (by omega), h (4 + 3 * k + 1) (by omega), h (4 + 3 * k + 2) (by omega), h 182 (by omega), h 183 (by omega), h 184 (by omega), h 185 (by omega)]
      exact g3 k hk
    · rw [h 1 (by omega)] at hr
      rw [h (22 + 10 * r) (by omega), h (22 + 10 * r + 1) (by omega), h (22 + 10 * r + 2) (by omega), h (22 + 10 * r + 3) (by omega), h 189 (by omega), h 190 (by omega), h 191 (by omega), h 192 (by omega)]
      exact g4 r hr
/-- what run() leaves -/
def rnQ (S : mm_S) (S' : mm_S) (e : aEn) : Prop := (∀ b, b ≠ 0 → b < 138 ∨ 181 ≤ b → S' b = S b) ∧ (∀ j, j ≠ 5 → S' 0 j = S 0 j) ∧ S' 0 5 = 1 ∧ scA S' ∧ S' 180 0 = e.1 ∧ S' 180 1 = e.2.1 ∧ S' 180 2 = e.2.2.1 ∧ S' 180 3 = e.2.2.2.1 ∧ S' 180 4 = e.2.2.2.2.1 ∧ S' 180 5 = e.2.2.2.2.2
set_option maxRecDepth 100000 in
set_option maxHeartbeats 4000000 in
theorem c_run {sh : List mm_H} {S : mm_S} {L : mm_L} (hx0 : swS sh) (hb : bkS sh) (rh : rnH sh) (hlr : sh[180]? = some (.inl (0, 6, fun _ => none))) (hv : bkV S) (hR : rtA S) (hcB : cWhole S → cbB S) (hsa : scA S) {x : Int64} {n : Int} (hn : Rg n) : am_E eX9_run [.ref 0, .long x, .int (iI n)] (mm sh S L) (fun r0 M' => ∃ v, r0 = some (.int (iI v)) ∧ ∃ S' L', M' = mm sh S' L' ∧ ((¬ (0 ≤ n ∧ n ≤ 60) ∧ v = -2 ∧ S' = S ∧ L' = L) ∨ ((0 ≤ n ∧ n ≤ 60) ∧ ¬ cWhole S ∧ v = -3 ∧ S' = S ∧ L' = L) ∨ ((0 ≤ n ∧ n ≤ 60) ∧ cWhole S ∧ ∃ e, runE S x n e ∧ v = e.1 ∧ rnQ S S' e ∧ ∀ b, b ≠ 138 → L' b = L b))) := by
  obtain ⟨hB1, hB2, hB3, hB4, hB5⟩ := id hb
  refine am_enter rfl rfl (Nat.le_of_ble_eq_true rfl) ?_
  refine am_iload_n rfl dX9_run_0 ?_
  refine mm_zlt (tgt := 10) dX9_run_1 (by decide) (by omega) (fun h1 => ?_) (fun h1 => ?_)
  · refine mm_bipush dX9_run_10 (by decide) ?_
    refine am_ireturn dX9_run_12 rfl rfl ?_
    exact ⟨-2, rfl, S, L, rfl, Or.inl ⟨by omega, rfl, rfl, rfl⟩⟩
  · refine am_iload_n rfl dX9_run_4 ?_
    refine mm_bipush dX9_run_5 (by decide) ?_
    refine mm_jle (tgt := 13) dX9_run_7 (by decide) (by omega) (by omega) (fun h7 => ?_) (fun h7 => ?_)
    · refine am_aload_n rfl dX9_run_13 ?_
      refine mm_getR dX9_run_14 fl_X9_10 hx0 rfl ?_
      refine am_cxi (mm_V0 dX9_run_17 in_X0_isWhole mk_X9_145 im_X0_isWhole sl_X0_isWhole ⟨Nat.le_of_ble_eq_true rfl, Nat.le_of_ble_eq_true rfl⟩ rfl hB1 (Nat.le_of_ble_eq_true rfl)) (c_isWhole hb hv hR) (fun aw M1 hq => ?_)
      obtain ⟨av, rfl, hte, rfl⟩ := hq
      have hav := tells_01 hte
      refine mm_zne (tgt := 26) dX9_run_20 (by decide) (by omega) (fun h20 => ?_) (fun h20 => ?_)
      · have hwh := tells_t hte (by omega)
        refine am_aload_n rfl dX9_run_26 ?_
        refine mm_iconst dX9_run_27 ?_
        refine mm_putZ dX9_run_28 fp_X9_41 hx0 rfl (by omega) ?_
        have e : ∀ b, b ≠ 0 → up2 S 0 5 1 b = S b := fun b hb => up2_row hb
        have e5 : ∀ j, j ≠ 5 → up2 S 0 5 1 0 j = S 0 j := fun j hj => up2_rc hj
        have e51 : up2 S 0 5 1 0 5 = 1 := up2_same _ _ _ _
        generalize up2 S 0 5 1 = S1 at *
        have hsa1 : scA S1 := fun i hi => by
          have := hsa i hi
          unfold scW at *
          rw [e _ (by omega), e _ (by omega)]
          exact this
        have he1 : bkE S S1 := ⟨fun b x y => e b (by omega), by rw [e 181 (by omega)], by rw [e 181 (by omega)]⟩
        refine am_aload_n rfl dX9_run_31 ?_
        refine mm_getR dX9_run_32 fl_X9_37 hx0 rfl ?_
        refine mm_iconst dX9_run_35 ?_
        refine am_aload_n rfl dX9_run_36 ?_
        refine mm_getR dX9_run_37 fl_X9_33 hx0 rfl ?_
        refine am_aload_n rfl dX9_run_40 ?_
        refine mm_getR dX9_run_41 fl_X9_10 hx0 rfl ?_
        refine am_lload_n rfl dX9_run_44 ?_
        refine am_iload_n rfl dX9_run_45 ?_
        refine am_cxI (mm_V3 dX9_run_46 in_X7_play mk_X9_195 im_X7_play sl_X7_play ⟨Nat.le_of_ble_eq_true rfl, Nat.le_of_ble_eq_true rfl⟩ rfl rh.1 (Nat.le_of_ble_eq_true rfl)) ((c_play (S0 := S1) (n := n) (x := x) rh hb (cbB_0 e (hcB hwh)) (by omega) (rn_rf S1) hsa1 (L := L)).mono (Q' := fun r0 M' => ∃ v : Int, r0 = some (.int (iI v)) ∧ ∃ e : aEn, v = e.1 ∧ ∃ S', M' = mm sh S' (upL L 138 6 x) ∧ 0 ≤ e.1 ∧ runE S1 x n e ∧ enS S1 S' n e) (fun r0 M' z => by obtain ⟨e, z1, S', z2, z3, z4, z5⟩ := z; exact ⟨e.1, z1, e, rfl, S', z2, z3, z4, z5⟩)) (fun v M1 hq => ?_)
        obtain ⟨en, rfl, S2, rfl, hv0, hrun, hrn, hsa2, h27, k0, k1, k2, k3, k4⟩ := hq
        have f138 : ∀ j, up2 (up2 (up2 (up2 (up2 (up2 S2 180 0 en.1) 180 1 (S2 138 0)) 180 2 (S2 138 1)) 180 3 (S2 138 2)) 180 4 (S2 138 3)) 180 5 (S2 138 4) 138 j = S2 138 j := fun j => by simp (disch := omega) only [up2_rd]
        refine mm_ias dX9_run_49 hlr (by omega) ?_
        refine am_aload_n rfl dX9_run_50 ?_
        refine mm_getR dX9_run_51 fl_X9_37 hx0 rfl ?_
        refine mm_iconst dX9_run_54 ?_
        refine am_aload_n rfl dX9_run_55 ?_
        refine mm_getR dX9_run_56 fl_X9_33 hx0 rfl ?_
        refine mm_getI dX9_run_59 fl_X9_199 rh.1 rfl ?_
        simp (disch := omega) only [up2_rd]
        refine mm_ias dX9_run_62 hlr (by omega) ?_
        refine am_aload_n rfl dX9_run_63 ?_
        refine mm_getR dX9_run_64 fl_X9_37 hx0 rfl ?_
        refine mm_iconst dX9_run_67 ?_
        refine am_aload_n rfl dX9_run_68 ?_
        refine mm_getR dX9_run_69 fl_X9_33 hx0 rfl ?_
        refine mm_getI dX9_run_72 fl_X9_202 rh.1 rfl ?_
        simp (disch := omega) only [up2_rd]
        refine mm_ias dX9_run_75 hlr (by omega) ?_
        refine am_aload_n rfl dX9_run_76 ?_
        refine mm_getR dX9_run_77 fl_X9_37 hx0 rfl ?_
        refine mm_iconst dX9_run_80 ?_
        refine am_aload_n rfl dX9_run_81 ?_
        refine mm_getR dX9_run_82 fl_X9_33 hx0 rfl ?_
        refine mm_getI dX9_run_85 fl_X9_205 rh.1 rfl ?_
        simp (disch := omega) only [up2_rd]
        refine mm_ias dX9_run_88 hlr (by omega) ?_
        refine am_aload_n rfl dX9_run_89 ?_
        refine mm_getR dX9_run_90 fl_X9_37 hx0 rfl ?_
        refine mm_iconst dX9_run_93 ?_
        refine am_aload_n rfl dX9_run_94 ?_
        refine mm_getR dX9_run_95 fl_X9_33 hx0 rfl ?_
        refine mm_getI dX9_run_98 fl_X9_208 rh.1 rfl ?_
        simp (disch := omega) only [up2_rd]
        refine mm_ias dX9_run_101 hlr (by omega) ?_
        refine am_aload_n rfl dX9_run_102 ?_
        refine mm_getR dX9_run_103 fl_X9_37 hx0 rfl ?_
        refine mm_iconst dX9_run_106 ?_
        refine am_aload_n rfl dX9_run_107 ?_
        refine mm_getR dX9_run_108 fl_X9_33 hx0 rfl ?_
        refine mm_getI dX9_run_111 fl_X9_211 rh.1 rfl ?_
        simp (disch := omega) only [up2_rd]
        refine mm_ias dX9_run_114 hlr (by omega) ?_
        refine am_aload_n rfl dX9_run_115 ?_
        refine mm_getR dX9_run_116 fl_X9_37 hx0 rfl ?_
        refine mm_iconst dX9_run_119 ?_
        refine mm_ial dX9_run_120 hlr (by omega) ?_
        refine am_ireturn dX9_run_121 rfl rfl ?_
        refine ⟨en.1, ?_, _, _, rfl, Or.inr (Or.inr ⟨by omega, hwh, en, by rw [← bk_rE he1]; exact hrun, rfl, ⟨fun b y1 y2 => ?_, fun j hj => ?_, ?_, fun i hi => ?_, ?_, ?_, ?_, ?_, ?_, ?_⟩, fun b hb => upL_row hb⟩)⟩
        · simp (disch := omega) only [up2_rc, up2_same, Int.toNat_zero]
        · rw [up2_row (by omega), up2_row (by omega), up2_row (by omega), up2_row (by omega), up2_row (by omega), up2_row (by omega), hrn b (by omega)]
          exact e b y1
        · rw [up2_rd (by omega), up2_rd (by omega), up2_rd (by omega), up2_rd (by omega), up2_rd (by omega), up2_rd (by omega), hrn 0 (by omega)]
          exact e5 j hj
        · rw [up2_rd (by omega), up2_rd (by omega), up2_rd (by omega), up2_rd (by omega), up2_rd (by omega), up2_rd (by omega), hrn 0 (by omega)]
          exact e51
        · have := hsa2 i hi
          unfold scW at *
          simp (disch := omega) only [up2_row]
          exact this
        · simp (disch := omega) only [up2_rc, up2_same, Int.toNat_zero]
        · simp (disch := omega) only [show (1 : Int).toNat = 1 from rfl, show (2 : Int).toNat = 2 from rfl, show (3 : Int).toNat = 3 from rfl, show (4 : Int).toNat = 4 from rfl, show (5 : Int).toNat = 5 from rfl, up2_rc, up2_same]
          exact k0
        · simp (disch := omega) only [show (1 : Int).toNat = 1 from rfl, show (2 : Int).toNat = 2 from rfl, show (3 : Int).toNat = 3 from rfl, show (4 : Int).toNat = 4 from rfl, show (5 : Int).toNat = 5 from rfl, up2_rc, up2_same]
          exact k1
        · simp (disch := omega) only [show (1 : Int).toNat = 1 from rfl, show (2 : Int).toNat = 2 from rfl, show (3 : Int).toNat = 3 from rfl, show (4 : Int).toNat = 4 from rfl, show (5 : Int).toNat = 5 from rfl, up2_rc, up2_same]
          exact k2
        · simp (disch := omega) only [show (1 : Int).toNat = 1 from rfl, show (2 : Int).toNat = 2 from rfl, show (3 : Int).toNat = 3 from rfl, show (4 : Int).toNat = 4 from rfl, show (5 : Int).toNat = 5 from rfl, up2_rc, up2_same]
          exact k3
        · simp (disch := omega) only [show (1 : Int).toNat = 1 from rfl, show (2 : Int).toNat = 2 from rfl, show (3 : Int).toNat = 3 from rfl, show (4 : Int).toNat = 4 from rfl, show (5 : Int).toNat = 5 from rfl, up2_rc, up2_same]
          exact k4
      · refine mm_bipush dX9_run_23 (by decide) ?_
        refine am_ireturn dX9_run_25 rfl rfl ?_
        exact ⟨-3, rfl, S, L, rfl, Or.inr (Or.inl ⟨by omega, tells_f hte (by omega), rfl, rfl, rfl⟩)⟩
    · refine mm_bipush dX9_run_10 (by decide) ?_
      refine am_ireturn dX9_run_12 rfl rfl ?_
      exact ⟨-2, rfl, S, L, rfl, Or.inl ⟨by omega, rfl, rfl, rfl⟩⟩
set_option maxRecDepth 100000 in
set_option maxHeartbeats 4000000 in
theorem c_ended {sh : List mm_H} {S : mm_S} {L : mm_L} (hx0 : swS sh) (hlr : sh[180]? = some (.inl (0, 6, fun _ => none))) (h01 : S 0 5 = 0 ∨ S 0 5 = 1) {w : Int} (hw : Rg w) : am_E eX9_ended [.ref 0, .int (iI w)] (mm sh S L) (fun r M' => r = some (.int (iI (if 0 ≤ w ∧ w < 6 then (if S 0 5 = 1 then S 180 w.toNat else -1) else -2))) ∧ M' = mm sh S L) := by
  refine am_enter rfl rfl (Nat.le_of_ble_eq_true rfl) ?_
  refine am_iload_n rfl dX9_ended_0 ?_
  refine mm_zlt (tgt := 13) dX9_ended_1 (by decide) (by omega) (fun h1 => ?_) (fun h1 => ?_)
  · refine mm_bipush dX9_ended_13 (by decide) ?_
    refine am_ireturn dX9_ended_15 rfl rfl ?_
    exact ⟨by rw [if_neg (by omega)], rfl⟩
  · refine am_iload_n rfl dX9_ended_4 ?_
    refine am_aload_n rfl dX9_ended_5 ?_
    refine mm_getR dX9_ended_6 fl_X9_37 hx0 rfl ?_
    refine mm_len0 dX9_ended_9 hlr ?_
    refine mm_jlt (tgt := 16) dX9_ended_10 (by decide) (by omega) (by omega) (fun h10 => ?_) (fun h10 => ?_)
    · refine am_aload_n rfl dX9_ended_16 ?_
      refine mm_getI dX9_ended_17 fl_X9_41 hx0 rfl ?_
      refine mm_zeq (tgt := 32) dX9_ended_20 (by decide) (by omega) (fun h20 => ?_) (fun h20 => ?_)
      · refine mm_iconst dX9_ended_32 ?_
        refine am_ireturn dX9_ended_33 rfl rfl ?_
        first
          | exact ⟨by rw [if_pos (show 0 ≤ w ∧ w < 6 by omega), if_pos (by omega)], rfl⟩
          | exact ⟨by rw [if_pos (show 0 ≤ w ∧ w < 6 by omega), if_neg (by omega)], rfl⟩
      · refine am_aload_n rfl dX9_ended_23 ?_
        refine mm_getR dX9_ended_24 fl_X9_37 hx0 rfl ?_
        refine am_iload_n rfl dX9_ended_27 ?_
        refine mm_ial dX9_ended_28 hlr (by omega) ?_
        refine am_goto (tgt := 33) dX9_ended_29 (by decide) ?_
        refine am_ireturn dX9_ended_33 rfl rfl ?_
        first
          | exact ⟨by rw [if_pos (show 0 ≤ w ∧ w < 6 by omega), if_pos (by omega)], rfl⟩
          | exact ⟨by rw [if_pos (show 0 ≤ w ∧ w < 6 by omega), if_neg (by omega)], rfl⟩
    · refine mm_bipush dX9_ended_13 (by decide) ?_
      refine am_ireturn dX9_ended_15 rfl rfl ?_
      exact ⟨by rw [if_neg (by omega)], rfl⟩
