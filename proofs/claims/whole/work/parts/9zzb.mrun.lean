/-! ===== the reference's runs, as they are asked for ===== -/
theorem bw_ny {S S' : mm_S} (he : bkW S S') (A : Int → Prop) (f : Fr) (as : Int) : nyR S' A f as = nyR S A f as := by
  unfold nyR
  rw [bw_as he, bw_nx he]
theorem bw_ab {S S' : mm_S} (he : bkW S S') (A : Int → Prop) (s : aSt) : abStep S' A s = abStep S A s := by
  obtain ⟨fs, fl, as, dn, ms⟩ := s
  cases fs with
  | nil => rfl
  | cons f t =>
    have eN := bw_N he f.1.2.1
    have eL := bw_lv he f.2.2
    have eW := bw_wr he f.1 f.2.1 f.2.2
    have eS := bw_So he f.1.2.1
    have eC := bw_cl he f.1 f.2.1 f.2.2
    rcases Classical.em (fl = 1 ∨ f.2.1 = mN S f.1.2.1) with z | z
    · have z' : fl = 1 ∨ f.2.1 = mN S' f.1.2.1 := by rw [eN]; exact z
      rcases Classical.em (lvM S f.2.2) with y | y
      · rw [ab_left z y, ab_left z' (by rw [eL]; exact y), eN]
      · have y' : ¬ lvM S' f.2.2 := by rw [eL]; exact y
        cases t with
        | nil => rw [ab_over z y, ab_over z' y', eN]
        | cons g u => rw [ab_back z y, ab_back z' y', bw_cb he]
    · have z' : ¬ (fl = 1 ∨ f.2.1 = mN S' f.1.2.1) := by rw [eN]; exact z
      by_cases y1 : dn = 500
      · rw [ab_long z y1, ab_long z' y1]
      · by_cases y2 : wrR S f.1 f.2.1 f.2.2 = 0
        · have y2' : wrR S' f.1 f.2.1 f.2.2 = 0 := by rw [eW]; exact y2
          by_cases y3 : mSo S f.1.2.1 f.2.1 = 10 ∨ mSo S f.1.2.1 f.2.1 = 11
          · have y3' : mSo S' f.1.2.1 f.2.1 = 10 ∨ mSo S' f.1.2.1 f.2.1 = 11 := by rw [eS]; exact y3
            by_cases y4 : t.length = 9
            · rw [ab_deep z y1 y2 y3 y4, ab_deep z' y1 y2' y3' y4]
            · rw [ab_call z y1 y2 y3 y4, ab_call z' y1 y2' y3' y4, eC]
          · have y3' : ¬ (mSo S' f.1.2.1 f.2.1 = 10 ∨ mSo S' f.1.2.1 f.2.1 = 11) := by rw [eS]; exact y3
            rw [ab_nx z y1 y2 y3, ab_nx z' y1 y2' y3', bw_ny he, bw_as he]
        · have y2' : wrR S' f.1 f.2.1 f.2.2 ≠ 0 := by rw [eW]; exact y2
          rw [ab_wr z y1 y2, ab_wr z' y1 y2', eW]
theorem bw_run {S S' : mm_S} (he : bkW S S') (A : Int → Prop) : ∀ (k : Nat) (s : aSt), abRun S' A k s = abRun S A k s
  | 0, _ => rfl
  | k + 1, s => by
    simp only [abRun]
    rw [bw_ab he]
    cases abStep S A s with
    | inl s' => exact bw_run he A k s'
    | inr e => rfl
theorem bw_rE {S S' : mm_S} (he : bkW S S') (x : Int64) (n : Int) (e : aEn) : runE S' x n e = runE S x n e := by
  unfold runE abRes
  simp only [bw_run he]
theorem mr_0 {S0 S S' : mm_S} {n : Int} (hbW : mbW S0) (h1 : mfR S0 S) (h41 : S 181 41 = 0) (h53 : S 181 53 = 0) (h54 : S 181 54 = 0) (h55 : S 181 55 = 0) (h61 : S 181 61 = 0) (h52 : S 181 52 = n) (h56 : S 181 56 = -1) (hb : beG S S' 0 0 (-1) False) : mrS S0 S' n aI := by
  obtain ⟨e, ec, ⟨e45, e55⟩, ⟨e7, e7t⟩, ⟨e8, e8t⟩, ⟨e9, e9t⟩, ⟨e0, e0t⟩, ⟨e1, e1t⟩, e6, e6x⟩ := hb
  have c : ∀ j, j ≠ 45 → j ≠ 55 → S' 181 j = S 181 j := ec
  have h9 := hbW.2.2.2.1
  have hky0 : kyV S0 ky0 := ⟨by decide, by show ((0 : Nat) : Int) < _; omega, fun z => absurd rfl z, fun _ => rfl⟩
  have nv : ∀ v, v < 5 → S' 220 (5 * 0 + v) = -1 := fun v hv => by rw [e0t v hv]; split <;> rfl
  have rv : ∀ v, v < 5 → (bgR ky0).1 v = 0 := fun v hv => by
    show nrm 5 (ud (fun _ => (0 : Int)) 0 0) v = 0
    rw [nrm_in hv]
    by_cases z : v = 0
    · rw [z, ud_same]
    · rw [ud_ne z]
  have l0 : S' 219 0 = -1 := by rw [e9t]; rfl
  have c41 : S' 181 41 = 0 := by rw [c 41 (by omega) (by omega)]; exact h41
  refine ⟨⟨fun b y1 y2 => by rw [e b y2 (by omega)]; exact h1.1 b y1 y2, fun j hj => by rw [c j (by omega) (by omega)]; exact h1.2 j hj⟩, ⟨⟨⟨rg_bg hky0 hbW.1, ⟨Int.le_refl _, (hbW.1.2.2.2.2 0 (by omega)).1⟩, fun k hk hne => absurd rfl hne⟩, hky0, fun g u q => (by cases q), trivial⟩, by show 1 ≤ 1 ∧ 1 ≤ 10; omega, Or.inl rfl, by show (0 : Int) ≤ 0 ∧ (0 : Int) ≤ 0 ∧ (0 : Int) ≤ 500; omega, by show (1 : Int) ≤ 1 ∧ (1 : Int) ≤ 10; omega⟩, ⟨⟨⟨⟨by show S' 217 0 = ((0 : Nat) : Int); rw [e7t]; rfl, by show S' 218 0 = ((0 : Nat) : Int); rw [e8t]; rfl⟩, ⟨fun v hv => ?_, fun v w hv hw => ?_, fun v hv h2 => ?_, fun q => ?_, fun _ => l0⟩, fun j hj => by show (0 : Int) = S' 221 (6 * 0 + j); exact (e1t j hj).symm⟩, trivial⟩, ?_⟩, ⟨by rw [e45]; rfl, by rw [c 53 (by omega) (by omega)]; exact h53, by rw [c 54 (by omega) (by omega)]; exact h54, by rw [e55, h55]; decide, by rw [c 61 (by omega) (by omega)]; exact h61, by rw [c 52 (by omega) (by omega)]; exact h52, by rw [c 56 (by omega) (by omega)]; exact h56⟩, by show S' 181 41 ≤ 0; omega⟩
  · show (-1 ≤ S' 220 (5 * 0 + v) ∧ S' 220 (5 * 0 + v) < S' 181 41) ∧ ((bgR ky0).1 v = 0 ↔ S' 220 (5 * 0 + v) = -1) ∧ ((bgR ky0).1 v = 1 ↔ (S' 219 0 ≠ -1 ∧ S' 220 (5 * 0 + v) = S' 219 0))
    rw [nv v hv, rv v hv, l0, c41]
    exact ⟨by omega, ⟨fun _ => rfl, fun _ => rfl⟩, ⟨fun q => by omega, fun q => absurd rfl q.1⟩⟩
  · show (bgR ky0).1 v = (bgR ky0).1 w ↔ S' 220 (5 * 0 + v) = S' 220 (5 * 0 + w)
    rw [nv v hv, rv v hv, nv w hw, rv w hw]
    exact ⟨fun _ => rfl, fun _ => rfl⟩
  · have h2 : 2 ≤ (bgR ky0).1 v := h2
    rw [rv v hv] at h2
    omega
  · have q : (0 : Int) = 1 := q
    omega
  · show thM S' 1
    refine ⟨by omega, fun y hy => by exfalso; omega, fun y k hy => by exfalso; omega, fun k hk q => ?_, fun j k hjk hk => by exfalso; omega, fun k hk => by exfalso; omega⟩
    have : k = 0 := by omega
    rw [this] at q
    exact absurd l0 q
set_option maxRecDepth 100000 in
set_option maxHeartbeats 4000000 in
theorem m_runs {sh : List mm_H} {L : mm_L} (hm : mdS sh) {S0 : mm_S} (hbW : mbW S0) {n : Int} (hn6 : 0 ≤ n ∧ n ≤ 60) {S : mm_S} (hmf : mfR S0 S) {x : Int64} : am_E eX10_runs [.ref 181, .long x, .int (iI n)] (mm sh S L) (fun r0 M' => ∃ e : aEn, r0 = some (.int (iI e.1)) ∧ ∃ S', M' = mm sh S' (upL L 181 51 x) ∧ runE S0 x n e ∧ meS S0 S' e) := by
  refine am_enter rfl rfl (Nat.le_of_ble_eq_true rfl) ?_
  refine am_aload_n rfl dX10_runs_0 ?_
  refine am_lload_n rfl dX10_runs_1 ?_
  refine mm_putL dX10_runs_2 fp_X10_339 (md_0 hm) mdf_51 ?_
  refine am_aload_n rfl dX10_runs_5 ?_
  refine am_iload_n rfl dX10_runs_6 ?_
  refine mm_putI dX10_runs_7 fp_X10_336 (md_0 hm) mdf_52 ?_
  refine am_aload_n rfl dX10_runs_10 ?_
  refine mm_iconst dX10_runs_11 ?_
  refine mm_putI dX10_runs_12 fp_X10_333 (md_0 hm) mdf_53 ?_
  refine am_aload_n rfl dX10_runs_15 ?_
  refine mm_iconst dX10_runs_16 ?_
  refine mm_putI dX10_runs_17 fp_X10_403 (md_0 hm) mdf_54 ?_
  refine am_aload_n rfl dX10_runs_20 ?_
  refine mm_iconst dX10_runs_21 ?_
  refine mm_putI dX10_runs_22 fp_X10_355 (md_0 hm) mdf_55 ?_
  refine am_aload_n rfl dX10_runs_25 ?_
  refine mm_iconst dX10_runs_26 ?_
  refine mm_putI dX10_runs_27 fp_X10_358 (md_0 hm) mdf_41 ?_
  refine am_aload_n rfl dX10_runs_30 ?_
  refine mm_iconst dX10_runs_31 ?_
  refine mm_putI dX10_runs_32 fp_X10_346 (md_0 hm) mdf_45 ?_
  refine am_aload_n rfl dX10_runs_35 ?_
  refine mm_iconst dX10_runs_36 ?_
  refine mm_putI dX10_runs_37 fp_X10_343 (md_0 hm) mdf_56 ?_
  refine am_aload_n rfl dX10_runs_40 ?_
  refine mm_iconst dX10_runs_41 ?_
  refine mm_putZ dX10_runs_42 fp_X10_373 (md_0 hm) mdf_61 (by omega) ?_
  obtain ⟨S1, hS1⟩ : ∃ S1, up2 (up2 (up2 (up2 (up2 (up2 (up2 (up2 S 181 52 n) 181 53 0) 181 54 0) 181 55 0) 181 41 0) 181 45 0) 181 56 (-1)) 181 61 0 = S1 := ⟨_, rfl⟩
  have er : ∀ b, b ≠ 181 → S1 b = S b := fun b hb => by rw [← hS1, up2_row hb, up2_row hb, up2_row hb, up2_row hb, up2_row hb, up2_row hb, up2_row hb, up2_row hb]
  have k52 : S1 181 52 = n := by rw [← hS1]; simp (disch := omega) only [up2_rc, up2_same]
  have k53 : S1 181 53 = 0 := by rw [← hS1]; simp (disch := omega) only [up2_rc, up2_same]
  have k54 : S1 181 54 = 0 := by rw [← hS1]; simp (disch := omega) only [up2_rc, up2_same]
  have k55 : S1 181 55 = 0 := by rw [← hS1]; simp (disch := omega) only [up2_rc, up2_same]
  have k41 : S1 181 41 = 0 := by rw [← hS1]; simp (disch := omega) only [up2_rc, up2_same]
  have k45 : S1 181 45 = 0 := by rw [← hS1]; simp (disch := omega) only [up2_rc, up2_same]
  have k56 : S1 181 56 = -1 := by rw [← hS1]; simp (disch := omega) only [up2_rc, up2_same]
  have k61 : S1 181 61 = 0 := by rw [← hS1, up2_same]
  have ko : ∀ j, j < 41 ∨ j = 60 → S1 181 j = S 181 j := fun j hj => by rw [← hS1, up2_rc (by omega), up2_rc (by omega), up2_rc (by omega), up2_rc (by omega), up2_rc (by omega), up2_rc (by omega), up2_rc (by omega), up2_rc (by omega)]
  rw [hS1]
  have hmf1 : mfR S0 S1 := ⟨fun b y1 y2 => by rw [er b y2]; exact hmf.1 b y1 y2, fun j hj => by rw [ko j hj]; exact hmf.2 j hj⟩
  refine am_aload_n rfl dX10_runs_45 ?_
  refine mm_iconst dX10_runs_46 ?_
  refine mm_iconst dX10_runs_47 ?_
  refine mm_iconst dX10_runs_48 ?_
  refine am_cxv (mm_V3 dX10_runs_49 in_X10_begin mk_X10_385 im_X10_begin sl_X10_begin ⟨Nat.le_of_ble_eq_true rfl, Nat.le_of_ble_eq_true rfl⟩ rfl (md_0 hm) (Nat.le_of_ble_eq_true rfl)) (m_begin (S := S1) (k := 0) (r := 0) (t := -1) (g := False) hm (by omega) k45 (by omega) (fun q => q.elim)) (fun M1 hq2 => ?_)
  obtain ⟨S4, rfl, hbeg⟩ := hq2
  have hL : (upL L 181 51 x) 181 51 = x := upL_same _ _ _ _
  have h9 := l_runs (L := upL L 181 51 x) (l1 := some (.long x)) (l2 := none) hm hbW hn6 1003 aI S4 none (by show (2 * (500 - 0) + ((1 : Nat) : Int)).toNat < 1003; omega) (mr_0 hbW hmf1 k41 k53 k54 k55 k61 k52 k56 hbeg) (fun e he => he)
  rw [hL] at h9
  exact h9
