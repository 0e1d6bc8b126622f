/-! ===== the class's runs, as they are asked for ===== -/
abbrev aI : aSt := ([(ky0, 0, bgR ky0)], 0, 0, 0, 1)
def runE (S : mm_S) (x : Int64) (n : Int) (e : aEn) : Prop := abRes S (ansA x n) aI e
set_option maxRecDepth 100000 in
theorem l_playE {M : am_M} {v T : Int} (hv : 0 ≤ v ∧ v < 100) (hT : 0 ≤ T ∧ T < 100000) {l2 l3 l4 : Option Value} {Q : Option Value → am_M → Prop} (hQ : Q (some (.int (iI v))) M) : am_AW eX7_play M 45 [some (.ref 138), some (.ref 1), l2, l3, l4, some (.int (iI v)), some (.int (iI T))] [] Q := by
  refine am_iload rfl dX7_play_45 ?_
  refine mm_sipush dX7_play_47 (by decide) ?_
  refine mm_jge (tgt := 72) dX7_play_50 (by decide) (by omega) (by omega) (fun h50 => ?_) (fun h50 => ?_)
  · refine am_iload rfl dX7_play_72 ?_
    refine am_ireturn dX7_play_74 rfl rfl ?_
    exact hQ
  · refine am_iload rfl dX7_play_53 ?_
    refine mm_iconst dX7_play_55 ?_
    refine mm_jne (tgt := 72) dX7_play_56 (by decide) (by omega) (by omega) (fun h56 => ?_) (fun h56 => ?_)
    · refine am_iload rfl dX7_play_72 ?_
      refine am_ireturn dX7_play_74 rfl rfl ?_
      exact hQ
    · exfalso; omega
theorem en_v {S : mm_S} {A : Int → Prop} {e : aEn} : ∀ (k : Nat) (s : aSt), abRun S A k s = some e → e.1 ≤ 8
  | 0, _, h => by simp [abRun] at h
  | k + 1, s, h => by
    simp only [abRun] at h
    cases hs : abStep S A s with
    | inl s' => rw [hs] at h; exact en_v k s' h
    | inr x =>
      rw [hs] at h
      have h : some x = some e := h
      have hx : x = e := Option.some.inj h
      subst hx
      obtain ⟨fs, fl, as, dn, ms⟩ := s
      cases fs with
      | nil =>
        have : (Sum.inr (0, 0, 0, as, dn, ms) : aSt ⊕ aEn) = .inr x := hs
        rw [← Sum.inr.inj this]
        show (0 : Int) ≤ 8
        omega
      | cons f t =>
        rcases Classical.em (fl = 1 ∨ f.2.1 = mN S f.1.2.1) with z | z
        · rcases Classical.em (lvM S f.2.2) with y | y
          · rw [ab_left z y] at hs
            rw [← Sum.inr.inj hs]
            show (5 : Int) ≤ 8
            omega
          · cases t with
            | nil =>
              rw [ab_over z y] at hs
              rw [← Sum.inr.inj hs]
              show (if fl = 1 then (6 : Int) else 0) ≤ 8
              split <;> omega
            | cons g u => rw [ab_back z y] at hs; cases hs
        · by_cases y1 : dn = 500
          · rw [ab_long z y1] at hs
            rw [← Sum.inr.inj hs]
            show (7 : Int) ≤ 8
            omega
          · by_cases y2 : wrR S f.1 f.2.1 f.2.2 = 0
            · by_cases y3 : mSo S f.1.2.1 f.2.1 = 10 ∨ mSo S f.1.2.1 f.2.1 = 11
              · by_cases y4 : t.length = 9
                · rw [ab_deep z y1 y2 y3 y4] at hs
                  rw [← Sum.inr.inj hs]
                  show (8 : Int) ≤ 8
                  omega
                · rw [ab_call z y1 y2 y3 y4] at hs; cases hs
              · rw [ab_nx z y1 y2 y3] at hs; cases hs
            · rw [ab_wr z y1 y2] at hs
              rw [← Sum.inr.inj hs]
              have := (wr_R (S := S) (κ := f.1) (pl := f.2.1) (R := f.2.2)).2
              show wrR S f.1 f.2.1 f.2.2 ≤ 8
              omega
theorem en_R {S : mm_S} {A : Int → Prop} {s : aSt} {e : aEn} (h : abRes S A s e) : e.1 ≤ 8 := by
  obtain ⟨k, hk⟩ := h
  exact en_v k s hk
set_option maxRecDepth 100000 in
set_option maxHeartbeats 4000000 in
theorem l_play {sh : List mm_H} (rh : rnH sh) (hb : bkS sh) {S0 : mm_S} (hB : cbB S0) {n : Int} (hn6 : 0 ≤ n ∧ n ≤ 60) {L : mm_L} : ∀ (q : Nat) (s : aSt) (S : mm_S) (T : Int), (1002 - T).toNat < q → (crS S0 S n s) → (s.2.1 = 0) → (0 ≤ T ∧ T + (s.1.length : Int) ≤ 2 * s.2.2.2.1 + 1) → (∀ e, abRes S0 (ansA (L 138 6) n) s e → runE S0 (L 138 6) n e) → am_AW eX7_play (mm sh S L) 45 [some (.ref 138), some (.ref 1), some (.long (L 138 6)), none, some (.int (iI n)), some (.int (iI (-1))), some (.int (iI T))] [] (fun r0 M' => ∃ e : aEn, r0 = some (.int (iI e.1)) ∧ ∃ S', M' = mm sh S' L ∧ 0 ≤ e.1 ∧ runE S0 (L 138 6) n e ∧ enS S0 S' n e) := by
  intro q
  induction q with
  | zero =>
    intro s S T hq
    exact absurd hq (Nat.not_lt_zero _)
  | succ q ih =>
    intro s S T hq hcr hfl hT hab
    have hl1 := hcr.2.1.2.1
    have hd5 := hcr.2.1.2.2.2.1.2.2
    refine am_iload rfl dX7_play_45 ?_
    refine mm_sipush dX7_play_47 (by decide) ?_
    refine mm_jge (tgt := 72) dX7_play_50 (by decide) (by omega) (by omega) (fun h50 => ?_) (fun h50 => ?_)
    · exfalso; omega
    · refine am_iload rfl dX7_play_53 ?_
      refine mm_iconst dX7_play_55 ?_
      refine mm_jne (tgt := 72) dX7_play_56 (by decide) (by omega) (by omega) (fun h56 => ?_) (fun h56 => ?_)
      · exfalso; omega
      · obtain ⟨fs, fl, as, dn, ms⟩ := s
        obtain ⟨f, t, rfl⟩ : ∃ f t, fs = f :: t := by
          cases fs with
          | nil => exfalso; have : 1 ≤ ([] : List Fr).length := hl1.1; simp at this
          | cons f t => exact ⟨f, t, rfl⟩
        have hfl : fl = 0 := hfl
        subst hfl
        refine am_aload_n rfl dX7_play_59 ?_
        refine am_aload_n rfl dX7_play_60 ?_
        refine am_cxI (mm_V1 dX7_play_61 in_X7_takeTurn mk_X7_48 im_X7_takeTurn sl_X7_takeTurn ⟨Nat.le_of_ble_eq_true rfl, Nat.le_of_ble_eq_true rfl⟩ rfl rh.1 (Nat.le_of_ble_eq_true rfl)) (c_takeTurn (L := L) rh hb hB hn6 hcr) (fun v M1 hq => ?_)
        obtain ⟨S9, rfl, hv⟩ := hq
        refine am_ist5 dX7_play_64 (Nat.le_of_ble_eq_true rfl) (am_c1i _) ?_
        refine mm_inc6 dX7_play_66 (Nat.le_of_ble_eq_true rfl) (am_c1i _) ?_
        refine am_goto (tgt := 45) dX7_play_69 (by decide) ?_
        rcases hv with ⟨rfl, s', y2, y3, y4, y5⟩ | ⟨y1, e, y2, y3, y4⟩
        · refine ih s' S9 (T + 1) ?_ y2 y3 ⟨by omega, ?_⟩ (fun e he => hab e (y5 e he))
          · have hT2 : T + (((t.length + 1 : Nat)) : Int) ≤ 2 * dn + 1 := hT.2
            have hd2 : dn ≤ 500 := hd5
            omega
          · have hT2 : T + (((t.length + 1 : Nat)) : Int) ≤ 2 * dn + 1 := hT.2
            omega
        · subst y2
          have hE := en_R y3
          exact l_playE ⟨y1, by omega⟩ ⟨by omega, by have hT2 : T + (((t.length + 1 : Nat)) : Int) ≤ 2 * dn + 1 := hT.2; have hd2 : dn ≤ 500 := hd5; omega⟩ ⟨e, rfl, S9, rfl, y1, hab e y3, y4⟩
set_option maxRecDepth 100000 in
set_option maxHeartbeats 4000000 in
theorem c_play {sh : List mm_H} (rh : rnH sh) (hb : bkS sh) {S0 : mm_S} (hB : cbB S0) {n : Int} (hn6 : 0 ≤ n ∧ n ≤ 60) {L : mm_L} {S : mm_S} (hrn : rnF S0 S) (hsa : scA S) {x : Int64} : am_E eX7_play [.ref 138, .ref 1, .long x, .int (iI n)] (mm sh S L) (fun r0 M' => ∃ e : aEn, r0 = some (.int (iI e.1)) ∧ ∃ S', M' = mm sh S' (upL L 138 6 x) ∧ 0 ≤ e.1 ∧ runE S0 x n e ∧ enS S0 S' n e) := by
  refine am_enter rfl rfl (Nat.le_of_ble_eq_true rfl) ?_
  refine am_aload_n rfl dX7_play_0 ?_
  refine am_lload_n rfl dX7_play_1 ?_
  refine mm_putL dX7_play_2 fp_X7_30 rh.1 rfl ?_
  refine am_aload_n rfl dX7_play_5 ?_
  refine am_iload rfl dX7_play_6 ?_
  refine mm_putI dX7_play_8 fp_X7_34 rh.1 rfl ?_
  refine am_aload_n rfl dX7_play_11 ?_
  refine mm_iconst dX7_play_12 ?_
  refine mm_putI dX7_play_13 fp_X7_18 rh.1 rfl ?_
  refine am_aload_n rfl dX7_play_16 ?_
  refine mm_iconst dX7_play_17 ?_
  refine mm_putI dX7_play_18 fp_X7_21 rh.1 rfl ?_
  refine am_aload_n rfl dX7_play_21 ?_
  refine mm_iconst dX7_play_22 ?_
  refine mm_putI dX7_play_23 fp_X7_27 rh.1 rfl ?_
  refine am_aload_n rfl dX7_play_26 ?_
  refine mm_iconst dX7_play_27 ?_
  refine mm_putI dX7_play_28 fp_X7_24 rh.1 rfl ?_
  refine am_aload_n rfl dX7_play_31 ?_
  refine mm_iconst dX7_play_32 ?_
  refine mm_iconst dX7_play_33 ?_
  refine mm_iconst dX7_play_34 ?_
  refine mm_iconst dX7_play_35 ?_
  obtain ⟨S1, hS1⟩ : ∃ S1, up2 (up2 (up2 (up2 (up2 S 138 7 n) 138 2 0) 138 3 0) 138 5 0) 138 4 0 = S1 := ⟨_, rfl⟩
  have er : ∀ b, b ≠ 138 → S1 b = S b := fun b hb => by rw [← hS1, up2_row hb, up2_row hb, up2_row hb, up2_row hb, up2_row hb]
  have k7 : S1 138 7 = n := by rw [← hS1, up2_rc (by omega), up2_rc (by omega), up2_rc (by omega), up2_rc (by omega), up2_same]
  have k2 : S1 138 2 = 0 := by rw [← hS1, up2_rc (by omega), up2_rc (by omega), up2_rc (by omega), up2_same]
  have k3 : S1 138 3 = 0 := by rw [← hS1, up2_rc (by omega), up2_rc (by omega), up2_same]
  have k5 : S1 138 5 = 0 := by rw [← hS1, up2_rc (by omega), up2_same]
  have k4 : S1 138 4 = 0 := by rw [← hS1, up2_same]
  have hsa1 : scA S1 := by rw [← hS1]; exact sa_up (sa_up (sa_up (sa_up (sa_up hsa))))
  rw [hS1]
  clear hS1
  refine am_cv (mm_V4 dX7_play_36 in_X7_openRoutine mk_X7_44 im_X7_openRoutine sl_X7_openRoutine ⟨Nat.le_of_ble_eq_true rfl, Nat.le_of_ble_eq_true rfl⟩ rfl rh.1 (Nat.le_of_ble_eq_true rfl)) (c_openRoutine (S := S1) (k0 := 0) rh k5 (by omega) (by omega) (r := 0) (h := 2) (k := 0) (s := 0) (by omega)) ?_
  have hF3 := bg_F (S := S1) (a := 140 + 4 * 0) (r := 0) (h := 2) (k := 0) (s := 0)
  have hsb : scR (bgS S1 (140 + 4 * 0) 0 2 0 0) (140 + 4 * 0) ky0 (bgR ky0) := sc_bg (S := S1) (a := 140 + 4 * 0) (κ := ky0) (by decide) (r := 0)
  have hbV := bg_V (S := S1) (a := 140 + 4 * 0) (r := 0) (h := 2) (k := 0) (s := 0) (hsa1 0 (by omega)) (by omega) (by omega) (by omega)
  have hbp := bg_pl (S := S1) (a := 140 + 4 * 0) (r := 0) (h := 2) (k := 0) (s := 0)
  generalize bgS S1 (140 + 4 * 0) 0 2 0 0 = S3 at *
  obtain ⟨S4, hS4⟩ : ∃ S4, up2 (up2 S3 138 5 (((0 : Nat) : Int) + 1)) 138 4 (maxI (S1 138 4) (((0 : Nat) : Int) + 1)) = S4 := ⟨_, rfl⟩
  have fr : ∀ b, b ≠ 138 → S4 b = S3 b := fun b hb => by rw [← hS4, up2_row hb, up2_row hb]
  have fc : ∀ j, j ≠ 5 → j ≠ 4 → S4 138 j = S1 138 j := fun j y1 y2 => by rw [← hS4, up2_rc y2, up2_rc y1, hF3 138 (by omega)]
  have fc5 : S4 138 5 = 1 := by rw [← hS4, up2_rc (by omega), up2_same]; rfl
  have fc4 : S4 138 4 = 1 := by rw [← hS4, up2_same, k4]; decide
  rw [hS4]
  have h9 := hB.2.2.2.2.2.1
  have hky0 : kyV S0 ky0 := ⟨by decide, by show ((0 : Nat) : Int) < _; omega, fun z => absurd rfl z, fun _ => rfl⟩
  have hcr : crS S0 S4 n aI := ⟨fun b hb => (fr b (by omega)).trans ((hF3 b (by omega)).trans ((er b (by omega)).trans (hrn b hb))), ⟨⟨⟨rg_bg hky0 hB.2.2.2.1, ⟨Int.le_refl _, (hB.2.2.2.1.2.2.2.2 0 (by omega)).1⟩, fun k hk hne => absurd rfl hne⟩, hky0, fun g u e => (by cases e), trivial⟩, by show 1 ≤ 1 ∧ 1 ≤ 10; omega, Or.inl rfl, by show (0 : Int) ≤ 0 ∧ (0 : Int) ≤ 0 ∧ (0 : Int) ≤ 500; omega, by show (1 : Int) ≤ 1 ∧ (1 : Int) ≤ 10; omega⟩, ⟨⟨by
      show scR S4 (140 + 4 * 0) ky0 (bgR ky0)
      unfold scR at *
      rw [fr _ (by omega), fr _ (by omega), fr _ (by omega), fr _ (by omega)]
      exact hsb, by
      show scV S4 (140 + 4 * 0)
      unfold scV at *
      rw [fr _ (by omega), fr _ (by omega), fr _ (by omega), fr _ (by omega)]
      exact hbV, by
      show S4 (140 + 4 * 0) 1 = ((0 : Nat) : Int)
      rw [fr _ (by omega)]
      exact hbp.2, by
      show S4 (140 + 4 * 0) 0 = ((0 : Nat) : Int)
      rw [fr _ (by omega)]
      exact hbp.1⟩, trivial⟩, ⟨fc5, by rw [fc 2 (by omega) (by omega)]; exact k2, by rw [fc 3 (by omega) (by omega)]; exact k3, fc4⟩, fun i hi => by
      by_cases z : i = 0
      · subst z
        have := hbV.2.2.2.2
        unfold scW
        rw [fr _ (by omega), fr _ (by omega)]
        exact this
      · have := hsa1 i hi
        unfold scW at *
        rw [fr _ (by omega), fr _ (by omega), hF3 _ (by omega), hF3 _ (by omega)]
        exact this, by rw [fc 7 (by omega) (by omega)]; exact k7⟩
  refine mm_iconst dX7_play_39 ?_
  refine am_ist5 dX7_play_40 (Nat.le_of_ble_eq_true rfl) (am_c1i _) ?_
  refine mm_iconst dX7_play_42 ?_
  refine am_ist6 dX7_play_43 (Nat.le_of_ble_eq_true rfl) (am_c1i _) ?_
  have hL : (upL L 138 6 x) 138 6 = x := upL_same _ _ _ _
  have h9 := l_play (L := upL L 138 6 x) rh hb hB hn6 1003 aI S4 0 (by omega) hcr rfl (by show (0 : Int) ≤ 0 ∧ 0 + ((1 : Nat) : Int) ≤ 2 * 0 + 1; omega) (fun e he => he)
  rw [hL] at h9
  exact h9
