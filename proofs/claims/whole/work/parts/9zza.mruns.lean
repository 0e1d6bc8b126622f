/-! ===== the reference's runs: all turns ===== -/
theorem en_v0 {S : mm_S} {A : Int → Prop} {e : aEn} : ∀ (k : Nat) (s : aSt), abRun S A k s = some e → 0 ≤ e.1
  | 0, _, h => by simp [abRun] at h
  | k + 1, s, h => by
    simp only [abRun] at h
    cases hs : abStep S A s with
    | inl s' => rw [hs] at h; exact en_v0 k s' h
    | inr x =>
      rw [hs] at h
      have h : some x = some e := h
      have hx : x = e := Option.some.inj h
      subst hx
      obtain ⟨fs, fl, as, dn, ms⟩ := s
      cases fs with
      | nil =>
        have : (Sum.inr (0, 0, 0, as, dn, ms) : aSt ⊕ aEn) = .inr x := hs
        rw [← Sum.inr.inj this]
        exact Int.le_refl 0
      | cons f t =>
        rcases Classical.em (fl = 1 ∨ f.2.1 = mN S f.1.2.1) with z | z
        · rcases Classical.em (lvM S f.2.2) with y | y
          · rw [ab_left z y] at hs
            rw [← Sum.inr.inj hs]
            show (0 : Int) ≤ 5
            omega
          · cases t with
            | nil =>
              rw [ab_over z y] at hs
              rw [← Sum.inr.inj hs]
              show (0 : Int) ≤ (if fl = 1 then (6 : Int) else 0)
              split <;> omega
            | cons g u => rw [ab_back z y] at hs; cases hs
        · by_cases y1 : dn = 500
          · rw [ab_long z y1] at hs
            rw [← Sum.inr.inj hs]
            show (0 : Int) ≤ 7
            omega
          · by_cases y2 : wrR S f.1 f.2.1 f.2.2 = 0
            · by_cases y3 : mSo S f.1.2.1 f.2.1 = 10 ∨ mSo S f.1.2.1 f.2.1 = 11
              · by_cases y4 : t.length = 9
                · rw [ab_deep z y1 y2 y3 y4] at hs
                  rw [← Sum.inr.inj hs]
                  show (0 : Int) ≤ 8
                  omega
                · rw [ab_call z y1 y2 y3 y4] at hs; cases hs
              · rw [ab_nx z y1 y2 y3] at hs; cases hs
            · rw [ab_wr z y1 y2] at hs
              rw [← Sum.inr.inj hs]
              exact (wr_R (S := S) (κ := f.1) (pl := f.2.1) (R := f.2.2)).1
theorem en_0 {S : mm_S} {A : Int → Prop} {s : aSt} {e : aEn} (h : abRes S A s e) : 0 ≤ e.1 := by
  obtain ⟨k, hk⟩ := h
  exact en_v0 k s hk
/-- a step brings the end nearer -/
theorem ab_ms {S : mm_S} {A : Int → Prop} {f : Fr} {t : List Fr} {fl as dn ms : Int} {s' : aSt} (h : abStep S A (f :: t, fl, as, dn, ms) = .inl s') : 2 * (500 - s'.2.2.2.1) + (s'.1.length : Int) < 2 * (500 - dn) + (t.length : Int) + 1 := by
  rcases Classical.em (fl = 1 ∨ f.2.1 = mN S f.1.2.1) with z | z
  · rcases Classical.em (lvM S f.2.2) with y | y
    · rw [ab_left z y] at h; cases h
    · cases t with
      | nil => rw [ab_over z y] at h; cases h
      | cons g u =>
        rw [ab_back z y] at h
        rw [← Sum.inl.inj h]
        show 2 * (500 - dn) + (((u.length + 1 : Nat)) : Int) < 2 * (500 - dn) + (((u.length + 1 : Nat)) : Int) + 1
        omega
  · by_cases y1 : dn = 500
    · rw [ab_long z y1] at h; cases h
    · by_cases y2 : wrR S f.1 f.2.1 f.2.2 = 0
      · by_cases y3 : mSo S f.1.2.1 f.2.1 = 10 ∨ mSo S f.1.2.1 f.2.1 = 11
        · by_cases y4 : t.length = 9
          · rw [ab_deep z y1 y2 y3 y4] at h; cases h
          · rw [ab_call z y1 y2 y3 y4] at h
            rw [← Sum.inl.inj h]
            show 2 * (500 - (dn + 1)) + (((t.length + 1 + 1 : Nat)) : Int) < 2 * (500 - dn) + (t.length : Int) + 1
            omega
        · rw [ab_nx z y1 y2 y3] at h
          rw [← Sum.inl.inj h]
          show 2 * (500 - (dn + 1)) + (((t.length + 1 : Nat)) : Int) < 2 * (500 - dn) + (t.length : Int) + 1
          omega
      · rw [ab_wr z y1 y2] at h; cases h
theorem mr_dn {S0 S : mm_S} {n : Int} {f : Fr} {t : List Fr} {as dn ms : Int} (hbW : mbW S0) (hmr : mrS S0 S n (f :: t, 0, as, dn, ms)) (hd : dn ≤ 499) : mrS S0 (up2 S 181 54 (dn + 1)) n (f :: t, 0, as, dn + 1, ms) := by
  obtain ⟨-, -, -, -, -, -, -, -, -, -, hvM⟩ := mr_top hbW hmr
  obtain ⟨h1, h2, ⟨h3, h4⟩, ⟨h5, h53, h54, h55, h61, h52, h56⟩, h41⟩ := hmr
  have er : ∀ b, b ≠ 181 → up2 S 181 54 (dn + 1) b = S b := fun b hb => up2_row hb
  have ec : ∀ j, j ≠ 54 → up2 S 181 54 (dn + 1) 181 j = S 181 j := fun j hj => up2_rc hj
  have hd3 : 0 ≤ as ∧ as ≤ dn ∧ dn ≤ 500 := h2.2.2.2.1
  have h41 : S 181 41 ≤ dn := h41
  refine ⟨⟨fun b y1 y2 => by rw [er b y2]; exact h1.1 b y1 y2, fun j hj => by rw [ec j (by omega)]; exact h1.2 j hj⟩, ⟨h2.1, h2.2.1, h2.2.2.1, ?_, h2.2.2.2.2⟩, pt_col hvM h3 h4 (by omega) (by omega) _, ⟨by rw [ec 45 (by omega)]; exact h5, by rw [ec 53 (by omega)]; exact h53, up2_same _ _ _ _, by rw [ec 55 (by omega)]; exact h55, by rw [ec 61 (by omega)]; exact h61, by rw [ec 52 (by omega)]; exact h52, by rw [ec 56 (by omega)]; exact h56⟩, ?_⟩
  · show 0 ≤ as ∧ as ≤ dn + 1 ∧ dn + 1 ≤ 500
    omega
  · show up2 S 181 54 (dn + 1) 181 41 ≤ dn + 1
    rw [ec 41 (by omega)]
    omega
set_option maxRecDepth 100000 in
theorem l_runsE {sh : List mm_H} {L : mm_L} (hm : mdS sh) {S0 S : mm_S} {e : aEn} (h : meS S0 S e) (he : 0 ≤ e.1 ∧ e.1 ≤ 8) {l1 l2 l3 l4 : Option Value} {Q : Option Value → am_M → Prop} (hQ : Q (some (.int (iI e.1))) (mm sh S L)) : am_AW eX10_runs (mm sh S L) 52 [some (.ref 181), l1, l2, l3, l4] [] Q := by
  refine am_aload_n rfl dX10_runs_52 ?_
  refine mm_getI dX10_runs_53 fl_X10_343 (md_0 hm) mdf_56 ?_
  rw [h.2.1]
  refine mm_iconst dX10_runs_56 ?_
  refine mm_jne (tgt := 161) dX10_runs_57 (by decide) (by omega) (by omega) (fun h57 => ?_) (fun h57 => ?_)
  · refine am_aload_n rfl dX10_runs_161 ?_
    refine mm_getI dX10_runs_162 fl_X10_343 (md_0 hm) mdf_56 ?_
    rw [h.2.1]
    refine am_ireturn dX10_runs_165 rfl rfl ?_
    exact hQ
  · exfalso; omega
set_option maxRecDepth 100000 in
set_option maxHeartbeats 4000000 in
theorem l_runs {sh : List mm_H} {L : mm_L} (hm : mdS sh) {S0 : mm_S} (hbW : mbW S0) {n : Int} (hn6 : 0 ≤ n ∧ n ≤ 60) {l1 l2 : Option Value} : ∀ (q : Nat) (s : aSt) (S : mm_S) (l4 : Option Value), (2 * (500 - s.2.2.2.1) + (s.1.length : Int)).toNat < q → (mrS S0 S n s) → (∀ e, abRes S0 (ansA (L 181 51) n) s e → runE S0 (L 181 51) n e) → am_AW eX10_runs (mm sh S L) 52 [some (.ref 181), l1, l2, some (.int (iI n)), l4] [] (fun r0 M' => ∃ e : aEn, r0 = some (.int (iI e.1)) ∧ ∃ S', M' = mm sh S' L ∧ runE S0 (L 181 51) n e ∧ meS S0 S' e) := by
  intro q
  induction q with
  | zero =>
    intro s S l4 hq
    exact absurd hq (Nat.not_lt_zero _)
  | succ q ih =>
    intro s S l4 hq hmr0 hab
    obtain ⟨fs, fl, as, dn, ms⟩ := s
    obtain ⟨f, t, rfl⟩ : ∃ f t, fs = f :: t := by
      cases fs with
      | nil => exfalso; have hl := hmr0.2.1.2.1.1; exact absurd hl (by simp)
      | cons f t => exact ⟨f, t, rfl⟩
    obtain ⟨hbe, hW, hr6, ⟨hw, hn24, hn0, hNe, hNS⟩, ⟨h17, h18⟩, ⟨hpl, hN24⟩, hP, hrg, hk10, hd, hvM⟩ := mr_top hbW hmr0
    have dd : S 181 45 = _ ∧ S 181 53 = as ∧ S 181 54 = dn ∧ S 181 55 = ms ∧ S 181 61 = fl ∧ S 181 52 = n ∧ S 181 56 = -1 := hmr0.2.2.2.1
    have hda : 0 ≤ as ∧ as ≤ dn ∧ dn ≤ 500 := hmr0.2.1.2.2.2.1
    have hfl : fl = 0 ∨ fl = 1 := hmr0.2.1.2.2.1
    refine am_aload_n rfl dX10_runs_52 ?_
    refine mm_getI dX10_runs_53 fl_X10_343 (md_0 hm) mdf_56 ?_
    rw [dd.2.2.2.2.2.2]
    refine mm_iconst dX10_runs_56 ?_
    refine mm_jne (tgt := 161) dX10_runs_57 (by decide) (by omega) (by omega) (fun h57 => ?_) (fun h57 => ?_)
    · exfalso; omega
    · refine am_aload_n rfl dX10_runs_60 ?_
      refine mm_getI dX10_runs_61 fl_X10_346 (md_0 hm) mdf_45 ?_
      rw [hd]
      refine mm_iconst dX10_runs_64 ?_
      refine mm_isub dX10_runs_65 ?_
      rw [show (t.length : Int) + 1 - 1 = (t.length : Int) by omega]
      refine am_ist4 dX10_runs_66 (Nat.le_of_ble_eq_true rfl) (am_c1i _) ?_
      refine am_aload_n rfl dX10_runs_68 ?_
      refine mm_getI dX10_runs_69 fl_X10_373 (md_0 hm) mdf_61 ?_
      rw [dd.2.2.2.2.1]
      refine mm_zeq (tgt := 88) dX10_runs_72 (by decide) (by omega) (fun h72 => ?_) (fun h72 => ?_)
      · have hf0 : fl = 0 := by omega
        subst hf0
        refine am_aload_n rfl dX10_runs_88 ?_
        refine mm_getR dX10_runs_89 fl_X10_126 (md_0 hm) mdf_47 ?_
        refine am_iload rfl dX10_runs_92 ?_
        refine mm_ial dX10_runs_94 (md_atPlace hm) (by omega) ?_
        rw [Int.toNat_natCast, h18]
        refine am_aload_n rfl dX10_runs_95 ?_
        refine mm_getR dX10_runs_96 fl_X10_36 (md_0 hm) mdf_10 ?_
        refine am_aload_n rfl dX10_runs_99 ?_
        refine mm_getR dX10_runs_100 fl_X10_123 (md_0 hm) mdf_46 ?_
        refine am_iload rfl dX10_runs_103 ?_
        refine mm_ial dX10_runs_105 (md_atRoutine hm) (by omega) ?_
        rw [Int.toNat_natCast, h17]
        refine mm_ial dX10_runs_106 (md_many hm) (by omega) ?_
        rw [Int.toNat_natCast, ← hNe]
        refine mm_jne (tgt := 118) dX10_runs_107 (by decide) (by omega) (by omega) (fun h107 => ?_) (fun h107 => ?_)
        · refine am_aload_n rfl dX10_runs_118 ?_
          refine mm_getI dX10_runs_119 fl_X10_403 (md_0 hm) mdf_54 ?_
          rw [dd.2.2.1]
          refine mm_sipush dX10_runs_122 (by decide) ?_
          refine mm_jne (tgt := 144) dX10_runs_125 (by decide) (by omega) (by omega) (fun h125 => ?_) (fun h125 => ?_)
          · refine am_aload_n rfl dX10_runs_144 ?_
            refine am_dup rfl dX10_runs_145 ?_
            refine mm_getI dX10_runs_146 fl_X10_403 (md_0 hm) mdf_54 ?_
            rw [dd.2.2.1]
            refine mm_iconst dX10_runs_149 ?_
            refine mm_iadd dX10_runs_150 ?_
            refine mm_putI dX10_runs_151 fp_X10_403 (md_0 hm) mdf_54 ?_
            have hmr2 := mr_dn hbW hmr0 (by omega)
            have h41 : S 181 41 ≤ dn := hmr0.2.2.2.2
            have h41b : up2 S 181 54 (dn + 1) 181 41 ≤ dn := by rw [up2_rc (by omega)]; exact h41
            refine am_aload_n rfl dX10_runs_154 ?_
            refine am_cxv (mm_V0 dX10_runs_155 in_X10_runStatement mk_X10_410 im_X10_runStatement sl_X10_runStatement ⟨Nat.le_of_ble_eq_true rfl, Nat.le_of_ble_eq_true rfl⟩ rfl (md_0 hm) (Nat.le_of_ble_eq_true rfl)) (m_runStatement (d0 := dn) hm hbW hmr2 (by omega) (by omega) hn6 (by omega) h41b) (fun M1 hq2 => ?_)
            obtain ⟨S9, rfl, hv9⟩ := hq2
            refine am_goto (tgt := 52) dX10_runs_158 (by decide) ?_
            rcases hv9 with ⟨s', q1, q2⟩ | ⟨e, q1, q2⟩
            · refine ih s' S9 _ ?_ q2 (fun e he => hab e (abr_s q1 he))
              have hms := ab_ms q1
              have hq3 : (2 * (500 - dn) + (((t.length + 1 : Nat)) : Int)).toNat < q + 1 := hq
              have hd9 : s'.2.2.2.1 ≤ 500 := q2.2.1.2.2.2.1.2.2
              omega
            · have hE := abr_e q1
              exact l_runsE hm q2 ⟨en_0 hE, en_R hE⟩ ⟨e, rfl, S9, rfl, hab e hE, q2⟩
          · refine am_aload_n rfl dX10_runs_128 ?_
            refine mm_bipush dX10_runs_129 (by decide) ?_
            refine am_aload_n rfl dX10_runs_131 ?_
            refine mm_getR dX10_runs_132 fl_X10_126 (md_0 hm) mdf_47 ?_
            refine am_iload rfl dX10_runs_135 ?_
            refine mm_ial dX10_runs_137 (md_atPlace hm) (by omega) ?_
            rw [Int.toNat_natCast, h18]
            refine am_cv (mm_V2 dX10_runs_138 in_X10_stops mk_X10_364 im_X10_stops sl_X10_stops ⟨Nat.le_of_ble_eq_true rfl, Nat.le_of_ble_eq_true rfl⟩ rfl (md_0 hm) (Nat.le_of_ble_eq_true rfl)) (m_stops (k := t.length) hm hd hk10) ?_
            have hv9 : (∃ s', abStep S0 (ansA (L 181 51) n) (f :: t, 0, as, dn, ms) = .inl s' ∧ mrS S0 (up2 (up2 (up2 S 181 56 7) 181 57 (S 217 t.length)) 181 58 (f.2.1 : Int)) n s') ∨ ∃ e, abStep S0 (ansA (L 181 51) n) (f :: t, 0, as, dn, ms) = .inr e ∧ meS S0 (up2 (up2 (up2 S 181 56 7) 181 57 (S 217 t.length)) 181 58 (f.2.1 : Int)) e := Or.inr ⟨(7, (f.1.2.1 : Int), (f.2.1 : Int), as, dn, ms), ab_long (by omega) h125, me_up hmr0.1 rfl h17.symm rfl dd.2.1 dd.2.2.1 dd.2.2.2.1⟩
            generalize up2 (up2 (up2 S 181 56 7) 181 57 (S 217 t.length)) 181 58 (f.2.1 : Int) = S9 at *
            refine am_goto (tgt := 158) dX10_runs_141 (by decide) ?_
            refine am_goto (tgt := 52) dX10_runs_158 (by decide) ?_
            rcases hv9 with ⟨s', q1, q2⟩ | ⟨e, q1, q2⟩
            · refine ih s' S9 _ ?_ q2 (fun e he => hab e (abr_s q1 he))
              have hms := ab_ms q1
              have hq3 : (2 * (500 - dn) + (((t.length + 1 : Nat)) : Int)).toNat < q + 1 := hq
              have hd9 : s'.2.2.2.1 ≤ 500 := q2.2.1.2.2.2.1.2.2
              omega
            · have hE := abr_e q1
              exact l_runsE hm q2 ⟨en_0 hE, en_R hE⟩ ⟨e, rfl, S9, rfl, hab e hE, q2⟩
        · refine am_aload_n rfl dX10_runs_110 ?_
          refine mm_iconst dX10_runs_111 ?_
          rw [show iI 1 = iI (b2 (¬ (0 : Int) = 1)) from rfl]
          refine am_cxv (mm_V1 dX10_runs_112 in_X10_returns mk_X10_406 im_X10_returns sl_X10_returns ⟨Nat.le_of_ble_eq_true rfl, Nat.le_of_ble_eq_true rfl⟩ rfl (md_0 hm) (Nat.le_of_ble_eq_true rfl)) (m_returns (A := ansA (L 181 51) n) (fl := 0) hm hbW hmr0 (Or.inr (by omega))) (fun M1 hq2 => ?_)
          obtain ⟨S9, rfl, hv9⟩ := hq2
          refine am_goto (tgt := 158) dX10_runs_115 (by decide) ?_
          refine am_goto (tgt := 52) dX10_runs_158 (by decide) ?_
          rcases hv9 with ⟨s', q1, q2⟩ | ⟨e, q1, q2⟩
          · refine ih s' S9 _ ?_ q2 (fun e he => hab e (abr_s q1 he))
            have hms := ab_ms q1
            have hq3 : (2 * (500 - dn) + (((t.length + 1 : Nat)) : Int)).toNat < q + 1 := hq
            have hd9 : s'.2.2.2.1 ≤ 500 := q2.2.1.2.2.2.1.2.2
            omega
          · have hE := abr_e q1
            exact l_runsE hm q2 ⟨en_0 hE, en_R hE⟩ ⟨e, rfl, S9, rfl, hab e hE, q2⟩
      · refine am_aload_n rfl dX10_runs_75 ?_
        refine mm_iconst dX10_runs_76 ?_
        refine mm_putZ dX10_runs_77 fp_X10_373 (md_0 hm) mdf_61 (by omega) ?_
        have hf1 : fl = 1 := by omega
        subst hf1
        have hmr2 := mr_fl (x := 0) hbW hmr0 (Or.inl rfl)
        refine am_aload_n rfl dX10_runs_80 ?_
        refine mm_iconst dX10_runs_81 ?_
        rw [show iI 0 = iI (b2 (¬ (1 : Int) = 1)) from rfl]
        refine am_cxv (mm_V1 dX10_runs_82 in_X10_returns mk_X10_406 im_X10_returns sl_X10_returns ⟨Nat.le_of_ble_eq_true rfl, Nat.le_of_ble_eq_true rfl⟩ rfl (md_0 hm) (Nat.le_of_ble_eq_true rfl)) (m_returns (A := ansA (L 181 51) n) (fl := 1) hm hbW hmr2 (Or.inl rfl)) (fun M1 hq2 => ?_)
        obtain ⟨S9, rfl, hv9⟩ := hq2
        refine am_goto (tgt := 158) dX10_runs_85 (by decide) ?_
        refine am_goto (tgt := 52) dX10_runs_158 (by decide) ?_
        rcases hv9 with ⟨s', q1, q2⟩ | ⟨e, q1, q2⟩
        · refine ih s' S9 _ ?_ q2 (fun e he => hab e (abr_s q1 he))
          have hms := ab_ms q1
          have hq3 : (2 * (500 - dn) + (((t.length + 1 : Nat)) : Int)).toNat < q + 1 := hq
          have hd9 : s'.2.2.2.1 ≤ 500 := q2.2.1.2.2.2.1.2.2
          omega
        · have hE := abr_e q1
          exact l_runsE hm q2 ⟨en_0 hE, en_R hE⟩ ⟨e, rfl, S9, rfl, hab e hE, q2⟩
