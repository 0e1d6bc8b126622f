set_option maxRecDepth 100000 in
set_option maxHeartbeats 4000000 in
theorem l_pi {sh : List mm_H} {S : mm_S} {L : mm_L} (hm : mdS sh) (hv : mdV S) {k p : Nat} (hk : k < 6) (hp : p < 6) (hw1 : mkW S k) (hw2 : mkW S p) : ∀ (q : Nat) (i : Nat) (S' : mm_S) (l : List (Nat × Nat)), 36 - i < q → (i ≤ l.length) → (mfF S S') → (mfI S' l) → (lOK l ∧ lD l ∧ lSt l (S 182 k) (S 182 p)) → am_AW eX10_partedAt (mm sh S' L) 47 [some (.ref 181), some (.int (iI (k : Int))), some (.int (iI (p : Int))), some (.int (iI ((l.length : Nat) : Int))), some (.int (iI (i : Int))), none, none, none, none, none] [] (fun r M' => ∃ S2 x, r = some (.int (iI x)) ∧ x = bfs (fun x => mPar S k p (x / 6) (x % 6)) (mNx S k p) q i l ∧ (-1 ≤ x ∧ x ≤ 40) ∧ M' = mm sh S2 L ∧ mfF S S2) := by
  intro q
  induction q with
  | zero =>
    intro i S' l hq
    exact absurd hq (Nat.not_lt_zero _)
  | succ q ih =>
    intro i S' l hq hi hF hI hL
    obtain ⟨i2, i3⟩ := id hI
    have hlen := hL.1.len
    have q1 := hv.2.2.1 k hk
    have q2 := hv.2.2.1 p hp
    refine am_iload rfl dX10_partedAt_47 ?_
    refine am_iload_n rfl dX10_partedAt_49 ?_
    refine mm_jge (tgt := 235) dX10_partedAt_50 (by decide) (by omega) (by omega) (fun h50 => ?_) (fun h50 => ?_)
    · refine mm_iconst dX10_partedAt_235 ?_
      refine am_ireturn dX10_partedAt_236 rfl rfl ?_
      refine ⟨S', -1, rfl, ?_, by omega, rfl, hF⟩
      rw [bfs, List.getElem?_eq_none (by omega)]
    · obtain ⟨⟨pr, d⟩, hpd⟩ : ∃ x, l[i]? = some x := ⟨_, List.getElem?_eq_getElem (by omega)⟩
      have hmem := List.mem_of_getElem? hpd
      have hp84 := (i2 i pr d hpd).1
      have hp36 := (hL.1.2 _ hmem).1
      have hst := hL.2.2 _ hmem
      have hdj := hL.2.1 i pr d hpd
      simp only [] at hp36 hst
      have e6 : ((pr : Int) / 6) = ((pr / 6 : Nat) : Int) := by omega
      have e7 : ((pr : Int) % 6) = ((pr % 6 : Nat) : Int) := by omega
      refine am_aload_n rfl dX10_partedAt_53 ?_
      refine mm_getR dX10_partedAt_54 fl_X10_26 (md_0 hm) mdf_6 ?_
      refine am_iload rfl dX10_partedAt_57 ?_
      refine mm_ial dX10_partedAt_59 (md_pair hm) (by omega) ?_
      rw [Int.toNat_natCast, hp84]
      refine mm_bipush dX10_partedAt_60 (by decide) ?_
      refine mm_idiv dX10_partedAt_62 (by omega) (by omega) ?_
      rw [e6]
      refine am_ist5 dX10_partedAt_63 (Nat.le_of_ble_eq_true rfl) (am_c1i _) ?_
      refine am_aload_n rfl dX10_partedAt_65 ?_
      refine mm_getR dX10_partedAt_66 fl_X10_26 (md_0 hm) mdf_6 ?_
      refine am_iload rfl dX10_partedAt_69 ?_
      refine mm_ial dX10_partedAt_71 (md_pair hm) (by omega) ?_
      rw [Int.toNat_natCast, hp84]
      refine mm_bipush dX10_partedAt_72 (by decide) ?_
      refine mm_irem dX10_partedAt_74 (by omega) (by omega) ?_
      rw [e7]
      refine am_ist6 dX10_partedAt_75 (Nat.le_of_ble_eq_true rfl) (am_c1i _) ?_
      refine am_aload_n rfl dX10_partedAt_77 ?_
      refine am_iload_n rfl dX10_partedAt_78 ?_
      refine am_iload rfl dX10_partedAt_79 ?_
      refine am_iload_n rfl dX10_partedAt_81 ?_
      refine am_iload rfl dX10_partedAt_82 ?_
      refine am_cxi (mm_V4 dX10_partedAt_84 in_X10_isParted mk_X10_176 im_X10_isParted sl_X10_isParted ⟨Nat.le_of_ble_eq_true rfl, Nat.le_of_ble_eq_true rfl⟩ rfl (md_0 hm) (Nat.le_of_ble_eq_true rfl)) (m_isParted hm (hF.mv hv) hk hp (by omega) (by omega)) (fun w M1 hM1 => ?_)
      obtain ⟨v, rfl, hv3, rfl⟩ := hM1
      have hv01 := tells_01 hv3
      refine mm_zeq (tgt := 98) dX10_partedAt_87 (by decide) (by omega) (fun h87 => ?_) (fun h87 => ?_)
      · refine mm_iconst dX10_partedAt_98 ?_
        refine am_ist7 dX10_partedAt_99 (Nat.le_of_ble_eq_true rfl) (am_c1i _) ?_
        refine l_pn (S := S) (l := l) (s := pr / 6) (t := pr % 6) (d := d) hm hv hk hp hw1 hw2 (by omega) (by omega) (by rw [hpd, show 6 * (pr / 6) + pr % 6 = pr by omega]) (by omega) (by omega) (fun z => tells_f hv3 (by omega) (hF.Par.mpr z)) (fun S1 hF1 hI1 hL1 => ?_) 9 0 S' (by omega) (by omega) hF hI ⟨hL.1, hL.2.1, hL.2.2, Nat.le_refl _, fun _ _ => rfl⟩
        refine mm_inc4 dX10_partedAt_229 (Nat.le_of_ble_eq_true rfl) (am_c1i _) ?_
        refine am_goto (tgt := 47) dX10_partedAt_232 (by decide) ?_
        refine am_AW.unset 5 (am_AW.unset 6 (am_AW.unset 7 (am_AW.mono (ih (i + 1) S1 _ (by omega) (by have := hL1.2.2.2.1; omega) hF1 hI1 ⟨hL1.1, hL1.2.1, hL1.2.2.1⟩) (fun r M2 h => ?_))))
        obtain ⟨S3, x, h1, h2, h3⟩ := h
        refine ⟨S3, x, h1, ?_, h3⟩
        rw [bfs, hpd]
        simp only []
        rw [cif_f (fun z => tells_f hv3 (by omega) (hF.Par.mpr z))]
        exact h2
      · refine am_aload_n rfl dX10_partedAt_90 ?_
        refine mm_getR dX10_partedAt_91 fl_X10_29 (md_0 hm) mdf_7 ?_
        refine am_iload rfl dX10_partedAt_94 ?_
        refine mm_ial dX10_partedAt_96 (md_pairFar hm) (by omega) ?_
        rw [Int.toNat_natCast, (i2 i pr d hpd).2]
        refine am_ireturn dX10_partedAt_97 rfl rfl ?_
        refine ⟨S', (d : Int), rfl, ?_, by omega, rfl, hF⟩
        rw [bfs, hpd]
        simp only []
        rw [cif_t (hF.Par.mp (tells_t hv3 (by omega)))]
set_option maxRecDepth 100000 in
set_option maxHeartbeats 4000000 in
theorem l_pm {sh : List mm_H} {S : mm_S} {L : mm_L} (hm : mdS sh) (hv : mdV S) {k p : Nat} (hk : k < 6) (hp : p < 6) (hw1 : mkW S k) (hw2 : mkW S p) (hp1 : 0 < S 182 k) (hp2 : 0 < S 182 p) : ∀ (q : Nat) (j : Nat), 36 - j < q → (j ≤ 36) → am_AW eX10_partedAt (mm sh (fillS S 188 j 0) L) 2 [some (.ref 181), some (.int (iI (k : Int))), some (.int (iI (p : Int))), some (.int (iI (j : Int))), none, none, none, none, none, none] [] (fun r M' => ∃ S2 x, r = some (.int (iI x)) ∧ x = bfs (fun x => mPar S k p (x / 6) (x % 6)) (mNx S k p) 37 0 [(0, 0)] ∧ (-1 ≤ x ∧ x ≤ 40) ∧ M' = mm sh S2 L ∧ mfF S S2) := by
  intro q
  induction q with
  | zero =>
    intro j hq
    exact absurd hq (Nat.not_lt_zero _)
  | succ q ih =>
    intro j hq hj
    refine am_iload_n rfl dX10_partedAt_2 ?_
    refine mm_bipush dX10_partedAt_3 (by decide) ?_
    refine mm_jge (tgt := 21) dX10_partedAt_5 (by decide) (by omega) (by omega) (fun h5 => ?_) (fun h5 => ?_)
    · have h36 : j = 36 := by omega
      subst h36
      refine mm_iconst dX10_partedAt_21 ?_
      refine am_ist3 dX10_partedAt_22 (Nat.le_of_ble_eq_true rfl) (am_c1i _) ?_
      refine am_aload_n rfl dX10_partedAt_23 ?_
      refine mm_getR dX10_partedAt_24 fl_X10_26 (md_0 hm) mdf_6 ?_
      refine mm_iconst dX10_partedAt_27 ?_
      refine mm_iconst dX10_partedAt_28 ?_
      refine mm_ias dX10_partedAt_29 (md_pair hm) (by omega) ?_
      refine am_aload_n rfl dX10_partedAt_30 ?_
      refine mm_getR dX10_partedAt_31 fl_X10_29 (md_0 hm) mdf_7 ?_
      refine mm_iconst dX10_partedAt_34 ?_
      refine mm_iconst dX10_partedAt_35 ?_
      refine mm_ias dX10_partedAt_36 (md_pairFar hm) (by omega) ?_
      refine am_aload_n rfl dX10_partedAt_37 ?_
      refine mm_getR dX10_partedAt_38 fl_X10_32 (md_0 hm) mdf_8 ?_
      refine mm_iconst dX10_partedAt_41 ?_
      refine mm_iconst dX10_partedAt_42 ?_
      refine mm_bas dX10_partedAt_43 (md_pairMet hm) (by omega) (Or.inr rfl) ?_
      refine mm_iconst dX10_partedAt_44 ?_
      refine am_ist4 dX10_partedAt_45 (Nat.le_of_ble_eq_true rfl) (am_c1i _) ?_
      exact l_pi hm hv hk hp hw1 hw2 37 0 _ [(0, 0)] (by omega) (by simp) (fun b b1 b2 b3 => by
        rw [up2_row b3, up2_row b2, up2_row b1]
        funext j
        simp [fillS, b3]) ⟨fun j q d h => by
        have hj := (List.getElem?_eq_some_iff.mp h).1
        simp at hj
        subst hj
        simp at h
        obtain ⟨rfl, rfl⟩ := h
        exact ⟨rfl, rfl⟩, fun q hq => by
        by_cases h0 : q = 0
        · subst h0; rfl
        · rw [up2_rc (show q ≠ Int.toNat 0 from h0), up2_rd (by omega), up2_rd (by omega), if_neg (by simpa using h0)]
          simp [fillS, hq]⟩ ⟨⟨by simp, fun x hx => by simp at hx; subst hx; exact ⟨by omega, by omega⟩⟩, fun j q d h => by
        have hj := (List.getElem?_eq_some_iff.mp h).1
        simp at hj
        subst hj
        simp at h
        omega, fun x hx => by simp at hx; subst hx; exact ⟨by simpa using hp1, by simpa using hp2⟩⟩
    · refine am_aload_n rfl dX10_partedAt_8 ?_
      refine mm_getR dX10_partedAt_9 fl_X10_32 (md_0 hm) mdf_8 ?_
      refine am_iload_n rfl dX10_partedAt_12 ?_
      refine mm_iconst dX10_partedAt_13 ?_
      refine mm_bas dX10_partedAt_14 (md_pairMet hm) (by omega) (Or.inl rfl) ?_
      rw [Int.toNat_natCast, fillS_s]
      refine mm_inc3 dX10_partedAt_15 (Nat.le_of_ble_eq_true rfl) (am_c1i _) ?_
      refine am_goto (tgt := 2) dX10_partedAt_18 (by decide) ?_
      exact ih (j + 1) (by omega) (by omega)
set_option maxRecDepth 100000 in
set_option maxHeartbeats 4000000 in
theorem m_partedAt {sh : List mm_H} {S : mm_S} {L : mm_L} (hm : mdS sh) (hv : mdV S) {k p : Nat} (hk : k < 6) (hp : p < 6) (hw1 : mkW S k) (hw2 : mkW S p) (hp1 : 0 < S 182 k) (hp2 : 0 < S 182 p) : am_E eX10_partedAt [.ref 181, .int (iI (k : Int)), .int (iI (p : Int))] (mm sh S L) (fun r M' => ∃ S2 x, r = some (.int (iI x)) ∧ x = bfs (fun x => mPar S k p (x / 6) (x % 6)) (mNx S k p) 37 0 [(0, 0)] ∧ (-1 ≤ x ∧ x ≤ 40) ∧ M' = mm sh S2 L ∧ mfF S S2) := by
  refine am_enter rfl rfl (Nat.le_of_ble_eq_true rfl) ?_
  refine mm_iconst dX10_partedAt_0 ?_
  refine am_ist3 dX10_partedAt_1 (Nat.le_of_ble_eq_true rfl) (am_c1i _) ?_
  have h := l_pm (L := L) hm hv hk hp hw1 hw2 hp1 hp2 37 0 (by omega) (by omega)
  rw [fillS_0] at h
  exact h
def mkA (S : mm_S) : Prop := ∀ k : Nat, (k : Int) < S 181 0 → mkW S k ∧ 0 < S 182 k
noncomputable def mFit (S : mm_S) (k p : Int) : Int := bfs (fun x => mPar S k.toNat p.toNat (x / 6) (x % 6)) (mNx S k.toNat p.toNat) 37 0 [(0, 0)]
def mfitQ (S S' : mm_S) (k p v : Int) : Prop := (¬ (mK S k ∧ mK S p) ∧ v = -2 ∧ S' = S) ∨ ((mK S k ∧ mK S p) ∧ mFit S k p = -1 ∧ v = 1 ∧ mfF S S') ∨ ((mK S k ∧ mK S p) ∧ mFit S k p ≠ -1 ∧ v = 0 ∧ ∃ S2, mfF S S2 ∧ S' = up2 S2 181 5 (mFit S k p))
set_option maxRecDepth 100000 in
set_option maxHeartbeats 4000000 in
theorem m_fits {sh : List mm_H} {S : mm_S} {L : mm_L} (hm : mdS sh) (hv : mdV S) (hW : mkA S) {k p : Int} (hk : Rg k) (hp : Rg p) : am_E eX10_fits [.ref 181, .int (iI k), .int (iI p)] (mm sh S L) (fun r0 M' => ∃ v S', r0 = some (.int (iI v)) ∧ M' = mm sh S' L ∧ mfitQ S S' k p v) := by
  obtain ⟨u0, u1, u2, u3, u4⟩ := hv
  refine am_enter rfl rfl (Nat.le_of_ble_eq_true rfl) ?_
  refine am_aload_n rfl dX10_fits_0 ?_
  refine am_iload_n rfl dX10_fits_1 ?_
  refine am_ci (mm_V1 dX10_fits_2 in_X10_isKind mk_X10_148 im_X10_isKind sl_X10_isKind ⟨Nat.le_of_ble_eq_true rfl, Nat.le_of_ble_eq_true rfl⟩ rfl (md_0 hm) (Nat.le_of_ble_eq_true rfl)) (m_isKind hm ⟨u0, u1, u2, u3, u4⟩ hk) ?_
  refine mm_beq (tgt := 16) dX10_fits_5 (by decide) (fun h5 => ?_) (fun h5 => ?_)
  · refine mm_bipush dX10_fits_16 (by decide) ?_
    refine am_ireturn dX10_fits_18 rfl rfl ?_
    exact ⟨_, S, rfl, rfl, Or.inl ⟨by omega, rfl, rfl⟩⟩
  · refine am_aload_n rfl dX10_fits_8 ?_
    refine am_iload_n rfl dX10_fits_9 ?_
    refine am_ci (mm_V1 dX10_fits_10 in_X10_isKind mk_X10_148 im_X10_isKind sl_X10_isKind ⟨Nat.le_of_ble_eq_true rfl, Nat.le_of_ble_eq_true rfl⟩ rfl (md_0 hm) (Nat.le_of_ble_eq_true rfl)) (m_isKind hm ⟨u0, u1, u2, u3, u4⟩ hp) ?_
    refine mm_bne (tgt := 19) dX10_fits_13 (by decide) (fun h13 => ?_) (fun h13 => ?_)
    · obtain ⟨k, rfl⟩ := Int.eq_ofNat_of_zero_le (show 0 ≤ k by omega)
      obtain ⟨p, rfl⟩ := Int.eq_ofNat_of_zero_le (show 0 ≤ p by omega)
      have hv : mdV S := ⟨u0, u1, u2, u3, u4⟩
      refine am_aload_n rfl dX10_fits_19 ?_
      refine am_iload_n rfl dX10_fits_20 ?_
      refine am_iload_n rfl dX10_fits_21 ?_
      refine am_cxi (mm_V2 dX10_fits_22 in_X10_partedAt mk_X10_180 im_X10_partedAt sl_X10_partedAt ⟨Nat.le_of_ble_eq_true rfl, Nat.le_of_ble_eq_true rfl⟩ rfl (md_0 hm) (Nat.le_of_ble_eq_true rfl)) (am_E.mono (m_partedAt (k := k) (p := p) hm hv (by omega) (by omega) (hW k (by omega)).1 (hW p (by omega)).1 (hW k (by omega)).2 (hW p (by omega)).2) (Q' := fun r0 M' => ∃ y, r0 = some (.int y) ∧ ∃ S2 x, y = iI x ∧ x = mFit S k p ∧ (-1 ≤ x ∧ x ≤ 40) ∧ M' = mm sh S2 L ∧ mfF S S2) (fun r M2 ⟨S2, x, h1, h2⟩ => ⟨_, h1, S2, x, rfl, h2⟩)) (fun w M1 hM1 => ?_)
      obtain ⟨S2, x, rfl, hx, hxR, rfl, hF⟩ := hM1
      have e5 : S2 181 5 = S 181 5 := by rw [hF 181 (by omega) (by omega) (by omega)]
      refine am_ist3 dX10_fits_25 (Nat.le_of_ble_eq_true rfl) (am_c1i _) ?_
      refine am_aload_n rfl dX10_fits_26 ?_
      refine am_iload_n rfl dX10_fits_27 ?_
      refine mm_iconst dX10_fits_28 ?_
      refine mm_jne (tgt := 39) dX10_fits_29 (by decide) (by omega) (by omega) (fun h29 => ?_) (fun h29 => ?_)
      · refine am_iload_n rfl dX10_fits_39 ?_
        refine mm_putI dX10_fits_40 fp_X10_22 (md_0 hm) mdf_5 ?_
        refine am_iload_n rfl dX10_fits_43 ?_
        refine mm_iconst dX10_fits_44 ?_
        refine mm_jne (tgt := 52) dX10_fits_45 (by decide) (by omega) (by omega) (fun h45 => ?_) (fun h45 => ?_)
        · refine mm_iconst dX10_fits_52 ?_
          refine am_ireturn dX10_fits_53 rfl rfl ?_
          first
            | (exfalso; omega)
            | exact ⟨_, _, rfl, rfl, Or.inr (Or.inl ⟨by omega, by omega, rfl, by rw [up2_id]; exact hF⟩)⟩
            | exact ⟨_, _, rfl, rfl, Or.inr (Or.inr ⟨by omega, by omega, rfl, S2, hF, by rw [hx]⟩)⟩
        · refine mm_iconst dX10_fits_48 ?_
          refine am_goto (tgt := 53) dX10_fits_49 (by decide) ?_
          refine am_ireturn dX10_fits_53 rfl rfl ?_
          first
            | (exfalso; omega)
            | exact ⟨_, _, rfl, rfl, Or.inr (Or.inl ⟨by omega, by omega, rfl, by rw [up2_id]; exact hF⟩)⟩
            | exact ⟨_, _, rfl, rfl, Or.inr (Or.inr ⟨by omega, by omega, rfl, S2, hF, by rw [hx]⟩)⟩
      · refine am_aload_n rfl dX10_fits_32 ?_
        refine mm_getI dX10_fits_33 fl_X10_22 (md_0 hm) mdf_5 ?_
        refine am_goto (tgt := 40) dX10_fits_36 (by decide) ?_
        refine mm_putI dX10_fits_40 fp_X10_22 (md_0 hm) mdf_5 ?_
        refine am_iload_n rfl dX10_fits_43 ?_
        refine mm_iconst dX10_fits_44 ?_
        refine mm_jne (tgt := 52) dX10_fits_45 (by decide) (by omega) (by omega) (fun h45 => ?_) (fun h45 => ?_)
        · refine mm_iconst dX10_fits_52 ?_
          refine am_ireturn dX10_fits_53 rfl rfl ?_
          first
            | (exfalso; omega)
            | exact ⟨_, _, rfl, rfl, Or.inr (Or.inl ⟨by omega, by omega, rfl, by rw [up2_id]; exact hF⟩)⟩
            | exact ⟨_, _, rfl, rfl, Or.inr (Or.inr ⟨by omega, by omega, rfl, S2, hF, by rw [hx]⟩)⟩
        · refine mm_iconst dX10_fits_48 ?_
          refine am_goto (tgt := 53) dX10_fits_49 (by decide) ?_
          refine am_ireturn dX10_fits_53 rfl rfl ?_
          first
            | (exfalso; omega)
            | exact ⟨_, _, rfl, rfl, Or.inr (Or.inl ⟨by omega, by omega, rfl, by rw [up2_id]; exact hF⟩)⟩
            | exact ⟨_, _, rfl, rfl, Or.inr (Or.inr ⟨by omega, by omega, rfl, S2, hF, by rw [hx]⟩)⟩
    · refine mm_bipush dX10_fits_16 (by decide) ?_
      refine am_ireturn dX10_fits_18 rfl rfl ?_
      exact ⟨_, S, rfl, rfl, Or.inl ⟨by omega, rfl, rfl⟩⟩
