set_option maxRecDepth 100000 in
set_option maxHeartbeats 4000000 in
theorem l_pn {sh : List mm_H} {S : mm_S} {L : mm_L} (hm : mdS sh) (hv : mdV S) {l : List (Nat × Nat)} {k p s t i d : Nat} {Q : Option Value → am_M → Prop} (hk : k < 6) (hp : p < 6) (hw1 : mkW S k) (hw2 : mkW S p) (hs : (s : Int) < S 182 k) (ht : (t : Int) < S 182 p) (hi : l[i]? = some (6 * s + t, d)) (hd : d + 1 ≤ 36) (hdl : d + 1 ≤ l.length) (hnp : ¬ mPar S k p s t) (hc : ∀ S1, mfF S S1 → mfI S1 ((nxtL (fun n => mH S p t n) (mG S k p s t) 8).foldl (fnd (d + 1)) l) → (lOK ((nxtL (fun n => mH S p t n) (mG S k p s t) 8).foldl (fnd (d + 1)) l) ∧ lD ((nxtL (fun n => mH S p t n) (mG S k p s t) 8).foldl (fnd (d + 1)) l) ∧ lSt ((nxtL (fun n => mH S p t n) (mG S k p s t) 8).foldl (fnd (d + 1)) l) (S 182 k) (S 182 p) ∧ l.length ≤ ((nxtL (fun n => mH S p t n) (mG S k p s t) 8).foldl (fnd (d + 1)) l).length ∧ ∀ j : Nat, j < l.length → ((nxtL (fun n => mH S p t n) (mG S k p s t) 8).foldl (fnd (d + 1)) l)[j]? = l[j]?) → am_AW eX10_partedAt (mm sh S1 L) 229 [some (.ref 181), some (.int (iI (k : Int))), some (.int (iI (p : Int))), some (.int (iI ((((nxtL (fun n => mH S p t n) (mG S k p s t) 8).foldl (fnd (d + 1)) l).length : Nat) : Int))), some (.int (iI (i : Int))), some (.int (iI (s : Int))), some (.int (iI (t : Int))), some (.int (iI (8 : Int))), none, none] [] Q) : ∀ (q : Nat) (n : Nat) (S' : mm_S), 8 - n < q → (n ≤ 8) → (mfF S S') → (mfI S' ((nxtL (fun n => mH S p t n) (mG S k p s t) n).foldl (fnd (d + 1)) l)) → (lOK ((nxtL (fun n => mH S p t n) (mG S k p s t) n).foldl (fnd (d + 1)) l) ∧ lD ((nxtL (fun n => mH S p t n) (mG S k p s t) n).foldl (fnd (d + 1)) l) ∧ lSt ((nxtL (fun n => mH S p t n) (mG S k p s t) n).foldl (fnd (d + 1)) l) (S 182 k) (S 182 p) ∧ l.length ≤ ((nxtL (fun n => mH S p t n) (mG S k p s t) n).foldl (fnd (d + 1)) l).length ∧ ∀ j : Nat, j < l.length → ((nxtL (fun n => mH S p t n) (mG S k p s t) n).foldl (fnd (d + 1)) l)[j]? = l[j]?) → am_AW eX10_partedAt (mm sh S' L) 101 [some (.ref 181), some (.int (iI (k : Int))), some (.int (iI (p : Int))), some (.int (iI ((((nxtL (fun n => mH S p t n) (mG S k p s t) n).foldl (fnd (d + 1)) l).length : Nat) : Int))), some (.int (iI (i : Int))), some (.int (iI (s : Int))), some (.int (iI (t : Int))), some (.int (iI (n : Int))), none, none] [] Q := by
  intro q
  induction q with
  | zero =>
    intro n S' hq
    exact absurd hq (Nat.not_lt_zero _)
  | succ q ih =>
    intro n S' hq hn hF hI hL
    have q1 := hv.2.2.1 k hk
    have q2 := hv.2.2.1 p hp
    have hlen := hL.1.len
    have hil : i < l.length := (List.getElem?_eq_some_iff.mp hi).1
    have hl4 := hL.2.2.2.1
    refine am_iload rfl dX10_partedAt_101 ?_
    refine mm_bipush dX10_partedAt_103 (by decide) ?_
    refine mm_jge (tgt := 229) dX10_partedAt_105 (by decide) (by omega) (by omega) (fun h105 => ?_) (fun h105 => ?_)
    · have h8 : n = 8 := by omega
      subst h8
      exact hc S' hF hI hL
    · refine mm_iconst dX10_partedAt_108 ?_
      refine am_ist8 dX10_partedAt_109 (Nat.le_of_ble_eq_true rfl) (am_c1i _) ?_
      refine am_iload rfl dX10_partedAt_111 ?_
      refine mm_iconst dX10_partedAt_113 ?_
      refine mm_jge (tgt := 223) dX10_partedAt_114 (by decide) (by omega) (by omega) (fun h114 => ?_) (fun h114 => ?_)
      · exfalso; omega
      · refine am_aload_n rfl dX10_partedAt_117 ?_
        refine am_iload_n rfl dX10_partedAt_118 ?_
        refine am_iload rfl dX10_partedAt_119 ?_
        refine am_iload rfl dX10_partedAt_121 ?_
        refine am_ci (mm_V3 dX10_partedAt_123 in_X10_has mk_X10_160 im_X10_has sl_X10_has ⟨Nat.le_of_ble_eq_true rfl, Nat.le_of_ble_eq_true rfl⟩ rfl (md_0 hm) (Nat.le_of_ble_eq_true rfl)) (m_has hm (mfF.mv (by assumption) hv) (by omega) (by omega) (by omega)) ?_
        refine mm_beq (tgt := 223) dX10_partedAt_126 (by decide) (fun h126 => ?_) (fun h126 => ?_)
        · refine mm_inc7 dX10_partedAt_223 (Nat.le_of_ble_eq_true rfl) (am_c1i _) ?_
          refine am_goto (tgt := 101) dX10_partedAt_226 (by decide) ?_
          first
            | exact absurd (hF01.H.mpr hH2) h126
            | (have g1 : mG S k p s t n 1 = qa := by unfold mG; rw [if_pos rfl, hqa]; rfl
               have g0 : mG S k p s t n 0 = qb := by unfold mG; rw [if_neg (by decide), hqb]; rfl
               have e : ((nxtL (fun n => mH S p t n) (mG S k p s t) (n + 1)).foldl (fnd (d + 1)) l) = fnd (d + 1) (fnd (d + 1) ((nxtL (fun n => mH S p t n) (mG S k p s t) n).foldl (fnd (d + 1)) l) qa) qb := by
                 simp only [nxtL]
                 rw [cif_t hH2, List.foldl_append, g1, g0]
                 rfl
               refine am_AW.unset 8 (am_AW.unset 9 ?_)
               have h9 := ih (n + 1) S2 (by omega) (by omega) (hF01.tr hF2) (by rw [e]; exact hI2) (by rw [e]; exact ⟨m1, m2.1, m3, by omega, fun j hj => by rw [m2.2.2 j (by omega), k2.2.2 j (by omega)]; exact j5 j hj⟩)
               rw [e] at h9
               exact h9)
            | (have e : ((nxtL (fun n => mH S p t n) (mG S k p s t) (n + 1)).foldl (fnd (d + 1)) l) = ((nxtL (fun n => mH S p t n) (mG S k p s t) n).foldl (fnd (d + 1)) l) := by
                 simp only [nxtL]
                 rw [cif_f (fun z => h126 (hF.H.mpr z)), List.append_nil]
               refine am_AW.unset 8 (am_AW.unset 9 ?_)
               have h9 := ih (n + 1) S' (by omega) (by omega) hF (by rw [e]; exact hI) (by rw [e]; exact hL)
               rw [e] at h9
               exact h9)
        · have hH2 : mH S p t n := hF.H.mp h126
          have hH1 : mH S k s n := Classical.byContradiction (fun z => hnp (Or.inr ⟨n, by omega, hH2, Or.inl z⟩))
          have s1 := mF_st (y := True) hv hw1 (by omega) (by omega) hH1
          have s2 := mF_st (y := True) hv hw2 (by omega) (by omega) hH2
          have s3 := mF_st (y := False) hv hw1 (by omega) (by omega) hH1
          have s4 := mF_st (y := False) hv hw2 (by omega) (by omega) hH2
          obtain ⟨j1, j2, j3, j4, j5⟩ := id hL
          have j0 := j1.len
          obtain ⟨qa, hqa⟩ : ∃ q : Nat, 6 * mF S k s n True + mF S p t n True = (q : Int) := ⟨(6 * mF S k s n True + mF S p t n True).toNat, by omega⟩
          obtain ⟨qb, hqb⟩ : ∃ q : Nat, 6 * mF S k s n False + mF S p t n False = (q : Int) := ⟨(6 * mF S k s n False + mF S p t n False).toNat, by omega⟩
          have k1 := lOK_fnd j1 (q := qa) (d := d + 1) (by omega) (by omega)
          have k2 := lD_fnd (q := qa) (d := d + 1) j2 (by omega)
          have k3 := lSt_fnd (q := qa) (d := d + 1) j3 (by constructor <;> omega)
          refine t_next0 hm hv hF hI j1 hk hp (by omega) (by omega) (by omega) (by rw [j5 i (by omega)]; exact hi) (by omega) hqa (by omega) (fun S1 hI1 hF1 => ?_)
          have hF01 := hF.tr hF1
          refine mm_inc8 dX10_partedAt_217 (Nat.le_of_ble_eq_true rfl) (am_c1i _) ?_
          refine am_goto (tgt := 111) dX10_partedAt_220 (by decide) ?_
          refine am_iload rfl dX10_partedAt_111 ?_
          refine mm_iconst dX10_partedAt_113 ?_
          refine mm_jge (tgt := 223) dX10_partedAt_114 (by decide) (by omega) (by omega) (fun h114 => ?_) (fun h114 => ?_)
          · exfalso; omega
          · refine am_aload_n rfl dX10_partedAt_117 ?_
            refine am_iload_n rfl dX10_partedAt_118 ?_
            refine am_iload rfl dX10_partedAt_119 ?_
            refine am_iload rfl dX10_partedAt_121 ?_
            refine am_ci (mm_V3 dX10_partedAt_123 in_X10_has mk_X10_160 im_X10_has sl_X10_has ⟨Nat.le_of_ble_eq_true rfl, Nat.le_of_ble_eq_true rfl⟩ rfl (md_0 hm) (Nat.le_of_ble_eq_true rfl)) (m_has hm (mfF.mv (by assumption) hv) (by omega) (by omega) (by omega)) ?_
            refine mm_beq (tgt := 223) dX10_partedAt_126 (by decide) (fun h126 => ?_) (fun h126 => ?_)
            · refine mm_inc7 dX10_partedAt_223 (Nat.le_of_ble_eq_true rfl) (am_c1i _) ?_
              refine am_goto (tgt := 101) dX10_partedAt_226 (by decide) ?_
              first
                | exact absurd (hF01.H.mpr hH2) h126
                | (have g1 : mG S k p s t n 1 = qa := by unfold mG; rw [if_pos rfl, hqa]; rfl
                   have g0 : mG S k p s t n 0 = qb := by unfold mG; rw [if_neg (by decide), hqb]; rfl
                   have e : ((nxtL (fun n => mH S p t n) (mG S k p s t) (n + 1)).foldl (fnd (d + 1)) l) = fnd (d + 1) (fnd (d + 1) ((nxtL (fun n => mH S p t n) (mG S k p s t) n).foldl (fnd (d + 1)) l) qa) qb := by
                     simp only [nxtL]
                     rw [cif_t hH2, List.foldl_append, g1, g0]
                     rfl
                   refine am_AW.unset 8 (am_AW.unset 9 ?_)
                   have h9 := ih (n + 1) S2 (by omega) (by omega) (hF01.tr hF2) (by rw [e]; exact hI2) (by rw [e]; exact ⟨m1, m2.1, m3, by omega, fun j hj => by rw [m2.2.2 j (by omega), k2.2.2 j (by omega)]; exact j5 j hj⟩)
                   rw [e] at h9
                   exact h9)
                | (have e : ((nxtL (fun n => mH S p t n) (mG S k p s t) (n + 1)).foldl (fnd (d + 1)) l) = ((nxtL (fun n => mH S p t n) (mG S k p s t) n).foldl (fnd (d + 1)) l) := by
                     simp only [nxtL]
                     rw [cif_f (fun z => h126 (hF.H.mpr z)), List.append_nil]
                   refine am_AW.unset 8 (am_AW.unset 9 ?_)
                   have h9 := ih (n + 1) S' (by omega) (by omega) hF (by rw [e]; exact hI) (by rw [e]; exact hL)
                   rw [e] at h9
                   exact h9)
            · refine t_next1 hm hv hF01 hI1 k1 hk hp (by omega) (by omega) (by omega) (by rw [k2.2.2 i (by omega), j5 i (by omega)]; exact hi) (by omega) hqb (by omega) (fun S2 hI2 hF2 => ?_)
              have m1 := lOK_fnd k1 (q := qb) (d := d + 1) (by omega) (by omega)
              have m2 := lD_fnd (q := qb) (d := d + 1) k2.1 (by omega)
              have m3 := lSt_fnd (q := qb) (d := d + 1) k3 (by constructor <;> omega)
              refine mm_inc8 dX10_partedAt_217 (Nat.le_of_ble_eq_true rfl) (am_c1i _) ?_
              refine am_goto (tgt := 111) dX10_partedAt_220 (by decide) ?_
              refine am_iload rfl dX10_partedAt_111 ?_
              refine mm_iconst dX10_partedAt_113 ?_
              refine mm_jge (tgt := 223) dX10_partedAt_114 (by decide) (by omega) (by omega) (fun h114 => ?_) (fun h114 => ?_)
              · refine mm_inc7 dX10_partedAt_223 (Nat.le_of_ble_eq_true rfl) (am_c1i _) ?_
                refine am_goto (tgt := 101) dX10_partedAt_226 (by decide) ?_
                first
                  | exact absurd (hF01.H.mpr hH2) h126
                  | (have g1 : mG S k p s t n 1 = qa := by unfold mG; rw [if_pos rfl, hqa]; rfl
                     have g0 : mG S k p s t n 0 = qb := by unfold mG; rw [if_neg (by decide), hqb]; rfl
                     have e : ((nxtL (fun n => mH S p t n) (mG S k p s t) (n + 1)).foldl (fnd (d + 1)) l) = fnd (d + 1) (fnd (d + 1) ((nxtL (fun n => mH S p t n) (mG S k p s t) n).foldl (fnd (d + 1)) l) qa) qb := by
                       simp only [nxtL]
                       rw [cif_t hH2, List.foldl_append, g1, g0]
                       rfl
                     refine am_AW.unset 8 (am_AW.unset 9 ?_)
                     have h9 := ih (n + 1) S2 (by omega) (by omega) (hF01.tr hF2) (by rw [e]; exact hI2) (by rw [e]; exact ⟨m1, m2.1, m3, by omega, fun j hj => by rw [m2.2.2 j (by omega), k2.2.2 j (by omega)]; exact j5 j hj⟩)
                     rw [e] at h9
                     exact h9)
                  | (have e : ((nxtL (fun n => mH S p t n) (mG S k p s t) (n + 1)).foldl (fnd (d + 1)) l) = ((nxtL (fun n => mH S p t n) (mG S k p s t) n).foldl (fnd (d + 1)) l) := by
                       simp only [nxtL]
                       rw [cif_f (fun z => h126 (hF.H.mpr z)), List.append_nil]
                     refine am_AW.unset 8 (am_AW.unset 9 ?_)
                     have h9 := ih (n + 1) S' (by omega) (by omega) hF (by rw [e]; exact hI) (by rw [e]; exact hL)
                     rw [e] at h9
                     exact h9)
              · exfalso; omega
