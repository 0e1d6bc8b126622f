/-! ===== the reference's run, told in registers ===== -/
def mfR (S0 S : mm_S) : Prop := (∀ b, b < 214 ∨ 222 ≤ b → b ≠ 181 → S b = S0 b) ∧ ∀ j, j < 41 ∨ j = 60 → S 181 j = S0 181 j
theorem mf_E {S0 S : mm_S} (h : mfR S0 S) : bkE S0 S := ⟨fun b h1 h2 => h.1 b (Or.inl (by omega)) (by omega), h.2 0 (Or.inl (by omega)), h.2 9 (Or.inl (by omega))⟩
theorem mf_rf (S : mm_S) : mfR S S := ⟨fun _ _ _ => rfl, fun _ _ => rfl⟩
def mrS (S0 S : mm_S) (n : Int) (s : aSt) : Prop := mfR S0 S ∧ okS S0 s ∧ (plM S s.1 (-1) ∧ thM S s.1.length) ∧ (S 181 45 = (s.1.length : Int) ∧ S 181 53 = s.2.2.1 ∧ S 181 54 = s.2.2.2.1 ∧ S 181 55 = s.2.2.2.2 ∧ S 181 61 = s.2.1 ∧ S 181 52 = n ∧ S 181 56 = -1) ∧ S 181 41 ≤ s.2.2.2.1
def meS (S0 S : mm_S) (e : aEn) : Prop := mfR S0 S ∧ S 181 56 = e.1 ∧ S 181 57 = e.2.1 ∧ S 181 58 = e.2.2.1 ∧ S 181 53 = e.2.2.2.1 ∧ S 181 54 = e.2.2.2.2.1 ∧ S 181 55 = e.2.2.2.2.2
section
variable {S0 S S' : mm_S} {n : Int} {f f' : Fr} {t : List Fr} {fl as dn ms : Int}
theorem mr_top (hbW : mbW S0) (h : mrS S0 S n (f :: t, fl, as, dn, ms)) : bkE S0 S ∧ mbW S ∧ f.1.2.1 < 6 ∧ (mrW S f.1.2.1 ∧ S 189 f.1.2.1 ≤ 24 ∧ 0 ≤ S 189 f.1.2.1 ∧ ((mN S0 f.1.2.1 : Nat) : Int) = S 189 f.1.2.1 ∧ S 189 f.1.2.1 = S0 189 f.1.2.1) ∧ (S 217 t.length = (f.1.2.1 : Int) ∧ S 218 t.length = (f.2.1 : Int)) ∧ (f.2.1 ≤ mN S0 f.1.2.1 ∧ mN S0 f.1.2.1 ≤ 24) ∧ (∀ j, j < 6 → (0 ≤ S 221 (6 * t.length + j) ∧ S 221 (6 * t.length + j) < 4) ∧ f.2.2.2.2.2 j = S 221 (6 * t.length + j)) ∧ rgV S0 f.1 f.2.2 ∧ t.length < 10 ∧ S 181 45 = (t.length : Int) + 1 ∧ hvM S t.length := by
  obtain ⟨h1, h2, ⟨h3, h4⟩, ⟨h5, -⟩, -⟩ := h
  have he := mf_E h1
  have hW := mbW_of he hbW
  have hky := h2.1.2.1
  have hr9 := (hbW.1).2.1
  have hr : (f.1.2.1 : Int) < S0 181 9 := hky.2.1
  have hr6 : f.1.2.1 < 6 := by omega
  have hit := h2.1.1
  have hrg := hit.1
  have e189 : S 189 = S0 189 := he.1 189 (by omega) (by omega)
  have h189 := hbW.1.2.2.2.2 f.1.2.1 hr6
  have hlen := h2.2.1
  simp only [List.length_cons] at hlen h5
  have hNe : ((mN S0 f.1.2.1 : Nat) : Int) = S0 189 f.1.2.1 := by unfold mN; omega
  have hp := hit.2.1
  refine ⟨he, hW, hr6, ⟨hW.2.2.2.2 f.1.2.1 (by rw [he.2.2]; exact hr), by rw [e189]; omega, by rw [e189]; omega, by rw [e189]; exact hNe, by rw [e189]⟩, h3.1.1, ⟨by omega, by omega⟩, fun j hj => ?_, hrg, by omega, by omega, ?_⟩
  · have := hrg.1.2.2.2 j hj
    have e := h3.1.2.2 j hj
    rw [← e]
    exact ⟨this, rfl⟩
  · have q := hv_ok (mbW_C hW) (f :: t) (-1) ?_ h3
    · simp only [List.length_cons, Nat.add_sub_cancel] at q
      exact q
    · have gen : ∀ l : List Fr, okF S0 l → okF S l := fun l => by
        induction l with
        | nil => intro _; trivial
        | cons g u ih =>
          intro q
          exact ⟨itV_of he q.1, kyV_of he q.2.1, fun g' u' e' => ⟨by rw [rc_bk he]; exact (q.2.2.1 g' u' e').1, by rw [bk_cl he]; exact (q.2.2.1 g' u' e').2⟩, ih q.2.2.2⟩
      exact gen (f :: t) h2.1
theorem mr_set (h : mrS S0 S n (f :: t, fl, as, dn, ms)) {fl' as' : Int} (hpl : plM S' (f' :: t) (-1) ∧ thM S' (t.length + 1)) (hk : f'.1 = f.1) (hit : itV S0 f.1 f'.2.1 f'.2.2) (hmf : mfR S0 S') (e45 : S' 181 45 = S 181 45) (e53 : S' 181 53 = as') (e54 : S' 181 54 = S 181 54) (e55 : S' 181 55 = S 181 55) (e61 : S' 181 61 = fl') (e52 : S' 181 52 = S 181 52) (e56 : S' 181 56 = S 181 56) (e41 : S' 181 41 ≤ dn) (ha : 0 ≤ as' ∧ as' ≤ dn) (hfl : fl' = 0 ∨ fl' = 1) : mrS S0 S' n (f' :: t, fl', as', dn, ms) := by
  obtain ⟨h1, h2, ⟨h3, h4⟩, ⟨h5, h53, h54, h55, h61, h52, h56⟩, h41⟩ := h
  have hdn := h2.2.2.2.1.2.2
  refine ⟨hmf, ⟨⟨by rw [hk]; exact hit, by rw [hk]; exact h2.1.2.1, by rw [hk]; exact h2.1.2.2.1, h2.1.2.2.2⟩, h2.2.1, hfl, ⟨ha.1, ha.2, hdn⟩, h2.2.2.2.2⟩, hpl, ⟨by rw [e45]; exact h5, e53, by rw [e54]; exact h54, by rw [e55]; exact h55, e61, by rw [e52]; exact h52, by rw [e56]; exact h56⟩, e41⟩
theorem mv_cg {r : Nat} {to : Int} {P P' : Nat → Int} {j : Nat} (hj : j < 6) (h : P j = P' j) : mvP S r to P j = mvP S r to P' j := by
  unfold mvP
  rw [nrm_in hj, nrm_in hj, h]
end
theorem m_to {sh : List mm_H} {L : mm_L} (hm : mdS sh) {S0 : mm_S} (hbW : mbW S0) {S : mm_S} {n : Int} {f : Fr} {t : List Fr} {as dn ms : Int} {fl : Int} (hmr : mrS S0 S n (f :: t, fl, as, dn, ms)) {to : Int} (hto : 0 ≤ to ∧ to ≤ S0 189 f.1.2.1) : am_E eX10_runsTo [.ref 181, .int (iI to)] (mm sh S L) (fun r0 M' => r0 = none ∧ ∃ S', M' = mm sh S' L ∧ mrS S0 S' n ((f.1, to.toNat, (gtR S0 f.1.2.1 to f.2.2).2.2) :: t, fl, as, dn, ms) ∧ ∀ b, b ≠ 218 → b ≠ 221 → S' b = S b) := by
  obtain ⟨hbe, hW, hr6, ⟨hw, hn24, hn0, hNe, hNS⟩, ⟨h17, h18⟩, ⟨hpl, hN24⟩, hP, hrg, hk10, hd, hvM⟩ := mr_top hbW hmr
  have h9 := m_runsTo (L := L) hm hr6 hn24 hw hn0 hk10 (to := to) (by omega) (fun k hk => (hP k hk).1) hd h17
  refine h9.mono (fun r0 M' z => ?_)
  obtain ⟨z1, S2, z2, z3, z4, z5, z6, z7⟩ := z
  refine ⟨z1, S2, z2, ?_, z3⟩
  have e81 := z3 181 (by omega) (by omega)
  have hg := mo_go (S := S) (S' := S2) (f := f) (t := t) (to := to.toNat) (P := mvP S0 f.1.2.1 to f.2.2.2.2.2) hvM hmr.2.2.1.1 hmr.2.2.1.2 z3 z4 (by rw [z5]; omega) (fun i hi => z6 i (Or.inl hi)) (fun j hj => by
    rw [z7 j hj]
    have e := kpV_congr (s := mSo S f.1.2.1) (ar := mAr S f.1.2.1) (ar' := arA (mSo S f.1.2.1)) (mi := mMi S f.1.2.1) (mi' := midO (mSo S f.1.2.1) (mN S f.1.2.1)) (en := mEn S f.1.2.1) (en' := endO (mSo S f.1.2.1) (mN S f.1.2.1)) (to := to) (k := (j : Int)) (held := S 221 (6 * t.length + j)) (n := mN S f.1.2.1) (fun o h1 h2 => ⟨(wk_ar hw o h1).2, wk_mid hw o h1 (Or.inr h2)⟩)
    rw [e, ← bk_mv hbe]
    unfold mvP
    rw [nrm_in hj, (hP j hj).2])
  have dd := hmr.2.2.2.1
  refine mr_set (f' := (f.1, to.toNat, (gtR S0 f.1.2.1 to f.2.2).2.2)) hmr hg rfl ?_ ⟨fun b y1 y2 => by rw [z3 b (by omega) (by omega)]; exact hmr.1.1 b y1 y2, fun j hj => by rw [e81]; exact hmr.1.2 j hj⟩ (by rw [e81]) (by rw [e81]; exact dd.2.1) (by rw [e81]) (by rw [e81]) (by rw [e81]; exact dd.2.2.2.2.1) (by rw [e81]) (by rw [e81]) (by rw [e81]; exact hmr.2.2.2.2) ⟨hmr.2.1.2.2.2.1.1, hmr.2.1.2.2.2.1.2.1⟩ hmr.2.1.2.2.1
  show itV S0 f.1 ((to.toNat : Nat) : Int) _
  rw [show ((to.toNat : Nat) : Int) = to by omega]
  exact it_gt hrg hto
/-- one number of what goes on is set -/
theorem mr_pd {S0 S : mm_S} {n : Int} {f : Fr} {t : List Fr} {fl as dn ms : Int} (hbW : mbW S0) (hmr : mrS S0 S n (f :: t, fl, as, dn, ms)) {l : Nat} (hl : l < 6) {h : Int} (hit : itV S0 f.1 f.2.1 (f.2.2.1, f.2.2.2.1, f.2.2.2.2.1, ud f.2.2.2.2.2 l h)) : mrS S0 (up2 S 221 (6 * t.length + l) h) n ((f.1, f.2.1, (f.2.2.1, f.2.2.2.1, f.2.2.2.2.1, ud f.2.2.2.2.2 l h)) :: t, fl, as, dn, ms) := by
  obtain ⟨hbe, hW, hr6, ⟨hw, hn24, hn0, hNe, hNS⟩, ⟨h17, h18⟩, ⟨hpl, hN24⟩, hP, hrg, hk10, hd, hvM⟩ := mr_top hbW hmr
  have er : ∀ b, b ≠ 221 → up2 S 221 (6 * t.length + l) h b = S b := fun b hb => up2_row hb
  have hg := mo_go (S := S) (S' := up2 S 221 (6 * t.length + l) h) (f := f) (t := t) (to := f.2.1) (P := ud f.2.2.2.2.2 l h) hvM hmr.2.2.1.1 hmr.2.2.1.2 (fun b _ y => er b y) (fun k _ => by rw [er 218 (by omega)]) (by rw [er 218 (by omega)]; exact h18) (fun i hi => up2_rc (by omega)) (fun j hj => by
    by_cases z : j = l
    · subst z; rw [up2_same, ud_same]
    · rw [up2_rc (by omega), ud_ne z]; exact (hP j hj).2.symm)
  have dd := hmr.2.2.2.1
  have e81 := er 181 (by omega)
  exact mr_set (f' := (f.1, f.2.1, (f.2.2.1, f.2.2.2.1, f.2.2.2.2.1, ud f.2.2.2.2.2 l h))) hmr hg rfl hit ⟨fun b y1 y2 => by rw [er b (by omega)]; exact hmr.1.1 b y1 y2, fun j hj => by rw [e81]; exact hmr.1.2 j hj⟩ (by rw [e81]) (by rw [e81]; exact dd.2.1) (by rw [e81]) (by rw [e81]) (by rw [e81]; exact dd.2.2.2.2.1) (by rw [e81]) (by rw [e81]) (by rw [e81]; exact hmr.2.2.2.2) ⟨hmr.2.1.2.2.2.1.1, hmr.2.1.2.2.2.1.2.1⟩ hmr.2.1.2.2.1
theorem mr_fl {S0 S : mm_S} {n : Int} {f : Fr} {t : List Fr} {fl as dn ms : Int} (hbW : mbW S0) (hmr : mrS S0 S n (f :: t, fl, as, dn, ms)) {x : Int} (hx : x = 0 ∨ x = 1) : mrS S0 (up2 S 181 61 x) n (f :: t, x, as, dn, ms) := by
  obtain ⟨hbe, hW, hr6, ⟨hw, hn24, hn0, hNe, hNS⟩, ⟨h17, h18⟩, ⟨hpl, hN24⟩, hP, hrg, hk10, hd, hvM⟩ := mr_top hbW hmr
  have er : ∀ b, b ≠ 181 → up2 S 181 61 x b = S b := fun b hb => up2_row hb
  have ec : ∀ j, j ≠ 61 → up2 S 181 61 x 181 j = S 181 j := fun j hj => up2_rc hj
  have dd := hmr.2.2.2.1
  have hpl : plM (up2 S 181 61 x) (f :: t) (-1) := by
    have gen : ∀ (l : List Fr) (h : Int), plM S l h → plM (up2 S 181 61 x) l h := fun l => by
      induction l with
      | nil => intro _ _; trivial
      | cons g u ih =>
        intro h q
        have eh : ∀ k, hoM (up2 S 181 61 x) k = hoM S k := fun k => by unfold hoM mBb; rw [er 220 (by omega), er 217 (by omega), er 218 (by omega), er 192 (by omega)]
        refine ⟨?_, by rw [eh]; exact ih _ q.2⟩
        have q1 := q.1
        unfold frM nmP cdT at *
        rw [er 217 (by omega), er 218 (by omega), er 219 (by omega), er 220 (by omega), er 221 (by omega), er 214 (by omega), er 215 (by omega), er 216 (by omega), ec 41 (by omega)]
        exact q1
    exact gen _ _ hmr.2.2.1.1
  have hth : thM (up2 S 181 61 x) (t.length + 1) := th_of (ec 41 (by omega)) (ec 0 (by omega)) (er 182 (by omega)) (er 183 (by omega)) (er 192 (by omega)) (er 214 (by omega)) (er 215 (by omega)) (er 216 (by omega)) (fun k _ => by rw [er 217 (by omega)]) (fun k _ => by rw [er 218 (by omega)]) (fun k _ => by rw [er 219 (by omega)]) (fun k v _ _ => by rw [er 220 (by omega)]) (fun k hk => hvM k (by omega)) hmr.2.2.1.2
  exact mr_set (f' := f) hmr ⟨hpl, hth⟩ rfl hmr.2.1.1.1 ⟨fun b y1 y2 => by rw [er b y2]; exact hmr.1.1 b y1 y2, fun j hj => by rw [ec j (by omega)]; exact hmr.1.2 j hj⟩ (ec 45 (by omega)) (by rw [ec 53 (by omega)]; exact dd.2.1) (ec 54 (by omega)) (ec 55 (by omega)) (up2_same _ _ _ _) (ec 52 (by omega)) (ec 56 (by omega)) (by rw [ec 41 (by omega)]; exact hmr.2.2.2.2) ⟨hmr.2.1.2.2.2.1.1, hmr.2.1.2.2.2.1.2.1⟩ hx
set_option maxRecDepth 100000 in
set_option maxHeartbeats 4000000 in
theorem m_outOf {sh : List mm_H} {L : mm_L} (hm : mdS sh) {S0 : mm_S} (hbW : mbW S0) {S : mm_S} {n : Int} {f : Fr} {t : List Fr} {as dn ms : Int} (hmr : mrS S0 S n (f :: t, 0, as, dn, ms)) {w : Int} (hw12 : w = 1 ∨ w = 2) : am_E eX10_outOf [.ref 181, .int (iI w)] (mm sh S L) (fun r0 M' => r0 = none ∧ ∃ S', M' = mm sh S' L ∧ mrS S0 S' n ((f.1, (otR S0 f.1.2.1 f.2.1 w f.2.2).2.1.toNat, (otR S0 f.1.2.1 f.2.1 w f.2.2).2.2) :: t, 1 - (otR S0 f.1.2.1 f.2.1 w f.2.2).1, as, dn, ms)) := by
  obtain ⟨hbe, hW, hr6, ⟨hw, hn24, hn0, hNe, hNS⟩, ⟨h17, h18⟩, ⟨hpl, hN24⟩, hP, hrg, hk10, hd, hvM⟩ := mr_top hbW hmr
  have etr : tryM S f.1.2.1 f.2.1 = tryM S0 f.1.2.1 f.2.1 := bk_try hbe f.1.2.1 f.2.1
  have htR := trA_R (mSo S0 f.1.2.1) (midO (mSo S0 f.1.2.1) (mN S0 f.1.2.1)) f.2.1 (mN S0 f.1.2.1)
  have htR : -1 ≤ tryM S0 f.1.2.1 f.2.1 ∧ tryM S0 f.1.2.1 f.2.1 < mN S0 f.1.2.1 := htR
  refine am_enter rfl rfl (Nat.le_of_ble_eq_true rfl) ?_
  refine am_aload_n rfl dX10_outOf_0 ?_
  refine mm_getI dX10_outOf_1 fl_X10_346 (md_0 hm) mdf_45 ?_
  rw [hd]
  refine mm_iconst dX10_outOf_4 ?_
  refine mm_isub dX10_outOf_5 ?_
  rw [show (t.length : Int) + 1 - 1 = (t.length : Int) by omega]
  refine am_ist2 dX10_outOf_6 (Nat.le_of_ble_eq_true rfl) (am_c1i _) ?_
  refine am_aload_n rfl dX10_outOf_7 ?_
  refine mm_getR dX10_outOf_8 fl_X10_123 (md_0 hm) mdf_46 ?_
  refine am_iload_n rfl dX10_outOf_11 ?_
  refine mm_ial dX10_outOf_12 (md_atRoutine hm) (by omega) ?_
  rw [Int.toNat_natCast, h17]
  refine am_ist3 dX10_outOf_13 (Nat.le_of_ble_eq_true rfl) (am_c1i _) ?_
  refine am_aload_n rfl dX10_outOf_14 ?_
  refine am_iload_n rfl dX10_outOf_15 ?_
  refine am_aload_n rfl dX10_outOf_16 ?_
  refine mm_getR dX10_outOf_17 fl_X10_126 (md_0 hm) mdf_47 ?_
  refine am_iload_n rfl dX10_outOf_20 ?_
  refine mm_ial dX10_outOf_21 (md_atPlace hm) (by omega) ?_
  rw [Int.toNat_natCast, h18]
  refine am_ci (mm_V2 dX10_outOf_22 in_X10_tryAround mk_X10_265 im_X10_tryAround sl_X10_tryAround ⟨Nat.le_of_ble_eq_true rfl, Nat.le_of_ble_eq_true rfl⟩ rfl (md_0 hm) (Nat.le_of_ble_eq_true rfl)) (m_tryAround hm hr6 hn24 hw hn0 (by omega)) ?_
  rw [etr]
  refine am_ist4 dX10_outOf_25 (Nat.le_of_ble_eq_true rfl) (am_c1i _) ?_
  refine am_iload rfl dX10_outOf_27 ?_
  refine mm_iconst dX10_outOf_29 ?_
  refine mm_jeq (tgt := 74) dX10_outOf_30 (by decide) (by omega) (by omega) (fun h30 => ?_) (fun h30 => ?_)
  · have hno : tryM S0 f.1.2.1 f.2.1 = -1 := h30
    refine am_iload_n rfl dX10_outOf_74 ?_
    refine mm_iconst dX10_outOf_75 ?_
    refine mm_jne (tgt := 92) dX10_outOf_76 (by decide) (by omega) (by omega) (fun h76 => ?_) (fun h76 => ?_)
    · refine am_aload_n rfl dX10_outOf_92 ?_
      refine mm_iconst dX10_outOf_93 ?_
      refine mm_putZ dX10_outOf_94 fp_X10_373 (md_0 hm) mdf_61 (by omega) ?_
      refine am_return dX10_outOf_97 rfl ?_
      first
        | (refine ⟨rfl, _, rfl, ?_⟩
           have q := mr_pd (l := l) (h := w) hbW hmr1 g6 ?_
           · exact q
           · show itV S0 f.1 (((midO (mSo S0 f.1.2.1) (mN S0 f.1.2.1) o).toNat : Nat) : Int) _
             rw [show (((midO (mSo S0 f.1.2.1) (mN S0 f.1.2.1) o).toNat : Nat) : Int) = midO (mSo S0 f.1.2.1) (mN S0 f.1.2.1) o by omega]
             exact g1)
        | (refine ⟨rfl, S1, rfl, ?_⟩
           have ez : otR S0 f.1.2.1 f.2.1 w f.2.2 = gtR S0 f.1.2.1 (mN S0 f.1.2.1) f.2.2 := by unfold otR; rw [if_neg (fun q => q hno), if_pos (by omega)]
           rw [ez]
           exact hmr1)
        | (refine ⟨rfl, _, rfl, ?_⟩
           have ez : otR S0 f.1.2.1 f.2.1 w f.2.2 = (0, (f.2.1 : Int), f.2.2) := by unfold otR; rw [if_neg (fun q => q hno), if_neg (by omega)]
           rw [ez]
           exact mr_fl (x := 1) hbW hmr (Or.inr rfl))
    · refine am_aload_n rfl dX10_outOf_79 ?_
      refine am_aload_n rfl dX10_outOf_80 ?_
      refine mm_getR dX10_outOf_81 fl_X10_36 (md_0 hm) mdf_10 ?_
      refine am_iload_n rfl dX10_outOf_84 ?_
      refine mm_ial dX10_outOf_85 (md_many hm) (by omega) ?_
      rw [Int.toNat_natCast, ← hNe]
      refine am_cxv (mm_V1 dX10_outOf_86 in_X10_runsTo mk_X10_367 im_X10_runsTo sl_X10_runsTo ⟨Nat.le_of_ble_eq_true rfl, Nat.le_of_ble_eq_true rfl⟩ rfl (md_0 hm) (Nat.le_of_ble_eq_true rfl)) (m_to (to := (mN S0 f.1.2.1 : Int)) hm hbW hmr (by omega)) (fun M1 hq => ?_)
      obtain ⟨S1, rfl, hmr1, hS1⟩ := hq
      refine am_goto (tgt := 97) dX10_outOf_89 (by decide) ?_
      refine am_return dX10_outOf_97 rfl ?_
      first
        | (refine ⟨rfl, _, rfl, ?_⟩
           have q := mr_pd (l := l) (h := w) hbW hmr1 g6 ?_
           · exact q
           · show itV S0 f.1 (((midO (mSo S0 f.1.2.1) (mN S0 f.1.2.1) o).toNat : Nat) : Int) _
             rw [show (((midO (mSo S0 f.1.2.1) (mN S0 f.1.2.1) o).toNat : Nat) : Int) = midO (mSo S0 f.1.2.1) (mN S0 f.1.2.1) o by omega]
             exact g1)
        | (refine ⟨rfl, S1, rfl, ?_⟩
           have ez : otR S0 f.1.2.1 f.2.1 w f.2.2 = gtR S0 f.1.2.1 (mN S0 f.1.2.1) f.2.2 := by unfold otR; rw [if_neg (fun q => q hno), if_pos (by omega)]
           rw [ez]
           exact hmr1)
        | (refine ⟨rfl, _, rfl, ?_⟩
           have ez : otR S0 f.1.2.1 f.2.1 w f.2.2 = (0, (f.2.1 : Int), f.2.2) := by unfold otR; rw [if_neg (fun q => q hno), if_neg (by omega)]
           rw [ez]
           exact mr_fl (x := 1) hbW hmr (Or.inr rfl))
  · obtain ⟨g1, g2, g3, g4, g5, g6, g7⟩ := it_ot (mbW_C hbW |>.2.2.2 f.1.2.1 hmr.2.1.1.2.1.2.1) (by omega) hrg (pl := f.2.1) hw12 h30
    obtain ⟨o, ho⟩ : ∃ o : Nat, tryM S0 f.1.2.1 f.2.1 = o := ⟨(tryM S0 f.1.2.1 f.2.1).toNat, by omega⟩
    have hno : tryM S0 f.1.2.1 f.2.1 ≠ -1 := h30
    rw [ho, Int.toNat_natCast] at g3 g5 g6 g7
    rw [ho]
    have hop : opn (mSo S f.1.2.1 o) := Or.inr (by rw [bk_So hbe]; exact g5)
    have hoN : o < mN S f.1.2.1 := by rw [bk_N hbe]; exact g3
    have gm : S 194 (25 * f.1.2.1 + o) = midO (mSo S0 f.1.2.1) (mN S0 f.1.2.1) o := by have q := (wk_mid hw o hoN hop).1; rw [bk_So hbe, bk_N hbe] at q; exact q
    have ga : S 196 (25 * f.1.2.1 + o) = arA (mSo S0 f.1.2.1) o := by have q := (wk_ar hw o hoN).2; rw [bk_So hbe] at q; exact q
    have earA : arA (mSo S0 f.1.2.1) o = ((stk (mSo S0 f.1.2.1) o).length : Int) := by unfold arA; rw [if_neg (by omega)]
    obtain ⟨l, hl⟩ : ∃ l : Nat, (stk (mSo S0 f.1.2.1) o).length = l := ⟨_, rfl⟩
    rw [hl] at g6 earA
    have ez : otR S0 f.1.2.1 f.2.1 w f.2.2 = (1, midO (mSo S0 f.1.2.1) (mN S0 f.1.2.1) o, (f.2.2.1, f.2.2.2.1, f.2.2.2.2.1, ud (mvP S0 f.1.2.1 (midO (mSo S0 f.1.2.1) (mN S0 f.1.2.1) o) f.2.2.2.2.2) l w)) := by
      unfold otR
      rw [if_pos hno, ho, Int.toNat_natCast, earA, Int.toNat_natCast]
    rw [ez] at g1 ⊢
    refine mm_bipush dX10_outOf_33 (by decide) ?_
    refine am_iload_n rfl dX10_outOf_35 ?_
    refine mm_imul dX10_outOf_36 ?_
    refine am_iload rfl dX10_outOf_37 ?_
    refine mm_iadd dX10_outOf_39 ?_
    rw [show (25 : Int) * (f.1.2.1 : Int) + (o : Int) = ((25 * f.1.2.1 + o : Nat) : Int) by omega]
    refine am_ist5 dX10_outOf_40 (Nat.le_of_ble_eq_true rfl) (am_c1i _) ?_
    refine am_aload_n rfl dX10_outOf_42 ?_
    refine am_aload_n rfl dX10_outOf_43 ?_
    refine mm_getR dX10_outOf_44 fl_X10_51 (md_0 hm) mdf_15 ?_
    refine am_iload rfl dX10_outOf_47 ?_
    refine mm_ial dX10_outOf_49 (md_midAt hm) (by omega) ?_
    rw [Int.toNat_natCast, gm]
    refine am_cxv (mm_V1 dX10_outOf_50 in_X10_runsTo mk_X10_367 im_X10_runsTo sl_X10_runsTo ⟨Nat.le_of_ble_eq_true rfl, Nat.le_of_ble_eq_true rfl⟩ rfl (md_0 hm) (Nat.le_of_ble_eq_true rfl)) (m_to (to := midO (mSo S0 f.1.2.1) (mN S0 f.1.2.1) o) hm hbW hmr (by omega)) (fun M1 hq => ?_)
    obtain ⟨S1, rfl, hmr1, hS1⟩ := hq
    refine am_aload_n rfl dX10_outOf_53 ?_
    refine mm_getR dX10_outOf_54 fl_X10_135 (md_0 hm) mdf_50 ?_
    refine mm_bipush dX10_outOf_57 (by decide) ?_
    refine am_iload_n rfl dX10_outOf_59 ?_
    refine mm_imul dX10_outOf_60 ?_
    refine am_aload_n rfl dX10_outOf_61 ?_
    refine mm_getR dX10_outOf_62 fl_X10_57 (md_0 hm) mdf_17 ?_
    refine am_iload rfl dX10_outOf_65 ?_
    refine mm_ial dX10_outOf_67 (md_around hm) (by omega) ?_
    rw [Int.toNat_natCast, hS1 196 (by omega) (by omega), ga, earA]
    refine mm_iadd dX10_outOf_68 ?_
    refine am_iload_n rfl dX10_outOf_69 ?_
    rw [show (6 : Int) * (t.length : Int) + (l : Int) = ((6 * t.length + l : Nat) : Int) by omega]
    refine mm_ias dX10_outOf_70 (md_goesOn hm) (by omega) ?_
    rw [Int.toNat_natCast]
    refine am_goto (tgt := 97) dX10_outOf_71 (by decide) ?_
    refine am_return dX10_outOf_97 rfl ?_
    first
      | (refine ⟨rfl, _, rfl, ?_⟩
         have q := mr_pd (l := l) (h := w) hbW hmr1 g6 ?_
         · exact q
         · show itV S0 f.1 (((midO (mSo S0 f.1.2.1) (mN S0 f.1.2.1) o).toNat : Nat) : Int) _
           rw [show (((midO (mSo S0 f.1.2.1) (mN S0 f.1.2.1) o).toNat : Nat) : Int) = midO (mSo S0 f.1.2.1) (mN S0 f.1.2.1) o by omega]
           exact g1)
      | (refine ⟨rfl, S1, rfl, ?_⟩
         have ez : otR S0 f.1.2.1 f.2.1 w f.2.2 = gtR S0 f.1.2.1 (mN S0 f.1.2.1) f.2.2 := by unfold otR; rw [if_neg (fun q => q hno), if_pos (by omega)]
         rw [ez]
         exact hmr1)
      | (refine ⟨rfl, _, rfl, ?_⟩
         have ez : otR S0 f.1.2.1 f.2.1 w f.2.2 = (0, (f.2.1 : Int), f.2.2) := by unfold otR; rw [if_neg (fun q => q hno), if_neg (by omega)]
         rw [ez]
         exact mr_fl (x := 1) hbW hmr (Or.inr rfl))
