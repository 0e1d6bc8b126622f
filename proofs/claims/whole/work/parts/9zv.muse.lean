/-! ===== a USE in the reference's runs ===== -/
section
variable {S0 S : mm_S} {n : Int} {f : Fr} {t : List Fr} {fl as dn ms : Int}
/-- whether the top may use what a VARIABLE names -/
theorem ag_eq (hv : mdV S) (hp : plM S (f :: t) (-1)) (ht : thM S (t.length + 1)) (hrg : rgV S f.1 f.2.2) {a : Nat} (ha : a < 5) : agT S t.length (S 220 (5 * t.length + a)) = agR f.1.2.2.1 f.2.2 (f.2.2.1 a) ∧ (agR f.1.2.2.1 f.2.2 (f.2.2.1 a) = 0 → ∃ i : Nat, S 220 (5 * t.length + a) = (i : Int) ∧ (i : Int) < S 181 41 ∧ ((i : Int) = S 219 t.length ∨ S 216 i = (t.length : Int)) ∧ cdR f.1.2.2.1 f.2.2 (f.2.2.1 a) = 7 * S 214 i + S 215 i ∧ (0 ≤ S 214 i ∧ S 214 i < S 181 0) ∧ (0 ≤ S 215 i ∧ S 215 i < 6)) := by
  obtain ⟨a1, a2, a3, a4, a5⟩ := hp.1.2.1
  have b := a1 a ha
  have h1 := ht.1
  have hR1 : ∀ v, v < 5 → 0 ≤ f.2.2.1 v := fun v hv2 => (hrg.1.1 v hv2).1
  by_cases z0 : f.2.2.1 a = 0
  · have hx := b.2.1.mp z0
    have e : agR f.1.2.2.1 f.2.2 (f.2.2.1 a) = 1 := by unfold agR; rw [if_pos z0]
    rw [e]
    refine ⟨by unfold agT; rw [if_pos hx], fun q => by omega⟩
  · have hx : S 220 (5 * t.length + a) ≠ -1 := fun z => z0 (b.2.1.mpr z)
    obtain ⟨i, hi⟩ : ∃ i : Nat, S 220 (5 * t.length + a) = (i : Int) := ⟨(S 220 (5 * t.length + a)).toNat, by omega⟩
    have hiT : (i : Int) < S 181 41 := by omega
    have b2 := ht.2.1 i hiT
    have hk6 := hv.1
    have hs6 := (hv.2.2.1 (S 214 i).toNat (by omega)).2.1
    by_cases own : (i : Int) = S 219 t.length ∨ S 216 i = (t.length : Int)
    · have hcd := top_cd ha hp hrg.2.1 hR1 hi own
      have e : agR f.1.2.2.1 f.2.2 (f.2.2.1 a) = 0 := by unfold agR; rw [if_neg z0, if_neg (by rw [hcd]; omega)]
      refine ⟨?_, fun _ => ⟨i, hi, hiT, own, hcd, b2.2.1, by omega⟩⟩
      rw [e]
      unfold agT
      rw [if_neg hx, if_neg]
      rw [hi, Int.toNat_natCast]
      rintro ⟨q1, q2⟩
      rcases own with y | y
      · exact q1 y
      · exact q2 y
    · have z1 : f.2.2.1 a ≠ 1 := fun z => own (Or.inl (by have := (b.2.2.mp z).2; omega))
      have hcd : cdR f.1.2.2.1 f.2.2 (f.2.2.1 a) % 7 = 6 := by
        unfold cdR
        rw [if_neg z1, (a3 a ha (by have := hR1 a ha; omega)).2 (by omega), hi]
        unfold cdT
        rw [Int.toNat_natCast, if_neg (fun q => own (Or.inr q))]
        omega
      have e : agR f.1.2.2.1 f.2.2 (f.2.2.1 a) = 2 := by unfold agR; rw [if_neg z0, if_pos hcd]
      rw [e]
      refine ⟨?_, fun q => by omega⟩
      unfold agT
      rw [if_neg hx, if_pos]
      rw [hi, Int.toNat_natCast]
      exact ⟨fun q => own (Or.inl q), fun q => own (Or.inr q)⟩
theorem mr_use (hbW : mbW S0) (hmr : mrS S0 S n (f :: t, fl, as, dn, ms)) {a : Nat} (ha : a < 5) {i : Nat} (hi : S 220 (5 * t.length + a) = (i : Int)) (hown : (i : Int) = S 219 t.length ∨ S 216 i = (t.length : Int)) {st : Int} (hst : 0 ≤ st ∧ st < S0 182 (S 214 i).toNat) : mrS S0 (up2 S 215 i st) n ((f.1, f.2.1, tnR f.2.2 (f.2.2.1 a) st) :: t, fl, as, dn, ms) := by
  obtain ⟨hbe, hW, hr6, ⟨hw, hn24, hn0, hNe, hNS⟩, ⟨h17, h18⟩, ⟨hpl, hN24⟩, hP, hrg, hk10, hd, hvM⟩ := mr_top hbW hmr
  have dd := hmr.2.2.2.1
  have er : ∀ b, b ≠ 215 → up2 S 215 i st b = S b := fun b hb => up2_row hb
  have e81 := er 181 (by omega)
  have hR1 : ∀ v, v < 5 → 0 ≤ f.2.2.1 v := fun v hv2 => (hrg.1.1 v hv2).1
  have hth : thM S (t.length + 1) := hmr.2.2.1.2
  have b := (hmr.2.2.1.1.1.2.1.1 a ha)
  have hn0 : f.2.2.1 a ≠ 0 := fun z => by have := b.2.1.mp z; omega
  have hiT : (i : Int) < S 181 41 := by have := b.1; omega
  have b2 := hth.2.1 i hiT
  have hk6 := hW.1.1
  have hs6 := (hW.1.2.2.1 (S 214 i).toNat (by omega)).2.1
  have e182 : S 182 = S0 182 := hbe.1 182 (by omega) (by omega)
  have hg := mo_use (S := S) (S' := up2 S 215 i st) (f := f) (t := t) ha hvM hmr.2.2.1.1 hth hrg.2.1 hi hown (by rw [e182]; exact hst) (by rw [e182] at hs6; omega) er (fun j hj => up2_rc hj) (up2_same _ _ _ _) hR1
  have hcd := top_cd ha hmr.2.2.1.1 hrg.2.1 hR1 hi hown
  have hrg2 : rgV S0 f.1 (tnR f.2.2 (f.2.2.1 a) st) := rg_turn hbW.1 hrg ha hn0 hst.1 (Or.inl (by rw [hcd, show (7 * S 214 i + S 215 i) / 7 = S 214 i by omega]; exact hst.2))
  have hpd : (tnR f.2.2 (f.2.2.1 a) st).2.2.2 = f.2.2.2.2.2 := by unfold tnR; split <;> rfl
  have hit := hmr.2.1.1.1
  refine mr_set (f' := (f.1, f.2.1, tnR f.2.2 (f.2.2.1 a) st)) hmr hg rfl ⟨hrg2, hit.2.1, fun k hk hne => ?_⟩ ⟨fun b y1 y2 => by rw [er b (by omega)]; exact hmr.1.1 b y1 y2, fun j hj => by rw [e81]; exact hmr.1.2 j hj⟩ (by rw [e81]) (by rw [e81]; exact dd.2.1) (by rw [e81]) (by rw [e81]) (by rw [e81]; exact dd.2.2.2.2.1) (by rw [e81]) (by rw [e81]) (by rw [e81]; exact hmr.2.2.2.2) ⟨hmr.2.1.2.2.2.1.1, hmr.2.1.2.2.2.1.2.1⟩ hmr.2.1.2.2.1
  have hne : (tnR f.2.2 (f.2.2.1 a) st).2.2.2 k ≠ 0 := hne
  rw [hpd] at hne
  exact hit.2.2 k hk hne
end
set_option maxRecDepth 100000 in
set_option maxHeartbeats 4000000 in
theorem l_use2 {sh : List mm_H} {L : mm_L} (hm : mdS sh) {S0 : mm_S} (hbW : mbW S0) {S : mm_S} {n : Int} {f : Fr} {t : List Fr} {as dn ms : Int} (hmr : mrS S0 S n (f :: t, 0, as, dn, ms)) (hp : f.2.1 < mN S0 f.1.2.1) (hx : mSo S0 f.1.2.1 f.2.1 = 1 ∨ mSo S0 f.1.2.1 f.2.1 = 2 ∨ mSo S0 f.1.2.1 f.2.1 = 5) {a : Nat} (haA : mAa S0 f.1.2.1 f.2.1 = (a : Int)) (ha : a < 5) (hB8 : 0 ≤ mBb S0 f.1.2.1 f.2.1 ∧ mBb S0 f.1.2.1 f.2.1 < 8) {i : Nat} (hi : S 220 (5 * t.length + a) = (i : Int)) (hiT : (i : Int) < S 181 41) (hown : (i : Int) = S 219 t.length ∨ S 216 i = (t.length : Int)) (hH : mH S0 (S 214 i) (S 215 i) (mBb S0 f.1.2.1 f.2.1)) {y : Prop} [Decidable y] {z : Int × Int × rgT} (hz : nxR S0 f.1 f.2.1 f.2.2 y = z) {l4 l7 l8 : Option Value} : am_AW eX10_runUse (mm sh S L) 113 [some (.ref 181), some (.int (iI (t.length : Int))), some (.int (iI (f.2.1 : Int))), some (.int (iI (mSo S0 f.1.2.1 f.2.1))), l4, some (.int (iI (mBb S0 f.1.2.1 f.2.1))), some (.int (iI (i : Int))), l7, l8, some (.int (iI (b2 y)))] [] (fun r0 M' => r0 = none ∧ ∃ S', M' = mm sh S' L ∧ mrS S0 S' n ((f.1, z.2.1.toNat, z.2.2) :: t, 1 - z.1, as, dn, ms)) := by
  obtain ⟨hbe, hW, hr6, ⟨hw, hn24, hn0, hNe, hNS⟩, ⟨h17, h18⟩, ⟨hpl, hN24⟩, hP, hrg, hk10, hd, hvM⟩ := mr_top hbW hmr
  have hr9 : (f.1.2.1 : Int) < S0 181 9 := hmr.2.1.1.2.1.2.1
  have hrw := hbW.2.2.2.2 f.1.2.1 hr9
  have hth : thM S (t.length + 1) := hmr.2.2.1.2
  have h500 := hth.1
  have b2' := hth.2.1 i hiT
  have hk6 := hW.1.1
  have hs6 := (hW.1.2.2.1 (S 214 i).toNat (by omega)).2.1
  have e182 : S 182 = S0 182 := hbe.1 182 (by omega) (by omega)
  have hR1 : ∀ v, v < 5 → 0 ≤ f.2.2.1 v := fun v hv2 => (hrg.1.1 v hv2).1
  have hcd := top_cd ha hmr.2.2.1.1 hrg.2.1 hR1 hi hown
  have hop : mSo S0 f.1.2.1 f.2.1 ≠ 1 → opn (mSo S0 f.1.2.1 f.2.1) := fun q => Or.inl (by omega)
  have hn0 : f.2.2.1 a ≠ 0 := fun q => by have := (hmr.2.2.1.1.1.2.1.1 a ha).2.1.mp q; omega
  have e7 : (7 * S 214 i + S 215 i) / 7 = S 214 i := by omega
  have e8 : (7 * S 214 i + S 215 i) % 7 = S 215 i := by omega
  have emF : mF S (S 214 i) (S 215 i) (mBb S0 f.1.2.1 f.2.1) y = mF S0 (S 214 i) (S 215 i) (mBb S0 f.1.2.1 f.2.1) y := bk_Ff hbe _ _ _ y
  have hstR : 0 ≤ mF S (S 214 i) (S 215 i) (mBb S0 f.1.2.1 f.2.1) y ∧ mF S (S 214 i) (S 215 i) (mBb S0 f.1.2.1 f.2.1) y < S0 182 (S 214 i).toNat := by
    rw [emF]
    have q := mF_okC (S := S0) (mbW_C hbW) (c := 7 * S 214 i + S 215 i) (n := mBb S0 f.1.2.1 f.2.1) ⟨by omega, by rw [e7, ← hbe.2.1]; exact b2'.2.1.2, Or.inl (by rw [e7, e8, ← e182]; exact b2'.2.2.2)⟩ (by rw [e8]; omega) hB8 (by rw [e7, e8]; exact hH) (y := y)
    rw [e7, e8] at q
    exact q
  have eus : usR S0 f.1 f.2.1 f.2.2 y = tnR f.2.2 (f.2.2.1 a) (mF S (S 214 i) (S 215 i) (mBb S0 f.1.2.1 f.2.1) y) := by
    unfold usR
    rw [haA, Int.toNat_natCast, hcd, e7, e8, emF]
  refine am_aload_n rfl dX10_runUse_113 ?_
  refine mm_getR dX10_runUse_114 fl_X10_117 (md_0 hm) mdf_43 ?_
  refine am_iload rfl dX10_runUse_117 ?_
  refine am_aload_n rfl dX10_runUse_119 ?_
  refine am_aload_n rfl dX10_runUse_120 ?_
  refine mm_getR dX10_runUse_121 fl_X10_114 (md_0 hm) mdf_42 ?_
  refine am_iload rfl dX10_runUse_124 ?_
  refine mm_ial dX10_runUse_126 (md_thingKind hm) (by omega) ?_
  rw [Int.toNat_natCast]
  refine am_aload_n rfl dX10_runUse_127 ?_
  refine mm_getR dX10_runUse_128 fl_X10_117 (md_0 hm) mdf_43 ?_
  refine am_iload rfl dX10_runUse_131 ?_
  refine mm_ial dX10_runUse_133 (md_thingState hm) (by omega) ?_
  rw [Int.toNat_natCast]
  refine am_iload rfl dX10_runUse_134 ?_
  refine am_iload rfl dX10_runUse_136 ?_
  refine am_ci (mm_V4 dX10_runUse_138 in_X10_led mk_X10_163 im_X10_led sl_X10_led ⟨Nat.le_of_ble_eq_true rfl, Nat.le_of_ble_eq_true rfl⟩ rfl (md_0 hm) (Nat.le_of_ble_eq_true rfl)) (m_led (k := S 214 i) (s := S 215 i) (n := mBb S0 f.1.2.1 f.2.1) (y := y) hm hW.1 (by omega) (by omega) hB8) ?_
  refine mm_ias dX10_runUse_141 (md_thingState hm) (by omega) ?_
  rw [Int.toNat_natCast]
  have hmr1 := mr_use hbW hmr ha hi hown (st := mF S (S 214 i) (S 215 i) (mBb S0 f.1.2.1 f.2.1) y) hstR
  generalize hS1 : up2 S 215 i (mF S (S 214 i) (S 215 i) (mBb S0 f.1.2.1 f.2.1) y) = S1 at *
  have r1 : ∀ b, b ≠ 215 → S1 b = S b := fun b hb => by rw [← hS1, up2_row hb]
  refine am_aload_n rfl dX10_runUse_142 ?_
  refine am_iload_n rfl dX10_runUse_143 ?_
  refine mm_iconst dX10_runUse_144 ?_
  refine mm_jeq (tgt := 153) dX10_runUse_145 (by decide) (by omega) (by omega) (fun h145 => ?_) (fun h145 => ?_)
  · refine am_iload_n rfl dX10_runUse_153 ?_
    refine mm_iconst dX10_runUse_154 ?_
    refine mm_iadd dX10_runUse_155 ?_
    refine am_goto (tgt := 170) dX10_runUse_156 (by decide) ?_
    first
      | (have hto : 0 ≤ (f.2.1 : Int) + 1 ∧ (f.2.1 : Int) + 1 ≤ S0 189 f.1.2.1 := by omega
         have ezt : (if mSo S0 f.1.2.1 f.2.1 ≠ 1 ∧ ¬ y then bnM S0 f.1.2.1 f.2.1 else (f.2.1 : Int) + 1) = (f.2.1 : Int) + 1 := if_neg (fun q => by first | exact q.1 h145 | exact q.2 h150))
      | (have hbn := bn_R (mbW_C hbW |>.2.2.2 f.1.2.1 hr9) hp (hop h145)
         rw [show iI (bnM S1 f.1.2.1 f.2.1) = iI (bnM S0 f.1.2.1 f.2.1) from congrArg iI (bk_bn (mf_E hmr1.1) f.1.2.1 f.2.1)]
         have hto : 0 ≤ bnM S0 f.1.2.1 f.2.1 ∧ bnM S0 f.1.2.1 f.2.1 ≤ S0 189 f.1.2.1 := by omega
         have ezt : (if mSo S0 f.1.2.1 f.2.1 ≠ 1 ∧ ¬ y then bnM S0 f.1.2.1 f.2.1 else (f.2.1 : Int) + 1) = bnM S0 f.1.2.1 f.2.1 := if_pos ⟨h145, h150⟩)
    refine am_cxv (mm_V1 dX10_runUse_170 in_X10_runsTo mk_X10_367 im_X10_runsTo sl_X10_runsTo ⟨Nat.le_of_ble_eq_true rfl, Nat.le_of_ble_eq_true rfl⟩ rfl (md_0 hm) (Nat.le_of_ble_eq_true rfl)) (m_to hm hbW hmr1 hto) (fun M1 hq2 => ?_)
    obtain ⟨S4, rfl, hmr4, -⟩ := hq2
    refine am_return dX10_runUse_173 rfl ?_
    refine ⟨rfl, S4, rfl, ?_⟩
    rw [← hz, nx_us hx, ezt, eus]
    exact hmr4
  · refine am_iload rfl dX10_runUse_148 ?_
    refine mm_beq (tgt := 159) dX10_runUse_150 (by decide) (fun h150 => ?_) (fun h150 => ?_)
    · refine am_aload_n rfl dX10_runUse_159 ?_
      refine am_aload_n rfl dX10_runUse_160 ?_
      refine mm_getR dX10_runUse_161 fl_X10_123 (md_0 hm) mdf_46 ?_
      refine am_iload_n rfl dX10_runUse_164 ?_
      refine mm_ial dX10_runUse_165 (md_atRoutine hm) (by omega) ?_
      rw [Int.toNat_natCast, r1 217 (by omega), h17]
      refine am_iload_n rfl dX10_runUse_166 ?_
      refine am_ci (mm_V2 dX10_runUse_167 in_X10_behindNo mk_X10_297 im_X10_behindNo sl_X10_behindNo ⟨Nat.le_of_ble_eq_true rfl, Nat.le_of_ble_eq_true rfl⟩ rfl (md_0 hm) (Nat.le_of_ble_eq_true rfl)) (m_behindNo (S := S1) (r := f.1.2.1) (i := f.2.1) hm hr6 (by rw [r1 189 (by omega)]; exact hn24) (mbW_of (mf_E hmr1.1) hbW |>.2.2.2.2 f.1.2.1 (by rw [(mf_E hmr1.1).2.2]; exact hr9)) (by rw [bk_N (mf_E hmr1.1)]; exact hp) (by rw [bk_So (mf_E hmr1.1)]; exact hop h145)) ?_
      first
        | (have hto : 0 ≤ (f.2.1 : Int) + 1 ∧ (f.2.1 : Int) + 1 ≤ S0 189 f.1.2.1 := by omega
           have ezt : (if mSo S0 f.1.2.1 f.2.1 ≠ 1 ∧ ¬ y then bnM S0 f.1.2.1 f.2.1 else (f.2.1 : Int) + 1) = (f.2.1 : Int) + 1 := if_neg (fun q => by first | exact q.1 h145 | exact q.2 h150))
        | (have hbn := bn_R (mbW_C hbW |>.2.2.2 f.1.2.1 hr9) hp (hop h145)
           rw [show iI (bnM S1 f.1.2.1 f.2.1) = iI (bnM S0 f.1.2.1 f.2.1) from congrArg iI (bk_bn (mf_E hmr1.1) f.1.2.1 f.2.1)]
           have hto : 0 ≤ bnM S0 f.1.2.1 f.2.1 ∧ bnM S0 f.1.2.1 f.2.1 ≤ S0 189 f.1.2.1 := by omega
           have ezt : (if mSo S0 f.1.2.1 f.2.1 ≠ 1 ∧ ¬ y then bnM S0 f.1.2.1 f.2.1 else (f.2.1 : Int) + 1) = bnM S0 f.1.2.1 f.2.1 := if_pos ⟨h145, h150⟩)
      refine am_cxv (mm_V1 dX10_runUse_170 in_X10_runsTo mk_X10_367 im_X10_runsTo sl_X10_runsTo ⟨Nat.le_of_ble_eq_true rfl, Nat.le_of_ble_eq_true rfl⟩ rfl (md_0 hm) (Nat.le_of_ble_eq_true rfl)) (m_to hm hbW hmr1 hto) (fun M1 hq2 => ?_)
      obtain ⟨S4, rfl, hmr4, -⟩ := hq2
      refine am_return dX10_runUse_173 rfl ?_
      refine ⟨rfl, S4, rfl, ?_⟩
      rw [← hz, nx_us hx, ezt, eus]
      exact hmr4
    · refine am_iload_n rfl dX10_runUse_153 ?_
      refine mm_iconst dX10_runUse_154 ?_
      refine mm_iadd dX10_runUse_155 ?_
      refine am_goto (tgt := 170) dX10_runUse_156 (by decide) ?_
      first
        | (have hto : 0 ≤ (f.2.1 : Int) + 1 ∧ (f.2.1 : Int) + 1 ≤ S0 189 f.1.2.1 := by omega
           have ezt : (if mSo S0 f.1.2.1 f.2.1 ≠ 1 ∧ ¬ y then bnM S0 f.1.2.1 f.2.1 else (f.2.1 : Int) + 1) = (f.2.1 : Int) + 1 := if_neg (fun q => by first | exact q.1 h145 | exact q.2 h150))
        | (have hbn := bn_R (mbW_C hbW |>.2.2.2 f.1.2.1 hr9) hp (hop h145)
           rw [show iI (bnM S1 f.1.2.1 f.2.1) = iI (bnM S0 f.1.2.1 f.2.1) from congrArg iI (bk_bn (mf_E hmr1.1) f.1.2.1 f.2.1)]
           have hto : 0 ≤ bnM S0 f.1.2.1 f.2.1 ∧ bnM S0 f.1.2.1 f.2.1 ≤ S0 189 f.1.2.1 := by omega
           have ezt : (if mSo S0 f.1.2.1 f.2.1 ≠ 1 ∧ ¬ y then bnM S0 f.1.2.1 f.2.1 else (f.2.1 : Int) + 1) = bnM S0 f.1.2.1 f.2.1 := if_pos ⟨h145, h150⟩)
      refine am_cxv (mm_V1 dX10_runUse_170 in_X10_runsTo mk_X10_367 im_X10_runsTo sl_X10_runsTo ⟨Nat.le_of_ble_eq_true rfl, Nat.le_of_ble_eq_true rfl⟩ rfl (md_0 hm) (Nat.le_of_ble_eq_true rfl)) (m_to hm hbW hmr1 hto) (fun M1 hq2 => ?_)
      obtain ⟨S4, rfl, hmr4, -⟩ := hq2
      refine am_return dX10_runUse_173 rfl ?_
      refine ⟨rfl, S4, rfl, ?_⟩
      rw [← hz, nx_us hx, ezt, eus]
      exact hmr4
set_option maxRecDepth 100000 in
set_option maxHeartbeats 4000000 in
theorem l_use1 {sh : List mm_H} {L : mm_L} (hm : mdS sh) {S0 : mm_S} (hbW : mbW S0) {S : mm_S} {n : Int} {f : Fr} {t : List Fr} {as dn ms : Int} (hmr : mrS S0 S n (f :: t, 0, as, dn, ms)) (hp : f.2.1 < mN S0 f.1.2.1) (hx : mSo S0 f.1.2.1 f.2.1 = 1 ∨ mSo S0 f.1.2.1 f.2.1 = 2 ∨ mSo S0 f.1.2.1 f.2.1 = 5) {a : Nat} (haA : mAa S0 f.1.2.1 f.2.1 = (a : Int)) (ha : a < 5) (hB8 : 0 ≤ mBb S0 f.1.2.1 f.2.1 ∧ mBb S0 f.1.2.1 f.2.1 < 8) (hn6 : 0 ≤ n ∧ n ≤ 60) (has1 : as + 1 ≤ dn) {i : Nat} (hi : S 220 (5 * t.length + a) = (i : Int)) (hiT : (i : Int) < S 181 41) (hown : (i : Int) = S 219 t.length ∨ S 216 i = (t.length : Int)) (hcd : cdR f.1.2.2.1 f.2.2 (f.2.2.1 a) = 7 * S 214 i + S 215 i) (hi4 : 0 ≤ S 214 i ∧ S 214 i < S 181 0) (hi5 : 0 ≤ S 215 i ∧ S 215 i < 6) (hH : mH S0 (S 214 i) (S 215 i) (mBb S0 f.1.2.1 f.2.1)) (hw0 : wrR S0 f.1 f.2.1 f.2.2 = 0) : am_AW eX10_runUse (mm sh S L) 67 [some (.ref 181), some (.int (iI (t.length : Int))), some (.int (iI (f.2.1 : Int))), some (.int (iI (mSo S0 f.1.2.1 f.2.1))), some (.int (iI (a : Int))), some (.int (iI (mBb S0 f.1.2.1 f.2.1))), some (.int (iI (i : Int))), some (.int (iI 0)), none, none] [] (fun r0 M' => r0 = none ∧ ∃ S', M' = mm sh S' L ∧ (((wrR S0 f.1 f.2.1 f.2.2) ≠ 0 ∧ meS S0 S' ((wrR S0 f.1 f.2.1 f.2.2), (f.1.2.1 : Int), (f.2.1 : Int), as, dn, ms)) ∨ ((wrR S0 f.1 f.2.1 f.2.2) = 0 ∧ mrS S0 S' n ((f.1, (nyR S0 (ansA (L 181 51) n) f as).2.1.toNat, (nyR S0 (ansA (L 181 51) n) f as).2.2) :: t, 1 - (nyR S0 (ansA (L 181 51) n) f as).1, as + ifP (asR S0 f.1 f.2.1 f.2.2) 1 0, dn, ms)))) := by
  obtain ⟨hbe, hW, hr6, ⟨hw, hn24, hn0, hNe, hNS⟩, ⟨h17, h18⟩, ⟨hpl, hN24⟩, hP, hrg, hk10, hd, hvM⟩ := mr_top hbW hmr
  have hr9 : (f.1.2.1 : Int) < S0 181 9 := hmr.2.1.1.2.1.2.1
  have hrw := hbW.2.2.2.2 f.1.2.1 hr9
  have hth : thM S (t.length + 1) := hmr.2.2.1.2
  have h500 := hth.1
  have dd : S 181 45 = _ ∧ S 181 53 = as ∧ S 181 54 = dn ∧ S 181 55 = ms ∧ S 181 61 = 0 ∧ S 181 52 = n ∧ S 181 56 = -1 := hmr.2.2.2.1
  have hda : 0 ≤ as ∧ as ≤ dn ∧ dn ≤ 500 := hmr.2.1.2.2.2.1
  have hk6 := hW.1.1
  have hSoR : Rg (mSo S0 f.1.2.1 f.2.1) := by omega
  have hSo2 : mSo S0 f.1.2.1 f.2.1 ≠ 1 → 2 ≤ mSo S0 f.1.2.1 f.2.1 ∧ mSo S0 f.1.2.1 f.2.1 ≤ 5 := fun q => by omega
  have e7 : (7 * S 214 i + S 215 i) / 7 = S 214 i := by omega
  have e8 : (7 * S 214 i + S 215 i) % 7 = S 215 i := by omega
  have hask : mA S (S 214 i) (S 215 i) (mBb S0 f.1.2.1 f.2.1) = mA S0 (cdR f.1.2.2.1 f.2.2 (f.2.2.1 (mAa S0 f.1.2.1 f.2.1).toNat) / 7) (cdR f.1.2.2.1 f.2.2 (f.2.2.1 (mAa S0 f.1.2.1 f.2.1).toNat) % 7) (mBb S0 f.1.2.1 f.2.1) := by rw [bk_A hbe, haA, Int.toNat_natCast, hcd, e7, e8]
  have hiK : 0 ≤ S 214 i ∧ S 214 i < 6 := by omega
  have hi50 : 0 ≤ (i : Int) ∧ (i : Int) < ((500 : Nat) : Int) ∧ (i : Int) < 2147483648 := by omega
  obtain ⟨ai, hai⟩ : ∃ ai : Nat, as = ai := ⟨as.toNat, by omega⟩
  have hai5 : ai < 100000 := by omega
  have hmr2 := mr_as hbW hmr has1
  have s2 : ∀ b, b ≠ 181 → up2 S 181 53 (as + 1) b = S b := fun b hb => up2_row hb
  have c2 : ∀ j, j ≠ 53 → up2 S 181 53 (as + 1) 181 j = S 181 j := fun j hj => up2_rc hj
  generalize hmAe : mA S (S 214 i) (S 215 i) (mBb S0 f.1.2.1 f.2.1) = pA at hask
  refine am_aload_n rfl dX10_runUse_67 ?_
  refine am_aload_n rfl dX10_runUse_68 ?_
  refine mm_getR dX10_runUse_69 fl_X10_114 (md_0 hm) mdf_42 ?_
  refine am_iload rfl dX10_runUse_72 ?_
  refine mm_ial dX10_runUse_74 (md_thingKind hm) hi50 ?_
  rw [Int.toNat_natCast]
  refine am_aload_n rfl dX10_runUse_75 ?_
  refine mm_getR dX10_runUse_76 fl_X10_117 (md_0 hm) mdf_43 ?_
  refine am_iload rfl dX10_runUse_79 ?_
  refine mm_ial dX10_runUse_81 (md_thingState hm) hi50 ?_
  rw [Int.toNat_natCast]
  refine am_iload rfl dX10_runUse_82 ?_
  refine am_ci (mm_V3 dX10_runUse_84 in_X10_asks mk_X10_173 im_X10_asks sl_X10_asks ⟨Nat.le_of_ble_eq_true rfl, Nat.le_of_ble_eq_true rfl⟩ rfl (md_0 hm) (Nat.le_of_ble_eq_true rfl)) (m_asks (k := S 214 i) (s := S 215 i) (n := mBb S0 f.1.2.1 f.2.1) hm hW.1 hiK hi5 hB8) ?_
  refine am_ist8 dX10_runUse_87 (Nat.le_of_ble_eq_true rfl) (am_c1i _) ?_
  refine am_iload rfl dX10_runUse_89 ?_
  refine mm_bne (tgt := 99) dX10_runUse_91 (by decide) (fun h91 => ?_) (fun h91 => ?_)
  · have has : asR S0 f.1 f.2.1 f.2.2 := by
      by_cases q : mSo S0 f.1.2.1 f.2.1 = 1
      · exact Or.inr ⟨q, by rw [← hask, ← hmAe]; first | exact h91 | exact absurd q h96⟩
      · exact Or.inl (hSo2 q)
    refine am_aload_n rfl dX10_runUse_99 ?_
    refine am_cxI (mm_V0 dX10_runUse_100 in_X10_answer mk_X10_382 im_X10_answer sl_X10_answer ⟨Nat.le_of_ble_eq_true rfl, Nat.le_of_ble_eq_true rfl⟩ rfl (md_0 hm) (Nat.le_of_ble_eq_true rfl)) (m_answer (S := S) (L := L) (i := ai) (n := n) hm (by rw [dd.2.1]; exact hai) hai5 dd.2.2.2.2.2.1 hn6) (fun bv M1 hq => ?_)
    obtain ⟨htn, rfl⟩ := hq
    rw [← hai] at htn
    rw [← hai]
    have hbv2 := tells_01 htn
    have hbvR : -2147483648 ≤ bv ∧ bv < 2147483648 := by rcases hbv2 with z | z <;> rw [z] <;> decide
    refine mm_zeq (tgt := 110) dX10_runUse_103 (by decide) hbvR (fun h103 => ?_) (fun h103 => ?_)
    · refine mm_iconst dX10_runUse_110 ?_
      refine am_ist9 dX10_runUse_111 (Nat.le_of_ble_eq_true rfl) (am_c1i _) ?_
      first
        | (have hy : (asR S0 f.1 f.2.1 f.2.2 ∧ ansA (L 181 51) n as) := ⟨has, tells_t htn (by omega)⟩
           rw [show iI 1 = iI (@b2 (asR S0 f.1 f.2.1 f.2.2 ∧ ansA (L 181 51) n as) (Classical.propDecidable _)) from congrArg iI (@b2_t _ (Classical.propDecidable _) hy).symm]
           have h9 := @l_use2 sh L hm S0 hbW _ n f t (as + 1) dn ms hmr2 hp hx a haA ha hB8 i (by rw [s2 220 (by omega)]; exact hi) (by rw [c2 41 (by omega)]; exact hiT) (by rw [s2 219 (by omega), s2 216 (by omega)]; exact hown) (by rw [s2 214 (by omega), s2 215 (by omega)]; exact hH) (asR S0 f.1 f.2.1 f.2.2 ∧ ansA (L 181 51) n as) (Classical.propDecidable _) _ rfl (some (.int (iI (a : Int)))) (some (.int (iI 0))) (some (.int (iI (b2 (mA S (S 214 i) (S 215 i) (mBb S0 f.1.2.1 f.2.1))))))
           refine am_AW.mono h9 (fun r0 M' q => ⟨q.1, ?_⟩)
           obtain ⟨q1, S', q2, q3⟩ := q
           exact ⟨S', q2, Or.inr ⟨hw0, by rw [ifP_t has]; exact q3⟩⟩)
        | (have hy : ¬ (asR S0 f.1 f.2.1 f.2.2 ∧ ansA (L 181 51) n as) := fun q => tells_f htn (by omega) q.2
           rw [show iI 0 = iI (@b2 (asR S0 f.1 f.2.1 f.2.2 ∧ ansA (L 181 51) n as) (Classical.propDecidable _)) from congrArg iI (@b2_f _ (Classical.propDecidable _) hy).symm]
           have h9 := @l_use2 sh L hm S0 hbW _ n f t (as + 1) dn ms hmr2 hp hx a haA ha hB8 i (by rw [s2 220 (by omega)]; exact hi) (by rw [c2 41 (by omega)]; exact hiT) (by rw [s2 219 (by omega), s2 216 (by omega)]; exact hown) (by rw [s2 214 (by omega), s2 215 (by omega)]; exact hH) (asR S0 f.1 f.2.1 f.2.2 ∧ ansA (L 181 51) n as) (Classical.propDecidable _) _ rfl (some (.int (iI (a : Int)))) (some (.int (iI (@b2 (asR S0 f.1 f.2.1 f.2.2 ∧ ansA (L 181 51) n as) (Classical.propDecidable _))))) (some (.int (iI (b2 (mA S (S 214 i) (S 215 i) (mBb S0 f.1.2.1 f.2.1))))))
           refine am_AW.mono h9 (fun r0 M' q => ⟨q.1, ?_⟩)
           obtain ⟨q1, S', q2, q3⟩ := q
           exact ⟨S', q2, Or.inr ⟨hw0, by rw [ifP_t has]; exact q3⟩⟩)
        | (have hna : ¬ asR S0 f.1 f.2.1 f.2.2 := fun q => h91 (by rw [hmAe, hask]; rcases q with q | q; exact absurd q.1 (by rw [h96]; decide); exact q.2)
           have hy : ¬ (asR S0 f.1 f.2.1 f.2.2 ∧ ansA (L 181 51) n as) := fun q => hna q.1
           rw [show iI 0 = iI (@b2 (asR S0 f.1 f.2.1 f.2.2 ∧ ansA (L 181 51) n as) (Classical.propDecidable _)) from congrArg iI (@b2_f _ (Classical.propDecidable _) hy).symm]
           have h9 := @l_use2 sh L hm S0 hbW _ n f t as dn ms hmr hp hx a haA ha hB8 i hi hiT hown hH (asR S0 f.1 f.2.1 f.2.2 ∧ ansA (L 181 51) n as) (Classical.propDecidable _) _ rfl (some (.int (iI (a : Int)))) (some (.int (iI (@b2 (asR S0 f.1 f.2.1 f.2.2 ∧ ansA (L 181 51) n as) (Classical.propDecidable _))))) (some (.int (iI (b2 (mA S (S 214 i) (S 215 i) (mBb S0 f.1.2.1 f.2.1))))))
           refine am_AW.mono h9 (fun r0 M' q => ⟨q.1, ?_⟩)
           obtain ⟨q1, S', q2, q3⟩ := q
           exact ⟨S', q2, Or.inr ⟨hw0, by rw [ifP_f hna, Int.add_zero]; exact q3⟩⟩)
    · refine mm_iconst dX10_runUse_106 ?_
      refine am_goto (tgt := 111) dX10_runUse_107 (by decide) ?_
      refine am_ist9 dX10_runUse_111 (Nat.le_of_ble_eq_true rfl) (am_c1i _) ?_
      first
        | (have hy : (asR S0 f.1 f.2.1 f.2.2 ∧ ansA (L 181 51) n as) := ⟨has, tells_t htn (by omega)⟩
           rw [show iI 1 = iI (@b2 (asR S0 f.1 f.2.1 f.2.2 ∧ ansA (L 181 51) n as) (Classical.propDecidable _)) from congrArg iI (@b2_t _ (Classical.propDecidable _) hy).symm]
           have h9 := @l_use2 sh L hm S0 hbW _ n f t (as + 1) dn ms hmr2 hp hx a haA ha hB8 i (by rw [s2 220 (by omega)]; exact hi) (by rw [c2 41 (by omega)]; exact hiT) (by rw [s2 219 (by omega), s2 216 (by omega)]; exact hown) (by rw [s2 214 (by omega), s2 215 (by omega)]; exact hH) (asR S0 f.1 f.2.1 f.2.2 ∧ ansA (L 181 51) n as) (Classical.propDecidable _) _ rfl (some (.int (iI (a : Int)))) (some (.int (iI 0))) (some (.int (iI (b2 (mA S (S 214 i) (S 215 i) (mBb S0 f.1.2.1 f.2.1))))))
           refine am_AW.mono h9 (fun r0 M' q => ⟨q.1, ?_⟩)
           obtain ⟨q1, S', q2, q3⟩ := q
           exact ⟨S', q2, Or.inr ⟨hw0, by rw [ifP_t has]; exact q3⟩⟩)
        | (have hy : ¬ (asR S0 f.1 f.2.1 f.2.2 ∧ ansA (L 181 51) n as) := fun q => tells_f htn (by omega) q.2
           rw [show iI 0 = iI (@b2 (asR S0 f.1 f.2.1 f.2.2 ∧ ansA (L 181 51) n as) (Classical.propDecidable _)) from congrArg iI (@b2_f _ (Classical.propDecidable _) hy).symm]
           have h9 := @l_use2 sh L hm S0 hbW _ n f t (as + 1) dn ms hmr2 hp hx a haA ha hB8 i (by rw [s2 220 (by omega)]; exact hi) (by rw [c2 41 (by omega)]; exact hiT) (by rw [s2 219 (by omega), s2 216 (by omega)]; exact hown) (by rw [s2 214 (by omega), s2 215 (by omega)]; exact hH) (asR S0 f.1 f.2.1 f.2.2 ∧ ansA (L 181 51) n as) (Classical.propDecidable _) _ rfl (some (.int (iI (a : Int)))) (some (.int (iI (@b2 (asR S0 f.1 f.2.1 f.2.2 ∧ ansA (L 181 51) n as) (Classical.propDecidable _))))) (some (.int (iI (b2 (mA S (S 214 i) (S 215 i) (mBb S0 f.1.2.1 f.2.1))))))
           refine am_AW.mono h9 (fun r0 M' q => ⟨q.1, ?_⟩)
           obtain ⟨q1, S', q2, q3⟩ := q
           exact ⟨S', q2, Or.inr ⟨hw0, by rw [ifP_t has]; exact q3⟩⟩)
        | (have hna : ¬ asR S0 f.1 f.2.1 f.2.2 := fun q => h91 (by rw [hmAe, hask]; rcases q with q | q; exact absurd q.1 (by rw [h96]; decide); exact q.2)
           have hy : ¬ (asR S0 f.1 f.2.1 f.2.2 ∧ ansA (L 181 51) n as) := fun q => hna q.1
           rw [show iI 0 = iI (@b2 (asR S0 f.1 f.2.1 f.2.2 ∧ ansA (L 181 51) n as) (Classical.propDecidable _)) from congrArg iI (@b2_f _ (Classical.propDecidable _) hy).symm]
           have h9 := @l_use2 sh L hm S0 hbW _ n f t as dn ms hmr hp hx a haA ha hB8 i hi hiT hown hH (asR S0 f.1 f.2.1 f.2.2 ∧ ansA (L 181 51) n as) (Classical.propDecidable _) _ rfl (some (.int (iI (a : Int)))) (some (.int (iI (@b2 (asR S0 f.1 f.2.1 f.2.2 ∧ ansA (L 181 51) n as) (Classical.propDecidable _))))) (some (.int (iI (b2 (mA S (S 214 i) (S 215 i) (mBb S0 f.1.2.1 f.2.1))))))
           refine am_AW.mono h9 (fun r0 M' q => ⟨q.1, ?_⟩)
           obtain ⟨q1, S', q2, q3⟩ := q
           exact ⟨S', q2, Or.inr ⟨hw0, by rw [ifP_f hna, Int.add_zero]; exact q3⟩⟩)
  · refine am_iload_n rfl dX10_runUse_94 ?_
    refine mm_iconst dX10_runUse_95 ?_
    refine mm_jeq (tgt := 110) dX10_runUse_96 (by decide) hSoR (by decide) (fun h96 => ?_) (fun h96 => ?_)
    · refine mm_iconst dX10_runUse_110 ?_
      refine am_ist9 dX10_runUse_111 (Nat.le_of_ble_eq_true rfl) (am_c1i _) ?_
      first
        | (have hy : (asR S0 f.1 f.2.1 f.2.2 ∧ ansA (L 181 51) n as) := ⟨has, tells_t htn (by omega)⟩
           rw [show iI 1 = iI (@b2 (asR S0 f.1 f.2.1 f.2.2 ∧ ansA (L 181 51) n as) (Classical.propDecidable _)) from congrArg iI (@b2_t _ (Classical.propDecidable _) hy).symm]
           have h9 := @l_use2 sh L hm S0 hbW _ n f t (as + 1) dn ms hmr2 hp hx a haA ha hB8 i (by rw [s2 220 (by omega)]; exact hi) (by rw [c2 41 (by omega)]; exact hiT) (by rw [s2 219 (by omega), s2 216 (by omega)]; exact hown) (by rw [s2 214 (by omega), s2 215 (by omega)]; exact hH) (asR S0 f.1 f.2.1 f.2.2 ∧ ansA (L 181 51) n as) (Classical.propDecidable _) _ rfl (some (.int (iI (a : Int)))) (some (.int (iI 0))) (some (.int (iI (b2 (mA S (S 214 i) (S 215 i) (mBb S0 f.1.2.1 f.2.1))))))
           refine am_AW.mono h9 (fun r0 M' q => ⟨q.1, ?_⟩)
           obtain ⟨q1, S', q2, q3⟩ := q
           exact ⟨S', q2, Or.inr ⟨hw0, by rw [ifP_t has]; exact q3⟩⟩)
        | (have hy : ¬ (asR S0 f.1 f.2.1 f.2.2 ∧ ansA (L 181 51) n as) := fun q => tells_f htn (by omega) q.2
           rw [show iI 0 = iI (@b2 (asR S0 f.1 f.2.1 f.2.2 ∧ ansA (L 181 51) n as) (Classical.propDecidable _)) from congrArg iI (@b2_f _ (Classical.propDecidable _) hy).symm]
           have h9 := @l_use2 sh L hm S0 hbW _ n f t (as + 1) dn ms hmr2 hp hx a haA ha hB8 i (by rw [s2 220 (by omega)]; exact hi) (by rw [c2 41 (by omega)]; exact hiT) (by rw [s2 219 (by omega), s2 216 (by omega)]; exact hown) (by rw [s2 214 (by omega), s2 215 (by omega)]; exact hH) (asR S0 f.1 f.2.1 f.2.2 ∧ ansA (L 181 51) n as) (Classical.propDecidable _) _ rfl (some (.int (iI (a : Int)))) (some (.int (iI (@b2 (asR S0 f.1 f.2.1 f.2.2 ∧ ansA (L 181 51) n as) (Classical.propDecidable _))))) (some (.int (iI (b2 (mA S (S 214 i) (S 215 i) (mBb S0 f.1.2.1 f.2.1))))))
           refine am_AW.mono h9 (fun r0 M' q => ⟨q.1, ?_⟩)
           obtain ⟨q1, S', q2, q3⟩ := q
           exact ⟨S', q2, Or.inr ⟨hw0, by rw [ifP_t has]; exact q3⟩⟩)
        | (have hna : ¬ asR S0 f.1 f.2.1 f.2.2 := fun q => h91 (by rw [hmAe, hask]; rcases q with q | q; exact absurd q.1 (by rw [h96]; decide); exact q.2)
           have hy : ¬ (asR S0 f.1 f.2.1 f.2.2 ∧ ansA (L 181 51) n as) := fun q => hna q.1
           rw [show iI 0 = iI (@b2 (asR S0 f.1 f.2.1 f.2.2 ∧ ansA (L 181 51) n as) (Classical.propDecidable _)) from congrArg iI (@b2_f _ (Classical.propDecidable _) hy).symm]
           have h9 := @l_use2 sh L hm S0 hbW _ n f t as dn ms hmr hp hx a haA ha hB8 i hi hiT hown hH (asR S0 f.1 f.2.1 f.2.2 ∧ ansA (L 181 51) n as) (Classical.propDecidable _) _ rfl (some (.int (iI (a : Int)))) (some (.int (iI (@b2 (asR S0 f.1 f.2.1 f.2.2 ∧ ansA (L 181 51) n as) (Classical.propDecidable _))))) (some (.int (iI (b2 (mA S (S 214 i) (S 215 i) (mBb S0 f.1.2.1 f.2.1))))))
           refine am_AW.mono h9 (fun r0 M' q => ⟨q.1, ?_⟩)
           obtain ⟨q1, S', q2, q3⟩ := q
           exact ⟨S', q2, Or.inr ⟨hw0, by rw [ifP_f hna, Int.add_zero]; exact q3⟩⟩)
    · have has : asR S0 f.1 f.2.1 f.2.2 := by
        by_cases q : mSo S0 f.1.2.1 f.2.1 = 1
        · exact Or.inr ⟨q, by rw [← hask, ← hmAe]; first | exact h91 | exact absurd q h96⟩
        · exact Or.inl (hSo2 q)
      refine am_aload_n rfl dX10_runUse_99 ?_
      refine am_cxI (mm_V0 dX10_runUse_100 in_X10_answer mk_X10_382 im_X10_answer sl_X10_answer ⟨Nat.le_of_ble_eq_true rfl, Nat.le_of_ble_eq_true rfl⟩ rfl (md_0 hm) (Nat.le_of_ble_eq_true rfl)) (m_answer (S := S) (L := L) (i := ai) (n := n) hm (by rw [dd.2.1]; exact hai) hai5 dd.2.2.2.2.2.1 hn6) (fun bv M1 hq => ?_)
      obtain ⟨htn, rfl⟩ := hq
      rw [← hai] at htn
      rw [← hai]
      have hbv2 := tells_01 htn
      have hbvR : -2147483648 ≤ bv ∧ bv < 2147483648 := by rcases hbv2 with z | z <;> rw [z] <;> decide
      refine mm_zeq (tgt := 110) dX10_runUse_103 (by decide) hbvR (fun h103 => ?_) (fun h103 => ?_)
      · refine mm_iconst dX10_runUse_110 ?_
        refine am_ist9 dX10_runUse_111 (Nat.le_of_ble_eq_true rfl) (am_c1i _) ?_
        first
          | (have hy : (asR S0 f.1 f.2.1 f.2.2 ∧ ansA (L 181 51) n as) := ⟨has, tells_t htn (by omega)⟩
             rw [show iI 1 = iI (@b2 (asR S0 f.1 f.2.1 f.2.2 ∧ ansA (L 181 51) n as) (Classical.propDecidable _)) from congrArg iI (@b2_t _ (Classical.propDecidable _) hy).symm]
             have h9 := @l_use2 sh L hm S0 hbW _ n f t (as + 1) dn ms hmr2 hp hx a haA ha hB8 i (by rw [s2 220 (by omega)]; exact hi) (by rw [c2 41 (by omega)]; exact hiT) (by rw [s2 219 (by omega), s2 216 (by omega)]; exact hown) (by rw [s2 214 (by omega), s2 215 (by omega)]; exact hH) (asR S0 f.1 f.2.1 f.2.2 ∧ ansA (L 181 51) n as) (Classical.propDecidable _) _ rfl (some (.int (iI (a : Int)))) (some (.int (iI 0))) (some (.int (iI (b2 (mA S (S 214 i) (S 215 i) (mBb S0 f.1.2.1 f.2.1))))))
             refine am_AW.mono h9 (fun r0 M' q => ⟨q.1, ?_⟩)
             obtain ⟨q1, S', q2, q3⟩ := q
             exact ⟨S', q2, Or.inr ⟨hw0, by rw [ifP_t has]; exact q3⟩⟩)
          | (have hy : ¬ (asR S0 f.1 f.2.1 f.2.2 ∧ ansA (L 181 51) n as) := fun q => tells_f htn (by omega) q.2
             rw [show iI 0 = iI (@b2 (asR S0 f.1 f.2.1 f.2.2 ∧ ansA (L 181 51) n as) (Classical.propDecidable _)) from congrArg iI (@b2_f _ (Classical.propDecidable _) hy).symm]
             have h9 := @l_use2 sh L hm S0 hbW _ n f t (as + 1) dn ms hmr2 hp hx a haA ha hB8 i (by rw [s2 220 (by omega)]; exact hi) (by rw [c2 41 (by omega)]; exact hiT) (by rw [s2 219 (by omega), s2 216 (by omega)]; exact hown) (by rw [s2 214 (by omega), s2 215 (by omega)]; exact hH) (asR S0 f.1 f.2.1 f.2.2 ∧ ansA (L 181 51) n as) (Classical.propDecidable _) _ rfl (some (.int (iI (a : Int)))) (some (.int (iI (@b2 (asR S0 f.1 f.2.1 f.2.2 ∧ ansA (L 181 51) n as) (Classical.propDecidable _))))) (some (.int (iI (b2 (mA S (S 214 i) (S 215 i) (mBb S0 f.1.2.1 f.2.1))))))
             refine am_AW.mono h9 (fun r0 M' q => ⟨q.1, ?_⟩)
             obtain ⟨q1, S', q2, q3⟩ := q
             exact ⟨S', q2, Or.inr ⟨hw0, by rw [ifP_t has]; exact q3⟩⟩)
          | (have hna : ¬ asR S0 f.1 f.2.1 f.2.2 := fun q => h91 (by rw [hmAe, hask]; rcases q with q | q; exact absurd q.1 (by rw [h96]; decide); exact q.2)
             have hy : ¬ (asR S0 f.1 f.2.1 f.2.2 ∧ ansA (L 181 51) n as) := fun q => hna q.1
             rw [show iI 0 = iI (@b2 (asR S0 f.1 f.2.1 f.2.2 ∧ ansA (L 181 51) n as) (Classical.propDecidable _)) from congrArg iI (@b2_f _ (Classical.propDecidable _) hy).symm]
             have h9 := @l_use2 sh L hm S0 hbW _ n f t as dn ms hmr hp hx a haA ha hB8 i hi hiT hown hH (asR S0 f.1 f.2.1 f.2.2 ∧ ansA (L 181 51) n as) (Classical.propDecidable _) _ rfl (some (.int (iI (a : Int)))) (some (.int (iI (@b2 (asR S0 f.1 f.2.1 f.2.2 ∧ ansA (L 181 51) n as) (Classical.propDecidable _))))) (some (.int (iI (b2 (mA S (S 214 i) (S 215 i) (mBb S0 f.1.2.1 f.2.1))))))
             refine am_AW.mono h9 (fun r0 M' q => ⟨q.1, ?_⟩)
             obtain ⟨q1, S', q2, q3⟩ := q
             exact ⟨S', q2, Or.inr ⟨hw0, by rw [ifP_f hna, Int.add_zero]; exact q3⟩⟩)
      · refine mm_iconst dX10_runUse_106 ?_
        refine am_goto (tgt := 111) dX10_runUse_107 (by decide) ?_
        refine am_ist9 dX10_runUse_111 (Nat.le_of_ble_eq_true rfl) (am_c1i _) ?_
        first
          | (have hy : (asR S0 f.1 f.2.1 f.2.2 ∧ ansA (L 181 51) n as) := ⟨has, tells_t htn (by omega)⟩
             rw [show iI 1 = iI (@b2 (asR S0 f.1 f.2.1 f.2.2 ∧ ansA (L 181 51) n as) (Classical.propDecidable _)) from congrArg iI (@b2_t _ (Classical.propDecidable _) hy).symm]
             have h9 := @l_use2 sh L hm S0 hbW _ n f t (as + 1) dn ms hmr2 hp hx a haA ha hB8 i (by rw [s2 220 (by omega)]; exact hi) (by rw [c2 41 (by omega)]; exact hiT) (by rw [s2 219 (by omega), s2 216 (by omega)]; exact hown) (by rw [s2 214 (by omega), s2 215 (by omega)]; exact hH) (asR S0 f.1 f.2.1 f.2.2 ∧ ansA (L 181 51) n as) (Classical.propDecidable _) _ rfl (some (.int (iI (a : Int)))) (some (.int (iI 0))) (some (.int (iI (b2 (mA S (S 214 i) (S 215 i) (mBb S0 f.1.2.1 f.2.1))))))
             refine am_AW.mono h9 (fun r0 M' q => ⟨q.1, ?_⟩)
             obtain ⟨q1, S', q2, q3⟩ := q
             exact ⟨S', q2, Or.inr ⟨hw0, by rw [ifP_t has]; exact q3⟩⟩)
          | (have hy : ¬ (asR S0 f.1 f.2.1 f.2.2 ∧ ansA (L 181 51) n as) := fun q => tells_f htn (by omega) q.2
             rw [show iI 0 = iI (@b2 (asR S0 f.1 f.2.1 f.2.2 ∧ ansA (L 181 51) n as) (Classical.propDecidable _)) from congrArg iI (@b2_f _ (Classical.propDecidable _) hy).symm]
             have h9 := @l_use2 sh L hm S0 hbW _ n f t (as + 1) dn ms hmr2 hp hx a haA ha hB8 i (by rw [s2 220 (by omega)]; exact hi) (by rw [c2 41 (by omega)]; exact hiT) (by rw [s2 219 (by omega), s2 216 (by omega)]; exact hown) (by rw [s2 214 (by omega), s2 215 (by omega)]; exact hH) (asR S0 f.1 f.2.1 f.2.2 ∧ ansA (L 181 51) n as) (Classical.propDecidable _) _ rfl (some (.int (iI (a : Int)))) (some (.int (iI (@b2 (asR S0 f.1 f.2.1 f.2.2 ∧ ansA (L 181 51) n as) (Classical.propDecidable _))))) (some (.int (iI (b2 (mA S (S 214 i) (S 215 i) (mBb S0 f.1.2.1 f.2.1))))))
             refine am_AW.mono h9 (fun r0 M' q => ⟨q.1, ?_⟩)
             obtain ⟨q1, S', q2, q3⟩ := q
             exact ⟨S', q2, Or.inr ⟨hw0, by rw [ifP_t has]; exact q3⟩⟩)
          | (have hna : ¬ asR S0 f.1 f.2.1 f.2.2 := fun q => h91 (by rw [hmAe, hask]; rcases q with q | q; exact absurd q.1 (by rw [h96]; decide); exact q.2)
             have hy : ¬ (asR S0 f.1 f.2.1 f.2.2 ∧ ansA (L 181 51) n as) := fun q => hna q.1
             rw [show iI 0 = iI (@b2 (asR S0 f.1 f.2.1 f.2.2 ∧ ansA (L 181 51) n as) (Classical.propDecidable _)) from congrArg iI (@b2_f _ (Classical.propDecidable _) hy).symm]
             have h9 := @l_use2 sh L hm S0 hbW _ n f t as dn ms hmr hp hx a haA ha hB8 i hi hiT hown hH (asR S0 f.1 f.2.1 f.2.2 ∧ ansA (L 181 51) n as) (Classical.propDecidable _) _ rfl (some (.int (iI (a : Int)))) (some (.int (iI (@b2 (asR S0 f.1 f.2.1 f.2.2 ∧ ansA (L 181 51) n as) (Classical.propDecidable _))))) (some (.int (iI (b2 (mA S (S 214 i) (S 215 i) (mBb S0 f.1.2.1 f.2.1))))))
             refine am_AW.mono h9 (fun r0 M' q => ⟨q.1, ?_⟩)
             obtain ⟨q1, S', q2, q3⟩ := q
             exact ⟨S', q2, Or.inr ⟨hw0, by rw [ifP_f hna, Int.add_zero]; exact q3⟩⟩)
set_option maxRecDepth 100000 in
set_option maxHeartbeats 4000000 in
theorem m_runUse {sh : List mm_H} {L : mm_L} (hm : mdS sh) {S0 : mm_S} (hbW : mbW S0) {S : mm_S} {n : Int} {f : Fr} {t : List Fr} {as dn ms : Int} (hmr : mrS S0 S n (f :: t, 0, as, dn, ms)) (hp : f.2.1 < mN S0 f.1.2.1) (hx : mSo S0 f.1.2.1 f.2.1 = 1 ∨ mSo S0 f.1.2.1 f.2.1 = 2 ∨ mSo S0 f.1.2.1 f.2.1 = 5) {a : Nat} (haA : mAa S0 f.1.2.1 f.2.1 = (a : Int)) (ha : a < 5) (hB8 : 0 ≤ mBb S0 f.1.2.1 f.2.1 ∧ mBb S0 f.1.2.1 f.2.1 < 8) (hn6 : 0 ≤ n ∧ n ≤ 60) (has1 : as + 1 ≤ dn) : am_E eX10_runUse [.ref 181, .int (iI (t.length : Int)), .int (iI (f.2.1 : Int)), .int (iI (mSo S0 f.1.2.1 f.2.1)), .int (iI (a : Int)), .int (iI (mBb S0 f.1.2.1 f.2.1))] (mm sh S L) (fun r0 M' => r0 = none ∧ ∃ S', M' = mm sh S' L ∧ (((wrR S0 f.1 f.2.1 f.2.2) ≠ 0 ∧ meS S0 S' ((wrR S0 f.1 f.2.1 f.2.2), (f.1.2.1 : Int), (f.2.1 : Int), as, dn, ms)) ∨ ((wrR S0 f.1 f.2.1 f.2.2) = 0 ∧ mrS S0 S' n ((f.1, (nyR S0 (ansA (L 181 51) n) f as).2.1.toNat, (nyR S0 (ansA (L 181 51) n) f as).2.2) :: t, 1 - (nyR S0 (ansA (L 181 51) n) f as).1, as + ifP (asR S0 f.1 f.2.1 f.2.2) 1 0, dn, ms)))) := by
  obtain ⟨hbe, hW, hr6, ⟨hw, hn24, hn0, hNe, hNS⟩, ⟨h17, h18⟩, ⟨hpl, hN24⟩, hP, hrg, hk10, hd, hvM⟩ := mr_top hbW hmr
  have hr9 : (f.1.2.1 : Int) < S0 181 9 := hmr.2.1.1.2.1.2.1
  have hrw := hbW.2.2.2.2 f.1.2.1 hr9
  have hth : thM S (t.length + 1) := hmr.2.2.1.2
  have h500 := hth.1
  have dd : S 181 45 = _ ∧ S 181 53 = as ∧ S 181 54 = dn ∧ S 181 55 = ms ∧ S 181 61 = 0 ∧ S 181 52 = n ∧ S 181 56 = -1 := hmr.2.2.2.1
  have hda : 0 ≤ as ∧ as ≤ dn ∧ dn ≤ 500 := hmr.2.1.2.2.2.1
  have hag := ag_eq hW.1 hmr.2.2.1.1 hth (rgV_of hbe hrg) ha
  have hagR : 0 ≤ agR f.1.2.2.1 f.2.2 (f.2.2.1 a) ∧ agR f.1.2.2.1 f.2.2 (f.2.2.1 a) ≤ 2 := by
    unfold agR
    split
    · omega
    · split <;> omega
  have hxb := (hmr.2.2.1.1.1.2.1.1 a ha).1
  have hk6 := hW.1.1
  have hR9 : Rg (S 219 t.length) := by have := pl_lent (f :: t) _ hmr.2.2.1.1 t.length (by simp only [List.length_cons]; omega); omega
  have hR6 : S 220 (5 * t.length + a) ≠ -1 → Rg (S 216 (S 220 (5 * t.length + a)).toNat) := fun q => by have := (hth.2.1 (S 220 (5 * t.length + a)).toNat (by omega)).1; omega
  have hwr : wrR S0 f.1 f.2.1 f.2.2 = if agR f.1.2.2.1 f.2.2 (f.2.2.1 a) ≠ 0 then agR f.1.2.2.1 f.2.2 (f.2.2.1 a) else if mH S0 (cdR f.1.2.2.1 f.2.2 (f.2.2.1 a) / 7) (cdR f.1.2.2.1 f.2.2 (f.2.2.1 a) % 7) (mBb S0 f.1.2.1 f.2.1) then 0 else 3 := by
    unfold wrR
    rw [if_pos hx, haA, Int.toNat_natCast]
  refine am_enter rfl rfl (Nat.le_of_ble_eq_true rfl) ?_
  refine am_aload_n rfl dX10_runUse_0 ?_
  refine am_iload_n rfl dX10_runUse_1 ?_
  refine am_iload rfl dX10_runUse_2 ?_
  refine am_ci (mm_V2 dX10_runUse_4 in_X10_named mk_X10_376 im_X10_named sl_X10_named ⟨Nat.le_of_ble_eq_true rfl, Nat.le_of_ble_eq_true rfl⟩ rfl (md_0 hm) (Nat.le_of_ble_eq_true rfl)) (m_named (v := a) hm hk10 ha) ?_
  refine am_ist6 dX10_runUse_7 (Nat.le_of_ble_eq_true rfl) (am_c1i _) ?_
  refine am_aload_n rfl dX10_runUse_9 ?_
  refine am_iload_n rfl dX10_runUse_10 ?_
  refine am_iload rfl dX10_runUse_11 ?_
  refine am_ci (mm_V2 dX10_runUse_13 in_X10_againstRun mk_X10_379 im_X10_againstRun sl_X10_againstRun ⟨Nat.le_of_ble_eq_true rfl, Nat.le_of_ble_eq_true rfl⟩ rfl (md_0 hm) (Nat.le_of_ble_eq_true rfl)) (m_againstRun (k := t.length) hm (by omega) hk10 hR9 hR6) ?_
  rw [hag.1]
  refine am_ist7 dX10_runUse_16 (Nat.le_of_ble_eq_true rfl) (am_c1i _) ?_
  refine am_iload rfl dX10_runUse_18 ?_
  refine mm_zne (tgt := 50) dX10_runUse_20 (by decide) (by omega) (fun h20 => ?_) (fun h20 => ?_)
  · refine am_iload rfl dX10_runUse_50 ?_
    refine am_ist7 dX10_runUse_52 (Nat.le_of_ble_eq_true rfl) (am_c1i _) ?_
    refine am_iload rfl dX10_runUse_54 ?_
    refine mm_zeq (tgt := 67) dX10_runUse_56 (by decide) (by first | decide | omega) (fun h56 => ?_) (fun h56 => ?_)
    · first
        | exact absurd h56 h20
        | exact absurd h56 (by decide)
        | (have hH : mH S0 (S 214 i) (S 215 i) (mBb S0 f.1.2.1 f.2.1) := by
             have q := h43
             rw [bk_H hbe] at q
             exact q
           exact l_use1 hm hbW hmr hp hx haA ha hB8 hn6 has1 hi hiT hown hcd hi4 hi5 hH (by rw [hwu, if_pos hH]))
    · refine am_aload_n rfl dX10_runUse_59 ?_
      refine am_iload rfl dX10_runUse_60 ?_
      refine am_iload_n rfl dX10_runUse_62 ?_
      refine am_cv (mm_V2 dX10_runUse_63 in_X10_stops mk_X10_364 im_X10_stops sl_X10_stops ⟨Nat.le_of_ble_eq_true rfl, Nat.le_of_ble_eq_true rfl⟩ rfl (md_0 hm) (Nat.le_of_ble_eq_true rfl)) (m_stops (k := t.length) hm hd hk10) ?_
      refine am_return dX10_runUse_66 rfl ?_
      first
        | exact absurd rfl h56
        | (have hwe : wrR S0 f.1 f.2.1 f.2.2 = agR f.1.2.2.1 f.2.2 (f.2.2.1 a) := by rw [hwr, if_pos h20]
           exact ⟨rfl, _, rfl, Or.inl ⟨by rw [hwe]; exact h20, me_up hmr.1 hwe h17.symm rfl dd.2.1 dd.2.2.1 dd.2.2.2.1⟩⟩)
        | (have hnH : ¬ mH S0 (S 214 i) (S 215 i) (mBb S0 f.1.2.1 f.2.1) := fun q => h43 (by
             have e := bk_H hbe (S 214 i) (S 215 i) (mBb S0 f.1.2.1 f.2.1)
             exact Eq.mpr e q)
           have hwe : wrR S0 f.1 f.2.1 f.2.2 = 3 := by rw [hwu, if_neg hnH]
           exact ⟨rfl, _, rfl, Or.inl ⟨by rw [hwe]; decide, me_up hmr.1 hwe h17.symm rfl dd.2.1 dd.2.2.1 dd.2.2.2.1⟩⟩)
  · obtain ⟨i, hi, hiT, hown, hcd, hi4, hi5⟩ := hag.2 h20
    rw [show iI (S 220 (5 * t.length + a)) = iI (i : Int) from congrArg iI hi, h20]
    have e7 : (7 * S 214 i + S 215 i) / 7 = S 214 i := by omega
    have e8 : (7 * S 214 i + S 215 i) % 7 = S 215 i := by omega
    have hwu : wrR S0 f.1 f.2.1 f.2.2 = if mH S0 (S 214 i) (S 215 i) (mBb S0 f.1.2.1 f.2.1) then 0 else 3 := by
      rw [hwr, if_neg (fun q => q h20), hcd, e7, e8]
    refine am_aload_n rfl dX10_runUse_23 ?_
    refine am_aload_n rfl dX10_runUse_24 ?_
    refine mm_getR dX10_runUse_25 fl_X10_114 (md_0 hm) mdf_42 ?_
    refine am_iload rfl dX10_runUse_28 ?_
    refine mm_ial dX10_runUse_30 (md_thingKind hm) (by omega) ?_
    rw [Int.toNat_natCast]
    refine am_aload_n rfl dX10_runUse_31 ?_
    refine mm_getR dX10_runUse_32 fl_X10_117 (md_0 hm) mdf_43 ?_
    refine am_iload rfl dX10_runUse_35 ?_
    refine mm_ial dX10_runUse_37 (md_thingState hm) (by omega) ?_
    rw [Int.toNat_natCast]
    refine am_iload rfl dX10_runUse_38 ?_
    refine am_ci (mm_V3 dX10_runUse_40 in_X10_has mk_X10_160 im_X10_has sl_X10_has ⟨Nat.le_of_ble_eq_true rfl, Nat.le_of_ble_eq_true rfl⟩ rfl (md_0 hm) (Nat.le_of_ble_eq_true rfl)) (m_has (k := S 214 i) (s := S 215 i) (n := mBb S0 f.1.2.1 f.2.1) hm hW.1 (by omega) (by omega) hB8) ?_
    refine mm_bne (tgt := 50) dX10_runUse_43 (by decide) (fun h43 => ?_) (fun h43 => ?_)
    · refine am_iload rfl dX10_runUse_50 ?_
      refine am_ist7 dX10_runUse_52 (Nat.le_of_ble_eq_true rfl) (am_c1i _) ?_
      refine am_iload rfl dX10_runUse_54 ?_
      refine mm_zeq (tgt := 67) dX10_runUse_56 (by decide) (by first | decide | omega) (fun h56 => ?_) (fun h56 => ?_)
      · first
          | exact absurd h56 h20
          | exact absurd h56 (by decide)
          | (have hH : mH S0 (S 214 i) (S 215 i) (mBb S0 f.1.2.1 f.2.1) := by
               have q := h43
               rw [bk_H hbe] at q
               exact q
             exact l_use1 hm hbW hmr hp hx haA ha hB8 hn6 has1 hi hiT hown hcd hi4 hi5 hH (by rw [hwu, if_pos hH]))
      · refine am_aload_n rfl dX10_runUse_59 ?_
        refine am_iload rfl dX10_runUse_60 ?_
        refine am_iload_n rfl dX10_runUse_62 ?_
        refine am_cv (mm_V2 dX10_runUse_63 in_X10_stops mk_X10_364 im_X10_stops sl_X10_stops ⟨Nat.le_of_ble_eq_true rfl, Nat.le_of_ble_eq_true rfl⟩ rfl (md_0 hm) (Nat.le_of_ble_eq_true rfl)) (m_stops (k := t.length) hm hd hk10) ?_
        refine am_return dX10_runUse_66 rfl ?_
        first
          | exact absurd rfl h56
          | (have hwe : wrR S0 f.1 f.2.1 f.2.2 = agR f.1.2.2.1 f.2.2 (f.2.2.1 a) := by rw [hwr, if_pos h20]
             exact ⟨rfl, _, rfl, Or.inl ⟨by rw [hwe]; exact h20, me_up hmr.1 hwe h17.symm rfl dd.2.1 dd.2.2.1 dd.2.2.2.1⟩⟩)
          | (have hnH : ¬ mH S0 (S 214 i) (S 215 i) (mBb S0 f.1.2.1 f.2.1) := fun q => h43 (by
               have e := bk_H hbe (S 214 i) (S 215 i) (mBb S0 f.1.2.1 f.2.1)
               exact Eq.mpr e q)
             have hwe : wrR S0 f.1 f.2.1 f.2.2 = 3 := by rw [hwu, if_neg hnH]
             exact ⟨rfl, _, rfl, Or.inl ⟨by rw [hwe]; decide, me_up hmr.1 hwe h17.symm rfl dd.2.1 dd.2.2.1 dd.2.2.2.1⟩⟩)
    · refine mm_iconst dX10_runUse_46 ?_
      refine am_goto (tgt := 52) dX10_runUse_47 (by decide) ?_
      refine am_ist7 dX10_runUse_52 (Nat.le_of_ble_eq_true rfl) (am_c1i _) ?_
      refine am_iload rfl dX10_runUse_54 ?_
      refine mm_zeq (tgt := 67) dX10_runUse_56 (by decide) (by first | decide | omega) (fun h56 => ?_) (fun h56 => ?_)
      · exfalso; omega
      · refine am_aload_n rfl dX10_runUse_59 ?_
        refine am_iload rfl dX10_runUse_60 ?_
        refine am_iload_n rfl dX10_runUse_62 ?_
        refine am_cv (mm_V2 dX10_runUse_63 in_X10_stops mk_X10_364 im_X10_stops sl_X10_stops ⟨Nat.le_of_ble_eq_true rfl, Nat.le_of_ble_eq_true rfl⟩ rfl (md_0 hm) (Nat.le_of_ble_eq_true rfl)) (m_stops (k := t.length) hm hd hk10) ?_
        refine am_return dX10_runUse_66 rfl ?_
        first
          | exact absurd rfl h56
          | (have hwe : wrR S0 f.1 f.2.1 f.2.2 = agR f.1.2.2.1 f.2.2 (f.2.2.1 a) := by rw [hwr, if_pos h20]
             exact ⟨rfl, _, rfl, Or.inl ⟨by rw [hwe]; exact h20, me_up hmr.1 hwe h17.symm rfl dd.2.1 dd.2.2.1 dd.2.2.2.1⟩⟩)
          | (have hnH : ¬ mH S0 (S 214 i) (S 215 i) (mBb S0 f.1.2.1 f.2.1) := fun q => h43 (by
               have e := bk_H hbe (S 214 i) (S 215 i) (mBb S0 f.1.2.1 f.2.1)
               exact Eq.mpr e q)
             have hwe : wrR S0 f.1 f.2.1 f.2.2 = 3 := by rw [hwu, if_neg hnH]
             exact ⟨rfl, _, rfl, Or.inl ⟨by rw [hwe]; decide, me_up hmr.1 hwe h17.symm rfl dd.2.1 dd.2.2.1 dd.2.2.2.1⟩⟩)
