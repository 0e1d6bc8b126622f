/-! ===== a call in the reference's runs ===== -/
theorem mr_push {S0 S S' : mm_S} {n : Int} {f : Fr} {t : List Fr} {as dn ms : Int} (hbW : mbW S0) (hmr : mrS S0 S n (f :: t, 0, as, dn, ms)) (hr : rcC S0 f.1 f.2.1 f.2.2) (ht9 : t.length < 9) {i : Nat} (hi : S 220 (5 * t.length + (mBb S0 f.1.2.1 f.2.1).toNat) = (i : Int)) (hown : (i : Int) = S 219 t.length ∨ S 216 i = (t.length : Int)) (hg : mSo S0 f.1.2.1 f.2.1 = 11 → (i : Int) ≠ S 219 t.length) (hbe' : beG S S' (t.length + 1) (mAa S0 f.1.2.1 f.2.1) (i : Int) (mSo S0 f.1.2.1 f.2.1 = 11)) : mrS S0 S' n (((clK S0 f.1 f.2.1 f.2.2), 0, bgR (clK S0 f.1 f.2.1 f.2.2)) :: f :: t, 0, as, dn, max ms ((t.length : Int) + 2)) := by
  obtain ⟨hbe, hW, hr6, ⟨hw, hn24, hn0, hNe, hNS⟩, ⟨h17, h18⟩, ⟨hpl, hN24⟩, hP, hrg, hk10, hd, hvM⟩ := mr_top hbW hmr
  obtain ⟨e, ec, ⟨e45, e55⟩, ⟨e7, e7t⟩, ⟨e8, e8t⟩, ⟨e9, e9t⟩, ⟨e0, e0t⟩, ⟨e1, e1t⟩, e6, e6x⟩ := hbe'
  obtain ⟨hp, hx, hw⟩ := id hr
  have hky := hmr.2.1.1.2.1
  have hmr2 := (mbW_C hbW).2.2.2 f.1.2.1 hky.2.1
  have hv0 : 0 ≤ mBb S0 f.1.2.1 f.2.1 ∧ mBb S0 f.1.2.1 f.2.1 < 5 := by have ok := hmr2.2.2.2 f.2.1 hp; omega
  have hmc : 0 ≤ mAa S0 f.1.2.1 f.2.1 ∧ mAa S0 f.1.2.1 f.2.1 < S0 181 9 := hmr2.2.2.1 f.2.1 hp hx
  have hkc := ky_cl (mbW_C hbW) hky.2.1 hrg hp hx hw
  have hR1 : ∀ v, v < 5 → 0 ≤ f.2.2.1 v := fun v hv2 => (hrg.1.1 v hv2).1
  rw [Int.toNat_natCast] at e6 e6x
  have ecl : clK S f.1 f.2.1 f.2.2 = clK S0 f.1 f.2.1 f.2.2 := bk_cl hbe _ _ _
  have hpush := mo_push (S := S) (S' := S') (f := f) (t := t) (x := i) hW.1 hvM (by rw [bk_Bb hbe]; exact hv0) hmr.2.2.1.1 hmr.2.2.1.2 hrg.2.1 hR1 (by rw [bk_Bb hbe]; exact hi) hown (by rw [bk_So hbe]; exact hg) (fun b y1 y2 => e b y1 y2) ec e7 (by rw [e7t, ecl]; show _ = (((mAa S0 f.1.2.1 f.2.1).toNat : Nat) : Int); omega) e8 e8t e9 (by rw [e9t, bk_So hbe]) (fun j hj => e0 j (Or.inl hj)) e0t (fun j hj => e1 j (Or.inl hj)) e1t e6 (by rw [e6x, bk_So hbe]; rfl)
  rw [ecl] at hpush
  obtain ⟨h1, h2, -, ⟨h5, h53, h54, h55, h61, h52, h56⟩, h41⟩ := id hmr
  have hlen := h2.2.1
  simp only [List.length_cons] at hlen
  have hms : 1 ≤ ms ∧ ms ≤ 10 := h2.2.2.2.2
  have h55 : S 181 55 = ms := h55
  refine ⟨⟨fun b y1 y2 => by rw [e b y2 (by omega)]; exact h1.1 b y1 y2, fun j hj => by rw [ec j (by omega) (by omega)]; exact h1.2 j hj⟩, ⟨⟨?_, hkc, fun g u q => ?_, h2.1⟩, by simp only [List.length_cons]; omega, Or.inl rfl, h2.2.2.2.1, ?_⟩, hpush, ⟨by rw [e45]; simp only [List.length_cons]; omega, by rw [ec 53 (by omega) (by omega)]; exact h53, by rw [ec 54 (by omega) (by omega)]; exact h54, ?_, by rw [ec 61 (by omega) (by omega)]; exact h61, by rw [ec 52 (by omega) (by omega)]; exact h52, by rw [ec 56 (by omega) (by omega)]; exact h56⟩, by rw [ec 41 (by omega) (by omega)]; exact h41⟩
  · exact ⟨rg_bg hkc hbW.1, ⟨Int.le_refl _, (hbW.1.2.2.2.2 (clK S0 f.1 f.2.1 f.2.2).2.1 (by have := hkc.2.1; have := hbW.1.2.1; omega)).1⟩, fun k hk hne => absurd rfl hne⟩
  · obtain ⟨rfl, rfl⟩ := List.cons.inj q
    exact ⟨hr, rfl⟩
  · show 1 ≤ max ms ((t.length : Int) + 2) ∧ max ms ((t.length : Int) + 2) ≤ 10
    omega
  · show S' 181 55 = max ms ((t.length : Int) + 2)
    rw [e55, h55]
    congr 1
set_option maxRecDepth 100000 in
set_option maxHeartbeats 4000000 in
theorem l_call1 {sh : List mm_H} {L : mm_L} (hm : mdS sh) {S0 : mm_S} (hbW : mbW S0) {S : mm_S} {n : Int} {f : Fr} {t : List Fr} {as dn ms : Int} (hmr : mrS S0 S n (f :: t, 0, as, dn, ms)) (hp : f.2.1 < mN S0 f.1.2.1) (hx : mSo S0 f.1.2.1 f.2.1 = 10 ∨ mSo S0 f.1.2.1 f.2.1 = 11) {v : Nat} (hvB : mBb S0 f.1.2.1 f.2.1 = (v : Int)) (hv5 : v < 5) (hmA : 0 ≤ mAa S0 f.1.2.1 f.2.1 ∧ mAa S0 f.1.2.1 f.2.1 < 6) (hw0 : wrR S0 f.1 f.2.1 f.2.2 = 0) {i : Nat} (hi : S 220 (5 * t.length + v) = (i : Int)) (hiT : (i : Int) < S 181 41) (hown : (i : Int) = S 219 t.length ∨ S 216 i = (t.length : Int)) (hg : mSo S0 f.1.2.1 f.2.1 = 11 → (i : Int) ≠ S 219 t.length) {l7 : Option Value} : am_AW eX10_runCall (mm sh S L) 62 [some (.ref 181), some (.int (iI (t.length : Int))), some (.int (iI (f.2.1 : Int))), some (.int (iI (mAa S0 f.1.2.1 f.2.1))), some (.int (iI (v : Int))), some (.int (iI (b2 (mSo S0 f.1.2.1 f.2.1 = 11)))), some (.int (iI (i : Int))), l7] [] (fun r0 M' => r0 = none ∧ ∃ S', M' = mm sh S' L ∧ (((wrR S0 f.1 f.2.1 f.2.2) ≠ 0 ∧ meS S0 S' ((wrR S0 f.1 f.2.1 f.2.2), (f.1.2.1 : Int), (f.2.1 : Int), as, dn, ms)) ∨ ((wrR S0 f.1 f.2.1 f.2.2) = 0 ∧ t.length = 9 ∧ meS S0 S' (8, (f.1.2.1 : Int), (f.2.1 : Int), as, dn, ms)) ∨ ((wrR S0 f.1 f.2.1 f.2.2) = 0 ∧ t.length ≠ 9 ∧ mrS S0 S' n (((clK S0 f.1 f.2.1 f.2.2), 0, bgR (clK S0 f.1 f.2.1 f.2.2)) :: f :: t, 0, as, dn, max ms ((t.length : Int) + 2))))) := by
  obtain ⟨hbe, hW, hr6, ⟨hw, hn24, hn0, hNe, hNS⟩, ⟨h17, h18⟩, ⟨hpl, hN24⟩, hP, hrg, hk10, hd, hvM⟩ := mr_top hbW hmr
  have hr9 : (f.1.2.1 : Int) < S0 181 9 := hmr.2.1.1.2.1.2.1
  have hrw := hbW.2.2.2.2 f.1.2.1 hr9
  have hth : thM S (t.length + 1) := hmr.2.2.1.2
  have h500 := hth.1
  have dd : S 181 45 = _ ∧ S 181 53 = as ∧ S 181 54 = dn ∧ S 181 55 = ms ∧ S 181 61 = 0 ∧ S 181 52 = n ∧ S 181 56 = -1 := hmr.2.2.2.1
  have hms : 1 ≤ ms ∧ ms ≤ 10 := hmr.2.1.2.2.2.2
  refine am_aload_n rfl dX10_runCall_62 ?_
  refine mm_getI dX10_runCall_63 fl_X10_346 (md_0 hm) mdf_45 ?_
  rw [hd]
  refine mm_bipush dX10_runCall_66 (by decide) ?_
  refine mm_jne (tgt := 81) dX10_runCall_68 (by decide) (by omega) (by omega) (fun h68 => ?_) (fun h68 => ?_)
  · refine am_aload_n rfl dX10_runCall_81 ?_
    refine am_iload_n rfl dX10_runCall_82 ?_
    refine am_iload rfl dX10_runCall_83 ?_
    refine am_iload rfl dX10_runCall_85 ?_
    refine am_cxv (mm_V3 dX10_runCall_87 in_X10_begin mk_X10_385 im_X10_begin sl_X10_begin ⟨Nat.le_of_ble_eq_true rfl, Nat.le_of_ble_eq_true rfl⟩ rfl (md_0 hm) (Nat.le_of_ble_eq_true rfl)) (m_begin (S := S) (k := t.length + 1) (t := (i : Int)) (g := mSo S0 f.1.2.1 f.2.1 = 11) hm (by omega) (by rw [hd]; omega) (by omega) (fun _ => by omega)) (fun M1 hq2 => ?_)
    obtain ⟨S4, rfl, hbeg⟩ := hq2
    refine am_return dX10_runCall_90 rfl ?_
    first
      | exact ⟨rfl, _, rfl, Or.inr (Or.inl ⟨hw0, by omega, me_up hmr.1 rfl h17.symm rfl dd.2.1 dd.2.2.1 dd.2.2.2.1⟩)⟩
      | exact ⟨rfl, S4, rfl, Or.inr (Or.inr ⟨hw0, by omega, mr_push hbW hmr ⟨hp, hx, hw0⟩ (by omega) (by rw [hvB, Int.toNat_natCast]; exact hi) hown hg hbeg⟩)⟩
  · refine am_aload_n rfl dX10_runCall_71 ?_
    refine mm_bipush dX10_runCall_72 (by decide) ?_
    refine am_iload_n rfl dX10_runCall_74 ?_
    refine am_cv (mm_V2 dX10_runCall_75 in_X10_stops mk_X10_364 im_X10_stops sl_X10_stops ⟨Nat.le_of_ble_eq_true rfl, Nat.le_of_ble_eq_true rfl⟩ rfl (md_0 hm) (Nat.le_of_ble_eq_true rfl)) (m_stops (k := t.length) hm hd hk10) ?_
    refine am_goto (tgt := 90) dX10_runCall_78 (by decide) ?_
    refine am_return dX10_runCall_90 rfl ?_
    first
      | exact ⟨rfl, _, rfl, Or.inr (Or.inl ⟨hw0, by omega, me_up hmr.1 rfl h17.symm rfl dd.2.1 dd.2.2.1 dd.2.2.2.1⟩)⟩
      | exact ⟨rfl, S4, rfl, Or.inr (Or.inr ⟨hw0, by omega, mr_push hbW hmr ⟨hp, hx, hw0⟩ (by omega) (by rw [hvB, Int.toNat_natCast]; exact hi) hown hg hbeg⟩)⟩
set_option maxRecDepth 100000 in
set_option maxHeartbeats 4000000 in
theorem m_runCall {sh : List mm_H} {L : mm_L} (hm : mdS sh) {S0 : mm_S} (hbW : mbW S0) {S : mm_S} {n : Int} {f : Fr} {t : List Fr} {as dn ms : Int} (hmr : mrS S0 S n (f :: t, 0, as, dn, ms)) (hp : f.2.1 < mN S0 f.1.2.1) (hx : mSo S0 f.1.2.1 f.2.1 = 10 ∨ mSo S0 f.1.2.1 f.2.1 = 11) {v : Nat} (hvB : mBb S0 f.1.2.1 f.2.1 = (v : Int)) (hv5 : v < 5) (hmA : 0 ≤ mAa S0 f.1.2.1 f.2.1 ∧ mAa S0 f.1.2.1 f.2.1 < 6) : am_E eX10_runCall [.ref 181, .int (iI (t.length : Int)), .int (iI (f.2.1 : Int)), .int (iI (mAa S0 f.1.2.1 f.2.1)), .int (iI (v : Int)), .int (iI (b2 (mSo S0 f.1.2.1 f.2.1 = 11)))] (mm sh S L) (fun r0 M' => r0 = none ∧ ∃ S', M' = mm sh S' L ∧ (((wrR S0 f.1 f.2.1 f.2.2) ≠ 0 ∧ meS S0 S' ((wrR S0 f.1 f.2.1 f.2.2), (f.1.2.1 : Int), (f.2.1 : Int), as, dn, ms)) ∨ ((wrR S0 f.1 f.2.1 f.2.2) = 0 ∧ t.length = 9 ∧ meS S0 S' (8, (f.1.2.1 : Int), (f.2.1 : Int), as, dn, ms)) ∨ ((wrR S0 f.1 f.2.1 f.2.2) = 0 ∧ t.length ≠ 9 ∧ mrS S0 S' n (((clK S0 f.1 f.2.1 f.2.2), 0, bgR (clK S0 f.1 f.2.1 f.2.2)) :: f :: t, 0, as, dn, max ms ((t.length : Int) + 2))))) := by
  obtain ⟨hbe, hW, hr6, ⟨hw, hn24, hn0, hNe, hNS⟩, ⟨h17, h18⟩, ⟨hpl, hN24⟩, hP, hrg, hk10, hd, hvM⟩ := mr_top hbW hmr
  have hr9 : (f.1.2.1 : Int) < S0 181 9 := hmr.2.1.1.2.1.2.1
  have hrw := hbW.2.2.2.2 f.1.2.1 hr9
  have hth : thM S (t.length + 1) := hmr.2.2.1.2
  have h500 := hth.1
  have dd : S 181 45 = _ ∧ S 181 53 = as ∧ S 181 54 = dn ∧ S 181 55 = ms ∧ S 181 61 = 0 ∧ S 181 52 = n ∧ S 181 56 = -1 := hmr.2.2.2.1
  have hms : 1 ≤ ms ∧ ms ≤ 10 := hmr.2.1.2.2.2.2
  have hnu : ¬ (mSo S0 f.1.2.1 f.2.1 = 1 ∨ mSo S0 f.1.2.1 f.2.1 = 2 ∨ mSo S0 f.1.2.1 f.2.1 = 5) := by omega
  have hag := ag_eq hW.1 hmr.2.2.1.1 hth (rgV_of hbe hrg) hv5
  have hagR : 0 ≤ agR f.1.2.2.1 f.2.2 (f.2.2.1 v) ∧ agR f.1.2.2.1 f.2.2 (f.2.2.1 v) ≤ 2 := by
    unfold agR
    split
    · omega
    · split <;> omega
  have hxb := (hmr.2.2.1.1.1.2.1.1 v hv5).1
  have hR9 : Rg (S 219 t.length) := by have := pl_lent (f :: t) _ hmr.2.2.1.1 t.length (by simp only [List.length_cons]; omega); omega
  have hR6 : S 220 (5 * t.length + v) ≠ -1 → Rg (S 216 (S 220 (5 * t.length + v)).toNat) := fun q => by have := (hth.2.1 (S 220 (5 * t.length + v)).toNat (by omega)).1; omega
  have hwr : wrR S0 f.1 f.2.1 f.2.2 = if agR f.1.2.2.1 f.2.2 (f.2.2.1 v) ≠ 0 then agR f.1.2.2.1 f.2.2 (f.2.2.1 v) else if mSo S0 f.1.2.1 f.2.1 = 11 ∧ f.2.2.1 v = 1 then 4 else 0 := by
    unfold wrR
    rw [if_neg hnu, if_pos hx, hvB, Int.toNat_natCast]
  refine am_enter rfl rfl (Nat.le_of_ble_eq_true rfl) ?_
  refine am_aload_n rfl dX10_runCall_0 ?_
  refine am_iload_n rfl dX10_runCall_1 ?_
  refine am_iload rfl dX10_runCall_2 ?_
  refine am_ci (mm_V2 dX10_runCall_4 in_X10_named mk_X10_376 im_X10_named sl_X10_named ⟨Nat.le_of_ble_eq_true rfl, Nat.le_of_ble_eq_true rfl⟩ rfl (md_0 hm) (Nat.le_of_ble_eq_true rfl)) (m_named (v := v) hm hk10 hv5) ?_
  refine am_ist6 dX10_runCall_7 (Nat.le_of_ble_eq_true rfl) (am_c1i _) ?_
  refine am_aload_n rfl dX10_runCall_9 ?_
  refine am_iload_n rfl dX10_runCall_10 ?_
  refine am_iload rfl dX10_runCall_11 ?_
  refine am_ci (mm_V2 dX10_runCall_13 in_X10_againstRun mk_X10_379 im_X10_againstRun sl_X10_againstRun ⟨Nat.le_of_ble_eq_true rfl, Nat.le_of_ble_eq_true rfl⟩ rfl (md_0 hm) (Nat.le_of_ble_eq_true rfl)) (m_againstRun (k := t.length) hm (by omega) hk10 hR9 hR6) ?_
  rw [hag.1]
  refine am_ist7 dX10_runCall_16 (Nat.le_of_ble_eq_true rfl) (am_c1i _) ?_
  refine am_iload rfl dX10_runCall_18 ?_
  refine mm_zne (tgt := 43) dX10_runCall_20 (by decide) (by omega) (fun h20 => ?_) (fun h20 => ?_)
  · refine am_iload rfl dX10_runCall_43 ?_
    refine am_ist7 dX10_runCall_45 (Nat.le_of_ble_eq_true rfl) (am_c1i _) ?_
    refine am_iload rfl dX10_runCall_47 ?_
    refine mm_zeq (tgt := 62) dX10_runCall_49 (by decide) (by first | decide | omega) (fun h49 => ?_) (fun h49 => ?_)
    · first
        | exact absurd h49 h20
        | exact absurd h49 (by decide)
        | exact l_call1 hm hbW hmr hp hx hvB hv5 hmA (by rw [hwu, if_neg (fun q => by first | exact h25 q.1 | exact h36 (hone.mp q.2))]) hi hiT hown (fun q => by first | exact absurd q h25 | exact h36)
    · refine am_aload_n rfl dX10_runCall_52 ?_
      refine am_iload rfl dX10_runCall_53 ?_
      refine am_iload_n rfl dX10_runCall_55 ?_
      refine am_cv (mm_V2 dX10_runCall_56 in_X10_stops mk_X10_364 im_X10_stops sl_X10_stops ⟨Nat.le_of_ble_eq_true rfl, Nat.le_of_ble_eq_true rfl⟩ rfl (md_0 hm) (Nat.le_of_ble_eq_true rfl)) (m_stops (k := t.length) hm hd hk10) ?_
      refine am_goto (tgt := 90) dX10_runCall_59 (by decide) ?_
      refine am_return dX10_runCall_90 rfl ?_
      first
        | exact absurd rfl h49
        | (have hwe : wrR S0 f.1 f.2.1 f.2.2 = agR f.1.2.2.1 f.2.2 (f.2.2.1 v) := by rw [hwr, if_pos h20]
           exact ⟨rfl, _, rfl, Or.inl ⟨by rw [hwe]; exact h20, me_up hmr.1 hwe h17.symm rfl dd.2.1 dd.2.2.1 dd.2.2.2.1⟩⟩)
        | (have hwe : wrR S0 f.1 f.2.1 f.2.2 = 4 := by rw [hwu, if_pos ⟨h25, hone.mpr h36⟩]
           exact ⟨rfl, _, rfl, Or.inl ⟨by rw [hwe]; decide, me_up hmr.1 hwe h17.symm rfl dd.2.1 dd.2.2.1 dd.2.2.2.1⟩⟩)
  · obtain ⟨i, hi, hiT, hown, hcd, hi4, hi5⟩ := hag.2 h20
    rw [show iI (S 220 (5 * t.length + v)) = iI (i : Int) from congrArg iI hi, h20]
    have hone : f.2.2.1 v = 1 ↔ (i : Int) = S 219 t.length := by
      have q := (hmr.2.2.1.1.1.2.1.1 v hv5).2.2
      constructor
      · intro z; have := (q.mp z).2; omega
      · intro z; exact q.mpr ⟨by omega, by omega⟩
    have hwu : wrR S0 f.1 f.2.1 f.2.2 = if mSo S0 f.1.2.1 f.2.1 = 11 ∧ f.2.2.1 v = 1 then 4 else 0 := by
      rw [hwr, if_neg (fun q => q h20)]
    refine am_iload rfl dX10_runCall_23 ?_
    refine mm_beq (tgt := 43) dX10_runCall_25 (by decide) (fun h25 => ?_) (fun h25 => ?_)
    · refine am_iload rfl dX10_runCall_43 ?_
      refine am_ist7 dX10_runCall_45 (Nat.le_of_ble_eq_true rfl) (am_c1i _) ?_
      refine am_iload rfl dX10_runCall_47 ?_
      refine mm_zeq (tgt := 62) dX10_runCall_49 (by decide) (by first | decide | omega) (fun h49 => ?_) (fun h49 => ?_)
      · first
          | exact absurd h49 h20
          | exact absurd h49 (by decide)
          | exact l_call1 hm hbW hmr hp hx hvB hv5 hmA (by rw [hwu, if_neg (fun q => by first | exact h25 q.1 | exact h36 (hone.mp q.2))]) hi hiT hown (fun q => by first | exact absurd q h25 | exact h36)
      · refine am_aload_n rfl dX10_runCall_52 ?_
        refine am_iload rfl dX10_runCall_53 ?_
        refine am_iload_n rfl dX10_runCall_55 ?_
        refine am_cv (mm_V2 dX10_runCall_56 in_X10_stops mk_X10_364 im_X10_stops sl_X10_stops ⟨Nat.le_of_ble_eq_true rfl, Nat.le_of_ble_eq_true rfl⟩ rfl (md_0 hm) (Nat.le_of_ble_eq_true rfl)) (m_stops (k := t.length) hm hd hk10) ?_
        refine am_goto (tgt := 90) dX10_runCall_59 (by decide) ?_
        refine am_return dX10_runCall_90 rfl ?_
        first
          | exact absurd rfl h49
          | (have hwe : wrR S0 f.1 f.2.1 f.2.2 = agR f.1.2.2.1 f.2.2 (f.2.2.1 v) := by rw [hwr, if_pos h20]
             exact ⟨rfl, _, rfl, Or.inl ⟨by rw [hwe]; exact h20, me_up hmr.1 hwe h17.symm rfl dd.2.1 dd.2.2.1 dd.2.2.2.1⟩⟩)
          | (have hwe : wrR S0 f.1 f.2.1 f.2.2 = 4 := by rw [hwu, if_pos ⟨h25, hone.mpr h36⟩]
             exact ⟨rfl, _, rfl, Or.inl ⟨by rw [hwe]; decide, me_up hmr.1 hwe h17.symm rfl dd.2.1 dd.2.2.1 dd.2.2.2.1⟩⟩)
    · refine am_iload rfl dX10_runCall_28 ?_
      refine am_aload_n rfl dX10_runCall_30 ?_
      refine mm_getR dX10_runCall_31 fl_X10_129 (md_0 hm) mdf_48 ?_
      refine am_iload_n rfl dX10_runCall_34 ?_
      refine mm_ial dX10_runCall_35 (md_atLent hm) (by omega) ?_
      rw [Int.toNat_natCast]
      refine mm_jne (tgt := 43) dX10_runCall_36 (by decide) (by omega) (by omega) (fun h36 => ?_) (fun h36 => ?_)
      · refine am_iload rfl dX10_runCall_43 ?_
        refine am_ist7 dX10_runCall_45 (Nat.le_of_ble_eq_true rfl) (am_c1i _) ?_
        refine am_iload rfl dX10_runCall_47 ?_
        refine mm_zeq (tgt := 62) dX10_runCall_49 (by decide) (by first | decide | omega) (fun h49 => ?_) (fun h49 => ?_)
        · first
            | exact absurd h49 h20
            | exact absurd h49 (by decide)
            | exact l_call1 hm hbW hmr hp hx hvB hv5 hmA (by rw [hwu, if_neg (fun q => by first | exact h25 q.1 | exact h36 (hone.mp q.2))]) hi hiT hown (fun q => by first | exact absurd q h25 | exact h36)
        · refine am_aload_n rfl dX10_runCall_52 ?_
          refine am_iload rfl dX10_runCall_53 ?_
          refine am_iload_n rfl dX10_runCall_55 ?_
          refine am_cv (mm_V2 dX10_runCall_56 in_X10_stops mk_X10_364 im_X10_stops sl_X10_stops ⟨Nat.le_of_ble_eq_true rfl, Nat.le_of_ble_eq_true rfl⟩ rfl (md_0 hm) (Nat.le_of_ble_eq_true rfl)) (m_stops (k := t.length) hm hd hk10) ?_
          refine am_goto (tgt := 90) dX10_runCall_59 (by decide) ?_
          refine am_return dX10_runCall_90 rfl ?_
          first
            | exact absurd rfl h49
            | (have hwe : wrR S0 f.1 f.2.1 f.2.2 = agR f.1.2.2.1 f.2.2 (f.2.2.1 v) := by rw [hwr, if_pos h20]
               exact ⟨rfl, _, rfl, Or.inl ⟨by rw [hwe]; exact h20, me_up hmr.1 hwe h17.symm rfl dd.2.1 dd.2.2.1 dd.2.2.2.1⟩⟩)
            | (have hwe : wrR S0 f.1 f.2.1 f.2.2 = 4 := by rw [hwu, if_pos ⟨h25, hone.mpr h36⟩]
               exact ⟨rfl, _, rfl, Or.inl ⟨by rw [hwe]; decide, me_up hmr.1 hwe h17.symm rfl dd.2.1 dd.2.2.1 dd.2.2.2.1⟩⟩)
      · refine mm_iconst dX10_runCall_39 ?_
        refine am_goto (tgt := 45) dX10_runCall_40 (by decide) ?_
        refine am_ist7 dX10_runCall_45 (Nat.le_of_ble_eq_true rfl) (am_c1i _) ?_
        refine am_iload rfl dX10_runCall_47 ?_
        refine mm_zeq (tgt := 62) dX10_runCall_49 (by decide) (by first | decide | omega) (fun h49 => ?_) (fun h49 => ?_)
        · exfalso; omega
        · refine am_aload_n rfl dX10_runCall_52 ?_
          refine am_iload rfl dX10_runCall_53 ?_
          refine am_iload_n rfl dX10_runCall_55 ?_
          refine am_cv (mm_V2 dX10_runCall_56 in_X10_stops mk_X10_364 im_X10_stops sl_X10_stops ⟨Nat.le_of_ble_eq_true rfl, Nat.le_of_ble_eq_true rfl⟩ rfl (md_0 hm) (Nat.le_of_ble_eq_true rfl)) (m_stops (k := t.length) hm hd hk10) ?_
          refine am_goto (tgt := 90) dX10_runCall_59 (by decide) ?_
          refine am_return dX10_runCall_90 rfl ?_
          first
            | exact absurd rfl h49
            | (have hwe : wrR S0 f.1 f.2.1 f.2.2 = agR f.1.2.2.1 f.2.2 (f.2.2.1 v) := by rw [hwr, if_pos h20]
               exact ⟨rfl, _, rfl, Or.inl ⟨by rw [hwe]; exact h20, me_up hmr.1 hwe h17.symm rfl dd.2.1 dd.2.2.1 dd.2.2.2.1⟩⟩)
            | (have hwe : wrR S0 f.1 f.2.1 f.2.2 = 4 := by rw [hwu, if_pos ⟨h25, hone.mpr h36⟩]
               exact ⟨rfl, _, rfl, Or.inl ⟨by rw [hwe]; decide, me_up hmr.1 hwe h17.symm rfl dd.2.1 dd.2.2.1 dd.2.2.2.1⟩⟩)
