/-! ===== the CASE that is called ===== -/
set_option maxRecDepth 100000 in
set_option maxHeartbeats 4000000 in
theorem c_caseFor {sh : List mm_H} {S : mm_S} {L : mm_L} {p1 p2 p3 n : Nat} (jh : jsH sh) (hpl : plS sh p1 p2 p3 n) (hD : plD p1 p2 p3 n) (hI : imC S L p1 p2 p3 n) {X : XT} {F : FT} {W : WT} (hS : SubC S L p1 X F W) (hB : cbB S) (hn : inC S L p1) {r h k s : Int} (hr : 0 ≤ r ∧ r < 6) (hh : 0 ≤ h ∧ h ≤ 2) (hk : 0 ≤ k ∧ k < 6) (hs : 0 ≤ s ∧ s < 6) (hc4 : ((h * 6 + r) * 6 + k) * 6 + s < 433) (hky : kyV S (soC h, r.toNat, k, s)) (hX : X (soC h, r.toNat, k, s) 0 (pkM (bgR (soC h, r.toNat, k, s)))) (hN8 : S 86 0 < 262144) : am_E eX3_caseFor [.ref 85, .int (iI r), .int (iI h), .int (iI k), .int (iI s)] (mm sh S L) (fun r0 M' => ∃ v, r0 = some (.int (iI v)) ∧ ∃ sh' S' L' q1 q2 q3 m, M' = mm sh' S' L' ∧ poC sh S L p1 p2 n X F W sh' S' L' q1 q2 q3 m ∧ S' 86 0 ≤ S 86 0 + 1 ∧ ((v = -1 ∧ S' 85 0 = 1) ∨ ∃ a : Nat, v = a ∧ (a : Int) < S' 85 1 ∧ keyC S' a = (soC h, r.toNat, k, s))) := by
  have h40 := hI.2.2.1.1
  have k01 := hI.2.2.2.2.2.2.1
  obtain ⟨N0, hN0⟩ : ∃ N0 : Nat, S 85 1 = N0 := ⟨(S 85 1).toNat, by omega⟩
  obtain ⟨cod, hcod⟩ : ∃ cod, ((h * 6 + r) * 6 + k) * 6 + s = cod := ⟨_, rfl⟩
  have f1 := hI.2.2.2.1.1 cod.toNat (by omega)
  refine am_enter rfl rfl (Nat.le_of_ble_eq_true rfl) ?_
  refine am_iload_n rfl dX3_caseFor_0 ?_
  refine am_iload_n rfl dX3_caseFor_1 ?_
  refine am_iload_n rfl dX3_caseFor_2 ?_
  refine am_iload rfl dX3_caseFor_3 ?_
  refine am_ci (mm_SN4 dX3_caseFor_5 in_X9_caseCode mk_X3_86 st_X9_caseCode ⟨Nat.le_of_ble_eq_true rfl, Nat.le_of_ble_eq_true rfl⟩ (Nat.le_of_ble_eq_true rfl)) (c_caseCode) ?_
  rw [hcod]
  refine am_ist5 dX3_caseFor_8 (Nat.le_of_ble_eq_true rfl) (am_c1i _) ?_
  refine am_aload_n rfl dX3_caseFor_10 ?_
  refine mm_getR dX3_caseFor_11 fl_X3_35 jh.1 rfl ?_
  refine am_iload rfl dX3_caseFor_14 ?_
  refine mm_ial dX3_caseFor_16 jh.2.2.1 (by omega) ?_
  refine mm_iconst dX3_caseFor_17 ?_
  refine mm_jeq (tgt := 29) dX3_caseFor_18 (by decide) (by omega) (by omega) (fun h18 => ?_) (fun h18 => ?_)
  · refine am_aload_n rfl dX3_caseFor_29 ?_
    refine mm_getI dX3_caseFor_30 fl_X3_15 jh.1 rfl ?_
    refine mm_bipush dX3_caseFor_33 (by decide) ?_
    refine mm_jlt (tgt := 45) dX3_caseFor_35 (by decide) (by omega) (by omega) (fun h35 => ?_) (fun h35 => ?_)
    · refine am_aload_n rfl dX3_caseFor_45 ?_
      refine am_dup rfl dX3_caseFor_46 ?_
      refine mm_getI dX3_caseFor_47 fl_X3_15 jh.1 rfl ?_
      rw [hN0]
      refine am_dup_x1 rfl rfl dX3_caseFor_50 ?_
      refine mm_iconst dX3_caseFor_51 ?_
      refine mm_iadd dX3_caseFor_52 ?_
      refine mm_putI dX3_caseFor_53 fp_X3_15 jh.1 rfl ?_
      refine am_ist6 dX3_caseFor_56 (Nat.le_of_ble_eq_true rfl) (am_c1i _) ?_
      refine am_aload_n rfl dX3_caseFor_58 ?_
      refine mm_getR dX3_caseFor_59 fl_X3_35 jh.1 rfl ?_
      refine am_iload rfl dX3_caseFor_62 ?_
      refine am_iload rfl dX3_caseFor_64 ?_
      refine mm_ias dX3_caseFor_66 jh.2.2.1 (by omega) ?_
      refine am_aload_n rfl dX3_caseFor_67 ?_
      refine mm_getR dX3_caseFor_68 fl_X3_31 jh.1 rfl ?_
      refine am_iload rfl dX3_caseFor_71 ?_
      refine mm_aal dX3_caseFor_73 (fun _ => rfl) jh.2.1 ⟨by omega, by omega, by omega⟩ (show caArr _ = some (98 + N0) by rw [Int.toNat_natCast]; exact if_pos (by omega)) ?_
      refine am_iload_n rfl dX3_caseFor_74 ?_
      refine am_iload_n rfl dX3_caseFor_75 ?_
      refine am_iload_n rfl dX3_caseFor_76 ?_
      refine am_iload rfl dX3_caseFor_77 ?_
      refine am_cv (mm_V4 dX3_caseFor_79 in_X1_begin mk_X3_89 im_X1_begin sl_X1_begin ⟨Nat.le_of_ble_eq_true rfl, Nat.le_of_ble_eq_true rfl⟩ rfl (jh.2.2.2.2.2.2.1 N0 (by omega)) (Nat.le_of_ble_eq_true rfl)) (c_caBegin (jh.2.2.2.2.2.2.1 N0 (by omega))) ?_
      refine am_aload_n rfl dX3_caseFor_82 ?_
      refine mm_getR dX3_caseFor_83 fl_X3_51 jh.1 rfl ?_
      refine am_iload_n rfl dX3_caseFor_86 ?_
      refine am_iload_n rfl dX3_caseFor_87 ?_
      refine am_iload_n rfl dX3_caseFor_88 ?_
      refine am_iload rfl dX3_caseFor_89 ?_
      refine am_cv (mm_V4 dX3_caseFor_91 in_X8_begin mk_X3_93 im_X8_begin sl_X8_begin ⟨Nat.le_of_ble_eq_true rfl, Nat.le_of_ble_eq_true rfl⟩ rfl jh.2.2.2.2.2.1.1 (Nat.le_of_ble_eq_true rfl)) (c_scBegin jh.2.2.2.2.2.1 hh) ?_
      have hF3 := bg_F (S := caS (up2 (up2 S 85 1 ((N0 : Int) + 1)) 91 cod.toNat (N0 : Int)) (98 + N0) r h k s) (a := 94) (r := r) (h := h) (k := k) (s := s)
      have hsb := sc_bg (S := caS (up2 (up2 S 85 1 ((N0 : Int) + 1)) 91 cod.toNat (N0 : Int)) (98 + N0) r h k s) (a := 94) (κ := (soC h, r.toNat, k, s)) (so_R hh) (r := r)
      have hsb : scR (bgS (caS (up2 (up2 S 85 1 ((N0 : Int) + 1)) 91 cod.toNat (N0 : Int)) (98 + N0) r h k s) 94 r h k s) 94 (soC h, r.toNat, k, s) (bgR (soC h, r.toNat, k, s)) := by
        have q := hsb
        rw [show hwC ((soC h, r.toNat, k, s) : kyT).1 = h from hwC_so hh] at q
        exact q
      obtain ⟨cr, ca0, ca1, ca2, ca3, ca4, ca5, ca6⟩ := caS_rd (S := up2 (up2 S 85 1 ((N0 : Int) + 1)) 91 cod.toNat (N0 : Int)) (a := 98 + N0) (r := r) (h := h) (k := k) (s := s)
      have hbV := bg_V (S := caS (up2 (up2 S 85 1 ((N0 : Int) + 1)) 91 cod.toNat (N0 : Int)) (98 + N0) r h k s) (a := 94) (r := r) (h := h) (k := k) (s := s) (fun j hj => by rw [cr (94 + 2) (by omega), cr (94 + 3) (by omega), up2_row (by omega), up2_row (by omega), up2_row (by omega), up2_row (by omega)]; exact hI.2.2.2.2.2.2.2.2.2.2.2 j hj) hr (by omega) (by omega)
      have hbp := bg_pl (S := caS (up2 (up2 S 85 1 ((N0 : Int) + 1)) 91 cod.toNat (N0 : Int)) (98 + N0) r h k s) (a := 94) (r := r) (h := h) (k := k) (s := s)
      have eF : ∀ b, b < 94 ∨ 97 < b → (bgS (caS (up2 (up2 S 85 1 ((N0 : Int) + 1)) 91 cod.toNat (N0 : Int)) (98 + N0) r h k s) 94 r h k s) b = caS (up2 (up2 S 85 1 ((N0 : Int) + 1)) 91 cod.toNat (N0 : Int)) (98 + N0) r h k s b := fun b hb => hF3 b (by omega)
      have eC := eF (98 + N0) (by omega)
      rw [← eC] at ca0 ca1 ca2 ca3 ca4 ca5 ca6
      have e85 : ∀ j, (bgS (caS (up2 (up2 S 85 1 ((N0 : Int) + 1)) 91 cod.toNat (N0 : Int)) (98 + N0) r h k s) 94 r h k s) 85 j = up2 S 85 1 ((N0 : Int) + 1) 85 j := fun j => by rw [eF 85 (by omega), cr 85 (by omega), up2_rd (by omega)]
      have e91 : ∀ j, (bgS (caS (up2 (up2 S 85 1 ((N0 : Int) + 1)) 91 cod.toNat (N0 : Int)) (98 + N0) r h k s) 94 r h k s) 91 j = up2 (up2 S 85 1 ((N0 : Int) + 1)) 91 cod.toNat (N0 : Int) 91 j := fun j => by rw [eF 91 (by omega), cr 91 (by omega)]
      have eo : ∀ b, b ≠ 85 → b ≠ 91 → b ≠ 98 + N0 → b < 94 ∨ 97 < b → (bgS (caS (up2 (up2 S 85 1 ((N0 : Int) + 1)) 91 cod.toNat (N0 : Int)) (98 + N0) r h k s) 94 r h k s) b = S b := fun b x1 x2 x3 x4 => by rw [eF b x4, cr b x3, up2_row x2, up2_row x1]
      generalize (bgS (caS (up2 (up2 S 85 1 ((N0 : Int) + 1)) 91 cod.toNat (N0 : Int)) (98 + N0) r h k s) 94 r h k s) = S3 at *
      obtain ⟨i1, i2, i3, i4⟩ := po_new (S' := S3) (X := X) (F := F) (W := W) hD hI hS hN0 (by omega) hr hh hk hs hcod.symm (by omega) h18 hky eo (by rw [e85, up2_same]) (fun j hj => by rw [e85, up2_rc hj]) (by rw [e91, up2_same]) (fun q hq => by rw [e91, up2_rc hq, up2_rd (by omega)]) ca0 ca1 ca2 ca3 ca4 ca5 ca6 hbV
      have he : bkE S S3 := ⟨fun b _ _ => eo b (by omega) (by omega) (by omega) (by omega), by rw [eo 181 (by omega) (by omega) (by omega) (by omega)], by rw [eo 181 (by omega) (by omega) (by omega) (by omega)]⟩
      have e86 : S3 86 = S 86 := eo 86 (by omega) (by omega) (by omega) (by omega)
      have e50 : S3 85 0 = S 85 0 := by rw [e85, up2_rc (by omega)]
      have hit : itV S3 (soC h, r.toNat, k, s) 0 (bgR (soC h, r.toNat, k, s)) := itV_of he ⟨rg_bg hky hB.2.2.2.1, ⟨Int.le_refl _, (hB.2.2.2.1.2.2.2.2 r.toNat (by omega)).1⟩, fun k hk hne => absurd rfl hne⟩
      refine am_aload_n rfl dX3_caseFor_94 ?_
      refine am_iload rfl dX3_caseFor_95 ?_
      refine am_cxv (mm_V1 dX3_caseFor_97 in_X3_keep mk_X3_94 im_X3_keep sl_X3_keep ⟨Nat.le_of_ble_eq_true rfl, Nat.le_of_ble_eq_true rfl⟩ rfl jh.1 (Nat.le_of_ble_eq_true rfl)) (c_keep (X := X) (F := F) (W := W) (c := N0) (pl := 0) (R := bgR (soC h, r.toNat, k, s)) jh hpl hD i1 i2 (by rw [e85, up2_same]; omega) (by rw [i3]; exact ⟨hsb, hit, hbV, hbp.2, by rw [hbp.1]; show r = ((r.toNat : Nat) : Int); omega⟩) (by rw [i3]; exact hX) (by rw [e86]; exact hN8)) (fun M1 hq => ?_)
      obtain ⟨sh2, S2, L2, q1, q2, q3, m, rfl, hpo2, hsz, hxc⟩ := hq
      refine am_iload rfl dX3_caseFor_100 ?_
      refine am_ireturn dX3_caseFor_102 rfl rfl ?_
      have hg := i4 S2 L2 q1 q2 hpo2.2.1 (by rw [i3] at hxc ⊢; exact hxc)
      refine ⟨_, rfl, sh2, S2, L2, q1, q2, q3, m, rfl, ⟨hpo2.1, hg, hpo2.2.2.1, hpo2.2.2.2.1, by rw [← e50]; exact hpo2.2.2.2.2⟩, by rw [e86] at hsz; exact hsz, Or.inr ⟨N0, rfl, ?_, ?_⟩⟩
      · have := hpo2.2.1.2.1.1
        rw [e85, up2_same] at this
        omega
      · rw [gr_key hpo2.2.1 (by rw [e85, up2_same]; omega)]
        exact i3
    · refine am_aload_n rfl dX3_caseFor_38 ?_
      refine mm_iconst dX3_caseFor_39 ?_
      refine mm_putZ dX3_caseFor_40 fp_X3_9 jh.1 rfl (by omega) ?_
      refine mm_iconst dX3_caseFor_43 ?_
      refine am_ireturn dX3_caseFor_44 rfl rfl ?_
      refine ⟨-1, rfl, sh, _, L, p1, p2, p3, n, rfl, po_sp hpl hD hI hS (ov_ca hI hS hn (by omega) hX (fun c hc q => ?_)), by rw [up2_rd (by omega)]; omega, Or.inl ⟨rfl, up2_same _ _ _ _⟩⟩
      have u1 := key_cod hI (by omega) hr hh q
      have u2 := hI.2.2.2.1.2 c (by omega)
      rw [u1, hcod] at u2
      omega
  · refine am_aload_n rfl dX3_caseFor_21 ?_
    refine mm_getR dX3_caseFor_22 fl_X3_35 jh.1 rfl ?_
    refine am_iload rfl dX3_caseFor_25 ?_
    refine mm_ial dX3_caseFor_27 jh.2.2.1 (by omega) ?_
    refine am_ireturn dX3_caseFor_28 rfl rfl ?_
    have u := f1.2.2 (by omega)
    refine ⟨_, rfl, sh, S, L, p1, p2, p3, n, rfl, po_rf hpl hD hI hS, by omega, Or.inr ⟨(S 91 cod.toNat).toNat, by omega, by omega, ?_⟩⟩
    have w := (hI.2.2.1.2 (S 91 cod.toNat).toNat (by omega)).1
    unfold codC at u
    have w1 := w.1
    have w2 := w.2.1
    have w3 := w.2.2.1
    have w4 := w.2.2.2
    unfold keyC
    rw [show S (98 + (S 91 cod.toNat).toNat) 0 = r by omega, show S (98 + (S 91 cod.toNat).toNat) 1 = h by omega, show S (98 + (S 91 cod.toNat).toNat) 2 = k by omega, show S (98 + (S 91 cod.toNat).toNat) 3 = s by omega]
