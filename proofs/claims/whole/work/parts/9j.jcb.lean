/-! ===== back from a call ===== -/
set_option maxRecDepth 100000 in
set_option maxHeartbeats 4000000 in
theorem l_jcb {sh : List mm_H} {S : mm_S} {L : mm_L} {p1 p2 p3 n : Nat} (jh : jsH sh) (hpl : plS sh p1 p2 p3 n) (hD : plD p1 p2 p3 n) (hI : imC S L p1 p2 p3 n) {X : XT} {F : FT} {W : WT} (hS : SubC S L p1 X F W) (hb : bkS sh) (hB : cbB S) {c : Nat} (hc : (c : Int) < S 85 1) {pl : Nat} {R : rgT} (hsim : simP S 94 (keyC S c) pl R) (hp : pl < mN S (keyC S c).2.1) (hx : mSo S (keyC S c).2.1 pl = 10 ∨ mSo S (keyC S c).2.1 pl = 11) (hw : wrR S (keyC S c) pl R = 0) {b : Nat} (hb16 : b < 16) (hq8 : mSo S (keyC S c).2.1 pl = 10 → 0 ≤ ((b % 8 : Nat) : Int) ∧ ((b % 8 : Nat) : Int) < S 182 (cdR (keyC S c).2.2.1 R (R.1 (mBb S (keyC S c).2.1 pl).toNat) / 7).toNat) (hE : otK X F W S (keyC S c) (cbR S (keyC S c) pl R (8 ≤ b) ((b % 8 : Nat) : Int))) (hN8 : S 86 0 < 262144) {l2 l4 : Option Value} {Q : Option Value → am_M → Prop} (kk : ∀ sh' S' L' q1 q2 q3 m, poC sh S L p1 p2 n X F W sh' S' L' q1 q2 q3 m → S' 86 0 ≤ S 86 0 + 1 → otK (XC S' L' q1) (FC S') (WC S') S (keyC S c) (cbR S (keyC S c) pl R (8 ≤ b) ((b % 8 : Nat) : Int)) → Q none (mm sh' S' L')) : am_AW eX3_comeBack (mm sh S L) 24 [some (.ref 85), some (.ref 1), l2, some (.int (iI (b : Int))), l4, none, some (.int (iI (c : Int)))] [] Q := by
  have h40 := hI.2.2.1.1
  have hc40 : c < 40 := by omega
  have hcs := hI.2.2.1.2 c hc
  have hky := hcs.2.2.2.2.2.1
  have hro := cb_ro hB hky.2.1
  have hr6 := hro.2.2.2.2.1
  have hN := hro.2.2.2.2.2
  have h940 := hsim.2.2.2.2
  have h941 := hsim.2.2.2.1
  have hK := sim_K hB.2.2.1 hB.2.2.2 hsim
  have hroe : 22 + 10 * (keyC S c).2.1 = 22 + 10 * (S 94 0).toNat := by rw [h940, Int.toNat_natCast]
  have hl : S 94 1 < S (22 + 10 * (keyC S c).2.1) 0 := by omega
  refine am_aload_n rfl dX3_comeBack_24 ?_
  refine mm_getR dX3_comeBack_25 fl_X3_51 jh.1 rfl ?_
  refine am_aload_n rfl dX3_comeBack_28 ?_
  refine am_iload_n rfl dX3_comeBack_29 ?_
  refine mm_bipush dX3_comeBack_30 (by decide) ?_
  refine mm_jlt (tgt := 39) dX3_comeBack_32 (by decide) (by omega) (by omega) (fun h32 => ?_) (fun h32 => ?_)
  · refine mm_iconst dX3_comeBack_39 ?_
    first
      | rw [show iI 1 = iI (b2 (8 ≤ b)) from congrArg iI (b2_t (by omega)).symm]
      | rw [show iI 0 = iI (b2 (8 ≤ b)) from congrArg iI (b2_f (by omega)).symm]
    refine am_iload_n rfl dX3_comeBack_40 ?_
    refine mm_bipush dX3_comeBack_41 (by decide) ?_
    refine mm_irem dX3_comeBack_43 (by omega) (by omega) ?_
    rw [show (b : Int) % 8 = ((b % 8 : Nat) : Int) by omega]
    refine am_civ (mm_V3 dX3_comeBack_44 in_X8_comeBack mk_X3_214 im_X8_comeBack sl_X8_comeBack ⟨Nat.le_of_ble_eq_true rfl, Nat.le_of_ble_eq_true rfl⟩ rfl jh.2.2.2.2.2.1.1 (Nat.le_of_ble_eq_true rfl)) (c_comeBack (ro := 22 + 10 * (keyC S c).2.1) (f := 8 ≤ b) (q := ((b % 8 : Nat) : Int)) jh.2.2.2.2.2.1 hsim.2.2.1 hK hb hB.1 hroe hro.1 hro.2.1 hl hro.2.2.1 (by omega) (by rw [h941, Int.toNat_natCast, (hro.2.2.2.1.1 pl hp)]; exact hx)) ?_
    have hst := sim_cb (f := 8 ≤ b) (q := ((b % 8 : Nat) : Int)) hB.2.2.1 hB.2.2.2 hky hro.2.2.2.1 (by omega) hsim hp hx hw hq8
    generalize cbP S 94 (22 + 10 * (keyC S c).2.1) (8 ≤ b) ((b % 8 : Nat) : Int) = gg at *
    have hF1 := hst.2.2.1
    have hpo1 := po_sc (sh := sh) (X := X) (F := F) (W := W) hpl hD hI hS hF1 hst.2.2.2.2.2.1
    have hk1 : keyC gg.2 c = keyC S c := gr_key hpo1.2.1 hc
    have hsim1 := sim_st hst hsim.2.2.2.2
    have hbe := gr_E hpo1.2.1
    have e85 : gg.2 85 = S 85 := hF1 85 (by omega)
    have e86 : gg.2 86 = S 86 := hF1 86 (by omega)
    have hc1 : (c : Int) < gg.2 85 1 := by rw [e85]; exact hc
    have hB1 := cbB_of (cbF_sc hF1) hB
    have h01 := hst.2.1
    have hg1 := hst.1
    generalize cbR S (keyC S c) pl R (8 ≤ b) ((b % 8 : Nat) : Int) = zz at *
    refine mm_zeq (tgt := 59) dX3_comeBack_47 (by decide) (by omega) (fun h47 => ?_) (fun h47 => ?_)
    · refine am_aload_n rfl dX3_comeBack_59 ?_
      refine am_aload_n rfl dX3_comeBack_60 ?_
      refine am_iload rfl dX3_comeBack_61 ?_
      refine mm_iconst dX3_comeBack_63 ?_
      rw [show iI 1 = iI (b2 True) from rfl]
      refine am_cxv (mm_V3 dX3_comeBack_64 in_X3_endCase mk_X3_156 im_X3_endCase sl_X3_endCase ⟨Nat.le_of_ble_eq_true rfl, Nat.le_of_ble_eq_true rfl⟩ rfl jh.1 (Nat.le_of_ble_eq_true rfl)) (c_endCase (X := X) (F := F) (W := W) (c := c) (pl := zz.2.1.toNat) (R := zz.2.2) (y := True) (g := 8) jh hpl hD hpo1.2.2.1 hpo1.2.2.2.1 hb hB1 hc1 (by rw [hk1]; exact hsim1) (Or.inl ⟨trivial, rfl⟩) (by rw [hk1, bk_en hbe]; rw [ot_0 (by omega)] at hE; exact hE)) (fun M1 hq => ?_)
      obtain ⟨S2, rfl, hpo2, hsz, hxc⟩ := hq
      refine am_return dX3_comeBack_67 rfl ?_
      first
        | (refine kk sh2 S2 L2 q1 q2 q3 m (po_tr hpo1 hpo2) (by rw [e86] at hsz; exact hsz) ?_
           rw [ot_1 (by omega), ← hk1]
           exact hxc)
        | (refine kk sh S2 L p1 p2 p3 n (po_tr hpo1 hpo2) (by rw [e86] at hsz; omega) ?_
           rw [ot_0 (by omega), ← hk1, ← bk_en hbe]
           exact hxc)
    · refine am_aload_n rfl dX3_comeBack_50 ?_
      refine am_iload rfl dX3_comeBack_51 ?_
      refine am_cxv (mm_V1 dX3_comeBack_53 in_X3_keep mk_X3_94 im_X3_keep sl_X3_keep ⟨Nat.le_of_ble_eq_true rfl, Nat.le_of_ble_eq_true rfl⟩ rfl jh.1 (Nat.le_of_ble_eq_true rfl)) (c_keep (X := X) (F := F) (W := W) (c := c) (pl := zz.2.1.toNat) (R := zz.2.2) jh hpl hD hpo1.2.2.1 hpo1.2.2.2.1 hc1 (by rw [hk1]; exact hsim1) (by rw [hk1]; rw [ot_1 (by omega)] at hE; exact hE) (by rw [e86]; omega)) (fun M1 hq => ?_)
      obtain ⟨sh2, S2, L2, q1, q2, q3, m, rfl, hpo2, hsz, hxc⟩ := hq
      refine am_goto (tgt := 67) dX3_comeBack_56 (by decide) ?_
      refine am_return dX3_comeBack_67 rfl ?_
      first
        | (refine kk sh2 S2 L2 q1 q2 q3 m (po_tr hpo1 hpo2) (by rw [e86] at hsz; exact hsz) ?_
           rw [ot_1 (by omega), ← hk1]
           exact hxc)
        | (refine kk sh S2 L p1 p2 p3 n (po_tr hpo1 hpo2) (by rw [e86] at hsz; omega) ?_
           rw [ot_0 (by omega), ← hk1, ← bk_en hbe]
           exact hxc)
  · refine mm_iconst dX3_comeBack_35 ?_
    refine am_goto (tgt := 40) dX3_comeBack_36 (by decide) ?_
    first
      | rw [show iI 1 = iI (b2 (8 ≤ b)) from congrArg iI (b2_t (by omega)).symm]
      | rw [show iI 0 = iI (b2 (8 ≤ b)) from congrArg iI (b2_f (by omega)).symm]
    refine am_iload_n rfl dX3_comeBack_40 ?_
    refine mm_bipush dX3_comeBack_41 (by decide) ?_
    refine mm_irem dX3_comeBack_43 (by omega) (by omega) ?_
    rw [show (b : Int) % 8 = ((b % 8 : Nat) : Int) by omega]
    refine am_civ (mm_V3 dX3_comeBack_44 in_X8_comeBack mk_X3_214 im_X8_comeBack sl_X8_comeBack ⟨Nat.le_of_ble_eq_true rfl, Nat.le_of_ble_eq_true rfl⟩ rfl jh.2.2.2.2.2.1.1 (Nat.le_of_ble_eq_true rfl)) (c_comeBack (ro := 22 + 10 * (keyC S c).2.1) (f := 8 ≤ b) (q := ((b % 8 : Nat) : Int)) jh.2.2.2.2.2.1 hsim.2.2.1 hK hb hB.1 hroe hro.1 hro.2.1 hl hro.2.2.1 (by omega) (by rw [h941, Int.toNat_natCast, (hro.2.2.2.1.1 pl hp)]; exact hx)) ?_
    have hst := sim_cb (f := 8 ≤ b) (q := ((b % 8 : Nat) : Int)) hB.2.2.1 hB.2.2.2 hky hro.2.2.2.1 (by omega) hsim hp hx hw hq8
    generalize cbP S 94 (22 + 10 * (keyC S c).2.1) (8 ≤ b) ((b % 8 : Nat) : Int) = gg at *
    have hF1 := hst.2.2.1
    have hpo1 := po_sc (sh := sh) (X := X) (F := F) (W := W) hpl hD hI hS hF1 hst.2.2.2.2.2.1
    have hk1 : keyC gg.2 c = keyC S c := gr_key hpo1.2.1 hc
    have hsim1 := sim_st hst hsim.2.2.2.2
    have hbe := gr_E hpo1.2.1
    have e85 : gg.2 85 = S 85 := hF1 85 (by omega)
    have e86 : gg.2 86 = S 86 := hF1 86 (by omega)
    have hc1 : (c : Int) < gg.2 85 1 := by rw [e85]; exact hc
    have hB1 := cbB_of (cbF_sc hF1) hB
    have h01 := hst.2.1
    have hg1 := hst.1
    generalize cbR S (keyC S c) pl R (8 ≤ b) ((b % 8 : Nat) : Int) = zz at *
    refine mm_zeq (tgt := 59) dX3_comeBack_47 (by decide) (by omega) (fun h47 => ?_) (fun h47 => ?_)
    · refine am_aload_n rfl dX3_comeBack_59 ?_
      refine am_aload_n rfl dX3_comeBack_60 ?_
      refine am_iload rfl dX3_comeBack_61 ?_
      refine mm_iconst dX3_comeBack_63 ?_
      rw [show iI 1 = iI (b2 True) from rfl]
      refine am_cxv (mm_V3 dX3_comeBack_64 in_X3_endCase mk_X3_156 im_X3_endCase sl_X3_endCase ⟨Nat.le_of_ble_eq_true rfl, Nat.le_of_ble_eq_true rfl⟩ rfl jh.1 (Nat.le_of_ble_eq_true rfl)) (c_endCase (X := X) (F := F) (W := W) (c := c) (pl := zz.2.1.toNat) (R := zz.2.2) (y := True) (g := 8) jh hpl hD hpo1.2.2.1 hpo1.2.2.2.1 hb hB1 hc1 (by rw [hk1]; exact hsim1) (Or.inl ⟨trivial, rfl⟩) (by rw [hk1, bk_en hbe]; rw [ot_0 (by omega)] at hE; exact hE)) (fun M1 hq => ?_)
      obtain ⟨S2, rfl, hpo2, hsz, hxc⟩ := hq
      refine am_return dX3_comeBack_67 rfl ?_
      first
        | (refine kk sh2 S2 L2 q1 q2 q3 m (po_tr hpo1 hpo2) (by rw [e86] at hsz; exact hsz) ?_
           rw [ot_1 (by omega), ← hk1]
           exact hxc)
        | (refine kk sh S2 L p1 p2 p3 n (po_tr hpo1 hpo2) (by rw [e86] at hsz; omega) ?_
           rw [ot_0 (by omega), ← hk1, ← bk_en hbe]
           exact hxc)
    · refine am_aload_n rfl dX3_comeBack_50 ?_
      refine am_iload rfl dX3_comeBack_51 ?_
      refine am_cxv (mm_V1 dX3_comeBack_53 in_X3_keep mk_X3_94 im_X3_keep sl_X3_keep ⟨Nat.le_of_ble_eq_true rfl, Nat.le_of_ble_eq_true rfl⟩ rfl jh.1 (Nat.le_of_ble_eq_true rfl)) (c_keep (X := X) (F := F) (W := W) (c := c) (pl := zz.2.1.toNat) (R := zz.2.2) jh hpl hD hpo1.2.2.1 hpo1.2.2.2.1 hc1 (by rw [hk1]; exact hsim1) (by rw [hk1]; rw [ot_1 (by omega)] at hE; exact hE) (by rw [e86]; omega)) (fun M1 hq => ?_)
      obtain ⟨sh2, S2, L2, q1, q2, q3, m, rfl, hpo2, hsz, hxc⟩ := hq
      refine am_goto (tgt := 67) dX3_comeBack_56 (by decide) ?_
      refine am_return dX3_comeBack_67 rfl ?_
      first
        | (refine kk sh2 S2 L2 q1 q2 q3 m (po_tr hpo1 hpo2) (by rw [e86] at hsz; exact hsz) ?_
           rw [ot_1 (by omega), ← hk1]
           exact hxc)
        | (refine kk sh S2 L p1 p2 p3 n (po_tr hpo1 hpo2) (by rw [e86] at hsz; omega) ?_
           rw [ot_0 (by omega), ← hk1, ← bk_en hbe]
           exact hxc)
