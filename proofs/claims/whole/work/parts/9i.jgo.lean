/-! ===== a scene goes on ===== -/
theorem ot_1 {X : XT} {F : FT} {W : WT} {S : mm_S} {κ : kyT} {z : Int × Int × rgT} (h : z.1 = 1) : otK X F W S κ z = X κ z.2.1.toNat (pkM z.2.2) := if_pos h
theorem ot_0 {X : XT} {F : FT} {W : WT} {S : mm_S} {κ : kyT} {z : Int × Int × rgT} (h : z.1 = 0) : otK X F W S κ z = enK F W S κ z.2.2 8 := if_neg (by omega)
theorem sim_st {S : mm_S} {κ : kyT} {g : Int × mm_S} {z : Int × Int × rgT} (h : stP S 94 κ g z) (h0 : S 94 0 = κ.2.1) : simP g.2 94 κ ((z.2.1.toNat : Nat) : Int) z.2.2 := by
  obtain ⟨-, -, a3, a4, a5, a6, a7, a8⟩ := h
  have hz := a5.2.1.1
  have e : ((z.2.1.toNat : Nat) : Int) = z.2.1 := by omega
  rw [e]
  exact ⟨a4, itV_of ⟨fun b _ _ => a3 b (by omega), by rw [a3 181 (by omega)], by rw [a3 181 (by omega)]⟩ a5, a6, a8, a7.trans h0⟩
theorem cbF_sc {S S1 : mm_S} (h : scF S S1 94) : cbF S S1 := fun b hb => h b (by omega)
set_option maxRecDepth 100000 in
set_option maxHeartbeats 4000000 in
theorem c_jgoOn {sh : List mm_H} {S : mm_S} {L : mm_L} {p1 p2 p3 n : Nat} (jh : jsH sh) (hpl : plS sh p1 p2 p3 n) (hD : plD p1 p2 p3 n) (hI : imC S L p1 p2 p3 n) {X : XT} {F : FT} {W : WT} (hS : SubC S L p1 X F W) (hb : bkS sh) (hB : cbB S) {c : Nat} (hc : (c : Int) < S 85 1) {pl : Nat} {R : rgT} (hsim : simP S 94 (keyC S c) pl R) (hp : pl < mN S (keyC S c).2.1) (hw : wrR S (keyC S c) pl R = 0) {y : Prop} [Decidable y] (hE : otK X F W S (keyC S c) (nxR S (keyC S c) pl R y)) (hN8 : S 86 0 < 262144) : am_E eX3_goOn [.ref 85, .ref 1, .int (iI (c : Int)), .int (iI (b2 y))] (mm sh S L) (fun r0 M' => r0 = none ∧ ∃ sh' S' L' q1 q2 q3 m, M' = mm sh' S' L' ∧ poC sh S L p1 p2 n X F W sh' S' L' q1 q2 q3 m ∧ S' 86 0 ≤ S 86 0 + 1 ∧ otK (XC S' L' q1) (FC S') (WC S') S (keyC S c) (nxR S (keyC S c) pl R y)) := by
  have h40 := hI.2.2.1.1
  have hc40 : c < 40 := by omega
  have hcs := hI.2.2.1.2 c hc
  have hky := hcs.2.2.2.2.2.1
  have hro := cb_ro hB hky.2.1
  have hr6 := hro.2.2.2.2.1
  have hN := hro.2.2.2.2.2
  have h940 := hsim.2.2.2.2
  have h941 := hsim.2.2.2.1
  have hK := sim_K hB.2.2.1 hB.2.2.2 hsim
  have hroe : 22 + 10 * (keyC S c).2.1 = 22 + 10 * (S 94 0).toNat := by rw [h940, Int.toNat_natCast]
  have hl : S 94 1 < S (22 + 10 * (keyC S c).2.1) 0 := by omega
  refine am_enter rfl rfl (Nat.le_of_ble_eq_true rfl) ?_
  refine am_aload_n rfl dX3_goOn_0 ?_
  refine mm_getR dX3_goOn_1 fl_X3_51 jh.1 rfl ?_
  refine am_aload_n rfl dX3_goOn_4 ?_
  refine am_iload_n rfl dX3_goOn_5 ?_
  refine am_civ (mm_V2 dX3_goOn_6 in_X8_goOn mk_X3_186 im_X8_goOn sl_X8_goOn ⟨Nat.le_of_ble_eq_true rfl, Nat.le_of_ble_eq_true rfl⟩ rfl jh.2.2.2.2.2.1.1 (Nat.le_of_ble_eq_true rfl)) (c_goOn (ro := 22 + 10 * (keyC S c).2.1) (y0 := y) jh.2.2.2.2.2.1 hsim.2.2.1 hK hb hB.1 hroe hro.1 hro.2.1 hl hro.2.2.1 (by omega) (by rw [sim_wr hB.2.2.1 hB.2.2.2 hky hsim hp]; exact hw)) ?_
  have hst := sim_nx (y := y) hB.2.2.1 hB.2.2.2 hky hro.2.2.2.1 (by omega) hsim hp hw
  generalize gnP S 94 (22 + 10 * (keyC S c).2.1) y = gg at *
  have hF1 := hst.2.2.1
  have hpo1 := po_sc (sh := sh) (X := X) (F := F) (W := W) hpl hD hI hS hF1 hst.2.2.2.2.2.1
  have hk1 : keyC gg.2 c = keyC S c := gr_key hpo1.2.1 hc
  have hsim1 := sim_st hst hsim.2.2.2.2
  have hbe := gr_E hpo1.2.1
  have e85 : gg.2 85 = S 85 := hF1 85 (by omega)
  have e86 : gg.2 86 = S 86 := hF1 86 (by omega)
  have hc1 : (c : Int) < gg.2 85 1 := by rw [e85]; exact hc
  have hB1 := cbB_of (cbF_sc hF1) hB
  have h01 := hst.2.1
  have hg1 := hst.1
  generalize nxR S (keyC S c) pl R y = zz at *
  refine mm_zeq (tgt := 20) dX3_goOn_9 (by decide) (by omega) (fun h9 => ?_) (fun h9 => ?_)
  · refine am_aload_n rfl dX3_goOn_20 ?_
    refine am_aload_n rfl dX3_goOn_21 ?_
    refine am_iload_n rfl dX3_goOn_22 ?_
    refine mm_iconst dX3_goOn_23 ?_
    rw [show iI 1 = iI (b2 True) from rfl]
    refine am_cxv (mm_V3 dX3_goOn_24 in_X3_endCase mk_X3_156 im_X3_endCase sl_X3_endCase ⟨Nat.le_of_ble_eq_true rfl, Nat.le_of_ble_eq_true rfl⟩ rfl jh.1 (Nat.le_of_ble_eq_true rfl)) (c_endCase (X := X) (F := F) (W := W) (c := c) (pl := zz.2.1.toNat) (R := zz.2.2) (y := True) (g := 8) jh hpl hD hpo1.2.2.1 hpo1.2.2.2.1 hb hB1 hc1 (by rw [hk1]; exact hsim1) (Or.inl ⟨trivial, rfl⟩) (by rw [hk1, bk_en hbe]; rw [ot_0 (by omega)] at hE; exact hE)) (fun M1 hq => ?_)
    obtain ⟨S2, rfl, hpo2, hsz, hxc⟩ := hq
    refine am_return dX3_goOn_27 rfl ?_
    first
      | (refine ⟨rfl, sh2, S2, L2, q1, q2, q3, m, rfl, po_tr hpo1 hpo2, by rw [e86] at hsz; exact hsz, ?_⟩
         rw [ot_1 (by omega), ← hk1]
         exact hxc)
      | (refine ⟨rfl, sh, S2, L, p1, p2, p3, n, rfl, po_tr hpo1 hpo2, by rw [e86] at hsz; omega, ?_⟩
         rw [ot_0 (by omega), ← hk1, ← bk_en hbe]
         exact hxc)
  · refine am_aload_n rfl dX3_goOn_12 ?_
    refine am_iload_n rfl dX3_goOn_13 ?_
    refine am_cxv (mm_V1 dX3_goOn_14 in_X3_keep mk_X3_94 im_X3_keep sl_X3_keep ⟨Nat.le_of_ble_eq_true rfl, Nat.le_of_ble_eq_true rfl⟩ rfl jh.1 (Nat.le_of_ble_eq_true rfl)) (c_keep (X := X) (F := F) (W := W) (c := c) (pl := zz.2.1.toNat) (R := zz.2.2) jh hpl hD hpo1.2.2.1 hpo1.2.2.2.1 hc1 (by rw [hk1]; exact hsim1) (by rw [hk1]; rw [ot_1 (by omega)] at hE; exact hE) (by rw [e86]; omega)) (fun M1 hq => ?_)
    obtain ⟨sh2, S2, L2, q1, q2, q3, m, rfl, hpo2, hsz, hxc⟩ := hq
    refine am_goto (tgt := 27) dX3_goOn_17 (by decide) ?_
    refine am_return dX3_goOn_27 rfl ?_
    first
      | (refine ⟨rfl, sh2, S2, L2, q1, q2, q3, m, rfl, po_tr hpo1 hpo2, by rw [e86] at hsz; exact hsz, ?_⟩
         rw [ot_1 (by omega), ← hk1]
         exact hxc)
      | (refine ⟨rfl, sh, S2, L, p1, p2, p3, n, rfl, po_tr hpo1 hpo2, by rw [e86] at hsz; omega, ?_⟩
         rw [ot_0 (by omega), ← hk1, ← bk_en hbe]
         exact hxc)
