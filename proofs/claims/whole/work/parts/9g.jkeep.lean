/-! ===== a scene is kept ===== -/
theorem sim_of {S S1 : mm_S} {κ : kyT} {pl : Nat} {R : rgT} (he : bkE S S1) (h4 : S1 94 = S 94) (h5 : S1 (94 + 1) = S (94 + 1)) (h6 : S1 (94 + 2) = S (94 + 2)) (h7 : S1 (94 + 3) = S (94 + 3)) (h : simP S 94 κ pl R) : simP S1 94 κ pl R := by
  obtain ⟨a1, a2, a3, a4, a5⟩ := h
  refine ⟨?_, itV_of he a2, ?_, by rw [h4]; exact a4, by rw [h4]; exact a5⟩
  · unfold scR at *
    rw [h4, h5, h6, h7]
    exact a1
  · unfold scV at *
    rw [h4, h5, h6, h7]
    exact a3
set_option maxRecDepth 100000 in
set_option maxHeartbeats 4000000 in
theorem l_keep {sh : List mm_H} {S : mm_S} {L : mm_L} (jh : jsH sh) {c : Nat} (hc40 : c < 40) (h5 : 0 ≤ S (98 + c) 5 ∧ S (98 + c) 5 < 1000000) {Q : Option Value → am_M → Prop} (kk : ∀ S', S' = up2 (up2 S (98 + c) 5 (S (98 + c) 5 + 1)) 85 0 (if 2000 < S (98 + c) 5 + 1 then 1 else S 85 0) → Q none (mm sh S' L)) : am_AW eX3_keep (mm sh S L) 29 [some (.ref 85), some (.int (iI (c : Int)))] [] Q := by
  refine am_aload_n rfl dX3_keep_29 ?_
  refine mm_getR dX3_keep_30 fl_X3_31 jh.1 rfl ?_
  refine am_iload_n rfl dX3_keep_33 ?_
  refine mm_aal dX3_keep_34 (fun _ => rfl) jh.2.1 ⟨by omega, by omega, by omega⟩ (show caArr _ = some (98 + c) by rw [Int.toNat_natCast]; exact if_pos hc40) ?_
  refine am_dup rfl dX3_keep_35 ?_
  refine mm_getI dX3_keep_36 fl_X3_113 (jh.2.2.2.2.2.2.1 c hc40) rfl ?_
  refine mm_iconst dX3_keep_39 ?_
  refine mm_iadd dX3_keep_40 ?_
  refine mm_putI dX3_keep_41 fp_X3_113 (jh.2.2.2.2.2.2.1 c hc40) rfl ?_
  refine am_aload_n rfl dX3_keep_44 ?_
  refine mm_getR dX3_keep_45 fl_X3_31 jh.1 rfl ?_
  refine am_iload_n rfl dX3_keep_48 ?_
  refine mm_aal dX3_keep_49 (fun _ => rfl) jh.2.1 ⟨by omega, by omega, by omega⟩ (show caArr _ = some (98 + c) by rw [Int.toNat_natCast]; exact if_pos hc40) ?_
  refine mm_getI dX3_keep_50 fl_X3_113 (jh.2.2.2.2.2.2.1 c hc40) rfl ?_
  rw [up2_same]
  refine mm_sipush dX3_keep_53 (by decide) ?_
  refine mm_jle (tgt := 64) dX3_keep_56 (by decide) (by omega) (by omega) (fun h56 => ?_) (fun h56 => ?_)
  · refine am_return dX3_keep_64 rfl ?_
    first
      | (refine kk _ ?_; rw [if_pos (by omega)])
      | (refine kk _ ?_; rw [if_neg (by omega)]; rw [show S 85 0 = up2 S (98 + c) 5 (S (98 + c) 5 + 1) 85 0 from (up2_rd (by omega)).symm, up2_id])
  · refine am_aload_n rfl dX3_keep_59 ?_
    refine mm_iconst dX3_keep_60 ?_
    refine mm_putZ dX3_keep_61 fp_X3_9 jh.1 rfl (by omega) ?_
    refine am_return dX3_keep_64 rfl ?_
    first
      | (refine kk _ ?_; rw [if_pos (by omega)])
      | (refine kk _ ?_; rw [if_neg (by omega)]; rw [show S 85 0 = up2 S (98 + c) 5 (S (98 + c) 5 + 1) 85 0 from (up2_rd (by omega)).symm, up2_id])
set_option maxRecDepth 100000 in
set_option maxHeartbeats 4000000 in
theorem c_keep {sh : List mm_H} {S : mm_S} {L : mm_L} {p1 p2 p3 n : Nat} (jh : jsH sh) (hpl : plS sh p1 p2 p3 n) (hD : plD p1 p2 p3 n) (hI : imC S L p1 p2 p3 n) {X : XT} {F : FT} {W : WT} (hS : SubC S L p1 X F W) {c : Nat} (hc : (c : Int) < S 85 1) {pl : Nat} {R : rgT} (hsim : simP S 94 (keyC S c) pl R) (hX : X (keyC S c) pl (pkM R)) (hN8 : S 86 0 < 262144) : am_E eX3_keep [.ref 85, .int (iI (c : Int))] (mm sh S L) (fun r0 M' => r0 = none ∧ ∃ sh' S' L' q1 q2 q3 m, M' = mm sh' S' L' ∧ poC sh S L p1 p2 n X F W sh' S' L' q1 q2 q3 m ∧ S' 86 0 ≤ S 86 0 + 1 ∧ XC S' L' q1 (keyC S c) pl (pkM R)) := by
  have h40 := hI.2.2.1.1
  have hc40 : c < 40 := by omega
  have hsz := hI.1.1
  obtain ⟨N, hN⟩ : ∃ N : Nat, S 86 0 = N := ⟨(S 86 0).toNat, by omega⟩
  have hT0 : plT S L p1 p3 n N := by
    have := hI.1.2.1
    rw [show (S 86 0).toNat = N by omega] at this
    exact this
  refine am_enter rfl rfl (Nat.le_of_ble_eq_true rfl) ?_
  refine am_aload_n rfl dX3_keep_0 ?_
  refine mm_getR dX3_keep_1 fl_X3_25 jh.1 rfl ?_
  refine am_cxv (mm_V0 dX3_keep_4 in_X5_makeRoom mk_X3_98 im_X5_makeRoom sl_X5_makeRoom ⟨Nat.le_of_ble_eq_true rfl, Nat.le_of_ble_eq_true rfl⟩ rfl hpl.1 (Nat.le_of_ble_eq_true rfl)) (c_plRoom (N := N) hpl hD hT0 hN (by omega) (by omega) (fun i j hi hj q => hI.1.2.2 i j (by omega) (by omega) q) jh.2.2.2.2.2.2.2) (fun M1 hq => ?_)
  obtain ⟨sh1, S1, L1, q1, q2, q3, m, rfl, r1, r2, r3, r4, r5, r6, r7, r8, r9⟩ := hq
  have hN0 : (S 86 0).toNat = N := by omega
  have hpo := po_room (sh := sh) (X := X) (F := F) (W := W) hD hI hS r1 r2 r3 r4 (by rw [hN0]; exact r5) (by rw [hN0]; exact r6) r7 r8 (by rw [hN0]; exact r9)
  obtain ⟨⟨d1, d2, d3⟩, d4, -⟩ := id hD
  have er : ∀ b, b < 87 ∨ (90 ≤ b ∧ b < 223) → S1 b = S b := fun b hb => r7 b (by omega) (by omega) (by omega) (by omega)
  have hk1 : keyC S1 c = keyC S c := gr_key hpo.2.1 hc
  have hsim1 : simP S1 94 (keyC S1 c) pl R := by
    rw [hk1]
    exact sim_of (gr_E hpo.2.1) (er 94 (by omega)) (er (94 + 1) (by omega)) (er (94 + 2) (by omega)) (er (94 + 3) (by omega)) hsim
  have hX1 : X (keyC S1 c) pl (pkM R) := by rw [hk1]; exact hX
  have hI1 := hpo.2.2.1
  have hS1 := hpo.2.2.2.1
  have hc1 : (c : Int) < S1 85 1 := by rw [er 85 (by omega)]; exact hc
  have hN1 : S1 86 0 = N := by rw [er 86 (by omega)]; exact hN
  have jh := jsH_of r1 jh
  have hpl := r2
  have hxr := sc_pkR hsim1.2.2.1
  have hcn := (hI1.2.2.1.2 c hc1).2.2.1
  have hcr := cn_R (L := L1) (p1 := q1) (c := c) N
  have hN1' : (S1 86 0).toNat = N := by omega
  rw [hN1'] at hcn
  have hm9 := plD_n r3
  refine am_aload_n rfl dX3_keep_7 ?_
  refine mm_getR dX3_keep_8 fl_X3_25 jh.1 rfl ?_
  refine am_aload_n rfl dX3_keep_11 ?_
  refine mm_getR dX3_keep_12 fl_X3_51 jh.1 rfl ?_
  refine am_cl (mm_V0 dX3_keep_15 in_X8_pack mk_X3_101 im_X8_pack sl_X8_pack ⟨Nat.le_of_ble_eq_true rfl, Nat.le_of_ble_eq_true rfl⟩ rfl jh.2.2.2.2.2.1.1 (Nat.le_of_ble_eq_true rfl)) (c_pack jh.2.2.2.2.2.1 hsim1.2.2.1) ?_
  refine am_iload_n rfl dX3_keep_18 ?_
  refine am_cl (mm_S2 dX3_keep_19 in_X8_packWithCase mk_X3_105 st_X8_packWithCase ⟨Nat.le_of_ble_eq_true rfl, Nat.le_of_ble_eq_true rfl⟩ (Nat.le_of_ble_eq_true rfl)) (c_packWithCase (p := scPk S1 94) (n := (c : Int)) hxr (by omega)) ?_
  obtain ⟨z, hz⟩ : ∃ z, lI (scPk S1 94 + (c : Int) * 1125899906842624) = z := ⟨_, rfl⟩
  rw [hz]
  have hzi : z.toInt = scPk S1 94 + (c : Int) * 1125899906842624 := by rw [← hz]; exact z_toInt hxr hc40
  refine am_cxi (mm_V1 dX3_keep_22 in_X5_add mk_X3_109 im_X5_add sl_X5_add ⟨Nat.le_of_ble_eq_true rfl, Nat.le_of_ble_eq_true rfl⟩ rfl hpl.1 (Nat.le_of_ble_eq_true rfl)) ((c_plAdd (z := z) hpl r3 r6 hN1 r5).mono (Q' := fun r0 M' => ∃ x, r0 = some (.int x) ∧ ((x = iI 0 ∧ M' = mm sh1 S1 L1 ∧ ∃ i : Nat, i < N ∧ L1 q1 i = z) ∨ (x = iI 1 ∧ (∀ i, i < N → L1 q1 i ≠ z) ∧ ∃ t : Nat, t < 2 * m ∧ M' = mm sh1 (up2 (up2 (up2 S1 q2 N (-1)) 86 0 ((N : Int) + 1)) q3 t ((N : Int) + 1)) (upL L1 q1 N z) ∧ plT (up2 (up2 (up2 S1 q2 N (-1)) 86 0 ((N : Int) + 1)) q3 t ((N : Int) + 1)) (upL L1 q1 N z) q1 q3 m (N + 1)))) (fun r0 M' h => by
    rcases h with ⟨rfl, h2, h3⟩ | ⟨rfl, h2, h3⟩
    · exact ⟨_, rfl, Or.inl ⟨rfl, h2, h3⟩⟩
    · exact ⟨_, rfl, Or.inr ⟨rfl, h2, h3⟩⟩)) (fun x M1 hq => ?_)
  rcases hq with ⟨rfl, rfl, i, hi, hiz⟩ | ⟨rfl, hnew, t, ht, rfl, hT2⟩
  · refine mm_zne (tgt := 29) dX3_keep_25 (by decide) (by omega) (fun h => by exfalso; omega) (fun _ => ?_)
    refine am_return dX3_keep_28 rfl ⟨rfl, sh1, S1, L1, q1, q2, q3, m, rfl, hpo, by omega, ?_⟩
    rw [← hk1]
    exact ⟨i, c, scPk S1 94, by omega, rfl, hc1, by rw [hiz]; exact hzi, hxr, sim_lnk hsim1⟩
  · refine mm_zne (tgt := 29) dX3_keep_25 (by decide) (by omega) (fun _ => ?_) (fun h => by exfalso; omega)
    obtain ⟨⟨t1, t2, t3⟩, t4, -⟩ := id r3
    have g5 : ∀ b j, b ≠ q2 → b ≠ 86 → b ≠ q3 → up2 (up2 (up2 S1 q2 N (-1)) 86 0 ((N : Int) + 1)) q3 t ((N : Int) + 1) b j = S1 b j := fun b j y1 y2 y3 => by rw [up2_rd y3, up2_rd y2, up2_rd y1]
    have g86 : up2 (up2 (up2 S1 q2 N (-1)) 86 0 ((N : Int) + 1)) q3 t ((N : Int) + 1) 86 0 = (N : Int) + 1 := by rw [up2_rd (by omega), up2_same]
    have gq2 : ∀ j, j ≠ N → up2 (up2 (up2 S1 q2 N (-1)) 86 0 ((N : Int) + 1)) q3 t ((N : Int) + 1) q2 j = S1 q2 j := fun j hj => by rw [up2_rd (by omega), up2_rd (by omega), up2_rc hj]
    have gqn : up2 (up2 (up2 S1 q2 N (-1)) 86 0 ((N : Int) + 1)) q3 t ((N : Int) + 1) q2 N = -1 := by rw [up2_rd (by omega), up2_rd (by omega), up2_same]
    generalize up2 (up2 (up2 S1 q2 N (-1)) 86 0 ((N : Int) + 1)) q3 t ((N : Int) + 1) = S2 at *
    have h25 := g5 (98 + c) 5 (by omega) (by omega) (by omega)
    have h285 := g5 85 0 (by omega) (by omega) (by omega)
    refine l_keep jh hc40 (by omega) (fun S' hS' => ?_)
    have v1 : ∀ b, b ≠ 85 → b ≠ 98 + c → S' b = S2 b := fun b y1 y2 => by rw [hS', up2_row y1, up2_row y2]
    have key := po_ad (S' := S') (N := N) hpl r3 hI1 hS1 hN1 r5 hc1 hsim1 hX1 hz.symm hnew (tb_congr hT2 (fun y hy => by rw [v1 q3 (by omega) (by omega)]) (fun _ _ => rfl)) (fun b y1 y2 y3 y4 y5 => by rw [v1 b y3 y5]; funext j; exact g5 b j y1 y4 y2) (fun j hj => by rw [v1 q2 (by omega) (by omega)]; exact gq2 j hj) (by rw [v1 q2 (by omega) (by omega)]; exact gqn) (by rw [v1 86 (by omega) (by omega)]; exact g86) (fun j hj => by rw [hS', up2_rd (by omega), up2_rc hj]; exact g5 (98 + c) j (by omega) (by omega) (by omega)) (by rw [hS', up2_rd (by omega), up2_same, h25]) (fun j hj => by rw [hS', up2_rc hj, up2_rd (by omega)]; exact g5 85 j (by omega) (by omega) (by omega)) (by rw [hS', up2_same, h25, h285])
    refine ⟨rfl, sh1, S', _, q1, q2, q3, m, rfl, po_tr hpo key.1, by rw [v1 86 (by omega) (by omega)]; omega, ?_⟩
    rw [← hk1]
    exact key.2
