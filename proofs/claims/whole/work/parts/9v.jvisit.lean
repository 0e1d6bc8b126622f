/-! ===== a scene is visited ===== -/
theorem wr_R {S : mm_S} {κ : kyT} {pl : Nat} {R : rgT} : 0 ≤ wrR S κ pl R ∧ wrR S κ pl R ≤ 5 := by
  have hi : ∀ p : Prop, 0 ≤ ifP p 5 0 ∧ ifP p 5 0 ≤ 5 := fun p => by
    rcases Classical.em p with h | h
    · rw [ifP_t h]; omega
    · rw [ifP_f h]; omega
  have ha : ∀ k t, 0 ≤ agR k R t ∧ agR k R t ≤ 2 := fun k t => by
    unfold agR
    split
    · omega
    · split <;> omega
  unfold wrR
  split
  · have := ha κ.2.2.1 (R.1 (mAa S κ.2.1 pl).toNat)
    split
    · omega
    · split <;> omega
  · split
    · have := ha κ.2.2.1 (R.1 (mBb S κ.2.1 pl).toNat)
      split
      · omega
      · split <;> omega
    · split
      · exact hi _
      · split
        · exact hi _
        · omega
set_option maxRecDepth 100000 in
set_option maxHeartbeats 4000000 in
theorem l_visit {sh : List mm_H} {S : mm_S} {L : mm_L} {p1 p2 p3 n : Nat} (jh : jsH sh) (hpl : plS sh p1 p2 p3 n) (hD : plD p1 p2 p3 n) (hI : imC S L p1 p2 p3 n) {X : XT} {F : FT} {W : WT} (hS : SubC S L p1 X F W) (hb : bkS sh) (hB : cbB S) {c : Nat} (hc : (c : Int) < S 85 1) {i : Nat} {x : Int} {pl : Nat} {p : Int} (hi : (i : Int) < S 86 0) (hen : enC S L p1 i c x pl p) (hsim : simP S 94 (keyC S c) pl (unM p)) (hn : inC S L p1) (hE : foK X F W S (keyC S c) pl (unM p)) (hN8 : S 86 0 + 2 < 262144) {Q : Option Value → am_M → Prop} (kk : ∀ (v : Int) sh' S' L' q1 q2 q3 m, S' 86 0 ≤ S 86 0 + 2 → ((v = -1 ∧ poC sh S L p1 p2 n X F W sh' S' L' q1 q2 q3 m ∧ (S' 85 0 = 1 ∨ (¬ rcC S (keyC S c) pl (unM p) ∧ foN (XC S' L' q1) (FC S') (WC S') S (keyC S c) pl (unM p)))) ∨ (rcC S (keyC S c) pl (unM p) ∧ ∃ (a : Nat) (S1 : mm_S), v = a ∧ (a : Int) < S1 85 1 ∧ keyC S1 a = clK S (keyC S c) pl (unM p) ∧ poC sh S L p1 p2 n X F W sh' S1 L' q1 q2 q3 m ∧ ntC S1 S' q2 i a)) → Q (some (.int (iI v))) (mm sh' S' L')) : am_AW eX3_visit (mm sh S L) 21 [some (.ref 85), some (.ref 1), some (.int (iI (i : Int))), some (.long (lI (x + (c : Int) * 1125899906842624))), none, some (.int (iI (c : Int))), none, none, none] [] Q := by
  have h40 := hI.2.2.1.1
  have hc40 : c < 40 := by omega
  have hcs := hI.2.2.1.2 c hc
  have hky := hcs.2.2.2.2.2.1
  have hro := cb_ro hB hky.2.1
  have hr6 := hro.2.2.2.2.1
  have hN := hro.2.2.2.2.2
  have h940 := hsim.2.2.2.2
  have h941 := hsim.2.2.2.1
  have hK := sim_K hB.2.2.1 hB.2.2.2 hsim
  have hroe : 22 + 10 * (keyC S c).2.1 = 22 + 10 * (S 94 0).toNat := by rw [h940, Int.toNat_natCast]
  have hple : pl ≤ mN S (keyC S c).2.1 := by have := hsim.2.1.2.1.2; unfold mN; omega
  obtain ⟨hr0, hr1, hr2, hr3, -⟩ := hb.2.2.2.2 (keyC S c).2.1 hr6
  obtain ⟨hB1, hB2, hB3, hB4, hB5⟩ := id hb
  have hwR := wr_R (S := S) (κ := keyC S c) (pl := pl) (R := unM p)
  have hszn := hI.1.1
  have hxr := hen.2.2.1
  refine am_aload_n rfl dX3_visit_21 ?_
  refine mm_getR dX3_visit_22 fl_X3_141 hB1 rfl ?_
  refine am_aload_n rfl dX3_visit_25 ?_
  refine mm_getR dX3_visit_26 fl_X3_51 jh.1 rfl ?_
  refine mm_getI dX3_visit_29 fl_X3_147 jh.2.2.2.2.2.1.1 rfl ?_
  refine mm_aal dX3_visit_32 (fun _ => rfl) hB3 ⟨by omega, by omega, by omega⟩ (show rArr _ = some (22 + 10 * (keyC S c).2.1) by rw [h940, Int.toNat_natCast]; exact rArr_at hr6) ?_
  refine am_ast6 dX3_visit_33 (Nat.le_of_ble_eq_true rfl) (am_c1i _) ?_
  refine am_aload_n rfl dX3_visit_35 ?_
  refine mm_getR dX3_visit_36 fl_X3_51 jh.1 rfl ?_
  refine mm_getI dX3_visit_39 fl_X3_148 jh.2.2.2.2.2.1.1 rfl ?_
  rw [h941]
  refine am_aload rfl dX3_visit_42 ?_
  refine mm_getI dX3_visit_44 fl_X3_151 hr0 rfl ?_
  rw [← hN.1]
  refine mm_jlt (tgt := 60) dX3_visit_47 (by decide) (by omega) (by omega) (fun h47 => ?_) (fun h47 => ?_)
  · have hp : pl < mN S (keyC S c).2.1 := by omega
    have hl : S 94 1 < S (22 + 10 * (keyC S c).2.1) 0 := by omega
    obtain ⟨eS, eA, eB⟩ := (br_rt hB.2.2.1 hky.2.1).2 pl hp
    have hwah := sim_wr hB.2.2.1 hB.2.2.2 hky hsim hp
    have hso := hB.2.2.2.2.2.2 (keyC S c).2.1 hky.2.1
    refine am_aload_n rfl dX3_visit_60 ?_
    refine mm_getR dX3_visit_61 fl_X3_51 jh.1 rfl ?_
    refine am_aload_n rfl dX3_visit_64 ?_
    refine am_ci (mm_V1 dX3_visit_65 in_X8_wrongAhead mk_X3_160 im_X8_wrongAhead sl_X8_wrongAhead ⟨Nat.le_of_ble_eq_true rfl, Nat.le_of_ble_eq_true rfl⟩ rfl jh.2.2.2.2.2.1.1 (Nat.le_of_ble_eq_true rfl)) (c_wrongAhead (ro := 22 + 10 * (keyC S c).2.1) jh.2.2.2.2.2.1 hsim.2.2.1 hK hb hB.1 hroe hro.1 hro.2.1 hl) ?_
    rw [hwah]
    refine am_ist7 dX3_visit_68 (Nat.le_of_ble_eq_true rfl) (am_c1r _) ?_
    refine am_iload rfl dX3_visit_70 ?_
    refine mm_zeq (tgt := 97) dX3_visit_72 (by decide) (by omega) (fun h72 => ?_) (fun h72 => ?_)
    · refine am_aload rfl dX3_visit_97 ?_
      refine mm_getR dX3_visit_99 fl_X3_168 hr0 rfl ?_
      refine am_aload_n rfl dX3_visit_102 ?_
      refine mm_getR dX3_visit_103 fl_X3_51 jh.1 rfl ?_
      refine mm_getI dX3_visit_106 fl_X3_148 jh.2.2.2.2.2.1.1 rfl ?_
      rw [h941]
      refine mm_ial dX3_visit_109 hr1 (by omega) ?_
      rw [Int.toNat_natCast, eS]
      refine am_ci (mm_SN1 dX3_visit_110 in_X9_isCall mk_X3_171 st_X9_isCall ⟨Nat.le_of_ble_eq_true rfl, Nat.le_of_ble_eq_true rfl⟩ (Nat.le_of_ble_eq_true rfl)) (c_isCall (x := mSo S (keyC S c).2.1 pl) (by have := (hro.2.1.2.2.2.2 pl).1; rw [eS] at this; omega)) ?_
      refine mm_beq (tgt := 124) dX3_visit_113 (by decide) (fun h113 => ?_) (fun h113 => ?_)
      · refine am_aload_n rfl dX3_visit_124 ?_
        refine mm_getR dX3_visit_125 fl_X3_51 jh.1 rfl ?_
        refine am_aload_n rfl dX3_visit_128 ?_
        refine am_cxi (mm_V1 dX3_visit_129 in_X8_asksAhead mk_X3_179 im_X8_asksAhead sl_X8_asksAhead ⟨Nat.le_of_ble_eq_true rfl, Nat.le_of_ble_eq_true rfl⟩ rfl jh.2.2.2.2.2.1.1 (Nat.le_of_ble_eq_true rfl)) (c_asksAhead (ro := 22 + 10 * (keyC S c).2.1) jh.2.2.2.2.2.1 hsim.2.2.1 hK hb hB.1 hroe hro.1 hro.2.1 hl (by rw [hwah]; exact h72)) (fun aw M1 hq => ?_)
        obtain ⟨av, rfl, hte, rfl⟩ := hq
        have hav := tells_01 hte
        have hte := tells_iff hte (sim_as hB.2.2.1 hB.2.2.2 hky hsim hp h72)
        refine am_ist8 dX3_visit_132 (Nat.le_of_ble_eq_true rfl) (am_c1i _) ?_
        refine am_aload_n rfl dX3_visit_134 ?_
        refine am_aload_n rfl dX3_visit_135 ?_
        refine am_iload rfl dX3_visit_136 ?_
        refine mm_iconst dX3_visit_138 ?_
        rw [show iI 1 = iI (b2 True) from rfl]
        refine am_cxv (mm_V3 dX3_visit_139 in_X3_goOn mk_X3_183 im_X3_goOn sl_X3_goOn ⟨Nat.le_of_ble_eq_true rfl, Nat.le_of_ble_eq_true rfl⟩ rfl jh.1 (Nat.le_of_ble_eq_true rfl)) (c_jgoOn (X := X) (F := F) (W := W) (c := c) (pl := pl) (R := unM p) (y := True) jh hpl hD hI hS hb hB hc hsim hp h72 ((hE.2 hp).2.2 h72 h113).1 (by omega)) (fun M1 hq => ?_)
        obtain ⟨sh2, S2, L2, q1, q2, q3, m, rfl, hpo2, hsz2, hx2⟩ := hq
        refine am_iload rfl dX3_visit_142 ?_
        refine mm_zne (tgt := 149) dX3_visit_144 (by decide) (by omega) (fun h144 => ?_) (fun h144 => ?_)
        · have hk2 : keyC S2 c = keyC S c := gr_key hpo2.2.1 hc
          have hbe2 := gr_E hpo2.2.1
          have hen2 := gr_en hpo2.2.1 hi hen
          have hit2 : itV S2 (keyC S2 c) pl (unM p) := by rw [hk2]; exact itV_of hbe2 hsim.2.1
          have jh2 := jsH_of hpo2.1.1 jh
          have hb2 := bkS_of hpo2.1.1 jh.2.2.2.2.2.2.2 hb
          have hB2 := cbB_of (gr_cb hpo2.2.1) hB
          have hasr := tells_t hte (by omega)
          refine am_aload_n rfl dX3_visit_149 ?_
          refine am_lload_n rfl dX3_visit_150 ?_
          refine am_cxv (mm_V1 dX3_visit_151 in_X3_load mk_X3_138 im_X3_load sl_X3_load ⟨Nat.le_of_ble_eq_true rfl, Nat.le_of_ble_eq_true rfl⟩ rfl jh2.1 (Nat.le_of_ble_eq_true rfl)) (c_load (X := X) (F := F) (W := W) (i := i) jh2 hpo2.1.2.1 hpo2.1.2.2.1 hpo2.2.2.1 hpo2.2.2.2.1 hen2 hit2) (fun M1 hq => ?_)
          obtain ⟨S3, rfl, hF3, hsim3⟩ := hq
          have hpo3 := po_sc (sh := sh2) (X := X) (F := F) (W := W) hpo2.1.2.1 hpo2.1.2.2.1 hpo2.2.2.1 hpo2.2.2.2.1 hF3 hsim3.2.2.1
          have hpo23 := po_tr hpo2 hpo3
          have hk3 : keyC S3 c = keyC S2 c := gr_key hpo3.2.1 hen2.1
          have hbe3 := gr_E hpo23.2.1
          have hB3 := cbB_of (cbF_sc hF3) hB2
          have e386 : S3 86 = S2 86 := hF3 86 (by omega)
          have e385 : S3 85 = S2 85 := hF3 85 (by omega)
          have hk31 : keyC S3 c = keyC S c := hk3.trans hk2
          have hc2 := hen2.1
          refine am_aload_n rfl dX3_visit_154 ?_
          refine am_aload_n rfl dX3_visit_155 ?_
          refine am_iload rfl dX3_visit_156 ?_
          refine mm_iconst dX3_visit_158 ?_
          rw [show iI 0 = iI (b2 False) from rfl]
          refine am_cxv (mm_V3 dX3_visit_159 in_X3_goOn mk_X3_183 im_X3_goOn sl_X3_goOn ⟨Nat.le_of_ble_eq_true rfl, Nat.le_of_ble_eq_true rfl⟩ rfl jh2.1 (Nat.le_of_ble_eq_true rfl)) (c_jgoOn (X := X) (F := F) (W := W) (c := c) (pl := pl) (R := unM p) (y := False) jh2 hpo2.1.2.1 hpo2.1.2.2.1 hpo3.2.2.1 hpo3.2.2.2.1 hb2 hB3 (by rw [e385]; exact hc2) (by rw [hk3]; exact hsim3) (by rw [hk31, bk_N hbe3]; exact hp) (by rw [hk31, bk_wr hbe3]; exact h72) (by rw [hk31, bk_otK hbe3, bk_nx hbe3]; exact ((hE.2 hp).2.2 h72 h113).2 hasr) (by rw [e386]; omega)) (fun M1 hq => ?_)
          obtain ⟨sh4, S4, L4, t1, t2, t3, m4, rfl, hpo4, hsz4, hx4⟩ := hq
          rw [hk31, bk_otK hbe3, bk_nx hbe3] at hx4
          rw [e386] at hsz4
          have hpo24 := po_tr hpo3 hpo4
          refine mm_iconst dX3_visit_162 ?_
          refine am_ireturn dX3_visit_163 rfl rfl ?_
          exact kk (-1) sh4 S4 L4 t1 t2 t3 m4 (by omega) (Or.inl ⟨rfl, po_tr hpo2 hpo24, Or.inr ⟨fun q => h113 q.2.1, fun e => by omega, fun _ => ⟨fun z => absurd h72 z, fun _ _ => ⟨otK_mono (gr_X hpo24.2.1) (gr_F hpo24.2.1) (fun r pl => gr_W hpo24.2.1 r pl 5) hx2, fun _ => hx4⟩⟩⟩⟩)
        · refine mm_iconst dX3_visit_147 ?_
          refine am_ireturn dX3_visit_148 rfl rfl ?_
          exact kk (-1) sh2 S2 L2 q1 q2 q3 m (by omega) (Or.inl ⟨rfl, hpo2, Or.inr ⟨fun q => h113 q.2.1, fun e => by omega, fun _ => ⟨fun z => absurd h72 z, fun _ _ => ⟨hx2, fun z => absurd z (tells_f hte (by omega))⟩⟩⟩⟩)
      · refine am_aload_n rfl dX3_visit_116 ?_
        refine am_aload rfl dX3_visit_117 ?_
        refine am_iload_n rfl dX3_visit_119 ?_
        refine am_cxI (mm_V2 dX3_visit_120 in_X3_callFrom mk_X3_175 im_X3_callFrom sl_X3_callFrom ⟨Nat.le_of_ble_eq_true rfl, Nat.le_of_ble_eq_true rfl⟩ rfl jh.1 (Nat.le_of_ble_eq_true rfl)) (c_callFrom (X := X) (F := F) (W := W) (c := c) (i := i) (pl := pl) (R := unM p) jh hpl hD hI hS hb hB hc hi hsim ⟨hp, h113, h72⟩ hn ((hE.2 hp).2.1 h72 h113).1 (by omega)) (fun v M1 hq => ?_)
        obtain ⟨sh2, S2, L2, q1, q2, q3, m, rfl, hsz, hv⟩ := hq
        refine am_ireturn dX3_visit_123 rfl rfl ?_
        refine kk v sh2 S2 L2 q1 q2 q3 m (by omega) ?_
        rcases hv with ⟨e1, e2, e3⟩ | z
        · exact Or.inl ⟨e1, e3, Or.inl e2⟩
        · exact Or.inr ⟨⟨hp, h113, h72⟩, z⟩
    · refine am_aload_n rfl dX3_visit_75 ?_
      refine am_aload_n rfl dX3_visit_76 ?_
      refine mm_getR dX3_visit_77 fl_X3_51 jh.1 rfl ?_
      refine mm_getI dX3_visit_80 fl_X3_147 jh.2.2.2.2.2.1.1 rfl ?_
      rw [h940]
      refine am_aload_n rfl dX3_visit_83 ?_
      refine mm_getR dX3_visit_84 fl_X3_51 jh.1 rfl ?_
      refine mm_getI dX3_visit_87 fl_X3_148 jh.2.2.2.2.2.1.1 rfl ?_
      rw [h941]
      refine am_iload rfl dX3_visit_90 ?_
      refine am_cxv (mm_V3 dX3_visit_92 in_X3_addWrong mk_X3_164 im_X3_addWrong sl_X3_addWrong ⟨Nat.le_of_ble_eq_true rfl, Nat.le_of_ble_eq_true rfl⟩ rfl jh.1 (Nat.le_of_ble_eq_true rfl)) (c_addWrong (X := X) (F := F) (W := W) (r := (keyC S c).2.1) (pl := pl) (w := wrR S (keyC S c) pl (unM p)) jh hpl hD hI hS hr6 (by omega) (by omega) ((hE.2 hp).1 h72)) (fun M1 hq => ?_)
      obtain ⟨S2, rfl, hpo2, hsz, hwc⟩ := hq
      refine mm_iconst dX3_visit_95 ?_
      refine am_ireturn dX3_visit_96 rfl rfl ?_
      exact kk (-1) sh S2 L p1 p2 p3 n (by omega) (Or.inl ⟨rfl, hpo2, Or.inr ⟨fun q => h72 q.2.2, fun e => by omega, fun _ => ⟨fun _ => hwc, fun z => absurd z h72⟩⟩⟩)
  · refine am_aload_n rfl dX3_visit_50 ?_
    refine am_aload_n rfl dX3_visit_51 ?_
    refine am_iload rfl dX3_visit_52 ?_
    refine mm_iconst dX3_visit_54 ?_
    rw [show iI 0 = iI (b2 False) from rfl]
    have hpe : pl = mN S (keyC S c).2.1 := by omega
    refine am_cxv (mm_V3 dX3_visit_55 in_X3_endCase mk_X3_156 im_X3_endCase sl_X3_endCase ⟨Nat.le_of_ble_eq_true rfl, Nat.le_of_ble_eq_true rfl⟩ rfl jh.1 (Nat.le_of_ble_eq_true rfl)) (c_endCase (X := X) (F := F) (W := W) (c := c) (pl := pl) (R := unM p) (y := False) (g := 0) jh hpl hD hI hS hb hB hc hsim (Or.inr ⟨id, rfl⟩) (hE.1 hpe)) (fun M1 hq => ?_)
    obtain ⟨S2, rfl, hpo2, hsz, hxc⟩ := hq
    refine mm_iconst dX3_visit_58 ?_
    refine am_ireturn dX3_visit_59 rfl rfl ?_
    exact kk (-1) sh S2 L p1 p2 p3 n (by omega) (Or.inl ⟨rfl, hpo2, Or.inr ⟨fun q => by have := q.1; omega, fun _ => hxc, fun q => by omega⟩⟩)
set_option maxRecDepth 100000 in
set_option maxHeartbeats 4000000 in
theorem c_visit {sh : List mm_H} {S : mm_S} {L : mm_L} {p1 p2 p3 n : Nat} (jh : jsH sh) (hpl : plS sh p1 p2 p3 n) (hD : plD p1 p2 p3 n) (hI : imC S L p1 p2 p3 n) {X : XT} {F : FT} {W : WT} (hS : SubC S L p1 X F W) (hb : bkS sh) (hB : cbB S) {i c : Nat} {x : Int} {pl : Nat} {p : Int} (hi : (i : Int) < S 86 0) (hen : enC S L p1 i c x pl p) (hit : itV S (keyC S c) pl (unM p)) (hn : inC S L p1) (hE : foK X F W S (keyC S c) pl (unM p)) (hN8 : S 86 0 + 2 < 262144) : am_E eX3_visit [.ref 85, .ref 1, .int (iI (i : Int))] (mm sh S L) (fun r0 M' => ∃ v : Int, r0 = some (.int (iI v)) ∧ ∃ sh' S' L' q1 q2 q3 m, M' = mm sh' S' L' ∧ S' 86 0 ≤ S 86 0 + 2 ∧ ((v = -1 ∧ poC sh S L p1 p2 n X F W sh' S' L' q1 q2 q3 m ∧ (S' 85 0 = 1 ∨ (¬ rcC S (keyC S c) pl (unM p) ∧ foN (XC S' L' q1) (FC S') (WC S') S (keyC S c) pl (unM p)))) ∨ (rcC S (keyC S c) pl (unM p) ∧ ∃ (a : Nat) (S1 : mm_S), v = a ∧ (a : Int) < S1 85 1 ∧ keyC S1 a = clK S (keyC S c) pl (unM p) ∧ poC sh S L p1 p2 n X F W sh' S1 L' q1 q2 q3 m ∧ ntC S1 S' q2 i a))) := by
  have h40 := hI.2.2.1.1
  have hc := hen.1
  have hc40 : c < 40 := by omega
  have hxr := hen.2.2.1
  have hsz := hI.1.1
  have hLi : L p1 i = lI (x + (c : Int) * 1125899906842624) := by rw [← hen.2.1]; exact (lI_of _).symm
  refine am_enter rfl rfl (Nat.le_of_ble_eq_true rfl) ?_
  refine am_aload_n rfl dX3_visit_0 ?_
  refine mm_getR dX3_visit_1 fl_X3_25 jh.1 rfl ?_
  refine mm_getR dX3_visit_4 fl_X3_134 hpl.1 rfl ?_
  refine am_iload_n rfl dX3_visit_7 ?_
  refine mm_lal dX3_visit_8 hpl.2.1 (by omega) ?_
  rw [Int.toNat_natCast, hLi]
  refine am_lst3 dX3_visit_9 (Nat.le_of_ble_eq_true rfl) (am_c1i _) ?_
  refine am_lload_n rfl dX3_visit_10 ?_
  refine am_ci (mm_S1 dX3_visit_11 in_X8_caseIn mk_X3_114 st_X8_caseIn ⟨Nat.le_of_ble_eq_true rfl, Nat.le_of_ble_eq_true rfl⟩ (Nat.le_of_ble_eq_true rfl)) (c_caseIn (p := x + (c : Int) * 1125899906842624) (by omega)) ?_
  rw [show (x + (c : Int) * 1125899906842624) / 1125899906842624 % 64 = (c : Int) by omega]
  refine am_ist5 dX3_visit_14 (Nat.le_of_ble_eq_true rfl) am_c1n ?_
  refine am_aload_n rfl dX3_visit_16 ?_
  refine am_lload_n rfl dX3_visit_17 ?_
  refine am_cxv (mm_V1 dX3_visit_18 in_X3_load mk_X3_138 im_X3_load sl_X3_load ⟨Nat.le_of_ble_eq_true rfl, Nat.le_of_ble_eq_true rfl⟩ rfl jh.1 (Nat.le_of_ble_eq_true rfl)) (c_load (X := X) (F := F) (W := W) (i := i) jh hpl hD hI hS hen hit) (fun M1 hq => ?_)
  obtain ⟨S1, rfl, hF1, hsim⟩ := hq
  have hpo1 := po_sc (sh := sh) (X := X) (F := F) (W := W) hpl hD hI hS hF1 hsim.2.2.1
  have hbe := gr_E hpo1.2.1
  have hk1 : keyC S1 c = keyC S c := gr_key hpo1.2.1 hc
  have e85 : S1 85 = S 85 := hF1 85 (by omega)
  have e86 : S1 86 = S 86 := hF1 86 (by omega)
  have hB1 := cbB_of (cbF_sc hF1) hB
  refine l_visit (X := X) (F := F) (W := W) (c := c) (pl := pl) (p := p) (x := x) (i := i) jh hpl hD hpo1.2.2.1 hpo1.2.2.2.1 hb hB1 (by rw [e85]; exact hc) (by rw [e86]; exact hi) (gr_en hpo1.2.1 hi hen) (by rw [hk1]; exact hsim) (in_gr hpo1.2.1 hn) (by rw [hk1, bk_fo hbe]; exact hE) (by rw [e86]; exact hN8) (fun v sh' S' L' q1 q2 q3 m u1 u2 => ⟨v, rfl, sh', S', L', q1, q2, q3, m, rfl, by rw [e86] at u1; exact u1, ?_⟩)
  rw [hk1, rc_bk hbe, foN_bk hbe, bk_cl hbe] at u2
  rcases u2 with ⟨y1, y2, y3⟩ | ⟨y0, a, S2, y1, y2, y3, y4, y5⟩
  · exact Or.inl ⟨y1, po_tr hpo1 y2, y3⟩
  · exact Or.inr ⟨y0, a, S2, y1, y2, y3, po_tr hpo1 y4, y5⟩
