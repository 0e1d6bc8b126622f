/-! ===== all that may be ===== -/
def fdC (sh : List mm_H) (S : mm_S) (L : mm_L) (n : Nat) (X : XT) (F : FT) (W : WT) (sh' : List mm_H) (S' : mm_S) (L' : mm_L) (q1 q2 q3 m : Nat) : Prop := (shE sh sh' ∧ plS sh' q1 q2 q3 m ∧ plD q1 q2 q3 m ∧ ∀ z0, shB z0 sh n → shB z0 sh' m) ∧ (cbF S S' ∧ ∀ b, b < 85 ∨ (90 ≤ b ∧ b < 223) → L' b = L b) ∧ imC S' L' q1 q2 q3 m ∧ ((S' 85 0 = 1 ∧ OvX X ∧ S' 85 1 = 0 ∧ S' 86 0 = 0 ∧ ∀ x, x < 150 → S' 92 x = 0) ∨ (S' 85 0 = 0 ∧ inC S' L' q1 ∧ SubC S' L' q1 X F W ∧ clsK (XC S' L' q1) (FC S') (WC S') S'))
set_option maxRecDepth 100000 in
set_option maxHeartbeats 4000000 in
theorem l_fa {sh : List mm_H} {S : mm_S} {L : mm_L} {n : Nat} (jh : jsH sh) (hb : bkS sh) (hB : cbB S) {X : XT} {F : FT} {W : WT} (hcl : clsK X F W S) : ∀ (q : Nat) (V K T : Nat) (l5 : Option Value) (sh' : List mm_H) (S' : mm_S) (L' : mm_L) (q1 q2 q3 m : Nat), 80640 - T + 1 < q → (faC sh S L n X F W sh' S' L' q1 q2 q3 m) → (S' 85 0 = 0 → wlC S' L' q1 q2 V V K) → (T = V + K ∧ T ≤ 80640) → am_AW eX3_findAll (mm sh' S' L') 25 [some (.ref 85), some (.ref 1), some (.int (iI (V : Int))), some (.int (iI (K : Int))), some (.int (iI (T : Int))), l5] [] (fun r0 M' => r0 = none ∧ ∃ sh' S' L' q1 q2 q3 m, M' = mm sh' S' L' ∧ fdC sh S L n X F W sh' S' L' q1 q2 q3 m) := by
  intro q
  induction q with
  | zero =>
    intro V K T l5 sh' S' L' q1 q2 q3 m hq
    exact absurd hq (Nat.not_lt_zero _)
  | succ q ih =>
    intro V K T l5 sh' S' L' q1 q2 q3 m hq hfa hwl hT
    have hD' := hfa.1.2.2.1
    have hpl := hfa.1.2.1
    have hcb := hfa.2.1.1
    have hb' := bkS_of hfa.1.1 jh.2.2.2.2.2.2.2 hb
    have hB' := cbB_of hcb hB
    have hbe := cbF_E hcb
    have hI' := hfa.2.2.1
    have h01' := hI'.2.2.2.2.2.2.1
    have hnws := hI'.2.2.2.2.2.1.1
    have hsz := hI'.1.1
    have hpn := plD_n hD'
    have jh := jsH_of hfa.1.1 jh
    refine am_iload rfl dX3_findAll_25 ?_
    refine am_ldc cc_X3_70 dX3_findAll_27 ?_
    refine mm_jge (tgt := 106) dX3_findAll_29 (by decide) (by omega) (by omega) (fun h29 => ?_) (fun h29 => ?_)
    · refine am_aload_n rfl dX3_findAll_106 ?_
      refine mm_getI dX3_findAll_107 fl_X3_9 jh.1 rfl ?_
      refine mm_zeq (tgt := 117) dX3_findAll_110 (by decide) (by omega) (fun h110 => ?_) (fun h110 => ?_)
      · refine am_return dX3_findAll_117 rfl ?_
        first
          | exact ⟨rfl, sh', S9, L', q1, q2, q3, m, rfl, hfa.1, ⟨fun b hb => (z2 b hb).trans (hfa.2.1.1 b hb), hfa.2.1.2⟩, z1, Or.inl ⟨by omega, hfa.2.2.2.2.2.1 (by omega), z4, z5, z6⟩⟩
          | (exfalso; omega)
          | exact ⟨rfl, sh', S', L', q1, q2, q3, m, rfl, hfa.1, hfa.2.1, hI', Or.inr ⟨by omega, hfa.2.2.2.1, hfa.2.2.2.2.1, fa_end hfa (by omega) (hwl (by omega)) (by omega)⟩⟩
      · refine am_aload_n rfl dX3_findAll_113 ?_
        refine am_cxv (mm_V0 dX3_findAll_114 in_X3_clear mk_X3_65 im_X3_clear sl_X3_clear ⟨Nat.le_of_ble_eq_true rfl, Nat.le_of_ble_eq_true rfl⟩ rfl jh.1 (Nat.le_of_ble_eq_true rfl)) (c_jclear jh hpl hD' h01' hI'.2.2.2.2.2.2.2) (fun M1 hq => ?_)
        obtain ⟨S9, rfl, z1, z2, z3, z4, z5, z6⟩ := hq
        refine am_return dX3_findAll_117 rfl ?_
        first
          | exact ⟨rfl, sh', S9, L', q1, q2, q3, m, rfl, hfa.1, ⟨fun b hb => (z2 b hb).trans (hfa.2.1.1 b hb), hfa.2.1.2⟩, z1, Or.inl ⟨by omega, hfa.2.2.2.2.2.1 (by omega), z4, z5, z6⟩⟩
          | (exfalso; omega)
          | exact ⟨rfl, sh', S', L', q1, q2, q3, m, rfl, hfa.1, hfa.2.1, hI', Or.inr ⟨by omega, hfa.2.2.2.1, hfa.2.2.2.2.1, fa_end hfa (by omega) (hwl (by omega)) (by omega)⟩⟩
    · refine am_aload_n rfl dX3_findAll_32 ?_
      refine mm_getI dX3_findAll_33 fl_X3_9 jh.1 rfl ?_
      refine mm_zne (tgt := 106) dX3_findAll_36 (by decide) (by omega) (fun h36 => ?_) (fun h36 => ?_)
      · refine am_aload_n rfl dX3_findAll_106 ?_
        refine mm_getI dX3_findAll_107 fl_X3_9 jh.1 rfl ?_
        refine mm_zeq (tgt := 117) dX3_findAll_110 (by decide) (by omega) (fun h110 => ?_) (fun h110 => ?_)
        · refine am_return dX3_findAll_117 rfl ?_
          first
            | exact ⟨rfl, sh', S9, L', q1, q2, q3, m, rfl, hfa.1, ⟨fun b hb => (z2 b hb).trans (hfa.2.1.1 b hb), hfa.2.1.2⟩, z1, Or.inl ⟨by omega, hfa.2.2.2.2.2.1 (by omega), z4, z5, z6⟩⟩
            | (exfalso; omega)
            | exact ⟨rfl, sh', S', L', q1, q2, q3, m, rfl, hfa.1, hfa.2.1, hI', Or.inr ⟨by omega, hfa.2.2.2.1, hfa.2.2.2.2.1, fa_end hfa (by omega) (hwl (by omega)) (by omega)⟩⟩
        · refine am_aload_n rfl dX3_findAll_113 ?_
          refine am_cxv (mm_V0 dX3_findAll_114 in_X3_clear mk_X3_65 im_X3_clear sl_X3_clear ⟨Nat.le_of_ble_eq_true rfl, Nat.le_of_ble_eq_true rfl⟩ rfl jh.1 (Nat.le_of_ble_eq_true rfl)) (c_jclear jh hpl hD' h01' hI'.2.2.2.2.2.2.2) (fun M1 hq => ?_)
          obtain ⟨S9, rfl, z1, z2, z3, z4, z5, z6⟩ := hq
          refine am_return dX3_findAll_117 rfl ?_
          first
            | exact ⟨rfl, sh', S9, L', q1, q2, q3, m, rfl, hfa.1, ⟨fun b hb => (z2 b hb).trans (hfa.2.1.1 b hb), hfa.2.1.2⟩, z1, Or.inl ⟨by omega, hfa.2.2.2.2.2.1 (by omega), z4, z5, z6⟩⟩
            | (exfalso; omega)
            | exact ⟨rfl, sh', S', L', q1, q2, q3, m, rfl, hfa.1, hfa.2.1, hI', Or.inr ⟨by omega, hfa.2.2.2.1, hfa.2.2.2.2.1, fa_end hfa (by omega) (hwl (by omega)) (by omega)⟩⟩
      · refine am_iload_n rfl dX3_findAll_39 ?_
        refine am_aload_n rfl dX3_findAll_40 ?_
        refine mm_getI dX3_findAll_41 fl_X3_45 jh.1 rfl ?_
        refine mm_jge (tgt := 64) dX3_findAll_44 (by decide) (by omega) (by omega) (fun h44 => ?_) (fun h44 => ?_)
        · refine am_iload_n rfl dX3_findAll_64 ?_
          refine am_aload_n rfl dX3_findAll_65 ?_
          refine mm_getR dX3_findAll_66 fl_X3_25 jh.1 rfl ?_
          refine mm_getI dX3_findAll_69 fl_X3_75 hpl.1 rfl ?_
          refine mm_jge (tgt := 106) dX3_findAll_72 (by decide) (by omega) (by omega) (fun h72 => ?_) (fun h72 => ?_)
          · refine am_aload_n rfl dX3_findAll_106 ?_
            refine mm_getI dX3_findAll_107 fl_X3_9 jh.1 rfl ?_
            refine mm_zeq (tgt := 117) dX3_findAll_110 (by decide) (by omega) (fun h110 => ?_) (fun h110 => ?_)
            · refine am_return dX3_findAll_117 rfl ?_
              first
                | exact ⟨rfl, sh', S9, L', q1, q2, q3, m, rfl, hfa.1, ⟨fun b hb => (z2 b hb).trans (hfa.2.1.1 b hb), hfa.2.1.2⟩, z1, Or.inl ⟨by omega, hfa.2.2.2.2.2.1 (by omega), z4, z5, z6⟩⟩
                | (exfalso; omega)
                | exact ⟨rfl, sh', S', L', q1, q2, q3, m, rfl, hfa.1, hfa.2.1, hI', Or.inr ⟨by omega, hfa.2.2.2.1, hfa.2.2.2.2.1, fa_end hfa (by omega) (hwl (by omega)) (by omega)⟩⟩
            · refine am_aload_n rfl dX3_findAll_113 ?_
              refine am_cxv (mm_V0 dX3_findAll_114 in_X3_clear mk_X3_65 im_X3_clear sl_X3_clear ⟨Nat.le_of_ble_eq_true rfl, Nat.le_of_ble_eq_true rfl⟩ rfl jh.1 (Nat.le_of_ble_eq_true rfl)) (c_jclear jh hpl hD' h01' hI'.2.2.2.2.2.2.2) (fun M1 hq => ?_)
              obtain ⟨S9, rfl, z1, z2, z3, z4, z5, z6⟩ := hq
              refine am_return dX3_findAll_117 rfl ?_
              first
                | exact ⟨rfl, sh', S9, L', q1, q2, q3, m, rfl, hfa.1, ⟨fun b hb => (z2 b hb).trans (hfa.2.1.1 b hb), hfa.2.1.2⟩, z1, Or.inl ⟨by omega, hfa.2.2.2.2.2.1 (by omega), z4, z5, z6⟩⟩
                | (exfalso; omega)
                | exact ⟨rfl, sh', S', L', q1, q2, q3, m, rfl, hfa.1, hfa.2.1, hI', Or.inr ⟨by omega, hfa.2.2.2.1, hfa.2.2.2.2.1, fa_end hfa (by omega) (hwl (by omega)) (by omega)⟩⟩
          · have h0 : S' 85 0 = 0 := by omega
            have hw := hwl h0
            have hN80 := sz_le hI' h0
            have hV6 : (V : Int) < S' 86 0 := by omega
            obtain ⟨-, c, x, pl, p, hen, hit⟩ := hI'.2.1 V hV6
            have hc := hen.1
            have hfo : foK X F W S' (keyC S' c) pl (unM p) := by
              rw [bk_fo hbe]
              exact hcl.2 _ _ _ (hfa.2.2.2.2.1.1 _ _ _ ⟨V, c, x, hV6, rfl, hen⟩)
            refine am_aload_n rfl dX3_findAll_75 ?_
            refine am_aload_n rfl dX3_findAll_76 ?_
            refine am_iload_n rfl dX3_findAll_77 ?_
            refine am_cxI (mm_V2 dX3_findAll_78 in_X3_visit mk_X3_78 im_X3_visit sl_X3_visit ⟨Nat.le_of_ble_eq_true rfl, Nat.le_of_ble_eq_true rfl⟩ rfl jh.1 (Nat.le_of_ble_eq_true rfl)) (c_visit (X := X) (F := F) (W := W) (i := V) (c := c) (x := x) (pl := pl) (p := p) jh hpl hD' hI' hfa.2.2.2.2.1 hb' hB' hV6 hen hit hfa.2.2.2.1 hfo (by omega)) (fun v M1 hq => ?_)
            obtain ⟨sh2, S2, L2, t1, t2, t3, m2, rfl, hsz2, hv⟩ := hq
            have hvr : -1 ≤ v ∧ v < 40 := by
              rcases hv with ⟨e, -⟩ | ⟨-, a, S1, e1, e2, -, y4, -⟩
              · omega
              · have := y4.2.2.1.2.2.1.1
                omega
            refine am_ist5 dX3_findAll_81 (Nat.le_of_ble_eq_true rfl) (am_c1i _) ?_
            refine am_iload rfl dX3_findAll_83 ?_
            refine mm_iconst dX3_findAll_85 ?_
            refine mm_jeq (tgt := 97) dX3_findAll_86 (by decide) (by omega) (by omega) (fun h86 => ?_) (fun h86 => ?_)
            · refine mm_inc2 dX3_findAll_97 (Nat.le_of_ble_eq_true rfl) (am_c1r _) ?_
              refine mm_inc4 dX3_findAll_100 (Nat.le_of_ble_eq_true rfl) (am_c1i _) ?_
              refine am_goto (tgt := 25) dX3_findAll_103 (by decide) ?_
              rcases hv with ⟨-, hpo2, hd2⟩ | ⟨-, a, S1, e1, -⟩
              · refine ih (V + 1) K (T + 1) _ sh2 S2 L2 t1 t2 t3 m2 (by omega) (fa_po hfa hpo2) (fun e => ?_) (by omega)
                rcases hd2 with z | ⟨z1, z2⟩
                · exfalso; omega
                · have w2 := wl_gr hI' hpo2.2.2.1 hpo2.2.1 hw
                  exact wl_add w2 (by have := hpo2.2.1.2.2.1.1; omega) (gr_en hpo2.2.1 hV6 hen) (by rw [gr_key hpo2.2.1 hen.1, foN_bk (gr_E hpo2.2.1)]; exact z2) (by rw [gr_key hpo2.2.1 hen.1, rc_bk (gr_E hpo2.2.1)]; exact z1)
              · exfalso; omega
            · obtain ⟨hrc, a, S1, rfl, ha, hka, hpo1, hnt⟩ : rcC S' (keyC S' c) pl (unM p) ∧ ∃ (a : Nat) (S1 : mm_S), v = a ∧ (a : Int) < S1 85 1 ∧ keyC S1 a = clK S' (keyC S' c) pl (unM p) ∧ poC sh' S' L' q1 q2 m X F W sh2 S1 L2 t1 t2 t3 m2 ∧ ntC S1 S2 t2 V a := by
                rcases hv with ⟨e, -⟩ | z
                · exfalso; omega
                · exact z
              have hfa1 := fa_po hfa hpo1
              have hen1 := gr_en hpo1.2.1 hV6 hen
              have hV1 : (V : Int) < S1 86 0 := by have := hpo1.2.1.2.2.1.1; omega
              have hfa2 := fa_nt hfa1 hV1 ha hnt
              have hI1 := hpo1.2.2.1
              have hI2 := hfa2.2.2.1
              have h401 := hI1.2.2.1.1
              have pc := po_call hpo1.1.2.2.1 hI1 hV1 ha hnt.1 hnt.2.1 hnt.2.2.1 hnt.2.2.2.1 hnt.2.2.2.2
              obtain ⟨er, hbe12, hcb12⟩ := nt_rd hpo1.1.2.2.1 (by omega) hnt
              have e85 := er 85 (by omega) (by omega)
              have e86 := er 86 (by omega) (by omega)
              have hk12 : keyC S2 c = keyC S1 c := pc.2.2.2.2 c (by have := hen1.1; omega)
              have hk2 : keyC S2 c = keyC S' c := hk12.trans (gr_key hpo1.2.1 hen.1)
              have hka2 : keyC S2 a = clK S' (keyC S' c) pl (unM p) := (pc.2.2.2.2 a (by omega)).trans hka
              have hbe2 : bkE S' S2 := bkE_tr (gr_E hpo1.2.1) hbe12
              have hen2 : enC S2 L2 t1 V c x pl p := en_of hk12 (by rw [e85]; exact Int.le_refl _) rfl hen1
              have hB2 := cbB_of hcb12 (cbB_of (gr_cb hpo1.2.1) hB')
              have hb2 := bkS_of hpo1.1.1 jh.2.2.2.2.2.2.2 hb'
              have jh2 := jsH_of hpo1.1.1 jh
              have hclk2 : clK S2 (keyC S2 c) pl (unM p) = keyC S2 a := by rw [hk2, hka2, bk_cl hbe2]
              have hrc2 : rcC S2 (keyC S2 c) pl (unM p) := by rw [hk2, rc_bk hbe2]; exact hrc
              have hfo2 : foK X F W S2 (keyC S2 c) pl (unM p) := by rw [hk2, bk_fo hbe2]; exact hfo
              have hit2 : itV S2 (keyC S2 c) pl (unM p) := by rw [hk2]; exact itV_of hbe2 hit
              have ha2 : (a : Int) < S2 85 1 := by rw [e85]; exact ha
              have hi2 : (V : Int) < S2 86 0 := by rw [e86]; exact hV1
              refine am_aload_n rfl dX3_findAll_89 ?_
              refine am_aload_n rfl dX3_findAll_90 ?_
              refine am_iload_n rfl dX3_findAll_91 ?_
              refine am_iload rfl dX3_findAll_92 ?_
              refine am_cxv (mm_V3 dX3_findAll_94 in_X3_comeBackAsKnown mk_X3_82 im_X3_comeBackAsKnown sl_X3_comeBackAsKnown ⟨Nat.le_of_ble_eq_true rfl, Nat.le_of_ble_eq_true rfl⟩ rfl jh2.1 (Nat.le_of_ble_eq_true rfl)) (c_known (X := X) (F := F) (W := W) (i := V) (c := c) (x := x) (pl := pl) (p := p) (d := a) jh2 hfa2.1.2.1 hfa2.1.2.2.1 hI2 hfa2.2.2.2.2.1 hb2 hB2 hi2 hen2 hit2 hrc2.1 hrc2.2.1 hrc2.2.2 ha2 (fun b hbb => (cb_hq hI2 hB2.2.2.2.1 ha2 hbb hclk2).2.2) (fun b hbb => cb_hE (W := W) hfo2 hrc2 (cb_hq hI2 hB2.2.2.2.1 ha2 hbb hclk2).2.1 (cb_hq hI2 hB2.2.2.2.1 ha2 hbb hclk2).1 (by rw [hclk2]; exact hfa2.2.2.2.2.1.2.1 _ _ ⟨by omega, a, ha2, rfl, by rw [Int.toNat_natCast]; exact hbb⟩)) (by omega)) (fun M1 hq => ?_)
              obtain ⟨sh3, S3, L3, u1, u2, u3, m3, rfl, hpo3, hsz3, hot⟩ := hq
              refine mm_inc2 dX3_findAll_97 (Nat.le_of_ble_eq_true rfl) (am_c1r _) ?_
              refine mm_inc4 dX3_findAll_100 (Nat.le_of_ble_eq_true rfl) (am_c1i _) ?_
              refine am_goto (tgt := 25) dX3_findAll_103 (by decide) ?_
              refine ih (V + 1) K (T + 1) _ sh3 S3 L3 u1 u2 u3 m3 (by omega) (fa_po hfa2 hpo3) (fun e => ?_) (by omega)
              have w1 := wl_gr hI' hI1 hpo1.2.1 hw
              have w2 := wl_note hpo1.1.2.2.1 hI1 w1 hV1 ha hnt hen1 (by rw [gr_key hpo1.2.1 hen.1, rc_bk (gr_E hpo1.2.1)]; exact hrc) (by rw [gr_key hpo1.2.1 hen.1, bk_cl (gr_E hpo1.2.1)]; exact hka.symm)
              have w3 := wl_gr hI2 hpo3.2.2.1 hpo3.2.1 w2
              have hbe3 := gr_E hpo3.2.1
              refine wl_done (a := a) hpo3.2.2.1 w3 (by have := hpo3.2.1.2.1.1; omega) (gr_en hpo3.2.1 hi2 hen2) (by rw [gr_key hpo3.2.1 hen2.1, gr_key hpo3.2.1 ha2, bk_cl hbe3]; exact hclk2) (fun b hbb => ?_)
              rcases Classical.em (bt (S2 (98 + a) 4) b) with z | z
              · right
                rw [gr_key hpo3.2.1 hen2.1, bk_otK hbe3, bk_cd hbe3]
                exact hot b (cb_hq hI2 hB2.2.2.2.1 ha2 z hclk2).1 z
              · exact Or.inl (nw_new hI2 hpo3.2.2.1 hpo3.2.1 w2.2.2.2 (by have := hpo3.2.1.2.1.1; omega) hbb z)
        · have h0 : S' 85 0 = 0 := by omega
          have hw := hwl h0
          have hu := hI'.2.2.2.2.2.1.2.1 K (by omega)
          obtain ⟨d, b, hd, hb16, hit⟩ : ∃ d b : Nat, (d : Int) < S' 85 1 ∧ b < 16 ∧ S' 93 K = 16 * (d : Int) + b := ⟨(S' 93 K / 16).toNat, (S' 93 K % 16).toNat, by omega, by omega, by omega⟩
          have hbt : bt (S' (98 + d) 4) b := by
            have := hu.2.2
            rw [show (S' 93 K / 16).toNat = d by omega, show (S' 93 K % 16).toNat = b by omega] at this
            exact this
          obtain ⟨l0, hl0, hl1⟩ := hw.1 d hd
          have hN80 := sz_le hI' h0
          have hHH : ∀ i ∈ l0, (i : Int) < S' 86 0 ∧ ∃ (c : Nat) (x : Int) (pl : Nat) (p : Int), enC S' L' q1 i c x pl p ∧ itV S' (keyC S' c) pl (unM p) ∧ rcC S' (keyC S' c) pl (unM p) ∧ (mSo S' (keyC S' c).2.1 pl = 10 → 0 ≤ ((b % 8 : Nat) : Int) ∧ ((b % 8 : Nat) : Int) < S' 182 (cdR (keyC S' c).2.2.1 (unM p) ((unM p).1 (mBb S' (keyC S' c).2.1 pl).toNat) / 7).toNat) ∧ otK X F W S' (keyC S' c) (cbR S' (keyC S' c) pl (unM p) (8 ≤ b) ((b % 8 : Nat) : Int)) := fun i hi => by
            obtain ⟨hiV, c, x, pl, p, g1, g2, g3, g4⟩ := hl1 i hi
            have hi6 : (i : Int) < S' 86 0 := by have := hw.2.2.1; omega
            obtain ⟨-, c', x', pl', p', w1, w2⟩ := hI'.2.1 i hi6
            obtain ⟨e1, e2, e3, e4⟩ := en_fun hI' w1 g1
            subst e1 e2 e3 e4
            have hq := cb_hq hI' hB'.2.2.2.1 hd hbt g3
            refine ⟨hi6, c', x', pl', p', w1, w2, g2, hq.2.2, cb_hE (W := W) ?_ g2 hq.2.1 hb16 ?_⟩
            · rw [bk_fo hbe]
              exact hcl.2 _ _ _ (hfa.2.2.2.2.1.1 _ _ _ ⟨i, c', x', hi6, rfl, w1⟩)
            · rw [g3]
              exact hfa.2.2.2.2.1.2.1 _ _ ⟨by omega, d, hd, rfl, by rw [Int.toNat_natCast]; exact hbt⟩
          refine am_aload_n rfl dX3_findAll_47 ?_
          refine am_aload_n rfl dX3_findAll_48 ?_
          refine am_aload_n rfl dX3_findAll_49 ?_
          refine mm_getR dX3_findAll_50 fl_X3_42 jh.1 rfl ?_
          refine am_iload_n rfl dX3_findAll_53 ?_
          refine mm_inc3 dX3_findAll_54 (Nat.le_of_ble_eq_true rfl) (am_c1i _) ?_
          refine mm_ial dX3_findAll_57 jh.2.2.2.2.1 (by omega) ?_
          rw [Int.toNat_natCast, hit]
          refine am_cxv (mm_V2 dX3_findAll_58 in_X3_spreadNews mk_X3_71 im_X3_spreadNews sl_X3_spreadNews ⟨Nat.le_of_ble_eq_true rfl, Nat.le_of_ble_eq_true rfl⟩ rfl jh.1 (Nat.le_of_ble_eq_true rfl)) (c_spread (X := X) (F := F) (W := W) (d := d) (b := b) (l0 := l0) jh hpl hD' hI' hfa.2.2.2.2.1 hb' hB' hd hb16 hl0 (by omega) hHH) (fun M1 hq => ?_)
          obtain ⟨sh2, S2, L2, t1, t2, t3, m2, rfl, hpo2, hsz2, hot⟩ := hq
          refine am_goto (tgt := 100) dX3_findAll_61 (by decide) ?_
          refine mm_inc4 dX3_findAll_100 (Nat.le_of_ble_eq_true rfl) (am_c1i _) ?_
          refine am_goto (tgt := 25) dX3_findAll_103 (by decide) ?_
          exact ih V (K + 1) (T + 1) l5 sh2 S2 L2 t1 t2 t3 m2 (by omega) (fa_po hfa hpo2) (fun e => wl_tell hI' hpo2.2.2.1 hpo2.2.1 hw (by omega) hd hb16 hit hl0 hot) (by omega)
set_option maxRecDepth 100000 in
set_option maxHeartbeats 4000000 in
theorem c_findAll {p1 p2 p3 : Nat} {sh : List mm_H} {S : mm_S} {L : mm_L} {n : Nat} (jh : jsH sh) (hb : bkS sh) (hB : cbB S) {X : XT} {F : FT} {W : WT} (hcl : clsK X F W S) (hpl : plS sh p1 p2 p3 n) (hD : plD p1 p2 p3 n) (h01 : S 85 0 = 0 ∨ S 85 0 = 1) (hs : scV S 94) : am_E eX3_findAll [.ref 85, .ref 1] (mm sh S L) (fun r0 M' => r0 = none ∧ ∃ sh' S' L' q1 q2 q3 m, M' = mm sh' S' L' ∧ fdC sh S L n X F W sh' S' L' q1 q2 q3 m) := by
  refine am_enter rfl rfl (Nat.le_of_ble_eq_true rfl) ?_
  refine am_aload_n rfl dX3_findAll_0 ?_
  refine am_cxv (mm_V0 dX3_findAll_1 in_X3_clear mk_X3_65 im_X3_clear sl_X3_clear ⟨Nat.le_of_ble_eq_true rfl, Nat.le_of_ble_eq_true rfl⟩ rfl jh.1 (Nat.le_of_ble_eq_true rfl)) (c_jclear jh hpl hD h01 hs) (fun M1 hq => ?_)
  obtain ⟨S1, rfl, z1, z2, z3, z4, z5, z6⟩ := hq
  refine am_aload_n rfl dX3_findAll_4 ?_
  refine mm_iconst dX3_findAll_5 ?_
  refine mm_putZ dX3_findAll_6 fp_X3_9 jh.1 rfl (by omega) ?_
  have e : ∀ b, b ≠ 85 → up2 S1 85 0 0 b = S1 b := fun b hb => up2_row hb
  have e5 : ∀ j, j ≠ 0 → up2 S1 85 0 0 85 j = S1 85 j := fun j hj => up2_rc hj
  have e0 : up2 S1 85 0 0 85 0 = 0 := up2_same _ _ _ _
  generalize up2 S1 85 0 0 = S2 at *
  have hI2 := im_z z1 hD z4 e e5 e0 z5
  have e1 : S2 85 1 = 0 := by rw [e5 1 (by omega)]; exact z4
  have e86 : S2 86 0 = 0 := by rw [e 86 (by omega)]; exact z5
  have hf0 := fa_0 (S := S2) (L := L) (p1 := p1) (X := X) (F := F) (W := W) e1 e86 (fun x hx => by rw [e 92 (by omega)]; exact z6 x hx)
  have hcb2 : cbF S S2 := fun b hb => (e b (by omega)).trans (z2 b hb)
  have hB2 := cbB_of hcb2 hB
  have ek : ((soC 2, (0 : Int).toNat, 0, 0) : kyT) = ky0 := rfl
  have hky0 : kyV S2 ky0 := ⟨by decide, by have := hB2.2.2.2.2.2.1; show ((0 : Nat) : Int) < _; omega, fun z => absurd rfl z, fun _ => rfl⟩
  refine am_aload_n rfl dX3_findAll_9 ?_
  refine mm_iconst dX3_findAll_10 ?_
  refine mm_iconst dX3_findAll_11 ?_
  refine mm_iconst dX3_findAll_12 ?_
  refine mm_iconst dX3_findAll_13 ?_
  refine am_cxI (mm_V4 dX3_findAll_14 in_X3_caseFor mk_X3_66 im_X3_caseFor sl_X3_caseFor ⟨Nat.le_of_ble_eq_true rfl, Nat.le_of_ble_eq_true rfl⟩ rfl jh.1 (Nat.le_of_ble_eq_true rfl)) (c_caseFor (X := X) (F := F) (W := W) (r := 0) (h := 2) (k := 0) (s := 0) jh hpl hD hI2 hf0.2 hB2 hf0.1 (by omega) (by omega) (by omega) (by omega) (by omega) (by rw [ek]; exact hky0) (by rw [ek]; exact hcl.1) (by omega)) (fun v M1 hq => ?_)
  obtain ⟨sh2, S3, L2, q1, q2, q3, m, rfl, hpo, hsz, hv⟩ := hq
  rw [ek] at hv
  refine am_pop rfl dX3_findAll_17 ?_
  refine mm_iconst dX3_findAll_18 ?_
  refine am_ist2 dX3_findAll_19 (Nat.le_of_ble_eq_true rfl) (am_c1r _) ?_
  refine mm_iconst dX3_findAll_20 ?_
  refine am_ist3 dX3_findAll_21 (Nat.le_of_ble_eq_true rfl) (am_c1i _) ?_
  refine mm_iconst dX3_findAll_22 ?_
  refine am_ist4 dX3_findAll_23 (Nat.le_of_ble_eq_true rfl) (am_c1i _) ?_
  have hfa : faC sh S L n X F W sh2 S3 L2 q1 q2 q3 m := ⟨hpo.1, ⟨fun b hb => (gr_cb hpo.2.1 b hb).trans (hcb2 b hb), hpo.2.1.1.2⟩, hpo.2.2.1, in_gr hpo.2.1 hf0.1, hpo.2.2.2.1, fun e => by
      rcases hpo.2.2.2.2 e with z | z
      · exfalso; omega
      · exact z, by
      rcases hv with ⟨-, z⟩ | ⟨a, -, y1, y2⟩
      · exact Or.inl z
      · exact Or.inr ⟨a, y1, y2⟩⟩
  exact l_fa jh hb hB hcl 80642 0 0 0 none sh2 S3 L2 q1 q2 q3 m (by omega) hfa (fun _ => wl_gr hI2 hpo.2.2.1 hpo.2.1 (wl_0 hI2 e1)) (by omega)
