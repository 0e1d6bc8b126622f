/-! ===== comeBack ===== -/
theorem bk_cd {S S' : mm_S} (he : bkE S S') (κ : kyT) (pl : Nat) (R : rgT) (f : Prop) [Decidable f] (q : Int) : cbR S' κ pl R f q = cbR S κ pl R f q := by
  unfold cbR cbT gtR
  rw [bk_Bb he, bk_So he, bk_ot he, bk_mv he]
set_option maxRecDepth 100000 in
set_option maxHeartbeats 4000000 in
theorem c_jcb {sh : List mm_H} {S : mm_S} {L : mm_L} {p1 p2 p3 n : Nat} (jh : jsH sh) (hpl : plS sh p1 p2 p3 n) (hD : plD p1 p2 p3 n) (hI : imC S L p1 p2 p3 n) {X : XT} {F : FT} {W : WT} (hS : SubC S L p1 X F W) (hb : bkS sh) (hB : cbB S) {i c : Nat} {x : Int} {pl : Nat} {p : Int} (hi : (i : Int) < S 86 0) (hen : enC S L p1 i c x pl p) (hit : itV S (keyC S c) pl (unM p)) (hp : pl < mN S (keyC S c).2.1) (hx : mSo S (keyC S c).2.1 pl = 10 ∨ mSo S (keyC S c).2.1 pl = 11) (hw : wrR S (keyC S c) pl (unM p) = 0) {b : Nat} (hb16 : b < 16) (hq8 : mSo S (keyC S c).2.1 pl = 10 → 0 ≤ ((b % 8 : Nat) : Int) ∧ ((b % 8 : Nat) : Int) < S 182 (cdR (keyC S c).2.2.1 (unM p) ((unM p).1 (mBb S (keyC S c).2.1 pl).toNat) / 7).toNat) (hE : otK X F W S (keyC S c) (cbR S (keyC S c) pl (unM p) (8 ≤ b) ((b % 8 : Nat) : Int))) (hN8 : S 86 0 < 262144) : am_E eX3_comeBack [.ref 85, .ref 1, .int (iI (i : Int)), .int (iI (b : Int))] (mm sh S L) (fun r0 M' => r0 = none ∧ ∃ sh' S' L' q1 q2 q3 m, M' = mm sh' S' L' ∧ poC sh S L p1 p2 n X F W sh' S' L' q1 q2 q3 m ∧ S' 86 0 ≤ S 86 0 + 1 ∧ otK (XC S' L' q1) (FC S') (WC S') S (keyC S c) (cbR S (keyC S c) pl (unM p) (8 ≤ b) ((b % 8 : Nat) : Int))) := by
  have h40 := hI.2.2.1.1
  have hc := hen.1
  have hc40 : c < 40 := by omega
  have hxr := hen.2.2.1
  have hsz := hI.1.1
  have hLi : L p1 i = lI (x + (c : Int) * 1125899906842624) := by rw [← hen.2.1]; exact (lI_of _).symm
  refine am_enter rfl rfl (Nat.le_of_ble_eq_true rfl) ?_
  refine am_aload_n rfl dX3_comeBack_0 ?_
  refine mm_getR dX3_comeBack_1 fl_X3_25 jh.1 rfl ?_
  refine mm_getR dX3_comeBack_4 fl_X3_134 hpl.1 rfl ?_
  refine am_iload_n rfl dX3_comeBack_7 ?_
  refine mm_lal dX3_comeBack_8 hpl.2.1 (by omega) ?_
  rw [Int.toNat_natCast, hLi]
  refine am_lst4 dX3_comeBack_9 (Nat.le_of_ble_eq_true rfl) (am_c1i _) ?_
  refine am_lload rfl dX3_comeBack_11 ?_
  refine am_ci (mm_S1 dX3_comeBack_13 in_X8_caseIn mk_X3_114 st_X8_caseIn ⟨Nat.le_of_ble_eq_true rfl, Nat.le_of_ble_eq_true rfl⟩ (Nat.le_of_ble_eq_true rfl)) (c_caseIn (p := x + (c : Int) * 1125899906842624) (by omega)) ?_
  rw [show (x + (c : Int) * 1125899906842624) / 1125899906842624 % 64 = (c : Int) by omega]
  refine am_ist6 dX3_comeBack_16 (Nat.le_of_ble_eq_true rfl) am_c1n ?_
  refine am_aload_n rfl dX3_comeBack_18 ?_
  refine am_lload rfl dX3_comeBack_19 ?_
  refine am_cxv (mm_V1 dX3_comeBack_21 in_X3_load mk_X3_138 im_X3_load sl_X3_load ⟨Nat.le_of_ble_eq_true rfl, Nat.le_of_ble_eq_true rfl⟩ rfl jh.1 (Nat.le_of_ble_eq_true rfl)) (c_load (X := X) (F := F) (W := W) (i := i) jh hpl hD hI hS hen hit) (fun M1 hq => ?_)
  obtain ⟨S1, rfl, hF1, hsim⟩ := hq
  have hpo1 := po_sc (sh := sh) (X := X) (F := F) (W := W) hpl hD hI hS hF1 hsim.2.2.1
  have hbe := gr_E hpo1.2.1
  have hk1 : keyC S1 c = keyC S c := gr_key hpo1.2.1 hc
  have e85 : S1 85 = S 85 := hF1 85 (by omega)
  have e86 : S1 86 = S 86 := hF1 86 (by omega)
  have hB1 := cbB_of (cbF_sc hF1) hB
  refine l_jcb (X := X) (F := F) (W := W) (c := c) (pl := pl) (R := unM p) (b := b) jh hpl hD hpo1.2.2.1 hpo1.2.2.2.1 hb hB1 (by rw [e85]; exact hc) (by rw [hk1]; exact hsim) (by rw [hk1, bk_N hbe]; exact hp) (by rw [hk1, bk_So hbe]; exact hx) (by rw [hk1, bk_wr hbe]; exact hw) hb16 (by rw [hk1, bk_So hbe, bk_Bb hbe, hbe.1 182 (by omega) (by omega)]; exact hq8) (by rw [hk1, bk_otK hbe, bk_cd hbe]; exact hE) (by rw [e86]; exact hN8) (fun sh' S' L' q1 q2 q3 m u1 u2 u3 => ⟨rfl, sh', S', L', q1, q2, q3, m, rfl, po_tr hpo1 u1, by rw [e86] at u2; exact u2, ?_⟩)
  rw [hk1, bk_otK hbe, bk_cd hbe] at u3
  exact u3
