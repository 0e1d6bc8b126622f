/-! ===== back on all known ways ===== -/
set_option maxRecDepth 100000 in
set_option maxHeartbeats 4000000 in
theorem l_known {sh : List mm_H} {S : mm_S} {L : mm_L} {p1 p2 p3 n : Nat} (jh : jsH sh) (hpl : plS sh p1 p2 p3 n) (hD : plD p1 p2 p3 n) (hI : imC S L p1 p2 p3 n) {X : XT} {F : FT} {W : WT} (hS : SubC S L p1 X F W) (hb : bkS sh) (hB : cbB S) {i c : Nat} {x : Int} {pl : Nat} {p : Int} (hi : (i : Int) < S 86 0) (hen : enC S L p1 i c x pl p) (hit : itV S (keyC S c) pl (unM p)) (hp : pl < mN S (keyC S c).2.1) (hx : mSo S (keyC S c).2.1 pl = 10 ∨ mSo S (keyC S c).2.1 pl = 11) (hw : wrR S (keyC S c) pl (unM p) = 0) {P : Int} (hP : 0 ≤ P ∧ P < 65536) (hq8 : ∀ b : Nat, bt P b → mSo S (keyC S c).2.1 pl = 10 → 0 ≤ ((b % 8 : Nat) : Int) ∧ ((b % 8 : Nat) : Int) < S 182 (cdR (keyC S c).2.2.1 (unM p) ((unM p).1 (mBb S (keyC S c).2.1 pl).toNat) / 7).toNat) (hE : ∀ b : Nat, bt P b → otK X F W S (keyC S c) (cbR S (keyC S c) pl (unM p) (8 ≤ b) ((b % 8 : Nat) : Int))) (hN8 : S 86 0 + 16 < 262144) {d : Int} {Q : Option Value → am_M → Prop} (kk : ∀ sh' S' L' q1 q2 q3 m, poC sh S L p1 p2 n X F W sh' S' L' q1 q2 q3 m → S' 86 0 ≤ S 86 0 + 16 → (∀ b : Nat, b < 16 → bt P b → otK (XC S' L' q1) (FC S') (WC S') S (keyC S c) (cbR S (keyC S c) pl (unM p) (8 ≤ b) ((b % 8 : Nat) : Int))) → Q none (mm sh' S' L')) : ∀ (q : Nat) (b : Nat) (sh' : List mm_H) (S' : mm_S) (L' : mm_L) (q1 q2 q3 m : Nat), 16 - b < q → (b ≤ 16) → (poC sh S L p1 p2 n X F W sh' S' L' q1 q2 q3 m) → (S' 86 0 ≤ S 86 0 + b) → (∀ b' : Nat, b' < b → bt P b' → otK (XC S' L' q1) (FC S') (WC S') S (keyC S c) (cbR S (keyC S c) pl (unM p) (8 ≤ b') ((b' % 8 : Nat) : Int))) → am_AW eX3_comeBackAsKnown (mm sh' S' L') 14 [some (.ref 85), some (.ref 1), some (.int (iI (i : Int))), some (.int (iI d)), some (.int (iI P)), some (.int (iI (b : Int)))] [] Q := by
  intro q
  induction q with
  | zero =>
    intro b sh' S' L' q1 q2 q3 m hq
    exact absurd hq (Nat.not_lt_zero _)
  | succ q ih =>
    intro b sh' S' L' q1 q2 q3 m hq hb16 hpo hsz hcl
    have hc := hen.1
    have hg := hpo.2.1
    have hk1 := gr_key hg hc
    have hbe := gr_E hg
    have hb' := bkS_of hpo.1.1 jh.2.2.2.2.2.2.2 hb
    have hB' := cbB_of (gr_cb hg) hB
    have jh := jsH_of hpo.1.1 jh
    have hpl := hpo.1.2.1
    have hD' := hpo.1.2.2.1
    refine am_iload rfl dX3_comeBackAsKnown_14 ?_
    refine mm_bipush dX3_comeBackAsKnown_16 (by decide) ?_
    refine mm_jge (tgt := 45) dX3_comeBackAsKnown_18 (by decide) (by omega) (by omega) (fun h18 => ?_) (fun h18 => ?_)
    · have h5 : b = 16 := by omega
      subst h5
      exact am_return dX3_comeBackAsKnown_45 rfl (kk sh' S' L' q1 q2 q3 m hpo hsz hcl)
    · refine am_iload rfl dX3_comeBackAsKnown_21 ?_
      refine am_iload rfl dX3_comeBackAsKnown_23 ?_
      refine mm_ishr dX3_comeBackAsKnown_25 (by omega) (by omega) ?_
      rw [Int.toNat_natCast]
      refine mm_iconst dX3_comeBackAsKnown_26 ?_
      refine mm_iand1 dX3_comeBackAsKnown_27 (div_pow_R (by omega)) ?_
      refine mm_zeq (tgt := 39) dX3_comeBackAsKnown_28 (by decide) (by omega) (fun h28 => ?_) (fun h28 => ?_)
      · refine mm_inc5 dX3_comeBackAsKnown_39 (Nat.le_of_ble_eq_true rfl) (am_c1i _) ?_
        refine am_goto (tgt := 14) dX3_comeBackAsKnown_42 (by decide) ?_
        first
          | (refine ih (b + 1) sh2 S2 L2 t1 t2 t3 m2 (by omega) (by omega) (po_tr hpo hpo2) (by omega) (fun b' y1 y2 => ?_)
             by_cases y : b' = b
             · rw [y]; exact hx2
             · exact otK_mono (gr_X hpo2.2.1) (gr_F hpo2.2.1) (fun r pl => gr_W hpo2.2.1 r pl 5) (hcl b' (by omega) y2))
          | (refine ih (b + 1) sh' S' L' q1 q2 q3 m (by omega) (by omega) hpo (by omega) (fun b' y1 y2 => ?_)
             by_cases y : b' = b
             · rw [y] at y2; unfold bt at y2; exfalso; omega
             · exact hcl b' (by omega) y2)
      · refine am_aload_n rfl dX3_comeBackAsKnown_31 ?_
        refine am_aload_n rfl dX3_comeBackAsKnown_32 ?_
        refine am_iload_n rfl dX3_comeBackAsKnown_33 ?_
        refine am_iload rfl dX3_comeBackAsKnown_34 ?_
        have hbt : bt P b := by rcases bt_dec P b with z | z; exact z; omega
        refine am_cxv (mm_V3 dX3_comeBackAsKnown_36 in_X3_comeBack mk_X3_211 im_X3_comeBack sl_X3_comeBack ⟨Nat.le_of_ble_eq_true rfl, Nat.le_of_ble_eq_true rfl⟩ rfl jh.1 (Nat.le_of_ble_eq_true rfl)) (c_jcb (X := X) (F := F) (W := W) (b := b) (i := i) jh hpl hD' hpo.2.2.1 hpo.2.2.2.1 hb' hB' (by have := hg.2.2.1.1; omega) (gr_en hg hi hen) (by rw [hk1]; exact itV_of hbe hit) (by rw [hk1, bk_N hbe]; exact hp) (by rw [hk1, bk_So hbe]; exact hx) (by rw [hk1, bk_wr hbe]; exact hw) (by omega) (by rw [hk1, bk_So hbe, bk_Bb hbe, hbe.1 182 (by omega) (by omega)]; exact hq8 b hbt) (by rw [hk1, bk_otK hbe, bk_cd hbe]; exact hE b hbt) (by omega)) (fun M1 hqq => ?_)
        obtain ⟨sh2, S2, L2, t1, t2, t3, m2, rfl, hpo2, hsz2, hx2⟩ := hqq
        rw [hk1, bk_otK hbe, bk_cd hbe] at hx2
        refine mm_inc5 dX3_comeBackAsKnown_39 (Nat.le_of_ble_eq_true rfl) (am_c1i _) ?_
        refine am_goto (tgt := 14) dX3_comeBackAsKnown_42 (by decide) ?_
        first
          | (refine ih (b + 1) sh2 S2 L2 t1 t2 t3 m2 (by omega) (by omega) (po_tr hpo hpo2) (by omega) (fun b' y1 y2 => ?_)
             by_cases y : b' = b
             · rw [y]; exact hx2
             · exact otK_mono (gr_X hpo2.2.1) (gr_F hpo2.2.1) (fun r pl => gr_W hpo2.2.1 r pl 5) (hcl b' (by omega) y2))
          | (refine ih (b + 1) sh' S' L' q1 q2 q3 m (by omega) (by omega) hpo (by omega) (fun b' y1 y2 => ?_)
             by_cases y : b' = b
             · rw [y] at y2; unfold bt at y2; exfalso; omega
             · exact hcl b' (by omega) y2)
