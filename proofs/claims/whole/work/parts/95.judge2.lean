/-! ===== books that differ in what is walked alone ===== -/
def bkW (S S' : mm_S) : Prop := (∀ b, b < 193 → b ≠ 181 → S' b = S b) ∧ S' 181 0 = S 181 0 ∧ S' 181 9 = S 181 9
theorem bw_N {S S' : mm_S} (he : bkW S S') (r : Nat) : mN S' r = mN S r := by unfold mN; rw [he.1 189 (by omega) (by omega)]
theorem bw_So {S S' : mm_S} (he : bkW S S') (r : Nat) : mSo S' r = mSo S r := by unfold mSo; rw [he.1 190 (by omega) (by omega)]
theorem bw_Aa {S S' : mm_S} (he : bkW S S') (r pl : Nat) : mAa S' r pl = mAa S r pl := by unfold mAa; rw [he.1 191 (by omega) (by omega)]
theorem bw_Bb {S S' : mm_S} (he : bkW S S') (r pl : Nat) : mBb S' r pl = mBb S r pl := by unfold mBb; rw [he.1 192 (by omega) (by omega)]
theorem bw_mv {S S' : mm_S} (he : bkW S S') (r : Nat) (to : Int) (P : Nat → Int) : mvP S' r to P = mvP S r to P := by unfold mvP; rw [bw_N he, bw_So he]
theorem bw_try {S S' : mm_S} (he : bkW S S') (r : Nat) (pl : Int) : tryM S' r pl = tryM S r pl := by unfold tryM; rw [bw_N he, bw_So he]
theorem bw_ot {S S' : mm_S} (he : bkW S S') (r pl : Nat) (how : Int) (R : rgT) : otR S' r pl how R = otR S r pl how R := by unfold otR gtR; rw [bw_try he, bw_N he, bw_So he, bw_mv he, bw_mv he]
theorem bw_bn {S S' : mm_S} (he : bkW S S') (r i : Nat) : bnM S' r i = bnM S r i := by unfold bnM; rw [bw_N he, bw_So he]
theorem bw_H {S S' : mm_S} (he : bkW S S') (k s n : Int) : mH S' k s n = mH S k s n := by unfold mH; rw [he.1 184 (by omega) (by omega)]
theorem bw_A {S S' : mm_S} (he : bkW S S') (k s n : Int) : mA S' k s n = mA S k s n := by unfold mA; rw [he.1 185 (by omega) (by omega)]
theorem bw_Ff {S S' : mm_S} (he : bkW S S') (k s n : Int) (y : Prop) [Decidable y] : mF S' k s n y = mF S k s n y := by unfold mF; rw [he.1 184 (by omega) (by omega), he.1 185 (by omega) (by omega)]
theorem bw_E {S S' : mm_S} (he : bkW S S') (k s : Int) : mE S' k s = mE S k s := by unfold mE; rw [he.1 183 (by omega) (by omega)]
theorem bw_lf {S S' : mm_S} (he : bkW S S') (c : Int) : lfM S' c = lfM S c := by unfold lfM; rw [bw_E he]
theorem bw_lv {S S' : mm_S} (he : bkW S S') (R : rgT) : lvM S' R = lvM S R := by unfold lvM; simp only [bw_lf he]
theorem bw_en {S S' : mm_S} (he : bkW S S') {F : FT} {W : WT} (κ : kyT) (R : rgT) (b : Int) : enK F W S' κ R b = enK F W S κ R b := by unfold enK; rw [bw_lv he, bw_N he]
theorem bw_otK {S S' : mm_S} (he : bkW S S') {X : XT} {F : FT} {W : WT} (κ : kyT) (z : Int × Int × rgT) : otK X F W S' κ z = otK X F W S κ z := by unfold otK; rw [bw_en he]
theorem bw_lfR {S S' : mm_S} (he : bkW S S') (R : rgT) (a : Nat) (t : Int) : lfR S' R a t = lfR S R a t := by unfold lfR; rw [bw_lf he]
theorem bw_nx {S S' : mm_S} (he : bkW S S') (κ : kyT) (pl : Nat) (R : rgT) (y : Prop) [Decidable y] : nxR S' κ pl R y = nxR S κ pl R y := by
  unfold nxR usR ehR gtR mSo mAa mBb
  rw [he.1 190 (by omega) (by omega), he.1 191 (by omega) (by omega), he.1 192 (by omega) (by omega)]
  simp only [bw_N he, bw_mv he, bw_bn he, bw_ot he, bw_Ff he]
theorem bw_wr {S S' : mm_S} (he : bkW S S') (κ : kyT) (pl : Nat) (R : rgT) : wrR S' κ pl R = wrR S κ pl R := by
  unfold wrR mSo mAa mBb
  rw [he.1 190 (by omega) (by omega), he.1 191 (by omega) (by omega), he.1 192 (by omega) (by omega)]
  simp only [bw_H he, bw_lfR he]
theorem bw_as {S S' : mm_S} (he : bkW S S') (κ : kyT) (pl : Nat) (R : rgT) : asR S' κ pl R = asR S κ pl R := by
  unfold asR mSo mAa mBb
  rw [he.1 190 (by omega) (by omega), he.1 191 (by omega) (by omega), he.1 192 (by omega) (by omega)]
  simp only [bw_A he]
theorem bw_cb {S S' : mm_S} (he : bkW S S') (κ : kyT) (pl : Nat) (R : rgT) (f : Prop) [Decidable f] (st : Int) : cbR S' κ pl R f st = cbR S κ pl R f st := by
  unfold cbR cbT gtR mSo mBb
  rw [he.1 190 (by omega) (by omega), he.1 192 (by omega) (by omega)]
  simp only [bw_mv he, bw_ot he]
theorem bw_cl {S S' : mm_S} (he : bkW S S') (κ : kyT) (pl : Nat) (R : rgT) : clK S' κ pl R = clK S κ pl R := by
  unfold clK mSo mAa mBb
  rw [he.1 190 (by omega) (by omega), he.1 191 (by omega) (by omega), he.1 192 (by omega) (by omega)]
theorem bw_fo {S S' : mm_S} (he : bkW S S') {X : XT} {F : FT} {W : WT} (κ : kyT) (pl : Nat) (R : rgT) : foK X F W S' κ pl R = foK X F W S κ pl R := by
  unfold foK
  rw [bw_N he, bw_wr he, bw_cl he, bw_as he, bw_So he]
  simp only [bw_en he, bw_otK he, bw_cb he, bw_nx he]
theorem bw_cls {S S' : mm_S} (he : bkW S S') {X : XT} {F : FT} {W : WT} : clsK X F W S' = clsK X F W S := by
  unfold clsK
  simp only [bw_fo he]
theorem bw_lfS {S S' : mm_S} (he : bkW S S') : lfX S' = lfX S ∧ lfF S' = lfF S ∧ lfW S' = lfW S := by
  refine ⟨?_, ?_, ?_⟩
  · unfold lfX; simp only [bw_cls he]
  · unfold lfF; simp only [bw_cls he]
  · unfold lfW; simp only [bw_cls he]
theorem wkA_W {S S' : mm_S} (h : wkA S S') : bkW S S' := ⟨fun b x y => h.1 b (by omega) (by omega) (by omega) (by omega) (by omega) y, h.2 0 (by omega), h.2 9 (by omega)⟩
/-- what STATEMENTS say is right -/
def mdO (S : mm_S) : Prop := ∀ r : Nat, (r : Int) < S 181 9 → ∀ i : Nat, i < mN S r → okA (mSo S r i) (S 191 (25 * r + i)) ∧ mokB S (mSo S r i) (S 192 (25 * r + i))
theorem mbW_wk {S S' : mm_S} (h : wkA S S') (hv : mdV S) (hp : mdP S) (hq : mdQ S) (hA : mkA S) (hO : mdO S) (hW : mWhole S) (hw : ∀ r2 : Nat, (r2 : Int) < S 181 9 → wkR S' (mSo S r2) r2 ((S 189 r2).toNat)) : mbW S' := by
  have a : ∀ b, b < 193 → b ≠ 181 → S' b = S b := (wkA_W h).1
  have e0 : S' 181 0 = S 181 0 := h.2 0 (by omega)
  have e9 : S' 181 9 = S 181 9 := h.2 9 (by omega)
  refine ⟨?_, ?_, ?_, by rw [e9]; exact hW.1, fun r hr => ?_⟩
  · unfold mdV at *
    rw [e0, e9, a 182 (by omega) (by omega), a 183 (by omega) (by omega), a 184 (by omega) (by omega), a 185 (by omega) (by omega), a 189 (by omega) (by omega)]
    exact hv
  · unfold mkA mkW at *
    rw [e0, a 182 (by omega) (by omega), a 184 (by omega) (by omega), a 185 (by omega) (by omega)]
    exact hA
  · unfold mdQ at *
    rw [a 190 (by omega) (by omega), a 191 (by omega) (by omega), a 192 (by omega) (by omega)]
    exact hq
  · rw [e9] at hr
    have w1 := hp r hr
    have w2 := hW.2 r hr
    have w3 := hw r hr
    have w4 := hO r hr
    have n0 := (hv.2.2.2.2 r (by have := hv.2.1; omega)).1
    have eS : mSo S' r = mSo S r := by unfold mSo; rw [a 190 (by omega) (by omega)]
    have eN : mN S' r = mN S r := by unfold mN; rw [a 189 (by omega) (by omega)]
    unfold mrW
    rw [eS, eN]
    refine ⟨w1, w2.1, w3, fun i hi => ?_, fun i hi => ?_⟩
    · have := w2.2 i (by unfold mN at hi; omega)
      unfold mCall mR at *
      rw [a 190 (by omega) (by omega), a 191 (by omega) (by omega), e9]
      exact this
    · have := w4 i hi
      unfold mokB mK at *
      rw [a 191 (by omega) (by omega), a 192 (by omega) (by omega), e0]
      exact this
def wzS (S : mm_S) (n : Nat) : mm_S := fun b i => if b = 213 ∧ i < n then 0 else S b i
theorem wzS_0 (S : mm_S) : wzS S 0 = S := by funext b i; simp [wzS]
theorem wzS_s (S : mm_S) (n : Nat) : up2 (wzS S n) 213 n 0 = wzS S (n + 1) := by
  funext b i
  unfold wzS up2
  by_cases h1 : b = 213
  · subst h1
    by_cases h2 : i = n
    · subst h2; simp
    · simp [h2, show (i < n + 1) ↔ i < n by omega]
  · simp [h1]
/-- as the judge begins -/
theorem jw_0 {B V : mm_S} {L : mm_L} (vr : ∀ b, b ≠ 181 → b ≠ 213 → V b = B b) (v13 : ∀ i, i < 150 → V 213 i = 0) (vc : ∀ j, j ≠ 26 → j ≠ 27 → j ≠ 39 → V 181 j = B 181 j) (v26 : V 181 26 = 0) (v27 : V 181 27 = 0) (v39 : V 181 39 = 0) (h40 : B 181 40 = 0 ∨ B 181 40 = 1) : jgF B L V L ∧ imS V L ∧ SubM V L (lfX B) (lfF B) (lfW B) ∧ inS V L ∧ bvS V := by
  refine ⟨⟨fun b x y => vr b y (by omega), fun j _ a2 a3 a4 _ => vc j a2 a3 a4, fun _ _ => rfl⟩, ⟨⟨by omega, fun c hc => by omega⟩, fun c hc => by omega, fun c d hc => by omega, fun x hx => by rw [v13 x hx]; omega, ⟨Or.inl v39, by rw [vc 40 (by omega) (by omega) (by omega)]; exact h40⟩⟩, ⟨?_, ?_, ?_⟩, fun c hc => by omega, fun c hc => by omega⟩
  · rintro κ pl p ⟨c, i, h, -⟩; omega
  · rintro κ b ⟨c, h, -⟩; omega
  · rintro r pl w - - ⟨h1, h2, h3⟩
    rw [v13 _ (by omega)] at h3
    unfold bt at h3
    simp at h3
set_option maxRecDepth 100000 in
set_option maxHeartbeats 4000000 in
theorem l_jz {sh : List mm_H} {S : mm_S} {L : mm_L} (hm : mdS sh) {Q : Option Value → am_M → Prop} (kk : am_AW eX10_judge (mm sh (wzS S 150) L) 47 [some (.ref 181), none, none] [] Q) : ∀ (q : Nat) (n : Nat), 150 - n < q → (n ≤ 150) → am_AW eX10_judge (mm sh (wzS S n) L) 27 [some (.ref 181), some (.int (iI (n : Int))), none] [] Q := by
  intro q
  induction q with
  | zero =>
    intro n hq
    exact absurd hq (Nat.not_lt_zero _)
  | succ q ih =>
    intro n hq hn
    refine am_iload_n rfl dX10_judge_27 ?_
    refine mm_sipush dX10_judge_28 (by decide) ?_
    refine mm_jge (tgt := 47) dX10_judge_31 (by decide) (by omega) (by omega) (fun h31 => ?_) (fun h31 => ?_)
    · have h5 : n = 150 := by omega
      subst h5
      exact am_AW.unset 1 kk
    · refine am_aload_n rfl dX10_judge_34 ?_
      refine mm_getR dX10_judge_35 fl_X10_111 (md_0 hm) mdf_38 ?_
      refine am_iload_n rfl dX10_judge_38 ?_
      refine mm_iconst dX10_judge_39 ?_
      refine mm_ias dX10_judge_40 (md_wrongs hm) (by omega) ?_
      rw [Int.toNat_natCast, wzS_s]
      refine mm_inc1 dX10_judge_41 (Nat.le_of_ble_eq_true rfl) (am_c1r _) ?_
      refine am_goto (tgt := 27) dX10_judge_44 (by decide) ?_
      exact ih (n + 1) (by omega) (by omega)
theorem jw_1 {B V S3 V3 : mm_S} {L L3 : mm_L} (j1 : jgF B L V L) (j4 : inS V L) (j5 : bvS V) (v26 : V 181 26 = 0) (v27 : V 181 27 = 0) (v39 : V 181 39 = 0) (po3 : poM V L (lfX B) (lfF B) (lfW B) S3 L3) {v : Int} (hd : (v = -1 ∧ S3 181 39 = 1) ∨ ∃ d : Nat, v = d ∧ (d : Int) < S3 181 27 ∧ keyM S3 d = ky0) (wr_ : ∀ b, b ≠ 181 → V3 b = S3 b) (wc : ∀ j, j ≠ 40 → V3 181 j = S3 181 j) (w40 : V3 181 40 = 1) (hI : imS V L := by assumption) : jwS B L V3 L3 := by
  have he : bkE S3 V3 := ⟨fun b x y => wr_ b (by omega), wc 0 (by omega), wc 9 (by omega)⟩
  have h2 := po3.2.1
  obtain ⟨i1, i2, i3, i4⟩ := im_bits h2 (fun b a1 _ _ _ => wr_ b a1) wc (fun c hc => by rw [wr_ 207 (by omega), wr_ 208 (by omega)]; exact (h2.2.1 c hc).2.1.2) (fun x hx => by rw [wr_ 213 (by omega)]; exact h2.2.2.2.1 x hx) (Or.inr w40)
  have eF : FM V3 = FM S3 := by
    unfold FM keyM
    rw [wr_ 203 (by omega), wr_ 204 (by omega), wr_ 205 (by omega), wr_ 206 (by omega), wr_ 207 (by omega), wr_ 208 (by omega), wc 27 (by omega)]
  have eW : WM V3 = WM S3 := by unfold WM; rw [wr_ 213 (by omega)]
  have hN := inS_J po3.1 j4
  have hov : S3 181 39 = 1 → OvX (lfX B) := fun e => by
    rcases po3.2.2.2.1 e with q | q
    · omega
    · exact q
  -- the first CASE is the beginning
  have hfirst : S3 181 39 = 1 ∨ ∃ d : Nat, (d : Int) < S3 181 27 ∧ keyM S3 d = ky0 := by
    rcases hd with ⟨-, q⟩ | ⟨d, -, q1, q2⟩
    · exact Or.inl q
    · exact Or.inr ⟨d, q1, q2⟩
  refine ⟨jgF_tr (jgF_po j1 po3) ⟨fun b x y => wr_ b y, fun j _ _ _ _ a => wc j a, fun _ _ => rfl⟩, i1, by unfold SubM; rw [i2, eF, eW]; exact po3.2.2.1, fun c hc => ?_, bvS_of he (fun c _ => i4 c) (wc 27 (by omega)) (wr_ 207 (by omega)) (wr_ 208 (by omega)) (po3.2.2.2.2 j5), by rw [wc 39 (by omega)]; exact hov, by rw [wc 26 (by omega), po3.1.1.2.1 26 (by omega) (by omega) (by omega) (by omega)]; exact v26, by rw [wc 27 (by omega), wc 39 (by omega)]; simp only [i4]; exact hfirst⟩
  rw [wc 27 (by omega)] at hc
  rw [i2, i4]
  exact hN c hc
set_option maxRecDepth 100000 in
set_option maxHeartbeats 4000000 in
theorem m_judge {sh : List mm_H} {S : mm_S} {L : mm_L} (hm : mdS sh) (hv : mdV S) (hp : mdP S) (hq : mdQ S) (hA : mkA S) (hO : mdO S) (h40 : S 181 40 = 0 ∨ S 181 40 = 1) : am_E eX10_judge [.ref 181] (mm sh S L) (fun r0 M' => ∃ v S' L', r0 = some (.int (iI v)) ∧ M' = mm sh S' L' ∧ ((¬ mWhole S ∧ v = -3 ∧ L' = L ∧ wkA S S') ∨ (mWhole S ∧ ∃ B, wkA S B ∧ jdP B L v S' L'))) := by
  refine am_enter rfl rfl (Nat.le_of_ble_eq_true rfl) ?_
  refine am_aload_n rfl dX10_judge_0 ?_
  refine am_cxi (mm_V0 dX10_judge_1 in_X10_isWhole mk_X10_318 im_X10_isWhole sl_X10_isWhole ⟨Nat.le_of_ble_eq_true rfl, Nat.le_of_ble_eq_true rfl⟩ rfl (md_0 hm) (Nat.le_of_ble_eq_true rfl)) (m_isWhole hm hv hp hq) (fun x M1 hq2 => ?_)
  obtain ⟨v, S1, rfl, hx, rfl, hwk, hwr⟩ := hq2
  have hx01 := tells_01 hx
  refine mm_zne (tgt := 10) dX10_judge_4 (by decide) (by omega) (fun h4 => ?_) (fun h4 => ?_)
  · have hW := tells_t hx h4
    have hb := mbW_wk hwk hv hp hq hA hO hW hwr
    have h401 : S1 181 40 = 0 ∨ S1 181 40 = 1 := by rw [hwk.2 40 (by omega)]; exact h40
    refine am_aload_n rfl dX10_judge_10 ?_
    refine mm_iconst dX10_judge_11 ?_
    refine mm_putZ dX10_judge_12 fp_X10_321 (md_0 hm) mdf_26 (Or.inl rfl) ?_
    refine am_aload_n rfl dX10_judge_15 ?_
    refine mm_iconst dX10_judge_16 ?_
    refine mm_putZ dX10_judge_17 fp_X10_233 (md_0 hm) mdf_39 (Or.inl rfl) ?_
    refine am_aload_n rfl dX10_judge_20 ?_
    refine mm_iconst dX10_judge_21 ?_
    refine mm_putI dX10_judge_22 fp_X10_240 (md_0 hm) mdf_27 ?_
    refine mm_iconst dX10_judge_25 ?_
    refine am_ist1 dX10_judge_26 (Nat.le_of_ble_eq_true rfl) (am_c1r _) ?_
    have h9 := l_jz (S := up2 (up2 (up2 S1 181 26 0) 181 39 0) 181 27 0) (L := L) hm (Q := (fun r0 M' => ∃ v S' L', r0 = some (.int (iI v)) ∧ M' = mm sh S' L' ∧ ((¬ mWhole S ∧ v = -3 ∧ L' = L ∧ wkA S S') ∨ (mWhole S ∧ ∃ B, wkA S B ∧ jdP B L v S' L')))) ?_ 151 0 (by omega) (by omega)
    · rw [wzS_0] at h9; exact h9
    obtain ⟨V, hV⟩ : ∃ V, wzS (up2 (up2 (up2 S1 181 26 0) 181 39 0) 181 27 0) 150 = V := ⟨_, rfl⟩
    have vr : ∀ b, b ≠ 181 → b ≠ 213 → V b = S1 b := fun b x y => by
      rw [← hV]; funext i; simp [wzS, up2, x, y]
    have v13 : ∀ i, i < 150 → V 213 i = 0 := fun i hi => by rw [← hV]; simp [wzS, hi]
    have vc : ∀ j, j ≠ 26 → j ≠ 27 → j ≠ 39 → V 181 j = S1 181 j := fun j x y z => by rw [← hV]; simp [wzS, up2, x, y, z]
    have v26 : V 181 26 = 0 := by rw [← hV]; simp [wzS, up2]
    have v27 : V 181 27 = 0 := by rw [← hV]; simp [wzS, up2]
    have v39 : V 181 39 = 0 := by rw [← hV]; simp [wzS, up2]
    obtain ⟨j1, j2, j3, j4, j5⟩ := jw_0 (B := S1) (V := V) (L := L) vr v13 vc v26 v27 v39 h401
    have eB := jgF_E j1
    rw [hV]
    refine am_aload_n rfl dX10_judge_47 ?_
    refine mm_iconst dX10_judge_48 ?_
    refine mm_iconst dX10_judge_49 ?_
    refine mm_iconst dX10_judge_50 ?_
    refine mm_iconst dX10_judge_51 ?_
    refine am_cxi (mm_V4 dX10_judge_52 in_X10_calls mk_X10_284 im_X10_calls sl_X10_calls ⟨Nat.le_of_ble_eq_true rfl, Nat.le_of_ble_eq_true rfl⟩ rfl (md_0 hm) (Nat.le_of_ble_eq_true rfl)) ((by
      have h0 := m_calls (sh := sh) (S := V) (L := L) (X := lfX S1) (F := lfF S1) (W := lfW S1) (κ := ky0) hm (mbW_of eB hb) j2 j3 j4 ⟨by decide, by show (0 : Int) < V 181 9; rw [eB.2.2]; exact hb.2.2.2.1, fun z => absurd rfl z, fun _ => rfl⟩ (cls_lf S1).1
      exact h0.mono (Q' := fun r0 M' => ∃ x, r0 = some (.int x) ∧ ∃ v, x = iI v ∧ ∃ S' L', M' = mm sh S' L' ∧ poM V L (lfX S1) (lfF S1) (lfW S1) S' L' ∧ ((v = -1 ∧ S' 181 39 = 1) ∨ ∃ d : Nat, v = d ∧ (d : Int) < S' 181 27 ∧ keyM S' d = ky0)) (fun r0 M' ⟨v, a1, a2⟩ => ⟨_, a1, v, rfl, a2⟩))) (fun x1 M1 hq3 => ?_)
    obtain ⟨v1, rfl, S3, L3, rfl, po3, hd3⟩ := hq3
    refine am_pop rfl dX10_judge_55 ?_
    refine am_aload_n rfl dX10_judge_56 ?_
    refine mm_iconst dX10_judge_57 ?_
    refine mm_putZ dX10_judge_58 fp_X10_237 (md_0 hm) mdf_40 (Or.inr rfl) ?_
    obtain ⟨V3, hV3⟩ : ∃ V3, up2 S3 181 40 1 = V3 := ⟨_, rfl⟩
    have wr_ : ∀ b, b ≠ 181 → V3 b = S3 b := fun b h => by rw [← hV3]; exact up2_row h
    have wc : ∀ j, j ≠ 40 → V3 181 j = S3 181 j := fun j h => by rw [← hV3]; exact up2_rc h
    have w40 : V3 181 40 = 1 := by rw [← hV3]; exact up2_same _ _ _ _
    rw [hV3]
    have hj : jwS S1 L V3 L3 := jw_1 j1 j4 j5 v26 v27 v39 po3 hd3 wr_ wc w40
    refine am_AW.mono (l_jw hm hb ((100000 - tot V3).toNat + (V3 181 40).toNat + 1) V3 L3 (by omega) hj (fun _ z => by omega)) (fun r0 M' z => ?_)
    obtain ⟨v, S', L', z1, z2, z3⟩ := z
    exact ⟨v, S', L', z1, z2, Or.inr ⟨hW, S1, hwk, z3⟩⟩
  · refine mm_bipush dX10_judge_7 (by decide) ?_
    refine am_ireturn dX10_judge_9 rfl rfl ?_
    exact ⟨-3, S1, L, rfl, rfl, Or.inl ⟨tells_f hx h4, rfl, rfl, hwk⟩⟩
