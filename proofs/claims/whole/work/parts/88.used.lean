/-! ===== used ===== -/
theorem bk_nx {S S' : mm_S} (he : bkE S S') (κ : kyT) (pl : Nat) (R : rgT) (y : Prop) [Decidable y] : nxR S' κ pl R y = nxR S κ pl R y := by
  unfold nxR usR ehR gtR mSo mAa mBb
  rw [he.1 190 (by omega) (by omega), he.1 191 (by omega) (by omega), he.1 192 (by omega) (by omega)]
  simp only [bk_N he, bk_mv he, bk_bn he, bk_ot he, bk_Ff he]
theorem bk_wr {S S' : mm_S} (he : bkE S S') (κ : kyT) (pl : Nat) (R : rgT) : wrR S' κ pl R = wrR S κ pl R := by
  unfold wrR mSo mAa mBb
  rw [he.1 190 (by omega) (by omega), he.1 191 (by omega) (by omega), he.1 192 (by omega) (by omega)]
  simp only [bk_H he, bk_lfR he]
theorem bk_as {S S' : mm_S} (he : bkE S S') (κ : kyT) (pl : Nat) (R : rgT) : asR S' κ pl R = asR S κ pl R := by
  unfold asR mSo mAa mBb
  rw [he.1 190 (by omega) (by omega), he.1 191 (by omega) (by omega), he.1 192 (by omega) (by omega)]
  simp only [bk_A he]
theorem bk_cb {S S' : mm_S} (he : bkE S S') (κ : kyT) (pl : Nat) (R : rgT) (f : Prop) [Decidable f] (st : Int) : cbR S' κ pl R f st = cbR S κ pl R f st := by
  unfold cbR cbT gtR mSo mBb
  rw [he.1 190 (by omega) (by omega), he.1 192 (by omega) (by omega)]
  simp only [bk_mv he, bk_ot he]
theorem bk_cl {S S' : mm_S} (he : bkE S S') (κ : kyT) (pl : Nat) (R : rgT) : clK S' κ pl R = clK S κ pl R := by
  unfold clK mSo mAa mBb
  rw [he.1 190 (by omega) (by omega), he.1 191 (by omega) (by omega), he.1 192 (by omega) (by omega)]
theorem nx_us {S : mm_S} {κ : kyT} {pl : Nat} {R : rgT} {y : Prop} [Decidable y] (hx : mSo S κ.2.1 pl = 1 ∨ mSo S κ.2.1 pl = 2 ∨ mSo S κ.2.1 pl = 5) : nxR S κ pl R y = gtR S κ.2.1 (if mSo S κ.2.1 pl ≠ 1 ∧ ¬ y then bnM S κ.2.1 pl else (pl : Int) + 1) (usR S κ pl R y) := by
  unfold nxR
  rw [if_neg (by omega), if_pos hx]
theorem nx_noask {S : mm_S} {κ : kyT} {pl : Nat} {R : rgT} (hx : mSo S κ.2.1 pl = 1) (ha : ¬ asR S κ pl R) : nxR S κ pl R False = nxR S κ pl R True := by
  have h : ¬ mA S (cdR κ.2.2.1 R (R.1 (mAa S κ.2.1 pl).toNat) / 7) (cdR κ.2.2.1 R (R.1 (mAa S κ.2.1 pl).toNat) % 7) (mBb S κ.2.1 pl) := fun z => ha (Or.inr ⟨hx, z⟩)
  rw [nx_us (Or.inl hx), nx_us (Or.inl hx), if_neg (fun z => z.1 hx), if_neg (fun z => z.1 hx)]
  have e : mF S (cdR κ.2.2.1 R (R.1 (mAa S κ.2.1 pl).toNat) / 7) (cdR κ.2.2.1 R (R.1 (mAa S κ.2.1 pl).toNat) % 7) (mBb S κ.2.1 pl) False = mF S (cdR κ.2.2.1 R (R.1 (mAa S κ.2.1 pl).toNat) / 7) (cdR κ.2.2.1 R (R.1 (mAa S κ.2.1 pl).toNat) % 7) (mBb S κ.2.1 pl) True := by
    unfold mF
    rw [if_pos (Or.inl trivial), if_pos (Or.inr (by unfold mA at h; omega))]
  unfold usR
  rw [e]
theorem un_R {p : Int} (v : Nat) (hv : v < 5) : (unM p).1 v = unS (fun _ _ => 0) p 198 v := by
  simp [unM, nrm, hv, unS, un2, un1, up2]
theorem un_O {S : mm_S} {p : Int} {j : Nat} (h : j < 5) : unS S p 199 j = (unM p).2.1 j := by
  rw [← rgS_un S p]
  exact (rg_O h).symm
theorem un_V {S : mm_S} {p : Int} {j : Nat} (h : j < 5) : unS S p 198 j = (unM p).1 j := by
  rw [← rgS_un S p]
  exact (rg_V h).symm
theorem bn_R {S : mm_S} {r i : Nat} (hw : mrC S r) (hi : i < mN S r) (ho : opn (mSo S r i)) : 0 ≤ bnM S r i ∧ bnM S r i ≤ mN S r := by
  have h1 := midO_lt (mSo S r) (mN S r) i
  have h2 := blk_end hw.1 hw.2.1 ho hi
  unfold bnM
  split <;> omega
set_option maxRecDepth 100000 in
set_option maxHeartbeats 8000000 in
theorem l_us0 {sh : List mm_H} {S : mm_S} {L : mm_L} (hm : mdS sh) (hb : mbW S) (hI : imS S L) {X : XT} {F : FT} {W : WT} (hS : SubM S L X F W) {c : Nat} (hc : (c : Int) < S 181 27) {p : Int} (hp0 : 0 ≤ p ∧ p < 9223372036854775808) {pl : Nat} (hp : pl < mN S (S 204 c).toNat) (hx : mSo S (S 204 c).toNat pl = 1 ∨ mSo S (S 204 c).toNat pl = 2 ∨ mSo S (S 204 c).toNat pl = 5) (hR : rgV S (keyM S c) (unM p)) (hw : wrR S (keyM S c) pl (unM p) = 0) (hE : otK X F W S (keyM S c) (nxR S (keyM S c) pl (unM p) True)) {Q : Option Value → am_M → Prop} (kk : ∀ S' L', poM S L X F W S' L' → (S' 181 39 = 0 → otK (XM S' L') (FM S') (WM S') S (keyM S c) (nxR S (keyM S c) pl (unM p) True)) → am_AW eX10_used (mm sh S' L') 163 [some (.ref 181), some (.int (iI (c : Int))), some (.long (lI p)), none, some (.int (iI (pl : Int))), some (.int (iI (mSo S (S 204 c).toNat pl))), some (.int (iI (((S 204 c).toNat : Nat) : Int))), some (.int (iI ((25 * (S 204 c).toNat + pl : Nat) : Int))), some (.int (iI ((unM p).1 (mAa S (S 204 c).toNat pl).toNat))), some (.int (iI 0)), some (.int (iI (cdR (S 205 c) (unM p) ((unM p).1 (mAa S (S 204 c).toNat pl).toNat)))), some (.int (iI (cdR (S 205 c) (unM p) ((unM p).1 (mAa S (S 204 c).toNat pl).toNat) / 7))), some (.int (iI (cdR (S 205 c) (unM p) ((unM p).1 (mAa S (S 204 c).toNat pl).toNat) % 7))), some (.int (iI 0))] [] Q) : am_AW eX10_used (mm sh S L) 96 [some (.ref 181), some (.int (iI (c : Int))), some (.long (lI p)), none, some (.int (iI (pl : Int))), some (.int (iI (mSo S (S 204 c).toNat pl))), some (.int (iI (((S 204 c).toNat : Nat) : Int))), some (.int (iI ((25 * (S 204 c).toNat + pl : Nat) : Int))), some (.int (iI ((unM p).1 (mAa S (S 204 c).toNat pl).toNat))), some (.int (iI 0)), some (.int (iI (cdR (S 205 c) (unM p) ((unM p).1 (mAa S (S 204 c).toNat pl).toNat)))), some (.int (iI (cdR (S 205 c) (unM p) ((unM p).1 (mAa S (S 204 c).toNat pl).toNat) / 7))), some (.int (iI (cdR (S 205 c) (unM p) ((unM p).1 (mAa S (S 204 c).toNat pl).toNat) % 7))), some (.int (iI 0))] [] Q := by
  have hcs := hI.1
  have hc27 := hI.1.1
  have hcc := hcs.2 c hc
  have hκ := (hI.2.1 c hc).1
  have hr9 : (((S 204 c).toNat : Nat) : Int) < S 181 9 := hκ.2.1
  have hrw := hb.2.2.2.2 (S 204 c).toNat hr9
  have h24 := hb.1.2.2.2.2 (S 204 c).toNat (by omega)
  have hc40 : c < 40 := by omega
  have er204 : S 204 c = (((S 204 c).toNat : Nat) : Int) := by omega
  have hN : ((mN S (S 204 c).toNat : Nat) : Int) = S 189 (S 204 c).toNat := by unfold mN; omega
  have hkA : (0 ≤ mAa S (S 204 c).toNat pl ∧ mAa S (S 204 c).toNat pl < 5) ∧ (0 ≤ mBb S (S 204 c).toNat pl ∧ mBb S (S 204 c).toNat pl < 8) := by have ok := (mrW_C hrw).2.2.2 pl hp; omega
  obtain ⟨A0, hA0⟩ : ∃ A0 : Nat, (mAa S (S 204 c).toNat pl).toNat = A0 := ⟨_, rfl⟩
  have hA5 : A0 < 5 := by omega
  have hAi : mAa S (S 204 c).toNat pl = (A0 : Int) := by omega
  have hT6 := hR.1.1 A0 hA5
  have u := wr_use (S := S) (κ := keyM S c) (pl := pl) (R := unM p) hx hw
  have u1 : (unM p).1 A0 ≠ 0 := by rw [← hA0]; exact u.1
  have okc := cd_ok hR hb.1 hA5 u1
  have okc : okC S (cdR (S 205 c) (unM p) ((unM p).1 A0)) := okc
  have u2 : cdR (S 205 c) (unM p) ((unM p).1 A0) % 7 ≠ 6 := by rw [← hA0]; exact u.2.1
  have u3 : mH S (cdR (S 205 c) (unM p) ((unM p).1 A0) / 7) (cdR (S 205 c) (unM p) ((unM p).1 A0) % 7) (mBb S (S 204 c).toNat pl) := by rw [← hA0]; exact u.2.2
  have mf := mF_okC (mbW_C hb) okc u2 hkA.2 u3 (y := True)
  have ok1 := okc.1
  have ok2 := okc.2.1
  have v0 := hb.1.1
  rw [hA0]
  obtain ⟨C0, hC0⟩ : ∃ C0, cdR (S 205 c) (unM p) ((unM p).1 A0) = C0 := ⟨_, rfl⟩
  rw [hC0] at ok1 ok2 u2 u3 mf
  have eus : usR S (keyM S c) pl (unM p) True = tnR (unM p) ((unM p).1 A0) (mF S (C0 / 7) (C0 % 7) (mBb S (S 204 c).toNat pl) True) := by
    unfold usR
    show tnR (unM p) ((unM p).1 (mAa S (S 204 c).toNat pl).toNat) (mF S (cdR (S 205 c) (unM p) ((unM p).1 (mAa S (S 204 c).toNat pl).toNat) / 7) (cdR (S 205 c) (unM p) ((unM p).1 (mAa S (S 204 c).toNat pl).toNat) % 7) (mBb S (S 204 c).toNat pl) True) = _
    rw [hA0, hC0]
  rw [hC0]
  have rgU : rgV S (keyM S c) (usR S (keyM S c) pl (unM p) True) := by
    rw [eus]
    refine rg_turn hb.1 hR hA5 u1 mf.1 (Or.inl ?_)
    rw [show cdR (keyM S c).2.2.1 (unM p) ((unM p).1 A0) = C0 from hC0]
    exact mf.2
  have enx := nx_us (S := S) (κ := keyM S c) (pl := pl) (R := unM p) (y := True) hx
  have hFu : rgF S (unS S p) := rgF_un
  have tne : (unM p).1 A0 ≠ 1 → 0 ≤ (unM p).1 A0 - 2 ∧ (unM p).1 A0 - 2 < 5 := by omega
  rw [enx] at hE
  rw [enx] at kk
  have hk6 : 0 ≤ C0 / 7 ∧ C0 / 7 < 6 := by omega
  have hs6 : 0 ≤ C0 % 7 ∧ C0 % 7 < 6 := by omega
  clear u u2 u3 okc enx
  refine am_aload_n rfl dX10_used_96 ?_
  refine am_lload_n rfl dX10_used_97 ?_
  refine am_cv (mm_V1 dX10_used_98 in_X10_unpack mk_X10_287 im_X10_unpack sl_X10_unpack ⟨Nat.le_of_ble_eq_true rfl, Nat.le_of_ble_eq_true rfl⟩ rfl (md_0 hm) (Nat.le_of_ble_eq_true rfl)) (m_unpack hm hp0) ?_
  have hrgu : rgS (unS S p) = unM p := rgS_un S p
  refine am_aload_n rfl dX10_used_101 ?_
  refine am_iload rfl dX10_used_102 ?_
  refine am_aload_n rfl dX10_used_104 ?_
  refine am_iload rfl dX10_used_105 ?_
  refine am_iload rfl dX10_used_107 ?_
  refine am_aload_n rfl dX10_used_109 ?_
  refine mm_getR dX10_used_110 fl_X10_45 (md_0 hm) mdf_13 ?_
  refine am_iload rfl dX10_used_113 ?_
  refine mm_ial dX10_used_115 (md_bAt hm) (by omega) ?_
  rw [Int.toNat_natCast, hFu.1 192 (by omega) (by omega)]
  refine am_iload rfl dX10_used_116 ?_
  refine mm_zne (tgt := 125) dX10_used_118 (by decide) (by omega) (fun h118 => ?_) (fun h118 => ?_)
  · exfalso; omega
  · refine mm_iconst dX10_used_121 ?_
    refine am_goto (tgt := 126) dX10_used_122 (by decide) ?_
    refine am_ci (mm_V4 dX10_used_126 in_X10_led mk_X10_163 im_X10_led sl_X10_led ⟨Nat.le_of_ble_eq_true rfl, Nat.le_of_ble_eq_true rfl⟩ rfl (md_0 hm) (Nat.le_of_ble_eq_true rfl)) (m_led hm (mdV_of (rgF_E hFu) hb.1) (k := C0 / 7) (s := C0 % 7) (y := True) hk6 hs6 hkA.2) ?_
    rw [bk_Ff (rgF_E hFu)]
    refine am_cv (mm_V2 dX10_used_129 in_X10_turns mk_X10_291 im_X10_turns sl_X10_turns ⟨Nat.le_of_ble_eq_true rfl, Nat.le_of_ble_eq_true rfl⟩ rfl (md_0 hm) (Nat.le_of_ble_eq_true rfl)) (m_turns hm (by omega) (fun z => by have z2 := tne z; rw [un_O (by omega)]; exact hR.1.2.1 _ (by omega))) ?_
    obtain ⟨V, hV⟩ : ∃ V, tnS (unS S p) ((unM p).1 A0) (mF S (C0 / 7) (C0 % 7) (mBb S (S 204 c).toNat pl) True) = V := ⟨_, rfl⟩
    have hF : rgF S V := by rw [← hV]; exact rgF_tr hFu rgF_tn
    have hrg : rgS V = usR S (keyM S c) pl (unM p) True := by rw [← hV, rg_tn tne, hrgu, eus]
    have hk1 : keyM V c = keyM S c := rgF_key hF c
    have hEb := rgF_E hF
    rw [hV]
    refine am_aload_n rfl dX10_used_132 ?_
    refine am_iload_n rfl dX10_used_133 ?_
    refine am_iload rfl dX10_used_134 ?_
    refine mm_iconst dX10_used_136 ?_
    refine mm_jeq (tgt := 145) dX10_used_137 (by decide) (by omega) (by omega) (fun h137 => ?_) (fun h137 => ?_)
    · refine am_iload rfl dX10_used_145 ?_
      refine mm_iconst dX10_used_147 ?_
      refine mm_iadd dX10_used_148 ?_
      refine am_goto (tgt := 160) dX10_used_149 (by decide) ?_
      refine am_cxv (mm_V2 dX10_used_160 in_X10_goes mk_X10_268 im_X10_goes sl_X10_goes ⟨Nat.le_of_ble_eq_true rfl, Nat.le_of_ble_eq_true rfl⟩ rfl (md_0 hm) (Nat.le_of_ble_eq_true rfl)) (m_goes (X := X) (F := F) (W := W) hm (mbW_of hEb hb) (rgF_I hF hI) (rgF_S hF hS) (c := c) (by rw [hF.2 27 (by omega)]; exact hc) (by rw [hF.1 204 (by omega) (by omega), hF.1 189 (by omega) (by omega)]; omega) (by rw [hk1, hrg]; exact rgV_of hEb rgU) (by rw [hk1, hrg, hF.1 204 (by omega) (by omega), gtR, bk_mv hEb]; exact (by rw [if_neg (fun z => z.2 trivial), otK_1] at hE; exact hE))) (fun M1 hq => ?_)
      obtain ⟨S2, L2, rfl, hpo, hxx⟩ := hq
      rw [hk1, hrg, hF.1 204 (by omega) (by omega), gtR, bk_mv hEb] at hxx
      rw [if_neg (fun z => z.2 trivial)] at kk
      simp only [otK_1] at kk
      rw [hA0, hC0] at kk
      exact kk S2 L2 (poM_tr (poM_rg hF hI hS) hpo) hxx
    · refine am_iload rfl dX10_used_140 ?_
      refine mm_zne (tgt := 152) dX10_used_142 (by decide) (by omega) (fun h142 => ?_) (fun h142 => ?_)
      · exfalso; omega
      · refine am_iload rfl dX10_used_145 ?_
        refine mm_iconst dX10_used_147 ?_
        refine mm_iadd dX10_used_148 ?_
        refine am_goto (tgt := 160) dX10_used_149 (by decide) ?_
        refine am_cxv (mm_V2 dX10_used_160 in_X10_goes mk_X10_268 im_X10_goes sl_X10_goes ⟨Nat.le_of_ble_eq_true rfl, Nat.le_of_ble_eq_true rfl⟩ rfl (md_0 hm) (Nat.le_of_ble_eq_true rfl)) (m_goes (X := X) (F := F) (W := W) hm (mbW_of hEb hb) (rgF_I hF hI) (rgF_S hF hS) (c := c) (by rw [hF.2 27 (by omega)]; exact hc) (by rw [hF.1 204 (by omega) (by omega), hF.1 189 (by omega) (by omega)]; omega) (by rw [hk1, hrg]; exact rgV_of hEb rgU) (by rw [hk1, hrg, hF.1 204 (by omega) (by omega), gtR, bk_mv hEb]; exact (by rw [if_neg (fun z => z.2 trivial), otK_1] at hE; exact hE))) (fun M1 hq => ?_)
        obtain ⟨S2, L2, rfl, hpo, hxx⟩ := hq
        rw [hk1, hrg, hF.1 204 (by omega) (by omega), gtR, bk_mv hEb] at hxx
        rw [if_neg (fun z => z.2 trivial)] at kk
        simp only [otK_1] at kk
        rw [hA0, hC0] at kk
        exact kk S2 L2 (poM_tr (poM_rg hF hI hS) hpo) hxx
set_option maxRecDepth 100000 in
set_option maxHeartbeats 8000000 in
theorem l_us1 {sh : List mm_H} {S : mm_S} {L : mm_L} (hm : mdS sh) (hb : mbW S) (hI : imS S L) {X : XT} {F : FT} {W : WT} (hS : SubM S L X F W) {c : Nat} (hc : (c : Int) < S 181 27) {p : Int} (hp0 : 0 ≤ p ∧ p < 9223372036854775808) {pl : Nat} (hp : pl < mN S (S 204 c).toNat) (hx : mSo S (S 204 c).toNat pl = 1 ∨ mSo S (S 204 c).toNat pl = 2 ∨ mSo S (S 204 c).toNat pl = 5) (hR : rgV S (keyM S c) (unM p)) (hw : wrR S (keyM S c) pl (unM p) = 0) (hE : otK X F W S (keyM S c) (nxR S (keyM S c) pl (unM p) False)) {Q : Option Value → am_M → Prop} (kk : ∀ S' L', poM S L X F W S' L' → (S' 181 39 = 0 → otK (XM S' L') (FM S') (WM S') S (keyM S c) (nxR S (keyM S c) pl (unM p) False)) → am_AW eX10_used (mm sh S' L') 163 [some (.ref 181), some (.int (iI (c : Int))), some (.long (lI p)), none, some (.int (iI (pl : Int))), some (.int (iI (mSo S (S 204 c).toNat pl))), some (.int (iI (((S 204 c).toNat : Nat) : Int))), some (.int (iI ((25 * (S 204 c).toNat + pl : Nat) : Int))), some (.int (iI ((unM p).1 (mAa S (S 204 c).toNat pl).toNat))), some (.int (iI 0)), some (.int (iI (cdR (S 205 c) (unM p) ((unM p).1 (mAa S (S 204 c).toNat pl).toNat)))), some (.int (iI (cdR (S 205 c) (unM p) ((unM p).1 (mAa S (S 204 c).toNat pl).toNat) / 7))), some (.int (iI (cdR (S 205 c) (unM p) ((unM p).1 (mAa S (S 204 c).toNat pl).toNat) % 7))), some (.int (iI 1))] [] Q) : am_AW eX10_used (mm sh S L) 96 [some (.ref 181), some (.int (iI (c : Int))), some (.long (lI p)), none, some (.int (iI (pl : Int))), some (.int (iI (mSo S (S 204 c).toNat pl))), some (.int (iI (((S 204 c).toNat : Nat) : Int))), some (.int (iI ((25 * (S 204 c).toNat + pl : Nat) : Int))), some (.int (iI ((unM p).1 (mAa S (S 204 c).toNat pl).toNat))), some (.int (iI 0)), some (.int (iI (cdR (S 205 c) (unM p) ((unM p).1 (mAa S (S 204 c).toNat pl).toNat)))), some (.int (iI (cdR (S 205 c) (unM p) ((unM p).1 (mAa S (S 204 c).toNat pl).toNat) / 7))), some (.int (iI (cdR (S 205 c) (unM p) ((unM p).1 (mAa S (S 204 c).toNat pl).toNat) % 7))), some (.int (iI 1))] [] Q := by
  have hcs := hI.1
  have hc27 := hI.1.1
  have hcc := hcs.2 c hc
  have hκ := (hI.2.1 c hc).1
  have hr9 : (((S 204 c).toNat : Nat) : Int) < S 181 9 := hκ.2.1
  have hrw := hb.2.2.2.2 (S 204 c).toNat hr9
  have h24 := hb.1.2.2.2.2 (S 204 c).toNat (by omega)
  have hc40 : c < 40 := by omega
  have er204 : S 204 c = (((S 204 c).toNat : Nat) : Int) := by omega
  have hN : ((mN S (S 204 c).toNat : Nat) : Int) = S 189 (S 204 c).toNat := by unfold mN; omega
  have hkA : (0 ≤ mAa S (S 204 c).toNat pl ∧ mAa S (S 204 c).toNat pl < 5) ∧ (0 ≤ mBb S (S 204 c).toNat pl ∧ mBb S (S 204 c).toNat pl < 8) := by have ok := (mrW_C hrw).2.2.2 pl hp; omega
  obtain ⟨A0, hA0⟩ : ∃ A0 : Nat, (mAa S (S 204 c).toNat pl).toNat = A0 := ⟨_, rfl⟩
  have hA5 : A0 < 5 := by omega
  have hAi : mAa S (S 204 c).toNat pl = (A0 : Int) := by omega
  have hT6 := hR.1.1 A0 hA5
  have u := wr_use (S := S) (κ := keyM S c) (pl := pl) (R := unM p) hx hw
  have u1 : (unM p).1 A0 ≠ 0 := by rw [← hA0]; exact u.1
  have okc := cd_ok hR hb.1 hA5 u1
  have okc : okC S (cdR (S 205 c) (unM p) ((unM p).1 A0)) := okc
  have u2 : cdR (S 205 c) (unM p) ((unM p).1 A0) % 7 ≠ 6 := by rw [← hA0]; exact u.2.1
  have u3 : mH S (cdR (S 205 c) (unM p) ((unM p).1 A0) / 7) (cdR (S 205 c) (unM p) ((unM p).1 A0) % 7) (mBb S (S 204 c).toNat pl) := by rw [← hA0]; exact u.2.2
  have mf := mF_okC (mbW_C hb) okc u2 hkA.2 u3 (y := False)
  have ok1 := okc.1
  have ok2 := okc.2.1
  have v0 := hb.1.1
  rw [hA0]
  obtain ⟨C0, hC0⟩ : ∃ C0, cdR (S 205 c) (unM p) ((unM p).1 A0) = C0 := ⟨_, rfl⟩
  rw [hC0] at ok1 ok2 u2 u3 mf
  have eus : usR S (keyM S c) pl (unM p) False = tnR (unM p) ((unM p).1 A0) (mF S (C0 / 7) (C0 % 7) (mBb S (S 204 c).toNat pl) False) := by
    unfold usR
    show tnR (unM p) ((unM p).1 (mAa S (S 204 c).toNat pl).toNat) (mF S (cdR (S 205 c) (unM p) ((unM p).1 (mAa S (S 204 c).toNat pl).toNat) / 7) (cdR (S 205 c) (unM p) ((unM p).1 (mAa S (S 204 c).toNat pl).toNat) % 7) (mBb S (S 204 c).toNat pl) False) = _
    rw [hA0, hC0]
  rw [hC0]
  have rgU : rgV S (keyM S c) (usR S (keyM S c) pl (unM p) False) := by
    rw [eus]
    refine rg_turn hb.1 hR hA5 u1 mf.1 (Or.inl ?_)
    rw [show cdR (keyM S c).2.2.1 (unM p) ((unM p).1 A0) = C0 from hC0]
    exact mf.2
  have enx := nx_us (S := S) (κ := keyM S c) (pl := pl) (R := unM p) (y := False) hx
  have hFu : rgF S (unS S p) := rgF_un
  have tne : (unM p).1 A0 ≠ 1 → 0 ≤ (unM p).1 A0 - 2 ∧ (unM p).1 A0 - 2 < 5 := by omega
  rw [enx] at hE
  rw [enx] at kk
  have hk6 : 0 ≤ C0 / 7 ∧ C0 / 7 < 6 := by omega
  have hs6 : 0 ≤ C0 % 7 ∧ C0 % 7 < 6 := by omega
  clear u u2 u3 okc enx
  refine am_aload_n rfl dX10_used_96 ?_
  refine am_lload_n rfl dX10_used_97 ?_
  refine am_cv (mm_V1 dX10_used_98 in_X10_unpack mk_X10_287 im_X10_unpack sl_X10_unpack ⟨Nat.le_of_ble_eq_true rfl, Nat.le_of_ble_eq_true rfl⟩ rfl (md_0 hm) (Nat.le_of_ble_eq_true rfl)) (m_unpack hm hp0) ?_
  have hrgu : rgS (unS S p) = unM p := rgS_un S p
  refine am_aload_n rfl dX10_used_101 ?_
  refine am_iload rfl dX10_used_102 ?_
  refine am_aload_n rfl dX10_used_104 ?_
  refine am_iload rfl dX10_used_105 ?_
  refine am_iload rfl dX10_used_107 ?_
  refine am_aload_n rfl dX10_used_109 ?_
  refine mm_getR dX10_used_110 fl_X10_45 (md_0 hm) mdf_13 ?_
  refine am_iload rfl dX10_used_113 ?_
  refine mm_ial dX10_used_115 (md_bAt hm) (by omega) ?_
  rw [Int.toNat_natCast, hFu.1 192 (by omega) (by omega)]
  refine am_iload rfl dX10_used_116 ?_
  refine mm_zne (tgt := 125) dX10_used_118 (by decide) (by omega) (fun h118 => ?_) (fun h118 => ?_)
  · refine mm_iconst dX10_used_125 ?_
    refine am_ci (mm_V4 dX10_used_126 in_X10_led mk_X10_163 im_X10_led sl_X10_led ⟨Nat.le_of_ble_eq_true rfl, Nat.le_of_ble_eq_true rfl⟩ rfl (md_0 hm) (Nat.le_of_ble_eq_true rfl)) (m_led hm (mdV_of (rgF_E hFu) hb.1) (k := C0 / 7) (s := C0 % 7) (y := False) hk6 hs6 hkA.2) ?_
    rw [bk_Ff (rgF_E hFu)]
    refine am_cv (mm_V2 dX10_used_129 in_X10_turns mk_X10_291 im_X10_turns sl_X10_turns ⟨Nat.le_of_ble_eq_true rfl, Nat.le_of_ble_eq_true rfl⟩ rfl (md_0 hm) (Nat.le_of_ble_eq_true rfl)) (m_turns hm (by omega) (fun z => by have z2 := tne z; rw [un_O (by omega)]; exact hR.1.2.1 _ (by omega))) ?_
    obtain ⟨V, hV⟩ : ∃ V, tnS (unS S p) ((unM p).1 A0) (mF S (C0 / 7) (C0 % 7) (mBb S (S 204 c).toNat pl) False) = V := ⟨_, rfl⟩
    have hF : rgF S V := by rw [← hV]; exact rgF_tr hFu rgF_tn
    have hrg : rgS V = usR S (keyM S c) pl (unM p) False := by rw [← hV, rg_tn tne, hrgu, eus]
    have hk1 : keyM V c = keyM S c := rgF_key hF c
    have hEb := rgF_E hF
    rw [hV]
    refine am_aload_n rfl dX10_used_132 ?_
    refine am_iload_n rfl dX10_used_133 ?_
    refine am_iload rfl dX10_used_134 ?_
    refine mm_iconst dX10_used_136 ?_
    refine mm_jeq (tgt := 145) dX10_used_137 (by decide) (by omega) (by omega) (fun h137 => ?_) (fun h137 => ?_)
    · refine am_iload rfl dX10_used_145 ?_
      refine mm_iconst dX10_used_147 ?_
      refine mm_iadd dX10_used_148 ?_
      refine am_goto (tgt := 160) dX10_used_149 (by decide) ?_
      refine am_cxv (mm_V2 dX10_used_160 in_X10_goes mk_X10_268 im_X10_goes sl_X10_goes ⟨Nat.le_of_ble_eq_true rfl, Nat.le_of_ble_eq_true rfl⟩ rfl (md_0 hm) (Nat.le_of_ble_eq_true rfl)) (m_goes (X := X) (F := F) (W := W) hm (mbW_of hEb hb) (rgF_I hF hI) (rgF_S hF hS) (c := c) (by rw [hF.2 27 (by omega)]; exact hc) (by rw [hF.1 204 (by omega) (by omega), hF.1 189 (by omega) (by omega)]; omega) (by rw [hk1, hrg]; exact rgV_of hEb rgU) (by rw [hk1, hrg, hF.1 204 (by omega) (by omega), gtR, bk_mv hEb]; exact (by first | (rw [if_neg (fun z => z.1 h137), otK_1] at hE; exact hE) | (rw [if_pos ⟨h137, fun z => z⟩, otK_1] at hE; exact hE)))) (fun M1 hq => ?_)
      obtain ⟨S2, L2, rfl, hpo, hxx⟩ := hq
      rw [hk1, hrg, hF.1 204 (by omega) (by omega), gtR, bk_mv hEb] at hxx
      first
        | (rw [if_neg (fun z => z.1 h137)] at kk; simp only [otK_1] at kk; rw [hA0, hC0] at kk; exact kk S2 L2 (poM_tr (poM_rg hF hI hS) hpo) hxx)
        | (rw [if_pos ⟨h137, fun z => z⟩] at kk; simp only [otK_1] at kk; rw [hA0, hC0] at kk; exact kk S2 L2 (poM_tr (poM_rg hF hI hS) hpo) hxx)
    · refine am_iload rfl dX10_used_140 ?_
      refine mm_zne (tgt := 152) dX10_used_142 (by decide) (by omega) (fun h142 => ?_) (fun h142 => ?_)
      · refine am_aload_n rfl dX10_used_152 ?_
        refine am_iload rfl dX10_used_153 ?_
        refine am_iload rfl dX10_used_155 ?_
        refine am_ci (mm_V2 dX10_used_157 in_X10_behindNo mk_X10_297 im_X10_behindNo sl_X10_behindNo ⟨Nat.le_of_ble_eq_true rfl, Nat.le_of_ble_eq_true rfl⟩ rfl (md_0 hm) (Nat.le_of_ble_eq_true rfl)) (m_behindNo hm (by omega) (by rw [hF.1 189 (by omega) (by omega)]; exact h24.2) (mrW_of hEb hrw) (by rw [bk_N hEb]; exact hp) (by rw [bk_So hEb]; exact Or.inl (by omega))) ?_
        rw [bk_bn hEb]
        have hbn := bn_R (mrW_C hrw) hp (Or.inl (by omega))
        refine am_cxv (mm_V2 dX10_used_160 in_X10_goes mk_X10_268 im_X10_goes sl_X10_goes ⟨Nat.le_of_ble_eq_true rfl, Nat.le_of_ble_eq_true rfl⟩ rfl (md_0 hm) (Nat.le_of_ble_eq_true rfl)) (m_goes (X := X) (F := F) (W := W) hm (mbW_of hEb hb) (rgF_I hF hI) (rgF_S hF hS) (c := c) (by rw [hF.2 27 (by omega)]; exact hc) (by rw [hF.1 204 (by omega) (by omega), hF.1 189 (by omega) (by omega)]; omega) (by rw [hk1, hrg]; exact rgV_of hEb rgU) (by rw [hk1, hrg, hF.1 204 (by omega) (by omega), gtR, bk_mv hEb]; exact (by first | (rw [if_neg (fun z => z.1 h137), otK_1] at hE; exact hE) | (rw [if_pos ⟨h137, fun z => z⟩, otK_1] at hE; exact hE)))) (fun M1 hq => ?_)
        obtain ⟨S2, L2, rfl, hpo, hxx⟩ := hq
        rw [hk1, hrg, hF.1 204 (by omega) (by omega), gtR, bk_mv hEb] at hxx
        first
          | (rw [if_neg (fun z => z.1 h137)] at kk; simp only [otK_1] at kk; rw [hA0, hC0] at kk; exact kk S2 L2 (poM_tr (poM_rg hF hI hS) hpo) hxx)
          | (rw [if_pos ⟨h137, fun z => z⟩] at kk; simp only [otK_1] at kk; rw [hA0, hC0] at kk; exact kk S2 L2 (poM_tr (poM_rg hF hI hS) hpo) hxx)
      · exfalso; omega
  · exfalso; omega
