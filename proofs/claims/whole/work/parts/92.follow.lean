/-! ===== follow ===== -/
set_option maxRecDepth 100000 in
set_option maxHeartbeats 32000000 in
theorem l_fol {sh : List mm_H} {S : mm_S} {L : mm_L} (hm : mdS sh) (hb : mbW S) (hI : imS S L) {X : XT} {F : FT} {W : WT} (hS : SubM S L X F W) {c : Nat} (hc : (c : Int) < S 181 27) {p : Int} (hp0 : 0 ≤ p ∧ p < 9223372036854775808) {pl : Nat} (hit : itV S (keyM S c) pl (unM p)) (hrg : rgS S = unM p) (hv : bvS S) (hNN : inS S L) (hE : foK X F W S (keyM S c) pl (unM p)) {e : Int} : am_AW eX10_follow (mm sh S L) 28 [some (.ref 181), some (.int (iI (c : Int))), some (.int (iI e)), some (.long (lI p)), none, some (.int (iI (pl : Int))), some (.int (iI (((S 204 c).toNat : Nat) : Int))), none, none] [] (fun r0 M' => r0 = none ∧ ∃ S' L', M' = mm sh S' L' ∧ poM S L X F W S' L' ∧ (S' 181 39 = 0 → S' 181 40 = 0 → foK (XM S' L') (FM S') (WM S') S (keyM S c) pl (unM p))) := by
  have hcs := hI.1
  have hc27 := hI.1.1
  have hcc := hcs.2 c hc
  have hκ := (hI.2.1 c hc).1
  have hr9 : (((S 204 c).toNat : Nat) : Int) < S 181 9 := hκ.2.1
  have hrw := hb.2.2.2.2 (S 204 c).toNat hr9
  have h24 := hb.1.2.2.2.2 (S 204 c).toNat (by omega)
  have hc40 : c < 40 := by omega
  have er204 : S 204 c = (((S 204 c).toNat : Nat) : Int) := by omega
  have hN : ((mN S (S 204 c).toNat : Nat) : Int) = S 189 (S 204 c).toNat := by unfold mN; omega
  have hR := hit.1
  have hRS : rgV S (keyM S c) (rgS S) := by rw [hrg]; exact hR
  have hple : 0 ≤ (pl : Int) ∧ (pl : Int) ≤ S 189 (S 204 c).toNat := hit.2.1
  refine am_iload rfl dX10_follow_28 ?_
  refine am_aload_n rfl dX10_follow_30 ?_
  refine mm_getR dX10_follow_31 fl_X10_36 (md_0 hm) mdf_10 ?_
  refine am_iload rfl dX10_follow_34 ?_
  refine mm_ial dX10_follow_36 (md_many hm) (by omega) ?_
  rw [Int.toNat_natCast]
  refine mm_jne (tgt := 47) dX10_follow_37 (by decide) (by omega) (by omega) (fun h37 => ?_) (fun h37 => ?_)
  · have hp : pl < mN S (S 204 c).toNat := by omega
    have eIx : (25 * (((S 204 c).toNat : Nat) : Int) + (pl : Int)) = ((25 * (S 204 c).toNat + pl : Nat) : Int) := by omega
    have wf := (hrw.1 pl hp).1
    have okf := (mrW_C hrw).2.2.2 pl
    obtain ⟨x, hxx⟩ : ∃ x, mSo S (S 204 c).toNat pl = x := ⟨_, rfl⟩
    have gso : S 190 (25 * (S 204 c).toNat + pl) = x := hxx
    rw [hxx] at wf
    have hxk : mSo S (keyM S c).2.1 pl = x := hxx
    refine mm_bipush dX10_follow_47 (by decide) ?_
    refine am_iload rfl dX10_follow_49 ?_
    refine mm_imul dX10_follow_51 ?_
    refine am_iload rfl dX10_follow_52 ?_
    refine mm_iadd dX10_follow_54 ?_
    rw [eIx]
    refine am_ist7 dX10_follow_55 (Nat.le_of_ble_eq_true rfl) (am_c1i _) ?_
    refine am_aload_n rfl dX10_follow_57 ?_
    refine mm_getR dX10_follow_58 fl_X10_39 (md_0 hm) mdf_11 ?_
    refine am_iload rfl dX10_follow_61 ?_
    refine mm_ial dX10_follow_63 (md_sortAt hm) (by omega) ?_
    rw [Int.toNat_natCast, gso]
    refine am_ist8 dX10_follow_64 (Nat.le_of_ble_eq_true rfl) (am_c1i _) ?_
    refine am_iload rfl dX10_follow_66 ?_
    rcases (show (x < 0 ∨ 13 < x) ∨ (x = 0) ∨ (x = 1 ∨ x = 2 ∨ x = 5) ∨ (x = 3 ∨ x = 4) ∨ (x = 6) ∨ (x = 7) ∨ (x = 8) ∨ (x = 9) ∨ (x = 10 ∨ x = 11) ∨ (x = 12) ∨ (x = 13) by omega) with h68 | h68 | h68 | h68 | h68 | h68 | h68 | h68 | h68 | h68 | h68
    · refine mm_tout (tgt := 337) dX10_follow_68 (by omega) (by omega) (by decide) ?_
      refine am_aload_n rfl dX10_follow_337 ?_
      refine am_iload_n rfl dX10_follow_338 ?_
      refine am_iload rfl dX10_follow_339 ?_
      refine mm_iconst dX10_follow_341 ?_
      refine mm_iadd dX10_follow_342 ?_
      have hf := fun X' F' W' => (fo_one (S := S) (κ := keyM S c) (pl := pl) (R := unM p) (X := X') (F := F') (W := W') (Z := gtR S (S 204 c).toNat ((pl : Int) + 1) (unM p)) hp (by rw [hxk]; omega) (by unfold nxR; rw [hxk]; rw [if_neg (by omega), if_neg (by omega), if_neg (by omega), if_neg (by omega), if_neg (by omega), if_neg (by omega), if_neg (by omega), if_neg (by omega), if_neg (by omega)]))
      simp only [otK_1] at hf
      refine am_cxv (mm_V2 dX10_follow_343 in_X10_goes mk_X10_268 im_X10_goes sl_X10_goes ⟨Nat.le_of_ble_eq_true rfl, Nat.le_of_ble_eq_true rfl⟩ rfl (md_0 hm) (Nat.le_of_ble_eq_true rfl)) (m_goes (X := X) (F := F) (W := W) (to := (pl : Int) + 1) hm hb hI hS hc (by omega) hRS (by have q := (hf X F W).mp hE; rw [hrg]; exact q)) (fun M1 hq => ?_)
      obtain ⟨S2, L2, rfl, hpo, hxx2⟩ := hq
      rw [hrg] at hxx2
      have hfin : S2 181 39 = 0 → S2 181 40 = 0 → foK (XM S2 L2) (FM S2) (WM S2) S (keyM S c) pl (unM p) := fun e39 e40 => (hf _ _ _).mpr (hxx2 e39)
      refine am_return dX10_follow_346 rfl ?_
      exact ⟨rfl, S2, L2, rfl, hpo, hfin⟩
    · refine mm_tsw (tgt := 140) (off := 72) [0] dX10_follow_68 (by simp only [List.mem_cons, List.mem_nil_iff, or_false]; omega) (by decide) (by decide) ?_
      have hkA : 0 ≤ mAa S (S 204 c).toNat pl ∧ mAa S (S 204 c).toNat pl < 5 := by have ok := okf hp; rw [hxx] at ok; omega
      obtain ⟨A0, hA0⟩ : ∃ A0 : Nat, (mAa S (S 204 c).toNat pl).toNat = A0 := ⟨_, rfl⟩
      have hA5 : A0 < 5 := by omega
      have hAi : mAa S (S 204 c).toNat pl = (A0 : Int) := by omega
      have hA0' : (mAa S (keyM S c).2.1 pl).toNat = A0 := hA0
      have hkb : 0 ≤ mBb S (S 204 c).toNat pl ∧ mBb S (S 204 c).toNat pl < S 181 0 := by have ok := okf hp; rw [hxx] at ok; omega
      have hf := fun X' F' W' => (fo_nm (S := S) (κ := keyM S c) (pl := pl) (R := unM p) (X := X') (F := F') (W := W') (t := 0) (Z := gtR S (S 204 c).toNat ((pl : Int) + 1) (mkR (unM p) A0 (mBb S (S 204 c).toNat pl))) hp (by rw [hxk]; omega) (by unfold wrR; rw [hxk, if_neg (by omega), if_neg (by omega), if_pos (by omega)]) (fun y _ => by unfold nxR; rw [hxk, if_pos h68, hA0']))
      simp only [hA0', otK_1] at hf
      refine am_aload_n rfl dX10_follow_140 ?_
      refine am_iload_n rfl dX10_follow_141 ?_
      refine am_iload rfl dX10_follow_142 ?_
      refine am_aload_n rfl dX10_follow_144 ?_
      refine mm_getR dX10_follow_145 fl_X10_42 (md_0 hm) mdf_12 ?_
      refine am_iload rfl dX10_follow_148 ?_
      refine mm_ial dX10_follow_150 (md_aAt hm) (by omega) ?_
      rw [Int.toNat_natCast, show S 191 (25 * (S 204 c).toNat + pl) = (A0 : Int) from hAi]
      refine am_aload_n rfl dX10_follow_151 ?_
      refine mm_getR dX10_follow_152 fl_X10_45 (md_0 hm) mdf_13 ?_
      refine am_iload rfl dX10_follow_155 ?_
      refine mm_ial dX10_follow_157 (md_bAt hm) (by omega) ?_
      rw [Int.toNat_natCast]
      refine am_cxv (mm_V4 dX10_follow_158 in_X10_makes mk_X10_300 im_X10_makes sl_X10_makes ⟨Nat.le_of_ble_eq_true rfl, Nat.le_of_ble_eq_true rfl⟩ rfl (md_0 hm) (Nat.le_of_ble_eq_true rfl)) (m_makes (X := X) (F := F) (W := W) (pl := pl) (a := A0) (k := mBb S (S 204 c).toNat pl) hm hb hI hS hc hp hRS hA5 hkb (fun z => ((hf X F W).mp hE).1 (by rw [hrg] at z; exact z)) (fun z => by have q := ((hf X F W).mp hE).2 (by rw [hrg] at z; exact z); rw [hrg]; exact q)) (fun M1 hq => ?_)
      obtain ⟨S2, L2, rfl, hpo, hxx2⟩ := hq
      rw [hrg] at hxx2
      have hfin : S2 181 39 = 0 → S2 181 40 = 0 → foK (XM S2 L2) (FM S2) (WM S2) S (keyM S c) pl (unM p) := fun e39 e40 => (hf _ _ _).mpr (hxx2 e39)
      refine am_goto (tgt := 346) dX10_follow_161 (by decide) ?_
      refine am_return dX10_follow_346 rfl ?_
      exact ⟨rfl, S2, L2, rfl, hpo, hfin⟩
    · refine mm_tsw (tgt := 164) (off := 96) [1, 2, 5] dX10_follow_68 (by simp only [List.mem_cons, List.mem_nil_iff, or_false]; omega) (by decide) (by decide) ?_
      refine am_aload_n rfl dX10_follow_164 ?_
      refine am_iload_n rfl dX10_follow_165 ?_
      refine am_lload_n rfl dX10_follow_166 ?_
      refine am_iload rfl dX10_follow_167 ?_
      refine am_iload rfl dX10_follow_169 ?_
      have hf := fun X' F' W' => fo_use (S := S) (κ := keyM S c) (pl := pl) (R := unM p) (X := X') (F := F') (W := W') hp (by rw [hxk]; omega)
      refine am_cxv (mm_V4 dX10_follow_171 in_X10_used mk_X10_304 im_X10_used sl_X10_used ⟨Nat.le_of_ble_eq_true rfl, Nat.le_of_ble_eq_true rfl⟩ rfl (md_0 hm) (Nat.le_of_ble_eq_true rfl)) ((by have h0 := m_used (sh := sh) (S := S) (L := L) (X := X) (F := F) (W := W) (p := p) (pl := pl) hm hb hI hS hc hp0 hp (by rw [hxx]; omega) hR hrg ((hf X F W).mp hE).1 ((hf X F W).mp hE).2; rw [hxx] at h0; exact h0)) (fun M1 hq => ?_)
      obtain ⟨S2, L2, rfl, hpo, hxx2⟩ := hq
      have hfin : S2 181 39 = 0 → S2 181 40 = 0 → foK (XM S2 L2) (FM S2) (WM S2) S (keyM S c) pl (unM p) := fun e39 e40 => (hf _ _ _).mpr (hxx2 e39)
      refine am_goto (tgt := 346) dX10_follow_174 (by decide) ?_
      refine am_return dX10_follow_346 rfl ?_
      exact ⟨rfl, S2, L2, rfl, hpo, hfin⟩
    · refine mm_tsw (tgt := 177) (off := 109) [3, 4] dX10_follow_68 (by simp only [List.mem_cons, List.mem_nil_iff, or_false]; omega) (by decide) (by decide) ?_
      have hf := fun X' F' W' => fo_if (S := S) (κ := keyM S c) (pl := pl) (R := unM p) (X := X') (F := F') (W := W') (Z := gtR S (S 204 c).toNat ((pl : Int) + 1) (unM p)) (Z' := gtR S (S 204 c).toNat (bnM S (S 204 c).toNat pl) (unM p)) hp (by rw [hxk]; omega) (by unfold nxR; rw [hxk, if_neg (by omega), if_neg (by omega), if_pos (by omega), if_neg (fun z => z trivial)]) (by unfold nxR; rw [hxk, if_neg (by omega), if_neg (by omega), if_pos (by omega), if_pos (fun z => z)])
      have hbn := bn_R (mrW_C hrw) hp (Or.inl (by omega))
      refine am_aload_n rfl dX10_follow_177 ?_
      refine am_iload_n rfl dX10_follow_178 ?_
      refine am_iload rfl dX10_follow_179 ?_
      refine mm_iconst dX10_follow_181 ?_
      refine mm_iadd dX10_follow_182 ?_
      refine am_cxv (mm_V2 dX10_follow_183 in_X10_goes mk_X10_268 im_X10_goes sl_X10_goes ⟨Nat.le_of_ble_eq_true rfl, Nat.le_of_ble_eq_true rfl⟩ rfl (md_0 hm) (Nat.le_of_ble_eq_true rfl)) (m_goes (X := X) (F := F) (W := W) (to := (pl : Int) + 1) hm hb hI hS hc (by omega) hRS (by have q := ((hf X F W).mp hE).1; rw [otK_1] at q; rw [hrg]; exact q)) (fun M1 hq => ?_)
      obtain ⟨S1, L1, rfl, po1, ho1⟩ := hq
      rw [hrg] at ho1
      have e1 := po_E po1
      have c1 := po_c po1 hc
      have ky1 := po_k po1 hc
      have kk1 := ky_204 ky1
      refine am_aload_n rfl dX10_follow_186 ?_
      refine am_lload_n rfl dX10_follow_187 ?_
      refine am_cv (mm_V1 dX10_follow_188 in_X10_unpack mk_X10_287 im_X10_unpack sl_X10_unpack ⟨Nat.le_of_ble_eq_true rfl, Nat.le_of_ble_eq_true rfl⟩ rfl (md_0 hm) (Nat.le_of_ble_eq_true rfl)) (m_unpack hm hp0) ?_
      have hFu : rgF S1 (unS S1 p) := rgF_un
      have hrgu : rgS (unS S1 p) = unM p := rgS_un S1 p
      have e2 : bkE S (unS S1 p) := bkE_tr e1 (rgF_E hFu)
      have ky2 : keyM (unS S1 p) c = keyM S c := (rgF_key hFu c).trans ky1
      have kk2 := ky_204 ky2
      refine am_aload_n rfl dX10_follow_191 ?_
      refine am_iload_n rfl dX10_follow_192 ?_
      refine am_aload_n rfl dX10_follow_193 ?_
      refine am_iload rfl dX10_follow_194 ?_
      refine am_iload rfl dX10_follow_196 ?_
      refine am_ci (mm_V2 dX10_follow_198 in_X10_behindNo mk_X10_297 im_X10_behindNo sl_X10_behindNo ⟨Nat.le_of_ble_eq_true rfl, Nat.le_of_ble_eq_true rfl⟩ rfl (md_0 hm) (Nat.le_of_ble_eq_true rfl)) (m_behindNo hm (by omega) (by rw [e2.1 189 (by omega) (by omega)]; exact h24.2) (mrW_of e2 hrw) (by rw [bk_N e2]; exact hp) (by rw [bk_So e2, hxx]; exact Or.inl (by omega))) ?_
      rw [bk_bn e2]
      refine am_cxv (mm_V2 dX10_follow_201 in_X10_goes mk_X10_268 im_X10_goes sl_X10_goes ⟨Nat.le_of_ble_eq_true rfl, Nat.le_of_ble_eq_true rfl⟩ rfl (md_0 hm) (Nat.le_of_ble_eq_true rfl)) (m_goes (X := X) (F := F) (W := W) (to := bnM S (S 204 c).toNat pl) hm (mbW_of e2 hb) (rgF_I hFu po1.2.1) (rgF_S hFu po1.2.2.1) (c := c) (by rw [hFu.2 27 (by omega)]; exact c1) (by rw [kk2.1, e2.1 189 (by omega) (by omega)]; omega) (by rw [ky2, hrgu]; exact rgV_of e2 hR) (by rw [ky2, hrgu, kk2.1, gtR, bk_mv e2]; have q := ((hf X F W).mp hE).2; rw [otK_1] at q; exact q)) (fun M1 hq => ?_)
      obtain ⟨S2, L2, rfl, po2, ho2⟩ := hq
      rw [ky2, hrgu, kk2.1, gtR, bk_mv e2] at ho2
      have po3 := poM_tr (poM_rg hFu po1.2.1 po1.2.2.1) po2
      have hpo := poM_tr po1 po3
      have hfin : S2 181 39 = 0 → S2 181 40 = 0 → foK (XM S2 L2) (FM S2) (WM S2) S (keyM S c) pl (unM p) := fun e39 e40 => (hf _ _ _).mpr (⟨po_ot po3 (by rw [otK_1]; exact ho1 (po_39 po3 po1.2.1 e39)), by rw [otK_1]; exact ho2 e39⟩)
      refine am_goto (tgt := 346) dX10_follow_204 (by decide) ?_
      refine am_return dX10_follow_346 rfl ?_
      exact ⟨rfl, S2, L2, rfl, hpo, hfin⟩
    · refine mm_tsw (tgt := 207) (off := 139) [6] dX10_follow_68 (by simp only [List.mem_cons, List.mem_nil_iff, or_false]; omega) (by decide) (by decide) ?_
      obtain ⟨t, g1, -⟩ := (hrw.1 pl hp).2.2.1 (by rw [hxx]; omega)
      have g4 := stk_top (stk_head g1)
      have eh : hdS (mSo S (S 204 c).toNat) pl = t := hdS_of g1
      have gop : S 193 (25 * (S 204 c).toNat + pl) = (t : Int) := by
        have := (wk_ar hrw pl hp).1
        rw [this]
        unfold opA
        rw [if_pos (by rw [hxx]; omega), g1]
      have ge : S 195 (25 * (S 204 c).toNat + t) = endO (mSo S (S 204 c).toNat) (mN S (S 204 c).toNat) t := (wk_mid hrw t (by omega) g4.2.2).2
      have hend := blk_end hrw.1 hrw.2.1 g4.2.2 (show t < mN S (S 204 c).toNat by omega)
      have hf := fun X' F' W' => (fo_one (S := S) (κ := keyM S c) (pl := pl) (R := unM p) (X := X') (F := F') (W := W') (Z := gtR S (S 204 c).toNat (endO (mSo S (S 204 c).toNat) (mN S (S 204 c).toNat) t + 1) (unM p)) hp (by rw [hxk]; omega) (by unfold nxR; rw [hxk]; rw [if_neg (by omega), if_neg (by omega), if_neg (by omega), if_pos (by omega)]; show gtR S (S 204 c).toNat (endO (mSo S (S 204 c).toNat) (mN S (S 204 c).toNat) (hdS (mSo S (S 204 c).toNat) pl) + 1) (unM p) = _; rw [eh]))
      simp only [otK_1] at hf
      refine am_aload_n rfl dX10_follow_207 ?_
      refine am_iload_n rfl dX10_follow_208 ?_
      refine am_aload_n rfl dX10_follow_209 ?_
      refine mm_getR dX10_follow_210 fl_X10_54 (md_0 hm) mdf_16 ?_
      refine mm_bipush dX10_follow_213 (by decide) ?_
      refine am_iload rfl dX10_follow_215 ?_
      refine mm_imul dX10_follow_217 ?_
      refine am_aload_n rfl dX10_follow_218 ?_
      refine mm_getR dX10_follow_219 fl_X10_48 (md_0 hm) mdf_14 ?_
      refine am_iload rfl dX10_follow_222 ?_
      refine mm_ial dX10_follow_224 (md_openAt hm) (by omega) ?_
      rw [Int.toNat_natCast, gop]
      refine mm_iadd dX10_follow_225 ?_
      rw [show (25 * (((S 204 c).toNat : Nat) : Int) + (t : Int)) = ((25 * (S 204 c).toNat + t : Nat) : Int) by omega]
      refine mm_ial dX10_follow_226 (md_endAt hm) (by omega) ?_
      rw [Int.toNat_natCast, ge]
      refine mm_iconst dX10_follow_227 ?_
      refine mm_iadd dX10_follow_228 ?_
      refine am_cxv (mm_V2 dX10_follow_229 in_X10_goes mk_X10_268 im_X10_goes sl_X10_goes ⟨Nat.le_of_ble_eq_true rfl, Nat.le_of_ble_eq_true rfl⟩ rfl (md_0 hm) (Nat.le_of_ble_eq_true rfl)) (m_goes (X := X) (F := F) (W := W) hm hb hI hS hc (by omega) hRS (by have q := (hf X F W).mp hE; rw [hrg]; exact q)) (fun M1 hq => ?_)
      obtain ⟨S2, L2, rfl, hpo, hxx2⟩ := hq
      rw [hrg] at hxx2
      have hfin : S2 181 39 = 0 → S2 181 40 = 0 → foK (XM S2 L2) (FM S2) (WM S2) S (keyM S c) pl (unM p) := fun e39 e40 => (hf _ _ _).mpr (hxx2 e39)
      refine am_goto (tgt := 346) dX10_follow_232 (by decide) ?_
      refine am_return dX10_follow_346 rfl ?_
      exact ⟨rfl, S2, L2, rfl, hpo, hfin⟩
    · refine mm_tsw (tgt := 235) (off := 167) [7] dX10_follow_68 (by simp only [List.mem_cons, List.mem_nil_iff, or_false]; omega) (by decide) (by decide) ?_
      refine am_aload_n rfl dX10_follow_235 ?_
      refine am_iload_n rfl dX10_follow_236 ?_
      refine am_iload rfl dX10_follow_237 ?_
      have hf := fun X' F' W' => (fo_one (S := S) (κ := keyM S c) (pl := pl) (R := unM p) (X := X') (F := F') (W := W') (Z := zcR S (S 204 c).toNat pl (unM p)) hp (by rw [hxk]; omega) (by unfold nxR; rw [hxk]; rw [if_neg (by omega), if_neg (by omega), if_neg (by omega), if_neg (by omega), if_pos (by omega)]))
      refine am_cxv (mm_V2 dX10_follow_239 in_X10_closes mk_X10_308 im_X10_closes sl_X10_closes ⟨Nat.le_of_ble_eq_true rfl, Nat.le_of_ble_eq_true rfl⟩ rfl (md_0 hm) (Nat.le_of_ble_eq_true rfl)) (m_closes (X := X) (F := F) (W := W) (pl := pl) hm hb hI hS hc hp (by rw [hxx]; omega) hRS (by have q := (hf X F W).mp hE; rw [hrg]; exact q)) (fun M1 hq => ?_)
      obtain ⟨S2, L2, rfl, hpo, hxx2⟩ := hq
      rw [hrg] at hxx2
      have hfin : S2 181 39 = 0 → S2 181 40 = 0 → foK (XM S2 L2) (FM S2) (WM S2) S (keyM S c) pl (unM p) := fun e39 e40 => (hf _ _ _).mpr (hxx2 e39)
      refine am_goto (tgt := 346) dX10_follow_242 (by decide) ?_
      refine am_return dX10_follow_346 rfl ?_
      exact ⟨rfl, S2, L2, rfl, hpo, hfin⟩
    · refine mm_tsw (tgt := 245) (off := 177) [8] dX10_follow_68 (by simp only [List.mem_cons, List.mem_nil_iff, or_false]; omega) (by decide) (by decide) ?_
      have hkA : 0 ≤ mAa S (S 204 c).toNat pl ∧ mAa S (S 204 c).toNat pl < 5 := by have ok := okf hp; rw [hxx] at ok; omega
      obtain ⟨A0, hA0⟩ : ∃ A0 : Nat, (mAa S (S 204 c).toNat pl).toNat = A0 := ⟨_, rfl⟩
      have hA5 : A0 < 5 := by omega
      have hAi : mAa S (S 204 c).toNat pl = (A0 : Int) := by omega
      have hA0' : (mAa S (keyM S c).2.1 pl).toNat = A0 := hA0
      have hkb : 0 ≤ mBb S (S 204 c).toNat pl ∧ mBb S (S 204 c).toNat pl < 5 := by have ok := okf hp; rw [hxx] at ok; omega
      obtain ⟨B0, hB0⟩ : ∃ B0 : Nat, (mBb S (S 204 c).toNat pl).toNat = B0 := ⟨_, rfl⟩
      have hB5 : B0 < 5 := by omega
      have hBi : mBb S (S 204 c).toNat pl = (B0 : Int) := by omega
      have hB0' : (mBb S (keyM S c).2.1 pl).toNat = B0 := hB0
      have hvb : S 198 B0 = (unM p).1 B0 := by rw [← hrg, rg_V hB5]
      have hf := fun X' F' W' => (fo_nm (S := S) (κ := keyM S c) (pl := pl) (R := unM p) (X := X') (F := F') (W := W') (t := (unM p).1 B0) (Z := gtR S (S 204 c).toNat ((pl : Int) + 1) (nmR (unM p) A0 ((unM p).1 B0))) hp (by rw [hxk]; omega) (by unfold wrR; rw [hxk, if_neg (by omega), if_neg (by omega), if_neg (by omega), if_pos (by omega), hB0']) (fun y _ => by unfold nxR; rw [hxk, if_neg (by omega), if_neg (by omega), if_neg (by omega), if_neg (by omega), if_neg (by omega), if_pos (by omega), hA0', hB0']))
      simp only [hA0', otK_1] at hf
      refine am_aload_n rfl dX10_follow_245 ?_
      refine am_iload_n rfl dX10_follow_246 ?_
      refine am_iload rfl dX10_follow_247 ?_
      refine am_aload_n rfl dX10_follow_249 ?_
      refine mm_getR dX10_follow_250 fl_X10_42 (md_0 hm) mdf_12 ?_
      refine am_iload rfl dX10_follow_253 ?_
      refine mm_ial dX10_follow_255 (md_aAt hm) (by omega) ?_
      rw [Int.toNat_natCast, show S 191 (25 * (S 204 c).toNat + pl) = (A0 : Int) from hAi]
      refine am_aload_n rfl dX10_follow_256 ?_
      refine mm_getR dX10_follow_257 fl_X10_63 (md_0 hm) mdf_20 ?_
      refine am_aload_n rfl dX10_follow_260 ?_
      refine mm_getR dX10_follow_261 fl_X10_45 (md_0 hm) mdf_13 ?_
      refine am_iload rfl dX10_follow_264 ?_
      refine mm_ial dX10_follow_266 (md_bAt hm) (by omega) ?_
      rw [Int.toNat_natCast, show S 192 (25 * (S 204 c).toNat + pl) = (B0 : Int) from hBi]
      refine mm_ial dX10_follow_267 (md_var hm) (by omega) ?_
      rw [Int.toNat_natCast, hvb]
      refine am_cxv (mm_V4 dX10_follow_268 in_X10_renames mk_X10_311 im_X10_renames sl_X10_renames ⟨Nat.le_of_ble_eq_true rfl, Nat.le_of_ble_eq_true rfl⟩ rfl (md_0 hm) (Nat.le_of_ble_eq_true rfl)) (m_renames (X := X) (F := F) (W := W) (pl := pl) (a := A0) (t := (unM p).1 B0) hm hb hI hS hc hp hRS hA5 (Or.inr ⟨B0, hB5, hvb.symm⟩) (fun z => ((hf X F W).mp hE).1 (by rw [hrg] at z; exact z)) (fun z => by have q := ((hf X F W).mp hE).2 (by rw [hrg] at z; exact z); rw [hrg]; exact q)) (fun M1 hq => ?_)
      obtain ⟨S2, L2, rfl, hpo, hxx2⟩ := hq
      rw [hrg] at hxx2
      have hfin : S2 181 39 = 0 → S2 181 40 = 0 → foK (XM S2 L2) (FM S2) (WM S2) S (keyM S c) pl (unM p) := fun e39 e40 => (hf _ _ _).mpr (hxx2 e39)
      refine am_goto (tgt := 346) dX10_follow_271 (by decide) ?_
      refine am_return dX10_follow_346 rfl ?_
      exact ⟨rfl, S2, L2, rfl, hpo, hfin⟩
    · refine mm_tsw (tgt := 274) (off := 206) [9] dX10_follow_68 (by simp only [List.mem_cons, List.mem_nil_iff, or_false]; omega) (by decide) (by decide) ?_
      have hkA : 0 ≤ mAa S (S 204 c).toNat pl ∧ mAa S (S 204 c).toNat pl < 5 := by have ok := okf hp; rw [hxx] at ok; omega
      obtain ⟨A0, hA0⟩ : ∃ A0 : Nat, (mAa S (S 204 c).toNat pl).toNat = A0 := ⟨_, rfl⟩
      have hA5 : A0 < 5 := by omega
      have hAi : mAa S (S 204 c).toNat pl = (A0 : Int) := by omega
      have hA0' : (mAa S (keyM S c).2.1 pl).toNat = A0 := hA0
      have hf := fun X' F' W' => (fo_nm (S := S) (κ := keyM S c) (pl := pl) (R := unM p) (X := X') (F := F') (W := W') (t := 0) (Z := gtR S (S 204 c).toNat ((pl : Int) + 1) (nmR (unM p) A0 0)) hp (by rw [hxk]; omega) (by unfold wrR; rw [hxk, if_neg (by omega), if_neg (by omega), if_pos (by omega)]) (fun y _ => by unfold nxR; rw [hxk, if_neg (by omega), if_neg (by omega), if_neg (by omega), if_neg (by omega), if_neg (by omega), if_neg (by omega), if_pos (by omega), hA0']))
      simp only [hA0', otK_1] at hf
      refine am_aload_n rfl dX10_follow_274 ?_
      refine am_iload_n rfl dX10_follow_275 ?_
      refine am_iload rfl dX10_follow_276 ?_
      refine am_aload_n rfl dX10_follow_278 ?_
      refine mm_getR dX10_follow_279 fl_X10_42 (md_0 hm) mdf_12 ?_
      refine am_iload rfl dX10_follow_282 ?_
      refine mm_ial dX10_follow_284 (md_aAt hm) (by omega) ?_
      rw [Int.toNat_natCast, show S 191 (25 * (S 204 c).toNat + pl) = (A0 : Int) from hAi]
      refine mm_iconst dX10_follow_285 ?_
      refine am_cxv (mm_V4 dX10_follow_286 in_X10_renames mk_X10_311 im_X10_renames sl_X10_renames ⟨Nat.le_of_ble_eq_true rfl, Nat.le_of_ble_eq_true rfl⟩ rfl (md_0 hm) (Nat.le_of_ble_eq_true rfl)) (m_renames (X := X) (F := F) (W := W) (pl := pl) (a := A0) (t := 0) hm hb hI hS hc hp hRS hA5 (Or.inl rfl) (fun z => ((hf X F W).mp hE).1 (by rw [hrg] at z; exact z)) (fun z => by have q := ((hf X F W).mp hE).2 (by rw [hrg] at z; exact z); rw [hrg]; exact q)) (fun M1 hq => ?_)
      obtain ⟨S2, L2, rfl, hpo, hxx2⟩ := hq
      rw [hrg] at hxx2
      have hfin : S2 181 39 = 0 → S2 181 40 = 0 → foK (XM S2 L2) (FM S2) (WM S2) S (keyM S c) pl (unM p) := fun e39 e40 => (hf _ _ _).mpr (hxx2 e39)
      refine am_goto (tgt := 346) dX10_follow_289 (by decide) ?_
      refine am_return dX10_follow_346 rfl ?_
      exact ⟨rfl, S2, L2, rfl, hpo, hfin⟩
    · refine mm_tsw (tgt := 292) (off := 224) [10, 11] dX10_follow_68 (by simp only [List.mem_cons, List.mem_nil_iff, or_false]; omega) (by decide) (by decide) ?_
      refine am_aload_n rfl dX10_follow_292 ?_
      refine am_iload_n rfl dX10_follow_293 ?_
      refine am_lload_n rfl dX10_follow_294 ?_
      refine am_iload rfl dX10_follow_295 ?_
      refine am_iload rfl dX10_follow_297 ?_
      refine mm_bipush dX10_follow_299 (by decide) ?_
      refine mm_jne (tgt := 308) dX10_follow_301 (by decide) (by omega) (by omega) (fun h301 => ?_) (fun h301 => ?_)
      · refine mm_iconst dX10_follow_308 ?_
        refine am_cxv (mm_V4 dX10_follow_309 in_X10_called mk_X10_314 im_X10_called sl_X10_called ⟨Nat.le_of_ble_eq_true rfl, Nat.le_of_ble_eq_true rfl⟩ rfl (md_0 hm) (Nat.le_of_ble_eq_true rfl)) ((by have h0 := m_called (sh := sh) (S := S) (L := L) (X := X) (F := F) (W := W) (p := p) (pl := pl) hm hb hI hS hc hp0 hp (by rw [hxx]; omega) hR hrg hv hNN hE; first | (rw [b2_t (p := mSo S (S 204 c).toNat pl = 11) (by rw [hxx]; omega)] at h0; exact h0) | (rw [b2_f (p := mSo S (S 204 c).toNat pl = 11) (by rw [hxx]; omega)] at h0; exact h0))) (fun M1 hq => ?_)
        obtain ⟨S2, L2, rfl, hpo, hxx2⟩ := hq
        have hfin := hxx2
        refine am_goto (tgt := 346) dX10_follow_312 (by decide) ?_
        refine am_return dX10_follow_346 rfl ?_
        exact ⟨rfl, S2, L2, rfl, hpo, hfin⟩
      · refine mm_iconst dX10_follow_304 ?_
        refine am_goto (tgt := 309) dX10_follow_305 (by decide) ?_
        refine am_cxv (mm_V4 dX10_follow_309 in_X10_called mk_X10_314 im_X10_called sl_X10_called ⟨Nat.le_of_ble_eq_true rfl, Nat.le_of_ble_eq_true rfl⟩ rfl (md_0 hm) (Nat.le_of_ble_eq_true rfl)) ((by have h0 := m_called (sh := sh) (S := S) (L := L) (X := X) (F := F) (W := W) (p := p) (pl := pl) hm hb hI hS hc hp0 hp (by rw [hxx]; omega) hR hrg hv hNN hE; first | (rw [b2_t (p := mSo S (S 204 c).toNat pl = 11) (by rw [hxx]; omega)] at h0; exact h0) | (rw [b2_f (p := mSo S (S 204 c).toNat pl = 11) (by rw [hxx]; omega)] at h0; exact h0))) (fun M1 hq => ?_)
        obtain ⟨S2, L2, rfl, hpo, hxx2⟩ := hq
        have hfin := hxx2
        refine am_goto (tgt := 346) dX10_follow_312 (by decide) ?_
        refine am_return dX10_follow_346 rfl ?_
        exact ⟨rfl, S2, L2, rfl, hpo, hfin⟩
    · refine mm_tsw (tgt := 315) (off := 247) [12] dX10_follow_68 (by simp only [List.mem_cons, List.mem_nil_iff, or_false]; omega) (by decide) (by decide) ?_
      refine am_aload_n rfl dX10_follow_315 ?_
      refine am_iload_n rfl dX10_follow_316 ?_
      refine am_iload rfl dX10_follow_317 ?_
      refine mm_iconst dX10_follow_319 ?_
      have hf := fun X' F' W' => (fo_one (S := S) (κ := keyM S c) (pl := pl) (R := unM p) (X := X') (F := F') (W := W') (Z := otR S (S 204 c).toNat pl 1 (unM p)) hp (by rw [hxk]; omega) (by unfold nxR; rw [hxk]; rw [if_neg (by omega), if_neg (by omega), if_neg (by omega), if_neg (by omega), if_neg (by omega), if_neg (by omega), if_neg (by omega), if_pos (by omega)]))
      refine am_cxv (mm_V3 dX10_follow_320 in_X10_out mk_X10_294 im_X10_out sl_X10_out ⟨Nat.le_of_ble_eq_true rfl, Nat.le_of_ble_eq_true rfl⟩ rfl (md_0 hm) (Nat.le_of_ble_eq_true rfl)) (m_out (X := X) (F := F) (W := W) (pl := pl) (how := 1) hm hb hI hS hc hRS hp (by omega) (by have q := (hf X F W).mp hE; rw [hrg]; exact q)) (fun M1 hq => ?_)
      obtain ⟨S2, L2, rfl, hpo, hxx2⟩ := hq
      rw [hrg] at hxx2
      have hfin : S2 181 39 = 0 → S2 181 40 = 0 → foK (XM S2 L2) (FM S2) (WM S2) S (keyM S c) pl (unM p) := fun e39 e40 => (hf _ _ _).mpr (hxx2 e39)
      refine am_goto (tgt := 346) dX10_follow_323 (by decide) ?_
      refine am_return dX10_follow_346 rfl ?_
      exact ⟨rfl, S2, L2, rfl, hpo, hfin⟩
    · refine mm_tsw (tgt := 326) (off := 258) [13] dX10_follow_68 (by simp only [List.mem_cons, List.mem_nil_iff, or_false]; omega) (by decide) (by decide) ?_
      refine am_aload_n rfl dX10_follow_326 ?_
      refine am_iload_n rfl dX10_follow_327 ?_
      refine am_iload rfl dX10_follow_328 ?_
      refine mm_iconst dX10_follow_330 ?_
      have hf := fun X' F' W' => (fo_one (S := S) (κ := keyM S c) (pl := pl) (R := unM p) (X := X') (F := F') (W := W') (Z := otR S (S 204 c).toNat pl 2 (unM p)) hp (by rw [hxk]; omega) (by unfold nxR; rw [hxk]; rw [if_neg (by omega), if_neg (by omega), if_neg (by omega), if_neg (by omega), if_neg (by omega), if_neg (by omega), if_neg (by omega), if_neg (by omega), if_pos (by omega)]))
      refine am_cxv (mm_V3 dX10_follow_331 in_X10_out mk_X10_294 im_X10_out sl_X10_out ⟨Nat.le_of_ble_eq_true rfl, Nat.le_of_ble_eq_true rfl⟩ rfl (md_0 hm) (Nat.le_of_ble_eq_true rfl)) (m_out (X := X) (F := F) (W := W) (pl := pl) (how := 2) hm hb hI hS hc hRS hp (by omega) (by have q := (hf X F W).mp hE; rw [hrg]; exact q)) (fun M1 hq => ?_)
      obtain ⟨S2, L2, rfl, hpo, hxx2⟩ := hq
      rw [hrg] at hxx2
      have hfin : S2 181 39 = 0 → S2 181 40 = 0 → foK (XM S2 L2) (FM S2) (WM S2) S (keyM S c) pl (unM p) := fun e39 e40 => (hf _ _ _).mpr (hxx2 e39)
      refine am_goto (tgt := 346) dX10_follow_334 (by decide) ?_
      refine am_return dX10_follow_346 rfl ?_
      exact ⟨rfl, S2, L2, rfl, hpo, hfin⟩
  · refine am_aload_n rfl dX10_follow_40 ?_
    refine am_iload_n rfl dX10_follow_41 ?_
    refine mm_iconst dX10_follow_42 ?_
    have hf := fun X' F' W' => fo_end (S := S) (κ := keyM S c) (pl := pl) (R := unM p) (X := X') (F := F') (W := W') (by show pl = mN S (S 204 c).toNat; omega)
    refine am_cxv (mm_V2 dX10_follow_43 in_X10_ends_ mk_X10_271 im_X10_ends_ sl_X10_ends_ ⟨Nat.le_of_ble_eq_true rfl, Nat.le_of_ble_eq_true rfl⟩ rfl (md_0 hm) (Nat.le_of_ble_eq_true rfl)) (m_endsP (X := X) (F := F) (W := W) (y := True) (g := 0) hm hb hI hS hc hRS (Or.inl ⟨trivial, rfl⟩) (by have q := (hf X F W).mp hE; rw [hrg]; exact q)) (fun M1 hq => ?_)
    obtain ⟨S2, rfl, hpo, hxx2⟩ := hq
    rw [hrg] at hxx2
    refine am_return dX10_follow_46 rfl ?_
    exact ⟨rfl, S2, L, rfl, hpo, fun _ _ => (hf _ _ _).mpr hxx2⟩
