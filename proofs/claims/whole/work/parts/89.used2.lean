/-! ===== used, called ===== -/
section
variable {S S' : mm_S} {L L' : mm_L} {X : XT} {F : FT} {W : WT}
theorem po_ot (h : poM S L X F W S' L') {B : mm_S} {κ : kyT} {z : Int × Int × rgT} (hz : otK (XM S L) (FM S) (WM S) B κ z) : otK (XM S' L') (FM S') (WM S') B κ z := otK_mono h.1.2.2.1.1 h.1.2.2.1.2.1 (fun r pl q => h.1.2.2.1.2.2 r pl 5 q) hz
theorem po_E (h : poM S L X F W S' L') : bkE S S' := jmF_E h.1.1
theorem po_c (h : poM S L X F W S' L') {c : Nat} (hc : (c : Int) < S 181 27) : (c : Int) < S' 181 27 := by have := h.1.2.1.1; omega
theorem po_k (h : poM S L X F W S' L') {c : Nat} (hc : (c : Int) < S 181 27) : keyM S' c = keyM S c := h.1.2.1.2.1 c hc
theorem po_39 (h : poM S L X F W S' L') (hI : imS S L) (e : S' 181 39 = 0) : S 181 39 = 0 := by
  have := h.1.2.2.2.1.1
  have := hI.2.2.2.2.1
  omega
theorem po_40 (h : poM S L X F W S' L') (hI : imS S L) (e : S' 181 40 = 0) : S 181 40 = 0 := by
  have := h.1.2.2.2.1.2
  have := hI.2.2.2.2.2
  omega
theorem ky_204 {c : Nat} (h : keyM S' c = keyM S c) : (S' 204 c).toNat = (S 204 c).toNat ∧ S' 205 c = S 205 c := ⟨congrArg (fun q : kyT => q.2.1) h, congrArg (fun q : kyT => q.2.2.1) h⟩
end
set_option maxRecDepth 100000 in
set_option maxHeartbeats 16000000 in
theorem m_used {sh : List mm_H} {S : mm_S} {L : mm_L} (hm : mdS sh) (hb : mbW S) (hI : imS S L) {X : XT} {F : FT} {W : WT} (hS : SubM S L X F W) {c : Nat} (hc : (c : Int) < S 181 27) {p : Int} (hp0 : 0 ≤ p ∧ p < 9223372036854775808) {pl : Nat} (hp : pl < mN S (S 204 c).toNat) (hx : mSo S (S 204 c).toNat pl = 1 ∨ mSo S (S 204 c).toNat pl = 2 ∨ mSo S (S 204 c).toNat pl = 5) (hR : rgV S (keyM S c) (unM p)) (hrg : rgS S = unM p) (hE1 : wrR S (keyM S c) pl (unM p) ≠ 0 → W (S 204 c).toNat pl (wrR S (keyM S c) pl (unM p))) (hE2 : wrR S (keyM S c) pl (unM p) = 0 → otK X F W S (keyM S c) (nxR S (keyM S c) pl (unM p) True) ∧ (asR S (keyM S c) pl (unM p) → otK X F W S (keyM S c) (nxR S (keyM S c) pl (unM p) False))) : am_E eX10_used [.ref 181, .int (iI (c : Int)), .long (lI p), .int (iI (pl : Int)), .int (iI (mSo S (S 204 c).toNat pl))] (mm sh S L) (fun r0 M' => r0 = none ∧ ∃ S' L', M' = mm sh S' L' ∧ poM S L X F W S' L' ∧ (S' 181 39 = 0 → (wrR S (keyM S c) pl (unM p) ≠ 0 → WM S' (S 204 c).toNat pl (wrR S (keyM S c) pl (unM p))) ∧ (wrR S (keyM S c) pl (unM p) = 0 → otK (XM S' L') (FM S') (WM S') S (keyM S c) (nxR S (keyM S c) pl (unM p) True) ∧ (asR S (keyM S c) pl (unM p) → otK (XM S' L') (FM S') (WM S') S (keyM S c) (nxR S (keyM S c) pl (unM p) False))))) := by
  have hcs := hI.1
  have hc27 := hI.1.1
  have hcc := hcs.2 c hc
  have hκ := (hI.2.1 c hc).1
  have hr9 : (((S 204 c).toNat : Nat) : Int) < S 181 9 := hκ.2.1
  have hrw := hb.2.2.2.2 (S 204 c).toNat hr9
  have h24 := hb.1.2.2.2.2 (S 204 c).toNat (by omega)
  have hc40 : c < 40 := by omega
  have er204 : S 204 c = (((S 204 c).toNat : Nat) : Int) := by omega
  have hN : ((mN S (S 204 c).toNat : Nat) : Int) = S 189 (S 204 c).toNat := by unfold mN; omega
  have hkA : (0 ≤ mAa S (S 204 c).toNat pl ∧ mAa S (S 204 c).toNat pl < 5) ∧ (0 ≤ mBb S (S 204 c).toNat pl ∧ mBb S (S 204 c).toNat pl < 8) := by have ok := (mrW_C hrw).2.2.2 pl hp; omega
  obtain ⟨A0, hA0⟩ : ∃ A0 : Nat, (mAa S (S 204 c).toNat pl).toNat = A0 := ⟨_, rfl⟩
  have hA5 : A0 < 5 := by omega
  have hAi : mAa S (S 204 c).toNat pl = (A0 : Int) := by omega
  have hT6 := hR.1.1 A0 hA5
  have hva : S 198 A0 = (unM p).1 A0 := by rw [← hrg, rg_V hA5]
  have eIx : (25 * (((S 204 c).toNat : Nat) : Int) + (pl : Int)) = ((25 * (S 204 c).toNat + pl : Nat) : Int) := by omega
  obtain ⟨x, hxx⟩ : ∃ x, mSo S (S 204 c).toNat pl = x := ⟨_, rfl⟩
  have hwu : wrR S (keyM S c) pl (unM p) = (if agR (S 205 c) (unM p) ((unM p).1 A0) ≠ 0 then agR (S 205 c) (unM p) ((unM p).1 A0) else if mH S (cdR (S 205 c) (unM p) ((unM p).1 A0) / 7) (cdR (S 205 c) (unM p) ((unM p).1 A0) % 7) (mBb S (S 204 c).toNat pl) then 0 else 3) := by
    unfold wrR
    rw [if_pos (show mSo S (keyM S c).2.1 pl = 1 ∨ mSo S (keyM S c).2.1 pl = 2 ∨ mSo S (keyM S c).2.1 pl = 5 from hx)]
    show (if agR (S 205 c) (unM p) ((unM p).1 (mAa S (S 204 c).toNat pl).toNat) ≠ 0 then _ else _) = _
    rw [hA0]
  have tne : (unM p).1 A0 ≠ 1 → (unM p).1 A0 ≠ 0 → 0 ≤ (unM p).1 A0 - 2 ∧ (unM p).1 A0 - 2 < 5 := by omega
  have hag : agM S c ((unM p).1 A0) = agR (S 205 c) (unM p) ((unM p).1 A0) := by rw [ag_rg (fun z1 z2 => tne z2 z1), hrg]
  have hcd : (unM p).1 A0 ≠ 0 → cdM S c ((unM p).1 A0) = cdR (S 205 c) (unM p) ((unM p).1 A0) := fun z => by rw [cd_rg (fun z1 => tne z1 z), hrg]
  have hok : (unM p).1 A0 ≠ 0 → okC S (cdR (S 205 c) (unM p) ((unM p).1 A0)) := fun z => cd_ok hR hb.1 hA5 z
  have agR0 : agR (S 205 c) (unM p) ((unM p).1 A0) = 0 ∨ agR (S 205 c) (unM p) ((unM p).1 A0) = 1 ∨ agR (S 205 c) (unM p) ((unM p).1 A0) = 2 := by
    unfold agR
    split
    · omega
    · split <;> omega
  have agN : agR (S 205 c) (unM p) ((unM p).1 A0) = 0 → (unM p).1 A0 ≠ 0 ∧ cdR (S 205 c) (unM p) ((unM p).1 A0) % 7 ≠ 6 := fun z => by
    unfold agR at z
    constructor
    · intro q; rw [if_pos q] at z; omega
    · intro q
      by_cases q0 : (unM p).1 A0 = 0
      · rw [if_pos q0] at z; omega
      · rw [if_neg q0, if_pos q] at z; omega
  have v0 := hb.1.1
  obtain ⟨G0, hG0⟩ : ∃ G0, agR (S 205 c) (unM p) ((unM p).1 A0) = G0 := ⟨_, rfl⟩
  rw [hG0] at hwu hag agR0 agN
  refine am_enter rfl rfl (Nat.le_of_ble_eq_true rfl) ?_
  refine am_aload_n rfl dX10_used_0 ?_
  refine mm_getR dX10_used_1 fl_X10_81 (md_0 hm) mdf_29 ?_
  refine am_iload_n rfl dX10_used_4 ?_
  refine mm_ial dX10_used_5 (md_caseRoutine hm) (by omega) ?_
  rw [Int.toNat_natCast, show iI (S 204 c) = iI (((S 204 c).toNat : Nat) : Int) from congrArg iI er204]
  refine am_ist6 dX10_used_6 (Nat.le_of_ble_eq_true rfl) (am_c1i _) ?_
  refine mm_bipush dX10_used_8 (by decide) ?_
  refine am_iload rfl dX10_used_10 ?_
  refine mm_imul dX10_used_12 ?_
  refine am_iload rfl dX10_used_13 ?_
  refine mm_iadd dX10_used_15 ?_
  rw [eIx]
  refine am_ist7 dX10_used_16 (Nat.le_of_ble_eq_true rfl) (am_c1i _) ?_
  refine am_aload_n rfl dX10_used_18 ?_
  refine mm_getR dX10_used_19 fl_X10_63 (md_0 hm) mdf_20 ?_
  refine am_aload_n rfl dX10_used_22 ?_
  refine mm_getR dX10_used_23 fl_X10_42 (md_0 hm) mdf_12 ?_
  refine am_iload rfl dX10_used_26 ?_
  refine mm_ial dX10_used_28 (md_aAt hm) (by omega) ?_
  rw [Int.toNat_natCast, show S 191 (25 * (S 204 c).toNat + pl) = (A0 : Int) from hAi]
  refine mm_ial dX10_used_29 (md_var hm) (by omega) ?_
  rw [Int.toNat_natCast, hva]
  refine am_ist8 dX10_used_30 (Nat.le_of_ble_eq_true rfl) (am_c1i _) ?_
  refine am_aload_n rfl dX10_used_32 ?_
  refine am_iload_n rfl dX10_used_33 ?_
  refine am_iload rfl dX10_used_34 ?_
  refine am_ci (mm_V2 dX10_used_36 in_X10_against mk_X10_281 im_X10_against sl_X10_against ⟨Nat.le_of_ble_eq_true rfl, Nat.le_of_ble_eq_true rfl⟩ rfl (md_0 hm) (Nat.le_of_ble_eq_true rfl)) (m_against hm hc40 hT6 (fun z => by have h0 := (hok z).1; rw [hcd z]; omega)) ?_
  rw [hag]
  refine am_ist9 dX10_used_39 (Nat.le_of_ble_eq_true rfl) (am_c1i _) ?_
  refine am_iload rfl dX10_used_41 ?_
  refine mm_zne (tgt := 173) dX10_used_43 (by decide) (by omega) (fun h43 => ?_) (fun h43 => ?_)
  · refine am_aload_n rfl dX10_used_173 ?_
    refine am_iload_n rfl dX10_used_174 ?_
    refine am_iload rfl dX10_used_175 ?_
    refine am_iload rfl dX10_used_177 ?_
    refine am_cxv (mm_V3 dX10_used_179 in_X10_wrong mk_X10_261 im_X10_wrong sl_X10_wrong ⟨Nat.le_of_ble_eq_true rfl, Nat.le_of_ble_eq_true rfl⟩ rfl (md_0 hm) (Nat.le_of_ble_eq_true rfl)) (m_wrongP (X := X) (F := F) (W := W) (pl := pl) hm hb hI hS (c := c) hc (by omega) (by omega) (by first | (have q := hE1 (by rw [hwu, if_neg (by omega), if_neg h84]; omega); rw [hwu, if_neg (by omega), if_neg h84] at q; exact q) | (have q := hE1 (by rw [hwu, if_pos (by omega)]; omega); rw [hwu, if_pos (by omega)] at q; exact q))) (fun M1 hq => ?_)
    obtain ⟨S2, rfl, hpo, hwm⟩ := hq
    refine am_return dX10_used_182 rfl ?_
    first
      | exact ⟨rfl, S2, L, rfl, hpo, fun _ => ⟨fun _ => by rw [hwu, if_neg (by omega), if_neg h84]; exact hwm, fun z => by rw [hwu, if_neg (by omega), if_neg h84] at z; omega⟩⟩
      | exact ⟨rfl, S2, L, rfl, hpo, fun _ => ⟨fun _ => by rw [hwu, if_pos (by omega)]; exact hwm, fun z => by rw [hwu, if_pos (by omega)] at z; omega⟩⟩
  · have hn := agN h43
    have okc := hok hn.1
    have ok1 := okc.1
    have ok2 := okc.2.1
    obtain ⟨C0, hC0⟩ : ∃ C0, cdR (S 205 c) (unM p) ((unM p).1 A0) = C0 := ⟨_, rfl⟩
    rw [hC0] at hwu hcd ok1 ok2 hn
    have hk6 : 0 ≤ C0 / 7 ∧ C0 / 7 < 6 := by omega
    have hs6 : 0 ≤ C0 % 7 ∧ C0 % 7 < 6 := by omega
    refine am_aload_n rfl dX10_used_46 ?_
    refine am_iload_n rfl dX10_used_47 ?_
    refine am_iload rfl dX10_used_48 ?_
    refine am_ci (mm_V2 dX10_used_50 in_X10_codeOf mk_X10_274 im_X10_codeOf sl_X10_codeOf ⟨Nat.le_of_ble_eq_true rfl, Nat.le_of_ble_eq_true rfl⟩ rfl (md_0 hm) (Nat.le_of_ble_eq_true rfl)) (m_codeOf hm hc40 (by omega)) ?_
    rw [hcd hn.1]
    refine am_ist10 dX10_used_53 (Nat.le_of_ble_eq_true rfl) (am_c1i _) ?_
    refine am_iload rfl dX10_used_55 ?_
    refine mm_bipush dX10_used_57 (by decide) ?_
    refine mm_idiv dX10_used_59 (by omega) (by omega) ?_
    refine am_ist11 dX10_used_60 (Nat.le_of_ble_eq_true rfl) (am_c1i _) ?_
    refine am_iload rfl dX10_used_62 ?_
    refine mm_bipush dX10_used_64 (by decide) ?_
    refine mm_irem dX10_used_66 (by omega) (by omega) ?_
    refine am_ist12 dX10_used_67 (Nat.le_of_ble_eq_true rfl) (am_c1i _) ?_
    refine am_aload_n rfl dX10_used_69 ?_
    refine am_iload rfl dX10_used_70 ?_
    refine am_iload rfl dX10_used_72 ?_
    refine am_aload_n rfl dX10_used_74 ?_
    refine mm_getR dX10_used_75 fl_X10_45 (md_0 hm) mdf_13 ?_
    refine am_iload rfl dX10_used_78 ?_
    refine mm_ial dX10_used_80 (md_bAt hm) (by omega) ?_
    rw [Int.toNat_natCast]
    refine am_ci (mm_V3 dX10_used_81 in_X10_has mk_X10_160 im_X10_has sl_X10_has ⟨Nat.le_of_ble_eq_true rfl, Nat.le_of_ble_eq_true rfl⟩ rfl (md_0 hm) (Nat.le_of_ble_eq_true rfl)) (m_has hm hb.1 hk6 hs6 hkA.2) ?_
    refine mm_beq (tgt := 170) dX10_used_84 (by decide) (fun h84 => ?_) (fun h84 => ?_)
    · refine mm_iconst dX10_used_170 ?_
      refine am_ist9 dX10_used_171 (Nat.le_of_ble_eq_true rfl) (am_c1i _) ?_
      refine am_aload_n rfl dX10_used_173 ?_
      refine am_iload_n rfl dX10_used_174 ?_
      refine am_iload rfl dX10_used_175 ?_
      refine am_iload rfl dX10_used_177 ?_
      refine am_cxv (mm_V3 dX10_used_179 in_X10_wrong mk_X10_261 im_X10_wrong sl_X10_wrong ⟨Nat.le_of_ble_eq_true rfl, Nat.le_of_ble_eq_true rfl⟩ rfl (md_0 hm) (Nat.le_of_ble_eq_true rfl)) (m_wrongP (X := X) (F := F) (W := W) (pl := pl) hm hb hI hS (c := c) hc (by omega) (by omega) (by first | (have q := hE1 (by rw [hwu, if_neg (by omega), if_neg h84]; omega); rw [hwu, if_neg (by omega), if_neg h84] at q; exact q) | (have q := hE1 (by rw [hwu, if_pos (by omega)]; omega); rw [hwu, if_pos (by omega)] at q; exact q))) (fun M1 hq => ?_)
      obtain ⟨S2, rfl, hpo, hwm⟩ := hq
      refine am_return dX10_used_182 rfl ?_
      first
        | exact ⟨rfl, S2, L, rfl, hpo, fun _ => ⟨fun _ => by rw [hwu, if_neg (by omega), if_neg h84]; exact hwm, fun z => by rw [hwu, if_neg (by omega), if_neg h84] at z; omega⟩⟩
        | exact ⟨rfl, S2, L, rfl, hpo, fun _ => ⟨fun _ => by rw [hwu, if_pos (by omega)]; exact hwm, fun z => by rw [hwu, if_pos (by omega)] at z; omega⟩⟩
    · refine mm_iconst dX10_used_87 ?_
      refine am_ist13 dX10_used_88 (Nat.le_of_ble_eq_true rfl) (am_c1i _) ?_
      refine am_iload rfl dX10_used_90 ?_
      refine mm_iconst dX10_used_92 ?_
      refine mm_jge (tgt := 169) dX10_used_93 (by decide) (by omega) (by omega) (fun h93 => ?_) (fun h93 => ?_)
      · exfalso; omega
      · have hw0 : wrR S (keyM S c) pl (unM p) = 0 := by rw [hwu, if_neg (by omega), if_pos h84]
        have hE := hE2 hw0
        have hEF : otK X F W S (keyM S c) (nxR S (keyM S c) pl (unM p) False) := by
          by_cases ha : asR S (keyM S c) pl (unM p)
          · exact hE.2 ha
          · have : mSo S (keyM S c).2.1 pl = 1 := by
              rcases hx with z | z | z
              · exact z
              · exact absurd (Or.inl (by show 2 ≤ mSo S (S 204 c).toNat pl ∧ mSo S (S 204 c).toNat pl ≤ 5; omega)) ha
              · exact absurd (Or.inl (by show 2 ≤ mSo S (S 204 c).toNat pl ∧ mSo S (S 204 c).toNat pl ≤ 5; omega)) ha
            rw [nx_noask this ha]; exact hE.1
        have k1 := l_us0 (sh := sh) (S := S) (L := L) (p := p) (pl := pl) hm hb hI hS hc hp0 hp hx hR hw0 hE.1 (Q := (fun r0 M' => r0 = none ∧ ∃ S' L', M' = mm sh S' L' ∧ poM S L X F W S' L' ∧ (S' 181 39 = 0 → (wrR S (keyM S c) pl (unM p) ≠ 0 → WM S' (S 204 c).toNat pl (wrR S (keyM S c) pl (unM p))) ∧ (wrR S (keyM S c) pl (unM p) = 0 → otK (XM S' L') (FM S') (WM S') S (keyM S c) (nxR S (keyM S c) pl (unM p) True) ∧ (asR S (keyM S c) pl (unM p) → otK (XM S' L') (FM S') (WM S') S (keyM S c) (nxR S (keyM S c) pl (unM p) False)))))) ?_
        · rw [hA0, hC0] at k1
          rw [show G0 = 0 by omega]
          exact k1
        intro S1 L1 po1 ho1
        have e1 := po_E po1
        have c1 := po_c po1 hc
        have ky1 := po_k po1 hc
        have kk1 := ky_204 ky1
        refine mm_inc13 dX10_used_163 (Nat.le_of_ble_eq_true rfl) (am_c1i _) ?_
        refine am_goto (tgt := 90) dX10_used_166 (by decide) ?_
        refine am_iload rfl dX10_used_90 ?_
        refine mm_iconst dX10_used_92 ?_
        refine mm_jge (tgt := 169) dX10_used_93 (by decide) (by omega) (by omega) (fun h93 => ?_) (fun h93 => ?_)
        · exfalso; omega
        have k2 := l_us1 (sh := sh) (S := S1) (L := L1) (X := X) (F := F) (W := W) (c := c) (p := p) (pl := pl) hm (mbW_of e1 hb) po1.2.1 po1.2.2.1 c1 hp0 (by rw [kk1.1, bk_N e1]; exact hp) (by rw [kk1.1, bk_So e1]; exact hx) (by rw [ky1]; exact rgV_of e1 hR) (by rw [ky1, bk_wr e1]; exact hw0) (by rw [ky1, bk_otK e1, bk_nx e1]; exact hEF) (Q := (fun r0 M' => r0 = none ∧ ∃ S' L', M' = mm sh S' L' ∧ poM S L X F W S' L' ∧ (S' 181 39 = 0 → (wrR S (keyM S c) pl (unM p) ≠ 0 → WM S' (S 204 c).toNat pl (wrR S (keyM S c) pl (unM p))) ∧ (wrR S (keyM S c) pl (unM p) = 0 → otK (XM S' L') (FM S') (WM S') S (keyM S c) (nxR S (keyM S c) pl (unM p) True) ∧ (asR S (keyM S c) pl (unM p) → otK (XM S' L') (FM S') (WM S') S (keyM S c) (nxR S (keyM S c) pl (unM p) False)))))) ?_
        · rw [kk1.1, kk1.2, bk_So e1, bk_Aa e1] at k2
          exact k2
        intro S2 L2 po2 ho2
        rw [kk1.1, kk1.2, bk_So e1, bk_Aa e1]
        refine mm_inc13 dX10_used_163 (Nat.le_of_ble_eq_true rfl) (am_c1i _) ?_
        refine am_goto (tgt := 90) dX10_used_166 (by decide) ?_
        refine am_iload rfl dX10_used_90 ?_
        refine mm_iconst dX10_used_92 ?_
        refine mm_jge (tgt := 169) dX10_used_93 (by decide) (by omega) (by omega) (fun h93 => ?_) (fun h93 => ?_)
        · refine am_return dX10_used_169 rfl ⟨rfl, S2, L2, rfl, poM_tr po1 po2, fun e => ⟨fun z => absurd hw0 z, fun _ => ⟨?_, fun _ => ?_⟩⟩⟩
          · exact po_ot po2 (ho1 (po_39 po2 po1.2.1 e))
          · have := ho2 e
            rw [ky1, bk_otK e1, bk_nx e1] at this
            exact this
        · exfalso; omega
