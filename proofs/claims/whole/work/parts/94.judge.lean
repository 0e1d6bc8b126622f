/-! ===== judge ===== -/
/-- what has been followed leads within the sets -/
def acJ (B S : mm_S) (L : mm_L) (c i : Nat) : Prop := ∀ c' i' : Nat, (c' < c ∨ (c' = c ∧ i' < i)) → (c' : Int) < S 181 27 → (i' : Int) < S 209 c' → foK (XM S L) (FM S) (WM S) B (keyM S c') (S 210 (2000 * c' + i')).toNat (unM (L 211 (2000 * c' + i')).toInt)
theorem ac_sam {B S S' : mm_S} {L L' : mm_L} {c i : Nat} (h : samM S L S' L') (ha : acJ B S L c i) : acJ B S' L' c i := fun c' i' h1 h2 h3 => by
  have e := sam_X h
  obtain ⟨g1, rfl, g3⟩ := h
  rw [g3] at h2
  rw [g1 209 (by omega) (by omega)] at h3
  rw [e.1, e.2.1, e.2.2.1, e.2.2.2, g1 210 (by omega) (by omega)]
  exact ha c' i' h1 h2 h3
/-- the judge's rows are the same -/
theorem im_eq {S S' : mm_S} {L : mm_L} (er : ∀ b, 203 ≤ b → b < 214 → S' b = S b) (he : bkE S S') (e27 : S' 181 27 = S 181 27) (e39 : S' 181 39 = S 181 39) (e40 : S' 181 40 = S 181 40) (hI : imS S L) : imS S' L ∧ XM S' L = XM S L ∧ FM S' = FM S ∧ WM S' = WM S ∧ ∀ c, keyM S' c = keyM S c := by
  have sx := sam_X (S := S) (S' := S') (L := L) (L' := L) ⟨fun b h1 h2 => er b h1 (by omega), rfl, e27⟩
  obtain ⟨h1, h2, h3, h4, h5⟩ := hI
  have ek := sx.2.2.2
  have ee : ∀ c i, enE S' L c i = enE S L c i := fun c i => by unfold enE; rw [er 210 (by omega) (by omega)]
  refine ⟨⟨?_, fun c hc => ?_, fun c d hc hd e => ?_, ?_, ?_⟩, sx.1, sx.2.1, sx.2.2.1, ek⟩
  · unfold csR at *
    rw [e27, er 203 (by omega) (by omega), er 204 (by omega) (by omega), er 205 (by omega) (by omega), er 206 (by omega) (by omega)]
    exact h1
  · rw [e27] at hc
    obtain ⟨k1, k2, k3, k4, k5⟩ := h2 c hc
    refine ⟨by rw [ek]; exact kyV_of he k1, ?_, ?_, fun i hi => ?_, fun i j hi hj e => ?_⟩
    · rw [er 209 (by omega) (by omega), er 207 (by omega) (by omega), er 208 (by omega) (by omega)]; exact k2
    · rw [er 209 (by omega) (by omega), er 212 (by omega) (by omega)]
      exact tb_congr k3 (fun _ _ => rfl) (fun i _ => ee c i)
    · rw [er 209 (by omega) (by omega)] at hi
      rw [ee, ek]
      exact ⟨(k4 i hi).1, itV_of he (k4 i hi).2⟩
    · rw [er 209 (by omega) (by omega)] at hi hj
      rw [ee, ee] at e
      exact k5 i j hi hj e
  · rw [e27] at hc hd
    rw [ek, ek] at e
    exact h3 c d hc hd e
  · rw [er 213 (by omega) (by omega)]; exact h4
  · rw [e39, e40]; exact h5
/-- what the judge may change -/
def jgF (S : mm_S) (L : mm_L) (S' : mm_S) (L' : mm_L) : Prop := (∀ b, b < 198 ∨ 214 ≤ b → b ≠ 181 → S' b = S b) ∧ (∀ j, j ≠ 22 → j ≠ 26 → j ≠ 27 → j ≠ 39 → j ≠ 40 → S' 181 j = S 181 j) ∧ ∀ b, b ≠ 211 → L' b = L b
theorem jgF_tr {S S1 S2 : mm_S} {L L1 L2 : mm_L} (h : jgF S L S1 L1) (h2 : jgF S1 L1 S2 L2) : jgF S L S2 L2 := ⟨fun b x y => (h2.1 b x y).trans (h.1 b x y), fun j a1 a2 a3 a4 a5 => (h2.2.1 j a1 a2 a3 a4 a5).trans (h.2.1 j a1 a2 a3 a4 a5), fun b x => (h2.2.2 b x).trans (h.2.2 b x)⟩
theorem jgF_E {S S' : mm_S} {L L' : mm_L} (h : jgF S L S' L') : bkE S S' := ⟨fun b h1 h2 => h.1 b (Or.inl h2) (by omega), h.2.1 0 (by omega) (by omega) (by omega) (by omega) (by omega), h.2.1 9 (by omega) (by omega) (by omega) (by omega) (by omega)⟩
theorem jgF_po {S S1 S2 : mm_S} {L L1 L2 : mm_L} {X : XT} {F : FT} {W : WT} (h : jgF S L S1 L1) (h2 : poM S1 L1 X F W S2 L2) : jgF S L S2 L2 := jgF_tr h ⟨h2.1.1.1, fun j a1 a2 a3 a4 a5 => h2.1.1.2.1 j a1 a3 a4 a5, h2.1.1.2.2⟩
/-- how the judge stands between two passes; B: the book as it was walked -/
def jwS (B : mm_S) (LB : mm_L) (S : mm_S) (L : mm_L) : Prop := jgF B LB S L ∧ imS S L ∧ SubM S L (lfX B) (lfF B) (lfW B) ∧ inS S L ∧ bvS S ∧ (S 181 39 = 1 → OvX (lfX B)) ∧ S 181 26 = 0 ∧ (S 181 39 = 1 ∨ ∃ d : Nat, (d : Int) < S 181 27 ∧ keyM S d = ky0)
/-- its answer -/
def jdP (B : mm_S) (LB : mm_L) (v : Int) (S : mm_S) (L : mm_L) : Prop := jgF B LB S L ∧ ((S 181 39 = 0 ∨ S 181 39 = 1) ∧ (S 181 40 = 0 ∨ S 181 40 = 1)) ∧ ((v = -5 ∧ S 181 26 = 0 ∧ OvX (lfX B) ∧ imS S L) ∨ (v = (if wO (S 213) 150 = 0 then 1 else 0) ∧ S 181 26 = 1 ∧ imS S L ∧ inS S L ∧ clsK (XM S L) (FM S) (WM S) B ∧ SubM S L (lfX B) (lfF B) (lfW B)))
theorem po_sz {S S' : mm_S} {L L' : mm_L} {X : XT} {F : FT} {W : WT} (h : poM S L X F W S' L') {c : Nat} (hc : (c : Int) < S 181 27) (hI : imS S L) : S 209 c ≤ S' 209 c := by
  have hk := po_k h hc
  obtain ⟨-, ⟨⟨s1, s2⟩, -, -⟩, -, k4, k5⟩ := hI.2.1 c hc
  have hc' := po_c h hc
  have t2 := (h.2.1.2.1 c hc').2.1.1
  have hp : ∀ i : Nat, (i : Int) < S 209 c → 0 ≤ S 210 (2000 * c + i) := fun i hi => (k4 i hi).2.2.1.1
  have hx : ∀ i : Nat, ∃ j : Nat, (i : Int) < S 209 c → (j : Int) < S' 209 c ∧ S' 210 (2000 * c + j) = S 210 (2000 * c + i) ∧ (L' 211 (2000 * c + j)).toInt = (L 211 (2000 * c + i)).toInt := fun i => by
    by_cases hi : (i : Int) < S 209 c
    · obtain ⟨d, j, a1, a2, a3, a4, a5⟩ := h.1.2.2.1.1 (keyM S c) (S 210 (2000 * c + i)).toNat (L 211 (2000 * c + i)).toInt ⟨c, i, hc, rfl, hi, by have := hp i hi; omega, rfl⟩
      have e : d = c := h.2.1.2.2.1 d c a1 hc' (by rw [a2, hk])
      subst e
      exact ⟨j, fun _ => ⟨a3, by have := hp i hi; omega, a5⟩⟩
    · exact ⟨0, fun z => absurd z hi⟩
  obtain ⟨g, hg⟩ := Classical.axiomOfChoice hx
  have := inj_le (S 209 c).toNat (S' 209 c).toNat g (fun i hi => by have := (hg i (by omega)).1; omega) (fun i j hi hj e => by
    have a := hg i (by omega)
    have b := hg j (by omega)
    rw [e] at a
    exact k5 i j (by omega) (by omega) (Prod.ext (a.2.2.symm.trans b.2.2) (a.2.1.symm.trans b.2.1)))
  omega
set_option maxRecDepth 100000 in
set_option maxHeartbeats 4000000 in
theorem l_ji {sh : List mm_H} {B : mm_S} {LB : mm_L} (hm : mdS sh) (hb : mbW B) {S1 : mm_S} {L1 : mm_L} (hj : jwS B LB S1 L1) {Q : Option Value → am_M → Prop} {c : Nat} (kk : ∀ S2 L2, poM S1 L1 (lfX B) (lfF B) (lfW B) S2 L2 → (S2 181 39 = 0 → S2 181 40 = 0 → acJ B S2 L2 (c + 1) 0) → am_AW eX10_judge (mm sh S2 L2) 127 [some (.ref 181), some (.int (iI (c : Int))), none] [] Q) : ∀ (q : Nat) (i : Nat) (S : mm_S) (L : mm_L), 2001 - i < q → (poM S1 L1 (lfX B) (lfF B) (lfW B) S L) → ((c : Int) < S 181 27) → ((i : Int) ≤ S 209 c) → (S 181 39 = 0 → S 181 40 = 0 → acJ B S L c i) → am_AW eX10_judge (mm sh S L) 92 [some (.ref 181), some (.int (iI (c : Int))), some (.int (iI (i : Int)))] [] Q := by
  intro q
  induction q with
  | zero =>
    intro i S L hq
    exact absurd hq (Nat.not_lt_zero _)
  | succ q ih =>
    intro i S L hq hpo hc hi hac
    have hc27 := hpo.2.1.1.1
    obtain ⟨⟨⟨s1, s2⟩, -, -⟩, -, k4, -⟩ := (hpo.2.1.2.1 c hc).2
    have k4i : (i : Int) < S 209 c → 0 ≤ S 210 (2000 * c + i) := fun z => (k4 i z).2.2.1.1
    have f39 := hpo.2.1.2.2.2.2.1
    have eB : bkE B S := bkE_tr (jgF_E hj.1) (po_E hpo)
    have hv := hpo.2.2.2.2 hj.2.2.2.2.1
    refine am_iload_n rfl dX10_judge_92 ?_
    refine am_aload_n rfl dX10_judge_93 ?_
    refine mm_getR dX10_judge_94 fl_X10_96 (md_0 hm) mdf_34 ?_
    refine am_iload_n rfl dX10_judge_97 ?_
    refine mm_ial dX10_judge_98 (md_size hm) (by omega) ?_
    rw [Int.toNat_natCast]
    refine mm_jge (tgt := 127) dX10_judge_99 (by decide) (by omega) (by omega) (fun h99 => ?_) (fun h99 => ?_)
    · refine am_AW.unset 2 ?_
      refine kk S L hpo (fun e1 e2 c' i' g1 g2 g3 => ?_)
      refine hac e1 e2 c' i' ?_ g2 g3
      by_cases q : c' = c
      · right
        rw [q] at g3
        exact ⟨q, by omega⟩
      · left; omega
    · refine am_aload_n rfl dX10_judge_102 ?_
      refine mm_getI dX10_judge_103 fl_X10_233 (md_0 hm) mdf_39 ?_
      refine mm_zne (tgt := 127) dX10_judge_106 (by decide) (by omega) (fun h106 => ?_) (fun h106 => ?_)
      · refine am_AW.unset 2 ?_
        exact kk S L hpo (fun e1 => by omega)
      · refine am_aload_n rfl dX10_judge_109 ?_
        refine am_iload_n rfl dX10_judge_110 ?_
        refine mm_sipush dX10_judge_111 (by decide) ?_
        refine am_iload_n rfl dX10_judge_114 ?_
        refine mm_imul dX10_judge_115 ?_
        refine am_iload_n rfl dX10_judge_116 ?_
        refine mm_iadd dX10_judge_117 ?_
        rw [show (2000 * (c : Int) + (i : Int)) = ((2000 * c + i : Nat) : Int) by omega]
        refine am_cxv (mm_V2 dX10_judge_118 in_X10_follow mk_X10_324 im_X10_follow sl_X10_follow ⟨Nat.le_of_ble_eq_true rfl, Nat.le_of_ble_eq_true rfl⟩ rfl (md_0 hm) (Nat.le_of_ble_eq_true rfl)) (m_follow (X := lfX B) (F := lfF B) (W := lfW B) (c := c) (i := i) hm (mbW_of eB hb) hpo.2.1 hpo.2.2.1 hc (by omega) hv (inS_J hpo.1 hj.2.2.2.1) (by rw [bk_fo eB]; exact (cls_lf B).2 _ _ _ (hpo.2.2.1.1 _ _ _ ⟨c, i, hc, rfl, by omega, by omega, rfl⟩))) (fun M1 hq => ?_)
        obtain ⟨S2, L2, rfl, po2, ho2⟩ := hq
        refine mm_inc2 dX10_judge_121 (Nat.le_of_ble_eq_true rfl) (am_c1i _) ?_
        refine am_goto (tgt := 92) dX10_judge_124 (by decide) ?_
        have po3 := poM_tr hpo po2
        have c2 := po_c po2 hc
        refine ih (i + 1) S2 L2 (by omega) po3 c2 ?_ (fun e1 e2 => ?_)
        · have := po_sz po2 hc hpo.2.1
          omega
        · have sm := po2.1.2.2.2.2.2 e2
          have ho := ho2 e1 e2
          rw [bk_fo eB] at ho
          intro c' i' g1 g2 g3
          by_cases q : c' = c ∧ i' = i
          · obtain ⟨rfl, rfl⟩ := q
            rw [(sam_X sm).2.2.2, sm.1 210 (by omega) (by omega), sm.2.1]
            rw [sm.2.1] at ho
            exact ho
          · exact ac_sam sm (hac (po_39 po2 hpo.2.1 e1) (po_40 po2 hpo.2.1 e2)) c' i' (by omega) g2 g3
set_option maxRecDepth 100000 in
set_option maxHeartbeats 4000000 in
theorem l_jo {sh : List mm_H} {B : mm_S} {LB : mm_L} (hm : mdS sh) (hb : mbW B) {S1 : mm_S} {L1 : mm_L} (hj : jwS B LB S1 L1) {Q : Option Value → am_M → Prop} (kk : ∀ S2 L2, poM S1 L1 (lfX B) (lfF B) (lfW B) S2 L2 → (S2 181 39 = 0 → S2 181 40 = 0 → ∀ κ pl p, XM S2 L2 κ pl p → foK (XM S2 L2) (FM S2) (WM S2) B κ pl (unM p)) → am_AW eX10_judge (mm sh S2 L2) 133 [some (.ref 181), none, none] [] Q) : ∀ (q : Nat) (c : Nat) (S : mm_S) (L : mm_L), 41 - c < q → (poM S1 L1 (lfX B) (lfF B) (lfW B) S L) → (c ≤ 40) → (S 181 39 = 0 → S 181 40 = 0 → acJ B S L c 0) → am_AW eX10_judge (mm sh S L) 82 [some (.ref 181), some (.int (iI (c : Int))), none] [] Q := by
  intro q
  induction q with
  | zero =>
    intro c S L hq
    exact absurd hq (Nat.not_lt_zero _)
  | succ q ih =>
    intro c S L hq hpo hc hac
    have hc27 := hpo.2.1.1.1
    refine am_iload_n rfl dX10_judge_82 ?_
    refine am_aload_n rfl dX10_judge_83 ?_
    refine mm_getI dX10_judge_84 fl_X10_240 (md_0 hm) mdf_27 ?_
    refine mm_jge (tgt := 133) dX10_judge_87 (by decide) (by omega) (by omega) (fun h87 => ?_) (fun h87 => ?_)
    · refine am_AW.unset 1 ?_
      refine kk S L hpo (fun e1 e2 κ pl p hx => ?_)
      obtain ⟨c', i', a1, a2, a3, a4, a5⟩ := hx
      have := hac e1 e2 c' i' (Or.inl (by omega)) a1 a3
      rw [a2, a4, Int.toNat_natCast, a5] at this
      exact this
    · refine mm_iconst dX10_judge_90 ?_
      refine am_ist2 dX10_judge_91 (Nat.le_of_ble_eq_true rfl) (am_c1i _) ?_
      refine l_ji hm hb hj (c := c) (fun S2 L2 po2 ho2 => ?_) 2002 0 S L (by omega) hpo (by omega) (by have := (hpo.2.1.2.1 c (by omega)).2.1.1.1; omega) hac
      refine mm_inc1 dX10_judge_127 (Nat.le_of_ble_eq_true rfl) (am_c1r _) ?_
      refine am_goto (tgt := 82) dX10_judge_130 (by decide) ?_
      exact ih (c + 1) S2 L2 (by omega) po2 (by omega) ho2
theorem jw_more {B V S : mm_S} {LB L : mm_L} (h : jwS B LB S L) (vr : ∀ b, b ≠ 181 → V b = S b) (vc : ∀ j, j ≠ 40 → V 181 j = S 181 j) (v40 : V 181 40 = 0) : jwS B LB V L := by
  obtain ⟨h1, h2, h3, h4, h5, h6, h7⟩ := h
  have he : bkE S V := ⟨fun b x y => vr b (by omega), vc 0 (by omega), vc 9 (by omega)⟩
  obtain ⟨i1, i2, i3, i4⟩ := im_bits h2 (fun b a1 _ _ _ => vr b a1) vc (fun c hc => by rw [vr 207 (by omega), vr 208 (by omega)]; exact (h2.2.1 c hc).2.1.2) (fun x hx => by rw [vr 213 (by omega)]; exact h2.2.2.2.1 x hx) (Or.inl v40)
  have eF : FM V = FM S := by
    unfold FM keyM
    rw [vr 203 (by omega), vr 204 (by omega), vr 205 (by omega), vr 206 (by omega), vr 207 (by omega), vr 208 (by omega), vc 27 (by omega)]
  have eW : WM V = WM S := by unfold WM; rw [vr 213 (by omega)]
  refine ⟨jgF_tr h1 ⟨fun b x y => vr b y, fun j _ _ _ _ a => vc j a, fun _ _ => rfl⟩, i1, by unfold SubM; rw [i2, eF, eW]; exact h3, fun c hc => ?_, bvS_of he (fun c _ => i4 c) (vc 27 (by omega)) (vr 207 (by omega)) (vr 208 (by omega)) h5, by rw [vc 39 (by omega)]; exact h6, by rw [vc 26 (by omega)]; exact h7.1, by rw [vc 27 (by omega), vc 39 (by omega)]; simp only [i4]; exact h7.2⟩
  rw [vc 27 (by omega)] at hc
  rw [i2, i4]
  exact h4 c hc
theorem jw_po {B S S' : mm_S} {LB L L' : mm_L} (h : jwS B LB S L) (po : poM S L (lfX B) (lfF B) (lfW B) S' L') : jwS B LB S' L' := by
  obtain ⟨h1, h2, h3, h4, h5, h6, h7⟩ := h
  refine ⟨jgF_po h1 po, po.2.1, po.2.2.1, inS_J po.1 h4, po.2.2.2.2 h5, fun e => ?_, by rw [po.1.1.2.1 26 (by omega) (by omega) (by omega) (by omega)]; exact h7.1, by
    rcases h7.2 with q | ⟨d, q1, q2⟩
    · left
      have := po.1.2.2.2.1.1
      have := po.2.1.2.2.2.2.1
      omega
    · exact Or.inr ⟨d, po_c po q1, by rw [po_k po q1]; exact q2⟩⟩
  rcases po.2.2.2.1 e with q | q
  · exact h6 q
  · exact q
set_option maxRecDepth 100000 in
set_option maxHeartbeats 8000000 in
theorem l_je {sh : List mm_H} {B : mm_S} {LB : mm_L} (hm : mdS sh) (hb : mbW B) {S : mm_S} {L : mm_L} (hj : jwS B LB S L) (hx : S 181 39 = 1 ∨ S 181 40 = 0) (hcl : S 181 39 = 0 → S 181 40 = 0 → ∀ κ pl p, XM S L κ pl p → foK (XM S L) (FM S) (WM S) B κ pl (unM p)) : am_AW eX10_judge (mm sh S L) 136 [some (.ref 181), none, none] [] (fun r0 M' => ∃ v S' L', r0 = some (.int (iI v)) ∧ M' = mm sh S' L' ∧ jdP B LB v S' L') := by
  have f39 := hj.2.1.2.2.2.2.1
  have f40 := hj.2.1.2.2.2.2.2
  refine am_aload_n rfl dX10_judge_136 ?_
  refine mm_getI dX10_judge_137 fl_X10_233 (md_0 hm) mdf_39 ?_
  refine mm_zeq (tgt := 146) dX10_judge_140 (by decide) (by omega) (fun h140 => ?_) (fun h140 => ?_)
  · refine am_aload_n rfl dX10_judge_146 ?_
    refine mm_iconst dX10_judge_147 ?_
    refine mm_putZ dX10_judge_148 fp_X10_321 (md_0 hm) mdf_26 (Or.inr rfl) ?_
    obtain ⟨V, hV⟩ : ∃ V, up2 S 181 26 1 = V := ⟨_, rfl⟩
    have vr : ∀ b, b ≠ 181 → V b = S b := fun b h => by rw [← hV]; exact up2_row h
    have vc : ∀ j, j ≠ 26 → V 181 j = S 181 j := fun j h => by rw [← hV]; exact up2_rc h
    have v26 : V 181 26 = 1 := by rw [← hV]; exact up2_same _ _ _ _
    rw [hV]
    have he : bkE S V := ⟨fun b x y => vr b (by omega), vc 0 (by omega), vc 9 (by omega)⟩
    obtain ⟨i1, i2, i3, i4, i5⟩ := im_eq (fun b x y => vr b (by omega)) he (vc 27 (by omega)) (vc 39 (by omega)) (vc 40 (by omega)) hj.2.1
    have jd : jdP B LB (if wO (V 213) 150 = 0 then 1 else 0) V L := by
      refine ⟨jgF_tr hj.1 ⟨fun b x y => vr b y, fun j _ a _ _ _ => vc j a, fun _ _ => rfl⟩, ⟨by rw [vc 39 (by omega)]; exact f39, by rw [vc 40 (by omega)]; exact f40⟩, Or.inr ⟨rfl, v26, i1, fun c hc => ?_, ?_, ?_⟩⟩
      · rw [vc 27 (by omega)] at hc
        rw [i2, i5]
        exact hj.2.2.2.1 c hc
      · rw [i2, i3, i4]
        refine ⟨?_, hcl (by omega) (by omega)⟩
        rcases hj.2.2.2.2.2.2.2 with q | ⟨d, q1, q2⟩
        · omega
        · have := hj.2.2.2.1 d q1
          rw [q2] at this
          exact this
      · unfold SubM
        rw [i2, i3, i4]
        exact hj.2.2.1
    refine am_aload_n rfl dX10_judge_151 ?_
    refine am_ci (mm_V0 dX10_judge_152 in_X10_wrongMany mk_X10_327 im_X10_wrongMany sl_X10_wrongMany ⟨Nat.le_of_ble_eq_true rfl, Nat.le_of_ble_eq_true rfl⟩ rfl (md_0 hm) (Nat.le_of_ble_eq_true rfl)) (m_wrongMany hm (fun x hx => i1.2.2.2.1 x hx)) ?_
    have hw := wO_R (V 213) 150
    refine mm_zne (tgt := 162) dX10_judge_155 (by decide) (by omega) (fun h155 => ?_) (fun h155 => ?_)
    · refine mm_iconst dX10_judge_162 ?_
      refine am_ireturn dX10_judge_163 rfl rfl ?_
      refine ⟨_, V, L, ?_, rfl, jd⟩
      first
        | rw [if_pos (by omega)]
        | rw [if_neg (by omega)]
    · refine mm_iconst dX10_judge_158 ?_
      refine am_goto (tgt := 163) dX10_judge_159 (by decide) ?_
      refine am_ireturn dX10_judge_163 rfl rfl ?_
      refine ⟨_, V, L, ?_, rfl, jd⟩
      first
        | rw [if_pos (by omega)]
        | rw [if_neg (by omega)]
  · refine mm_bipush dX10_judge_143 (by decide) ?_
    refine am_ireturn dX10_judge_145 rfl rfl ?_
    refine ⟨-5, S, L, rfl, rfl, hj.1, ⟨f39, f40⟩, Or.inl ⟨rfl, hj.2.2.2.2.2.2.1, hj.2.2.2.2.2.1 (by omega), hj.2.1⟩⟩
set_option maxRecDepth 100000 in
set_option maxHeartbeats 4000000 in
theorem l_jw {sh : List mm_H} {B : mm_S} {LB : mm_L} (hm : mdS sh) (hb : mbW B) : ∀ (q : Nat) (S : mm_S) (L : mm_L), (100000 - tot S).toNat + (S 181 40).toNat < q → (jwS B LB S L) → (S 181 39 = 0 → S 181 40 = 0 → ∀ κ pl p, XM S L κ pl p → foK (XM S L) (FM S) (WM S) B κ pl (unM p)) → am_AW eX10_judge (mm sh S L) 61 [some (.ref 181), none, none] [] (fun r0 M' => ∃ v S' L', r0 = some (.int (iI v)) ∧ M' = mm sh S' L' ∧ jdP B LB v S' L') := by
  intro q
  induction q with
  | zero =>
    intro S L hq
    exact absurd hq (Nat.not_lt_zero _)
  | succ q ih =>
    intro S L hq hj hcl
    have f39 := hj.2.1.2.2.2.2.1
    have f40 := hj.2.1.2.2.2.2.2
    have tS := tot_le hj.2.1
    refine am_aload_n rfl dX10_judge_61 ?_
    refine mm_getI dX10_judge_62 fl_X10_237 (md_0 hm) mdf_40 ?_
    refine mm_zeq (tgt := 136) dX10_judge_65 (by decide) (by omega) (fun h65 => ?_) (fun h65 => ?_)
    · exact l_je hm hb hj (Or.inr (by omega)) hcl
    · refine am_aload_n rfl dX10_judge_68 ?_
      refine mm_getI dX10_judge_69 fl_X10_233 (md_0 hm) mdf_39 ?_
      refine mm_zne (tgt := 136) dX10_judge_72 (by decide) (by omega) (fun h72 => ?_) (fun h72 => ?_)
      · exact l_je hm hb hj (Or.inl (by omega)) hcl
      · refine am_aload_n rfl dX10_judge_75 ?_
        refine mm_iconst dX10_judge_76 ?_
        refine mm_putZ dX10_judge_77 fp_X10_237 (md_0 hm) mdf_40 (Or.inl rfl) ?_
        refine mm_iconst dX10_judge_80 ?_
        refine am_ist1 dX10_judge_81 (Nat.le_of_ble_eq_true rfl) (am_c1r _) ?_
        obtain ⟨V, hV⟩ : ∃ V, up2 S 181 40 0 = V := ⟨_, rfl⟩
        have vr : ∀ b, b ≠ 181 → V b = S b := fun b h => by rw [← hV]; exact up2_row h
        have vc : ∀ j, j ≠ 40 → V 181 j = S 181 j := fun j h => by rw [← hV]; exact up2_rc h
        have v40 : V 181 40 = 0 := by rw [← hV]; exact up2_same _ _ _ _
        have hj2 : jwS B LB V L := jw_more hj vr vc v40
        have tV : tot V = tot S := by
          unfold tot
          rw [vc 27 (by omega), toC_congr (vr 207 (by omega)) (vr 208 (by omega)) (vr 209 (by omega)), toW_congr (vr 213 (by omega))]
        rw [hV]
        have h9 := l_jo (sh := sh) (B := B) (LB := LB) (S1 := V) (L1 := L) hm hb hj2 (Q := (fun r0 M' => ∃ v S' L', r0 = some (.int (iI v)) ∧ M' = mm sh S' L' ∧ jdP B LB v S' L')) ?_ 42 0 V L (by omega) (poM_rg (rgF_rf V) hj2.2.1 hj2.2.2.1) (by omega) (fun _ _ c' i' z => by omega)
        · exact h9
        intro S2 L2 po2 ho2
        refine am_goto (tgt := 61) dX10_judge_133 (by decide) ?_
        have t2 := tot_le po2.2.1
        have ht := po2.1.2.2.2.2.1
        refine ih S2 L2 ?_ (jw_po hj2 po2) ho2
        rcases po2.2.1.2.2.2.2.2 with z | z
        · omega
        · rcases ht.2 z with q | q
          · omega
          · omega
