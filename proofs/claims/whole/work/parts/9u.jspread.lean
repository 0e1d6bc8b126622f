/-! ===== a way to end is told to all callers ===== -/
set_option maxRecDepth 100000 in
set_option maxHeartbeats 4000000 in
theorem l_spread {sh : List mm_H} {S : mm_S} {L : mm_L} {p1 p2 p3 n : Nat} (jh : jsH sh) (hpl : plS sh p1 p2 p3 n) (hD : plD p1 p2 p3 n) (hI : imC S L p1 p2 p3 n) {X : XT} {F : FT} {W : WT} (hS : SubC S L p1 X F W) (hb : bkS sh) (hB : cbB S) {d b : Nat} (hd40 : d < 40) (hb16 : b < 16) {l0 : List Nat} {T : Int} (hT : T < 262144) {Q : Option Value → am_M → Prop} (kk : ∀ sh' S' L' q1 q2 q3 m, poC sh S L p1 p2 n X F W sh' S' L' q1 q2 q3 m → S' 86 0 ≤ T → (∀ i ∈ l0, ∀ (c : Nat) (x : Int) (pl : Nat) (p : Int), enC S L p1 i c x pl p → otK (XC S' L' q1) (FC S') (WC S') S (keyC S c) (cbR S (keyC S c) pl (unM p) (8 ≤ b) ((b % 8 : Nat) : Int))) → Q none (mm sh' S' L')) : ∀ (q : Nat) (l : List Nat) (cl lf : Int) (sh' : List mm_H) (S' : mm_S) (L' : mm_L) (q1 q2 q3 m : Nat), l.length < q → (lkC S p2 cl l) → ((l.length : Int) ≤ lf ∧ lf < 1000000) → (-1 ≤ cl ∧ cl < 1000000) → (poC sh S L p1 p2 n X F W sh' S' L' q1 q2 q3 m) → (S' 86 0 + (l.length : Int) ≤ T) → (∀ i ∈ l, (i : Int) < S 86 0 ∧ ∃ (c : Nat) (x : Int) (pl : Nat) (p : Int), enC S L p1 i c x pl p ∧ itV S (keyC S c) pl (unM p) ∧ rcC S (keyC S c) pl (unM p) ∧ (mSo S (keyC S c).2.1 pl = 10 → 0 ≤ ((b % 8 : Nat) : Int) ∧ ((b % 8 : Nat) : Int) < S 182 (cdR (keyC S c).2.2.1 (unM p) ((unM p).1 (mBb S (keyC S c).2.1 pl).toNat) / 7).toNat) ∧ otK X F W S (keyC S c) (cbR S (keyC S c) pl (unM p) (8 ≤ b) ((b % 8 : Nat) : Int))) → (∀ i ∈ l0, i ∈ l ∨ ∀ (c : Nat) (x : Int) (pl : Nat) (p : Int), enC S L p1 i c x pl p → otK (XC S' L' q1) (FC S') (WC S') S (keyC S c) (cbR S (keyC S c) pl (unM p) (8 ≤ b) ((b % 8 : Nat) : Int))) → am_AW eX3_spreadNews (mm sh' S' L') 22 [some (.ref 85), some (.ref 1), some (.int (iI (16 * (d : Int) + b))), some (.int (iI cl)), some (.int (iI lf))] [] Q := by
  intro q
  induction q with
  | zero =>
    intro l cl lf sh' S' L' q1 q2 q3 m hq
    exact absurd hq (Nat.not_lt_zero _)
  | succ q ih =>
    intro l cl lf sh' S' L' q1 q2 q3 m hq hlk hlf hcl hpo hsz hH hdn
    have jh1 := jsH_of hpo.1.1 jh
    have hpl1 := hpo.1.2.1
    refine am_iload rfl dX3_spreadNews_22 ?_
    refine mm_zle (tgt := 58) dX3_spreadNews_24 (by decide) (by omega) (fun h24 => ?_) (fun h24 => ?_)
    · refine am_return dX3_spreadNews_58 rfl ?_
      have hl : l = [] := by
        cases l with
        | nil => rfl
        | cons i t => exfalso; have := hlk.1; simp only [List.length_cons] at hlf; omega
      subst hl
      exact kk sh' S' L' q1 q2 q3 m hpo (by simp only [List.length_nil] at hsz; omega) (fun i hi => by
        rcases hdn i hi with z | z
        · exact absurd z List.not_mem_nil
        · exact z)
    · refine am_iload_n rfl dX3_spreadNews_27 ?_
      refine mm_iconst dX3_spreadNews_28 ?_
      refine mm_jeq (tgt := 58) dX3_spreadNews_29 (by decide) (by omega) (by omega) (fun h29 => ?_) (fun h29 => ?_)
      · refine am_return dX3_spreadNews_58 rfl ?_
        have hl : l = [] := by
          cases l with
          | nil => rfl
          | cons i t => exfalso; have := hlk.1; simp only [List.length_cons] at hlf; omega
        subst hl
        exact kk sh' S' L' q1 q2 q3 m hpo (by simp only [List.length_nil] at hsz; omega) (fun i hi => by
          rcases hdn i hi with z | z
          · exact absurd z List.not_mem_nil
          · exact z)
      · obtain ⟨i, t, rfl⟩ : ∃ i t, l = i :: t := by
          cases l with
          | nil => exfalso; have : cl = -1 := hlk; omega
          | cons i t => exact ⟨i, t, rfl⟩
        obtain ⟨hcl1, hcl2, hcl3⟩ := id hlk
        subst hcl1
        rw [List.length_cons] at hlf hsz
        obtain ⟨hi, c, x, pl, p, hen, hit, ⟨hp, hx, hw⟩, hq8, hE⟩ := hH i (List.mem_cons_self ..)
        have hc := hen.1
        have hg := hpo.2.1
        have hk1 := gr_key hg hc
        have hbe := gr_E hg
        have hb' := bkS_of hpo.1.1 jh.2.2.2.2.2.2.2 hb
        have hB' := cbB_of (gr_cb hg) hB
        have jh' := jsH_of hpo.1.1 jh
        have hpl' := hpo.1.2.1
        have hD' := hpo.1.2.2.1
        refine am_aload_n rfl dX3_spreadNews_32 ?_
        refine am_aload_n rfl dX3_spreadNews_33 ?_
        refine am_iload_n rfl dX3_spreadNews_34 ?_
        refine am_iload_n rfl dX3_spreadNews_35 ?_
        refine mm_bipush dX3_spreadNews_36 (by decide) ?_
        refine mm_irem dX3_spreadNews_38 (by omega) (by omega) ?_
        rw [show (16 * (d : Int) + b) % 16 = (b : Int) by omega]
        refine am_cxv (mm_V3 dX3_spreadNews_39 in_X3_comeBack mk_X3_211 im_X3_comeBack sl_X3_comeBack ⟨Nat.le_of_ble_eq_true rfl, Nat.le_of_ble_eq_true rfl⟩ rfl jh1.1 (Nat.le_of_ble_eq_true rfl)) (c_jcb (X := X) (F := F) (W := W) (b := b) (i := i) jh' hpl' hD' hpo.2.2.1 hpo.2.2.2.1 hb' hB' (by have := hg.2.2.1.1; omega) (gr_en hg hi hen) (by rw [hk1]; exact itV_of hbe hit) (by rw [hk1, bk_N hbe]; exact hp) (by rw [hk1, bk_So hbe]; exact hx) (by rw [hk1, bk_wr hbe]; exact hw) hb16 (by rw [hk1, bk_So hbe, bk_Bb hbe, hbe.1 182 (by omega) (by omega)]; exact hq8) (by rw [hk1, bk_otK hbe, bk_cd hbe]; exact hE) (by omega)) (fun M1 hqq => ?_)
        obtain ⟨sh2, S2, L2, t1, t2, t3, m2, rfl, hpo2, hsz2, hx2⟩ := hqq
        rw [hk1, bk_otK hbe, bk_cd hbe] at hx2
        have hpo3 := po_tr hpo hpo2
        have jh2 := jsH_of hpo3.1.1 jh
        have hpl2 := hpo3.1.2.1
        have hr2 := hpo3.2.2.1.1.1
        have hr3 := hpo3.2.1.2.2.1.1
        refine am_aload_n rfl dX3_spreadNews_42 ?_
        refine mm_getR dX3_spreadNews_43 fl_X3_25 jh2.1 rfl ?_
        refine mm_getR dX3_spreadNews_46 fl_X3_202 hpl2.1 rfl ?_
        refine am_iload_n rfl dX3_spreadNews_49 ?_
        refine mm_ial dX3_spreadNews_50 hpl2.2.2.1 (by omega) ?_
        rw [Int.toNat_natCast, (hpo3.2.1.2.2.1.2 i hi).2]
        refine am_ist3 dX3_spreadNews_51 (Nat.le_of_ble_eq_true rfl) (am_c1i _) ?_
        refine mm_inc4 dX3_spreadNews_52 (Nat.le_of_ble_eq_true rfl) (am_c1i _) ?_
        refine am_goto (tgt := 22) dX3_spreadNews_55 (by decide) ?_
        refine ih t (S p2 i) (lf + -1) sh2 S2 L2 t1 t2 t3 m2 (by rw [List.length_cons] at hq; omega) hcl3 (by omega) (by have := (hI.2.1 i hi).1; have := hcl2; omega) hpo3 (by omega) (fun j hj => hH j (List.mem_cons_of_mem _ hj)) (fun j hj => ?_)
        rcases hdn j hj with z | z
        · rcases List.mem_cons.mp z with y | y
          · subst y
            right
            intro c' x' pl' p' he'
            obtain ⟨e1, e2, e3, e4⟩ := en_fun hI hen he'
            subst e1 e2 e3 e4
            exact hx2
          · exact Or.inl y
        · right
          intro c' x' pl' p' he'
          exact otK_mono (gr_X hpo2.2.1) (gr_F hpo2.2.1) (fun r pl => gr_W hpo2.2.1 r pl 5) (z c' x' pl' p' he')
set_option maxRecDepth 100000 in
set_option maxHeartbeats 4000000 in
theorem c_spread {sh : List mm_H} {S : mm_S} {L : mm_L} {p1 p2 p3 n : Nat} (jh : jsH sh) (hpl : plS sh p1 p2 p3 n) (hD : plD p1 p2 p3 n) (hI : imC S L p1 p2 p3 n) {X : XT} {F : FT} {W : WT} (hS : SubC S L p1 X F W) (hb : bkS sh) (hB : cbB S) {d b : Nat} (hd : (d : Int) < S 85 1) (hb16 : b < 16) {l0 : List Nat} (hlk : lkC S p2 (S (98 + d) 6) l0) (hN8 : 2 * S 86 0 < 262144) (hH : ∀ i ∈ l0, (i : Int) < S 86 0 ∧ ∃ (c : Nat) (x : Int) (pl : Nat) (p : Int), enC S L p1 i c x pl p ∧ itV S (keyC S c) pl (unM p) ∧ rcC S (keyC S c) pl (unM p) ∧ (mSo S (keyC S c).2.1 pl = 10 → 0 ≤ ((b % 8 : Nat) : Int) ∧ ((b % 8 : Nat) : Int) < S 182 (cdR (keyC S c).2.2.1 (unM p) ((unM p).1 (mBb S (keyC S c).2.1 pl).toNat) / 7).toNat) ∧ otK X F W S (keyC S c) (cbR S (keyC S c) pl (unM p) (8 ≤ b) ((b % 8 : Nat) : Int))) : am_E eX3_spreadNews [.ref 85, .ref 1, .int (iI (16 * (d : Int) + b))] (mm sh S L) (fun r0 M' => r0 = none ∧ ∃ sh' S' L' q1 q2 q3 m, M' = mm sh' S' L' ∧ poC sh S L p1 p2 n X F W sh' S' L' q1 q2 q3 m ∧ S' 86 0 ≤ 2 * S 86 0 ∧ ∀ i ∈ l0, ∀ (c : Nat) (x : Int) (pl : Nat) (p : Int), enC S L p1 i c x pl p → otK (XC S' L' q1) (FC S') (WC S') S (keyC S c) (cbR S (keyC S c) pl (unM p) (8 ≤ b) ((b % 8 : Nat) : Int))) := by
  have h40 := hI.2.2.1.1
  have hd40 : d < 40 := by omega
  have h6 := (hI.2.2.1.2 d hd).2.2.2.2.1
  have hll := lk_len l0 _ hlk
  refine am_enter rfl rfl (Nat.le_of_ble_eq_true rfl) ?_
  refine am_aload_n rfl dX3_spreadNews_0 ?_
  refine mm_getR dX3_spreadNews_1 fl_X3_31 jh.1 rfl ?_
  refine am_iload_n rfl dX3_spreadNews_4 ?_
  refine mm_bipush dX3_spreadNews_5 (by decide) ?_
  refine mm_idiv dX3_spreadNews_7 (by omega) (by omega) ?_
  rw [show (16 * (d : Int) + b) / 16 = (d : Int) by omega]
  refine mm_aal dX3_spreadNews_8 (fun _ => rfl) jh.2.1 ⟨by omega, by omega, by omega⟩ (show caArr _ = some (98 + d) by rw [Int.toNat_natCast]; exact if_pos hd40) ?_
  refine mm_getI dX3_spreadNews_9 fl_X3_205 (jh.2.2.2.2.2.2.1 d hd40) rfl ?_
  refine am_ist3 dX3_spreadNews_12 (Nat.le_of_ble_eq_true rfl) (am_c1i _) ?_
  refine am_aload_n rfl dX3_spreadNews_13 ?_
  refine mm_getR dX3_spreadNews_14 fl_X3_25 jh.1 rfl ?_
  refine mm_getI dX3_spreadNews_17 fl_X3_75 hpl.1 rfl ?_
  refine am_ist4 dX3_spreadNews_20 (Nat.le_of_ble_eq_true rfl) (am_c1i _) ?_
  exact l_spread (X := X) (F := F) (W := W) (l0 := l0) (T := 2 * S 86 0) jh hpl hD hI hS hb hB hd40 hb16 (by omega) (fun sh' S' L' q1 q2 q3 m u1 u2 u3 => ⟨rfl, sh', S', L', q1, q2, q3, m, rfl, u1, u2, u3⟩) (l0.length + 1) l0 (S (98 + d) 6) (S 86 0) sh S L p1 p2 p3 n (by omega) hlk (by omega) (by omega) (po_rf hpl hD hI hS) (by omega) hH (fun i hi => Or.inl hi)
