/-! ===== the same book, the same steps ===== -/
theorem otK_mono {X X' : XT} {F F' : FT} {W W' : WT} {S : mm_S} {κ : kyT} {z : Int × Int × rgT} (hX : ∀ κ pl p, X κ pl p → X' κ pl p) (hF : ∀ κ b, F κ b → F' κ b) (hW : ∀ r pl, W r pl 5 → W' r pl 5) (h : otK X F W S κ z) : otK X' F' W' S κ z := by
  unfold otK at *
  split at h
  · rename_i e; rw [if_pos e]; exact hX _ _ _ h
  · rename_i e; rw [if_neg e]; exact ⟨fun q => hW _ _ (h.1 q), fun q => hF _ _ (h.2 q)⟩
theorem bk_N {S S' : mm_S} (he : bkE S S') (r : Nat) : mN S' r = mN S r := by unfold mN; rw [he.1 189 (by omega) (by omega)]
theorem bk_So {S S' : mm_S} (he : bkE S S') (r : Nat) : mSo S' r = mSo S r := by unfold mSo; rw [he.1 190 (by omega) (by omega)]
theorem bk_Aa {S S' : mm_S} (he : bkE S S') (r pl : Nat) : mAa S' r pl = mAa S r pl := by unfold mAa; rw [he.1 191 (by omega) (by omega)]
theorem bk_Bb {S S' : mm_S} (he : bkE S S') (r pl : Nat) : mBb S' r pl = mBb S r pl := by unfold mBb; rw [he.1 192 (by omega) (by omega)]
theorem bk_mv {S S' : mm_S} (he : bkE S S') (r : Nat) (to : Int) (P : Nat → Int) : mvP S' r to P = mvP S r to P := by unfold mvP; rw [bk_N he, bk_So he]
theorem bk_try {S S' : mm_S} (he : bkE S S') (r : Nat) (pl : Int) : tryM S' r pl = tryM S r pl := by unfold tryM; rw [bk_N he, bk_So he]
theorem bk_ot {S S' : mm_S} (he : bkE S S') (r pl : Nat) (how : Int) (R : rgT) : otR S' r pl how R = otR S r pl how R := by unfold otR gtR; rw [bk_try he, bk_N he, bk_So he, bk_mv he, bk_mv he]
theorem bk_bn {S S' : mm_S} (he : bkE S S') (r i : Nat) : bnM S' r i = bnM S r i := by unfold bnM; rw [bk_N he, bk_So he]
theorem bk_H {S S' : mm_S} (he : bkE S S') (k s n : Int) : mH S' k s n = mH S k s n := by unfold mH; rw [he.1 184 (by omega) (by omega)]
theorem bk_A {S S' : mm_S} (he : bkE S S') (k s n : Int) : mA S' k s n = mA S k s n := by unfold mA; rw [he.1 185 (by omega) (by omega)]
theorem bk_Ff {S S' : mm_S} (he : bkE S S') (k s n : Int) (y : Prop) [Decidable y] : mF S' k s n y = mF S k s n y := by unfold mF; rw [he.1 184 (by omega) (by omega), he.1 185 (by omega) (by omega)]
theorem bk_E {S S' : mm_S} (he : bkE S S') (k s : Int) : mE S' k s = mE S k s := by unfold mE; rw [he.1 183 (by omega) (by omega)]
theorem bk_lf {S S' : mm_S} (he : bkE S S') (c : Int) : lfM S' c = lfM S c := by unfold lfM; rw [bk_E he]
theorem bk_lv {S S' : mm_S} (he : bkE S S') (R : rgT) : lvM S' R = lvM S R := by unfold lvM; simp only [bk_lf he]
theorem bk_en {S S' : mm_S} (he : bkE S S') {F : FT} {W : WT} (κ : kyT) (R : rgT) (b : Int) : enK F W S' κ R b = enK F W S κ R b := by unfold enK; rw [bk_lv he, bk_N he]
theorem bk_otK {S S' : mm_S} (he : bkE S S') {X : XT} {F : FT} {W : WT} (κ : kyT) (z : Int × Int × rgT) : otK X F W S' κ z = otK X F W S κ z := by unfold otK; rw [bk_en he]
theorem bk_lfR {S S' : mm_S} (he : bkE S S') (R : rgT) (a : Nat) (t : Int) : lfR S' R a t = lfR S R a t := by unfold lfR; rw [bk_lf he]
theorem rg_tn {S : mm_S} {t st : Int} (h : t ≠ 1 → 0 ≤ t - 2 ∧ t - 2 < 5) : rgS (tnS S t st) = tnR (rgS S) t st := by
  unfold tnS tnR
  by_cases e : t = 1
  · rw [if_pos e, if_pos e]
    unfold rgS
    rw [up2_same, up2_row (show 198 ≠ 181 by decide), up2_row (show 199 ≠ 181 by decide), up2_row (show 200 ≠ 181 by decide)]
  · have := h e
    rw [if_neg e, if_neg e]
    unfold rgS
    rw [nrm_up (by omega), up2_row (show 198 ≠ 199 by decide), up2_row (show 200 ≠ 199 by decide), up2_row (show 181 ≠ 199 by decide)]
    show _ = (nrm 5 (S 198), ud (nrm 5 (S 199)) (t - 2).toNat (nrm 5 (S 199) (t - 2).toNat / 7 * 7 + st), S 181 22, nrm 6 (S 200))
    rw [nrm_in (n := 5) (f := S 199) (j := (t - 2).toNat) (by omega)]
theorem rg_nm {S : mm_S} {a : Nat} {t : Int} (h : a < 5) : rgS (up2 S 198 a t) = nmR (rgS S) a t := by
  unfold rgS nmR
  rw [nrm_up h, up2_row (show 199 ≠ 198 by decide), up2_row (show 200 ≠ 198 by decide), up2_row (show 181 ≠ 198 by decide)]
theorem rg_V {S : mm_S} {v : Nat} (h : v < 5) : (rgS S).1 v = S 198 v := nrm_in h
theorem rg_O {S : mm_S} {v : Nat} (h : v < 5) : (rgS S).2.1 v = S 199 v := nrm_in h
theorem cd_rg {S : mm_S} {c : Nat} {t : Int} (ht : t ≠ 1 → 0 ≤ t - 2 ∧ t - 2 < 5) : cdM S c t = cdR (S 205 c) (rgS S) t := by
  unfold cdM cdR
  by_cases e : t = 1
  · rw [if_pos e, if_pos e]; rfl
  · have := ht e
    rw [if_neg e, if_neg e, rg_O (by omega)]
theorem ag_rg {S : mm_S} {c : Nat} {t : Int} (ht : t ≠ 0 → t ≠ 1 → 0 ≤ t - 2 ∧ t - 2 < 5) : agM S c t = agR (S 205 c) (rgS S) t := by
  unfold agM agR
  by_cases e : t = 0
  · rw [if_pos e, if_pos e]
  · rw [if_neg e, if_neg e, cd_rg (ht e)]
set_option maxRecDepth 100000 in
set_option maxHeartbeats 4000000 in
theorem l_ren {sh : List mm_H} {S : mm_S} {L : mm_L} (hm : mdS sh) {a : Nat} (ha : a < 5) {t : Int} (hV : ∀ k, k < 5 → 0 ≤ S 198 k ∧ S 198 k ≤ 6) (ht : 0 ≤ t ∧ t ≤ 6) {c pl : Nat} {Q : Option Value → am_M → Prop} (kk : ∀ y, tells y (S 198 a < 2 ∨ ∃ u : Nat, u < 5 ∧ up2 S 198 a t 198 u = S 198 a) → am_AW eX10_renames (mm sh (up2 S 198 a t) L) 68 [some (.ref 181), some (.int (iI (c : Int))), some (.int (iI (pl : Int))), some (.int (iI (a : Int))), some (.int (iI t)), some (.int (iI (S 198 a))), some (.int (iI y)), some (.int (iI ((5 : Nat) : Int)))] [] Q) : ∀ (q : Nat) (v : Nat) (x : Int), 5 - v < q → (v ≤ 5) → (tells x (S 198 a < 2 ∨ ∃ u : Nat, u < v ∧ up2 S 198 a t 198 u = S 198 a)) → am_AW eX10_renames (mm sh (up2 S 198 a t) L) 32 [some (.ref 181), some (.int (iI (c : Int))), some (.int (iI (pl : Int))), some (.int (iI (a : Int))), some (.int (iI t)), some (.int (iI (S 198 a))), some (.int (iI x)), some (.int (iI (v : Int)))] [] Q := by
  intro q
  induction q with
  | zero =>
    intro v x hq
    exact absurd hq (Nat.not_lt_zero _)
  | succ q ih =>
    intro v x hq hv hx
    refine am_iload rfl dX10_renames_32 ?_
    refine mm_iconst dX10_renames_34 ?_
    refine mm_jge (tgt := 68) dX10_renames_35 (by decide) (by omega) (by omega) (fun h35 => ?_) (fun h35 => ?_)
    · have h5 : v = 5 := by omega
      subst h5
      exact kk x hx
    · refine am_iload rfl dX10_renames_38 ?_
      have hx01 := tells_01 hx
      refine mm_zne (tgt := 55) dX10_renames_40 (by decide) (by omega) (fun h40 => ?_) (fun h40 => ?_)
      · refine mm_iconst dX10_renames_55 ?_
        refine am_goto (tgt := 60) dX10_renames_56 (by decide) ?_
        refine am_ist6 dX10_renames_60 (Nat.le_of_ble_eq_true rfl) (am_c1i _) ?_
        refine mm_inc7 dX10_renames_62 (Nat.le_of_ble_eq_true rfl) (am_c1i _) ?_
        refine am_goto (tgt := 32) dX10_renames_65 (by decide) ?_
        refine ih (v + 1) _ (by omega) (by omega) (tells_iff (p := (S 198 a < 2 ∨ ∃ u : Nat, u < v ∧ up2 S 198 a t 198 u = S 198 a) ∨ up2 S 198 a t 198 v = S 198 a) ?_ (by rw [ex_s, or_assoc]))
        first
          | exact Or.inl ⟨rfl, Or.inl (tells_t hx (by omega))⟩
          | exact Or.inl ⟨rfl, Or.inr (by omega)⟩
          | exact Or.inr ⟨rfl, fun z => z.elim (tells_f hx (by omega)) (fun y => by omega)⟩
      · refine am_aload_n rfl dX10_renames_43 ?_
        refine mm_getR dX10_renames_44 fl_X10_63 (md_0 hm) mdf_20 ?_
        refine am_iload rfl dX10_renames_47 ?_
        refine mm_ial dX10_renames_49 (md_var hm) (by omega) ?_
        rw [Int.toNat_natCast]
        refine am_iload rfl dX10_renames_50 ?_
        have hva := hV a ha
        have g1 : 0 ≤ up2 S 198 a t 198 v ∧ up2 S 198 a t 198 v ≤ 6 := by
          by_cases e : v = a
          · rw [e, up2_same]; exact ht
          · rw [up2_rc e]; exact hV v (by omega)
        refine mm_jne (tgt := 59) dX10_renames_52 (by decide) (by omega) (by omega) (fun h52 => ?_) (fun h52 => ?_)
        · refine mm_iconst dX10_renames_59 ?_
          refine am_ist6 dX10_renames_60 (Nat.le_of_ble_eq_true rfl) (am_c1i _) ?_
          refine mm_inc7 dX10_renames_62 (Nat.le_of_ble_eq_true rfl) (am_c1i _) ?_
          refine am_goto (tgt := 32) dX10_renames_65 (by decide) ?_
          refine ih (v + 1) _ (by omega) (by omega) (tells_iff (p := (S 198 a < 2 ∨ ∃ u : Nat, u < v ∧ up2 S 198 a t 198 u = S 198 a) ∨ up2 S 198 a t 198 v = S 198 a) ?_ (by rw [ex_s, or_assoc]))
          first
            | exact Or.inl ⟨rfl, Or.inl (tells_t hx (by omega))⟩
            | exact Or.inl ⟨rfl, Or.inr (by omega)⟩
            | exact Or.inr ⟨rfl, fun z => z.elim (tells_f hx (by omega)) (fun y => by omega)⟩
        · refine mm_iconst dX10_renames_55 ?_
          refine am_goto (tgt := 60) dX10_renames_56 (by decide) ?_
          refine am_ist6 dX10_renames_60 (Nat.le_of_ble_eq_true rfl) (am_c1i _) ?_
          refine mm_inc7 dX10_renames_62 (Nat.le_of_ble_eq_true rfl) (am_c1i _) ?_
          refine am_goto (tgt := 32) dX10_renames_65 (by decide) ?_
          refine ih (v + 1) _ (by omega) (by omega) (tells_iff (p := (S 198 a < 2 ∨ ∃ u : Nat, u < v ∧ up2 S 198 a t 198 u = S 198 a) ∨ up2 S 198 a t 198 v = S 198 a) ?_ (by rw [ex_s, or_assoc]))
          first
            | exact Or.inl ⟨rfl, Or.inl (tells_t hx (by omega))⟩
            | exact Or.inl ⟨rfl, Or.inr (by omega)⟩
            | exact Or.inr ⟨rfl, fun z => z.elim (tells_f hx (by omega)) (fun y => by omega)⟩
set_option maxRecDepth 100000 in
set_option maxHeartbeats 4000000 in
theorem m_renames {sh : List mm_H} {S : mm_S} {L : mm_L} (hm : mdS sh) (hb : mbW S) (hI : imS S L) {X : XT} {F : FT} {W : WT} (hS : SubM S L X F W) {c : Nat} (hc : (c : Int) < S 181 27) {pl : Nat} (hp : pl < mN S (S 204 c).toNat) (hR : rgV S (keyM S c) (rgS S)) {a : Nat} (ha : a < 5) {t : Int} (ht : t = 0 ∨ ∃ w, w < 5 ∧ t = S 198 w) (hE1 : lfR S (rgS S) a t → W (S 204 c).toNat pl 5) (hE2 : ¬ lfR S (rgS S) a t → X (keyM S c) (pl + 1) (pkM (gtR S (S 204 c).toNat ((pl : Int) + 1) (nmR (rgS S) a t)).2.2)) : am_E eX10_renames [.ref 181, .int (iI (c : Int)), .int (iI (pl : Int)), .int (iI (a : Int)), .int (iI t)] (mm sh S L) (fun r0 M' => r0 = none ∧ ∃ S' L', M' = mm sh S' L' ∧ poM S L X F W S' L' ∧ (S' 181 39 = 0 → (lfR S (rgS S) a t → WM S' (S 204 c).toNat pl 5) ∧ (¬ lfR S (rgS S) a t → XM S' L' (keyM S c) (pl + 1) (pkM (gtR S (S 204 c).toNat ((pl : Int) + 1) (nmR (rgS S) a t)).2.2)))) := by
  have hcs := hI.1
  have hc27 := hI.1.1
  have hcc := hcs.2 c hc
  have hκ := (hI.2.1 c hc).1
  have hr9 : (((S 204 c).toNat : Nat) : Int) < S 181 9 := hκ.2.1
  have hrw := hb.2.2.2.2 (S 204 c).toNat hr9
  have h24 := hb.1.2.2.2.2 (S 204 c).toNat (by omega)
  have hc40 : c < 40 := by omega
  have er204 : S 204 c = (((S 204 c).toNat : Nat) : Int) := by omega
  have hN : ((mN S (S 204 c).toNat : Nat) : Int) = S 189 (S 204 c).toNat := by unfold mN; omega
  have hrr := rgB_S hR.1
  have hva := hrr.1 a ha
  have ht6 : 0 ≤ t ∧ t ≤ 6 := by
    rcases ht with e | ⟨w, w1, w2⟩
    · omega
    · have := hrr.1 w w1; omega
  have ht' : t = 0 ∨ ∃ w, w < 5 ∧ t = (rgS S).1 w := by
    rcases ht with e | ⟨w, w1, w2⟩
    · exact Or.inl e
    · exact Or.inr ⟨w, w1, by rw [rg_V w1]; exact w2⟩
  have hF : rgF S (up2 S 198 a t) := rgF_up (by omega)
  have hEb := rgF_E hF
  have hk1 : keyM (up2 S 198 a t) c = keyM S c := rgF_key hF c
  have hrg : rgS (up2 S 198 a t) = nmR (rgS S) a t := rg_nm ha
  have hlf : lfR S (rgS S) a t ↔ ¬ (S 198 a < 2 ∨ ∃ u : Nat, u < 5 ∧ up2 S 198 a t 198 u = S 198 a) ∧ lfM S (S 199 (S 198 a - 2).toNat) := by
    have e1 : (rgS S).1 a = S 198 a := rg_V ha
    have eu : ∀ k, k < 5 → ud (rgS S).1 a t k = up2 S 198 a t 198 k := fun k hk => by
      unfold ud up2
      by_cases e : k = a
      · simp [e]
      · simp only [e, if_false, and_false]; exact rg_V hk
    unfold lfR
    rw [e1]
    constructor
    · rintro ⟨q1, q2, q3⟩
      refine ⟨fun z => z.elim q1 (fun ⟨u, u1, u2⟩ => q2 u u1 (by rw [eu u u1]; exact u2)), ?_⟩
      rw [rg_O (by omega)] at q3; exact q3
    · rintro ⟨q1, q2⟩
      refine ⟨fun z => q1 (Or.inl z), fun k hk z => q1 (Or.inr ⟨k, hk, by rw [← eu k hk]; exact z⟩), ?_⟩
      have : ¬ S 198 a < 2 := fun z => q1 (Or.inl z)
      rw [rg_O (by omega)]; exact q2
  refine am_enter rfl rfl (Nat.le_of_ble_eq_true rfl) ?_
  refine am_aload_n rfl dX10_renames_0 ?_
  refine mm_getR dX10_renames_1 fl_X10_63 (md_0 hm) mdf_20 ?_
  refine am_iload_n rfl dX10_renames_4 ?_
  refine mm_ial dX10_renames_5 (md_var hm) (by omega) ?_
  rw [Int.toNat_natCast]
  refine am_ist5 dX10_renames_6 (Nat.le_of_ble_eq_true rfl) (am_c1i _) ?_
  refine am_aload_n rfl dX10_renames_8 ?_
  refine mm_getR dX10_renames_9 fl_X10_63 (md_0 hm) mdf_20 ?_
  refine am_iload_n rfl dX10_renames_12 ?_
  refine am_iload rfl dX10_renames_13 ?_
  refine mm_ias dX10_renames_15 (md_var hm) (by omega) ?_
  rw [Int.toNat_natCast]
  refine am_iload rfl dX10_renames_16 ?_
  refine mm_iconst dX10_renames_18 ?_
  refine mm_jge (tgt := 26) dX10_renames_19 (by decide) (by omega) (by omega) (fun h19 => ?_) (fun h19 => ?_)
  · refine mm_iconst dX10_renames_26 ?_
    refine am_ist6 dX10_renames_27 (Nat.le_of_ble_eq_true rfl) (am_c1i _) ?_
    refine mm_iconst dX10_renames_29 ?_
    refine am_ist7 dX10_renames_30 (Nat.le_of_ble_eq_true rfl) (am_c1i _) ?_
    refine l_ren hm ha hrr.1 ht6 (fun y hy => ?_) 6 0 _ (by omega) (by omega) (by first | exact Or.inl ⟨rfl, Or.inl (by omega)⟩ | exact Or.inr ⟨rfl, fun z => z.elim (fun q => by omega) (fun ⟨u, u1, _⟩ => absurd u1 (Nat.not_lt_zero u))⟩)
    have hy01 := tells_01 hy
    refine am_iload rfl dX10_renames_68 ?_
    refine mm_zne (tgt := 99) dX10_renames_70 (by decide) (by omega) (fun h70 => ?_) (fun h70 => ?_)
    · refine am_aload_n rfl dX10_renames_99 ?_
      refine am_iload_n rfl dX10_renames_100 ?_
      refine am_iload_n rfl dX10_renames_101 ?_
      refine mm_iconst dX10_renames_102 ?_
      refine mm_iadd dX10_renames_103 ?_
      have hL : ¬ lfR S (rgS S) a t := fun z => by
        have z := hlf.mp z
        first
          | exact z.1 (tells_t hy h70)
          | exact h86 (by rw [bk_lf hEb]; exact z.2)
      refine am_cxv (mm_V2 dX10_renames_104 in_X10_goes mk_X10_268 im_X10_goes sl_X10_goes ⟨Nat.le_of_ble_eq_true rfl, Nat.le_of_ble_eq_true rfl⟩ rfl (md_0 hm) (Nat.le_of_ble_eq_true rfl)) (m_goes (X := X) (F := F) (W := W) (to := (pl : Int) + 1) hm (mbW_of hEb hb) (rgF_I hF hI) (rgF_S hF hS) (c := c) (by rw [hF.2 27 (by omega)]; exact hc) (by rw [hF.1 204 (by omega) (by omega), hF.1 189 (by omega) (by omega)]; omega) (by rw [hk1, hrg]; exact rgV_of hEb (rg_name hR ha ht')) (by rw [hk1, hrg, hF.1 204 (by omega) (by omega), show ((pl : Int) + 1).toNat = pl + 1 by omega, gtR, bk_mv hEb]; exact hE2 hL)) (fun M1 hq => ?_)
      obtain ⟨S2, L2, rfl, hpo, hx⟩ := hq
      rw [hk1, hrg, hF.1 204 (by omega) (by omega), show ((pl : Int) + 1).toNat = pl + 1 by omega, gtR, bk_mv hEb] at hx
      refine am_return dX10_renames_107 rfl ?_
      first
        | exact ⟨rfl, S2, L, rfl, poM_tr (poM_rg hF hI hS) hpo, fun _ => ⟨fun _ => hwm, fun z => absurd hL z⟩⟩
        | exact ⟨rfl, S2, L2, rfl, poM_tr (poM_rg hF hI hS) hpo, fun e => ⟨fun z => absurd z hL, fun _ => hx e⟩⟩
    · refine am_aload_n rfl dX10_renames_73 ?_
      refine am_aload_n rfl dX10_renames_74 ?_
      refine mm_getR dX10_renames_75 fl_X10_66 (md_0 hm) mdf_21 ?_
      refine am_iload rfl dX10_renames_78 ?_
      refine mm_iconst dX10_renames_80 ?_
      refine mm_isub dX10_renames_81 ?_
      refine mm_ial dX10_renames_82 (md_own hm) (by have z : ¬ S 198 a < 2 := fun q => tells_f hy h70 (Or.inl q); omega) ?_
      rw [up2_rd (by omega)]
      refine am_ci (mm_V1 dX10_renames_83 in_X10_isLeft mk_X10_254 im_X10_isLeft sl_X10_isLeft ⟨Nat.le_of_ble_eq_true rfl, Nat.le_of_ble_eq_true rfl⟩ rfl (md_0 hm) (Nat.le_of_ble_eq_true rfl)) (m_isLeft hm (mdV_of hEb hb.1) (by have z : ¬ S 198 a < 2 := fun q => tells_f hy h70 (Or.inl q); exact hrr.2.1 _ (by omega))) ?_
      refine mm_beq (tgt := 99) dX10_renames_86 (by decide) (fun h86 => ?_) (fun h86 => ?_)
      · refine am_aload_n rfl dX10_renames_99 ?_
        refine am_iload_n rfl dX10_renames_100 ?_
        refine am_iload_n rfl dX10_renames_101 ?_
        refine mm_iconst dX10_renames_102 ?_
        refine mm_iadd dX10_renames_103 ?_
        have hL : ¬ lfR S (rgS S) a t := fun z => by
          have z := hlf.mp z
          first
            | exact z.1 (tells_t hy h70)
            | exact h86 (by rw [bk_lf hEb]; exact z.2)
        refine am_cxv (mm_V2 dX10_renames_104 in_X10_goes mk_X10_268 im_X10_goes sl_X10_goes ⟨Nat.le_of_ble_eq_true rfl, Nat.le_of_ble_eq_true rfl⟩ rfl (md_0 hm) (Nat.le_of_ble_eq_true rfl)) (m_goes (X := X) (F := F) (W := W) (to := (pl : Int) + 1) hm (mbW_of hEb hb) (rgF_I hF hI) (rgF_S hF hS) (c := c) (by rw [hF.2 27 (by omega)]; exact hc) (by rw [hF.1 204 (by omega) (by omega), hF.1 189 (by omega) (by omega)]; omega) (by rw [hk1, hrg]; exact rgV_of hEb (rg_name hR ha ht')) (by rw [hk1, hrg, hF.1 204 (by omega) (by omega), show ((pl : Int) + 1).toNat = pl + 1 by omega, gtR, bk_mv hEb]; exact hE2 hL)) (fun M1 hq => ?_)
        obtain ⟨S2, L2, rfl, hpo, hx⟩ := hq
        rw [hk1, hrg, hF.1 204 (by omega) (by omega), show ((pl : Int) + 1).toNat = pl + 1 by omega, gtR, bk_mv hEb] at hx
        refine am_return dX10_renames_107 rfl ?_
        first
          | exact ⟨rfl, S2, L, rfl, poM_tr (poM_rg hF hI hS) hpo, fun _ => ⟨fun _ => hwm, fun z => absurd hL z⟩⟩
          | exact ⟨rfl, S2, L2, rfl, poM_tr (poM_rg hF hI hS) hpo, fun e => ⟨fun z => absurd z hL, fun _ => hx e⟩⟩
      · refine am_aload_n rfl dX10_renames_89 ?_
        refine am_iload_n rfl dX10_renames_90 ?_
        refine am_iload_n rfl dX10_renames_91 ?_
        refine mm_iconst dX10_renames_92 ?_
        have hL : lfR S (rgS S) a t := hlf.mpr ⟨tells_f hy h70, by rw [bk_lf hEb] at h86; exact h86⟩
        refine am_cxv (mm_V3 dX10_renames_93 in_X10_wrong mk_X10_261 im_X10_wrong sl_X10_wrong ⟨Nat.le_of_ble_eq_true rfl, Nat.le_of_ble_eq_true rfl⟩ rfl (md_0 hm) (Nat.le_of_ble_eq_true rfl)) (m_wrongP (X := X) (F := F) (W := W) (pl := pl) (w := 5) hm (mbW_of hEb hb) (rgF_I hF hI) (rgF_S hF hS) (c := c) (by rw [hF.2 27 (by omega)]; exact hc) (by omega) (by omega) (by rw [hF.1 204 (by omega) (by omega)]; exact hE1 hL)) (fun M1 hq => ?_)
        obtain ⟨S2, rfl, hpo, hwm⟩ := hq
        rw [hF.1 204 (by omega) (by omega)] at hwm
        refine am_goto (tgt := 107) dX10_renames_96 (by decide) ?_
        refine am_return dX10_renames_107 rfl ?_
        first
          | exact ⟨rfl, S2, L, rfl, poM_tr (poM_rg hF hI hS) hpo, fun _ => ⟨fun _ => hwm, fun z => absurd hL z⟩⟩
          | exact ⟨rfl, S2, L2, rfl, poM_tr (poM_rg hF hI hS) hpo, fun e => ⟨fun z => absurd z hL, fun _ => hx e⟩⟩
  · refine mm_iconst dX10_renames_22 ?_
    refine am_goto (tgt := 27) dX10_renames_23 (by decide) ?_
    refine am_ist6 dX10_renames_27 (Nat.le_of_ble_eq_true rfl) (am_c1i _) ?_
    refine mm_iconst dX10_renames_29 ?_
    refine am_ist7 dX10_renames_30 (Nat.le_of_ble_eq_true rfl) (am_c1i _) ?_
    refine l_ren hm ha hrr.1 ht6 (fun y hy => ?_) 6 0 _ (by omega) (by omega) (by first | exact Or.inl ⟨rfl, Or.inl (by omega)⟩ | exact Or.inr ⟨rfl, fun z => z.elim (fun q => by omega) (fun ⟨u, u1, _⟩ => absurd u1 (Nat.not_lt_zero u))⟩)
    have hy01 := tells_01 hy
    refine am_iload rfl dX10_renames_68 ?_
    refine mm_zne (tgt := 99) dX10_renames_70 (by decide) (by omega) (fun h70 => ?_) (fun h70 => ?_)
    · refine am_aload_n rfl dX10_renames_99 ?_
      refine am_iload_n rfl dX10_renames_100 ?_
      refine am_iload_n rfl dX10_renames_101 ?_
      refine mm_iconst dX10_renames_102 ?_
      refine mm_iadd dX10_renames_103 ?_
      have hL : ¬ lfR S (rgS S) a t := fun z => by
        have z := hlf.mp z
        first
          | exact z.1 (tells_t hy h70)
          | exact h86 (by rw [bk_lf hEb]; exact z.2)
      refine am_cxv (mm_V2 dX10_renames_104 in_X10_goes mk_X10_268 im_X10_goes sl_X10_goes ⟨Nat.le_of_ble_eq_true rfl, Nat.le_of_ble_eq_true rfl⟩ rfl (md_0 hm) (Nat.le_of_ble_eq_true rfl)) (m_goes (X := X) (F := F) (W := W) (to := (pl : Int) + 1) hm (mbW_of hEb hb) (rgF_I hF hI) (rgF_S hF hS) (c := c) (by rw [hF.2 27 (by omega)]; exact hc) (by rw [hF.1 204 (by omega) (by omega), hF.1 189 (by omega) (by omega)]; omega) (by rw [hk1, hrg]; exact rgV_of hEb (rg_name hR ha ht')) (by rw [hk1, hrg, hF.1 204 (by omega) (by omega), show ((pl : Int) + 1).toNat = pl + 1 by omega, gtR, bk_mv hEb]; exact hE2 hL)) (fun M1 hq => ?_)
      obtain ⟨S2, L2, rfl, hpo, hx⟩ := hq
      rw [hk1, hrg, hF.1 204 (by omega) (by omega), show ((pl : Int) + 1).toNat = pl + 1 by omega, gtR, bk_mv hEb] at hx
      refine am_return dX10_renames_107 rfl ?_
      first
        | exact ⟨rfl, S2, L, rfl, poM_tr (poM_rg hF hI hS) hpo, fun _ => ⟨fun _ => hwm, fun z => absurd hL z⟩⟩
        | exact ⟨rfl, S2, L2, rfl, poM_tr (poM_rg hF hI hS) hpo, fun e => ⟨fun z => absurd z hL, fun _ => hx e⟩⟩
    · refine am_aload_n rfl dX10_renames_73 ?_
      refine am_aload_n rfl dX10_renames_74 ?_
      refine mm_getR dX10_renames_75 fl_X10_66 (md_0 hm) mdf_21 ?_
      refine am_iload rfl dX10_renames_78 ?_
      refine mm_iconst dX10_renames_80 ?_
      refine mm_isub dX10_renames_81 ?_
      refine mm_ial dX10_renames_82 (md_own hm) (by have z : ¬ S 198 a < 2 := fun q => tells_f hy h70 (Or.inl q); omega) ?_
      rw [up2_rd (by omega)]
      refine am_ci (mm_V1 dX10_renames_83 in_X10_isLeft mk_X10_254 im_X10_isLeft sl_X10_isLeft ⟨Nat.le_of_ble_eq_true rfl, Nat.le_of_ble_eq_true rfl⟩ rfl (md_0 hm) (Nat.le_of_ble_eq_true rfl)) (m_isLeft hm (mdV_of hEb hb.1) (by have z : ¬ S 198 a < 2 := fun q => tells_f hy h70 (Or.inl q); exact hrr.2.1 _ (by omega))) ?_
      refine mm_beq (tgt := 99) dX10_renames_86 (by decide) (fun h86 => ?_) (fun h86 => ?_)
      · refine am_aload_n rfl dX10_renames_99 ?_
        refine am_iload_n rfl dX10_renames_100 ?_
        refine am_iload_n rfl dX10_renames_101 ?_
        refine mm_iconst dX10_renames_102 ?_
        refine mm_iadd dX10_renames_103 ?_
        have hL : ¬ lfR S (rgS S) a t := fun z => by
          have z := hlf.mp z
          first
            | exact z.1 (tells_t hy h70)
            | exact h86 (by rw [bk_lf hEb]; exact z.2)
        refine am_cxv (mm_V2 dX10_renames_104 in_X10_goes mk_X10_268 im_X10_goes sl_X10_goes ⟨Nat.le_of_ble_eq_true rfl, Nat.le_of_ble_eq_true rfl⟩ rfl (md_0 hm) (Nat.le_of_ble_eq_true rfl)) (m_goes (X := X) (F := F) (W := W) (to := (pl : Int) + 1) hm (mbW_of hEb hb) (rgF_I hF hI) (rgF_S hF hS) (c := c) (by rw [hF.2 27 (by omega)]; exact hc) (by rw [hF.1 204 (by omega) (by omega), hF.1 189 (by omega) (by omega)]; omega) (by rw [hk1, hrg]; exact rgV_of hEb (rg_name hR ha ht')) (by rw [hk1, hrg, hF.1 204 (by omega) (by omega), show ((pl : Int) + 1).toNat = pl + 1 by omega, gtR, bk_mv hEb]; exact hE2 hL)) (fun M1 hq => ?_)
        obtain ⟨S2, L2, rfl, hpo, hx⟩ := hq
        rw [hk1, hrg, hF.1 204 (by omega) (by omega), show ((pl : Int) + 1).toNat = pl + 1 by omega, gtR, bk_mv hEb] at hx
        refine am_return dX10_renames_107 rfl ?_
        first
          | exact ⟨rfl, S2, L, rfl, poM_tr (poM_rg hF hI hS) hpo, fun _ => ⟨fun _ => hwm, fun z => absurd hL z⟩⟩
          | exact ⟨rfl, S2, L2, rfl, poM_tr (poM_rg hF hI hS) hpo, fun e => ⟨fun z => absurd z hL, fun _ => hx e⟩⟩
      · refine am_aload_n rfl dX10_renames_89 ?_
        refine am_iload_n rfl dX10_renames_90 ?_
        refine am_iload_n rfl dX10_renames_91 ?_
        refine mm_iconst dX10_renames_92 ?_
        have hL : lfR S (rgS S) a t := hlf.mpr ⟨tells_f hy h70, by rw [bk_lf hEb] at h86; exact h86⟩
        refine am_cxv (mm_V3 dX10_renames_93 in_X10_wrong mk_X10_261 im_X10_wrong sl_X10_wrong ⟨Nat.le_of_ble_eq_true rfl, Nat.le_of_ble_eq_true rfl⟩ rfl (md_0 hm) (Nat.le_of_ble_eq_true rfl)) (m_wrongP (X := X) (F := F) (W := W) (pl := pl) (w := 5) hm (mbW_of hEb hb) (rgF_I hF hI) (rgF_S hF hS) (c := c) (by rw [hF.2 27 (by omega)]; exact hc) (by omega) (by omega) (by rw [hF.1 204 (by omega) (by omega)]; exact hE1 hL)) (fun M1 hq => ?_)
        obtain ⟨S2, rfl, hpo, hwm⟩ := hq
        rw [hF.1 204 (by omega) (by omega)] at hwm
        refine am_goto (tgt := 107) dX10_renames_96 (by decide) ?_
        refine am_return dX10_renames_107 rfl ?_
        first
          | exact ⟨rfl, S2, L, rfl, poM_tr (poM_rg hF hI hS) hpo, fun _ => ⟨fun _ => hwm, fun z => absurd hL z⟩⟩
          | exact ⟨rfl, S2, L2, rfl, poM_tr (poM_rg hF hI hS) hpo, fun e => ⟨fun z => absurd z hL, fun _ => hx e⟩⟩
