/-! ===== makes, closes ===== -/
theorem frF_congr {nm nm' : Nat → Int} (h : ∀ v, v < 5 → nm v = nm' v) : ∀ (n : Nat) (j : Int), frF nm n j = frF nm' n j
  | 0, j => rfl
  | n + 1, j => by
    simp only [frF]
    rw [frF_congr h n (j + 1)]
    have e : (∀ v : Nat, v < 5 → nm v ≠ j) ↔ (∀ v : Nat, v < 5 → nm' v ≠ j) := ⟨fun g v hv => by rw [← h v hv]; exact g v hv, fun g v hv => by rw [h v hv]; exact g v hv⟩
    by_cases q : ∀ v : Nat, v < 5 → nm v ≠ j
    · rw [if_pos q, if_pos (e.mp q)]
    · rw [if_neg q, if_neg (fun z => q (e.mpr z))]
set_option maxRecDepth 100000 in
set_option maxHeartbeats 4000000 in
theorem l_mk {sh : List mm_H} {S : mm_S} {L : mm_L} (hm : mdS sh) {a : Nat} (ha : a < 5) {k : Int} (hV : ∀ k, k < 5 → 0 ≤ S 198 k ∧ S 198 k ≤ 6) {c pl : Nat} {Q : Option Value → am_M → Prop} (kk : ∀ y, tells y (S 198 a < 2 ∨ ∃ u : Nat, u < 5 ∧ (u ≠ a ∧ S 198 u = S 198 a)) → am_AW eX10_makes (mm sh S L) 66 [some (.ref 181), some (.int (iI (c : Int))), some (.int (iI (pl : Int))), some (.int (iI (a : Int))), some (.int (iI k)), some (.int (iI (S 198 a))), some (.int (iI y)), some (.int (iI ((5 : Nat) : Int)))] [] Q) : ∀ (q : Nat) (v : Nat) (x : Int), 5 - v < q → (v ≤ 5) → (tells x (S 198 a < 2 ∨ ∃ u : Nat, u < v ∧ (u ≠ a ∧ S 198 u = S 198 a))) → am_AW eX10_makes (mm sh S L) 24 [some (.ref 181), some (.int (iI (c : Int))), some (.int (iI (pl : Int))), some (.int (iI (a : Int))), some (.int (iI k)), some (.int (iI (S 198 a))), some (.int (iI x)), some (.int (iI (v : Int)))] [] Q := by
  intro q
  induction q with
  | zero =>
    intro v x hq
    exact absurd hq (Nat.not_lt_zero _)
  | succ q ih =>
    intro v x hq hv hx
    refine am_iload rfl dX10_makes_24 ?_
    refine mm_iconst dX10_makes_26 ?_
    refine mm_jge (tgt := 66) dX10_makes_27 (by decide) (by omega) (by omega) (fun h27 => ?_) (fun h27 => ?_)
    · have h5 : v = 5 := by omega
      subst h5
      exact kk x hx
    · refine am_iload rfl dX10_makes_30 ?_
      have hx01 := tells_01 hx
      refine mm_zne (tgt := 53) dX10_makes_32 (by decide) (by omega) (fun h32 => ?_) (fun h32 => ?_)
      · refine mm_iconst dX10_makes_53 ?_
        refine am_goto (tgt := 58) dX10_makes_54 (by decide) ?_
        refine am_ist6 dX10_makes_58 (Nat.le_of_ble_eq_true rfl) (am_c1i _) ?_
        refine mm_inc7 dX10_makes_60 (Nat.le_of_ble_eq_true rfl) (am_c1i _) ?_
        refine am_goto (tgt := 24) dX10_makes_63 (by decide) ?_
        refine ih (v + 1) _ (by omega) (by omega) (tells_iff (p := (S 198 a < 2 ∨ ∃ u : Nat, u < v ∧ (u ≠ a ∧ S 198 u = S 198 a)) ∨ (v ≠ a ∧ S 198 v = S 198 a)) ?_ (by rw [ex_s, or_assoc]))
        first
          | exact Or.inl ⟨rfl, Or.inl (tells_t hx (by omega))⟩
          | exact Or.inl ⟨rfl, Or.inr ⟨by omega, by omega⟩⟩
          | exact Or.inr ⟨rfl, fun z => z.elim (tells_f hx (by omega)) (fun y => by clear z hx ih kk; omega)⟩
      · refine am_iload rfl dX10_makes_35 ?_
        refine am_iload_n rfl dX10_makes_37 ?_
        refine mm_jeq (tgt := 57) dX10_makes_38 (by decide) (by omega) (by omega) (fun h38 => ?_) (fun h38 => ?_)
        · refine mm_iconst dX10_makes_57 ?_
          refine am_ist6 dX10_makes_58 (Nat.le_of_ble_eq_true rfl) (am_c1i _) ?_
          refine mm_inc7 dX10_makes_60 (Nat.le_of_ble_eq_true rfl) (am_c1i _) ?_
          refine am_goto (tgt := 24) dX10_makes_63 (by decide) ?_
          refine ih (v + 1) _ (by omega) (by omega) (tells_iff (p := (S 198 a < 2 ∨ ∃ u : Nat, u < v ∧ (u ≠ a ∧ S 198 u = S 198 a)) ∨ (v ≠ a ∧ S 198 v = S 198 a)) ?_ (by rw [ex_s, or_assoc]))
          first
            | exact Or.inl ⟨rfl, Or.inl (tells_t hx (by omega))⟩
            | exact Or.inl ⟨rfl, Or.inr ⟨by omega, by omega⟩⟩
            | exact Or.inr ⟨rfl, fun z => z.elim (tells_f hx (by omega)) (fun y => by clear z hx ih kk; omega)⟩
        · refine am_aload_n rfl dX10_makes_41 ?_
          refine mm_getR dX10_makes_42 fl_X10_63 (md_0 hm) mdf_20 ?_
          refine am_iload rfl dX10_makes_45 ?_
          refine mm_ial dX10_makes_47 (md_var hm) (by omega) ?_
          rw [Int.toNat_natCast]
          refine am_iload rfl dX10_makes_48 ?_
          have hva := hV a ha
          have g1 := hV v (by omega)
          refine mm_jne (tgt := 57) dX10_makes_50 (by decide) (by omega) (by omega) (fun h50 => ?_) (fun h50 => ?_)
          · refine mm_iconst dX10_makes_57 ?_
            refine am_ist6 dX10_makes_58 (Nat.le_of_ble_eq_true rfl) (am_c1i _) ?_
            refine mm_inc7 dX10_makes_60 (Nat.le_of_ble_eq_true rfl) (am_c1i _) ?_
            refine am_goto (tgt := 24) dX10_makes_63 (by decide) ?_
            refine ih (v + 1) _ (by omega) (by omega) (tells_iff (p := (S 198 a < 2 ∨ ∃ u : Nat, u < v ∧ (u ≠ a ∧ S 198 u = S 198 a)) ∨ (v ≠ a ∧ S 198 v = S 198 a)) ?_ (by rw [ex_s, or_assoc]))
            first
              | exact Or.inl ⟨rfl, Or.inl (tells_t hx (by omega))⟩
              | exact Or.inl ⟨rfl, Or.inr ⟨by omega, by omega⟩⟩
              | exact Or.inr ⟨rfl, fun z => z.elim (tells_f hx (by omega)) (fun y => by clear z hx ih kk; omega)⟩
          · refine mm_iconst dX10_makes_53 ?_
            refine am_goto (tgt := 58) dX10_makes_54 (by decide) ?_
            refine am_ist6 dX10_makes_58 (Nat.le_of_ble_eq_true rfl) (am_c1i _) ?_
            refine mm_inc7 dX10_makes_60 (Nat.le_of_ble_eq_true rfl) (am_c1i _) ?_
            refine am_goto (tgt := 24) dX10_makes_63 (by decide) ?_
            refine ih (v + 1) _ (by omega) (by omega) (tells_iff (p := (S 198 a < 2 ∨ ∃ u : Nat, u < v ∧ (u ≠ a ∧ S 198 u = S 198 a)) ∨ (v ≠ a ∧ S 198 v = S 198 a)) ?_ (by rw [ex_s, or_assoc]))
            first
              | exact Or.inl ⟨rfl, Or.inl (tells_t hx (by omega))⟩
              | exact Or.inl ⟨rfl, Or.inr ⟨by omega, by omega⟩⟩
              | exact Or.inr ⟨rfl, fun z => z.elim (tells_f hx (by omega)) (fun y => by clear z hx ih kk; omega)⟩
set_option maxRecDepth 100000 in
set_option maxHeartbeats 4000000 in
theorem m_makes {sh : List mm_H} {S : mm_S} {L : mm_L} (hm : mdS sh) (hb : mbW S) (hI : imS S L) {X : XT} {F : FT} {W : WT} (hS : SubM S L X F W) {c : Nat} (hc : (c : Int) < S 181 27) {pl : Nat} (hp : pl < mN S (S 204 c).toNat) (hR : rgV S (keyM S c) (rgS S)) {a : Nat} (ha : a < 5) {k : Int} (hk : 0 ≤ k ∧ k < S 181 0) (hE1 : lfR S (rgS S) a 0 → W (S 204 c).toNat pl 5) (hE2 : ¬ lfR S (rgS S) a 0 → X (keyM S c) (pl + 1) (pkM (gtR S (S 204 c).toNat ((pl : Int) + 1) (mkR (rgS S) a k)).2.2)) : am_E eX10_makes [.ref 181, .int (iI (c : Int)), .int (iI (pl : Int)), .int (iI (a : Int)), .int (iI k)] (mm sh S L) (fun r0 M' => r0 = none ∧ ∃ S' L', M' = mm sh S' L' ∧ poM S L X F W S' L' ∧ (S' 181 39 = 0 → (lfR S (rgS S) a 0 → WM S' (S 204 c).toNat pl 5) ∧ (¬ lfR S (rgS S) a 0 → XM S' L' (keyM S c) (pl + 1) (pkM (gtR S (S 204 c).toNat ((pl : Int) + 1) (mkR (rgS S) a k)).2.2)))) := by
  have hcs := hI.1
  have hc27 := hI.1.1
  have hcc := hcs.2 c hc
  have hκ := (hI.2.1 c hc).1
  have hr9 : (((S 204 c).toNat : Nat) : Int) < S 181 9 := hκ.2.1
  have hrw := hb.2.2.2.2 (S 204 c).toNat hr9
  have h24 := hb.1.2.2.2.2 (S 204 c).toNat (by omega)
  have hc40 : c < 40 := by omega
  have er204 : S 204 c = (((S 204 c).toNat : Nat) : Int) := by omega
  have hN : ((mN S (S 204 c).toNat : Nat) : Int) = S 189 (S 204 c).toNat := by unfold mN; omega
  have hrr := rgB_S hR.1
  have hva := hrr.1 a ha
  have hlf : lfR S (rgS S) a 0 ↔ ¬ (S 198 a < 2 ∨ ∃ u : Nat, u < 5 ∧ (u ≠ a ∧ S 198 u = S 198 a)) ∧ lfM S (S 199 (S 198 a - 2).toNat) := by
    have e1 : (rgS S).1 a = S 198 a := rg_V ha
    unfold lfR
    rw [e1]
    constructor
    · rintro ⟨q1, q2, q3⟩
      refine ⟨fun z => z.elim q1 (fun ⟨u, u1, u2, u3⟩ => q2 u u1 (by rw [ud_ne u2, rg_V u1]; exact u3)), ?_⟩
      rw [rg_O (by omega)] at q3; exact q3
    · rintro ⟨q1, q2⟩
      have q0 : ¬ S 198 a < 2 := fun z => q1 (Or.inl z)
      refine ⟨q0, fun k hk z => ?_, ?_⟩
      · by_cases e : k = a
        · rw [e, ud_same] at z; omega
        · rw [ud_ne e, rg_V hk] at z; exact q1 (Or.inr ⟨k, hk, e, z⟩)
      · rw [rg_O (by omega)]; exact q2
  refine am_enter rfl rfl (Nat.le_of_ble_eq_true rfl) ?_
  refine am_aload_n rfl dX10_makes_0 ?_
  refine mm_getR dX10_makes_1 fl_X10_63 (md_0 hm) mdf_20 ?_
  refine am_iload_n rfl dX10_makes_4 ?_
  refine mm_ial dX10_makes_5 (md_var hm) (by omega) ?_
  rw [Int.toNat_natCast]
  refine am_ist5 dX10_makes_6 (Nat.le_of_ble_eq_true rfl) (am_c1i _) ?_
  refine am_iload rfl dX10_makes_8 ?_
  refine mm_iconst dX10_makes_10 ?_
  refine mm_jge (tgt := 18) dX10_makes_11 (by decide) (by omega) (by omega) (fun h11 => ?_) (fun h11 => ?_)
  · refine mm_iconst dX10_makes_18 ?_
    refine am_ist6 dX10_makes_19 (Nat.le_of_ble_eq_true rfl) (am_c1i _) ?_
    refine mm_iconst dX10_makes_21 ?_
    refine am_ist7 dX10_makes_22 (Nat.le_of_ble_eq_true rfl) (am_c1i _) ?_
    refine l_mk hm ha hrr.1 (fun y hy => ?_) 6 0 _ (by omega) (by omega) (by first | exact Or.inl ⟨rfl, Or.inl (by omega)⟩ | exact Or.inr ⟨rfl, fun z => z.elim (fun q => by omega) (fun ⟨u, u1, _⟩ => absurd u1 (Nat.not_lt_zero u))⟩)
    have hy01 := tells_01 hy
    refine am_iload rfl dX10_makes_66 ?_
    refine mm_zne (tgt := 95) dX10_makes_68 (by decide) (by omega) (fun h68 => ?_) (fun h68 => ?_)
    · have hL : ¬ lfR S (rgS S) a 0 := fun z => by
        have z := hlf.mp z
        first
          | exact z.1 (tells_t hy h68)
          | exact h84 z.2
      refine am_aload_n rfl dX10_makes_95 ?_
      refine mm_getR dX10_makes_96 fl_X10_63 (md_0 hm) mdf_20 ?_
      refine am_iload_n rfl dX10_makes_99 ?_
      refine mm_iconst dX10_makes_100 ?_
      refine mm_ias dX10_makes_101 (md_var hm) (by omega) ?_
      rw [Int.toNat_natCast]
      refine am_aload_n rfl dX10_makes_102 ?_
      refine am_ci (mm_V0 dX10_makes_103 in_X10_freeThing mk_X10_277 im_X10_freeThing sl_X10_freeThing ⟨Nat.le_of_ble_eq_true rfl, Nat.le_of_ble_eq_true rfl⟩ rfl (md_0 hm) (Nat.le_of_ble_eq_true rfl)) (m_freeThing hm (fun k hk => by by_cases e : k = a; rw [e, up2_same]; omega; rw [up2_rc e]; exact hrr.1 k hk) ha (up2_same _ _ _ _)) ?_
      obtain ⟨t, htt⟩ : ∃ t, frF (up2 S 198 a 0 198) 5 2 = t := ⟨_, rfl⟩
      have hfr := frF_free (up2 S 198 a 0 198) 5 2 (fr_ex (a := a) ha 2 (Or.inl (by rw [up2_same]; omega)))
      rw [htt] at hfr ⊢
      have hft : frF (ud (rgS S).1 a 0) 5 2 = t := by
        rw [← htt]
        refine frF_congr (fun v hv => ?_) 5 2
        by_cases e : v = a
        · rw [e, ud_same, up2_same]
        · rw [ud_ne e, up2_rc e, rg_V hv]
      refine am_ist7 dX10_makes_106 (Nat.le_of_ble_eq_true rfl) (am_c1i _) ?_
      refine am_aload_n rfl dX10_makes_108 ?_
      refine mm_getR dX10_makes_109 fl_X10_63 (md_0 hm) mdf_20 ?_
      refine am_iload_n rfl dX10_makes_112 ?_
      refine am_iload rfl dX10_makes_113 ?_
      refine mm_ias dX10_makes_115 (md_var hm) (by omega) ?_
      rw [Int.toNat_natCast]
      refine am_aload_n rfl dX10_makes_116 ?_
      refine mm_getR dX10_makes_117 fl_X10_66 (md_0 hm) mdf_21 ?_
      refine am_iload rfl dX10_makes_120 ?_
      refine mm_iconst dX10_makes_122 ?_
      refine mm_isub dX10_makes_123 ?_
      refine mm_bipush dX10_makes_124 (by decide) ?_
      refine am_iload rfl dX10_makes_126 ?_
      refine mm_imul dX10_makes_128 ?_
      refine mm_ias dX10_makes_129 (md_own hm) (by omega) ?_
      rw [up2_up2]
      have hF : rgF S (up2 (up2 S 198 a t) 199 (t - 2).toNat (7 * k)) := rgF_tr (rgF_up (by omega)) (rgF_up (by omega))
      have hEb := rgF_E hF
      have hk1 : keyM (up2 (up2 S 198 a t) 199 (t - 2).toNat (7 * k)) c = keyM S c := rgF_key hF c
      have hrg : rgS (up2 (up2 S 198 a t) 199 (t - 2).toNat (7 * k)) = mkR (rgS S) a k := by
        unfold mkR
        rw [hft]
        unfold rgS
        rw [nrm_up (S := up2 S 198 a t) (a := 199) (by omega), up2_row (show 198 ≠ 199 by decide), nrm_up ha, up2_row (show 200 ≠ 199 by decide), up2_row (show 200 ≠ 198 by decide), up2_row (show 181 ≠ 199 by decide), up2_row (show 181 ≠ 198 by decide), up2_row (show 199 ≠ 198 by decide)]
      refine am_aload_n rfl dX10_makes_130 ?_
      refine am_iload_n rfl dX10_makes_131 ?_
      refine am_iload_n rfl dX10_makes_132 ?_
      refine mm_iconst dX10_makes_133 ?_
      refine mm_iadd dX10_makes_134 ?_
      refine am_cxv (mm_V2 dX10_makes_135 in_X10_goes mk_X10_268 im_X10_goes sl_X10_goes ⟨Nat.le_of_ble_eq_true rfl, Nat.le_of_ble_eq_true rfl⟩ rfl (md_0 hm) (Nat.le_of_ble_eq_true rfl)) (m_goes (X := X) (F := F) (W := W) (to := (pl : Int) + 1) hm (mbW_of hEb hb) (rgF_I hF hI) (rgF_S hF hS) (c := c) (by rw [hF.2 27 (by omega)]; exact hc) (by rw [hF.1 204 (by omega) (by omega), hF.1 189 (by omega) (by omega)]; omega) (by rw [hk1, hrg]; exact rgV_of hEb (rg_make hb.1 hb.2.1 hR ha hk)) (by rw [hk1, hrg, hF.1 204 (by omega) (by omega), show ((pl : Int) + 1).toNat = pl + 1 by omega, gtR, bk_mv hEb]; exact hE2 hL)) (fun M1 hq => ?_)
      obtain ⟨S2, L2, rfl, hpo, hx⟩ := hq
      rw [hk1, hrg, hF.1 204 (by omega) (by omega), show ((pl : Int) + 1).toNat = pl + 1 by omega, gtR, bk_mv hEb] at hx
      refine am_return dX10_makes_138 rfl ?_
      exact ⟨rfl, S2, L2, rfl, poM_tr (poM_rg hF hI hS) hpo, fun e => ⟨fun z => absurd z hL, fun _ => hx e⟩⟩
    · refine am_aload_n rfl dX10_makes_71 ?_
      refine am_aload_n rfl dX10_makes_72 ?_
      refine mm_getR dX10_makes_73 fl_X10_66 (md_0 hm) mdf_21 ?_
      refine am_iload rfl dX10_makes_76 ?_
      refine mm_iconst dX10_makes_78 ?_
      refine mm_isub dX10_makes_79 ?_
      refine mm_ial dX10_makes_80 (md_own hm) (by have z : ¬ S 198 a < 2 := fun q => tells_f hy h68 (Or.inl q); omega) ?_
      refine am_ci (mm_V1 dX10_makes_81 in_X10_isLeft mk_X10_254 im_X10_isLeft sl_X10_isLeft ⟨Nat.le_of_ble_eq_true rfl, Nat.le_of_ble_eq_true rfl⟩ rfl (md_0 hm) (Nat.le_of_ble_eq_true rfl)) (m_isLeft hm hb.1 (by have z : ¬ S 198 a < 2 := fun q => tells_f hy h68 (Or.inl q); exact hrr.2.1 _ (by omega))) ?_
      refine mm_beq (tgt := 95) dX10_makes_84 (by decide) (fun h84 => ?_) (fun h84 => ?_)
      · have hL : ¬ lfR S (rgS S) a 0 := fun z => by
          have z := hlf.mp z
          first
            | exact z.1 (tells_t hy h68)
            | exact h84 z.2
        refine am_aload_n rfl dX10_makes_95 ?_
        refine mm_getR dX10_makes_96 fl_X10_63 (md_0 hm) mdf_20 ?_
        refine am_iload_n rfl dX10_makes_99 ?_
        refine mm_iconst dX10_makes_100 ?_
        refine mm_ias dX10_makes_101 (md_var hm) (by omega) ?_
        rw [Int.toNat_natCast]
        refine am_aload_n rfl dX10_makes_102 ?_
        refine am_ci (mm_V0 dX10_makes_103 in_X10_freeThing mk_X10_277 im_X10_freeThing sl_X10_freeThing ⟨Nat.le_of_ble_eq_true rfl, Nat.le_of_ble_eq_true rfl⟩ rfl (md_0 hm) (Nat.le_of_ble_eq_true rfl)) (m_freeThing hm (fun k hk => by by_cases e : k = a; rw [e, up2_same]; omega; rw [up2_rc e]; exact hrr.1 k hk) ha (up2_same _ _ _ _)) ?_
        obtain ⟨t, htt⟩ : ∃ t, frF (up2 S 198 a 0 198) 5 2 = t := ⟨_, rfl⟩
        have hfr := frF_free (up2 S 198 a 0 198) 5 2 (fr_ex (a := a) ha 2 (Or.inl (by rw [up2_same]; omega)))
        rw [htt] at hfr ⊢
        have hft : frF (ud (rgS S).1 a 0) 5 2 = t := by
          rw [← htt]
          refine frF_congr (fun v hv => ?_) 5 2
          by_cases e : v = a
          · rw [e, ud_same, up2_same]
          · rw [ud_ne e, up2_rc e, rg_V hv]
        refine am_ist7 dX10_makes_106 (Nat.le_of_ble_eq_true rfl) (am_c1i _) ?_
        refine am_aload_n rfl dX10_makes_108 ?_
        refine mm_getR dX10_makes_109 fl_X10_63 (md_0 hm) mdf_20 ?_
        refine am_iload_n rfl dX10_makes_112 ?_
        refine am_iload rfl dX10_makes_113 ?_
        refine mm_ias dX10_makes_115 (md_var hm) (by omega) ?_
        rw [Int.toNat_natCast]
        refine am_aload_n rfl dX10_makes_116 ?_
        refine mm_getR dX10_makes_117 fl_X10_66 (md_0 hm) mdf_21 ?_
        refine am_iload rfl dX10_makes_120 ?_
        refine mm_iconst dX10_makes_122 ?_
        refine mm_isub dX10_makes_123 ?_
        refine mm_bipush dX10_makes_124 (by decide) ?_
        refine am_iload rfl dX10_makes_126 ?_
        refine mm_imul dX10_makes_128 ?_
        refine mm_ias dX10_makes_129 (md_own hm) (by omega) ?_
        rw [up2_up2]
        have hF : rgF S (up2 (up2 S 198 a t) 199 (t - 2).toNat (7 * k)) := rgF_tr (rgF_up (by omega)) (rgF_up (by omega))
        have hEb := rgF_E hF
        have hk1 : keyM (up2 (up2 S 198 a t) 199 (t - 2).toNat (7 * k)) c = keyM S c := rgF_key hF c
        have hrg : rgS (up2 (up2 S 198 a t) 199 (t - 2).toNat (7 * k)) = mkR (rgS S) a k := by
          unfold mkR
          rw [hft]
          unfold rgS
          rw [nrm_up (S := up2 S 198 a t) (a := 199) (by omega), up2_row (show 198 ≠ 199 by decide), nrm_up ha, up2_row (show 200 ≠ 199 by decide), up2_row (show 200 ≠ 198 by decide), up2_row (show 181 ≠ 199 by decide), up2_row (show 181 ≠ 198 by decide), up2_row (show 199 ≠ 198 by decide)]
        refine am_aload_n rfl dX10_makes_130 ?_
        refine am_iload_n rfl dX10_makes_131 ?_
        refine am_iload_n rfl dX10_makes_132 ?_
        refine mm_iconst dX10_makes_133 ?_
        refine mm_iadd dX10_makes_134 ?_
        refine am_cxv (mm_V2 dX10_makes_135 in_X10_goes mk_X10_268 im_X10_goes sl_X10_goes ⟨Nat.le_of_ble_eq_true rfl, Nat.le_of_ble_eq_true rfl⟩ rfl (md_0 hm) (Nat.le_of_ble_eq_true rfl)) (m_goes (X := X) (F := F) (W := W) (to := (pl : Int) + 1) hm (mbW_of hEb hb) (rgF_I hF hI) (rgF_S hF hS) (c := c) (by rw [hF.2 27 (by omega)]; exact hc) (by rw [hF.1 204 (by omega) (by omega), hF.1 189 (by omega) (by omega)]; omega) (by rw [hk1, hrg]; exact rgV_of hEb (rg_make hb.1 hb.2.1 hR ha hk)) (by rw [hk1, hrg, hF.1 204 (by omega) (by omega), show ((pl : Int) + 1).toNat = pl + 1 by omega, gtR, bk_mv hEb]; exact hE2 hL)) (fun M1 hq => ?_)
        obtain ⟨S2, L2, rfl, hpo, hx⟩ := hq
        rw [hk1, hrg, hF.1 204 (by omega) (by omega), show ((pl : Int) + 1).toNat = pl + 1 by omega, gtR, bk_mv hEb] at hx
        refine am_return dX10_makes_138 rfl ?_
        exact ⟨rfl, S2, L2, rfl, poM_tr (poM_rg hF hI hS) hpo, fun e => ⟨fun z => absurd z hL, fun _ => hx e⟩⟩
      · refine am_aload_n rfl dX10_makes_87 ?_
        refine am_iload_n rfl dX10_makes_88 ?_
        refine am_iload_n rfl dX10_makes_89 ?_
        refine mm_iconst dX10_makes_90 ?_
        have hL : lfR S (rgS S) a 0 := hlf.mpr ⟨tells_f hy h68, h84⟩
        refine am_cxv (mm_V3 dX10_makes_91 in_X10_wrong mk_X10_261 im_X10_wrong sl_X10_wrong ⟨Nat.le_of_ble_eq_true rfl, Nat.le_of_ble_eq_true rfl⟩ rfl (md_0 hm) (Nat.le_of_ble_eq_true rfl)) (m_wrongP (X := X) (F := F) (W := W) (pl := pl) (w := 5) hm hb hI hS (c := c) hc (by omega) (by omega) (hE1 hL)) (fun M1 hq => ?_)
        obtain ⟨S2, rfl, hpo, hwm⟩ := hq
        refine am_return dX10_makes_94 rfl ?_
        exact ⟨rfl, S2, L, rfl, hpo, fun _ => ⟨fun _ => hwm, fun z => absurd hL z⟩⟩
  · refine mm_iconst dX10_makes_14 ?_
    refine am_goto (tgt := 19) dX10_makes_15 (by decide) ?_
    refine am_ist6 dX10_makes_19 (Nat.le_of_ble_eq_true rfl) (am_c1i _) ?_
    refine mm_iconst dX10_makes_21 ?_
    refine am_ist7 dX10_makes_22 (Nat.le_of_ble_eq_true rfl) (am_c1i _) ?_
    refine l_mk hm ha hrr.1 (fun y hy => ?_) 6 0 _ (by omega) (by omega) (by first | exact Or.inl ⟨rfl, Or.inl (by omega)⟩ | exact Or.inr ⟨rfl, fun z => z.elim (fun q => by omega) (fun ⟨u, u1, _⟩ => absurd u1 (Nat.not_lt_zero u))⟩)
    have hy01 := tells_01 hy
    refine am_iload rfl dX10_makes_66 ?_
    refine mm_zne (tgt := 95) dX10_makes_68 (by decide) (by omega) (fun h68 => ?_) (fun h68 => ?_)
    · have hL : ¬ lfR S (rgS S) a 0 := fun z => by
        have z := hlf.mp z
        first
          | exact z.1 (tells_t hy h68)
          | exact h84 z.2
      refine am_aload_n rfl dX10_makes_95 ?_
      refine mm_getR dX10_makes_96 fl_X10_63 (md_0 hm) mdf_20 ?_
      refine am_iload_n rfl dX10_makes_99 ?_
      refine mm_iconst dX10_makes_100 ?_
      refine mm_ias dX10_makes_101 (md_var hm) (by omega) ?_
      rw [Int.toNat_natCast]
      refine am_aload_n rfl dX10_makes_102 ?_
      refine am_ci (mm_V0 dX10_makes_103 in_X10_freeThing mk_X10_277 im_X10_freeThing sl_X10_freeThing ⟨Nat.le_of_ble_eq_true rfl, Nat.le_of_ble_eq_true rfl⟩ rfl (md_0 hm) (Nat.le_of_ble_eq_true rfl)) (m_freeThing hm (fun k hk => by by_cases e : k = a; rw [e, up2_same]; omega; rw [up2_rc e]; exact hrr.1 k hk) ha (up2_same _ _ _ _)) ?_
      obtain ⟨t, htt⟩ : ∃ t, frF (up2 S 198 a 0 198) 5 2 = t := ⟨_, rfl⟩
      have hfr := frF_free (up2 S 198 a 0 198) 5 2 (fr_ex (a := a) ha 2 (Or.inl (by rw [up2_same]; omega)))
      rw [htt] at hfr ⊢
      have hft : frF (ud (rgS S).1 a 0) 5 2 = t := by
        rw [← htt]
        refine frF_congr (fun v hv => ?_) 5 2
        by_cases e : v = a
        · rw [e, ud_same, up2_same]
        · rw [ud_ne e, up2_rc e, rg_V hv]
      refine am_ist7 dX10_makes_106 (Nat.le_of_ble_eq_true rfl) (am_c1i _) ?_
      refine am_aload_n rfl dX10_makes_108 ?_
      refine mm_getR dX10_makes_109 fl_X10_63 (md_0 hm) mdf_20 ?_
      refine am_iload_n rfl dX10_makes_112 ?_
      refine am_iload rfl dX10_makes_113 ?_
      refine mm_ias dX10_makes_115 (md_var hm) (by omega) ?_
      rw [Int.toNat_natCast]
      refine am_aload_n rfl dX10_makes_116 ?_
      refine mm_getR dX10_makes_117 fl_X10_66 (md_0 hm) mdf_21 ?_
      refine am_iload rfl dX10_makes_120 ?_
      refine mm_iconst dX10_makes_122 ?_
      refine mm_isub dX10_makes_123 ?_
      refine mm_bipush dX10_makes_124 (by decide) ?_
      refine am_iload rfl dX10_makes_126 ?_
      refine mm_imul dX10_makes_128 ?_
      refine mm_ias dX10_makes_129 (md_own hm) (by omega) ?_
      rw [up2_up2]
      have hF : rgF S (up2 (up2 S 198 a t) 199 (t - 2).toNat (7 * k)) := rgF_tr (rgF_up (by omega)) (rgF_up (by omega))
      have hEb := rgF_E hF
      have hk1 : keyM (up2 (up2 S 198 a t) 199 (t - 2).toNat (7 * k)) c = keyM S c := rgF_key hF c
      have hrg : rgS (up2 (up2 S 198 a t) 199 (t - 2).toNat (7 * k)) = mkR (rgS S) a k := by
        unfold mkR
        rw [hft]
        unfold rgS
        rw [nrm_up (S := up2 S 198 a t) (a := 199) (by omega), up2_row (show 198 ≠ 199 by decide), nrm_up ha, up2_row (show 200 ≠ 199 by decide), up2_row (show 200 ≠ 198 by decide), up2_row (show 181 ≠ 199 by decide), up2_row (show 181 ≠ 198 by decide), up2_row (show 199 ≠ 198 by decide)]
      refine am_aload_n rfl dX10_makes_130 ?_
      refine am_iload_n rfl dX10_makes_131 ?_
      refine am_iload_n rfl dX10_makes_132 ?_
      refine mm_iconst dX10_makes_133 ?_
      refine mm_iadd dX10_makes_134 ?_
      refine am_cxv (mm_V2 dX10_makes_135 in_X10_goes mk_X10_268 im_X10_goes sl_X10_goes ⟨Nat.le_of_ble_eq_true rfl, Nat.le_of_ble_eq_true rfl⟩ rfl (md_0 hm) (Nat.le_of_ble_eq_true rfl)) (m_goes (X := X) (F := F) (W := W) (to := (pl : Int) + 1) hm (mbW_of hEb hb) (rgF_I hF hI) (rgF_S hF hS) (c := c) (by rw [hF.2 27 (by omega)]; exact hc) (by rw [hF.1 204 (by omega) (by omega), hF.1 189 (by omega) (by omega)]; omega) (by rw [hk1, hrg]; exact rgV_of hEb (rg_make hb.1 hb.2.1 hR ha hk)) (by rw [hk1, hrg, hF.1 204 (by omega) (by omega), show ((pl : Int) + 1).toNat = pl + 1 by omega, gtR, bk_mv hEb]; exact hE2 hL)) (fun M1 hq => ?_)
      obtain ⟨S2, L2, rfl, hpo, hx⟩ := hq
      rw [hk1, hrg, hF.1 204 (by omega) (by omega), show ((pl : Int) + 1).toNat = pl + 1 by omega, gtR, bk_mv hEb] at hx
      refine am_return dX10_makes_138 rfl ?_
      exact ⟨rfl, S2, L2, rfl, poM_tr (poM_rg hF hI hS) hpo, fun e => ⟨fun z => absurd z hL, fun _ => hx e⟩⟩
    · refine am_aload_n rfl dX10_makes_71 ?_
      refine am_aload_n rfl dX10_makes_72 ?_
      refine mm_getR dX10_makes_73 fl_X10_66 (md_0 hm) mdf_21 ?_
      refine am_iload rfl dX10_makes_76 ?_
      refine mm_iconst dX10_makes_78 ?_
      refine mm_isub dX10_makes_79 ?_
      refine mm_ial dX10_makes_80 (md_own hm) (by have z : ¬ S 198 a < 2 := fun q => tells_f hy h68 (Or.inl q); omega) ?_
      refine am_ci (mm_V1 dX10_makes_81 in_X10_isLeft mk_X10_254 im_X10_isLeft sl_X10_isLeft ⟨Nat.le_of_ble_eq_true rfl, Nat.le_of_ble_eq_true rfl⟩ rfl (md_0 hm) (Nat.le_of_ble_eq_true rfl)) (m_isLeft hm hb.1 (by have z : ¬ S 198 a < 2 := fun q => tells_f hy h68 (Or.inl q); exact hrr.2.1 _ (by omega))) ?_
      refine mm_beq (tgt := 95) dX10_makes_84 (by decide) (fun h84 => ?_) (fun h84 => ?_)
      · have hL : ¬ lfR S (rgS S) a 0 := fun z => by
          have z := hlf.mp z
          first
            | exact z.1 (tells_t hy h68)
            | exact h84 z.2
        refine am_aload_n rfl dX10_makes_95 ?_
        refine mm_getR dX10_makes_96 fl_X10_63 (md_0 hm) mdf_20 ?_
        refine am_iload_n rfl dX10_makes_99 ?_
        refine mm_iconst dX10_makes_100 ?_
        refine mm_ias dX10_makes_101 (md_var hm) (by omega) ?_
        rw [Int.toNat_natCast]
        refine am_aload_n rfl dX10_makes_102 ?_
        refine am_ci (mm_V0 dX10_makes_103 in_X10_freeThing mk_X10_277 im_X10_freeThing sl_X10_freeThing ⟨Nat.le_of_ble_eq_true rfl, Nat.le_of_ble_eq_true rfl⟩ rfl (md_0 hm) (Nat.le_of_ble_eq_true rfl)) (m_freeThing hm (fun k hk => by by_cases e : k = a; rw [e, up2_same]; omega; rw [up2_rc e]; exact hrr.1 k hk) ha (up2_same _ _ _ _)) ?_
        obtain ⟨t, htt⟩ : ∃ t, frF (up2 S 198 a 0 198) 5 2 = t := ⟨_, rfl⟩
        have hfr := frF_free (up2 S 198 a 0 198) 5 2 (fr_ex (a := a) ha 2 (Or.inl (by rw [up2_same]; omega)))
        rw [htt] at hfr ⊢
        have hft : frF (ud (rgS S).1 a 0) 5 2 = t := by
          rw [← htt]
          refine frF_congr (fun v hv => ?_) 5 2
          by_cases e : v = a
          · rw [e, ud_same, up2_same]
          · rw [ud_ne e, up2_rc e, rg_V hv]
        refine am_ist7 dX10_makes_106 (Nat.le_of_ble_eq_true rfl) (am_c1i _) ?_
        refine am_aload_n rfl dX10_makes_108 ?_
        refine mm_getR dX10_makes_109 fl_X10_63 (md_0 hm) mdf_20 ?_
        refine am_iload_n rfl dX10_makes_112 ?_
        refine am_iload rfl dX10_makes_113 ?_
        refine mm_ias dX10_makes_115 (md_var hm) (by omega) ?_
        rw [Int.toNat_natCast]
        refine am_aload_n rfl dX10_makes_116 ?_
        refine mm_getR dX10_makes_117 fl_X10_66 (md_0 hm) mdf_21 ?_
        refine am_iload rfl dX10_makes_120 ?_
        refine mm_iconst dX10_makes_122 ?_
        refine mm_isub dX10_makes_123 ?_
        refine mm_bipush dX10_makes_124 (by decide) ?_
        refine am_iload rfl dX10_makes_126 ?_
        refine mm_imul dX10_makes_128 ?_
        refine mm_ias dX10_makes_129 (md_own hm) (by omega) ?_
        rw [up2_up2]
        have hF : rgF S (up2 (up2 S 198 a t) 199 (t - 2).toNat (7 * k)) := rgF_tr (rgF_up (by omega)) (rgF_up (by omega))
        have hEb := rgF_E hF
        have hk1 : keyM (up2 (up2 S 198 a t) 199 (t - 2).toNat (7 * k)) c = keyM S c := rgF_key hF c
        have hrg : rgS (up2 (up2 S 198 a t) 199 (t - 2).toNat (7 * k)) = mkR (rgS S) a k := by
          unfold mkR
          rw [hft]
          unfold rgS
          rw [nrm_up (S := up2 S 198 a t) (a := 199) (by omega), up2_row (show 198 ≠ 199 by decide), nrm_up ha, up2_row (show 200 ≠ 199 by decide), up2_row (show 200 ≠ 198 by decide), up2_row (show 181 ≠ 199 by decide), up2_row (show 181 ≠ 198 by decide), up2_row (show 199 ≠ 198 by decide)]
        refine am_aload_n rfl dX10_makes_130 ?_
        refine am_iload_n rfl dX10_makes_131 ?_
        refine am_iload_n rfl dX10_makes_132 ?_
        refine mm_iconst dX10_makes_133 ?_
        refine mm_iadd dX10_makes_134 ?_
        refine am_cxv (mm_V2 dX10_makes_135 in_X10_goes mk_X10_268 im_X10_goes sl_X10_goes ⟨Nat.le_of_ble_eq_true rfl, Nat.le_of_ble_eq_true rfl⟩ rfl (md_0 hm) (Nat.le_of_ble_eq_true rfl)) (m_goes (X := X) (F := F) (W := W) (to := (pl : Int) + 1) hm (mbW_of hEb hb) (rgF_I hF hI) (rgF_S hF hS) (c := c) (by rw [hF.2 27 (by omega)]; exact hc) (by rw [hF.1 204 (by omega) (by omega), hF.1 189 (by omega) (by omega)]; omega) (by rw [hk1, hrg]; exact rgV_of hEb (rg_make hb.1 hb.2.1 hR ha hk)) (by rw [hk1, hrg, hF.1 204 (by omega) (by omega), show ((pl : Int) + 1).toNat = pl + 1 by omega, gtR, bk_mv hEb]; exact hE2 hL)) (fun M1 hq => ?_)
        obtain ⟨S2, L2, rfl, hpo, hx⟩ := hq
        rw [hk1, hrg, hF.1 204 (by omega) (by omega), show ((pl : Int) + 1).toNat = pl + 1 by omega, gtR, bk_mv hEb] at hx
        refine am_return dX10_makes_138 rfl ?_
        exact ⟨rfl, S2, L2, rfl, poM_tr (poM_rg hF hI hS) hpo, fun e => ⟨fun z => absurd z hL, fun _ => hx e⟩⟩
      · refine am_aload_n rfl dX10_makes_87 ?_
        refine am_iload_n rfl dX10_makes_88 ?_
        refine am_iload_n rfl dX10_makes_89 ?_
        refine mm_iconst dX10_makes_90 ?_
        have hL : lfR S (rgS S) a 0 := hlf.mpr ⟨tells_f hy h68, h84⟩
        refine am_cxv (mm_V3 dX10_makes_91 in_X10_wrong mk_X10_261 im_X10_wrong sl_X10_wrong ⟨Nat.le_of_ble_eq_true rfl, Nat.le_of_ble_eq_true rfl⟩ rfl (md_0 hm) (Nat.le_of_ble_eq_true rfl)) (m_wrongP (X := X) (F := F) (W := W) (pl := pl) (w := 5) hm hb hI hS (c := c) hc (by omega) (by omega) (hE1 hL)) (fun M1 hq => ?_)
        obtain ⟨S2, rfl, hpo, hwm⟩ := hq
        refine am_return dX10_makes_94 rfl ?_
        exact ⟨rfl, S2, L, rfl, hpo, fun _ => ⟨fun _ => hwm, fun z => absurd hL z⟩⟩
abbrev zcR (S : mm_S) (r pl : Nat) (R : rgT) : Int × Int × rgT := if ehR S r pl R ≠ 0 then otR S r pl (ehR S r pl R) R else gtR S r (if mSo S r (hdS (mSo S r) pl) = 4 ∨ mSo S r (hdS (mSo S r) pl) = 5 then (hdS (mSo S r) pl : Int) else (pl : Int) + 1) R
set_option maxRecDepth 100000 in
set_option maxHeartbeats 4000000 in
theorem m_closes {sh : List mm_H} {S : mm_S} {L : mm_L} (hm : mdS sh) (hb : mbW S) (hI : imS S L) {X : XT} {F : FT} {W : WT} (hS : SubM S L X F W) {c : Nat} (hc : (c : Int) < S 181 27) {pl : Nat} (hp : pl < mN S (S 204 c).toNat) (h7 : mSo S (S 204 c).toNat pl = 7) (hR : rgV S (keyM S c) (rgS S)) (hE : otK X F W S (keyM S c) (zcR S (S 204 c).toNat pl (rgS S))) : am_E eX10_closes [.ref 181, .int (iI (c : Int)), .int (iI (pl : Int))] (mm sh S L) (fun r0 M' => r0 = none ∧ ∃ S' L', M' = mm sh S' L' ∧ poM S L X F W S' L' ∧ (S' 181 39 = 0 → otK (XM S' L') (FM S') (WM S') S (keyM S c) (zcR S (S 204 c).toNat pl (rgS S)))) := by
  have hcs := hI.1
  have hc27 := hI.1.1
  have hcc := hcs.2 c hc
  have hκ := (hI.2.1 c hc).1
  have hr9 : (((S 204 c).toNat : Nat) : Int) < S 181 9 := hκ.2.1
  have hrw := hb.2.2.2.2 (S 204 c).toNat hr9
  have h24 := hb.1.2.2.2.2 (S 204 c).toNat (by omega)
  have hc40 : c < 40 := by omega
  have er204 : S 204 c = (((S 204 c).toNat : Nat) : Int) := by omega
  have hN : ((mN S (S 204 c).toNat : Nat) : Int) = S 189 (S 204 c).toNat := by unfold mN; omega
  have hrr := rgB_S hR.1
  obtain ⟨t, g1, -⟩ := (hrw.1 pl hp).2.2.2.2 h7
  have g4 := stk_top (stk_head g1)
  have eh : hdS (mSo S (S 204 c).toNat) pl = t := hdS_of g1
  have gop : S 193 (25 * (S 204 c).toNat + pl) = (t : Int) := by
    have := (wk_ar hrw pl hp).1
    rw [this]
    unfold opA
    rw [if_pos (by omega), g1]
  have gs := (hrw.1 t (by omega)).1
  have hl6 := stk_len (wfP_le hrw.1 (Nat.le_of_lt hp))
  have hl : (stk (mSo S (S 204 c).toNat) pl).length = (stk (mSo S (S 204 c).toNat) t).length + 1 := by rw [stk_head g1]; rfl
  obtain ⟨l, hll⟩ : ∃ l : Nat, (stk (mSo S (S 204 c).toNat) t).length = l := ⟨_, rfl⟩
  obtain ⟨x, hx⟩ : ∃ x, mSo S (S 204 c).toNat t = x := ⟨_, rfl⟩
  have gso : S 190 (25 * (S 204 c).toNat + t) = x := hx
  have gar : x = 14 → S 196 (25 * (S 204 c).toNat + t) = (l : Int) := fun z => by
    have := (wk_ar hrw t (by omega)).2
    rw [show S 196 (25 * (S 204 c).toNat + t) = mAr S (S 204 c).toNat t from rfl, this]
    unfold arA
    rw [if_neg (by omega), hll]
  have ehr : ehR S (S 204 c).toNat pl (rgS S) = if x = 14 then S 200 l else 0 := by
    unfold ehR
    rw [eh, hx]
    by_cases z : x = 14
    · rw [if_pos z, if_pos z]
      unfold arA
      rw [if_neg (by omega), hll, Int.toNat_natCast]
      exact nrm_in (by omega)
    · rw [if_neg z, if_neg z]
  have hp2 : 0 ≤ S 200 l ∧ S 200 l ≤ 2 := by
    have := hR.2.2.2.2.2 l (by omega)
    rw [show (rgS S).2.2.2 l = S 200 l from nrm_in (by omega)] at this
    exact ⟨(hrr.2.2.2 l (by omega)).1, this⟩
  rw [hx] at gs
  refine am_enter rfl rfl (Nat.le_of_ble_eq_true rfl) ?_
  refine am_aload_n rfl dX10_closes_0 ?_
  refine mm_getR dX10_closes_1 fl_X10_81 (md_0 hm) mdf_29 ?_
  refine am_iload_n rfl dX10_closes_4 ?_
  refine mm_ial dX10_closes_5 (md_caseRoutine hm) (by omega) ?_
  rw [Int.toNat_natCast, show iI (S 204 c) = iI (((S 204 c).toNat : Nat) : Int) from congrArg iI er204]
  refine am_ist3 dX10_closes_6 (Nat.le_of_ble_eq_true rfl) (am_c1i _) ?_
  refine am_aload_n rfl dX10_closes_7 ?_
  refine mm_getR dX10_closes_8 fl_X10_48 (md_0 hm) mdf_14 ?_
  refine mm_bipush dX10_closes_11 (by decide) ?_
  refine am_iload_n rfl dX10_closes_13 ?_
  refine mm_imul dX10_closes_14 ?_
  refine am_iload_n rfl dX10_closes_15 ?_
  refine mm_iadd dX10_closes_16 ?_
  rw [show (25 * (((S 204 c).toNat : Nat) : Int) + (pl : Int)) = ((25 * (S 204 c).toNat + pl : Nat) : Int) by omega]
  refine mm_ial dX10_closes_17 (md_openAt hm) (by omega) ?_
  rw [Int.toNat_natCast, gop]
  refine am_ist4 dX10_closes_18 (Nat.le_of_ble_eq_true rfl) (am_c1i _) ?_
  refine am_aload_n rfl dX10_closes_20 ?_
  refine mm_getR dX10_closes_21 fl_X10_39 (md_0 hm) mdf_11 ?_
  refine mm_bipush dX10_closes_24 (by decide) ?_
  refine am_iload_n rfl dX10_closes_26 ?_
  refine mm_imul dX10_closes_27 ?_
  refine am_iload rfl dX10_closes_28 ?_
  refine mm_iadd dX10_closes_30 ?_
  rw [show (25 * (((S 204 c).toNat : Nat) : Int) + (t : Int)) = ((25 * (S 204 c).toNat + t : Nat) : Int) by omega]
  refine mm_ial dX10_closes_31 (md_sortAt hm) (by omega) ?_
  rw [Int.toNat_natCast, gso]
  refine am_ist5 dX10_closes_32 (Nat.le_of_ble_eq_true rfl) (am_c1i _) ?_
  refine am_iload rfl dX10_closes_34 ?_
  refine mm_bipush dX10_closes_36 (by decide) ?_
  refine mm_jne (tgt := 61) dX10_closes_38 (by decide) (by omega) (by omega) (fun h38 => ?_) (fun h38 => ?_)
  · refine mm_iconst dX10_closes_61 ?_
    refine am_ist6 dX10_closes_62 (Nat.le_of_ble_eq_true rfl) (am_c1i _) ?_
    refine am_iload rfl dX10_closes_64 ?_
    refine mm_zle (tgt := 80) dX10_closes_66 (by decide) (by omega) (fun h66 => ?_) (fun h66 => ?_)
    · refine am_aload_n rfl dX10_closes_80 ?_
      refine am_iload_n rfl dX10_closes_81 ?_
      refine am_iload rfl dX10_closes_82 ?_
      refine mm_iconst dX10_closes_84 ?_
      refine mm_jeq (tgt := 94) dX10_closes_85 (by decide) (by omega) (by omega) (fun h85 => ?_) (fun h85 => ?_)
      · refine am_iload rfl dX10_closes_94 ?_
        refine am_goto (tgt := 102) dX10_closes_96 (by decide) ?_
        have hz0 : ¬ (if x = 14 then S 200 l else 0) ≠ 0 := by split <;> omega
        refine am_cxv (mm_V2 dX10_closes_102 in_X10_goes mk_X10_268 im_X10_goes sl_X10_goes ⟨Nat.le_of_ble_eq_true rfl, Nat.le_of_ble_eq_true rfl⟩ rfl (md_0 hm) (Nat.le_of_ble_eq_true rfl)) (m_goes (X := X) (F := F) (W := W) hm hb hI hS hc (by omega) hR (by have hE := hE; unfold zcR at hE; rw [ehr, if_neg hz0, eh, hx] at hE; first | (rw [if_pos (by omega), otK_1] at hE; exact hE) | (rw [if_neg (by omega), otK_1] at hE; exact hE))) (fun M1 hq => ?_)
        obtain ⟨S2, L2, rfl, hpo, hxx⟩ := hq
        refine am_return dX10_closes_105 rfl ?_
        refine ⟨rfl, S2, L2, rfl, hpo, fun e => ?_⟩
        unfold zcR
        first
          | (rw [ehr, if_neg hz0, eh, hx, if_pos (by omega), otK_1]; exact hxx e)
          | (rw [ehr, if_neg hz0, eh, hx, if_neg (by omega), otK_1]; exact hxx e)
          | (rw [ehr, if_pos h38, if_pos (by omega)]; exact hxx e)
      · refine am_iload rfl dX10_closes_88 ?_
        refine mm_iconst dX10_closes_90 ?_
        refine mm_jne (tgt := 99) dX10_closes_91 (by decide) (by omega) (by omega) (fun h91 => ?_) (fun h91 => ?_)
        · refine am_iload_n rfl dX10_closes_99 ?_
          refine mm_iconst dX10_closes_100 ?_
          refine mm_iadd dX10_closes_101 ?_
          have hz0 : ¬ (if x = 14 then S 200 l else 0) ≠ 0 := by split <;> omega
          refine am_cxv (mm_V2 dX10_closes_102 in_X10_goes mk_X10_268 im_X10_goes sl_X10_goes ⟨Nat.le_of_ble_eq_true rfl, Nat.le_of_ble_eq_true rfl⟩ rfl (md_0 hm) (Nat.le_of_ble_eq_true rfl)) (m_goes (X := X) (F := F) (W := W) hm hb hI hS hc (by omega) hR (by have hE := hE; unfold zcR at hE; rw [ehr, if_neg hz0, eh, hx] at hE; first | (rw [if_pos (by omega), otK_1] at hE; exact hE) | (rw [if_neg (by omega), otK_1] at hE; exact hE))) (fun M1 hq => ?_)
          obtain ⟨S2, L2, rfl, hpo, hxx⟩ := hq
          refine am_return dX10_closes_105 rfl ?_
          refine ⟨rfl, S2, L2, rfl, hpo, fun e => ?_⟩
          unfold zcR
          first
            | (rw [ehr, if_neg hz0, eh, hx, if_pos (by omega), otK_1]; exact hxx e)
            | (rw [ehr, if_neg hz0, eh, hx, if_neg (by omega), otK_1]; exact hxx e)
            | (rw [ehr, if_pos h38, if_pos (by omega)]; exact hxx e)
        · refine am_iload rfl dX10_closes_94 ?_
          refine am_goto (tgt := 102) dX10_closes_96 (by decide) ?_
          have hz0 : ¬ (if x = 14 then S 200 l else 0) ≠ 0 := by split <;> omega
          refine am_cxv (mm_V2 dX10_closes_102 in_X10_goes mk_X10_268 im_X10_goes sl_X10_goes ⟨Nat.le_of_ble_eq_true rfl, Nat.le_of_ble_eq_true rfl⟩ rfl (md_0 hm) (Nat.le_of_ble_eq_true rfl)) (m_goes (X := X) (F := F) (W := W) hm hb hI hS hc (by omega) hR (by have hE := hE; unfold zcR at hE; rw [ehr, if_neg hz0, eh, hx] at hE; first | (rw [if_pos (by omega), otK_1] at hE; exact hE) | (rw [if_neg (by omega), otK_1] at hE; exact hE))) (fun M1 hq => ?_)
          obtain ⟨S2, L2, rfl, hpo, hxx⟩ := hq
          refine am_return dX10_closes_105 rfl ?_
          refine ⟨rfl, S2, L2, rfl, hpo, fun e => ?_⟩
          unfold zcR
          first
            | (rw [ehr, if_neg hz0, eh, hx, if_pos (by omega), otK_1]; exact hxx e)
            | (rw [ehr, if_neg hz0, eh, hx, if_neg (by omega), otK_1]; exact hxx e)
            | (rw [ehr, if_pos h38, if_pos (by omega)]; exact hxx e)
    · exfalso; omega
  · refine am_aload_n rfl dX10_closes_41 ?_
    refine mm_getR dX10_closes_42 fl_X10_69 (md_0 hm) mdf_23 ?_
    refine am_aload_n rfl dX10_closes_45 ?_
    refine mm_getR dX10_closes_46 fl_X10_57 (md_0 hm) mdf_17 ?_
    refine mm_bipush dX10_closes_49 (by decide) ?_
    refine am_iload_n rfl dX10_closes_51 ?_
    refine mm_imul dX10_closes_52 ?_
    refine am_iload rfl dX10_closes_53 ?_
    refine mm_iadd dX10_closes_55 ?_
    rw [show (25 * (((S 204 c).toNat : Nat) : Int) + (t : Int)) = ((25 * (S 204 c).toNat + t : Nat) : Int) by omega]
    refine mm_ial dX10_closes_56 (md_around hm) (by omega) ?_
    rw [Int.toNat_natCast, gar h38]
    refine mm_ial dX10_closes_57 (md_pend hm) (by omega) ?_
    rw [Int.toNat_natCast]
    refine am_goto (tgt := 62) dX10_closes_58 (by decide) ?_
    refine am_ist6 dX10_closes_62 (Nat.le_of_ble_eq_true rfl) (am_c1i _) ?_
    refine am_iload rfl dX10_closes_64 ?_
    refine mm_zle (tgt := 80) dX10_closes_66 (by decide) (by omega) (fun h66 => ?_) (fun h66 => ?_)
    · refine am_aload_n rfl dX10_closes_80 ?_
      refine am_iload_n rfl dX10_closes_81 ?_
      refine am_iload rfl dX10_closes_82 ?_
      refine mm_iconst dX10_closes_84 ?_
      refine mm_jeq (tgt := 94) dX10_closes_85 (by decide) (by omega) (by omega) (fun h85 => ?_) (fun h85 => ?_)
      · refine am_iload rfl dX10_closes_94 ?_
        refine am_goto (tgt := 102) dX10_closes_96 (by decide) ?_
        have hz0 : ¬ (if x = 14 then S 200 l else 0) ≠ 0 := by split <;> omega
        refine am_cxv (mm_V2 dX10_closes_102 in_X10_goes mk_X10_268 im_X10_goes sl_X10_goes ⟨Nat.le_of_ble_eq_true rfl, Nat.le_of_ble_eq_true rfl⟩ rfl (md_0 hm) (Nat.le_of_ble_eq_true rfl)) (m_goes (X := X) (F := F) (W := W) hm hb hI hS hc (by omega) hR (by have hE := hE; unfold zcR at hE; rw [ehr, if_neg hz0, eh, hx] at hE; first | (rw [if_pos (by omega), otK_1] at hE; exact hE) | (rw [if_neg (by omega), otK_1] at hE; exact hE))) (fun M1 hq => ?_)
        obtain ⟨S2, L2, rfl, hpo, hxx⟩ := hq
        refine am_return dX10_closes_105 rfl ?_
        refine ⟨rfl, S2, L2, rfl, hpo, fun e => ?_⟩
        unfold zcR
        first
          | (rw [ehr, if_neg hz0, eh, hx, if_pos (by omega), otK_1]; exact hxx e)
          | (rw [ehr, if_neg hz0, eh, hx, if_neg (by omega), otK_1]; exact hxx e)
          | (rw [ehr, if_pos h38, if_pos (by omega)]; exact hxx e)
      · refine am_iload rfl dX10_closes_88 ?_
        refine mm_iconst dX10_closes_90 ?_
        refine mm_jne (tgt := 99) dX10_closes_91 (by decide) (by omega) (by omega) (fun h91 => ?_) (fun h91 => ?_)
        · refine am_iload_n rfl dX10_closes_99 ?_
          refine mm_iconst dX10_closes_100 ?_
          refine mm_iadd dX10_closes_101 ?_
          have hz0 : ¬ (if x = 14 then S 200 l else 0) ≠ 0 := by split <;> omega
          refine am_cxv (mm_V2 dX10_closes_102 in_X10_goes mk_X10_268 im_X10_goes sl_X10_goes ⟨Nat.le_of_ble_eq_true rfl, Nat.le_of_ble_eq_true rfl⟩ rfl (md_0 hm) (Nat.le_of_ble_eq_true rfl)) (m_goes (X := X) (F := F) (W := W) hm hb hI hS hc (by omega) hR (by have hE := hE; unfold zcR at hE; rw [ehr, if_neg hz0, eh, hx] at hE; first | (rw [if_pos (by omega), otK_1] at hE; exact hE) | (rw [if_neg (by omega), otK_1] at hE; exact hE))) (fun M1 hq => ?_)
          obtain ⟨S2, L2, rfl, hpo, hxx⟩ := hq
          refine am_return dX10_closes_105 rfl ?_
          refine ⟨rfl, S2, L2, rfl, hpo, fun e => ?_⟩
          unfold zcR
          first
            | (rw [ehr, if_neg hz0, eh, hx, if_pos (by omega), otK_1]; exact hxx e)
            | (rw [ehr, if_neg hz0, eh, hx, if_neg (by omega), otK_1]; exact hxx e)
            | (rw [ehr, if_pos h38, if_pos (by omega)]; exact hxx e)
        · refine am_iload rfl dX10_closes_94 ?_
          refine am_goto (tgt := 102) dX10_closes_96 (by decide) ?_
          have hz0 : ¬ (if x = 14 then S 200 l else 0) ≠ 0 := by split <;> omega
          refine am_cxv (mm_V2 dX10_closes_102 in_X10_goes mk_X10_268 im_X10_goes sl_X10_goes ⟨Nat.le_of_ble_eq_true rfl, Nat.le_of_ble_eq_true rfl⟩ rfl (md_0 hm) (Nat.le_of_ble_eq_true rfl)) (m_goes (X := X) (F := F) (W := W) hm hb hI hS hc (by omega) hR (by have hE := hE; unfold zcR at hE; rw [ehr, if_neg hz0, eh, hx] at hE; first | (rw [if_pos (by omega), otK_1] at hE; exact hE) | (rw [if_neg (by omega), otK_1] at hE; exact hE))) (fun M1 hq => ?_)
          obtain ⟨S2, L2, rfl, hpo, hxx⟩ := hq
          refine am_return dX10_closes_105 rfl ?_
          refine ⟨rfl, S2, L2, rfl, hpo, fun e => ?_⟩
          unfold zcR
          first
            | (rw [ehr, if_neg hz0, eh, hx, if_pos (by omega), otK_1]; exact hxx e)
            | (rw [ehr, if_neg hz0, eh, hx, if_neg (by omega), otK_1]; exact hxx e)
            | (rw [ehr, if_pos h38, if_pos (by omega)]; exact hxx e)
    · refine am_aload_n rfl dX10_closes_69 ?_
      refine am_iload_n rfl dX10_closes_70 ?_
      refine am_iload_n rfl dX10_closes_71 ?_
      refine am_iload rfl dX10_closes_72 ?_
      refine am_cxv (mm_V3 dX10_closes_74 in_X10_out mk_X10_294 im_X10_out sl_X10_out ⟨Nat.le_of_ble_eq_true rfl, Nat.le_of_ble_eq_true rfl⟩ rfl (md_0 hm) (Nat.le_of_ble_eq_true rfl)) (m_out (X := X) (F := F) (W := W) hm hb hI hS hc hR hp (how := S 200 l) (by omega) (by have hE := hE; unfold zcR at hE; rw [ehr, if_pos h38, if_pos (by omega)] at hE; exact hE)) (fun M1 hq => ?_)
      obtain ⟨S2, L2, rfl, hpo, hxx⟩ := hq
      refine am_goto (tgt := 105) dX10_closes_77 (by decide) ?_
      refine am_return dX10_closes_105 rfl ?_
      refine ⟨rfl, S2, L2, rfl, hpo, fun e => ?_⟩
      unfold zcR
      first
        | (rw [ehr, if_neg hz0, eh, hx, if_pos (by omega), otK_1]; exact hxx e)
        | (rw [ehr, if_neg hz0, eh, hx, if_neg (by omega), otK_1]; exact hxx e)
        | (rw [ehr, if_pos h38, if_pos (by omega)]; exact hxx e)
