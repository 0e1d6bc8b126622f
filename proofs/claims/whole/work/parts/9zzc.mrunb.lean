/-! ===== run, ended, breaks of the reference ===== -/
def mrQ (S : mm_S) (S' : mm_S) (e : aEn) : Prop := (∀ b, b < 193 ∨ (198 ≤ b ∧ b < 214) ∨ 223 ≤ b → b ≠ 181 → S' b = S b) ∧ (∀ j, j < 41 → j ≠ 19 → S' 181 j = S 181 j) ∧ S' 181 60 = 1 ∧ S' 222 0 = e.1 ∧ S' 222 1 = e.2.1 ∧ S' 222 2 = e.2.2.1 ∧ S' 222 3 = e.2.2.2.1 ∧ S' 222 4 = e.2.2.2.2.1 ∧ S' 222 5 = e.2.2.2.2.2
set_option maxRecDepth 100000 in
set_option maxHeartbeats 4000000 in
theorem m_run {sh : List mm_H} {S : mm_S} {L : mm_L} (hm : mdS sh) (hv : mdV S) (hp : mdP S) (hq : mdQ S) (hA : mkA S) (hO : mdO S) {x : Int64} {n : Int} (hn : Rg n) : am_E eX10_run [.ref 181, .long x, .int (iI n)] (mm sh S L) (fun r0 M' => ∃ v, r0 = some (.int (iI v)) ∧ ∃ S' L', M' = mm sh S' L' ∧ ((¬ (0 ≤ n ∧ n ≤ 60) ∧ v = -2 ∧ S' = S ∧ L' = L) ∨ ((0 ≤ n ∧ n ≤ 60) ∧ ¬ mWhole S ∧ v = -3 ∧ wkA S S' ∧ L' = L) ∨ ((0 ≤ n ∧ n ≤ 60) ∧ mWhole S ∧ ∃ e, runE S x n e ∧ v = e.1 ∧ mrQ S S' e ∧ ∀ b, b ≠ 181 → L' b = L b))) := by
  refine am_enter rfl rfl (Nat.le_of_ble_eq_true rfl) ?_
  refine am_iload_n rfl dX10_run_0 ?_
  refine mm_iconst dX10_run_1 ?_
  refine mm_bipush dX10_run_2 (by decide) ?_
  refine am_ci (mm_S3 dX10_run_4 in_X10_in mk_X10_144 st_X10_in ⟨Nat.le_of_ble_eq_true rfl, Nat.le_of_ble_eq_true rfl⟩ (Nat.le_of_ble_eq_true rfl)) (m_in hn (by omega) (by omega)) ?_
  refine mm_bne (tgt := 13) dX10_run_7 (by decide) (fun h7 => ?_) (fun h7 => ?_)
  · refine am_aload_n rfl dX10_run_13 ?_
    refine am_cxi (mm_V0 dX10_run_14 in_X10_isWhole mk_X10_318 im_X10_isWhole sl_X10_isWhole ⟨Nat.le_of_ble_eq_true rfl, Nat.le_of_ble_eq_true rfl⟩ rfl (md_0 hm) (Nat.le_of_ble_eq_true rfl)) (m_isWhole hm hv hp hq) (fun aw M1 hq1 => ?_)
    obtain ⟨av, S1, rfl, hte, rfl, hwk, hwr⟩ := hq1
    have hav := tells_01 hte
    refine mm_zne (tgt := 23) dX10_run_17 (by decide) (by omega) (fun h17 => ?_) (fun h17 => ?_)
    · have hwh := tells_t hte (by omega)
      have hbW := mbW_wk hwk hv hp hq hA hO hwh hwr
      have hbw := wkA_W hwk
      refine am_aload_n rfl dX10_run_23 ?_
      refine am_lload_n rfl dX10_run_24 ?_
      refine am_iload_n rfl dX10_run_25 ?_
      refine am_cxI (mm_V2 dX10_run_26 in_X10_runs mk_X10_413 im_X10_runs sl_X10_runs ⟨Nat.le_of_ble_eq_true rfl, Nat.le_of_ble_eq_true rfl⟩ rfl (md_0 hm) (Nat.le_of_ble_eq_true rfl)) ((m_runs (S0 := S1) (n := n) (x := x) hm hbW (by omega) (S := S1) (mf_rf S1) (L := L)).mono (Q' := fun r0 M' => ∃ v : Int, r0 = some (.int (iI v)) ∧ ∃ e : aEn, v = e.1 ∧ ∃ S', M' = mm sh S' (upL L 181 51 x) ∧ runE S1 x n e ∧ meS S1 S' e) (fun r0 M' z => by obtain ⟨e, z1, S', z2, z3, z4⟩ := z; exact ⟨e.1, z1, e, rfl, S', z2, z3, z4⟩)) (fun v M1 hq2 => ?_)
      obtain ⟨en, rfl, S2, rfl, hrun, hmf, k0, k1, k2, k3, k4, k5⟩ := hq2
      have hc : ∀ j, up2 (up2 (up2 (up2 (up2 (up2 S2 222 0 (S2 181 56)) 222 1 (S2 181 57)) 222 2 (S2 181 58)) 222 3 (S2 181 53)) 222 4 (S2 181 54)) 222 5 (S2 181 55) 181 j = S2 181 j := fun j => by simp (disch := omega) only [up2_rd]
      refine am_pop rfl dX10_run_29 ?_
      refine am_aload_n rfl dX10_run_30 ?_
      refine mm_getR dX10_run_31 fl_X10_138 (md_0 hm) mdf_59 ?_
      refine mm_iconst dX10_run_34 ?_
      refine am_aload_n rfl dX10_run_35 ?_
      refine mm_getI dX10_run_36 fl_X10_343 (md_0 hm) mdf_56 ?_
      refine mm_ias dX10_run_39 (md_ended hm) (by omega) ?_
      refine am_aload_n rfl dX10_run_40 ?_
      refine mm_getR dX10_run_41 fl_X10_138 (md_0 hm) mdf_59 ?_
      refine mm_iconst dX10_run_44 ?_
      refine am_aload_n rfl dX10_run_45 ?_
      refine mm_getI dX10_run_46 fl_X10_349 (md_0 hm) mdf_57 ?_
      simp (disch := omega) only [up2_rd]
      refine mm_ias dX10_run_49 (md_ended hm) (by omega) ?_
      refine am_aload_n rfl dX10_run_50 ?_
      refine mm_getR dX10_run_51 fl_X10_138 (md_0 hm) mdf_59 ?_
      refine mm_iconst dX10_run_54 ?_
      refine am_aload_n rfl dX10_run_55 ?_
      refine mm_getI dX10_run_56 fl_X10_352 (md_0 hm) mdf_58 ?_
      simp (disch := omega) only [up2_rd]
      refine mm_ias dX10_run_59 (md_ended hm) (by omega) ?_
      refine am_aload_n rfl dX10_run_60 ?_
      refine mm_getR dX10_run_61 fl_X10_138 (md_0 hm) mdf_59 ?_
      refine mm_iconst dX10_run_64 ?_
      refine am_aload_n rfl dX10_run_65 ?_
      refine mm_getI dX10_run_66 fl_X10_333 (md_0 hm) mdf_53 ?_
      simp (disch := omega) only [up2_rd]
      refine mm_ias dX10_run_69 (md_ended hm) (by omega) ?_
      refine am_aload_n rfl dX10_run_70 ?_
      refine mm_getR dX10_run_71 fl_X10_138 (md_0 hm) mdf_59 ?_
      refine mm_iconst dX10_run_74 ?_
      refine am_aload_n rfl dX10_run_75 ?_
      refine mm_getI dX10_run_76 fl_X10_403 (md_0 hm) mdf_54 ?_
      simp (disch := omega) only [up2_rd]
      refine mm_ias dX10_run_79 (md_ended hm) (by omega) ?_
      refine am_aload_n rfl dX10_run_80 ?_
      refine mm_getR dX10_run_81 fl_X10_138 (md_0 hm) mdf_59 ?_
      refine mm_iconst dX10_run_84 ?_
      refine am_aload_n rfl dX10_run_85 ?_
      refine mm_getI dX10_run_86 fl_X10_355 (md_0 hm) mdf_55 ?_
      simp (disch := omega) only [up2_rd]
      refine mm_ias dX10_run_89 (md_ended hm) (by omega) ?_
      refine am_aload_n rfl dX10_run_90 ?_
      refine mm_iconst dX10_run_91 ?_
      refine mm_putZ dX10_run_92 fp_X10_417 (md_0 hm) mdf_60 (by omega) ?_
      refine am_aload_n rfl dX10_run_95 ?_
      refine mm_getI dX10_run_96 fl_X10_343 (md_0 hm) mdf_56 ?_
      simp (disch := omega) only [up2_rc, up2_rd]
      refine am_ireturn dX10_run_99 rfl rfl ?_
      refine ⟨en.1, by rw [k0], _, _, rfl, Or.inr (Or.inr ⟨h7, hwh, en, by rw [← bw_rE hbw]; exact hrun, rfl, ⟨fun b y1 y2 => ?_, fun j y1 y2 => ?_, ?_, ?_, ?_, ?_, ?_, ?_, ?_⟩, fun b hb => upL_row hb⟩)⟩
      · rw [up2_row y2, up2_row (by omega), up2_row (by omega), up2_row (by omega), up2_row (by omega), up2_row (by omega), up2_row (by omega), hmf.1 b (by omega) y2]
        exact hwk.1 b (by omega) (by omega) (by omega) (by omega) (by omega) y2
      · rw [up2_rc (by omega), up2_rd (by omega), up2_rd (by omega), up2_rd (by omega), up2_rd (by omega), up2_rd (by omega), up2_rd (by omega), hmf.2 j (by omega)]
        exact hwk.2 j y2
      · rw [up2_same]
      · simp (disch := omega) only [show (1 : Int).toNat = 1 from rfl, show (2 : Int).toNat = 2 from rfl, show (3 : Int).toNat = 3 from rfl, show (4 : Int).toNat = 4 from rfl, show (5 : Int).toNat = 5 from rfl, Int.toNat_zero, up2_rd, up2_rc, up2_same]
        exact k0
      · simp (disch := omega) only [show (1 : Int).toNat = 1 from rfl, show (2 : Int).toNat = 2 from rfl, show (3 : Int).toNat = 3 from rfl, show (4 : Int).toNat = 4 from rfl, show (5 : Int).toNat = 5 from rfl, Int.toNat_zero, up2_rd, up2_rc, up2_same]
        exact k1
      · simp (disch := omega) only [show (1 : Int).toNat = 1 from rfl, show (2 : Int).toNat = 2 from rfl, show (3 : Int).toNat = 3 from rfl, show (4 : Int).toNat = 4 from rfl, show (5 : Int).toNat = 5 from rfl, Int.toNat_zero, up2_rd, up2_rc, up2_same]
        exact k2
      · simp (disch := omega) only [show (1 : Int).toNat = 1 from rfl, show (2 : Int).toNat = 2 from rfl, show (3 : Int).toNat = 3 from rfl, show (4 : Int).toNat = 4 from rfl, show (5 : Int).toNat = 5 from rfl, Int.toNat_zero, up2_rd, up2_rc, up2_same]
        exact k3
      · simp (disch := omega) only [show (1 : Int).toNat = 1 from rfl, show (2 : Int).toNat = 2 from rfl, show (3 : Int).toNat = 3 from rfl, show (4 : Int).toNat = 4 from rfl, show (5 : Int).toNat = 5 from rfl, Int.toNat_zero, up2_rd, up2_rc, up2_same]
        exact k4
      · simp (disch := omega) only [show (1 : Int).toNat = 1 from rfl, show (2 : Int).toNat = 2 from rfl, show (3 : Int).toNat = 3 from rfl, show (4 : Int).toNat = 4 from rfl, show (5 : Int).toNat = 5 from rfl, Int.toNat_zero, up2_rd, up2_rc, up2_same]
        exact k5
    · refine mm_bipush dX10_run_20 (by decide) ?_
      refine am_ireturn dX10_run_22 rfl rfl ?_
      exact ⟨-3, rfl, S1, L, rfl, Or.inr (Or.inl ⟨h7, tells_f hte (by omega), rfl, hwk, rfl⟩)⟩
  · refine mm_bipush dX10_run_10 (by decide) ?_
    refine am_ireturn dX10_run_12 rfl rfl ?_
    exact ⟨-2, rfl, S, L, rfl, Or.inl ⟨h7, rfl, rfl, rfl⟩⟩
set_option maxRecDepth 100000 in
set_option maxHeartbeats 4000000 in
theorem m_ended {sh : List mm_H} {S : mm_S} {L : mm_L} (hm : mdS sh) (h01 : S 181 60 = 0 ∨ S 181 60 = 1) {w : Int} (hw : Rg w) : am_E eX10_ended [.ref 181, .int (iI w)] (mm sh S L) (fun r M' => r = some (.int (iI (if 0 ≤ w ∧ w ≤ 5 then (if S 181 60 = 1 then S 222 w.toNat else -1) else -2))) ∧ M' = mm sh S L) := by
  refine am_enter rfl rfl (Nat.le_of_ble_eq_true rfl) ?_
  refine am_iload_n rfl dX10_ended_0 ?_
  refine mm_iconst dX10_ended_1 ?_
  refine mm_iconst dX10_ended_2 ?_
  refine am_ci (mm_S3 dX10_ended_3 in_X10_in mk_X10_144 st_X10_in ⟨Nat.le_of_ble_eq_true rfl, Nat.le_of_ble_eq_true rfl⟩ (Nat.le_of_ble_eq_true rfl)) (m_in hw (by omega) (by omega)) ?_
  refine mm_bne (tgt := 14) dX10_ended_6 (by decide) (fun h6 => ?_) (fun h6 => ?_)
  · refine am_aload_n rfl dX10_ended_14 ?_
    refine mm_getI dX10_ended_15 fl_X10_417 (md_0 hm) mdf_60 ?_
    refine mm_zeq (tgt := 30) dX10_ended_18 (by decide) (by omega) (fun h18 => ?_) (fun h18 => ?_)
    · refine mm_iconst dX10_ended_30 ?_
      refine am_ireturn dX10_ended_31 rfl rfl ?_
      first
        | exact ⟨by rw [if_neg h6], rfl⟩
        | exact ⟨by rw [if_pos h6, if_pos (by omega)], rfl⟩
        | exact ⟨by rw [if_pos h6, if_neg (by omega)], rfl⟩
    · refine am_aload_n rfl dX10_ended_21 ?_
      refine mm_getR dX10_ended_22 fl_X10_138 (md_0 hm) mdf_59 ?_
      refine am_iload_n rfl dX10_ended_25 ?_
      refine mm_ial dX10_ended_26 (md_ended hm) (by omega) ?_
      refine am_goto (tgt := 31) dX10_ended_27 (by decide) ?_
      refine am_ireturn dX10_ended_31 rfl rfl ?_
      first
        | exact ⟨by rw [if_neg h6], rfl⟩
        | exact ⟨by rw [if_pos h6, if_pos (by omega)], rfl⟩
        | exact ⟨by rw [if_pos h6, if_neg (by omega)], rfl⟩
  · refine mm_bipush dX10_ended_9 (by decide) ?_
    refine am_goto (tgt := 31) dX10_ended_11 (by decide) ?_
    refine am_ireturn dX10_ended_31 rfl rfl ?_
    first
      | exact ⟨by rw [if_neg h6], rfl⟩
      | exact ⟨by rw [if_pos h6, if_pos (by omega)], rfl⟩
      | exact ⟨by rw [if_pos h6, if_neg (by omega)], rfl⟩
def brM (S : mm_S) (n v : Int) : Prop := (v = 0 ∧ ∀ l b : Nat, (l : Int) ≤ n → b < 2 ^ l → ¬ wrE S l b) ∨ ∃ l b : Nat, (l : Int) ≤ n ∧ b < 2 ^ l ∧ wrE S l b ∧ v = ((2 ^ l : Nat) : Int) + (b : Int) ∧ ∀ l' b' : Nat, b' < 2 ^ l' → (l' < l ∨ (l' = l ∧ b' < b)) → ¬ wrE S l' b'
set_option maxRecDepth 100000 in
set_option maxHeartbeats 4000000 in
theorem l_mbk {sh : List mm_H} (hm : mdS sh) {S1 : mm_S} {L : mm_L} (hbW : mbW S1) {n : Int} (hn : 0 ≤ n ∧ n ≤ 8) : ∀ (q : Nat) (l b : Nat) (S' : mm_S) (L' : mm_L) (l4 : Option Value), (9 - l) * 1000 + (2 ^ l - b) < q → ((l : Int) ≤ n) → (b ≤ 2 ^ l) → (mfR S1 S') → (∀ b, b ≠ 181 → L' b = L b) → (∀ l' b' : Nat, b' < 2 ^ l' → (l' < l ∨ (l' = l ∧ b' < b)) → ¬ wrE S1 l' b') → am_AW eX10_breaks (mm sh S' L') 32 [some (.ref 181), some (.int (iI n)), some (.int (iI (l : Int))), some (.int (iI (b : Int))), l4] [] (fun r0 M' => ∃ v, r0 = some (.int (iI v)) ∧ ∃ S' L', M' = mm sh S' L' ∧ brM S1 n v ∧ mfR S1 S' ∧ ∀ b, b ≠ 181 → L' b = L b) := by
  intro q
  induction q with
  | zero =>
    intro l b S' L' l4 hq
    exact absurd hq (Nat.not_lt_zero _)
  | succ q ih =>
    intro l b S' L' l4 hq hl hbR hmf hL hE
    obtain ⟨hKi, hK1, hK2⟩ := p2_b (show l ≤ 9 by omega)
    have hKs : 2 ^ (l + 1) = 2 * 2 ^ l := by rw [Nat.pow_succ]; omega
    obtain ⟨-, -, hK3⟩ := p2_b (show l + 1 ≤ 9 by omega)
    refine am_iload_n rfl dX10_breaks_32 ?_
    refine mm_iconst dX10_breaks_33 ?_
    refine am_iload_n rfl dX10_breaks_34 ?_
    refine mm_ishl dX10_breaks_35 ⟨by omega, by rw [Int.toNat_natCast, hKi]; omega⟩ (by omega) ?_
    rw [Int.toNat_natCast, hKi, Int.one_mul]
    refine mm_jge (tgt := 70) dX10_breaks_36 (by decide) (by omega) (by omega) (fun h36 => ?_) (fun h36 => ?_)
    · refine mm_inc2 dX10_breaks_70 (Nat.le_of_ble_eq_true rfl) (am_c1i _) ?_
      refine am_goto (tgt := 25) dX10_breaks_73 (by decide) ?_
      refine am_iload_n rfl dX10_breaks_25 ?_
      refine am_iload_n rfl dX10_breaks_26 ?_
      refine mm_jgt (tgt := 76) dX10_breaks_27 (by decide) (by omega) (by omega) (fun h27 => ?_) (fun h27 => ?_)
      · refine mm_iconst dX10_breaks_76 ?_
        refine am_ireturn dX10_breaks_77 rfl rfl ?_
        refine ⟨0, rfl, S', L', rfl, Or.inl ⟨rfl, fun l' b' y1 y2 => hE l' b' y2 ?_⟩, hmf, hL⟩
        by_cases z : l' = l
        · subst z; right; exact ⟨rfl, by omega⟩
        · left; omega
      · refine mm_iconst dX10_breaks_30 ?_
        refine am_ist3 dX10_breaks_31 (Nat.le_of_ble_eq_true rfl) (am_c1i _) ?_
        first
          | (have hnw : ¬ wrE S1 l b := fun ⟨e', q1, q2, q3⟩ => by
               have := abr_u hrun q1
               subst this
               exact h55 ⟨q2, q3⟩
             refine ih l (b + 1) S2 _ _ (by omega) hl (by omega) hme.1 hL2 (fun l' b' y1 y2 => ?_)
             by_cases z : l' = l ∧ b' = b
             · rw [z.1, z.2]; exact hnw
             · exact hE l' b' y1 (by omega))
          | (refine ih (l + 1) 0 S' L' _ (by omega) (by omega) (by omega) hmf hL (fun l' b' y1 y2 => hE l' b' y1 ?_)
             by_cases z2 : l' = l
             · subst z2; right; exact ⟨rfl, by omega⟩
             · left; omega)
    · refine am_aload_n rfl dX10_breaks_39 ?_
      refine am_iload_n rfl dX10_breaks_40 ?_
      refine mm_i2l dX10_breaks_41 (by omega) ?_
      refine am_iload_n rfl dX10_breaks_42 ?_
      refine am_cxI (mm_V2 dX10_breaks_43 in_X10_runs mk_X10_413 im_X10_runs sl_X10_runs ⟨Nat.le_of_ble_eq_true rfl, Nat.le_of_ble_eq_true rfl⟩ rfl (md_0 hm) (Nat.le_of_ble_eq_true rfl)) ((m_runs (S0 := S1) (n := (l : Int)) (x := (lI (b : Int))) hm hbW (by omega) (S := S') hmf (L := L')).mono (Q' := fun r0 M' => ∃ v : Int, r0 = some (.int (iI v)) ∧ ∃ e : aEn, v = e.1 ∧ ∃ S', M' = mm sh S' (upL L' 181 51 (lI (b : Int))) ∧ runE S1 (lI (b : Int)) (l : Int) e ∧ meS S1 S' e) (fun r0 M' z => by obtain ⟨e, z1, S', z2, z3, z4⟩ := z; exact ⟨e.1, z1, e, rfl, S', z2, z3, z4⟩)) (fun v M1 hq2 => ?_)
      obtain ⟨en, rfl, S2, rfl, hrun, hme⟩ := hq2
      have hv8 := en_R hrun
      have hv0 := en_0 hrun
      have hL2 : ∀ b', b' ≠ 181 → (upL L' 181 51 (lI (b : Int))) b' = L b' := fun b' hb' => by rw [upL_row hb']; exact hL b' hb'
      refine am_ist4 dX10_breaks_46 (Nat.le_of_ble_eq_true rfl) (am_c1i _) ?_
      refine am_iload rfl dX10_breaks_48 ?_
      refine mm_iconst dX10_breaks_50 ?_
      refine mm_iconst dX10_breaks_51 ?_
      refine am_ci (mm_S3 dX10_breaks_52 in_X10_in mk_X10_144 st_X10_in ⟨Nat.le_of_ble_eq_true rfl, Nat.le_of_ble_eq_true rfl⟩ (Nat.le_of_ble_eq_true rfl)) (m_in (by omega) (by omega) (by omega)) ?_
      refine mm_beq (tgt := 64) dX10_breaks_55 (by decide) (fun h55 => ?_) (fun h55 => ?_)
      · refine mm_inc3 dX10_breaks_64 (Nat.le_of_ble_eq_true rfl) (am_c1i _) ?_
        refine am_goto (tgt := 32) dX10_breaks_67 (by decide) ?_
        first
          | (have hnw : ¬ wrE S1 l b := fun ⟨e', q1, q2, q3⟩ => by
               have := abr_u hrun q1
               subst this
               exact h55 ⟨q2, q3⟩
             refine ih l (b + 1) S2 _ _ (by omega) hl (by omega) hme.1 hL2 (fun l' b' y1 y2 => ?_)
             by_cases z : l' = l ∧ b' = b
             · rw [z.1, z.2]; exact hnw
             · exact hE l' b' y1 (by omega))
          | (refine ih (l + 1) 0 S' L' _ (by omega) (by omega) (by omega) hmf hL (fun l' b' y1 y2 => hE l' b' y1 ?_)
             by_cases z2 : l' = l
             · subst z2; right; exact ⟨rfl, by omega⟩
             · left; omega)
      · refine mm_iconst dX10_breaks_58 ?_
        refine am_iload_n rfl dX10_breaks_59 ?_
        refine mm_ishl dX10_breaks_60 ⟨by omega, by rw [Int.toNat_natCast, hKi]; omega⟩ (by omega) ?_
        rw [Int.toNat_natCast, hKi, Int.one_mul]
        refine am_iload_n rfl dX10_breaks_61 ?_
        refine mm_iadd dX10_breaks_62 ?_
        refine am_ireturn dX10_breaks_63 rfl rfl ?_
        exact ⟨_, rfl, S2, _, rfl, Or.inr ⟨l, b, hl, by omega, ⟨en, hrun, h55.1, h55.2⟩, rfl, hE⟩, hme.1, hL2⟩
set_option maxRecDepth 100000 in
set_option maxHeartbeats 4000000 in
theorem m_breaks {sh : List mm_H} {S : mm_S} {L : mm_L} (hm : mdS sh) (hv : mdV S) (hp : mdP S) (hq : mdQ S) (hA : mkA S) (hO : mdO S) {n : Int} (hn : Rg n) : am_E eX10_breaks [.ref 181, .int (iI n)] (mm sh S L) (fun r0 M' => ∃ v, r0 = some (.int (iI v)) ∧ ∃ S' L', M' = mm sh S' L' ∧ ((¬ (0 ≤ n ∧ n ≤ 8) ∧ v = -2 ∧ S' = S ∧ L' = L) ∨ ((0 ≤ n ∧ n ≤ 8) ∧ ¬ mWhole S ∧ v = -3 ∧ wkA S S' ∧ L' = L) ∨ ((0 ≤ n ∧ n ≤ 8) ∧ mWhole S ∧ ∃ B, wkA S B ∧ brM B n v ∧ mfR B S' ∧ ∀ b, b ≠ 181 → L' b = L b))) := by
  refine am_enter rfl rfl (Nat.le_of_ble_eq_true rfl) ?_
  refine am_iload_n rfl dX10_breaks_0 ?_
  refine mm_iconst dX10_breaks_1 ?_
  refine mm_bipush dX10_breaks_2 (by decide) ?_
  refine am_ci (mm_S3 dX10_breaks_4 in_X10_in mk_X10_144 st_X10_in ⟨Nat.le_of_ble_eq_true rfl, Nat.le_of_ble_eq_true rfl⟩ (Nat.le_of_ble_eq_true rfl)) (m_in hn (by omega) (by omega)) ?_
  refine mm_bne (tgt := 13) dX10_breaks_7 (by decide) (fun h7 => ?_) (fun h7 => ?_)
  · refine am_aload_n rfl dX10_breaks_13 ?_
    refine am_cxi (mm_V0 dX10_breaks_14 in_X10_isWhole mk_X10_318 im_X10_isWhole sl_X10_isWhole ⟨Nat.le_of_ble_eq_true rfl, Nat.le_of_ble_eq_true rfl⟩ rfl (md_0 hm) (Nat.le_of_ble_eq_true rfl)) (m_isWhole hm hv hp hq) (fun aw M1 hq1 => ?_)
    obtain ⟨av, S1, rfl, hte, rfl, hwk, hwr⟩ := hq1
    have hav := tells_01 hte
    refine mm_zne (tgt := 23) dX10_breaks_17 (by decide) (by omega) (fun h17 => ?_) (fun h17 => ?_)
    · have hwh := tells_t hte (by omega)
      have hbW := mbW_wk hwk hv hp hq hA hO hwh hwr
      refine mm_iconst dX10_breaks_23 ?_
      refine am_ist2 dX10_breaks_24 (Nat.le_of_ble_eq_true rfl) (am_c1i _) ?_
      refine am_iload_n rfl dX10_breaks_25 ?_
      refine am_iload_n rfl dX10_breaks_26 ?_
      refine mm_jgt (tgt := 76) dX10_breaks_27 (by decide) (by omega) (by omega) (fun h27 => ?_) (fun h27 => ?_)
      · exfalso; omega
      · refine mm_iconst dX10_breaks_30 ?_
        refine am_ist3 dX10_breaks_31 (Nat.le_of_ble_eq_true rfl) (am_c1i _) ?_
        have h9 := l_mbk (L := L) hm hbW (n := n) h7 10000 0 0 S1 L none (by omega) (by omega) (by omega) (mf_rf S1) (fun _ _ => rfl) (fun l' b' _ y => by exfalso; omega)
        refine am_AW.mono h9 (fun r0 M' z => ?_)
        obtain ⟨v, z1, S', L', z2, z3, z4, z5⟩ := z
        exact ⟨v, z1, S', L', z2, Or.inr (Or.inr ⟨h7, hwh, S1, hwk, z3, z4, z5⟩)⟩
    · refine mm_bipush dX10_breaks_20 (by decide) ?_
      refine am_ireturn dX10_breaks_22 rfl rfl ?_
      exact ⟨-3, rfl, S1, L, rfl, Or.inr (Or.inl ⟨h7, tells_f hte (by omega), rfl, hwk, rfl⟩)⟩
  · refine mm_bipush dX10_breaks_10 (by decide) ?_
    refine am_ireturn dX10_breaks_12 rfl rfl ?_
    exact ⟨-2, rfl, S, L, rfl, Or.inl ⟨h7, rfl, rfl, rfl⟩⟩
/-- both find the same -/
theorem wrE_lo {S : mm_S} {l b : Nat} (hl : l < 60) (hb : b < 2 ^ l) : wrE S (l + 1) b ↔ wrE S l b := by
  have e : ansA (lI (b : Int)) ((l + 1 : Nat) : Int) = ansA (lI (b : Int)) (l : Int) := by
    funext i
    apply propext
    unfold ansA
    have hbit : ∀ j : Nat, l ≤ j → ¬ bitA (lI (b : Int)) j := fun j hj q => by
      unfold bitA at q
      have e1 : (lI (b : Int)).toBitVec.toNat = b := by
        have hp : b < 2 ^ 64 := by
          have := Nat.pow_le_pow_right (n := 2) (by decide) (show l ≤ 64 by omega)
          omega
        rw [lI_bv (Int.natCast_nonneg _), Int.toNat_natCast, BitVec.toNat_ofNat, Nat.mod_eq_of_lt hp]
      have h2 : b < 2 ^ j := by
        have := Nat.pow_le_pow_right (n := 2) (by decide) hj
        omega
      rw [e1, Nat.div_eq_of_lt h2] at q
      omega
    constructor
    · rintro ⟨q1, q2⟩
      refine ⟨?_, q2⟩
      rcases Int.lt_or_le i l with z | z
      · exact z
      · exact absurd q2 (hbit i.toNat (by omega))
    · rintro ⟨q1, q2⟩
      exact ⟨by omega, q2⟩
  unfold wrE runE
  rw [e]
theorem brk_eq {S : mm_S} {n v w : Int} (hn : n ≤ 8) (hc : brC S n v) (hm : brM S n w) : v = w := by
  -- what the class leaves out was tried before
  have red : ∀ (l b : Nat), (l : Int) ≤ n → b < 2 ^ l → wrE S l b → ∃ l' b' : Nat, l' ≤ l ∧ b' = b ∧ rsB l' b' ∧ wrE S l' b' := by
    intro l
    induction l with
    | zero => intro b _ hb hw; exact ⟨0, b, Nat.le_refl _, rfl, ⟨by simp, hb⟩, hw⟩
    | succ l ih =>
      intro b hl hb hw
      have hK : 2 ^ (l + 1) = 2 * 2 ^ l := by rw [Nat.pow_succ]; omega
      by_cases z : b < 2 ^ l
      · obtain ⟨l', b', y1, y2, y3, y4⟩ := ih b (by omega) z ((wrE_lo (by omega) z).mp hw)
        exact ⟨l', b', by omega, y2, y3, y4⟩
      · exact ⟨l + 1, b, Nat.le_refl _, rfl, ⟨by omega, hb⟩, hw⟩
  rcases hc with ⟨c1, c2⟩ | ⟨l, b, c1, c2, c3, c4, c5⟩ <;> rcases hm with ⟨m1, m2⟩ | ⟨l', b', m1, m2, m3, m4, m5⟩
  · omega
  · obtain ⟨l2, b2, y1, y2, y3, y4⟩ := red l' b' m1 m2 m3
    exact absurd y4 (c2 l2 b2 (by omega) y3)
  · exact absurd c3 (m2 l b c1 c2.2)
  · obtain ⟨l2, b2, y1, y2, y3, y4⟩ := red l' b' m1 m2 m3
    have hA : ¬ (l2 < l ∨ (l2 = l ∧ b2 < b)) := fun q => c5 l2 b2 y3 q y4
    have hB : ¬ (l < l' ∨ (l = l' ∧ b < b')) := fun q => m5 l b c2.2 q c3
    have hC : ¬ (l2 < l' ∨ (l2 = l' ∧ b2 < b')) := fun q => m5 l2 b2 y3.2 q y4
    have el : l' = l := by omega
    subst el
    have eb : b' = b := by omega
    subst eb
    omega
