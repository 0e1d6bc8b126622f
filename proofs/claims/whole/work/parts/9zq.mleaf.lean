/-! ===== the reference's runs: leaves ===== -/
set_option maxRecDepth 100000 in
set_option maxHeartbeats 4000000 in
theorem m_answer {sh : List mm_H} {S : mm_S} {L : mm_L} (hm : mdS sh) {i : Nat} (hi : S 181 53 = (i : Int)) (hi5 : i < 100000) {n : Int} (hn : S 181 52 = n) (hn6 : 0 ≤ n ∧ n ≤ 60) : am_E eX10_answer [.ref 181] (mm sh S L) (fun r0 M' => ∃ v, r0 = some (.int (iI v)) ∧ tells v (ansA (L 181 51) n (i : Int)) ∧ M' = mm sh (up2 S 181 53 ((i : Int) + 1)) L) := by
  refine am_enter rfl rfl (Nat.le_of_ble_eq_true rfl) ?_
  refine am_aload_n rfl dX10_answer_0 ?_
  refine mm_getI dX10_answer_1 fl_X10_333 (md_0 hm) mdf_53 ?_
  rw [hi]
  refine am_aload_n rfl dX10_answer_4 ?_
  refine mm_getI dX10_answer_5 fl_X10_336 (md_0 hm) mdf_52 ?_
  rw [hn]
  refine mm_jge (tgt := 31) dX10_answer_8 (by decide) (by omega) (by omega) (fun h8 => ?_) (fun h8 => ?_)
  · refine mm_iconst dX10_answer_31 ?_
    refine am_ist1 dX10_answer_32 (Nat.le_of_ble_eq_true rfl) (am_c1r _) ?_
    refine am_aload_n rfl dX10_answer_33 ?_
    refine am_dup rfl dX10_answer_34 ?_
    refine mm_getI dX10_answer_35 fl_X10_333 (md_0 hm) mdf_53 ?_
    rw [hi]
    refine mm_iconst dX10_answer_38 ?_
    refine mm_iadd dX10_answer_39 ?_
    refine mm_putI dX10_answer_40 fp_X10_333 (md_0 hm) mdf_53 ?_
    refine am_iload_n rfl dX10_answer_43 ?_
    refine am_ireturn dX10_answer_44 rfl (by decide) ?_
    first
      | exact ⟨1, rfl, Or.inl ⟨rfl, by omega, by
          have h1 := bA_1.mpr (hz0.mp h24)
          unfold bitA
          rw [Int.toNat_natCast]
          omega⟩, rfl⟩
      | exact ⟨0, rfl, Or.inr ⟨rfl, fun q => by
          have q1 := q.2
          unfold bitA at q1
          rw [Int.toNat_natCast] at q1
          exact h24 (hz0.mpr (bA_1.mp (by omega)))⟩, rfl⟩
      | exact ⟨0, rfl, Or.inr ⟨rfl, fun q => by have := q.1; omega⟩, rfl⟩
  · refine am_aload_n rfl dX10_answer_11 ?_
    refine mm_getL dX10_answer_12 fl_X10_339 (md_0 hm) mdf_51 ?_
    refine am_aload_n rfl dX10_answer_15 ?_
    refine mm_getI dX10_answer_16 fl_X10_333 (md_0 hm) mdf_53 ?_
    rw [hi]
    refine am_lshr dX10_answer_19 ?_
    refine am_lconst (v := lI 1) (by decide) dX10_answer_20 ?_
    refine am_land dX10_answer_21 ?_
    refine am_lconst (v := lI 1) (by decide) dX10_answer_22 ?_
    refine am_lcmp dX10_answer_23 ?_
    obtain ⟨z, hz, hzr, hz0⟩ := lcmp_z (((L 181 51) >>> ((iI (i : Int)).toInt64 &&& 63)) &&& lI 1) (lI 1)
    rw [hz]
    have hbu := bA_s (x := L 181 51) (i := i) (by omega)
    refine mm_zne (tgt := 31) dX10_answer_24 (by decide) (by omega) (fun h24 => ?_) (fun h24 => ?_)
    · refine mm_iconst dX10_answer_31 ?_
      refine am_ist1 dX10_answer_32 (Nat.le_of_ble_eq_true rfl) (am_c1r _) ?_
      refine am_aload_n rfl dX10_answer_33 ?_
      refine am_dup rfl dX10_answer_34 ?_
      refine mm_getI dX10_answer_35 fl_X10_333 (md_0 hm) mdf_53 ?_
      rw [hi]
      refine mm_iconst dX10_answer_38 ?_
      refine mm_iadd dX10_answer_39 ?_
      refine mm_putI dX10_answer_40 fp_X10_333 (md_0 hm) mdf_53 ?_
      refine am_iload_n rfl dX10_answer_43 ?_
      refine am_ireturn dX10_answer_44 rfl (by decide) ?_
      first
        | exact ⟨1, rfl, Or.inl ⟨rfl, by omega, by
            have h1 := bA_1.mpr (hz0.mp h24)
            unfold bitA
            rw [Int.toNat_natCast]
            omega⟩, rfl⟩
        | exact ⟨0, rfl, Or.inr ⟨rfl, fun q => by
            have q1 := q.2
            unfold bitA at q1
            rw [Int.toNat_natCast] at q1
            exact h24 (hz0.mpr (bA_1.mp (by omega)))⟩, rfl⟩
        | exact ⟨0, rfl, Or.inr ⟨rfl, fun q => by have := q.1; omega⟩, rfl⟩
    · refine mm_iconst dX10_answer_27 ?_
      refine am_goto (tgt := 32) dX10_answer_28 (by decide) ?_
      refine am_ist1 dX10_answer_32 (Nat.le_of_ble_eq_true rfl) (am_c1r _) ?_
      refine am_aload_n rfl dX10_answer_33 ?_
      refine am_dup rfl dX10_answer_34 ?_
      refine mm_getI dX10_answer_35 fl_X10_333 (md_0 hm) mdf_53 ?_
      rw [hi]
      refine mm_iconst dX10_answer_38 ?_
      refine mm_iadd dX10_answer_39 ?_
      refine mm_putI dX10_answer_40 fp_X10_333 (md_0 hm) mdf_53 ?_
      refine am_iload_n rfl dX10_answer_43 ?_
      refine am_ireturn dX10_answer_44 rfl (by decide) ?_
      first
        | exact ⟨1, rfl, Or.inl ⟨rfl, by omega, by
            have h1 := bA_1.mpr (hz0.mp h24)
            unfold bitA
            rw [Int.toNat_natCast]
            omega⟩, rfl⟩
        | exact ⟨0, rfl, Or.inr ⟨rfl, fun q => by
            have q1 := q.2
            unfold bitA at q1
            rw [Int.toNat_natCast] at q1
            exact h24 (hz0.mpr (bA_1.mp (by omega)))⟩, rfl⟩
        | exact ⟨0, rfl, Or.inr ⟨rfl, fun q => by have := q.1; omega⟩, rfl⟩
set_option maxRecDepth 100000 in
set_option maxHeartbeats 4000000 in
theorem m_stops {sh : List mm_H} {S : mm_S} {L : mm_L} (hm : mdS sh) {k : Nat} (hd : S 181 45 = (k : Int) + 1) (hk : k < 10) {w p : Int} : am_E eX10_stops [.ref 181, .int (iI w), .int (iI p)] (mm sh S L) (fun r0 M' => r0 = none ∧ M' = mm sh (up2 (up2 (up2 S 181 56 w) 181 57 (S 217 k)) 181 58 p) L) := by
  refine am_enter rfl rfl (Nat.le_of_ble_eq_true rfl) ?_
  refine am_aload_n rfl dX10_stops_0 ?_
  refine am_iload_n rfl dX10_stops_1 ?_
  refine mm_putI dX10_stops_2 fp_X10_343 (md_0 hm) mdf_56 ?_
  refine am_aload_n rfl dX10_stops_5 ?_
  refine am_aload_n rfl dX10_stops_6 ?_
  refine mm_getI dX10_stops_7 fl_X10_346 (md_0 hm) mdf_45 ?_
  rw [up2_rc (by omega), hd]
  refine mm_zne (tgt := 17) dX10_stops_10 (by decide) (by omega) (fun h10 => ?_) (fun h10 => ?_)
  · refine am_aload_n rfl dX10_stops_17 ?_
    refine mm_getR dX10_stops_18 fl_X10_123 (md_0 hm) mdf_46 ?_
    refine am_aload_n rfl dX10_stops_21 ?_
    refine mm_getI dX10_stops_22 fl_X10_346 (md_0 hm) mdf_45 ?_
    rw [up2_rc (by omega), hd]
    refine mm_iconst dX10_stops_25 ?_
    refine mm_isub dX10_stops_26 ?_
    rw [show (k : Int) + 1 - 1 = (k : Int) by omega]
    refine mm_ial dX10_stops_27 (md_atRoutine hm) (by omega) ?_
    rw [Int.toNat_natCast, up2_rd (by omega)]
    refine mm_putI dX10_stops_28 fp_X10_349 (md_0 hm) mdf_57 ?_
    refine am_aload_n rfl dX10_stops_31 ?_
    refine am_iload_n rfl dX10_stops_32 ?_
    refine mm_putI dX10_stops_33 fp_X10_352 (md_0 hm) mdf_58 ?_
    refine am_return dX10_stops_36 rfl ?_
    exact ⟨rfl, rfl⟩
  · exfalso; omega
set_option maxRecDepth 100000 in
set_option maxHeartbeats 4000000 in
theorem m_named {sh : List mm_H} {S : mm_S} {L : mm_L} (hm : mdS sh) {k v : Nat} (hk : k < 10) (hv : v < 5) : am_E eX10_named [.ref 181, .int (iI (k : Int)), .int (iI (v : Int))] (mm sh S L) (fun r0 M' => r0 = some (.int (iI (S 220 (5 * k + v)))) ∧ M' = mm sh S L) := by
  refine am_enter rfl rfl (Nat.le_of_ble_eq_true rfl) ?_
  refine am_aload_n rfl dX10_named_0 ?_
  refine mm_getR dX10_named_1 fl_X10_132 (md_0 hm) mdf_49 ?_
  refine mm_iconst dX10_named_4 ?_
  refine am_iload_n rfl dX10_named_5 ?_
  refine mm_imul dX10_named_6 ?_
  refine am_iload_n rfl dX10_named_7 ?_
  refine mm_iadd dX10_named_8 ?_
  rw [show (5 : Int) * (k : Int) + (v : Int) = ((5 * k + v : Nat) : Int) by omega]
  refine mm_ial dX10_named_9 (md_names hm) (by omega) ?_
  rw [Int.toNat_natCast]
  refine am_ireturn dX10_named_10 rfl rfl ?_
  exact ⟨rfl, rfl⟩
set_option maxRecDepth 100000 in
set_option maxHeartbeats 4000000 in
theorem m_isLeftOf {sh : List mm_H} {S : mm_S} {L : mm_L} (hm : mdS sh) (hv : mdV S) {t k : Nat} (ht : t < 500) (h16 : Rg (S 216 t)) (hk : k < 10) (h14 : 0 ≤ S 214 t ∧ S 214 t < 6) (h15 : 0 ≤ S 215 t ∧ S 215 t < 6) : am_E eX10_isLeftOf [.ref 181, .int (iI (t : Int)), .int (iI (k : Int))] (mm sh S L) (fun r0 M' => r0 = some (.int (iI (b2 (S 216 t = (k : Int) ∧ ¬ mE S (S 214 t) (S 215 t))))) ∧ M' = mm sh S L) := by
  refine am_enter rfl rfl (Nat.le_of_ble_eq_true rfl) ?_
  refine am_aload_n rfl dX10_isLeftOf_0 ?_
  refine mm_getR dX10_isLeftOf_1 fl_X10_120 (md_0 hm) mdf_44 ?_
  refine am_iload_n rfl dX10_isLeftOf_4 ?_
  refine mm_ial dX10_isLeftOf_5 (md_thingOf hm) (by omega) ?_
  rw [Int.toNat_natCast]
  refine am_iload_n rfl dX10_isLeftOf_6 ?_
  refine mm_jne (tgt := 33) dX10_isLeftOf_7 (by decide) (by omega) (by omega) (fun h7 => ?_) (fun h7 => ?_)
  · refine mm_iconst dX10_isLeftOf_33 ?_
    refine am_ireturn dX10_isLeftOf_34 rfl (by decide) ?_
    first
      | exact ⟨mm_rt ⟨h7, h26⟩, rfl⟩
      | exact ⟨mm_rf (fun z => z.2 h26), rfl⟩
      | exact ⟨mm_rf (fun z => h7 z.1), rfl⟩
  · refine am_aload_n rfl dX10_isLeftOf_10 ?_
    refine am_aload_n rfl dX10_isLeftOf_11 ?_
    refine mm_getR dX10_isLeftOf_12 fl_X10_114 (md_0 hm) mdf_42 ?_
    refine am_iload_n rfl dX10_isLeftOf_15 ?_
    refine mm_ial dX10_isLeftOf_16 (md_thingKind hm) (by omega) ?_
    rw [Int.toNat_natCast]
    refine am_aload_n rfl dX10_isLeftOf_17 ?_
    refine mm_getR dX10_isLeftOf_18 fl_X10_117 (md_0 hm) mdf_43 ?_
    refine am_iload_n rfl dX10_isLeftOf_21 ?_
    refine mm_ial dX10_isLeftOf_22 (md_thingState hm) (by omega) ?_
    rw [Int.toNat_natCast]
    refine am_ci (mm_V2 dX10_isLeftOf_23 in_X10_isEnd mk_X10_170 im_X10_isEnd sl_X10_isEnd ⟨Nat.le_of_ble_eq_true rfl, Nat.le_of_ble_eq_true rfl⟩ rfl (md_0 hm) (Nat.le_of_ble_eq_true rfl)) (m_isEnd hm hv h14 (by omega)) ?_
    refine mm_bne (tgt := 33) dX10_isLeftOf_26 (by decide) (fun h26 => ?_) (fun h26 => ?_)
    · refine mm_iconst dX10_isLeftOf_33 ?_
      refine am_ireturn dX10_isLeftOf_34 rfl (by decide) ?_
      first
        | exact ⟨mm_rt ⟨h7, h26⟩, rfl⟩
        | exact ⟨mm_rf (fun z => z.2 h26), rfl⟩
        | exact ⟨mm_rf (fun z => h7 z.1), rfl⟩
    · refine mm_iconst dX10_isLeftOf_29 ?_
      refine am_goto (tgt := 34) dX10_isLeftOf_30 (by decide) ?_
      refine am_ireturn dX10_isLeftOf_34 rfl (by decide) ?_
      first
        | exact ⟨mm_rt ⟨h7, h26⟩, rfl⟩
        | exact ⟨mm_rf (fun z => z.2 h26), rfl⟩
        | exact ⟨mm_rf (fun z => h7 z.1), rfl⟩
/-- whether a frame may use a THING -/
abbrev agT (S : mm_S) (k : Nat) (t : Int) : Int := if t = -1 then 1 else if t ≠ S 219 k ∧ S 216 t.toNat ≠ (k : Int) then 2 else 0
set_option maxRecDepth 100000 in
set_option maxHeartbeats 4000000 in
theorem m_againstRun {sh : List mm_H} {S : mm_S} {L : mm_L} (hm : mdS sh) {t : Int} {k : Nat} (ht : -1 ≤ t ∧ t < 500) (hk : k < 10) (h9 : Rg (S 219 k)) (hT6 : t ≠ -1 → Rg (S 216 t.toNat)) : am_E eX10_againstRun [.ref 181, .int (iI (k : Int)), .int (iI t)] (mm sh S L) (fun r0 M' => r0 = some (.int (iI (agT S k t))) ∧ M' = mm sh S L) := by
  refine am_enter rfl rfl (Nat.le_of_ble_eq_true rfl) ?_
  refine am_iload_n rfl dX10_againstRun_0 ?_
  refine mm_iconst dX10_againstRun_1 ?_
  refine mm_jne (tgt := 9) dX10_againstRun_2 (by decide) (by omega) (by omega) (fun h2 => ?_) (fun h2 => ?_)
  · refine am_iload_n rfl dX10_againstRun_9 ?_
    refine am_aload_n rfl dX10_againstRun_10 ?_
    refine mm_getR dX10_againstRun_11 fl_X10_129 (md_0 hm) mdf_48 ?_
    refine am_iload_n rfl dX10_againstRun_14 ?_
    refine mm_ial dX10_againstRun_15 (md_atLent hm) (by omega) ?_
    rw [Int.toNat_natCast]
    refine mm_jeq (tgt := 33) dX10_againstRun_16 (by decide) (by omega) (by omega) (fun h16 => ?_) (fun h16 => ?_)
    · refine mm_iconst dX10_againstRun_33 ?_
      refine am_ireturn dX10_againstRun_34 rfl rfl ?_
      first
        | exact ⟨by unfold agT; rw [if_pos (by omega)], rfl⟩
        | exact ⟨by unfold agT; rw [if_neg (by omega), if_pos ⟨by omega, by omega⟩], rfl⟩
        | exact ⟨by unfold agT; rw [if_neg (by omega), if_neg (by omega)], rfl⟩
    · refine am_aload_n rfl dX10_againstRun_19 ?_
      refine mm_getR dX10_againstRun_20 fl_X10_120 (md_0 hm) mdf_44 ?_
      refine am_iload_n rfl dX10_againstRun_23 ?_
      refine mm_ial dX10_againstRun_24 (md_thingOf hm) (by omega) ?_
      refine am_iload_n rfl dX10_againstRun_25 ?_
      have hT6 := hT6 (by omega)
      refine mm_jeq (tgt := 33) dX10_againstRun_26 (by decide) (by omega) (by omega) (fun h26 => ?_) (fun h26 => ?_)
      · refine mm_iconst dX10_againstRun_33 ?_
        refine am_ireturn dX10_againstRun_34 rfl rfl ?_
        first
          | exact ⟨by unfold agT; rw [if_pos (by omega)], rfl⟩
          | exact ⟨by unfold agT; rw [if_neg (by omega), if_pos ⟨by omega, by omega⟩], rfl⟩
          | exact ⟨by unfold agT; rw [if_neg (by omega), if_neg (by omega)], rfl⟩
      · refine mm_iconst dX10_againstRun_29 ?_
        refine am_goto (tgt := 34) dX10_againstRun_30 (by decide) ?_
        refine am_ireturn dX10_againstRun_34 rfl rfl ?_
        first
          | exact ⟨by unfold agT; rw [if_pos (by omega)], rfl⟩
          | exact ⟨by unfold agT; rw [if_neg (by omega), if_pos ⟨by omega, by omega⟩], rfl⟩
          | exact ⟨by unfold agT; rw [if_neg (by omega), if_neg (by omega)], rfl⟩
  · refine mm_iconst dX10_againstRun_5 ?_
    refine am_goto (tgt := 34) dX10_againstRun_6 (by decide) ?_
    refine am_ireturn dX10_againstRun_34 rfl rfl ?_
    first
      | exact ⟨by unfold agT; rw [if_pos (by omega)], rfl⟩
      | exact ⟨by unfold agT; rw [if_neg (by omega), if_pos ⟨by omega, by omega⟩], rfl⟩
      | exact ⟨by unfold agT; rw [if_neg (by omega), if_neg (by omega)], rfl⟩
/-- what goes on, while it is filtered -/
def mvG (S S' : mm_S) (r : Nat) (to : Int) (fi k : Nat) : Prop := (∀ b, b ≠ 221 → S' b = S b) ∧ (∀ j, j < k → S' 221 (6 * fi + j) = kpV (mSo S r) (mAr S r) (mMi S r) (mEn S r) to j (S 221 (6 * fi + j)) (mN S r)) ∧ ∀ i, i < 6 * fi ∨ 6 * fi + k ≤ i → S' 221 i = S 221 i
set_option maxRecDepth 100000 in
set_option maxHeartbeats 4000000 in
theorem l_rtI {sh : List mm_H} {S : mm_S} {L : mm_L} (hm : mdS sh) {r : Nat} (hr : r < 6) (hn : S 189 r ≤ 24) (hw : mrW S r) (hn1 : 0 ≤ S 189 r) {fi : Nat} (hfi : fi < 10) {to : Int} (hto : 0 ≤ to ∧ to ≤ 24) (hP : ∀ k, k < 6 → 0 ≤ S 221 (6 * fi + k) ∧ S 221 (6 * fi + k) < 4) {S' : mm_S} {k : Nat} (hk : k < 6) (hF : ∀ b, b ≠ 221 → S' b = S b) {h : Int} (hh : h = S 221 (6 * fi + k)) {Q : Option Value → am_M → Prop} (kk : am_AW eX10_runsTo (mm sh (up2 S' 221 (6 * fi + k) (kpV (mSo S r) (mAr S r) (mMi S r) (mEn S r) to k h (mN S r))) L) 145 [some (.ref 181), some (.int (iI to)), some (.int (iI (fi : Int))), some (.int (iI (r : Int))), some (.int (iI (k : Int))), none, none, none] [] Q) : ∀ (q : Nat) (i : Nat), mN S r - i < q → (i ≤ mN S r) → am_AW eX10_runsTo (mm sh (up2 S' 221 (6 * fi + k) (kpV (mSo S r) (mAr S r) (mMi S r) (mEn S r) to k h i)) L) 54 [some (.ref 181), some (.int (iI to)), some (.int (iI (fi : Int))), some (.int (iI (r : Int))), some (.int (iI (k : Int))), some (.int (iI h)), some (.int (iI (i : Int))), none] [] Q := by
  intro q
  induction q with
  | zero =>
    intro i hq
    exact absurd hq (Nat.not_lt_zero _)
  | succ q ih =>
    intro i hq hi
    refine am_iload rfl dX10_runsTo_54 ?_
    refine am_aload_n rfl dX10_runsTo_56 ?_
    refine mm_getR dX10_runsTo_57 fl_X10_36 (md_0 hm) mdf_10 ?_
    refine am_iload_n rfl dX10_runsTo_60 ?_
    refine mm_ial dX10_runsTo_61 (md_many hm) (by omega) ?_
    rw [Int.toNat_natCast, up2_rd (by omega), hF 189 (by omega)]
    have e24 : ((mN S r : Nat) : Int) = S 189 r := Int.toNat_of_nonneg hn1
    have hh4 := hP k hk
    refine mm_jge (tgt := 145) dX10_runsTo_62 (by decide) (by omega) (by omega) (fun h62 => ?_) (fun h62 => ?_)
    · have h5 : i = mN S r := by omega
      subst h5
      exact am_AW.unset 5 (am_AW.unset 6 kk)
    · refine am_iload rfl dX10_runsTo_65 ?_
      refine mm_zle (tgt := 145) dX10_runsTo_67 (by decide) (by omega) (fun h67 => ?_) (fun h67 => ?_)
      · have h0 : h = 0 := by omega
        rw [h0, kpV_0] at kk ⊢
        exact am_AW.unset 5 (am_AW.unset 6 kk)
      · refine mm_bipush dX10_runsTo_70 (by decide) ?_
        refine am_iload_n rfl dX10_runsTo_72 ?_
        refine mm_imul dX10_runsTo_73 ?_
        refine am_iload rfl dX10_runsTo_74 ?_
        refine mm_iadd dX10_runsTo_76 ?_
        rw [show (25 * (r : Int) + (i : Int)) = ((25 * r + i : Nat) : Int) by omega]
        refine am_ist7 dX10_runsTo_77 (Nat.le_of_ble_eq_true rfl) (am_c1i _) ?_
        refine am_aload_n rfl dX10_runsTo_79 ?_
        refine mm_getR dX10_runsTo_80 fl_X10_39 (md_0 hm) mdf_11 ?_
        refine am_iload rfl dX10_runsTo_83 ?_
        refine mm_ial dX10_runsTo_85 (md_sortAt hm) (by omega) ?_
        rw [Int.toNat_natCast, up2_rd (by omega), hF 190 (by omega)]
        refine mm_bipush dX10_runsTo_86 (by decide) ?_
        have gs := (hw.1 i (by omega)).1
        have gs : 0 ≤ S 190 (25 * r + i) ∧ S 190 (25 * r + i) ≤ 15 := gs
        refine mm_jne (tgt := 139) dX10_runsTo_88 (by decide) (by omega) (by omega) (fun h88 => ?_) (fun h88 => ?_)
        · refine mm_inc6 dX10_runsTo_139 (Nat.le_of_ble_eq_true rfl) (am_c1i _) ?_
          refine am_goto (tgt := 54) dX10_runsTo_142 (by decide) ?_
          refine am_AW.unset 7 ?_
          have h9 := ih (i + 1) (by omega) (by omega)
          simp only [kpV] at h9
          first
            | (rw [if_pos ⟨h88, by omega, by omega, by omega⟩] at h9; exact h9)
            | (rw [if_neg (fun z => by have z1 : S 190 (25 * r + i) = 14 := z.1; have z2 : S 196 (25 * r + i) = k := z.2.1; have z3 : S 194 (25 * r + i) ≤ to := z.2.2.1; have z4 : to ≤ S 195 (25 * r + i) := z.2.2.2; omega)] at h9; exact h9)
        · refine am_aload_n rfl dX10_runsTo_91 ?_
          refine mm_getR dX10_runsTo_92 fl_X10_57 (md_0 hm) mdf_17 ?_
          refine am_iload rfl dX10_runsTo_95 ?_
          have gm : S 194 (25 * r + i) = midO (mSo S r) (mN S r) i ∧ S 195 (25 * r + i) = endO (mSo S r) (mN S r) i := wk_mid hw i (by omega) (Or.inr h88)
          have gm2 := midO_lt (mSo S r) (mN S r) i
          have gm3 := endO_lt (mSo S r) (mN S r) i
          have gm4 := arA_R hw.1 (show i < mN S r by omega)
          have gm5 : S 196 (25 * r + i) = arA (mSo S r) i := (wk_ar hw i (by omega)).2
          refine mm_ial dX10_runsTo_97 (md_around hm) (by omega) ?_
          rw [Int.toNat_natCast, up2_rd (by omega), hF 196 (by omega)]
          refine am_iload rfl dX10_runsTo_98 ?_
          refine mm_jne (tgt := 139) dX10_runsTo_100 (by decide) (by omega) (by omega) (fun h100 => ?_) (fun h100 => ?_)
          · refine mm_inc6 dX10_runsTo_139 (Nat.le_of_ble_eq_true rfl) (am_c1i _) ?_
            refine am_goto (tgt := 54) dX10_runsTo_142 (by decide) ?_
            refine am_AW.unset 7 ?_
            have h9 := ih (i + 1) (by omega) (by omega)
            simp only [kpV] at h9
            first
              | (rw [if_pos ⟨h88, by omega, by omega, by omega⟩] at h9; exact h9)
              | (rw [if_neg (fun z => by have z1 : S 190 (25 * r + i) = 14 := z.1; have z2 : S 196 (25 * r + i) = k := z.2.1; have z3 : S 194 (25 * r + i) ≤ to := z.2.2.1; have z4 : to ≤ S 195 (25 * r + i) := z.2.2.2; omega)] at h9; exact h9)
          · refine am_aload_n rfl dX10_runsTo_103 ?_
            refine mm_getR dX10_runsTo_104 fl_X10_51 (md_0 hm) mdf_15 ?_
            refine am_iload rfl dX10_runsTo_107 ?_
            refine mm_ial dX10_runsTo_109 (md_midAt hm) (by omega) ?_
            rw [Int.toNat_natCast, up2_rd (by omega), hF 194 (by omega)]
            refine am_iload_n rfl dX10_runsTo_110 ?_
            refine mm_jgt (tgt := 139) dX10_runsTo_111 (by decide) (by omega) (by omega) (fun h111 => ?_) (fun h111 => ?_)
            · refine mm_inc6 dX10_runsTo_139 (Nat.le_of_ble_eq_true rfl) (am_c1i _) ?_
              refine am_goto (tgt := 54) dX10_runsTo_142 (by decide) ?_
              refine am_AW.unset 7 ?_
              have h9 := ih (i + 1) (by omega) (by omega)
              simp only [kpV] at h9
              first
                | (rw [if_pos ⟨h88, by omega, by omega, by omega⟩] at h9; exact h9)
                | (rw [if_neg (fun z => by have z1 : S 190 (25 * r + i) = 14 := z.1; have z2 : S 196 (25 * r + i) = k := z.2.1; have z3 : S 194 (25 * r + i) ≤ to := z.2.2.1; have z4 : to ≤ S 195 (25 * r + i) := z.2.2.2; omega)] at h9; exact h9)
            · refine am_iload_n rfl dX10_runsTo_114 ?_
              refine am_aload_n rfl dX10_runsTo_115 ?_
              refine mm_getR dX10_runsTo_116 fl_X10_54 (md_0 hm) mdf_16 ?_
              refine am_iload rfl dX10_runsTo_119 ?_
              refine mm_ial dX10_runsTo_121 (md_endAt hm) (by omega) ?_
              rw [Int.toNat_natCast, up2_rd (by omega), hF 195 (by omega)]
              refine mm_jgt (tgt := 139) dX10_runsTo_122 (by decide) (by omega) (by omega) (fun h122 => ?_) (fun h122 => ?_)
              · refine mm_inc6 dX10_runsTo_139 (Nat.le_of_ble_eq_true rfl) (am_c1i _) ?_
                refine am_goto (tgt := 54) dX10_runsTo_142 (by decide) ?_
                refine am_AW.unset 7 ?_
                have h9 := ih (i + 1) (by omega) (by omega)
                simp only [kpV] at h9
                first
                  | (rw [if_pos ⟨h88, by omega, by omega, by omega⟩] at h9; exact h9)
                  | (rw [if_neg (fun z => by have z1 : S 190 (25 * r + i) = 14 := z.1; have z2 : S 196 (25 * r + i) = k := z.2.1; have z3 : S 194 (25 * r + i) ≤ to := z.2.2.1; have z4 : to ≤ S 195 (25 * r + i) := z.2.2.2; omega)] at h9; exact h9)
              · refine am_aload_n rfl dX10_runsTo_125 ?_
                refine mm_getR dX10_runsTo_126 fl_X10_135 (md_0 hm) mdf_50 ?_
                refine mm_bipush dX10_runsTo_129 (by decide) ?_
                refine am_iload_n rfl dX10_runsTo_131 ?_
                refine mm_imul dX10_runsTo_132 ?_
                refine am_iload rfl dX10_runsTo_133 ?_
                refine mm_iadd dX10_runsTo_135 ?_
                refine am_iload rfl dX10_runsTo_136 ?_
                rw [show (6 : Int) * (fi : Int) + (k : Int) = ((6 * fi + k : Nat) : Int) by omega]
                refine mm_ias dX10_runsTo_138 (md_goesOn hm) (by omega) ?_
                rw [Int.toNat_natCast, up2_up2]
                refine mm_inc6 dX10_runsTo_139 (Nat.le_of_ble_eq_true rfl) (am_c1i _) ?_
                refine am_goto (tgt := 54) dX10_runsTo_142 (by decide) ?_
                refine am_AW.unset 7 ?_
                have h9 := ih (i + 1) (by omega) (by omega)
                simp only [kpV] at h9
                first
                  | (rw [if_pos ⟨h88, by omega, by omega, by omega⟩] at h9; exact h9)
                  | (rw [if_neg (fun z => by have z1 : S 190 (25 * r + i) = 14 := z.1; have z2 : S 196 (25 * r + i) = k := z.2.1; have z3 : S 194 (25 * r + i) ≤ to := z.2.2.1; have z4 : to ≤ S 195 (25 * r + i) := z.2.2.2; omega)] at h9; exact h9)
set_option maxRecDepth 100000 in
set_option maxHeartbeats 4000000 in
theorem l_rtO {sh : List mm_H} {S : mm_S} {L : mm_L} (hm : mdS sh) {r : Nat} (hr : r < 6) (hn : S 189 r ≤ 24) (hw : mrW S r) (hn1 : 0 ≤ S 189 r) {fi : Nat} (hfi : fi < 10) {to : Int} (hto : 0 ≤ to ∧ to ≤ 24) (hP : ∀ k, k < 6 → 0 ≤ S 221 (6 * fi + k) ∧ S 221 (6 * fi + k) < 4) : ∀ (q : Nat) (k : Nat) (S' : mm_S), 6 - k < q → (k ≤ 6) → (mvG S S' r to fi k) → am_AW eX10_runsTo (mm sh S' L) 17 [some (.ref 181), some (.int (iI to)), some (.int (iI (fi : Int))), some (.int (iI (r : Int))), some (.int (iI (k : Int))), none, none, none] [] (fun r0 M' => r0 = none ∧ ∃ S2, M' = mm sh S2 L ∧ (∀ b, b ≠ 218 → b ≠ 221 → S2 b = S b) ∧ (∀ i, i ≠ fi → S2 218 i = S 218 i) ∧ S2 218 fi = to ∧ (∀ i, i < 6 * fi ∨ 6 * fi + 6 ≤ i → S2 221 i = S 221 i) ∧ ∀ j, j < 6 → S2 221 (6 * fi + j) = kpV (mSo S r) (mAr S r) (mMi S r) (mEn S r) to j (S 221 (6 * fi + j)) (mN S r)) := by
  intro q
  induction q with
  | zero =>
    intro k S' hq
    exact absurd hq (Nat.not_lt_zero _)
  | succ q ih =>
    intro k S' hq hk hF
    refine am_iload rfl dX10_runsTo_17 ?_
    refine mm_bipush dX10_runsTo_19 (by decide) ?_
    refine mm_jge (tgt := 151) dX10_runsTo_21 (by decide) (by omega) (by omega) (fun h21 => ?_) (fun h21 => ?_)
    · refine am_aload_n rfl dX10_runsTo_151 ?_
      refine mm_getR dX10_runsTo_152 fl_X10_126 (md_0 hm) mdf_47 ?_
      refine am_iload_n rfl dX10_runsTo_155 ?_
      refine am_iload_n rfl dX10_runsTo_156 ?_
      refine mm_ias dX10_runsTo_157 (md_atPlace hm) (by omega) ?_
      rw [Int.toNat_natCast]
      refine am_return dX10_runsTo_158 rfl ?_
      have h5 : k = 6 := by omega
      subst h5
      refine ⟨rfl, _, rfl, fun b y1 y2 => by rw [up2_row y1]; exact hF.1 b y2, fun i hi => by rw [up2_rc hi, hF.1 218 (by omega)], up2_same _ _ _ _, fun i hi => by rw [up2_rd (by omega)]; exact hF.2.2 i hi, fun j hj => by rw [up2_rd (by omega)]; exact hF.2.1 j hj⟩
    · refine am_aload_n rfl dX10_runsTo_24 ?_
      refine mm_getR dX10_runsTo_25 fl_X10_135 (md_0 hm) mdf_50 ?_
      refine mm_bipush dX10_runsTo_28 (by decide) ?_
      refine am_iload_n rfl dX10_runsTo_30 ?_
      refine mm_imul dX10_runsTo_31 ?_
      refine am_iload rfl dX10_runsTo_32 ?_
      refine mm_iadd dX10_runsTo_34 ?_
      rw [show (6 : Int) * (fi : Int) + (k : Int) = ((6 * fi + k : Nat) : Int) by omega]
      refine mm_ial dX10_runsTo_35 (md_goesOn hm) (by omega) ?_
      rw [Int.toNat_natCast, hF.2.2 (6 * fi + k) (by omega)]
      refine am_ist5 dX10_runsTo_36 (Nat.le_of_ble_eq_true rfl) (am_c1i _) ?_
      refine am_aload_n rfl dX10_runsTo_38 ?_
      refine mm_getR dX10_runsTo_39 fl_X10_135 (md_0 hm) mdf_50 ?_
      refine mm_bipush dX10_runsTo_42 (by decide) ?_
      refine am_iload_n rfl dX10_runsTo_44 ?_
      refine mm_imul dX10_runsTo_45 ?_
      refine am_iload rfl dX10_runsTo_46 ?_
      refine mm_iadd dX10_runsTo_48 ?_
      refine mm_iconst dX10_runsTo_49 ?_
      rw [show (6 : Int) * (fi : Int) + (k : Int) = ((6 * fi + k : Nat) : Int) by omega]
      refine mm_ias dX10_runsTo_50 (md_goesOn hm) (by omega) ?_
      rw [Int.toNat_natCast]
      refine mm_iconst dX10_runsTo_51 ?_
      refine am_ist6 dX10_runsTo_52 (Nat.le_of_ble_eq_true rfl) (am_c1i _) ?_
      refine l_rtI (S' := S') hm hr hn hw hn1 hfi hto hP (show k < 6 by omega) hF.1 rfl ?_ (mN S r + 1) 0 (by omega) (by omega)
      refine mm_inc4 dX10_runsTo_145 (Nat.le_of_ble_eq_true rfl) (am_c1i _) ?_
      refine am_goto (tgt := 17) dX10_runsTo_148 (by decide) ?_
      refine ih (k + 1) _ (by omega) (by omega) ⟨fun b hb => ?_, fun j hj => ?_, fun j hj => ?_⟩
      · rw [up2_row hb]; exact hF.1 b hb
      · by_cases e : j = k
        · subst e; rw [up2_same]
        · rw [up2_rc (by omega)]; exact hF.2.1 j (by omega)
      · rw [up2_rc (by omega)]; exact hF.2.2 j (by omega)
set_option maxRecDepth 100000 in
set_option maxHeartbeats 4000000 in
theorem m_runsTo {sh : List mm_H} {S : mm_S} {L : mm_L} (hm : mdS sh) {r : Nat} (hr : r < 6) (hn : S 189 r ≤ 24) (hw : mrW S r) (hn1 : 0 ≤ S 189 r) {fi : Nat} (hfi : fi < 10) {to : Int} (hto : 0 ≤ to ∧ to ≤ 24) (hP : ∀ k, k < 6 → 0 ≤ S 221 (6 * fi + k) ∧ S 221 (6 * fi + k) < 4) (hd : S 181 45 = (fi : Int) + 1) (h17 : S 217 fi = (r : Int)) : am_E eX10_runsTo [.ref 181, .int (iI to)] (mm sh S L) (fun r0 M' => r0 = none ∧ ∃ S2, M' = mm sh S2 L ∧ (∀ b, b ≠ 218 → b ≠ 221 → S2 b = S b) ∧ (∀ i, i ≠ fi → S2 218 i = S 218 i) ∧ S2 218 fi = to ∧ (∀ i, i < 6 * fi ∨ 6 * fi + 6 ≤ i → S2 221 i = S 221 i) ∧ ∀ j, j < 6 → S2 221 (6 * fi + j) = kpV (mSo S r) (mAr S r) (mMi S r) (mEn S r) to j (S 221 (6 * fi + j)) (mN S r)) := by
  refine am_enter rfl rfl (Nat.le_of_ble_eq_true rfl) ?_
  refine am_aload_n rfl dX10_runsTo_0 ?_
  refine mm_getI dX10_runsTo_1 fl_X10_346 (md_0 hm) mdf_45 ?_
  rw [hd]
  refine mm_iconst dX10_runsTo_4 ?_
  refine mm_isub dX10_runsTo_5 ?_
  rw [show (fi : Int) + 1 - 1 = (fi : Int) by omega]
  refine am_ist2 dX10_runsTo_6 (Nat.le_of_ble_eq_true rfl) (am_c1i _) ?_
  refine am_aload_n rfl dX10_runsTo_7 ?_
  refine mm_getR dX10_runsTo_8 fl_X10_123 (md_0 hm) mdf_46 ?_
  refine am_iload_n rfl dX10_runsTo_11 ?_
  refine mm_ial dX10_runsTo_12 (md_atRoutine hm) (by omega) ?_
  rw [Int.toNat_natCast, h17]
  refine am_ist3 dX10_runsTo_13 (Nat.le_of_ble_eq_true rfl) (am_c1i _) ?_
  refine mm_iconst dX10_runsTo_14 ?_
  refine am_ist4 dX10_runsTo_15 (Nat.le_of_ble_eq_true rfl) (am_c1i _) ?_
  exact l_rtO hm hr hn hw hn1 hfi hto hP 7 0 S (by omega) (by omega) ⟨fun _ _ => rfl, fun j hj => absurd hj (Nat.not_lt_zero j), fun _ _ => rfl⟩
