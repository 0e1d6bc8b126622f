/-! ===== a ROUTINE is over ===== -/
section
variable {S0 S S' : mm_S} {n : Int} {f g : Fr} {t u : List Fr} {fl as dn ms : Int}
theorem lv_iff (hv : mdV S) (hp : plM S (f :: t) (-1)) (ht : thM S (t.length + 1)) (hR1 : ∀ v, v < 5 → 0 ≤ f.2.2.1 v) : lvM S f.2.2 ↔ ∃ i : Nat, (i : Int) < S 181 41 ∧ S 216 i = (t.length : Int) ∧ ¬ mE S (S 214 i) (S 215 i) := by
  obtain ⟨a1, a2, a3, a4, a5⟩ := hp.1.2.1
  obtain ⟨h1, h2, h3, h4, h5, h6⟩ := ht
  have c7 : ∀ i : Nat, (i : Int) < S 181 41 → S 215 i < 6 := fun i hi => by
    have b := h2 i hi
    have := hv.1
    have := (hv.2.2.1 (S 214 i).toNat (by omega)).2.1
    omega
  constructor
  · rintro ⟨v, q1, q2, q3⟩
    have b := a1 v q1
    have hne : S 220 (5 * t.length + v) ≠ -1 := fun z => by have := b.2.1.mpr z; omega
    have c := (a3 v q1 (by omega)).2 hne
    have b2 := h2 (S 220 (5 * t.length + v)).toNat (by omega)
    have b3 := c7 (S 220 (5 * t.length + v)).toNat (by omega)
    rw [c] at q3
    unfold cdT at q3
    by_cases z : S 216 (S 220 (5 * t.length + v)).toNat = (t.length : Int)
    · rw [if_pos z] at q3
      refine ⟨(S 220 (5 * t.length + v)).toNat, by omega, z, ?_⟩
      have e1 : (7 * S 214 (S 220 (5 * t.length + v)).toNat + S 215 (S 220 (5 * t.length + v)).toNat) / 7 = S 214 (S 220 (5 * t.length + v)).toNat := by omega
      have e2 : (7 * S 214 (S 220 (5 * t.length + v)).toNat + S 215 (S 220 (5 * t.length + v)).toNat) % 7 = S 215 (S 220 (5 * t.length + v)).toNat := by omega
      have q4 := q3.2
      rw [e1, e2] at q4
      exact q4
    · rw [if_neg z] at q3
      exfalso
      exact q3.1 (by omega)
  · rintro ⟨i, q1, q2, q3⟩
    have b2 := h2 i q1
    have b3 := c7 i q1
    rcases h3 i t.length q1 (by omega) q2 with ⟨v, w1, w2⟩ | w
    · have b := a1 v w1
      have hn0 : f.2.2.1 v ≠ 0 := fun z => by have := b.2.1.mp z; omega
      have hn1 : f.2.2.1 v ≠ 1 := fun z => by
        have y := b.2.2.mp z
        obtain ⟨j, w3, w4, -⟩ := h4 t.length (by omega) y.1
        rw [← y.2, w2, Int.toNat_natCast, q2] at w4
        omega
      have hg := hR1 v w1
      refine ⟨v, w1, by omega, ?_⟩
      have c := (a3 v w1 (by omega)).2 (by omega)
      rw [c, w2]
      unfold cdT lfM
      rw [Int.toNat_natCast, if_pos q2]
      have e1 : (7 * S 214 i + S 215 i) / 7 = S 214 i := by omega
      have e2 : (7 * S 214 i + S 215 i) % 7 = S 215 i := by omega
      rw [e1, e2]
      exact ⟨by omega, q3⟩
    · exact absurd w q3
theorem mr_pop (hbW : mbW S0) (hmr : mrS S0 S n (f :: g :: u, 0, as, dn, ms)) (e : ∀ b, b ≠ 181 → b ≠ 216 → S' b = S b) (ec : ∀ j, j ≠ 45 → S' 181 j = S 181 j) (ec45 : S' 181 45 = (u.length : Int) + 1) (e6 : ∀ i : Nat, (i : Int) < S 181 41 → S' 216 i = if S 216 i = (u.length : Int) + 1 then -1 else S 216 i) : mrS S0 S' n ((g.1, g.2.1, cbT S0 g.1 g.2.1 g.2.2 (etR f.1 f.2.2)) :: u, 0, as, dn, ms) := by
  obtain ⟨hbe, hW, hr6, -, -, -, -, hrg, hk10, hd, hvM⟩ := mr_top hbW hmr
  obtain ⟨h1, h2, ⟨h3, h4⟩, ⟨h5, h53, h54, h55, h61, h52, h56⟩, h41⟩ := id hmr
  have hq := ok_q hbW.1 h2.1
  have hok := h2.1.2.2.2
  have hgr : (g.1.2.1 : Int) < S0 181 9 := hok.2.1.2.1
  have hmr2 := (mbW_C hbW).2.2.2 g.1.2.1 hgr
  have u0 := wr_call hq.1.2.1 hq.1.2.2
  have hv0 : 0 ≤ mBb S0 g.1.2.1 g.2.1 ∧ mBb S0 g.1.2.1 g.2.1 < 5 := by have ok := hmr2.2.2.2 g.2.1 hq.1.1; have := hq.1.2.1; omega
  have hkf : f.1.1 = if mSo S0 g.1.2.1 g.2.1 = 11 then 2 else 1 := by rw [← (h2.1.2.2.1 g u rfl).2]; rfl
  have hpop := mo_pop (S := S) (S' := S') (f := f) (g := g) (u := u) (mdV_of hbe hbW.1) hvM h3 h4 (fun v hv => (hok.1.1.1.1 v hv).1) (by rw [bk_Bb hbe]; exact hv0) (by rw [bk_So hbe]; exact hkf) (by rw [bk_So hbe, bk_Bb hbe]; exact u0.2.2) e ec e6
  have ecb : cbT S g.1 g.2.1 g.2.2 (etR f.1 f.2.2) = cbT S0 g.1 g.2.1 g.2.2 (etR f.1 f.2.2) := by unfold cbT; rw [bk_Bb hbe, bk_So hbe]
  rw [ecb] at hpop
  have hlen := h2.2.1
  simp only [List.length_cons] at hlen
  have hrg2 : rgV S0 g.1 (cbT S0 g.1 g.2.1 g.2.2 (etR f.1 f.2.2)) := by
    unfold cbT
    refine rg_turn hbW.1 hok.1.1 (by omega) u0.1 ?_ ?_
    · split
      · omega
      · rename_i z
        exact (hq.2 (by have := hq.1.2.1; omega)).1
    · split
      · rename_i z
        exact Or.inr ⟨rfl, fun y => u0.2.2 ⟨z, y⟩⟩
      · rename_i z
        exact Or.inl (hq.2 (by have := hq.1.2.1; omega)).2
  have hpd : (cbT S0 g.1 g.2.1 g.2.2 (etR f.1 f.2.2)).2.2.2 = g.2.2.2.2.2 := by unfold cbT tnR; split <;> rfl
  refine ⟨⟨fun b y1 y2 => by rw [e b y2 (by omega)]; exact h1.1 b y1 y2, fun j hj => by rw [ec j (by omega)]; exact h1.2 j hj⟩, ⟨⟨⟨hrg2, hok.1.2.1, fun k hk hne => ?_⟩, hok.2.1, hok.2.2.1, hok.2.2.2⟩, by simp only [List.length_cons]; omega, Or.inl rfl, h2.2.2.2.1, h2.2.2.2.2⟩, hpop, ⟨by rw [ec45]; simp only [List.length_cons]; omega, by rw [ec 53 (by omega)]; exact h53, by rw [ec 54 (by omega)]; exact h54, by rw [ec 55 (by omega)]; exact h55, by rw [ec 61 (by omega)]; exact h61, by rw [ec 52 (by omega)]; exact h52, by rw [ec 56 (by omega)]; exact h56⟩, by rw [ec 41 (by omega)]; exact h41⟩
  have hne : (cbT S0 g.1 g.2.1 g.2.2 (etR f.1 f.2.2)).2.2.2 k ≠ 0 := hne
  rw [hpd] at hne
  exact hok.1.2.2 k hk hne
/-- a run that has stopped -/
theorem me_up {r p : Int} {e : aEn} {k : Nat} (h1 : mfR S0 S) (e0 : e.1 = r) (e1 : e.2.1 = S 217 k) (e2 : e.2.2.1 = p) (e3 : S 181 53 = e.2.2.2.1) (e4 : S 181 54 = e.2.2.2.2.1) (e5 : S 181 55 = e.2.2.2.2.2) : meS S0 (up2 (up2 (up2 S 181 56 r) 181 57 (S 217 k)) 181 58 p) e := by
  refine ⟨⟨fun b y1 y2 => by rw [up2_row y2, up2_row y2, up2_row y2]; exact h1.1 b y1 y2, fun j hj => by rw [up2_rc (by omega), up2_rc (by omega), up2_rc (by omega)]; exact h1.2 j hj⟩, by rw [up2_rc (by omega), up2_rc (by omega), up2_same]; exact e0.symm, by rw [up2_rc (by omega), up2_same]; exact e1.symm, by rw [up2_same]; exact e2.symm, by rw [up2_rc (by omega), up2_rc (by omega), up2_rc (by omega)]; exact e3, by rw [up2_rc (by omega), up2_rc (by omega), up2_rc (by omega)]; exact e4, by rw [up2_rc (by omega), up2_rc (by omega), up2_rc (by omega)]; exact e5⟩
end
set_option maxRecDepth 100000 in
set_option maxHeartbeats 4000000 in
theorem l_ret1 {sh : List mm_H} {L : mm_L} (hm : mdS sh) {S0 : mm_S} (hbW : mbW S0) {S : mm_S} {n : Int} {f : Fr} {t : List Fr} {as dn ms : Int} (hmr : mrS S0 S n (f :: t, 0, as, dn, ms)) {y : Prop} [Decidable y] {Q : Option Value → am_M → Prop} (kh : (∃ i : Nat, (i : Int) < S 181 41 ∧ S 216 i = (t.length : Int) ∧ ¬ mE S (S 214 i) (S 215 i)) → Q none (mm sh (up2 (up2 (up2 S 181 56 5) 181 57 (S 217 t.length)) 181 58 (mN S0 f.1.2.1 : Int)) L)) (kk : ∀ l4, ¬ (∃ i : Nat, (i : Int) < S 181 41 ∧ S 216 i = (t.length : Int) ∧ ¬ mE S (S 214 i) (S 215 i)) → am_AW eX10_returns (mm sh S L) 54 [some (.ref 181), some (.int (iI (b2 y))), some (.int (iI (t.length : Int))), some (.int (iI (f.1.2.1 : Int))), l4] [] Q) : ∀ (q : Nat) (i : Nat), (S 181 41).toNat - i < q → ((i : Int) ≤ S 181 41) → (∀ j : Nat, j < i → ¬ (S 216 j = (t.length : Int) ∧ ¬ mE S (S 214 j) (S 215 j))) → am_AW eX10_returns (mm sh S L) 17 [some (.ref 181), some (.int (iI (b2 y))), some (.int (iI (t.length : Int))), some (.int (iI (f.1.2.1 : Int))), some (.int (iI (i : Int)))] [] Q := by
  intro q
  induction q with
  | zero =>
    intro i hq
    exact absurd hq (Nat.not_lt_zero _)
  | succ q ih =>
    intro i hq hi hno
    obtain ⟨hbe, hW, hr6, ⟨hw, hn24, hn0, hNe, hNS⟩, ⟨h17, h18⟩, ⟨hpl, hN24⟩, hP, hrg, hk10, hd, hvM⟩ := mr_top hbW hmr
    have hth : thM S (t.length + 1) := hmr.2.2.1.2
    have h500 := hth.1
    refine am_iload rfl dX10_returns_17 ?_
    refine am_aload_n rfl dX10_returns_19 ?_
    refine mm_getI dX10_returns_20 fl_X10_358 (md_0 hm) mdf_41 ?_
    refine mm_jge (tgt := 54) dX10_returns_23 (by decide) (by omega) (by omega) (fun h23 => ?_) (fun h23 => ?_)
    · exact kk _ (fun ⟨j, q1, q2, q3⟩ => hno j (by omega) ⟨q2, q3⟩)
    · refine am_aload_n rfl dX10_returns_26 ?_
      refine am_iload rfl dX10_returns_27 ?_
      refine am_iload_n rfl dX10_returns_29 ?_
      have b2 := hth.2.1 i (by omega)
      have b3 := hW.1.1
      have b4 := (hW.1.2.2.1 (S 214 i).toNat (by omega)).2.1
      refine am_ci (mm_V2 dX10_returns_30 in_X10_isLeftOf mk_X10_361 im_X10_isLeftOf sl_X10_isLeftOf ⟨Nat.le_of_ble_eq_true rfl, Nat.le_of_ble_eq_true rfl⟩ rfl (md_0 hm) (Nat.le_of_ble_eq_true rfl)) (m_isLeftOf (t := i) (k := t.length) hm hW.1 (by omega) (by omega) hk10 (by omega) (by omega)) ?_
      refine mm_beq (tgt := 48) dX10_returns_33 (by decide) (fun h33 => ?_) (fun h33 => ?_)
      · refine mm_inc4 dX10_returns_48 (Nat.le_of_ble_eq_true rfl) (am_c1i _) ?_
        refine am_goto (tgt := 17) dX10_returns_51 (by decide) ?_
        refine ih (i + 1) (by omega) (by omega) (fun j hj q => ?_)
        by_cases z : j = i
        · subst z; exact h33 q
        · exact hno j (by omega) q
      · refine am_aload_n rfl dX10_returns_36 ?_
        refine mm_iconst dX10_returns_37 ?_
        refine am_aload_n rfl dX10_returns_38 ?_
        refine mm_getR dX10_returns_39 fl_X10_36 (md_0 hm) mdf_10 ?_
        refine am_iload_n rfl dX10_returns_42 ?_
        refine mm_ial dX10_returns_43 (md_many hm) (by omega) ?_
        rw [Int.toNat_natCast, ← hNe]
        refine am_cv (mm_V2 dX10_returns_44 in_X10_stops mk_X10_364 im_X10_stops sl_X10_stops ⟨Nat.le_of_ble_eq_true rfl, Nat.le_of_ble_eq_true rfl⟩ rfl (md_0 hm) (Nat.le_of_ble_eq_true rfl)) (m_stops (k := t.length) hm hd hk10) ?_
        refine am_return dX10_returns_47 rfl ?_
        exact kh ⟨i, by omega, h33.1, h33.2⟩
set_option maxRecDepth 100000 in
set_option maxHeartbeats 4000000 in
theorem l_ret2 {sh : List mm_H} {L : mm_L} (hm : mdS sh) {S0 : mm_S} (hbW : mbW S0) {S : mm_S} {n : Int} {f : Fr} {t : List Fr} {as dn ms : Int} (hmr : mrS S0 S n (f :: t, 0, as, dn, ms)) {y : Prop} [Decidable y] {Q : Option Value → am_M → Prop} (kk : ∀ S2 l4, (∀ b, b ≠ 216 → S2 b = S b) → (∀ j : Nat, (j : Int) < S 181 41 → S2 216 j = if S 216 j = (t.length : Int) then -1 else S 216 j) → am_AW eX10_returns (mm sh S2 L) 101 [some (.ref 181), some (.int (iI (b2 y))), some (.int (iI (t.length : Int))), some (.int (iI (f.1.2.1 : Int))), l4] [] Q) : ∀ (q : Nat) (i : Nat) (S' : mm_S), (S 181 41).toNat - i < q → ((i : Int) ≤ S 181 41) → (∀ b, b ≠ 216 → S' b = S b) → (∀ j, j < i → S' 216 j = if S 216 j = (t.length : Int) then -1 else S 216 j) → (∀ j, i ≤ j → S' 216 j = S 216 j) → am_AW eX10_returns (mm sh S' L) 57 [some (.ref 181), some (.int (iI (b2 y))), some (.int (iI (t.length : Int))), some (.int (iI (f.1.2.1 : Int))), some (.int (iI (i : Int)))] [] Q := by
  intro q
  induction q with
  | zero =>
    intro i S' hq
    exact absurd hq (Nat.not_lt_zero _)
  | succ q ih =>
    intro i S' hq hi e e1 e2
    obtain ⟨hbe, hW, hr6, ⟨hw, hn24, hn0, hNe, hNS⟩, ⟨h17, h18⟩, ⟨hpl, hN24⟩, hP, hrg, hk10, hd, hvM⟩ := mr_top hbW hmr
    have hth : thM S (t.length + 1) := hmr.2.2.1.2
    have h500 := hth.1
    refine am_iload rfl dX10_returns_57 ?_
    refine am_aload_n rfl dX10_returns_59 ?_
    refine mm_getI dX10_returns_60 fl_X10_358 (md_0 hm) mdf_41 ?_
    rw [e 181 (by omega)]
    refine mm_jge (tgt := 101) dX10_returns_63 (by decide) (by omega) (by omega) (fun h63 => ?_) (fun h63 => ?_)
    · exact kk S' _ e (fun j hj => e1 j (by omega))
    · refine am_aload_n rfl dX10_returns_66 ?_
      refine mm_getR dX10_returns_67 fl_X10_120 (md_0 hm) mdf_44 ?_
      refine am_iload rfl dX10_returns_70 ?_
      refine am_aload_n rfl dX10_returns_72 ?_
      refine mm_getR dX10_returns_73 fl_X10_120 (md_0 hm) mdf_44 ?_
      refine am_iload rfl dX10_returns_76 ?_
      refine mm_ial dX10_returns_78 (md_thingOf hm) (by omega) ?_
      rw [Int.toNat_natCast, e2 i (Nat.le_refl i)]
      refine am_iload_n rfl dX10_returns_79 ?_
      have b2 := (hth.2.1 i (by omega)).1
      refine mm_jne (tgt := 87) dX10_returns_80 (by decide) (by omega) (by omega) (fun h80 => ?_) (fun h80 => ?_)
      · refine am_aload_n rfl dX10_returns_87 ?_
        refine mm_getR dX10_returns_88 fl_X10_120 (md_0 hm) mdf_44 ?_
        refine am_iload rfl dX10_returns_91 ?_
        refine mm_ial dX10_returns_93 (md_thingOf hm) (by omega) ?_
        rw [Int.toNat_natCast, e2 i (Nat.le_refl i)]
        refine mm_ias dX10_returns_94 (md_thingOf hm) (by omega) ?_
        rw [Int.toNat_natCast]
        refine mm_inc4 dX10_returns_95 (Nat.le_of_ble_eq_true rfl) (am_c1i _) ?_
        refine am_goto (tgt := 57) dX10_returns_98 (by decide) ?_
        first
          | (refine ih (i + 1) (up2 S' 216 i (-1)) (by omega) (by omega) (fun b hb => by rw [up2_row hb]; exact e b hb) (fun j hj => ?_) (fun j hj => by rw [up2_rc (by omega)]; exact e2 j (by omega))
             by_cases z : j = i
             · subst z; rw [up2_same, if_pos (by omega)]
             · rw [up2_rc z]; exact e1 j (by omega))
          | (refine ih (i + 1) (up2 S' 216 i (S 216 i)) (by omega) (by omega) (fun b hb => by rw [up2_row hb]; exact e b hb) (fun j hj => ?_) (fun j hj => by rw [up2_rc (by omega)]; exact e2 j (by omega))
             by_cases z : j = i
             · subst z; rw [up2_same, if_neg (by omega)]
             · rw [up2_rc z]; exact e1 j (by omega))
      · refine mm_iconst dX10_returns_83 ?_
        refine am_goto (tgt := 94) dX10_returns_84 (by decide) ?_
        refine mm_ias dX10_returns_94 (md_thingOf hm) (by omega) ?_
        rw [Int.toNat_natCast]
        refine mm_inc4 dX10_returns_95 (Nat.le_of_ble_eq_true rfl) (am_c1i _) ?_
        refine am_goto (tgt := 57) dX10_returns_98 (by decide) ?_
        first
          | (refine ih (i + 1) (up2 S' 216 i (-1)) (by omega) (by omega) (fun b hb => by rw [up2_row hb]; exact e b hb) (fun j hj => ?_) (fun j hj => by rw [up2_rc (by omega)]; exact e2 j (by omega))
             by_cases z : j = i
             · subst z; rw [up2_same, if_pos (by omega)]
             · rw [up2_rc z]; exact e1 j (by omega))
          | (refine ih (i + 1) (up2 S' 216 i (S 216 i)) (by omega) (by omega) (fun b hb => by rw [up2_row hb]; exact e b hb) (fun j hj => ?_) (fun j hj => by rw [up2_rc (by omega)]; exact e2 j (by omega))
             by_cases z : j = i
             · subst z; rw [up2_same, if_neg (by omega)]
             · rw [up2_rc z]; exact e1 j (by omega))
set_option maxRecDepth 100000 in
set_option maxHeartbeats 4000000 in
theorem l_ret3 {sh : List mm_H} {L : mm_L} (hm : mdS sh) {S0 : mm_S} (hbW : mbW S0) {S : mm_S} {n : Int} {f : Fr} {t : List Fr} {as dn ms : Int} {A : Int → Prop} {fl : Int} (hmr : mrS S0 S n (f :: t, 0, as, dn, ms)) (hrt : fl = 1 ∨ f.2.1 = mN S0 f.1.2.1) (hnl : ¬ lvM S0 f.2.2) {S2 : mm_S} (e : ∀ b, b ≠ 216 → S2 b = S b) (e6 : ∀ j : Nat, (j : Int) < S 181 41 → S2 216 j = if S 216 j = (t.length : Int) then -1 else S 216 j) {l4 : Option Value} : am_AW eX10_returns (mm sh S2 L) 101 [some (.ref 181), some (.int (iI (b2 (¬ fl = 1)))), some (.int (iI (t.length : Int))), some (.int (iI (f.1.2.1 : Int))), l4] [] (fun r0 M' => r0 = none ∧ ∃ S', M' = mm sh S' L ∧ ((∃ s', abStep S0 A (f :: t, fl, as, dn, ms) = .inl s' ∧ mrS S0 S' n s') ∨ ∃ e, abStep S0 A (f :: t, fl, as, dn, ms) = .inr e ∧ meS S0 S' e)) := by
  obtain ⟨hbe, hW, hr6, ⟨hw, hn24, hn0, hNe, hNS⟩, ⟨h17, h18⟩, ⟨hpl, hN24⟩, hP, hrg, hk10, hd, hvM⟩ := mr_top hbW hmr
  have dd := hmr.2.2.2.1
  have e81 := e 181 (by omega)
  have hmf2 : mfR S0 S2 := ⟨fun b y1 y2 => by rw [e b (by omega)]; exact hmr.1.1 b y1 y2, fun j hj => by rw [e81]; exact hmr.1.2 j hj⟩
  refine am_iload_n rfl dX10_returns_101 ?_
  refine mm_zne (tgt := 126) dX10_returns_102 (by decide) (by omega) (fun h102 => ?_) (fun h102 => ?_)
  · obtain ⟨g, u, rfl⟩ : ∃ g u, t = g :: u := by
      cases t with
      | nil => exfalso; simp only [List.length_nil] at h102; omega
      | cons g u => exact ⟨g, u, rfl⟩
    simp only [List.length_cons] at hd hk10 h102 e6
    refine am_aload_n rfl dX10_returns_126 ?_
    refine am_dup rfl dX10_returns_127 ?_
    refine mm_getI dX10_returns_128 fl_X10_346 (md_0 hm) mdf_45 ?_
    rw [e81, hd]
    refine mm_iconst dX10_returns_131 ?_
    refine mm_isub dX10_returns_132 ?_
    rw [show ((u.length + 1 : Nat) : Int) + 1 - 1 = (u.length : Int) + 1 by omega]
    refine mm_putI dX10_returns_133 fp_X10_346 (md_0 hm) mdf_45 ?_
    obtain ⟨S3, hS3⟩ : ∃ S3, up2 S2 181 45 ((u.length : Int) + 1) = S3 := ⟨_, rfl⟩
    have er : ∀ b, b ≠ 181 → S3 b = S2 b := fun b hb => by rw [← hS3, up2_row hb]
    have ec : ∀ j, j ≠ 45 → S3 181 j = S2 181 j := fun j hj => by rw [← hS3, up2_rc hj]
    have ec45 : S3 181 45 = (u.length : Int) + 1 := by rw [← hS3, up2_same]
    rw [hS3]
    clear hS3
    have hmr3 := mr_pop (S' := S3) hbW hmr (fun b y1 y2 => by rw [er b y1]; exact e b y2) (fun j hj => by rw [ec j hj, e81]) ec45 (fun i hi => by rw [er 216 (by omega)]; exact e6 i hi)
    have hb := ab_back (A := A) (g := g) (u := u) (as := as) (dn := dn) (ms := ms) hrt hnl
    have hg18 : S3 218 u.length = (g.2.1 : Int) := hmr3.2.2.1.1.1.1.2
    have hq := ok_q hbW.1 hmr.2.1.1
    refine am_iload_n rfl dX10_returns_136 ?_
    refine mm_beq (tgt := 160) dX10_returns_137 (by decide) (fun h137 => ?_) (fun h137 => ?_)
    · refine am_aload_n rfl dX10_returns_160 ?_
      refine mm_iconst dX10_returns_161 ?_
      refine am_cxv (mm_V1 dX10_returns_162 in_X10_outOf mk_X10_370 im_X10_outOf sl_X10_outOf ⟨Nat.le_of_ble_eq_true rfl, Nat.le_of_ble_eq_true rfl⟩ rfl (md_0 hm) (Nat.le_of_ble_eq_true rfl)) (m_outOf (w := 2) hm hbW hmr3 (Or.inr rfl)) (fun M1 hq2 => ?_)
      obtain ⟨S4, rfl, hmr4⟩ := hq2
      refine am_return dX10_returns_165 rfl ?_
      first
        | (refine ⟨rfl, S4, rfl, Or.inl ⟨_, hb, ?_⟩⟩
           have ez : cbR S0 g.1 g.2.1 g.2.2 (fl = 1) (etR f.1 f.2.2) = gtR S0 g.1.2.1 ((g.2.1 : Int) + 1) (cbT S0 g.1 g.2.1 g.2.2 (etR f.1 f.2.2)) := by unfold cbR; rw [if_neg h137]
           rw [ez]
           exact hmr4)
        | (refine ⟨rfl, S4, rfl, Or.inl ⟨_, hb, ?_⟩⟩
           have ez : cbR S0 g.1 g.2.1 g.2.2 (fl = 1) (etR f.1 f.2.2) = otR S0 g.1.2.1 g.2.1 2 (cbT S0 g.1 g.2.1 g.2.2 (etR f.1 f.2.2)) := by unfold cbR; rw [if_pos (by omega)]
           rw [ez]
           exact hmr4)
    · refine am_aload_n rfl dX10_returns_140 ?_
      refine am_aload_n rfl dX10_returns_141 ?_
      refine mm_getR dX10_returns_142 fl_X10_126 (md_0 hm) mdf_47 ?_
      refine am_aload_n rfl dX10_returns_145 ?_
      refine mm_getI dX10_returns_146 fl_X10_346 (md_0 hm) mdf_45 ?_
      rw [ec45]
      refine mm_iconst dX10_returns_149 ?_
      refine mm_isub dX10_returns_150 ?_
      rw [show (u.length : Int) + 1 - 1 = (u.length : Int) by omega]
      refine mm_ial dX10_returns_151 (md_atPlace hm) (by omega) ?_
      rw [Int.toNat_natCast, hg18]
      refine mm_iconst dX10_returns_152 ?_
      refine mm_iadd dX10_returns_153 ?_
      have hto : 0 ≤ (g.2.1 : Int) + 1 ∧ (g.2.1 : Int) + 1 ≤ S0 189 g.1.2.1 := by
        have q1 := hq.1.1
        have hgr : (g.1.2.1 : Int) < S0 181 9 := hmr.2.1.1.2.2.2.2.1.2.1
        have q3 := hbW.1.2.1
        have q4 := (hbW.1.2.2.2.2 g.1.2.1 (by omega)).1
        unfold mN at q1
        omega
      refine am_cxv (mm_V1 dX10_returns_154 in_X10_runsTo mk_X10_367 im_X10_runsTo sl_X10_runsTo ⟨Nat.le_of_ble_eq_true rfl, Nat.le_of_ble_eq_true rfl⟩ rfl (md_0 hm) (Nat.le_of_ble_eq_true rfl)) (m_to (to := (g.2.1 : Int) + 1) hm hbW hmr3 hto) (fun M1 hq2 => ?_)
      obtain ⟨S4, rfl, hmr4, -⟩ := hq2
      refine am_goto (tgt := 165) dX10_returns_157 (by decide) ?_
      refine am_return dX10_returns_165 rfl ?_
      first
        | (refine ⟨rfl, S4, rfl, Or.inl ⟨_, hb, ?_⟩⟩
           have ez : cbR S0 g.1 g.2.1 g.2.2 (fl = 1) (etR f.1 f.2.2) = gtR S0 g.1.2.1 ((g.2.1 : Int) + 1) (cbT S0 g.1 g.2.1 g.2.2 (etR f.1 f.2.2)) := by unfold cbR; rw [if_neg h137]
           rw [ez]
           exact hmr4)
        | (refine ⟨rfl, S4, rfl, Or.inl ⟨_, hb, ?_⟩⟩
           have ez : cbR S0 g.1 g.2.1 g.2.2 (fl = 1) (etR f.1 f.2.2) = otR S0 g.1.2.1 g.2.1 2 (cbT S0 g.1 g.2.1 g.2.2 (etR f.1 f.2.2)) := by unfold cbR; rw [if_pos (by omega)]
           rw [ez]
           exact hmr4)
  · have ht0 : t = [] := List.length_eq_zero_iff.mp (by omega)
    subst ht0
    refine am_aload_n rfl dX10_returns_105 ?_
    refine am_iload_n rfl dX10_returns_106 ?_
    refine mm_beq (tgt := 114) dX10_returns_107 (by decide) (fun h107 => ?_) (fun h107 => ?_)
    · refine mm_bipush dX10_returns_114 (by decide) ?_
      refine am_aload_n rfl dX10_returns_116 ?_
      refine mm_getR dX10_returns_117 fl_X10_36 (md_0 hm) mdf_10 ?_
      refine am_iload_n rfl dX10_returns_120 ?_
      refine mm_ial dX10_returns_121 (md_many hm) (by omega) ?_
      rw [Int.toNat_natCast, e 189 (by omega), ← hNe]
      refine am_cv (mm_V2 dX10_returns_122 in_X10_stops mk_X10_364 im_X10_stops sl_X10_stops ⟨Nat.le_of_ble_eq_true rfl, Nat.le_of_ble_eq_true rfl⟩ rfl (md_0 hm) (Nat.le_of_ble_eq_true rfl)) (m_stops (S := S2) (k := 0) hm (by rw [e 181 (by omega)]; exact hd) (by omega)) ?_
      refine am_return dX10_returns_125 rfl ?_
      first
        | exact ⟨rfl, _, rfl, Or.inr ⟨(0, (f.1.2.1 : Int), (mN S0 f.1.2.1 : Int), as, dn, ms), by rw [ab_over hrt hnl, if_neg h107], me_up hmf2 rfl (by rw [e 217 (by omega)]; exact h17.symm) rfl (by rw [e81]; exact dd.2.1) (by rw [e81]; exact dd.2.2.1) (by rw [e81]; exact dd.2.2.2.1)⟩⟩
        | exact ⟨rfl, _, rfl, Or.inr ⟨(6, (f.1.2.1 : Int), (mN S0 f.1.2.1 : Int), as, dn, ms), by rw [ab_over hrt hnl, if_pos (by omega)], me_up hmf2 rfl (by rw [e 217 (by omega)]; exact h17.symm) rfl (by rw [e81]; exact dd.2.1) (by rw [e81]; exact dd.2.2.1) (by rw [e81]; exact dd.2.2.2.1)⟩⟩
    · refine mm_iconst dX10_returns_110 ?_
      refine am_goto (tgt := 116) dX10_returns_111 (by decide) ?_
      refine am_aload_n rfl dX10_returns_116 ?_
      refine mm_getR dX10_returns_117 fl_X10_36 (md_0 hm) mdf_10 ?_
      refine am_iload_n rfl dX10_returns_120 ?_
      refine mm_ial dX10_returns_121 (md_many hm) (by omega) ?_
      rw [Int.toNat_natCast, e 189 (by omega), ← hNe]
      refine am_cv (mm_V2 dX10_returns_122 in_X10_stops mk_X10_364 im_X10_stops sl_X10_stops ⟨Nat.le_of_ble_eq_true rfl, Nat.le_of_ble_eq_true rfl⟩ rfl (md_0 hm) (Nat.le_of_ble_eq_true rfl)) (m_stops (S := S2) (k := 0) hm (by rw [e 181 (by omega)]; exact hd) (by omega)) ?_
      refine am_return dX10_returns_125 rfl ?_
      first
        | exact ⟨rfl, _, rfl, Or.inr ⟨(0, (f.1.2.1 : Int), (mN S0 f.1.2.1 : Int), as, dn, ms), by rw [ab_over hrt hnl, if_neg h107], me_up hmf2 rfl (by rw [e 217 (by omega)]; exact h17.symm) rfl (by rw [e81]; exact dd.2.1) (by rw [e81]; exact dd.2.2.1) (by rw [e81]; exact dd.2.2.2.1)⟩⟩
        | exact ⟨rfl, _, rfl, Or.inr ⟨(6, (f.1.2.1 : Int), (mN S0 f.1.2.1 : Int), as, dn, ms), by rw [ab_over hrt hnl, if_pos (by omega)], me_up hmf2 rfl (by rw [e 217 (by omega)]; exact h17.symm) rfl (by rw [e81]; exact dd.2.1) (by rw [e81]; exact dd.2.2.1) (by rw [e81]; exact dd.2.2.2.1)⟩⟩
set_option maxRecDepth 100000 in
set_option maxHeartbeats 4000000 in
theorem m_returns {sh : List mm_H} {L : mm_L} (hm : mdS sh) {S0 : mm_S} (hbW : mbW S0) {S : mm_S} {n : Int} {f : Fr} {t : List Fr} {as dn ms : Int} {A : Int → Prop} {fl : Int} (hmr : mrS S0 S n (f :: t, 0, as, dn, ms)) (hrt : fl = 1 ∨ f.2.1 = mN S0 f.1.2.1) : am_E eX10_returns [.ref 181, .int (iI (b2 (¬ fl = 1)))] (mm sh S L) (fun r0 M' => r0 = none ∧ ∃ S', M' = mm sh S' L ∧ ((∃ s', abStep S0 A (f :: t, fl, as, dn, ms) = .inl s' ∧ mrS S0 S' n s') ∨ ∃ e, abStep S0 A (f :: t, fl, as, dn, ms) = .inr e ∧ meS S0 S' e)) := by
  obtain ⟨hbe, hW, hr6, ⟨hw, hn24, hn0, hNe, hNS⟩, ⟨h17, h18⟩, ⟨hpl, hN24⟩, hP, hrg, hk10, hd, hvM⟩ := mr_top hbW hmr
  have hth : thM S (t.length + 1) := hmr.2.2.1.2
  have h500 := hth.1
  have dd := hmr.2.2.2.1
  have hlv := lv_iff hW.1 hmr.2.2.1.1 hth (fun v hv => (hrg.1.1 v hv).1)
  refine am_enter rfl rfl (Nat.le_of_ble_eq_true rfl) ?_
  refine am_aload_n rfl dX10_returns_0 ?_
  refine mm_getI dX10_returns_1 fl_X10_346 (md_0 hm) mdf_45 ?_
  rw [hd]
  refine mm_iconst dX10_returns_4 ?_
  refine mm_isub dX10_returns_5 ?_
  rw [show (t.length : Int) + 1 - 1 = (t.length : Int) by omega]
  refine am_ist2 dX10_returns_6 (Nat.le_of_ble_eq_true rfl) (am_c1i _) ?_
  refine am_aload_n rfl dX10_returns_7 ?_
  refine mm_getR dX10_returns_8 fl_X10_123 (md_0 hm) mdf_46 ?_
  refine am_iload_n rfl dX10_returns_11 ?_
  refine mm_ial dX10_returns_12 (md_atRoutine hm) (by omega) ?_
  rw [Int.toNat_natCast, h17]
  refine am_ist3 dX10_returns_13 (Nat.le_of_ble_eq_true rfl) (am_c1i _) ?_
  refine mm_iconst dX10_returns_14 ?_
  refine am_ist4 dX10_returns_15 (Nat.le_of_ble_eq_true rfl) (am_c1i _) ?_
  refine l_ret1 (f := f) (t := t) hm hbW hmr (fun q => ?_) (fun l4 q => ?_) ((S 181 41).toNat + 1) 0 (by omega) (by omega) (fun j hj => absurd hj (Nat.not_lt_zero j))
  · exact ⟨rfl, _, rfl, Or.inr ⟨(5, (f.1.2.1 : Int), (mN S0 f.1.2.1 : Int), as, dn, ms), ab_left hrt (by rw [← bk_lv hbe]; exact hlv.mpr q), me_up hmr.1 rfl h17.symm rfl dd.2.1 dd.2.2.1 dd.2.2.2.1⟩⟩
  · refine mm_iconst dX10_returns_54 ?_
    refine am_ist4 dX10_returns_55 (Nat.le_of_ble_eq_true rfl) (am_c1i _) ?_
    refine l_ret2 (f := f) (t := t) hm hbW hmr (fun S2 l4' a1 a2 => ?_) ((S 181 41).toNat + 1) 0 S (by omega) (by omega) (fun _ _ => rfl) (fun j hj => absurd hj (Nat.not_lt_zero j)) (fun _ _ => rfl)
    exact l_ret3 hm hbW hmr hrt (fun z => q (hlv.mp (by rw [bk_lv hbe]; exact z))) a1 a2
