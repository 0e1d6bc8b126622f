/-! ===== the class's book under the judge ===== -/
def cbF (S S' : mm_S) : Prop := ∀ b, b < 85 ∨ (138 ≤ b ∧ b < 223) → S' b = S b
/-- both books, right and alike -/
def cbB (S : mm_S) : Prop := bkV S ∧ rtA S ∧ brE S ∧ mbC S
theorem cbF_E {S S' : mm_S} (h : cbF S S') : bkE S S' := ⟨fun b h1 h2 => h b (Or.inr (by omega)), by rw [h 181 (Or.inr (by omega))], by rw [h 181 (Or.inr (by omega))]⟩
theorem mrC_of {S S' : mm_S} {r : Nat} (he : bkE S S') (h : mrC S r) : mrC S' r := by
  have a : ∀ b, 182 ≤ b → b < 198 → S' b = S b := he.1
  unfold mrC mN mSo mCall mR mAa mBb mokB mK at *
  rw [a 189 (by omega) (by omega), a 190 (by omega) (by omega), a 191 (by omega) (by omega), a 192 (by omega) (by omega), he.2.1, he.2.2]
  exact h
theorem mbC_of {S S' : mm_S} (he : bkE S S') (h : mbC S) : mbC S' := ⟨mdV_of he h.1, mkA_of he h.2.1, by rw [he.2.2]; exact h.2.2.1, fun r hr => mrC_of he (h.2.2.2 r (by rw [he.2.2] at hr; exact hr))⟩
theorem cbB_of {S S' : mm_S} (h : cbF S S') (hb : cbB S) : cbB S' := by
  obtain ⟨h1, h2, h3, h4⟩ := hb
  have e : ∀ b, b < 85 → S' b = S b := fun b hb => h b (Or.inl hb)
  have f : ∀ b, 138 ≤ b → b < 223 → S' b = S b := fun b x y => h b (Or.inr ⟨x, y⟩)
  have u0 := h1.1
  have u1 := h1.2.1
  refine ⟨⟨by rw [e 1 (by omega)]; exact h1.1, by rw [e 1 (by omega)]; exact h1.2.1, fun k hk => ?_, fun r hr => ?_⟩, fun r hr => ?_, ?_, mbC_of (cbF_E h) h4⟩
  · rw [e 1 (by omega)] at hk
    have := h1.2.2.1 k hk
    unfold kdV at *
    rw [e _ (by omega), e _ (by omega), e _ (by omega)]
    exact this
  · rw [e _ (by omega)]; exact h1.2.2.2 r hr
  · have := h2 r hr
    unfold rtI lkI lkB at *
    rw [e (22 + 10 * r) (by omega), e (22 + 10 * r + 1) (by omega), e (22 + 10 * r + 2) (by omega), e (22 + 10 * r + 3) (by omega), e (22 + 10 * r + 4) (by omega), e (22 + 10 * r + 5) (by omega), e (22 + 10 * r + 6) (by omega), e (22 + 10 * r + 7) (by omega), e (22 + 10 * r + 8) (by omega), e (22 + 10 * r + 9) (by omega)]
    exact this
  · obtain ⟨g1, g2, g3, g4⟩ := h3
    refine ⟨by rw [e 1 (by omega), f 181 (by omega) (by omega)]; exact g1, by rw [e 1 (by omega), f 181 (by omega) (by omega)]; exact g2, fun k hk => ?_, fun r hr => ?_⟩
    · rw [e 1 (by omega)] at hk
      rw [e (4 + 3 * k) (by omega), e (4 + 3 * k + 1) (by omega), e (4 + 3 * k + 2) (by omega), f 182 (by omega) (by omega), f 183 (by omega) (by omega), f 184 (by omega) (by omega), f 185 (by omega) (by omega)]
      exact g3 k hk
    · rw [e 1 (by omega)] at hr
      rw [e (22 + 10 * r) (by omega), e (22 + 10 * r + 1) (by omega), e (22 + 10 * r + 2) (by omega), e (22 + 10 * r + 3) (by omega), f 189 (by omega) (by omega), f 190 (by omega) (by omega), f 191 (by omega) (by omega), f 192 (by omega) (by omega)]
      exact g4 r hr
theorem gr_cb {S S' : mm_S} {L L' : mm_L} {p1 p2 q1 q2 : Nat} (h : grC S L p1 p2 S' L' q1 q2) : cbF S S' := h.1.1
/-- what the scene's methods need of a ROUTINE -/
theorem cb_ro {S : mm_S} (hb : cbB S) {r : Nat} (hr : (r : Int) < S 181 9) : rtO S (22 + 10 * r) ∧ rtI S (22 + 10 * r) ∧ rtT S (22 + 10 * r) ∧ roC S r ∧ r < 6 ∧ ((mN S r : Nat) : Int) = S (22 + 10 * r) 0 ∧ mN S r ≤ 24 := by
  obtain ⟨h1, h2, h3, h4⟩ := hb
  have hr6 : r < 6 := by have := h4.1.2.1; omega
  have hbr := br_rt h3 hr
  have hm := h4.2.2.2 r hr
  have hI := h2 r hr6
  have hro := roC_of h3 h4 hr hI
  have hN := hro.2.1
  have hN24 : mN S r ≤ 24 := by have := (h4.1.2.2.2.2 r hr6).2; unfold mN; omega
  refine ⟨fun i hi => ?_, hI, ⟨fun i hi => ?_, fun i hi => ?_⟩, hro, hr6, hN.symm, hN24⟩
  · have hi' : i < mN S r := by omega
    have ok := hm.2.2.2 i hi'
    have e := hbr.2 i hi'
    rw [e.1, e.2.1, e.2.2]
    refine ⟨ok.1, ?_⟩
    have ok2 := ok.2
    unfold okB hasK
    unfold mokB mK at ok2
    rw [h3.1]
    exact ok2
  · have hi' : i < mN S r := by omega
    obtain ⟨k1, k2, k3, k4, k5⟩ := hro.2.2.2 i hi'
    have hT := trA_R (mSo S r) (midO (mSo S r) (mN S r)) i (mN S r)
    have hT : -1 ≤ tryM S r i ∧ tryM S r i < mN S r := hT
    have hTs : tryM S r i ≠ -1 → (tryM S r i) < i ∧ mSo S r (tryM S r i).toNat = 14 := fun z => by
      rcases trA_sp (mSo S r) (midO (mSo S r) (mN S r)) i (mN S r) with ⟨g, -⟩ | ⟨q, g1, g2, g3, -⟩
      · exact absurd g z
      · have g2 : tryM S r i = q := g2
        rw [g2, Int.toNat_natCast]; exact ⟨g3.2.1, g3.1⟩
    refine ⟨?_, ?_, fun z => ?_, ?_⟩
    · rw [k1, ← hro.2.1.symm]
      have hmi := midO_lt (mSo S r) (mN S r)
      have hei := endO_lt (mSo S r) (mN S r)
      have hbd : mSo S r i = 7 → hdS (mSo S r) i < i := fun z => by
        obtain ⟨o, g1, -⟩ := (hm.1 i hi').2.2.2.2 z
        rw [hdS_of g1]; exact (stk_top (stk_head g1)).2.1
      have a1 := hmi i
      have a2 := hei i
      have a3 := hei (hdS (mSo S r) i)
      unfold tgX
      split
      · split <;> omega
      · split
        · split
          · omega
          · split <;> omega
        · split
          · split <;> omega
          · split
            · rename_i q7
              have := hbd q7
              split <;> omega
            · omega
    · rw [k5]
      by_cases z : tryM S r i = -1
      · omega
      · have := (hTs z).1; omega
    · rw [k5] at z ⊢
      have q := hTs z
      rw [(hro.2.2.2 (tryM S r i).toNat (by omega)).2.1]
      unfold lvO
      rw [if_pos q.2]
      omega
    · rw [k2]
      have hl := stk_len (wfP_le hm.1 (Nat.le_of_lt hi'))
      unfold lvO
      by_cases q : mSo S r i = 14
      · rw [if_pos q]
        have := (hm.1 i hi').2.1 (Or.inr q)
        omega
      · rw [if_neg q]
        split
        · split <;> omega
        · omega
  · by_cases z : i < mN S r
    · exact (hro.2.2.2 i z).2.2.2.1
    · have : i = mN S r := by omega
      rw [this, hro.2.2.1]; omega
