/-! ===== what a STATEMENT does, in the scene and in the registers ===== -/
section
variable {S : mm_S} {a : Nat} {κ : kyT} {R : rgT}
theorem scV_st (h : scV S a) {j : Nat} {x : Int} (hx : 0 ≤ x ∧ x ≤ 6) : scV (up2 S (a + 3) j x) a := by
  obtain ⟨h1, h2, h3, h4, h5⟩ := h
  have e : ∀ b, b ≠ a + 3 → up2 S (a + 3) j x b = S b := fun b hb => up2_row hb
  refine ⟨?_, ?_, ?_, ?_, fun i hi => ⟨?_, ?_⟩⟩
  · rw [e a (by omega)]; exact h1
  · rw [e a (by omega)]; exact h2
  · rw [e a (by omega)]; exact h3
  · rw [e (a + 1) (by omega)]; exact h4
  · rw [e (a + 2) (by omega)]; exact (h5 i hi).1
  · by_cases q : i = j
    · subst q; rw [up2_same]; exact hx
    · rw [up2_rc q]; exact (h5 i hi).2
theorem scV_kd (h : scV S a) {j : Nat} {x : Int} (hx : 0 ≤ x ∧ x ≤ 5) : scV (up2 S (a + 2) j x) a := by
  obtain ⟨h1, h2, h3, h4, h5⟩ := h
  have e : ∀ b, b ≠ a + 2 → up2 S (a + 2) j x b = S b := fun b hb => up2_row hb
  refine ⟨?_, ?_, ?_, ?_, fun i hi => ⟨?_, ?_⟩⟩
  · rw [e a (by omega)]; exact h1
  · rw [e a (by omega)]; exact h2
  · rw [e a (by omega)]; exact h3
  · rw [e (a + 1) (by omega)]; exact h4
  · by_cases q : i = j
    · subst q; rw [up2_same]; exact hx
    · rw [up2_rc q]; exact (h5 i hi).1
  · rw [e (a + 3) (by omega)]; exact (h5 i hi).2
theorem scV_nm (h : scV S a) {v : Nat} {x : Int} (hx : -1 ≤ x ∧ x ≤ 5) : scV (up2 S (a + 1) v x) a := by
  obtain ⟨h1, h2, h3, h4, h5⟩ := h
  have e : ∀ b, b ≠ a + 1 → up2 S (a + 1) v x b = S b := fun b hb => up2_row hb
  refine ⟨?_, ?_, ?_, fun i hi => ?_, ?_⟩
  · rw [e a (by omega)]; exact h1
  · rw [e a (by omega)]; exact h2
  · rw [e a (by omega)]; exact h3
  · by_cases q : i = v
    · subst q; rw [up2_same]; exact hx
    · rw [up2_rc q]; exact h4 i hi
  · rw [e (a + 2) (by omega), e (a + 3) (by omega)]; exact h5
theorem scV_mk (h : scV S a) {v k : Int} (hk : 0 ≤ k ∧ k ≤ 5) : scV (mkS S a v k) a := by
  unfold mkS
  have hf := frF_R (up2 S (a + 1) v.toNat (-1) (a + 1)) 5 0 (by omega) (by omega)
  exact scV_st (scV_kd (scV_nm (scV_nm h (by omega)) (by show -1 ≤ frF (up2 S (a + 1) v.toNat (-1) (a + 1)) 5 0 ∧ frF (up2 S (a + 1) v.toNat (-1) (a + 1)) 5 0 ≤ 5; omega)) hk) (by omega)
theorem scF_mk {v k : Int} : scF S (mkS S a v k) a := fun b hb => by
  unfold mkS
  rw [up2_row (by omega), up2_row (by omega), up2_row (by omega), up2_row (by omega)]
theorem mF_okC (hm : mbC S) {c n : Int} (hc : okC S c) (h6 : c % 7 ≠ 6) (hn : 0 ≤ n ∧ n < 8) (hh : mH S (c / 7) (c % 7) n) {y : Prop} [Decidable y] : 0 ≤ mF S (c / 7) (c % 7) n y ∧ mF S (c / 7) (c % 7) n y < S 182 (c / 7).toNat := by
  have h1 := hc.1
  have h2 := hc.2.1
  have hw := (hm.2.1 (c / 7).toNat (by omega)).1
  have e1 : (((c / 7).toNat : Nat) : Int) = c / 7 := by omega
  have e2 : (((c % 7).toNat : Nat) : Int) = c % 7 := by omega
  have e3 : ((n.toNat : Nat) : Int) = n := by omega
  have := mF_st (k := (c / 7).toNat) (s := (c % 7).toNat) (n := n.toNat) (y := y) hm.1 hw (by omega) (by omega) (by rw [e1, e2, e3]; exact hh)
  rw [e1, e2, e3] at this
  exact this
end
section
variable {S : mm_S} {a : Nat} {κ : kyT} {pl : Nat} {R : rgT}
theorem sim_us (hb : brE S) (hm : mbC S) (h : simP S a κ pl R) {v n : Int} (hv : 0 ≤ v ∧ v < 5) (hn : 0 ≤ n ∧ n < 8) (h0 : R.1 v.toNat ≠ 0) (h6 : cdR κ.2.2.1 R (R.1 v.toNat) % 7 ≠ 6) (hh : mH S (cdR κ.2.2.1 R (R.1 v.toNat) / 7) (cdR κ.2.2.1 R (R.1 v.toNat) % 7) n) {y : Prop} [Decidable y] : scR (usS S a v n y) a κ (tnR R (R.1 v.toNat) (mF S (cdR κ.2.2.1 R (R.1 v.toNat) / 7) (cdR κ.2.2.1 R (R.1 v.toNat) % 7) n y)) ∧ rgV S κ (tnR R (R.1 v.toNat) (mF S (cdR κ.2.2.1 R (R.1 v.toNat) / 7) (cdR κ.2.2.1 R (R.1 v.toNat) % 7) n y)) ∧ scV (usS S a v n y) a := by
  obtain ⟨h1, h2, h3, h4, h5⟩ := h
  have okc := cd_ok h2.1 hm.1 (v := v.toNat) (by omega) h0
  have mf := mF_okC hm okc h6 hn hh (y := y)
  have e := sc_dm h1 h3 h2.1.2.1 hv h0
  have hc := h1.1 v.toNat (by omega)
  have hs : S (a + 1) v.toNat ≠ -1 := fun z => h0 (hc.1.mp z)
  have k0 := skO_R h3 hv
  have s0 := ssO_R h3 hv
  have okd := okc
  rw [okC, e.1, e.2] at okd
  have key := (kd_mH hb hm.1 (k := skO S a v) (s := ssO S a v) (n := n) ⟨k0.1, okd.2.1⟩ ⟨s0.1, by rw [e.2] at h6; omega⟩ hn).2.2 y
  have u2 := hm.1.2.2.1 (cdR κ.2.2.1 R (R.1 v.toNat) / 7).toNat (by have := hm.1.1; have := okc.1; have := okc.2.1; omega)
  have eu : usS S a v n y = up2 S (a + 3) (S (a + 1) v.toNat).toNat (mF S (cdR κ.2.2.1 R (R.1 v.toNat) / 7) (cdR κ.2.2.1 R (R.1 v.toNat) % 7) n y) := by
    unfold usS
    rw [e.1, e.2, ← key, skO_y hs, ssO_y hs]
  rw [eu]
  exact ⟨sc_turn h1 h3 h2.1.1 h2.1.2.1 (by omega) h0, rg_turn hm.1 h2.1 (by omega) h0 mf.1 (Or.inl mf.2), scV_st h3 (by omega)⟩
theorem sim_nx (hb : brE S) (hm : mbC S) (hκ : kyV S κ) (hro : roC S κ.2.1) (ha : 82 ≤ a) (h : simP S a κ pl R) (hp : pl < mN S κ.2.1) (hw : wrR S κ pl R = 0) {y : Prop} [Decidable y] : stP S a κ (gnP S a (22 + 10 * κ.2.1) y) (nxR S κ pl R y) := by
  have hr := br_rt hb hκ.2.1
  obtain ⟨e1, e2, e3⟩ := hr.2 pl hp
  have ep1 := h.2.2.2.1
  have ep : (S a 1).toNat = pl := by rw [ep1]; omega
  obtain ⟨c1, c2, c3, c4⟩ := hm.2.2.2 κ.2.1 hκ.2.1
  have wf := (c1 pl hp).1
  have ho4 := hro.2.2.2 pl hp
  have hRV := h.2.1.1
  have hV := h.2.2.1
  have nvn := hm.1.2.2.2.2 κ.2.1 (by have := hm.1.2.1; have := hκ.2.1; omega)
  have hend : ∀ o, opn (mSo S κ.2.1 o) → o < mN S κ.2.1 → 0 ≤ endO (mSo S κ.2.1) (mN S κ.2.1) o ∧ endO (mSo S κ.2.1) (mN S κ.2.1) o < mN S κ.2.1 := fun o h1 h2 => by have := blk_end c1 c2 h1 h2; omega
  have hmid := midO_lt (mSo S κ.2.1) (mN S κ.2.1)
  have gt : ∀ {S1 : mm_S} {R1 : rgT} {w : Int}, scF S S1 a → scR S1 a κ R1 → rgV S κ R1 → scV S1 a → S1 a 0 = S a 0 → 0 ≤ w ∧ w ≤ mN S κ.2.1 → stP S a κ (1, cmT S1 a (22 + 10 * κ.2.1) w) (gtR S κ.2.1 w R1) := fun f1 f2 f3 f4 f5 f6 => st_gt hm hκ.2.1 hro ha f1 f2 f3 f4 f5 f6
  have ot : ∀ {m : Int}, m = 1 ∨ m = 2 → stP S a κ (goP S a (22 + 10 * κ.2.1) m) (otR S κ.2.1 pl m R) := fun hm12 => st_ot hm hκ.2.1 hro ha (scF_rf S a) h.1 hRV hV rfl hp ep1 h.2.1.2.2 hm12
  unfold gnP nxR
  rw [ep, e1, e2, e3, ep1]
  by_cases x0 : mSo S κ.2.1 pl = 0
  · rw [if_pos x0, if_pos x0]
    have hk : (0 ≤ mBb S κ.2.1 pl ∧ mBb S κ.2.1 pl < S 181 0) ∧ 0 ≤ mAa S κ.2.1 pl ∧ mAa S κ.2.1 pl < 5 := by have ok := c4 pl hp; omega
    have u0 := hm.1.1
    exact gt scF_mk (sc_make h.1 hV hRV.1 hk.2) (rg_make hm.1 hm.2.1 hRV (by omega) hk.1) (scV_mk hV (by omega)) (mkS_rd (Nat.le_refl _)) (by omega)
  · rw [if_neg x0, if_neg x0]
    by_cases x1 : mSo S κ.2.1 pl = 1 ∨ mSo S κ.2.1 pl = 2 ∨ mSo S κ.2.1 pl = 5
    · rw [if_pos x1, if_pos x1]
      have u := wr_use x1 hw
      have hk : (0 ≤ mBb S κ.2.1 pl ∧ mBb S κ.2.1 pl < 8) ∧ 0 ≤ mAa S κ.2.1 pl ∧ mAa S κ.2.1 pl < 5 := by have ok := c4 pl hp; omega
      obtain ⟨q1, q2, q3⟩ := sim_us hb hm h (v := mAa S κ.2.1 pl) (n := mBb S κ.2.1 pl) hk.2 hk.1 u.1 u.2.1 u.2.2 (y := y)
      have fF : scF S (usS S a (mAa S κ.2.1 pl) (mBb S κ.2.1 pl) y) a := scF_up (by omega)
      have f0 : usS S a (mAa S κ.2.1 pl) (mBb S κ.2.1 pl) y a 0 = S a 0 := usS_rd (by omega)
      by_cases q : mSo S κ.2.1 pl ≠ 1 ∧ ¬ y
      · rw [if_pos q, if_pos q, ho4.1]
        have hop : opn (mSo S κ.2.1 pl) := Or.inl (by omega)
        have he := hend pl hop hp
        have eb : tgX (mSo S κ.2.1) (mN S κ.2.1) pl = bnM S κ.2.1 pl := by
          unfold tgX bnM
          rw [if_neg (by omega), if_pos (by omega)]
          by_cases qm : midO (mSo S κ.2.1) (mN S κ.2.1) pl ≠ -1
          · rw [if_pos qm, if_pos qm]
          · rw [if_neg qm, if_neg qm, if_pos (by omega)]
        rw [eb]
        refine gt fF q1 q2 q3 f0 ?_
        have := hmid pl
        unfold bnM
        split <;> omega
      · rw [if_neg q, if_neg q]
        exact gt fF q1 q2 q3 f0 (by omega)
    · rw [if_neg x1, if_neg x1]
      by_cases x3 : mSo S κ.2.1 pl = 3 ∨ mSo S κ.2.1 pl = 4
      · rw [if_pos x3, if_pos x3]
        by_cases q : ¬ y
        · rw [if_pos q, if_pos q, ho4.1]
          have hop : opn (mSo S κ.2.1 pl) := Or.inl (by omega)
          have he := hend pl hop hp
          have eb : tgX (mSo S κ.2.1) (mN S κ.2.1) pl = bnM S κ.2.1 pl := by
            unfold tgX bnM
            rw [if_neg (by omega), if_pos (by omega)]
            by_cases qm : midO (mSo S κ.2.1) (mN S κ.2.1) pl ≠ -1
            · rw [if_pos qm, if_pos qm]
            · rw [if_neg qm, if_neg qm, if_pos (by omega)]
          rw [eb]
          refine gt (scF_rf S a) h.1 hRV hV rfl ?_
          have := hmid pl
          unfold bnM
          split <;> omega
        · rw [if_neg q, if_neg q]
          exact gt (scF_rf S a) h.1 hRV hV rfl (by omega)
      · rw [if_neg x3, if_neg x3]
        by_cases x6 : mSo S κ.2.1 pl = 6
        · rw [if_pos x6, if_pos x6, ho4.1]
          obtain ⟨o, g1, -, g3⟩ := (c1 pl hp).2.2.1 x6
          have g4 := stk_top (stk_head g1)
          have he := hend o g4.2.2 (by omega)
          have eb : tgX (mSo S κ.2.1) (mN S κ.2.1) pl = endO (mSo S κ.2.1) (mN S κ.2.1) (hdS (mSo S κ.2.1) pl) + 1 := by
            unfold tgX
            rw [if_neg (by omega), if_neg (by omega), if_pos x6, hdS_of g1, if_pos (by omega)]
          rw [eb, hdS_of g1]
          exact gt (scF_rf S a) h.1 hRV hV rfl (by omega)
        · rw [if_neg x6, if_neg x6]
          by_cases x7 : mSo S κ.2.1 pl = 7
          · rw [if_pos x7, if_pos x7]
            obtain ⟨o, g1, -⟩ := (c1 pl hp).2.2.2.2 x7
            have g4 := stk_top (stk_head g1)
            have eh := hdS_of g1
            have hl : (stk (mSo S κ.2.1) pl).length = (stk (mSo S κ.2.1) o).length + 1 := by rw [stk_head g1]; rfl
            have hl6 := stk_len (wfP_le c1 (Nat.le_of_lt hp))
            have emd : mdT S a (22 + 10 * κ.2.1) = ehR S κ.2.1 pl R := by
              have elv : lvO (mSo S κ.2.1) pl = if mSo S κ.2.1 o = 14 then ((stk (mSo S κ.2.1) pl).length : Int) - 1 else -1 := by
                unfold lvO
                rw [if_neg (show ¬ mSo S κ.2.1 pl = 14 by omega), g1]
                show (if mSo S κ.2.1 pl = 7 ∧ mSo S κ.2.1 o = 14 then ((stk (mSo S κ.2.1) pl).length : Int) - 1 else -1) = _
                by_cases q : mSo S κ.2.1 o = 14
                · rw [if_pos ⟨x7, q⟩, if_pos q]
                · rw [if_neg (fun z => q z.2), if_neg q]
              unfold mdT ehR
              rw [ep, ho4.2.1, eh, elv]
              by_cases q : mSo S κ.2.1 o = 14
              · have har : arA (mSo S κ.2.1) o = ((stk (mSo S κ.2.1) o).length : Int) := by unfold arA; rw [if_neg (by omega)]
                rw [if_pos q, if_neg (by omega), if_pos q, har, Int.toNat_natCast, show ((stk (mSo S κ.2.1) pl).length : Int) - 1 = ((stk (mSo S κ.2.1) o).length : Int) by omega, pw4, ← h.1.2.2.2.2 _ (by omega)]
              · rw [if_neg q, if_pos rfl, if_neg q]
            rw [emd]
            by_cases q : ehR S κ.2.1 pl R ≠ 0
            · rw [if_pos q, if_pos q]
              refine ot ?_
              unfold ehR at q ⊢
              rw [eh] at q ⊢
              by_cases q2 : mSo S κ.2.1 o = 14
              · rw [if_pos q2] at q ⊢
                have har : arA (mSo S κ.2.1) o = ((stk (mSo S κ.2.1) o).length : Int) := by unfold arA; rw [if_neg (by omega)]
                rw [har, Int.toNat_natCast] at q ⊢
                have := hRV.2.2.2.2.2 (stk (mSo S κ.2.1) o).length (by omega)
                have := hRV.1.2.2.2 (stk (mSo S κ.2.1) o).length (by omega)
                omega
              · rw [if_neg q2] at q
                exact absurd rfl q
            · rw [if_neg q, if_neg q, ho4.1]
              have eb : tgX (mSo S κ.2.1) (mN S κ.2.1) pl = if mSo S κ.2.1 (hdS (mSo S κ.2.1) pl) = 4 ∨ mSo S κ.2.1 (hdS (mSo S κ.2.1) pl) = 5 then (hdS (mSo S κ.2.1) pl : Int) else (pl : Int) + 1 := by
                unfold tgX
                rw [if_neg (by omega), if_neg (by omega), if_neg (by omega), if_pos x7]
              rw [eb]
              refine gt (scF_rf S a) h.1 hRV hV rfl ?_
              rw [eh]
              split <;> omega
          · rw [if_neg x7, if_neg x7]
            by_cases x8 : mSo S κ.2.1 pl = 8
            · rw [if_pos x8, if_pos x8]
              have hk : (0 ≤ mBb S κ.2.1 pl ∧ mBb S κ.2.1 pl < 5) ∧ 0 ≤ mAa S κ.2.1 pl ∧ mAa S κ.2.1 pl < 5 := by have ok := c4 pl hp; omega
              have hB5 : (mBb S κ.2.1 pl).toNat < 5 := by omega
              have hcb := h.1.1 (mBb S κ.2.1 pl).toNat hB5
              have hsl := hV.2.2.2.1 (mBb S κ.2.1 pl).toNat hB5
              exact gt (scF_up (by omega)) (sc_name h.1 (by omega) (fun w hw => h.1.2.1 w _ hw hB5) hcb.1 hcb.2 (fun q1 q2 => h.1.2.2.1 _ hB5 q1 q2)) (rg_name hRV (by omega) (Or.inr ⟨_, hB5, rfl⟩)) (scV_nm hV hsl) (up2_rd (by omega)) (by omega)
            · rw [if_neg x8, if_neg x8]
              by_cases x9 : mSo S κ.2.1 pl = 9
              · rw [if_pos x9, if_pos x9]
                have hk : 0 ≤ mAa S κ.2.1 pl ∧ mAa S κ.2.1 pl < 5 := by have ok := c4 pl hp; omega
                exact gt (scF_up (by omega)) (sc_name h.1 (by omega) (fun w hw => (h.1.1 w hw).1) (by omega) (by omega) (fun q1 q2 => absurd rfl q1)) (rg_name hRV (by omega) (Or.inl rfl)) (scV_nm hV (by omega)) (up2_rd (by omega)) (by omega)
              · rw [if_neg x9, if_neg x9]
                by_cases x12 : mSo S κ.2.1 pl = 12
                · rw [if_pos x12, if_pos x12]
                  exact ot (Or.inl rfl)
                · rw [if_neg x12, if_neg x12]
                  by_cases x13 : mSo S κ.2.1 pl = 13
                  · rw [if_pos x13, if_pos x13]
                    exact ot (Or.inr rfl)
                  · rw [if_neg x13, if_neg x13]
                    exact gt (scF_rf S a) h.1 hRV hV rfl (by omega)
theorem sim_cb (hb : brE S) (hm : mbC S) (hκ : kyV S κ) (hro : roC S κ.2.1) (ha : 82 ≤ a) (h : simP S a κ pl R) (hp : pl < mN S κ.2.1) (hx : mSo S κ.2.1 pl = 10 ∨ mSo S κ.2.1 pl = 11) (hw : wrR S κ pl R = 0) {f : Prop} [Decidable f] {q : Int} (hq : mSo S κ.2.1 pl = 10 → 0 ≤ q ∧ q < S 182 (cdR κ.2.2.1 R (R.1 (mBb S κ.2.1 pl).toNat) / 7).toNat) : stP S a κ (cbP S a (22 + 10 * κ.2.1) f q) (cbR S κ pl R f q) := by
  have hr := br_rt hb hκ.2.1
  obtain ⟨e1, e2, e3⟩ := hr.2 pl hp
  have ep1 := h.2.2.2.1
  have ep : (S a 1).toNat = pl := by rw [ep1]; omega
  obtain ⟨c1, c2, c3, c4⟩ := hm.2.2.2 κ.2.1 hκ.2.1
  have hk5 : 0 ≤ mBb S κ.2.1 pl ∧ mBb S κ.2.1 pl < 5 := by have ok := c4 pl hp; omega
  have hRV := h.2.1.1
  have hV := h.2.2.1
  have u := wr_call hx hw
  have hB5 : (mBb S κ.2.1 pl).toNat < 5 := by omega
  have hcb := h.1.1 (mBb S κ.2.1 pl).toNat hB5
  have okc := cd_ok hRV hm.1 hB5 u.1
  have u2 := hm.1.2.2.1 (cdR κ.2.2.1 R (R.1 (mBb S κ.2.1 pl).toNat) / 7).toNat (by have := hm.1.1; have := okc.1; have := okc.2.1; omega)
  obtain ⟨x, hxx⟩ : ∃ x, (if mSo S κ.2.1 pl = 11 then (6 : Int) else q) = x := ⟨_, rfl⟩
  have hx06 : 0 ≤ x ∧ x ≤ 6 := by rw [← hxx]; split <;> omega
  have ecb : cbS S a (22 + 10 * κ.2.1) q = up2 S (a + 3) (S (a + 1) (mBb S κ.2.1 pl).toNat).toNat x := by
    unfold cbS
    rw [ep, e3, e1, if_neg (fun z => u.1 (hcb.1.mp z)), hxx]
  have s1 : scR (cbS S a (22 + 10 * κ.2.1) q) a κ (cbT S κ pl R q) := by
    rw [ecb]
    show scR _ a κ (tnR R _ (if mSo S κ.2.1 pl = 11 then (6 : Int) else q))
    rw [hxx]
    exact sc_turn h.1 hV hRV.1 hRV.2.1 hB5 u.1
  have s2 : rgV S κ (cbT S κ pl R q) := by
    refine rg_turn hm.1 hRV hB5 u.1 (by rw [hxx]; exact hx06.1) ?_
    by_cases e : mSo S κ.2.1 pl = 11
    · rw [if_pos e]; exact Or.inr ⟨rfl, fun z => u.2.2 ⟨e, z⟩⟩
    · rw [if_neg e]; exact Or.inl (hq (by omega)).2
  have s3 : scV (cbS S a (22 + 10 * κ.2.1) q) a := by rw [ecb]; exact scV_st hV hx06
  have sF : scF S (cbS S a (22 + 10 * κ.2.1) q) a := by rw [ecb]; exact scF_up (by omega)
  have eP : (cbT S κ pl R q).2.2.2 = R.2.2.2 := by
    show (tnR R _ _).2.2.2 = _
    unfold tnR
    split <;> rfl
  unfold cbP cbR
  by_cases hf : f
  · rw [if_pos hf, if_pos hf]
    exact st_ot hm hκ.2.1 hro ha sF s1 s2 s3 (cbS_rd (by omega)) hp (by rw [cbS_rd (by omega)]; exact ep1) (fun k hk hne => h.2.1.2.2 k hk (by rw [← eP]; exact hne)) (Or.inr rfl)
  · rw [if_neg hf, if_neg hf, ep1]
    exact st_gt hm hκ.2.1 hro ha sF s1 s2 s3 (cbS_rd (by omega)) (by omega)
end
