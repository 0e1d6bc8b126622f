/-! ===== routine statement cut of both ===== -/
theorem pr_routine {S : mm_S} (h : BK S) : routineR S = mroutineR (routineS S) ∧ BK (mroutineS (routineS S)) ∧ okF2 S (mroutineS (routineS S)) ∧ ∀ b, 85 ≤ b → routineS S b = S b := by
  have hv := h.1.1
  have b1 := h.2.1.2.1
  have hi : ∀ b, b ≠ 1 → routineS S b = S b := by
    intro b hb
    unfold routineS
    split
    · exact up2_row hb
    · rfl
  have h181 := hi 181 (by omega)
  unfold routineR mroutineR mroutineS
  rw [h181]
  by_cases h6 : S 1 1 < 6
  · rw [if_pos h6, if_pos (by omega), if_pos (by omega)]
    refine ⟨b1, ?_, ?_, fun b hb => hi b (by omega)⟩
    · obtain ⟨n, hn⟩ := Int.eq_ofNat_of_zero_le hv.2.1.1
      rw [hn, Int.toNat_natCast]
      have e1 : routineS S = up2 S 1 1 ((n : Int) + 1) := by
        unfold routineS
        rw [if_pos h6, show S 1 1 = n by omega]
      refine BK_new (n := n) h hn (by omega) (fun b h1 h2 => ?_) ?_ ?_ (fun b h1 h2 h3 => ?_) (fun j => ?_) ?_ ?_ ?_
      · rw [up2_row (by omega), up2_row (by omega), hi b (by omega)]
      · rw [up2_rd (by omega), up2_rd (by omega), e1, up2_rc (by omega)]
      · rw [up2_rd (by omega), up2_rd (by omega), e1, up2_same]
      · rw [up2_row (by omega), up2_row h3, hi b (by omega)]
      · rw [up2_rd (by omega)]
        by_cases e : j = n
        · rw [if_pos e, e, up2_same]
        · rw [if_neg e, up2_rc e, hi 189 (by omega)]
      · rw [up2_rc (by omega), up2_rd (by omega), h181]
      · rw [up2_same]
      · rw [up2_rd (by omega), up2_rd (by omega), up2_rc (by omega), up2_rd (by omega), h181, hi 0 (by omega)]
        exact h.2.2.2.2
    · refine ⟨fun b h1 h2 => ?_, fun j hj => ?_, ?_⟩
      · rw [up2_row (by omega), up2_row (by omega), hi b (by omega)]
      · rw [up2_rc (by omega), up2_rd (by omega), h181]
      · rw [up2_rd (by omega), up2_rd (by omega), hi 0 (by omega)]
  · have eS : routineS S = S := by
      unfold routineS
      rw [if_neg h6]
    rw [if_neg h6, if_neg (by omega), if_neg (by omega), eS]
    exact ⟨rfl, h, okF2_rf S, fun _ _ => rfl⟩
theorem pk_A {x a : Int} (h : okA x a) : (0 ≤ pick (lookA x) a ∧ pick (lookA x) a ≤ 5) ∧ okA x (pick (lookA x) a) := by
  unfold pick
  by_cases hl : lookA x
  · rw [if_pos hl]
    refine ⟨?_, h⟩
    rcases h with e | ⟨-, e⟩ | ⟨-, e⟩
    · exact absurd hl e
    · omega
    · omega
  · rw [if_neg hl]
    exact ⟨by omega, Or.inl hl⟩
theorem pk_B {S : mm_S} {x b : Int} (h6 : S 181 0 ≤ 6) (h : mokB S x b) : (0 ≤ pick (lookB x) b ∧ pick (lookB x) b ≤ 7) ∧ mokB S x (pick (lookB x) b) := by
  unfold pick
  by_cases hl : lookB x
  · rw [if_pos hl]
    refine ⟨?_, h⟩
    rcases h with e | ⟨-, e⟩ | ⟨-, e⟩ | ⟨-, e⟩
    · exact absurd hl e
    · unfold mK at e
      omega
    · omega
    · omega
  · rw [if_neg hl]
    exact ⟨by omega, Or.inl hl⟩
theorem okB_iff {S : mm_S} (h : BK S) (x b : Int) : okB S x b ↔ mokB S x b := by
  unfold okB mokB hasK mK
  rw [h.2.1.1]
theorem mokB_of {S S1 : mm_S} (e : S1 181 = S 181) (x b : Int) : mokB S1 x b = mokB S x b := by
  unfold mokB mK
  rw [e]
theorem may_iff {S : mm_S} (h : BK S) {r x : Int} (hr : mR S r) : mayT (S (22 + 10 * r.toNat + 1)) (S (22 + 10 * r.toNat) 0).toNat x ↔ mayT (fun j => S 190 (25 * r.toNat + j)) (S 189 r.toNat).toNat x := by
  obtain ⟨e0, e1⟩ := br_r h hr
  have h4 := h.1.1.2.2.2.2 r.toNat (by unfold mR at hr; have := h.1.1.2.1; omega)
  rw [e0]
  exact mayT_congr (fun i hi => (e1 i (by omega)).1)
theorem apS_row {S : mm_S} {a b : Nat} {x y z : Int} (h0 : b ≠ a) (h1 : b ≠ a + 1) (h2 : b ≠ a + 2) (h3 : b ≠ a + 3) : apS S a x y z b = S b := by
  unfold apS
  rw [up2_row h0, up2_row h3, up2_row h2, up2_row h1]
theorem wk_k {S S' : mm_S} {r : Nat} (h : wkF S S' r) : wkA S S' := ⟨h.1, h.2.1⟩
set_option maxHeartbeats 4000000 in
theorem pr_st {S S1 S2 : mm_S} (h : BK S) {r x a b v w : Int} (hc : cstQ S S1 r x a b v) (hm : mstQ S1 S2 r x a b w) : v = w ∧ BK S2 ∧ okF2 S S2 := by
  have hv := h.1.1
  have hr6 : mR S r → r.toNat < 6 := fun z => by unfold mR at z; have := hv.2.1; omega
  have hi : (∀ b, 85 ≤ b → S1 b = S b) ∧ S1 0 = S 0 := by
    rcases hc with ⟨-, -, e⟩ | ⟨-, -, -, e⟩ | ⟨-, -, -, -, e⟩ | ⟨ok, -, -, -, e, -, -⟩
    · rw [e]; exact ⟨fun _ _ => rfl, rfl⟩
    · rw [e]; exact ⟨fun _ _ => rfl, rfl⟩
    · rw [e]; exact ⟨fun _ _ => rfl, rfl⟩
    · have hr := hr6 ((r_iff h r).mp ok.1)
      refine ⟨fun b hb => ?_, ?_⟩
      · rw [e.1 b (by omega), apS_row (by omega) (by omega) (by omega) (by omega)]
      · rw [e.1 0 (by omega), apS_row (by omega) (by omega) (by omega) (by omega)]
  obtain ⟨hi, hi0⟩ := hi
  have h181 := hi 181 (by omega)
  have hok : cokSt S r x a b ↔ mokSt S1 r x a b := by
    unfold cokSt mokSt
    rw [r_iff h, okB_iff h, mokB_of h181]
    unfold mR
    rw [h181]
  have hmay : mR S r → (mayT (S (22 + 10 * r.toNat + 1)) (S (22 + 10 * r.toNat) 0).toNat x ↔ mayT (fun j => S1 190 (25 * r.toNat + j)) (S1 189 r.toNat).toNat x) := fun hr => by
    rw [hi 190 (by omega), hi 189 (by omega)]
    exact may_iff h hr
  have hlen : mR S r → S (22 + 10 * r.toNat) 0 = S1 189 r.toNat := fun hr => by rw [hi 189 (by omega)]; exact (br_r h hr).1
  rcases hc with ⟨c1, c2, c3⟩ | ⟨c1, c2, c3, c4⟩ | ⟨c1, c2, c3, c4, c5⟩ | ⟨c1, c2, c3, c4, c5, c6, c7⟩
  · rcases hm with ⟨m1, m2, m3⟩ | ⟨m1, -⟩ | ⟨m1, -⟩ | ⟨m1, -⟩
    · rw [c2, m2, m3, c3]
      exact ⟨rfl, h, okF2_rf S⟩
    · exact absurd (hok.mpr m1) c1
    · exact absurd (hok.mpr m1) c1
    · exact absurd (hok.mpr m1) c1
  · have hr := (r_iff h r).mp c1.1
    rcases hm with ⟨m1, -⟩ | ⟨m1, m2, m3, m4⟩ | ⟨m1, m2, -⟩ | ⟨m1, m2, -⟩
    · exact absurd (hok.mp c1) m1
    · subst c4
      exact ⟨by rw [c3, m3], BK_wk h (wk_k m4), okF2_wk (wk_k m4)⟩
    · exact absurd ((hmay hr).mpr m2) c2
    · exact absurd ((hmay hr).mpr m2) c2
  · have hr := (r_iff h r).mp c1.1
    have hl := hlen hr
    rcases hm with ⟨m1, -⟩ | ⟨m1, m2, -⟩ | ⟨m1, m2, m3, m4, m5⟩ | ⟨m1, m2, m3, -⟩
    · exact absurd (hok.mp c1) m1
    · exact absurd ((hmay hr).mp c2) m2
    · subst c5
      exact ⟨by rw [c4, m4], BK_wk h (wk_k m5), okF2_wk (wk_k m5)⟩
    · omega
  · have hr := (r_iff h r).mp c1.1
    have hl := hlen hr
    rcases hm with ⟨m1, -⟩ | ⟨m1, m2, -⟩ | ⟨m1, m2, m3, m4, m5⟩ | ⟨m1, m2, m3, m4, T, m5, m6⟩
    · exact absurd (hok.mp c1) m1
    · exact absurd ((hmay hr).mp c2) m2
    · omega
    · refine ⟨by rw [c4, m4, hl], ?_⟩
      have hpA := pk_A c1.2.2.1
      have hpB := pk_B (S := S) (by have := hv.1; omega) ((okB_iff h x b).mp c1.2.2.2)
      have hx := c1.2.1
      generalize pick (lookA x) a = y at *
      generalize pick (lookB x) b = z at *
      have hr66 := hr6 hr
      have hrn : r.toNat < S 181 9 := by unfold mR at hr; omega
      obtain ⟨e0, e1⟩ := br_r h hr
      have hR0 := h.2.2.2.1.1 r.toNat hr66
      generalize hR : r.toNat = R at *
      clear hmay hlen hr6 hok
      obtain ⟨n, hn⟩ := Int.eq_ofNat_of_zero_le hR0.1.1
      have hn89 : S1 189 R = n := by omega
      have hS89 : S 189 R = n := by omega
      rw [hn89, Int.toNat_natCast] at m6
      have hT : ∀ b, b ≠ 193 → b ≠ 194 → b ≠ 195 → b ≠ 196 → b ≠ 197 → b ≠ 181 → T b = S1 b := m5.1
      have hT1 : ∀ j, j ≠ 19 → T 181 j = S1 181 j := m5.2.1
      have hlo : ∀ b, b < 181 → S2 b = S1 b := fun b hb => by
        rw [m6, up2_row (by omega), up2_row (by omega), up2_row (by omega), up2_row (by omega), hT b (by omega) (by omega) (by omega) (by omega) (by omega) (by omega)]
      have h2181 : ∀ j, j ≠ 19 → S2 181 j = S 181 j := fun j hj => by
        rw [m6, up2_rd (by omega), up2_rd (by omega), up2_rd (by omega), up2_rd (by omega), hT1 j hj, h181]
      have ha0 : S1 (22 + 10 * R) 0 = (n : Int) + 1 := by
        rw [c5.2.2.2.2 0 (by omega)]
        unfold apS
        rw [up2_same, hn]
      have hs1 : S1 (22 + 10 * R + 1) = fun j => if j = n then x else S (22 + 10 * R + 1) j := by
        rw [c5.2.1, ap_so, hn, Int.toNat_natCast]
      have hs2 : S1 (22 + 10 * R + 2) = fun j => if j = n then y else S (22 + 10 * R + 2) j := by
        rw [c5.2.2.1]
        funext j
        unfold apS
        rw [up2_rd (by omega), up2_rd (by omega), hn, Int.toNat_natCast]
        by_cases e : j = n
        · rw [if_pos e, e, up2_same]
        · rw [if_neg e, up2_rc e, up2_rd (by omega)]
      have hs3 : S1 (22 + 10 * R + 3) = fun j => if j = n then z else S (22 + 10 * R + 3) j := by
        rw [c5.2.2.2.1]
        funext j
        unfold apS
        rw [up2_rd (by omega), hn, Int.toNat_natCast]
        by_cases e : j = n
        · rw [if_pos e, e, up2_same]
        · rw [if_neg e, up2_rc e, up2_rd (by omega), up2_rd (by omega)]
      have h190 : ∀ j, S2 190 j = if j = 25 * R + n then x else S 190 j := fun j => by
        rw [m6, up2_rd (by omega), up2_rd (by omega), up2_rd (by omega)]
        by_cases e : j = 25 * R + n
        · rw [if_pos e, e, up2_same]
        · rw [if_neg e, up2_rc e, hT 190 (by omega) (by omega) (by omega) (by omega) (by omega) (by omega), hi 190 (by omega)]
      have h191 : ∀ j, S2 191 j = if j = 25 * R + n then y else S 191 j := fun j => by
        rw [m6, up2_rd (by omega), up2_rd (by omega)]
        by_cases e : j = 25 * R + n
        · rw [if_pos e, e, up2_same]
        · rw [if_neg e, up2_rc e, up2_rd (by omega), hT 191 (by omega) (by omega) (by omega) (by omega) (by omega) (by omega), hi 191 (by omega)]
      have h192 : ∀ j, S2 192 j = if j = 25 * R + n then z else S 192 j := fun j => by
        rw [m6, up2_rd (by omega)]
        by_cases e : j = 25 * R + n
        · rw [if_pos e, e, up2_same]
        · rw [if_neg e, up2_rc e, up2_rd (by omega), up2_rd (by omega), hT 192 (by omega) (by omega) (by omega) (by omega) (by omega) (by omega), hi 192 (by omega)]
      have hRI : rtI S1 (22 + 10 * R) := by
        refine ⟨by omega, ?_, ?_, ?_, fun i => ?_⟩
        · rw [ha0, c5.2.1]
          have := ap_wf (y := y) (z := z) hR0 hx c2
          rw [hn, Int.toNat_natCast] at this
          exact this
        · rw [ha0, c5.2.1]
          rw [hn, Int.toNat_natCast] at c6
          exact c6
        · rw [ha0]
          rw [hn, Int.toNat_natCast] at c7
          exact c7
        · rw [hs1, hs2, hs3]
          have := hR0.2.2.2.2 i
          simp only []
          split
          · exact ⟨hx, hpA.1, hpB.1⟩
          · exact this
      refine ⟨BK_ro (r := R) (n := (n : Int) + 1) h hrn (fun b h1 h2 h3 => ?_) (rtI_of (fun b h1 h2 => hlo b (by omega)) hRI) ?_ (fun b h1 h2 => ?_) (h2181 0 (by omega)) (h2181 9 (by omega)) ?_ (fun j => ?_) (fun j hj => ?_) (fun i => ?_) (fun i hin => ?_) (fun i hin => ?_), ⟨fun b h1 h2 => ?_, fun j hj => h2181 j (by omega), ?_⟩⟩
      · rw [hlo b (by omega), c5.1 b h3, apS_row (by omega) (by omega) (by omega) (by omega)]
      · rw [hlo _ (by omega), ha0]
      · rw [m6, up2_row (by omega), up2_row (by omega), up2_row (by omega), up2_row (by omega), hT b (by omega) (by omega) (by omega) (by omega) (by omega) (by omega), hi b (by omega)]
      · rw [hlo 0 (by omega), hi0, h2181 5 (by omega)]
        exact h.2.2.2.2
      · rw [m6]
        by_cases e : j = R
        · rw [if_pos e, e, up2_same]
        · rw [if_neg e, up2_rc e, up2_rd (by omega), up2_rd (by omega), up2_rd (by omega), hT 189 (by omega) (by omega) (by omega) (by omega) (by omega) (by omega), hi 189 (by omega)]
      · rw [h190, h191, h192, if_neg (by omega), if_neg (by omega), if_neg (by omega)]
        exact ⟨rfl, rfl, rfl⟩
      · rw [h190, h191, h192]
        have := h.1.2.2.1 i
        split
        · exact ⟨hx, hpA.1, hpB.1⟩
        · exact this
      · rw [hlo (22 + 10 * R + 1) (by omega), hlo (22 + 10 * R + 2) (by omega), hlo (22 + 10 * R + 3) (by omega), hs1, hs2, hs3, h190, h191, h192]
        simp only []
        by_cases e : i = n
        · rw [if_pos e, if_pos e, if_pos e, if_pos (by omega), if_pos (by omega), if_pos (by omega)]
          exact ⟨rfl, rfl, rfl⟩
        · rw [if_neg e, if_neg e, if_neg e, if_neg (by omega), if_neg (by omega), if_neg (by omega)]
          exact e1 i (by omega)
      · rw [h190, h191, h192]
        by_cases e : i = n
        · rw [if_pos (by omega), if_pos (by omega), if_pos (by omega)]
          exact ⟨hpA.2, hpB.2⟩
        · rw [if_neg (by omega), if_neg (by omega), if_neg (by omega)]
          exact h.1.2.2.2.2 R hrn i (by unfold mN; omega)
      · by_cases hb : b < 181
        · rw [hlo b hb, hi b h1]
        · rw [m6, up2_row (by omega), up2_row (by omega), up2_row (by omega), up2_row (by omega), hT b (by omega) (by omega) (by omega) (by omega) (by omega) (by omega), hi b (by omega)]
      · rw [hlo 0 (by omega), hi0]
set_option maxHeartbeats 4000000 in
theorem pr_cut {S S1 : mm_S} (h : BK S) {r v : Int} (hc : ccutQ S S1 r v) : v = mcutR S1 r ∧ BK (mcutS S1 r) ∧ okF2 S (mcutS S1 r) ∧ BKm S1 := by
  have hv := h.1.1
  have hr6 : mR S r → r.toNat < 6 := fun z => by unfold mR at z; have := hv.2.1; omega
  have hrm : ∀ (a b : Nat), b ≠ a → rmS S a b = S b := fun a b hb => by unfold rmS; exact up2_row hb
  have hi : (∀ b, 85 ≤ b → S1 b = S b) ∧ S1 0 = S 0 := by
    rcases hc with ⟨-, -, e⟩ | ⟨-, -, -, e⟩ | ⟨ok, -, -, e, -, -⟩
    · rw [e]; exact ⟨fun _ _ => rfl, rfl⟩
    · rw [e]; exact ⟨fun _ _ => rfl, rfl⟩
    · have hr := hr6 ((r_iff h r).mp ok)
      refine ⟨fun b hb => ?_, ?_⟩
      · rw [e.1 b (by omega), hrm _ _ (by omega)]
      · rw [e.1 0 (by omega), hrm _ _ (by omega)]
  obtain ⟨hi, hi0⟩ := hi
  have hbm := BKm_hi h hi
  have h181 := hi 181 (by omega)
  have h189 := hi 189 (by omega)
  have hmR : mR S1 r = mR S r := by unfold mR; rw [h181]
  unfold mcutR mcutS
  rcases hc with ⟨c1, c2, c3⟩ | ⟨c1, c2, c3, c4⟩ | ⟨c1, c2, c3, c4, c5, c6⟩
  · have hr : ¬ mR S1 r := by rw [hmR]; exact fun z => c1 ((r_iff h r).mpr z)
    rw [if_neg hr, if_neg hr, c3]
    exact ⟨c2, h, okF2_rf S, h.1⟩
  · have hr0 := (r_iff h r).mp c1
    have hr : mR S1 r := by rw [hmR]; exact hr0
    have e0 := (br_r h hr0).1
    rw [if_pos hr, if_pos hr, if_pos (by rw [h189]; omega), if_pos (by rw [h189]; omega), c4]
    exact ⟨c3, h, okF2_rf S, h.1⟩
  · have hr0 := (r_iff h r).mp c1
    have hr : mR S1 r := by rw [hmR]; exact hr0
    obtain ⟨e0, e1⟩ := br_r h hr0
    have h9 : S1 189 r.toNat = S 189 r.toNat := by rw [h189]
    rw [if_pos hr, if_pos hr, if_neg (by omega), if_neg (by omega)]
    refine ⟨by omega, ?_, ?_, hbm⟩
    · have hr66 := hr6 hr0
      have hrn : r.toNat < S 181 9 := by unfold mR at hr0; omega
      have hR0 := h.2.2.2.1.1 r.toNat hr66
      generalize hR : r.toNat = R at *
      clear hr6
      obtain ⟨n, hn⟩ := Int.eq_ofNat_of_zero_le (show 0 ≤ S (22 + 10 * R) 0 - 1 by omega)
      have hn1 : S (22 + 10 * R) 0 = (n : Int) + 1 := by omega
      have hlo : ∀ b, b ≠ 189 → up2 S1 189 R (S1 189 R - 1) b = S1 b := fun b hb => up2_row hb
      have ha0 : S1 (22 + 10 * R) 0 = n := by
        rw [c4.2.2.2.2 0 (by omega)]
        unfold rmS
        rw [up2_same]
        omega
      have hs1 : S1 (22 + 10 * R + 1) = S (22 + 10 * R + 1) := by rw [c4.2.1, hrm _ _ (by omega)]
      have hs2 : S1 (22 + 10 * R + 2) = S (22 + 10 * R + 2) := by rw [c4.2.2.1, hrm _ _ (by omega)]
      have hs3 : S1 (22 + 10 * R + 3) = S (22 + 10 * R + 3) := by rw [c4.2.2.2.1, hrm _ _ (by omega)]
      rw [hn1, show ((n : Int) + 1).toNat - 1 = n by omega] at c5 c6
      have hRI : rtI S1 (22 + 10 * R) := by
        refine ⟨by have := hR0.1; omega, ?_, ?_, ?_, ?_⟩
        · rw [ha0, hs1, Int.toNat_natCast]
          exact wfP_le hR0.2.1 (by omega)
        · rw [ha0, hs1, Int.toNat_natCast]
          exact c5
        · rw [ha0, Int.toNat_natCast]
          exact c6
        · rw [hs1, hs2, hs3]
          exact hR0.2.2.2.2
      refine BK_ro (r := R) (n := n) h hrn (fun b h1 h2 h3 => ?_) (rtI_of (fun b h1 h2 => hlo b (by omega)) hRI) (by rw [hlo _ (by omega), ha0]) (fun b h1 h2 => by rw [hlo b (by omega), hi b (by omega)]) (by rw [hlo 181 (by omega), h181]) (by rw [hlo 181 (by omega), h181]) (by rw [hlo 181 (by omega), h181, hlo 0 (by omega), hi0]; exact h.2.2.2.2) (fun j => ?_) (fun j hj => ?_) ?_ (fun i hin => ?_) (fun i hin => ?_)
      · rw [hlo b (by omega), c4.1 b h3, hrm _ _ (by omega)]
      · by_cases e : j = R
        · rw [if_pos e, e, up2_same]
          omega
        · rw [if_neg e, up2_rc e, h189]
      · rw [hlo 190 (by omega), hlo 191 (by omega), hlo 192 (by omega), hi 190 (by omega), hi 191 (by omega), hi 192 (by omega)]
        exact ⟨rfl, rfl, rfl⟩
      · unfold mdQ
        rw [hlo 190 (by omega), hlo 191 (by omega), hlo 192 (by omega), hi 190 (by omega), hi 191 (by omega), hi 192 (by omega)]
        exact h.1.2.2.1
      · rw [hlo 190 (by omega), hlo 191 (by omega), hlo 192 (by omega), hi 190 (by omega), hi 191 (by omega), hi 192 (by omega), hlo (22 + 10 * R + 1) (by omega), hlo (22 + 10 * R + 2) (by omega), hlo (22 + 10 * R + 3) (by omega), hs1, hs2, hs3]
        exact e1 i (by omega)
      · rw [hlo 190 (by omega), hlo 191 (by omega), hlo 192 (by omega), hi 190 (by omega), hi 191 (by omega), hi 192 (by omega)]
        exact h.1.2.2.2.2 R hrn i (by unfold mN; omega)
    · refine ⟨fun b h1 h2 => ?_, fun j hj => ?_, ?_⟩
      · rw [up2_row (by omega), hi b h1]
      · rw [up2_row (by omega), h181]
      · rw [up2_row (by omega), hi0]
