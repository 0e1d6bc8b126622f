/-! ===== runs of both ===== -/
def RN (S : mm_S) : Prop := ((S 0 5 = 0 ∨ S 0 5 = 1) ∧ S 0 5 = S 181 60) ∧ (∀ w, w < 6 → S 180 w = S 222 w) ∧ scA S
theorem scA_c {S S' : mm_S} (h : scA S) (e : ∀ b, 140 ≤ b → b < 180 → S' b = S b) : scA S' := by
  intro i hi
  have := h i hi
  unfold scW at *
  rw [e (140 + 4 * i + 2) (by omega) (by omega), e (140 + 4 * i + 3) (by omega) (by omega)]
  exact this
theorem RN_c {S S' : mm_S} (h : RN S) (e5 : S' 0 5 = S 0 5) (e60 : S' 181 60 = S 181 60) (e : ∀ b, 140 ≤ b → b < 181 → S' b = S b) (e2 : S' 222 = S 222) : RN S' := by
  refine ⟨by rw [e5, e60]; exact h.1, fun w hw => by rw [e 180 (by omega) (by omega), e2]; exact h.2.1 w hw, scA_c h.2.2 (fun b x y => e b x (by omega))⟩
theorem RN_o {S S' : mm_S} (h : RN S) (f : okF2 S S') : RN S' := RN_c h f.2.2 (f.2.1 60 (by omega)) (fun b x y => f.1 b (by omega) (by omega)) (f.1 222 (by omega) (by omega))
theorem RN_j {S S' : mm_S} (h : RN S) (f : jdF S S') : RN S' := RN_c h (by rw [f.1 0 (by omega)]) f.2 (fun b x y => f.1 b (by omega)) (f.1 222 (by omega))
theorem jA_o {S S' : mm_S} {L : mm_L} {p1 n : Nat} (h : jA S L p1 n) (f : okF2 S S') : jA S' L p1 n := by
  have e : ∀ b, 85 ≤ b → b < 181 → S' b = S b := fun b x y => f.1 b x (Or.inl y)
  refine jA_c h (e 85 (by omega) (by omega)) (e 86 (by omega) (by omega)) (e 91 (by omega) (by omega)) (e 92 (by omega) (by omega)) (fun c hc => e (98 + c) (by omega) (by omega)) (scV_h (fun b x y => e b (by omega) (by omega)) h.2.1.2.2.2.2) (fun b x y => f.1 b (by omega) (by omega)) (f.2.1 26 (by omega)) (f.2.1 27 (by omega)) (f.2.1 40 (by omega)) rfl rfl
/-- the class's book, its judge and the reference's stay -/
theorem rn_keep {S S' : mm_S} {L L' : mm_L} {p1 n : Nat} (h : BK S) (hj : jA S L p1 n) (e : ∀ b, b < 138 ∨ (182 ≤ b ∧ b < 193) ∨ (198 ≤ b ∧ b < 214) → b ≠ 0 → S' b = S b) (e06 : S' 0 6 = S 0 6) (c : ∀ j, j < 41 → j ≠ 19 → S' 181 j = S 181 j) (hL : L' p1 = L p1) (hl : L' 211 = L 211) : BK S' ∧ jA S' L' p1 n :=
  ⟨BK_of h (fun b x y => e b (by omega) (by omega)) (fun b x y => e b (by omega) (by omega)) (c 0 (by omega) (by omega)) (c 9 (by omega) (by omega)) (by rw [e06, c 5 (by omega) (by omega)]; exact h.2.2.2.2), jA_c hj (e 85 (by omega) (by omega)) (e 86 (by omega) (by omega)) (e 91 (by omega) (by omega)) (e 92 (by omega) (by omega)) (fun c hc => e (98 + c) (by omega) (by omega)) (scV_h (fun b x y => e b (by omega) (by omega)) hj.2.1.2.2.2.2) (fun b x y => e b (by omega) (by omega)) (c 26 (by omega) (by omega)) (c 27 (by omega) (by omega)) (c 40 (by omega) (by omega)) hL hl⟩
theorem pr_run {S S1 S2 : mm_S} {L L1 L2 : mm_L} {p1 n0 : Nat} (h : BK S) (hj : jA S L p1 n0) (hr : RN S) (hp : p1 < 90 ∨ 222 < p1) {x : Int64} {n v w : Int} (hc : (¬ (0 ≤ n ∧ n ≤ 60) ∧ v = -2 ∧ S1 = S ∧ L1 = L) ∨ ((0 ≤ n ∧ n ≤ 60) ∧ ¬ cWhole S ∧ v = -3 ∧ S1 = S ∧ L1 = L) ∨ ((0 ≤ n ∧ n ≤ 60) ∧ cWhole S ∧ ∃ e, runE S x n e ∧ v = e.1 ∧ rnQ S S1 e ∧ ∀ b, b ≠ 138 → L1 b = L b)) (hm : (¬ (0 ≤ n ∧ n ≤ 60) ∧ w = -2 ∧ S2 = S1 ∧ L2 = L1) ∨ ((0 ≤ n ∧ n ≤ 60) ∧ ¬ mWhole S1 ∧ w = -3 ∧ wkA S1 S2 ∧ L2 = L1) ∨ ((0 ≤ n ∧ n ≤ 60) ∧ mWhole S1 ∧ ∃ e, runE S1 x n e ∧ w = e.1 ∧ mrQ S1 S2 e ∧ ∀ b, b ≠ 181 → L2 b = L1 b)) : v = w ∧ BK S2 ∧ jA S2 L2 p1 n0 ∧ RN S2 := by
  have hwe := whole_eq h
  rcases hc with ⟨c1, c2, c3, c4⟩ | ⟨c0, c1, c2, c3, c4⟩ | ⟨c0, c1, e, c2, c3, c4, c5⟩
  · rcases hm with ⟨m1, m2, m3, m4⟩ | ⟨m1, -⟩ | ⟨m1, -⟩
    · rw [m3, m4, c3, c4]
      exact ⟨by omega, h, hj, hr⟩
    · exact absurd m1 c1
    · exact absurd m1 c1
  · rw [c3] at hm
    rcases hm with ⟨m1, -⟩ | ⟨-, m1, m2, m3, m4⟩ | ⟨-, m1, -⟩
    · exact absurd c0 m1
    · rw [m4, c4]
      exact ⟨by omega, BK_wk h m3, jA_o hj (okF2_wk m3), RN_o hr (okF2_wk m3)⟩
    · exact absurd (hwe.2 m1) c1
  · have r1 : ∀ b, b ≠ 0 → b < 138 ∨ 181 ≤ b → S1 b = S b := c4.1
    have hE : bkE S S1 := ⟨fun b a1 a2 => r1 b (by omega) (by omega), by rw [r1 181 (by omega) (by omega)], by rw [r1 181 (by omega) (by omega)]⟩
    have hw1 : mWhole S1 := (mW_of (fun b a1 a2 => r1 b (by omega) (by omega)) (by rw [r1 181 (by omega) (by omega)])).2 (hwe.1 c1)
    rcases hm with ⟨m1, -⟩ | ⟨-, m1, -⟩ | ⟨-, -, e', m2, m3, m4, m5⟩
    · exact absurd c0 m1
    · exact absurd hw1 m1
    · rw [bk_rE hE] at m2
      have he : e = e' := abr_u c2 m2
      subst he
      obtain ⟨q1, q2, q3, q4, q5, q6, q7, q8, q9⟩ := m4
      obtain ⟨-, t2, t3, t4, u0, u1, u2, u3, u4, u5⟩ := c4
      have hk := rn_keep (S' := S2) (L' := L2) h hj (fun b a1 a2 => (q1 b (by omega) (by omega)).trans (r1 b a2 (by omega))) (by rw [q1 0 (by omega) (by omega), t2 6 (by omega)]) (fun j a1 a2 => by rw [q2 j a1 a2, r1 181 (by omega) (by omega)]) (by rw [m5 p1 (by omega), c5 p1 (by omega)]) (by rw [m5 211 (by omega), c5 211 (by omega)])
      refine ⟨by omega, hk.1, hk.2, ⟨?_, ?_⟩, fun w hw => ?_, scA_c t4 (fun b a1 a2 => q1 b (by omega) (by omega))⟩
      · rw [q1 0 (by omega) (by omega), t3]; exact Or.inr rfl
      · rw [q1 0 (by omega) (by omega), t3, q3]
      · rw [q1 180 (by omega) (by omega)]
        have : w = 0 ∨ w = 1 ∨ w = 2 ∨ w = 3 ∨ w = 4 ∨ w = 5 := by omega
        rcases this with rfl | rfl | rfl | rfl | rfl | rfl
        · rw [u0, q4]
        · rw [u1, q5]
        · rw [u2, q6]
        · rw [u3, q7]
        · rw [u4, q8]
        · rw [u5, q9]
theorem pr_ended {S : mm_S} (hr : RN S) (w : Int) : (if 0 ≤ w ∧ w < 6 then (if S 0 5 = 1 then S 180 w.toNat else -1) else -2) = (if 0 ≤ w ∧ w ≤ 5 then (if S 181 60 = 1 then S 222 w.toNat else -1) else -2) := by
  by_cases z : 0 ≤ w ∧ w < 6
  · rw [if_pos z, if_pos (show 0 ≤ w ∧ w ≤ 5 by omega), hr.1.2, hr.2.1 w.toNat (by omega)]
  · rw [if_neg z, if_neg (show ¬ (0 ≤ w ∧ w ≤ 5) by omega)]
theorem pr_breaks {S S1 S2 : mm_S} {L L1 L2 : mm_L} {p1 n0 : Nat} (h : BK S) (hj : jA S L p1 n0) (hr : RN S) (hp : p1 < 90 ∨ 222 < p1) {n v w : Int} (hc : (¬ (0 ≤ n ∧ n ≤ 8) ∧ v = -2 ∧ S1 = S ∧ L1 = L) ∨ ((0 ≤ n ∧ n ≤ 8) ∧ ¬ cWhole S ∧ v = -3 ∧ S1 = S ∧ L1 = L) ∨ ((0 ≤ n ∧ n ≤ 8) ∧ cWhole S ∧ brC S n v ∧ rnF S S1 ∧ scA S1 ∧ ∀ b, b ≠ 138 → L1 b = L b)) (hm : (¬ (0 ≤ n ∧ n ≤ 8) ∧ w = -2 ∧ S2 = S1 ∧ L2 = L1) ∨ ((0 ≤ n ∧ n ≤ 8) ∧ ¬ mWhole S1 ∧ w = -3 ∧ wkA S1 S2 ∧ L2 = L1) ∨ ((0 ≤ n ∧ n ≤ 8) ∧ mWhole S1 ∧ ∃ B, wkA S1 B ∧ brM B n w ∧ mfR B S2 ∧ ∀ b, b ≠ 181 → L2 b = L1 b)) : v = w ∧ BK S2 ∧ jA S2 L2 p1 n0 ∧ RN S2 := by
  have hwe := whole_eq h
  rcases hc with ⟨c1, c2, c3, c4⟩ | ⟨c0, c1, c2, c3, c4⟩ | ⟨c0, c1, c2, c3, c4, c5⟩
  · rcases hm with ⟨m1, m2, m3, m4⟩ | ⟨m1, -⟩ | ⟨m1, -⟩
    · rw [m3, m4, c3, c4]
      exact ⟨by omega, h, hj, hr⟩
    · exact absurd m1 c1
    · exact absurd m1 c1
  · rw [c3] at hm
    rcases hm with ⟨m1, -⟩ | ⟨-, m1, m2, m3, m4⟩ | ⟨-, m1, -⟩
    · exact absurd c0 m1
    · rw [m4, c4]
      exact ⟨by omega, BK_wk h m3, jA_o hj (okF2_wk m3), RN_o hr (okF2_wk m3)⟩
    · exact absurd (hwe.2 m1) c1
  · have r1 : ∀ b, b < 138 ∨ 180 ≤ b → S1 b = S b := c3
    have hw1 : mWhole S1 := (mW_of (fun b a1 a2 => r1 b (by omega)) (by rw [r1 181 (by omega)])).2 (hwe.1 c1)
    rcases hm with ⟨m1, -⟩ | ⟨-, m1, -⟩ | ⟨-, -, B, m2, m3, m4, m5⟩
    · exact absurd c0 m1
    · exact absurd hw1 m1
    · have e1 : ∀ x k e, runE B x k e = runE S x k e := fun x k e => by rw [bw_rE (wkA_W m2), bk_rE (rn_E c3)]
      have e2 : ∀ l b, wrE B l b = wrE S l b := fun l b => by unfold wrE; simp only [e1]
      have m3' : brM S n w := by
        unfold brM at *
        simp only [e2] at m3
        exact m3
      have r2 : ∀ b, b < 193 ∨ (198 ≤ b ∧ b < 214) ∨ b = 222 → b ≠ 181 → S2 b = S1 b := fun b a1 a2 => (m4.1 b (by omega) a2).trans (m2.1 b (by omega) (by omega) (by omega) (by omega) (by omega) a2)
      have r3 : ∀ j, j < 41 ∨ j = 60 → j ≠ 19 → S2 181 j = S1 181 j := fun j a1 a2 => (m4.2 j a1).trans (m2.2 j a2)
      have hk := rn_keep (S' := S2) (L' := L2) h hj (fun b a1 a2 => (r2 b (by omega) (by omega)).trans (r1 b (by omega))) (by rw [r2 0 (by omega) (by omega), r1 0 (by omega)]) (fun j a1 a2 => by rw [r3 j (by omega) a2, r1 181 (by omega)]) (by rw [m5 p1 (by omega), c5 p1 (by omega)]) (by rw [m5 211 (by omega), c5 211 (by omega)])
      refine ⟨brk_eq (by omega) c2 m3', hk.1, hk.2, ⟨?_, ?_⟩, fun w hw => ?_, scA_c c4 (fun b a1 a2 => r2 b (by omega) (by omega))⟩
      · rw [r2 0 (by omega) (by omega), r1 0 (by omega)]; exact hr.1.1
      · rw [r2 0 (by omega) (by omega), r1 0 (by omega), r3 60 (by omega) (by omega), r1 181 (by omega)]; exact hr.1.2
      · rw [r2 180 (by omega) (by omega), r1 180 (by omega), r2 222 (by omega) (by omega), r1 222 (by omega)]; exact hr.2.1 w hw
