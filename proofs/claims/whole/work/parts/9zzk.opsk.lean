/-! ===== kind heir use drop ends: both answer the same ===== -/
theorem BKm_hi {S S1 : mm_S} (h : BK S) (e : ∀ b, 85 ≤ b → S1 b = S b) : BKm S1 := BKm_of h.1 (fun b h1 h2 => e b (by omega)) (by rw [e 181 (by omega)]) (by rw [e 181 (by omega)])
theorem kindS_hi (S : mm_S) (s e : Int) (hk : S 1 0 ≤ 6) : ∀ b, 85 ≤ b → kindS S s e b = S b := by
  intro b hb
  unfold kindS
  split
  · split
    · unfold kindNew
      funext j
      simp only [up2, fillS]
      (repeat' split) <;> first | rfl | omega
    · rfl
  · rfl
theorem pw_64 {s e : Int} (h : okKind s e) : 0 ≤ e ∧ e < 64 := by
  obtain ⟨⟨h1, h2⟩, h3, h4⟩ := h
  have : s = 1 ∨ s = 2 ∨ s = 3 ∨ s = 4 ∨ s = 5 ∨ s = 6 := by omega
  rcases this with rfl | rfl | rfl | rfl | rfl | rfl <;> exact ⟨h3, Int.lt_of_lt_of_le h4 (by decide)⟩
set_option maxHeartbeats 4000000 in
theorem pr_kind {S : mm_S} (h : BK S) (s e : Int) : kindR S s e = mkindR (kindS S s e) s e ∧ BK (mkindS (kindS S s e) s e) ∧ okF2 S (mkindS (kindS S s e) s e) := by
  have hv := h.1.1
  have b0 := h.2.1.1
  have hi := kindS_hi S s e (by have := hv.1; omega)
  have h181 : kindS S s e 181 = S 181 := hi 181 (by omega)
  unfold kindR mkindR mkindS
  rw [h181]
  by_cases hok : okKind s e
  · rw [if_pos hok, if_pos hok, if_pos hok]
    by_cases h6 : S 1 0 < 6
    · rw [if_pos h6, if_pos (by omega), if_pos (by omega)]
      refine ⟨b0, ?_⟩
      obtain ⟨n, hn⟩ := Int.eq_ofNat_of_zero_le hv.1.1
      have hn0 : S 1 0 = n := by omega
      have hn6 : n < 6 := by omega
      have e1 : kindS S s e = up2 (fillS (fillS (up2 (up2 S (4 + 3 * n) 0 s) (4 + 3 * n) 1 e) (4 + 3 * n + 1) 48 (-1)) (4 + 3 * n + 2) 48 (-1)) 1 0 ((n : Int) + 1) := by
        unfold kindS kindNew
        rw [if_pos hok, if_pos h6, hn0, Int.toNat_natCast]
      have e2 : mkindNew (kindS S s e) s e = up2 (fill2 (up2 (up2 (kindS S s e) 182 n s) 183 n e) 184 185 (48 * n) 48 (-1)) 181 0 ((n : Int) + 1) := by
        unfold mkindNew
        rw [h181, hn, Int.toNat_natCast]
      rw [e2]
      clear e2
      generalize hS1 : kindS S s e = S1 at *
      have h0 : ∀ j, S1 0 j = S 0 j := by
        rw [e1]
        intros; simp only [up2, fillS, true_and, and_true, and_self, if_true, false_and, and_false, if_false, true_or, or_true, false_or, or_false] <;> ((repeat' split) <;> first | rfl | omega | (exfalso; omega))
      refine ⟨BK_add (n := n) (st := s) (en := e) (f := fun _ => -1) (g := fun _ => -1) h hn hn6 hok.1 (pw_64 hok) (fun i hi => by omega) ?_ ?_ ?_ ?_ ?_ ?_ ?_ ?_ ?_ ?_ ?_ ?_ ?_ ?_ ?_, ?_, ?_, ?_⟩
      · rw [e1]
        intros; funext j; simp only [up2, fillS, fill2, true_and, and_true, and_self, if_true, false_and, and_false, if_false, true_or, or_true, false_or, or_false] <;> ((repeat' split) <;> first | rfl | omega | (exfalso; omega))
      · rw [e1]
        intros; simp only [up2, fillS, fill2, true_and, and_true, and_self, if_true, false_and, and_false, if_false, true_or, or_true, false_or, or_false] <;> ((repeat' split) <;> first | rfl | omega | (exfalso; omega))
      · rw [e1]
        intros; simp only [up2, fillS, fill2, true_and, and_true, and_self, if_true, false_and, and_false, if_false, true_or, or_true, false_or, or_false] <;> ((repeat' split) <;> first | rfl | omega | (exfalso; omega))
      · rw [e1]
        intros; simp only [up2, fillS, fill2, true_and, and_true, and_self, if_true, false_and, and_false, if_false, true_or, or_true, false_or, or_false] <;> ((repeat' split) <;> first | rfl | omega | (exfalso; omega))
      · rw [e1]
        intros; simp only [up2, fillS, fill2, true_and, and_true, and_self, if_true, false_and, and_false, if_false, true_or, or_true, false_or, or_false] <;> ((repeat' split) <;> first | rfl | omega | (exfalso; omega))
      · rw [e1]
        intro i hi
        constructor
        · intros; simp only [up2, fillS, fill2, true_and, and_true, and_self, if_true, false_and, and_false, if_false, true_or, or_true, false_or, or_false] <;> ((repeat' split) <;> first | rfl | omega | (exfalso; omega))
        · intros; simp only [up2, fillS, fill2, true_and, and_true, and_self, if_true, false_and, and_false, if_false, true_or, or_true, false_or, or_false] <;> ((repeat' split) <;> first | rfl | omega | (exfalso; omega))
      · rw [e1]
        intro i hi
        constructor
        · intros; simp only [up2, fillS, fill2, true_and, and_true, and_self, if_true, false_and, and_false, if_false, true_or, or_true, false_or, or_false] <;> ((repeat' split) <;> first | rfl | omega | (exfalso; omega))
        · intros; simp only [up2, fillS, fill2, true_and, and_true, and_self, if_true, false_and, and_false, if_false, true_or, or_true, false_or, or_false] <;> ((repeat' split) <;> first | rfl | omega | (exfalso; omega))
      · intro b hb1 hb2
        rw [← hi b (by omega)]
        intros; funext j; simp only [up2, fillS, fill2, true_and, and_true, and_self, if_true, false_and, and_false, if_false, true_or, or_true, false_or, or_false] <;> ((repeat' split) <;> first | rfl | omega | (exfalso; omega))
      · intros; simp only [up2, fillS, fill2, true_and, and_true, and_self, if_true, false_and, and_false, if_false, true_or, or_true, false_or, or_false] <;> ((repeat' split) <;> first | rfl | omega | (exfalso; omega))
      · rw [← h181]
        intros; simp only [up2, fillS, fill2, true_and, and_true, and_self, if_true, false_and, and_false, if_false, true_or, or_true, false_or, or_false] <;> ((repeat' split) <;> first | rfl | omega | (exfalso; omega))
      · have a1 : up2 (fill2 (up2 (up2 S1 182 n s) 183 n e) 184 185 (48 * n) 48 (-1)) 181 0 ((n : Int) + 1) 0 6 = S1 0 6 := by intros; simp only [up2, fillS, fill2, true_and, and_true, and_self, if_true, false_and, and_false, if_false, true_or, or_true, false_or, or_false] <;> ((repeat' split) <;> first | rfl | omega | (exfalso; omega))
        have a2 : up2 (fill2 (up2 (up2 S1 182 n s) 183 n e) 184 185 (48 * n) 48 (-1)) 181 0 ((n : Int) + 1) 181 5 = S1 181 5 := by intros; simp only [up2, fillS, fill2, true_and, and_true, and_self, if_true, false_and, and_false, if_false, true_or, or_true, false_or, or_false] <;> ((repeat' split) <;> first | rfl | omega | (exfalso; omega))
        rw [a1, a2, h0, h181]
        exact h.2.2.2.2
      · intro j
        rw [← hi 182 (by omega)]
        intros; simp only [up2, fillS, fill2, true_and, and_true, and_self, if_true, false_and, and_false, if_false, true_or, or_true, false_or, or_false] <;> ((repeat' split) <;> first | rfl | omega | (exfalso; omega))
      · intro j
        rw [← hi 183 (by omega)]
        intros; simp only [up2, fillS, fill2, true_and, and_true, and_self, if_true, false_and, and_false, if_false, true_or, or_true, false_or, or_false] <;> ((repeat' split) <;> first | rfl | omega | (exfalso; omega))
      · intro i hi
        constructor
        · intros; simp only [up2, fillS, fill2, true_and, and_true, and_self, if_true, false_and, and_false, if_false, true_or, or_true, false_or, or_false] <;> ((repeat' split) <;> first | rfl | omega | (exfalso; omega))
        · intros; simp only [up2, fillS, fill2, true_and, and_true, and_self, if_true, false_and, and_false, if_false, true_or, or_true, false_or, or_false] <;> ((repeat' split) <;> first | rfl | omega | (exfalso; omega))
      · intro j hj
        rw [← hi 184 (by omega), ← hi 185 (by omega)]
        constructor
        · intros; simp only [up2, fillS, fill2, true_and, and_true, and_self, if_true, false_and, and_false, if_false, true_or, or_true, false_or, or_false] <;> ((repeat' split) <;> first | rfl | omega | (exfalso; omega))
        · intros; simp only [up2, fillS, fill2, true_and, and_true, and_self, if_true, false_and, and_false, if_false, true_or, or_true, false_or, or_false] <;> ((repeat' split) <;> first | rfl | omega | (exfalso; omega))
      · intro b hb1 hb2
        rw [← hi b (by omega)]
        intros; funext j; simp only [up2, fillS, fill2, true_and, and_true, and_self, if_true, false_and, and_false, if_false, true_or, or_true, false_or, or_false] <;> ((repeat' split) <;> first | rfl | omega | (exfalso; omega))
      · intro j hj
        rw [← h181]
        intros; simp only [up2, fillS, fill2, true_and, and_true, and_self, if_true, false_and, and_false, if_false, true_or, or_true, false_or, or_false] <;> ((repeat' split) <;> first | rfl | omega | (exfalso; omega))
      · rw [← h0]
        intros; simp only [up2, fillS, fill2, true_and, and_true, and_self, if_true, false_and, and_false, if_false, true_or, or_true, false_or, or_false] <;> ((repeat' split) <;> first | rfl | omega | (exfalso; omega))
    · have eS : kindS S s e = S := by
        unfold kindS
        rw [if_pos hok, if_neg h6]
      rw [if_neg h6, if_neg (by omega), if_neg (by omega), eS]
      exact ⟨rfl, h, okF2_rf S⟩
  · have eS : kindS S s e = S := by
      unfold kindS
      rw [if_neg hok]
    rw [if_neg hok, if_neg hok, if_neg hok, eS]
    exact ⟨rfl, h, okF2_rf S⟩
