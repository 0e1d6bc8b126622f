theorem cpS_row {S : mm_S} {a0 a n b : Nat} (h : b ≠ a) : cpyS S a0 a n b = S b := by
  funext j
  unfold cpyS
  rw [if_neg (by omega)]
theorem cpS_at {S : mm_S} {a0 a n j : Nat} (h : j < n) : cpyS S a0 a n a j = S a0 j := by
  unfold cpyS
  rw [if_pos ⟨rfl, h⟩]
theorem cpS_ab {S : mm_S} {a0 a n j : Nat} (h : ¬ j < n) : cpyS S a0 a n a j = S a j := by
  unfold cpyS
  rw [if_neg (fun z => h z.2)]
theorem cp2_row {S : mm_S} {a b lo src n c : Nat} (h : c ≠ a) (h2 : c ≠ b) : cpy2 S a b lo src n c = S c := by
  funext j
  unfold cpy2
  rw [if_neg (by omega)]
theorem heirS_hi (S : mm_S) (k m : Int) (hk : S 1 0 ≤ 6) : ∀ b, 85 ≤ b → heirS S k m b = S b := by
  intro b hb
  unfold heirS
  split
  · split
    · unfold heirNew
      rw [up2_row (by omega), cpS_row (by omega), cpS_row (by omega), up2_row (by omega), up2_row (by omega)]
    · rfl
  · rfl
set_option maxHeartbeats 4000000 in
theorem pr_heir {S : mm_S} (h : BK S) (k m : Int) : heirR S k m = mheirR (heirS S k m) k m ∧ BK (mheirS (heirS S k m) k m) ∧ okF2 S (mheirS (heirS S k m) k m) := by
  have hv := h.1.1
  have b0 := h.2.1.1
  have hi := heirS_hi S k m (by have := hv.1; omega)
  have h181 : heirS S k m 181 = S 181 := hi 181 (by omega)
  have h182 : heirS S k m 182 = S 182 := hi 182 (by omega)
  have h183 : heirS S k m 183 = S 183 := hi 183 (by omega)
  have hkk : hasK S k → S (4 + 3 * k.toNat) 0 = S 182 k.toNat ∧ S (4 + 3 * k.toNat) 1 = S 183 k.toNat ∧ ∀ i, i < 48 → S (4 + 3 * k.toNat + 1) i = S 184 (48 * k.toNat + i) ∧ S (4 + 3 * k.toNat + 2) i = S 185 (48 * k.toNat + i) := fun hk => h.2.1.2.2.1 k.toNat (by omega)
  have hokm : okHeir S k m ↔ mokHeir (heirS S k m) k m := by
    unfold okHeir mokHeir mK
    rw [h181, h182]
    constructor
    · intro z
      have := hkk z.1
      unfold hasK at z
      omega
    · intro z
      have := hkk (by unfold hasK; omega)
      unfold hasK
      omega
  unfold heirR mheirR mheirS
  have h1810 : heirS S k m 181 0 = S 181 0 := by rw [h181]
  by_cases hok : okHeir S k m
  · have hok2 := hokm.mp hok
    rw [if_pos hok, if_pos hok2, if_pos hok2]
    by_cases h6 : S 1 0 < 6
    · rw [if_pos h6, if_pos (by omega), if_pos (by omega)]
      refine ⟨by omega, ?_⟩
      obtain ⟨n, hn⟩ := Int.eq_ofNat_of_zero_le hv.1.1
      obtain ⟨K, hK⟩ := Int.eq_ofNat_of_zero_le hok.1.1
      have hn0 : S 1 0 = n := by omega
      have hn6 : n < 6 := by omega
      have hKn : K < n := by have := hok.1.2; omega
      obtain ⟨f0, f1, f2⟩ := hkk hok.1
      rw [hK, Int.toNat_natCast] at f0 f1 f2
      have e1 : heirS S k m = up2 (cpyS (cpyS (up2 (up2 S (4 + 3 * n) 0 (S 182 K + m)) (4 + 3 * n) 1 (S 183 K)) (4 + 3 * K + 1) (4 + 3 * n + 1) 48) (4 + 3 * K + 2) (4 + 3 * n + 2) 48) 1 0 ((n : Int) + 1) := by
        unfold heirS heirNew
        rw [if_pos hok, if_pos h6, hn0, hK, Int.toNat_natCast, Int.toNat_natCast, up2_rd (by omega), f0, f1]
      have e2 : mheirNew (heirS S k m) k m = up2 (cpy2 (up2 (up2 (heirS S k m) 182 n (S 182 K + m)) 183 n (S 183 K)) 184 185 (48 * n) (48 * K) 48) 181 0 ((n : Int) + 1) := by
        unfold mheirNew
        rw [h181, h182, h183, hn, hK, Int.toNat_natCast, Int.toNat_natCast]
      rw [e2]
      clear e2
      have hkV := (bk_V h).1.2.2.1 K (by omega)
      have hkW := (bk_V h).2 K (by omega)
      have hm := hok.2
      rw [hK, Int.toNat_natCast, f0] at hm
      have hs6 := hv.2.2.1 K (by omega)
      have hpos := hkW.2
      clear hok hok2 hokm hkk
      generalize hS1 : heirS S k m = S1 at *
      have h0 : ∀ j, S1 0 j = S 0 j := by
        intro j
        rw [e1, up2_row (by omega), cpS_row (by omega), cpS_row (by omega), up2_row (by omega), up2_row (by omega)]
      have hlo : ∀ b, b < 181 → up2 (cpy2 (up2 (up2 S1 182 n (S 182 K + m)) 183 n (S 183 K)) 184 185 (48 * n) (48 * K) 48) 181 0 ((n : Int) + 1) b = S1 b := fun b hb => by rw [up2_row (by omega), cp2_row (by omega) (by omega), up2_row (by omega), up2_row (by omega)]
      have huz := h.2.2.1.2 K (by omega)
      refine ⟨BK_add (n := n) (st := S 182 K + m) (en := S 183 K) (f := S (4 + 3 * K + 1)) (g := S (4 + 3 * K + 2)) h hn hn6 (by omega) (by omega) (fun i hi => ?_) (fun b h1 h2 h3 h4 h5 => ?_) ?_ ?_ ?_ ?_ (fun i hi => ⟨?_, ?_⟩) (fun i hi => ⟨?_, ?_⟩) (fun b h1 h2 => ?_) ?_ ?_ ?_ ?_ ?_ ?_ ?_, ?_, ?_, ?_⟩
      · have a1 := hkV.2.2.1 i
        have a2 := hkV.2.2.2 i
        have a3 := hkW.1 i
        have a4 := huz i hi
        rw [← (f2 i hi).1, ← (f2 i hi).2] at a4
        exact ⟨by omega, by omega, a4⟩
      · rw [hlo b (by omega), e1, up2_row (by omega), cpS_row (by omega), cpS_row (by omega), up2_row (by omega), up2_row (by omega)]
      · rw [hlo 1 (by omega), e1, up2_same]
      · rw [hlo 1 (by omega), e1, up2_rc (by omega), cpS_row (by omega), cpS_row (by omega), up2_row (by omega), up2_row (by omega)]
      · rw [hlo (4 + 3 * n) (by omega), e1, up2_row (by omega), cpS_row (by omega), cpS_row (by omega), up2_rc (by omega), up2_same]
      · rw [hlo (4 + 3 * n) (by omega), e1, up2_row (by omega), cpS_row (by omega), cpS_row (by omega), up2_same]
      · rw [hlo (4 + 3 * n + 1) (by omega), e1, up2_row (by omega), cpS_row (by omega), cpS_at hi, up2_row (by omega), up2_row (by omega)]
      · rw [hlo (4 + 3 * n + 2) (by omega), e1, up2_row (by omega), cpS_at hi, cpS_row (by omega), up2_row (by omega), up2_row (by omega)]
      · rw [hlo (4 + 3 * n + 1) (by omega), e1, up2_row (by omega), cpS_row (by omega), cpS_ab (by omega), up2_row (by omega), up2_row (by omega)]
      · rw [hlo (4 + 3 * n + 2) (by omega), e1, up2_row (by omega), cpS_ab (by omega), cpS_row (by omega), up2_row (by omega), up2_row (by omega)]
      · rw [up2_row (by omega), cp2_row (by omega) (by omega), up2_row (by omega), up2_row (by omega), hi b (by omega)]
      · rw [up2_same]
      · rw [up2_rc (by omega), cp2_row (by omega) (by omega), up2_row (by omega), up2_row (by omega), h181]
      · rw [hlo 0 (by omega), up2_rc (by omega), cp2_row (by omega) (by omega), up2_row (by omega), up2_row (by omega), h0, h181]
        exact h.2.2.2.2
      · intro j
        rw [up2_row (by omega), cp2_row (by omega) (by omega), up2_row (by omega)]
        by_cases e : j = n
        · rw [if_pos e, e, up2_same]
        · rw [if_neg e, up2_rc e, h182]
      · intro j
        rw [up2_row (by omega), cp2_row (by omega) (by omega)]
        by_cases e : j = n
        · rw [if_pos e, e, up2_same]
        · rw [if_neg e, up2_rc e, up2_row (by omega), h183]
      · intro i hi2
        rw [up2_rd (by omega), up2_rd (by omega)]
        unfold cpy2
        rw [if_pos (by omega), if_pos (by omega), up2_rd (by omega), up2_rd (by omega), up2_rd (by omega), up2_rd (by omega), hi 184 (by omega), hi 185 (by omega), (f2 i hi2).1, (f2 i hi2).2, show 48 * n + i - 48 * n = i by omega]
        exact ⟨rfl, rfl⟩
      · intro j hj
        rw [up2_rd (by omega), up2_rd (by omega)]
        unfold cpy2
        rw [if_neg (by omega), if_neg (by omega), up2_rd (by omega), up2_rd (by omega), up2_rd (by omega), up2_rd (by omega), hi 184 (by omega), hi 185 (by omega)]
        exact ⟨rfl, rfl⟩
      · intro b hb1 hb2
        rw [up2_row (by omega), cp2_row (by omega) (by omega), up2_row (by omega), up2_row (by omega), hi b (by omega)]
      · intro j hj
        rw [up2_rc (by omega), cp2_row (by omega) (by omega), up2_row (by omega), up2_row (by omega), h181]
      · rw [hlo 0 (by omega), h0]
    · have eS : heirS S k m = S := by
        unfold heirS
        rw [if_pos hok, if_neg h6]
      rw [if_neg h6, if_neg (by omega), if_neg (by omega), eS]
      exact ⟨rfl, h, okF2_rf S⟩
  · have eS : heirS S k m = S := by
      unfold heirS
      rw [if_neg hok]
    have hok2 : ¬ mokHeir (heirS S k m) k m := fun z => hok (hokm.mpr z)
    rw [if_neg hok, if_neg hok2, if_neg hok2, eS]
    exact ⟨rfl, h, okF2_rf S⟩
