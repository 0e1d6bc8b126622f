/-! ===== what changes the scene changes the registers alike ===== -/
def scF (S S' : mm_S) (a : Nat) : Prop := ∀ b, b < a ∨ a + 3 < b → S' b = S b
theorem scF_rf (S : mm_S) (a : Nat) : scF S S a := fun _ _ => rfl
theorem scF_tr {S S1 S2 : mm_S} {a : Nat} (h : scF S S1 a) (h2 : scF S1 S2 a) : scF S S2 a := fun b hb => (h2 b hb).trans (h b hb)
theorem scF_up {S : mm_S} {a b i : Nat} {x : Int} (hb : a ≤ b ∧ b ≤ a + 3) : scF S (up2 S b i x) a := fun c hc => up2_row (by omega)
theorem scF_cm {S : mm_S} {a ro : Nat} {w : Int} : scF S (cmT S a ro w) a := fun c hc => cmT_row (by omega)
theorem fr_ex {nm : Nat → Int} {a : Nat} (ha : a < 5) (j : Int) (h0 : nm a < j ∨ j + 5 ≤ nm a) : ∃ u, j ≤ u ∧ u < j + 5 ∧ ∀ v : Nat, v < 5 → nm v ≠ u := by
  by_cases h : ∃ u, j ≤ u ∧ u < j + 5 ∧ ∀ v : Nat, v < 5 → nm v ≠ u
  · exact h
  · exfalso
    have h1 : ∀ i : Nat, ∃ v : Nat, i < 5 → v < 5 ∧ nm v = j + i := fun i => by
      by_cases hi : i < 5
      · by_cases q : ∃ v : Nat, v < 5 ∧ nm v = j + i
        · obtain ⟨v, hv⟩ := q
          exact ⟨v, fun _ => hv⟩
        · exact absurd ⟨j + i, by omega, by omega, fun v hv e => q ⟨v, hv, e⟩⟩ h
      · exact ⟨0, fun z => absurd z hi⟩
    obtain ⟨g, hg⟩ := Classical.axiomOfChoice h1
    have := inj_le 6 5 (fun i => if i < 5 then g i else a) (fun i hi => by
      show (if i < 5 then g i else a) < 5
      split
      · rename_i h5; exact (hg i h5).1
      · exact ha) (fun i k hi hk e => by
      have e : (if i < 5 then g i else a) = (if k < 5 then g k else a) := e
      by_cases h1 : i < 5 <;> by_cases h2 : k < 5
      · rw [if_pos h1, if_pos h2] at e
        have a1 := (hg i h1).2
        have a2 := (hg k h2).2
        rw [e] at a1
        omega
      · rw [if_pos h1, if_neg h2] at e
        have a1 := (hg i h1).2
        rw [e] at a1
        omega
      · rw [if_neg h1, if_pos h2] at e
        have a1 := (hg k h2).2
        rw [← e] at a1
        omega
      · omega)
    omega
theorem frF_free (nm : Nat → Int) : ∀ (n : Nat) (j : Int), (∃ u, j ≤ u ∧ u < j + n ∧ ∀ v : Nat, v < 5 → nm v ≠ u) → (∀ v : Nat, v < 5 → nm v ≠ frF nm n j) ∧ j ≤ frF nm n j ∧ frF nm n j < j + n
  | 0, j, ⟨u, h1, h2, _⟩ => by omega
  | n + 1, j, ⟨u, h1, h2, h3⟩ => by
    simp only [frF]
    by_cases e : ∀ v : Nat, v < 5 → nm v ≠ j
    · rw [if_pos e]; exact ⟨e, by omega, by omega⟩
    · rw [if_neg e]
      have : u ≠ j := fun z => e (z ▸ h3)
      have := frF_free nm n (j + 1) ⟨u, by omega, by omega, h3⟩
      exact ⟨this.1, by omega, by omega⟩
section
variable {S : mm_S} {a : Nat} {κ : kyT} {R : rgT}
/-- a THING's STATE changes -/
theorem sc_turn (h : scR S a κ R) (hV : scV S a) (hB : rgB R) (hk : ∀ v, v < 5 → R.1 v = 1 → κ.1 = 1) {v : Nat} (hv : v < 5) (hn : R.1 v ≠ 0) {x : Int} : scR (up2 S (a + 3) (S (a + 1) v).toNat x) a κ (tnR R (R.1 v) x) := by
  obtain ⟨h1, h2, h3, h4, h5⟩ := h
  have hc := h1 v hv
  have hs := hV.2.2.2.1 v hv
  have hb := hB.1 v hv
  have hn1 : S (a + 1) v ≠ -1 := fun z => hn (hc.1.mp z)
  unfold tnR
  by_cases e1 : R.1 v = 1
  · rw [if_pos e1]
    have e5 := hc.2.mpr e1
    rw [e5]
    refine ⟨fun w hw => ?_, fun w u hw hu => ?_, fun w hw g1 g2 => ?_, ⟨fun k1 => ⟨?_, ?_⟩, fun k1 => absurd (hk v hv e1) k1⟩, fun k hk => ?_⟩
    · rw [up2_rd (by omega)]; exact h1 w hw
    · rw [up2_rd (by omega), up2_rd (by omega)]; exact h2 w u hw hu
    · rw [up2_rd (by omega)] at g1 g2
      have := hV.2.2.2.1 w hw
      rw [up2_rd (by omega), up2_rd (by omega), up2_rc (by omega)]
      exact h3 w hw g1 g2
    · exact up2_same _ _ _ _
    · rw [up2_rd (by omega)]; exact (h4.1 k1).2
    · rw [up2_rd (by omega)]; exact h5 k hk
  · rw [if_neg e1]
    have e5 : S (a + 1) v ≠ 5 := fun z => e1 (hc.2.mp z)
    have hst := hV.2.2.2.2 (S (a + 1) v).toNat (by omega)
    refine ⟨fun w hw => ?_, fun w u hw hu => ?_, fun w hw g1 g2 => ?_, ⟨fun k1 => ⟨?_, ?_⟩, fun k1 => ?_⟩, fun k hk => ?_⟩
    · rw [up2_rd (by omega)]; exact h1 w hw
    · rw [up2_rd (by omega), up2_rd (by omega)]; exact h2 w u hw hu
    · rw [up2_rd (by omega)] at g1 g2
      have hsw := hV.2.2.2.1 w hw
      have hbw := hB.1 w hw
      have hcw := h1 w hw
      rw [up2_rd (show a + 1 ≠ a + 3 by omega), up2_rd (show a + 2 ≠ a + 3 by omega)]
      by_cases e : S (a + 1) w = S (a + 1) v
      · have e2 := (h2 w v hw hv).mp e
        have e3 := h3 v hv hn1 e5
        rw [e, up2_same]
        show ud R.2.1 (R.1 v - 2).toNat _ (R.1 w - 2).toNat = _
        rw [e2, ud_same, e3]
        omega
      · have e2 : R.1 w ≠ R.1 v := fun z => e ((h2 w v hw hv).mpr z)
        have w0 : R.1 w ≠ 0 := fun z => g1 (hcw.1.mpr z)
        have w1 : R.1 w ≠ 1 := fun z => g2 (hcw.2.mpr z)
        rw [up2_rc (by omega)]
        show ud R.2.1 (R.1 v - 2).toNat _ (R.1 w - 2).toNat = _
        rw [ud_ne (by omega)]
        exact h3 w hw g1 g2
    · rw [up2_rc (by omega)]; exact (h4.1 k1).1
    · rw [up2_rd (by omega)]; exact (h4.1 k1).2
    · rw [up2_rc (by omega)]; exact h4.2 k1
    · rw [up2_rd (by omega)]; exact h5 k hk
theorem rg_turn (hm : mdV S) (h : rgV S κ R) {v : Nat} (hv : v < 5) (hn : R.1 v ≠ 0) {x : Int} (hx : 0 ≤ x) (hx2 : x < S 182 (cdR κ.2.2.1 R (R.1 v) / 7).toNat ∨ (x = 6 ∧ R.1 v ≠ 1)) : rgV S κ (tnR R (R.1 v) x) := by
  have okv := cd_ok h hm hv hn
  obtain ⟨hB, h1, h2, h3, h4, h5⟩ := h
  have hb := hB.1 v hv
  have u0 := hm.1
  have u2 := hm.2.2.1 (cdR κ.2.2.1 R (R.1 v) / 7).toNat (by have := okv.1; have := okv.2.1; omega)
  unfold tnR
  unfold cdR at hx2 u2 okv
  by_cases e1 : R.1 v = 1
  · rw [if_pos e1] at hx2 u2 okv ⊢
    have k1 := h1 v hv e1
    have h3' := h3 k1
    have e : (7 * κ.2.2.1 + R.2.2.1) / 7 = κ.2.2.1 := by have := hm.2.2.1 κ.2.2.1.toNat (by omega); omega
    rw [e] at hx2 u2
    have hx3 : x < S 182 κ.2.2.1.toNat := by rcases hx2 with q | q; exact q; exact absurd e1 q.2
    exact ⟨⟨hB.1, hB.2.1, ⟨hx, by show x < 8; omega⟩, hB.2.2.2⟩, h1, h2, fun _ => ⟨h3'.1, hx, hx3⟩, fun z => absurd k1 z, h5⟩
  · rw [if_neg e1] at hx2 u2 okv ⊢
    obtain ⟨c, hc⟩ : ∃ c, R.2.1 (R.1 v - 2).toNat = c := ⟨_, rfl⟩
    rw [hc] at hx2 u2 okv ⊢
    have e7 : (c / 7 * 7 + x) / 7 = c / 7 := by omega
    have e8 : (c / 7 * 7 + x) % 7 = x := by omega
    have okx : okC S (c / 7 * 7 + x) := ⟨by have := okv.1; omega, by rw [e7]; exact okv.2.1, by rw [e7, e8]; rcases hx2 with q | q; exact Or.inl q; exact Or.inr q.1⟩
    refine ⟨⟨hB.1, fun j hj => ?_, hB.2.2.1, hB.2.2.2⟩, h1, fun w hw hg => ?_, h3, h4, h5⟩
    · show 0 ≤ ud R.2.1 (R.1 v - 2).toNat (c / 7 * 7 + x) j ∧ ud R.2.1 (R.1 v - 2).toNat (c / 7 * 7 + x) j < 42
      unfold ud
      split
      · exact okx.1
      · exact hB.2.1 j hj
    · show okC S (ud R.2.1 (R.1 v - 2).toNat (c / 7 * 7 + x) (R.1 w - 2).toNat)
      unfold ud
      split
      · exact okx
      · exact h2 w hw hg
/-- a VARIABLE names what another one names, or nothing -/
theorem sc_name (h : scR S a κ R) {v : Nat} (hv : v < 5) {x t : Int} (hx : ∀ w, w < 5 → (S (a + 1) w = x ↔ R.1 w = t)) (h0 : x = -1 ↔ t = 0) (h5' : x = 5 ↔ t = 1) (ho : x ≠ -1 → x ≠ 5 → R.2.1 (t - 2).toNat = 7 * S (a + 2) x.toNat + S (a + 3) x.toNat) : scR (up2 S (a + 1) v x) a κ (nmR R v t) := by
  obtain ⟨h1, h2, h3, h4, h5⟩ := h
  have eu : ∀ u, up2 S (a + 1) v x (a + 1) u = if u = v then x else S (a + 1) u := fun u => by unfold up2; simp
  refine ⟨fun w hw => ?_, fun w u hw hu => ?_, fun w hw => ?_, ⟨fun k1 => ⟨?_, ?_⟩, fun k1 => ?_⟩, fun k hk => ?_⟩
  · rw [eu]
    show ((if w = v then x else S (a + 1) w) = -1 ↔ ud R.1 v t w = 0) ∧ ((if w = v then x else S (a + 1) w) = 5 ↔ ud R.1 v t w = 1)
    unfold ud
    by_cases e : w = v
    · simp only [e, if_true]; exact ⟨h0, h5'⟩
    · simp only [e, if_false]; exact h1 w hw
  · rw [eu, eu]
    show (_ ↔ ud R.1 v t w = ud R.1 v t u)
    unfold ud
    by_cases e : w = v <;> by_cases e2 : u = v
    · simp [e, e2]
    · simp only [e, e2, if_true, if_false]
      have := hx u hu
      constructor
      · intro z; exact (this.mp z.symm).symm
      · intro z; exact (this.mpr z.symm).symm
    · simp only [e, e2, if_true, if_false]; exact hx w hw
    · simp only [e, e2, if_false]; exact h2 w u hw hu
  · rw [eu, up2_rd (show a + 2 ≠ a + 1 by omega), up2_rd (show a + 3 ≠ a + 1 by omega)]
    show _ → _ → R.2.1 (ud R.1 v t w - 2).toNat = _
    unfold ud
    by_cases e : w = v
    · simp only [e, if_true]; exact ho
    · simp only [e, if_false]; exact h3 w hw
  · rw [up2_rd (by omega)]; exact (h4.1 k1).1
  · rw [up2_rd (by omega)]; exact (h4.1 k1).2
  · rw [up2_rd (by omega)]; exact h4.2 k1
  · rw [up2_rd (by omega)]; exact h5 k hk
theorem rg_name (h : rgV S κ R) {v : Nat} (hv : v < 5) {t : Int} (ht : t = 0 ∨ ∃ w, w < 5 ∧ t = R.1 w) : rgV S κ (nmR R v t) := by
  obtain ⟨hB, h1, h2, h3, h4, h5⟩ := h
  have key : ∀ u, u < 5 → ud R.1 v t u = 0 ∨ ∃ w, w < 5 ∧ ud R.1 v t u = R.1 w := fun u hu => by
    unfold ud
    by_cases e : u = v
    · simp only [e, if_true]; exact ht
    · simp only [e, if_false]; exact Or.inr ⟨u, hu, rfl⟩
  refine ⟨⟨fun u hu => ?_, hB.2.1, hB.2.2.1, hB.2.2.2⟩, fun u hu e => ?_, fun u hu e => ?_, h3, h4, h5⟩
  · show 0 ≤ ud R.1 v t u ∧ ud R.1 v t u ≤ 6
    rcases key u hu with q | ⟨w, hw, q⟩
    · omega
    · rw [q]; exact hB.1 w hw
  · have e : ud R.1 v t u = 1 := e
    rcases key u hu with q | ⟨w, hw, q⟩
    · omega
    · rw [q] at e; exact h1 w hw e
  · have e : 2 ≤ ud R.1 v t u := e
    show okC S (R.2.1 (ud R.1 v t u - 2).toNat)
    rcases key u hu with q | ⟨w, hw, q⟩
    · omega
    · rw [q] at e ⊢; exact h2 w hw e
/-- a new THING -/
theorem sc_make (h : scR S a κ R) (hV : scV S a) (hB : rgB R) {v : Int} (hv : 0 ≤ v ∧ v < 5) {k : Int} : scR (mkS S a v k) a κ (mkR R v.toNat k) := by
  obtain ⟨h1, h2, h3, h4, h5⟩ := h
  have eu : ∀ u, up2 S (a + 1) v.toNat (-1) (a + 1) u = if u = v.toNat then -1 else S (a + 1) u := fun u => by unfold up2; simp
  have f1 := frF_free (up2 S (a + 1) v.toNat (-1) (a + 1)) 5 0 (fr_ex (a := v.toNat) (by omega) 0 (Or.inl (by rw [eu]; simp)))
  have f2 := frF_free (ud R.1 v.toNat 0) 5 2 (fr_ex (a := v.toNat) (by omega) 2 (Or.inl (by rw [ud_same]; omega)))
  unfold mkS mkR
  obtain ⟨f, hf⟩ : ∃ f, frSl (up2 S (a + 1) v.toNat (-1) (a + 1)) = f := ⟨_, rfl⟩
  obtain ⟨t, ht⟩ : ∃ t, frF (ud R.1 v.toNat 0) 5 2 = t := ⟨_, rfl⟩
  rw [show frF (up2 S (a + 1) v.toNat (-1) (a + 1)) 5 0 = f from hf] at f1
  rw [ht] at f2
  rw [hf, ht, up2_up2]
  have f1' : ∀ w, w < 5 → w ≠ v.toNat → S (a + 1) w ≠ f := fun w hw hn => by have := f1.1 w hw; rw [eu, if_neg hn] at this; exact this
  have f2' : ∀ w, w < 5 → w ≠ v.toNat → R.1 w ≠ t := fun w hw hn => by have := f2.1 w hw; rw [ud_ne hn] at this; exact this
  have e1 : ∀ u, up2 (up2 (up2 S (a + 1) v.toNat f) (a + 2) f.toNat k) (a + 3) f.toNat 0 (a + 1) u = if u = v.toNat then f else S (a + 1) u := fun u => by unfold up2; simp
  have e2 : ∀ u, up2 (up2 (up2 S (a + 1) v.toNat f) (a + 2) f.toNat k) (a + 3) f.toNat 0 (a + 2) u = if u = f.toNat then k else S (a + 2) u := fun u => by unfold up2; simp
  have e3 : ∀ u, up2 (up2 (up2 S (a + 1) v.toNat f) (a + 2) f.toNat k) (a + 3) f.toNat 0 (a + 3) u = if u = f.toNat then 0 else S (a + 3) u := fun u => by unfold up2; simp
  have e0 : ∀ u, up2 (up2 (up2 S (a + 1) v.toNat f) (a + 2) f.toNat k) (a + 3) f.toNat 0 a u = S a u := fun u => by unfold up2; simp
  refine ⟨fun w hw => ?_, fun w u hw hu => ?_, fun w hw => ?_, ⟨fun k1 => ⟨?_, ?_⟩, fun k1 => ?_⟩, fun k hk => ?_⟩
  · rw [e1]
    show (_ ↔ ud R.1 v.toNat t w = 0) ∧ (_ ↔ ud R.1 v.toNat t w = 1)
    unfold ud
    by_cases e : w = v.toNat
    · simp only [e, if_true]; omega
    · simp only [e, if_false]; exact h1 w hw
  · rw [e1, e1]
    show (_ ↔ ud R.1 v.toNat t w = ud R.1 v.toNat t u)
    unfold ud
    by_cases g : w = v.toNat <;> by_cases g2 : u = v.toNat
    · simp [g, g2]
    · simp only [g, g2, if_true, if_false]
      have a1 := f1' u hu g2
      have a2 := f2' u hu g2
      constructor
      · intro z; exact absurd z.symm a1
      · intro z; exact absurd z.symm a2
    · simp only [g, g2, if_true, if_false]
      have a1 := f1' w hw g
      have a2 := f2' w hw g
      constructor
      · intro z; exact absurd z a1
      · intro z; exact absurd z a2
    · simp only [g, g2, if_false]; exact h2 w u hw hu
  · rw [e1]
    show _ → _ → ud R.2.1 (t - 2).toNat (7 * k) (ud R.1 v.toNat t w - 2).toNat = _
    by_cases e : w = v.toNat
    · rw [if_pos e, e, ud_same, ud_same, e2, e3, if_pos rfl, if_pos rfl]
      intro _ _; omega
    · rw [if_neg e, ud_ne e, e2, e3]
      intro g1 g2
      have a1 := f1' w hw e
      have a2 := f2' w hw e
      have hs := hV.2.2.2.1 w hw
      have hb := hB.1 w hw
      have w0 : R.1 w ≠ 0 := fun z => g1 ((h1 w hw).1.mpr z)
      have w1 : R.1 w ≠ 1 := fun z => g2 ((h1 w hw).2.mpr z)
      rw [if_neg (by omega), if_neg (by omega), ud_ne (by omega)]
      exact h3 w hw g1 g2
  · rw [e3, if_neg (by omega)]; exact (h4.1 k1).1
  · rw [e2, if_neg (by omega)]; exact (h4.1 k1).2
  · rw [e3, if_neg (by omega)]; exact h4.2 k1
  · rw [e0]; exact h5 k hk
theorem rg_make (hm : mdV S) (hA : mkA S) (h : rgV S κ R) {v : Nat} (hv : v < 5) {k : Int} (hk : 0 ≤ k ∧ k < S 181 0) : rgV S κ (mkR R v k) := by
  obtain ⟨hB, h1, h2, h3, h4, h5⟩ := h
  have f2 := frF_free (ud R.1 v 0) 5 2 (fr_ex (a := v) hv 2 (Or.inl (by rw [ud_same]; omega)))
  unfold mkR
  obtain ⟨t, ht⟩ : ∃ t, frF (ud R.1 v 0) 5 2 = t := ⟨_, rfl⟩
  rw [ht] at f2 ⊢
  have f2' : ∀ w, w < 5 → w ≠ v → R.1 w ≠ t := fun w hw hn => by have := f2.1 w hw; rw [ud_ne hn] at this; exact this
  have u0 := hm.1
  have hk0 := (hA k.toNat (by omega)).2
  have okk : okC S (7 * k) := ⟨by omega, by omega, Or.inl (by rw [show 7 * k / 7 = k by omega]; omega)⟩
  refine ⟨⟨fun u hu => ?_, fun j hj => ?_, hB.2.2.1, hB.2.2.2⟩, fun u hu e => ?_, fun u hu e => ?_, h3, h4, h5⟩
  · show 0 ≤ ud R.1 v t u ∧ ud R.1 v t u ≤ 6
    unfold ud
    split
    · omega
    · exact hB.1 u hu
  · show 0 ≤ ud R.2.1 (t - 2).toNat (7 * k) j ∧ ud R.2.1 (t - 2).toNat (7 * k) j < 42
    unfold ud
    split
    · exact okk.1
    · exact hB.2.1 j hj
  · have e : ud R.1 v t u = 1 := e
    unfold ud at e
    split at e
    · omega
    · exact h1 u hu e
  · have e : 2 ≤ ud R.1 v t u := e
    show okC S (ud R.2.1 (t - 2).toNat (7 * k) (ud R.1 v t u - 2).toNat)
    by_cases g : u = v
    · rw [g, ud_same, ud_same]; exact okk
    · rw [ud_ne g] at e ⊢
      have := f2' u hu g
      rw [ud_ne (by omega)]
      exact h2 u hu e
end
