/-! ===== begin, pack, unpack: the scene and the registers ===== -/
abbrev hwC (so : Int) : Int := if so = 1 then 0 else if so = 2 then 1 else 2
theorem bg0_rd {S : mm_S} {a : Nat} {r : Int} : (∀ b, b < a ∨ a + 3 < b → bg0 S a r b = S b) ∧ bg0 S a r a 0 = r ∧ bg0 S a r a 1 = 0 ∧ bg0 S a r a 2 = 0 ∧ (∀ v, v < 5 → bg0 S a r (a + 1) v = -1) ∧ (bg0 S a r (a + 2) 5 = 0 ∧ bg0 S a r (a + 3) 5 = 0) ∧ ∀ j, j ≠ 5 → bg0 S a r (a + 2) j = S (a + 2) j ∧ bg0 S a r (a + 3) j = S (a + 3) j := by
  refine ⟨fun b hb => ?_, ?_, ?_, ?_, fun v hv => ?_, ⟨?_, ?_⟩, fun j hj => ⟨?_, ?_⟩⟩
  · funext j
    unfold bg0 fillS up2
    have h1 : b ≠ a := by omega
    have h2 : b ≠ a + 1 := by omega
    have h3 : b ≠ a + 2 := by omega
    have h4 : b ≠ a + 3 := by omega
    simp [h1, h2, h3, h4]
  · unfold bg0 fillS up2; simp
  · unfold bg0 fillS up2; simp
  · unfold bg0 fillS up2; simp
  · unfold bg0 fillS up2; simp [hv]
  · unfold bg0 fillS up2; simp
  · unfold bg0 fillS up2; simp
  · unfold bg0 fillS up2; simp [hj]
  · unfold bg0 fillS up2; simp [hj]
theorem bg_F {S : mm_S} {a : Nat} {r h k s : Int} : scF S (bgS S a r h k s) a := fun b hb => by
  have h0 := bg0_rd (S := S) (a := a) (r := r)
  unfold bgS
  split
  · exact h0.1 b hb
  · split
    · rw [up2_row (by omega), up2_row (by omega), up2_row (by omega)]; exact h0.1 b hb
    · rw [up2_row (by omega), up2_row (by omega), up2_row (by omega)]; exact h0.1 b hb
/-- what stays in range in a scene, whatever it held -/
def scW (S : mm_S) (a : Nat) : Prop := ∀ j : Nat, j < 6 → (0 ≤ S (a + 2) j ∧ S (a + 2) j ≤ 5) ∧ (0 ≤ S (a + 3) j ∧ S (a + 3) j ≤ 6)
theorem bg_V {S : mm_S} {a : Nat} {r h k s : Int} (hW : scW S a) (hr : 0 ≤ r ∧ r < 6) (hk : 0 ≤ k ∧ k ≤ 5) (hs : 0 ≤ s ∧ s ≤ 6) : scV (bgS S a r h k s) a := by
  obtain ⟨b1, b2, b3, b4, b5, b6, b7⟩ := bg0_rd (S := S) (a := a) (r := r)
  have h0 : scV (bg0 S a r) a := by
    refine ⟨by rw [b2]; exact hr, by rw [b3]; omega, by rw [b4]; omega, fun v hv => by rw [b5 v hv]; omega, fun j hj => ?_⟩
    by_cases e : j = 5
    · rw [e, b6.1, b6.2]; omega
    · rw [(b7 j e).1, (b7 j e).2]; exact hW j hj
  unfold bgS
  split
  · exact h0
  · split
    · exact scV_st (scV_kd (scV_nm h0 (by omega)) hk) hs
    · exact scV_st (scV_kd (scV_nm h0 (by omega)) hk) hs
theorem rg_bg {S : mm_S} {κ : kyT} (hκ : kyV S κ) (hm : mdV S) : rgV S κ (bgR κ) := by
  obtain ⟨h1, h2, h3, h4⟩ := hκ
  have u0 := hm.1
  have e1 : ∀ v, v < 5 → (bgR κ).1 v = if v = 0 then κ.1 else 0 := fun v hv => by
    show nrm 5 (ud (fun _ => 0) 0 κ.1) v = _
    rw [nrm_in hv]; rfl
  have e2 : ∀ v, v < 5 → (bgR κ).2.1 v = if v = 0 then (if κ.1 = 2 then 7 * κ.2.2.1 + κ.2.2.2 else 0) else 0 := fun v hv => by
    show nrm 5 (ud (fun _ => 0) 0 _) v = _
    rw [nrm_in hv]; rfl
  have hk : κ.1 ≠ 0 → 0 ≤ κ.2.2.1 ∧ κ.2.2.1 < 6 ∧ 0 ≤ κ.2.2.2 ∧ κ.2.2.2 < 6 ∧ κ.2.2.2 < S 182 κ.2.2.1.toNat := fun z => by
    have g := h3 z
    have := hm.2.2.1 κ.2.2.1.toNat (by omega)
    omega
  refine ⟨⟨fun v hv => ?_, fun v hv => ?_, ?_, fun k hk => ?_⟩, fun v hv e => ?_, fun v hv e => ?_, fun e => ?_, fun e => ?_, fun k hk => ?_⟩
  · rw [e1 v hv]; split <;> omega
  · rw [e2 v hv]
    split
    · split
      · have := hk (by omega); omega
      · omega
    · omega
  · show 0 ≤ (if κ.1 = 1 then κ.2.2.2 else 7) ∧ (if κ.1 = 1 then κ.2.2.2 else 7) < 8
    split
    · have := hk (by omega); omega
    · omega
  · show 0 ≤ (0 : Int) ∧ (0 : Int) < 4
    omega
  · rw [e1 v hv] at e
    split at e
    · exact e
    · omega
  · rw [e1 v hv] at e ⊢
    split at e
    · rename_i hv0
      have e2' : κ.1 = 2 := by omega
      have g := hk (by omega)
      rw [if_pos hv0, e2', show ((2 : Int) - 2).toNat = 0 from rfl, e2 0 (by omega), if_pos rfl, if_pos e2']
      refine ⟨by omega, ?_, Or.inl ?_⟩
      · have := (h3 (by omega)).1; omega
      · rw [show (7 * κ.2.2.1 + κ.2.2.2) / 7 = κ.2.2.1 by omega, show (7 * κ.2.2.1 + κ.2.2.2) % 7 = κ.2.2.2 by omega]; exact g.2.2.2.2
    · omega
  · have g := h3 (by omega)
    refine ⟨g.1, ?_⟩
    show 0 ≤ (if κ.1 = 1 then κ.2.2.2 else 7) ∧ (if κ.1 = 1 then κ.2.2.2 else 7) < _
    rw [if_pos e]; exact g.2
  · show (if κ.1 = 1 then κ.2.2.2 else 7) = 7
    rw [if_neg e]
  · show (0 : Int) ≤ 2
    omega
theorem sc_bg {S : mm_S} {a : Nat} {κ : kyT} (h1 : 0 ≤ κ.1 ∧ κ.1 ≤ 2) {r : Int} : scR (bgS S a r (hwC κ.1) κ.2.2.1 κ.2.2.2) a κ (bgR κ) := by
  obtain ⟨b1, b2, b3, b4, b5, b6, b7⟩ := bg0_rd (S := S) (a := a) (r := r)
  have e1 : ∀ v, v < 5 → (bgR κ).1 v = if v = 0 then κ.1 else 0 := fun v hv => by
    show nrm 5 (ud (fun _ => 0) 0 κ.1) v = _
    rw [nrm_in hv]; rfl
  have e2 : ∀ v, v < 5 → (bgR κ).2.1 v = if v = 0 then (if κ.1 = 2 then 7 * κ.2.2.1 + κ.2.2.2 else 0) else 0 := fun v hv => by
    show nrm 5 (ud (fun _ => 0) 0 _) v = _
    rw [nrm_in hv]; rfl
  unfold bgS hwC
  rcases (show κ.1 = 0 ∨ κ.1 = 1 ∨ κ.1 = 2 by omega) with e | e | e
  · rw [e]
    simp only [show ((0 : Int) = 1) = False by decide, show ((0 : Int) = 2) = False by decide, if_false, if_true]
    refine ⟨fun v hv => ?_, fun v w hv hw => ?_, fun v hv g => ?_, ⟨fun z => by omega, fun _ => b6.2⟩, fun k hk => ?_⟩
    · rw [b5 v hv, e1 v hv, e]; split <;> omega
    · rw [b5 v hv, b5 w hw, e1 v hv, e1 w hw, e]; simp
    · rw [b5 v hv] at g; exact absurd rfl g
    · rw [b4]; simp [bgR]
  · rw [e]
    simp only [show ((0 : Int) = 1) = False by decide, show ((0 : Int) = 2) = False by decide, if_false, if_true]
    have s1 : ∀ v, v < 5 → up2 (up2 (up2 (bg0 S a r) (a + 1) 0 5) (a + 2) 5 κ.2.2.1) (a + 3) 5 κ.2.2.2 (a + 1) v = if v = 0 then 5 else -1 := fun v hv => by
      rw [up2_rd (by omega), up2_rd (by omega)]
      by_cases q : v = 0
      · subst q; rw [up2_same]; rfl
      · rw [up2_rc q, b5 v hv, if_neg q]
    refine ⟨fun v hv => ?_, fun v w hv hw => ?_, fun v hv g1 g2 => ?_, ⟨fun z => ⟨?_, ?_⟩, fun z => absurd e z⟩, fun k hk => ?_⟩
    · rw [s1 v hv, e1 v hv, e]; split <;> omega
    · rw [s1 v hv, s1 w hw, e1 v hv, e1 w hw, e]
      by_cases q : v = 0 <;> by_cases q2 : w = 0 <;> simp [q, q2]
    · rw [s1 v hv] at g1 g2
      split at g1
      · rename_i q; rw [if_pos q] at g2; exact absurd rfl g2
      · exact absurd rfl g1
    · rw [up2_same]; simp [bgR, e]
    · rw [up2_rd (by omega), up2_same]
    · rw [up2_rd (by omega), up2_rd (by omega), up2_rd (by omega), b4]; simp [bgR]
  · rw [e]
    simp only [show ((1 : Int) = 2) = False by decide, show ((2 : Int) = 1) = False by decide, if_false, if_true]
    have s1 : ∀ v, v < 5 → up2 (up2 (up2 (bg0 S a r) (a + 1) 0 0) (a + 2) 0 κ.2.2.1) (a + 3) 0 κ.2.2.2 (a + 1) v = if v = 0 then 0 else -1 := fun v hv => by
      rw [up2_rd (by omega), up2_rd (by omega)]
      by_cases q : v = 0
      · subst q; rw [up2_same]; rfl
      · rw [up2_rc q, b5 v hv, if_neg q]
    refine ⟨fun v hv => ?_, fun v w hv hw => ?_, fun v hv g1 g2 => ?_, ⟨fun z => by omega, fun z => ?_⟩, fun k hk => ?_⟩
    · rw [s1 v hv, e1 v hv, e]; split <;> omega
    · rw [s1 v hv, s1 w hw, e1 v hv, e1 w hw, e]
      by_cases q : v = 0 <;> by_cases q2 : w = 0 <;> simp [q, q2]
    · rw [s1 v hv] at g1 ⊢
      by_cases q : v = 0
      · rw [if_pos q, e1 v hv, if_pos q, e, show ((2 : Int) - 2).toNat = 0 from rfl, e2 0 (by omega), if_pos rfl, if_pos e, show ((0 : Int)).toNat = 0 from rfl, up2_rd (by omega), up2_same, up2_same]
      · rw [if_neg q] at g1; exact absurd rfl g1
    · rw [up2_rc (by omega), up2_rd (by omega), up2_rd (by omega)]; exact b6.2
    · rw [up2_rd (by omega), up2_rd (by omega), up2_rd (by omega), b4]; simp [bgR]
theorem bg_pl {S : mm_S} {a : Nat} {r h k s : Int} : bgS S a r h k s a 0 = r ∧ bgS S a r h k s a 1 = 0 := by
  obtain ⟨b1, b2, b3, b4, b5, b6, b7⟩ := bg0_rd (S := S) (a := a) (r := r)
  unfold bgS
  split
  · exact ⟨b2, b3⟩
  · split
    · rw [up2_rd (by omega), up2_rd (by omega), up2_rd (by omega), up2_rd (by omega), up2_rd (by omega), up2_rd (by omega)]; exact ⟨b2, b3⟩
    · rw [up2_rd (by omega), up2_rd (by omega), up2_rd (by omega), up2_rd (by omega), up2_rd (by omega), up2_rd (by omega)]; exact ⟨b2, b3⟩
/-- the registers may be numbered anew -/
theorem sc_pq {S : mm_S} {a : Nat} {κ : kyT} {R R' : rgT} (h : scR S a κ R) (hB : rgB R) (hq : pqR R R') : scR S a κ R' := by
  obtain ⟨h1, h2, h3, h4, h5⟩ := h
  obtain ⟨q1, q2, q3, q4, q5⟩ := hq
  refine ⟨fun v hv => ⟨(h1 v hv).1.trans (q1 v hv).1, (h1 v hv).2.trans (q1 v hv).2⟩, fun v w hv hw => (h2 v w hv hw).trans (q2 v w hv hw), fun v hv g1 g2 => ?_, ⟨fun e => by rw [← q4]; exact h4.1 e, h4.2⟩, fun k hk => by rw [← q5 k hk]; exact h5 k hk⟩
  have hb := hB.1 v hv
  have n0 : R.1 v ≠ 0 := fun z => g1 ((h1 v hv).1.mpr z)
  have n1 : R.1 v ≠ 1 := fun z => g2 ((h1 v hv).2.mpr z)
  rw [← q3 v hv (by omega)]
  exact h3 v hv g1 g2
theorem pq_sc {S : mm_S} {a : Nat} {κ : kyT} {R R' : rgT} (h : scR S a κ R) (h' : scR S a κ R') (hB : rgB R) (hle : R.2.2.1 = R'.2.2.1) : pqR R R' := by
  obtain ⟨h1, h2, h3, h4, h5⟩ := h
  obtain ⟨g1, g2, g3, g4, g5⟩ := h'
  refine ⟨fun v hv => ⟨(h1 v hv).1.symm.trans (g1 v hv).1, (h1 v hv).2.symm.trans (g1 v hv).2⟩, fun v w hv hw => (h2 v w hv hw).symm.trans (g2 v w hv hw), fun v hv e => ?_, hle, fun k hk => by rw [h5 k hk, g5 k hk]⟩
  have n0 : S (a + 1) v ≠ -1 := fun z => by have := (h1 v hv).1.mp z; omega
  have n1 : S (a + 1) v ≠ 5 := fun z => by have := (h1 v hv).2.mp z; omega
  rw [h3 v hv n0 n1, g3 v hv n0 n1]
theorem rg_pq {S : mm_S} {κ : kyT} {R R' : rgT} (h : rgV S κ R) (hB' : rgB R') (hq : pqR R R') : rgV S κ R' := by
  obtain ⟨hB, h1, h2, h3, h4, h5⟩ := h
  obtain ⟨q1, q2, q3, q4, q5⟩ := hq
  refine ⟨hB', fun v hv e => h1 v hv ((q1 v hv).2.mpr e), fun v hv e => ?_, fun e => by rw [← q4]; exact h3 e, fun e => by rw [← q4]; exact h4 e, fun k hk => by rw [← q5 k hk]; exact h5 k hk⟩
  have hb := hB.1 v hv
  have n0 : R.1 v ≠ 0 := fun z => by have := (q1 v hv).1.mp z; omega
  have n1 : R.1 v ≠ 1 := fun z => by have := (q1 v hv).2.mp z; omega
  rw [← q3 v hv (by omega)]
  exact h2 v hv (by omega)
theorem it_un {S : mm_S} {κ : kyT} {pl : Int} {R : rgT} (h : itV S κ pl R) : itV S κ pl (unM (pkM R)) := by
  obtain ⟨h1, h2, h3⟩ := h
  have q := un_pq h1.1
  exact ⟨rg_pq h1 q.2 q.1, h2, fun k hk e => h3 k hk (by rw [q.1.2.2.2.2 k hk]; exact e)⟩
/-! the first VARIABLE that names it -/
theorem sameF_sp (nm : Nat → Int) (x : Int) : ∀ (n w : Nat), (sameF nm x n w = -1 ∧ ∀ u, w ≤ u → u < w + n → nm u ≠ x) ∨ ∃ r : Nat, sameF nm x n w = r ∧ w ≤ r ∧ r < w + n ∧ nm r = x ∧ ∀ u, w ≤ u → u < r → nm u ≠ x
  | 0, w => Or.inl ⟨rfl, fun u h1 h2 => by omega⟩
  | n + 1, w => by
    simp only [sameF]
    by_cases e : nm w = x
    · rw [if_pos e]
      exact Or.inr ⟨w, rfl, Nat.le_refl _, by omega, e, fun u h1 h2 => by omega⟩
    · rw [if_neg e]
      rcases sameF_sp nm x n (w + 1) with ⟨h1, h2⟩ | ⟨r, h1, h2, h3, h4, h5⟩
      · refine Or.inl ⟨h1, fun u g1 g2 => ?_⟩
        by_cases q : u = w
        · rw [q]; exact e
        · exact h2 u (by omega) (by omega)
      · refine Or.inr ⟨r, h1, by omega, by omega, h4, fun u g1 g2 => ?_⟩
        by_cases q : u = w
        · rw [q]; exact e
        · exact h5 u (by omega) g2
def fsV (nm : Nat → Int) (u : Nat) : Int := if nm u = -1 then -1 else if nm u = 5 then 5 else if sameV nm u ≠ -1 then sameV nm u else u
theorem fsV_sp {nm : Nat → Int} {u : Nat} (h1 : nm u ≠ -1) (h2 : nm u ≠ 5) : ∃ w : Nat, fsV nm u = w ∧ w ≤ u ∧ nm w = nm u ∧ ∀ q, q < w → nm q ≠ nm u := by
  unfold fsV
  rw [if_neg h1, if_neg h2]
  rcases sameF_sp nm (nm u) u 0 with ⟨g1, g2⟩ | ⟨r, g1, g2, g3, g4, g5⟩
  · rw [if_neg (fun z => z g1)]
    exact ⟨u, rfl, Nat.le_refl _, rfl, fun q hq => g2 q (by omega) (by omega)⟩
  · rw [if_pos (by show sameF nm (nm u) u 0 ≠ -1; omega)]
    exact ⟨r, g1, by omega, g4, fun q hq => g5 q (by omega) hq⟩
theorem fsV_eq {nm : Nat → Int} {u w : Nat} (hu : u < 5) (hw : w < 5) : fsV nm u = fsV nm w ↔ nm u = nm w := by
  by_cases a1 : nm u = -1
  · have e : fsV nm u = -1 := by unfold fsV; rw [if_pos a1]
    by_cases b1 : nm w = -1
    · have e2 : fsV nm w = -1 := by unfold fsV; rw [if_pos b1]
      rw [e, e2, a1, b1]
    · by_cases b2 : nm w = 5
      · have e2 : fsV nm w = 5 := by unfold fsV; rw [if_neg b1, if_pos b2]
        rw [e, e2, a1, b2]
      · obtain ⟨q, g1, g2, g3, g4⟩ := fsV_sp b1 b2
        rw [e, g1, a1]
        constructor
        · intro z; omega
        · intro z; exact absurd z.symm b1
  · by_cases a2 : nm u = 5
    · have e : fsV nm u = 5 := by unfold fsV; rw [if_neg a1, if_pos a2]
      by_cases b1 : nm w = -1
      · have e2 : fsV nm w = -1 := by unfold fsV; rw [if_pos b1]
        rw [e, e2, a2, b1]
      · by_cases b2 : nm w = 5
        · have e2 : fsV nm w = 5 := by unfold fsV; rw [if_neg b1, if_pos b2]
          rw [e, e2, a2, b2]
        · obtain ⟨q, g1, g2, g3, g4⟩ := fsV_sp b1 b2
          rw [e, g1, a2]
          constructor
          · intro z; omega
          · intro z; exact absurd z.symm b2
    · obtain ⟨p, f1, f2, f3, f4⟩ := fsV_sp a1 a2
      by_cases b1 : nm w = -1
      · have e2 : fsV nm w = -1 := by unfold fsV; rw [if_pos b1]
        rw [f1, e2, b1]
        constructor
        · intro z; omega
        · intro z; exact absurd z a1
      · by_cases b2 : nm w = 5
        · have e2 : fsV nm w = 5 := by unfold fsV; rw [if_neg b1, if_pos b2]
          rw [f1, e2, b2]
          constructor
          · intro z; omega
          · intro z; exact absurd z a2
        · obtain ⟨q, g1, g2, g3, g4⟩ := fsV_sp b1 b2
          rw [f1, g1]
          constructor
          · intro z
            have : p = q := by omega
            rw [← f3, ← g3, this]
          · intro z
            by_cases c1 : p < q
            · exact absurd (f3.trans z) (g4 p c1)
            · by_cases c2 : q < p
              · exact absurd (g3.trans z.symm) (f4 q c2)
              · omega
