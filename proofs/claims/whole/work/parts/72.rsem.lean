/-! ===== What the registers say: pure ===== -/
/-- the registers hold numbers that pack -/
def rgB (R : rgT) : Prop := (∀ v, v < 5 → 0 ≤ R.1 v ∧ R.1 v ≤ 6) ∧ (∀ j, j < 5 → 0 ≤ R.2.1 j ∧ R.2.1 j < 42) ∧ (0 ≤ R.2.2.1 ∧ R.2.2.1 < 8) ∧ ∀ k, k < 6 → 0 ≤ R.2.2.2 k ∧ R.2.2.2 k < 4
theorem rgB_S {S : mm_S} (h : rgB (rgS S)) : rgR S := by
  obtain ⟨h1, h2, h3, h4⟩ := h
  refine ⟨fun k hk => ?_, fun k hk => ?_, h3, fun k hk => ?_⟩
  · have := h1 k hk
    rw [show (rgS S).1 k = S 198 k from nrm_in hk] at this
    exact this
  · have := h2 k hk
    rw [show (rgS S).2.1 k = S 199 k from nrm_in hk] at this
    exact this
  · have := h4 k hk
    rw [show (rgS S).2.2.2 k = S 200 k from nrm_in hk] at this
    exact this
/-- they say the same: only the THINGS' numbers differ -/
def pqR (R R' : rgT) : Prop := (∀ v, v < 5 → (R.1 v = 0 ↔ R'.1 v = 0) ∧ (R.1 v = 1 ↔ R'.1 v = 1)) ∧ (∀ v w, v < 5 → w < 5 → (R.1 v = R.1 w ↔ R'.1 v = R'.1 w)) ∧ (∀ v, v < 5 → 2 ≤ R.1 v → R.2.1 (R.1 v - 2).toNat = R'.2.1 (R'.1 v - 2).toNat) ∧ R.2.2.1 = R'.2.2.1 ∧ ∀ k, k < 6 → R.2.2.2 k = R'.2.2.2 k
theorem pkI_pq {R R' : rgT} (hB : rgB R) (hB' : rgB R') (h : pqR R R') : ∀ k, k ≤ 5 → (pkI R.1 R.2.1 k).1 = (pkI R'.1 R'.2.1 k).1 ∧ (∀ j, (pkI R.1 R.2.1 k).2.2 j = (pkI R'.1 R'.2.1 k).2.2 j) ∧ ∀ j, j < 5 → (pkI R.1 R.2.1 k).2.1 (R.1 j).toNat = (pkI R'.1 R'.2.1 k).2.1 (R'.1 j).toNat
  | 0, _ => by
    refine ⟨rfl, fun _ => rfl, fun j hj => ?_⟩
    have h1 := h.1 j hj
    have b1 := hB.1 j hj
    have b2 := hB'.1 j hj
    simp only [pkI]
    by_cases e0 : R.1 j = 0
    · rw [e0, h1.1.mp e0]
    · by_cases e1 : R.1 j = 1
      · rw [e1, h1.2.mp e1]
      · have e0' : R'.1 j ≠ 0 := fun z => e0 (h1.1.mpr z)
        have e1' : R'.1 j ≠ 1 := fun z => e1 (h1.2.mpr z)
        rw [if_neg (by omega), if_neg (by omega)]
  | k + 1, hk => by
    obtain ⟨i1, i2, i3⟩ := pkI_pq hB hB' h k (by omega)
    have hk5 : k < 5 := by omega
    have hb := hB.1 k hk5
    have hb' := hB'.1 k hk5
    have nb := pkI_R (V := R.1) (O := R.2.1) hB.1 (fun j hj => ⟨(hB.2.1 j hj).1, by have := (hB.2.1 j hj).2; omega⟩) k (by omega)
    simp only [pkI]
    rw [← i3 k hk5]
    by_cases hn : (pkI R.1 R.2.1 k).2.1 (R.1 k).toNat = -1
    · rw [if_pos hn, if_pos hn]
      have hg : 2 ≤ R.1 k := by
        by_cases e0 : R.1 k = 0
        · rw [e0] at hn; have := nb.2.2.1.1; simp only [Int.toNat_zero] at hn; omega
        · by_cases e1 : R.1 k = 1
          · rw [e1] at hn; have := nb.2.2.1.2; simp only [show (1 : Int).toNat = 1 from rfl] at hn; omega
          · omega
      dsimp only
      refine ⟨by rw [i1], fun j => ?_, fun j hj => ?_⟩
      · rw [← i1, h.2.2.1 k hk5 hg]
        unfold ud
        split
        · rfl
        · exact i2 j
      · have hj1 := hB.1 j hj
        have hj2 := hB'.1 j hj
        have hjk := h.2.1 j k hj hk5
        unfold ud
        by_cases e : R.1 j = R.1 k
        · rw [if_pos (by rw [e]), if_pos (by rw [hjk.mp e]), i1]
        · have e' : R'.1 j ≠ R'.1 k := fun z => e (hjk.mpr z)
          rw [if_neg (by omega), if_neg (by omega)]
          exact i3 j hj
    · rw [if_neg hn, if_neg hn]
      exact ⟨i1, i2, i3⟩
theorem pkM_pq {R R' : rgT} (hB : rgB R) (hB' : rgB R') (h : pqR R R') : pkM R = pkM R' := by
  obtain ⟨i1, i2, i3⟩ := pkI_pq hB hB' h 5 (by omega)
  unfold pkM
  rw [dgB_congr (c := R.2.2.2) (c' := R'.2.2.2) (fun j hj => h.2.2.2.2 j hj), h.2.2.2.1, dgB_congr (c := (pkI R.1 R.2.1 5).2.2) (c' := (pkI R'.1 R'.2.1 5).2.2) (fun j hj => i2 j), dgB_congr (c := fun k => (pkI R.1 R.2.1 5).2.1 (R.1 k).toNat) (c' := fun k => (pkI R'.1 R'.2.1 5).2.1 (R'.1 k).toNat) (fun j hj => i3 j hj)]
/-- what the numbers are by which they are packed -/
theorem pkI_sp {V O : Nat → Int} (hV : ∀ k, k < 5 → 0 ≤ V k ∧ V k ≤ 6) (hO : ∀ j, j < 5 → 0 ≤ O j ∧ O j < 64) : ∀ k, k ≤ 5 → (∀ t : Nat, 2 ≤ t → (pkI V O k).2.1 t ≠ -1 → 2 ≤ (pkI V O k).2.1 t ∧ (pkI V O k).2.2 ((pkI V O k).2.1 t - 2).toNat = O (t - 2)) ∧ ∀ t u : Nat, 2 ≤ t → 2 ≤ u → (pkI V O k).2.1 t ≠ -1 → (pkI V O k).2.1 t = (pkI V O k).2.1 u → t = u
  | 0, _ => by
    refine ⟨fun t ht h => ?_, fun t u ht hu h => ?_⟩
    · simp only [pkI] at h
      rw [if_neg (by omega)] at h
      exact absurd rfl h
    · simp only [pkI] at h
      rw [if_neg (by omega)] at h
      exact absurd rfl h
  | k + 1, hk => by
    obtain ⟨i1, i2⟩ := pkI_sp hV hO k (by omega)
    obtain ⟨h1, h2, h3, h4, h5⟩ := pkI_R hV hO k (by omega)
    have hb := hV k (by omega)
    simp only [pkI]
    by_cases hn : (pkI V O k).2.1 (V k).toNat = -1
    · rw [if_pos hn]
      have hg : 2 ≤ V k := by
        by_cases e0 : V k = 0
        · rw [e0] at hn; simp only [Int.toNat_zero] at hn; omega
        · by_cases e1 : V k = 1
          · rw [e1] at hn; simp only [show (1 : Int).toNat = 1 from rfl] at hn; omega
          · omega
      dsimp only
      refine ⟨fun t ht h => ?_, fun t u ht hu h e => ?_⟩
      · by_cases et : t = (V k).toNat
        · subst et
          rw [ud_same]
          refine ⟨by omega, ?_⟩
          rw [show (pkI V O k).1 + 2 - 2 = (pkI V O k).1 by omega, ud_same]
          congr 1
          omega
        · rw [ud_ne et] at h ⊢
          have := h2 t
          refine ⟨(i1 t ht h).1, ?_⟩
          have := (i1 t ht h).1
          rw [ud_ne (by omega)]
          exact (i1 t ht h).2
      · by_cases et : t = (V k).toNat <;> by_cases eu : u = (V k).toNat
        · omega
        · rw [et, ud_same, ud_ne eu] at e
          have := h2 u
          omega
        · rw [eu, ud_same, ud_ne et] at e
          have := h2 t
          omega
        · rw [ud_ne et] at h e
          rw [ud_ne eu] at e
          exact i2 t u ht hu h e
    · rw [if_neg hn]
      exact ⟨i1, i2⟩
abbrev pkNm (R : rgT) (v : Nat) : Int := (pkI R.1 R.2.1 5).2.1 (R.1 v).toNat
theorem pkM_R {R : rgT} (hB : rgB R) : 0 ≤ pkM R ∧ pkM R < 2 ^ 60 := by
  have hO : ∀ j, j < 5 → 0 ≤ R.2.1 j ∧ R.2.1 j < 64 := fun j hj => ⟨(hB.2.1 j hj).1, by have := (hB.2.1 j hj).2; omega⟩
  have nb := pkI_R (V := R.1) (O := R.2.1) hB.1 hO 5 (by omega)
  have g1 := dgB_R (c := R.2.2.2) (b := 2) (k := 6) (fun j hj => hB.2.2.2 j hj)
  have g2 := dgB_R (c := (pkI R.1 R.2.1 5).2.2) (b := 6) (k := 5) (fun j hj => nb.2.2.2.1 j)
  have g3 := dgB_R (c := fun k => (pkI R.1 R.2.1 5).2.1 (R.1 k).toNat) (b := 3) (k := 5) (fun j hj => by have a := nb.2.1 (R.1 j).toNat; have b := nb.2.2.2.2 j hj; show 0 ≤ (pkI R.1 R.2.1 5).2.1 (R.1 j).toNat ∧ (pkI R.1 R.2.1 5).2.1 (R.1 j).toNat < 2 ^ 3; omega)
  have g4 := hB.2.2.1
  unfold pkM
  omega
theorem un_pk {R : rgT} (hB : rgB R) : (∀ v, v < 5 → (unM (pkM R)).1 v = pkNm R v ∧ (unM (pkM R)).2.1 v = (pkI R.1 R.2.1 5).2.2 v) ∧ (unM (pkM R)).2.2.1 = R.2.2.1 ∧ ∀ k, k < 6 → (unM (pkM R)).2.2.2 k = R.2.2.2 k := by
  have hO : ∀ j, j < 5 → 0 ≤ R.2.1 j ∧ R.2.1 j < 64 := fun j hj => ⟨(hB.2.1 j hj).1, by have := (hB.2.1 j hj).2; omega⟩
  have nb := pkI_R (V := R.1) (O := R.2.1) hB.1 hO 5 (by omega)
  have hc1 : ∀ j, j < 6 → 0 ≤ R.2.2.2 j ∧ R.2.2.2 j < 2 ^ 2 := fun j hj => hB.2.2.2 j hj
  have hc2 : ∀ j, j < 5 → 0 ≤ (pkI R.1 R.2.1 5).2.2 j ∧ (pkI R.1 R.2.1 5).2.2 j < 2 ^ 6 := fun j hj => nb.2.2.2.1 j
  have hc3 : ∀ j, j < 5 → 0 ≤ (fun k => (pkI R.1 R.2.1 5).2.1 (R.1 k).toNat) j ∧ (fun k => (pkI R.1 R.2.1 5).2.1 (R.1 k).toNat) j < 2 ^ 3 := fun j hj => by
    have a := nb.2.1 (R.1 j).toNat
    have b := nb.2.2.2.2 j hj
    show 0 ≤ (pkI R.1 R.2.1 5).2.1 (R.1 j).toNat ∧ (pkI R.1 R.2.1 5).2.1 (R.1 j).toNat < 2 ^ 3
    omega
  have g1 := dgB_R hc1
  have g2 := dgB_R hc2
  have g3 := dgB_R hc3
  have g4 := hB.2.2.1
  have g3' : 0 ≤ dgB (fun k => (pkI R.1 R.2.1 5).2.1 (R.1 k).toNat) 3 5 ∧ dgB (fun k => (pkI R.1 R.2.1 5).2.1 (R.1 k).toNat) 3 5 < 2 ^ 15 := g3
  have g2' : 0 ≤ dgB (pkI R.1 R.2.1 5).2.2 6 5 ∧ dgB (pkI R.1 R.2.1 5).2.2 6 5 < 2 ^ 30 := g2
  refine ⟨fun v hv => ⟨?_, ?_⟩, ?_, fun k hk => ?_⟩
  · simp only [unM]
    rw [nrm_in hv, show (3 * (v : Int)).toNat = 3 * v by omega]
    unfold pkM
    rw [dig_low (by omega), dgB_at hc3 v hv]
  · simp only [unM]
    rw [nrm_in hv, show (15 + 6 * (v : Int)).toNat = 15 + 6 * v by omega]
    unfold pkM
    rw [dig_hi g3', dig_low (by omega), dgB_at hc2 v hv]
  · show pkM R / 2 ^ (45 : Int).toNat % 2 ^ 3 = _
    rw [show (45 : Int).toNat = 15 + (30 + 0) from rfl]
    unfold pkM
    rw [dig_hi g3', dig_hi g2', Int.pow_zero, Int.ediv_one]
    omega
  · simp only [unM]
    rw [nrm_in hk, show (48 + 2 * (k : Int)).toNat = 15 + (30 + (3 + 2 * k)) by omega]
    unfold pkM
    rw [dig_hi g3', dig_hi g2', dig_hi (by omega), dgB_at hc1 k hk]
theorem un_pq {R : rgT} (hB : rgB R) : pqR R (unM (pkM R)) ∧ rgB (unM (pkM R)) := by
  have hO : ∀ j, j < 5 → 0 ≤ R.2.1 j ∧ R.2.1 j < 64 := fun j hj => ⟨(hB.2.1 j hj).1, by have := (hB.2.1 j hj).2; omega⟩
  obtain ⟨u1, u2, u3⟩ := un_pk hB
  have nb := pkI_R (V := R.1) (O := R.2.1) hB.1 hO 5 (by omega)
  obtain ⟨s1, s2⟩ := pkI_sp (V := R.1) (O := R.2.1) hB.1 hO 5 (by omega)
  have key : ∀ v, v < 5 → (R.1 v = 0 → pkNm R v = 0) ∧ (R.1 v = 1 → pkNm R v = 1) ∧ (2 ≤ R.1 v → 2 ≤ pkNm R v ∧ pkNm R v ≤ 6 ∧ (pkI R.1 R.2.1 5).2.2 (pkNm R v - 2).toNat = R.2.1 (R.1 v - 2).toNat) := fun v hv => by
    have b := hB.1 v hv
    have n5 := nb.2.2.2.2 v hv
    refine ⟨fun e => ?_, fun e => ?_, fun e => ?_⟩
    · unfold pkNm; rw [e]; exact nb.2.2.1.1
    · unfold pkNm; rw [e]; exact nb.2.2.1.2
    · have n5 : 0 ≤ pkNm R v := n5
      have := s1 (R.1 v).toNat (by omega) (by show pkNm R v ≠ -1; omega)
      have n2 : pkNm R v < (pkI R.1 R.2.1 5).1 + 2 := (nb.2.1 (R.1 v).toNat).2
      refine ⟨this.1, by omega, ?_⟩
      rw [show (R.1 v).toNat - 2 = (R.1 v - 2).toNat by omega] at this
      exact this.2
  have fr42 : ∀ j, j < 5 → 0 ≤ (pkI R.1 R.2.1 5).2.2 j ∧ (pkI R.1 R.2.1 5).2.2 j < 42 := by
    have gen : ∀ k, k ≤ 5 → ∀ j, 0 ≤ (pkI R.1 R.2.1 k).2.2 j ∧ (pkI R.1 R.2.1 k).2.2 j < 42 := by
      intro k
      induction k with
      | zero => intro _ j; simp [pkI]
      | succ k ih =>
        intro hk j
        have ih := ih (by omega)
        have hb := hB.1 k (by omega)
        have nk := pkI_R (V := R.1) (O := R.2.1) hB.1 hO k (by omega)
        simp only [pkI]
        split
        · rename_i hn
          have hg : 2 ≤ R.1 k := by
            by_cases e0 : R.1 k = 0
            · rw [e0] at hn; have := nk.2.2.1.1; simp only [Int.toNat_zero] at hn; omega
            · by_cases e1 : R.1 k = 1
              · rw [e1] at hn; have := nk.2.2.1.2; simp only [show (1 : Int).toNat = 1 from rfl] at hn; omega
              · omega
          dsimp only
          unfold ud
          split
          · exact hB.2.1 _ (by omega)
          · exact ih j
        · exact ih j
    exact fun j hj => gen 5 (by omega) j
  refine ⟨⟨fun v hv => ?_, fun v w hv hw => ?_, fun v hv h2 => ?_, u2.symm, fun k hk => (u3 k hk).symm⟩, fun v hv => ?_, fun j hj => ?_, ?_, fun k hk => ?_⟩
  · rw [(u1 v hv).1]
    have b := hB.1 v hv
    have k := key v hv
    constructor <;> constructor <;> intro e
    · exact k.1 e
    · by_cases e1 : R.1 v = 1
      · have := k.2.1 e1; omega
      · by_cases e0 : R.1 v = 0
        · exact e0
        · have := (k.2.2 (by omega)).1; omega
    · exact k.2.1 e
    · by_cases e0 : R.1 v = 0
      · have := k.1 e0; omega
      · by_cases e1 : R.1 v = 1
        · exact e1
        · have := (k.2.2 (by omega)).1; omega
  · rw [(u1 v hv).1, (u1 w hw).1]
    constructor
    · intro e
      unfold pkNm
      rw [e]
    · intro e
      have bv := hB.1 v hv
      have bw := hB.1 w hw
      have kv := key v hv
      have kw := key w hw
      by_cases v0 : R.1 v = 0
      · have := kv.1 v0
        by_cases w1 : R.1 w = 1
        · have := kw.2.1 w1; omega
        · by_cases w0 : R.1 w = 0
          · omega
          · have := (kw.2.2 (by omega)).1; omega
      · by_cases v1 : R.1 v = 1
        · have := kv.2.1 v1
          by_cases w0 : R.1 w = 0
          · have := kw.1 w0; omega
          · by_cases w1 : R.1 w = 1
            · omega
            · have := (kw.2.2 (by omega)).1; omega
        · have k2 := kv.2.2 (by omega)
          by_cases w0 : R.1 w = 0
          · have := kw.1 w0; omega
          · by_cases w1 : R.1 w = 1
            · have := kw.2.1 w1; omega
            · have := s2 (R.1 v).toNat (R.1 w).toNat (by omega) (by omega) (by show pkNm R v ≠ -1; omega) e
              omega
  · rw [(u1 v hv).1]
    have k := (key v hv).2.2 h2
    rw [(u1 _ (by omega)).2, k.2.2]
  · rw [(u1 v hv).1]
    have b := hB.1 v hv
    have k := key v hv
    by_cases e0 : R.1 v = 0
    · have := k.1 e0; omega
    · by_cases e1 : R.1 v = 1
      · have := k.2.1 e1; omega
      · have := k.2.2 (by omega); omega
  · rw [(u1 j hj).2]
    exact fr42 j hj
  · rw [u2]; exact hB.2.2.1
  · rw [u3 k hk]; exact hB.2.2.2 k hk
theorem pkun {R : rgT} (hB : rgB R) : pkM (unM (pkM R)) = pkM R := (pkM_pq hB (un_pq hB).2 (un_pq hB).1).symm
/-! what a STATEMENT does, in the registers; a CASE: how it begins (0 the beginning, 1 lent, 2 given), ROUTINE, KIND, STATE -/
abbrev kyT : Type := Int × Nat × Int × Int
abbrev mAa (S : mm_S) (r pl : Nat) : Int := S 191 (25 * r + pl)
abbrev mBb (S : mm_S) (r pl : Nat) : Int := S 192 (25 * r + pl)
def cdR (k : Int) (R : rgT) (t : Int) : Int := if t = 1 then 7 * k + R.2.2.1 else R.2.1 (t - 2).toNat
def agR (k : Int) (R : rgT) (t : Int) : Int := if t = 0 then 1 else if cdR k R t % 7 = 6 then 2 else 0
def tnR (R : rgT) (t st : Int) : rgT := if t = 1 then (R.1, R.2.1, st, R.2.2.2) else (R.1, ud R.2.1 (t - 2).toNat (R.2.1 (t - 2).toNat / 7 * 7 + st), R.2.2.1, R.2.2.2)
abbrev nmR (R : rgT) (a : Nat) (t : Int) : rgT := (ud R.1 a t, R.2.1, R.2.2.1, R.2.2.2)
def mkR (R : rgT) (a : Nat) (k : Int) : rgT := (ud R.1 a (frF (ud R.1 a 0) 5 2), ud R.2.1 (frF (ud R.1 a 0) 5 2 - 2).toNat (7 * k), R.2.2.1, R.2.2.2)
abbrev gtR (S : mm_S) (r : Nat) (p : Int) (R : rgT) : Int × Int × rgT := (1, p, (R.1, R.2.1, R.2.2.1, mvP S r p R.2.2.2))
def otR (S : mm_S) (r pl : Nat) (how : Int) (R : rgT) : Int × Int × rgT :=
  if tryM S r pl ≠ -1 then (1, midO (mSo S r) (mN S r) (tryM S r pl).toNat, (R.1, R.2.1, R.2.2.1, ud (mvP S r (midO (mSo S r) (mN S r) (tryM S r pl).toNat) R.2.2.2) (arA (mSo S r) (tryM S r pl).toNat).toNat how))
  else if how = 1 then gtR S r (mN S r) R else (0, pl, R)
/-- what a VARIABLE names would be LEFT as it names this -/
def lfR (S : mm_S) (R : rgT) (a : Nat) (t : Int) : Prop := ¬ R.1 a < 2 ∧ (∀ k, k < 5 → ud R.1 a t k ≠ R.1 a) ∧ lfM S (R.2.1 (R.1 a - 2).toNat)
noncomputable def ifP (p : Prop) (x y : Int) : Int := @ite Int p (Classical.propDecidable p) x y
theorem ifP_t {p : Prop} {x y : Int} (h : p) : ifP p x y = x := @if_pos p (Classical.propDecidable p) h _ _ _
theorem ifP_f {p : Prop} {x y : Int} (h : ¬ p) : ifP p x y = y := @if_neg p (Classical.propDecidable p) h _ _ _
noncomputable def wrR (S : mm_S) (κ : kyT) (pl : Nat) (R : rgT) : Int :=
  if mSo S κ.2.1 pl = 1 ∨ mSo S κ.2.1 pl = 2 ∨ mSo S κ.2.1 pl = 5 then (if agR κ.2.2.1 R (R.1 (mAa S κ.2.1 pl).toNat) ≠ 0 then agR κ.2.2.1 R (R.1 (mAa S κ.2.1 pl).toNat) else if mH S (cdR κ.2.2.1 R (R.1 (mAa S κ.2.1 pl).toNat) / 7) (cdR κ.2.2.1 R (R.1 (mAa S κ.2.1 pl).toNat) % 7) (mBb S κ.2.1 pl) then 0 else 3)
  else if mSo S κ.2.1 pl = 10 ∨ mSo S κ.2.1 pl = 11 then (if agR κ.2.2.1 R (R.1 (mBb S κ.2.1 pl).toNat) ≠ 0 then agR κ.2.2.1 R (R.1 (mBb S κ.2.1 pl).toNat) else if mSo S κ.2.1 pl = 11 ∧ R.1 (mBb S κ.2.1 pl).toNat = 1 then 4 else 0)
  else if mSo S κ.2.1 pl = 0 ∨ mSo S κ.2.1 pl = 9 then ifP (lfR S R (mAa S κ.2.1 pl).toNat 0) 5 0
  else if mSo S κ.2.1 pl = 8 then ifP (lfR S R (mAa S κ.2.1 pl).toNat (R.1 (mBb S κ.2.1 pl).toNat)) 5 0 else 0
def asR (S : mm_S) (κ : kyT) (pl : Nat) (R : rgT) : Prop := (2 ≤ mSo S κ.2.1 pl ∧ mSo S κ.2.1 pl ≤ 5) ∨ (mSo S κ.2.1 pl = 1 ∧ mA S (cdR κ.2.2.1 R (R.1 (mAa S κ.2.1 pl).toNat) / 7) (cdR κ.2.2.1 R (R.1 (mAa S κ.2.1 pl).toNat) % 7) (mBb S κ.2.1 pl))
abbrev usR (S : mm_S) (κ : kyT) (pl : Nat) (R : rgT) (y : Prop) [Decidable y] : rgT := tnR R (R.1 (mAa S κ.2.1 pl).toNat) (mF S (cdR κ.2.2.1 R (R.1 (mAa S κ.2.1 pl).toNat) / 7) (cdR κ.2.2.1 R (R.1 (mAa S κ.2.1 pl).toNat) % 7) (mBb S κ.2.1 pl) y)
abbrev ehR (S : mm_S) (r pl : Nat) (R : rgT) : Int := if mSo S r (hdS (mSo S r) pl) = 14 then R.2.2.2 (arA (mSo S r) (hdS (mSo S r) pl)).toNat else 0
def nxR (S : mm_S) (κ : kyT) (pl : Nat) (R : rgT) (y : Prop) [Decidable y] : Int × Int × rgT :=
  if mSo S κ.2.1 pl = 0 then gtR S κ.2.1 ((pl : Int) + 1) (mkR R (mAa S κ.2.1 pl).toNat (mBb S κ.2.1 pl))
  else if mSo S κ.2.1 pl = 1 ∨ mSo S κ.2.1 pl = 2 ∨ mSo S κ.2.1 pl = 5 then gtR S κ.2.1 (if mSo S κ.2.1 pl ≠ 1 ∧ ¬ y then bnM S κ.2.1 pl else (pl : Int) + 1) (usR S κ pl R y)
  else if mSo S κ.2.1 pl = 3 ∨ mSo S κ.2.1 pl = 4 then gtR S κ.2.1 (if ¬ y then bnM S κ.2.1 pl else (pl : Int) + 1) R
  else if mSo S κ.2.1 pl = 6 then gtR S κ.2.1 (endO (mSo S κ.2.1) (mN S κ.2.1) (hdS (mSo S κ.2.1) pl) + 1) R
  else if mSo S κ.2.1 pl = 7 then (if ehR S κ.2.1 pl R ≠ 0 then otR S κ.2.1 pl (ehR S κ.2.1 pl R) R else gtR S κ.2.1 (if mSo S κ.2.1 (hdS (mSo S κ.2.1) pl) = 4 ∨ mSo S κ.2.1 (hdS (mSo S κ.2.1) pl) = 5 then (hdS (mSo S κ.2.1) pl : Int) else (pl : Int) + 1) R)
  else if mSo S κ.2.1 pl = 8 then gtR S κ.2.1 ((pl : Int) + 1) (nmR R (mAa S κ.2.1 pl).toNat (R.1 (mBb S κ.2.1 pl).toNat))
  else if mSo S κ.2.1 pl = 9 then gtR S κ.2.1 ((pl : Int) + 1) (nmR R (mAa S κ.2.1 pl).toNat 0)
  else if mSo S κ.2.1 pl = 12 then otR S κ.2.1 pl 1 R else if mSo S κ.2.1 pl = 13 then otR S κ.2.1 pl 2 R else gtR S κ.2.1 ((pl : Int) + 1) R
abbrev cbT (S : mm_S) (κ : kyT) (pl : Nat) (R : rgT) (st : Int) : rgT := tnR R (R.1 (mBb S κ.2.1 pl).toNat) (if mSo S κ.2.1 pl = 11 then 6 else st)
def cbR (S : mm_S) (κ : kyT) (pl : Nat) (R : rgT) (f : Prop) [Decidable f] (st : Int) : Int × Int × rgT := if f then otR S κ.2.1 pl 2 (cbT S κ pl R st) else gtR S κ.2.1 ((pl : Int) + 1) (cbT S κ pl R st)
def bgR (κ : kyT) : rgT := (nrm 5 (ud (fun _ => 0) 0 κ.1), nrm 5 (ud (fun _ => 0) 0 (if κ.1 = 2 then 7 * κ.2.2.1 + κ.2.2.2 else 0)), (if κ.1 = 1 then κ.2.2.2 else 7), fun _ => 0)
/-- the CASE that is called -/
def clK (S : mm_S) (κ : kyT) (pl : Nat) (R : rgT) : kyT := (if mSo S κ.2.1 pl = 11 then 2 else 1, (mAa S κ.2.1 pl).toNat, cdR κ.2.2.1 R (R.1 (mBb S κ.2.1 pl).toNat) / 7, cdR κ.2.2.1 R (R.1 (mBb S κ.2.1 pl).toNat) % 7)
/-! sets: what MAY BE, how CASES MAY end, what is WRONG -/
abbrev XT : Type := kyT → Nat → Int → Prop
abbrev FT : Type := kyT → Int → Prop
abbrev WT : Type := Nat → Nat → Int → Prop
abbrev etR (κ : kyT) (R : rgT) : Int := if κ.1 = 1 then R.2.2.1 else 0
def enK (F : FT) (W : WT) (S : mm_S) (κ : kyT) (R : rgT) (b : Int) : Prop := (lvM S R → W κ.2.1 (mN S κ.2.1) 5) ∧ (¬ lvM S R → F κ (b + etR κ R))
def otK (X : XT) (F : FT) (W : WT) (S : mm_S) (κ : kyT) (z : Int × Int × rgT) : Prop := if z.1 = 1 then X κ z.2.1.toNat (pkM z.2.2) else enK F W S κ z.2.2 8
def foK (X : XT) (F : FT) (W : WT) (S : mm_S) (κ : kyT) (pl : Nat) (R : rgT) : Prop :=
  (pl = mN S κ.2.1 → enK F W S κ R 0) ∧
  (pl < mN S κ.2.1 → (wrR S κ pl R ≠ 0 → W κ.2.1 pl (wrR S κ pl R)) ∧
    (wrR S κ pl R = 0 → (mSo S κ.2.1 pl = 10 ∨ mSo S κ.2.1 pl = 11) → X (clK S κ pl R) 0 (pkM (bgR (clK S κ pl R))) ∧ ∀ st : Nat, st < 6 → (F (clK S κ pl R) st → otK X F W S κ (cbR S κ pl R False st)) ∧ (F (clK S κ pl R) (8 + st) → otK X F W S κ (cbR S κ pl R True st))) ∧
    (wrR S κ pl R = 0 → ¬ (mSo S κ.2.1 pl = 10 ∨ mSo S κ.2.1 pl = 11) → otK X F W S κ (nxR S κ pl R True) ∧ (asR S κ pl R → otK X F W S κ (nxR S κ pl R False))))
abbrev ky0 : kyT := (0, 0, 0, 0)
def clsK (X : XT) (F : FT) (W : WT) (S : mm_S) : Prop := X ky0 0 (pkM (bgR ky0)) ∧ ∀ κ pl p, X κ pl p → foK X F W S κ pl (unM p)
