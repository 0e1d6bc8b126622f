/-! ===== the reference's runs: its THINGS against a pile of scenes ===== -/
/-- what a frame makes of a THING -/
def cdT (S : mm_S) (k : Nat) (t : Int) : Int := 7 * S 214 t.toNat + (if S 216 t.toNat = (k : Int) then S 215 t.toNat else 6)
/-- the THING that a frame has lent or given to the one above it -/
def hoM (S : mm_S) (k : Nat) : Int := S 220 (5 * k + (mBb S (S 217 k).toNat (S 218 k).toNat).toNat)
def nmP (S : mm_S) (k : Nat) (h : Int) (κ : kyT) (R : rgT) : Prop := (∀ v, v < 5 → (-1 ≤ S 220 (5 * k + v) ∧ S 220 (5 * k + v) < S 181 41) ∧ (R.1 v = 0 ↔ S 220 (5 * k + v) = -1) ∧ (R.1 v = 1 ↔ (S 219 k ≠ -1 ∧ S 220 (5 * k + v) = S 219 k))) ∧ (∀ v w, v < 5 → w < 5 → (R.1 v = R.1 w ↔ S 220 (5 * k + v) = S 220 (5 * k + w))) ∧ (∀ v, v < 5 → 2 ≤ R.1 v → R.2.1 (R.1 v - 2).toNat / 7 = S 214 (S 220 (5 * k + v)).toNat ∧ (S 220 (5 * k + v) ≠ h → R.2.1 (R.1 v - 2).toNat = cdT S k (S 220 (5 * k + v)))) ∧ ((κ.1 = 1 → (0 ≤ S 219 k ∧ S 219 k < S 181 41) ∧ S 214 (S 219 k).toNat = κ.2.2.1 ∧ (S 219 k ≠ h → R.2.2.1 = S 215 (S 219 k).toNat)) ∧ (κ.1 ≠ 1 → S 219 k = -1))
def frM (S : mm_S) (k : Nat) (h : Int) (f : Fr) : Prop := (S 217 k = (f.1.2.1 : Int) ∧ S 218 k = (f.2.1 : Int)) ∧ nmP S k h f.1 f.2.2 ∧ ∀ j, j < 6 → f.2.2.2.2.2 j = S 221 (6 * k + j)
def plM (S : mm_S) : List Fr → Int → Prop
  | [], _ => True
  | f :: t, h => frM S t.length h f ∧ plM S t (hoM S (t.length - 1))
/-- what a frame can see -/
def vsM (S : mm_S) (k : Nat) (t : Int) : Prop := (∃ v, v < 5 ∧ S 220 (5 * k + v) = t) ∨ S 219 k = t
def thM (S : mm_S) (n : Nat) : Prop := (0 ≤ S 181 41 ∧ S 181 41 ≤ 500) ∧ (∀ t : Nat, (t : Int) < S 181 41 → (-1 ≤ S 216 t ∧ S 216 t < n) ∧ (0 ≤ S 214 t ∧ S 214 t < S 181 0) ∧ (0 ≤ S 215 t ∧ S 215 t < S 182 (S 214 t).toNat)) ∧ (∀ t k : Nat, (t : Int) < S 181 41 → k < n → S 216 t = (k : Int) → (∃ v, v < 5 ∧ S 220 (5 * k + v) = (t : Int)) ∨ mE S (S 214 t) (S 215 t)) ∧ (∀ k, k < n → S 219 k ≠ -1 → ∃ j, j < k ∧ S 216 (S 219 k).toNat = (j : Int) ∧ ∃ v, v < 5 ∧ S 220 (5 * j + v) = S 219 k) ∧ (∀ j k, j < k → k < n → ∀ t, 0 ≤ t → vsM S j t → vsM S k t → t = hoM S j) ∧ (∀ k, k + 1 < n → (S 219 (k + 1) ≠ -1 → S 219 (k + 1) = hoM S k ∧ (hoM S k = S 219 k ∨ S 216 (hoM S k).toNat = (k : Int))) ∧ (S 219 (k + 1) = -1 → S 216 (hoM S k).toNat ≠ (k : Int)) ∧ 0 ≤ hoM S k)
section
variable {S S' : mm_S}
theorem ho_of {k : Nat} (h2 : S' 192 = S 192) (h7 : S' 217 k = S 217 k) (h8 : S' 218 k = S 218 k) (h0 : ∀ v, v < 5 → S' 220 (5 * k + v) = S 220 (5 * k + v)) (hv : 0 ≤ mBb S (S 217 k).toNat (S 218 k).toNat ∧ mBb S (S 217 k).toNat (S 218 k).toNat < 5) : hoM S' k = hoM S k := by
  have e : mBb S' (S' 217 k).toNat (S' 218 k).toNat = mBb S (S 217 k).toNat (S 218 k).toNat := by unfold mBb; rw [h2, h7, h8]
  unfold hoM
  rw [e]
  exact h0 _ (by omega)
/-- a frame that stays as it is -/
theorem nm_of {k : Nat} {h : Int} {κ : kyT} {R : rgT} (e41 : S 181 41 ≤ S' 181 41) (e9 : S' 219 k = S 219 k) (e0 : ∀ v, v < 5 → S' 220 (5 * k + v) = S 220 (5 * k + v)) (et : ∀ t : Int, 0 ≤ t → t < S 181 41 → vsM S k t → S' 214 t.toNat = S 214 t.toNat ∧ (t ≠ h → S' 215 t.toNat = S 215 t.toNat ∧ (S' 216 t.toNat = (k : Int) ↔ S 216 t.toNat = (k : Int)))) (hn : nmP S k h κ R) : nmP S' k h κ R := by
  obtain ⟨a1, a2, a3, a4, a5⟩ := hn
  refine ⟨fun v hv => ?_, fun v w hv hw => ?_, fun v hv h2 => ?_, fun hk => ?_, fun hk => by rw [e9]; exact a5 hk⟩
  · rw [e0 v hv, e9]
    have := a1 v hv
    exact ⟨by omega, this.2.1, this.2.2⟩
  · rw [e0 v hv, e0 w hw]
    exact a2 v w hv hw
  · rw [e0 v hv]
    have b := a1 v hv
    have hne : S 220 (5 * k + v) ≠ -1 := fun z => by have := b.2.1.mpr z; omega
    have c := et (S 220 (5 * k + v)) (by omega) (by omega) (Or.inl ⟨v, hv, rfl⟩)
    refine ⟨by rw [c.1]; exact (a3 v hv h2).1, fun z => ?_⟩
    rw [(a3 v hv h2).2 z]
    unfold cdT
    rw [c.1, (c.2 z).1]
    by_cases y : S 216 (S 220 (5 * k + v)).toNat = (k : Int)
    · rw [if_pos y, if_pos ((c.2 z).2.mpr y)]
    · rw [if_neg y, if_neg (fun q => y ((c.2 z).2.mp q))]
  · rw [e9]
    obtain ⟨b1, b2, b3⟩ := a4 hk
    have c := et (S 219 k) b1.1 b1.2 (Or.inr rfl)
    exact ⟨by omega, by rw [c.1]; exact b2, fun z => by rw [(c.2 z).1]; exact b3 z⟩
theorem fr_of {k : Nat} {h : Int} {f : Fr} (e41 : S 181 41 ≤ S' 181 41) (e7 : S' 217 k = S 217 k) (e8 : S' 218 k = S 218 k) (e9 : S' 219 k = S 219 k) (e0 : ∀ v, v < 5 → S' 220 (5 * k + v) = S 220 (5 * k + v)) (e1 : ∀ j, j < 6 → S' 221 (6 * k + j) = S 221 (6 * k + j)) (et : ∀ t : Int, 0 ≤ t → t < S 181 41 → vsM S k t → S' 214 t.toNat = S 214 t.toNat ∧ (t ≠ h → S' 215 t.toNat = S 215 t.toNat ∧ (S' 216 t.toNat = (k : Int) ↔ S 216 t.toNat = (k : Int)))) (hn : frM S k h f) : frM S' k h f := ⟨⟨by rw [e7]; exact hn.1.1, by rw [e8]; exact hn.1.2⟩, nm_of e41 e9 e0 et hn.2.1, fun j hj => by rw [e1 j hj]; exact hn.2.2 j hj⟩
/-- the frames below the top stay as they are -/
theorem pl_of {n : Nat} (e41 : S 181 41 ≤ S' 181 41) (e92 : S' 192 = S 192) (e7 : ∀ k, k < n → S' 217 k = S 217 k) (e8 : ∀ k, k < n → S' 218 k = S 218 k) (e9 : ∀ k, k < n → S' 219 k = S 219 k) (e0 : ∀ k v, k < n → v < 5 → S' 220 (5 * k + v) = S 220 (5 * k + v)) (e1 : ∀ k j, k < n → j < 6 → S' 221 (6 * k + j) = S 221 (6 * k + j)) (hv : ∀ k, k < n → 0 ≤ mBb S (S 217 k).toNat (S 218 k).toNat ∧ mBb S (S 217 k).toNat (S 218 k).toNat < 5) (et : ∀ k, k < n → ∀ t : Int, 0 ≤ t → t < S 181 41 → vsM S k t → S' 214 t.toNat = S 214 t.toNat ∧ (t ≠ hoM S k → S' 215 t.toNat = S 215 t.toNat ∧ (S' 216 t.toNat = (k : Int) ↔ S 216 t.toNat = (k : Int)))) : ∀ l : List Fr, l.length ≤ n → plM S l (hoM S (l.length - 1)) → plM S' l (hoM S' (l.length - 1))
  | [], _, _ => trivial
  | f :: t, hl, h => by
    rw [List.length_cons] at hl
    rw [List.length_cons, Nat.add_sub_cancel] at h ⊢
    have eh : hoM S' t.length = hoM S t.length := ho_of e92 (e7 _ (by omega)) (e8 _ (by omega)) (fun v hv' => e0 _ v (by omega) hv') (hv _ (by omega))
    refine ⟨?_, pl_of e41 e92 e7 e8 e9 e0 e1 hv et t (by omega) h.2⟩
    rw [eh]
    exact fr_of e41 (e7 _ (by omega)) (e8 _ (by omega)) (e9 _ (by omega)) (fun v hv' => e0 _ v (by omega) hv') (fun j hj => e1 _ j (by omega) hj) (et _ (by omega)) h.1
/-- the THINGS stay as they are -/
theorem th_of {n : Nat} (e41 : S' 181 41 = S 181 41) (ek : S' 181 0 = S 181 0) (e82 : S' 182 = S 182) (e83 : S' 183 = S 183) (e92 : S' 192 = S 192) (e14 : S' 214 = S 214) (e15 : S' 215 = S 215) (e16 : S' 216 = S 216) (e7 : ∀ k, k + 1 < n → S' 217 k = S 217 k) (e8 : ∀ k, k + 1 < n → S' 218 k = S 218 k) (e9 : ∀ k, k < n → S' 219 k = S 219 k) (e0 : ∀ k v, k < n → v < 5 → S' 220 (5 * k + v) = S 220 (5 * k + v)) (hv : ∀ k, k + 1 < n → 0 ≤ mBb S (S 217 k).toNat (S 218 k).toNat ∧ mBb S (S 217 k).toNat (S 218 k).toNat < 5) (h : thM S n) : thM S' n := by
  obtain ⟨h1, h2, h3, h4, h5, h6⟩ := h
  have eh : ∀ k, k + 1 < n → hoM S' k = hoM S k := fun k hk => ho_of e92 (e7 k hk) (e8 k hk) (fun v hv' => e0 k v (by omega) hv') (hv k hk)
  have vs : ∀ k t, k < n → vsM S' k t → vsM S k t := fun k t hk q => by
    rcases q with ⟨v, hv', q⟩ | q
    · exact Or.inl ⟨v, hv', by rw [← e0 k v hk hv']; exact q⟩
    · exact Or.inr (by rw [← e9 k hk]; exact q)
  refine ⟨by rw [e41]; exact h1, fun t ht => ?_, fun t k ht hk q => ?_, fun k hk q => ?_, fun j k hjk hk t ht q1 q2 => ?_, fun k hk => ?_⟩
  · rw [e41] at ht
    rw [e14, e15, e16, ek, e82]
    exact h2 t ht
  · rw [e41] at ht
    rw [e16] at q
    rw [e14, e15]
    rcases h3 t k ht hk q with ⟨v, y1, y2⟩ | y
    · exact Or.inl ⟨v, y1, by rw [e0 k v hk y1]; exact y2⟩
    · right
      unfold mE at *
      rw [e83]
      exact y
  · rw [e9 k hk] at q ⊢
    obtain ⟨j, y1, y2, v, y3, y4⟩ := h4 k hk q
    exact ⟨j, y1, by rw [e16]; exact y2, v, y3, by rw [e0 j v (by omega) y3]; exact y4⟩
  · rw [eh j (by omega)]
    exact h5 j k hjk hk t ht (vs j t (by omega) q1) (vs k t hk q2)
  · rw [eh k hk, e9 k (by omega), e9 (k + 1) hk, e16]
    exact h6 k hk
end
