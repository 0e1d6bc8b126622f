/-! ===== fits of both: one search ===== -/
theorem nxt_congr {h h' : Nat → Prop} {g g' : Nat → Nat → Nat} : ∀ N, (∀ n, n < N → (h n ↔ h' n)) → (∀ n y, n < N → g n y = g' n y) → nxtL h g N = nxtL h' g' N
  | 0, _, _ => rfl
  | N + 1, e1, e2 => by
    unfold nxtL
    rw [nxt_congr N (fun n hn => e1 n (by omega)) (fun n y hn => e2 n y (by omega)), e2 N 1 (by omega), e2 N 0 (by omega), propext (e1 N (by omega))]
theorem nxt_mem {h : Nat → Prop} {g : Nat → Nat → Nat} {x : Nat} : ∀ N, x ∈ nxtL h g N → ∃ n, n < N ∧ h n ∧ (x = g n 1 ∨ x = g n 0)
  | 0, z => by
    unfold nxtL at z
    exact absurd z List.not_mem_nil
  | N + 1, z => by
    unfold nxtL at z
    rcases List.mem_append.mp z with a | a
    · obtain ⟨n, h1, h2⟩ := nxt_mem N a
      exact ⟨n, by omega, h2⟩
    · by_cases hh : h N
      · rw [cif_t hh] at a
        simp only [List.mem_cons, List.mem_nil_iff, or_false] at a
        exact ⟨N, by omega, hh, a⟩
      · rw [cif_f hh] at a
        exact absurd a List.not_mem_nil
theorem fold_mem {d : Nat} {x : Nat × Nat} : ∀ (L : List Nat) (l : List (Nat × Nat)), x ∈ L.foldl (fnd d) l → x ∈ l ∨ x.1 ∈ L
  | [], l, z => Or.inl z
  | q :: L, l, z => by
    rcases fold_mem L (fnd d l q) z with a | a
    · unfold fnd at a
      split at a
      · exact Or.inl a
      · rcases List.mem_append.mp a with b | b
        · exact Or.inl b
        · simp only [List.mem_cons, List.mem_nil_iff, or_false] at b
          rw [b]
          exact Or.inr List.mem_cons_self
    · exact Or.inr (List.mem_cons_of_mem _ a)
theorem bfs_congr {par par' : Nat → Prop} {nx nx' : Nat → List Nat} (G : Nat → Prop) (e1 : ∀ q, G q → (par q ↔ par' q)) (e2 : ∀ q, G q → ¬ par q → nx q = nx' q) (e3 : ∀ q x, G q → ¬ par q → x ∈ nx q → G x) : ∀ (f i : Nat) (l : List (Nat × Nat)), (∀ x ∈ l, G x.1) → bfs par nx f i l = bfs par' nx' f i l
  | 0, _, _, _ => rfl
  | f + 1, i, l, hl => by
    unfold bfs
    cases hh : l[i]? with
    | none => rfl
    | some x =>
      obtain ⟨p, d⟩ := x
      have hG := hl (p, d) (List.mem_of_getElem? hh)
      simp only []
      by_cases hp : par p
      · rw [cif_t hp, cif_t ((e1 p hG).mp hp)]
      · rw [cif_f hp, cif_f (fun z => hp ((e1 p hG).mpr z)), e2 p hG hp]
        refine bfs_congr G e1 e2 e3 f (i + 1) _ (fun y hy => ?_)
        rcases fold_mem _ _ hy with a | a
        · exact hl y a
        · exact e3 p _ hG hp (by rw [e2 p hG hp]; exact a)
set_option maxHeartbeats 4000000 in
theorem fit_eq {S : mm_S} (h : BK S) {k p : Int} (hk : mK S k) (hp : mK S p) : cFit S k p = mFit S k p := by
  have hv := h.1.1
  have hk6 : k.toNat < 6 := by unfold mK at hk; have := hv.1; omega
  have hp6 : p.toNat < 6 := by unfold mK at hp; have := hv.1; omega
  have sk := hv.2.2.1 k.toNat hk6
  have sp := hv.2.2.1 p.toNat hp6
  have ak := h.1.2.2.2.1 k.toNat (by unfold mK at hk; omega)
  have ap := h.1.2.2.2.1 p.toNat (by unfold mK at hp; omega)
  have hkN : (k.toNat : Int) = k := by unfold mK at hk; omega
  have hpN : (p.toNat : Int) = p := by unfold mK at hp; omega
  have fk := br_k h hk
  have fp := br_k h hp
  unfold cFit mFit
  have key : ∀ q : Nat, ((q / 6 : Nat) : Int) < S 182 k.toNat → ((q % 6 : Nat) : Int) < S 182 p.toNat → ∀ n : Nat, n < 8 →
      ((kdH S (4 + 3 * k.toNat) (q / 6 : Nat) n ↔ mH S k.toNat (q / 6 : Nat) n) ∧ (kdA S (4 + 3 * k.toNat) (q / 6 : Nat) n ↔ mA S k.toNat (q / 6 : Nat) n) ∧ ∀ (y : Prop) [Decidable y], kdF S (4 + 3 * k.toNat) (q / 6 : Nat) n y = mF S k.toNat (q / 6 : Nat) n y) ∧
      ((kdH S (4 + 3 * p.toNat) (q % 6 : Nat) n ↔ mH S p.toNat (q % 6 : Nat) n) ∧ (kdA S (4 + 3 * p.toNat) (q % 6 : Nat) n ↔ mA S p.toNat (q % 6 : Nat) n) ∧ ∀ (y : Prop) [Decidable y], kdF S (4 + 3 * p.toNat) (q % 6 : Nat) n y = mF S p.toNat (q % 6 : Nat) n y) := by
    intro q h1 h2 n hn
    have a1 := kd_mH (s := ((q / 6 : Nat) : Int)) (n := (n : Int)) h.2.1 hv hk ⟨by omega, h1⟩ (by omega)
    have a2 := kd_mH (s := ((q % 6 : Nat) : Int)) (n := (n : Int)) h.2.1 hv hp ⟨by omega, h2⟩ (by omega)
    rw [hkN, hpN]
    exact ⟨a1, a2⟩
  have hE : ∀ s : Nat, kdE S (4 + 3 * k.toNat) s ↔ mE S (k.toNat : Int) s := fun s => by
    unfold kdE mE
    rw [fk.2.1]
    simp only [Int.toNat_natCast]
  have hE2 : ∀ s : Nat, kdE S (4 + 3 * p.toNat) s ↔ mE S (p.toNat : Int) s := fun s => by
    unfold kdE mE
    rw [fp.2.1]
    simp only [Int.toNat_natCast]
  have par_iff : ∀ q, ((q / 6 : Nat) : Int) < S 182 k.toNat ∧ ((q % 6 : Nat) : Int) < S 182 p.toNat → (cPar S (4 + 3 * k.toNat) (4 + 3 * p.toNat) (q / 6) (q % 6) ↔ mPar S k.toNat p.toNat (q / 6) (q % 6)) := by
    intro q hG
    have kq := key q hG.1 hG.2
    unfold cPar mPar cpF mpF
    constructor
    · rintro (⟨a, b⟩ | ⟨n, hn, a, b⟩)
      · exact Or.inl ⟨(hE2 _).mp a, fun z => b ((hE _).mpr z)⟩
      · obtain ⟨k1, k2⟩ := kq n hn
        refine Or.inr ⟨n, hn, k2.1.mp a, ?_⟩
        rcases b with b | ⟨b, c⟩
        · exact Or.inl (fun z => b (k1.1.mpr z))
        · exact Or.inr ⟨k1.2.1.mp b, fun z => c (k2.2.1.mpr z)⟩
    · rintro (⟨a, b⟩ | ⟨n, hn, a, b⟩)
      · exact Or.inl ⟨(hE2 _).mpr a, fun z => b ((hE _).mp z)⟩
      · obtain ⟨k1, k2⟩ := kq n hn
        refine Or.inr ⟨n, hn, k2.1.mpr a, ?_⟩
        rcases b with b | ⟨b, c⟩
        · exact Or.inl (fun z => b (k1.1.mp z))
        · exact Or.inr ⟨k1.2.1.mpr b, fun z => c (k2.2.1.mp z)⟩
  refine bfs_congr (fun q => ((q / 6 : Nat) : Int) < S 182 k.toNat ∧ ((q % 6 : Nat) : Int) < S 182 p.toNat) par_iff (fun q hG _ => ?_) (fun q x hG hnp hx => ?_) 37 0 _ (fun x hx => ?_)
  · have kq := key q hG.1 hG.2
    unfold cNx mNx
    refine nxt_congr 8 (fun n hn => (kq n hn).2.1) (fun n y hn => ?_)
    obtain ⟨k1, k2⟩ := kq n hn
    unfold cG mG
    rw [k1.2.2, k2.2.2, k1.2.2, k2.2.2, Int.mul_comm (mF S k.toNat (q / 6 : Nat) n True), Int.mul_comm (mF S k.toNat (q / 6 : Nat) n False)]
  · have kq := key q hG.1 hG.2
    unfold cNx at hx
    obtain ⟨n, hn, hh, hx2⟩ := nxt_mem 8 hx
    obtain ⟨k1, k2⟩ := kq n hn
    have hq1 : q / 6 < 6 := by omega
    have hhp := k2.1.mp hh
    have hhk : mH S k.toNat (q / 6 : Nat) n := by
      apply Classical.byContradiction
      intro z
      exact hnp (Or.inr ⟨n, hn, hh, Or.inl (fun w => z (k1.1.mp w))⟩)
    have t1 := mF_st (y := True) hv ak.1 hq1 hn hhk
    have t2 := mF_st (y := False) hv ak.1 hq1 hn hhk
    have t3 := mF_st (y := True) hv ap.1 (Nat.mod_lt q (by decide)) hn hhp
    have t4 := mF_st (y := False) hv ap.1 (Nat.mod_lt q (by decide)) hn hhp
    unfold cG at hx2
    rw [k1.2.2, k2.2.2, k1.2.2, k2.2.2] at hx2
    generalize mF S k.toNat (q / 6 : Nat) n True = u1 at *
    generalize mF S k.toNat (q / 6 : Nat) n False = u2 at *
    generalize mF S p.toNat (q % 6 : Nat) n True = w1 at *
    generalize mF S p.toNat (q % 6 : Nat) n False = w2 at *
    clear kq key k1 k2 hE hE2 par_iff hx hh hhp hhk hnp fk fp
    rcases hx2 with e | e
    · rw [if_pos rfl] at e
      constructor <;> omega
    · rw [if_neg (by omega)] at e
      constructor <;> omega
  · simp only [List.mem_cons, List.mem_nil_iff, or_false] at hx
    rw [hx]
    have := ak.2
    have := ap.2
    exact ⟨by simpa using ak.2, by simpa using ap.2⟩
theorem mFit_of {S S1 : mm_S} (e : ∀ b, 181 ≤ b → b < 186 → S1 b = S b) (k p : Int) : mFit S1 k p = mFit S k p := by
  have e2 := e 182 (by omega) (by omega)
  have e3 := e 183 (by omega) (by omega)
  have e4 := e 184 (by omega) (by omega)
  have e5 := e 185 (by omega) (by omega)
  unfold mFit mPar mNx mpF mG
  unfold mE mH mA mF
  rw [e3, e4, e5]
theorem pr_fits {S S1 S2 : mm_S} (h : BK S) {k p v w : Int} (hc : cfitQ S S1 k p v) (hm : mfitQ S1 S2 k p w) : v = w ∧ BK S2 ∧ okF2 S S2 := by
  have b0 := h.2.1.1
  have hi : ∀ b, b ≠ 0 → b ≠ 82 → b ≠ 83 → b ≠ 84 → S1 b = S b := by
    intro b h0 h1 h2 h3
    rcases hc with ⟨-, -, e⟩ | ⟨-, -, -, e⟩ | ⟨-, -, -, T, e, e2⟩
    · rw [e]
    · exact e b h1 h2 h3
    · rw [e2, up2_row h0]
      exact e b h1 h2 h3
  have h05 : ∀ j, j ≠ 6 → S1 0 j = S 0 j := by
    intro j hj
    rcases hc with ⟨-, -, e⟩ | ⟨-, -, -, e⟩ | ⟨-, -, -, T, e, e2⟩
    · rw [e]
    · rw [e 0 (by omega) (by omega) (by omega)]
    · rw [e2, up2_rc hj, e 0 (by omega) (by omega) (by omega)]
  have h181 := hi 181 (by omega) (by omega) (by omega) (by omega)
  have hkk : (hasK S k ∧ hasK S p) ↔ (mK S1 k ∧ mK S1 p) := by
    unfold hasK mK
    rw [h181, b0]
  have hfit : hasK S k ∧ hasK S p → cFit S k p = mFit S1 k p := fun z => by
    rw [mFit_of (fun b h1 h2 => hi b (by omega) (by omega) (by omega) (by omega))]
    exact fit_eq h (by unfold mK; rw [← b0]; exact z.1) (by unfold mK; rw [← b0]; exact z.2)
  have fr : ∀ T : mm_S, mfF S1 T → (∀ b, 1 ≤ b → b < 82 → T b = S b) ∧ (∀ b, 182 ≤ b → b < 186 ∨ 189 ≤ b → T b = S b) ∧ (T 181 = S 181) ∧ (∀ b, 85 ≤ b → b < 181 → T b = S b) ∧ T 0 = S1 0 := fun T e => ⟨fun b h1 h2 => by rw [e b (by omega) (by omega) (by omega), hi b (by omega) (by omega) (by omega) (by omega)], fun b h1 h2 => by rw [e b (by omega) (by omega) (by omega), hi b (by omega) (by omega) (by omega) (by omega)], by rw [e 181 (by omega) (by omega) (by omega), h181], fun b h1 h2 => by rw [e b (by omega) (by omega) (by omega), hi b (by omega) (by omega) (by omega) (by omega)], e 0 (by omega) (by omega) (by omega)⟩
  have bm : ∀ T : mm_S, (∀ b, 182 ≤ b → b < 186 ∨ 189 ≤ b → T b = S b) → T 181 0 = S 181 0 → T 181 9 = S 181 9 → (∀ b, 1 ≤ b → b < 82 → T b = S b) → T 0 6 = T 181 5 → BK T := by
    intro T e e0 e9 e1 e6
    let U : mm_S := fun b => if b = 186 ∨ b = 187 ∨ b = 188 then S b else T b
    have hU : BK U := BK_of h (fun b h1 h2 => by show (if _ then _ else _) = _; rw [if_neg (by omega), e1 b h1 h2]) (fun b h1 h2 => by
      show (if _ then _ else _) = _
      by_cases hb : b = 186 ∨ b = 187 ∨ b = 188
      · rw [if_pos hb]
      · rw [if_neg hb, e b (by omega) (by omega)]) (by show (if _ then _ else _ : Nat → Int) 0 = _; rw [if_neg (by omega), e0]) (by show (if _ then _ else _ : Nat → Int) 9 = _; rw [if_neg (by omega), e9]) (by show (if _ then _ else _ : Nat → Int) 6 = (if _ then _ else _ : Nat → Int) 5; rw [if_neg (by omega), if_neg (by omega), e6])
    have hm : BKm T := by
      obtain ⟨hv, hp, hq, hA, hO⟩ := hU.1
      have u : ∀ b, b ≠ 186 → b ≠ 187 → b ≠ 188 → U b = T b := fun b h1 h2 h3 => if_neg (by omega)
      have e1 := u 181 (by omega) (by omega) (by omega)
      have e2 := u 182 (by omega) (by omega) (by omega)
      have e3 := u 183 (by omega) (by omega) (by omega)
      have e4 := u 184 (by omega) (by omega) (by omega)
      have e5 := u 185 (by omega) (by omega) (by omega)
      have e89 := u 189 (by omega) (by omega) (by omega)
      have e90 := u 190 (by omega) (by omega) (by omega)
      have e91 := u 191 (by omega) (by omega) (by omega)
      have e92 := u 192 (by omega) (by omega) (by omega)
      unfold mdV at hv
      unfold mdP at hp
      unfold mdQ at hq
      unfold mkA mkW at hA
      unfold mdO mokB mK mN mSo at hO
      rw [e1, e2, e3, e4, e5, e89] at hv
      rw [e1, e89, e90] at hp
      rw [e90, e91, e92] at hq
      rw [e1, e2, e4, e5] at hA
      rw [e1, e89, e90, e91, e92] at hO
      exact ⟨hv, hp, hq, hA, hO⟩
    obtain ⟨-, hbr, htz, hrz, -⟩ := h
    have t2 := e 182 (by omega) (by omega)
    have t3 := e 183 (by omega) (by omega)
    have t4 := e 184 (by omega) (by omega)
    have t5 := e 185 (by omega) (by omega)
    have t89 := e 189 (by omega) (by omega)
    have t90 := e 190 (by omega) (by omega)
    have t91 := e 191 (by omega) (by omega)
    have t92 := e 192 (by omega) (by omega)
    have q1 := e1 1 (by omega) (by omega)
    have hv := hm.1
    obtain ⟨b0, b1, bk, br⟩ := hbr
    refine ⟨hm, ⟨by rw [q1, e0]; exact b0, by rw [q1, e9]; exact b1, fun k hk => ?_, fun r hr => ?_⟩, ⟨fun k hk i hi => ?_, ?_⟩, ⟨fun r hr => rtI_of (fun b h1 h2 => e1 b (by omega) (by omega)) (hrz.1 r hr), fun r hr h1 => ?_⟩, e6⟩
    · rw [q1] at hk
      have hk6 : k < 6 := by have := hv.1; omega
      rw [e1 (4 + 3 * k) (by omega) (by omega), e1 (4 + 3 * k + 1) (by omega) (by omega), e1 (4 + 3 * k + 2) (by omega) (by omega), t2, t3, t4, t5]
      exact bk k hk
    · rw [q1] at hr
      have hk6 : r < 6 := by have := hv.2.1; omega
      rw [e1 (22 + 10 * r) (by omega) (by omega), e1 (22 + 10 * r + 1) (by omega) (by omega), e1 (22 + 10 * r + 2) (by omega) (by omega), e1 (22 + 10 * r + 3) (by omega) (by omega), t89, t90, t91, t92]
      exact br r hr
    · rw [e1 (4 + 3 * k + 1) (by omega) (by omega), e1 (4 + 3 * k + 2) (by omega) (by omega)]
      exact htz.1 k hk i hi
    · rw [e0, t4, t5]
      exact htz.2
    · rw [q1] at h1
      rw [e1 (22 + 10 * r) (by omega) (by omega)]
      exact hrz.2 r hr h1
  rcases hc with ⟨c1, c2, c3⟩ | ⟨c1, c2, c3, c4⟩ | ⟨c1, c2, c3, T1, c4, c5⟩
  · rcases hm with ⟨m1, m2, m3⟩ | ⟨m1, -⟩ | ⟨m1, -⟩
    · rw [c2, m2, m3, c3]
      exact ⟨rfl, h, okF2_rf S⟩
    · exact absurd (hkk.mpr m1) c1
    · exact absurd (hkk.mpr m1) c1
  · have hf := hfit c1
    rcases hm with ⟨m1, -⟩ | ⟨m1, m2, m3, m4⟩ | ⟨m1, m2, -⟩
    · exact absurd (hkk.mp c1) m1
    · obtain ⟨f1, f2, f3, f4, f5⟩ := fr S2 m4
      have e00 : S1 0 = S 0 := c4 0 (by omega) (by omega) (by omega)
      refine ⟨by rw [c3, m3], bm S2 f2 (by rw [f3]) (by rw [f3]) f1 (by rw [f5, f3, e00]; exact h.2.2.2.2), ⟨fun b h1 h2 => ?_, fun j hj => by rw [f3], by rw [f5, e00]⟩⟩
      by_cases hb : b < 181
      · exact f4 b h1 hb
      · exact f2 b (by omega) (by omega)
    · omega
  · have hf := hfit c1
    rcases hm with ⟨m1, -⟩ | ⟨m1, m2, -⟩ | ⟨m1, m2, m3, T2, m4, m5⟩
    · exact absurd (hkk.mp c1) m1
    · omega
    · obtain ⟨f1, f2, f3, f4, f5⟩ := fr T2 m4
      have e06 : S1 0 6 = cFit S k p := by rw [c5, up2_same]
      have hlo : ∀ b, b ≠ 181 → S2 b = T2 b := fun b hb => by rw [m5, up2_row hb]
      have h2 : ∀ j, j ≠ 5 → S2 181 j = S 181 j := fun j hj => by rw [m5, up2_rc hj, f3]
      refine ⟨by rw [c3, m3], bm S2 (fun b h1 h2 => by rw [hlo b (by omega)]; exact f2 b h1 h2) (h2 0 (by omega)) (h2 9 (by omega)) (fun b h1 h2 => by rw [hlo b (by omega)]; exact f1 b h1 h2) (by rw [hlo 0 (by omega), f5, e06, m5, up2_same]; exact hf), ⟨fun b h1 h3 => ?_, fun j hj => h2 j (by omega), by rw [hlo 0 (by omega), f5, h05 5 (by omega)]⟩⟩
      rw [hlo b (by omega)]
      by_cases hb : b < 181
      · exact f4 b h1 hb
      · exact f2 b (by omega) (by omega)
theorem fits_hi {S S1 : mm_S} (h : BK S) {k p v : Int} (hc : cfitQ S S1 k p v) : BKm S1 := by
  refine BKm_hi h (fun b hb => ?_)
  rcases hc with ⟨-, -, e⟩ | ⟨-, -, -, e⟩ | ⟨-, -, -, T, e, e2⟩
  · rw [e]
  · exact e b (by omega) (by omega) (by omega)
  · rw [e2, up2_row (by omega)]
    exact e b (by omega) (by omega) (by omega)
/-! ===== digest of both ===== -/
theorem lead_eq {S : mm_S} (h : BK S) {k s n : Nat} (hk : (k : Int) < S 181 0) (hs : (s : Int) < S 182 k) (hn : n < 8) (y : Prop) [Decidable y] : kdF S (4 + 3 * k) s n y = mlT S k s n y := by
  have := pr_leads h k s n y
  unfold leadsR mleadsR at this
  have hv := h.1.1
  have b0 := h.2.1.1
  have hK : hasK S (k : Int) := by unfold hasK; omega
  have hst : mSt S (k : Int) (s : Int) := ⟨by unfold mK; omega, by omega, by rw [Int.toNat_natCast]; exact hs⟩
  rw [if_pos hK, if_neg (by omega), if_neg (show ¬ (mK S k ∧ (s : Int) = -1 ∧ (n : Int) = -1) by omega), if_pos ⟨(st_iff h _ _).mpr hst, by omega, by omega⟩, if_pos ⟨hst, by omega, by omega⟩, Int.toNat_natCast] at this
  exact this
theorem dg2_congr {t f t' f' : Nat → Int} (h : Int) : ∀ N, (∀ n, n < N → t n = t' n ∧ f n = f' n) → dg2 t f N h = dg2 t' f' N h
  | 0, _ => rfl
  | N + 1, e => by
    unfold dg2
    rw [dg2_congr h N (fun n hn => e n (by omega)), (e N (by omega)).1, (e N (by omega)).2]
theorem dgS_congr {T F T' F' : Nat → Nat → Int} (h : Int) : ∀ N, (∀ s n, s < N → n < 8 → T s n = T' s n ∧ F s n = F' s n) → dgS T F N h = dgS T' F' N h
  | 0, _ => rfl
  | N + 1, e => by
    unfold dgS
    rw [dgS_congr h N (fun s n hs hn => e s n (by omega) hn)]
    exact dg2_congr _ 8 (fun n hn => e N n (by omega) hn)
theorem dgR_L {f : Nat → Nat → Int} {g : Nat → Int} (h : Int) : ∀ N, (∀ i w, i < N → w < 3 → f i w = g (3 * i + w)) → dgR f N h = dgL g (3 * N) h
  | 0, _ => rfl
  | N + 1, e => by
    unfold dgR
    rw [dgR_L h N (fun i w hi hw => e i w (by omega) hw), show 3 * (N + 1) = 3 * N + 1 + 1 + 1 by omega]
    simp only [dgL]
    rw [e N 0 (by omega) (by omega), e N 1 (by omega) (by omega), e N 2 (by omega) (by omega)]
    rfl
theorem pr_digest {S : mm_S} (h : BK S) : cDig S = mDig S := by
  have hv := h.1.1
  obtain ⟨b0, b1, bk, br⟩ := h.2.1
  have hk : ∀ N : Nat, (N : Int) ≤ S 181 0 → cDk S N = mDk S N := by
    intro N
    induction N with
    | zero => intro _; rfl
    | succ N ih =>
      intro hN
      unfold cDk mDk
      have hNk : (N : Int) < S 181 0 := by omega
      obtain ⟨e0, e1, -⟩ := bk N (by omega)
      have h6 := hv.2.2.1 N (by have := hv.1; omega)
      rw [ih (by omega), e0, e1]
      exact dgS_congr _ _ (fun s n hs hn => ⟨lead_eq h hNk (by omega) hn True, lead_eq h hNk (by omega) hn False⟩)
  have hr : ∀ (x : Int) (N : Nat), (N : Int) ≤ S 181 9 → cDr S x N = mDr S x N := by
    intro x N
    induction N with
    | zero => intro _; rfl
    | succ N ih =>
      intro hN
      unfold cDr mDr
      obtain ⟨e0, e1⟩ := br N (by omega)
      have h4 := hv.2.2.2.2 N (by have := hv.2.1; omega)
      rw [ih (by omega), e0]
      refine dgR_L _ _ (fun i w hi hw => ?_)
      obtain ⟨a1, a2, a3⟩ := e1 i (by omega)
      unfold cP partR mP mtoldOf
      rw [e0, if_pos (by omega), Int.toNat_natCast, a1, a2, a3]
      have q1 : ((3 * i + w : Nat) : Int) / 3 = (i : Int) := by omega
      have q2 : ((3 * i + w : Nat) : Int) % 3 = (w : Int) := by omega
      rw [q1, q2, show (25 * (N : Int) + (i : Int)).toNat = 25 * N + i by omega]
  unfold cDig mDig
  rw [b0, b1, hk _ (by have := hv.1; omega), hr _ _ (by have := hv.2.1; omega)]
