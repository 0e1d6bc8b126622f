/-! ===== a scene packed and unpacked ===== -/
def ldS (S : mm_S) (a : Nat) (κ : kyT) (x : Int) : mm_S := unF (bgS S a κ.2.1 (hwC κ.1) κ.2.2.1 κ.2.2.2) a x 5
theorem pk_dig {c : Nat → Int} {le mo pl N : Int} (hc : ∀ v, v < 5 → 0 ≤ c v ∧ c v < 64) (h1 : 0 ≤ le ∧ le < 8) (h2 : 0 ≤ mo ∧ mo < 4096) (h3 : 0 ≤ pl ∧ pl < 32) (h4 : 0 ≤ N ∧ N < 64) : (∀ v : Nat, v < 5 → (pkN c le mo pl + N * 1125899906842624) / 2 ^ (20 + 6 * (v : Int)).toNat % 64 = c v) ∧ (pkN c le mo pl + N * 1125899906842624) % 32 = pl ∧ (pkN c le mo pl + N * 1125899906842624) / 32 % 4096 = mo ∧ (pkN c le mo pl + N * 1125899906842624) / 131072 % 8 = le ∧ (pkN c le mo pl + N * 1125899906842624) / 1125899906842624 % 64 = N := by
  have c0 := hc 0 (by omega)
  have c1 := hc 1 (by omega)
  have c2 := hc 2 (by omega)
  have c3 := hc 3 (by omega)
  have c4 := hc 4 (by omega)
  have e : pkF c 5 = (((c 4 * 64 + c 3) * 64 + c 2) * 64 + c 1) * 64 + c 0 := by
    simp only [pkF, Int.zero_mul, Int.zero_add, Nat.sub_self, Nat.sub_zero, Nat.reduceSub]
  unfold pkN
  rw [e]
  refine ⟨fun v hv => ?_, by omega, by omega, by omega, by omega⟩
  match v, hv with
  | 0, _ =>
    rw [show (2 : Int) ^ (20 + 6 * ((0 : Nat) : Int)).toNat = 1048576 from rfl]
    omega
  | 1, _ =>
    rw [show (2 : Int) ^ (20 + 6 * ((1 : Nat) : Int)).toNat = 67108864 from rfl]
    omega
  | 2, _ =>
    rw [show (2 : Int) ^ (20 + 6 * ((2 : Nat) : Int)).toNat = 4294967296 from rfl]
    omega
  | 3, _ =>
    rw [show (2 : Int) ^ (20 + 6 * ((3 : Nat) : Int)).toNat = 274877906944 from rfl]
    omega
  | 4, _ =>
    rw [show (2 : Int) ^ (20 + 6 * ((4 : Nat) : Int)).toNat = 17592186044416 from rfl]
    omega
/-- after the first v VARIABLES -/
def unI (U T S0 : mm_S) (a a0 : Nat) (le mo pl : Int) (v : Nat) : Prop := (∀ b, b < a ∨ a + 3 < b → U b = T b) ∧ (U a 0 = T a 0 ∧ U a 1 = pl ∧ U a 2 = mo) ∧ (∀ u, u < v → U (a + 1) u = fsV (S0 (a0 + 1)) u) ∧ (∀ u, u < v → S0 (a0 + 1) u ≠ -1 → S0 (a0 + 1) u ≠ 5 → fsV (S0 (a0 + 1)) u = u → U (a + 2) u = S0 (a0 + 2) (S0 (a0 + 1) u).toNat ∧ U (a + 3) u = S0 (a0 + 3) (S0 (a0 + 1) u).toNat) ∧ (U (a + 2) 5 = T (a + 2) 5 ∧ U (a + 3) 5 = le) ∧ scW U a ∧ ∀ u, u < 5 → -1 ≤ U (a + 1) u ∧ U (a + 1) u ≤ 5
theorem un_ok {T S0 : mm_S} {a a0 : Nat} {N x : Int} (hV : scV S0 a0) (hW : scW T a) (hT : ∀ u, u < 5 → -1 ≤ T (a + 1) u ∧ T (a + 1) u ≤ 5) (hN : 0 ≤ N ∧ N < 64) (hx : x = scPk S0 a0 + N * 1125899906842624) : ∀ v, v ≤ 5 → unI (unF T a x v) T S0 a a0 (S0 (a0 + 3) 5) (S0 a0 2) (S0 a0 1) v := by
  obtain ⟨v0, v1, v2, v3, v4⟩ := id hV
  have dg := pk_dig (c := cdO S0 a0) (le := S0 (a0 + 3) 5) (mo := S0 a0 2) (pl := S0 a0 1) (N := N) (fun v hv => cdO_R hV hv) (by have := (v4 5 (by omega)).2; omega) v2 (by omega) hN
  rw [show pkN (cdO S0 a0) (S0 (a0 + 3) 5) (S0 a0 2) (S0 a0 1) + N * 1125899906842624 = x from hx.symm] at dg
  intro v
  induction v with
  | zero =>
    intro _
    simp only [unF]
    rw [dg.2.1, dg.2.2.1, dg.2.2.2.1]
    refine ⟨fun b hb => ?_, ⟨?_, ?_, ?_⟩, fun u hu => absurd hu (Nat.not_lt_zero u), fun u hu => absurd hu (Nat.not_lt_zero u), ⟨?_, ?_⟩, fun j hj => ⟨?_, ?_⟩, fun u hu => ?_⟩
    · rw [up2_row (by omega), up2_row (by omega), up2_row (by omega)]
    · rw [up2_rd (by omega), up2_rc (by omega), up2_rc (by omega)]
    · rw [up2_rd (by omega), up2_rc (by omega), up2_same]
    · rw [up2_rd (by omega), up2_same]
    · rw [up2_rd (by omega), up2_rd (by omega), up2_rd (by omega)]
    · rw [up2_same]
    · rw [up2_rd (by omega), up2_rd (by omega), up2_rd (by omega)]; exact (hW j hj).1
    · by_cases e : j = 5
      · subst e; rw [up2_same]; exact (v4 5 (by omega)).2
      · rw [up2_rc e, up2_rd (by omega), up2_rd (by omega)]; exact (hW j hj).2
    · rw [up2_rd (by omega), up2_rd (by omega), up2_rd (by omega)]; exact hT u hu
  | succ v ih =>
    intro hv5
    obtain ⟨i1, i2, i3, i4, i5, i6, i7⟩ := ih (by omega)
    simp only [unF]
    rw [dg.1 v (by omega)]
    generalize hU : unF T a x v = U at *
    have hnm := v3 v (by omega)
    -- a VARIABLE's name alone changes
    have nameCase : ∀ y : Int, -1 ≤ y ∧ y ≤ 5 → y = fsV (S0 (a0 + 1)) v → (S0 (a0 + 1) v ≠ -1 → S0 (a0 + 1) v ≠ 5 → fsV (S0 (a0 + 1)) v ≠ v) → unI (up2 U (a + 1) v y) T S0 a a0 (S0 (a0 + 3) 5) (S0 a0 2) (S0 a0 1) (v + 1) := by
      intro y hy hyf hno
      have e : ∀ b, b ≠ a + 1 → up2 U (a + 1) v y b = U b := fun b hb => up2_row hb
      refine ⟨fun b hb => by rw [e b (by omega)]; exact i1 b hb, by rw [e a (by omega)]; exact i2, fun u hu => ?_, fun u hu g1 g2 g3 => ?_, by rw [e (a + 2) (by omega), e (a + 3) (by omega)]; exact i5, ?_, fun u hu => ?_⟩
      · by_cases q : u = v
        · subst q; rw [up2_same]; exact hyf
        · rw [up2_rc q]; exact i3 u (by omega)
      · by_cases q : u = v
        · subst q; exact absurd g3 (hno g1 g2)
        · rw [e (a + 2) (by omega), e (a + 3) (by omega)]; exact i4 u (by omega) g1 g2 g3
      · intro j hj
        rw [e (a + 2) (by omega), e (a + 3) (by omega)]; exact i6 j hj
      · by_cases q : u = v
        · subst q; rw [up2_same]; exact hy
        · rw [up2_rc q]; exact i7 u hu
    unfold tkS
    rw [Int.toNat_natCast]
    by_cases n1 : S0 (a0 + 1) v = -1
    · have ec : cdO S0 a0 v = 0 := by unfold cdO cdV; rw [if_pos n1]
      rw [ec, if_pos rfl]
      exact nameCase (-1) (by omega) (by unfold fsV; rw [if_pos n1]) (fun z => absurd n1 z)
    · by_cases n5 : S0 (a0 + 1) v = 5
      · have ec : cdO S0 a0 v = 1 := by unfold cdO cdV; rw [if_neg n1, if_pos n5]
        rw [ec, if_neg (by decide), if_pos rfl]
        exact nameCase 5 (by omega) (by unfold fsV; rw [if_neg n1, if_pos n5]) (fun _ z => absurd n5 z)
      · have hst := v4 (S0 (a0 + 1) v).toNat (by omega)
        by_cases hs : sameV (S0 (a0 + 1)) v ≠ -1
        · have ec : cdO S0 a0 v = 2 + sameV (S0 (a0 + 1)) v := by unfold cdO cdV; rw [if_neg n1, if_neg n5, if_pos hs]
          have ef : fsV (S0 (a0 + 1)) v = sameV (S0 (a0 + 1)) v := by unfold fsV; rw [if_neg n1, if_neg n5, if_pos hs]
          rcases sameF_sp (S0 (a0 + 1)) (S0 (a0 + 1) v) v 0 with ⟨g1, -⟩ | ⟨w, g1, g2, g3, g4, g5⟩
          · exact absurd g1 hs
          · have g1 : sameV (S0 (a0 + 1)) v = w := g1
            rw [ec, g1, if_neg (by omega), if_neg (by omega), if_pos (by omega), show (2 + (w : Int) - 2).toNat = w by omega, i3 w (by omega)]
            have ew : fsV (S0 (a0 + 1)) w = w := by
              obtain ⟨q, f1, f2, f3, f4⟩ := fsV_sp (nm := S0 (a0 + 1)) (u := w) (by rw [g4]; exact n1) (by rw [g4]; exact n5)
              rw [f1]
              by_cases c : q < w
              · exact absurd (f3.trans g4) (g5 q (by omega) c)
              · omega
            rw [ew]
            exact nameCase w (by omega) (by rw [ef, g1]) (fun _ _ z => by rw [ef, g1] at z; omega)
        · have hs' : sameV (S0 (a0 + 1)) v = -1 := by omega
          have ec : cdO S0 a0 v = 6 + (S0 (a0 + 2) (S0 (a0 + 1) v).toNat * 7 + S0 (a0 + 3) (S0 (a0 + 1) v).toNat) := by unfold cdO cdV; rw [if_neg n1, if_neg n5, if_neg hs]
          have ef : fsV (S0 (a0 + 1)) v = v := by unfold fsV; rw [if_neg n1, if_neg n5, if_neg hs]
          rw [ec, if_neg (by omega), if_neg (by omega), if_neg (by omega)]
          rw [show (6 + (S0 (a0 + 2) (S0 (a0 + 1) v).toNat * 7 + S0 (a0 + 3) (S0 (a0 + 1) v).toNat) - 6) / 7 = S0 (a0 + 2) (S0 (a0 + 1) v).toNat by omega, show (6 + (S0 (a0 + 2) (S0 (a0 + 1) v).toNat * 7 + S0 (a0 + 3) (S0 (a0 + 1) v).toNat) - 6) % 7 = S0 (a0 + 3) (S0 (a0 + 1) v).toNat by omega]
          obtain ⟨k, hk⟩ : ∃ k, S0 (a0 + 2) (S0 (a0 + 1) v).toNat = k := ⟨_, rfl⟩
          obtain ⟨t, ht⟩ : ∃ t, S0 (a0 + 3) (S0 (a0 + 1) v).toNat = t := ⟨_, rfl⟩
          rw [hk, ht] at hst
          rw [hk, ht]
          have r1 : ∀ u, up2 (up2 (up2 U (a + 1) v v) (a + 2) v k) (a + 3) v t (a + 1) u = if u = v then (v : Int) else U (a + 1) u := fun u => by unfold up2; simp
          have r2 : ∀ u, up2 (up2 (up2 U (a + 1) v v) (a + 2) v k) (a + 3) v t (a + 2) u = if u = v then k else U (a + 2) u := fun u => by unfold up2; simp
          have r3 : ∀ u, up2 (up2 (up2 U (a + 1) v v) (a + 2) v k) (a + 3) v t (a + 3) u = if u = v then t else U (a + 3) u := fun u => by unfold up2; simp
          refine ⟨fun b hb => ?_, ?_, fun u hu => ?_, fun u hu g1 g2 g3 => ?_, ⟨?_, ?_⟩, fun j hj => ?_, fun u hu => ?_⟩
          · rw [up2_row (by omega), up2_row (by omega), up2_row (by omega)]; exact i1 b hb
          · rw [up2_row (by omega), up2_row (by omega), up2_row (by omega)]; exact i2
          · rw [r1]
            by_cases q : u = v
            · rw [if_pos q, q, ef]
            · rw [if_neg q]; exact i3 u (by omega)
          · rw [r2, r3]
            by_cases q : u = v
            · rw [if_pos q, if_pos q, q, hk, ht]; exact ⟨rfl, rfl⟩
            · rw [if_neg q, if_neg q]; exact i4 u (by omega) g1 g2 g3
          · rw [r2, if_neg (by omega)]; exact i5.1
          · rw [r3, if_neg (by omega)]; exact i5.2
          · rw [r2, r3]
            by_cases q : j = v
            · rw [if_pos q, if_pos q]; exact hst
            · rw [if_neg q, if_neg q]; exact i6 j hj
          · rw [r1]
            by_cases q : u = v
            · rw [if_pos q]; omega
            · rw [if_neg q]; exact i7 u hu
/-- what is loaded says what was packed -/
theorem ld_ok {S S0 : mm_S} {a a0 : Nat} {κ : kyT} {R : rgT} {N x : Int} (h : scR S0 a0 κ R) (hV : scV S0 a0) (hW : scW S a) (hκ : 0 ≤ κ.1 ∧ κ.1 ≤ 2) (hr : κ.2.1 < 6) (hk : 0 ≤ κ.2.2.1 ∧ κ.2.2.1 ≤ 5) (hs : 0 ≤ κ.2.2.2 ∧ κ.2.2.2 ≤ 6) (hN : 0 ≤ N ∧ N < 64) (hx : x = scPk S0 a0 + N * 1125899906842624) : scR (ldS S a κ x) a κ R ∧ scV (ldS S a κ x) a ∧ ldS S a κ x a 0 = κ.2.1 ∧ ldS S a κ x a 1 = S0 a0 1 ∧ scF S (ldS S a κ x) a := by
  have hbV := bg_V (S := S) (a := a) (r := κ.2.1) (h := hwC κ.1) (k := κ.2.2.1) (s := κ.2.2.2) hW (by omega) hk hs
  have hbR := sc_bg (S := S) (a := a) (κ := κ) hκ (r := κ.2.1)
  have hbp := bg_pl (S := S) (a := a) (r := κ.2.1) (h := hwC κ.1) (k := κ.2.2.1) (s := κ.2.2.2)
  obtain ⟨i1, i2, i3, i4, i5, i6, i7⟩ := un_ok (x := x) hV hbV.2.2.2.2 hbV.2.2.2.1 hN hx 5 (Nat.le_refl 5)
  obtain ⟨h1, h2, h3, h4, h5⟩ := h
  obtain ⟨v0, v1, v2, v3, v4⟩ := id hV
  unfold ldS
  generalize unF (bgS S a κ.2.1 (hwC κ.1) κ.2.2.1 κ.2.2.2) a x 5 = U at *
  refine ⟨⟨fun v hv => ?_, fun v w hv hw => ?_, fun v hv g1 g2 => ?_, ⟨fun e => ⟨?_, ?_⟩, fun e => ?_⟩, fun k hk => ?_⟩, ⟨?_, ?_, ?_, i7, i6⟩, ?_, i2.2.1, fun b hb => (i1 b hb).trans (bg_F b hb)⟩
  · rw [i3 v hv, ← (h1 v hv).1, ← (h1 v hv).2]
    have n := v3 v hv
    by_cases n1 : S0 (a0 + 1) v = -1
    · have e : fsV (S0 (a0 + 1)) v = -1 := by unfold fsV; rw [if_pos n1]
      rw [e, n1]; simp
    · by_cases n5 : S0 (a0 + 1) v = 5
      · have e : fsV (S0 (a0 + 1)) v = 5 := by unfold fsV; rw [if_neg n1, if_pos n5]
        rw [e, n5]; simp
      · obtain ⟨w, f1, f2, f3, f4⟩ := fsV_sp n1 n5
        rw [f1]
        constructor <;> constructor <;> intro z <;> omega
  · rw [i3 v hv, i3 w hw, fsV_eq hv hw]; exact h2 v w hv hw
  · rw [i3 v hv] at g1 g2 ⊢
    by_cases n1 : S0 (a0 + 1) v = -1
    · exact absurd (by unfold fsV; rw [if_pos n1]) g1
    · by_cases n5 : S0 (a0 + 1) v = 5
      · exact absurd (by unfold fsV; rw [if_neg n1, if_pos n5]) g2
      · obtain ⟨w, f1, f2, f3, f4⟩ := fsV_sp n1 n5
        have ew : fsV (S0 (a0 + 1)) w = w := by
          obtain ⟨q, k1, k2, k3, k4⟩ := fsV_sp (nm := S0 (a0 + 1)) (u := w) (by rw [f3]; exact n1) (by rw [f3]; exact n5)
          rw [k1]
          by_cases c : q < w
          · exact absurd (k3.trans f3) (f4 q c)
          · omega
        have := i4 w (by omega) (by rw [f3]; exact n1) (by rw [f3]; exact n5) ew
        rw [f1, Int.toNat_natCast, this.1, this.2, f3]
        exact h3 v hv n1 n5
  · rw [i5.2]; exact (h4.1 e).1
  · rw [i5.1]; exact (hbR.2.2.2.1.1 e).2
  · rw [i5.2]; exact h4.2 e
  · rw [i2.2.2]; exact h5 k hk
  · rw [i2.1, hbp.1]; omega
  · rw [i2.2.1]; exact v1
  · rw [i2.2.2]; exact v2
  · rw [i2.1, hbp.1]
/-! the packed number tells what the registers say, and nothing else -/
theorem cd_eq {S S' : mm_S} {a a' : Nat} {κ : kyT} {R : rgT} (h : scR S a κ R) (h' : scR S' a' κ R) {v : Nat} (hv : v < 5) : cdO S a v = cdO S' a' v := by
  obtain ⟨h1, h2, h3, h4, h5⟩ := h
  obtain ⟨g1, g2, g3, g4, g5⟩ := h'
  have e1 : S (a + 1) v = -1 ↔ S' (a' + 1) v = -1 := (h1 v hv).1.trans (g1 v hv).1.symm
  have e5 : S (a + 1) v = 5 ↔ S' (a' + 1) v = 5 := (h1 v hv).2.trans (g1 v hv).2.symm
  have es : sameV (S (a + 1)) v = sameV (S' (a' + 1)) v := by
    have gen : ∀ n w, w + n ≤ 5 → sameF (S (a + 1)) (S (a + 1) v) n w = sameF (S' (a' + 1)) (S' (a' + 1) v) n w := by
      intro n
      induction n with
      | zero => intro w _; rfl
      | succ n ih =>
        intro w hw
        have e : S (a + 1) w = S (a + 1) v ↔ S' (a' + 1) w = S' (a' + 1) v := (h2 w v (by omega) hv).trans (g2 w v (by omega) hv).symm
        simp only [sameF]
        rw [ih (w + 1) (by omega)]
        by_cases q : S (a + 1) w = S (a + 1) v
        · rw [if_pos q, if_pos (e.mp q)]
        · rw [if_neg q, if_neg (fun z => q (e.mpr z))]
    exact gen v 0 (by omega)
  unfold cdO cdV
  rw [es]
  by_cases n1 : S (a + 1) v = -1
  · rw [if_pos n1, if_pos (e1.mp n1)]
  · rw [if_neg n1, if_neg (fun z => n1 (e1.mpr z))]
    by_cases n5 : S (a + 1) v = 5
    · rw [if_pos n5, if_pos (e5.mp n5)]
    · rw [if_neg n5, if_neg (fun z => n5 (e5.mpr z))]
      have k1 := h3 v hv n1 n5
      have k2 := g3 v hv (fun z => n1 (e1.mpr z)) (fun z => n5 (e5.mpr z))
      split
      · rfl
      · show 6 + (S (a + 2) (S (a + 1) v).toNat * 7 + S (a + 3) (S (a + 1) v).toNat) = 6 + (S' (a' + 2) (S' (a' + 1) v).toNat * 7 + S' (a' + 3) (S' (a' + 1) v).toNat)
        omega
theorem dig4_eq {x y : Int} (hx : 0 ≤ x ∧ x < 4096) (hy : 0 ≤ y ∧ y < 4096) (h : ∀ k, k < 6 → x / 4 ^ k % 4 = y / 4 ^ k % 4) : x = y := by
  have h0 := h 0 (by omega)
  have h1 := h 1 (by omega)
  have h2 := h 2 (by omega)
  have h3 := h 3 (by omega)
  have h4 := h 4 (by omega)
  have h5 := h 5 (by omega)
  simp only [show (4 : Int) ^ 0 = 1 from rfl, show (4 : Int) ^ 1 = 4 from rfl, show (4 : Int) ^ 2 = 16 from rfl, show (4 : Int) ^ 3 = 64 from rfl, show (4 : Int) ^ 4 = 256 from rfl, show (4 : Int) ^ 5 = 1024 from rfl] at h0 h1 h2 h3 h4 h5
  omega
theorem scpk_eq {S S' : mm_S} {a a' : Nat} {κ : kyT} {R : rgT} (h : scR S a κ R) (h' : scR S' a' κ R) (hV : scV S a) (hV' : scV S' a') (hp : S a 1 = S' a' 1) : scPk S a = scPk S' a' := by
  have e3 : S (a + 3) 5 = S' (a' + 3) 5 := by
    by_cases e : κ.1 = 1
    · rw [(h.2.2.2.1.1 e).1, (h'.2.2.2.1.1 e).1]
    · rw [h.2.2.2.1.2 e, h'.2.2.2.1.2 e]
  have e2 : S a 2 = S' a' 2 := dig4_eq hV.2.2.1 hV'.2.2.1 (fun k hk => by rw [← h.2.2.2.2 k hk, ← h'.2.2.2.2 k hk])
  have e5 : pkF (cdO S a) 5 = pkF (cdO S' a') 5 := by
    simp only [pkF, Nat.sub_self, Nat.sub_zero, Nat.reduceSub]
    rw [cd_eq h h' (show 0 < 5 by omega), cd_eq h h' (show 1 < 5 by omega), cd_eq h h' (show 2 < 5 by omega), cd_eq h h' (show 3 < 5 by omega), cd_eq h h' (show 4 < 5 by omega)]
  unfold scPk pkN
  rw [e5, e3, e2, hp]
/-- a packed scene and packed registers that say the same -/
def lnk (κ : kyT) (pl x p : Int) : Prop := ∃ (S0 : mm_S) (a0 : Nat) (R : rgT), scR S0 a0 κ R ∧ scV S0 a0 ∧ rgB R ∧ (κ.1 ≠ 1 → R.2.2.1 = 7) ∧ S0 a0 1 = pl ∧ x = scPk S0 a0 ∧ p = pkM R
theorem lnk_un {κ : kyT} {pl x p : Int} (h : lnk κ pl x p) : ∃ (S0 : mm_S) (a0 : Nat), scR S0 a0 κ (unM p) ∧ scV S0 a0 ∧ S0 a0 1 = pl ∧ x = scPk S0 a0 ∧ pkM (unM p) = p ∧ rgB (unM p) ∧ (κ.1 ≠ 1 → (unM p).2.2.1 = 7) := by
  obtain ⟨S0, a0, R, h1, h2, h3, h4, h5, h6, rfl⟩ := h
  have q := un_pq h3
  exact ⟨S0, a0, sc_pq h1 h3 q.1, h2, h5, h6, pkun h3, q.2, fun e => by rw [← q.1.2.2.2.1]; exact h4 e⟩
theorem lnk_inj {κ : kyT} {pl x x' p : Int} (h : lnk κ pl x p) (h' : lnk κ pl x' p) : x = x' := by
  obtain ⟨S0, a0, h1, h2, h3, h4, -⟩ := lnk_un h
  obtain ⟨S1, a1, g1, g2, g3, g4, -⟩ := lnk_un h'
  rw [h4, g4]
  exact scpk_eq h1 g1 h2 g2 (by rw [h3, g3])
theorem lnk_fun {κ : kyT} {pl pl' x p p' : Int} (hκ : 0 ≤ κ.1 ∧ κ.1 ≤ 2) (hr : κ.2.1 < 6) (hk : 0 ≤ κ.2.2.1 ∧ κ.2.2.1 ≤ 5) (hs : 0 ≤ κ.2.2.2 ∧ κ.2.2.2 ≤ 6) (h : lnk κ pl x p) (h' : lnk κ pl' x p') : pl = pl' ∧ p = p' := by
  obtain ⟨S0, a0, h1, h2, h3, h4, h5, h6, h7⟩ := lnk_un h
  obtain ⟨S1, a1, g1, g2, g3, g4, g5, g6, g7⟩ := lnk_un h'
  have W0 : scW (fun _ _ => 0) 0 := fun j hj => by simp
  have l0 := ld_ok (S := fun _ _ => 0) (a := 0) (x := x) (N := 0) h1 h2 W0 hκ hr hk hs (by omega) (by rw [h4]; omega)
  have l1 := ld_ok (S := fun _ _ => 0) (a := 0) (x := x) (N := 0) g1 g2 W0 hκ hr hk hs (by omega) (by rw [g4]; omega)
  refine ⟨by rw [← h3, ← g3, ← l0.2.2.2.1, ← l1.2.2.2.1], ?_⟩
  have le : (unM p).2.2.1 = (unM p').2.2.1 := by
    by_cases e : κ.1 = 1
    · rw [← (l0.1.2.2.2.1.1 e).1, ← (l1.1.2.2.2.1.1 e).1]
    · rw [h7 e, g7 e]
  have q := pq_sc l0.1 l1.1 h6 le
  rw [← h5, ← g5]
  exact pkM_pq h6 g6 q
