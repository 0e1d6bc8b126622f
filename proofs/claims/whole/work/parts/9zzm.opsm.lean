/-! ===== use drop ends ===== -/
theorem br_k {S : mm_S} (h : BK S) {k : Int} (hk : mK S k) : S (4 + 3 * k.toNat) 0 = S 182 k.toNat ∧ S (4 + 3 * k.toNat) 1 = S 183 k.toNat ∧ ∀ i, i < 48 → S (4 + 3 * k.toNat + 1) i = S 184 (48 * k.toNat + i) ∧ S (4 + 3 * k.toNat + 2) i = S 185 (48 * k.toNat + i) := h.2.1.2.2.1 k.toNat (by have := h.2.1.1; unfold mK at hk; omega)
theorem st_iff {S : mm_S} (h : BK S) (k s : Int) : hasSt S k s ↔ mSt S k s := by
  have b0 := h.2.1.1
  unfold hasSt mSt hasK mK
  rw [b0]
  constructor
  · rintro ⟨h1, h2⟩
    rw [(br_k h h1).1] at h2
    exact ⟨h1, h2⟩
  · rintro ⟨h1, h2⟩
    rw [(br_k h h1).1]
    exact ⟨h1, h2⟩
theorem mSt_of {S S1 : mm_S} (e1 : S1 181 = S 181) (e2 : S1 182 = S 182) (k s : Int) : mSt S1 k s = mSt S k s := by
  unfold mSt mK
  rw [e1, e2]
/-- one entry is set in both -/
theorem BK_set {S : mm_S} (h : BK S) {k s n y z : Int} (hst : mSt S k s) (hn : 0 ≤ n ∧ n < 8) (hy : -1 ≤ y ∧ y < S 182 k.toNat) (hz : -1 ≤ z ∧ z < S 182 k.toNat) (hyz : y = -1 → z = -1) :
    BK (up2 (up2 (up2 (up2 S (4 + 3 * k.toNat + 1) (s * 8 + n).toNat y) (4 + 3 * k.toNat + 2) (s * 8 + n).toNat z) 184 (48 * k + 8 * s + n).toNat y) 185 (48 * k + 8 * s + n).toNat z) ∧ okF2 S (up2 (up2 (up2 (up2 S (4 + 3 * k.toNat + 1) (s * 8 + n).toNat y) (4 + 3 * k.toNat + 2) (s * 8 + n).toNat z) 184 (48 * k + 8 * s + n).toNat y) 185 (48 * k + 8 * s + n).toNat z) := by
  obtain ⟨K, rfl⟩ := Int.eq_ofNat_of_zero_le hst.1.1
  have hv := h.1.1
  have hk6 : K < 6 := by have := hst.1.2; have := hv.1; omega
  have hs6 := hv.2.2.1 K hk6
  have b3 := br_k h hst.1
  obtain ⟨s1, s2⟩ := hst.2
  have hk2 := hst.1.2
  simp only [Int.toNat_natCast] at *
  obtain ⟨x, hx⟩ := Int.eq_ofNat_of_zero_le (show 0 ≤ s * 8 + n by omega)
  rw [show (s * 8 + n).toNat = x by omega, show (48 * (K : Int) + 8 * s + n).toNat = 48 * K + x by omega]
  have hx48 : x < 48 := by omega
  refine ⟨BK_ent (k := K) (x := x) (y := y) (z := z) (en := S 183 K) h hk2 hx48 hy hz hyz (by omega) (fun b h1 h2 h3 h4 h5 => by rw [up2_row (by omega), up2_row (by omega), up2_row h5, up2_row h4]) (by rw [up2_rd (by omega), up2_rd (by omega), up2_rd (by omega), up2_rd (by omega)]) (by rw [up2_rd (by omega), up2_rd (by omega), up2_rd (by omega), up2_rd (by omega)]; exact b3.2.1) (fun i => ⟨?_, ?_⟩) (fun b h1 h2 => by rw [up2_row (by omega), up2_row (by omega), up2_row (by omega), up2_row (by omega)]) (by rw [up2_rd (by omega), up2_rd (by omega), up2_rd (by omega), up2_rd (by omega)]) (by rw [up2_rd (by omega), up2_rd (by omega), up2_rd (by omega), up2_rd (by omega)]) ?_ (by rw [up2_row (by omega), up2_row (by omega), up2_row (by omega), up2_row (by omega)]) (fun j => ?_) (fun j => ⟨?_, ?_⟩), ⟨fun b h1 h2 => by rw [up2_row (by omega), up2_row (by omega), up2_row (by omega), up2_row (by omega)], fun j hj => by rw [up2_rd (by omega), up2_rd (by omega), up2_rd (by omega), up2_rd (by omega)], by rw [up2_rd (by omega), up2_rd (by omega), up2_rd (by omega), up2_rd (by omega)]⟩⟩
  · rw [up2_rd (by omega), up2_rd (by omega), up2_rd (by omega)]
    by_cases e : i = x
    · rw [if_pos e, e, up2_same]
    · rw [if_neg e, up2_rc e]
  · rw [up2_rd (by omega), up2_rd (by omega)]
    by_cases e : i = x
    · rw [if_pos e, e, up2_same]
    · rw [if_neg e, up2_rc e, up2_rd (by omega)]
  · rw [up2_rd (by omega), up2_rd (by omega), up2_rd (by omega), up2_rd (by omega), up2_rd (by omega), up2_rd (by omega), up2_rd (by omega), up2_rd (by omega)]
    exact h.2.2.2.2
  · rw [up2_rd (by omega), up2_rd (by omega), up2_rd (by omega), up2_rd (by omega)]
    split
    · rename_i e
      rw [e]
    · rfl
  · rw [up2_rd (by omega)]
    by_cases e : j = 48 * K + x
    · rw [if_pos e, e, up2_same]
    · rw [if_neg e, up2_rc e, up2_rd (by omega), up2_rd (by omega)]
  · by_cases e : j = 48 * K + x
    · rw [if_pos e, e, up2_same]
    · rw [if_neg e, up2_rc e, up2_rd (by omega), up2_rd (by omega), up2_rd (by omega)]
theorem useS_hi (S : mm_S) (k s n y z : Int) (hk : S 1 0 ≤ 6) : ∀ b, 85 ≤ b → useS S k s n y z b = S b := by
  intro b hb
  unfold useS
  split
  · rename_i hok
    have := hok.1.1
    unfold hasK at this
    split
    · rfl
    · rw [up2_row (by omega), up2_row (by omega)]
  · rfl
theorem dropS_hi (S : mm_S) (k s n : Int) (hk : S 1 0 ≤ 6) : ∀ b, 85 ≤ b → dropS S k s n b = S b := by
  intro b hb
  unfold dropS
  split
  · rename_i hok
    have := hok.1.1
    unfold hasK at this
    split
    · rw [up2_row (by omega), up2_row (by omega)]
    · rfl
  · rfl
theorem endsS_hi (S : mm_S) (k e : Int) (hk : S 1 0 ≤ 6) : ∀ b, 85 ≤ b → endsS S k e b = S b := by
  intro b hb
  unfold endsS
  split
  · rename_i hok
    have := hok.1
    unfold hasK at this
    rw [up2_row (by omega)]
  · rfl
set_option maxHeartbeats 4000000 in
theorem pr_use {S : mm_S} (h : BK S) (k s n y z : Int) : useR S k s n y z = museR (useS S k s n y z) k s n y z ∧ BK (museS (useS S k s n y z) k s n y z) ∧ okF2 S (museS (useS S k s n y z) k s n y z) := by
  have hv := h.1.1
  have b0 := h.2.1.1
  have hi := useS_hi S k s n y z (by have := hv.1; omega)
  have hokm : okUse S k s n y z ↔ mokUse (useS S k s n y z) k s n y z := by
    unfold okUse mokUse
    rw [mSt_of (hi 181 (by omega)) (hi 182 (by omega)), mSt_of (hi 181 (by omega)) (hi 182 (by omega)), mSt_of (hi 181 (by omega)) (hi 182 (by omega)), st_iff h, st_iff h, st_iff h]
  have hmH : mH (useS S k s n y z) k s n = mH S k s n := by
    unfold mH
    rw [hi 184 (by omega)]
  unfold useR museR museS
  by_cases hok : okUse S k s n y z
  · have hok2 := hokm.mp hok
    have hst := (st_iff h k s).mp hok.1
    have hsy := (st_iff h k y).mp hok.2.2.1
    have hH := (kd_mH h.2.1 hv hst.1 hst.2 hok.2.1).1
    rw [if_pos hok, if_pos hok2, if_pos hok2]
    by_cases hh : kdH S (4 + 3 * k.toNat) s n
    · have hh2 : mH (useS S k s n y z) k s n := by rw [hmH]; exact hH.mp hh
      have eS : useS S k s n y z = S := by
        unfold useS
        rw [if_pos hok, if_pos hh]
      rw [if_pos hh, if_pos hh2, if_pos hh2, eS]
      exact ⟨rfl, h, okF2_rf S⟩
    · have hh2 : ¬ mH (useS S k s n y z) k s n := by rw [hmH]; exact fun z => hh (hH.mpr z)
      rw [if_neg hh, if_neg hh2, if_neg hh2]
      refine ⟨rfl, ?_⟩
      have eS : useS S k s n y z = up2 (up2 S ((4 + 3 * k.toNat) + 1) (s * 8 + n).toNat y) ((4 + 3 * k.toNat) + 2) (s * 8 + n).toNat z := by
        unfold useS
        rw [if_pos hok, if_neg hh]
      rw [eS]
      have hzz : -1 ≤ z ∧ z < S 182 k.toNat := by
        rcases hok.2.2.2 with e | e
        · have := hst.2
          omega
        · have := ((st_iff h k z).mp e).2
          omega
      exact BK_set h hst hok.2.1 (by have := hsy.2; omega) hzz (fun e => by have := hsy.2; omega)
  · have hok2 : ¬ mokUse (useS S k s n y z) k s n y z := fun z => hok (hokm.mpr z)
    have eS : useS S k s n y z = S := by
      unfold useS
      rw [if_neg hok]
    rw [if_neg hok, if_neg hok2, if_neg hok2, eS]
    exact ⟨rfl, h, okF2_rf S⟩
set_option maxHeartbeats 4000000 in
theorem pr_drop {S : mm_S} (h : BK S) (k s n : Int) : dropR S k s n = mdropR (dropS S k s n) k s n ∧ BK (mdropS (dropS S k s n) k s n) ∧ okF2 S (mdropS (dropS S k s n) k s n) := by
  have hv := h.1.1
  have b0 := h.2.1.1
  have hi := dropS_hi S k s n (by have := hv.1; omega)
  have hokm : okDrop S k s n ↔ mokDrop (dropS S k s n) k s n := by
    unfold okDrop mokDrop
    rw [mSt_of (hi 181 (by omega)) (hi 182 (by omega)), st_iff h]
  have hmH : mH (dropS S k s n) k s n = mH S k s n := by
    unfold mH
    rw [hi 184 (by omega)]
  unfold dropR mdropR mdropS
  by_cases hok : okDrop S k s n
  · have hok2 := hokm.mp hok
    have hst := (st_iff h k s).mp hok.1
    have hH := (kd_mH h.2.1 hv hst.1 hst.2 hok.2).1
    rw [if_pos hok, if_pos hok2, if_pos hok2]
    by_cases hh : kdH S (4 + 3 * k.toNat) s n
    · have hh2 : mH (dropS S k s n) k s n := by rw [hmH]; exact hH.mp hh
      rw [if_pos hh, if_pos hh2, if_pos hh2]
      refine ⟨rfl, ?_⟩
      have eS : dropS S k s n = up2 (up2 S ((4 + 3 * k.toNat) + 1) (s * 8 + n).toNat (-1)) ((4 + 3 * k.toNat) + 2) (s * 8 + n).toNat (-1) := by
        unfold dropS
        rw [if_pos hok, if_pos hh]
      rw [eS]
      exact BK_set h hst hok.2 (by have := hst.2; omega) (by have := hst.2; omega) (fun _ => rfl)
    · have hh2 : ¬ mH (dropS S k s n) k s n := by rw [hmH]; exact fun z => hh (hH.mpr z)
      have eS : dropS S k s n = S := by
        unfold dropS
        rw [if_pos hok, if_neg hh]
      rw [if_neg hh, if_neg hh2, if_neg hh2, eS]
      exact ⟨rfl, h, okF2_rf S⟩
  · have hok2 : ¬ mokDrop (dropS S k s n) k s n := fun z => hok (hokm.mpr z)
    have eS : dropS S k s n = S := by
      unfold dropS
      rw [if_neg hok]
    rw [if_neg hok, if_neg hok2, if_neg hok2, eS]
    exact ⟨rfl, h, okF2_rf S⟩
theorem pw_s {s e : Int} (hs : 0 ≤ s ∧ s ≤ 6) (h3 : 0 ≤ e) (h4 : e < 1 * 2 ^ s.toNat) : 0 ≤ e ∧ e < 64 := by
  have : s = 0 ∨ s = 1 ∨ s = 2 ∨ s = 3 ∨ s = 4 ∨ s = 5 ∨ s = 6 := by omega
  rcases this with rfl | rfl | rfl | rfl | rfl | rfl | rfl <;> exact ⟨h3, Int.lt_of_lt_of_le h4 (by decide)⟩
set_option maxHeartbeats 4000000 in
theorem pr_ends {S : mm_S} (h : BK S) (k e : Int) : endsR S k e = mendsR (endsS S k e) k e ∧ BK (mendsS (endsS S k e) k e) ∧ okF2 S (mendsS (endsS S k e) k e) := by
  have hv := h.1.1
  have b0 := h.2.1.1
  have hi := endsS_hi S k e (by have := hv.1; omega)
  have h181 := hi 181 (by omega)
  have h182 := hi 182 (by omega)
  have h183 := hi 183 (by omega)
  have hokm : okEnds S k e ↔ mokEnds (endsS S k e) k e := by
    unfold okEnds mokEnds hasK mK
    rw [h181, h182, b0]
    constructor
    · rintro ⟨h1, h2⟩
      rw [(br_k h h1).1] at h2
      exact ⟨h1, h2⟩
    · rintro ⟨h1, h2⟩
      rw [(br_k h h1).1]
      exact ⟨h1, h2⟩
  unfold endsR mendsR mendsS
  by_cases hok : okEnds S k e
  · have hok2 := hokm.mp hok
    have hK0 : mK S k := by have := hok.1; unfold hasK at this; unfold mK; omega
    obtain ⟨f0, f1, f2⟩ := br_k h hK0
    rw [if_pos hok, if_pos hok2, if_pos hok2]
    refine ⟨by rw [f1, h183], ?_⟩
    have eS : endsS S k e = up2 S (4 + 3 * k.toNat) 1 e := by
      unfold endsS
      rw [if_pos hok]
    rw [eS]
    have he := hok.2
    clear hok2 hokm h181 h182 h183 hi eS
    obtain ⟨K, rfl⟩ := Int.eq_ofNat_of_zero_le hK0.1
    have hk2 := hK0.2
    simp only [Int.toNat_natCast] at *
    have hk6 : K < 6 := by have := hv.1; omega
    have hs6 := hv.2.2.1 K hk6
    rw [f0] at he
    have he6 := pw_s ⟨hs6.1, hs6.2.1⟩ he.1 he.2
    obtain ⟨w, wp⟩ := h.1.2.2.2.1 K hk2
    have w0 := w 0 (by omega)
    have v0 := hv.2.2.2.1 (48 * K + 0)
    refine ⟨BK_ent (k := K) (x := 0) (y := S 184 (48 * K + 0)) (z := S 185 (48 * K + 0)) (en := e) h hk2 (by omega) (by omega) (by omega) (h.2.2.1.2 K hk2 0 (by omega)) he6 (fun b h1 h2 h3 h4 h5 => by rw [up2_row (by omega), up2_row (by omega)]) (by rw [up2_rd (by omega), up2_rc (by omega)]) (by rw [up2_rd (by omega), up2_same]) (fun i => ⟨?_, ?_⟩) (fun b h1 h2 => by rw [up2_row (by omega), up2_row (by omega)]) (by rw [up2_rd (by omega), up2_rd (by omega)]) (by rw [up2_rd (by omega), up2_rd (by omega)]) ?_ (by rw [up2_row (by omega), up2_row (by omega)]) (fun j => ?_) (fun j => ⟨?_, ?_⟩), ⟨fun b h1 h2 => by rw [up2_row (by omega), up2_row (by omega)], fun j hj => by rw [up2_rd (by omega), up2_rd (by omega)], by rw [up2_rd (by omega), up2_rd (by omega)]⟩⟩
    · rw [up2_rd (by omega), up2_rd (by omega)]
      split
      · rename_i e0
        rw [e0, (f2 0 (by omega)).1]
      · rfl
    · rw [up2_rd (by omega), up2_rd (by omega)]
      split
      · rename_i e0
        rw [e0, (f2 0 (by omega)).2]
      · rfl
    · rw [up2_rd (by omega), up2_rd (by omega), up2_rd (by omega), up2_rd (by omega)]
      exact h.2.2.2.2
    · by_cases ej : j = K
      · rw [if_pos ej, ej, up2_same]
      · rw [if_neg ej, up2_rc ej, up2_rd (by omega)]
    · rw [up2_rd (by omega), up2_rd (by omega)]
      split
      · rename_i e0
        rw [e0]
      · rfl
    · rw [up2_rd (by omega), up2_rd (by omega)]
      split
      · rename_i e0
        rw [e0]
      · rfl
  · have hok2 : ¬ mokEnds (endsS S k e) k e := fun z => hok (hokm.mpr z)
    have eS : endsS S k e = S := by
      unfold endsS
      rw [if_neg hok]
    rw [if_neg hok, if_neg hok2, if_neg hok2, eS]
    exact ⟨rfl, h, okF2_rf S⟩
/-! ===== leads told open ===== -/
theorem pr_leads {S : mm_S} (h : BK S) (k s n : Int) (y : Prop) [Decidable y] : leadsR S k s n y = mleadsR S k s n y := by
  have hv := h.1.1
  have b0 := h.2.1.1
  unfold leadsR mleadsR
  by_cases hk : hasK S k
  · have hk2 : mK S k := by unfold hasK at hk; unfold mK; omega
    rw [if_pos hk]
    by_cases h1 : s = -1 ∧ n = -1
    · rw [if_pos h1, if_pos ⟨hk2, h1⟩, (br_k h hk2).1]
    · rw [if_neg h1, if_neg (show ¬ (mK S k ∧ s = -1 ∧ n = -1) from fun z => h1 z.2)]
      by_cases h2 : hasSt S k s ∧ 0 ≤ n ∧ n < 8
      · have hst := (st_iff h k s).mp h2.1
        obtain ⟨q1, q2, q3⟩ := kd_mH h.2.1 hv hst.1 hst.2 h2.2
        rw [if_pos h2, if_pos ⟨hst, h2.2⟩, q3]
        unfold mlT
        split
        · rfl
        · rename_i e
          have e3 : S 184 (48 * k + 8 * s + n).toNat = -1 := by unfold mH at e; omega
          have hK := hst.1
          have hS := hst.2
          have h6 := hv.2.2.1 k.toNat (by unfold mK at hK; have := hv.1; omega)
          have e4 := h.2.2.1.2 k.toNat (by unfold mK at hK; omega) (8 * s + n).toNat (by omega)
          rw [show 48 * k.toNat + (8 * s + n).toNat = (48 * k + 8 * s + n).toNat by unfold mK at hK; omega] at e4
          have e5 := e4 e3
          unfold mF
          rw [e3, e5]
          split <;> rfl
      · rw [if_neg h2, if_neg (fun z => h2 ⟨(st_iff h k s).mpr z.1, z.2⟩)]
  · have hk2 : ¬ mK S k := by unfold hasK at hk; unfold mK; omega
    rw [if_neg hk, if_neg (show ¬ (mK S k ∧ s = -1 ∧ n = -1) from fun z => hk2 z.1), if_neg (show ¬ (mSt S k s ∧ 0 ≤ n ∧ n < 8) from fun z => hk2 z.1.1)]
theorem br_r {S : mm_S} (h : BK S) {r : Int} (hr : mR S r) : S (22 + 10 * r.toNat) 0 = S 189 r.toNat ∧ ∀ i : Nat, (i : Int) < S 189 r.toNat → S (22 + 10 * r.toNat + 1) i = S 190 (25 * r.toNat + i) ∧ S (22 + 10 * r.toNat + 2) i = S 191 (25 * r.toNat + i) ∧ S (22 + 10 * r.toNat + 3) i = S 192 (25 * r.toNat + i) := h.2.1.2.2.2 r.toNat (by have := h.2.1.2.1; unfold mR at hr; omega)
theorem r_iff {S : mm_S} (h : BK S) (r : Int) : hasR S r ↔ mR S r := by
  have := h.2.1.2.1
  unfold hasR mR
  rw [this]
theorem pl_iff {S : mm_S} (h : BK S) (r i : Int) : hasPl S r i ↔ mPl S r i := by
  unfold hasPl mPl
  rw [r_iff h]
  constructor
  · rintro ⟨h1, h2⟩
    rw [(br_r h h1).1] at h2
    exact ⟨h1, h2⟩
  · rintro ⟨h1, h2⟩
    rw [(br_r h h1).1]
    exact ⟨h1, h2⟩
theorem pr_told {S : mm_S} (h : BK S) (k i w : Int) : toldR S k i w = mtoldR S k i w := by
  unfold toldR mtoldR
  by_cases h1 : mR S k ∧ 0 ≤ w ∧ w ≤ 2
  · rw [if_pos ⟨(r_iff h k).mpr h1.1, h1.2⟩, if_pos h1]
    obtain ⟨e0, e1⟩ := br_r h h1.1
    unfold partR mtoldOf
    rw [e0]
    by_cases h2 : 0 ≤ i ∧ i < S 189 k.toNat
    · obtain ⟨a1, a2, a3⟩ := e1 i.toNat (by omega)
      have ek : (25 * k + i).toNat = 25 * k.toNat + i.toNat := by have := h1.1.1; omega
      rw [if_pos h2, if_pos h2, a1, a2, a3, ek]
    · rw [if_neg h2, if_neg h2]
  · rw [if_neg (fun z => h1 ⟨(r_iff h k).mp z.1, z.2⟩), if_neg h1]
theorem pr_open {S : mm_S} (h : BK S) (k : Int) : openR S k = mopenR S k := by
  unfold openR mopenR
  by_cases h1 : mR S k
  · rw [if_pos ((r_iff h k).mpr h1), if_pos h1]
    obtain ⟨e0, e1⟩ := br_r h h1
    have hk6 : k.toNat < 6 := by unfold mR at h1; have := h.1.1.2.1; omega
    have t := (h.2.2.2.1.1 k.toNat hk6).2.2.1.1.1
    rw [t, e0, stk_congr (t := fun j => S 190 (25 * k.toNat + j)) (fun i hi => (e1 i (by have := h.1.1.2.2.2.2 k.toNat hk6; omega)).1)]
  · rw [if_neg (fun z => h1 ((r_iff h k).mp z)), if_neg h1]
