/-! ===== The reference's judge: leaves ===== -/
theorem inj_le : ∀ (n m : Nat) (f : Nat → Nat), (∀ i, i < n → f i < m) → (∀ i j, i < n → j < n → f i = f j → i = j) → n ≤ m
  | 0, m, f, _, _ => Nat.zero_le m
  | n + 1, 0, f, h1, _ => absurd (h1 n (Nat.lt_succ_self n)) (Nat.not_lt_zero _)
  | n + 1, m + 1, f, h1, h2 => by
    have hn := h1 n (Nat.lt_succ_self n)
    have key : ∀ i, i < n → f i ≠ f n := fun i hi e => by have := h2 i n (by omega) (by omega) e; omega
    have := inj_le n m (fun i => if f i = m then f n else f i) (fun i hi => by
      have a := h1 i (by omega)
      have b := key i hi
      show (if f i = m then f n else f i) < m
      split <;> omega) (fun i j hi hj e => by
      have a := key i hi
      have b := key j hj
      have e : (if f i = m then f n else f i) = (if f j = m then f n else f j) := e
      refine h2 i j (by omega) (by omega) ?_
      split at e <;> split at e <;> omega)
    omega
/-- the book's rows, and what follows of ROUTINES without open blocks -/
def bkE (S S' : mm_S) : Prop := (∀ b, 182 ≤ b → b < 198 → S' b = S b) ∧ S' 181 0 = S 181 0 ∧ S' 181 9 = S 181 9
theorem bkE_rf (S : mm_S) : bkE S S := ⟨fun _ _ _ => rfl, rfl, rfl⟩
theorem bkE_tr {S S' S2 : mm_S} (h : bkE S S') (h2 : bkE S' S2) : bkE S S2 := ⟨fun b x y => (h2.1 b x y).trans (h.1 b x y), h2.2.1.trans h.2.1, h2.2.2.trans h.2.2⟩
abbrev mN (S : mm_S) (r : Nat) : Nat := (S 189 r).toNat
/-- a ROUTINE of the reference, walked -/
def mrW (S : mm_S) (r : Nat) : Prop := wfP (mSo S r) (mN S r) ∧ stk (mSo S r) (mN S r) = [] ∧ wkR S (mSo S r) r (mN S r) ∧ (∀ i : Nat, i < mN S r → mCall S r i) ∧ ∀ i : Nat, i < mN S r → okA (mSo S r i) (S 191 (25 * r + i)) ∧ mokB S (mSo S r i) (S 192 (25 * r + i))
def mbW (S : mm_S) : Prop := mdV S ∧ mkA S ∧ mdQ S ∧ 0 < S 181 9 ∧ ∀ r : Nat, (r : Int) < S 181 9 → mrW S r
theorem mrW_of {S S' : mm_S} {r : Nat} (he : bkE S S') (h : mrW S r) : mrW S' r := by
  have a : ∀ b, 182 ≤ b → b < 198 → S' b = S b := he.1
  unfold mrW mN mSo wkR mCall mR mokB mK at *
  rw [a 189 (by omega) (by omega), a 190 (by omega) (by omega), a 191 (by omega) (by omega), a 192 (by omega) (by omega), a 193 (by omega) (by omega), a 194 (by omega) (by omega), a 195 (by omega) (by omega), a 196 (by omega) (by omega), he.2.1, he.2.2]
  exact h
theorem mdV_of {S S' : mm_S} (he : bkE S S') (h : mdV S) : mdV S' := by
  have a : ∀ b, 182 ≤ b → b < 198 → S' b = S b := he.1
  unfold mdV at *
  rw [he.2.1, he.2.2, a 182 (by omega) (by omega), a 183 (by omega) (by omega), a 184 (by omega) (by omega), a 185 (by omega) (by omega), a 189 (by omega) (by omega)]
  exact h
theorem mkA_of {S S' : mm_S} (he : bkE S S') (h : mkA S) : mkA S' := by
  have a : ∀ b, 182 ≤ b → b < 198 → S' b = S b := he.1
  unfold mkA mkW at *
  rw [he.2.1, a 182 (by omega) (by omega), a 184 (by omega) (by omega), a 185 (by omega) (by omega)]
  exact h
theorem mbW_of {S S' : mm_S} (he : bkE S S') (h : mbW S) : mbW S' := by
  obtain ⟨h1, h2, h3, h4, h5⟩ := h
  have a : ∀ b, 182 ≤ b → b < 198 → S' b = S b := he.1
  refine ⟨mdV_of he h1, mkA_of he h2, ?_, by rw [he.2.2]; exact h4, fun r hr => mrW_of he (h5 r (by rw [he.2.2] at hr; exact hr))⟩
  unfold mdQ at *
  rw [a 190 (by omega) (by omega), a 191 (by omega) (by omega), a 192 (by omega) (by omega)]
  exact h3
theorem trA_congr {s f g : Nat → Int} {pl : Int} : ∀ {n : Nat}, (∀ o, o < n → s o = 14 → f o = g o) → trA s f pl n = trA s g pl n
  | 0, _ => rfl
  | n + 1, h => by
    have ih := trA_congr (pl := pl) (n := n) (fun o ho => h o (by omega))
    simp only [trA]
    rw [ih]
    by_cases hs : s n = 14
    · rw [h n (Nat.lt_succ_self n) hs]
    · rw [if_neg (fun z => hs z.1), if_neg (fun z => hs z.1)]
theorem trA_R (s f : Nat → Int) (pl : Int) (n : Nat) : -1 ≤ trA s f pl n ∧ trA s f pl n < n := by
  rcases trA_sp s f pl n with ⟨h, -⟩ | ⟨o, h1, h2, -⟩ <;> omega
/-- what is kept of a TRY's way on, at a place -/
def kpV (s ar mi en : Nat → Int) (to k held : Int) : Nat → Int
  | 0 => 0
  | o + 1 => if s o = 14 ∧ ar o = k ∧ mi o ≤ to ∧ to ≤ en o then held else kpV s ar mi en to k held o
theorem kpV_or (s ar mi en : Nat → Int) (to k held : Int) : ∀ n, (kpV s ar mi en to k held n = held ∧ ∃ o : Nat, o < n ∧ s o = 14 ∧ ar o = k ∧ mi o ≤ to ∧ to ≤ en o) ∨ (kpV s ar mi en to k held n = 0 ∧ ¬ ∃ o : Nat, o < n ∧ s o = 14 ∧ ar o = k ∧ mi o ≤ to ∧ to ≤ en o)
  | 0 => Or.inr ⟨rfl, fun ⟨o, h, _⟩ => absurd h (Nat.not_lt_zero _)⟩
  | n + 1 => by
    simp only [kpV]
    by_cases h : s n = 14 ∧ ar n = k ∧ mi n ≤ to ∧ to ≤ en n
    · rw [if_pos h]; exact Or.inl ⟨rfl, n, Nat.lt_succ_self n, h⟩
    · rw [if_neg h]
      rcases kpV_or s ar mi en to k held n with ⟨h1, o, h2, h3⟩ | ⟨h1, h2⟩
      · exact Or.inl ⟨h1, o, by omega, h3⟩
      · refine Or.inr ⟨h1, fun ⟨o, h3, h4⟩ => ?_⟩
        by_cases e : o = n
        · subst e; exact h h4
        · exact h2 ⟨o, by omega, h4⟩
theorem kpV_congr {s ar ar' mi mi' en en' : Nat → Int} {to k held : Int} : ∀ {n : Nat}, (∀ o, o < n → s o = 14 → ar o = ar' o ∧ mi o = mi' o ∧ en o = en' o) → kpV s ar mi en to k held n = kpV s ar' mi' en' to k held n
  | 0, _ => rfl
  | n + 1, h => by
    have ih := kpV_congr (to := to) (k := k) (held := held) (n := n) (fun o ho => h o (by omega))
    simp only [kpV]
    rw [ih]
    by_cases hs : s n = 14
    · obtain ⟨e1, e2, e3⟩ := h n (Nat.lt_succ_self n) hs
      rw [e1, e2, e3]
    · rw [if_neg (fun z => hs z.1), if_neg (fun z => hs z.1)]
theorem kpV_0 {s ar mi en : Nat → Int} {to k : Int} (n : Nat) : kpV s ar mi en to k 0 n = 0 := by
  rcases kpV_or s ar mi en to k 0 n with ⟨h, -⟩ | ⟨h, -⟩ <;> exact h
abbrev mAr (S : mm_S) (r : Nat) : Nat → Int := fun o => S 196 (25 * r + o)
abbrev mMi (S : mm_S) (r : Nat) : Nat → Int := fun o => S 194 (25 * r + o)
abbrev mEn (S : mm_S) (r : Nat) : Nat → Int := fun o => S 195 (25 * r + o)
/-- registers as the place changes -/
def mvP (S : mm_S) (r : Nat) (to : Int) (P : Nat → Int) : Nat → Int := nrm 6 (fun k => kpV (mSo S r) (arA (mSo S r)) (midO (mSo S r) (mN S r)) (endO (mSo S r) (mN S r)) to k (P k) (mN S r))
def tryM (S : mm_S) (r : Nat) (pl : Int) : Int := trA (mSo S r) (midO (mSo S r) (mN S r)) pl (mN S r)
theorem wk_mid {S : mm_S} {r : Nat} (h : mrW S r) : ∀ o, o < mN S r → opn (mSo S r o) → mMi S r o = midO (mSo S r) (mN S r) o ∧ mEn S r o = endO (mSo S r) (mN S r) o := fun o h1 h2 => h.2.2.1.2 o h1 h2
theorem wk_ar {S : mm_S} {r : Nat} (h : mrW S r) : ∀ o, o < mN S r → S 193 (25 * r + o) = opA (mSo S r) o ∧ mAr S r o = arA (mSo S r) o := fun o h1 => h.2.2.1.1 o h1
theorem arA_R {s : Nat → Int} {n o : Nat} (hw : wfP s n) (ho : o < n) : -1 ≤ arA s o ∧ arA s o ≤ 6 := by
  have := stk_len (wfP_le hw (Nat.le_of_lt ho))
  unfold arA
  split <;> omega
set_option maxRecDepth 100000 in
set_option maxHeartbeats 4000000 in
theorem l_try {sh : List mm_H} {S : mm_S} {L : mm_L} (hm : mdS sh) {r : Nat} (hr : r < 6) (hn : S 189 r ≤ 24) (hw : mrW S r) (hn1 : 0 ≤ S 189 r) {pl : Int} (hpl : 0 ≤ pl ∧ pl ≤ 24) : ∀ (q : Nat) (i : Nat), mN S r - i < q → (i ≤ mN S r) → am_AW eX10_tryAround (mm sh S L) 5 [some (.ref 181), some (.int (iI (r : Int))), some (.int (iI pl)), some (.int (iI (trA (mSo S r) (mMi S r) pl i))), some (.int (iI (i : Int))), none] [] (fun r0 M' => r0 = some (.int (iI (tryM S r pl))) ∧ M' = mm sh S L) := by
  intro q
  induction q with
  | zero =>
    intro i hq
    exact absurd hq (Nat.not_lt_zero _)
  | succ q ih =>
    intro i hq hi
    refine am_iload rfl dX10_tryAround_5 ?_
    refine am_aload_n rfl dX10_tryAround_7 ?_
    refine mm_getR dX10_tryAround_8 fl_X10_36 (md_0 hm) mdf_10 ?_
    refine am_iload_n rfl dX10_tryAround_11 ?_
    refine mm_ial dX10_tryAround_12 (md_many hm) (by omega) ?_
    rw [Int.toNat_natCast]
    have e24 : ((mN S r : Nat) : Int) = S 189 r := Int.toNat_of_nonneg hn1
    refine mm_jge (tgt := 67) dX10_tryAround_13 (by decide) (by omega) (by omega) (fun h13 => ?_) (fun h13 => ?_)
    · have h5 : i = mN S r := by omega
      subst h5
      refine am_iload_n rfl dX10_tryAround_67 ?_
      refine am_ireturn dX10_tryAround_68 rfl rfl ⟨?_, rfl⟩
      unfold tryM
      rw [trA_congr (fun o h1 h2 => (wk_mid hw o h1 (Or.inr h2)).1)]
    · refine mm_bipush dX10_tryAround_16 (by decide) ?_
      refine am_iload_n rfl dX10_tryAround_18 ?_
      refine mm_imul dX10_tryAround_19 ?_
      refine am_iload rfl dX10_tryAround_20 ?_
      refine mm_iadd dX10_tryAround_22 ?_
      rw [show (25 * (r : Int) + (i : Int)) = ((25 * r + i : Nat) : Int) by omega]
      refine am_ist5 dX10_tryAround_23 (Nat.le_of_ble_eq_true rfl) (am_c1i _) ?_
      refine am_aload_n rfl dX10_tryAround_25 ?_
      refine mm_getR dX10_tryAround_26 fl_X10_39 (md_0 hm) mdf_11 ?_
      refine am_iload rfl dX10_tryAround_29 ?_
      refine mm_ial dX10_tryAround_31 (md_sortAt hm) (by omega) ?_
      rw [Int.toNat_natCast]
      refine mm_bipush dX10_tryAround_32 (by decide) ?_
      have gs := (hw.1 i (by omega)).1
      have gs : 0 ≤ S 190 (25 * r + i) ∧ S 190 (25 * r + i) ≤ 15 := gs
      refine mm_jne (tgt := 59) dX10_tryAround_34 (by decide) (by omega) (by omega) (fun h34 => ?_) (fun h34 => ?_)
      · refine am_iload_n rfl dX10_tryAround_59 ?_
        refine am_ist3 dX10_tryAround_60 (Nat.le_of_ble_eq_true rfl) (am_c1i _) ?_
        refine mm_inc4 dX10_tryAround_61 (Nat.le_of_ble_eq_true rfl) (am_c1i _) ?_
        refine am_goto (tgt := 5) dX10_tryAround_64 (by decide) ?_
        refine am_AW.unset 5 ?_
        have h9 := ih (i + 1) (by omega) (by omega)
        simp only [trA] at h9
        first
          | (rw [if_pos ⟨h34, by omega, by omega⟩] at h9; exact h9)
          | (rw [if_neg (fun z => by have z1 : S 190 (25 * r + i) = 14 := z.1; have z2 := z.2.1; have z3 : pl < S 194 (25 * r + i) := z.2.2; omega)] at h9; exact h9)
      · refine am_iload rfl dX10_tryAround_37 ?_
        refine am_iload_n rfl dX10_tryAround_39 ?_
        refine mm_jge (tgt := 59) dX10_tryAround_40 (by decide) (by omega) (by omega) (fun h40 => ?_) (fun h40 => ?_)
        · refine am_iload_n rfl dX10_tryAround_59 ?_
          refine am_ist3 dX10_tryAround_60 (Nat.le_of_ble_eq_true rfl) (am_c1i _) ?_
          refine mm_inc4 dX10_tryAround_61 (Nat.le_of_ble_eq_true rfl) (am_c1i _) ?_
          refine am_goto (tgt := 5) dX10_tryAround_64 (by decide) ?_
          refine am_AW.unset 5 ?_
          have h9 := ih (i + 1) (by omega) (by omega)
          simp only [trA] at h9
          first
            | (rw [if_pos ⟨h34, by omega, by omega⟩] at h9; exact h9)
            | (rw [if_neg (fun z => by have z1 : S 190 (25 * r + i) = 14 := z.1; have z2 := z.2.1; have z3 : pl < S 194 (25 * r + i) := z.2.2; omega)] at h9; exact h9)
        · refine am_iload_n rfl dX10_tryAround_43 ?_
          refine am_aload_n rfl dX10_tryAround_44 ?_
          refine mm_getR dX10_tryAround_45 fl_X10_51 (md_0 hm) mdf_15 ?_
          refine am_iload rfl dX10_tryAround_48 ?_
          have gm : S 194 (25 * r + i) = midO (mSo S r) (mN S r) i := (wk_mid hw i (by omega) (Or.inr h34)).1
          have gm2 := midO_lt (mSo S r) (mN S r) i
          refine mm_ial dX10_tryAround_50 (md_midAt hm) (by omega) ?_
          rw [Int.toNat_natCast]
          refine mm_jge (tgt := 59) dX10_tryAround_51 (by decide) (by omega) (by omega) (fun h51 => ?_) (fun h51 => ?_)
          · refine am_iload_n rfl dX10_tryAround_59 ?_
            refine am_ist3 dX10_tryAround_60 (Nat.le_of_ble_eq_true rfl) (am_c1i _) ?_
            refine mm_inc4 dX10_tryAround_61 (Nat.le_of_ble_eq_true rfl) (am_c1i _) ?_
            refine am_goto (tgt := 5) dX10_tryAround_64 (by decide) ?_
            refine am_AW.unset 5 ?_
            have h9 := ih (i + 1) (by omega) (by omega)
            simp only [trA] at h9
            first
              | (rw [if_pos ⟨h34, by omega, by omega⟩] at h9; exact h9)
              | (rw [if_neg (fun z => by have z1 : S 190 (25 * r + i) = 14 := z.1; have z2 := z.2.1; have z3 : pl < S 194 (25 * r + i) := z.2.2; omega)] at h9; exact h9)
          · refine am_iload rfl dX10_tryAround_54 ?_
            refine am_goto (tgt := 60) dX10_tryAround_56 (by decide) ?_
            refine am_ist3 dX10_tryAround_60 (Nat.le_of_ble_eq_true rfl) (am_c1i _) ?_
            refine mm_inc4 dX10_tryAround_61 (Nat.le_of_ble_eq_true rfl) (am_c1i _) ?_
            refine am_goto (tgt := 5) dX10_tryAround_64 (by decide) ?_
            refine am_AW.unset 5 ?_
            have h9 := ih (i + 1) (by omega) (by omega)
            simp only [trA] at h9
            first
              | (rw [if_pos ⟨h34, by omega, by omega⟩] at h9; exact h9)
              | (rw [if_neg (fun z => by have z1 : S 190 (25 * r + i) = 14 := z.1; have z2 := z.2.1; have z3 : pl < S 194 (25 * r + i) := z.2.2; omega)] at h9; exact h9)
set_option maxRecDepth 100000 in
set_option maxHeartbeats 4000000 in
theorem m_tryAround {sh : List mm_H} {S : mm_S} {L : mm_L} (hm : mdS sh) {r : Nat} (hr : r < 6) (hn : S 189 r ≤ 24) (hw : mrW S r) (hn1 : 0 ≤ S 189 r) {pl : Int} (hpl : 0 ≤ pl ∧ pl ≤ 24) : am_E eX10_tryAround [.ref 181, .int (iI (r : Int)), .int (iI pl)] (mm sh S L) (fun r0 M' => r0 = some (.int (iI (tryM S r pl))) ∧ M' = mm sh S L) := by
  refine am_enter rfl rfl (Nat.le_of_ble_eq_true rfl) ?_
  refine mm_iconst dX10_tryAround_0 ?_
  refine am_ist3 dX10_tryAround_1 (Nat.le_of_ble_eq_true rfl) (am_c1i _) ?_
  refine mm_iconst dX10_tryAround_2 ?_
  refine am_ist4 dX10_tryAround_3 (Nat.le_of_ble_eq_true rfl) (am_c1i _) ?_
  exact l_try hm hr hn hw hn1 hpl (mN S r + 1) 0 (by omega) (by omega)
/-- the pend row while it is filtered -/
def mvF (S S' : mm_S) (r : Nat) (to : Int) (k : Nat) : Prop := (∀ b, b ≠ 200 → S' b = S b) ∧ (∀ j, j < k → S' 200 j = kpV (mSo S r) (mAr S r) (mMi S r) (mEn S r) to j (S 200 j) (mN S r)) ∧ ∀ j, k ≤ j → S' 200 j = S 200 j
set_option maxRecDepth 100000 in
set_option maxHeartbeats 4000000 in
theorem l_mvI {sh : List mm_H} {S : mm_S} {L : mm_L} (hm : mdS sh) {r : Nat} (hr : r < 6) (hn : S 189 r ≤ 24) (hw : mrW S r) (hn1 : 0 ≤ S 189 r) {c to : Int} (hto : 0 ≤ to ∧ to ≤ 24) (hP : ∀ k, k < 6 → 0 ≤ S 200 k ∧ S 200 k < 4) {S' : mm_S} {k : Nat} (hk : k < 6) (hF : ∀ b, b ≠ 200 → S' b = S b) {h : Int} (hh : h = S 200 k) {Q : Option Value → am_M → Prop} (kk : am_AW eX10_moves (mm sh (up2 S' 200 k (kpV (mSo S r) (mAr S r) (mMi S r) (mEn S r) to k h (mN S r))) L) 123 [some (.ref 181), some (.int (iI c)), some (.int (iI to)), some (.int (iI (r : Int))), some (.int (iI (k : Int))), none, none, none] [] Q) : ∀ (q : Nat) (i : Nat), mN S r - i < q → (i ≤ mN S r) → am_AW eX10_moves (mm sh (up2 S' 200 k (kpV (mSo S r) (mAr S r) (mMi S r) (mEn S r) to k h i)) L) 37 [some (.ref 181), some (.int (iI c)), some (.int (iI to)), some (.int (iI (r : Int))), some (.int (iI (k : Int))), some (.int (iI h)), some (.int (iI (i : Int))), none] [] Q := by
  intro q
  induction q with
  | zero =>
    intro i hq
    exact absurd hq (Nat.not_lt_zero _)
  | succ q ih =>
    intro i hq hi
    refine am_iload rfl dX10_moves_37 ?_
    refine am_aload_n rfl dX10_moves_39 ?_
    refine mm_getR dX10_moves_40 fl_X10_36 (md_0 hm) mdf_10 ?_
    refine am_iload_n rfl dX10_moves_43 ?_
    refine mm_ial dX10_moves_44 (md_many hm) (by omega) ?_
    rw [Int.toNat_natCast, up2_rd (by omega), hF 189 (by omega)]
    have e24 : ((mN S r : Nat) : Int) = S 189 r := Int.toNat_of_nonneg hn1
    have hh4 := hP k hk
    refine mm_jge (tgt := 123) dX10_moves_45 (by decide) (by omega) (by omega) (fun h45 => ?_) (fun h45 => ?_)
    · have h5 : i = mN S r := by omega
      subst h5
      exact am_AW.unset 5 (am_AW.unset 6 kk)
    · refine am_iload rfl dX10_moves_48 ?_
      refine mm_zle (tgt := 123) dX10_moves_50 (by decide) (by omega) (fun h50 => ?_) (fun h50 => ?_)
      · have h0 : h = 0 := by omega
        rw [h0, kpV_0] at kk ⊢
        exact am_AW.unset 5 (am_AW.unset 6 kk)
      · refine mm_bipush dX10_moves_53 (by decide) ?_
        refine am_iload_n rfl dX10_moves_55 ?_
        refine mm_imul dX10_moves_56 ?_
        refine am_iload rfl dX10_moves_57 ?_
        refine mm_iadd dX10_moves_59 ?_
        rw [show (25 * (r : Int) + (i : Int)) = ((25 * r + i : Nat) : Int) by omega]
        refine am_ist7 dX10_moves_60 (Nat.le_of_ble_eq_true rfl) (am_c1i _) ?_
        refine am_aload_n rfl dX10_moves_62 ?_
        refine mm_getR dX10_moves_63 fl_X10_39 (md_0 hm) mdf_11 ?_
        refine am_iload rfl dX10_moves_66 ?_
        refine mm_ial dX10_moves_68 (md_sortAt hm) (by omega) ?_
        rw [Int.toNat_natCast, up2_rd (by omega), hF 190 (by omega)]
        refine mm_bipush dX10_moves_69 (by decide) ?_
        have gs := (hw.1 i (by omega)).1
        have gs : 0 ≤ S 190 (25 * r + i) ∧ S 190 (25 * r + i) ≤ 15 := gs
        refine mm_jne (tgt := 117) dX10_moves_71 (by decide) (by omega) (by omega) (fun h71 => ?_) (fun h71 => ?_)
        · refine mm_inc6 dX10_moves_117 (Nat.le_of_ble_eq_true rfl) (am_c1i _) ?_
          refine am_goto (tgt := 37) dX10_moves_120 (by decide) ?_
          refine am_AW.unset 7 ?_
          have h9 := ih (i + 1) (by omega) (by omega)
          simp only [kpV] at h9
          first
            | (rw [if_pos ⟨h71, by omega, by omega, by omega⟩] at h9; exact h9)
            | (rw [if_neg (fun z => by have z1 : S 190 (25 * r + i) = 14 := z.1; have z2 : S 196 (25 * r + i) = k := z.2.1; have z3 : S 194 (25 * r + i) ≤ to := z.2.2.1; have z4 : to ≤ S 195 (25 * r + i) := z.2.2.2; omega)] at h9; exact h9)
        · refine am_aload_n rfl dX10_moves_74 ?_
          refine mm_getR dX10_moves_75 fl_X10_57 (md_0 hm) mdf_17 ?_
          refine am_iload rfl dX10_moves_78 ?_
          have gm : S 194 (25 * r + i) = midO (mSo S r) (mN S r) i ∧ S 195 (25 * r + i) = endO (mSo S r) (mN S r) i := wk_mid hw i (by omega) (Or.inr h71)
          have gm2 := midO_lt (mSo S r) (mN S r) i
          have gm3 := endO_lt (mSo S r) (mN S r) i
          have gm4 := arA_R hw.1 (show i < mN S r by omega)
          have gm5 : S 196 (25 * r + i) = arA (mSo S r) i := (wk_ar hw i (by omega)).2
          refine mm_ial dX10_moves_80 (md_around hm) (by omega) ?_
          rw [Int.toNat_natCast, up2_rd (by omega), hF 196 (by omega)]
          refine am_iload rfl dX10_moves_81 ?_
          refine mm_jne (tgt := 117) dX10_moves_83 (by decide) (by omega) (by omega) (fun h83 => ?_) (fun h83 => ?_)
          · refine mm_inc6 dX10_moves_117 (Nat.le_of_ble_eq_true rfl) (am_c1i _) ?_
            refine am_goto (tgt := 37) dX10_moves_120 (by decide) ?_
            refine am_AW.unset 7 ?_
            have h9 := ih (i + 1) (by omega) (by omega)
            simp only [kpV] at h9
            first
              | (rw [if_pos ⟨h71, by omega, by omega, by omega⟩] at h9; exact h9)
              | (rw [if_neg (fun z => by have z1 : S 190 (25 * r + i) = 14 := z.1; have z2 : S 196 (25 * r + i) = k := z.2.1; have z3 : S 194 (25 * r + i) ≤ to := z.2.2.1; have z4 : to ≤ S 195 (25 * r + i) := z.2.2.2; omega)] at h9; exact h9)
          · refine am_aload_n rfl dX10_moves_86 ?_
            refine mm_getR dX10_moves_87 fl_X10_51 (md_0 hm) mdf_15 ?_
            refine am_iload rfl dX10_moves_90 ?_
            refine mm_ial dX10_moves_92 (md_midAt hm) (by omega) ?_
            rw [Int.toNat_natCast, up2_rd (by omega), hF 194 (by omega)]
            refine am_iload_n rfl dX10_moves_93 ?_
            refine mm_jgt (tgt := 117) dX10_moves_94 (by decide) (by omega) (by omega) (fun h94 => ?_) (fun h94 => ?_)
            · refine mm_inc6 dX10_moves_117 (Nat.le_of_ble_eq_true rfl) (am_c1i _) ?_
              refine am_goto (tgt := 37) dX10_moves_120 (by decide) ?_
              refine am_AW.unset 7 ?_
              have h9 := ih (i + 1) (by omega) (by omega)
              simp only [kpV] at h9
              first
                | (rw [if_pos ⟨h71, by omega, by omega, by omega⟩] at h9; exact h9)
                | (rw [if_neg (fun z => by have z1 : S 190 (25 * r + i) = 14 := z.1; have z2 : S 196 (25 * r + i) = k := z.2.1; have z3 : S 194 (25 * r + i) ≤ to := z.2.2.1; have z4 : to ≤ S 195 (25 * r + i) := z.2.2.2; omega)] at h9; exact h9)
            · refine am_iload_n rfl dX10_moves_97 ?_
              refine am_aload_n rfl dX10_moves_98 ?_
              refine mm_getR dX10_moves_99 fl_X10_54 (md_0 hm) mdf_16 ?_
              refine am_iload rfl dX10_moves_102 ?_
              refine mm_ial dX10_moves_104 (md_endAt hm) (by omega) ?_
              rw [Int.toNat_natCast, up2_rd (by omega), hF 195 (by omega)]
              refine mm_jgt (tgt := 117) dX10_moves_105 (by decide) (by omega) (by omega) (fun h105 => ?_) (fun h105 => ?_)
              · refine mm_inc6 dX10_moves_117 (Nat.le_of_ble_eq_true rfl) (am_c1i _) ?_
                refine am_goto (tgt := 37) dX10_moves_120 (by decide) ?_
                refine am_AW.unset 7 ?_
                have h9 := ih (i + 1) (by omega) (by omega)
                simp only [kpV] at h9
                first
                  | (rw [if_pos ⟨h71, by omega, by omega, by omega⟩] at h9; exact h9)
                  | (rw [if_neg (fun z => by have z1 : S 190 (25 * r + i) = 14 := z.1; have z2 : S 196 (25 * r + i) = k := z.2.1; have z3 : S 194 (25 * r + i) ≤ to := z.2.2.1; have z4 : to ≤ S 195 (25 * r + i) := z.2.2.2; omega)] at h9; exact h9)
              · refine am_aload_n rfl dX10_moves_108 ?_
                refine mm_getR dX10_moves_109 fl_X10_69 (md_0 hm) mdf_23 ?_
                refine am_iload rfl dX10_moves_112 ?_
                refine am_iload rfl dX10_moves_114 ?_
                refine mm_ias dX10_moves_116 (md_pend hm) (by omega) ?_
                rw [Int.toNat_natCast, up2_up2]
                refine mm_inc6 dX10_moves_117 (Nat.le_of_ble_eq_true rfl) (am_c1i _) ?_
                refine am_goto (tgt := 37) dX10_moves_120 (by decide) ?_
                refine am_AW.unset 7 ?_
                have h9 := ih (i + 1) (by omega) (by omega)
                simp only [kpV] at h9
                first
                  | (rw [if_pos ⟨h71, by omega, by omega, by omega⟩] at h9; exact h9)
                  | (rw [if_neg (fun z => by have z1 : S 190 (25 * r + i) = 14 := z.1; have z2 : S 196 (25 * r + i) = k := z.2.1; have z3 : S 194 (25 * r + i) ≤ to := z.2.2.1; have z4 : to ≤ S 195 (25 * r + i) := z.2.2.2; omega)] at h9; exact h9)
set_option maxRecDepth 100000 in
set_option maxHeartbeats 4000000 in
theorem l_mvO {sh : List mm_H} {S : mm_S} {L : mm_L} (hm : mdS sh) {r : Nat} (hr : r < 6) (hn : S 189 r ≤ 24) (hw : mrW S r) (hn1 : 0 ≤ S 189 r) {c to : Int} (hto : 0 ≤ to ∧ to ≤ 24) (hP : ∀ k, k < 6 → 0 ≤ S 200 k ∧ S 200 k < 4) : ∀ (q : Nat) (k : Nat) (S' : mm_S), 6 - k < q → (k ≤ 6) → (mvF S S' r to k) → am_AW eX10_moves (mm sh S' L) 10 [some (.ref 181), some (.int (iI c)), some (.int (iI to)), some (.int (iI (r : Int))), some (.int (iI (k : Int))), none, none, none] [] (fun r0 M' => r0 = none ∧ ∃ S', M' = mm sh S' L ∧ mvF S S' r to 6) := by
  intro q
  induction q with
  | zero =>
    intro k S' hq
    exact absurd hq (Nat.not_lt_zero _)
  | succ q ih =>
    intro k S' hq hk hF
    refine am_iload rfl dX10_moves_10 ?_
    refine mm_bipush dX10_moves_12 (by decide) ?_
    refine mm_jge (tgt := 129) dX10_moves_14 (by decide) (by omega) (by omega) (fun h14 => ?_) (fun h14 => ?_)
    · have h5 : k = 6 := by omega
      subst h5
      exact am_return dX10_moves_129 rfl ⟨rfl, S', rfl, hF⟩
    · refine am_aload_n rfl dX10_moves_17 ?_
      refine mm_getR dX10_moves_18 fl_X10_69 (md_0 hm) mdf_23 ?_
      refine am_iload rfl dX10_moves_21 ?_
      refine mm_ial dX10_moves_23 (md_pend hm) (by omega) ?_
      rw [Int.toNat_natCast, hF.2.2 k (Nat.le_refl k)]
      refine am_ist5 dX10_moves_24 (Nat.le_of_ble_eq_true rfl) (am_c1i _) ?_
      refine am_aload_n rfl dX10_moves_26 ?_
      refine mm_getR dX10_moves_27 fl_X10_69 (md_0 hm) mdf_23 ?_
      refine am_iload rfl dX10_moves_30 ?_
      refine mm_iconst dX10_moves_32 ?_
      refine mm_ias dX10_moves_33 (md_pend hm) (by omega) ?_
      rw [Int.toNat_natCast]
      refine mm_iconst dX10_moves_34 ?_
      refine am_ist6 dX10_moves_35 (Nat.le_of_ble_eq_true rfl) (am_c1i _) ?_
      refine l_mvI (S' := S') hm hr hn hw hn1 hto hP (show k < 6 by omega) hF.1 rfl ?_ (mN S r + 1) 0 (by omega) (by omega)
      refine mm_inc4 dX10_moves_123 (Nat.le_of_ble_eq_true rfl) (am_c1i _) ?_
      refine am_goto (tgt := 10) dX10_moves_126 (by decide) ?_
      refine ih (k + 1) _ (by omega) (by omega) ⟨fun b hb => ?_, fun j hj => ?_, fun j hj => ?_⟩
      · rw [up2_row hb]; exact hF.1 b hb
      · by_cases e : j = k
        · subst e; rw [up2_same]
        · rw [up2_rc e]; exact hF.2.1 j (by omega)
      · rw [up2_rc (by omega)]; exact hF.2.2 j (by omega)
theorem mvF_rg {S S' : mm_S} {r : Nat} {to : Int} (hw : mrW S r) (h : mvF S S' r to 6) : rgS S' = ((rgS S).1, (rgS S).2.1, (rgS S).2.2.1, mvP S r to (rgS S).2.2.2) := by
  unfold rgS
  rw [h.1 198 (by omega), h.1 199 (by omega), h.1 181 (by omega)]
  refine Prod.ext rfl (Prod.ext rfl (Prod.ext rfl ?_))
  funext k
  by_cases hk : k < 6
  · show nrm 6 (S' 200) k = mvP S r to (nrm 6 (S 200)) k
    unfold mvP
    rw [nrm_in hk, nrm_in hk, h.2.1 k hk]
    show _ = kpV _ _ _ _ to k (nrm 6 (S 200) k) _
    rw [nrm_in hk]
    exact kpV_congr (fun o h1 h2 => ⟨(wk_ar hw o h1).2, wk_mid hw o h1 (Or.inr h2)⟩)
  · show nrm 6 (S' 200) k = mvP S r to (nrm 6 (S 200)) k
    unfold mvP
    simp [nrm, hk]
theorem mvF_R {S S' : mm_S} {r : Nat} {to : Int} (h : mvF S S' r to 6) (hP : ∀ k, k < 6 → 0 ≤ S 200 k ∧ S 200 k < 4) : ∀ k, k < 6 → 0 ≤ S' 200 k ∧ S' 200 k < 4 := fun k hk => by
  rw [h.2.1 k hk]
  have := hP k hk
  rcases kpV_or (mSo S r) (mAr S r) (mMi S r) (mEn S r) to k (S 200 k) (mN S r) with ⟨e, -⟩ | ⟨e, -⟩ <;> omega
set_option maxRecDepth 100000 in
set_option maxHeartbeats 4000000 in
theorem m_moves {sh : List mm_H} {S : mm_S} {L : mm_L} (hm : mdS sh) {r : Nat} (hr : r < 6) (hn : S 189 r ≤ 24) (hw : mrW S r) (hn1 : 0 ≤ S 189 r) {to : Int} (hto : 0 ≤ to ∧ to ≤ 24) (hP : ∀ k, k < 6 → 0 ≤ S 200 k ∧ S 200 k < 4) {c : Nat} (hc : c < 40) (hcr : S 204 c = r) : am_E eX10_moves [.ref 181, .int (iI (c : Int)), .int (iI to)] (mm sh S L) (fun r0 M' => r0 = none ∧ ∃ S', M' = mm sh S' L ∧ mvF S S' r to 6) := by
  refine am_enter rfl rfl (Nat.le_of_ble_eq_true rfl) ?_
  refine am_aload_n rfl dX10_moves_0 ?_
  refine mm_getR dX10_moves_1 fl_X10_81 (md_0 hm) mdf_29 ?_
  refine am_iload_n rfl dX10_moves_4 ?_
  refine mm_ial dX10_moves_5 (md_caseRoutine hm) (by omega) ?_
  rw [Int.toNat_natCast, hcr]
  refine am_ist3 dX10_moves_6 (Nat.le_of_ble_eq_true rfl) (am_c1i _) ?_
  refine mm_iconst dX10_moves_7 ?_
  refine am_ist4 dX10_moves_8 (Nat.le_of_ble_eq_true rfl) (am_c1i _) ?_
  exact l_mvO hm hr hn hw hn1 hto hP 7 0 S (by omega) (by omega) ⟨fun _ _ => rfl, fun j hj => absurd hj (Nat.not_lt_zero j), fun _ _ => rfl⟩
abbrev lfM (S : mm_S) (c : Int) : Prop := c % 7 ≠ 6 ∧ ¬ mE S (c / 7) (c % 7)
def lvM (S : mm_S) (R : rgT) : Prop := ∃ v : Nat, v < 5 ∧ 1 < R.1 v ∧ lfM S (R.2.1 (R.1 v - 2).toNat)
abbrev cdM (S : mm_S) (c : Nat) (t : Int) : Int := if t = 1 then 7 * S 205 c + S 181 22 else S 199 (t - 2).toNat
abbrev agM (S : mm_S) (c : Nat) (t : Int) : Int := if t = 0 then 1 else if cdM S c t % 7 = 6 then 2 else 0
def tnS (S : mm_S) (t st : Int) : mm_S := if t = 1 then up2 S 181 22 st else up2 S 199 (t - 2).toNat (S 199 (t - 2).toNat / 7 * 7 + st)
set_option maxRecDepth 100000 in
set_option maxHeartbeats 4000000 in
theorem m_isLeft {sh : List mm_H} {S : mm_S} {L : mm_L} (hm : mdS sh) (hv : mdV S) {c : Int} (hc : 0 ≤ c ∧ c < 42) : am_E eX10_isLeft [.ref 181, .int (iI c)] (mm sh S L) (fun r M' => r = some (.int (iI (b2 (lfM S c)))) ∧ M' = mm sh S L) := by
  refine am_enter rfl rfl (Nat.le_of_ble_eq_true rfl) ?_
  refine am_iload_n rfl dX10_isLeft_0 ?_
  refine mm_bipush dX10_isLeft_1 (by decide) ?_
  refine mm_irem dX10_isLeft_3 (by omega) (by omega) ?_
  refine mm_bipush dX10_isLeft_4 (by decide) ?_
  refine mm_jeq (tgt := 28) dX10_isLeft_6 (by decide) (by omega) (by omega) (fun h6 => ?_) (fun h6 => ?_)
  · refine mm_iconst dX10_isLeft_28 ?_
    refine am_ireturn dX10_isLeft_29 rfl rfl ?_
    first | exact ⟨mm_rt ⟨by omega, by assumption⟩, rfl⟩ | exact ⟨mm_rf (fun z => z.1 (by omega)), rfl⟩ | exact ⟨mm_rf (fun z => z.2 (by assumption)), rfl⟩
  · refine am_aload_n rfl dX10_isLeft_9 ?_
    refine am_iload_n rfl dX10_isLeft_10 ?_
    refine mm_bipush dX10_isLeft_11 (by decide) ?_
    refine mm_idiv dX10_isLeft_13 (by omega) (by omega) ?_
    refine am_iload_n rfl dX10_isLeft_14 ?_
    refine mm_bipush dX10_isLeft_15 (by decide) ?_
    refine mm_irem dX10_isLeft_17 (by omega) (by omega) ?_
    refine am_ci (mm_V2 dX10_isLeft_18 in_X10_isEnd mk_X10_170 im_X10_isEnd sl_X10_isEnd ⟨Nat.le_of_ble_eq_true rfl, Nat.le_of_ble_eq_true rfl⟩ rfl (md_0 hm) (Nat.le_of_ble_eq_true rfl)) (m_isEnd hm hv (by omega) (by omega)) ?_
    refine mm_bne (tgt := 28) dX10_isLeft_21 (by decide) (fun h21 => ?_) (fun h21 => ?_)
    · refine mm_iconst dX10_isLeft_28 ?_
      refine am_ireturn dX10_isLeft_29 rfl rfl ?_
      first | exact ⟨mm_rt ⟨by omega, by assumption⟩, rfl⟩ | exact ⟨mm_rf (fun z => z.1 (by omega)), rfl⟩ | exact ⟨mm_rf (fun z => z.2 (by assumption)), rfl⟩
    · refine mm_iconst dX10_isLeft_24 ?_
      refine am_goto (tgt := 29) dX10_isLeft_25 (by decide) ?_
      refine am_ireturn dX10_isLeft_29 rfl rfl ?_
      first | exact ⟨mm_rt ⟨by omega, by assumption⟩, rfl⟩ | exact ⟨mm_rf (fun z => z.1 (by omega)), rfl⟩ | exact ⟨mm_rf (fun z => z.2 (by assumption)), rfl⟩
set_option maxRecDepth 100000 in
set_option maxHeartbeats 4000000 in
theorem l_lvs {sh : List mm_H} {S : mm_S} {L : mm_L} (hm : mdS sh) (hv : mdV S) (hr : rgR S) : ∀ (q : Nat) (v : Nat) (x : Int), 5 - v < q → (v ≤ 5) → (tells x (∃ m : Nat, m < v ∧ (1 < S 198 m ∧ lfM S (S 199 (S 198 m - 2).toNat)))) → am_AW eX10_leavesSome (mm sh S L) 4 [some (.ref 181), some (.int (iI x)), some (.int (iI (v : Int)))] [] (fun r M' => ∃ w, r = some (.int w) ∧ ∃ v, w = iI v ∧ tells v (lvM S (rgS S)) ∧ M' = mm sh S L) := by
  intro q
  induction q with
  | zero =>
    intro v x hq
    exact absurd hq (Nat.not_lt_zero _)
  | succ q ih =>
    intro v x hq hv5 hx
    obtain ⟨r1, r2, r3, r4⟩ := id hr
    refine am_iload_n rfl dX10_leavesSome_4 ?_
    refine mm_iconst dX10_leavesSome_5 ?_
    refine mm_jge (tgt := 55) dX10_leavesSome_6 (by decide) (by omega) (by omega) (fun h6 => ?_) (fun h6 => ?_)
    · have h5 : v = 5 := by omega
      subst h5
      refine am_iload_n rfl dX10_leavesSome_55 ?_
      refine am_ireturn dX10_leavesSome_56 rfl (mm_nz (tells_01 hx)) ⟨_, rfl, x, rfl, tells_iff hx ?_, rfl⟩
      unfold lvM rgS
      constructor
      · rintro ⟨m, h1, h2, h3⟩
        have := r1 m h1
        refine ⟨m, h1, ?_, ?_⟩
        · show 1 < nrm 5 (S 198) m
          rw [nrm_in h1]; exact h2
        · show lfM S (nrm 5 (S 199) (nrm 5 (S 198) m - 2).toNat)
          rw [nrm_in h1, nrm_in (by omega)]; exact h3
      · rintro ⟨m, h1, h2, h3⟩
        have := r1 m h1
        have h2 : 1 < nrm 5 (S 198) m := h2
        have h3 : lfM S (nrm 5 (S 199) (nrm 5 (S 198) m - 2).toNat) := h3
        rw [nrm_in h1] at h2
        rw [nrm_in h1, nrm_in (by omega)] at h3
        exact ⟨m, h1, h2, h3⟩
    · refine am_iload_n rfl dX10_leavesSome_9 ?_
      have hx01 := tells_01 hx
      refine mm_zne (tgt := 43) dX10_leavesSome_10 (by decide) (by omega) (fun h10 => ?_) (fun h10 => ?_)
      · refine mm_iconst dX10_leavesSome_43 ?_
        refine am_goto (tgt := 48) dX10_leavesSome_44 (by decide) ?_
        refine am_ist1 dX10_leavesSome_48 (Nat.le_of_ble_eq_true rfl) (am_c1r _) ?_
        refine mm_inc2 dX10_leavesSome_49 (Nat.le_of_ble_eq_true rfl) (am_c1i _) ?_
        refine am_goto (tgt := 4) dX10_leavesSome_52 (by decide) ?_
        refine ih (v + 1) _ (by omega) (by omega) (tells_iff (p := (∃ m : Nat, m < v ∧ (1 < S 198 m ∧ lfM S (S 199 (S 198 m - 2).toNat))) ∨ (1 < S 198 v ∧ lfM S (S 199 (S 198 v - 2).toNat))) ?_ ex_s.symm)
        first
          | exact Or.inl ⟨rfl, Or.inl (tells_t hx (by omega))⟩
          | exact Or.inl ⟨rfl, Or.inr ⟨by omega, by assumption⟩⟩
          | exact Or.inr ⟨rfl, fun z => z.elim (tells_f hx (by omega)) (fun y => by have := y.1; omega)⟩
          | exact Or.inr ⟨rfl, fun z => z.elim (tells_f hx (by omega)) (fun y => absurd y.2 (by assumption))⟩
      · refine am_aload_n rfl dX10_leavesSome_13 ?_
        refine mm_getR dX10_leavesSome_14 fl_X10_63 (md_0 hm) mdf_20 ?_
        refine am_iload_n rfl dX10_leavesSome_17 ?_
        refine mm_ial dX10_leavesSome_18 (md_var hm) (by omega) ?_
        rw [Int.toNat_natCast]
        refine mm_iconst dX10_leavesSome_19 ?_
        have g1 := r1 v (by omega)
        refine mm_jle (tgt := 47) dX10_leavesSome_20 (by decide) (by omega) (by omega) (fun h20 => ?_) (fun h20 => ?_)
        · refine mm_iconst dX10_leavesSome_47 ?_
          refine am_ist1 dX10_leavesSome_48 (Nat.le_of_ble_eq_true rfl) (am_c1r _) ?_
          refine mm_inc2 dX10_leavesSome_49 (Nat.le_of_ble_eq_true rfl) (am_c1i _) ?_
          refine am_goto (tgt := 4) dX10_leavesSome_52 (by decide) ?_
          refine ih (v + 1) _ (by omega) (by omega) (tells_iff (p := (∃ m : Nat, m < v ∧ (1 < S 198 m ∧ lfM S (S 199 (S 198 m - 2).toNat))) ∨ (1 < S 198 v ∧ lfM S (S 199 (S 198 v - 2).toNat))) ?_ ex_s.symm)
          first
            | exact Or.inl ⟨rfl, Or.inl (tells_t hx (by omega))⟩
            | exact Or.inl ⟨rfl, Or.inr ⟨by omega, by assumption⟩⟩
            | exact Or.inr ⟨rfl, fun z => z.elim (tells_f hx (by omega)) (fun y => by have := y.1; omega)⟩
            | exact Or.inr ⟨rfl, fun z => z.elim (tells_f hx (by omega)) (fun y => absurd y.2 (by assumption))⟩
        · refine am_aload_n rfl dX10_leavesSome_23 ?_
          refine am_aload_n rfl dX10_leavesSome_24 ?_
          refine mm_getR dX10_leavesSome_25 fl_X10_66 (md_0 hm) mdf_21 ?_
          refine am_aload_n rfl dX10_leavesSome_28 ?_
          refine mm_getR dX10_leavesSome_29 fl_X10_63 (md_0 hm) mdf_20 ?_
          refine am_iload_n rfl dX10_leavesSome_32 ?_
          refine mm_ial dX10_leavesSome_33 (md_var hm) (by omega) ?_
          rw [Int.toNat_natCast]
          refine mm_iconst dX10_leavesSome_34 ?_
          refine mm_isub dX10_leavesSome_35 ?_
          have g2 := r2 (S 198 v - 2).toNat (by omega)
          refine mm_ial dX10_leavesSome_36 (md_own hm) (by omega) ?_
          refine am_ci (mm_V1 dX10_leavesSome_37 in_X10_isLeft mk_X10_254 im_X10_isLeft sl_X10_isLeft ⟨Nat.le_of_ble_eq_true rfl, Nat.le_of_ble_eq_true rfl⟩ rfl (md_0 hm) (Nat.le_of_ble_eq_true rfl)) (m_isLeft hm hv g2) ?_
          refine mm_beq (tgt := 47) dX10_leavesSome_40 (by decide) (fun h40 => ?_) (fun h40 => ?_)
          · refine mm_iconst dX10_leavesSome_47 ?_
            refine am_ist1 dX10_leavesSome_48 (Nat.le_of_ble_eq_true rfl) (am_c1r _) ?_
            refine mm_inc2 dX10_leavesSome_49 (Nat.le_of_ble_eq_true rfl) (am_c1i _) ?_
            refine am_goto (tgt := 4) dX10_leavesSome_52 (by decide) ?_
            refine ih (v + 1) _ (by omega) (by omega) (tells_iff (p := (∃ m : Nat, m < v ∧ (1 < S 198 m ∧ lfM S (S 199 (S 198 m - 2).toNat))) ∨ (1 < S 198 v ∧ lfM S (S 199 (S 198 v - 2).toNat))) ?_ ex_s.symm)
            first
              | exact Or.inl ⟨rfl, Or.inl (tells_t hx (by omega))⟩
              | exact Or.inl ⟨rfl, Or.inr ⟨by omega, by assumption⟩⟩
              | exact Or.inr ⟨rfl, fun z => z.elim (tells_f hx (by omega)) (fun y => by have := y.1; omega)⟩
              | exact Or.inr ⟨rfl, fun z => z.elim (tells_f hx (by omega)) (fun y => absurd y.2 (by assumption))⟩
          · refine mm_iconst dX10_leavesSome_43 ?_
            refine am_goto (tgt := 48) dX10_leavesSome_44 (by decide) ?_
            refine am_ist1 dX10_leavesSome_48 (Nat.le_of_ble_eq_true rfl) (am_c1r _) ?_
            refine mm_inc2 dX10_leavesSome_49 (Nat.le_of_ble_eq_true rfl) (am_c1i _) ?_
            refine am_goto (tgt := 4) dX10_leavesSome_52 (by decide) ?_
            refine ih (v + 1) _ (by omega) (by omega) (tells_iff (p := (∃ m : Nat, m < v ∧ (1 < S 198 m ∧ lfM S (S 199 (S 198 m - 2).toNat))) ∨ (1 < S 198 v ∧ lfM S (S 199 (S 198 v - 2).toNat))) ?_ ex_s.symm)
            first
              | exact Or.inl ⟨rfl, Or.inl (tells_t hx (by omega))⟩
              | exact Or.inl ⟨rfl, Or.inr ⟨by omega, by assumption⟩⟩
              | exact Or.inr ⟨rfl, fun z => z.elim (tells_f hx (by omega)) (fun y => by have := y.1; omega)⟩
              | exact Or.inr ⟨rfl, fun z => z.elim (tells_f hx (by omega)) (fun y => absurd y.2 (by assumption))⟩
set_option maxRecDepth 100000 in
set_option maxHeartbeats 4000000 in
theorem m_leavesSome {sh : List mm_H} {S : mm_S} {L : mm_L} (hm : mdS sh) (hv : mdV S) (hr : rgR S) : am_E eX10_leavesSome [.ref 181] (mm sh S L) (fun r M' => ∃ w, r = some (.int w) ∧ ∃ v, w = iI v ∧ tells v (lvM S (rgS S)) ∧ M' = mm sh S L) := by
  refine am_enter rfl rfl (Nat.le_of_ble_eq_true rfl) ?_
  refine mm_iconst dX10_leavesSome_0 ?_
  refine am_ist1 dX10_leavesSome_1 (Nat.le_of_ble_eq_true rfl) (am_c1r _) ?_
  refine mm_iconst dX10_leavesSome_2 ?_
  refine am_ist2 dX10_leavesSome_3 (Nat.le_of_ble_eq_true rfl) (am_c1i _) ?_
  exact l_lvs hm hv hr 6 0 0 (by omega) (by omega) (Or.inr ⟨rfl, fun z => by obtain ⟨m, h1, -⟩ := z; exact absurd h1 (Nat.not_lt_zero m)⟩)
set_option maxRecDepth 100000 in
set_option maxHeartbeats 4000000 in
theorem m_codeOf {sh : List mm_H} {S : mm_S} {L : mm_L} (hm : mdS sh) {c : Nat} {t : Int} (hc : c < 40) (ht : 1 ≤ t ∧ t ≤ 6) : am_E eX10_codeOf [.ref 181, .int (iI (c : Int)), .int (iI t)] (mm sh S L) (fun r M' => r = some (.int (iI (cdM S c t))) ∧ M' = mm sh S L) := by
  refine am_enter rfl rfl (Nat.le_of_ble_eq_true rfl) ?_
  refine am_iload_n rfl dX10_codeOf_0 ?_
  refine mm_iconst dX10_codeOf_1 ?_
  refine mm_jne (tgt := 22) dX10_codeOf_2 (by decide) (by omega) (by omega) (fun h2 => ?_) (fun h2 => ?_)
  · refine am_aload_n rfl dX10_codeOf_22 ?_
    refine mm_getR dX10_codeOf_23 fl_X10_66 (md_0 hm) mdf_21 ?_
    refine am_iload_n rfl dX10_codeOf_26 ?_
    refine mm_iconst dX10_codeOf_27 ?_
    refine mm_isub dX10_codeOf_28 ?_
    refine mm_ial dX10_codeOf_29 (md_own hm) (by omega) ?_
    refine am_ireturn dX10_codeOf_30 rfl rfl ?_
    first | exact ⟨by rw [cdM, if_pos (by omega)], rfl⟩ | exact ⟨by rw [cdM, if_neg (by omega)], rfl⟩
  · refine mm_bipush dX10_codeOf_5 (by decide) ?_
    refine am_aload_n rfl dX10_codeOf_7 ?_
    refine mm_getR dX10_codeOf_8 fl_X10_84 (md_0 hm) mdf_30 ?_
    refine am_iload_n rfl dX10_codeOf_11 ?_
    refine mm_ial dX10_codeOf_12 (md_caseKind hm) (by omega) ?_
    rw [Int.toNat_natCast]
    refine mm_imul dX10_codeOf_13 ?_
    refine am_aload_n rfl dX10_codeOf_14 ?_
    refine mm_getI dX10_codeOf_15 fl_X10_222 (md_0 hm) mdf_22 ?_
    refine mm_iadd dX10_codeOf_18 ?_
    refine am_goto (tgt := 30) dX10_codeOf_19 (by decide) ?_
    refine am_ireturn dX10_codeOf_30 rfl rfl ?_
    first | exact ⟨by rw [cdM, if_pos (by omega)], rfl⟩ | exact ⟨by rw [cdM, if_neg (by omega)], rfl⟩
set_option maxRecDepth 100000 in
set_option maxHeartbeats 4000000 in
theorem m_turns {sh : List mm_H} {S : mm_S} {L : mm_L} (hm : mdS sh) {t st : Int} (ht : 1 ≤ t ∧ t ≤ 6) (ho : t ≠ 1 → 0 ≤ S 199 (t - 2).toNat ∧ S 199 (t - 2).toNat < 42) : am_E eX10_turns [.ref 181, .int (iI t), .int (iI st)] (mm sh S L) (fun r M' => r = none ∧ M' = mm sh (tnS S t st) L) := by
  refine am_enter rfl rfl (Nat.le_of_ble_eq_true rfl) ?_
  refine am_iload_n rfl dX10_turns_0 ?_
  refine mm_iconst dX10_turns_1 ?_
  refine mm_jne (tgt := 13) dX10_turns_2 (by decide) (by omega) (by omega) (fun h2 => ?_) (fun h2 => ?_)
  · refine am_aload_n rfl dX10_turns_13 ?_
    refine mm_getR dX10_turns_14 fl_X10_66 (md_0 hm) mdf_21 ?_
    refine am_iload_n rfl dX10_turns_17 ?_
    refine mm_iconst dX10_turns_18 ?_
    refine mm_isub dX10_turns_19 ?_
    refine am_aload_n rfl dX10_turns_20 ?_
    refine mm_getR dX10_turns_21 fl_X10_66 (md_0 hm) mdf_21 ?_
    refine am_iload_n rfl dX10_turns_24 ?_
    refine mm_iconst dX10_turns_25 ?_
    refine mm_isub dX10_turns_26 ?_
    have g1 := ho (by omega)
    refine mm_ial dX10_turns_27 (md_own hm) (by omega) ?_
    refine mm_bipush dX10_turns_28 (by decide) ?_
    refine mm_idiv dX10_turns_30 (by omega) (by omega) ?_
    refine mm_bipush dX10_turns_31 (by decide) ?_
    refine mm_imul dX10_turns_33 ?_
    refine am_iload_n rfl dX10_turns_34 ?_
    refine mm_iadd dX10_turns_35 ?_
    refine mm_ias dX10_turns_36 (md_own hm) (by omega) ?_
    refine am_return dX10_turns_37 rfl ?_
    first | exact ⟨rfl, by rw [tnS, if_pos (by omega)]⟩ | exact ⟨rfl, by rw [tnS, if_neg (by omega)]⟩
  · refine am_aload_n rfl dX10_turns_5 ?_
    refine am_iload_n rfl dX10_turns_6 ?_
    refine mm_putI dX10_turns_7 fp_X10_222 (md_0 hm) mdf_22 ?_
    refine am_goto (tgt := 37) dX10_turns_10 (by decide) ?_
    refine am_return dX10_turns_37 rfl ?_
    first | exact ⟨rfl, by rw [tnS, if_pos (by omega)]⟩ | exact ⟨rfl, by rw [tnS, if_neg (by omega)]⟩
set_option maxRecDepth 100000 in
set_option maxHeartbeats 4000000 in
theorem m_against {sh : List mm_H} {S : mm_S} {L : mm_L} (hm : mdS sh) {c : Nat} {t : Int} (hc : c < 40) (ht : 0 ≤ t ∧ t ≤ 6) (hg : t ≠ 0 → 0 ≤ cdM S c t ∧ cdM S c t < 64) : am_E eX10_against [.ref 181, .int (iI (c : Int)), .int (iI t)] (mm sh S L) (fun r M' => r = some (.int (iI (agM S c t))) ∧ M' = mm sh S L) := by
  refine am_enter rfl rfl (Nat.le_of_ble_eq_true rfl) ?_
  refine am_iload_n rfl dX10_against_0 ?_
  refine mm_zne (tgt := 8) dX10_against_1 (by decide) (by omega) (fun h1 => ?_) (fun h1 => ?_)
  · refine am_aload_n rfl dX10_against_8 ?_
    refine am_iload_n rfl dX10_against_9 ?_
    refine am_iload_n rfl dX10_against_10 ?_
    refine am_ci (mm_V2 dX10_against_11 in_X10_codeOf mk_X10_274 im_X10_codeOf sl_X10_codeOf ⟨Nat.le_of_ble_eq_true rfl, Nat.le_of_ble_eq_true rfl⟩ rfl (md_0 hm) (Nat.le_of_ble_eq_true rfl)) (m_codeOf hm hc (by omega)) ?_
    have g1 := hg (by omega)
    obtain ⟨z, hz⟩ : ∃ z, cdM S c t = z := ⟨_, rfl⟩
    rw [hz] at g1 ⊢
    refine mm_bipush dX10_against_14 (by decide) ?_
    refine mm_irem dX10_against_16 (by omega) (by omega) ?_
    refine mm_bipush dX10_against_17 (by decide) ?_
    refine mm_jne (tgt := 26) dX10_against_19 (by decide) (by omega) (by omega) (fun h19 => ?_) (fun h19 => ?_)
    · refine mm_iconst dX10_against_26 ?_
      refine am_ireturn dX10_against_27 rfl rfl ?_
      first | exact ⟨by rw [agM, if_pos (by omega)], rfl⟩ | exact ⟨by rw [agM, if_neg (by omega), hz, if_pos (by omega)], rfl⟩ | exact ⟨by rw [agM, if_neg (by omega), hz, if_neg (by omega)], rfl⟩
    · refine mm_iconst dX10_against_22 ?_
      refine am_goto (tgt := 27) dX10_against_23 (by decide) ?_
      refine am_ireturn dX10_against_27 rfl rfl ?_
      first | exact ⟨by rw [agM, if_pos (by omega)], rfl⟩ | exact ⟨by rw [agM, if_neg (by omega), hz, if_pos (by omega)], rfl⟩ | exact ⟨by rw [agM, if_neg (by omega), hz, if_neg (by omega)], rfl⟩
  · refine mm_iconst dX10_against_4 ?_
    refine am_goto (tgt := 27) dX10_against_5 (by decide) ?_
    refine am_ireturn dX10_against_27 rfl rfl ?_
    first | exact ⟨by rw [agM, if_pos (by omega)], rfl⟩ | exact ⟨by rw [agM, if_neg (by omega), hz, if_pos (by omega)], rfl⟩ | exact ⟨by rw [agM, if_neg (by omega), hz, if_neg (by omega)], rfl⟩
theorem frF_at (nm : Nat → Int) : ∀ (n : Nat) (j t : Int), (∀ u, j ≤ u → u < t → ∃ v : Nat, v < 5 ∧ nm v = u) → (∀ v : Nat, v < 5 → nm v ≠ t) → j ≤ t → t < j + n → frF nm n j = t
  | 0, j, t, _, _, h1, h2 => by omega
  | n + 1, j, t, h1, h2, h3, h4 => by
    simp only [frF]
    by_cases e : j = t
    · subst e; rw [if_pos h2]
    · rw [if_neg, frF_at nm n (j + 1) t (fun u a b => h1 u (by omega) b) h2 (by omega) (by omega)]
      intro h
      obtain ⟨v, hv, e2⟩ := h1 j (by omega) (by omega)
      exact h v hv e2
theorem fr_not {nm : Nat → Int} {a : Nat} (ha : a < 5) (h0 : nm a = 0) (h : ∀ u : Int, 2 ≤ u → u ≤ 6 → ∃ v : Nat, v < 5 ∧ nm v = u) : False := by
  have hc : ∀ i : Nat, ∃ v : Nat, i < 5 → v < 5 ∧ nm v = (i : Int) + 2 := fun i => by
    by_cases hi : i < 5
    · obtain ⟨v, h1, h2⟩ := h ((i : Int) + 2) (by omega) (by omega)
      exact ⟨v, fun _ => ⟨h1, h2⟩⟩
    · exact ⟨0, fun z => absurd z hi⟩
  obtain ⟨g, hg⟩ := Classical.axiomOfChoice hc
  have := inj_le 6 5 (fun i => if i < 5 then g i else a) (fun i hi => by
    show (if i < 5 then g i else a) < 5
    split
    · rename_i h5; exact (hg i h5).1
    · exact ha) (fun i j hi hj e => by
    have e : (if i < 5 then g i else a) = (if j < 5 then g j else a) := e
    by_cases h1 : i < 5 <;> by_cases h2 : j < 5
    · rw [if_pos h1, if_pos h2] at e
      have a1 := (hg i h1).2
      have a2 := (hg j h2).2
      rw [e] at a1
      omega
    · rw [if_pos h1, if_neg h2] at e
      have a1 := (hg i h1).2
      rw [e] at a1
      omega
    · rw [if_neg h1, if_pos h2] at e
      have a1 := (hg j h2).2
      rw [← e] at a1
      omega
    · omega)
  omega
set_option maxRecDepth 100000 in
set_option maxHeartbeats 4000000 in
theorem l_ftI {sh : List mm_H} {S : mm_S} {L : mm_L} (hm : mdS sh) (hV : ∀ k, k < 5 → 0 ≤ S 198 k ∧ S 198 k ≤ 6) {t : Int} (ht : 2 ≤ t ∧ t ≤ 6) {Q : Option Value → am_M → Prop} (kk : ∀ y, tells y (∃ u : Nat, u < 5 ∧ S 198 u = t) → am_AW eX10_freeThing (mm sh S L) 43 [some (.ref 181), some (.int (iI t)), some (.int (iI y)), some (.int (iI ((5 : Nat) : Int)))] [] Q) : ∀ (q : Nat) (v : Nat) (x : Int), 5 - v < q → (v ≤ 5) → (tells x (∃ u : Nat, u < v ∧ S 198 u = t)) → am_AW eX10_freeThing (mm sh S L) 12 [some (.ref 181), some (.int (iI t)), some (.int (iI x)), some (.int (iI (v : Int)))] [] Q := by
  intro q
  induction q with
  | zero =>
    intro v x hq
    exact absurd hq (Nat.not_lt_zero _)
  | succ q ih =>
    intro v x hq hv hx
    refine am_iload_n rfl dX10_freeThing_12 ?_
    refine mm_iconst dX10_freeThing_13 ?_
    refine mm_jge (tgt := 43) dX10_freeThing_14 (by decide) (by omega) (by omega) (fun h14 => ?_) (fun h14 => ?_)
    · have h5 : v = 5 := by omega
      subst h5
      exact kk x hx
    · refine am_iload_n rfl dX10_freeThing_17 ?_
      have hx01 := tells_01 hx
      refine mm_zne (tgt := 31) dX10_freeThing_18 (by decide) (by omega) (fun h18 => ?_) (fun h18 => ?_)
      · refine mm_iconst dX10_freeThing_31 ?_
        refine am_goto (tgt := 36) dX10_freeThing_32 (by decide) ?_
        refine am_ist2 dX10_freeThing_36 (Nat.le_of_ble_eq_true rfl) (am_c1i _) ?_
        refine mm_inc3 dX10_freeThing_37 (Nat.le_of_ble_eq_true rfl) (am_c1i _) ?_
        refine am_goto (tgt := 12) dX10_freeThing_40 (by decide) ?_
        refine ih (v + 1) _ (by omega) (by omega) (tells_iff (p := (∃ u : Nat, u < v ∧ S 198 u = t) ∨ S 198 v = t) ?_ ex_s.symm)
        first
          | exact Or.inl ⟨rfl, Or.inl (tells_t hx (by omega))⟩
          | exact Or.inl ⟨rfl, Or.inr (by omega)⟩
          | exact Or.inr ⟨rfl, fun z => z.elim (tells_f hx (by omega)) (fun y => by omega)⟩
      · refine am_aload_n rfl dX10_freeThing_21 ?_
        refine mm_getR dX10_freeThing_22 fl_X10_63 (md_0 hm) mdf_20 ?_
        refine am_iload_n rfl dX10_freeThing_25 ?_
        refine mm_ial dX10_freeThing_26 (md_var hm) (by omega) ?_
        rw [Int.toNat_natCast]
        refine am_iload_n rfl dX10_freeThing_27 ?_
        have g1 := hV v (by omega)
        refine mm_jne (tgt := 35) dX10_freeThing_28 (by decide) (by omega) (by omega) (fun h28 => ?_) (fun h28 => ?_)
        · refine mm_iconst dX10_freeThing_35 ?_
          refine am_ist2 dX10_freeThing_36 (Nat.le_of_ble_eq_true rfl) (am_c1i _) ?_
          refine mm_inc3 dX10_freeThing_37 (Nat.le_of_ble_eq_true rfl) (am_c1i _) ?_
          refine am_goto (tgt := 12) dX10_freeThing_40 (by decide) ?_
          refine ih (v + 1) _ (by omega) (by omega) (tells_iff (p := (∃ u : Nat, u < v ∧ S 198 u = t) ∨ S 198 v = t) ?_ ex_s.symm)
          first
            | exact Or.inl ⟨rfl, Or.inl (tells_t hx (by omega))⟩
            | exact Or.inl ⟨rfl, Or.inr (by omega)⟩
            | exact Or.inr ⟨rfl, fun z => z.elim (tells_f hx (by omega)) (fun y => by omega)⟩
        · refine mm_iconst dX10_freeThing_31 ?_
          refine am_goto (tgt := 36) dX10_freeThing_32 (by decide) ?_
          refine am_ist2 dX10_freeThing_36 (Nat.le_of_ble_eq_true rfl) (am_c1i _) ?_
          refine mm_inc3 dX10_freeThing_37 (Nat.le_of_ble_eq_true rfl) (am_c1i _) ?_
          refine am_goto (tgt := 12) dX10_freeThing_40 (by decide) ?_
          refine ih (v + 1) _ (by omega) (by omega) (tells_iff (p := (∃ u : Nat, u < v ∧ S 198 u = t) ∨ S 198 v = t) ?_ ex_s.symm)
          first
            | exact Or.inl ⟨rfl, Or.inl (tells_t hx (by omega))⟩
            | exact Or.inl ⟨rfl, Or.inr (by omega)⟩
            | exact Or.inr ⟨rfl, fun z => z.elim (tells_f hx (by omega)) (fun y => by omega)⟩
set_option maxRecDepth 100000 in
set_option maxHeartbeats 4000000 in
theorem l_ftO {sh : List mm_H} {S : mm_S} {L : mm_L} (hm : mdS sh) (hV : ∀ k, k < 5 → 0 ≤ S 198 k ∧ S 198 k ≤ 6) {a : Nat} (ha : a < 5) (h0 : S 198 a = 0) : ∀ (q : Nat) (t : Int), (7 - t).toNat < q → (2 ≤ t ∧ t ≤ 6) → (∀ u, 2 ≤ u → u < t → ∃ v : Nat, v < 5 ∧ S 198 v = u) → am_AW eX10_freeThing (mm sh S L) 8 [some (.ref 181), some (.int (iI t)), none, none] [] (fun r M' => r = some (.int (iI (frF (S 198) 5 2))) ∧ M' = mm sh S L) := by
  intro q
  induction q with
  | zero =>
    intro t hq
    exact absurd hq (Nat.not_lt_zero _)
  | succ q ih =>
    intro t hq ht hu
    refine mm_iconst dX10_freeThing_8 ?_
    refine am_ist2 dX10_freeThing_9 (Nat.le_of_ble_eq_true rfl) (am_c1i _) ?_
    refine mm_iconst dX10_freeThing_10 ?_
    refine am_ist3 dX10_freeThing_11 (Nat.le_of_ble_eq_true rfl) (am_c1i _) ?_
    refine l_ftI hm hV ht (fun y hy => ?_) 6 0 0 (by omega) (by omega) (Or.inr ⟨rfl, fun z => by obtain ⟨m, h1, -⟩ := z; exact absurd h1 (Nat.not_lt_zero m)⟩)
    have hy01 := tells_01 hy
    refine am_iload_n rfl dX10_freeThing_43 ?_
    refine am_iload_n rfl dX10_freeThing_44 ?_
    refine mm_zeq (tgt := 52) dX10_freeThing_45 (by decide) (by omega) (fun h45 => ?_) (fun h45 => ?_)
    · refine mm_iconst dX10_freeThing_52 ?_
      refine mm_iadd dX10_freeThing_53 ?_
      refine am_ist1 dX10_freeThing_54 (Nat.le_of_ble_eq_true rfl) (am_c1r _) ?_
      refine am_goto (tgt := 4) dX10_freeThing_55 (by decide) ?_
      refine am_iload_n rfl dX10_freeThing_4 ?_
      refine mm_zeq (tgt := 58) dX10_freeThing_5 (by decide) (by omega) (fun h5 => ?_) (fun h5 => absurd h45 h5)
      refine am_iload_n rfl dX10_freeThing_58 ?_
      refine am_ireturn dX10_freeThing_59 rfl rfl ⟨?_, rfl⟩
      rw [frF_at (S 198) 5 2 t hu (fun v hv e => tells_f hy h45 ⟨v, hv, e⟩) (by omega) (by omega), Int.add_zero]
    · have hx := tells_t hy h45
      have ht6 : t ≠ 6 := fun e => by
        refine fr_not ha h0 (fun u h1 h2 => ?_)
        by_cases e2 : u = 6
        · rw [e2, ← e]; exact hx
        · exact hu u h1 (by omega)
      refine mm_iconst dX10_freeThing_48 ?_
      refine am_goto (tgt := 53) dX10_freeThing_49 (by decide) ?_
      refine mm_iadd dX10_freeThing_53 ?_
      refine am_ist1 dX10_freeThing_54 (Nat.le_of_ble_eq_true rfl) (am_c1r _) ?_
      refine am_goto (tgt := 4) dX10_freeThing_55 (by decide) ?_
      refine am_iload_n rfl dX10_freeThing_4 ?_
      refine mm_zeq (tgt := 58) dX10_freeThing_5 (by decide) (by omega) (fun h5 => absurd h5 h45) (fun h5 => ?_)
      refine am_AW.unset 2 (am_AW.unset 3 ?_)
      refine ih (t + 1) (by omega) (by omega) (fun u h1 h2 => ?_)
      by_cases e2 : u = t
      · rw [e2]; exact hx
      · exact hu u h1 (by omega)
set_option maxRecDepth 100000 in
set_option maxHeartbeats 4000000 in
theorem m_freeThing {sh : List mm_H} {S : mm_S} {L : mm_L} (hm : mdS sh) (hV : ∀ k, k < 5 → 0 ≤ S 198 k ∧ S 198 k ≤ 6) {a : Nat} (ha : a < 5) (h0 : S 198 a = 0) : am_E eX10_freeThing [.ref 181] (mm sh S L) (fun r M' => r = some (.int (iI (frF (S 198) 5 2))) ∧ M' = mm sh S L) := by
  refine am_enter rfl rfl (Nat.le_of_ble_eq_true rfl) ?_
  refine mm_iconst dX10_freeThing_0 ?_
  refine am_ist1 dX10_freeThing_1 (Nat.le_of_ble_eq_true rfl) (am_c1r _) ?_
  refine mm_iconst dX10_freeThing_2 ?_
  refine am_ist2 dX10_freeThing_3 (Nat.le_of_ble_eq_true rfl) (am_c1i _) ?_
  refine am_iload_n rfl dX10_freeThing_4 ?_
  refine mm_zeq (tgt := 58) dX10_freeThing_5 (by decide) (by omega) (fun h5 => ?_) (fun h5 => ?_)
  · exfalso; omega
  · exact am_AW.unset 2 (l_ftO hm hV ha h0 6 2 (by omega) (by omega) (fun u h1 h2 => by omega))
def bnM (S : mm_S) (r : Nat) (i : Nat) : Int := if midO (mSo S r) (mN S r) i ≠ -1 then midO (mSo S r) (mN S r) i + 1 else endO (mSo S r) (mN S r) i + 1
set_option maxRecDepth 100000 in
set_option maxHeartbeats 4000000 in
theorem m_behindNo {sh : List mm_H} {S : mm_S} {L : mm_L} (hm : mdS sh) {r : Nat} (hr : r < 6) (hn : S 189 r ≤ 24) (hw : mrW S r) {i : Nat} (hi : i < mN S r) (hop : opn (mSo S r i)) : am_E eX10_behindNo [.ref 181, .int (iI (r : Int)), .int (iI (i : Int))] (mm sh S L) (fun r0 M' => r0 = some (.int (iI (bnM S r i))) ∧ M' = mm sh S L) := by
  have hmn : mN S r ≤ 24 := by unfold mN; omega
  have gm : S 194 (25 * r + i) = midO (mSo S r) (mN S r) i ∧ S 195 (25 * r + i) = endO (mSo S r) (mN S r) i := wk_mid hw i hi hop
  have gm2 := midO_lt (mSo S r) (mN S r) i
  have gm3 := endO_lt (mSo S r) (mN S r) i
  refine am_enter rfl rfl (Nat.le_of_ble_eq_true rfl) ?_
  refine mm_bipush dX10_behindNo_0 (by decide) ?_
  refine am_iload_n rfl dX10_behindNo_2 ?_
  refine mm_imul dX10_behindNo_3 ?_
  refine am_iload_n rfl dX10_behindNo_4 ?_
  refine mm_iadd dX10_behindNo_5 ?_
  rw [show (25 * (r : Int) + (i : Int)) = ((25 * r + i : Nat) : Int) by omega]
  refine am_ist3 dX10_behindNo_6 (Nat.le_of_ble_eq_true rfl) (am_c1i _) ?_
  refine am_aload_n rfl dX10_behindNo_7 ?_
  refine mm_getR dX10_behindNo_8 fl_X10_51 (md_0 hm) mdf_15 ?_
  refine am_iload_n rfl dX10_behindNo_11 ?_
  refine mm_ial dX10_behindNo_12 (md_midAt hm) (by omega) ?_
  rw [Int.toNat_natCast, gm.1]
  refine mm_iconst dX10_behindNo_13 ?_
  refine mm_jeq (tgt := 28) dX10_behindNo_14 (by decide) (by omega) (by omega) (fun h14 => ?_) (fun h14 => ?_)
  · refine am_aload_n rfl dX10_behindNo_28 ?_
    refine mm_getR dX10_behindNo_29 fl_X10_54 (md_0 hm) mdf_16 ?_
    refine am_iload_n rfl dX10_behindNo_32 ?_
    refine mm_ial dX10_behindNo_33 (md_endAt hm) (by omega) ?_
    rw [Int.toNat_natCast, gm.2]
    refine mm_iconst dX10_behindNo_34 ?_
    refine mm_iadd dX10_behindNo_35 ?_
    refine am_ireturn dX10_behindNo_36 rfl rfl ?_
    first | exact ⟨by rw [bnM, if_pos (by omega)], rfl⟩ | exact ⟨by rw [bnM, if_neg (by omega)], rfl⟩
  · refine am_aload_n rfl dX10_behindNo_17 ?_
    refine mm_getR dX10_behindNo_18 fl_X10_51 (md_0 hm) mdf_15 ?_
    refine am_iload_n rfl dX10_behindNo_21 ?_
    refine mm_ial dX10_behindNo_22 (md_midAt hm) (by omega) ?_
    rw [Int.toNat_natCast, gm.1]
    refine mm_iconst dX10_behindNo_23 ?_
    refine mm_iadd dX10_behindNo_24 ?_
    refine am_goto (tgt := 36) dX10_behindNo_25 (by decide) ?_
    refine am_ireturn dX10_behindNo_36 rfl rfl ?_
    first | exact ⟨by rw [bnM, if_pos (by omega)], rfl⟩ | exact ⟨by rw [bnM, if_neg (by omega)], rfl⟩
/-- which CASE this is; -1: none -/
def caF (S : mm_S) (so r k st : Int) : Nat → Nat → Int
  | 0, _ => -1
  | n + 1, c => if S 203 c = so ∧ S 204 c = r ∧ S 205 c = k ∧ S 206 c = st then (c : Int) else caF S so r k st n (c + 1)
abbrev caM (S : mm_S) (so r k st : Int) : Int := caF S so r k st (S 181 27).toNat 0
/-- what CASES there are -/
def csR (S : mm_S) : Prop := (0 ≤ S 181 27 ∧ S 181 27 ≤ 40) ∧ ∀ c : Nat, (c : Int) < S 181 27 → (0 ≤ S 203 c ∧ S 203 c ≤ 2) ∧ (0 ≤ S 204 c ∧ S 204 c < 6) ∧ (0 ≤ S 205 c ∧ S 205 c < 6) ∧ (0 ≤ S 206 c ∧ S 206 c < 6)
set_option maxRecDepth 100000 in
set_option maxHeartbeats 4000000 in
theorem l_caO {sh : List mm_H} {S : mm_S} {L : mm_L} (hm : mdS sh) (hcs : csR S) {so r k st : Int} (h1 : 0 ≤ so ∧ so ≤ 2) (h2 : Rg r) (h3 : Rg k) (h4 : Rg st) : ∀ (q : Nat) (n : Nat) (c : Nat), n < q → ((c : Int) + n = S 181 27) → am_AW eX10_caseOf (mm sh S L) 3 [some (.ref 181), some (.int (iI so)), some (.int (iI r)), some (.int (iI k)), some (.int (iI st)), some (.int (iI (c : Int)))] [] (fun r0 M' => r0 = some (.int (iI (caF S so r k st n c))) ∧ M' = mm sh S L) := by
  intro q
  induction q with
  | zero =>
    intro n c hq
    exact absurd hq (Nat.not_lt_zero _)
  | succ q ih =>
    intro n c hq hn
    refine am_iload rfl dX10_caseOf_3 ?_
    refine am_aload_n rfl dX10_caseOf_5 ?_
    refine mm_getI dX10_caseOf_6 fl_X10_240 (md_0 hm) mdf_27 ?_
    have hc0 := hcs.1
    refine mm_jge (tgt := 66) dX10_caseOf_9 (by decide) (by omega) (by omega) (fun h9 => ?_) (fun h9 => ?_)
    · have h0 : n = 0 := by omega
      subst h0
      refine mm_iconst dX10_caseOf_66 ?_
      exact am_ireturn dX10_caseOf_67 rfl rfl ⟨rfl, rfl⟩
    · have hcc := hcs.2 c (by omega)
      obtain ⟨n, rfl⟩ : ∃ m, n = m + 1 := ⟨n - 1, by omega⟩
      refine am_aload_n rfl dX10_caseOf_12 ?_
      refine mm_getR dX10_caseOf_13 fl_X10_78 (md_0 hm) mdf_28 ?_
      refine am_iload rfl dX10_caseOf_16 ?_
      refine mm_ial dX10_caseOf_18 (md_caseSort hm) (by omega) ?_
      rw [Int.toNat_natCast]
      refine am_iload_n rfl dX10_caseOf_19 ?_
      refine mm_jne (tgt := 60) dX10_caseOf_20 (by decide) (by omega) (by omega) (fun h20 => ?_) (fun h20 => ?_)
      · refine mm_inc5 dX10_caseOf_60 (Nat.le_of_ble_eq_true rfl) (am_c1i _) ?_
        refine am_goto (tgt := 3) dX10_caseOf_63 (by decide) ?_
        rw [caF, if_neg (by omega)]
        exact ih n (c + 1) (by omega) (by omega)
      · refine am_aload_n rfl dX10_caseOf_23 ?_
        refine mm_getR dX10_caseOf_24 fl_X10_81 (md_0 hm) mdf_29 ?_
        refine am_iload rfl dX10_caseOf_27 ?_
        refine mm_ial dX10_caseOf_29 (md_caseRoutine hm) (by omega) ?_
        rw [Int.toNat_natCast]
        refine am_iload_n rfl dX10_caseOf_30 ?_
        refine mm_jne (tgt := 60) dX10_caseOf_31 (by decide) (by omega) (by omega) (fun h31 => ?_) (fun h31 => ?_)
        · refine mm_inc5 dX10_caseOf_60 (Nat.le_of_ble_eq_true rfl) (am_c1i _) ?_
          refine am_goto (tgt := 3) dX10_caseOf_63 (by decide) ?_
          rw [caF, if_neg (by omega)]
          exact ih n (c + 1) (by omega) (by omega)
        · refine am_aload_n rfl dX10_caseOf_34 ?_
          refine mm_getR dX10_caseOf_35 fl_X10_84 (md_0 hm) mdf_30 ?_
          refine am_iload rfl dX10_caseOf_38 ?_
          refine mm_ial dX10_caseOf_40 (md_caseKind hm) (by omega) ?_
          rw [Int.toNat_natCast]
          refine am_iload_n rfl dX10_caseOf_41 ?_
          refine mm_jne (tgt := 60) dX10_caseOf_42 (by decide) (by omega) (by omega) (fun h42 => ?_) (fun h42 => ?_)
          · refine mm_inc5 dX10_caseOf_60 (Nat.le_of_ble_eq_true rfl) (am_c1i _) ?_
            refine am_goto (tgt := 3) dX10_caseOf_63 (by decide) ?_
            rw [caF, if_neg (by omega)]
            exact ih n (c + 1) (by omega) (by omega)
          · refine am_aload_n rfl dX10_caseOf_45 ?_
            refine mm_getR dX10_caseOf_46 fl_X10_87 (md_0 hm) mdf_31 ?_
            refine am_iload rfl dX10_caseOf_49 ?_
            refine mm_ial dX10_caseOf_51 (md_caseState hm) (by omega) ?_
            rw [Int.toNat_natCast]
            refine am_iload rfl dX10_caseOf_52 ?_
            refine mm_jne (tgt := 60) dX10_caseOf_54 (by decide) (by omega) (by omega) (fun h54 => ?_) (fun h54 => ?_)
            · refine mm_inc5 dX10_caseOf_60 (Nat.le_of_ble_eq_true rfl) (am_c1i _) ?_
              refine am_goto (tgt := 3) dX10_caseOf_63 (by decide) ?_
              rw [caF, if_neg (by omega)]
              exact ih n (c + 1) (by omega) (by omega)
            · refine am_iload rfl dX10_caseOf_57 ?_
              refine am_ireturn dX10_caseOf_59 rfl rfl ?_
              exact ⟨by rw [caF, if_pos ⟨by omega, by omega, by omega, by omega⟩], rfl⟩
set_option maxRecDepth 100000 in
set_option maxHeartbeats 4000000 in
theorem m_caseOf {sh : List mm_H} {S : mm_S} {L : mm_L} (hm : mdS sh) (hcs : csR S) {so r k st : Int} (h1 : 0 ≤ so ∧ so ≤ 2) (h2 : Rg r) (h3 : Rg k) (h4 : Rg st) : am_E eX10_caseOf [.ref 181, .int (iI so), .int (iI r), .int (iI k), .int (iI st)] (mm sh S L) (fun r0 M' => r0 = some (.int (iI (caM S so r k st))) ∧ M' = mm sh S L) := by
  refine am_enter rfl rfl (Nat.le_of_ble_eq_true rfl) ?_
  refine mm_iconst dX10_caseOf_0 ?_
  refine am_ist5 dX10_caseOf_1 (Nat.le_of_ble_eq_true rfl) (am_c1i _) ?_
  exact l_caO hm hcs h1 h2 h3 h4 ((S 181 27).toNat + 1) (S 181 27).toNat 0 (by omega) (by have := hcs.1; omega)
