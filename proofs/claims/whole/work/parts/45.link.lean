/-- the innermost of these that is a TRY without its LAST, f telling the ELSE or LAST -/
def catF (s f : Nat → Int) : List Nat → Int
  | [] => -1
  | o :: l => if s o = 14 ∧ f o = -1 then (o : Int) else catF s f l
def kpT (s f : Nat → Int) (R : List Nat) (k : Nat) : Int := match R[k]? with
  | some o => if s o = 14 ∧ f o ≠ -1 then 3 * 4 ^ k else 0
  | none => 0
def kpS (s f : Nat → Int) (R : List Nat) : Nat → Int
  | 0 => 0
  | k + 1 => kpS s f R k + kpT s f R k
theorem kpT_R (s f : Nat → Int) (R : List Nat) (k : Nat) : kpT s f R k = 0 ∨ kpT s f R k = 3 * 4 ^ k := by
  unfold kpT
  split
  · split
    · exact Or.inr rfl
    · exact Or.inl rfl
  · exact Or.inl rfl
theorem kpS_R (s f : Nat → Int) (R : List Nat) : ∀ k, 0 ≤ kpS s f R k ∧ kpS s f R k < 4 ^ k
  | 0 => by simp [kpS]
  | k + 1 => by
    have := kpS_R s f R k
    have h2 := kpT_R s f R k
    have hp : (4 : Int) ^ (k + 1) = 4 * 4 ^ k := by rw [Int.pow_succ]; omega
    simp only [kpS]
    rw [hp]
    omega
theorem pow4_6 {k : Nat} (h : k ≤ 6) : (0 : Int) < 4 ^ k ∧ (4 : Int) ^ k ≤ 4096 := by
  have h2 := Nat.pow_le_pow_right (n := 4) (by decide) h
  refine ⟨Int.pow_pos (by decide), ?_⟩
  have e : ((4 : Int) ^ k) = ((4 ^ k : Nat) : Int) := by push_cast; rfl
  rw [e]
  omega
/-- what the open blocks are, in the ROUTINE's rows -/
def blS (S : mm_S) (a : Nat) (L : List Nat) (s f : Nat → Int) : Prop := S a 1 = (L.length : Int) ∧ L.length ≤ 6 ∧ (∀ j o : Nat, L.reverse[j]? = some o → S (a + 9) j = (o : Int)) ∧ ∀ o ∈ L, o < 24 ∧ S (a + 1) o = s o ∧ S (a + 8) o = f o ∧ Rg (s o) ∧ Rg (f o)
theorem rev_of {l1 : List Nat} {o : Nat} {l : List Nat} {j p : Nat} (h : l.reverse[j]? = some p) : (l1 ++ o :: l).reverse[j]? = some p := by
  have hl : j < l.reverse.length := (List.getElem?_eq_some_iff.mp h).1
  rw [List.reverse_append, List.reverse_cons, List.append_assoc, List.getElem?_append_left hl]
  exact h
set_option maxRecDepth 100000 in
set_option maxHeartbeats 4000000 in
theorem l_cat {sh : List mm_H} {S : mm_S} {L : mm_L} {a : Nat} {s f : Nat → Int} (hr : rtS sh a) : ∀ (q : Nat) (B : List Nat) (x : Int), B.length < q → (x = (B.length : Int) - 1) → (B.length ≤ 6) → (∀ j o : Nat, B.reverse[j]? = some o → S (a + 9) j = (o : Int)) → (∀ o ∈ B, o < 24 ∧ S (a + 1) o = s o ∧ S (a + 8) o = f o ∧ Rg (s o) ∧ Rg (f o)) → am_AW eX6_innermostCatcher (mm sh S L) 7 [some (.ref a), some (.int (iI x)), none] [] (fun r M' => r = some (.int (iI (catF s f B))) ∧ M' = mm sh S L) := by
  intro q
  induction q with
  | zero =>
    intro B x hq
    exact absurd hq (Nat.not_lt_zero _)
  | succ q ih =>
    intro B x hq hx h6 h9 hb
    obtain ⟨hr0, hr1, hr2, hr3, hr4, hr5, hr6, hr7, hr8, hr9⟩ := hr
    refine am_iload_n rfl dX6_innermostCatcher_7 ?_
    refine mm_zlt (tgt := 47) dX6_innermostCatcher_8 (by decide) (by omega) (fun h8 => ?_) (fun h8 => ?_)
    · have hB : B = [] := List.length_eq_zero_iff.mp (by omega)
      subst hB
      refine mm_iconst dX6_innermostCatcher_47 ?_
      exact am_ireturn dX6_innermostCatcher_48 rfl rfl ⟨rfl, rfl⟩
    · obtain ⟨o, B, rfl⟩ : ∃ o B2, B = o :: B2 := by
        cases B with
        | nil => simp at hx; omega
        | cons o B2 => exact ⟨o, B2, rfl⟩
      obtain ⟨k1, k2, k3, k4, k5⟩ := hb o List.mem_cons_self
      simp only [List.length_cons] at hx hq h6
      have hpo : S (a + 9) x.toNat = (o : Int) := h9 _ o (by rw [show x.toNat = B.length by omega]; exact rev_top)
      refine am_aload_n rfl dX6_innermostCatcher_11 ?_
      refine mm_getR dX6_innermostCatcher_12 fl_X6_43 hr0 rfl ?_
      refine am_iload_n rfl dX6_innermostCatcher_15 ?_
      refine mm_ial dX6_innermostCatcher_16 hr9 (by omega) ?_
      rw [hpo]
      refine am_ist2 dX6_innermostCatcher_17 (Nat.le_of_ble_eq_true rfl) (am_c1i _) ?_
      refine am_aload_n rfl dX6_innermostCatcher_18 ?_
      refine mm_getR dX6_innermostCatcher_19 fl_X6_18 hr0 rfl ?_
      refine am_iload_n rfl dX6_innermostCatcher_22 ?_
      refine mm_ial dX6_innermostCatcher_23 hr1 (by omega) ?_
      rw [Int.toNat_natCast, k2]
      refine mm_bipush dX6_innermostCatcher_24 (by decide) ?_
      refine mm_jne (tgt := 41) dX6_innermostCatcher_26 (by decide) (by omega) (by omega) (fun h26 => ?_) (fun h26 => ?_)
      · refine mm_inc1 dX6_innermostCatcher_41 (Nat.le_of_ble_eq_true rfl) (am_c1r _) ?_
        refine am_goto (tgt := 7) dX6_innermostCatcher_44 (by decide) ?_
        refine am_AW.unset 2 (am_AW.mono (ih B (x + -1) (by omega) (by omega) (by omega) (fun j p h => h9 j p (rev_low h)) (fun p hp => hb p (List.mem_cons_of_mem _ hp))) (fun r M2 h => ?_))
        rw [catF, if_neg (by omega)]
        exact h
      · refine am_aload_n rfl dX6_innermostCatcher_29 ?_
        refine mm_getR dX6_innermostCatcher_30 fl_X6_40 hr0 rfl ?_
        refine am_iload_n rfl dX6_innermostCatcher_33 ?_
        refine mm_ial dX6_innermostCatcher_34 hr8 (by omega) ?_
        rw [Int.toNat_natCast, k3]
        refine mm_iconst dX6_innermostCatcher_35 ?_
        refine mm_jne (tgt := 41) dX6_innermostCatcher_36 (by decide) (by omega) (by omega) (fun h36 => ?_) (fun h36 => ?_)
        · refine mm_inc1 dX6_innermostCatcher_41 (Nat.le_of_ble_eq_true rfl) (am_c1r _) ?_
          refine am_goto (tgt := 7) dX6_innermostCatcher_44 (by decide) ?_
          refine am_AW.unset 2 (am_AW.mono (ih B (x + -1) (by omega) (by omega) (by omega) (fun j p h => h9 j p (rev_low h)) (fun p hp => hb p (List.mem_cons_of_mem _ hp))) (fun r M2 h => ?_))
          rw [catF, if_neg (by omega)]
          exact h
        · refine am_iload_n rfl dX6_innermostCatcher_39 ?_
          refine am_ireturn dX6_innermostCatcher_40 rfl rfl ?_
          exact ⟨by rw [catF, if_pos ⟨by omega, by omega⟩], rfl⟩
set_option maxRecDepth 100000 in
set_option maxHeartbeats 4000000 in
theorem c_catcher {sh : List mm_H} {S : mm_S} {L : mm_L} {a : Nat} {s f : Nat → Int} (hr : rtS sh a) {B : List Nat} (h : blS S a B s f) : am_E eX6_innermostCatcher [.ref a] (mm sh S L) (fun r M' => r = some (.int (iI (catF s f B))) ∧ M' = mm sh S L) := by
  obtain ⟨hr0, hr1, hr2, hr3, hr4, hr5, hr6, hr7, hr8, hr9⟩ := hr
  obtain ⟨h1, h2, h3, h4⟩ := h
  refine am_enter rfl rfl (Nat.le_of_ble_eq_true rfl) ?_
  refine am_aload_n rfl dX6_innermostCatcher_0 ?_
  refine mm_getI dX6_innermostCatcher_1 fl_X6_15 hr0 rfl ?_
  rw [h1]
  refine mm_iconst dX6_innermostCatcher_4 ?_
  refine mm_isub dX6_innermostCatcher_5 ?_
  refine am_ist1 dX6_innermostCatcher_6 (Nat.le_of_ble_eq_true rfl) (am_c1r _) ?_
  exact l_cat ⟨hr0, hr1, hr2, hr3, hr4, hr5, hr6, hr7, hr8, hr9⟩ (B.length + 1) B _ (by omega) rfl h2 h3 h4
theorem or_kp {x : Int} {k : Nat} (hx : 0 ≤ x ∧ x < 4 ^ k) : ((x.toNat ||| (3 * 2 ^ (2 * (k : Int)).toNat : Int).toNat : Nat) : Int) = x + 3 * 4 ^ k := by
  have e1 : (2 * (k : Int)).toNat = 2 * k := by omega
  have e4 : (4 : Nat) ^ k = 2 ^ (2 * k) := by rw [Nat.pow_mul]
  have e2 : (3 * 2 ^ (2 * (k : Int)).toNat : Int) = ((3 * 2 ^ (2 * k) : Nat) : Int) := by rw [e1]; push_cast; rfl
  have e3 : ((4 : Int) ^ k) = ((4 ^ k : Nat) : Int) := by push_cast; rfl
  rw [e2, Int.toNat_natCast, Nat.or_comm, Nat.mul_comm 3, ← Nat.two_pow_add_eq_or_of_lt (b := x.toNat) (by rw [e3] at hx; rw [← e4]; omega) 3, e3, e4]
  push_cast
  omega
set_option maxRecDepth 100000 in
set_option maxHeartbeats 4000000 in
theorem l_kp {sh : List mm_H} {S : mm_S} {L : mm_L} {a : Nat} {s f : Nat → Int} (hr : rtS sh a) {B : List Nat} (h : blS S a B s f) : ∀ (q : Nat) (k : Nat), B.length - k < q → (k ≤ B.length) → am_AW eX6_modesKnown (mm sh S L) 4 [some (.ref a), some (.int (iI (kpS s f B.reverse k))), some (.int (iI (k : Int))), none] [] (fun r M' => r = some (.int (iI (kpS s f B.reverse B.length))) ∧ M' = mm sh S L) := by
  intro q
  induction q with
  | zero =>
    intro k hq
    exact absurd hq (Nat.not_lt_zero _)
  | succ q ih =>
    intro k hq hk
    obtain ⟨hr0, hr1, hr2, hr3, hr4, hr5, hr6, hr7, hr8, hr9⟩ := hr
    obtain ⟨h1, h2, h3, h4⟩ := id h
    refine am_iload_n rfl dX6_modesKnown_4 ?_
    refine am_aload_n rfl dX6_modesKnown_5 ?_
    refine mm_getI dX6_modesKnown_6 fl_X6_15 hr0 rfl ?_
    rw [h1]
    refine mm_jge (tgt := 54) dX6_modesKnown_9 (by decide) (by omega) (by omega) (fun h9 => ?_) (fun h9 => ?_)
    · have : k = B.length := by omega
      subst this
      refine am_iload_n rfl dX6_modesKnown_54 ?_
      exact am_ireturn dX6_modesKnown_55 rfl rfl ⟨rfl, rfl⟩
    · obtain ⟨o, ho⟩ : ∃ o, B.reverse[k]? = some o := ⟨_, List.getElem?_eq_getElem (by simp; omega)⟩
      obtain ⟨k1, k2, k3, k4, k5⟩ := h4 o (List.mem_reverse.mp (List.mem_of_getElem? ho))
      have hb1 := kpS_R s f B.reverse k
      have hb2 := pow4_6 (k := k) (by omega)
      have hpo : S (a + 9) ((k : Int)).toNat = (o : Int) := h3 k o ho
      have e4 : (2 : Int) ^ (2 * (k : Int)).toNat = 4 ^ k := by rw [show (2 * (k : Int)).toNat = 2 * k by omega, Int.pow_mul]; rfl
      refine am_aload_n rfl dX6_modesKnown_12 ?_
      refine mm_getR dX6_modesKnown_13 fl_X6_43 hr0 rfl ?_
      refine am_iload_n rfl dX6_modesKnown_16 ?_
      refine mm_ial dX6_modesKnown_17 hr9 (by omega) ?_
      rw [hpo]
      refine am_ist3 dX6_modesKnown_18 (Nat.le_of_ble_eq_true rfl) (am_c1i _) ?_
      refine am_aload_n rfl dX6_modesKnown_19 ?_
      refine mm_getR dX6_modesKnown_20 fl_X6_18 hr0 rfl ?_
      refine am_iload_n rfl dX6_modesKnown_23 ?_
      refine mm_ial dX6_modesKnown_24 hr1 (by omega) ?_
      rw [Int.toNat_natCast, k2]
      refine mm_bipush dX6_modesKnown_25 (by decide) ?_
      refine mm_jne (tgt := 48) dX6_modesKnown_27 (by decide) (by omega) (by omega) (fun h27 => ?_) (fun h27 => ?_)
      · refine mm_inc2 dX6_modesKnown_48 (Nat.le_of_ble_eq_true rfl) (am_c1i _) ?_
        refine am_goto (tgt := 4) dX6_modesKnown_51 (by decide) ?_
        refine am_AW.unset 3 ?_
        have h9 := ih (k + 1) (by omega) (by omega)
        rw [kpS, kpT, ho] at h9
        first
          | (simp only [if_pos (show s o = 14 ∧ f o ≠ -1 from ⟨by omega, by omega⟩)] at h9; exact h9)
          | (simp only [if_neg (show ¬ (s o = 14 ∧ f o ≠ -1) by omega), Int.add_zero] at h9; exact h9)
      · refine am_aload_n rfl dX6_modesKnown_30 ?_
        refine mm_getR dX6_modesKnown_31 fl_X6_40 hr0 rfl ?_
        refine am_iload_n rfl dX6_modesKnown_34 ?_
        refine mm_ial dX6_modesKnown_35 hr8 (by omega) ?_
        rw [Int.toNat_natCast, k3]
        refine mm_iconst dX6_modesKnown_36 ?_
        refine mm_jeq (tgt := 48) dX6_modesKnown_37 (by decide) (by omega) (by omega) (fun h37 => ?_) (fun h37 => ?_)
        · refine mm_inc2 dX6_modesKnown_48 (Nat.le_of_ble_eq_true rfl) (am_c1i _) ?_
          refine am_goto (tgt := 4) dX6_modesKnown_51 (by decide) ?_
          refine am_AW.unset 3 ?_
          have h9 := ih (k + 1) (by omega) (by omega)
          rw [kpS, kpT, ho] at h9
          first
            | (simp only [if_pos (show s o = 14 ∧ f o ≠ -1 from ⟨by omega, by omega⟩)] at h9; exact h9)
            | (simp only [if_neg (show ¬ (s o = 14 ∧ f o ≠ -1) by omega), Int.add_zero] at h9; exact h9)
        · refine am_iload_n rfl dX6_modesKnown_40 ?_
          refine mm_iconst dX6_modesKnown_41 ?_
          refine mm_iconst dX6_modesKnown_42 ?_
          refine am_iload_n rfl dX6_modesKnown_43 ?_
          refine mm_imul dX6_modesKnown_44 ?_
          refine mm_ishl dX6_modesKnown_45 (by rw [e4]; omega) (by omega) ?_
          refine mm_ior dX6_modesKnown_46 (by omega) (by rw [e4]; omega) ?_
          rw [or_kp hb1]
          refine am_ist1 dX6_modesKnown_47 (Nat.le_of_ble_eq_true rfl) (am_c1r _) ?_
          refine mm_inc2 dX6_modesKnown_48 (Nat.le_of_ble_eq_true rfl) (am_c1i _) ?_
          refine am_goto (tgt := 4) dX6_modesKnown_51 (by decide) ?_
          refine am_AW.unset 3 ?_
          have h9 := ih (k + 1) (by omega) (by omega)
          rw [kpS, kpT, ho] at h9
          first
            | (simp only [if_pos (show s o = 14 ∧ f o ≠ -1 from ⟨by omega, by omega⟩)] at h9; exact h9)
            | (simp only [if_neg (show ¬ (s o = 14 ∧ f o ≠ -1) by omega), Int.add_zero] at h9; exact h9)
set_option maxRecDepth 100000 in
set_option maxHeartbeats 4000000 in
theorem c_modesKnown {sh : List mm_H} {S : mm_S} {L : mm_L} {a : Nat} {s f : Nat → Int} (hr : rtS sh a) {B : List Nat} (h : blS S a B s f) : am_E eX6_modesKnown [.ref a] (mm sh S L) (fun r M' => r = some (.int (iI (kpS s f B.reverse B.length))) ∧ M' = mm sh S L) := by
  refine am_enter rfl rfl (Nat.le_of_ble_eq_true rfl) ?_
  refine mm_iconst dX6_modesKnown_0 ?_
  refine am_ist1 dX6_modesKnown_1 (Nat.le_of_ble_eq_true rfl) (am_c1r _) ?_
  refine mm_iconst dX6_modesKnown_2 ?_
  refine am_ist2 dX6_modesKnown_3 (Nat.le_of_ble_eq_true rfl) (am_c1i _) ?_
  exact l_kp hr h (B.length + 1) 0 (by omega) (by omega)
