abbrev mpF (S : mm_S) (k p s t n : Nat) : Prop := mH S p t n ∧ (¬ mH S k s n ∨ (mA S k s n ∧ ¬ mA S p t n))
def mPar (S : mm_S) (k p s t : Nat) : Prop := (mE S p t ∧ ¬ mE S k s) ∨ ∃ n : Nat, n < 8 ∧ mpF S k p s t n
def mG (S : mm_S) (k p s t n y : Nat) : Nat := if y = 1 then (6 * mF S k s n True + mF S p t n True).toNat else (6 * mF S k s n False + mF S p t n False).toNat
noncomputable def mNx (S : mm_S) (k p : Nat) (q : Nat) : List Nat := nxtL (fun n => mH S p (q % 6 : Nat) n) (mG S k p (q / 6) (q % 6)) 8
theorem ex_s {p : Nat → Prop} {n : Nat} : (∃ m, m < n + 1 ∧ p m) ↔ (∃ m, m < n ∧ p m) ∨ p n := ⟨fun ⟨m, h1, h2⟩ => by
  by_cases hm : m = n
  · subst hm; exact Or.inr h2
  · exact Or.inl ⟨m, by omega, h2⟩, fun h => by
  rcases h with ⟨m, h1, h2⟩ | h
  · exact ⟨m, by omega, h2⟩
  · exact ⟨n, by omega, h⟩⟩
set_option maxRecDepth 100000 in
set_option maxHeartbeats 4000000 in
theorem l_mpar {sh : List mm_H} {S : mm_S} {L : mm_L} (hm : mdS sh) (hv : mdV S) {k p s t : Nat} (hk : k < 6) (hp : p < 6) (hs : s < 6) (ht : t < 6) : ∀ (q : Nat) (n : Nat) (w : Int), 8 - n < q → (n ≤ 8) → (tells w ((mE S p t ∧ ¬ mE S k s) ∨ ∃ m : Nat, m < n ∧ mpF S k p s t m)) → am_AW eX10_isParted (mm sh S L) 29 [some (.ref 181), some (.int (iI (k : Int))), some (.int (iI (s : Int))), some (.int (iI (p : Int))), some (.int (iI (t : Int))), some (.int (iI w)), some (.int (iI (n : Int)))] [] (fun r M' => ∃ w, r = some (.int w) ∧ ∃ v, w = iI v ∧ tells v (mPar S k p s t) ∧ M' = mm sh S L) := by
  intro q
  induction q with
  | zero =>
    intro n w hq
    exact absurd hq (Nat.not_lt_zero _)
  | succ q ih =>
    intro n w hq hn hw
    refine am_iload rfl dX10_isParted_29 ?_
    refine mm_bipush dX10_isParted_31 (by decide) ?_
    refine mm_jge (tgt := 100) dX10_isParted_33 (by decide) (by omega) (by omega) (fun h33 => ?_) (fun h33 => ?_)
    · refine am_iload rfl dX10_isParted_100 ?_
      refine am_ireturn dX10_isParted_102 rfl (mm_nz (tells_01 hw)) ?_
      have h8 : n = 8 := by omega
      subst h8
      exact ⟨_, rfl, w, rfl, hw, rfl⟩
    · have hw01 := tells_01 hw
      refine am_iload rfl dX10_isParted_36 ?_
      refine mm_zne (tgt := 87) dX10_isParted_38 (by decide) (by omega) (fun h38 => ?_) (fun h38 => ?_)
      · refine mm_iconst dX10_isParted_87 ?_
        refine am_goto (tgt := 92) dX10_isParted_88 (by decide) ?_
        refine am_ist5 dX10_isParted_92 (Nat.le_of_ble_eq_true rfl) (am_c1i _) ?_
        refine mm_inc6 dX10_isParted_94 (Nat.le_of_ble_eq_true rfl) (am_c1i _) ?_
        refine am_goto (tgt := 29) dX10_isParted_97 (by decide) ?_
        refine ih (n + 1) _ (by omega) (by omega) (tells_iff (p := ((mE S p t ∧ ¬ mE S k s) ∨ ∃ m : Nat, m < n ∧ mpF S k p s t m) ∨ mpF S k p s t n) ?_ (by rw [ex_s, or_assoc]))
        first
          | exact Or.inl ⟨rfl, Or.inl (tells_t hw (by omega))⟩
          | exact Or.inl ⟨rfl, Or.inr ⟨by assumption, Or.inl (by assumption)⟩⟩
          | exact Or.inl ⟨rfl, Or.inr ⟨by assumption, Or.inr ⟨by assumption, by assumption⟩⟩⟩
          | exact Or.inr ⟨rfl, fun z => z.elim (tells_f hw (by omega)) (fun y => absurd y.1 (by assumption))⟩
          | exact Or.inr ⟨rfl, fun z => z.elim (tells_f hw (by omega)) (fun y => y.2.elim (fun x => x (by assumption)) (fun x => absurd x.1 (by assumption)))⟩
          | exact Or.inr ⟨rfl, fun z => z.elim (tells_f hw (by omega)) (fun y => y.2.elim (fun x => x (by assumption)) (fun x => x.2 (by assumption)))⟩
      · refine am_aload_n rfl dX10_isParted_41 ?_
        refine am_iload_n rfl dX10_isParted_42 ?_
        refine am_iload rfl dX10_isParted_43 ?_
        refine am_iload rfl dX10_isParted_45 ?_
        refine am_ci (mm_V3 dX10_isParted_47 in_X10_has mk_X10_160 im_X10_has sl_X10_has ⟨Nat.le_of_ble_eq_true rfl, Nat.le_of_ble_eq_true rfl⟩ rfl (md_0 hm) (Nat.le_of_ble_eq_true rfl)) (m_has hm hv (by omega) (by omega) (by omega)) ?_
        refine mm_beq (tgt := 91) dX10_isParted_50 (by decide) (fun h50 => ?_) (fun h50 => ?_)
        · refine mm_iconst dX10_isParted_91 ?_
          refine am_ist5 dX10_isParted_92 (Nat.le_of_ble_eq_true rfl) (am_c1i _) ?_
          refine mm_inc6 dX10_isParted_94 (Nat.le_of_ble_eq_true rfl) (am_c1i _) ?_
          refine am_goto (tgt := 29) dX10_isParted_97 (by decide) ?_
          refine ih (n + 1) _ (by omega) (by omega) (tells_iff (p := ((mE S p t ∧ ¬ mE S k s) ∨ ∃ m : Nat, m < n ∧ mpF S k p s t m) ∨ mpF S k p s t n) ?_ (by rw [ex_s, or_assoc]))
          first
            | exact Or.inl ⟨rfl, Or.inl (tells_t hw (by omega))⟩
            | exact Or.inl ⟨rfl, Or.inr ⟨by assumption, Or.inl (by assumption)⟩⟩
            | exact Or.inl ⟨rfl, Or.inr ⟨by assumption, Or.inr ⟨by assumption, by assumption⟩⟩⟩
            | exact Or.inr ⟨rfl, fun z => z.elim (tells_f hw (by omega)) (fun y => absurd y.1 (by assumption))⟩
            | exact Or.inr ⟨rfl, fun z => z.elim (tells_f hw (by omega)) (fun y => y.2.elim (fun x => x (by assumption)) (fun x => absurd x.1 (by assumption)))⟩
            | exact Or.inr ⟨rfl, fun z => z.elim (tells_f hw (by omega)) (fun y => y.2.elim (fun x => x (by assumption)) (fun x => x.2 (by assumption)))⟩
        · refine am_aload_n rfl dX10_isParted_53 ?_
          refine am_iload_n rfl dX10_isParted_54 ?_
          refine am_iload_n rfl dX10_isParted_55 ?_
          refine am_iload rfl dX10_isParted_56 ?_
          refine am_ci (mm_V3 dX10_isParted_58 in_X10_has mk_X10_160 im_X10_has sl_X10_has ⟨Nat.le_of_ble_eq_true rfl, Nat.le_of_ble_eq_true rfl⟩ rfl (md_0 hm) (Nat.le_of_ble_eq_true rfl)) (m_has hm hv (by omega) (by omega) (by omega)) ?_
          refine mm_beq (tgt := 87) dX10_isParted_61 (by decide) (fun h61 => ?_) (fun h61 => ?_)
          · refine mm_iconst dX10_isParted_87 ?_
            refine am_goto (tgt := 92) dX10_isParted_88 (by decide) ?_
            refine am_ist5 dX10_isParted_92 (Nat.le_of_ble_eq_true rfl) (am_c1i _) ?_
            refine mm_inc6 dX10_isParted_94 (Nat.le_of_ble_eq_true rfl) (am_c1i _) ?_
            refine am_goto (tgt := 29) dX10_isParted_97 (by decide) ?_
            refine ih (n + 1) _ (by omega) (by omega) (tells_iff (p := ((mE S p t ∧ ¬ mE S k s) ∨ ∃ m : Nat, m < n ∧ mpF S k p s t m) ∨ mpF S k p s t n) ?_ (by rw [ex_s, or_assoc]))
            first
              | exact Or.inl ⟨rfl, Or.inl (tells_t hw (by omega))⟩
              | exact Or.inl ⟨rfl, Or.inr ⟨by assumption, Or.inl (by assumption)⟩⟩
              | exact Or.inl ⟨rfl, Or.inr ⟨by assumption, Or.inr ⟨by assumption, by assumption⟩⟩⟩
              | exact Or.inr ⟨rfl, fun z => z.elim (tells_f hw (by omega)) (fun y => absurd y.1 (by assumption))⟩
              | exact Or.inr ⟨rfl, fun z => z.elim (tells_f hw (by omega)) (fun y => y.2.elim (fun x => x (by assumption)) (fun x => absurd x.1 (by assumption)))⟩
              | exact Or.inr ⟨rfl, fun z => z.elim (tells_f hw (by omega)) (fun y => y.2.elim (fun x => x (by assumption)) (fun x => x.2 (by assumption)))⟩
          · refine am_aload_n rfl dX10_isParted_64 ?_
            refine am_iload_n rfl dX10_isParted_65 ?_
            refine am_iload_n rfl dX10_isParted_66 ?_
            refine am_iload rfl dX10_isParted_67 ?_
            refine am_ci (mm_V3 dX10_isParted_69 in_X10_asks mk_X10_173 im_X10_asks sl_X10_asks ⟨Nat.le_of_ble_eq_true rfl, Nat.le_of_ble_eq_true rfl⟩ rfl (md_0 hm) (Nat.le_of_ble_eq_true rfl)) (m_asks hm hv (by omega) (by omega) (by omega)) ?_
            refine mm_beq (tgt := 91) dX10_isParted_72 (by decide) (fun h72 => ?_) (fun h72 => ?_)
            · refine mm_iconst dX10_isParted_91 ?_
              refine am_ist5 dX10_isParted_92 (Nat.le_of_ble_eq_true rfl) (am_c1i _) ?_
              refine mm_inc6 dX10_isParted_94 (Nat.le_of_ble_eq_true rfl) (am_c1i _) ?_
              refine am_goto (tgt := 29) dX10_isParted_97 (by decide) ?_
              refine ih (n + 1) _ (by omega) (by omega) (tells_iff (p := ((mE S p t ∧ ¬ mE S k s) ∨ ∃ m : Nat, m < n ∧ mpF S k p s t m) ∨ mpF S k p s t n) ?_ (by rw [ex_s, or_assoc]))
              first
                | exact Or.inl ⟨rfl, Or.inl (tells_t hw (by omega))⟩
                | exact Or.inl ⟨rfl, Or.inr ⟨by assumption, Or.inl (by assumption)⟩⟩
                | exact Or.inl ⟨rfl, Or.inr ⟨by assumption, Or.inr ⟨by assumption, by assumption⟩⟩⟩
                | exact Or.inr ⟨rfl, fun z => z.elim (tells_f hw (by omega)) (fun y => absurd y.1 (by assumption))⟩
                | exact Or.inr ⟨rfl, fun z => z.elim (tells_f hw (by omega)) (fun y => y.2.elim (fun x => x (by assumption)) (fun x => absurd x.1 (by assumption)))⟩
                | exact Or.inr ⟨rfl, fun z => z.elim (tells_f hw (by omega)) (fun y => y.2.elim (fun x => x (by assumption)) (fun x => x.2 (by assumption)))⟩
            · refine am_aload_n rfl dX10_isParted_75 ?_
              refine am_iload_n rfl dX10_isParted_76 ?_
              refine am_iload rfl dX10_isParted_77 ?_
              refine am_iload rfl dX10_isParted_79 ?_
              refine am_ci (mm_V3 dX10_isParted_81 in_X10_asks mk_X10_173 im_X10_asks sl_X10_asks ⟨Nat.le_of_ble_eq_true rfl, Nat.le_of_ble_eq_true rfl⟩ rfl (md_0 hm) (Nat.le_of_ble_eq_true rfl)) (m_asks hm hv (by omega) (by omega) (by omega)) ?_
              refine mm_bne (tgt := 91) dX10_isParted_84 (by decide) (fun h84 => ?_) (fun h84 => ?_)
              · refine mm_iconst dX10_isParted_91 ?_
                refine am_ist5 dX10_isParted_92 (Nat.le_of_ble_eq_true rfl) (am_c1i _) ?_
                refine mm_inc6 dX10_isParted_94 (Nat.le_of_ble_eq_true rfl) (am_c1i _) ?_
                refine am_goto (tgt := 29) dX10_isParted_97 (by decide) ?_
                refine ih (n + 1) _ (by omega) (by omega) (tells_iff (p := ((mE S p t ∧ ¬ mE S k s) ∨ ∃ m : Nat, m < n ∧ mpF S k p s t m) ∨ mpF S k p s t n) ?_ (by rw [ex_s, or_assoc]))
                first
                  | exact Or.inl ⟨rfl, Or.inl (tells_t hw (by omega))⟩
                  | exact Or.inl ⟨rfl, Or.inr ⟨by assumption, Or.inl (by assumption)⟩⟩
                  | exact Or.inl ⟨rfl, Or.inr ⟨by assumption, Or.inr ⟨by assumption, by assumption⟩⟩⟩
                  | exact Or.inr ⟨rfl, fun z => z.elim (tells_f hw (by omega)) (fun y => absurd y.1 (by assumption))⟩
                  | exact Or.inr ⟨rfl, fun z => z.elim (tells_f hw (by omega)) (fun y => y.2.elim (fun x => x (by assumption)) (fun x => absurd x.1 (by assumption)))⟩
                  | exact Or.inr ⟨rfl, fun z => z.elim (tells_f hw (by omega)) (fun y => y.2.elim (fun x => x (by assumption)) (fun x => x.2 (by assumption)))⟩
              · refine mm_iconst dX10_isParted_87 ?_
                refine am_goto (tgt := 92) dX10_isParted_88 (by decide) ?_
                refine am_ist5 dX10_isParted_92 (Nat.le_of_ble_eq_true rfl) (am_c1i _) ?_
                refine mm_inc6 dX10_isParted_94 (Nat.le_of_ble_eq_true rfl) (am_c1i _) ?_
                refine am_goto (tgt := 29) dX10_isParted_97 (by decide) ?_
                refine ih (n + 1) _ (by omega) (by omega) (tells_iff (p := ((mE S p t ∧ ¬ mE S k s) ∨ ∃ m : Nat, m < n ∧ mpF S k p s t m) ∨ mpF S k p s t n) ?_ (by rw [ex_s, or_assoc]))
                first
                  | exact Or.inl ⟨rfl, Or.inl (tells_t hw (by omega))⟩
                  | exact Or.inl ⟨rfl, Or.inr ⟨by assumption, Or.inl (by assumption)⟩⟩
                  | exact Or.inl ⟨rfl, Or.inr ⟨by assumption, Or.inr ⟨by assumption, by assumption⟩⟩⟩
                  | exact Or.inr ⟨rfl, fun z => z.elim (tells_f hw (by omega)) (fun y => absurd y.1 (by assumption))⟩
                  | exact Or.inr ⟨rfl, fun z => z.elim (tells_f hw (by omega)) (fun y => y.2.elim (fun x => x (by assumption)) (fun x => absurd x.1 (by assumption)))⟩
                  | exact Or.inr ⟨rfl, fun z => z.elim (tells_f hw (by omega)) (fun y => y.2.elim (fun x => x (by assumption)) (fun x => x.2 (by assumption)))⟩
set_option maxRecDepth 100000 in
set_option maxHeartbeats 4000000 in
theorem m_isParted {sh : List mm_H} {S : mm_S} {L : mm_L} (hm : mdS sh) (hv : mdV S) {k p s t : Nat} (hk : k < 6) (hp : p < 6) (hs : s < 6) (ht : t < 6) : am_E eX10_isParted [.ref 181, .int (iI (k : Int)), .int (iI (s : Int)), .int (iI (p : Int)), .int (iI (t : Int))] (mm sh S L) (fun r M' => ∃ w, r = some (.int w) ∧ ∃ v, w = iI v ∧ tells v (mPar S k p s t) ∧ M' = mm sh S L) := by
  refine am_enter rfl rfl (Nat.le_of_ble_eq_true rfl) ?_
  refine am_aload_n rfl dX10_isParted_0 ?_
  refine am_iload_n rfl dX10_isParted_1 ?_
  refine am_iload rfl dX10_isParted_2 ?_
  refine am_ci (mm_V2 dX10_isParted_4 in_X10_isEnd mk_X10_170 im_X10_isEnd sl_X10_isEnd ⟨Nat.le_of_ble_eq_true rfl, Nat.le_of_ble_eq_true rfl⟩ rfl (md_0 hm) (Nat.le_of_ble_eq_true rfl)) (m_isEnd hm hv (by omega) (by omega)) ?_
  refine mm_beq (tgt := 23) dX10_isParted_7 (by decide) (fun h7 => ?_) (fun h7 => ?_)
  · refine mm_iconst dX10_isParted_23 ?_
    refine am_ist5 dX10_isParted_24 (Nat.le_of_ble_eq_true rfl) (am_c1i _) ?_
    refine mm_iconst dX10_isParted_26 ?_
    refine am_ist6 dX10_isParted_27 (Nat.le_of_ble_eq_true rfl) (am_c1i _) ?_
    first
      | exact l_mpar hm hv hk hp hs ht 9 0 1 (by omega) (by omega) (Or.inl ⟨rfl, Or.inl ⟨by assumption, by assumption⟩⟩)
      | exact l_mpar hm hv hk hp hs ht 9 0 0 (by omega) (by omega) (Or.inr ⟨rfl, fun z => z.elim (fun y => by first | exact absurd y.1 (by assumption) | exact y.2 (by assumption)) (fun ⟨m, h1, _⟩ => absurd h1 (Nat.not_lt_zero m))⟩)
  · refine am_aload_n rfl dX10_isParted_10 ?_
    refine am_iload_n rfl dX10_isParted_11 ?_
    refine am_iload_n rfl dX10_isParted_12 ?_
    refine am_ci (mm_V2 dX10_isParted_13 in_X10_isEnd mk_X10_170 im_X10_isEnd sl_X10_isEnd ⟨Nat.le_of_ble_eq_true rfl, Nat.le_of_ble_eq_true rfl⟩ rfl (md_0 hm) (Nat.le_of_ble_eq_true rfl)) (m_isEnd hm hv (by omega) (by omega)) ?_
    refine mm_bne (tgt := 23) dX10_isParted_16 (by decide) (fun h16 => ?_) (fun h16 => ?_)
    · refine mm_iconst dX10_isParted_23 ?_
      refine am_ist5 dX10_isParted_24 (Nat.le_of_ble_eq_true rfl) (am_c1i _) ?_
      refine mm_iconst dX10_isParted_26 ?_
      refine am_ist6 dX10_isParted_27 (Nat.le_of_ble_eq_true rfl) (am_c1i _) ?_
      first
        | exact l_mpar hm hv hk hp hs ht 9 0 1 (by omega) (by omega) (Or.inl ⟨rfl, Or.inl ⟨by assumption, by assumption⟩⟩)
        | exact l_mpar hm hv hk hp hs ht 9 0 0 (by omega) (by omega) (Or.inr ⟨rfl, fun z => z.elim (fun y => by first | exact absurd y.1 (by assumption) | exact y.2 (by assumption)) (fun ⟨m, h1, _⟩ => absurd h1 (Nat.not_lt_zero m))⟩)
    · refine mm_iconst dX10_isParted_19 ?_
      refine am_goto (tgt := 24) dX10_isParted_20 (by decide) ?_
      refine am_ist5 dX10_isParted_24 (Nat.le_of_ble_eq_true rfl) (am_c1i _) ?_
      refine mm_iconst dX10_isParted_26 ?_
      refine am_ist6 dX10_isParted_27 (Nat.le_of_ble_eq_true rfl) (am_c1i _) ?_
      first
        | exact l_mpar hm hv hk hp hs ht 9 0 1 (by omega) (by omega) (Or.inl ⟨rfl, Or.inl ⟨by assumption, by assumption⟩⟩)
        | exact l_mpar hm hv hk hp hs ht 9 0 0 (by omega) (by omega) (Or.inr ⟨rfl, fun z => z.elim (fun y => by first | exact absurd y.1 (by assumption) | exact y.2 (by assumption)) (fun ⟨m, h1, _⟩ => absurd h1 (Nat.not_lt_zero m))⟩)
def mfI (S : mm_S) (l : List (Nat × Nat)) : Prop := (∀ j q d : Nat, l[j]? = some (q, d) → S 186 j = (q : Int) ∧ S 187 j = (d : Int)) ∧ ∀ q, q < 36 → S 188 q = if q ∈ l.map Prod.fst then 1 else 0
def mfF (S S' : mm_S) : Prop := ∀ b, b ≠ 186 → b ≠ 187 → b ≠ 188 → S' b = S b
theorem mfF.rf (S : mm_S) : mfF S S := fun _ _ _ _ => rfl
theorem mfF.tr {S S1 S2 : mm_S} (h : mfF S S1) (h2 : mfF S1 S2) : mfF S S2 := fun b b1 b2 b3 => (h2 b b1 b2 b3).trans (h b b1 b2 b3)
theorem mfI_new {S : mm_S} {l : List (Nat × Nat)} {q d m : Nat} (h : mfI S l) (hq : q ∉ l.map Prod.fst) (hm : m = l.length) : mfI (up2 (up2 (up2 S 188 q 1) 186 m (q : Int)) 187 m (d : Int)) (fnd d l q) := by
  obtain ⟨h2, h3⟩ := h
  subst hm
  unfold fnd
  rw [if_neg hq]
  refine ⟨fun j p e hj => ?_, fun p hp => ?_⟩
  · rw [up2_rd (show 186 ≠ 187 by omega)]
    by_cases hjl : j < l.length
    · rw [List.getElem?_append_left hjl] at hj
      rw [up2_rc (by omega), up2_rd (by omega), up2_rc (by omega), up2_rd (by omega), up2_rd (by omega)]
      exact h2 j p e hj
    · rw [List.getElem?_append_right (by omega)] at hj
      have hz : j - l.length = 0 := by
        have := (List.getElem?_eq_some_iff.mp hj).1
        simp at this
        omega
      have hjl2 : j = l.length := by omega
      rw [hz] at hj
      simp at hj
      obtain ⟨rfl, rfl⟩ := hj
      rw [hjl2, up2_same, up2_same]
      exact ⟨rfl, rfl⟩
  · rw [up2_rd (by omega), up2_rd (by omega), List.map_append]
    by_cases hpq : p = q
    · subst hpq; rw [up2_same, if_pos (by simp)]
    · rw [up2_rc hpq, h3 p hp]
      have e : (p ∈ l.map Prod.fst ++ [(q, d)].map Prod.fst) ↔ p ∈ l.map Prod.fst := by
        rw [List.mem_append]
        constructor
        · intro z
          rcases z with z | z
          · exact z
          · simp at z; exact absurd z hpq
        · exact Or.inl
      by_cases hpl : p ∈ l.map Prod.fst
      · rw [if_pos hpl, if_pos (e.mpr hpl)]
      · rw [if_neg hpl, if_neg (fun z => hpl (e.mp z))]
theorem mfI_old {S : mm_S} {l : List (Nat × Nat)} {q d : Nat} (h : mfI S l) (hq : q ∈ l.map Prod.fst) : mfI S (fnd d l q) := by
  unfold fnd
  rw [if_pos hq]
  exact h
theorem fnd_len_new {l : List (Nat × Nat)} {q d : Nat} (hq : q ∉ l.map Prod.fst) : (fnd d l q).length = l.length + 1 := by
  unfold fnd
  rw [if_neg hq]
  simp
theorem fnd_len_old {l : List (Nat × Nat)} {q d : Nat} (hq : q ∈ l.map Prod.fst) : (fnd d l q).length = l.length := by
  unfold fnd
  rw [if_pos hq]
