def wkR (S' : mm_S) (s : Nat → Int) (r n : Nat) : Prop := (∀ j, j < n → S' 193 (25 * r + j) = opA s j ∧ S' 196 (25 * r + j) = arA s j) ∧ ∀ o, o < n → opn (s o) → S' 194 (25 * r + o) = midO s n o ∧ S' 195 (25 * r + o) = endO s n o
/-- nothing but the blocks' rows has changed -/
def wkA (S S' : mm_S) : Prop := (∀ b, b ≠ 193 → b ≠ 194 → b ≠ 195 → b ≠ 196 → b ≠ 197 → b ≠ 181 → S' b = S b) ∧ (∀ j, j ≠ 19 → S' 181 j = S 181 j)
theorem wkA_rf (S : mm_S) : wkA S S := ⟨fun _ _ _ _ _ _ _ => rfl, fun _ _ => rfl⟩
theorem wkA.step {S S' S2 : mm_S} {r : Nat} (h : wkA S S') (hF : wkF S' S2 r) : wkA S S2 := ⟨fun b h1 h2 h3 h4 h5 h6 => (hF.1 b h1 h2 h3 h4 h5 h6).trans (h.1 b h1 h2 h3 h4 h5 h6), fun j hj => (hF.2.1 j hj).trans (h.2 j hj)⟩
theorem wkR.keep {S' S2 : mm_S} {s : Nat → Int} {r r2 n : Nat} (h : wkR S' s r2 n) (hF : wkF S' S2 r) (hr : r2 < r) (hn : n ≤ 25) : wkR S2 s r2 n := by
  refine ⟨fun j hj => ?_, fun o ho hop => ?_⟩
  · rw [hF.2.2 193 _ (by omega) (by omega) (by omega), hF.2.2 196 _ (by omega) (by omega) (by omega)]; exact h.1 j hj
  · rw [hF.2.2 194 _ (by omega) (by omega) (by omega), hF.2.2 195 _ (by omega) (by omega) (by omega)]; exact h.2 o ho hop
def mopenR (S : mm_S) (k : Int) : Int := if mR S k then ((stk (fun j => S 190 (25 * k.toNat + j)) (S 189 k.toNat).toNat).length : Int) else -2
set_option maxRecDepth 100000 in
set_option maxHeartbeats 4000000 in
theorem m_open {sh : List mm_H} {S : mm_S} {L : mm_L} (hm : mdS sh) (hv : mdV S) (hp : mdP S) {k : Int} (hk : Rg k) : am_E eX10_open [.ref 181, .int (iI k)] (mm sh S L) (fun r M' => ∃ S', r = some (.int (iI (mopenR S k))) ∧ M' = mm sh S' L ∧ wkA S S') := by
  obtain ⟨u0, u1, u2, u3, u4⟩ := hv
  refine am_enter rfl rfl (Nat.le_of_ble_eq_true rfl) ?_
  refine am_aload_n rfl dX10_open_0 ?_
  refine am_iload_n rfl dX10_open_1 ?_
  refine am_ci (mm_V1 dX10_open_2 in_X10_isRoutine mk_X10_203 im_X10_isRoutine sl_X10_isRoutine ⟨Nat.le_of_ble_eq_true rfl, Nat.le_of_ble_eq_true rfl⟩ rfl (md_0 hm) (Nat.le_of_ble_eq_true rfl)) (m_isRoutine hm ⟨u0, u1, u2, u3, u4⟩ hk) ?_
  refine mm_bne (tgt := 11) dX10_open_5 (by decide) (fun h5 => ?_) (fun h5 => ?_)
  · obtain ⟨k, rfl⟩ := Int.eq_ofNat_of_zero_le (show 0 ≤ k by omega)
    have hu4 := u4 k (by omega)
    refine am_aload_n rfl dX10_open_11 ?_
    refine am_iload_n rfl dX10_open_12 ?_
    refine am_cxv (mm_V1 dX10_open_13 in_X10_walk mk_X10_196 im_X10_walk sl_X10_walk ⟨Nat.le_of_ble_eq_true rfl, Nat.le_of_ble_eq_true rfl⟩ rfl (md_0 hm) (Nat.le_of_ble_eq_true rfl)) (m_walk hm (r := k) (n := (S 189 k).toNat) (s := fun j => S 190 (25 * k + j)) (by omega) (by omega) (by omega) (fun _ _ => rfl) (hp k (by omega))) (fun M1 hM1 => ?_)
    obtain ⟨S2, rfl, hF, hw2⟩ := hM1
    have g1 := hw2.1
    refine am_aload_n rfl dX10_open_16 ?_
    refine mm_getI dX10_open_17 fl_X10_190 (md_0 hm) mdf_19 ?_
    rw [g1]
    refine am_ireturn dX10_open_20 rfl rfl ?_
    exact ⟨S2, by rw [mopenR, if_pos (by omega)]; rfl, rfl, (wkA_rf S).step hF⟩
  · refine mm_bipush dX10_open_8 (by decide) ?_
    refine am_ireturn dX10_open_10 rfl rfl ?_
    exact ⟨S, by rw [mopenR, if_neg (by omega)], rfl, wkA_rf S⟩
abbrev mCall (S : mm_S) (r i : Nat) : Prop := (S 190 (25 * r + i) = 10 ∨ S 190 (25 * r + i) = 11) → mR S (S 191 (25 * r + i))
def mWhole (S : mm_S) : Prop := 0 < S 181 9 ∧ ∀ r : Nat, (r : Int) < S 181 9 → stk (fun j => S 190 (25 * r + j)) (S 189 r).toNat = [] ∧ ∀ i : Nat, (i : Int) < S 189 r → mCall S r i
theorem tells_and {v : Int} {p q : Prop} (h : tells v p) (hq : q) : tells v (p ∧ q) := by
  rcases h with ⟨h1, h2⟩ | ⟨h1, h2⟩
  · exact Or.inl ⟨h1, h2, hq⟩
  · exact Or.inr ⟨h1, fun z => h2 z.1⟩
theorem tells_iff {v : Int} {p q : Prop} (h : tells v p) (hq : p ↔ q) : tells v q := by
  rcases h with ⟨h1, h2⟩ | ⟨h1, h2⟩
  · exact Or.inl ⟨h1, hq.mp h2⟩
  · exact Or.inr ⟨h1, fun z => h2 (hq.mpr z)⟩
theorem tells_01 {v : Int} {p : Prop} (h : tells v p) : v = 0 ∨ v = 1 := by rcases h with h | h <;> omega
theorem tells_t {v : Int} {p : Prop} (h : tells v p) (hv : v ≠ 0) : p := by rcases h with h | h; exact h.2; omega
theorem tells_f {v : Int} {p : Prop} (h : tells v p) (hv : v = 0) : ¬ p := by rcases h with h | h; omega; exact h.2
theorem all_s {p : Nat → Prop} {n : Nat} : (∀ i, i < n + 1 → p i) ↔ (∀ i, i < n → p i) ∧ p n := ⟨fun h => ⟨fun i hi => h i (by omega), h n (by omega)⟩, fun h i hi => by
  by_cases hin : i = n
  · subst hin; exact h.2
  · exact h.1 i (by omega)⟩
set_option maxRecDepth 100000 in
set_option maxHeartbeats 4000000 in
theorem l_whI {sh : List mm_H} {S : mm_S} {L : mm_L} (hm : mdS sh) (hv : mdV S) {S1 : mm_S} {r n : Nat} {P : Prop} {Q : Option Value → am_M → Prop} (hr : r < 6) (hn : S 189 r = n) (hn2 : n ≤ 24) (hA : wkA S S1) (hSA : ∀ i, Rg (S 190 i)) (hAA : ∀ i, Rg (S 191 i)) (hk : ∀ w, tells w (P ∧ ∀ i2 : Nat, i2 < n → mCall S r i2) → am_AW eX10_isWhole (mm sh S1 L) 118 [some (.ref 181), some (.int (iI w)), some (.int (iI (r : Int))), some (.int (iI (n : Int))), none] [] Q) : ∀ (q : Nat) (i : Nat) (w : Int), n - i < q → (i ≤ n) → (tells w (P ∧ ∀ i2 : Nat, i2 < i → mCall S r i2)) → am_AW eX10_isWhole (mm sh S1 L) 47 [some (.ref 181), some (.int (iI w)), some (.int (iI (r : Int))), some (.int (iI (i : Int))), none] [] Q := by
  intro q
  induction q with
  | zero =>
    intro i w hq
    exact absurd hq (Nat.not_lt_zero _)
  | succ q ih =>
    intro i w hq hi ht
    have hv1 : mdV S1 := by
      refine ⟨?_, ?_, ?_, ?_, ?_⟩
      · rw [hA.2 0 (by omega)]; exact hv.1
      · rw [hA.2 9 (by omega)]; exact hv.2.1
      · rw [hA.1 182 (by omega) (by omega) (by omega) (by omega) (by omega) (by omega), hA.1 183 (by omega) (by omega) (by omega) (by omega) (by omega) (by omega)]; exact hv.2.2.1
      · rw [hA.1 184 (by omega) (by omega) (by omega) (by omega) (by omega) (by omega), hA.1 185 (by omega) (by omega) (by omega) (by omega) (by omega) (by omega)]; exact hv.2.2.2.1
      · rw [hA.1 189 (by omega) (by omega) (by omega) (by omega) (by omega) (by omega)]; exact hv.2.2.2.2
    have eM : S1 189 = S 189 := hA.1 189 (by omega) (by omega) (by omega) (by omega) (by omega) (by omega)
    have eS : S1 190 = S 190 := hA.1 190 (by omega) (by omega) (by omega) (by omega) (by omega) (by omega)
    have eA : S1 191 = S 191 := hA.1 191 (by omega) (by omega) (by omega) (by omega) (by omega) (by omega)
    have eR : S1 181 9 = S 181 9 := hA.2 9 (by omega)
    refine am_iload_n rfl dX10_isWhole_47 ?_
    refine am_aload_n rfl dX10_isWhole_48 ?_
    refine mm_getR dX10_isWhole_49 fl_X10_36 (md_0 hm) mdf_10 ?_
    refine am_iload_n rfl dX10_isWhole_52 ?_
    refine mm_ial dX10_isWhole_53 (md_many hm) (by omega) ?_
    rw [Int.toNat_natCast, eM, hn]
    refine mm_jge (tgt := 118) dX10_isWhole_54 (by decide) (by omega) (by omega) (fun h54 => ?_) (fun h54 => ?_)
    · have : i = n := by omega
      subst this
      exact hk w ht
    · have hw01 := tells_01 ht
      obtain ⟨so, hso⟩ : ∃ so, S 190 (25 * r + i) = so := ⟨_, rfl⟩
      obtain ⟨ao, hao⟩ : ∃ ao, S 191 (25 * r + i) = ao := ⟨_, rfl⟩
      have hR1 := hSA (25 * r + i)
      have hR2 := hAA (25 * r + i)
      rw [hso] at hR1
      rw [hao] at hR2
      have ix : (25 * (r : Int) + i).toNat = 25 * r + i := by omega
      refine am_aload_n rfl dX10_isWhole_57 ?_
      refine mm_getR dX10_isWhole_58 fl_X10_39 (md_0 hm) mdf_11 ?_
      refine mm_bipush dX10_isWhole_61 (by decide) ?_
      refine am_iload_n rfl dX10_isWhole_63 ?_
      refine mm_imul dX10_isWhole_64 ?_
      refine am_iload_n rfl dX10_isWhole_65 ?_
      refine mm_iadd dX10_isWhole_66 ?_
      refine mm_ial dX10_isWhole_67 (md_sortAt hm) (by omega) ?_
      rw [ix, eS, hso]
      refine am_ist4 dX10_isWhole_68 (Nat.le_of_ble_eq_true rfl) (am_c1i _) ?_
      refine am_iload_n rfl dX10_isWhole_70 ?_
      refine mm_zeq (tgt := 110) dX10_isWhole_71 (by decide) (by omega) (fun h71 => ?_) (fun h71 => ?_)
      · refine mm_iconst dX10_isWhole_110 ?_
        refine am_ist1 dX10_isWhole_111 (Nat.le_of_ble_eq_true rfl) (am_c1r _) ?_
        refine mm_inc3 dX10_isWhole_112 (Nat.le_of_ble_eq_true rfl) (am_c1i _) ?_
        refine am_goto (tgt := 47) dX10_isWhole_115 (by decide) ?_
        refine am_AW.unset 4 (ih (i + 1) _ (by omega) (by omega) ?_)
        refine tells_iff (p := (P ∧ ∀ i2 : Nat, i2 < i → mCall S r i2) ∧ mCall S r i) ?_ (by rw [all_s, and_assoc])
        first
          | exact Or.inr ⟨rfl, fun z => tells_f ht (by omega) z.1⟩
          | exact Or.inl ⟨rfl, tells_t ht (by omega), fun z => by rw [hso] at z; omega⟩
          | exact Or.inl ⟨rfl, tells_t ht (by omega), fun _ => by assumption⟩
          | exact Or.inr ⟨rfl, fun z => absurd (z.2 (by rw [hso]; omega)) (by assumption)⟩
      · refine am_iload rfl dX10_isWhole_74 ?_
        refine mm_bipush dX10_isWhole_76 (by decide) ?_
        refine mm_jeq (tgt := 88) dX10_isWhole_78 (by decide) (by omega) (by omega) (fun h78 => ?_) (fun h78 => ?_)
        · refine am_aload_n rfl dX10_isWhole_88 ?_
          refine am_aload_n rfl dX10_isWhole_89 ?_
          refine mm_getR dX10_isWhole_90 fl_X10_42 (md_0 hm) mdf_12 ?_
          refine mm_bipush dX10_isWhole_93 (by decide) ?_
          refine am_iload_n rfl dX10_isWhole_95 ?_
          refine mm_imul dX10_isWhole_96 ?_
          refine am_iload_n rfl dX10_isWhole_97 ?_
          refine mm_iadd dX10_isWhole_98 ?_
          refine mm_ial dX10_isWhole_99 (md_aAt hm) (by omega) ?_
          rw [ix, eA, hao]
          refine am_ci (mm_V1 dX10_isWhole_100 in_X10_isRoutine mk_X10_203 im_X10_isRoutine sl_X10_isRoutine ⟨Nat.le_of_ble_eq_true rfl, Nat.le_of_ble_eq_true rfl⟩ rfl (md_0 hm) (Nat.le_of_ble_eq_true rfl)) (m_isRoutine hm hv1 hR2) ?_
          have e2 : mR S1 ao ↔ mR S (S 191 (25 * r + i)) := by rw [hao]; unfold mR; rw [eR]
          rw [b2_c e2]
          refine mm_beq (tgt := 110) dX10_isWhole_103 (by decide) (fun h103 => ?_) (fun h103 => ?_)
          · refine mm_iconst dX10_isWhole_110 ?_
            refine am_ist1 dX10_isWhole_111 (Nat.le_of_ble_eq_true rfl) (am_c1r _) ?_
            refine mm_inc3 dX10_isWhole_112 (Nat.le_of_ble_eq_true rfl) (am_c1i _) ?_
            refine am_goto (tgt := 47) dX10_isWhole_115 (by decide) ?_
            refine am_AW.unset 4 (ih (i + 1) _ (by omega) (by omega) ?_)
            refine tells_iff (p := (P ∧ ∀ i2 : Nat, i2 < i → mCall S r i2) ∧ mCall S r i) ?_ (by rw [all_s, and_assoc])
            first
              | exact Or.inr ⟨rfl, fun z => tells_f ht (by omega) z.1⟩
              | exact Or.inl ⟨rfl, tells_t ht (by omega), fun z => by rw [hso] at z; omega⟩
              | exact Or.inl ⟨rfl, tells_t ht (by omega), fun _ => by assumption⟩
              | exact Or.inr ⟨rfl, fun z => absurd (z.2 (by rw [hso]; omega)) (by assumption)⟩
          · refine mm_iconst dX10_isWhole_106 ?_
            refine am_goto (tgt := 111) dX10_isWhole_107 (by decide) ?_
            refine am_ist1 dX10_isWhole_111 (Nat.le_of_ble_eq_true rfl) (am_c1r _) ?_
            refine mm_inc3 dX10_isWhole_112 (Nat.le_of_ble_eq_true rfl) (am_c1i _) ?_
            refine am_goto (tgt := 47) dX10_isWhole_115 (by decide) ?_
            refine am_AW.unset 4 (ih (i + 1) _ (by omega) (by omega) ?_)
            refine tells_iff (p := (P ∧ ∀ i2 : Nat, i2 < i → mCall S r i2) ∧ mCall S r i) ?_ (by rw [all_s, and_assoc])
            first
              | exact Or.inr ⟨rfl, fun z => tells_f ht (by omega) z.1⟩
              | exact Or.inl ⟨rfl, tells_t ht (by omega), fun z => by rw [hso] at z; omega⟩
              | exact Or.inl ⟨rfl, tells_t ht (by omega), fun _ => by assumption⟩
              | exact Or.inr ⟨rfl, fun z => absurd (z.2 (by rw [hso]; omega)) (by assumption)⟩
        · refine am_iload rfl dX10_isWhole_81 ?_
          refine mm_bipush dX10_isWhole_83 (by decide) ?_
          refine mm_jne (tgt := 106) dX10_isWhole_85 (by decide) (by omega) (by omega) (fun h85 => ?_) (fun h85 => ?_)
          · refine mm_iconst dX10_isWhole_106 ?_
            refine am_goto (tgt := 111) dX10_isWhole_107 (by decide) ?_
            refine am_ist1 dX10_isWhole_111 (Nat.le_of_ble_eq_true rfl) (am_c1r _) ?_
            refine mm_inc3 dX10_isWhole_112 (Nat.le_of_ble_eq_true rfl) (am_c1i _) ?_
            refine am_goto (tgt := 47) dX10_isWhole_115 (by decide) ?_
            refine am_AW.unset 4 (ih (i + 1) _ (by omega) (by omega) ?_)
            refine tells_iff (p := (P ∧ ∀ i2 : Nat, i2 < i → mCall S r i2) ∧ mCall S r i) ?_ (by rw [all_s, and_assoc])
            first
              | exact Or.inr ⟨rfl, fun z => tells_f ht (by omega) z.1⟩
              | exact Or.inl ⟨rfl, tells_t ht (by omega), fun z => by rw [hso] at z; omega⟩
              | exact Or.inl ⟨rfl, tells_t ht (by omega), fun _ => by assumption⟩
              | exact Or.inr ⟨rfl, fun z => absurd (z.2 (by rw [hso]; omega)) (by assumption)⟩
          · refine am_aload_n rfl dX10_isWhole_88 ?_
            refine am_aload_n rfl dX10_isWhole_89 ?_
            refine mm_getR dX10_isWhole_90 fl_X10_42 (md_0 hm) mdf_12 ?_
            refine mm_bipush dX10_isWhole_93 (by decide) ?_
            refine am_iload_n rfl dX10_isWhole_95 ?_
            refine mm_imul dX10_isWhole_96 ?_
            refine am_iload_n rfl dX10_isWhole_97 ?_
            refine mm_iadd dX10_isWhole_98 ?_
            refine mm_ial dX10_isWhole_99 (md_aAt hm) (by omega) ?_
            rw [ix, eA, hao]
            refine am_ci (mm_V1 dX10_isWhole_100 in_X10_isRoutine mk_X10_203 im_X10_isRoutine sl_X10_isRoutine ⟨Nat.le_of_ble_eq_true rfl, Nat.le_of_ble_eq_true rfl⟩ rfl (md_0 hm) (Nat.le_of_ble_eq_true rfl)) (m_isRoutine hm hv1 hR2) ?_
            have e2 : mR S1 ao ↔ mR S (S 191 (25 * r + i)) := by rw [hao]; unfold mR; rw [eR]
            rw [b2_c e2]
            refine mm_beq (tgt := 110) dX10_isWhole_103 (by decide) (fun h103 => ?_) (fun h103 => ?_)
            · refine mm_iconst dX10_isWhole_110 ?_
              refine am_ist1 dX10_isWhole_111 (Nat.le_of_ble_eq_true rfl) (am_c1r _) ?_
              refine mm_inc3 dX10_isWhole_112 (Nat.le_of_ble_eq_true rfl) (am_c1i _) ?_
              refine am_goto (tgt := 47) dX10_isWhole_115 (by decide) ?_
              refine am_AW.unset 4 (ih (i + 1) _ (by omega) (by omega) ?_)
              refine tells_iff (p := (P ∧ ∀ i2 : Nat, i2 < i → mCall S r i2) ∧ mCall S r i) ?_ (by rw [all_s, and_assoc])
              first
                | exact Or.inr ⟨rfl, fun z => tells_f ht (by omega) z.1⟩
                | exact Or.inl ⟨rfl, tells_t ht (by omega), fun z => by rw [hso] at z; omega⟩
                | exact Or.inl ⟨rfl, tells_t ht (by omega), fun _ => by assumption⟩
                | exact Or.inr ⟨rfl, fun z => absurd (z.2 (by rw [hso]; omega)) (by assumption)⟩
            · refine mm_iconst dX10_isWhole_106 ?_
              refine am_goto (tgt := 111) dX10_isWhole_107 (by decide) ?_
              refine am_ist1 dX10_isWhole_111 (Nat.le_of_ble_eq_true rfl) (am_c1r _) ?_
              refine mm_inc3 dX10_isWhole_112 (Nat.le_of_ble_eq_true rfl) (am_c1i _) ?_
              refine am_goto (tgt := 47) dX10_isWhole_115 (by decide) ?_
              refine am_AW.unset 4 (ih (i + 1) _ (by omega) (by omega) ?_)
              refine tells_iff (p := (P ∧ ∀ i2 : Nat, i2 < i → mCall S r i2) ∧ mCall S r i) ?_ (by rw [all_s, and_assoc])
              first
                | exact Or.inr ⟨rfl, fun z => tells_f ht (by omega) z.1⟩
                | exact Or.inl ⟨rfl, tells_t ht (by omega), fun z => by rw [hso] at z; omega⟩
                | exact Or.inl ⟨rfl, tells_t ht (by omega), fun _ => by assumption⟩
                | exact Or.inr ⟨rfl, fun z => absurd (z.2 (by rw [hso]; omega)) (by assumption)⟩
def mdQ (S : mm_S) : Prop := ∀ i, (0 ≤ S 190 i ∧ S 190 i ≤ 15) ∧ (0 ≤ S 191 i ∧ S 191 i ≤ 5) ∧ (0 ≤ S 192 i ∧ S 192 i ≤ 7)
abbrev mSo (S : mm_S) (r : Nat) : Nat → Int := fun j => S 190 (25 * r + j)
abbrev mRO (S : mm_S) (r : Nat) : Prop := stk (mSo S r) ((S 189 r).toNat) = [] ∧ ∀ i : Nat, i < (S 189 r).toNat → mCall S r i
set_option maxRecDepth 100000 in
set_option maxHeartbeats 4000000 in
theorem l_whO {sh : List mm_H} {S : mm_S} {L : mm_L} (hm : mdS sh) (hv : mdV S) (hp : mdP S) (hq0 : mdQ S) : ∀ (q : Nat) (r : Nat) (S1 : mm_S) (w : Int), (S 181 9).toNat - r < q → ((r : Int) ≤ S 181 9) → (wkA S S1) → (∀ r2 : Nat, r2 < r → wkR S1 (mSo S r2) r2 ((S 189 r2).toNat)) → (tells w (0 < S 181 9 ∧ ∀ r2 : Nat, r2 < r → mRO S r2)) → am_AW eX10_isWhole (mm sh S1 L) 15 [some (.ref 181), some (.int (iI w)), some (.int (iI (r : Int))), none, none] [] (fun r0 M' => ∃ w, r0 = some (.int w) ∧ ∃ v S', w = iI v ∧ tells v (mWhole S) ∧ M' = mm sh S' L ∧ wkA S S' ∧ ∀ r2 : Nat, (r2 : Int) < S 181 9 → wkR S' (mSo S r2) r2 ((S 189 r2).toNat)) := by
  intro q
  induction q with
  | zero =>
    intro r S1 w hq
    exact absurd hq (Nat.not_lt_zero _)
  | succ q ih =>
    intro r S1 w hq hr hA hR ht
    have hv1 : mdV S1 := by
      refine ⟨?_, ?_, ?_, ?_, ?_⟩
      · rw [hA.2 0 (by omega)]; exact hv.1
      · rw [hA.2 9 (by omega)]; exact hv.2.1
      · rw [hA.1 182 (by omega) (by omega) (by omega) (by omega) (by omega) (by omega), hA.1 183 (by omega) (by omega) (by omega) (by omega) (by omega) (by omega)]; exact hv.2.2.1
      · rw [hA.1 184 (by omega) (by omega) (by omega) (by omega) (by omega) (by omega), hA.1 185 (by omega) (by omega) (by omega) (by omega) (by omega) (by omega)]; exact hv.2.2.2.1
      · rw [hA.1 189 (by omega) (by omega) (by omega) (by omega) (by omega) (by omega)]; exact hv.2.2.2.2
    have eM : S1 189 = S 189 := hA.1 189 (by omega) (by omega) (by omega) (by omega) (by omega) (by omega)
    have eS : S1 190 = S 190 := hA.1 190 (by omega) (by omega) (by omega) (by omega) (by omega) (by omega)
    have eA : S1 191 = S 191 := hA.1 191 (by omega) (by omega) (by omega) (by omega) (by omega) (by omega)
    have eR : S1 181 9 = S 181 9 := hA.2 9 (by omega)
    obtain ⟨u0, u1, u2, u3, u4⟩ := id hv
    refine am_iload_n rfl dX10_isWhole_15 ?_
    refine am_aload_n rfl dX10_isWhole_16 ?_
    refine mm_getI dX10_isWhole_17 fl_X10_200 (md_0 hm) mdf_9 ?_
    rw [eR]
    refine mm_jge (tgt := 124) dX10_isWhole_20 (by decide) (by omega) (by omega) (fun h20 => ?_) (fun h20 => ?_)
    · refine am_iload_n rfl dX10_isWhole_124 ?_
      refine am_ireturn dX10_isWhole_125 rfl (mm_nz (tells_01 ht)) ?_
      have hrr : (r : Int) = S 181 9 := by omega
      refine ⟨_, rfl, w, S1, rfl, tells_iff ht ⟨fun z => ⟨z.1, fun r2 h2 => ⟨(z.2 r2 (by omega)).1, fun i h3 => (z.2 r2 (by omega)).2 i (by omega)⟩⟩, fun z => ⟨z.1, fun r2 h2 => ⟨(z.2 r2 (by omega)).1, fun i h3 => (z.2 r2 (by omega)).2 i (by have := u4 r2 (by omega); omega)⟩⟩⟩, rfl, hA, fun r2 h2 => hR r2 (by omega)⟩
    · have hu4 := u4 r (by omega)
      have hlen : (stk (mSo S r) (S 189 r).toNat).length ≤ 6 := stk_len (hp r (by omega))
      have hw01 := tells_01 ht
      refine am_aload_n rfl dX10_isWhole_23 ?_
      refine am_iload_n rfl dX10_isWhole_24 ?_
      refine am_cxv (mm_V1 dX10_isWhole_25 in_X10_walk mk_X10_196 im_X10_walk sl_X10_walk ⟨Nat.le_of_ble_eq_true rfl, Nat.le_of_ble_eq_true rfl⟩ rfl (md_0 hm) (Nat.le_of_ble_eq_true rfl)) (m_walk hm (r := r) (n := (S 189 r).toNat) (s := mSo S r) (by omega) (by rw [eM]; omega) (by omega) (fun j _ => by rw [eS]) (hp r (by omega))) (fun M1 hM1 => ?_)
      obtain ⟨S2, rfl, hF, hw2⟩ := hM1
      have g1 := hw2.1
      refine am_iload_n rfl dX10_isWhole_28 ?_
      refine mm_zeq (tgt := 43) dX10_isWhole_29 (by decide) (by omega) (fun h29 => ?_) (fun h29 => ?_)
      · refine mm_iconst dX10_isWhole_43 ?_
        refine am_ist1 dX10_isWhole_44 (Nat.le_of_ble_eq_true rfl) (am_c1r _) ?_
        refine mm_iconst dX10_isWhole_45 ?_
        refine am_ist3 dX10_isWhole_46 (Nat.le_of_ble_eq_true rfl) (am_c1i _) ?_
        refine l_whI (S := S) (r := r) (n := (S 189 r).toNat) (P := (0 < S 181 9 ∧ ∀ r2 : Nat, r2 < r → mRO S r2) ∧ stk (mSo S r) ((S 189 r).toNat) = []) hm hv (by omega) (by omega) (by omega) (hA.step hF) (fun i => by have := hq0 i; omega) (fun i => by have := hq0 i; omega) (fun w2 hw3 => ?_) ((S 189 r).toNat + 1) 0 _ (by omega) (by omega) ?_
        · refine mm_inc2 dX10_isWhole_118 (Nat.le_of_ble_eq_true rfl) (am_c1i _) ?_
          refine am_goto (tgt := 15) dX10_isWhole_121 (by decide) ?_
          refine am_AW.unset 3 (ih (r + 1) S2 w2 (by omega) (by omega) (hA.step hF) ?_ (tells_iff hw3 (by rw [all_s]; constructor <;> (intro z; simp only [and_assoc] at z ⊢; exact z))))
          intro r2 hr2
          by_cases h9 : r2 = r
          · subst h9; exact ⟨hw2.2.2.1, hw2.2.2.2⟩
          · exact (hR r2 (by omega)).keep hF (by omega) (by have := u4 r2 (by omega); omega)
        · refine tells_iff (p := (0 < S 181 9 ∧ ∀ r2 : Nat, r2 < r → mRO S r2) ∧ stk (mSo S r) ((S 189 r).toNat) = []) ?_ ⟨fun z => ⟨z, fun i2 h => absurd h (Nat.not_lt_zero i2)⟩, fun z => z.1⟩
          first
            | exact Or.inl ⟨rfl, tells_t ht (by omega), List.length_eq_zero_iff.mp (by omega)⟩
            | exact Or.inr ⟨rfl, fun z => tells_f ht (by omega) z.1⟩
            | exact Or.inr ⟨rfl, fun z => by have := List.length_eq_zero_iff.mpr z.2; omega⟩
      · refine am_aload_n rfl dX10_isWhole_32 ?_
        refine mm_getI dX10_isWhole_33 fl_X10_190 (md_0 hm) mdf_19 ?_
        rw [g1]
        refine mm_zne (tgt := 43) dX10_isWhole_36 (by decide) (by omega) (fun h36 => ?_) (fun h36 => ?_)
        · refine mm_iconst dX10_isWhole_43 ?_
          refine am_ist1 dX10_isWhole_44 (Nat.le_of_ble_eq_true rfl) (am_c1r _) ?_
          refine mm_iconst dX10_isWhole_45 ?_
          refine am_ist3 dX10_isWhole_46 (Nat.le_of_ble_eq_true rfl) (am_c1i _) ?_
          refine l_whI (S := S) (r := r) (n := (S 189 r).toNat) (P := (0 < S 181 9 ∧ ∀ r2 : Nat, r2 < r → mRO S r2) ∧ stk (mSo S r) ((S 189 r).toNat) = []) hm hv (by omega) (by omega) (by omega) (hA.step hF) (fun i => by have := hq0 i; omega) (fun i => by have := hq0 i; omega) (fun w2 hw3 => ?_) ((S 189 r).toNat + 1) 0 _ (by omega) (by omega) ?_
          · refine mm_inc2 dX10_isWhole_118 (Nat.le_of_ble_eq_true rfl) (am_c1i _) ?_
            refine am_goto (tgt := 15) dX10_isWhole_121 (by decide) ?_
            refine am_AW.unset 3 (ih (r + 1) S2 w2 (by omega) (by omega) (hA.step hF) ?_ (tells_iff hw3 (by rw [all_s]; constructor <;> (intro z; simp only [and_assoc] at z ⊢; exact z))))
            intro r2 hr2
            by_cases h9 : r2 = r
            · subst h9; exact ⟨hw2.2.2.1, hw2.2.2.2⟩
            · exact (hR r2 (by omega)).keep hF (by omega) (by have := u4 r2 (by omega); omega)
          · refine tells_iff (p := (0 < S 181 9 ∧ ∀ r2 : Nat, r2 < r → mRO S r2) ∧ stk (mSo S r) ((S 189 r).toNat) = []) ?_ ⟨fun z => ⟨z, fun i2 h => absurd h (Nat.not_lt_zero i2)⟩, fun z => z.1⟩
            first
              | exact Or.inl ⟨rfl, tells_t ht (by omega), List.length_eq_zero_iff.mp (by omega)⟩
              | exact Or.inr ⟨rfl, fun z => tells_f ht (by omega) z.1⟩
              | exact Or.inr ⟨rfl, fun z => by have := List.length_eq_zero_iff.mpr z.2; omega⟩
        · refine mm_iconst dX10_isWhole_39 ?_
          refine am_goto (tgt := 44) dX10_isWhole_40 (by decide) ?_
          refine am_ist1 dX10_isWhole_44 (Nat.le_of_ble_eq_true rfl) (am_c1r _) ?_
          refine mm_iconst dX10_isWhole_45 ?_
          refine am_ist3 dX10_isWhole_46 (Nat.le_of_ble_eq_true rfl) (am_c1i _) ?_
          refine l_whI (S := S) (r := r) (n := (S 189 r).toNat) (P := (0 < S 181 9 ∧ ∀ r2 : Nat, r2 < r → mRO S r2) ∧ stk (mSo S r) ((S 189 r).toNat) = []) hm hv (by omega) (by omega) (by omega) (hA.step hF) (fun i => by have := hq0 i; omega) (fun i => by have := hq0 i; omega) (fun w2 hw3 => ?_) ((S 189 r).toNat + 1) 0 _ (by omega) (by omega) ?_
          · refine mm_inc2 dX10_isWhole_118 (Nat.le_of_ble_eq_true rfl) (am_c1i _) ?_
            refine am_goto (tgt := 15) dX10_isWhole_121 (by decide) ?_
            refine am_AW.unset 3 (ih (r + 1) S2 w2 (by omega) (by omega) (hA.step hF) ?_ (tells_iff hw3 (by rw [all_s]; constructor <;> (intro z; simp only [and_assoc] at z ⊢; exact z))))
            intro r2 hr2
            by_cases h9 : r2 = r
            · subst h9; exact ⟨hw2.2.2.1, hw2.2.2.2⟩
            · exact (hR r2 (by omega)).keep hF (by omega) (by have := u4 r2 (by omega); omega)
          · refine tells_iff (p := (0 < S 181 9 ∧ ∀ r2 : Nat, r2 < r → mRO S r2) ∧ stk (mSo S r) ((S 189 r).toNat) = []) ?_ ⟨fun z => ⟨z, fun i2 h => absurd h (Nat.not_lt_zero i2)⟩, fun z => z.1⟩
            first
              | exact Or.inl ⟨rfl, tells_t ht (by omega), List.length_eq_zero_iff.mp (by omega)⟩
              | exact Or.inr ⟨rfl, fun z => tells_f ht (by omega) z.1⟩
              | exact Or.inr ⟨rfl, fun z => by have := List.length_eq_zero_iff.mpr z.2; omega⟩
set_option maxRecDepth 100000 in
set_option maxHeartbeats 4000000 in
theorem m_isWhole {sh : List mm_H} {S : mm_S} {L : mm_L} (hm : mdS sh) (hv : mdV S) (hp : mdP S) (hq0 : mdQ S) : am_E eX10_isWhole [.ref 181] (mm sh S L) (fun r0 M' => ∃ w, r0 = some (.int w) ∧ ∃ v S', w = iI v ∧ tells v (mWhole S) ∧ M' = mm sh S' L ∧ wkA S S' ∧ ∀ r2 : Nat, (r2 : Int) < S 181 9 → wkR S' (mSo S r2) r2 ((S 189 r2).toNat)) := by
  obtain ⟨u0, u1, u2, u3, u4⟩ := id hv
  refine am_enter rfl rfl (Nat.le_of_ble_eq_true rfl) ?_
  refine am_aload_n rfl dX10_isWhole_0 ?_
  refine mm_getI dX10_isWhole_1 fl_X10_200 (md_0 hm) mdf_9 ?_
  refine mm_zle (tgt := 11) dX10_isWhole_4 (by decide) (by omega) (fun h4 => ?_) (fun h4 => ?_)
  · refine mm_iconst dX10_isWhole_11 ?_
    refine am_ist1 dX10_isWhole_12 (Nat.le_of_ble_eq_true rfl) (am_c1r _) ?_
    refine mm_iconst dX10_isWhole_13 ?_
    refine am_ist2 dX10_isWhole_14 (Nat.le_of_ble_eq_true rfl) (am_c1i _) ?_
    first
      | exact l_whO hm hv hp hq0 (7 + 1) 0 S 1 (by have := hv.2.1; omega) (by have := hv.2.1; omega) (wkA_rf S) (fun r2 h => absurd h (Nat.not_lt_zero r2)) (Or.inl ⟨rfl, by omega, fun r2 h => absurd h (Nat.not_lt_zero r2)⟩)
      | exact l_whO hm hv hp hq0 (7 + 1) 0 S 0 (by have := hv.2.1; omega) (by have := hv.2.1; omega) (wkA_rf S) (fun r2 h => absurd h (Nat.not_lt_zero r2)) (Or.inr ⟨rfl, fun z => by omega⟩)
  · refine mm_iconst dX10_isWhole_7 ?_
    refine am_goto (tgt := 12) dX10_isWhole_8 (by decide) ?_
    refine am_ist1 dX10_isWhole_12 (Nat.le_of_ble_eq_true rfl) (am_c1r _) ?_
    refine mm_iconst dX10_isWhole_13 ?_
    refine am_ist2 dX10_isWhole_14 (Nat.le_of_ble_eq_true rfl) (am_c1i _) ?_
    first
      | exact l_whO hm hv hp hq0 (7 + 1) 0 S 1 (by have := hv.2.1; omega) (by have := hv.2.1; omega) (wkA_rf S) (fun r2 h => absurd h (Nat.not_lt_zero r2)) (Or.inl ⟨rfl, by omega, fun r2 h => absurd h (Nat.not_lt_zero r2)⟩)
      | exact l_whO hm hv hp hq0 (7 + 1) 0 S 0 (by have := hv.2.1; omega) (by have := hv.2.1; omega) (wkA_rf S) (fun r2 h => absurd h (Nat.not_lt_zero r2)) (Or.inr ⟨rfl, fun z => by omega⟩)
