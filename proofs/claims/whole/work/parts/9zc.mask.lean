/-! ===== what is asked of the reference's judge, whatever the book is by now ===== -/
abbrev enP (L : mm_L) (c k : Nat) : Int := (L 211 (2000 * c + k)).toInt
def qsM (S : mm_S) (L : mm_L) : Prop := csR S ∧ (∀ c : Nat, (c : Int) < S 181 27 → (0 ≤ S 209 c ∧ S 209 c ≤ 2000) ∧ (0 ≤ S 207 c ∧ S 207 c < 64) ∧ (0 ≤ S 208 c ∧ S 208 c < 64)) ∧ (∀ c k : Nat, (c : Int) < S 181 27 → (k : Int) < S 209 c → rgB (unM (enP L c k)) ∧ pkM (unM (enP L c k)) = enP L c k ∧ 0 ≤ S 210 (2000 * c + k) ∧ S 210 (2000 * c + k) ≤ 24) ∧ (∀ x : Nat, x < 150 → 0 ≤ S 213 x ∧ S 213 x < 64) ∧ (S 181 26 = 0 ∨ S 181 26 = 1)
def itX (X : XT) (r pl : Nat) (P : kyT → Int → Prop) : Prop := ∃ κ p, X κ pl p ∧ κ.2.1 = r ∧ P κ p
def itN (S : mm_S) (L : mm_L) (r pl c k : Nat) (P : kyT → Int → Prop) : Prop := ∃ c' k' : Nat, (c' < c ∨ (c' = c ∧ k' < k)) ∧ (c' : Int) < S 181 27 ∧ (k' : Int) < S 209 c' ∧ (S 204 c').toNat = r ∧ S 210 (2000 * c' + k') = (pl : Int) ∧ P (keyM S c') (enP L c' k')
theorem itN_0 {S : mm_S} {L : mm_L} {r pl : Nat} {P : kyT → Int → Prop} : ¬ itN S L r pl 0 0 P := fun ⟨c, k, h, _⟩ => by omega
theorem itN_s {S : mm_S} {L : mm_L} {r pl c k : Nat} (hc : (c : Int) < S 181 27) (hk : (k : Int) < S 209 c) (P : kyT → Int → Prop) : itN S L r pl c (k + 1) P ↔ itN S L r pl c k P ∨ (((S 204 c).toNat = r ∧ S 210 (2000 * c + k) = (pl : Int)) ∧ P (keyM S c) (enP L c k)) := by
  constructor
  · rintro ⟨c', k', h1, h2, h3, h4, h5, h6⟩
    by_cases z : c' = c ∧ k' = k
    · obtain ⟨rfl, rfl⟩ := z
      exact Or.inr ⟨⟨h4, h5⟩, h6⟩
    · exact Or.inl ⟨c', k', by omega, h2, h3, h4, h5, h6⟩
  · rintro (⟨c', k', h1, h2⟩ | ⟨⟨h4, h5⟩, h6⟩)
    · exact ⟨c', k', by omega, h2⟩
    · exact ⟨c, k, by omega, hc, hk, h4, h5, h6⟩
theorem itN_c {S : mm_S} {L : mm_L} {r pl c k : Nat} (h : S 209 c ≤ k ∨ (S 204 c).toNat ≠ r) (P : kyT → Int → Prop) : itN S L r pl (c + 1) 0 P ↔ itN S L r pl c k P := by
  constructor
  · rintro ⟨c', k', h1, h2, h3, h4, h5, h6⟩
    refine ⟨c', k', ?_, h2, h3, h4, h5, h6⟩
    by_cases z : c' = c
    · subst z
      rcases h with y | y
      · right; omega
      · exact absurd h4 y
    · left; omega
  · rintro ⟨c', k', h1, h2⟩
    exact ⟨c', k', by omega, h2⟩
theorem itN_e {S : mm_S} {L : mm_L} {r pl c : Nat} (hc : S 181 27 ≤ c) (P : kyT → Int → Prop) : itN S L r pl c 0 P ↔ itX (XM S L) r pl P := by
  constructor
  · rintro ⟨c', k', h1, h2, h3, h4, h5, h6⟩
    exact ⟨keyM S c', enP L c' k', ⟨c', k', h2, rfl, h3, h5, rfl⟩, h4, h6⟩
  · rintro ⟨κ, p, ⟨c', k', h1, rfl, h3, h4, rfl⟩, h5, h6⟩
    exact ⟨c', k', by omega, h1, h3, h5, h4, h6⟩
theorem cdR_R {k : Int} {R : rgT} (hB : rgB R) (hk : 0 ≤ k ∧ k < 6) {t : Int} (ht : 1 ≤ t ∧ t ≤ 6) : 0 ≤ cdR k R t ∧ cdR k R t < 64 := by
  have h3 := hB.2.2.1
  unfold cdR
  split
  · omega
  · have := hB.2.1 (t - 2).toNat (by omega)
    omega
set_option maxRecDepth 100000 in
set_option maxHeartbeats 4000000 in
theorem l_mwr {sh : List mm_H} {S : mm_S} {L : mm_L} (hm : mdS sh) (hW : ∀ x : Nat, x < 150 → 0 ≤ S 213 x ∧ S 213 x < 64) {wt : Int} (hwt : 0 ≤ wt ∧ wt ≤ 2) {i : Int} (h26 : S 181 26 = 1) (hi : 0 ≤ i ∧ i < 2147483648) : ∀ (q : Nat) (x w : Nat) (l : Int), 1000 - (6 * x + w) < q → (x < 150) → (1 ≤ w ∧ w ≤ 6) → (0 ≤ l ∧ l < 2147483648) → am_AW eX10_wrong_ (mm sh S L) 39 [some (.ref 181), some (.int (iI i)), some (.int (iI wt)), some (.int (iI l)), some (.int (iI (x : Int))), some (.int (iI (w : Int)))] [] (fun r M' => r = some (.int (iI (wnA (nthW (S 213) (750 - (5 * x + w - 1)) l) wt))) ∧ M' = mm sh S L) := by
  intro q
  induction q with
  | zero =>
    intro x w l hq
    exact absurd hq (Nat.not_lt_zero _)
  | succ q ih =>
    intro x w l hq hx hw hl
    have hW92 := hW x hx
    refine am_iload rfl dX10_wrong__39 ?_
    refine mm_iconst dX10_wrong__41 ?_
    refine mm_jgt (tgt := 102) dX10_wrong__42 (by decide) (by omega) (by omega) (fun h42 => ?_) (fun h42 => ?_)
    · refine mm_inc4 dX10_wrong__102 (Nat.le_of_ble_eq_true rfl) (am_c1i _) ?_
      refine am_goto (tgt := 17) dX10_wrong__105 (by decide) ?_
      refine am_iload rfl dX10_wrong__17 ?_
      refine mm_sipush dX10_wrong__19 (by decide) ?_
      refine mm_jge (tgt := 108) dX10_wrong__22 (by decide) (by omega) (by omega) (fun h22 => ?_) (fun h22 => ?_)
      · refine mm_iconst dX10_wrong__108 ?_
        refine am_ireturn dX10_wrong__109 rfl rfl ?_
        refine ⟨?_, rfl⟩
        rw [show 750 - (5 * x + w - 1) = 0 by omega]
        rfl
      · refine am_aload_n rfl dX10_wrong__25 ?_
        refine mm_getI dX10_wrong__26 fl_X10_321 (md_0 hm) mdf_26 ?_
        refine mm_zeq (tgt := 108) dX10_wrong__29 (by decide) (by omega) (fun h29 => ?_) (fun h29 => ?_)
        · exfalso; omega
        · refine am_iload_n rfl dX10_wrong__32 ?_
          refine mm_zlt (tgt := 108) dX10_wrong__33 (by decide) (by omega) (fun h33 => ?_) (fun h33 => ?_)
          · exfalso; omega
          · refine mm_iconst dX10_wrong__36 ?_
            refine am_ist5 dX10_wrong__37 (Nat.le_of_ble_eq_true rfl) (am_c1i _) ?_
            first
              | (have h42' := h42
                 have ih := ih (x + 1) 1 l (by omega) (by omega) (by omega) hl
                 rw [show 5 * (x + 1) + 1 - 1 = 5 * x + w - 1 by omega] at ih
                 exact ih)
              | (have ns := nth_step (S 213) hx (show 1 ≤ w ∧ w ≤ 5 by omega) l
                 rw [if_pos (by omega), if_neg (by omega), show l - 1 = l + -1 by omega] at ns
                 rw [ns]
                 have ih := ih x (w + 1) (l + -1) (by omega) hx (by omega) (by omega)
                 rw [show 5 * x + (w + 1) - 1 = 5 * x + w by omega] at ih
                 exact ih)
              | (have ns := nth_step (S 213) hx (show 1 ≤ w ∧ w ≤ 5 by omega) l
                 rw [if_neg (by omega)] at ns
                 rw [ns]
                 have ih := ih x (w + 1) l (by omega) hx (by omega) hl
                 rw [show 5 * x + (w + 1) - 1 = 5 * x + w by omega] at ih
                 exact ih)
    · refine am_aload_n rfl dX10_wrong__45 ?_
      refine mm_getR dX10_wrong__46 fl_X10_111 (md_0 hm) mdf_38 ?_
      refine am_iload rfl dX10_wrong__49 ?_
      refine mm_ial dX10_wrong__51 (md_wrongs hm) (by omega) ?_
      rw [Int.toNat_natCast]
      refine am_iload rfl dX10_wrong__52 ?_
      refine mm_ishr dX10_wrong__54 (by omega) (by omega) ?_
      rw [Int.toNat_natCast]
      refine mm_iconst dX10_wrong__55 ?_
      refine mm_iand1 dX10_wrong__56 (div_pow_R (by omega)) ?_
      refine mm_iconst dX10_wrong__57 ?_
      refine mm_jne (tgt := 96) dX10_wrong__58 (by decide) (by omega) (by omega) (fun h58 => ?_) (fun h58 => ?_)
      · refine mm_inc5 dX10_wrong__96 (Nat.le_of_ble_eq_true rfl) (am_c1i _) ?_
        refine am_goto (tgt := 39) dX10_wrong__99 (by decide) ?_
        first
          | (have h42' := h42
             have ih := ih (x + 1) 1 l (by omega) (by omega) (by omega) hl
             rw [show 5 * (x + 1) + 1 - 1 = 5 * x + w - 1 by omega] at ih
             exact ih)
          | (have ns := nth_step (S 213) hx (show 1 ≤ w ∧ w ≤ 5 by omega) l
             rw [if_pos (by omega), if_neg (by omega), show l - 1 = l + -1 by omega] at ns
             rw [ns]
             have ih := ih x (w + 1) (l + -1) (by omega) hx (by omega) (by omega)
             rw [show 5 * x + (w + 1) - 1 = 5 * x + w by omega] at ih
             exact ih)
          | (have ns := nth_step (S 213) hx (show 1 ≤ w ∧ w ≤ 5 by omega) l
             rw [if_neg (by omega)] at ns
             rw [ns]
             have ih := ih x (w + 1) l (by omega) hx (by omega) hl
             rw [show 5 * x + (w + 1) - 1 = 5 * x + w by omega] at ih
             exact ih)
      · refine am_iload_n rfl dX10_wrong__61 ?_
        refine mm_zne (tgt := 93) dX10_wrong__62 (by decide) (by omega) (fun h62 => ?_) (fun h62 => ?_)
        · refine mm_inc3 dX10_wrong__93 (Nat.le_of_ble_eq_true rfl) (am_c1i _) ?_
          refine mm_inc5 dX10_wrong__96 (Nat.le_of_ble_eq_true rfl) (am_c1i _) ?_
          refine am_goto (tgt := 39) dX10_wrong__99 (by decide) ?_
          first
            | (have h42' := h42
               have ih := ih (x + 1) 1 l (by omega) (by omega) (by omega) hl
               rw [show 5 * (x + 1) + 1 - 1 = 5 * x + w - 1 by omega] at ih
               exact ih)
            | (have ns := nth_step (S 213) hx (show 1 ≤ w ∧ w ≤ 5 by omega) l
               rw [if_pos (by omega), if_neg (by omega), show l - 1 = l + -1 by omega] at ns
               rw [ns]
               have ih := ih x (w + 1) (l + -1) (by omega) hx (by omega) (by omega)
               rw [show 5 * x + (w + 1) - 1 = 5 * x + w by omega] at ih
               exact ih)
            | (have ns := nth_step (S 213) hx (show 1 ≤ w ∧ w ≤ 5 by omega) l
               rw [if_neg (by omega)] at ns
               rw [ns]
               have ih := ih x (w + 1) l (by omega) hx (by omega) hl
               rw [show 5 * x + (w + 1) - 1 = 5 * x + w by omega] at ih
               exact ih)
        · refine am_iload_n rfl dX10_wrong__65 ?_
          refine mm_zne (tgt := 77) dX10_wrong__66 (by decide) (by omega) (fun h66 => ?_) (fun h66 => ?_)
          · refine am_iload_n rfl dX10_wrong__77 ?_
            refine mm_iconst dX10_wrong__78 ?_
            refine mm_jne (tgt := 90) dX10_wrong__79 (by decide) (by omega) (by omega) (fun h79 => ?_) (fun h79 => ?_)
            · refine am_iload rfl dX10_wrong__90 ?_
              refine am_ireturn dX10_wrong__92 rfl rfl ?_
              have ns := nth_step (S 213) hx (show 1 ≤ w ∧ w ≤ 5 by omega) l
              rw [if_pos (by omega), if_pos (by omega)] at ns
              refine ⟨?_, rfl⟩
              rw [ns, wn_some]
              first
                | rw [if_pos (by omega), show (5 * x + w - 1) / 5 / 25 = x / 25 by omega]; exact congrArg (fun z => some (Value.int (iI z))) (by omega)
                | rw [if_neg (by omega), if_pos (by omega), show (5 * x + w - 1) / 5 % 25 = x % 25 by omega]; exact congrArg (fun z => some (Value.int (iI z))) (by omega)
                | rw [if_neg (by omega), if_neg (by omega), show (5 * x + w - 1) % 5 + 1 = w by omega]
            · refine am_iload rfl dX10_wrong__82 ?_
              refine mm_bipush dX10_wrong__84 (by decide) ?_
              refine mm_irem dX10_wrong__86 (by omega) (by omega) ?_
              refine am_goto (tgt := 92) dX10_wrong__87 (by decide) ?_
              refine am_ireturn dX10_wrong__92 rfl rfl ?_
              have ns := nth_step (S 213) hx (show 1 ≤ w ∧ w ≤ 5 by omega) l
              rw [if_pos (by omega), if_pos (by omega)] at ns
              refine ⟨?_, rfl⟩
              rw [ns, wn_some]
              first
                | rw [if_pos (by omega), show (5 * x + w - 1) / 5 / 25 = x / 25 by omega]; exact congrArg (fun z => some (Value.int (iI z))) (by omega)
                | rw [if_neg (by omega), if_pos (by omega), show (5 * x + w - 1) / 5 % 25 = x % 25 by omega]; exact congrArg (fun z => some (Value.int (iI z))) (by omega)
                | rw [if_neg (by omega), if_neg (by omega), show (5 * x + w - 1) % 5 + 1 = w by omega]
          · refine am_iload rfl dX10_wrong__69 ?_
            refine mm_bipush dX10_wrong__71 (by decide) ?_
            refine mm_idiv dX10_wrong__73 (by omega) (by omega) ?_
            refine am_goto (tgt := 92) dX10_wrong__74 (by decide) ?_
            refine am_ireturn dX10_wrong__92 rfl rfl ?_
            have ns := nth_step (S 213) hx (show 1 ≤ w ∧ w ≤ 5 by omega) l
            rw [if_pos (by omega), if_pos (by omega)] at ns
            refine ⟨?_, rfl⟩
            rw [ns, wn_some]
            first
              | rw [if_pos (by omega), show (5 * x + w - 1) / 5 / 25 = x / 25 by omega]; exact congrArg (fun z => some (Value.int (iI z))) (by omega)
              | rw [if_neg (by omega), if_pos (by omega), show (5 * x + w - 1) / 5 % 25 = x % 25 by omega]; exact congrArg (fun z => some (Value.int (iI z))) (by omega)
              | rw [if_neg (by omega), if_neg (by omega), show (5 * x + w - 1) % 5 + 1 = w by omega]
set_option maxRecDepth 100000 in
set_option maxHeartbeats 4000000 in
theorem m_wrong_ {sh : List mm_H} {S : mm_S} {L : mm_L} (hm : mdS sh) (hW : ∀ x : Nat, x < 150 → 0 ≤ S 213 x ∧ S 213 x < 64) (h01 : S 181 26 = 0 ∨ S 181 26 = 1) {i wt : Int} (hi : Rg i) (hw : Rg wt) : am_E eX10_wrong_ [.ref 181, .int (iI i), .int (iI wt)] (mm sh S L) (fun r M' => r = some (.int (iI (if 0 ≤ wt ∧ wt ≤ 2 then (if S 181 26 = 1 ∧ 0 ≤ i then wnA (nthW (S 213) 750 i) wt else -1) else -2))) ∧ M' = mm sh S L) := by
  refine am_enter rfl rfl (Nat.le_of_ble_eq_true rfl) ?_
  refine am_iload_n rfl dX10_wrong__0 ?_
  refine mm_iconst dX10_wrong__1 ?_
  refine mm_iconst dX10_wrong__2 ?_
  refine am_ci (mm_S3 dX10_wrong__3 in_X10_in mk_X10_144 st_X10_in ⟨Nat.le_of_ble_eq_true rfl, Nat.le_of_ble_eq_true rfl⟩ (Nat.le_of_ble_eq_true rfl)) (m_in hw (by omega) (by omega)) ?_
  refine mm_bne (tgt := 12) dX10_wrong__6 (by decide) (fun h6 => ?_) (fun h6 => ?_)
  · refine am_iload_n rfl dX10_wrong__12 ?_
    refine am_ist3 dX10_wrong__13 (Nat.le_of_ble_eq_true rfl) (am_c1i _) ?_
    refine mm_iconst dX10_wrong__14 ?_
    refine am_ist4 dX10_wrong__15 (Nat.le_of_ble_eq_true rfl) (am_c1i _) ?_
    refine am_iload rfl dX10_wrong__17 ?_
    refine mm_sipush dX10_wrong__19 (by decide) ?_
    refine mm_jge (tgt := 108) dX10_wrong__22 (by decide) (by omega) (by omega) (fun h22 => ?_) (fun h22 => ?_)
    · exfalso; omega
    · refine am_aload_n rfl dX10_wrong__25 ?_
      refine mm_getI dX10_wrong__26 fl_X10_321 (md_0 hm) mdf_26 ?_
      refine mm_zeq (tgt := 108) dX10_wrong__29 (by decide) (by omega) (fun h29 => ?_) (fun h29 => ?_)
      · refine mm_iconst dX10_wrong__108 ?_
        refine am_ireturn dX10_wrong__109 rfl rfl ?_
        exact ⟨by rw [if_pos (show 0 ≤ wt ∧ wt ≤ 2 by omega), if_neg (by omega)], rfl⟩
      · refine am_iload_n rfl dX10_wrong__32 ?_
        refine mm_zlt (tgt := 108) dX10_wrong__33 (by decide) (by omega) (fun h33 => ?_) (fun h33 => ?_)
        · refine mm_iconst dX10_wrong__108 ?_
          refine am_ireturn dX10_wrong__109 rfl rfl ?_
          exact ⟨by rw [if_pos (show 0 ≤ wt ∧ wt ≤ 2 by omega), if_neg (by omega)], rfl⟩
        · refine mm_iconst dX10_wrong__36 ?_
          refine am_ist5 dX10_wrong__37 (Nat.le_of_ble_eq_true rfl) (am_c1i _) ?_
          have key := l_mwr (L := L) hm hW (by omega) (i := i) (wt := wt) (by omega) (by omega) 1000 0 1 i (by omega) (by omega) (by omega) (by omega)
          rw [if_pos (show 0 ≤ wt ∧ wt ≤ 2 by omega), if_pos (show S 181 26 = 1 ∧ 0 ≤ i by omega)]
          exact key
  · refine mm_bipush dX10_wrong__9 (by decide) ?_
    refine am_ireturn dX10_wrong__11 rfl rfl ?_
    exact ⟨by rw [if_neg (by omega)], rfl⟩
abbrev mPl (S : mm_S) (r i : Int) : Prop := mR S r ∧ 0 ≤ i ∧ i ≤ S 189 r.toNat
set_option maxRecDepth 100000 in
set_option maxHeartbeats 4000000 in
theorem m_isPlace {sh : List mm_H} {S : mm_S} {L : mm_L} (hm : mdS sh) (hv : mdV S) {k i : Int} (hk : Rg k) (hi : Rg i) : am_E eX10_isPlace [.ref 181, .int (iI k), .int (iI i)] (mm sh S L) (fun r M' => r = some (.int (iI (b2 (mPl S k i)))) ∧ M' = mm sh S L) := by
  refine am_enter rfl rfl (Nat.le_of_ble_eq_true rfl) ?_
  refine am_aload_n rfl dX10_isPlace_0 ?_
  refine am_iload_n rfl dX10_isPlace_1 ?_
  refine am_ci (mm_V1 dX10_isPlace_2 in_X10_isRoutine mk_X10_203 im_X10_isRoutine sl_X10_isRoutine ⟨Nat.le_of_ble_eq_true rfl, Nat.le_of_ble_eq_true rfl⟩ rfl (md_0 hm) (Nat.le_of_ble_eq_true rfl)) (m_isRoutine hm hv hk) ?_
  refine mm_beq (tgt := 26) dX10_isPlace_5 (by decide) (fun h5 => ?_) (fun h5 => ?_)
  · refine mm_iconst dX10_isPlace_26 ?_
    refine am_ireturn dX10_isPlace_27 rfl (by decide) ?_
    first
      | exact ⟨mm_rt ⟨h5, h19⟩, rfl⟩
      | exact ⟨mm_rf (fun z => h19 z.2), rfl⟩
      | exact ⟨mm_rf (fun z => h5 z.1), rfl⟩
  · have hr9 := hv.2.1
    have hk6 := h5.1
    have hk7 := h5.2
    have h189 := hv.2.2.2.2 k.toNat (by omega)
    refine am_iload_n rfl dX10_isPlace_8 ?_
    refine mm_iconst dX10_isPlace_9 ?_
    refine am_aload_n rfl dX10_isPlace_10 ?_
    refine mm_getR dX10_isPlace_11 fl_X10_36 (md_0 hm) mdf_10 ?_
    refine am_iload_n rfl dX10_isPlace_14 ?_
    refine mm_ial dX10_isPlace_15 (md_many hm) (by omega) ?_
    refine am_ci (mm_S3 dX10_isPlace_16 in_X10_in mk_X10_144 st_X10_in ⟨Nat.le_of_ble_eq_true rfl, Nat.le_of_ble_eq_true rfl⟩ (Nat.le_of_ble_eq_true rfl)) (m_in hi (by omega) (by omega)) ?_
    refine mm_beq (tgt := 26) dX10_isPlace_19 (by decide) (fun h19 => ?_) (fun h19 => ?_)
    · refine mm_iconst dX10_isPlace_26 ?_
      refine am_ireturn dX10_isPlace_27 rfl (by decide) ?_
      first
        | exact ⟨mm_rt ⟨h5, h19⟩, rfl⟩
        | exact ⟨mm_rf (fun z => h19 z.2), rfl⟩
        | exact ⟨mm_rf (fun z => h5 z.1), rfl⟩
    · refine mm_iconst dX10_isPlace_22 ?_
      refine am_goto (tgt := 27) dX10_isPlace_23 (by decide) ?_
      refine am_ireturn dX10_isPlace_27 rfl (by decide) ?_
      first
        | exact ⟨mm_rt ⟨h5, h19⟩, rfl⟩
        | exact ⟨mm_rf (fun z => h19 z.2), rfl⟩
        | exact ⟨mm_rf (fun z => h5 z.1), rfl⟩
set_option maxRecDepth 100000 in
set_option maxHeartbeats 4000000 in
theorem l_mmi {sh : List mm_H} {S : mm_S} {L : mm_L} (hm : mdS sh) (hQ : qsM S L) {tr tp v : Nat} (htr : tr < 6) (htp : tp < 25) (hv : v < 5) {c : Nat} (hc : (c : Int) < S 181 27) {Q : Option Value → am_M → Prop} (kk : ∀ (bits : Int) (S1 : mm_S) (l6 : Option Value), rgF S S1 → (0 ≤ bits ∧ bits < 256) → (∀ j : Nat, bt bits j ↔ itN S L tr tp (c + 1) 0 (fun κ p => stB κ p v = j)) → am_AW eX10_may (mm sh S1 L) 146 [some (.ref 181), some (.int (iI (tr : Int))), some (.int (iI (tp : Int))), some (.int (iI (v : Int))), some (.int (iI bits)), some (.int (iI (c : Int))), l6] [] Q) : ∀ (q : Nat) (k : Nat) (bits : Int) (S1 : mm_S), 2001 - k < q → ((k : Int) ≤ S 209 c) → (rgF S S1) → (0 ≤ bits ∧ bits < 256) → (∀ j : Nat, bt bits j ↔ itN S L tr tp c k (fun κ p => stB κ p v = j)) → am_AW eX10_may (mm sh S1 L) 44 [some (.ref 181), some (.int (iI (tr : Int))), some (.int (iI (tp : Int))), some (.int (iI (v : Int))), some (.int (iI bits)), some (.int (iI (c : Int))), some (.int (iI (k : Int)))] [] Q := by
  intro q
  induction q with
  | zero =>
    intro k bits S1 hq
    exact absurd hq (Nat.not_lt_zero _)
  | succ q ih =>
    intro k bits S1 hq hk hF hbR hbt
    have e27 : S1 181 27 = S 181 27 := hF.2 27 (by omega)
    have e26 : S1 181 26 = S 181 26 := hF.2 26 (by omega)
    have e209 : S1 209 = S 209 := hF.1 209 (by omega) (by omega)
    have e204 : S1 204 = S 204 := hF.1 204 (by omega) (by omega)
    have e205 : S1 205 = S 205 := hF.1 205 (by omega) (by omega)
    have e210 : S1 210 = S 210 := hF.1 210 (by omega) (by omega)
    have hcs := hQ.1.1
    have hcR := hQ.1.2 c hc
    have hsz := (hQ.2.1 c hc).1
    refine am_iload rfl dX10_may_44 ?_
    refine am_aload_n rfl dX10_may_46 ?_
    refine mm_getR dX10_may_47 fl_X10_96 (md_0 hm) mdf_34 ?_
    refine am_iload rfl dX10_may_50 ?_
    refine mm_ial dX10_may_52 (md_size hm) (by omega) ?_
    rw [Int.toNat_natCast, e209]
    refine mm_jge (tgt := 146) dX10_may_53 (by decide) (by omega) (by omega) (fun h53 => ?_) (fun h53 => ?_)
    · refine kk bits S1 _ hF hbR (fun j => ?_)
      rw [hbt j, itN_c (k := k) (by first | (left; omega) | (right; omega))]
    · refine am_aload_n rfl dX10_may_56 ?_
      refine mm_getR dX10_may_57 fl_X10_81 (md_0 hm) mdf_29 ?_
      refine am_iload rfl dX10_may_60 ?_
      refine mm_ial dX10_may_62 (md_caseRoutine hm) (by omega) ?_
      rw [Int.toNat_natCast, e204]
      refine am_iload_n rfl dX10_may_63 ?_
      refine mm_jne (tgt := 146) dX10_may_64 (by decide) (by omega) (by omega) (fun h64 => ?_) (fun h64 => ?_)
      · refine kk bits S1 _ hF hbR (fun j => ?_)
        rw [hbt j, itN_c (k := k) (by first | (left; omega) | (right; omega))]
      · have hk6 : (k : Int) < S 209 c := by omega
        obtain ⟨hgB, hpk, hp0⟩ := hQ.2.2.1 c k hc hk6
        have hms := fun P => itN_s (r := tr) (pl := tp) (L := L) hc hk6 P
        obtain ⟨p, hp⟩ : ∃ p, enP L c k = p := ⟨_, rfl⟩
        have hL : L 211 (2000 * c + k) = lI p := by rw [← hp]; exact (lI_of _).symm
        rw [hp] at hgB hpk hms
        have hpR := pkM_R hgB
        rw [hpk] at hpR
        refine am_aload_n rfl dX10_may_67 ?_
        refine mm_getR dX10_may_68 fl_X10_100 (md_0 hm) mdf_35 ?_
        refine mm_sipush dX10_may_71 (by decide) ?_
        refine am_iload rfl dX10_may_74 ?_
        refine mm_imul dX10_may_76 ?_
        refine am_iload rfl dX10_may_77 ?_
        refine mm_iadd dX10_may_79 ?_
        rw [show (2000 : Int) * (c : Int) + (k : Int) = ((2000 * c + k : Nat) : Int) by omega]
        refine mm_ial dX10_may_80 (md_placeAt hm) (by omega) ?_
        rw [Int.toNat_natCast, e210]
        refine am_iload_n rfl dX10_may_81 ?_
        refine mm_jne (tgt := 140) dX10_may_82 (by decide) (by omega) (by omega) (fun h82 => ?_) (fun h82 => ?_)
        · refine mm_inc6 dX10_may_140 (Nat.le_of_ble_eq_true rfl) (am_c1i _) ?_
          refine am_goto (tgt := 44) dX10_may_143 (by decide) ?_
          first
            | (refine ih (k + 1) (orB bits e) S2 (by omega) (by omega) hF12 (orB_lt (n := 8) hbR (by omega)) (fun j => ?_)
               rw [orB_bt hbR.1, hbt j, hms]
               constructor
               · rintro (z | z)
                 · exact Or.inl z
                 · exact Or.inr ⟨by omega, by show stB (keyM S c) p v = (j : Int); omega⟩
               · rintro (z | z)
                 · exact Or.inl z
                 · right; have : stB (keyM S c) p v = (j : Int) := z.2; omega)
            | (refine ih (k + 1) bits S1 (by omega) (by omega) hF hbR (fun j => ?_)
               rw [hbt j, hms]
               constructor
               · exact Or.inl
               · rintro (z | z)
                 · exact z
                 · have := z.1.2; exfalso; omega)
        · refine am_aload_n rfl dX10_may_85 ?_
          refine am_aload_n rfl dX10_may_86 ?_
          refine mm_getR dX10_may_87 fl_X10_103 (md_0 hm) mdf_36 ?_
          refine mm_sipush dX10_may_90 (by decide) ?_
          refine am_iload rfl dX10_may_93 ?_
          refine mm_imul dX10_may_95 ?_
          refine am_iload rfl dX10_may_96 ?_
          refine mm_iadd dX10_may_98 ?_
          rw [show (2000 : Int) * (c : Int) + (k : Int) = ((2000 * c + k : Nat) : Int) by omega]
          refine mm_lal dX10_may_99 (md_packed hm) (by omega) ?_
          rw [Int.toNat_natCast, hL]
          refine am_cv (mm_V1 dX10_may_100 in_X10_unpack mk_X10_287 im_X10_unpack sl_X10_unpack ⟨Nat.le_of_ble_eq_true rfl, Nat.le_of_ble_eq_true rfl⟩ rfl (md_0 hm) (Nat.le_of_ble_eq_true rfl)) (m_unpack (p := p) hm (by omega)) ?_
          have hF2 : rgF S1 (unS S1 p) := rgF_un
          have hrg := rgS_un S1 p
          generalize unS S1 p = S2 at *
          have hF12 : rgF S S2 := ⟨fun b h1 h2 => (hF2.1 b h1 h2).trans (hF.1 b h1 h2), fun j hj => (hF2.2 j hj).trans (hF.2 j hj)⟩
          have hva : ∀ u, u < 5 → S2 198 u = (unM p).1 u := fun u hu => by rw [← hrg]; exact (nrm_in hu).symm
          have hvr := hgB.1 v hv
          obtain ⟨e, he⟩ : ∃ e : Nat, (e : Int) = stB (keyM S c) p v := ⟨(stB (keyM S c) p v).toNat, by have := stB_R (keyM S c) p v; omega⟩
          have heR := stB_R (keyM S c) p v
          have hp2 := pow2_b (show e < 16 by omega)
          have hev : (unM p).1 v = 0 → e = 7 := fun z => by have : stB (keyM S c) p v = 7 := by unfold stB; rw [if_pos z]
                                                            omega
          have hew : (unM p).1 v ≠ 0 → cdM S2 c ((unM p).1 v) = cdR (S 205 c) (unM p) ((unM p).1 v) ∧ (e : Int) = cdR (S 205 c) (unM p) ((unM p).1 v) % 7 := fun z => by
            refine ⟨by rw [cd_rg (fun _ => by omega), hrg, hF2.1 205 (by omega) (by omega), e205], ?_⟩
            rw [he]
            unfold stB
            rw [if_neg z]
          refine am_iload rfl dX10_may_103 ?_
          refine am_aload_n rfl dX10_may_105 ?_
          refine mm_getR dX10_may_106 fl_X10_63 (md_0 hm) mdf_20 ?_
          refine am_iload_n rfl dX10_may_109 ?_
          refine mm_ial dX10_may_110 (md_var hm) (by omega) ?_
          rw [Int.toNat_natCast, hva v hv]
          refine mm_zne (tgt := 120) dX10_may_111 (by decide) (by omega) (fun h111 => ?_) (fun h111 => ?_)
          · refine mm_iconst dX10_may_120 ?_
            refine am_aload_n rfl dX10_may_121 ?_
            refine am_iload rfl dX10_may_122 ?_
            refine am_aload_n rfl dX10_may_124 ?_
            refine mm_getR dX10_may_125 fl_X10_63 (md_0 hm) mdf_20 ?_
            refine am_iload_n rfl dX10_may_128 ?_
            refine mm_ial dX10_may_129 (md_var hm) (by omega) ?_
            rw [Int.toNat_natCast, hva v hv]
            have hcdR := cdR_R (k := S 205 c) (t := (unM p).1 v) hgB (by omega) (by omega)
            refine am_ci (mm_V2 dX10_may_130 in_X10_codeOf mk_X10_274 im_X10_codeOf sl_X10_codeOf ⟨Nat.le_of_ble_eq_true rfl, Nat.le_of_ble_eq_true rfl⟩ rfl (md_0 hm) (Nat.le_of_ble_eq_true rfl)) (m_codeOf (c := c) (t := (unM p).1 v) hm (by omega) (by omega)) ?_
            rw [(hew h111).1]
            refine mm_bipush dX10_may_133 (by decide) ?_
            refine mm_irem dX10_may_135 (by omega) (by omega) ?_
            rw [← (hew h111).2]
            refine mm_ishl dX10_may_136 ⟨by omega, by rw [Int.toNat_natCast]; omega⟩ (by omega) ?_
            first
              | rw [show iI 128 = iI (1 * 2 ^ ((e : Int)).toNat) from congrArg iI (by rw [hev h111]; rfl)]
              | skip
            refine mm_ior dX10_may_137 (by omega) ⟨by rw [Int.toNat_natCast]; omega, by rw [Int.toNat_natCast]; omega⟩ ?_
            rw [or_orB, Int.toNat_natCast]
            refine am_ist4 dX10_may_138 (Nat.le_of_ble_eq_true rfl) (am_c1i _) ?_
            refine mm_inc6 dX10_may_140 (Nat.le_of_ble_eq_true rfl) (am_c1i _) ?_
            refine am_goto (tgt := 44) dX10_may_143 (by decide) ?_
            first
              | (refine ih (k + 1) (orB bits e) S2 (by omega) (by omega) hF12 (orB_lt (n := 8) hbR (by omega)) (fun j => ?_)
                 rw [orB_bt hbR.1, hbt j, hms]
                 constructor
                 · rintro (z | z)
                   · exact Or.inl z
                   · exact Or.inr ⟨by omega, by show stB (keyM S c) p v = (j : Int); omega⟩
                 · rintro (z | z)
                   · exact Or.inl z
                   · right; have : stB (keyM S c) p v = (j : Int) := z.2; omega)
              | (refine ih (k + 1) bits S1 (by omega) (by omega) hF hbR (fun j => ?_)
                 rw [hbt j, hms]
                 constructor
                 · exact Or.inl
                 · rintro (z | z)
                   · exact z
                   · have := z.1.2; exfalso; omega)
          · refine mm_sipush dX10_may_114 (by decide) ?_
            refine am_goto (tgt := 137) dX10_may_117 (by decide) ?_
            first
              | rw [show iI 128 = iI (1 * 2 ^ ((e : Int)).toNat) from congrArg iI (by rw [hev h111]; rfl)]
              | skip
            refine mm_ior dX10_may_137 (by omega) ⟨by rw [Int.toNat_natCast]; omega, by rw [Int.toNat_natCast]; omega⟩ ?_
            rw [or_orB, Int.toNat_natCast]
            refine am_ist4 dX10_may_138 (Nat.le_of_ble_eq_true rfl) (am_c1i _) ?_
            refine mm_inc6 dX10_may_140 (Nat.le_of_ble_eq_true rfl) (am_c1i _) ?_
            refine am_goto (tgt := 44) dX10_may_143 (by decide) ?_
            first
              | (refine ih (k + 1) (orB bits e) S2 (by omega) (by omega) hF12 (orB_lt (n := 8) hbR (by omega)) (fun j => ?_)
                 rw [orB_bt hbR.1, hbt j, hms]
                 constructor
                 · rintro (z | z)
                   · exact Or.inl z
                   · exact Or.inr ⟨by omega, by show stB (keyM S c) p v = (j : Int); omega⟩
                 · rintro (z | z)
                   · exact Or.inl z
                   · right; have : stB (keyM S c) p v = (j : Int) := z.2; omega)
              | (refine ih (k + 1) bits S1 (by omega) (by omega) hF hbR (fun j => ?_)
                 rw [hbt j, hms]
                 constructor
                 · exact Or.inl
                 · rintro (z | z)
                   · exact z
                   · have := z.1.2; exfalso; omega)
set_option maxRecDepth 100000 in
set_option maxHeartbeats 4000000 in
theorem l_mmo {sh : List mm_H} {S : mm_S} {L : mm_L} (hm : mdS sh) (hQ : qsM S L) {tr tp v : Nat} (htr : tr < 6) (htp : tp < 25) (hv : v < 5) : ∀ (q : Nat) (c : Nat) (bits : Int) (S1 : mm_S) (l6 : Option Value), 41 - c < q → ((c : Int) ≤ S 181 27 ∧ (S 181 26 = 1 ∨ c = 0)) → (rgF S S1) → (0 ≤ bits ∧ bits < 256) → (∀ j : Nat, bt bits j ↔ itN S L tr tp c 0 (fun κ p => stB κ p v = j)) → am_AW eX10_may (mm sh S1 L) 25 [some (.ref 181), some (.int (iI (tr : Int))), some (.int (iI (tp : Int))), some (.int (iI (v : Int))), some (.int (iI bits)), some (.int (iI (c : Int))), l6] [] (fun r0 M' => ∃ a, r0 = some (.int (iI a)) ∧ ∃ S', M' = mm sh S' L ∧ rgF S S' ∧ (0 ≤ a ∧ a < 256) ∧ ∀ j : Nat, bt a j ↔ (S 181 26 = 1 ∧ itX (XM S L) tr tp (fun κ p => stB κ p v = j))) := by
  intro q
  induction q with
  | zero =>
    intro c bits S1 l6 hq
    exact absurd hq (Nat.not_lt_zero _)
  | succ q ih =>
    intro c bits S1 l6 hq hc hF hbR hbt
    have e27 : S1 181 27 = S 181 27 := hF.2 27 (by omega)
    have e26 : S1 181 26 = S 181 26 := hF.2 26 (by omega)
    have e209 : S1 209 = S 209 := hF.1 209 (by omega) (by omega)
    have e204 : S1 204 = S 204 := hF.1 204 (by omega) (by omega)
    have e205 : S1 205 = S 205 := hF.1 205 (by omega) (by omega)
    have e210 : S1 210 = S 210 := hF.1 210 (by omega) (by omega)
    have hcs := hQ.1.1
    have h261 := hQ.2.2.2.2
    refine am_iload rfl dX10_may_25 ?_
    refine am_aload_n rfl dX10_may_27 ?_
    refine mm_getI dX10_may_28 fl_X10_240 (md_0 hm) mdf_27 ?_
    rw [e27]
    refine mm_jge (tgt := 152) dX10_may_31 (by decide) (by omega) (by omega) (fun h31 => ?_) (fun h31 => ?_)
    · refine am_iload rfl dX10_may_152 ?_
      refine am_ireturn dX10_may_154 rfl rfl ?_
      refine ⟨bits, rfl, S1, rfl, hF, hbR, fun j => ?_⟩
      rw [hbt j]
      first
        | (rw [show c = 0 by omega]; exact ⟨fun z => absurd z itN_0, fun z => by exfalso; have := z.1; omega⟩)
        | (rw [itN_e (by omega)]
           have h26 : S 181 26 = 1 ∨ c = 0 := hc.2
           rcases h26 with z | z
           · exact ⟨fun y => ⟨z, y⟩, fun y => y.2⟩
           · have h0 : ¬ itX (XM S L) tr tp (fun κ p => stB κ p v = j) := fun y => by
               have q := (itN_e (show S 181 27 ≤ c by omega) _).mpr y
               rw [z] at q
               exact itN_0 q
             exact ⟨fun y => absurd y h0, fun y => absurd y.2 h0⟩)
    · refine am_aload_n rfl dX10_may_34 ?_
      refine mm_getI dX10_may_35 fl_X10_321 (md_0 hm) mdf_26 ?_
      rw [e26]
      refine mm_zeq (tgt := 152) dX10_may_38 (by decide) (by omega) (fun h38 => ?_) (fun h38 => ?_)
      · refine am_iload rfl dX10_may_152 ?_
        refine am_ireturn dX10_may_154 rfl rfl ?_
        refine ⟨bits, rfl, S1, rfl, hF, hbR, fun j => ?_⟩
        rw [hbt j]
        first
          | (rw [show c = 0 by omega]; exact ⟨fun z => absurd z itN_0, fun z => by exfalso; have := z.1; omega⟩)
          | (rw [itN_e (by omega)]
             have h26 : S 181 26 = 1 ∨ c = 0 := hc.2
             rcases h26 with z | z
             · exact ⟨fun y => ⟨z, y⟩, fun y => y.2⟩
             · have h0 : ¬ itX (XM S L) tr tp (fun κ p => stB κ p v = j) := fun y => by
                 have q := (itN_e (show S 181 27 ≤ c by omega) _).mpr y
                 rw [z] at q
                 exact itN_0 q
               exact ⟨fun y => absurd y h0, fun y => absurd y.2 h0⟩)
      · refine mm_iconst dX10_may_41 ?_
        refine am_ist6 dX10_may_42 (Nat.le_of_ble_eq_true rfl) (am_c1i _) ?_
        refine l_mmi hm hQ htr htp hv (by omega) (fun bits' S2 l6' g1 g2 g3 => ?_) 2002 0 bits S1 (by omega) (by have := (hQ.2.1 c (by omega)).1; omega) hF hbR hbt
        refine mm_inc5 dX10_may_146 (Nat.le_of_ble_eq_true rfl) (am_c1i _) ?_
        refine am_goto (tgt := 25) dX10_may_149 (by decide) ?_
        exact ih (c + 1) bits' S2 l6' (by omega) (by omega) g1 g2 g3
set_option maxRecDepth 100000 in
set_option maxHeartbeats 4000000 in
theorem m_may {sh : List mm_H} {S : mm_S} {L : mm_L} (hm : mdS sh) (hmv : mdV S) (hQ : qsM S L) {r i v : Int} (hr : Rg r) (hi : Rg i) (hv : Rg v) : am_E eX10_may [.ref 181, .int (iI r), .int (iI i), .int (iI v)] (mm sh S L) (fun r0 M' => ∃ a, r0 = some (.int (iI a)) ∧ ∃ S', M' = mm sh S' L ∧ rgF S S' ∧ ((¬ (mPl S r i ∧ (0 ≤ v ∧ v < 5)) ∧ a = -2) ∨ ((mPl S r i ∧ (0 ≤ v ∧ v < 5)) ∧ (0 ≤ a ∧ a < 256) ∧ ∀ j : Nat, bt a j ↔ (S 181 26 = 1 ∧ itX (XM S L) r.toNat i.toNat (fun κ p => stB κ p v.toNat = j))))) := by
  refine am_enter rfl rfl (Nat.le_of_ble_eq_true rfl) ?_
  refine am_aload_n rfl dX10_may_0 ?_
  refine am_iload_n rfl dX10_may_1 ?_
  refine am_iload_n rfl dX10_may_2 ?_
  refine am_ci (mm_V2 dX10_may_3 in_X10_isPlace mk_X10_330 im_X10_isPlace sl_X10_isPlace ⟨Nat.le_of_ble_eq_true rfl, Nat.le_of_ble_eq_true rfl⟩ rfl (md_0 hm) (Nat.le_of_ble_eq_true rfl)) (m_isPlace hm hmv hr hi) ?_
  refine mm_beq (tgt := 16) dX10_may_6 (by decide) (fun h6 => ?_) (fun h6 => ?_)
  · refine mm_bipush dX10_may_16 (by decide) ?_
    refine am_ireturn dX10_may_18 rfl rfl ?_
    exact ⟨-2, rfl, S, rfl, ⟨fun _ _ _ => rfl, fun _ _ => rfl⟩, Or.inl ⟨fun z => by first | exact h6 z.1 | exact h13 z.2, rfl⟩⟩
  · refine am_iload_n rfl dX10_may_9 ?_
    refine am_ci (mm_S1 dX10_may_10 in_X10_isVariable mk_X10_187 st_X10_isVariable ⟨Nat.le_of_ble_eq_true rfl, Nat.le_of_ble_eq_true rfl⟩ (Nat.le_of_ble_eq_true rfl)) (m_isVariable hv) ?_
    refine mm_bne (tgt := 19) dX10_may_13 (by decide) (fun h13 => ?_) (fun h13 => ?_)
    · refine mm_iconst dX10_may_19 ?_
      refine am_ist4 dX10_may_20 (Nat.le_of_ble_eq_true rfl) (am_c1i _) ?_
      refine mm_iconst dX10_may_22 ?_
      refine am_ist5 dX10_may_23 (Nat.le_of_ble_eq_true rfl) (am_c1i _) ?_
      have hr9 := hmv.2.1
      have hk6 := h6.1.1
      have hk7 := h6.1.2
      have h189 := hmv.2.2.2.2 r.toNat (by omega)
      have hi0 := h6.2
      rw [show iI r = iI ((r.toNat : Nat) : Int) from congrArg iI (by omega), show iI i = iI ((i.toNat : Nat) : Int) from congrArg iI (by omega), show iI v = iI ((v.toNat : Nat) : Int) from congrArg iI (by omega)]
      have h9 := l_mmo (L := L) (tr := r.toNat) (tp := i.toNat) (v := v.toNat) hm hQ (by omega) (by omega) (by omega) 42 0 0 S none (by omega) (by have := hQ.1.1; omega) ⟨fun _ _ _ => rfl, fun _ _ => rfl⟩ (by omega) (fun j => ⟨fun z => absurd z bt_z, fun z => absurd z itN_0⟩)
      refine am_AW.mono h9 (fun r0 M' z => ?_)
      obtain ⟨a, z1, S2, z2, z3, z4, z5⟩ := z
      exact ⟨a, z1, S2, z2, z3, Or.inr ⟨⟨h6, h13⟩, z4, z5⟩⟩
    · refine mm_bipush dX10_may_16 (by decide) ?_
      refine am_ireturn dX10_may_18 rfl rfl ?_
      exact ⟨-2, rfl, S, rfl, ⟨fun _ _ _ => rfl, fun _ _ => rfl⟩, Or.inl ⟨fun z => by first | exact h6 z.1 | exact h13 z.2, rfl⟩⟩
