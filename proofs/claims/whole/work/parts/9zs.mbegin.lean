/-! ===== a ROUTINE begins ===== -/
def beG (S S' : mm_S) (k : Nat) (r t : Int) (g : Prop) [Decidable g] : Prop := (∀ b, b ≠ 181 → b < 216 ∨ 221 < b → S' b = S b) ∧ (∀ j, j ≠ 45 → j ≠ 55 → S' 181 j = S 181 j) ∧ (S' 181 45 = (k : Int) + 1 ∧ S' 181 55 = max (S 181 55) ((k : Int) + 1)) ∧ ((∀ i, i ≠ k → S' 217 i = S 217 i) ∧ S' 217 k = r) ∧ ((∀ i, i ≠ k → S' 218 i = S 218 i) ∧ S' 218 k = 0) ∧ ((∀ i, i ≠ k → S' 219 i = S 219 i) ∧ S' 219 k = if g then -1 else t) ∧ ((∀ i, i < 5 * k ∨ 5 * k + 5 ≤ i → S' 220 i = S 220 i) ∧ ∀ v, v < 5 → S' 220 (5 * k + v) = if v = 0 then t else -1) ∧ ((∀ i, i < 6 * k ∨ 6 * k + 6 ≤ i → S' 221 i = S 221 i) ∧ ∀ j, j < 6 → S' 221 (6 * k + j) = 0) ∧ ((∀ i, i ≠ t.toNat → S' 216 i = S 216 i) ∧ S' 216 t.toNat = if g then (k : Int) else S 216 t.toNat)
set_option maxRecDepth 100000 in
set_option maxHeartbeats 4000000 in
theorem l_be1 {sh : List mm_H} {L : mm_L} (hm : mdS sh) {k : Nat} (hk : k < 10) {r t : Int} {g : Prop} [Decidable g] {S : mm_S} (hd : S 181 45 = (k : Int)) {Q : Option Value → am_M → Prop} (kk : ∀ S2 l4, (∀ b, b ≠ 220 → S2 b = S b) → (∀ i, i < 5 * k ∨ 5 * k + 5 ≤ i → S2 220 i = S 220 i) → (∀ u, u < 5 → S2 220 (5 * k + u) = if u = 0 then t else -1) → am_AW eX10_begin (mm sh S2 L) 77 [some (.ref 181), some (.int (iI r)), some (.int (iI t)), some (.int (iI (b2 g))), l4] [] Q) : ∀ (q : Nat) (v : Nat) (S' : mm_S), 5 - v < q → (v ≤ 5) → (∀ b, b ≠ 220 → S' b = S b) → (∀ i, i < 5 * k ∨ 5 * k + v ≤ i → S' 220 i = S 220 i) → (∀ u, u < v → S' 220 (5 * k + u) = if u = 0 then t else -1) → am_AW eX10_begin (mm sh S' L) 41 [some (.ref 181), some (.int (iI r)), some (.int (iI t)), some (.int (iI (b2 g))), some (.int (iI (v : Int)))] [] Q := by
  intro q
  induction q with
  | zero =>
    intro v S' hq
    exact absurd hq (Nat.not_lt_zero _)
  | succ q ih =>
    intro v S' hq hv e e0 e1
    refine am_iload rfl dX10_begin_41 ?_
    refine mm_iconst dX10_begin_43 ?_
    refine mm_jge (tgt := 77) dX10_begin_44 (by decide) (by omega) (by omega) (fun h44 => ?_) (fun h44 => ?_)
    · have h5 : v = 5 := by omega
      subst h5
      exact kk S' _ e e0 e1
    · refine am_aload_n rfl dX10_begin_47 ?_
      refine mm_getR dX10_begin_48 fl_X10_132 (md_0 hm) mdf_49 ?_
      refine mm_iconst dX10_begin_51 ?_
      refine am_aload_n rfl dX10_begin_52 ?_
      refine mm_getI dX10_begin_53 fl_X10_346 (md_0 hm) mdf_45 ?_
      rw [e 181 (by omega), hd]
      refine mm_imul dX10_begin_56 ?_
      refine am_iload rfl dX10_begin_57 ?_
      refine mm_iadd dX10_begin_59 ?_
      refine am_iload rfl dX10_begin_60 ?_
      refine mm_zne (tgt := 69) dX10_begin_62 (by decide) (by omega) (fun h62 => ?_) (fun h62 => ?_)
      · refine mm_iconst dX10_begin_69 ?_
        rw [show (5 : Int) * (k : Int) + (v : Int) = ((5 * k + v : Nat) : Int) by omega]
        refine mm_ias dX10_begin_70 (md_names hm) (by omega) ?_
        rw [Int.toNat_natCast]
        refine mm_inc4 dX10_begin_71 (Nat.le_of_ble_eq_true rfl) (am_c1i _) ?_
        refine am_goto (tgt := 41) dX10_begin_74 (by decide) ?_
        first
          | (refine ih (v + 1) (up2 S' 220 (5 * k + v) t) (by omega) (by omega) (fun b hb => by rw [up2_row hb]; exact e b hb) (fun i hi => by rw [up2_rc (by omega)]; exact e0 i (by omega)) (fun u hu => ?_)
             by_cases z : u = v
             · subst z; rw [up2_same, if_pos (by omega)]
             · rw [up2_rc (by omega)]; exact e1 u (by omega))
          | (refine ih (v + 1) (up2 S' 220 (5 * k + v) (-1)) (by omega) (by omega) (fun b hb => by rw [up2_row hb]; exact e b hb) (fun i hi => by rw [up2_rc (by omega)]; exact e0 i (by omega)) (fun u hu => ?_)
             by_cases z : u = v
             · subst z; rw [up2_same, if_neg (by omega)]
             · rw [up2_rc (by omega)]; exact e1 u (by omega))
      · refine am_iload_n rfl dX10_begin_65 ?_
        refine am_goto (tgt := 70) dX10_begin_66 (by decide) ?_
        rw [show (5 : Int) * (k : Int) + (v : Int) = ((5 * k + v : Nat) : Int) by omega]
        refine mm_ias dX10_begin_70 (md_names hm) (by omega) ?_
        rw [Int.toNat_natCast]
        refine mm_inc4 dX10_begin_71 (Nat.le_of_ble_eq_true rfl) (am_c1i _) ?_
        refine am_goto (tgt := 41) dX10_begin_74 (by decide) ?_
        first
          | (refine ih (v + 1) (up2 S' 220 (5 * k + v) t) (by omega) (by omega) (fun b hb => by rw [up2_row hb]; exact e b hb) (fun i hi => by rw [up2_rc (by omega)]; exact e0 i (by omega)) (fun u hu => ?_)
             by_cases z : u = v
             · subst z; rw [up2_same, if_pos (by omega)]
             · rw [up2_rc (by omega)]; exact e1 u (by omega))
          | (refine ih (v + 1) (up2 S' 220 (5 * k + v) (-1)) (by omega) (by omega) (fun b hb => by rw [up2_row hb]; exact e b hb) (fun i hi => by rw [up2_rc (by omega)]; exact e0 i (by omega)) (fun u hu => ?_)
             by_cases z : u = v
             · subst z; rw [up2_same, if_neg (by omega)]
             · rw [up2_rc (by omega)]; exact e1 u (by omega))
set_option maxRecDepth 100000 in
set_option maxHeartbeats 4000000 in
theorem l_be2 {sh : List mm_H} {L : mm_L} (hm : mdS sh) {k : Nat} (hk : k < 10) {r t : Int} {g : Prop} [Decidable g] {S : mm_S} (hd : S 181 45 = (k : Int)) {Q : Option Value → am_M → Prop} (kk : ∀ S2 l4, (∀ b, b ≠ 221 → S2 b = S b) → (∀ i, i < 6 * k ∨ 6 * k + 6 ≤ i → S2 221 i = S 221 i) → (∀ u, u < 6 → S2 221 (6 * k + u) = 0) → am_AW eX10_begin (mm sh S2 L) 109 [some (.ref 181), some (.int (iI r)), some (.int (iI t)), some (.int (iI (b2 g))), l4] [] Q) : ∀ (q : Nat) (v : Nat) (S' : mm_S), 6 - v < q → (v ≤ 6) → (∀ b, b ≠ 221 → S' b = S b) → (∀ i, i < 6 * k ∨ 6 * k + v ≤ i → S' 221 i = S 221 i) → (∀ u, u < v → S' 221 (6 * k + u) = 0) → am_AW eX10_begin (mm sh S' L) 80 [some (.ref 181), some (.int (iI r)), some (.int (iI t)), some (.int (iI (b2 g))), some (.int (iI (v : Int)))] [] Q := by
  intro q
  induction q with
  | zero =>
    intro v S' hq
    exact absurd hq (Nat.not_lt_zero _)
  | succ q ih =>
    intro v S' hq hv e e0 e1
    refine am_iload rfl dX10_begin_80 ?_
    refine mm_bipush dX10_begin_82 (by decide) ?_
    refine mm_jge (tgt := 109) dX10_begin_84 (by decide) (by omega) (by omega) (fun h84 => ?_) (fun h84 => ?_)
    · have h5 : v = 6 := by omega
      subst h5
      exact kk S' _ e e0 e1
    · refine am_aload_n rfl dX10_begin_87 ?_
      refine mm_getR dX10_begin_88 fl_X10_135 (md_0 hm) mdf_50 ?_
      refine mm_bipush dX10_begin_91 (by decide) ?_
      refine am_aload_n rfl dX10_begin_93 ?_
      refine mm_getI dX10_begin_94 fl_X10_346 (md_0 hm) mdf_45 ?_
      rw [e 181 (by omega), hd]
      refine mm_imul dX10_begin_97 ?_
      refine am_iload rfl dX10_begin_98 ?_
      refine mm_iadd dX10_begin_100 ?_
      refine mm_iconst dX10_begin_101 ?_
      rw [show (6 : Int) * (k : Int) + (v : Int) = ((6 * k + v : Nat) : Int) by omega]
      refine mm_ias dX10_begin_102 (md_goesOn hm) (by omega) ?_
      rw [Int.toNat_natCast]
      refine mm_inc4 dX10_begin_103 (Nat.le_of_ble_eq_true rfl) (am_c1i _) ?_
      refine am_goto (tgt := 80) dX10_begin_106 (by decide) ?_
      refine ih (v + 1) (up2 S' 221 (6 * k + v) 0) (by omega) (by omega) (fun b hb => by rw [up2_row hb]; exact e b hb) (fun i hi => by rw [up2_rc (by omega)]; exact e0 i (by omega)) (fun u hu => ?_)
      by_cases z : u = v
      · subst z; rw [up2_same]
      · rw [up2_rc (by omega)]; exact e1 u (by omega)
set_option maxRecDepth 100000 in
set_option maxHeartbeats 4000000 in
theorem l_be3 {sh : List mm_H} {L : mm_L} (hm : mdS sh) {k : Nat} (hk : k < 10) {r t : Int} {g : Prop} [Decidable g] {S : mm_S} (hd : S 181 45 = (k : Int)) (h55 : Rg (S 181 55)) (htb : g → 0 ≤ t ∧ t < 500) {l4 : Option Value} {Q : Option Value → am_M → Prop} (kk : ∀ S2, (g ∧ S2 = up2 (up2 (up2 S 216 t.toNat (k : Int)) 181 45 ((k : Int) + 1)) 181 55 (max (S 181 55) ((k : Int) + 1)) ∨ ¬ g ∧ S2 = up2 (up2 S 181 45 ((k : Int) + 1)) 181 55 (max (S 181 55) ((k : Int) + 1))) → Q none (mm sh S2 L)) : am_AW eX10_begin (mm sh S L) 109 [some (.ref 181), some (.int (iI r)), some (.int (iI t)), some (.int (iI (b2 g))), l4] [] Q := by
  refine am_iload_n rfl dX10_begin_109 ?_
  refine mm_beq (tgt := 123) dX10_begin_110 (by decide) (fun h110 => ?_) (fun h110 => ?_)
  · refine am_aload_n rfl dX10_begin_123 ?_
    refine am_dup rfl dX10_begin_124 ?_
    refine mm_getI dX10_begin_125 fl_X10_346 (md_0 hm) mdf_45 ?_
    first
      | rw [hd]
      | rw [up2_rd (by omega), hd]
    refine mm_iconst dX10_begin_128 ?_
    refine mm_iadd dX10_begin_129 ?_
    refine mm_putI dX10_begin_130 fp_X10_346 (md_0 hm) mdf_45 ?_
    refine am_aload_n rfl dX10_begin_133 ?_
    refine am_aload_n rfl dX10_begin_134 ?_
    refine mm_getI dX10_begin_135 fl_X10_346 (md_0 hm) mdf_45 ?_
    rw [up2_same]
    refine am_aload_n rfl dX10_begin_138 ?_
    refine mm_getI dX10_begin_139 fl_X10_355 (md_0 hm) mdf_55 ?_
    first
      | rw [up2_rc (by omega), up2_rd (by omega)]
      | rw [up2_rc (by omega)]
    refine mm_jle (tgt := 152) dX10_begin_142 (by decide) (by omega) (by omega) (fun h142 => ?_) (fun h142 => ?_)
    · refine am_aload_n rfl dX10_begin_152 ?_
      refine mm_getI dX10_begin_153 fl_X10_355 (md_0 hm) mdf_55 ?_
      first
        | rw [up2_rc (by omega), up2_rd (by omega)]
        | rw [up2_rc (by omega)]
      refine mm_putI dX10_begin_156 fp_X10_355 (md_0 hm) mdf_55 ?_
      refine am_return dX10_begin_159 rfl ?_
      have h142' := h142
      first
        | exact kk _ (Or.inl ⟨(show g from h110), by rw [show max (S 181 55) ((k : Int) + 1) = (k : Int) + 1 by omega]⟩)
        | exact kk _ (Or.inr ⟨(show ¬ g from h110), by rw [show max (S 181 55) ((k : Int) + 1) = (k : Int) + 1 by omega]⟩)
        | exact kk _ (Or.inl ⟨(show g from h110), by rw [show max (S 181 55) ((k : Int) + 1) = S 181 55 by omega]⟩)
        | exact kk _ (Or.inr ⟨(show ¬ g from h110), by rw [show max (S 181 55) ((k : Int) + 1) = S 181 55 by omega]⟩)
    · refine am_aload_n rfl dX10_begin_145 ?_
      refine mm_getI dX10_begin_146 fl_X10_346 (md_0 hm) mdf_45 ?_
      rw [up2_same]
      refine am_goto (tgt := 156) dX10_begin_149 (by decide) ?_
      refine mm_putI dX10_begin_156 fp_X10_355 (md_0 hm) mdf_55 ?_
      refine am_return dX10_begin_159 rfl ?_
      have h142' := h142
      first
        | exact kk _ (Or.inl ⟨(show g from h110), by rw [show max (S 181 55) ((k : Int) + 1) = (k : Int) + 1 by omega]⟩)
        | exact kk _ (Or.inr ⟨(show ¬ g from h110), by rw [show max (S 181 55) ((k : Int) + 1) = (k : Int) + 1 by omega]⟩)
        | exact kk _ (Or.inl ⟨(show g from h110), by rw [show max (S 181 55) ((k : Int) + 1) = S 181 55 by omega]⟩)
        | exact kk _ (Or.inr ⟨(show ¬ g from h110), by rw [show max (S 181 55) ((k : Int) + 1) = S 181 55 by omega]⟩)
  · refine am_aload_n rfl dX10_begin_113 ?_
    refine mm_getR dX10_begin_114 fl_X10_120 (md_0 hm) mdf_44 ?_
    refine am_iload_n rfl dX10_begin_117 ?_
    refine am_aload_n rfl dX10_begin_118 ?_
    skip
    refine mm_getI dX10_begin_119 fl_X10_346 (md_0 hm) mdf_45 ?_
    rw [hd]
    refine mm_ias dX10_begin_122 (md_thingOf hm) (by have := htb h110; omega) ?_
    skip
    refine am_aload_n rfl dX10_begin_123 ?_
    refine am_dup rfl dX10_begin_124 ?_
    refine mm_getI dX10_begin_125 fl_X10_346 (md_0 hm) mdf_45 ?_
    first
      | rw [hd]
      | rw [up2_rd (by omega), hd]
    refine mm_iconst dX10_begin_128 ?_
    refine mm_iadd dX10_begin_129 ?_
    refine mm_putI dX10_begin_130 fp_X10_346 (md_0 hm) mdf_45 ?_
    refine am_aload_n rfl dX10_begin_133 ?_
    refine am_aload_n rfl dX10_begin_134 ?_
    refine mm_getI dX10_begin_135 fl_X10_346 (md_0 hm) mdf_45 ?_
    rw [up2_same]
    refine am_aload_n rfl dX10_begin_138 ?_
    refine mm_getI dX10_begin_139 fl_X10_355 (md_0 hm) mdf_55 ?_
    first
      | rw [up2_rc (by omega), up2_rd (by omega)]
      | rw [up2_rc (by omega)]
    refine mm_jle (tgt := 152) dX10_begin_142 (by decide) (by omega) (by omega) (fun h142 => ?_) (fun h142 => ?_)
    · refine am_aload_n rfl dX10_begin_152 ?_
      refine mm_getI dX10_begin_153 fl_X10_355 (md_0 hm) mdf_55 ?_
      first
        | rw [up2_rc (by omega), up2_rd (by omega)]
        | rw [up2_rc (by omega)]
      refine mm_putI dX10_begin_156 fp_X10_355 (md_0 hm) mdf_55 ?_
      refine am_return dX10_begin_159 rfl ?_
      have h142' := h142
      first
        | exact kk _ (Or.inl ⟨(show g from h110), by rw [show max (S 181 55) ((k : Int) + 1) = (k : Int) + 1 by omega]⟩)
        | exact kk _ (Or.inr ⟨(show ¬ g from h110), by rw [show max (S 181 55) ((k : Int) + 1) = (k : Int) + 1 by omega]⟩)
        | exact kk _ (Or.inl ⟨(show g from h110), by rw [show max (S 181 55) ((k : Int) + 1) = S 181 55 by omega]⟩)
        | exact kk _ (Or.inr ⟨(show ¬ g from h110), by rw [show max (S 181 55) ((k : Int) + 1) = S 181 55 by omega]⟩)
    · refine am_aload_n rfl dX10_begin_145 ?_
      refine mm_getI dX10_begin_146 fl_X10_346 (md_0 hm) mdf_45 ?_
      rw [up2_same]
      refine am_goto (tgt := 156) dX10_begin_149 (by decide) ?_
      refine mm_putI dX10_begin_156 fp_X10_355 (md_0 hm) mdf_55 ?_
      refine am_return dX10_begin_159 rfl ?_
      have h142' := h142
      first
        | exact kk _ (Or.inl ⟨(show g from h110), by rw [show max (S 181 55) ((k : Int) + 1) = (k : Int) + 1 by omega]⟩)
        | exact kk _ (Or.inr ⟨(show ¬ g from h110), by rw [show max (S 181 55) ((k : Int) + 1) = (k : Int) + 1 by omega]⟩)
        | exact kk _ (Or.inl ⟨(show g from h110), by rw [show max (S 181 55) ((k : Int) + 1) = S 181 55 by omega]⟩)
        | exact kk _ (Or.inr ⟨(show ¬ g from h110), by rw [show max (S 181 55) ((k : Int) + 1) = S 181 55 by omega]⟩)
set_option maxRecDepth 100000 in
set_option maxHeartbeats 4000000 in
theorem m_begin {sh : List mm_H} {L : mm_L} (hm : mdS sh) {k : Nat} (hk : k < 10) {r t : Int} {g : Prop} [Decidable g] {S : mm_S} (hd : S 181 45 = (k : Int)) (h55 : Rg (S 181 55)) (htb : g → 0 ≤ t ∧ t < 500) : am_E eX10_begin [.ref 181, .int (iI r), .int (iI t), .int (iI (b2 g))] (mm sh S L) (fun r0 M' => r0 = none ∧ ∃ S', M' = mm sh S' L ∧ beG S S' k r t g) := by
  refine am_enter rfl rfl (Nat.le_of_ble_eq_true rfl) ?_
  refine am_aload_n rfl dX10_begin_0 ?_
  refine mm_getR dX10_begin_1 fl_X10_123 (md_0 hm) mdf_46 ?_
  refine am_aload_n rfl dX10_begin_4 ?_
  refine mm_getI dX10_begin_5 fl_X10_346 (md_0 hm) mdf_45 ?_
  rw [hd]
  refine am_iload_n rfl dX10_begin_8 ?_
  refine mm_ias dX10_begin_9 (md_atRoutine hm) (by omega) ?_
  rw [Int.toNat_natCast]
  refine am_aload_n rfl dX10_begin_10 ?_
  refine mm_getR dX10_begin_11 fl_X10_126 (md_0 hm) mdf_47 ?_
  refine am_aload_n rfl dX10_begin_14 ?_
  refine mm_getI dX10_begin_15 fl_X10_346 (md_0 hm) mdf_45 ?_
  rw [up2_rd (by omega), hd]
  refine mm_iconst dX10_begin_18 ?_
  refine mm_ias dX10_begin_19 (md_atPlace hm) (by omega) ?_
  rw [Int.toNat_natCast]
  refine am_aload_n rfl dX10_begin_20 ?_
  refine mm_getR dX10_begin_21 fl_X10_129 (md_0 hm) mdf_48 ?_
  refine am_aload_n rfl dX10_begin_24 ?_
  refine mm_getI dX10_begin_25 fl_X10_346 (md_0 hm) mdf_45 ?_
  rw [up2_rd (by omega), up2_rd (by omega), hd]
  refine am_iload_n rfl dX10_begin_28 ?_
  refine mm_beq (tgt := 36) dX10_begin_29 (by decide) (fun h29 => ?_) (fun h29 => ?_)
  · refine am_iload_n rfl dX10_begin_36 ?_
    refine mm_ias dX10_begin_37 (md_atLent hm) (by omega) ?_
    rw [Int.toNat_natCast]
    refine mm_iconst dX10_begin_38 ?_
    refine am_ist4 dX10_begin_39 (Nat.le_of_ble_eq_true rfl) (am_c1i _) ?_
    obtain ⟨x, hx⟩ : ∃ x : Int, x = if g then -1 else t := ⟨_, rfl⟩
    first
      | rw [show up2 (up2 (up2 S 217 k r) 218 k 0) 219 k (-1) = up2 (up2 (up2 S 217 k r) 218 k 0) 219 k x by rw [hx, if_pos h29]]
      | rw [show up2 (up2 (up2 S 217 k r) 218 k 0) 219 k t = up2 (up2 (up2 S 217 k r) 218 k 0) 219 k x by rw [hx, if_neg h29]]
    obtain ⟨S1, hS1⟩ : ∃ S1, up2 (up2 (up2 S 217 k r) 218 k 0) 219 k x = S1 := ⟨_, rfl⟩
    have er : ∀ b, b ≠ 217 → b ≠ 218 → b ≠ 219 → S1 b = S b := fun b y1 y2 y3 => by rw [← hS1, up2_row y3, up2_row y2, up2_row y1]
    have e7 : ∀ i, i ≠ k → S1 217 i = S 217 i := fun i hi => by rw [← hS1, up2_rd (by omega), up2_rd (by omega), up2_rc hi]
    have e7k : S1 217 k = r := by rw [← hS1, up2_rd (by omega), up2_rd (by omega), up2_same]
    have e8 : ∀ i, i ≠ k → S1 218 i = S 218 i := fun i hi => by rw [← hS1, up2_rd (by omega), up2_rc hi, up2_rd (by omega)]
    have e8k : S1 218 k = 0 := by rw [← hS1, up2_rd (by omega), up2_same]
    have e9 : ∀ i, i ≠ k → S1 219 i = S 219 i := fun i hi => by rw [← hS1, up2_rc hi, up2_rd (by omega), up2_rd (by omega)]
    have e9k : S1 219 k = if g then -1 else t := by rw [← hS1, up2_same, hx]
    rw [hS1]
    clear hS1
    refine l_be1 (S := S1) hm hk (by rw [er 181 (by omega) (by omega) (by omega)]; exact hd) (fun S2 l4 a1 a2 a3 => ?_) 6 0 S1 (by omega) (by omega) (fun _ _ => rfl) (fun _ _ => rfl) (fun u hu => absurd hu (Nat.not_lt_zero u))
    refine mm_iconst dX10_begin_77 ?_
    refine am_ist4 dX10_begin_78 (Nat.le_of_ble_eq_true rfl) (am_c1i _) ?_
    have d2 : S2 181 45 = (k : Int) := by rw [a1 181 (by omega), er 181 (by omega) (by omega) (by omega)]; exact hd
    refine l_be2 (S := S2) hm hk d2 (fun S3 l4' b1 b2 b3 => ?_) 7 0 S2 (by omega) (by omega) (fun _ _ => rfl) (fun _ _ => rfl) (fun u hu => absurd hu (Nat.not_lt_zero u))
    have r3 : ∀ b, b ≠ 221 → b ≠ 220 → b ≠ 217 → b ≠ 218 → b ≠ 219 → S3 b = S b := fun b y1 y2 y3 y4 y5 => by rw [b1 b y1, a1 b y2, er b y3 y4 y5]
    refine l_be3 (S := S3) hm hk (by rw [b1 181 (by omega)]; exact d2) (by rw [r3 181 (by omega) (by omega) (by omega) (by omega) (by omega)]; exact h55) htb (fun S4 hS4 => ?_)
    refine ⟨rfl, S4, rfl, ?_⟩
    have r4 : ∀ b, b ≠ 181 → b ≠ 216 → S4 b = S3 b := fun b y1 y2 => by
      rcases hS4 with ⟨-, z⟩ | ⟨-, z⟩
      · rw [z, up2_row y1, up2_row y1, up2_row y2]
      · rw [z, up2_row y1, up2_row y1]
    have c4 : ∀ j, j ≠ 45 → j ≠ 55 → S4 181 j = S3 181 j := fun j y1 y2 => by
      rcases hS4 with ⟨-, z⟩ | ⟨-, z⟩
      · rw [z, up2_rc y2, up2_rc y1, up2_rd (by omega)]
      · rw [z, up2_rc y2, up2_rc y1]
    have c45 : S4 181 45 = (k : Int) + 1 := by
      rcases hS4 with ⟨-, z⟩ | ⟨-, z⟩
      · rw [z, up2_rc (by omega), up2_same]
      · rw [z, up2_rc (by omega), up2_same]
    have e81 := r3 181 (by omega) (by omega) (by omega) (by omega) (by omega)
    have c55 : S4 181 55 = max (S 181 55) ((k : Int) + 1) := by
      rcases hS4 with ⟨-, z⟩ | ⟨-, z⟩
      · rw [z, up2_same, e81]
      · rw [z, up2_same, e81]
    have e16 := r3 216 (by omega) (by omega) (by omega) (by omega) (by omega)
    refine ⟨fun b y1 y2 => by rw [r4 b y1 (by omega)]; exact r3 b (by omega) (by omega) (by omega) (by omega) (by omega), fun j y1 y2 => by rw [c4 j y1 y2, e81], ⟨c45, c55⟩, ⟨fun i hi => by rw [r4 217 (by omega) (by omega), b1 217 (by omega), a1 217 (by omega)]; exact e7 i hi, by rw [r4 217 (by omega) (by omega), b1 217 (by omega), a1 217 (by omega)]; exact e7k⟩, ⟨fun i hi => by rw [r4 218 (by omega) (by omega), b1 218 (by omega), a1 218 (by omega)]; exact e8 i hi, by rw [r4 218 (by omega) (by omega), b1 218 (by omega), a1 218 (by omega)]; exact e8k⟩, ⟨fun i hi => by rw [r4 219 (by omega) (by omega), b1 219 (by omega), a1 219 (by omega)]; exact e9 i hi, by rw [r4 219 (by omega) (by omega), b1 219 (by omega), a1 219 (by omega)]; exact e9k⟩, ⟨fun i hi => by rw [r4 220 (by omega) (by omega), b1 220 (by omega), a2 i hi, er 220 (by omega) (by omega) (by omega)], fun v hv => by rw [r4 220 (by omega) (by omega), b1 220 (by omega)]; exact a3 v hv⟩, ⟨fun i hi => by rw [r4 221 (by omega) (by omega), b2 i hi, a1 221 (by omega), er 221 (by omega) (by omega) (by omega)], fun j hj => by rw [r4 221 (by omega) (by omega)]; exact b3 j hj⟩, ?_, ?_⟩
    · intro i hi
      rcases hS4 with ⟨-, z⟩ | ⟨-, z⟩
      · rw [z, up2_rd (by omega), up2_rd (by omega), up2_rc hi, e16]
      · rw [z, up2_rd (by omega), up2_rd (by omega), e16]
    · rcases hS4 with ⟨gg, z⟩ | ⟨gg, z⟩
      · rw [z, if_pos gg, up2_rd (by omega), up2_rd (by omega), up2_same]
      · rw [z, if_neg gg, up2_rd (by omega), up2_rd (by omega), e16]
  · refine mm_iconst dX10_begin_32 ?_
    refine am_goto (tgt := 37) dX10_begin_33 (by decide) ?_
    refine mm_ias dX10_begin_37 (md_atLent hm) (by omega) ?_
    rw [Int.toNat_natCast]
    refine mm_iconst dX10_begin_38 ?_
    refine am_ist4 dX10_begin_39 (Nat.le_of_ble_eq_true rfl) (am_c1i _) ?_
    obtain ⟨x, hx⟩ : ∃ x : Int, x = if g then -1 else t := ⟨_, rfl⟩
    first
      | rw [show up2 (up2 (up2 S 217 k r) 218 k 0) 219 k (-1) = up2 (up2 (up2 S 217 k r) 218 k 0) 219 k x by rw [hx, if_pos h29]]
      | rw [show up2 (up2 (up2 S 217 k r) 218 k 0) 219 k t = up2 (up2 (up2 S 217 k r) 218 k 0) 219 k x by rw [hx, if_neg h29]]
    obtain ⟨S1, hS1⟩ : ∃ S1, up2 (up2 (up2 S 217 k r) 218 k 0) 219 k x = S1 := ⟨_, rfl⟩
    have er : ∀ b, b ≠ 217 → b ≠ 218 → b ≠ 219 → S1 b = S b := fun b y1 y2 y3 => by rw [← hS1, up2_row y3, up2_row y2, up2_row y1]
    have e7 : ∀ i, i ≠ k → S1 217 i = S 217 i := fun i hi => by rw [← hS1, up2_rd (by omega), up2_rd (by omega), up2_rc hi]
    have e7k : S1 217 k = r := by rw [← hS1, up2_rd (by omega), up2_rd (by omega), up2_same]
    have e8 : ∀ i, i ≠ k → S1 218 i = S 218 i := fun i hi => by rw [← hS1, up2_rd (by omega), up2_rc hi, up2_rd (by omega)]
    have e8k : S1 218 k = 0 := by rw [← hS1, up2_rd (by omega), up2_same]
    have e9 : ∀ i, i ≠ k → S1 219 i = S 219 i := fun i hi => by rw [← hS1, up2_rc hi, up2_rd (by omega), up2_rd (by omega)]
    have e9k : S1 219 k = if g then -1 else t := by rw [← hS1, up2_same, hx]
    rw [hS1]
    clear hS1
    refine l_be1 (S := S1) hm hk (by rw [er 181 (by omega) (by omega) (by omega)]; exact hd) (fun S2 l4 a1 a2 a3 => ?_) 6 0 S1 (by omega) (by omega) (fun _ _ => rfl) (fun _ _ => rfl) (fun u hu => absurd hu (Nat.not_lt_zero u))
    refine mm_iconst dX10_begin_77 ?_
    refine am_ist4 dX10_begin_78 (Nat.le_of_ble_eq_true rfl) (am_c1i _) ?_
    have d2 : S2 181 45 = (k : Int) := by rw [a1 181 (by omega), er 181 (by omega) (by omega) (by omega)]; exact hd
    refine l_be2 (S := S2) hm hk d2 (fun S3 l4' b1 b2 b3 => ?_) 7 0 S2 (by omega) (by omega) (fun _ _ => rfl) (fun _ _ => rfl) (fun u hu => absurd hu (Nat.not_lt_zero u))
    have r3 : ∀ b, b ≠ 221 → b ≠ 220 → b ≠ 217 → b ≠ 218 → b ≠ 219 → S3 b = S b := fun b y1 y2 y3 y4 y5 => by rw [b1 b y1, a1 b y2, er b y3 y4 y5]
    refine l_be3 (S := S3) hm hk (by rw [b1 181 (by omega)]; exact d2) (by rw [r3 181 (by omega) (by omega) (by omega) (by omega) (by omega)]; exact h55) htb (fun S4 hS4 => ?_)
    refine ⟨rfl, S4, rfl, ?_⟩
    have r4 : ∀ b, b ≠ 181 → b ≠ 216 → S4 b = S3 b := fun b y1 y2 => by
      rcases hS4 with ⟨-, z⟩ | ⟨-, z⟩
      · rw [z, up2_row y1, up2_row y1, up2_row y2]
      · rw [z, up2_row y1, up2_row y1]
    have c4 : ∀ j, j ≠ 45 → j ≠ 55 → S4 181 j = S3 181 j := fun j y1 y2 => by
      rcases hS4 with ⟨-, z⟩ | ⟨-, z⟩
      · rw [z, up2_rc y2, up2_rc y1, up2_rd (by omega)]
      · rw [z, up2_rc y2, up2_rc y1]
    have c45 : S4 181 45 = (k : Int) + 1 := by
      rcases hS4 with ⟨-, z⟩ | ⟨-, z⟩
      · rw [z, up2_rc (by omega), up2_same]
      · rw [z, up2_rc (by omega), up2_same]
    have e81 := r3 181 (by omega) (by omega) (by omega) (by omega) (by omega)
    have c55 : S4 181 55 = max (S 181 55) ((k : Int) + 1) := by
      rcases hS4 with ⟨-, z⟩ | ⟨-, z⟩
      · rw [z, up2_same, e81]
      · rw [z, up2_same, e81]
    have e16 := r3 216 (by omega) (by omega) (by omega) (by omega) (by omega)
    refine ⟨fun b y1 y2 => by rw [r4 b y1 (by omega)]; exact r3 b (by omega) (by omega) (by omega) (by omega) (by omega), fun j y1 y2 => by rw [c4 j y1 y2, e81], ⟨c45, c55⟩, ⟨fun i hi => by rw [r4 217 (by omega) (by omega), b1 217 (by omega), a1 217 (by omega)]; exact e7 i hi, by rw [r4 217 (by omega) (by omega), b1 217 (by omega), a1 217 (by omega)]; exact e7k⟩, ⟨fun i hi => by rw [r4 218 (by omega) (by omega), b1 218 (by omega), a1 218 (by omega)]; exact e8 i hi, by rw [r4 218 (by omega) (by omega), b1 218 (by omega), a1 218 (by omega)]; exact e8k⟩, ⟨fun i hi => by rw [r4 219 (by omega) (by omega), b1 219 (by omega), a1 219 (by omega)]; exact e9 i hi, by rw [r4 219 (by omega) (by omega), b1 219 (by omega), a1 219 (by omega)]; exact e9k⟩, ⟨fun i hi => by rw [r4 220 (by omega) (by omega), b1 220 (by omega), a2 i hi, er 220 (by omega) (by omega) (by omega)], fun v hv => by rw [r4 220 (by omega) (by omega), b1 220 (by omega)]; exact a3 v hv⟩, ⟨fun i hi => by rw [r4 221 (by omega) (by omega), b2 i hi, a1 221 (by omega), er 221 (by omega) (by omega) (by omega)], fun j hj => by rw [r4 221 (by omega) (by omega)]; exact b3 j hj⟩, ?_, ?_⟩
    · intro i hi
      rcases hS4 with ⟨-, z⟩ | ⟨-, z⟩
      · rw [z, up2_rd (by omega), up2_rd (by omega), up2_rc hi, e16]
      · rw [z, up2_rd (by omega), up2_rd (by omega), e16]
    · rcases hS4 with ⟨gg, z⟩ | ⟨gg, z⟩
      · rw [z, if_pos gg, up2_rd (by omega), up2_rd (by omega), up2_same]
      · rw [z, if_neg gg, up2_rd (by omega), up2_rd (by omega), e16]
