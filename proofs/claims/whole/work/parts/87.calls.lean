/-! ===== calls ===== -/
theorem caF_sp (S : mm_S) (so r k st : Int) : ∀ (n c : Nat), (caF S so r k st n c = -1 ∧ ∀ d, c ≤ d → d < c + n → ¬ (S 203 d = so ∧ S 204 d = r ∧ S 205 d = k ∧ S 206 d = st)) ∨ ∃ d : Nat, caF S so r k st n c = d ∧ c ≤ d ∧ d < c + n ∧ S 203 d = so ∧ S 204 d = r ∧ S 205 d = k ∧ S 206 d = st
  | 0, c => Or.inl ⟨rfl, fun d h1 h2 => by omega⟩
  | n + 1, c => by
    simp only [caF]
    by_cases e : S 203 c = so ∧ S 204 c = r ∧ S 205 c = k ∧ S 206 c = st
    · rw [if_pos e]
      exact Or.inr ⟨c, rfl, Nat.le_refl _, by omega, e⟩
    · rw [if_neg e]
      rcases caF_sp S so r k st n (c + 1) with ⟨h1, h2⟩ | ⟨d, h1, h2, h3, h4⟩
      · refine Or.inl ⟨h1, fun d g1 g2 => ?_⟩
        by_cases q : d = c
        · rw [q]; exact e
        · exact h2 d (by omega) (by omega)
      · exact Or.inr ⟨d, h1, by omega, by omega, h4⟩
def tzS (S : mm_S) (c n : Nat) : mm_S := fun b i => if b = 212 ∧ 4096 * c ≤ i ∧ i < 4096 * c + n then 0 else S b i
def voS (S : mm_S) (so : Int) (n : Nat) : mm_S := fun b i => if b = 198 ∧ i < n then (if i = 0 then so else 0) else if b = 199 ∧ i < n then 0 else S b i
def pzS (S : mm_S) (n : Nat) : mm_S := fun b i => if b = 200 ∧ i < n then 0 else S b i
theorem tzS_0 (S : mm_S) (c : Nat) : tzS S c 0 = S := by
  funext b i
  unfold tzS
  rw [if_neg (by omega)]
theorem tzS_s (S : mm_S) (c n : Nat) : up2 (tzS S c n) 212 (4096 * c + n) 0 = tzS S c (n + 1) := by
  funext b i
  simp only [tzS, up2]
  by_cases h : b = 212
  · by_cases h2 : i = 4096 * c + n
    · rw [if_pos ⟨h, h2⟩, if_pos ⟨h, by omega, by omega⟩]
    · rw [if_neg (fun z => h2 z.2)]
      by_cases h3 : 4096 * c ≤ i ∧ i < 4096 * c + n
      · rw [if_pos ⟨h, h3⟩, if_pos ⟨h, by omega, by omega⟩]
      · rw [if_neg (fun z => h3 z.2), if_neg (fun z => h3 (by have := z.2; omega))]
  · rw [if_neg (fun z => h z.1), if_neg (fun z => h z.1), if_neg (fun z => h z.1)]
theorem voS_0 (S : mm_S) (so : Int) : voS S so 0 = S := by funext b i; simp [voS]
theorem voS_s (S : mm_S) (so : Int) (n : Nat) {x : Int} (hx : x = if n = 0 then so else 0) : up2 (up2 (voS S so n) 198 n x) 199 n 0 = voS S so (n + 1) := by
  subst hx
  funext b i
  unfold voS up2
  by_cases h1 : b = 198
  · subst h1
    by_cases h2 : i = n
    · subst h2; simp
    · simp [h2, show (i < n + 1) ↔ i < n by omega]
  · by_cases h3 : b = 199
    · subst h3
      by_cases h2 : i = n
      · subst h2; simp
      · simp [h2, show (i < n + 1) ↔ i < n by omega]
    · simp [h1, h3]
theorem pzS_0 (S : mm_S) : pzS S 0 = S := by funext b i; simp [pzS]
theorem pzS_s (S : mm_S) (n : Nat) : up2 (pzS S n) 200 n 0 = pzS S (n + 1) := by
  funext b i
  unfold pzS up2
  by_cases h1 : b = 200
  · subst h1
    by_cases h2 : i = n
    · subst h2; simp
    · simp [h2, show (i < n + 1) ↔ i < n by omega]
  · simp [h1]
/-- a CASE is entered, its row of the table is open, the registers are at its beginning -/
def caI (S U : mm_S) (C : Nat) (κ : kyT) : Prop := (∀ b, b < 198 ∨ 213 ≤ b → b ≠ 181 → U b = S b) ∧ (U 210 = S 210) ∧ (∀ j, j ≠ 22 → j ≠ 27 → U 181 j = S 181 j) ∧ U 181 27 = (C : Int) + 1 ∧ (U 203 C = κ.1 ∧ U 204 C = κ.2.1 ∧ U 205 C = κ.2.2.1 ∧ U 206 C = κ.2.2.2 ∧ U 207 C = 0 ∧ U 208 C = 0 ∧ U 209 C = 0) ∧ (∀ d, d ≠ C → U 203 d = S 203 d ∧ U 204 d = S 204 d ∧ U 205 d = S 205 d ∧ U 206 d = S 206 d ∧ U 207 d = S 207 d ∧ U 208 d = S 208 d ∧ U 209 d = S 209 d) ∧ (∀ i, U 212 i = if 4096 * C ≤ i ∧ i < 4096 * C + 4096 then 0 else S 212 i) ∧ rgS U = bgR κ
section
variable {S U : mm_S} {L : mm_L} {X : XT} {F : FT} {W : WT} {C : Nat} {κ : kyT}
theorem ca_E (h : caI S U C κ) : bkE S U := ⟨fun b x y => h.1 b (Or.inl y) (by omega), h.2.2.1 0 (by omega) (by omega), h.2.2.1 9 (by omega) (by omega)⟩
theorem ca_kC (h : caI S U C κ) : keyM U C = κ := by
  obtain ⟨-, -, -, -, h5, -⟩ := h
  unfold keyM
  rw [h5.1, h5.2.1, h5.2.2.1, h5.2.2.2.1, Int.toNat_natCast]
theorem ca_k (h : caI S U C κ) {d : Nat} (hd : d ≠ C) : keyM U d = keyM S d := by
  have := h.2.2.2.2.2.1 d hd
  unfold keyM
  rw [this.1, this.2.1, this.2.2.1, this.2.2.2.1]
theorem ca_X (h : caI S U C κ) (hC : S 181 27 = C) : XM U L = XM S L := by
  obtain ⟨h1, h2, h3, h4, h5, h6, h7, h8⟩ := id h
  funext κ' pl p
  apply propext
  constructor
  · rintro ⟨d, i, a1, a2, a3, a4, a5⟩
    by_cases e : d = C
    · subst e
      rw [h5.2.2.2.2.2.2] at a3
      omega
    · rw [h4] at a1
      rw [ca_k h e] at a2
      rw [(h6 d e).2.2.2.2.2.2] at a3
      rw [h2] at a4
      exact ⟨d, i, by omega, a2, a3, a4, a5⟩
  · rintro ⟨d, i, a1, a2, a3, a4, a5⟩
    have e : d ≠ C := by omega
    exact ⟨d, i, by rw [h4]; omega, by rw [ca_k h e]; exact a2, by rw [(h6 d e).2.2.2.2.2.2]; exact a3, by rw [h2]; exact a4, a5⟩
theorem ca_F (h : caI S U C κ) (hC : S 181 27 = C) : FM U = FM S := by
  obtain ⟨h1, h2, h3, h4, h5, h6, h7, h8⟩ := id h
  funext κ' b
  apply propext
  constructor
  · rintro ⟨d, a1, a2, a3⟩
    by_cases e : d = C
    · subst e
      rw [h5.2.2.2.2.1, h5.2.2.2.2.2.1] at a3
      rcases a3 with ⟨-, -, z⟩ | ⟨-, z⟩ <;> · unfold bt at z; simp at z
    · rw [h4] at a1
      rw [ca_k h e] at a2
      rw [(h6 d e).2.2.2.2.1, (h6 d e).2.2.2.2.2.1] at a3
      exact ⟨d, by omega, a2, a3⟩
  · rintro ⟨d, a1, a2, a3⟩
    have e : d ≠ C := by omega
    exact ⟨d, by rw [h4]; omega, by rw [ca_k h e]; exact a2, by rw [(h6 d e).2.2.2.2.1, (h6 d e).2.2.2.2.2.1]; exact a3⟩
theorem ca_W (h : caI S U C κ) : WM U = WM S := by unfold WM; rw [h.1 213 (by omega) (by omega)]
theorem ca_im (h : caI S U C κ) (hC : S 181 27 = C) (hC40 : C < 40) (hI : imS S L) (hκ : kyV S κ) (hm : mdV S) (hnew : ∀ d : Nat, d < C → keyM S d ≠ κ) : imS U L := by
  have he := ca_E h
  obtain ⟨h1, h2, h3, h4, h5, h6, h7, h8⟩ := id h
  obtain ⟨i1, i2, i3, i4, i5⟩ := hI
  have u0 := hm.1
  have u1 := hm.2.1
  have hk6 : κ.1 ≠ 0 → κ.2.2.1 < 6 ∧ κ.2.2.2 < 6 := fun z => by
    have g := hκ.2.2.1 z
    have := hm.2.2.1 κ.2.2.1.toNat (by omega)
    omega
  have hk0 : κ.1 = 0 → κ.2.2.1 = 0 ∧ κ.2.2.2 = 0 := fun z => by have := hκ.2.2.2 z; rw [this]; exact ⟨rfl, rfl⟩
  refine ⟨⟨by rw [h4]; omega, fun c hc => ?_⟩, fun c hc => ?_, fun c d hc hd e => ?_, ?_, ?_⟩
  · rw [h4] at hc
    by_cases e : c = C
    · subst e
      rw [h5.1, h5.2.1, h5.2.2.1, h5.2.2.2.1]
      have a1 := hκ.1
      have a2 := hκ.2.1
      by_cases z : κ.1 = 0
      · have := hk0 z; omega
      · have := hk6 z; have g := hκ.2.2.1 z; omega
    · have := h6 c e
      rw [this.1, this.2.1, this.2.2.1, this.2.2.2.1]
      exact i1.2 c (by omega)
  · rw [h4] at hc
    by_cases e : c = C
    · subst e
      rw [ca_kC h]
      refine ⟨kyV_of he hκ, ⟨by rw [h5.2.2.2.2.2.2]; omega, by rw [h5.2.2.2.2.1]; omega, by rw [h5.2.2.2.2.2.1]; omega⟩, ?_, fun i hi => ?_, fun i j hi => ?_⟩
      · rw [h5.2.2.2.2.2.2]
        exact tb_empty (by decide) (fun t ht => by rw [h7, if_pos ⟨by omega, by omega⟩])
      · rw [h5.2.2.2.2.2.2] at hi; omega
      · rw [h5.2.2.2.2.2.2] at hi; omega
    · have g := h6 c e
      obtain ⟨k1, k2, k3, k4, k5⟩ := i2 c (by omega)
      have ee : ∀ i, enE U L c i = enE S L c i := fun i => by unfold enE; rw [h2]
      rw [ca_k h e]
      refine ⟨kyV_of he k1, by rw [g.2.2.2.2.1, g.2.2.2.2.2.1, g.2.2.2.2.2.2]; exact k2, ?_, fun i hi => ?_, fun i j hi hj z => ?_⟩
      · rw [g.2.2.2.2.2.2]
        exact tb_congr k3 (fun t ht => by rw [h7, if_neg (by omega)]) (fun i _ => ee i)
      · rw [g.2.2.2.2.2.2] at hi
        rw [ee, ca_k h e]
        exact ⟨(k4 i hi).1, itV_of he (k4 i hi).2⟩
      · rw [g.2.2.2.2.2.2] at hi hj
        rw [ee, ee] at z
        exact k5 i j hi hj z
  · rw [h4] at hc hd
    by_cases e1 : c = C <;> by_cases e2 : d = C
    · omega
    · rw [e1, ca_kC h, ca_k h e2] at e
      exact absurd e.symm (hnew d (by omega))
    · rw [e2, ca_kC h, ca_k h e1] at e
      exact absurd e (hnew c (by omega))
    · rw [ca_k h e1, ca_k h e2] at e
      exact i3 c d (by omega) (by omega) e
  · rw [h1 213 (by omega) (by omega)]; exact i4
  · rw [h3 39 (by omega) (by omega), h3 40 (by omega) (by omega)]; exact i5
theorem ca_po {S2 : mm_S} {L2 : mm_L} (h : caI S U C κ) (hC : S 181 27 = C) (hpo : poM U L X F W S2 L2) (hx : XM S2 L2 κ 0 (pkM (bgR κ))) (hI : imS S L) : poM S L X F W S2 L2 := by
  have he := ca_E h
  obtain ⟨h1, h2, h3, h4, h5, h6, h7, h8⟩ := id h
  obtain ⟨⟨a1, a2, a3, a4, a5, a6⟩, b1, b2, b3⟩ := hpo
  have hkC : keyM S2 C = κ := by rw [a2.2.1 C (by omega)]; exact ca_kC h
  have f40 := b1.2.2.2.2.2
  have m1 : S2 181 40 = 1 := by
    rcases f40 with z | z
    · exfalso
      have sm := a6 z
      obtain ⟨d, i, q1, q2, q3, q4, q5⟩ := hx
      have e : d = C := b1.2.2.1 d C q1 (by omega) (by rw [q2, hkC])
      rw [e, sm.1 209 (by omega) (by omega), h5.2.2.2.2.2.2] at q3
      omega
    · exact z
  have htot : tot U = tot S := by
    unfold tot
    rw [h4, hC, show ((C : Int) + 1).toNat = C + 1 by omega, Int.toNat_natCast, toW_congr (h1 213 (by omega) (by omega))]
    simp only [toC]
    rw [h5.2.2.2.2.1, h5.2.2.2.2.2.1, h5.2.2.2.2.2.2]
    have gen : ∀ n, n ≤ C → toC U n = toC S n := by
      intro n
      induction n with
      | zero => intro _; rfl
      | succ n ih =>
        intro hn
        simp only [toC]
        have := h6 n (by omega)
        rw [ih (by omega), this.2.2.2.2.1, this.2.2.2.2.2.1, this.2.2.2.2.2.2]
    rw [gen C (Nat.le_refl _)]
    omega
  have e40 := h3 40 (by omega) (by omega)
  have e39 := h3 39 (by omega) (by omega)
  refine ⟨⟨⟨fun b x y => (a1.1 b x y).trans (h1 b (by omega) y), fun j x1 x2 x3 x4 => (a1.2.1 j x1 x2 x3 x4).trans (h3 j x1 x2), a1.2.2⟩, ⟨by omega, fun c hc => (a2.2.1 c (by omega)).trans (ca_k h (by omega)), fun c hc => ?_⟩, ⟨fun κ' pl p z => a3.1 κ' pl p (by rw [ca_X h hC]; exact z), fun κ' b z => a3.2.1 κ' b (by rw [ca_F h hC]; exact z), fun r pl w z => a3.2.2 r pl w (by rw [ca_W h]; exact z)⟩, by omega, ⟨by omega, fun z => ?_⟩, fun z => by omega⟩, b1, b2, fun z => by
    rcases b3.1 z with q | q
    · left; omega
    · exact Or.inr q, fun hv => b3.2 (fun d hd x hx2 => by
    by_cases e : d = C
    · subst e
      rw [h5.2.2.2.2.1, h5.2.2.2.2.2.1] at hx2
      rcases hx2 with z | z <;> · unfold bt at z; simp at z
    · rw [(h6 d e).2.2.2.2.1, (h6 d e).2.2.2.2.2.1] at hx2
      rw [ca_k h e]
      have := hv d (by rw [h4] at hd; omega) x hx2
      unfold bmS at *
      rw [he.1 182 (by omega) (by omega)]
      exact this)⟩
  · rcases a2.2.2 c hc with z | z
    · by_cases e : c = C
      · right
        rw [e, hkC]; exact hx
      · left; omega
    · exact Or.inr z
  · rcases a5.2 z with q | q
    · left; omega
    · right; omega
end
set_option maxRecDepth 100000 in
set_option maxHeartbeats 4000000 in
theorem l_ca1 {sh : List mm_H} {S : mm_S} {L : mm_L} (hm : mdS sh) {so r k st : Int} {C : Nat} (hC : C < 40) {Q : Option Value → am_M → Prop} (kk : am_AW eX10_calls (mm sh (tzS S C 4096) L) 141 [some (.ref 181), some (.int (iI so)), some (.int (iI r)), some (.int (iI k)), some (.int (iI st)), some (.int (iI (C : Int))), none] [] Q) : ∀ (q : Nat) (n : Nat), 4096 - n < q → (n ≤ 4096) → am_AW eX10_calls (mm sh (tzS S C n) L) 112 [some (.ref 181), some (.int (iI so)), some (.int (iI r)), some (.int (iI k)), some (.int (iI st)), some (.int (iI (C : Int))), some (.int (iI (n : Int)))] [] Q := by
  intro q
  induction q with
  | zero =>
    intro n hq
    exact absurd hq (Nat.not_lt_zero _)
  | succ q ih =>
    intro n hq hn
    refine am_iload rfl dX10_calls_112 ?_
    refine mm_sipush dX10_calls_114 (by decide) ?_
    refine mm_jge (tgt := 141) dX10_calls_117 (by decide) (by omega) (by omega) (fun h117 => ?_) (fun h117 => ?_)
    · have h5 : n = 4096 := by omega
      subst h5
      exact am_AW.unset 6 kk
    · refine am_aload_n rfl dX10_calls_120 ?_
      refine mm_getR dX10_calls_121 fl_X10_108 (md_0 hm) mdf_37 ?_
      refine mm_sipush dX10_calls_124 (by decide) ?_
      refine am_iload rfl dX10_calls_127 ?_
      refine mm_imul dX10_calls_129 ?_
      refine am_iload rfl dX10_calls_130 ?_
      refine mm_iadd dX10_calls_132 ?_
      rw [show (4096 * (C : Int) + (n : Int)) = ((4096 * C + n : Nat) : Int) by omega]
      refine mm_iconst dX10_calls_133 ?_
      refine mm_ias dX10_calls_134 (md_table hm) (by omega) ?_
      rw [Int.toNat_natCast, tzS_s]
      refine mm_inc6 dX10_calls_135 (Nat.le_of_ble_eq_true rfl) (am_c1i _) ?_
      refine am_goto (tgt := 112) dX10_calls_138 (by decide) ?_
      exact ih (n + 1) (by omega) (by omega)
set_option maxRecDepth 100000 in
set_option maxHeartbeats 4000000 in
theorem l_ca2 {sh : List mm_H} {S : mm_S} {L : mm_L} (hm : mdS sh) {so r k st : Int} {C : Nat} {Q : Option Value → am_M → Prop} (kk : am_AW eX10_calls (mm sh (voS S so 5) L) 181 [some (.ref 181), some (.int (iI so)), some (.int (iI r)), some (.int (iI k)), some (.int (iI st)), some (.int (iI (C : Int))), none] [] Q) : ∀ (q : Nat) (n : Nat), 5 - n < q → (n ≤ 5) → am_AW eX10_calls (mm sh (voS S so n) L) 144 [some (.ref 181), some (.int (iI so)), some (.int (iI r)), some (.int (iI k)), some (.int (iI st)), some (.int (iI (C : Int))), some (.int (iI (n : Int)))] [] Q := by
  intro q
  induction q with
  | zero =>
    intro n hq
    exact absurd hq (Nat.not_lt_zero _)
  | succ q ih =>
    intro n hq hn
    refine am_iload rfl dX10_calls_144 ?_
    refine mm_iconst dX10_calls_146 ?_
    refine mm_jge (tgt := 181) dX10_calls_147 (by decide) (by omega) (by omega) (fun h147 => ?_) (fun h147 => ?_)
    · have h5 : n = 5 := by omega
      subst h5
      exact am_AW.unset 6 kk
    · refine am_aload_n rfl dX10_calls_150 ?_
      refine mm_getR dX10_calls_151 fl_X10_63 (md_0 hm) mdf_20 ?_
      refine am_iload rfl dX10_calls_154 ?_
      refine am_iload rfl dX10_calls_156 ?_
      refine mm_zne (tgt := 165) dX10_calls_158 (by decide) (by omega) (fun h158 => ?_) (fun h158 => ?_)
      · refine mm_iconst dX10_calls_165 ?_
        refine mm_ias dX10_calls_166 (md_var hm) (by omega) ?_
        rw [Int.toNat_natCast]
        refine am_aload_n rfl dX10_calls_167 ?_
        refine mm_getR dX10_calls_168 fl_X10_66 (md_0 hm) mdf_21 ?_
        refine am_iload rfl dX10_calls_171 ?_
        refine mm_iconst dX10_calls_173 ?_
        refine mm_ias dX10_calls_174 (md_own hm) (by omega) ?_
        rw [Int.toNat_natCast, voS_s S so n (by first | rw [if_pos (by omega)] | rw [if_neg (by omega)])]
        refine mm_inc6 dX10_calls_175 (Nat.le_of_ble_eq_true rfl) (am_c1i _) ?_
        refine am_goto (tgt := 144) dX10_calls_178 (by decide) ?_
        exact ih (n + 1) (by omega) (by omega)
      · refine am_iload_n rfl dX10_calls_161 ?_
        refine am_goto (tgt := 166) dX10_calls_162 (by decide) ?_
        refine mm_ias dX10_calls_166 (md_var hm) (by omega) ?_
        rw [Int.toNat_natCast]
        refine am_aload_n rfl dX10_calls_167 ?_
        refine mm_getR dX10_calls_168 fl_X10_66 (md_0 hm) mdf_21 ?_
        refine am_iload rfl dX10_calls_171 ?_
        refine mm_iconst dX10_calls_173 ?_
        refine mm_ias dX10_calls_174 (md_own hm) (by omega) ?_
        rw [Int.toNat_natCast, voS_s S so n (by first | rw [if_pos (by omega)] | rw [if_neg (by omega)])]
        refine mm_inc6 dX10_calls_175 (Nat.le_of_ble_eq_true rfl) (am_c1i _) ?_
        refine am_goto (tgt := 144) dX10_calls_178 (by decide) ?_
        exact ih (n + 1) (by omega) (by omega)
set_option maxRecDepth 100000 in
set_option maxHeartbeats 4000000 in
theorem l_ca3 {sh : List mm_H} {S : mm_S} {L : mm_L} (hm : mdS sh) {so r k st : Int} {C : Nat} {Q : Option Value → am_M → Prop} (kk : am_AW eX10_calls (mm sh (pzS S 6) L) 243 [some (.ref 181), some (.int (iI so)), some (.int (iI r)), some (.int (iI k)), some (.int (iI st)), some (.int (iI (C : Int))), none] [] Q) : ∀ (q : Nat) (n : Nat), 6 - n < q → (n ≤ 6) → am_AW eX10_calls (mm sh (pzS S n) L) 222 [some (.ref 181), some (.int (iI so)), some (.int (iI r)), some (.int (iI k)), some (.int (iI st)), some (.int (iI (C : Int))), some (.int (iI (n : Int)))] [] Q := by
  intro q
  induction q with
  | zero =>
    intro n hq
    exact absurd hq (Nat.not_lt_zero _)
  | succ q ih =>
    intro n hq hn
    refine am_iload rfl dX10_calls_222 ?_
    refine mm_bipush dX10_calls_224 (by decide) ?_
    refine mm_jge (tgt := 243) dX10_calls_226 (by decide) (by omega) (by omega) (fun h226 => ?_) (fun h226 => ?_)
    · have h5 : n = 6 := by omega
      subst h5
      exact am_AW.unset 6 kk
    · refine am_aload_n rfl dX10_calls_229 ?_
      refine mm_getR dX10_calls_230 fl_X10_69 (md_0 hm) mdf_23 ?_
      refine am_iload rfl dX10_calls_233 ?_
      refine mm_iconst dX10_calls_235 ?_
      refine mm_ias dX10_calls_236 (md_pend hm) (by omega) ?_
      rw [Int.toNat_natCast, pzS_s]
      refine mm_inc6 dX10_calls_237 (Nat.le_of_ble_eq_true rfl) (am_c1i _) ?_
      refine am_goto (tgt := 222) dX10_calls_240 (by decide) ?_
      exact ih (n + 1) (by omega) (by omega)
theorem caF_R (S : mm_S) (so r k st : Int) : ∀ (n c : Nat), -1 ≤ caF S so r k st n c ∧ caF S so r k st n c < (c : Int) + n ∨ n = 0 ∧ caF S so r k st n c = -1 := fun n c => by
  rcases caF_sp S so r k st n c with ⟨h, -⟩ | ⟨d, h, h2, h3, -⟩
  · by_cases e : n = 0
    · exact Or.inr ⟨e, h⟩
    · left; omega
  · left; omega
theorem ca_of {S : mm_S} {C : Nat} {κ : kyT} (hC : S 181 27 = C) : caI S (pzS (up2 (up2 (voS (tzS (up2 (up2 (up2 (up2 (up2 (up2 (up2 (up2 S 181 27 ((C : Int) + 1)) 203 C κ.1) 204 C κ.2.1) 205 C κ.2.2.1) 206 C κ.2.2.2) 207 C 0) 208 C 0) 209 C 0) C 4096) κ.1 5) 199 0 (if κ.1 = 2 then 7 * κ.2.2.1 + κ.2.2.2 else 0)) 181 22 (if κ.1 = 1 then κ.2.2.2 else 7)) 6) C κ := by
  refine ⟨fun b h1 h2 => ?_, ?_, fun j h1 h2 => ?_, ?_, ⟨?_, ?_, ?_, ?_, ?_, ?_, ?_⟩, fun d hd => ⟨?_, ?_, ?_, ?_, ?_, ?_, ?_⟩, fun i => ?_, ?_⟩
  · funext i
    have a1 : b ≠ 198 := by omega
    have a2 : b ≠ 199 := by omega
    have a3 : b ≠ 200 := by omega
    have a4 : b ≠ 203 := by omega
    have a5 : b ≠ 204 := by omega
    have a6 : b ≠ 205 := by omega
    have a7 : b ≠ 206 := by omega
    have a8 : b ≠ 207 := by omega
    have a9 : b ≠ 208 := by omega
    have a10 : b ≠ 209 := by omega
    have a11 : b ≠ 212 := by omega
    simp [pzS, voS, tzS, up2, a1, a2, a3, a4, a5, a6, a7, a8, a9, a10, a11, h2]
  · funext i
    simp [pzS, voS, tzS, up2]
  · simp [pzS, voS, tzS, up2, h1, h2]
  · simp [pzS, voS, tzS, up2]
  · simp [pzS, voS, tzS, up2]
  · simp [pzS, voS, tzS, up2]
  · simp [pzS, voS, tzS, up2]
  · simp [pzS, voS, tzS, up2]
  · simp [pzS, voS, tzS, up2]
  · simp [pzS, voS, tzS, up2]
  · simp [pzS, voS, tzS, up2]
  · simp [pzS, voS, tzS, up2, hd]
  · simp [pzS, voS, tzS, up2, hd]
  · simp [pzS, voS, tzS, up2, hd]
  · simp [pzS, voS, tzS, up2, hd]
  · simp [pzS, voS, tzS, up2, hd]
  · simp [pzS, voS, tzS, up2, hd]
  · simp [pzS, voS, tzS, up2, hd]
  · simp [pzS, voS, tzS, up2]
  · unfold rgS bgR
    refine Prod.ext ?_ (Prod.ext ?_ (Prod.ext ?_ ?_))
    · funext v
      by_cases hv : v < 5
      · simp [nrm, hv, pzS, voS, up2, ud]
      · simp [nrm, hv]
    · funext v
      by_cases hv : v < 5
      · by_cases h0 : v = 0
        · subst h0; simp [nrm, pzS, voS, up2, ud]
        · simp [nrm, hv, pzS, voS, up2, ud, h0]
      · simp [nrm, hv]
    · simp [pzS, up2]
    · funext v
      by_cases hv : v < 6
      · simp [nrm, hv, pzS]
      · simp [nrm, hv]
set_option maxRecDepth 100000 in
set_option maxHeartbeats 8000000 in
theorem l_ca4 {sh : List mm_H} {S : mm_S} {L : mm_L} (hm : mdS sh) (hb : mbW S) (hI : imS S L) {X : XT} {F : FT} {W : WT} (hS : SubM S L X F W) {κ : kyT} (hκ : kyV S κ) (hX : X κ 0 (pkM (bgR κ))) {C : Nat} (hC : S 181 27 = C) (hC40 : C < 40) (hnew : ∀ d : Nat, d < C → keyM S d ≠ κ) {U : mm_S} (hU : U = pzS (up2 (up2 (voS (tzS (up2 (up2 (up2 (up2 (up2 (up2 (up2 (up2 S 181 27 ((C : Int) + 1)) 203 C κ.1) 204 C κ.2.1) 205 C κ.2.2.1) 206 C κ.2.2.2) 207 C 0) 208 C 0) 209 C 0) C 4096) κ.1 5) 199 0 (if κ.1 = 2 then 7 * κ.2.2.1 + κ.2.2.2 else 0)) 181 22 (if κ.1 = 1 then κ.2.2.2 else 7)) 6) : am_AW eX10_calls (mm sh U L) 243 [some (.ref 181), some (.int (iI κ.1)), some (.int (iI (κ.2.1 : Int))), some (.int (iI κ.2.2.1)), some (.int (iI κ.2.2.2)), some (.int (iI (C : Int))), none] [] (fun r0 M' => ∃ v, r0 = some (.int (iI v)) ∧ ∃ S' L', M' = mm sh S' L' ∧ poM S L X F W S' L' ∧ ((v = -1 ∧ S' 181 39 = 1) ∨ ∃ d : Nat, v = d ∧ (d : Int) < S' 181 27 ∧ keyM S' d = κ)) := by
  have hca : caI S U C κ := by rw [hU]; exact ca_of hC
  have hIU := ca_im hca hC hC40 hI hκ hb.1 hnew
  have hSU : SubM U L X F W := by unfold SubM; rw [ca_X hca hC, ca_F hca hC, ca_W hca]; exact hS
  have hk2 := hκ.2.1
  have u1 := hb.1.2.1
  refine am_aload_n rfl dX10_calls_243 ?_
  refine am_iload rfl dX10_calls_244 ?_
  refine mm_iconst dX10_calls_246 ?_
  refine am_cxv (mm_V2 dX10_calls_247 in_X10_add mk_X10_247 im_X10_add sl_X10_add ⟨Nat.le_of_ble_eq_true rfl, Nat.le_of_ble_eq_true rfl⟩ rfl (md_0 hm) (Nat.le_of_ble_eq_true rfl)) (m_add (X := X) (F := F) (W := W) hm (mbW_of (ca_E hca) hb) hIU hSU (c := C) (by rw [hca.2.2.2.1]; omega) (pl := 0) (by rw [ca_kC hca, hca.2.2.2.2.2.2.2]; exact ⟨rgV_of (ca_E hca) (rg_bg hκ hb.1), ⟨by omega, by rw [hca.1 189 (by omega) (by omega)]; exact (hb.1.2.2.2.2 κ.2.1 (by omega)).1⟩, fun q hq z => absurd rfl z⟩) (by rw [ca_kC hca, hca.2.2.2.2.2.2.2]; exact hX)) (fun M1 hq => ?_)
  obtain ⟨S2, L2, rfl, hpo, hx⟩ := hq
  rw [ca_kC hca, hca.2.2.2.2.2.2.2, hca.2.2.2.2.1.2.2.2.2.2.2] at hx
  have hx : XM S2 L2 κ 0 (pkM (bgR κ)) := by
    rcases hx with z | z
    · exact z
    · omega
  refine am_iload rfl dX10_calls_250 ?_
  refine am_ireturn dX10_calls_252 rfl rfl ?_
  exact ⟨C, rfl, S2, L2, rfl, ca_po hca hC hpo hx hI, Or.inr ⟨C, rfl, by have := hpo.1.2.1.1; rw [hca.2.2.2.1] at this; omega, by rw [hpo.1.2.1.2.1 C (by rw [hca.2.2.2.1]; omega)]; exact ca_kC hca⟩⟩
set_option maxRecDepth 100000 in
set_option maxHeartbeats 4000000 in
theorem m_calls {sh : List mm_H} {S : mm_S} {L : mm_L} (hm : mdS sh) (hb : mbW S) (hI : imS S L) {X : XT} {F : FT} {W : WT} (hS : SubM S L X F W) (hN : inS S L) {κ : kyT} (hκ : kyV S κ) (hX : X κ 0 (pkM (bgR κ))) : am_E eX10_calls [.ref 181, .int (iI κ.1), .int (iI (κ.2.1 : Int)), .int (iI κ.2.2.1), .int (iI κ.2.2.2)] (mm sh S L) (fun r0 M' => ∃ v, r0 = some (.int (iI v)) ∧ ∃ S' L', M' = mm sh S' L' ∧ poM S L X F W S' L' ∧ ((v = -1 ∧ S' 181 39 = 1) ∨ ∃ d : Nat, v = d ∧ (d : Int) < S' 181 27 ∧ keyM S' d = κ)) := by
  have u0 := hb.1.1
  have u1 := hb.1.2.1
  have hk1 := hκ.1
  have hk2 := hκ.2.1
  have hk3 : 0 ≤ κ.2.2.1 ∧ κ.2.2.1 < 6 ∧ 0 ≤ κ.2.2.2 ∧ κ.2.2.2 < 6 := by
    by_cases z : κ.1 = 0
    · have := hκ.2.2.2 z; rw [this]; exact ⟨by decide, by decide, by decide, by decide⟩
    · have g := hκ.2.2.1 z
      have := hb.1.2.2.1 κ.2.2.1.toNat (by omega)
      omega
  have hc27 := hI.1.1
  obtain ⟨C, hC⟩ : ∃ C : Nat, S 181 27 = C := ⟨(S 181 27).toNat, by omega⟩
  have hsp := caF_sp S κ.1 κ.2.1 κ.2.2.1 κ.2.2.2 (S 181 27).toNat 0
  refine am_enter rfl rfl (Nat.le_of_ble_eq_true rfl) ?_
  refine am_aload_n rfl dX10_calls_0 ?_
  refine am_iload_n rfl dX10_calls_1 ?_
  refine am_iload_n rfl dX10_calls_2 ?_
  refine am_iload_n rfl dX10_calls_3 ?_
  refine am_iload rfl dX10_calls_4 ?_
  refine am_ci (mm_V4 dX10_calls_6 in_X10_caseOf mk_X10_243 im_X10_caseOf sl_X10_caseOf ⟨Nat.le_of_ble_eq_true rfl, Nat.le_of_ble_eq_true rfl⟩ rfl (md_0 hm) (Nat.le_of_ble_eq_true rfl)) (m_caseOf hm hI.1 hk1 (by omega) (by omega) (by omega)) ?_
  refine am_ist5 dX10_calls_9 (Nat.le_of_ble_eq_true rfl) (am_c1i _) ?_
  refine am_iload rfl dX10_calls_11 ?_
  refine mm_iconst dX10_calls_13 ?_
  refine mm_jeq (tgt := 20) dX10_calls_14 (by decide) (by have h0 : -1 ≤ caM S κ.1 κ.2.1 κ.2.2.1 κ.2.2.2 ∧ caM S κ.1 κ.2.1 κ.2.2.1 κ.2.2.2 < ((0 : Nat) : Int) + (S 181 27).toNat ∨ (S 181 27).toNat = 0 ∧ caM S κ.1 κ.2.1 κ.2.2.1 κ.2.2.2 = -1 := caF_R S κ.1 κ.2.1 κ.2.2.1 κ.2.2.2 (S 181 27).toNat 0; omega) (by omega) (fun h14 => ?_) (fun h14 => ?_)
  · have hs2 : ∀ d, 0 ≤ d → d < 0 + (S 181 27).toNat → ¬ (S 203 d = κ.1 ∧ S 204 d = κ.2.1 ∧ S 205 d = κ.2.2.1 ∧ S 206 d = κ.2.2.2) := by
      rcases hsp with ⟨-, h⟩ | ⟨d, h, -⟩
      · exact h
      · exfalso
        have h : caM S κ.1 κ.2.1 κ.2.2.1 κ.2.2.2 = (d : Int) := h
        omega
    have hnew : ∀ d : Nat, d < C → keyM S d ≠ κ := fun d hd e => hs2 d (by omega) (by omega) (by
      have e1 := congrArg (fun q : kyT => q.1) e
      have e2 := congrArg (fun q : kyT => q.2.1) e
      have e3 := congrArg (fun q : kyT => q.2.2.1) e
      have e4 := congrArg (fun q : kyT => q.2.2.2) e
      have e2 : (S 204 d).toNat = κ.2.1 := e2
      have := (hI.1.2 d (by omega)).2.1
      exact ⟨e1, by omega, e3, e4⟩)
    refine am_aload_n rfl dX10_calls_20 ?_
    refine mm_getI dX10_calls_21 fl_X10_240 (md_0 hm) mdf_27 ?_
    rw [hC]
    refine mm_bipush dX10_calls_24 (by decide) ?_
    refine mm_jne (tgt := 36) dX10_calls_26 (by decide) (by omega) (by omega) (fun h26 => ?_) (fun h26 => ?_)
    · refine am_aload_n rfl dX10_calls_36 ?_
      refine mm_getI dX10_calls_37 fl_X10_240 (md_0 hm) mdf_27 ?_
      rw [hC]
      refine am_ist5 dX10_calls_40 (Nat.le_of_ble_eq_true rfl) (am_c1i _) ?_
      refine am_aload_n rfl dX10_calls_42 ?_
      refine am_dup rfl dX10_calls_43 ?_
      refine mm_getI dX10_calls_44 fl_X10_240 (md_0 hm) mdf_27 ?_
      rw [hC]
      refine mm_iconst dX10_calls_47 ?_
      refine mm_iadd dX10_calls_48 ?_
      refine mm_putI dX10_calls_49 fp_X10_240 (md_0 hm) mdf_27 ?_
      refine am_aload_n rfl dX10_calls_52 ?_
      refine mm_getR dX10_calls_53 fl_X10_78 (md_0 hm) mdf_28 ?_
      refine am_iload rfl dX10_calls_56 ?_
      refine am_iload_n rfl dX10_calls_58 ?_
      refine mm_ias dX10_calls_59 (md_caseSort hm) (by omega) ?_
      rw [Int.toNat_natCast]
      refine am_aload_n rfl dX10_calls_60 ?_
      refine mm_getR dX10_calls_61 fl_X10_81 (md_0 hm) mdf_29 ?_
      refine am_iload rfl dX10_calls_64 ?_
      refine am_iload_n rfl dX10_calls_66 ?_
      refine mm_ias dX10_calls_67 (md_caseRoutine hm) (by omega) ?_
      rw [Int.toNat_natCast]
      refine am_aload_n rfl dX10_calls_68 ?_
      refine mm_getR dX10_calls_69 fl_X10_84 (md_0 hm) mdf_30 ?_
      refine am_iload rfl dX10_calls_72 ?_
      refine am_iload_n rfl dX10_calls_74 ?_
      refine mm_ias dX10_calls_75 (md_caseKind hm) (by omega) ?_
      rw [Int.toNat_natCast]
      refine am_aload_n rfl dX10_calls_76 ?_
      refine mm_getR dX10_calls_77 fl_X10_87 (md_0 hm) mdf_31 ?_
      refine am_iload rfl dX10_calls_80 ?_
      refine am_iload rfl dX10_calls_82 ?_
      refine mm_ias dX10_calls_84 (md_caseState hm) (by omega) ?_
      rw [Int.toNat_natCast]
      refine am_aload_n rfl dX10_calls_85 ?_
      refine mm_getR dX10_calls_86 fl_X10_90 (md_0 hm) mdf_32 ?_
      refine am_iload rfl dX10_calls_89 ?_
      refine mm_iconst dX10_calls_91 ?_
      refine mm_ias dX10_calls_92 (md_ok hm) (by omega) ?_
      rw [Int.toNat_natCast]
      refine am_aload_n rfl dX10_calls_93 ?_
      refine mm_getR dX10_calls_94 fl_X10_93 (md_0 hm) mdf_33 ?_
      refine am_iload rfl dX10_calls_97 ?_
      refine mm_iconst dX10_calls_99 ?_
      refine mm_ias dX10_calls_100 (md_failing hm) (by omega) ?_
      rw [Int.toNat_natCast]
      refine am_aload_n rfl dX10_calls_101 ?_
      refine mm_getR dX10_calls_102 fl_X10_96 (md_0 hm) mdf_34 ?_
      refine am_iload rfl dX10_calls_105 ?_
      refine mm_iconst dX10_calls_107 ?_
      refine mm_ias dX10_calls_108 (md_size hm) (by omega) ?_
      rw [Int.toNat_natCast]
      refine mm_iconst dX10_calls_109 ?_
      refine am_ist6 dX10_calls_110 (Nat.le_of_ble_eq_true rfl) (am_c1i _) ?_
      have h9 := l_ca1 (S := up2 (up2 (up2 (up2 (up2 (up2 (up2 (up2 S 181 27 ((C : Int) + 1)) 203 C κ.1) 204 C κ.2.1) 205 C κ.2.2.1) 206 C κ.2.2.2) 207 C 0) 208 C 0) 209 C 0) (L := L) (so := κ.1) (r := κ.2.1) (k := κ.2.2.1) (st := κ.2.2.2) (C := C) hm (by omega) (Q := (fun r0 M' => ∃ v, r0 = some (.int (iI v)) ∧ ∃ S' L', M' = mm sh S' L' ∧ poM S L X F W S' L' ∧ ((v = -1 ∧ S' 181 39 = 1) ∨ ∃ d : Nat, v = d ∧ (d : Int) < S' 181 27 ∧ keyM S' d = κ))) ?_ 4097 0 (by omega) (by omega)
      · rw [tzS_0] at h9; exact h9
      refine mm_iconst dX10_calls_141 ?_
      refine am_ist6 dX10_calls_142 (Nat.le_of_ble_eq_true rfl) (am_c1i _) ?_
      have h9 := l_ca2 (S := tzS (up2 (up2 (up2 (up2 (up2 (up2 (up2 (up2 S 181 27 ((C : Int) + 1)) 203 C κ.1) 204 C κ.2.1) 205 C κ.2.2.1) 206 C κ.2.2.2) 207 C 0) 208 C 0) 209 C 0) C 4096) (L := L) (so := κ.1) (r := κ.2.1) (k := κ.2.2.1) (st := κ.2.2.2) (C := C) hm (Q := (fun r0 M' => ∃ v, r0 = some (.int (iI v)) ∧ ∃ S' L', M' = mm sh S' L' ∧ poM S L X F W S' L' ∧ ((v = -1 ∧ S' 181 39 = 1) ∨ ∃ d : Nat, v = d ∧ (d : Int) < S' 181 27 ∧ keyM S' d = κ))) ?_ 6 0 (by omega) (by omega)
      · rw [voS_0] at h9; exact h9
      refine am_aload_n rfl dX10_calls_181 ?_
      refine mm_getR dX10_calls_182 fl_X10_66 (md_0 hm) mdf_21 ?_
      refine mm_iconst dX10_calls_185 ?_
      refine am_iload_n rfl dX10_calls_186 ?_
      refine mm_iconst dX10_calls_187 ?_
      refine mm_jne (tgt := 201) dX10_calls_188 (by decide) (by omega) (by omega) (fun h188 => ?_) (fun h188 => ?_)
      · refine mm_iconst dX10_calls_201 ?_
        refine mm_ias dX10_calls_202 (md_own hm) (by omega) ?_
        rw [show ((0 : Int)).toNat = 0 from rfl]
        refine am_aload_n rfl dX10_calls_203 ?_
        refine am_iload_n rfl dX10_calls_204 ?_
        refine mm_iconst dX10_calls_205 ?_
        refine mm_jne (tgt := 214) dX10_calls_206 (by decide) (by omega) (by omega) (fun h206 => ?_) (fun h206 => ?_)
        · refine mm_bipush dX10_calls_214 (by decide) ?_
          refine mm_putI dX10_calls_216 fp_X10_222 (md_0 hm) mdf_22 ?_
          refine mm_iconst dX10_calls_219 ?_
          refine am_ist6 dX10_calls_220 (Nat.le_of_ble_eq_true rfl) (am_c1i _) ?_
          have h9 := l_ca3 (S := up2 (up2 (voS (tzS (up2 (up2 (up2 (up2 (up2 (up2 (up2 (up2 S 181 27 ((C : Int) + 1)) 203 C κ.1) 204 C κ.2.1) 205 C κ.2.2.1) 206 C κ.2.2.2) 207 C 0) 208 C 0) 209 C 0) C 4096) κ.1 5) 199 0 (if κ.1 = 2 then 7 * κ.2.2.1 + κ.2.2.2 else 0)) 181 22 (if κ.1 = 1 then κ.2.2.2 else 7)) (L := L) (so := κ.1) (r := κ.2.1) (k := κ.2.2.1) (st := κ.2.2.2) (C := C) hm (Q := (fun r0 M' => ∃ v, r0 = some (.int (iI v)) ∧ ∃ S' L', M' = mm sh S' L' ∧ poM S L X F W S' L' ∧ ((v = -1 ∧ S' 181 39 = 1) ∨ ∃ d : Nat, v = d ∧ (d : Int) < S' 181 27 ∧ keyM S' d = κ))) (l_ca4 hm hb hI hS hκ hX hC (by omega) hnew rfl) 7 0 (by omega) (by omega)
          rw [pzS_0] at h9
          first
            | (rw [if_pos (by omega), if_neg (by omega)] at h9; exact h9)
            | (rw [if_pos (by omega), if_pos (by omega)] at h9; exact h9)
            | (rw [if_neg (by omega), if_pos (by omega)] at h9; exact h9)
            | (rw [if_neg (by omega), if_neg (by omega)] at h9; exact h9)
        · refine am_iload rfl dX10_calls_209 ?_
          refine am_goto (tgt := 216) dX10_calls_211 (by decide) ?_
          refine mm_putI dX10_calls_216 fp_X10_222 (md_0 hm) mdf_22 ?_
          refine mm_iconst dX10_calls_219 ?_
          refine am_ist6 dX10_calls_220 (Nat.le_of_ble_eq_true rfl) (am_c1i _) ?_
          have h9 := l_ca3 (S := up2 (up2 (voS (tzS (up2 (up2 (up2 (up2 (up2 (up2 (up2 (up2 S 181 27 ((C : Int) + 1)) 203 C κ.1) 204 C κ.2.1) 205 C κ.2.2.1) 206 C κ.2.2.2) 207 C 0) 208 C 0) 209 C 0) C 4096) κ.1 5) 199 0 (if κ.1 = 2 then 7 * κ.2.2.1 + κ.2.2.2 else 0)) 181 22 (if κ.1 = 1 then κ.2.2.2 else 7)) (L := L) (so := κ.1) (r := κ.2.1) (k := κ.2.2.1) (st := κ.2.2.2) (C := C) hm (Q := (fun r0 M' => ∃ v, r0 = some (.int (iI v)) ∧ ∃ S' L', M' = mm sh S' L' ∧ poM S L X F W S' L' ∧ ((v = -1 ∧ S' 181 39 = 1) ∨ ∃ d : Nat, v = d ∧ (d : Int) < S' 181 27 ∧ keyM S' d = κ))) (l_ca4 hm hb hI hS hκ hX hC (by omega) hnew rfl) 7 0 (by omega) (by omega)
          rw [pzS_0] at h9
          first
            | (rw [if_pos (by omega), if_neg (by omega)] at h9; exact h9)
            | (rw [if_pos (by omega), if_pos (by omega)] at h9; exact h9)
            | (rw [if_neg (by omega), if_pos (by omega)] at h9; exact h9)
            | (rw [if_neg (by omega), if_neg (by omega)] at h9; exact h9)
      · refine mm_bipush dX10_calls_191 (by decide) ?_
        refine am_iload_n rfl dX10_calls_193 ?_
        refine mm_imul dX10_calls_194 ?_
        refine am_iload rfl dX10_calls_195 ?_
        refine mm_iadd dX10_calls_197 ?_
        refine am_goto (tgt := 202) dX10_calls_198 (by decide) ?_
        refine mm_ias dX10_calls_202 (md_own hm) (by omega) ?_
        rw [show ((0 : Int)).toNat = 0 from rfl]
        refine am_aload_n rfl dX10_calls_203 ?_
        refine am_iload_n rfl dX10_calls_204 ?_
        refine mm_iconst dX10_calls_205 ?_
        refine mm_jne (tgt := 214) dX10_calls_206 (by decide) (by omega) (by omega) (fun h206 => ?_) (fun h206 => ?_)
        · refine mm_bipush dX10_calls_214 (by decide) ?_
          refine mm_putI dX10_calls_216 fp_X10_222 (md_0 hm) mdf_22 ?_
          refine mm_iconst dX10_calls_219 ?_
          refine am_ist6 dX10_calls_220 (Nat.le_of_ble_eq_true rfl) (am_c1i _) ?_
          have h9 := l_ca3 (S := up2 (up2 (voS (tzS (up2 (up2 (up2 (up2 (up2 (up2 (up2 (up2 S 181 27 ((C : Int) + 1)) 203 C κ.1) 204 C κ.2.1) 205 C κ.2.2.1) 206 C κ.2.2.2) 207 C 0) 208 C 0) 209 C 0) C 4096) κ.1 5) 199 0 (if κ.1 = 2 then 7 * κ.2.2.1 + κ.2.2.2 else 0)) 181 22 (if κ.1 = 1 then κ.2.2.2 else 7)) (L := L) (so := κ.1) (r := κ.2.1) (k := κ.2.2.1) (st := κ.2.2.2) (C := C) hm (Q := (fun r0 M' => ∃ v, r0 = some (.int (iI v)) ∧ ∃ S' L', M' = mm sh S' L' ∧ poM S L X F W S' L' ∧ ((v = -1 ∧ S' 181 39 = 1) ∨ ∃ d : Nat, v = d ∧ (d : Int) < S' 181 27 ∧ keyM S' d = κ))) (l_ca4 hm hb hI hS hκ hX hC (by omega) hnew rfl) 7 0 (by omega) (by omega)
          rw [pzS_0] at h9
          first
            | (rw [if_pos (by omega), if_neg (by omega)] at h9; exact h9)
            | (rw [if_pos (by omega), if_pos (by omega)] at h9; exact h9)
            | (rw [if_neg (by omega), if_pos (by omega)] at h9; exact h9)
            | (rw [if_neg (by omega), if_neg (by omega)] at h9; exact h9)
        · refine am_iload rfl dX10_calls_209 ?_
          refine am_goto (tgt := 216) dX10_calls_211 (by decide) ?_
          refine mm_putI dX10_calls_216 fp_X10_222 (md_0 hm) mdf_22 ?_
          refine mm_iconst dX10_calls_219 ?_
          refine am_ist6 dX10_calls_220 (Nat.le_of_ble_eq_true rfl) (am_c1i _) ?_
          have h9 := l_ca3 (S := up2 (up2 (voS (tzS (up2 (up2 (up2 (up2 (up2 (up2 (up2 (up2 S 181 27 ((C : Int) + 1)) 203 C κ.1) 204 C κ.2.1) 205 C κ.2.2.1) 206 C κ.2.2.2) 207 C 0) 208 C 0) 209 C 0) C 4096) κ.1 5) 199 0 (if κ.1 = 2 then 7 * κ.2.2.1 + κ.2.2.2 else 0)) 181 22 (if κ.1 = 1 then κ.2.2.2 else 7)) (L := L) (so := κ.1) (r := κ.2.1) (k := κ.2.2.1) (st := κ.2.2.2) (C := C) hm (Q := (fun r0 M' => ∃ v, r0 = some (.int (iI v)) ∧ ∃ S' L', M' = mm sh S' L' ∧ poM S L X F W S' L' ∧ ((v = -1 ∧ S' 181 39 = 1) ∨ ∃ d : Nat, v = d ∧ (d : Int) < S' 181 27 ∧ keyM S' d = κ))) (l_ca4 hm hb hI hS hκ hX hC (by omega) hnew rfl) 7 0 (by omega) (by omega)
          rw [pzS_0] at h9
          first
            | (rw [if_pos (by omega), if_neg (by omega)] at h9; exact h9)
            | (rw [if_pos (by omega), if_pos (by omega)] at h9; exact h9)
            | (rw [if_neg (by omega), if_pos (by omega)] at h9; exact h9)
            | (rw [if_neg (by omega), if_neg (by omega)] at h9; exact h9)
    · refine am_aload_n rfl dX10_calls_29 ?_
      refine mm_iconst dX10_calls_30 ?_
      refine mm_putZ dX10_calls_31 fp_X10_233 (md_0 hm) mdf_39 (Or.inr rfl) ?_
      refine mm_iconst dX10_calls_34 ?_
      refine am_ireturn dX10_calls_35 rfl rfl ?_
      exact ⟨-1, rfl, _, _, rfl, po_spent hI hS (ov_case hI hS hN (by omega) hX (fun c hc => hnew c (by omega))), Or.inl ⟨rfl, up2_same _ _ _ _⟩⟩
  · refine am_iload rfl dX10_calls_17 ?_
    refine am_ireturn dX10_calls_19 rfl rfl ?_
    rcases hsp with ⟨hs1, -⟩ | ⟨d, hs1, -, hs3, hs4⟩
    · exact absurd hs1 h14
    · have hs1 : caM S κ.1 κ.2.1 κ.2.2.1 κ.2.2.2 = (d : Int) := hs1
      refine ⟨_, rfl, S, L, rfl, poM_rg (rgF_rf S) hI hS, Or.inr ⟨d, hs1, by omega, ?_⟩⟩
      unfold keyM
      rw [hs4.1, hs4.2.1, hs4.2.2.1, hs4.2.2.2, Int.toNat_natCast]
