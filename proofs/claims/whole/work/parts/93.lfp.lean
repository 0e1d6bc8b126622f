/-! ===== follow; the least closed sets; wrongMany ===== -/
set_option maxRecDepth 100000 in
set_option maxHeartbeats 4000000 in
theorem m_follow {sh : List mm_H} {S : mm_S} {L : mm_L} (hm : mdS sh) (hb : mbW S) (hI : imS S L) {X : XT} {F : FT} {W : WT} (hS : SubM S L X F W) {c : Nat} (hc : (c : Int) < S 181 27) {i : Nat} (hi : (i : Int) < S 209 c) (hv : bvS S) (hNN : inS S L) (hE : foK X F W S (keyM S c) (S 210 (2000 * c + i)).toNat (unM (L 211 (2000 * c + i)).toInt)) : am_E eX10_follow [.ref 181, .int (iI (c : Int)), .int (iI ((2000 * c + i : Nat) : Int))] (mm sh S L) (fun r0 M' => r0 = none ∧ ∃ S' L', M' = mm sh S' L' ∧ poM S L X F W S' L' ∧ (S' 181 39 = 0 → S' 181 40 = 0 → foK (XM S' L') (FM S') (WM S') S (keyM S c) (S 210 (2000 * c + i)).toNat (unM (L 211 (2000 * c + i)).toInt))) := by
  have hcs := hI.1
  have hc27 := hI.1.1
  have hcc := hcs.2 c hc
  have hκ := (hI.2.1 c hc).1
  have hr9 : (((S 204 c).toNat : Nat) : Int) < S 181 9 := hκ.2.1
  have hrw := hb.2.2.2.2 (S 204 c).toNat hr9
  have h24 := hb.1.2.2.2.2 (S 204 c).toNat (by omega)
  have hc40 : c < 40 := by omega
  have er204 : S 204 c = (((S 204 c).toNat : Nat) : Int) := by omega
  obtain ⟨⟨⟨s1, s2⟩, -, -⟩, -, k4, -⟩ := (hI.2.1 c hc).2
  have k4 := k4 i hi
  obtain ⟨p, hp⟩ : ∃ p, (L 211 (2000 * c + i)).toInt = p := ⟨_, rfl⟩
  have hple := k4.2.2.1
  have hple : 0 ≤ S 210 (2000 * c + i) ∧ S 210 (2000 * c + i) ≤ S 189 (S 204 c).toNat := hple
  obtain ⟨pl, hpl⟩ : ∃ pl : Nat, S 210 (2000 * c + i) = pl := ⟨(S 210 (2000 * c + i)).toNat, by omega⟩
  have k4 : pkM (unM (L 211 (2000 * c + i)).toInt) = (L 211 (2000 * c + i)).toInt ∧ itV S (keyM S c) (S 210 (2000 * c + i)) (unM (L 211 (2000 * c + i)).toInt) := k4
  rw [hp, hpl] at k4
  have hp60 := pkM_R k4.2.1.1
  rw [k4.1] at hp60
  have hp63 : 0 ≤ p ∧ p < 9223372036854775808 := by omega
  rw [hp, hpl, Int.toNat_natCast] at hE
  rw [hp, hpl, Int.toNat_natCast]
  refine am_enter rfl rfl (Nat.le_of_ble_eq_true rfl) ?_
  refine am_aload_n rfl dX10_follow_0 ?_
  refine mm_getR dX10_follow_1 fl_X10_103 (md_0 hm) mdf_36 ?_
  refine am_iload_n rfl dX10_follow_4 ?_
  refine mm_lal dX10_follow_5 (md_packed hm) (by omega) ?_
  rw [Int.toNat_natCast, show L 211 (2000 * c + i) = lI (L 211 (2000 * c + i)).toInt from (lI_of _).symm, hp]
  refine am_lst3 dX10_follow_6 (Nat.le_of_ble_eq_true rfl) (am_c1i _) ?_
  refine am_aload_n rfl dX10_follow_7 ?_
  refine mm_getR dX10_follow_8 fl_X10_100 (md_0 hm) mdf_35 ?_
  refine am_iload_n rfl dX10_follow_11 ?_
  refine mm_ial dX10_follow_12 (md_placeAt hm) (by omega) ?_
  rw [Int.toNat_natCast, hpl]
  refine am_ist5 dX10_follow_13 (Nat.le_of_ble_eq_true rfl) am_c1n ?_
  refine am_aload_n rfl dX10_follow_15 ?_
  refine mm_getR dX10_follow_16 fl_X10_81 (md_0 hm) mdf_29 ?_
  refine am_iload_n rfl dX10_follow_19 ?_
  refine mm_ial dX10_follow_20 (md_caseRoutine hm) (by omega) ?_
  rw [Int.toNat_natCast, show iI (S 204 c) = iI (((S 204 c).toNat : Nat) : Int) from congrArg iI er204]
  refine am_ist6 dX10_follow_21 (Nat.le_of_ble_eq_true rfl) (am_c1i _) ?_
  refine am_aload_n rfl dX10_follow_23 ?_
  refine am_lload_n rfl dX10_follow_24 ?_
  refine am_cv (mm_V1 dX10_follow_25 in_X10_unpack mk_X10_287 im_X10_unpack sl_X10_unpack ⟨Nat.le_of_ble_eq_true rfl, Nat.le_of_ble_eq_true rfl⟩ rfl (md_0 hm) (Nat.le_of_ble_eq_true rfl)) (m_unpack hm hp63) ?_
  have hF : rgF S (unS S p) := rgF_un
  have hk1 : keyM (unS S p) c = keyM S c := rgF_key hF c
  have eb := rgF_E hF
  have h204 := hF.1 204 (by omega) (by omega)
  have h9 := l_fol (sh := sh) (S := unS S p) (L := L) (X := X) (F := F) (W := W) (c := c) (p := p) (pl := pl) (e := ((2000 * c + i : Nat) : Int)) hm (mbW_of eb hb) (rgF_I hF hI) (rgF_S hF hS) (by rw [hF.2 27 (by omega)]; exact hc) hp63 (by rw [hk1]; exact itV_of eb k4.2) (rgS_un S p) (bvS_of eb (fun d _ => rgF_key hF d) (hF.2 27 (by omega)) (hF.1 207 (by omega) (by omega)) (hF.1 208 (by omega) (by omega)) hv) (inS_J (rgF_J hF) hNN) (by rw [hk1, bk_fo eb]; exact hE)
  rw [h204] at h9
  refine am_AW.mono h9 (fun r0 M' z => ?_)
  obtain ⟨z1, S', L', z2, z3, z4⟩ := z
  refine ⟨z1, S', L', z2, poM_tr (poM_rg hF hI hS) z3, fun e1 e2 => ?_⟩
  have := z4 e1 e2
  rw [hk1, bk_fo eb] at this
  exact this
/-! the least sets -/
def lfX (B : mm_S) : XT := fun κ pl p => ∀ X F W, clsK X F W B → X κ pl p
def lfF (B : mm_S) : FT := fun κ b => ∀ X F W, clsK X F W B → F κ b
def lfW (B : mm_S) : WT := fun r pl w => ∀ X F W, clsK X F W B → W r pl w
theorem en_lf {B : mm_S} {κ : kyT} {R : rgT} {b : Int} (h : ∀ X F W, clsK X F W B → enK F W B κ R b) : enK (lfF B) (lfW B) B κ R b := ⟨fun q X F W hK => (h X F W hK).1 q, fun q X F W hK => (h X F W hK).2 q⟩
theorem ot_lf {B : mm_S} {κ : kyT} {z : Int × Int × rgT} (h : ∀ X F W, clsK X F W B → otK X F W B κ z) : otK (lfX B) (lfF B) (lfW B) B κ z := by
  unfold otK
  by_cases e : z.1 = 1
  · rw [if_pos e]
    intro X F W hK
    have := h X F W hK
    unfold otK at this
    rw [if_pos e] at this
    exact this
  · rw [if_neg e]
    refine en_lf (fun X F W hK => ?_)
    have := h X F W hK
    unfold otK at this
    rw [if_neg e] at this
    exact this
theorem cls_lf (B : mm_S) : clsK (lfX B) (lfF B) (lfW B) B := by
  refine ⟨fun X F W hK => hK.1, fun κ pl p hx => ?_⟩
  have hf : ∀ X F W, clsK X F W B → foK X F W B κ pl (unM p) := fun X F W hK => hK.2 κ pl p (hx X F W hK)
  refine ⟨fun q => en_lf (fun X F W hK => (hf X F W hK).1 q), fun q => ⟨fun w X F W hK => ((hf X F W hK).2 q).1 w, fun w1 w2 => ⟨fun X F W hK => (((hf X F W hK).2 q).2.1 w1 w2).1, fun st hst => ⟨fun hF => ot_lf (fun X F W hK => ((((hf X F W hK).2 q).2.1 w1 w2).2 st hst).1 (hF X F W hK)), fun hF => ot_lf (fun X F W hK => ((((hf X F W hK).2 q).2.1 w1 w2).2 st hst).2 (hF X F W hK))⟩⟩, fun w1 w2 => ⟨ot_lf (fun X F W hK => (((hf X F W hK).2 q).2.2 w1 w2).1), fun ha => ot_lf (fun X F W hK => (((hf X F W hK).2 q).2.2 w1 w2).2 ha)⟩⟩⟩
theorem sam_X {S S' : mm_S} {L L' : mm_L} (h : samM S L S' L') : XM S' L' = XM S L ∧ FM S' = FM S ∧ WM S' = WM S ∧ ∀ c, keyM S' c = keyM S c := by
  obtain ⟨h1, rfl, h3⟩ := h
  refine ⟨?_, ?_, ?_, fun c => ?_⟩
  · unfold XM keyM
    rw [h1 203 (by omega) (by omega), h1 204 (by omega) (by omega), h1 205 (by omega) (by omega), h1 206 (by omega) (by omega), h1 209 (by omega) (by omega), h1 210 (by omega) (by omega), h3]
  · unfold FM keyM
    rw [h1 203 (by omega) (by omega), h1 204 (by omega) (by omega), h1 205 (by omega) (by omega), h1 206 (by omega) (by omega), h1 207 (by omega) (by omega), h1 208 (by omega) (by omega), h3]
  · unfold WM
    rw [h1 213 (by omega) (by omega)]
  · unfold keyM
    rw [h1 203 (by omega) (by omega), h1 204 (by omega) (by omega), h1 205 (by omega) (by omega), h1 206 (by omega) (by omega)]
theorem toC_le {S : mm_S} {L : mm_L} (hI : imS S L) : ∀ n : Nat, (n : Int) ≤ S 181 27 → 0 ≤ toC S n ∧ toC S n ≤ 2128 * n
  | 0, _ => by simp [toC]
  | n + 1, h => by
    have ih := toC_le hI n (by omega)
    have := (hI.2.1 n (by omega)).2.1
    simp only [toC]
    omega
theorem toW_le {S : mm_S} {L : mm_L} (hI : imS S L) : ∀ n : Nat, n ≤ 150 → 0 ≤ toW S n ∧ toW S n ≤ 64 * n
  | 0, _ => by simp [toW]
  | n + 1, h => by
    have ih := toW_le hI n (by omega)
    have := hI.2.2.2.1 n (by omega)
    simp only [toW]
    omega
theorem tot_le {S : mm_S} {L : mm_L} (hI : imS S L) : 0 ≤ tot S ∧ tot S < 100000 := by
  have h1 := hI.1.1
  have h2 := toC_le hI (S 181 27).toNat (by omega)
  have h3 := toW_le hI 150 (Nat.le_refl _)
  unfold tot
  omega
/-! how many WRONGS -/
def wI (f : Nat → Int) (x : Nat) : Nat → Int
  | 0 => 0
  | w + 1 => wI f x w + f x / 2 ^ (w + 1) % 2
def wO (f : Nat → Int) : Nat → Int
  | 0 => 0
  | x + 1 => wO f x + wI f x 5
theorem wI_R (f : Nat → Int) (x : Nat) : ∀ w, 0 ≤ wI f x w ∧ wI f x w ≤ w
  | 0 => by simp [wI]
  | w + 1 => by
    have ih := wI_R f x w
    have := Int.emod_nonneg (f x / 2 ^ (w + 1)) (show (2 : Int) ≠ 0 by decide)
    have := Int.emod_lt_of_pos (f x / 2 ^ (w + 1)) (show (0 : Int) < 2 by decide)
    simp only [wI]
    omega
theorem wO_R (f : Nat → Int) : ∀ x, 0 ≤ wO f x ∧ wO f x ≤ 5 * x
  | 0 => by simp [wO]
  | x + 1 => by
    have ih := wO_R f x
    have := wI_R f x 5
    simp only [wO]
    omega
set_option maxRecDepth 100000 in
set_option maxHeartbeats 4000000 in
theorem l_wm1 {sh : List mm_H} {S : mm_S} {L : mm_L} (hm : mdS sh) (hW : ∀ x : Nat, x < 150 → 0 ≤ S 213 x ∧ S 213 x < 64) {x : Nat} (hx : x < 150) {n0 : Int} {Q : Option Value → am_M → Prop} (kk : am_AW eX10_wrongMany (mm sh S L) 37 [some (.ref 181), some (.int (iI (n0 + wI (S 213) x 5))), some (.int (iI (x : Int))), none] [] Q) : ∀ (q : Nat) (w : Nat), 5 - w < q → (w ≤ 5) → am_AW eX10_wrongMany (mm sh S L) 13 [some (.ref 181), some (.int (iI (n0 + wI (S 213) x w))), some (.int (iI (x : Int))), some (.int (iI ((w : Int) + 1)))] [] Q := by
  intro q
  induction q with
  | zero =>
    intro w hq
    exact absurd hq (Nat.not_lt_zero _)
  | succ q ih =>
    intro w hq hw
    refine am_iload_n rfl dX10_wrongMany_13 ?_
    refine mm_iconst dX10_wrongMany_14 ?_
    refine mm_jgt (tgt := 37) dX10_wrongMany_15 (by decide) (by omega) (by omega) (fun h15 => ?_) (fun h15 => ?_)
    · have h5 : w = 5 := by omega
      subst h5
      exact am_AW.unset 3 kk
    · refine am_iload_n rfl dX10_wrongMany_18 ?_
      refine am_aload_n rfl dX10_wrongMany_19 ?_
      refine mm_getR dX10_wrongMany_20 fl_X10_111 (md_0 hm) mdf_38 ?_
      refine am_iload_n rfl dX10_wrongMany_23 ?_
      refine mm_ial dX10_wrongMany_24 (md_wrongs hm) (by omega) ?_
      rw [Int.toNat_natCast]
      refine am_iload_n rfl dX10_wrongMany_25 ?_
      have hr := hW x hx
      refine mm_ishr dX10_wrongMany_26 (by omega) (by omega) ?_
      refine mm_iconst dX10_wrongMany_27 ?_
      refine mm_iand1 dX10_wrongMany_28 (div_pow_R (by omega)) ?_
      refine mm_iadd dX10_wrongMany_29 ?_
      refine am_ist1 dX10_wrongMany_30 (Nat.le_of_ble_eq_true rfl) (am_c1r _) ?_
      refine mm_inc3 dX10_wrongMany_31 (Nat.le_of_ble_eq_true rfl) (am_c1i _) ?_
      refine am_goto (tgt := 13) dX10_wrongMany_34 (by decide) ?_
      have h9 := ih (w + 1) (by omega) (by omega)
      simp only [wI] at h9
      rw [show (((w + 1 : Nat) : Int) + 1) = (w : Int) + 1 + 1 by omega, ← Int.add_assoc] at h9
      rw [show ((w : Int) + 1).toNat = w + 1 by omega]
      exact h9
set_option maxRecDepth 100000 in
set_option maxHeartbeats 4000000 in
theorem l_wm2 {sh : List mm_H} {S : mm_S} {L : mm_L} (hm : mdS sh) (hW : ∀ x : Nat, x < 150 → 0 ≤ S 213 x ∧ S 213 x < 64) : ∀ (q : Nat) (x : Nat), 150 - x < q → (x ≤ 150) → am_AW eX10_wrongMany (mm sh S L) 4 [some (.ref 181), some (.int (iI (wO (S 213) x))), some (.int (iI (x : Int))), none] [] (fun r M' => r = some (.int (iI (wO (S 213) 150))) ∧ M' = mm sh S L) := by
  intro q
  induction q with
  | zero =>
    intro x hq
    exact absurd hq (Nat.not_lt_zero _)
  | succ q ih =>
    intro x hq hx
    refine am_iload_n rfl dX10_wrongMany_4 ?_
    refine mm_sipush dX10_wrongMany_5 (by decide) ?_
    refine mm_jge (tgt := 43) dX10_wrongMany_8 (by decide) (by omega) (by omega) (fun h8 => ?_) (fun h8 => ?_)
    · have h5 : x = 150 := by omega
      subst h5
      refine am_iload_n rfl dX10_wrongMany_43 ?_
      exact am_ireturn dX10_wrongMany_44 rfl rfl ⟨rfl, rfl⟩
    · refine mm_iconst dX10_wrongMany_11 ?_
      refine am_ist3 dX10_wrongMany_12 (Nat.le_of_ble_eq_true rfl) (am_c1i _) ?_
      have h9 := l_wm1 (sh := sh) (S := S) (L := L) hm hW (x := x) (by omega) (n0 := wO (S 213) x) (Q := fun r M' => r = some (.int (iI (wO (S 213) 150))) ∧ M' = mm sh S L) ?_ 6 0 (by omega) (by omega)
      · simp only [wI, Int.add_zero] at h9
        exact h9
      refine mm_inc2 dX10_wrongMany_37 (Nat.le_of_ble_eq_true rfl) (am_c1i _) ?_
      refine am_goto (tgt := 4) dX10_wrongMany_40 (by decide) ?_
      exact ih (x + 1) (by omega) (by omega)
set_option maxRecDepth 100000 in
set_option maxHeartbeats 4000000 in
theorem m_wrongMany {sh : List mm_H} {S : mm_S} {L : mm_L} (hm : mdS sh) (hW : ∀ x : Nat, x < 150 → 0 ≤ S 213 x ∧ S 213 x < 64) : am_E eX10_wrongMany [.ref 181] (mm sh S L) (fun r M' => r = some (.int (iI (wO (S 213) 150))) ∧ M' = mm sh S L) := by
  refine am_enter rfl rfl (Nat.le_of_ble_eq_true rfl) ?_
  refine mm_iconst dX10_wrongMany_0 ?_
  refine am_ist1 dX10_wrongMany_1 (Nat.le_of_ble_eq_true rfl) (am_c1r _) ?_
  refine mm_iconst dX10_wrongMany_2 ?_
  refine am_ist2 dX10_wrongMany_3 (Nat.le_of_ble_eq_true rfl) (am_c1i _) ?_
  exact l_wm2 hm hW 151 0 (by omega) (by omega)
