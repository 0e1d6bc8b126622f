/-! ===== called; what follows, by the sort ===== -/
section
variable {S : mm_S} {κ : kyT} {pl : Nat} {R : rgT} {X : XT} {F : FT} {W : WT}
theorem fo_end (h : pl = mN S κ.2.1) : foK X F W S κ pl R ↔ enK F W S κ R 0 := ⟨fun z => z.1 h, fun z => ⟨fun _ => z, fun q => by omega⟩⟩
theorem fo_lt (h : pl < mN S κ.2.1) : foK X F W S κ pl R ↔ ((wrR S κ pl R ≠ 0 → W κ.2.1 pl (wrR S κ pl R)) ∧ (wrR S κ pl R = 0 → (mSo S κ.2.1 pl = 10 ∨ mSo S κ.2.1 pl = 11) → X (clK S κ pl R) 0 (pkM (bgR (clK S κ pl R))) ∧ ∀ st : Nat, st < 6 → (F (clK S κ pl R) st → otK X F W S κ (cbR S κ pl R False st)) ∧ (F (clK S κ pl R) (8 + st) → otK X F W S κ (cbR S κ pl R True st))) ∧ (wrR S κ pl R = 0 → ¬ (mSo S κ.2.1 pl = 10 ∨ mSo S κ.2.1 pl = 11) → otK X F W S κ (nxR S κ pl R True) ∧ (asR S κ pl R → otK X F W S κ (nxR S κ pl R False)))) := ⟨fun z => z.2 h, fun z => ⟨fun q => by omega, fun _ => z⟩⟩
theorem fo_use (h : pl < mN S κ.2.1) (hx : mSo S κ.2.1 pl = 1 ∨ mSo S κ.2.1 pl = 2 ∨ mSo S κ.2.1 pl = 5) : foK X F W S κ pl R ↔ ((wrR S κ pl R ≠ 0 → W κ.2.1 pl (wrR S κ pl R)) ∧ (wrR S κ pl R = 0 → otK X F W S κ (nxR S κ pl R True) ∧ (asR S κ pl R → otK X F W S κ (nxR S κ pl R False)))) := by
  rw [fo_lt h]
  exact ⟨fun z => ⟨z.1, fun q => z.2.2 q (by omega)⟩, fun z => ⟨z.1, fun _ q => by omega, fun q _ => z.2 q⟩⟩
theorem fo_call (h : pl < mN S κ.2.1) (hx : mSo S κ.2.1 pl = 10 ∨ mSo S κ.2.1 pl = 11) : foK X F W S κ pl R ↔ ((wrR S κ pl R ≠ 0 → W κ.2.1 pl (wrR S κ pl R)) ∧ (wrR S κ pl R = 0 → X (clK S κ pl R) 0 (pkM (bgR (clK S κ pl R))) ∧ ∀ st : Nat, st < 6 → (F (clK S κ pl R) st → otK X F W S κ (cbR S κ pl R False st)) ∧ (F (clK S κ pl R) (8 + st) → otK X F W S κ (cbR S κ pl R True st)))) := by
  rw [fo_lt h]
  exact ⟨fun z => ⟨z.1, fun q => z.2.1 q hx⟩, fun z => ⟨z.1, fun q _ => z.2 q, fun _ q => absurd hx q⟩⟩
theorem fo_nm {t : Int} {Z : Int × Int × rgT} (h : pl < mN S κ.2.1) (hx : mSo S κ.2.1 pl = 0 ∨ mSo S κ.2.1 pl = 8 ∨ mSo S κ.2.1 pl = 9) (hw : wrR S κ pl R = ifP (lfR S R (mAa S κ.2.1 pl).toNat t) 5 0) (hn : ∀ (y : Prop) [Decidable y], nxR S κ pl R y = Z) : foK X F W S κ pl R ↔ ((lfR S R (mAa S κ.2.1 pl).toNat t → W κ.2.1 pl 5) ∧ (¬ lfR S R (mAa S κ.2.1 pl).toNat t → otK X F W S κ Z)) := by
  have ha : ¬ asR S κ pl R := fun z => by
    rcases z with z | z
    · omega
    · have := z.1; omega
  rw [fo_lt h, hn True, hn False]
  constructor
  · rintro ⟨z1, z2, z3⟩
    refine ⟨fun q => ?_, fun q => ?_⟩
    · rw [hw, ifP_t q] at z1; exact z1 (by decide)
    · rw [hw, ifP_f q] at z3; exact (z3 rfl (by omega)).1
  · rintro ⟨z1, z2⟩
    by_cases q : lfR S R (mAa S κ.2.1 pl).toNat t
    · rw [hw, ifP_t q]; exact ⟨fun _ => z1 q, fun e => by omega, fun e => by omega⟩
    · rw [hw, ifP_f q]; exact ⟨fun e => absurd rfl e, fun _ e => by omega, fun _ _ => ⟨z2 q, fun e => absurd e ha⟩⟩
theorem wr_oth (hx : ¬ (mSo S κ.2.1 pl = 0 ∨ mSo S κ.2.1 pl = 1 ∨ mSo S κ.2.1 pl = 2 ∨ mSo S κ.2.1 pl = 5 ∨ mSo S κ.2.1 pl = 8 ∨ mSo S κ.2.1 pl = 9 ∨ mSo S κ.2.1 pl = 10 ∨ mSo S κ.2.1 pl = 11)) : wrR S κ pl R = 0 := by
  unfold wrR
  rw [if_neg (by omega), if_neg (by omega), if_neg (by omega), if_neg (by omega)]
theorem fo_if {Z Z' : Int × Int × rgT} (h : pl < mN S κ.2.1) (hx : mSo S κ.2.1 pl = 3 ∨ mSo S κ.2.1 pl = 4) (h1 : nxR S κ pl R True = Z) (h2 : nxR S κ pl R False = Z') : foK X F W S κ pl R ↔ (otK X F W S κ Z ∧ otK X F W S κ Z') := by
  have hw : wrR S κ pl R = 0 := wr_oth (by omega)
  rw [fo_lt h, h1, h2, hw]
  exact ⟨fun z => ⟨(z.2.2 rfl (by omega)).1, (z.2.2 rfl (by omega)).2 (Or.inl (by omega))⟩, fun z => ⟨fun e => absurd rfl e, fun _ e => by omega, fun _ _ => ⟨z.1, fun _ => z.2⟩⟩⟩
theorem fo_one {Z : Int × Int × rgT} (h : pl < mN S κ.2.1) (hx : mSo S κ.2.1 pl = 6 ∨ mSo S κ.2.1 pl = 7 ∨ 12 ≤ mSo S κ.2.1 pl) (hn : nxR S κ pl R True = Z) : foK X F W S κ pl R ↔ otK X F W S κ Z := by
  have hw : wrR S κ pl R = 0 := wr_oth (by omega)
  have ha : ¬ asR S κ pl R := fun z => by
    rcases z with z | z
    · omega
    · have := z.1; omega
  rw [fo_lt h, hn, hw]
  exact ⟨fun z => (z.2.2 rfl (by omega)).1, fun z => ⟨fun e => absurd rfl e, fun _ e => by omega, fun _ _ => ⟨z, fun e => absurd e ha⟩⟩⟩
theorem ky_cl (hm : mbC S) (hκ : (κ.2.1 : Int) < S 181 9) (hR : rgV S κ R) (h : pl < mN S κ.2.1) (hx : mSo S κ.2.1 pl = 10 ∨ mSo S κ.2.1 pl = 11) (hw : wrR S κ pl R = 0) : kyV S (clK S κ pl R) := by
  have u := wr_call hx hw
  obtain ⟨c1, c2, c3, c4⟩ := hm.2.2.2 κ.2.1 hκ
  have hk5 : 0 ≤ mBb S κ.2.1 pl ∧ mBb S κ.2.1 pl < 5 := by have ok := c4 pl h; omega
  have okc := cd_ok hR hm.1 (v := (mBb S κ.2.1 pl).toNat) (by omega) u.1
  have hmc := c3 pl h hx
  have hmc : 0 ≤ mAa S κ.2.1 pl ∧ mAa S κ.2.1 pl < S 181 9 := hmc
  have e2 := u.2.1
  refine ⟨?_, ?_, fun _ => ⟨⟨?_, ?_⟩, ?_, ?_⟩, fun z => ?_⟩
  · show 0 ≤ (if mSo S κ.2.1 pl = 11 then (2 : Int) else 1) ∧ (if mSo S κ.2.1 pl = 11 then (2 : Int) else 1) ≤ 2
    split <;> omega
  · show (((mAa S κ.2.1 pl).toNat : Nat) : Int) < _
    omega
  · show 0 ≤ cdR κ.2.2.1 R (R.1 (mBb S κ.2.1 pl).toNat) / 7
    have := okc.1; omega
  · exact okc.2.1
  · show 0 ≤ cdR κ.2.2.1 R (R.1 (mBb S κ.2.1 pl).toNat) % 7
    omega
  · show cdR κ.2.2.1 R (R.1 (mBb S κ.2.1 pl).toNat) % 7 < _
    rcases okc.2.2 with q | q
    · exact q
    · exact absurd q e2
  · have z : (if mSo S κ.2.1 pl = 11 then (2 : Int) else 1) = 0 := z
    split at z <;> omega
end
theorem bk_fo {S S' : mm_S} (he : bkE S S') {X : XT} {F : FT} {W : WT} (κ : kyT) (pl : Nat) (R : rgT) : foK X F W S' κ pl R = foK X F W S κ pl R := by
  unfold foK
  rw [bk_N he, bk_wr he, bk_cl he, bk_as he, bk_So he]
  simp only [bk_en he, bk_otK he, bk_cb he, bk_nx he]
set_option maxRecDepth 100000 in
set_option maxHeartbeats 16000000 in
theorem m_called {sh : List mm_H} {S : mm_S} {L : mm_L} (hm : mdS sh) (hb : mbW S) (hI : imS S L) {X : XT} {F : FT} {W : WT} (hS : SubM S L X F W) {c : Nat} (hc : (c : Int) < S 181 27) {p : Int} (hp0 : 0 ≤ p ∧ p < 9223372036854775808) {pl : Nat} (hp : pl < mN S (S 204 c).toNat) (hx : mSo S (S 204 c).toNat pl = 10 ∨ mSo S (S 204 c).toNat pl = 11) (hR : rgV S (keyM S c) (unM p)) (hrg : rgS S = unM p) (hv : bvS S) (hNN : inS S L) (hE : foK X F W S (keyM S c) pl (unM p)) : am_E eX10_called [.ref 181, .int (iI (c : Int)), .long (lI p), .int (iI (pl : Int)), .int (iI (b2 (mSo S (S 204 c).toNat pl = 11)))] (mm sh S L) (fun r0 M' => r0 = none ∧ ∃ S' L', M' = mm sh S' L' ∧ poM S L X F W S' L' ∧ (S' 181 39 = 0 → S' 181 40 = 0 → foK (XM S' L') (FM S') (WM S') S (keyM S c) pl (unM p))) := by
  have hcs := hI.1
  have hc27 := hI.1.1
  have hcc := hcs.2 c hc
  have hκ := (hI.2.1 c hc).1
  have hr9 : (((S 204 c).toNat : Nat) : Int) < S 181 9 := hκ.2.1
  have hrw := hb.2.2.2.2 (S 204 c).toNat hr9
  have h24 := hb.1.2.2.2.2 (S 204 c).toNat (by omega)
  have hc40 : c < 40 := by omega
  have er204 : S 204 c = (((S 204 c).toNat : Nat) : Int) := by omega
  have hN : ((mN S (S 204 c).toNat : Nat) : Int) = S 189 (S 204 c).toNat := by unfold mN; omega
  have hkA : (0 ≤ mBb S (S 204 c).toNat pl ∧ mBb S (S 204 c).toNat pl < 5) ∧ (0 ≤ mAa S (S 204 c).toNat pl ∧ mAa S (S 204 c).toNat pl < 6) := by have ok := (mrW_C hrw).2.2.2 pl hp; omega
  obtain ⟨A0, hA0⟩ : ∃ A0 : Nat, (mBb S (S 204 c).toNat pl).toNat = A0 := ⟨_, rfl⟩
  have hA5 : A0 < 5 := by omega
  have hAi : mBb S (S 204 c).toNat pl = (A0 : Int) := by omega
  have hT6 := hR.1.1 A0 hA5
  have hva : S 198 A0 = (unM p).1 A0 := by rw [← hrg, rg_V hA5]
  have eIx : (25 * (((S 204 c).toNat : Nat) : Int) + (pl : Int)) = ((25 * (S 204 c).toNat + pl : Nat) : Int) := by omega
  have hfc := fun X' F' W' => fo_call (S := S) (κ := keyM S c) (pl := pl) (R := unM p) (X := X') (F := F') (W := W') hp hx
  have hE := (hfc X F W).mp hE
  have hwu : wrR S (keyM S c) pl (unM p) = (if agR (S 205 c) (unM p) ((unM p).1 A0) ≠ 0 then agR (S 205 c) (unM p) ((unM p).1 A0) else if mSo S (S 204 c).toNat pl = 11 ∧ (unM p).1 A0 = 1 then 4 else 0) := by
    unfold wrR
    rw [if_neg (show ¬ (mSo S (keyM S c).2.1 pl = 1 ∨ mSo S (keyM S c).2.1 pl = 2 ∨ mSo S (keyM S c).2.1 pl = 5) from fun z => by have z : mSo S (S 204 c).toNat pl = 1 ∨ mSo S (S 204 c).toNat pl = 2 ∨ mSo S (S 204 c).toNat pl = 5 := z; omega), if_pos (show mSo S (keyM S c).2.1 pl = 10 ∨ mSo S (keyM S c).2.1 pl = 11 from hx)]
    show (if agR (S 205 c) (unM p) ((unM p).1 (mBb S (S 204 c).toNat pl).toNat) ≠ 0 then _ else if mSo S (S 204 c).toNat pl = 11 ∧ (unM p).1 (mBb S (S 204 c).toNat pl).toNat = 1 then _ else _) = _
    rw [hA0]
  have tne : (unM p).1 A0 ≠ 1 → (unM p).1 A0 ≠ 0 → 0 ≤ (unM p).1 A0 - 2 ∧ (unM p).1 A0 - 2 < 5 := by omega
  have hag : agM S c ((unM p).1 A0) = agR (S 205 c) (unM p) ((unM p).1 A0) := by rw [ag_rg (fun z1 z2 => tne z2 z1), hrg]
  have hcd : (unM p).1 A0 ≠ 0 → cdM S c ((unM p).1 A0) = cdR (S 205 c) (unM p) ((unM p).1 A0) := fun z => by rw [cd_rg (fun z1 => tne z1 z), hrg]
  have hok : (unM p).1 A0 ≠ 0 → okC S (cdR (S 205 c) (unM p) ((unM p).1 A0)) := fun z => cd_ok hR hb.1 hA5 z
  have agR0 : agR (S 205 c) (unM p) ((unM p).1 A0) = 0 ∨ agR (S 205 c) (unM p) ((unM p).1 A0) = 1 ∨ agR (S 205 c) (unM p) ((unM p).1 A0) = 2 := by
    unfold agR
    split
    · omega
    · split <;> omega
  have agN : agR (S 205 c) (unM p) ((unM p).1 A0) = 0 → (unM p).1 A0 ≠ 0 ∧ cdR (S 205 c) (unM p) ((unM p).1 A0) % 7 ≠ 6 := fun z => by
    unfold agR at z
    constructor
    · intro q; rw [if_pos q] at z; omega
    · intro q
      by_cases q0 : (unM p).1 A0 = 0
      · rw [if_pos q0] at z; omega
      · rw [if_neg q0, if_pos q] at z; omega
  have v0 := hb.1.1
  obtain ⟨G0, hG0⟩ : ∃ G0, agR (S 205 c) (unM p) ((unM p).1 A0) = G0 := ⟨_, rfl⟩
  rw [hG0] at hwu hag agR0 agN
  obtain ⟨A1, hA1⟩ : ∃ A1 : Nat, mAa S (S 204 c).toNat pl = (A1 : Int) := ⟨(mAa S (S 204 c).toNat pl).toNat, by omega⟩
  refine am_enter rfl rfl (Nat.le_of_ble_eq_true rfl) ?_
  refine mm_bipush dX10_called_0 (by decide) ?_
  refine am_aload_n rfl dX10_called_2 ?_
  refine mm_getR dX10_called_3 fl_X10_81 (md_0 hm) mdf_29 ?_
  refine am_iload_n rfl dX10_called_6 ?_
  refine mm_ial dX10_called_7 (md_caseRoutine hm) (by omega) ?_
  rw [Int.toNat_natCast, show iI (S 204 c) = iI (((S 204 c).toNat : Nat) : Int) from congrArg iI er204]
  refine mm_imul dX10_called_8 ?_
  refine am_iload rfl dX10_called_9 ?_
  refine mm_iadd dX10_called_11 ?_
  rw [eIx]
  refine am_ist6 dX10_called_12 (Nat.le_of_ble_eq_true rfl) (am_c1i _) ?_
  refine am_aload_n rfl dX10_called_14 ?_
  refine mm_getR dX10_called_15 fl_X10_63 (md_0 hm) mdf_20 ?_
  refine am_aload_n rfl dX10_called_18 ?_
  refine mm_getR dX10_called_19 fl_X10_45 (md_0 hm) mdf_13 ?_
  refine am_iload rfl dX10_called_22 ?_
  refine mm_ial dX10_called_24 (md_bAt hm) (by omega) ?_
  rw [Int.toNat_natCast, show S 192 (25 * (S 204 c).toNat + pl) = (A0 : Int) from hAi]
  refine mm_ial dX10_called_25 (md_var hm) (by omega) ?_
  rw [Int.toNat_natCast, hva]
  refine am_ist7 dX10_called_26 (Nat.le_of_ble_eq_true rfl) (am_c1i _) ?_
  refine am_aload_n rfl dX10_called_28 ?_
  refine am_iload_n rfl dX10_called_29 ?_
  refine am_iload rfl dX10_called_30 ?_
  refine am_ci (mm_V2 dX10_called_32 in_X10_against mk_X10_281 im_X10_against sl_X10_against ⟨Nat.le_of_ble_eq_true rfl, Nat.le_of_ble_eq_true rfl⟩ rfl (md_0 hm) (Nat.le_of_ble_eq_true rfl)) (m_against hm hc40 hT6 (fun z => by have h0 := (hok z).1; rw [hcd z]; omega)) ?_
  rw [hag]
  refine am_ist8 dX10_called_35 (Nat.le_of_ble_eq_true rfl) (am_c1i _) ?_
  refine am_iload rfl dX10_called_37 ?_
  refine mm_zne (tgt := 57) dX10_called_39 (by decide) (by omega) (fun h39 => ?_) (fun h39 => ?_)
  · refine am_iload rfl dX10_called_57 ?_
    refine am_ist8 dX10_called_59 (Nat.le_of_ble_eq_true rfl) (am_c1i _) ?_
    refine am_iload rfl dX10_called_61 ?_
    refine mm_zeq (tgt := 76) dX10_called_63 (by decide) (by omega) (fun h63 => ?_) (fun h63 => ?_)
    · have hn := agN (by omega)
      have okc := hok hn.1
      have ok1 := okc.1
      have ok2 := okc.2.1
      obtain ⟨C0, hC0⟩ : ∃ C0, cdR (S 205 c) (unM p) ((unM p).1 A0) = C0 := ⟨_, rfl⟩
      rw [hC0] at hcd ok1 ok2 hn
      refine am_aload_n rfl dX10_called_76 ?_
      refine am_iload_n rfl dX10_called_77 ?_
      refine am_iload rfl dX10_called_78 ?_
      refine am_ci (mm_V2 dX10_called_80 in_X10_codeOf mk_X10_274 im_X10_codeOf sl_X10_codeOf ⟨Nat.le_of_ble_eq_true rfl, Nat.le_of_ble_eq_true rfl⟩ rfl (md_0 hm) (Nat.le_of_ble_eq_true rfl)) (m_codeOf hm hc40 (by omega)) ?_
      rw [hcd hn.1]
      refine am_ist9 dX10_called_83 (Nat.le_of_ble_eq_true rfl) (am_c1i _) ?_
      refine am_aload_n rfl dX10_called_85 ?_
      refine am_iload rfl dX10_called_86 ?_
      refine mm_beq (tgt := 95) dX10_called_88 (by decide) (fun h88 => ?_) (fun h88 => ?_)
      · refine mm_iconst dX10_called_95 ?_
        refine am_aload_n rfl dX10_called_96 ?_
        refine mm_getR dX10_called_97 fl_X10_42 (md_0 hm) mdf_12 ?_
        refine am_iload rfl dX10_called_100 ?_
        refine mm_ial dX10_called_102 (md_aAt hm) (by omega) ?_
        rw [Int.toNat_natCast, show S 191 (25 * (S 204 c).toNat + pl) = (A1 : Int) from hA1]
        refine am_iload rfl dX10_called_103 ?_
        refine mm_bipush dX10_called_105 (by decide) ?_
        refine mm_idiv dX10_called_107 (by omega) (by omega) ?_
        refine am_iload rfl dX10_called_108 ?_
        refine mm_bipush dX10_called_110 (by decide) ?_
        refine mm_irem dX10_called_112 (by omega) (by omega) ?_
        have hw0 : wrR S (keyM S c) pl (unM p) = 0 := by rw [hwu, if_neg (by omega), if_neg (by omega)]
        have ecl : clK S (keyM S c) pl (unM p) = ((1, A1, C0 / 7, C0 % 7) : kyT) := by
          show ((if mSo S (S 204 c).toNat pl = 11 then (2 : Int) else 1), (mAa S (S 204 c).toNat pl).toNat, cdR (S 205 c) (unM p) ((unM p).1 (mBb S (S 204 c).toNat pl).toNat) / 7, cdR (S 205 c) (unM p) ((unM p).1 (mBb S (S 204 c).toNat pl).toNat) % 7) = _
          rw [if_neg h88, hA1, Int.toNat_natCast, hA0, hC0]
        refine am_cxi (mm_V4 dX10_called_113 in_X10_calls mk_X10_284 im_X10_calls sl_X10_calls ⟨Nat.le_of_ble_eq_true rfl, Nat.le_of_ble_eq_true rfl⟩ rfl (md_0 hm) (Nat.le_of_ble_eq_true rfl)) (by
          have h0 := m_calls (sh := sh) (S := S) (L := L) (X := X) (F := F) (W := W) (κ := clK S (keyM S c) pl (unM p)) hm hb hI hS hNN (ky_cl (mbW_C hb) hr9 hR hp hx hw0) (hE.2 hw0).1
          rw [ecl] at h0
          have h0 : am_E eX10_calls [.ref 181, .int (iI 1), .int (iI (A1 : Int)), .int (iI (C0 / 7)), .int (iI (C0 % 7))] (mm sh S L) (fun r0 M' => ∃ v, r0 = some (.int (iI v)) ∧ ∃ S' L', M' = mm sh S' L' ∧ poM S L X F W S' L' ∧ ((v = -1 ∧ S' 181 39 = 1) ∨ ∃ d : Nat, v = d ∧ (d : Int) < S' 181 27 ∧ keyM S' d = ((1, A1, C0 / 7, C0 % 7) : kyT))) := h0
          rw [← ecl] at h0
          exact h0.mono (Q' := fun r0 M' => ∃ x, r0 = some (.int x) ∧ ∃ v, x = iI v ∧ ∃ S' L', M' = mm sh S' L' ∧ poM S L X F W S' L' ∧ ((v = -1 ∧ S' 181 39 = 1) ∨ ∃ d : Nat, v = d ∧ (d : Int) < S' 181 27 ∧ keyM S' d = clK S (keyM S c) pl (unM p))) (fun r0 M' ⟨v, a1, a2⟩ => ⟨_, a1, v, rfl, a2⟩)) (fun x1 M1 hq => ?_)
        obtain ⟨v, rfl, S1, L1, rfl, po1, hd1⟩ := hq
        rcases hd1 with ⟨rfl, hsp⟩ | ⟨d, rfl, hd1⟩
        · refine am_ist10 dX10_called_116 (Nat.le_of_ble_eq_true rfl) (am_c1i _) ?_
          refine mm_iconst dX10_called_118 ?_
          refine am_ist11 dX10_called_119 (Nat.le_of_ble_eq_true rfl) (am_c1i _) ?_
          refine am_iload rfl dX10_called_121 ?_
          refine mm_bipush dX10_called_123 (by decide) ?_
          refine mm_jge (tgt := 234) dX10_called_125 (by decide) (by omega) (by omega) (fun h125 => ?_) (fun h125 => ?_)
          · exfalso; omega
          refine am_iload rfl dX10_called_128 ?_
          refine mm_iconst dX10_called_130 ?_
          refine mm_jeq (tgt := 234) dX10_called_131 (by decide) (by omega) (by omega) (fun h131 => ?_) (fun h131 => ?_)
          · exact am_return dX10_called_234 rfl ⟨rfl, S1, L1, rfl, po1, fun e => by rw [hsp] at e; omega⟩
          · exfalso; omega
        refine am_ist10 dX10_called_116 (Nat.le_of_ble_eq_true rfl) (am_c1i _) ?_
        refine mm_iconst dX10_called_118 ?_
        refine am_ist11 dX10_called_119 (Nat.le_of_ble_eq_true rfl) (am_c1i _) ?_
        have h9 := l_cal (sh := sh) (S := S) (L := L) (X := X) (F := F) (W := W) (c := c) (p := p) (pl := pl) (d := d) hm hb hI hS hc hp0 hp hx hR hw0 hv (hE.2 hw0).2 13 0 S1 L1 (by omega) (by omega) po1 hd1 (fun _ _ u hu => absurd hu (Nat.not_lt_zero u))
        rw [hA0, hC0] at h9
        rw [show G0 = 0 by omega]
        refine am_AW.mono h9 (fun r0 M' z => ?_)
        obtain ⟨z1, S2, L2, z2, z3, z4, z5⟩ := z
        refine ⟨z1, S2, L2, z2, z3, fun e39 e40 => (hfc _ _ _).mpr ⟨fun q => absurd hw0 q, fun _ => ⟨?_, fun st hst => ⟨fun hf => ?_, fun hf => ?_⟩⟩⟩⟩
        · have := inS_J z3.1 hNN d z4.1
          rw [z4.2] at this
          exact this
        · obtain ⟨d', a1, a2, a3⟩ := hf
          have e : d' = d := z3.2.1.2.2.1 d' d a1 z4.1 (by rw [a2, z4.2])
          subst e
          have hbt : btS S2 d' st := by
            unfold btS
            rw [if_pos (by omega), Nat.mod_eq_of_lt hst]
            rcases a3 with ⟨q1, q2, q3⟩ | ⟨q1, q2⟩
            · exact q3
            · omega
          have := z5 e39 e40 st (by omega) hbt
          rw [Nat.mod_eq_of_lt hst] at this
          unfold cbR at this ⊢
          rw [if_neg (by omega)] at this
          rw [if_neg (fun z => z)]
          exact this
        · obtain ⟨d', a1, a2, a3⟩ := hf
          have e : d' = d := z3.2.1.2.2.1 d' d a1 z4.1 (by rw [a2, z4.2])
          subst e
          have hbt : btS S2 d' (6 + st) := by
            unfold btS
            rw [if_neg (by omega), show (6 + st) % 6 = st by omega]
            rcases a3 with ⟨q1, q2, q3⟩ | ⟨q1, q2⟩
            · omega
            · rw [show ((8 + (st : Int)) - 8).toNat = st by omega] at q2
              exact q2
          have := z5 e39 e40 (6 + st) (by omega) hbt
          rw [show (6 + st) % 6 = st by omega] at this
          unfold cbR at this ⊢
          rw [if_pos (by omega)] at this
          rw [if_pos trivial]
          exact this
      · refine mm_iconst dX10_called_91 ?_
        refine am_goto (tgt := 96) dX10_called_92 (by decide) ?_
        refine am_aload_n rfl dX10_called_96 ?_
        refine mm_getR dX10_called_97 fl_X10_42 (md_0 hm) mdf_12 ?_
        refine am_iload rfl dX10_called_100 ?_
        refine mm_ial dX10_called_102 (md_aAt hm) (by omega) ?_
        rw [Int.toNat_natCast, show S 191 (25 * (S 204 c).toNat + pl) = (A1 : Int) from hA1]
        refine am_iload rfl dX10_called_103 ?_
        refine mm_bipush dX10_called_105 (by decide) ?_
        refine mm_idiv dX10_called_107 (by omega) (by omega) ?_
        refine am_iload rfl dX10_called_108 ?_
        refine mm_bipush dX10_called_110 (by decide) ?_
        refine mm_irem dX10_called_112 (by omega) (by omega) ?_
        have hw0 : wrR S (keyM S c) pl (unM p) = 0 := by rw [hwu, if_neg (by omega), if_neg (by omega)]
        have ecl : clK S (keyM S c) pl (unM p) = ((2, A1, C0 / 7, C0 % 7) : kyT) := by
          show ((if mSo S (S 204 c).toNat pl = 11 then (2 : Int) else 1), (mAa S (S 204 c).toNat pl).toNat, cdR (S 205 c) (unM p) ((unM p).1 (mBb S (S 204 c).toNat pl).toNat) / 7, cdR (S 205 c) (unM p) ((unM p).1 (mBb S (S 204 c).toNat pl).toNat) % 7) = _
          rw [if_pos h88, hA1, Int.toNat_natCast, hA0, hC0]
        refine am_cxi (mm_V4 dX10_called_113 in_X10_calls mk_X10_284 im_X10_calls sl_X10_calls ⟨Nat.le_of_ble_eq_true rfl, Nat.le_of_ble_eq_true rfl⟩ rfl (md_0 hm) (Nat.le_of_ble_eq_true rfl)) (by
          have h0 := m_calls (sh := sh) (S := S) (L := L) (X := X) (F := F) (W := W) (κ := clK S (keyM S c) pl (unM p)) hm hb hI hS hNN (ky_cl (mbW_C hb) hr9 hR hp hx hw0) (hE.2 hw0).1
          rw [ecl] at h0
          have h0 : am_E eX10_calls [.ref 181, .int (iI 2), .int (iI (A1 : Int)), .int (iI (C0 / 7)), .int (iI (C0 % 7))] (mm sh S L) (fun r0 M' => ∃ v, r0 = some (.int (iI v)) ∧ ∃ S' L', M' = mm sh S' L' ∧ poM S L X F W S' L' ∧ ((v = -1 ∧ S' 181 39 = 1) ∨ ∃ d : Nat, v = d ∧ (d : Int) < S' 181 27 ∧ keyM S' d = ((2, A1, C0 / 7, C0 % 7) : kyT))) := h0
          rw [← ecl] at h0
          exact h0.mono (Q' := fun r0 M' => ∃ x, r0 = some (.int x) ∧ ∃ v, x = iI v ∧ ∃ S' L', M' = mm sh S' L' ∧ poM S L X F W S' L' ∧ ((v = -1 ∧ S' 181 39 = 1) ∨ ∃ d : Nat, v = d ∧ (d : Int) < S' 181 27 ∧ keyM S' d = clK S (keyM S c) pl (unM p))) (fun r0 M' ⟨v, a1, a2⟩ => ⟨_, a1, v, rfl, a2⟩)) (fun x1 M1 hq => ?_)
        obtain ⟨v, rfl, S1, L1, rfl, po1, hd1⟩ := hq
        rcases hd1 with ⟨rfl, hsp⟩ | ⟨d, rfl, hd1⟩
        · refine am_ist10 dX10_called_116 (Nat.le_of_ble_eq_true rfl) (am_c1i _) ?_
          refine mm_iconst dX10_called_118 ?_
          refine am_ist11 dX10_called_119 (Nat.le_of_ble_eq_true rfl) (am_c1i _) ?_
          refine am_iload rfl dX10_called_121 ?_
          refine mm_bipush dX10_called_123 (by decide) ?_
          refine mm_jge (tgt := 234) dX10_called_125 (by decide) (by omega) (by omega) (fun h125 => ?_) (fun h125 => ?_)
          · exfalso; omega
          refine am_iload rfl dX10_called_128 ?_
          refine mm_iconst dX10_called_130 ?_
          refine mm_jeq (tgt := 234) dX10_called_131 (by decide) (by omega) (by omega) (fun h131 => ?_) (fun h131 => ?_)
          · exact am_return dX10_called_234 rfl ⟨rfl, S1, L1, rfl, po1, fun e => by rw [hsp] at e; omega⟩
          · exfalso; omega
        refine am_ist10 dX10_called_116 (Nat.le_of_ble_eq_true rfl) (am_c1i _) ?_
        refine mm_iconst dX10_called_118 ?_
        refine am_ist11 dX10_called_119 (Nat.le_of_ble_eq_true rfl) (am_c1i _) ?_
        have h9 := l_cal (sh := sh) (S := S) (L := L) (X := X) (F := F) (W := W) (c := c) (p := p) (pl := pl) (d := d) hm hb hI hS hc hp0 hp hx hR hw0 hv (hE.2 hw0).2 13 0 S1 L1 (by omega) (by omega) po1 hd1 (fun _ _ u hu => absurd hu (Nat.not_lt_zero u))
        rw [hA0, hC0] at h9
        rw [show G0 = 0 by omega]
        refine am_AW.mono h9 (fun r0 M' z => ?_)
        obtain ⟨z1, S2, L2, z2, z3, z4, z5⟩ := z
        refine ⟨z1, S2, L2, z2, z3, fun e39 e40 => (hfc _ _ _).mpr ⟨fun q => absurd hw0 q, fun _ => ⟨?_, fun st hst => ⟨fun hf => ?_, fun hf => ?_⟩⟩⟩⟩
        · have := inS_J z3.1 hNN d z4.1
          rw [z4.2] at this
          exact this
        · obtain ⟨d', a1, a2, a3⟩ := hf
          have e : d' = d := z3.2.1.2.2.1 d' d a1 z4.1 (by rw [a2, z4.2])
          subst e
          have hbt : btS S2 d' st := by
            unfold btS
            rw [if_pos (by omega), Nat.mod_eq_of_lt hst]
            rcases a3 with ⟨q1, q2, q3⟩ | ⟨q1, q2⟩
            · exact q3
            · omega
          have := z5 e39 e40 st (by omega) hbt
          rw [Nat.mod_eq_of_lt hst] at this
          unfold cbR at this ⊢
          rw [if_neg (by omega)] at this
          rw [if_neg (fun z => z)]
          exact this
        · obtain ⟨d', a1, a2, a3⟩ := hf
          have e : d' = d := z3.2.1.2.2.1 d' d a1 z4.1 (by rw [a2, z4.2])
          subst e
          have hbt : btS S2 d' (6 + st) := by
            unfold btS
            rw [if_neg (by omega), show (6 + st) % 6 = st by omega]
            rcases a3 with ⟨q1, q2, q3⟩ | ⟨q1, q2⟩
            · omega
            · rw [show ((8 + (st : Int)) - 8).toNat = st by omega] at q2
              exact q2
          have := z5 e39 e40 (6 + st) (by omega) hbt
          rw [show (6 + st) % 6 = st by omega] at this
          unfold cbR at this ⊢
          rw [if_pos (by omega)] at this
          rw [if_pos trivial]
          exact this
    · refine am_aload_n rfl dX10_called_66 ?_
      refine am_iload_n rfl dX10_called_67 ?_
      refine am_iload rfl dX10_called_68 ?_
      refine am_iload rfl dX10_called_70 ?_
      refine am_cxv (mm_V3 dX10_called_72 in_X10_wrong mk_X10_261 im_X10_wrong sl_X10_wrong ⟨Nat.le_of_ble_eq_true rfl, Nat.le_of_ble_eq_true rfl⟩ rfl (md_0 hm) (Nat.le_of_ble_eq_true rfl)) (m_wrongP (X := X) (F := F) (W := W) (pl := pl) hm hb hI hS (c := c) hc (by omega) (by omega) (by first | (have q := hE.1 (by rw [hwu, if_neg (by omega), if_pos (by omega)]; omega); rw [hwu, if_neg (by omega), if_pos (by omega)] at q; exact q) | (have q := hE.1 (by rw [hwu, if_pos (by omega)]; omega); rw [hwu, if_pos (by omega)] at q; exact q))) (fun M1 hq => ?_)
      obtain ⟨S2, rfl, hpo, hwm⟩ := hq
      refine am_return dX10_called_75 rfl ?_
      refine ⟨rfl, S2, L, rfl, hpo, fun _ _ => (hfc _ _ _).mpr ⟨fun _ => ?_, fun z => ?_⟩⟩
      · first
          | (rw [hwu, if_neg (by omega), if_pos (by omega)]; exact hwm)
          | (rw [hwu, if_pos (by omega)]; exact hwm)
      · exfalso
        first
          | (rw [hwu, if_neg (by omega), if_pos (by omega)] at z; omega)
          | (rw [hwu, if_pos (by omega)] at z; omega)
  · refine am_iload rfl dX10_called_42 ?_
    refine mm_beq (tgt := 57) dX10_called_44 (by decide) (fun h44 => ?_) (fun h44 => ?_)
    · refine am_iload rfl dX10_called_57 ?_
      refine am_ist8 dX10_called_59 (Nat.le_of_ble_eq_true rfl) (am_c1i _) ?_
      refine am_iload rfl dX10_called_61 ?_
      refine mm_zeq (tgt := 76) dX10_called_63 (by decide) (by omega) (fun h63 => ?_) (fun h63 => ?_)
      · have hn := agN (by omega)
        have okc := hok hn.1
        have ok1 := okc.1
        have ok2 := okc.2.1
        obtain ⟨C0, hC0⟩ : ∃ C0, cdR (S 205 c) (unM p) ((unM p).1 A0) = C0 := ⟨_, rfl⟩
        rw [hC0] at hcd ok1 ok2 hn
        refine am_aload_n rfl dX10_called_76 ?_
        refine am_iload_n rfl dX10_called_77 ?_
        refine am_iload rfl dX10_called_78 ?_
        refine am_ci (mm_V2 dX10_called_80 in_X10_codeOf mk_X10_274 im_X10_codeOf sl_X10_codeOf ⟨Nat.le_of_ble_eq_true rfl, Nat.le_of_ble_eq_true rfl⟩ rfl (md_0 hm) (Nat.le_of_ble_eq_true rfl)) (m_codeOf hm hc40 (by omega)) ?_
        rw [hcd hn.1]
        refine am_ist9 dX10_called_83 (Nat.le_of_ble_eq_true rfl) (am_c1i _) ?_
        refine am_aload_n rfl dX10_called_85 ?_
        refine am_iload rfl dX10_called_86 ?_
        refine mm_beq (tgt := 95) dX10_called_88 (by decide) (fun h88 => ?_) (fun h88 => ?_)
        · refine mm_iconst dX10_called_95 ?_
          refine am_aload_n rfl dX10_called_96 ?_
          refine mm_getR dX10_called_97 fl_X10_42 (md_0 hm) mdf_12 ?_
          refine am_iload rfl dX10_called_100 ?_
          refine mm_ial dX10_called_102 (md_aAt hm) (by omega) ?_
          rw [Int.toNat_natCast, show S 191 (25 * (S 204 c).toNat + pl) = (A1 : Int) from hA1]
          refine am_iload rfl dX10_called_103 ?_
          refine mm_bipush dX10_called_105 (by decide) ?_
          refine mm_idiv dX10_called_107 (by omega) (by omega) ?_
          refine am_iload rfl dX10_called_108 ?_
          refine mm_bipush dX10_called_110 (by decide) ?_
          refine mm_irem dX10_called_112 (by omega) (by omega) ?_
          have hw0 : wrR S (keyM S c) pl (unM p) = 0 := by rw [hwu, if_neg (by omega), if_neg (by omega)]
          have ecl : clK S (keyM S c) pl (unM p) = ((1, A1, C0 / 7, C0 % 7) : kyT) := by
            show ((if mSo S (S 204 c).toNat pl = 11 then (2 : Int) else 1), (mAa S (S 204 c).toNat pl).toNat, cdR (S 205 c) (unM p) ((unM p).1 (mBb S (S 204 c).toNat pl).toNat) / 7, cdR (S 205 c) (unM p) ((unM p).1 (mBb S (S 204 c).toNat pl).toNat) % 7) = _
            rw [if_neg h88, hA1, Int.toNat_natCast, hA0, hC0]
          refine am_cxi (mm_V4 dX10_called_113 in_X10_calls mk_X10_284 im_X10_calls sl_X10_calls ⟨Nat.le_of_ble_eq_true rfl, Nat.le_of_ble_eq_true rfl⟩ rfl (md_0 hm) (Nat.le_of_ble_eq_true rfl)) (by
            have h0 := m_calls (sh := sh) (S := S) (L := L) (X := X) (F := F) (W := W) (κ := clK S (keyM S c) pl (unM p)) hm hb hI hS hNN (ky_cl (mbW_C hb) hr9 hR hp hx hw0) (hE.2 hw0).1
            rw [ecl] at h0
            have h0 : am_E eX10_calls [.ref 181, .int (iI 1), .int (iI (A1 : Int)), .int (iI (C0 / 7)), .int (iI (C0 % 7))] (mm sh S L) (fun r0 M' => ∃ v, r0 = some (.int (iI v)) ∧ ∃ S' L', M' = mm sh S' L' ∧ poM S L X F W S' L' ∧ ((v = -1 ∧ S' 181 39 = 1) ∨ ∃ d : Nat, v = d ∧ (d : Int) < S' 181 27 ∧ keyM S' d = ((1, A1, C0 / 7, C0 % 7) : kyT))) := h0
            rw [← ecl] at h0
            exact h0.mono (Q' := fun r0 M' => ∃ x, r0 = some (.int x) ∧ ∃ v, x = iI v ∧ ∃ S' L', M' = mm sh S' L' ∧ poM S L X F W S' L' ∧ ((v = -1 ∧ S' 181 39 = 1) ∨ ∃ d : Nat, v = d ∧ (d : Int) < S' 181 27 ∧ keyM S' d = clK S (keyM S c) pl (unM p))) (fun r0 M' ⟨v, a1, a2⟩ => ⟨_, a1, v, rfl, a2⟩)) (fun x1 M1 hq => ?_)
          obtain ⟨v, rfl, S1, L1, rfl, po1, hd1⟩ := hq
          rcases hd1 with ⟨rfl, hsp⟩ | ⟨d, rfl, hd1⟩
          · refine am_ist10 dX10_called_116 (Nat.le_of_ble_eq_true rfl) (am_c1i _) ?_
            refine mm_iconst dX10_called_118 ?_
            refine am_ist11 dX10_called_119 (Nat.le_of_ble_eq_true rfl) (am_c1i _) ?_
            refine am_iload rfl dX10_called_121 ?_
            refine mm_bipush dX10_called_123 (by decide) ?_
            refine mm_jge (tgt := 234) dX10_called_125 (by decide) (by omega) (by omega) (fun h125 => ?_) (fun h125 => ?_)
            · exfalso; omega
            refine am_iload rfl dX10_called_128 ?_
            refine mm_iconst dX10_called_130 ?_
            refine mm_jeq (tgt := 234) dX10_called_131 (by decide) (by omega) (by omega) (fun h131 => ?_) (fun h131 => ?_)
            · exact am_return dX10_called_234 rfl ⟨rfl, S1, L1, rfl, po1, fun e => by rw [hsp] at e; omega⟩
            · exfalso; omega
          refine am_ist10 dX10_called_116 (Nat.le_of_ble_eq_true rfl) (am_c1i _) ?_
          refine mm_iconst dX10_called_118 ?_
          refine am_ist11 dX10_called_119 (Nat.le_of_ble_eq_true rfl) (am_c1i _) ?_
          have h9 := l_cal (sh := sh) (S := S) (L := L) (X := X) (F := F) (W := W) (c := c) (p := p) (pl := pl) (d := d) hm hb hI hS hc hp0 hp hx hR hw0 hv (hE.2 hw0).2 13 0 S1 L1 (by omega) (by omega) po1 hd1 (fun _ _ u hu => absurd hu (Nat.not_lt_zero u))
          rw [hA0, hC0] at h9
          rw [show G0 = 0 by omega]
          refine am_AW.mono h9 (fun r0 M' z => ?_)
          obtain ⟨z1, S2, L2, z2, z3, z4, z5⟩ := z
          refine ⟨z1, S2, L2, z2, z3, fun e39 e40 => (hfc _ _ _).mpr ⟨fun q => absurd hw0 q, fun _ => ⟨?_, fun st hst => ⟨fun hf => ?_, fun hf => ?_⟩⟩⟩⟩
          · have := inS_J z3.1 hNN d z4.1
            rw [z4.2] at this
            exact this
          · obtain ⟨d', a1, a2, a3⟩ := hf
            have e : d' = d := z3.2.1.2.2.1 d' d a1 z4.1 (by rw [a2, z4.2])
            subst e
            have hbt : btS S2 d' st := by
              unfold btS
              rw [if_pos (by omega), Nat.mod_eq_of_lt hst]
              rcases a3 with ⟨q1, q2, q3⟩ | ⟨q1, q2⟩
              · exact q3
              · omega
            have := z5 e39 e40 st (by omega) hbt
            rw [Nat.mod_eq_of_lt hst] at this
            unfold cbR at this ⊢
            rw [if_neg (by omega)] at this
            rw [if_neg (fun z => z)]
            exact this
          · obtain ⟨d', a1, a2, a3⟩ := hf
            have e : d' = d := z3.2.1.2.2.1 d' d a1 z4.1 (by rw [a2, z4.2])
            subst e
            have hbt : btS S2 d' (6 + st) := by
              unfold btS
              rw [if_neg (by omega), show (6 + st) % 6 = st by omega]
              rcases a3 with ⟨q1, q2, q3⟩ | ⟨q1, q2⟩
              · omega
              · rw [show ((8 + (st : Int)) - 8).toNat = st by omega] at q2
                exact q2
            have := z5 e39 e40 (6 + st) (by omega) hbt
            rw [show (6 + st) % 6 = st by omega] at this
            unfold cbR at this ⊢
            rw [if_pos (by omega)] at this
            rw [if_pos trivial]
            exact this
        · refine mm_iconst dX10_called_91 ?_
          refine am_goto (tgt := 96) dX10_called_92 (by decide) ?_
          refine am_aload_n rfl dX10_called_96 ?_
          refine mm_getR dX10_called_97 fl_X10_42 (md_0 hm) mdf_12 ?_
          refine am_iload rfl dX10_called_100 ?_
          refine mm_ial dX10_called_102 (md_aAt hm) (by omega) ?_
          rw [Int.toNat_natCast, show S 191 (25 * (S 204 c).toNat + pl) = (A1 : Int) from hA1]
          refine am_iload rfl dX10_called_103 ?_
          refine mm_bipush dX10_called_105 (by decide) ?_
          refine mm_idiv dX10_called_107 (by omega) (by omega) ?_
          refine am_iload rfl dX10_called_108 ?_
          refine mm_bipush dX10_called_110 (by decide) ?_
          refine mm_irem dX10_called_112 (by omega) (by omega) ?_
          have hw0 : wrR S (keyM S c) pl (unM p) = 0 := by rw [hwu, if_neg (by omega), if_neg (by omega)]
          have ecl : clK S (keyM S c) pl (unM p) = ((2, A1, C0 / 7, C0 % 7) : kyT) := by
            show ((if mSo S (S 204 c).toNat pl = 11 then (2 : Int) else 1), (mAa S (S 204 c).toNat pl).toNat, cdR (S 205 c) (unM p) ((unM p).1 (mBb S (S 204 c).toNat pl).toNat) / 7, cdR (S 205 c) (unM p) ((unM p).1 (mBb S (S 204 c).toNat pl).toNat) % 7) = _
            rw [if_pos h88, hA1, Int.toNat_natCast, hA0, hC0]
          refine am_cxi (mm_V4 dX10_called_113 in_X10_calls mk_X10_284 im_X10_calls sl_X10_calls ⟨Nat.le_of_ble_eq_true rfl, Nat.le_of_ble_eq_true rfl⟩ rfl (md_0 hm) (Nat.le_of_ble_eq_true rfl)) (by
            have h0 := m_calls (sh := sh) (S := S) (L := L) (X := X) (F := F) (W := W) (κ := clK S (keyM S c) pl (unM p)) hm hb hI hS hNN (ky_cl (mbW_C hb) hr9 hR hp hx hw0) (hE.2 hw0).1
            rw [ecl] at h0
            have h0 : am_E eX10_calls [.ref 181, .int (iI 2), .int (iI (A1 : Int)), .int (iI (C0 / 7)), .int (iI (C0 % 7))] (mm sh S L) (fun r0 M' => ∃ v, r0 = some (.int (iI v)) ∧ ∃ S' L', M' = mm sh S' L' ∧ poM S L X F W S' L' ∧ ((v = -1 ∧ S' 181 39 = 1) ∨ ∃ d : Nat, v = d ∧ (d : Int) < S' 181 27 ∧ keyM S' d = ((2, A1, C0 / 7, C0 % 7) : kyT))) := h0
            rw [← ecl] at h0
            exact h0.mono (Q' := fun r0 M' => ∃ x, r0 = some (.int x) ∧ ∃ v, x = iI v ∧ ∃ S' L', M' = mm sh S' L' ∧ poM S L X F W S' L' ∧ ((v = -1 ∧ S' 181 39 = 1) ∨ ∃ d : Nat, v = d ∧ (d : Int) < S' 181 27 ∧ keyM S' d = clK S (keyM S c) pl (unM p))) (fun r0 M' ⟨v, a1, a2⟩ => ⟨_, a1, v, rfl, a2⟩)) (fun x1 M1 hq => ?_)
          obtain ⟨v, rfl, S1, L1, rfl, po1, hd1⟩ := hq
          rcases hd1 with ⟨rfl, hsp⟩ | ⟨d, rfl, hd1⟩
          · refine am_ist10 dX10_called_116 (Nat.le_of_ble_eq_true rfl) (am_c1i _) ?_
            refine mm_iconst dX10_called_118 ?_
            refine am_ist11 dX10_called_119 (Nat.le_of_ble_eq_true rfl) (am_c1i _) ?_
            refine am_iload rfl dX10_called_121 ?_
            refine mm_bipush dX10_called_123 (by decide) ?_
            refine mm_jge (tgt := 234) dX10_called_125 (by decide) (by omega) (by omega) (fun h125 => ?_) (fun h125 => ?_)
            · exfalso; omega
            refine am_iload rfl dX10_called_128 ?_
            refine mm_iconst dX10_called_130 ?_
            refine mm_jeq (tgt := 234) dX10_called_131 (by decide) (by omega) (by omega) (fun h131 => ?_) (fun h131 => ?_)
            · exact am_return dX10_called_234 rfl ⟨rfl, S1, L1, rfl, po1, fun e => by rw [hsp] at e; omega⟩
            · exfalso; omega
          refine am_ist10 dX10_called_116 (Nat.le_of_ble_eq_true rfl) (am_c1i _) ?_
          refine mm_iconst dX10_called_118 ?_
          refine am_ist11 dX10_called_119 (Nat.le_of_ble_eq_true rfl) (am_c1i _) ?_
          have h9 := l_cal (sh := sh) (S := S) (L := L) (X := X) (F := F) (W := W) (c := c) (p := p) (pl := pl) (d := d) hm hb hI hS hc hp0 hp hx hR hw0 hv (hE.2 hw0).2 13 0 S1 L1 (by omega) (by omega) po1 hd1 (fun _ _ u hu => absurd hu (Nat.not_lt_zero u))
          rw [hA0, hC0] at h9
          rw [show G0 = 0 by omega]
          refine am_AW.mono h9 (fun r0 M' z => ?_)
          obtain ⟨z1, S2, L2, z2, z3, z4, z5⟩ := z
          refine ⟨z1, S2, L2, z2, z3, fun e39 e40 => (hfc _ _ _).mpr ⟨fun q => absurd hw0 q, fun _ => ⟨?_, fun st hst => ⟨fun hf => ?_, fun hf => ?_⟩⟩⟩⟩
          · have := inS_J z3.1 hNN d z4.1
            rw [z4.2] at this
            exact this
          · obtain ⟨d', a1, a2, a3⟩ := hf
            have e : d' = d := z3.2.1.2.2.1 d' d a1 z4.1 (by rw [a2, z4.2])
            subst e
            have hbt : btS S2 d' st := by
              unfold btS
              rw [if_pos (by omega), Nat.mod_eq_of_lt hst]
              rcases a3 with ⟨q1, q2, q3⟩ | ⟨q1, q2⟩
              · exact q3
              · omega
            have := z5 e39 e40 st (by omega) hbt
            rw [Nat.mod_eq_of_lt hst] at this
            unfold cbR at this ⊢
            rw [if_neg (by omega)] at this
            rw [if_neg (fun z => z)]
            exact this
          · obtain ⟨d', a1, a2, a3⟩ := hf
            have e : d' = d := z3.2.1.2.2.1 d' d a1 z4.1 (by rw [a2, z4.2])
            subst e
            have hbt : btS S2 d' (6 + st) := by
              unfold btS
              rw [if_neg (by omega), show (6 + st) % 6 = st by omega]
              rcases a3 with ⟨q1, q2, q3⟩ | ⟨q1, q2⟩
              · omega
              · rw [show ((8 + (st : Int)) - 8).toNat = st by omega] at q2
                exact q2
            have := z5 e39 e40 (6 + st) (by omega) hbt
            rw [show (6 + st) % 6 = st by omega] at this
            unfold cbR at this ⊢
            rw [if_pos (by omega)] at this
            rw [if_pos trivial]
            exact this
      · refine am_aload_n rfl dX10_called_66 ?_
        refine am_iload_n rfl dX10_called_67 ?_
        refine am_iload rfl dX10_called_68 ?_
        refine am_iload rfl dX10_called_70 ?_
        refine am_cxv (mm_V3 dX10_called_72 in_X10_wrong mk_X10_261 im_X10_wrong sl_X10_wrong ⟨Nat.le_of_ble_eq_true rfl, Nat.le_of_ble_eq_true rfl⟩ rfl (md_0 hm) (Nat.le_of_ble_eq_true rfl)) (m_wrongP (X := X) (F := F) (W := W) (pl := pl) hm hb hI hS (c := c) hc (by omega) (by omega) (by first | (have q := hE.1 (by rw [hwu, if_neg (by omega), if_pos (by omega)]; omega); rw [hwu, if_neg (by omega), if_pos (by omega)] at q; exact q) | (have q := hE.1 (by rw [hwu, if_pos (by omega)]; omega); rw [hwu, if_pos (by omega)] at q; exact q))) (fun M1 hq => ?_)
        obtain ⟨S2, rfl, hpo, hwm⟩ := hq
        refine am_return dX10_called_75 rfl ?_
        refine ⟨rfl, S2, L, rfl, hpo, fun _ _ => (hfc _ _ _).mpr ⟨fun _ => ?_, fun z => ?_⟩⟩
        · first
            | (rw [hwu, if_neg (by omega), if_pos (by omega)]; exact hwm)
            | (rw [hwu, if_pos (by omega)]; exact hwm)
        · exfalso
          first
            | (rw [hwu, if_neg (by omega), if_pos (by omega)] at z; omega)
            | (rw [hwu, if_pos (by omega)] at z; omega)
    · refine am_iload rfl dX10_called_47 ?_
      refine mm_iconst dX10_called_49 ?_
      refine mm_jne (tgt := 57) dX10_called_50 (by decide) (by omega) (by omega) (fun h50 => ?_) (fun h50 => ?_)
      · refine am_iload rfl dX10_called_57 ?_
        refine am_ist8 dX10_called_59 (Nat.le_of_ble_eq_true rfl) (am_c1i _) ?_
        refine am_iload rfl dX10_called_61 ?_
        refine mm_zeq (tgt := 76) dX10_called_63 (by decide) (by omega) (fun h63 => ?_) (fun h63 => ?_)
        · have hn := agN (by omega)
          have okc := hok hn.1
          have ok1 := okc.1
          have ok2 := okc.2.1
          obtain ⟨C0, hC0⟩ : ∃ C0, cdR (S 205 c) (unM p) ((unM p).1 A0) = C0 := ⟨_, rfl⟩
          rw [hC0] at hcd ok1 ok2 hn
          refine am_aload_n rfl dX10_called_76 ?_
          refine am_iload_n rfl dX10_called_77 ?_
          refine am_iload rfl dX10_called_78 ?_
          refine am_ci (mm_V2 dX10_called_80 in_X10_codeOf mk_X10_274 im_X10_codeOf sl_X10_codeOf ⟨Nat.le_of_ble_eq_true rfl, Nat.le_of_ble_eq_true rfl⟩ rfl (md_0 hm) (Nat.le_of_ble_eq_true rfl)) (m_codeOf hm hc40 (by omega)) ?_
          rw [hcd hn.1]
          refine am_ist9 dX10_called_83 (Nat.le_of_ble_eq_true rfl) (am_c1i _) ?_
          refine am_aload_n rfl dX10_called_85 ?_
          refine am_iload rfl dX10_called_86 ?_
          refine mm_beq (tgt := 95) dX10_called_88 (by decide) (fun h88 => ?_) (fun h88 => ?_)
          · refine mm_iconst dX10_called_95 ?_
            refine am_aload_n rfl dX10_called_96 ?_
            refine mm_getR dX10_called_97 fl_X10_42 (md_0 hm) mdf_12 ?_
            refine am_iload rfl dX10_called_100 ?_
            refine mm_ial dX10_called_102 (md_aAt hm) (by omega) ?_
            rw [Int.toNat_natCast, show S 191 (25 * (S 204 c).toNat + pl) = (A1 : Int) from hA1]
            refine am_iload rfl dX10_called_103 ?_
            refine mm_bipush dX10_called_105 (by decide) ?_
            refine mm_idiv dX10_called_107 (by omega) (by omega) ?_
            refine am_iload rfl dX10_called_108 ?_
            refine mm_bipush dX10_called_110 (by decide) ?_
            refine mm_irem dX10_called_112 (by omega) (by omega) ?_
            have hw0 : wrR S (keyM S c) pl (unM p) = 0 := by rw [hwu, if_neg (by omega), if_neg (by omega)]
            have ecl : clK S (keyM S c) pl (unM p) = ((1, A1, C0 / 7, C0 % 7) : kyT) := by
              show ((if mSo S (S 204 c).toNat pl = 11 then (2 : Int) else 1), (mAa S (S 204 c).toNat pl).toNat, cdR (S 205 c) (unM p) ((unM p).1 (mBb S (S 204 c).toNat pl).toNat) / 7, cdR (S 205 c) (unM p) ((unM p).1 (mBb S (S 204 c).toNat pl).toNat) % 7) = _
              rw [if_neg h88, hA1, Int.toNat_natCast, hA0, hC0]
            refine am_cxi (mm_V4 dX10_called_113 in_X10_calls mk_X10_284 im_X10_calls sl_X10_calls ⟨Nat.le_of_ble_eq_true rfl, Nat.le_of_ble_eq_true rfl⟩ rfl (md_0 hm) (Nat.le_of_ble_eq_true rfl)) (by
              have h0 := m_calls (sh := sh) (S := S) (L := L) (X := X) (F := F) (W := W) (κ := clK S (keyM S c) pl (unM p)) hm hb hI hS hNN (ky_cl (mbW_C hb) hr9 hR hp hx hw0) (hE.2 hw0).1
              rw [ecl] at h0
              have h0 : am_E eX10_calls [.ref 181, .int (iI 1), .int (iI (A1 : Int)), .int (iI (C0 / 7)), .int (iI (C0 % 7))] (mm sh S L) (fun r0 M' => ∃ v, r0 = some (.int (iI v)) ∧ ∃ S' L', M' = mm sh S' L' ∧ poM S L X F W S' L' ∧ ((v = -1 ∧ S' 181 39 = 1) ∨ ∃ d : Nat, v = d ∧ (d : Int) < S' 181 27 ∧ keyM S' d = ((1, A1, C0 / 7, C0 % 7) : kyT))) := h0
              rw [← ecl] at h0
              exact h0.mono (Q' := fun r0 M' => ∃ x, r0 = some (.int x) ∧ ∃ v, x = iI v ∧ ∃ S' L', M' = mm sh S' L' ∧ poM S L X F W S' L' ∧ ((v = -1 ∧ S' 181 39 = 1) ∨ ∃ d : Nat, v = d ∧ (d : Int) < S' 181 27 ∧ keyM S' d = clK S (keyM S c) pl (unM p))) (fun r0 M' ⟨v, a1, a2⟩ => ⟨_, a1, v, rfl, a2⟩)) (fun x1 M1 hq => ?_)
            obtain ⟨v, rfl, S1, L1, rfl, po1, hd1⟩ := hq
            rcases hd1 with ⟨rfl, hsp⟩ | ⟨d, rfl, hd1⟩
            · refine am_ist10 dX10_called_116 (Nat.le_of_ble_eq_true rfl) (am_c1i _) ?_
              refine mm_iconst dX10_called_118 ?_
              refine am_ist11 dX10_called_119 (Nat.le_of_ble_eq_true rfl) (am_c1i _) ?_
              refine am_iload rfl dX10_called_121 ?_
              refine mm_bipush dX10_called_123 (by decide) ?_
              refine mm_jge (tgt := 234) dX10_called_125 (by decide) (by omega) (by omega) (fun h125 => ?_) (fun h125 => ?_)
              · exfalso; omega
              refine am_iload rfl dX10_called_128 ?_
              refine mm_iconst dX10_called_130 ?_
              refine mm_jeq (tgt := 234) dX10_called_131 (by decide) (by omega) (by omega) (fun h131 => ?_) (fun h131 => ?_)
              · exact am_return dX10_called_234 rfl ⟨rfl, S1, L1, rfl, po1, fun e => by rw [hsp] at e; omega⟩
              · exfalso; omega
            refine am_ist10 dX10_called_116 (Nat.le_of_ble_eq_true rfl) (am_c1i _) ?_
            refine mm_iconst dX10_called_118 ?_
            refine am_ist11 dX10_called_119 (Nat.le_of_ble_eq_true rfl) (am_c1i _) ?_
            have h9 := l_cal (sh := sh) (S := S) (L := L) (X := X) (F := F) (W := W) (c := c) (p := p) (pl := pl) (d := d) hm hb hI hS hc hp0 hp hx hR hw0 hv (hE.2 hw0).2 13 0 S1 L1 (by omega) (by omega) po1 hd1 (fun _ _ u hu => absurd hu (Nat.not_lt_zero u))
            rw [hA0, hC0] at h9
            rw [show G0 = 0 by omega]
            refine am_AW.mono h9 (fun r0 M' z => ?_)
            obtain ⟨z1, S2, L2, z2, z3, z4, z5⟩ := z
            refine ⟨z1, S2, L2, z2, z3, fun e39 e40 => (hfc _ _ _).mpr ⟨fun q => absurd hw0 q, fun _ => ⟨?_, fun st hst => ⟨fun hf => ?_, fun hf => ?_⟩⟩⟩⟩
            · have := inS_J z3.1 hNN d z4.1
              rw [z4.2] at this
              exact this
            · obtain ⟨d', a1, a2, a3⟩ := hf
              have e : d' = d := z3.2.1.2.2.1 d' d a1 z4.1 (by rw [a2, z4.2])
              subst e
              have hbt : btS S2 d' st := by
                unfold btS
                rw [if_pos (by omega), Nat.mod_eq_of_lt hst]
                rcases a3 with ⟨q1, q2, q3⟩ | ⟨q1, q2⟩
                · exact q3
                · omega
              have := z5 e39 e40 st (by omega) hbt
              rw [Nat.mod_eq_of_lt hst] at this
              unfold cbR at this ⊢
              rw [if_neg (by omega)] at this
              rw [if_neg (fun z => z)]
              exact this
            · obtain ⟨d', a1, a2, a3⟩ := hf
              have e : d' = d := z3.2.1.2.2.1 d' d a1 z4.1 (by rw [a2, z4.2])
              subst e
              have hbt : btS S2 d' (6 + st) := by
                unfold btS
                rw [if_neg (by omega), show (6 + st) % 6 = st by omega]
                rcases a3 with ⟨q1, q2, q3⟩ | ⟨q1, q2⟩
                · omega
                · rw [show ((8 + (st : Int)) - 8).toNat = st by omega] at q2
                  exact q2
              have := z5 e39 e40 (6 + st) (by omega) hbt
              rw [show (6 + st) % 6 = st by omega] at this
              unfold cbR at this ⊢
              rw [if_pos (by omega)] at this
              rw [if_pos trivial]
              exact this
          · refine mm_iconst dX10_called_91 ?_
            refine am_goto (tgt := 96) dX10_called_92 (by decide) ?_
            refine am_aload_n rfl dX10_called_96 ?_
            refine mm_getR dX10_called_97 fl_X10_42 (md_0 hm) mdf_12 ?_
            refine am_iload rfl dX10_called_100 ?_
            refine mm_ial dX10_called_102 (md_aAt hm) (by omega) ?_
            rw [Int.toNat_natCast, show S 191 (25 * (S 204 c).toNat + pl) = (A1 : Int) from hA1]
            refine am_iload rfl dX10_called_103 ?_
            refine mm_bipush dX10_called_105 (by decide) ?_
            refine mm_idiv dX10_called_107 (by omega) (by omega) ?_
            refine am_iload rfl dX10_called_108 ?_
            refine mm_bipush dX10_called_110 (by decide) ?_
            refine mm_irem dX10_called_112 (by omega) (by omega) ?_
            have hw0 : wrR S (keyM S c) pl (unM p) = 0 := by rw [hwu, if_neg (by omega), if_neg (by omega)]
            have ecl : clK S (keyM S c) pl (unM p) = ((2, A1, C0 / 7, C0 % 7) : kyT) := by
              show ((if mSo S (S 204 c).toNat pl = 11 then (2 : Int) else 1), (mAa S (S 204 c).toNat pl).toNat, cdR (S 205 c) (unM p) ((unM p).1 (mBb S (S 204 c).toNat pl).toNat) / 7, cdR (S 205 c) (unM p) ((unM p).1 (mBb S (S 204 c).toNat pl).toNat) % 7) = _
              rw [if_pos h88, hA1, Int.toNat_natCast, hA0, hC0]
            refine am_cxi (mm_V4 dX10_called_113 in_X10_calls mk_X10_284 im_X10_calls sl_X10_calls ⟨Nat.le_of_ble_eq_true rfl, Nat.le_of_ble_eq_true rfl⟩ rfl (md_0 hm) (Nat.le_of_ble_eq_true rfl)) (by
              have h0 := m_calls (sh := sh) (S := S) (L := L) (X := X) (F := F) (W := W) (κ := clK S (keyM S c) pl (unM p)) hm hb hI hS hNN (ky_cl (mbW_C hb) hr9 hR hp hx hw0) (hE.2 hw0).1
              rw [ecl] at h0
              have h0 : am_E eX10_calls [.ref 181, .int (iI 2), .int (iI (A1 : Int)), .int (iI (C0 / 7)), .int (iI (C0 % 7))] (mm sh S L) (fun r0 M' => ∃ v, r0 = some (.int (iI v)) ∧ ∃ S' L', M' = mm sh S' L' ∧ poM S L X F W S' L' ∧ ((v = -1 ∧ S' 181 39 = 1) ∨ ∃ d : Nat, v = d ∧ (d : Int) < S' 181 27 ∧ keyM S' d = ((2, A1, C0 / 7, C0 % 7) : kyT))) := h0
              rw [← ecl] at h0
              exact h0.mono (Q' := fun r0 M' => ∃ x, r0 = some (.int x) ∧ ∃ v, x = iI v ∧ ∃ S' L', M' = mm sh S' L' ∧ poM S L X F W S' L' ∧ ((v = -1 ∧ S' 181 39 = 1) ∨ ∃ d : Nat, v = d ∧ (d : Int) < S' 181 27 ∧ keyM S' d = clK S (keyM S c) pl (unM p))) (fun r0 M' ⟨v, a1, a2⟩ => ⟨_, a1, v, rfl, a2⟩)) (fun x1 M1 hq => ?_)
            obtain ⟨v, rfl, S1, L1, rfl, po1, hd1⟩ := hq
            rcases hd1 with ⟨rfl, hsp⟩ | ⟨d, rfl, hd1⟩
            · refine am_ist10 dX10_called_116 (Nat.le_of_ble_eq_true rfl) (am_c1i _) ?_
              refine mm_iconst dX10_called_118 ?_
              refine am_ist11 dX10_called_119 (Nat.le_of_ble_eq_true rfl) (am_c1i _) ?_
              refine am_iload rfl dX10_called_121 ?_
              refine mm_bipush dX10_called_123 (by decide) ?_
              refine mm_jge (tgt := 234) dX10_called_125 (by decide) (by omega) (by omega) (fun h125 => ?_) (fun h125 => ?_)
              · exfalso; omega
              refine am_iload rfl dX10_called_128 ?_
              refine mm_iconst dX10_called_130 ?_
              refine mm_jeq (tgt := 234) dX10_called_131 (by decide) (by omega) (by omega) (fun h131 => ?_) (fun h131 => ?_)
              · exact am_return dX10_called_234 rfl ⟨rfl, S1, L1, rfl, po1, fun e => by rw [hsp] at e; omega⟩
              · exfalso; omega
            refine am_ist10 dX10_called_116 (Nat.le_of_ble_eq_true rfl) (am_c1i _) ?_
            refine mm_iconst dX10_called_118 ?_
            refine am_ist11 dX10_called_119 (Nat.le_of_ble_eq_true rfl) (am_c1i _) ?_
            have h9 := l_cal (sh := sh) (S := S) (L := L) (X := X) (F := F) (W := W) (c := c) (p := p) (pl := pl) (d := d) hm hb hI hS hc hp0 hp hx hR hw0 hv (hE.2 hw0).2 13 0 S1 L1 (by omega) (by omega) po1 hd1 (fun _ _ u hu => absurd hu (Nat.not_lt_zero u))
            rw [hA0, hC0] at h9
            rw [show G0 = 0 by omega]
            refine am_AW.mono h9 (fun r0 M' z => ?_)
            obtain ⟨z1, S2, L2, z2, z3, z4, z5⟩ := z
            refine ⟨z1, S2, L2, z2, z3, fun e39 e40 => (hfc _ _ _).mpr ⟨fun q => absurd hw0 q, fun _ => ⟨?_, fun st hst => ⟨fun hf => ?_, fun hf => ?_⟩⟩⟩⟩
            · have := inS_J z3.1 hNN d z4.1
              rw [z4.2] at this
              exact this
            · obtain ⟨d', a1, a2, a3⟩ := hf
              have e : d' = d := z3.2.1.2.2.1 d' d a1 z4.1 (by rw [a2, z4.2])
              subst e
              have hbt : btS S2 d' st := by
                unfold btS
                rw [if_pos (by omega), Nat.mod_eq_of_lt hst]
                rcases a3 with ⟨q1, q2, q3⟩ | ⟨q1, q2⟩
                · exact q3
                · omega
              have := z5 e39 e40 st (by omega) hbt
              rw [Nat.mod_eq_of_lt hst] at this
              unfold cbR at this ⊢
              rw [if_neg (by omega)] at this
              rw [if_neg (fun z => z)]
              exact this
            · obtain ⟨d', a1, a2, a3⟩ := hf
              have e : d' = d := z3.2.1.2.2.1 d' d a1 z4.1 (by rw [a2, z4.2])
              subst e
              have hbt : btS S2 d' (6 + st) := by
                unfold btS
                rw [if_neg (by omega), show (6 + st) % 6 = st by omega]
                rcases a3 with ⟨q1, q2, q3⟩ | ⟨q1, q2⟩
                · omega
                · rw [show ((8 + (st : Int)) - 8).toNat = st by omega] at q2
                  exact q2
              have := z5 e39 e40 (6 + st) (by omega) hbt
              rw [show (6 + st) % 6 = st by omega] at this
              unfold cbR at this ⊢
              rw [if_pos (by omega)] at this
              rw [if_pos trivial]
              exact this
        · refine am_aload_n rfl dX10_called_66 ?_
          refine am_iload_n rfl dX10_called_67 ?_
          refine am_iload rfl dX10_called_68 ?_
          refine am_iload rfl dX10_called_70 ?_
          refine am_cxv (mm_V3 dX10_called_72 in_X10_wrong mk_X10_261 im_X10_wrong sl_X10_wrong ⟨Nat.le_of_ble_eq_true rfl, Nat.le_of_ble_eq_true rfl⟩ rfl (md_0 hm) (Nat.le_of_ble_eq_true rfl)) (m_wrongP (X := X) (F := F) (W := W) (pl := pl) hm hb hI hS (c := c) hc (by omega) (by omega) (by first | (have q := hE.1 (by rw [hwu, if_neg (by omega), if_pos (by omega)]; omega); rw [hwu, if_neg (by omega), if_pos (by omega)] at q; exact q) | (have q := hE.1 (by rw [hwu, if_pos (by omega)]; omega); rw [hwu, if_pos (by omega)] at q; exact q))) (fun M1 hq => ?_)
          obtain ⟨S2, rfl, hpo, hwm⟩ := hq
          refine am_return dX10_called_75 rfl ?_
          refine ⟨rfl, S2, L, rfl, hpo, fun _ _ => (hfc _ _ _).mpr ⟨fun _ => ?_, fun z => ?_⟩⟩
          · first
              | (rw [hwu, if_neg (by omega), if_pos (by omega)]; exact hwm)
              | (rw [hwu, if_pos (by omega)]; exact hwm)
          · exfalso
            first
              | (rw [hwu, if_neg (by omega), if_pos (by omega)] at z; omega)
              | (rw [hwu, if_pos (by omega)] at z; omega)
      · refine mm_iconst dX10_called_53 ?_
        refine am_goto (tgt := 59) dX10_called_54 (by decide) ?_
        refine am_ist8 dX10_called_59 (Nat.le_of_ble_eq_true rfl) (am_c1i _) ?_
        refine am_iload rfl dX10_called_61 ?_
        refine mm_zeq (tgt := 76) dX10_called_63 (by decide) (by omega) (fun h63 => ?_) (fun h63 => ?_)
        · exfalso; omega
        · refine am_aload_n rfl dX10_called_66 ?_
          refine am_iload_n rfl dX10_called_67 ?_
          refine am_iload rfl dX10_called_68 ?_
          refine am_iload rfl dX10_called_70 ?_
          refine am_cxv (mm_V3 dX10_called_72 in_X10_wrong mk_X10_261 im_X10_wrong sl_X10_wrong ⟨Nat.le_of_ble_eq_true rfl, Nat.le_of_ble_eq_true rfl⟩ rfl (md_0 hm) (Nat.le_of_ble_eq_true rfl)) (m_wrongP (X := X) (F := F) (W := W) (pl := pl) hm hb hI hS (c := c) hc (by omega) (by omega) (by first | (have q := hE.1 (by rw [hwu, if_neg (by omega), if_pos (by omega)]; omega); rw [hwu, if_neg (by omega), if_pos (by omega)] at q; exact q) | (have q := hE.1 (by rw [hwu, if_pos (by omega)]; omega); rw [hwu, if_pos (by omega)] at q; exact q))) (fun M1 hq => ?_)
          obtain ⟨S2, rfl, hpo, hwm⟩ := hq
          refine am_return dX10_called_75 rfl ?_
          refine ⟨rfl, S2, L, rfl, hpo, fun _ _ => (hfc _ _ _).mpr ⟨fun _ => ?_, fun z => ?_⟩⟩
          · first
              | (rw [hwu, if_neg (by omega), if_pos (by omega)]; exact hwm)
              | (rw [hwu, if_pos (by omega)]; exact hwm)
          · exfalso
            first
              | (rw [hwu, if_neg (by omega), if_pos (by omega)] at z; omega)
              | (rw [hwu, if_pos (by omega)] at z; omega)
