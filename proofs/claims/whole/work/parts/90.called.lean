set_option maxRecDepth 100000 in
set_option maxHeartbeats 8000000 in
theorem l_cbk {sh : List mm_H} {S : mm_S} {L : mm_L} (hm : mdS sh) (hb : mbW S) (hI : imS S L) {X : XT} {F : FT} {W : WT} (hS : SubM S L X F W) {c : Nat} (hc : (c : Int) < S 181 27) {p : Int} (hp0 : 0 ≤ p ∧ p < 9223372036854775808) {pl : Nat} (hp : pl < mN S (S 204 c).toNat) (hx : mSo S (S 204 c).toNat pl = 10 ∨ mSo S (S 204 c).toNat pl = 11) (hR : rgV S (keyM S c) (unM p)) (hw : wrR S (keyM S c) pl (unM p) = 0) {d s : Nat} (hs : s < 12) (hst : mSo S (S 204 c).toNat pl = 10 → ((s % 6 : Nat) : Int) < S 182 (cdR (S 205 c) (unM p) ((unM p).1 (mBb S (S 204 c).toNat pl).toNat) / 7).toNat) (hE : otK X F W S (keyM S c) (cbR S (keyM S c) pl (unM p) (6 ≤ s) ((s % 6 : Nat) : Int))) {fr : Int} {Q : Option Value → am_M → Prop} (kk : ∀ S' L', poM S L X F W S' L' → (S' 181 39 = 0 → otK (XM S' L') (FM S') (WM S') S (keyM S c) (cbR S (keyM S c) pl (unM p) (6 ≤ s) ((s % 6 : Nat) : Int))) → am_AW eX10_called (mm sh S' L') 228 [some (.ref 181), some (.int (iI (c : Int))), some (.long (lI p)), none, some (.int (iI (pl : Int))), some (.int (iI (b2 (mSo S (S 204 c).toNat pl = 11)))), some (.int (iI ((25 * (S 204 c).toNat + pl : Nat) : Int))), some (.int (iI ((unM p).1 (mBb S (S 204 c).toNat pl).toNat))), some (.int (iI 0)), some (.int (iI (cdR (S 205 c) (unM p) ((unM p).1 (mBb S (S 204 c).toNat pl).toNat)))), some (.int (iI (d : Int))), some (.int (iI (s : Int))), some (.int (iI ((s % 6 : Nat) : Int))), some (.int (iI fr))] [] Q) : am_AW eX10_called (mm sh S L) 178 [some (.ref 181), some (.int (iI (c : Int))), some (.long (lI p)), none, some (.int (iI (pl : Int))), some (.int (iI (b2 (mSo S (S 204 c).toNat pl = 11)))), some (.int (iI ((25 * (S 204 c).toNat + pl : Nat) : Int))), some (.int (iI ((unM p).1 (mBb S (S 204 c).toNat pl).toNat))), some (.int (iI 0)), some (.int (iI (cdR (S 205 c) (unM p) ((unM p).1 (mBb S (S 204 c).toNat pl).toNat)))), some (.int (iI (d : Int))), some (.int (iI (s : Int))), some (.int (iI ((s % 6 : Nat) : Int))), some (.int (iI fr))] [] Q := by
  have hcs := hI.1
  have hc27 := hI.1.1
  have hcc := hcs.2 c hc
  have hκ := (hI.2.1 c hc).1
  have hr9 : (((S 204 c).toNat : Nat) : Int) < S 181 9 := hκ.2.1
  have hrw := hb.2.2.2.2 (S 204 c).toNat hr9
  have h24 := hb.1.2.2.2.2 (S 204 c).toNat (by omega)
  have hc40 : c < 40 := by omega
  have er204 : S 204 c = (((S 204 c).toNat : Nat) : Int) := by omega
  have hN : ((mN S (S 204 c).toNat : Nat) : Int) = S 189 (S 204 c).toNat := by unfold mN; omega
  have hkA : (0 ≤ mBb S (S 204 c).toNat pl ∧ mBb S (S 204 c).toNat pl < 5) ∧ (0 ≤ mAa S (S 204 c).toNat pl ∧ mAa S (S 204 c).toNat pl < 6) := by have ok := (mrW_C hrw).2.2.2 pl hp; omega
  obtain ⟨A0, hA0⟩ : ∃ A0 : Nat, (mBb S (S 204 c).toNat pl).toNat = A0 := ⟨_, rfl⟩
  have hA5 : A0 < 5 := by omega
  have hAi : mBb S (S 204 c).toNat pl = (A0 : Int) := by omega
  have hT6 := hR.1.1 A0 hA5
  have u := wr_call (S := S) (κ := keyM S c) (pl := pl) (R := unM p) hx hw
  have u1 : (unM p).1 A0 ≠ 0 := by rw [← hA0]; exact u.1
  have u4 : ¬ (mSo S (S 204 c).toNat pl = 11 ∧ (unM p).1 A0 = 1) := by rw [← hA0]; exact u.2.2
  have okc := cd_ok hR hb.1 hA5 u1
  have okc : okC S (cdR (S 205 c) (unM p) ((unM p).1 A0)) := okc
  have ok1 := okc.1
  have ok2 := okc.2.1
  have v0 := hb.1.1
  obtain ⟨C0, hC0⟩ : ∃ C0, cdR (S 205 c) (unM p) ((unM p).1 A0) = C0 := ⟨_, rfl⟩
  rw [hA0, hC0] at hst
  rw [hC0] at ok1 ok2
  rw [hA0, hC0]
  rw [hA0, hC0] at kk
  obtain ⟨x, hxx⟩ : ∃ x, mSo S (S 204 c).toNat pl = x := ⟨_, rfl⟩
  rw [hxx] at hst u4 hx
  obtain ⟨st, hst0⟩ : ∃ st : Int, (if x = 11 then (6 : Int) else ((s % 6 : Nat) : Int)) = st := ⟨_, rfl⟩
  have ecb : cbT S (keyM S c) pl (unM p) ((s % 6 : Nat) : Int) = tnR (unM p) ((unM p).1 A0) st := by
    show tnR (unM p) ((unM p).1 (mBb S (S 204 c).toNat pl).toNat) (if mSo S (S 204 c).toNat pl = 11 then (6 : Int) else ((s % 6 : Nat) : Int)) = _
    rw [hA0, hxx, hst0]
  have rgU : rgV S (keyM S c) (cbT S (keyM S c) pl (unM p) ((s % 6 : Nat) : Int)) := by
    rw [ecb]
    refine rg_turn hb.1 hR hA5 u1 (by rw [← hst0]; split <;> omega) ?_
    rw [show cdR (keyM S c).2.2.1 (unM p) ((unM p).1 A0) = C0 from hC0]
    by_cases e : x = 11
    · rw [← hst0, if_pos e]; exact Or.inr ⟨rfl, fun z => u4 ⟨e, z⟩⟩
    · rw [← hst0, if_neg e]; exact Or.inl (hst (by omega))
  have hFu : rgF S (unS S p) := rgF_un
  have hrgu : rgS (unS S p) = unM p := rgS_un S p
  have tne : (unM p).1 A0 ≠ 1 → 0 ≤ (unM p).1 A0 - 2 ∧ (unM p).1 A0 - 2 < 5 := by omega
  clear u okc
  refine am_aload_n rfl dX10_called_178 ?_
  refine am_lload_n rfl dX10_called_179 ?_
  refine am_cv (mm_V1 dX10_called_180 in_X10_unpack mk_X10_287 im_X10_unpack sl_X10_unpack ⟨Nat.le_of_ble_eq_true rfl, Nat.le_of_ble_eq_true rfl⟩ rfl (md_0 hm) (Nat.le_of_ble_eq_true rfl)) (m_unpack hm hp0) ?_
  refine am_aload_n rfl dX10_called_183 ?_
  refine am_iload rfl dX10_called_184 ?_
  refine am_iload rfl dX10_called_186 ?_
  refine mm_beq (tgt := 196) dX10_called_188 (by decide) (fun h188 => ?_) (fun h188 => ?_)
  · refine am_iload rfl dX10_called_196 ?_
    refine am_cv (mm_V2 dX10_called_198 in_X10_turns mk_X10_291 im_X10_turns sl_X10_turns ⟨Nat.le_of_ble_eq_true rfl, Nat.le_of_ble_eq_true rfl⟩ rfl (md_0 hm) (Nat.le_of_ble_eq_true rfl)) (m_turns hm (by omega) (fun z => by have z2 := tne z; rw [un_O (by omega)]; exact hR.1.2.1 _ (by omega))) ?_
    obtain ⟨V, hV⟩ : ∃ V, tnS (unS S p) ((unM p).1 A0) st = V := ⟨_, rfl⟩
    have hF : rgF S V := by rw [← hV]; exact rgF_tr hFu rgF_tn
    have hrg : rgS V = cbT S (keyM S c) pl (unM p) ((s % 6 : Nat) : Int) := by rw [← hV, rg_tn tne, hrgu, ecb]
    have hk1 : keyM V c = keyM S c := rgF_key hF c
    have hEb := rgF_E hF
    first
      | rw [show tnS (unS S p) ((unM p).1 A0) 6 = V by rw [← hV, ← hst0, if_pos (by omega)]]
      | rw [show tnS (unS S p) ((unM p).1 A0) ((s % 6 : Nat) : Int) = V by rw [← hV, ← hst0, if_neg (by omega)]]
    refine am_iload rfl dX10_called_201 ?_
    refine mm_bipush dX10_called_203 (by decide) ?_
    refine mm_jge (tgt := 220) dX10_called_205 (by decide) (by omega) (by omega) (fun h205 => ?_) (fun h205 => ?_)
    · refine am_aload_n rfl dX10_called_220 ?_
      refine am_iload_n rfl dX10_called_221 ?_
      refine am_iload rfl dX10_called_222 ?_
      refine mm_iconst dX10_called_224 ?_
      refine am_cxv (mm_V3 dX10_called_225 in_X10_out mk_X10_294 im_X10_out sl_X10_out ⟨Nat.le_of_ble_eq_true rfl, Nat.le_of_ble_eq_true rfl⟩ rfl (md_0 hm) (Nat.le_of_ble_eq_true rfl)) (m_out (X := X) (F := F) (W := W) (pl := pl) (how := 2) hm (mbW_of hEb hb) (rgF_I hF hI) (rgF_S hF hS) (c := c) (by rw [hF.2 27 (by omega)]; exact hc) (by rw [hk1, hrg]; exact rgV_of hEb rgU) (by rw [hF.1 204 (by omega) (by omega), bk_N hEb]; exact hp) (Or.inr rfl) (by rw [hk1, hrg, hF.1 204 (by omega) (by omega), bk_otK hEb, bk_ot hEb]; unfold cbR at hE; rw [if_pos (by omega)] at hE; exact hE)) (fun M1 hq => ?_)
      obtain ⟨S2, L2, rfl, hpo, hxx2⟩ := hq
      rw [hk1, hrg, hF.1 204 (by omega) (by omega), bk_otK hEb, bk_ot hEb] at hxx2
      refine kk S2 L2 (poM_tr (poM_rg hF hI hS) hpo) (fun e => ?_)
      unfold cbR
      first
        | (rw [if_neg (by omega), otK_1]; exact hxx2 e)
        | (rw [if_pos (by omega)]; exact hxx2 e)
    · refine am_aload_n rfl dX10_called_208 ?_
      refine am_iload_n rfl dX10_called_209 ?_
      refine am_iload rfl dX10_called_210 ?_
      refine mm_iconst dX10_called_212 ?_
      refine mm_iadd dX10_called_213 ?_
      refine am_cxv (mm_V2 dX10_called_214 in_X10_goes mk_X10_268 im_X10_goes sl_X10_goes ⟨Nat.le_of_ble_eq_true rfl, Nat.le_of_ble_eq_true rfl⟩ rfl (md_0 hm) (Nat.le_of_ble_eq_true rfl)) (m_goes (X := X) (F := F) (W := W) (to := (pl : Int) + 1) hm (mbW_of hEb hb) (rgF_I hF hI) (rgF_S hF hS) (c := c) (by rw [hF.2 27 (by omega)]; exact hc) (by rw [hF.1 204 (by omega) (by omega), hF.1 189 (by omega) (by omega)]; omega) (by rw [hk1, hrg]; exact rgV_of hEb rgU) (by rw [hk1, hrg, hF.1 204 (by omega) (by omega), gtR, bk_mv hEb]; unfold cbR at hE; rw [if_neg (by omega), otK_1] at hE; exact hE)) (fun M1 hq => ?_)
      obtain ⟨S2, L2, rfl, hpo, hxx2⟩ := hq
      rw [hk1, hrg, hF.1 204 (by omega) (by omega), gtR, bk_mv hEb] at hxx2
      refine am_goto (tgt := 228) dX10_called_217 (by decide) ?_
      refine kk S2 L2 (poM_tr (poM_rg hF hI hS) hpo) (fun e => ?_)
      unfold cbR
      first
        | (rw [if_neg (by omega), otK_1]; exact hxx2 e)
        | (rw [if_pos (by omega)]; exact hxx2 e)
  · refine mm_bipush dX10_called_191 (by decide) ?_
    refine am_goto (tgt := 198) dX10_called_193 (by decide) ?_
    refine am_cv (mm_V2 dX10_called_198 in_X10_turns mk_X10_291 im_X10_turns sl_X10_turns ⟨Nat.le_of_ble_eq_true rfl, Nat.le_of_ble_eq_true rfl⟩ rfl (md_0 hm) (Nat.le_of_ble_eq_true rfl)) (m_turns hm (by omega) (fun z => by have z2 := tne z; rw [un_O (by omega)]; exact hR.1.2.1 _ (by omega))) ?_
    obtain ⟨V, hV⟩ : ∃ V, tnS (unS S p) ((unM p).1 A0) st = V := ⟨_, rfl⟩
    have hF : rgF S V := by rw [← hV]; exact rgF_tr hFu rgF_tn
    have hrg : rgS V = cbT S (keyM S c) pl (unM p) ((s % 6 : Nat) : Int) := by rw [← hV, rg_tn tne, hrgu, ecb]
    have hk1 : keyM V c = keyM S c := rgF_key hF c
    have hEb := rgF_E hF
    first
      | rw [show tnS (unS S p) ((unM p).1 A0) 6 = V by rw [← hV, ← hst0, if_pos (by omega)]]
      | rw [show tnS (unS S p) ((unM p).1 A0) ((s % 6 : Nat) : Int) = V by rw [← hV, ← hst0, if_neg (by omega)]]
    refine am_iload rfl dX10_called_201 ?_
    refine mm_bipush dX10_called_203 (by decide) ?_
    refine mm_jge (tgt := 220) dX10_called_205 (by decide) (by omega) (by omega) (fun h205 => ?_) (fun h205 => ?_)
    · refine am_aload_n rfl dX10_called_220 ?_
      refine am_iload_n rfl dX10_called_221 ?_
      refine am_iload rfl dX10_called_222 ?_
      refine mm_iconst dX10_called_224 ?_
      refine am_cxv (mm_V3 dX10_called_225 in_X10_out mk_X10_294 im_X10_out sl_X10_out ⟨Nat.le_of_ble_eq_true rfl, Nat.le_of_ble_eq_true rfl⟩ rfl (md_0 hm) (Nat.le_of_ble_eq_true rfl)) (m_out (X := X) (F := F) (W := W) (pl := pl) (how := 2) hm (mbW_of hEb hb) (rgF_I hF hI) (rgF_S hF hS) (c := c) (by rw [hF.2 27 (by omega)]; exact hc) (by rw [hk1, hrg]; exact rgV_of hEb rgU) (by rw [hF.1 204 (by omega) (by omega), bk_N hEb]; exact hp) (Or.inr rfl) (by rw [hk1, hrg, hF.1 204 (by omega) (by omega), bk_otK hEb, bk_ot hEb]; unfold cbR at hE; rw [if_pos (by omega)] at hE; exact hE)) (fun M1 hq => ?_)
      obtain ⟨S2, L2, rfl, hpo, hxx2⟩ := hq
      rw [hk1, hrg, hF.1 204 (by omega) (by omega), bk_otK hEb, bk_ot hEb] at hxx2
      refine kk S2 L2 (poM_tr (poM_rg hF hI hS) hpo) (fun e => ?_)
      unfold cbR
      first
        | (rw [if_neg (by omega), otK_1]; exact hxx2 e)
        | (rw [if_pos (by omega)]; exact hxx2 e)
    · refine am_aload_n rfl dX10_called_208 ?_
      refine am_iload_n rfl dX10_called_209 ?_
      refine am_iload rfl dX10_called_210 ?_
      refine mm_iconst dX10_called_212 ?_
      refine mm_iadd dX10_called_213 ?_
      refine am_cxv (mm_V2 dX10_called_214 in_X10_goes mk_X10_268 im_X10_goes sl_X10_goes ⟨Nat.le_of_ble_eq_true rfl, Nat.le_of_ble_eq_true rfl⟩ rfl (md_0 hm) (Nat.le_of_ble_eq_true rfl)) (m_goes (X := X) (F := F) (W := W) (to := (pl : Int) + 1) hm (mbW_of hEb hb) (rgF_I hF hI) (rgF_S hF hS) (c := c) (by rw [hF.2 27 (by omega)]; exact hc) (by rw [hF.1 204 (by omega) (by omega), hF.1 189 (by omega) (by omega)]; omega) (by rw [hk1, hrg]; exact rgV_of hEb rgU) (by rw [hk1, hrg, hF.1 204 (by omega) (by omega), gtR, bk_mv hEb]; unfold cbR at hE; rw [if_neg (by omega), otK_1] at hE; exact hE)) (fun M1 hq => ?_)
      obtain ⟨S2, L2, rfl, hpo, hxx2⟩ := hq
      rw [hk1, hrg, hF.1 204 (by omega) (by omega), gtR, bk_mv hEb] at hxx2
      refine am_goto (tgt := 228) dX10_called_217 (by decide) ?_
      refine kk S2 L2 (poM_tr (poM_rg hF hI hS) hpo) (fun e => ?_)
      unfold cbR
      first
        | (rw [if_neg (by omega), otK_1]; exact hxx2 e)
        | (rw [if_pos (by omega)]; exact hxx2 e)
abbrev btS (S : mm_S) (d s : Nat) : Prop := bt (if s < 6 then S 207 d else S 208 d) (s % 6)
theorem bt_FM {S : mm_S} {d s : Nat} {κ : kyT} (hd : (d : Int) < S 181 27) (hk : keyM S d = κ) (hb : btS S d s) : FM S κ ((if 6 ≤ s then 8 else 0) + ((s % 6 : Nat) : Int)) := by
  unfold btS at hb
  by_cases h : s < 6
  · rw [if_pos h] at hb
    rw [if_neg (by omega)]
    exact ⟨d, hd, hk, Or.inl ⟨by omega, by omega, by rw [show (0 + ((s % 6 : Nat) : Int)).toNat = s % 6 by omega]; exact hb⟩⟩
  · rw [if_neg h] at hb
    rw [if_pos (by omega)]
    exact ⟨d, hd, hk, Or.inr ⟨by omega, by rw [show (8 + ((s % 6 : Nat) : Int) - 8).toNat = s % 6 by omega]; exact hb⟩⟩
set_option maxRecDepth 100000 in
set_option maxHeartbeats 16000000 in
theorem l_cal {sh : List mm_H} {S : mm_S} {L : mm_L} (hm : mdS sh) (hb : mbW S) (hI : imS S L) {X : XT} {F : FT} {W : WT} (hS : SubM S L X F W) {c : Nat} (hc : (c : Int) < S 181 27) {p : Int} (hp0 : 0 ≤ p ∧ p < 9223372036854775808) {pl : Nat} (hp : pl < mN S (S 204 c).toNat) (hx : mSo S (S 204 c).toNat pl = 10 ∨ mSo S (S 204 c).toNat pl = 11) (hR : rgV S (keyM S c) (unM p)) (hw : wrR S (keyM S c) pl (unM p) = 0) (hv : bvS S) {d : Nat} (hE : ∀ st : Nat, st < 6 → (F (clK S (keyM S c) pl (unM p)) st → otK X F W S (keyM S c) (cbR S (keyM S c) pl (unM p) False st)) ∧ (F (clK S (keyM S c) pl (unM p)) (8 + st) → otK X F W S (keyM S c) (cbR S (keyM S c) pl (unM p) True st))) : ∀ (q : Nat) (s : Nat) (S' : mm_S) (L' : mm_L), 12 - s < q → (s ≤ 12) → (poM S L X F W S' L') → ((d : Int) < S' 181 27 ∧ keyM S' d = clK S (keyM S c) pl (unM p)) → ((S' 181 39 = 0 → S' 181 40 = 0 → ∀ u : Nat, u < s → btS S' d u → otK (XM S' L') (FM S') (WM S') S (keyM S c) (cbR S (keyM S c) pl (unM p) (6 ≤ u) ((u % 6 : Nat) : Int)))) → am_AW eX10_called (mm sh S' L') 121 [some (.ref 181), some (.int (iI (c : Int))), some (.long (lI p)), none, some (.int (iI (pl : Int))), some (.int (iI (b2 (mSo S (S 204 c).toNat pl = 11)))), some (.int (iI ((25 * (S 204 c).toNat + pl : Nat) : Int))), some (.int (iI ((unM p).1 (mBb S (S 204 c).toNat pl).toNat))), some (.int (iI 0)), some (.int (iI (cdR (S 205 c) (unM p) ((unM p).1 (mBb S (S 204 c).toNat pl).toNat)))), some (.int (iI (d : Int))), some (.int (iI (s : Int))), none, none] [] (fun r0 M' => r0 = none ∧ ∃ S' L', M' = mm sh S' L' ∧ poM S L X F W S' L' ∧ ((d : Int) < S' 181 27 ∧ keyM S' d = clK S (keyM S c) pl (unM p)) ∧ (S' 181 39 = 0 → S' 181 40 = 0 → ∀ u : Nat, u < 12 → btS S' d u → otK (XM S' L') (FM S') (WM S') S (keyM S c) (cbR S (keyM S c) pl (unM p) (6 ≤ u) ((u % 6 : Nat) : Int)))) := by
  intro q
  induction q with
  | zero =>
    intro s S' L' hq
    exact absurd hq (Nat.not_lt_zero _)
  | succ q ih =>
    intro s S' L' hq hs hpo hd hacc
    have hcs := hI.1
    have hc27 := hI.1.1
    have hcc := hcs.2 c hc
    have hκ := (hI.2.1 c hc).1
    have hr9 : (((S 204 c).toNat : Nat) : Int) < S 181 9 := hκ.2.1
    have hrw := hb.2.2.2.2 (S 204 c).toNat hr9
    have h24 := hb.1.2.2.2.2 (S 204 c).toNat (by omega)
    have hc40 : c < 40 := by omega
    have er204 : S 204 c = (((S 204 c).toNat : Nat) : Int) := by omega
    have hN : ((mN S (S 204 c).toNat : Nat) : Int) = S 189 (S 204 c).toNat := by unfold mN; omega
    have e1 := po_E hpo
    have c1 := po_c hpo hc
    have ky1 := po_k hpo hc
    have kk1 := ky_204 ky1
    have csd := hpo.2.1.2.1 d hd.1
    have cd27 := hpo.2.1.1.1
    have hv1 := hpo.2.2.2.2 hv
    refine am_iload rfl dX10_called_121 ?_
    refine mm_bipush dX10_called_123 (by decide) ?_
    refine mm_jge (tgt := 234) dX10_called_125 (by decide) (by omega) (by omega) (fun h125 => ?_) (fun h125 => ?_)
    · have h5 : s = 12 := by omega
      subst h5
      exact am_return dX10_called_234 rfl ⟨rfl, S', L', rfl, hpo, hd, hacc⟩
    · refine am_iload rfl dX10_called_128 ?_
      refine mm_iconst dX10_called_130 ?_
      refine mm_jeq (tgt := 234) dX10_called_131 (by decide) (by omega) (by omega) (fun h131 => ?_) (fun h131 => ?_)
      · exfalso; omega
      · refine am_iload rfl dX10_called_134 ?_
        refine mm_bipush dX10_called_136 (by decide) ?_
        refine mm_irem dX10_called_138 (by omega) (by omega) ?_
        rw [show ((s : Int) % 6) = ((s % 6 : Nat) : Int) by omega]
        refine am_ist12 dX10_called_139 (Nat.le_of_ble_eq_true rfl) (am_c1i _) ?_
        refine am_iload rfl dX10_called_141 ?_
        refine mm_bipush dX10_called_143 (by decide) ?_
        refine mm_jge (tgt := 158) dX10_called_145 (by decide) (by omega) (by omega) (fun h145 => ?_) (fun h145 => ?_)
        · refine am_aload_n rfl dX10_called_158 ?_
          refine mm_getR dX10_called_159 fl_X10_93 (md_0 hm) mdf_33 ?_
          refine am_iload rfl dX10_called_162 ?_
          refine mm_ial dX10_called_164 (md_failing hm) (by omega) ?_
          rw [Int.toNat_natCast]
          have hr7 := csd.2.1.2
          refine am_ist13 dX10_called_165 (Nat.le_of_ble_eq_true rfl) (am_c1i _) ?_
          refine am_iload rfl dX10_called_167 ?_
          refine am_iload rfl dX10_called_169 ?_
          refine mm_ishr dX10_called_171 (by omega) (by omega) ?_
          refine mm_iconst dX10_called_172 ?_
          refine mm_iand1 dX10_called_173 (div_pow_R (by omega)) ?_
          refine mm_iconst dX10_called_174 ?_
          rw [Int.toNat_natCast]
          refine mm_jne (tgt := 228) dX10_called_175 (by decide) (by omega) (by omega) (fun h175 => ?_) (fun h175 => ?_)
          · refine mm_inc11 dX10_called_228 (Nat.le_of_ble_eq_true rfl) (am_c1i _) ?_
            refine am_goto (tgt := 121) dX10_called_231 (by decide) ?_
            refine am_AW.unset 12 (am_AW.unset 13 ?_)
            first
              | (refine ih (s + 1) S' L' (by omega) (by omega) hpo hd (fun q1 q2 u hu hbu => ?_)
                 by_cases e : u = s
                 · exfalso
                   subst e
                   unfold btS bt at hbu
                   first
                     | (rw [if_pos (by omega)] at hbu; omega)
                     | (rw [if_neg (by omega)] at hbu; omega)
                 · exact hacc q1 q2 u (by omega) hbu)
          · first
              | (have hbs : btS S' d s := by
                   unfold btS bt
                   first
                     | (rw [if_pos (by omega)]; omega)
                     | (rw [if_neg (by omega)]; omega)
                 have hFM := hpo.2.2.1.2.1 _ _ (bt_FM hd.1 hd.2 hbs)
                 have hEs : otK X F W S (keyM S c) (cbR S (keyM S c) pl (unM p) (6 ≤ s) ((s % 6 : Nat) : Int)) := by
                   by_cases h6 : 6 ≤ s
                   · rw [if_pos h6] at hFM
                     have := (hE (s % 6) (Nat.mod_lt _ (by decide))).2 hFM
                     unfold cbR at this ⊢
                     rw [if_pos trivial] at this
                     rw [if_pos h6]; exact this
                   · rw [if_neg h6, Int.zero_add] at hFM
                     have := (hE (s % 6) (Nat.mod_lt _ (by decide))).1 hFM
                     unfold cbR at this ⊢
                     rw [if_neg (fun z => z)] at this
                     rw [if_neg h6]; exact this
                 have hvs : mSo S (S 204 c).toNat pl = 10 → ((s % 6 : Nat) : Int) < S 182 (cdR (S 205 c) (unM p) ((unM p).1 (mBb S (S 204 c).toNat pl).toNat) / 7).toNat := fun z => by
                   have h0 := hv1 d hd.1 (s % 6) (by
                     unfold btS at hbs
                     by_cases h6 : s < 6
                     · rw [if_pos h6] at hbs; exact Or.inl hbs
                     · rw [if_neg h6] at hbs; exact Or.inr hbs)
                   rw [hd.2] at h0
                   unfold bmS clK at h0
                   rw [if_pos (show (if mSo S (keyM S c).2.1 pl = 11 then (2 : Int) else 1) = 1 by rw [if_neg (show ¬ mSo S (S 204 c).toNat pl = 11 by omega)]), e1.1 182 (by omega) (by omega)] at h0
                   exact h0
                 have k1 := l_cbk (sh := sh) (S := S') (L := L') (X := X) (F := F) (W := W) (c := c) (p := p) (pl := pl) (d := d) (s := s) (fr := S' 207 d) hm (mbW_of e1 hb) hpo.2.1 hpo.2.2.1 c1 hp0 (by rw [kk1.1, bk_N e1]; exact hp) (by rw [kk1.1, bk_So e1]; exact hx) (by rw [ky1]; exact rgV_of e1 hR) (by rw [ky1, bk_wr e1]; exact hw) (by omega) (by rw [kk1.1, kk1.2, bk_So e1, bk_Bb e1, e1.1 182 (by omega) (by omega)]; exact hvs) (by rw [ky1, bk_otK e1, bk_cb e1]; exact hEs) (Q := (fun r0 M' => r0 = none ∧ ∃ S' L', M' = mm sh S' L' ∧ poM S L X F W S' L' ∧ ((d : Int) < S' 181 27 ∧ keyM S' d = clK S (keyM S c) pl (unM p)) ∧ (S' 181 39 = 0 → S' 181 40 = 0 → ∀ u : Nat, u < 12 → btS S' d u → otK (XM S' L') (FM S') (WM S') S (keyM S c) (cbR S (keyM S c) pl (unM p) (6 ≤ u) ((u % 6 : Nat) : Int))))) ?_
                 · rw [kk1.1, kk1.2, bk_So e1, bk_Bb e1] at k1
                   exact k1
                 · intro S2 L2 po2 ho2
                   rw [kk1.1, kk1.2, bk_So e1, bk_Bb e1]
                   refine mm_inc11 dX10_called_228 (Nat.le_of_ble_eq_true rfl) (am_c1i _) ?_
                   refine am_goto (tgt := 121) dX10_called_231 (by decide) ?_
                   refine am_AW.unset 12 (am_AW.unset 13 ?_)
                   refine ih (s + 1) S2 L2 (by omega) (by omega) (poM_tr hpo po2) ⟨po_c po2 hd.1, by rw [po_k po2 hd.1]; exact hd.2⟩ (fun q1 q2 u hu hbu => ?_)
                   have sm := po2.1.2.2.2.2.2 q2
                   by_cases e : u = s
                   · have := ho2 q1
                     rw [ky1, bk_otK e1, bk_cb e1] at this
                     rw [e]; exact this
                   · have hbu' : btS S' d u := by unfold btS at hbu ⊢; rw [sm.1 207 (by omega) (by omega), sm.1 208 (by omega) (by omega)] at hbu; exact hbu
                     exact po_ot po2 (hacc (po_39 po2 hpo.2.1 q1) (po_40 po2 hpo.2.1 q2) u (by omega) hbu'))
              | (have hbs : btS S' d s := by
                   unfold btS bt
                   first
                     | (rw [if_pos (by omega)]; omega)
                     | (rw [if_neg (by omega)]; omega)
                 have hFM := hpo.2.2.1.2.1 _ _ (bt_FM hd.1 hd.2 hbs)
                 have hEs : otK X F W S (keyM S c) (cbR S (keyM S c) pl (unM p) (6 ≤ s) ((s % 6 : Nat) : Int)) := by
                   by_cases h6 : 6 ≤ s
                   · rw [if_pos h6] at hFM
                     have := (hE (s % 6) (Nat.mod_lt _ (by decide))).2 hFM
                     unfold cbR at this ⊢
                     rw [if_pos trivial] at this
                     rw [if_pos h6]; exact this
                   · rw [if_neg h6, Int.zero_add] at hFM
                     have := (hE (s % 6) (Nat.mod_lt _ (by decide))).1 hFM
                     unfold cbR at this ⊢
                     rw [if_neg (fun z => z)] at this
                     rw [if_neg h6]; exact this
                 have hvs : mSo S (S 204 c).toNat pl = 10 → ((s % 6 : Nat) : Int) < S 182 (cdR (S 205 c) (unM p) ((unM p).1 (mBb S (S 204 c).toNat pl).toNat) / 7).toNat := fun z => by
                   have h0 := hv1 d hd.1 (s % 6) (by
                     unfold btS at hbs
                     by_cases h6 : s < 6
                     · rw [if_pos h6] at hbs; exact Or.inl hbs
                     · rw [if_neg h6] at hbs; exact Or.inr hbs)
                   rw [hd.2] at h0
                   unfold bmS clK at h0
                   rw [if_pos (show (if mSo S (keyM S c).2.1 pl = 11 then (2 : Int) else 1) = 1 by rw [if_neg (show ¬ mSo S (S 204 c).toNat pl = 11 by omega)]), e1.1 182 (by omega) (by omega)] at h0
                   exact h0
                 have k1 := l_cbk (sh := sh) (S := S') (L := L') (X := X) (F := F) (W := W) (c := c) (p := p) (pl := pl) (d := d) (s := s) (fr := S' 208 d) hm (mbW_of e1 hb) hpo.2.1 hpo.2.2.1 c1 hp0 (by rw [kk1.1, bk_N e1]; exact hp) (by rw [kk1.1, bk_So e1]; exact hx) (by rw [ky1]; exact rgV_of e1 hR) (by rw [ky1, bk_wr e1]; exact hw) (by omega) (by rw [kk1.1, kk1.2, bk_So e1, bk_Bb e1, e1.1 182 (by omega) (by omega)]; exact hvs) (by rw [ky1, bk_otK e1, bk_cb e1]; exact hEs) (Q := (fun r0 M' => r0 = none ∧ ∃ S' L', M' = mm sh S' L' ∧ poM S L X F W S' L' ∧ ((d : Int) < S' 181 27 ∧ keyM S' d = clK S (keyM S c) pl (unM p)) ∧ (S' 181 39 = 0 → S' 181 40 = 0 → ∀ u : Nat, u < 12 → btS S' d u → otK (XM S' L') (FM S') (WM S') S (keyM S c) (cbR S (keyM S c) pl (unM p) (6 ≤ u) ((u % 6 : Nat) : Int))))) ?_
                 · rw [kk1.1, kk1.2, bk_So e1, bk_Bb e1] at k1
                   exact k1
                 · intro S2 L2 po2 ho2
                   rw [kk1.1, kk1.2, bk_So e1, bk_Bb e1]
                   refine mm_inc11 dX10_called_228 (Nat.le_of_ble_eq_true rfl) (am_c1i _) ?_
                   refine am_goto (tgt := 121) dX10_called_231 (by decide) ?_
                   refine am_AW.unset 12 (am_AW.unset 13 ?_)
                   refine ih (s + 1) S2 L2 (by omega) (by omega) (poM_tr hpo po2) ⟨po_c po2 hd.1, by rw [po_k po2 hd.1]; exact hd.2⟩ (fun q1 q2 u hu hbu => ?_)
                   have sm := po2.1.2.2.2.2.2 q2
                   by_cases e : u = s
                   · have := ho2 q1
                     rw [ky1, bk_otK e1, bk_cb e1] at this
                     rw [e]; exact this
                   · have hbu' : btS S' d u := by unfold btS at hbu ⊢; rw [sm.1 207 (by omega) (by omega), sm.1 208 (by omega) (by omega)] at hbu; exact hbu
                     exact po_ot po2 (hacc (po_39 po2 hpo.2.1 q1) (po_40 po2 hpo.2.1 q2) u (by omega) hbu'))
        · refine am_aload_n rfl dX10_called_148 ?_
          refine mm_getR dX10_called_149 fl_X10_90 (md_0 hm) mdf_32 ?_
          refine am_iload rfl dX10_called_152 ?_
          refine mm_ial dX10_called_154 (md_ok hm) (by omega) ?_
          rw [Int.toNat_natCast]
          refine am_goto (tgt := 165) dX10_called_155 (by decide) ?_
          have hr7 := csd.2.1.2
          refine am_ist13 dX10_called_165 (Nat.le_of_ble_eq_true rfl) (am_c1i _) ?_
          refine am_iload rfl dX10_called_167 ?_
          refine am_iload rfl dX10_called_169 ?_
          refine mm_ishr dX10_called_171 (by omega) (by omega) ?_
          refine mm_iconst dX10_called_172 ?_
          refine mm_iand1 dX10_called_173 (div_pow_R (by omega)) ?_
          refine mm_iconst dX10_called_174 ?_
          rw [Int.toNat_natCast]
          refine mm_jne (tgt := 228) dX10_called_175 (by decide) (by omega) (by omega) (fun h175 => ?_) (fun h175 => ?_)
          · refine mm_inc11 dX10_called_228 (Nat.le_of_ble_eq_true rfl) (am_c1i _) ?_
            refine am_goto (tgt := 121) dX10_called_231 (by decide) ?_
            refine am_AW.unset 12 (am_AW.unset 13 ?_)
            first
              | (refine ih (s + 1) S' L' (by omega) (by omega) hpo hd (fun q1 q2 u hu hbu => ?_)
                 by_cases e : u = s
                 · exfalso
                   subst e
                   unfold btS bt at hbu
                   first
                     | (rw [if_pos (by omega)] at hbu; omega)
                     | (rw [if_neg (by omega)] at hbu; omega)
                 · exact hacc q1 q2 u (by omega) hbu)
          · first
              | (have hbs : btS S' d s := by
                   unfold btS bt
                   first
                     | (rw [if_pos (by omega)]; omega)
                     | (rw [if_neg (by omega)]; omega)
                 have hFM := hpo.2.2.1.2.1 _ _ (bt_FM hd.1 hd.2 hbs)
                 have hEs : otK X F W S (keyM S c) (cbR S (keyM S c) pl (unM p) (6 ≤ s) ((s % 6 : Nat) : Int)) := by
                   by_cases h6 : 6 ≤ s
                   · rw [if_pos h6] at hFM
                     have := (hE (s % 6) (Nat.mod_lt _ (by decide))).2 hFM
                     unfold cbR at this ⊢
                     rw [if_pos trivial] at this
                     rw [if_pos h6]; exact this
                   · rw [if_neg h6, Int.zero_add] at hFM
                     have := (hE (s % 6) (Nat.mod_lt _ (by decide))).1 hFM
                     unfold cbR at this ⊢
                     rw [if_neg (fun z => z)] at this
                     rw [if_neg h6]; exact this
                 have hvs : mSo S (S 204 c).toNat pl = 10 → ((s % 6 : Nat) : Int) < S 182 (cdR (S 205 c) (unM p) ((unM p).1 (mBb S (S 204 c).toNat pl).toNat) / 7).toNat := fun z => by
                   have h0 := hv1 d hd.1 (s % 6) (by
                     unfold btS at hbs
                     by_cases h6 : s < 6
                     · rw [if_pos h6] at hbs; exact Or.inl hbs
                     · rw [if_neg h6] at hbs; exact Or.inr hbs)
                   rw [hd.2] at h0
                   unfold bmS clK at h0
                   rw [if_pos (show (if mSo S (keyM S c).2.1 pl = 11 then (2 : Int) else 1) = 1 by rw [if_neg (show ¬ mSo S (S 204 c).toNat pl = 11 by omega)]), e1.1 182 (by omega) (by omega)] at h0
                   exact h0
                 have k1 := l_cbk (sh := sh) (S := S') (L := L') (X := X) (F := F) (W := W) (c := c) (p := p) (pl := pl) (d := d) (s := s) (fr := S' 207 d) hm (mbW_of e1 hb) hpo.2.1 hpo.2.2.1 c1 hp0 (by rw [kk1.1, bk_N e1]; exact hp) (by rw [kk1.1, bk_So e1]; exact hx) (by rw [ky1]; exact rgV_of e1 hR) (by rw [ky1, bk_wr e1]; exact hw) (by omega) (by rw [kk1.1, kk1.2, bk_So e1, bk_Bb e1, e1.1 182 (by omega) (by omega)]; exact hvs) (by rw [ky1, bk_otK e1, bk_cb e1]; exact hEs) (Q := (fun r0 M' => r0 = none ∧ ∃ S' L', M' = mm sh S' L' ∧ poM S L X F W S' L' ∧ ((d : Int) < S' 181 27 ∧ keyM S' d = clK S (keyM S c) pl (unM p)) ∧ (S' 181 39 = 0 → S' 181 40 = 0 → ∀ u : Nat, u < 12 → btS S' d u → otK (XM S' L') (FM S') (WM S') S (keyM S c) (cbR S (keyM S c) pl (unM p) (6 ≤ u) ((u % 6 : Nat) : Int))))) ?_
                 · rw [kk1.1, kk1.2, bk_So e1, bk_Bb e1] at k1
                   exact k1
                 · intro S2 L2 po2 ho2
                   rw [kk1.1, kk1.2, bk_So e1, bk_Bb e1]
                   refine mm_inc11 dX10_called_228 (Nat.le_of_ble_eq_true rfl) (am_c1i _) ?_
                   refine am_goto (tgt := 121) dX10_called_231 (by decide) ?_
                   refine am_AW.unset 12 (am_AW.unset 13 ?_)
                   refine ih (s + 1) S2 L2 (by omega) (by omega) (poM_tr hpo po2) ⟨po_c po2 hd.1, by rw [po_k po2 hd.1]; exact hd.2⟩ (fun q1 q2 u hu hbu => ?_)
                   have sm := po2.1.2.2.2.2.2 q2
                   by_cases e : u = s
                   · have := ho2 q1
                     rw [ky1, bk_otK e1, bk_cb e1] at this
                     rw [e]; exact this
                   · have hbu' : btS S' d u := by unfold btS at hbu ⊢; rw [sm.1 207 (by omega) (by omega), sm.1 208 (by omega) (by omega)] at hbu; exact hbu
                     exact po_ot po2 (hacc (po_39 po2 hpo.2.1 q1) (po_40 po2 hpo.2.1 q2) u (by omega) hbu'))
              | (have hbs : btS S' d s := by
                   unfold btS bt
                   first
                     | (rw [if_pos (by omega)]; omega)
                     | (rw [if_neg (by omega)]; omega)
                 have hFM := hpo.2.2.1.2.1 _ _ (bt_FM hd.1 hd.2 hbs)
                 have hEs : otK X F W S (keyM S c) (cbR S (keyM S c) pl (unM p) (6 ≤ s) ((s % 6 : Nat) : Int)) := by
                   by_cases h6 : 6 ≤ s
                   · rw [if_pos h6] at hFM
                     have := (hE (s % 6) (Nat.mod_lt _ (by decide))).2 hFM
                     unfold cbR at this ⊢
                     rw [if_pos trivial] at this
                     rw [if_pos h6]; exact this
                   · rw [if_neg h6, Int.zero_add] at hFM
                     have := (hE (s % 6) (Nat.mod_lt _ (by decide))).1 hFM
                     unfold cbR at this ⊢
                     rw [if_neg (fun z => z)] at this
                     rw [if_neg h6]; exact this
                 have hvs : mSo S (S 204 c).toNat pl = 10 → ((s % 6 : Nat) : Int) < S 182 (cdR (S 205 c) (unM p) ((unM p).1 (mBb S (S 204 c).toNat pl).toNat) / 7).toNat := fun z => by
                   have h0 := hv1 d hd.1 (s % 6) (by
                     unfold btS at hbs
                     by_cases h6 : s < 6
                     · rw [if_pos h6] at hbs; exact Or.inl hbs
                     · rw [if_neg h6] at hbs; exact Or.inr hbs)
                   rw [hd.2] at h0
                   unfold bmS clK at h0
                   rw [if_pos (show (if mSo S (keyM S c).2.1 pl = 11 then (2 : Int) else 1) = 1 by rw [if_neg (show ¬ mSo S (S 204 c).toNat pl = 11 by omega)]), e1.1 182 (by omega) (by omega)] at h0
                   exact h0
                 have k1 := l_cbk (sh := sh) (S := S') (L := L') (X := X) (F := F) (W := W) (c := c) (p := p) (pl := pl) (d := d) (s := s) (fr := S' 208 d) hm (mbW_of e1 hb) hpo.2.1 hpo.2.2.1 c1 hp0 (by rw [kk1.1, bk_N e1]; exact hp) (by rw [kk1.1, bk_So e1]; exact hx) (by rw [ky1]; exact rgV_of e1 hR) (by rw [ky1, bk_wr e1]; exact hw) (by omega) (by rw [kk1.1, kk1.2, bk_So e1, bk_Bb e1, e1.1 182 (by omega) (by omega)]; exact hvs) (by rw [ky1, bk_otK e1, bk_cb e1]; exact hEs) (Q := (fun r0 M' => r0 = none ∧ ∃ S' L', M' = mm sh S' L' ∧ poM S L X F W S' L' ∧ ((d : Int) < S' 181 27 ∧ keyM S' d = clK S (keyM S c) pl (unM p)) ∧ (S' 181 39 = 0 → S' 181 40 = 0 → ∀ u : Nat, u < 12 → btS S' d u → otK (XM S' L') (FM S') (WM S') S (keyM S c) (cbR S (keyM S c) pl (unM p) (6 ≤ u) ((u % 6 : Nat) : Int))))) ?_
                 · rw [kk1.1, kk1.2, bk_So e1, bk_Bb e1] at k1
                   exact k1
                 · intro S2 L2 po2 ho2
                   rw [kk1.1, kk1.2, bk_So e1, bk_Bb e1]
                   refine mm_inc11 dX10_called_228 (Nat.le_of_ble_eq_true rfl) (am_c1i _) ?_
                   refine am_goto (tgt := 121) dX10_called_231 (by decide) ?_
                   refine am_AW.unset 12 (am_AW.unset 13 ?_)
                   refine ih (s + 1) S2 L2 (by omega) (by omega) (poM_tr hpo po2) ⟨po_c po2 hd.1, by rw [po_k po2 hd.1]; exact hd.2⟩ (fun q1 q2 u hu hbu => ?_)
                   have sm := po2.1.2.2.2.2.2 q2
                   by_cases e : u = s
                   · have := ho2 q1
                     rw [ky1, bk_otK e1, bk_cb e1] at this
                     rw [e]; exact this
                   · have hbu' : btS S' d u := by unfold btS at hbu ⊢; rw [sm.1 207 (by omega) (by omega), sm.1 208 (by omega) (by omega)] at hbu; exact hbu
                     exact po_ot po2 (hacc (po_39 po2 hpo.2.1 q1) (po_40 po2 hpo.2.1 q2) u (by omega) hbu'))
