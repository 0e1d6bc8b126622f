/-! ===== what is asked of the class's judge, whatever the book is by now ===== -/
theorem am_cxb {Y Y' : am_Y} {M : am_M} {pc nx : Nat} {ls : List (Option Value)} {st sa as : List Value} {Q : Option Value → am_M → Prop} {x : Int32} {P : am_M → Prop} (c : am_CL Y pc nx M sa st Y' as) (hE : am_E Y' as M (fun r M' => r = some (.int x) ∧ P M')) (k : ∀ M1, P M1 → am_AW Y M1 nx ls (.int x :: st) Q) : am_AW Y M pc ls sa Q := c ls _ Q hE (fun r M1 h => by obtain ⟨rfl, h⟩ := h; exact k M1 h)
abbrev ckR (S : mm_S) (c : Nat) : Prop := (0 ≤ S (98 + c) 0 ∧ S (98 + c) 0 < 6) ∧ (0 ≤ S (98 + c) 1 ∧ S (98 + c) 1 ≤ 2) ∧ (0 ≤ S (98 + c) 2 ∧ S (98 + c) 2 < 6) ∧ (0 ≤ S (98 + c) 3 ∧ S (98 + c) 3 < 6)
def qsC (S : mm_S) (L : mm_L) (p1 n : Nat) : Prop := (0 ≤ S 86 0 ∧ S 86 0 ≤ n) ∧ (0 ≤ S 85 1 ∧ S 85 1 ≤ 40) ∧ (∀ c : Nat, (c : Int) < S 85 1 → ckR S c) ∧ (∀ i : Nat, (i : Int) < S 86 0 → ∃ (c : Nat) (x : Int) (pl : Nat) (p : Int), enC S L p1 i c x pl p ∧ ∀ v, v < 5 → (unM p).1 v = 1 → (keyC S c).1 = 1) ∧ scV S 94
theorem en_pl {S : mm_S} {L : mm_L} {p1 i c : Nat} {x : Int} {pl : Nat} {p : Int} (h : enC S L p1 i c x pl p) : x % 32 = pl ∧ pl ≤ 24 := by
  obtain ⟨S0, a0, u1, u2, u3, u4, -⟩ := lnk_un h.2.2.2
  have hp := u2.2.1
  rw [u3] at hp
  refine ⟨?_, by omega⟩
  rw [u4]
  unfold scPk pkN
  omega
theorem en_fq {S : mm_S} {L : mm_L} {p1 : Nat} (hk : ∀ c : Nat, (c : Int) < S 85 1 → ckR S c) {i c c' : Nat} {x x' : Int} {pl pl' : Nat} {p p' : Int} (h : enC S L p1 i c x pl p) (h' : enC S L p1 i c' x' pl' p') : c = c' ∧ x = x' ∧ pl = pl' ∧ p = p' := by
  obtain ⟨a1, a2, a3, a4⟩ := h
  obtain ⟨b1, b2, b3, b4⟩ := h'
  have hc : c = c' := by omega
  subst hc
  have hx : x = x' := by omega
  subst hx
  have u := hk c a1
  have k := lnk_fun (so_R u.2.1) (show (S (98 + c) 0).toNat < 6 by omega) (show 0 ≤ S (98 + c) 2 ∧ S (98 + c) 2 ≤ 5 by omega) (show 0 ≤ S (98 + c) 3 ∧ S (98 + c) 3 ≤ 6 by omega) a4 b4
  exact ⟨rfl, rfl, by omega, k.2⟩
theorem sc_key {S S1 : mm_S} (h : scF S S1 94) (c : Nat) : keyC S1 c = keyC S c := (key_of (fun j _ => by rw [h (98 + c) (by omega)])).1
theorem sc_en {S S1 : mm_S} {L : mm_L} (h : scF S S1 94) {p1 i c : Nat} {x : Int} {pl : Nat} {p : Int} (he : enC S L p1 i c x pl p) : enC S1 L p1 i c x pl p := en_of (sc_key h c) (by rw [h 85 (by omega)]; exact Int.le_refl _) rfl he
theorem qs_sc {S S1 : mm_S} {L : mm_L} {p1 n : Nat} (h : scF S S1 94) (hV : scV S1 94) (hQ : qsC S L p1 n) : qsC S1 L p1 n := by
  obtain ⟨a1, a2, a3, a4, a5⟩ := hQ
  refine ⟨by rw [h 86 (by omega)]; exact a1, by rw [h 85 (by omega)]; exact a2, fun c hc => ?_, fun i hi => ?_, hV⟩
  · rw [h 85 (by omega)] at hc
    have := a3 c hc
    unfold ckR at *
    rw [h (98 + c) (by omega)]
    exact this
  · rw [h 86 (by omega)] at hi
    obtain ⟨c, x, pl, p, u1, u2⟩ := a4 i hi
    exact ⟨c, x, pl, p, sc_en h u1, by rw [sc_key h c]; exact u2⟩
set_option maxRecDepth 100000 in
set_option maxHeartbeats 4000000 in
theorem c_load2 {sh : List mm_H} {S : mm_S} {L : mm_L} {p1 p2 p3 n : Nat} (jh : jsH sh) (hpl : plS sh p1 p2 p3 n) (hn : (n : Int) < 1000000) (hQ : qsC S L p1 n) {i c : Nat} {x : Int} {pl : Nat} {p : Int} (hi : (i : Int) < S 86 0) (hen : enC S L p1 i c x pl p) : am_E eX3_load [.ref 85, .long (lI (x + (c : Int) * 1125899906842624))] (mm sh S L) (fun r0 M' => r0 = none ∧ ∃ S', M' = mm sh S' L ∧ scF S S' 94 ∧ scV S' 94 ∧ scR S' 94 (keyC S c) (unM p)) := by
  have h40 := hQ.2.1
  have hc := hen.1
  have hc40 : c < 40 := by omega
  have hc1 := hQ.2.2.1 c hc
  unfold ckR at hc1
  have hxr := hen.2.2.1
  have hsz := hQ.1
  have hpl1 := en_pl hen
  refine am_enter rfl rfl (Nat.le_of_ble_eq_true rfl) ?_
  refine am_aload_n rfl dX3_load_0 ?_
  refine mm_getR dX3_load_1 fl_X3_31 jh.1 rfl ?_
  refine am_lload_n rfl dX3_load_4 ?_
  refine am_ci (mm_S1 dX3_load_5 in_X8_caseIn mk_X3_114 st_X8_caseIn ⟨Nat.le_of_ble_eq_true rfl, Nat.le_of_ble_eq_true rfl⟩ (Nat.le_of_ble_eq_true rfl)) (c_caseIn (p := x + (c : Int) * 1125899906842624) (by omega)) ?_
  rw [show (x + (c : Int) * 1125899906842624) / 1125899906842624 % 64 = (c : Int) by omega]
  refine mm_aal dX3_load_8 (fun _ => rfl) jh.2.1 ⟨by omega, by omega, by omega⟩ (show caArr _ = some (98 + c) by rw [Int.toNat_natCast]; exact if_pos hc40) ?_
  refine am_ast3 dX3_load_9 (Nat.le_of_ble_eq_true rfl) am_c1n ?_
  refine am_aload_n rfl dX3_load_10 ?_
  refine mm_getR dX3_load_11 fl_X3_51 jh.1 rfl ?_
  refine am_aload_n rfl dX3_load_14 ?_
  refine mm_getI dX3_load_15 fl_X3_118 (jh.2.2.2.2.2.2.1 c hc40) rfl ?_
  refine am_aload_n rfl dX3_load_18 ?_
  refine mm_getI dX3_load_19 fl_X3_121 (jh.2.2.2.2.2.2.1 c hc40) rfl ?_
  refine am_aload_n rfl dX3_load_22 ?_
  refine mm_getI dX3_load_23 fl_X3_124 (jh.2.2.2.2.2.2.1 c hc40) rfl ?_
  refine am_aload_n rfl dX3_load_26 ?_
  refine mm_getI dX3_load_27 fl_X3_127 (jh.2.2.2.2.2.2.1 c hc40) rfl ?_
  refine am_cv (mm_V4 dX3_load_30 in_X8_begin mk_X3_93 im_X8_begin sl_X8_begin ⟨Nat.le_of_ble_eq_true rfl, Nat.le_of_ble_eq_true rfl⟩ rfl jh.2.2.2.2.2.1.1 (Nat.le_of_ble_eq_true rfl)) (c_scBegin jh.2.2.2.2.2.1 (by omega)) ?_
  refine am_aload_n rfl dX3_load_33 ?_
  refine mm_getR dX3_load_34 fl_X3_51 jh.1 rfl ?_
  refine am_lload_n rfl dX3_load_37 ?_
  refine am_cv (mm_V1 dX3_load_38 in_X8_unpack mk_X3_130 im_X8_unpack sl_X8_unpack ⟨Nat.le_of_ble_eq_true rfl, Nat.le_of_ble_eq_true rfl⟩ rfl jh.2.2.2.2.2.1.1 (Nat.le_of_ble_eq_true rfl)) (c_unpack jh.2.2.2.2.2.1 (p := x + (c : Int) * 1125899906842624) (by omega)) ?_
  refine am_return dX3_load_41 rfl ?_
  obtain ⟨S0, a0, u1, u2, u3, u4, u5, u6, u7⟩ := lnk_un hen.2.2.2
  have hld := ld_ok (S := S) (a := 94) (N := (c : Int)) (x := x + (c : Int) * 1125899906842624) u1 u2 (fun j hj => hQ.2.2.2.2.2.2.2.2 j hj) (so_R hc1.2.1) (show (S (98 + c) 0).toNat < 6 by omega) (show 0 ≤ S (98 + c) 2 ∧ S (98 + c) 2 ≤ 5 by omega) (show 0 ≤ S (98 + c) 3 ∧ S (98 + c) 3 ≤ 6 by omega) (by omega) (by rw [u4])
  have hqq : ldS S 94 (keyC S c) (x + (c : Int) * 1125899906842624) = unF (bgS S 94 (S (98 + c) 0) (S (98 + c) 1) (S (98 + c) 2) (S (98 + c) 3)) 94 (x + (c : Int) * 1125899906842624) 5 := by
    unfold ldS
    show unF (bgS S 94 (((S (98 + c) 0).toNat : Nat) : Int) (hwC (soC (S (98 + c) 1))) (S (98 + c) 2) (S (98 + c) 3)) 94 _ 5 = _
    rw [hwC_so hc1.2.1, show (((S (98 + c) 0).toNat : Nat) : Int) = S (98 + c) 0 by omega]
  rw [hqq] at hld
  obtain ⟨v1, v2, v3, v4, v5⟩ := hld
  exact ⟨rfl, _, rfl, v5, v2, v1⟩
set_option maxRecDepth 100000 in
set_option maxHeartbeats 4000000 in
theorem c_isAt {sh : List mm_H} {S : mm_S} {L : mm_L} {p1 p2 p3 n : Nat} (jh : jsH sh) (hpl : plS sh p1 p2 p3 n) (hn : (n : Int) < 1000000) (hQ : qsC S L p1 n) {i c : Nat} {x : Int} {pl : Nat} {p : Int} (hi : (i : Int) < S 86 0) (hen : enC S L p1 i c x pl p) {tr tp : Nat} (htr : tr < 6) (htp : tp < 25) : am_E eX3_isAt [.ref 85, .int (iI (i : Int)), .int (iI (tr : Int)), .int (iI (tp : Int))] (mm sh S L) (fun r0 M' => r0 = some (.int (iI (b2 (pl = tp ∧ (keyC S c).2.1 = tr)))) ∧ ∃ S', M' = mm sh S' L ∧ scF S S' 94 ∧ scV S' 94 ∧ ((pl = tp ∧ (keyC S c).2.1 = tr) → scR S' 94 (keyC S c) (unM p))) := by
  have h40 := hQ.2.1
  have hc := hen.1
  have hc40 : c < 40 := by omega
  have hc1 := hQ.2.2.1 c hc
  unfold ckR at hc1
  have hxr := hen.2.2.1
  have hsz := hQ.1
  have hpl1 := en_pl hen
  have hkr : ((((keyC S c).2.1 : Nat)) : Int) = S (98 + c) 0 := by show (((S (98 + c) 0).toNat : Nat) : Int) = _; omega
  have hLi : L p1 i = lI (x + (c : Int) * 1125899906842624) := by rw [← hen.2.1]; exact (lI_of _).symm
  refine am_enter rfl rfl (Nat.le_of_ble_eq_true rfl) ?_
  refine am_aload_n rfl dX3_isAt_0 ?_
  refine mm_getR dX3_isAt_1 fl_X3_25 jh.1 rfl ?_
  refine mm_getR dX3_isAt_4 fl_X3_134 hpl.1 rfl ?_
  refine am_iload_n rfl dX3_isAt_7 ?_
  refine mm_lal dX3_isAt_8 hpl.2.1 (by omega) ?_
  rw [Int.toNat_natCast, hLi]
  refine am_lst4 dX3_isAt_9 (Nat.le_of_ble_eq_true rfl) (am_c1i _) ?_
  refine am_lload rfl dX3_isAt_11 ?_
  refine am_ci (mm_S1 dX3_isAt_13 in_X8_placeIn mk_X3_224 st_X8_placeIn ⟨Nat.le_of_ble_eq_true rfl, Nat.le_of_ble_eq_true rfl⟩ (Nat.le_of_ble_eq_true rfl)) (c_placeIn (p := x + (c : Int) * 1125899906842624)) ?_
  rw [show (x + (c : Int) * 1125899906842624) % 32 = (pl : Int) by omega]
  refine am_iload_n rfl dX3_isAt_16 ?_
  refine mm_jne (tgt := 37) dX3_isAt_17 (by decide) (by omega) (by omega) (fun h17 => ?_) (fun h17 => ?_)
  · refine mm_iconst dX3_isAt_37 ?_
    refine am_ireturn dX3_isAt_38 rfl rfl ?_
    exact ⟨by rw [b2_f (fun z => by omega)], S, rfl, fun _ _ => rfl, hQ.2.2.2.2, fun z => by exfalso; omega⟩
  · refine am_aload_n rfl dX3_isAt_20 ?_
    refine mm_getR dX3_isAt_21 fl_X3_31 jh.1 rfl ?_
    refine am_lload rfl dX3_isAt_24 ?_
    refine am_ci (mm_S1 dX3_isAt_26 in_X8_caseIn mk_X3_114 st_X8_caseIn ⟨Nat.le_of_ble_eq_true rfl, Nat.le_of_ble_eq_true rfl⟩ (Nat.le_of_ble_eq_true rfl)) (c_caseIn (p := x + (c : Int) * 1125899906842624) (by omega)) ?_
    rw [show (x + (c : Int) * 1125899906842624) / 1125899906842624 % 64 = (c : Int) by omega]
    refine mm_aal dX3_isAt_29 (fun _ => rfl) jh.2.1 ⟨by omega, by omega, by omega⟩ (show caArr _ = some (98 + c) by rw [Int.toNat_natCast]; exact if_pos hc40) ?_
    refine mm_getI dX3_isAt_30 fl_X3_118 (jh.2.2.2.2.2.2.1 c hc40) rfl ?_
    refine am_iload_n rfl dX3_isAt_33 ?_
    refine mm_jeq (tgt := 39) dX3_isAt_34 (by decide) (by omega) (by omega) (fun h34 => ?_) (fun h34 => ?_)
    · refine am_aload_n rfl dX3_isAt_39 ?_
      refine am_lload rfl dX3_isAt_40 ?_
      refine am_cxv (mm_V1 dX3_isAt_42 in_X3_load mk_X3_138 im_X3_load sl_X3_load ⟨Nat.le_of_ble_eq_true rfl, Nat.le_of_ble_eq_true rfl⟩ rfl jh.1 (Nat.le_of_ble_eq_true rfl)) (c_load2 (i := i) jh hpl hn hQ hi hen) (fun M1 hqq => ?_)
      obtain ⟨S2, rfl, hF2, hV2, hR2⟩ := hqq
      refine mm_iconst dX3_isAt_45 ?_
      refine am_ireturn dX3_isAt_46 rfl rfl ?_
      exact ⟨by rw [b2_t (by omega)], S2, rfl, hF2, hV2, fun _ => hR2⟩
    · refine mm_iconst dX3_isAt_37 ?_
      refine am_ireturn dX3_isAt_38 rfl rfl ?_
      exact ⟨by rw [b2_f (fun z => by omega)], S, rfl, fun _ _ => rfl, hQ.2.2.2.2, fun z => by exfalso; omega⟩
/-- what a VARIABLE names, as may() tells it -/
def stB (κ : kyT) (p : Int) (v : Nat) : Int := if (unM p).1 v = 0 then 7 else cdR κ.2.2.1 (unM p) ((unM p).1 v) % 7
theorem stB_R (κ : kyT) (p : Int) (v : Nat) : 0 ≤ stB κ p v ∧ stB κ p v ≤ 7 := by
  unfold stB
  split <;> omega
def mayP (X : XT) (r pl v j : Nat) : Prop := ∃ κ p, X κ pl p ∧ κ.2.1 = r ∧ stB κ p v = j
def mayQ (S : mm_S) (L : mm_L) (p1 r pl v j N : Nat) : Prop := ∃ i : Nat, i < N ∧ ∃ (c : Nat) (x p : Int), enC S L p1 i c x pl p ∧ (keyC S c).2.1 = r ∧ stB (keyC S c) p v = j
theorem mayQ_s {S : mm_S} {L : mm_L} {p1 r pl v j N c : Nat} {x p : Int} (hk : ∀ c : Nat, (c : Int) < S 85 1 → ckR S c) {pl' : Nat} (he : enC S L p1 N c x pl' p) : mayQ S L p1 r pl v j (N + 1) ↔ mayQ S L p1 r pl v j N ∨ ((pl' = pl ∧ (keyC S c).2.1 = r) ∧ stB (keyC S c) p v = j) := by
  constructor
  · rintro ⟨i, h1, c', x', p', h2, h3, h4⟩
    rcases Nat.lt_or_ge i N with z | z
    · exact Or.inl ⟨i, z, c', x', p', h2, h3, h4⟩
    · have : i = N := by omega
      subst this
      obtain ⟨e1, e2, e3, e4⟩ := en_fq hk he h2
      subst e1 e2 e3 e4
      exact Or.inr ⟨⟨rfl, h3⟩, h4⟩
  · rintro (⟨i, h1, h2⟩ | ⟨⟨h1, h2⟩, h3⟩)
    · exact ⟨i, by omega, h2⟩
    · subst h1
      exact ⟨N, by omega, c, x, p, he, h2, h3⟩
theorem mayQ_e {S : mm_S} {L : mm_L} {p1 r pl v j : Nat} (h0 : 0 ≤ S 86 0) : mayQ S L p1 r pl v j (S 86 0).toNat ↔ mayP (XC S L p1) r pl v j := by
  constructor
  · rintro ⟨i, h1, c, x, p, h2, h3, h4⟩
    exact ⟨keyC S c, p, ⟨i, c, x, by omega, rfl, h2⟩, h3, h4⟩
  · rintro ⟨κ, p, ⟨i, c, x, y1, rfl, y3⟩, h3, h4⟩
    exact ⟨i, by omega, c, x, p, y3, h3, h4⟩
theorem sc_st {S : mm_S} {κ : kyT} {p : Int} (h : scR S 94 κ (unM p)) (hV : scV S 94) (hk : ∀ v, v < 5 → (unM p).1 v = 1 → κ.1 = 1) {v : Nat} (hv : v < 5) : (S (94 + 1) v = -1 → stB κ p v = 7) ∧ (S (94 + 1) v ≠ -1 → stB κ p v = ssO S 94 (v : Int)) := by
  have u := (h.1 v hv).1
  constructor
  · intro e
    unfold stB
    rw [if_pos (u.mp e)]
  · intro e
    have hn : (unM p).1 v ≠ 0 := fun z => e (u.mpr z)
    unfold stB
    rw [if_neg hn]
    have := (sc_dm h hV hk (v := (v : Int)) (by omega) (by rw [Int.toNat_natCast]; exact hn)).2
    rw [Int.toNat_natCast] at this
    exact this
set_option maxRecDepth 100000 in
set_option maxHeartbeats 4000000 in
theorem l_states {sh : List mm_H} {S : mm_S} {L : mm_L} {p1 p2 p3 n : Nat} (jh : jsH sh) (hpl : plS sh p1 p2 p3 n) (hn : (n : Int) < 1000000) (hQ : qsC S L p1 n) {tr tp v : Nat} (htr : tr < 6) (htp : tp < 25) (hv : v < 5) : ∀ (q : Nat) (i : Nat) (bits : Int) (S1 : mm_S), (S 86 0).toNat - i < q → ((i : Int) ≤ S 86 0) → (scF S S1 94) → (scV S1 94) → (0 ≤ bits ∧ bits < 256) → (∀ j, bt bits j ↔ mayQ S L p1 tr tp v j i) → am_AW eX3_statesOf (mm sh S1 L) 6 [some (.ref 85), some (.int (iI (tr : Int))), some (.int (iI (tp : Int))), some (.int (iI (v : Int))), some (.int (iI bits)), some (.int (iI (i : Int)))] [] (fun r0 M' => ∃ a, r0 = some (.int (iI a)) ∧ ∃ S', M' = mm sh S' L ∧ scF S S' 94 ∧ scV S' 94 ∧ (0 ≤ a ∧ a < 256) ∧ ∀ j, bt a j ↔ mayP (XC S L p1) tr tp v j) := by
  intro q
  induction q with
  | zero =>
    intro i bits S1 hq
    exact absurd hq (Nat.not_lt_zero _)
  | succ q ih =>
    intro i bits S1 hq hi hF hV hbR hbt
    have hsz := hQ.1
    have e86 : S1 86 0 = S 86 0 := by rw [hF 86 (by omega)]
    refine am_iload rfl dX3_statesOf_6 ?_
    refine am_aload_n rfl dX3_statesOf_8 ?_
    refine mm_getR dX3_statesOf_9 fl_X3_25 jh.1 rfl ?_
    refine mm_getI dX3_statesOf_12 fl_X3_75 hpl.1 rfl ?_
    refine mm_jge (tgt := 69) dX3_statesOf_15 (by decide) (by omega) (by rw [e86]; omega) (fun h15 => ?_) (fun h15 => ?_)
    · refine am_iload rfl dX3_statesOf_69 ?_
      refine am_ireturn dX3_statesOf_71 rfl rfl ?_
      exact ⟨bits, rfl, S1, rfl, hF, hV, hbR, fun j => by rw [hbt j, show i = (S 86 0).toNat by omega]; exact mayQ_e hsz.1⟩
    · have hi6 : (i : Int) < S 86 0 := by omega
      obtain ⟨c, x, pl, p, hen, hk5⟩ := hQ.2.2.2.1 i hi6
      have hen1 := sc_en hF hen
      have hky := sc_key hF c
      have hms := fun j => mayQ_s (r := tr) (pl := tp) (v := v) (j := j) hQ.2.2.1 hen
      refine am_aload_n rfl dX3_statesOf_18 ?_
      refine am_iload rfl dX3_statesOf_19 ?_
      refine am_iload_n rfl dX3_statesOf_21 ?_
      refine am_iload_n rfl dX3_statesOf_22 ?_
      refine am_cxb (mm_V3 dX3_statesOf_23 in_X3_isAt mk_X3_227 im_X3_isAt sl_X3_isAt ⟨Nat.le_of_ble_eq_true rfl, Nat.le_of_ble_eq_true rfl⟩ rfl jh.1 (Nat.le_of_ble_eq_true rfl)) (c_isAt (i := i) (tr := tr) (tp := tp) jh hpl hn (qs_sc hF hV hQ) (by omega) hen1 htr htp) (fun M1 hqq => ?_)
      obtain ⟨S2, rfl, hF2, hV2, hR2⟩ := hqq
      have hF12 : scF S S2 94 := fun b hb => (hF2 b hb).trans (hF b hb)
      refine mm_bne (tgt := 32) dX3_statesOf_26 (by decide) (fun h26 => ?_) (fun h26 => ?_)
      · have st := sc_st (hR2 h26) hV2 (by rw [sc_key hF]; exact hk5) hv
        obtain ⟨e, he⟩ : ∃ e : Nat, (e : Int) = stB (keyC S1 c) p v := ⟨(stB (keyC S1 c) p v).toNat, by have := stB_R (keyC S1 c) p v; omega⟩
        have heR := stB_R (keyC S1 c) p v
        have hp2 := pow2_b (show e < 16 by omega)
        refine am_iload rfl dX3_statesOf_32 ?_
        refine mm_iconst dX3_statesOf_34 ?_
        refine am_aload_n rfl dX3_statesOf_35 ?_
        refine mm_getR dX3_statesOf_36 fl_X3_51 jh.1 rfl ?_
        refine am_iload_n rfl dX3_statesOf_39 ?_
        refine am_ci (mm_V1 dX3_statesOf_40 in_X8_namesNothing mk_X3_231 im_X8_namesNothing sl_X8_namesNothing ⟨Nat.le_of_ble_eq_true rfl, Nat.le_of_ble_eq_true rfl⟩ rfl jh.2.2.2.2.2.1.1 (Nat.le_of_ble_eq_true rfl)) (c_namesNothing (v := (v : Int)) jh.2.2.2.2.2.1 hV2 (by omega)) ?_
        refine mm_beq (tgt := 51) dX3_statesOf_43 (by decide) (fun h43 => ?_) (fun h43 => ?_)
        · refine am_aload_n rfl dX3_statesOf_51 ?_
          refine mm_getR dX3_statesOf_52 fl_X3_51 jh.1 rfl ?_
          refine am_iload_n rfl dX3_statesOf_55 ?_
          refine am_ci (mm_V1 dX3_statesOf_56 in_X8_stateOf mk_X3_199 im_X8_stateOf sl_X8_stateOf ⟨Nat.le_of_ble_eq_true rfl, Nat.le_of_ble_eq_true rfl⟩ rfl jh.2.2.2.2.2.1.1 (Nat.le_of_ble_eq_true rfl)) (c_stateOf (v := (v : Int)) jh.2.2.2.2.2.1 hV2 (by omega)) ?_
          rw [Int.toNat_natCast] at h43
          first
            | rw [show iI 7 = iI (e : Int) from congrArg iI (by rw [he, st.1 h43])]
            | rw [show iI (ssO S2 94 (v : Int)) = iI (e : Int) from congrArg iI (by rw [he, st.2 h43])]
          refine mm_ishl dX3_statesOf_59 ⟨by omega, by rw [Int.toNat_natCast]; omega⟩ (by omega) ?_
          refine mm_ior dX3_statesOf_60 (by omega) ⟨by rw [Int.toNat_natCast]; omega, by rw [Int.toNat_natCast]; omega⟩ ?_
          rw [or_orB, Int.toNat_natCast]
          refine am_ist4 dX3_statesOf_61 (Nat.le_of_ble_eq_true rfl) (am_c1i _) ?_
          refine mm_inc5 dX3_statesOf_63 (Nat.le_of_ble_eq_true rfl) (am_c1i _) ?_
          refine am_goto (tgt := 6) dX3_statesOf_66 (by decide) ?_
          first
            | (refine ih (i + 1) (orB bits e) S2 (by omega) (by omega) hF12 hV2 (orB_lt (n := 8) hbR (by omega)) (fun j => ?_)
               rw [orB_bt hbR.1, hbt j, hms j]
               rw [hky] at h26 he
               constructor
               · rintro (z | z)
                 · exact Or.inl z
                 · exact Or.inr ⟨h26, by rw [← he, z]⟩
               · rintro (z | z)
                 · exact Or.inl z
                 · right; have := z.2; omega)
            | (refine ih (i + 1) bits S2 (by omega) (by omega) hF12 hV2 hbR (fun j => ?_)
               rw [hbt j, hms j]
               rw [hky] at h26
               constructor
               · exact Or.inl
               · rintro (z | z)
                 · exact z
                 · exact absurd z.1 h26)
        · refine mm_bipush dX3_statesOf_46 (by decide) ?_
          refine am_goto (tgt := 59) dX3_statesOf_48 (by decide) ?_
          rw [Int.toNat_natCast] at h43
          first
            | rw [show iI 7 = iI (e : Int) from congrArg iI (by rw [he, st.1 h43])]
            | rw [show iI (ssO S2 94 (v : Int)) = iI (e : Int) from congrArg iI (by rw [he, st.2 h43])]
          refine mm_ishl dX3_statesOf_59 ⟨by omega, by rw [Int.toNat_natCast]; omega⟩ (by omega) ?_
          refine mm_ior dX3_statesOf_60 (by omega) ⟨by rw [Int.toNat_natCast]; omega, by rw [Int.toNat_natCast]; omega⟩ ?_
          rw [or_orB, Int.toNat_natCast]
          refine am_ist4 dX3_statesOf_61 (Nat.le_of_ble_eq_true rfl) (am_c1i _) ?_
          refine mm_inc5 dX3_statesOf_63 (Nat.le_of_ble_eq_true rfl) (am_c1i _) ?_
          refine am_goto (tgt := 6) dX3_statesOf_66 (by decide) ?_
          first
            | (refine ih (i + 1) (orB bits e) S2 (by omega) (by omega) hF12 hV2 (orB_lt (n := 8) hbR (by omega)) (fun j => ?_)
               rw [orB_bt hbR.1, hbt j, hms j]
               rw [hky] at h26 he
               constructor
               · rintro (z | z)
                 · exact Or.inl z
                 · exact Or.inr ⟨h26, by rw [← he, z]⟩
               · rintro (z | z)
                 · exact Or.inl z
                 · right; have := z.2; omega)
            | (refine ih (i + 1) bits S2 (by omega) (by omega) hF12 hV2 hbR (fun j => ?_)
               rw [hbt j, hms j]
               rw [hky] at h26
               constructor
               · exact Or.inl
               · rintro (z | z)
                 · exact z
                 · exact absurd z.1 h26)
      · refine am_goto (tgt := 63) dX3_statesOf_29 (by decide) ?_
        refine mm_inc5 dX3_statesOf_63 (Nat.le_of_ble_eq_true rfl) (am_c1i _) ?_
        refine am_goto (tgt := 6) dX3_statesOf_66 (by decide) ?_
        first
          | (refine ih (i + 1) (orB bits e) S2 (by omega) (by omega) hF12 hV2 (orB_lt (n := 8) hbR (by omega)) (fun j => ?_)
             rw [orB_bt hbR.1, hbt j, hms j]
             rw [hky] at h26 he
             constructor
             · rintro (z | z)
               · exact Or.inl z
               · exact Or.inr ⟨h26, by rw [← he, z]⟩
             · rintro (z | z)
               · exact Or.inl z
               · right; have := z.2; omega)
          | (refine ih (i + 1) bits S2 (by omega) (by omega) hF12 hV2 hbR (fun j => ?_)
             rw [hbt j, hms j]
             rw [hky] at h26
             constructor
             · exact Or.inl
             · rintro (z | z)
               · exact z
               · exact absurd z.1 h26)
set_option maxRecDepth 100000 in
set_option maxHeartbeats 4000000 in
theorem c_statesOf {sh : List mm_H} {S : mm_S} {L : mm_L} {p1 p2 p3 n : Nat} (jh : jsH sh) (hpl : plS sh p1 p2 p3 n) (hn : (n : Int) < 1000000) (hQ : qsC S L p1 n) {tr tp v : Nat} (htr : tr < 6) (htp : tp < 25) (hv : v < 5) : am_E eX3_statesOf [.ref 85, .int (iI (tr : Int)), .int (iI (tp : Int)), .int (iI (v : Int))] (mm sh S L) (fun r0 M' => ∃ a, r0 = some (.int (iI a)) ∧ ∃ S', M' = mm sh S' L ∧ scF S S' 94 ∧ scV S' 94 ∧ (0 ≤ a ∧ a < 256) ∧ ∀ j, bt a j ↔ mayP (XC S L p1) tr tp v j) := by
  refine am_enter rfl rfl (Nat.le_of_ble_eq_true rfl) ?_
  refine mm_iconst dX3_statesOf_0 ?_
  refine am_ist4 dX3_statesOf_1 (Nat.le_of_ble_eq_true rfl) (am_c1i _) ?_
  refine mm_iconst dX3_statesOf_3 ?_
  refine am_ist5 dX3_statesOf_4 (Nat.le_of_ble_eq_true rfl) (am_c1i _) ?_
  exact l_states jh hpl hn hQ htr htp hv ((S 86 0).toNat + 1) 0 0 S (by omega) (by have := hQ.1; omega) (fun _ _ => rfl) hQ.2.2.2.2 (by omega) (fun j => ⟨fun z => absurd z bt_z, fun ⟨i, z, _⟩ => absurd z (Nat.not_lt_zero i)⟩)
