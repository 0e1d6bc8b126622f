/-! ===== whether two VARIABLES name one THING ===== -/
def smB (p : Int) (v w : Nat) : Prop := (unM p).1 v ≠ 0 ∧ (unM p).1 v = (unM p).1 w
def itP (X : XT) (r pl : Nat) (P : Int → Prop) : Prop := ∃ κ p, X κ pl p ∧ κ.2.1 = r ∧ P p
def itQ (S : mm_S) (L : mm_L) (p1 r pl N : Nat) (P : Int → Prop) : Prop := ∃ i : Nat, i < N ∧ ∃ (c : Nat) (x p : Int), enC S L p1 i c x pl p ∧ (keyC S c).2.1 = r ∧ P p
theorem itQ_s {S : mm_S} {L : mm_L} {p1 r pl N c : Nat} {x p : Int} (hk : ∀ c : Nat, (c : Int) < S 85 1 → ckR S c) {pl' : Nat} (he : enC S L p1 N c x pl' p) (P : Int → Prop) : itQ S L p1 r pl (N + 1) P ↔ itQ S L p1 r pl N P ∨ ((pl' = pl ∧ (keyC S c).2.1 = r) ∧ P p) := by
  constructor
  · rintro ⟨i, h1, c', x', p', h2, h3, h4⟩
    rcases Nat.lt_or_ge i N with z | z
    · exact Or.inl ⟨i, z, c', x', p', h2, h3, h4⟩
    · have : i = N := by omega
      subst this
      obtain ⟨e1, e2, e3, e4⟩ := en_fq hk he h2
      subst e1 e2 e3 e4
      exact Or.inr ⟨⟨rfl, h3⟩, h4⟩
  · rintro (⟨i, h1, h2⟩ | ⟨⟨h1, h2⟩, h3⟩)
    · exact ⟨i, by omega, h2⟩
    · subst h1
      exact ⟨N, by omega, c, x, p, he, h2, h3⟩
theorem itQ_e {S : mm_S} {L : mm_L} {p1 r pl : Nat} (h0 : 0 ≤ S 86 0) (P : Int → Prop) : itQ S L p1 r pl (S 86 0).toNat P ↔ itP (XC S L p1) r pl P := by
  constructor
  · rintro ⟨i, h1, c, x, p, h2, h3, h4⟩
    exact ⟨keyC S c, p, ⟨i, c, x, by omega, rfl, h2⟩, h3, h4⟩
  · rintro ⟨κ, p, ⟨i, c, x, y1, rfl, y3⟩, h3, h4⟩
    exact ⟨i, by omega, c, x, p, y3, h3, h4⟩
def oneR (T Y N : Prop) (a : Int) : Prop := (¬ T ∧ a = -1) ∨ (T ∧ ¬ Y ∧ a = 0) ∨ (T ∧ Y ∧ N ∧ a = 1) ∨ (T ∧ Y ∧ ¬ N ∧ a = 2)
theorem oneR_u {T Y N : Prop} {a b : Int} (h : oneR T Y N a) (h' : oneR T Y N b) : a = b := by
  rcases h with ⟨h1, h2⟩ | ⟨h1, h2, h3⟩ | ⟨h1, h2, h3, h4⟩ | ⟨h1, h2, h3, h4⟩ <;> rcases h' with ⟨g1, g2⟩ | ⟨g1, g2, g3⟩ | ⟨g1, g2, g3, g4⟩ | ⟨g1, g2, g3, g4⟩
  all_goals first
    | exact absurd h1 g1
    | exact absurd g1 h1
    | exact absurd h2 g2
    | exact absurd g2 h2
    | exact absurd h3 g3
    | exact absurd g3 h3
    | omega
theorem sc_sm {S : mm_S} {κ : kyT} {p : Int} (h : scR S 94 κ (unM p)) {v w : Nat} (hv : v < 5) (hw : w < 5) : (S (94 + 1) v ≠ -1 ∧ S (94 + 1) v = S (94 + 1) w) ↔ smB p v w := by
  have u := (h.1 v hv).1
  have e := h.2.1 v w hv hw
  unfold smB
  constructor
  · rintro ⟨z1, z2⟩
    exact ⟨fun q => z1 (u.mpr q), e.mp z2⟩
  · rintro ⟨z1, z2⟩
    exact ⟨fun q => z1 (u.mp q), e.mpr z2⟩
set_option maxRecDepth 100000 in
set_option maxHeartbeats 4000000 in
theorem l_same {sh : List mm_H} {S : mm_S} {L : mm_L} {p1 p2 p3 n : Nat} (jh : jsH sh) (hpl : plS sh p1 p2 p3 n) (hn : (n : Int) < 1000000) (hQ : qsC S L p1 n) {tr tp v w : Nat} (htr : tr < 6) (htp : tp < 25) (hv : v < 5) (hw : w < 5) : ∀ (q : Nat) (i : Nat) (al sm : Int) (S1 : mm_S), (S 86 0).toNat - i < q → ((i : Int) ≤ S 86 0) → (scF S S1 94) → (scV S1 94) → (0 ≤ sm ∧ sm ≤ al ∧ al ≤ i) → (al = 0 ↔ ¬ itQ S L p1 tr tp i (fun _ => True)) → (sm = 0 ↔ ¬ itQ S L p1 tr tp i (fun p => smB p v w)) → (sm = al ↔ ¬ itQ S L p1 tr tp i (fun p => ¬ smB p v w)) → am_AW eX3_sameThing (mm sh S1 L) 9 [some (.ref 85), some (.int (iI (tr : Int))), some (.int (iI (tp : Int))), some (.int (iI (v : Int))), some (.int (iI (w : Int))), some (.int (iI al)), some (.int (iI sm)), some (.int (iI (i : Int)))] [] (fun r0 M' => ∃ a, r0 = some (.int (iI a)) ∧ ∃ S', M' = mm sh S' L ∧ scF S S' 94 ∧ scV S' 94 ∧ oneR (itP (XC S L p1) tr tp (fun _ => True)) (itP (XC S L p1) tr tp (fun p => smB p v w)) (itP (XC S L p1) tr tp (fun p => ¬ smB p v w)) a) := by
  intro q
  induction q with
  | zero =>
    intro i al sm S1 hq
    exact absurd hq (Nat.not_lt_zero _)
  | succ q ih =>
    intro i al sm S1 hq hi hF hV hR hT hY hN
    have hsz := hQ.1
    have e86 : S1 86 0 = S 86 0 := by rw [hF 86 (by omega)]
    refine am_iload rfl dX3_sameThing_9 ?_
    refine am_aload_n rfl dX3_sameThing_11 ?_
    refine mm_getR dX3_sameThing_12 fl_X3_25 jh.1 rfl ?_
    refine mm_getI dX3_sameThing_15 fl_X3_75 hpl.1 rfl ?_
    refine mm_jge (tgt := 60) dX3_sameThing_18 (by decide) (by omega) (by rw [e86]; omega) (fun h18 => ?_) (fun h18 => ?_)
    · refine am_iload rfl dX3_sameThing_60 ?_
      refine mm_zne (tgt := 67) dX3_sameThing_62 (by decide) (by omega) (fun h62 => ?_) (fun h62 => ?_)
      · refine am_iload rfl dX3_sameThing_67 ?_
        refine mm_zne (tgt := 76) dX3_sameThing_69 (by decide) (by omega) (fun h69 => ?_) (fun h69 => ?_)
        · refine am_iload rfl dX3_sameThing_76 ?_
          refine am_iload rfl dX3_sameThing_78 ?_
          refine mm_jge (tgt := 87) dX3_sameThing_80 (by decide) (by omega) (by omega) (fun h80 => ?_) (fun h80 => ?_)
          · refine mm_iconst dX3_sameThing_87 ?_
            refine am_ireturn dX3_sameThing_88 rfl rfl ?_
            rw [show i = (S 86 0).toNat by omega, itQ_e hsz.1] at hT hY hN
            refine ⟨_, rfl, S1, rfl, hF, hV, ?_⟩
            have hYT : itP (XC S L p1) tr tp (fun p => smB p v w) → itP (XC S L p1) tr tp (fun _ => True) := fun ⟨κ, p, q1, q2, _⟩ => ⟨κ, p, q1, q2, trivial⟩
            unfold oneR
            first
              | exact Or.inl ⟨hT.mp (by omega), rfl⟩
              | exact Or.inr (Or.inl ⟨Classical.byContradiction (fun z => by have := hT.mpr z; omega), hY.mp (by omega), rfl⟩)
              | exact Or.inr (Or.inr (Or.inl ⟨Classical.byContradiction (fun z => by have := hT.mpr z; omega), Classical.byContradiction (fun z => by have := hY.mpr z; omega), Classical.byContradiction (fun z => by have := hN.mpr z; omega), rfl⟩))
              | exact Or.inr (Or.inr (Or.inr ⟨Classical.byContradiction (fun z => by have := hT.mpr z; omega), Classical.byContradiction (fun z => by have := hY.mpr z; omega), hN.mp (by omega), rfl⟩))
          · refine mm_iconst dX3_sameThing_83 ?_
            refine am_goto (tgt := 88) dX3_sameThing_84 (by decide) ?_
            refine am_ireturn dX3_sameThing_88 rfl rfl ?_
            rw [show i = (S 86 0).toNat by omega, itQ_e hsz.1] at hT hY hN
            refine ⟨_, rfl, S1, rfl, hF, hV, ?_⟩
            have hYT : itP (XC S L p1) tr tp (fun p => smB p v w) → itP (XC S L p1) tr tp (fun _ => True) := fun ⟨κ, p, q1, q2, _⟩ => ⟨κ, p, q1, q2, trivial⟩
            unfold oneR
            first
              | exact Or.inl ⟨hT.mp (by omega), rfl⟩
              | exact Or.inr (Or.inl ⟨Classical.byContradiction (fun z => by have := hT.mpr z; omega), hY.mp (by omega), rfl⟩)
              | exact Or.inr (Or.inr (Or.inl ⟨Classical.byContradiction (fun z => by have := hT.mpr z; omega), Classical.byContradiction (fun z => by have := hY.mpr z; omega), Classical.byContradiction (fun z => by have := hN.mpr z; omega), rfl⟩))
              | exact Or.inr (Or.inr (Or.inr ⟨Classical.byContradiction (fun z => by have := hT.mpr z; omega), Classical.byContradiction (fun z => by have := hY.mpr z; omega), hN.mp (by omega), rfl⟩))
        · refine mm_iconst dX3_sameThing_72 ?_
          refine am_goto (tgt := 88) dX3_sameThing_73 (by decide) ?_
          refine am_ireturn dX3_sameThing_88 rfl rfl ?_
          rw [show i = (S 86 0).toNat by omega, itQ_e hsz.1] at hT hY hN
          refine ⟨_, rfl, S1, rfl, hF, hV, ?_⟩
          have hYT : itP (XC S L p1) tr tp (fun p => smB p v w) → itP (XC S L p1) tr tp (fun _ => True) := fun ⟨κ, p, q1, q2, _⟩ => ⟨κ, p, q1, q2, trivial⟩
          unfold oneR
          first
            | exact Or.inl ⟨hT.mp (by omega), rfl⟩
            | exact Or.inr (Or.inl ⟨Classical.byContradiction (fun z => by have := hT.mpr z; omega), hY.mp (by omega), rfl⟩)
            | exact Or.inr (Or.inr (Or.inl ⟨Classical.byContradiction (fun z => by have := hT.mpr z; omega), Classical.byContradiction (fun z => by have := hY.mpr z; omega), Classical.byContradiction (fun z => by have := hN.mpr z; omega), rfl⟩))
            | exact Or.inr (Or.inr (Or.inr ⟨Classical.byContradiction (fun z => by have := hT.mpr z; omega), Classical.byContradiction (fun z => by have := hY.mpr z; omega), hN.mp (by omega), rfl⟩))
      · refine mm_iconst dX3_sameThing_65 ?_
        refine am_ireturn dX3_sameThing_66 rfl rfl ?_
        rw [show i = (S 86 0).toNat by omega, itQ_e hsz.1] at hT hY hN
        refine ⟨_, rfl, S1, rfl, hF, hV, ?_⟩
        have hYT : itP (XC S L p1) tr tp (fun p => smB p v w) → itP (XC S L p1) tr tp (fun _ => True) := fun ⟨κ, p, q1, q2, _⟩ => ⟨κ, p, q1, q2, trivial⟩
        unfold oneR
        first
          | exact Or.inl ⟨hT.mp (by omega), rfl⟩
          | exact Or.inr (Or.inl ⟨Classical.byContradiction (fun z => by have := hT.mpr z; omega), hY.mp (by omega), rfl⟩)
          | exact Or.inr (Or.inr (Or.inl ⟨Classical.byContradiction (fun z => by have := hT.mpr z; omega), Classical.byContradiction (fun z => by have := hY.mpr z; omega), Classical.byContradiction (fun z => by have := hN.mpr z; omega), rfl⟩))
          | exact Or.inr (Or.inr (Or.inr ⟨Classical.byContradiction (fun z => by have := hT.mpr z; omega), Classical.byContradiction (fun z => by have := hY.mpr z; omega), hN.mp (by omega), rfl⟩))
    · have hi6 : (i : Int) < S 86 0 := by omega
      obtain ⟨c, x, pl, p, hen, hk5⟩ := hQ.2.2.2.1 i hi6
      have hen1 := sc_en hF hen
      have hky := sc_key hF c
      have hms := fun P => itQ_s (r := tr) (pl := tp) hQ.2.2.1 hen P
      refine am_aload_n rfl dX3_sameThing_21 ?_
      refine am_iload rfl dX3_sameThing_22 ?_
      refine am_iload_n rfl dX3_sameThing_24 ?_
      refine am_iload_n rfl dX3_sameThing_25 ?_
      refine am_cxb (mm_V3 dX3_sameThing_26 in_X3_isAt mk_X3_227 im_X3_isAt sl_X3_isAt ⟨Nat.le_of_ble_eq_true rfl, Nat.le_of_ble_eq_true rfl⟩ rfl jh.1 (Nat.le_of_ble_eq_true rfl)) (c_isAt (i := i) (tr := tr) (tp := tp) jh hpl hn (qs_sc hF hV hQ) (by omega) hen1 htr htp) (fun M1 hqq => ?_)
      obtain ⟨S2, rfl, hF2, hV2, hR2⟩ := hqq
      have hF12 : scF S S2 94 := fun b hb => (hF2 b hb).trans (hF b hb)
      refine mm_bne (tgt := 35) dX3_sameThing_29 (by decide) (fun h29 => ?_) (fun h29 => ?_)
      · have hss := sc_sm (hR2 h29) hv hw
        rw [hky] at h29
        refine mm_inc5 dX3_sameThing_35 (Nat.le_of_ble_eq_true rfl) (am_c1i _) ?_
        refine am_aload_n rfl dX3_sameThing_38 ?_
        refine mm_getR dX3_sameThing_39 fl_X3_51 jh.1 rfl ?_
        refine am_iload_n rfl dX3_sameThing_42 ?_
        refine am_iload rfl dX3_sameThing_43 ?_
        refine am_ci (mm_V2 dX3_sameThing_45 in_X8_nameOne mk_X3_234 im_X8_nameOne sl_X8_nameOne ⟨Nat.le_of_ble_eq_true rfl, Nat.le_of_ble_eq_true rfl⟩ rfl jh.2.2.2.2.2.1.1 (Nat.le_of_ble_eq_true rfl)) (c_nameOne (v := (v : Int)) (w := (w : Int)) jh.2.2.2.2.2.1 hV2 (by omega) (by omega)) ?_
        refine mm_beq (tgt := 54) dX3_sameThing_48 (by decide) (fun h48 => ?_) (fun h48 => ?_)
        · refine mm_inc7 dX3_sameThing_54 (Nat.le_of_ble_eq_true rfl) (am_c1i _) ?_
          refine am_goto (tgt := 9) dX3_sameThing_57 (by decide) ?_
          first
            | (have h48' : smB p v w := by simp only [Int.toNat_natCast] at h48; exact hss.mp h48
               refine ih (i + 1) (al + 1) (sm + 1) S2 (by omega) (by omega) hF12 hV2 (by omega) ⟨fun z => by exfalso; omega, fun z => absurd ((hms _).mpr (Or.inr ⟨h29, trivial⟩)) z⟩ ⟨fun z => by exfalso; omega, fun z => absurd ((hms _).mpr (Or.inr ⟨h29, h48'⟩)) z⟩ ⟨fun z q => ?_, fun z => ?_⟩
               · rcases (hms _).mp q with y | y
                 · exact hN.mp (by omega) y
                 · exact y.2 h48'
               · have := hN.mpr (fun q => z ((hms _).mpr (Or.inl q)))
                 omega)
            | (have h48' : ¬ smB p v w := fun q => h48 (by simp only [Int.toNat_natCast]; exact hss.mpr q)
               refine ih (i + 1) (al + 1) sm S2 (by omega) (by omega) hF12 hV2 (by omega) ⟨fun z => by exfalso; omega, fun z => absurd ((hms _).mpr (Or.inr ⟨h29, trivial⟩)) z⟩ ⟨fun z q => ?_, fun z => hY.mpr (fun q => z ((hms _).mpr (Or.inl q)))⟩ ⟨fun z => by exfalso; omega, fun z => absurd ((hms _).mpr (Or.inr ⟨h29, h48'⟩)) z⟩
               rcases (hms _).mp q with y | y
               · exact hY.mp z y
               · exact h48' y.2)
            | (rw [hky] at h29
               have hno : ∀ P : Int → Prop, itQ S L p1 tr tp (i + 1) P ↔ itQ S L p1 tr tp i P := fun P => by
                 rw [hms P]
                 exact ⟨fun q => by rcases q with y | y; exact y; exact absurd y.1 h29, Or.inl⟩
               refine ih (i + 1) al sm S2 (by omega) (by omega) hF12 hV2 (by omega) (by rw [hno]; exact hT) (by rw [hno]; exact hY) (by rw [hno]; exact hN))
        · refine mm_inc6 dX3_sameThing_51 (Nat.le_of_ble_eq_true rfl) (am_c1i _) ?_
          refine mm_inc7 dX3_sameThing_54 (Nat.le_of_ble_eq_true rfl) (am_c1i _) ?_
          refine am_goto (tgt := 9) dX3_sameThing_57 (by decide) ?_
          first
            | (have h48' : smB p v w := by simp only [Int.toNat_natCast] at h48; exact hss.mp h48
               refine ih (i + 1) (al + 1) (sm + 1) S2 (by omega) (by omega) hF12 hV2 (by omega) ⟨fun z => by exfalso; omega, fun z => absurd ((hms _).mpr (Or.inr ⟨h29, trivial⟩)) z⟩ ⟨fun z => by exfalso; omega, fun z => absurd ((hms _).mpr (Or.inr ⟨h29, h48'⟩)) z⟩ ⟨fun z q => ?_, fun z => ?_⟩
               · rcases (hms _).mp q with y | y
                 · exact hN.mp (by omega) y
                 · exact y.2 h48'
               · have := hN.mpr (fun q => z ((hms _).mpr (Or.inl q)))
                 omega)
            | (have h48' : ¬ smB p v w := fun q => h48 (by simp only [Int.toNat_natCast]; exact hss.mpr q)
               refine ih (i + 1) (al + 1) sm S2 (by omega) (by omega) hF12 hV2 (by omega) ⟨fun z => by exfalso; omega, fun z => absurd ((hms _).mpr (Or.inr ⟨h29, trivial⟩)) z⟩ ⟨fun z q => ?_, fun z => hY.mpr (fun q => z ((hms _).mpr (Or.inl q)))⟩ ⟨fun z => by exfalso; omega, fun z => absurd ((hms _).mpr (Or.inr ⟨h29, h48'⟩)) z⟩
               rcases (hms _).mp q with y | y
               · exact hY.mp z y
               · exact h48' y.2)
            | (rw [hky] at h29
               have hno : ∀ P : Int → Prop, itQ S L p1 tr tp (i + 1) P ↔ itQ S L p1 tr tp i P := fun P => by
                 rw [hms P]
                 exact ⟨fun q => by rcases q with y | y; exact y; exact absurd y.1 h29, Or.inl⟩
               refine ih (i + 1) al sm S2 (by omega) (by omega) hF12 hV2 (by omega) (by rw [hno]; exact hT) (by rw [hno]; exact hY) (by rw [hno]; exact hN))
      · refine am_goto (tgt := 54) dX3_sameThing_32 (by decide) ?_
        refine mm_inc7 dX3_sameThing_54 (Nat.le_of_ble_eq_true rfl) (am_c1i _) ?_
        refine am_goto (tgt := 9) dX3_sameThing_57 (by decide) ?_
        first
          | (have h48' : smB p v w := by simp only [Int.toNat_natCast] at h48; exact hss.mp h48
             refine ih (i + 1) (al + 1) (sm + 1) S2 (by omega) (by omega) hF12 hV2 (by omega) ⟨fun z => by exfalso; omega, fun z => absurd ((hms _).mpr (Or.inr ⟨h29, trivial⟩)) z⟩ ⟨fun z => by exfalso; omega, fun z => absurd ((hms _).mpr (Or.inr ⟨h29, h48'⟩)) z⟩ ⟨fun z q => ?_, fun z => ?_⟩
             · rcases (hms _).mp q with y | y
               · exact hN.mp (by omega) y
               · exact y.2 h48'
             · have := hN.mpr (fun q => z ((hms _).mpr (Or.inl q)))
               omega)
          | (have h48' : ¬ smB p v w := fun q => h48 (by simp only [Int.toNat_natCast]; exact hss.mpr q)
             refine ih (i + 1) (al + 1) sm S2 (by omega) (by omega) hF12 hV2 (by omega) ⟨fun z => by exfalso; omega, fun z => absurd ((hms _).mpr (Or.inr ⟨h29, trivial⟩)) z⟩ ⟨fun z q => ?_, fun z => hY.mpr (fun q => z ((hms _).mpr (Or.inl q)))⟩ ⟨fun z => by exfalso; omega, fun z => absurd ((hms _).mpr (Or.inr ⟨h29, h48'⟩)) z⟩
             rcases (hms _).mp q with y | y
             · exact hY.mp z y
             · exact h48' y.2)
          | (rw [hky] at h29
             have hno : ∀ P : Int → Prop, itQ S L p1 tr tp (i + 1) P ↔ itQ S L p1 tr tp i P := fun P => by
               rw [hms P]
               exact ⟨fun q => by rcases q with y | y; exact y; exact absurd y.1 h29, Or.inl⟩
             refine ih (i + 1) al sm S2 (by omega) (by omega) hF12 hV2 (by omega) (by rw [hno]; exact hT) (by rw [hno]; exact hY) (by rw [hno]; exact hN))
set_option maxRecDepth 100000 in
set_option maxHeartbeats 4000000 in
theorem c_sameThing {sh : List mm_H} {S : mm_S} {L : mm_L} {p1 p2 p3 n : Nat} (jh : jsH sh) (hpl : plS sh p1 p2 p3 n) (hn : (n : Int) < 1000000) (hQ : qsC S L p1 n) {tr tp v w : Nat} (htr : tr < 6) (htp : tp < 25) (hv : v < 5) (hw : w < 5) : am_E eX3_sameThing [.ref 85, .int (iI (tr : Int)), .int (iI (tp : Int)), .int (iI (v : Int)), .int (iI (w : Int))] (mm sh S L) (fun r0 M' => ∃ a, r0 = some (.int (iI a)) ∧ ∃ S', M' = mm sh S' L ∧ scF S S' 94 ∧ scV S' 94 ∧ oneR (itP (XC S L p1) tr tp (fun _ => True)) (itP (XC S L p1) tr tp (fun p => smB p v w)) (itP (XC S L p1) tr tp (fun p => ¬ smB p v w)) a) := by
  refine am_enter rfl rfl (Nat.le_of_ble_eq_true rfl) ?_
  refine mm_iconst dX3_sameThing_0 ?_
  refine am_ist5 dX3_sameThing_1 (Nat.le_of_ble_eq_true rfl) (am_c1i _) ?_
  refine mm_iconst dX3_sameThing_3 ?_
  refine am_ist6 dX3_sameThing_4 (Nat.le_of_ble_eq_true rfl) (am_c1i _) ?_
  refine mm_iconst dX3_sameThing_6 ?_
  refine am_ist7 dX3_sameThing_7 (Nat.le_of_ble_eq_true rfl) (am_c1i _) ?_
  have h0 : ∀ P : Int → Prop, ¬ itQ S L p1 tr tp 0 P := fun P ⟨i, z, _⟩ => absurd z (Nat.not_lt_zero i)
  exact l_same jh hpl hn hQ htr htp hv hw ((S 86 0).toNat + 1) 0 0 0 S (by omega) (by have := hQ.1; omega) (fun _ _ => rfl) hQ.2.2.2.2 (by omega) ⟨fun _ => h0 _, fun _ => rfl⟩ ⟨fun _ => h0 _, fun _ => rfl⟩ ⟨fun _ => h0 _, fun _ => rfl⟩
set_option maxRecDepth 100000 in
set_option maxHeartbeats 4000000 in
theorem c_paperOf {sh : List mm_H} {S : mm_S} {L : mm_L} (jh : jsH sh) {q : Int} (hq : 0 ≤ q ∧ q < 433) (h91 : -1 ≤ S 91 q.toNat ∧ S 91 q.toNat < 40) : am_E eX3_paperOf [.ref 85, .int (iI q)] (mm sh S L) (fun r M' => r = some (.int (iI (if S 91 q.toNat = -1 then -1 else S (98 + (S 91 q.toNat).toNat) 4))) ∧ M' = mm sh S L) := by
  refine am_enter rfl rfl (Nat.le_of_ble_eq_true rfl) ?_
  refine am_aload_n rfl dX3_paperOf_0 ?_
  refine mm_getR dX3_paperOf_1 fl_X3_35 jh.1 rfl ?_
  refine am_iload_n rfl dX3_paperOf_4 ?_
  refine mm_ial dX3_paperOf_5 jh.2.2.1 (by omega) ?_
  refine mm_iconst dX3_paperOf_6 ?_
  refine mm_jne (tgt := 14) dX3_paperOf_7 (by decide) (by omega) (by omega) (fun h7 => ?_) (fun h7 => ?_)
  · refine am_aload_n rfl dX3_paperOf_14 ?_
    refine mm_getR dX3_paperOf_15 fl_X3_31 jh.1 rfl ?_
    refine am_aload_n rfl dX3_paperOf_18 ?_
    refine mm_getR dX3_paperOf_19 fl_X3_35 jh.1 rfl ?_
    refine am_iload_n rfl dX3_paperOf_22 ?_
    refine mm_ial dX3_paperOf_23 jh.2.2.1 (by omega) ?_
    refine mm_aal dX3_paperOf_24 (fun _ => rfl) jh.2.1 ⟨by omega, by omega, by omega⟩ (show caArr _ = some (98 + (S 91 q.toNat).toNat) from if_pos (by omega)) ?_
    refine mm_getI dX3_paperOf_25 fl_X3_208 (jh.2.2.2.2.2.2.1 (S 91 q.toNat).toNat (by omega)) rfl ?_
    refine am_ireturn dX3_paperOf_28 rfl rfl ?_
    first
      | exact ⟨by rw [if_pos (by omega)], rfl⟩
      | exact ⟨by rw [if_neg (by omega)], rfl⟩
  · refine mm_iconst dX3_paperOf_10 ?_
    refine am_goto (tgt := 28) dX3_paperOf_11 (by decide) ?_
    refine am_ireturn dX3_paperOf_28 rfl rfl ?_
    first
      | exact ⟨by rw [if_pos (by omega)], rfl⟩
      | exact ⟨by rw [if_neg (by omega)], rfl⟩
set_option maxRecDepth 100000 in
set_option maxHeartbeats 4000000 in
theorem c_may {sh : List mm_H} {S : mm_S} {L : mm_L} {p1 p2 p3 n : Nat} (hx0 : swS sh) (hb : bkS sh) (hbv : bkV S) (jh : jsH sh) (hpl : plS sh p1 p2 p3 n) (hn : (n : Int) < 1000000) (hQ : qsC S L p1 n) {r i v : Int} (hr : Rg r) (hi : Rg i) (hv : Rg v) : am_E eX9_may [.ref 0, .int (iI r), .int (iI i), .int (iI v)] (mm sh S L) (fun r0 M' => ∃ a, r0 = some (.int (iI a)) ∧ ∃ S', M' = mm sh S' L ∧ scF S S' 94 ∧ scV S' 94 ∧ ((¬ (hasPl S r i ∧ (0 ≤ v ∧ v < 5)) ∧ a = -2) ∨ ((hasPl S r i ∧ (0 ≤ v ∧ v < 5)) ∧ (0 ≤ a ∧ a < 256) ∧ ∀ j, bt a j ↔ mayP (XC S L p1) r.toNat i.toNat v.toNat j))) := by
  obtain ⟨hB1, hB2, hB3, hB4, hB5⟩ := id hb
  refine am_enter rfl rfl (Nat.le_of_ble_eq_true rfl) ?_
  refine am_aload_n rfl dX9_may_0 ?_
  refine mm_getR dX9_may_1 fl_X9_10 hx0 rfl ?_
  refine am_iload_n rfl dX9_may_4 ?_
  refine am_iload_n rfl dX9_may_5 ?_
  refine am_ci (mm_V2 dX9_may_6 in_X0_hasPlace mk_X9_162 im_X0_hasPlace sl_X0_hasPlace ⟨Nat.le_of_ble_eq_true rfl, Nat.le_of_ble_eq_true rfl⟩ rfl hB1 (Nat.le_of_ble_eq_true rfl)) (c_hasPlace hb hbv hr hi) ?_
  refine mm_beq (tgt := 19) dX9_may_9 (by decide) (fun h9 => ?_) (fun h9 => ?_)
  · refine mm_bipush dX9_may_19 (by decide) ?_
    refine am_ireturn dX9_may_21 rfl rfl ?_
    exact ⟨-2, rfl, S, rfl, fun _ _ => rfl, hQ.2.2.2.2, Or.inl ⟨fun z => by first | exact h9 z.1 | exact h16 z.2, rfl⟩⟩
  · refine am_iload_n rfl dX9_may_12 ?_
    refine am_ci (mm_S1 dX9_may_13 in_X9_isVariable mk_X9_165 st_X9_isVariable ⟨Nat.le_of_ble_eq_true rfl, Nat.le_of_ble_eq_true rfl⟩ (Nat.le_of_ble_eq_true rfl)) (c_isVariable hv) ?_
    refine mm_bne (tgt := 22) dX9_may_16 (by decide) (fun h16 => ?_) (fun h16 => ?_)
    · refine am_aload_n rfl dX9_may_22 ?_
      refine mm_getR dX9_may_23 fl_X9_26 hx0 rfl ?_
      refine am_iload_n rfl dX9_may_26 ?_
      refine am_iload_n rfl dX9_may_27 ?_
      refine am_iload_n rfl dX9_may_28 ?_
      have hN24 := hbv.2.2.2 r.toNat (by have := hbv.2.1; have := h9.1; omega)
      have hr6 : r < 6 := by have := hbv.2.1; have := h9.1; omega
      have hi24 : i < 25 := by have := h9.2; omega
      rw [show iI r = iI ((r.toNat : Nat) : Int) from congrArg iI (by have := h9.1; omega), show iI i = iI ((i.toNat : Nat) : Int) from congrArg iI (by have := h9.2; omega), show iI v = iI ((v.toNat : Nat) : Int) from congrArg iI (by omega)]
      refine am_cxI (mm_V3 dX9_may_29 in_X3_statesOf mk_X9_168 im_X3_statesOf sl_X3_statesOf ⟨Nat.le_of_ble_eq_true rfl, Nat.le_of_ble_eq_true rfl⟩ rfl jh.1 (Nat.le_of_ble_eq_true rfl)) (c_statesOf (tr := r.toNat) (tp := i.toNat) (v := v.toNat) jh hpl hn hQ (by have := h9.1; omega) (by have := h9.2; omega) (by omega)) (fun a M1 hqq => ?_)
      obtain ⟨S2, rfl, hF2, hV2, ha, hbt⟩ := hqq
      refine am_ireturn dX9_may_32 rfl rfl ?_
      exact ⟨a, rfl, S2, rfl, hF2, hV2, Or.inr ⟨⟨h9, h16⟩, ha, hbt⟩⟩
    · refine mm_bipush dX9_may_19 (by decide) ?_
      refine am_ireturn dX9_may_21 rfl rfl ?_
      exact ⟨-2, rfl, S, rfl, fun _ _ => rfl, hQ.2.2.2.2, Or.inl ⟨fun z => by first | exact h9 z.1 | exact h16 z.2, rfl⟩⟩
set_option maxRecDepth 100000 in
set_option maxHeartbeats 4000000 in
theorem c_one {sh : List mm_H} {S : mm_S} {L : mm_L} {p1 p2 p3 n : Nat} (hx0 : swS sh) (hb : bkS sh) (hbv : bkV S) (jh : jsH sh) (hpl : plS sh p1 p2 p3 n) (hn : (n : Int) < 1000000) (hQ : qsC S L p1 n) {r i v w : Int} (hr : Rg r) (hi : Rg i) (hv : Rg v) (hw : Rg w) : am_E eX9_one [.ref 0, .int (iI r), .int (iI i), .int (iI v), .int (iI w)] (mm sh S L) (fun r0 M' => ∃ a, r0 = some (.int (iI a)) ∧ ∃ S', M' = mm sh S' L ∧ scF S S' 94 ∧ scV S' 94 ∧ ((¬ (hasPl S r i ∧ (0 ≤ v ∧ v < 5) ∧ (0 ≤ w ∧ w < 5)) ∧ a = -2) ∨ ((hasPl S r i ∧ (0 ≤ v ∧ v < 5) ∧ (0 ≤ w ∧ w < 5)) ∧ oneR (itP (XC S L p1) r.toNat i.toNat (fun _ => True)) (itP (XC S L p1) r.toNat i.toNat (fun p => smB p v.toNat w.toNat)) (itP (XC S L p1) r.toNat i.toNat (fun p => ¬ smB p v.toNat w.toNat)) a))) := by
  obtain ⟨hB1, hB2, hB3, hB4, hB5⟩ := id hb
  refine am_enter rfl rfl (Nat.le_of_ble_eq_true rfl) ?_
  refine am_aload_n rfl dX9_one_0 ?_
  refine mm_getR dX9_one_1 fl_X9_10 hx0 rfl ?_
  refine am_iload_n rfl dX9_one_4 ?_
  refine am_iload_n rfl dX9_one_5 ?_
  refine am_ci (mm_V2 dX9_one_6 in_X0_hasPlace mk_X9_162 im_X0_hasPlace sl_X0_hasPlace ⟨Nat.le_of_ble_eq_true rfl, Nat.le_of_ble_eq_true rfl⟩ rfl hB1 (Nat.le_of_ble_eq_true rfl)) (c_hasPlace hb hbv hr hi) ?_
  refine mm_beq (tgt := 27) dX9_one_9 (by decide) (fun h9 => ?_) (fun h9 => ?_)
  · refine mm_bipush dX9_one_27 (by decide) ?_
    refine am_ireturn dX9_one_29 rfl rfl ?_
    exact ⟨-2, rfl, S, rfl, fun _ _ => rfl, hQ.2.2.2.2, Or.inl ⟨fun z => by first | exact h9 z.1 | exact h16 z.2.1 | exact h24 z.2.2, rfl⟩⟩
  · refine am_iload_n rfl dX9_one_12 ?_
    refine am_ci (mm_S1 dX9_one_13 in_X9_isVariable mk_X9_165 st_X9_isVariable ⟨Nat.le_of_ble_eq_true rfl, Nat.le_of_ble_eq_true rfl⟩ (Nat.le_of_ble_eq_true rfl)) (c_isVariable hv) ?_
    refine mm_beq (tgt := 27) dX9_one_16 (by decide) (fun h16 => ?_) (fun h16 => ?_)
    · refine mm_bipush dX9_one_27 (by decide) ?_
      refine am_ireturn dX9_one_29 rfl rfl ?_
      exact ⟨-2, rfl, S, rfl, fun _ _ => rfl, hQ.2.2.2.2, Or.inl ⟨fun z => by first | exact h9 z.1 | exact h16 z.2.1 | exact h24 z.2.2, rfl⟩⟩
    · refine am_iload rfl dX9_one_19 ?_
      refine am_ci (mm_S1 dX9_one_21 in_X9_isVariable mk_X9_165 st_X9_isVariable ⟨Nat.le_of_ble_eq_true rfl, Nat.le_of_ble_eq_true rfl⟩ (Nat.le_of_ble_eq_true rfl)) (c_isVariable hw) ?_
      refine mm_bne (tgt := 30) dX9_one_24 (by decide) (fun h24 => ?_) (fun h24 => ?_)
      · refine am_aload_n rfl dX9_one_30 ?_
        refine mm_getR dX9_one_31 fl_X9_26 hx0 rfl ?_
        refine am_iload_n rfl dX9_one_34 ?_
        refine am_iload_n rfl dX9_one_35 ?_
        refine am_iload_n rfl dX9_one_36 ?_
        refine am_iload rfl dX9_one_37 ?_
        have hN24 := hbv.2.2.2 r.toNat (by have := hbv.2.1; have := h9.1; omega)
        have hr6 : r < 6 := by have := hbv.2.1; have := h9.1; omega
        have hi24 : i < 25 := by have := h9.2; omega
        rw [show iI r = iI ((r.toNat : Nat) : Int) from congrArg iI (by have := h9.1; omega), show iI i = iI ((i.toNat : Nat) : Int) from congrArg iI (by have := h9.2; omega), show iI v = iI ((v.toNat : Nat) : Int) from congrArg iI (by omega), show iI w = iI ((w.toNat : Nat) : Int) from congrArg iI (by omega)]
        refine am_cxI (mm_V4 dX9_one_39 in_X3_sameThing mk_X9_172 im_X3_sameThing sl_X3_sameThing ⟨Nat.le_of_ble_eq_true rfl, Nat.le_of_ble_eq_true rfl⟩ rfl jh.1 (Nat.le_of_ble_eq_true rfl)) (c_sameThing (tr := r.toNat) (tp := i.toNat) (v := v.toNat) (w := w.toNat) jh hpl hn hQ (by have := h9.1; omega) (by have := h9.2; omega) (by omega) (by omega)) (fun a M1 hqq => ?_)
        obtain ⟨S2, rfl, hF2, hV2, ho⟩ := hqq
        refine am_ireturn dX9_one_42 rfl rfl ?_
        exact ⟨a, rfl, S2, rfl, hF2, hV2, Or.inr ⟨⟨h9, h16, h24⟩, ho⟩⟩
      · refine mm_bipush dX9_one_27 (by decide) ?_
        refine am_ireturn dX9_one_29 rfl rfl ?_
        exact ⟨-2, rfl, S, rfl, fun _ _ => rfl, hQ.2.2.2.2, Or.inl ⟨fun z => by first | exact h9 z.1 | exact h16 z.2.1 | exact h24 z.2.2, rfl⟩⟩
/-- what paper() tells -/
def ppC (S : mm_S) (r : Int) (g : Prop) [Decidable g] (k s : Int) : Int := if S 91 (((b2 g * 6 + r) * 6 + k) * 6 + s).toNat = -1 then -1 else S (98 + (S 91 (((b2 g * 6 + r) * 6 + k) * 6 + s).toNat).toNat) 4
set_option maxRecDepth 100000 in
set_option maxHeartbeats 4000000 in
theorem c_paper {sh : List mm_H} {S : mm_S} {L : mm_L} (hx0 : swS sh) (hb : bkS sh) (hbv : bkV S) (jh : jsH sh) (h91 : ∀ q, q < 433 → -1 ≤ S 91 q ∧ S 91 q < 40) {r k s : Int} {g : Prop} [Decidable g] (hr : Rg r) (hk : Rg k) (hs : Rg s) : am_E eX9_paper [.ref 0, .int (iI r), .int (iI (b2 g)), .int (iI k), .int (iI s)] (mm sh S L) (fun r' M' => r' = some (.int (iI (if hasR S r ∧ hasSt S k s then ppC S r g k s else -2))) ∧ M' = mm sh S L) := by
  obtain ⟨hB1, hB2, hB3, hB4, hB5⟩ := id hb
  refine am_enter rfl rfl (Nat.le_of_ble_eq_true rfl) ?_
  refine am_aload_n rfl dX9_paper_0 ?_
  refine mm_getR dX9_paper_1 fl_X9_10 hx0 rfl ?_
  refine am_iload_n rfl dX9_paper_4 ?_
  refine am_ci (mm_V1 dX9_paper_5 in_X0_hasRoutine mk_X9_104 im_X0_hasRoutine sl_X0_hasRoutine ⟨Nat.le_of_ble_eq_true rfl, Nat.le_of_ble_eq_true rfl⟩ rfl hB1 (Nat.le_of_ble_eq_true rfl)) (c_hasRoutine hb hbv hr) ?_
  refine mm_beq (tgt := 24) dX9_paper_8 (by decide) (fun h8 => ?_) (fun h8 => ?_)
  · refine mm_bipush dX9_paper_24 (by decide) ?_
    refine am_ireturn dX9_paper_26 rfl rfl ?_
    exact ⟨by rw [if_neg (fun z => by first | exact h8 z.1 | exact h21 z.2)], rfl⟩
  · refine am_aload_n rfl dX9_paper_11 ?_
    refine mm_getR dX9_paper_12 fl_X9_10 hx0 rfl ?_
    refine am_iload_n rfl dX9_paper_15 ?_
    refine am_iload rfl dX9_paper_16 ?_
    refine am_ci (mm_V2 dX9_paper_18 in_X0_hasState mk_X9_77 im_X0_hasState sl_X0_hasState ⟨Nat.le_of_ble_eq_true rfl, Nat.le_of_ble_eq_true rfl⟩ rfl hB1 (Nat.le_of_ble_eq_true rfl)) (c_hasState hb hbv hk hs) ?_
    refine mm_bne (tgt := 27) dX9_paper_21 (by decide) (fun h21 => ?_) (fun h21 => ?_)
    · have hv1 := hbv.1
      have hv2 := hbv.2.1
      have hkk := hbv.2.2.1 k.toNat (by have := h21.1; omega)
      have hg2 := b2_R g
      refine am_aload_n rfl dX9_paper_27 ?_
      refine mm_getR dX9_paper_28 fl_X9_26 hx0 rfl ?_
      refine am_iload_n rfl dX9_paper_31 ?_
      refine am_iload_n rfl dX9_paper_32 ?_
      refine mm_beq (tgt := 40) dX9_paper_33 (by decide) (fun h33 => ?_) (fun h33 => ?_)
      · refine mm_iconst dX9_paper_40 ?_
        first
          | rw [show iI 1 = iI (b2 g) from congrArg iI (b2_t h33).symm]
          | rw [show iI 0 = iI (b2 g) from congrArg iI (b2_f h33).symm]
        refine am_iload_n rfl dX9_paper_41 ?_
        refine am_iload rfl dX9_paper_42 ?_
        refine am_ci (mm_S4 dX9_paper_44 in_X9_caseCode mk_X9_176 st_X9_caseCode ⟨Nat.le_of_ble_eq_true rfl, Nat.le_of_ble_eq_true rfl⟩ (Nat.le_of_ble_eq_true rfl)) (c_caseCode) ?_
        refine am_ci (mm_V1 dX9_paper_47 in_X3_paperOf mk_X9_179 im_X3_paperOf sl_X3_paperOf ⟨Nat.le_of_ble_eq_true rfl, Nat.le_of_ble_eq_true rfl⟩ rfl jh.1 (Nat.le_of_ble_eq_true rfl)) (c_paperOf jh (by have := h21.1; have := h21.2; have := hkk.1; omega) (h91 _ (by have := h21.1; have := h21.2; have := hkk.1; omega))) ?_
        refine am_ireturn dX9_paper_50 rfl rfl ?_
        exact ⟨by rw [if_pos (show hasR S r ∧ hasSt S k s from ⟨h8, h21⟩)]; rfl, rfl⟩
      · refine mm_iconst dX9_paper_36 ?_
        refine am_goto (tgt := 41) dX9_paper_37 (by decide) ?_
        first
          | rw [show iI 1 = iI (b2 g) from congrArg iI (b2_t h33).symm]
          | rw [show iI 0 = iI (b2 g) from congrArg iI (b2_f h33).symm]
        refine am_iload_n rfl dX9_paper_41 ?_
        refine am_iload rfl dX9_paper_42 ?_
        refine am_ci (mm_S4 dX9_paper_44 in_X9_caseCode mk_X9_176 st_X9_caseCode ⟨Nat.le_of_ble_eq_true rfl, Nat.le_of_ble_eq_true rfl⟩ (Nat.le_of_ble_eq_true rfl)) (c_caseCode) ?_
        refine am_ci (mm_V1 dX9_paper_47 in_X3_paperOf mk_X9_179 im_X3_paperOf sl_X3_paperOf ⟨Nat.le_of_ble_eq_true rfl, Nat.le_of_ble_eq_true rfl⟩ rfl jh.1 (Nat.le_of_ble_eq_true rfl)) (c_paperOf jh (by have := h21.1; have := h21.2; have := hkk.1; omega) (h91 _ (by have := h21.1; have := h21.2; have := hkk.1; omega))) ?_
        refine am_ireturn dX9_paper_50 rfl rfl ?_
        exact ⟨by rw [if_pos (show hasR S r ∧ hasSt S k s from ⟨h8, h21⟩)]; rfl, rfl⟩
    · refine mm_bipush dX9_paper_24 (by decide) ?_
      refine am_ireturn dX9_paper_26 rfl rfl ?_
      exact ⟨by rw [if_neg (fun z => by first | exact h8 z.1 | exact h21 z.2)], rfl⟩
