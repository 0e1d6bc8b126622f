/-! ===== one, paper, count of the reference ===== -/
set_option maxRecDepth 100000 in
set_option maxHeartbeats 4000000 in
theorem l_moi {sh : List mm_H} {S : mm_S} {L : mm_L} (hm : mdS sh) (hQ : qsM S L) {tr tp v w : Nat} (htr : tr < 6) (htp : tp < 25) (hv : v < 5) (hw : w < 5) {c : Nat} (hc : (c : Int) < S 181 27) {Q : Option Value → am_M → Prop} (kk : ∀ (al sm : Int) (S1 : mm_S) (l8 : Option Value), rgF S S1 → (0 ≤ sm ∧ sm ≤ al ∧ al ≤ 2000 * ((c : Int) + 1)) → (al = 0 ↔ ¬ itN S L tr tp (c + 1) 0 (fun _ _ => True)) → (sm = 0 ↔ ¬ itN S L tr tp (c + 1) 0 (fun _ p => smB p v w)) → (sm = al ↔ ¬ itN S L tr tp (c + 1) 0 (fun _ p => ¬ smB p v w)) → am_AW eX10_one (mm sh S1 L) 158 [some (.ref 181), some (.int (iI (tr : Int))), some (.int (iI (tp : Int))), some (.int (iI (v : Int))), some (.int (iI (w : Int))), some (.int (iI al)), some (.int (iI sm)), some (.int (iI (c : Int))), l8] [] Q) : ∀ (q : Nat) (k : Nat) (al sm : Int) (S1 : mm_S), 2001 - k < q → ((k : Int) ≤ S 209 c) → (rgF S S1) → (0 ≤ sm ∧ sm ≤ al ∧ al ≤ 2000 * (c : Int) + k) → (al = 0 ↔ ¬ itN S L tr tp c k (fun _ _ => True)) → (sm = 0 ↔ ¬ itN S L tr tp c k (fun _ p => smB p v w)) → (sm = al ↔ ¬ itN S L tr tp c k (fun _ p => ¬ smB p v w)) → am_AW eX10_one (mm sh S1 L) 55 [some (.ref 181), some (.int (iI (tr : Int))), some (.int (iI (tp : Int))), some (.int (iI (v : Int))), some (.int (iI (w : Int))), some (.int (iI al)), some (.int (iI sm)), some (.int (iI (c : Int))), some (.int (iI (k : Int)))] [] Q := by
  intro q
  induction q with
  | zero =>
    intro k al sm S1 hq
    exact absurd hq (Nat.not_lt_zero _)
  | succ q ih =>
    intro k al sm S1 hq hk hF hR hT hY hN
    have e27 : S1 181 27 = S 181 27 := hF.2 27 (by omega)
    have e26 : S1 181 26 = S 181 26 := hF.2 26 (by omega)
    have e209 : S1 209 = S 209 := hF.1 209 (by omega) (by omega)
    have e204 : S1 204 = S 204 := hF.1 204 (by omega) (by omega)
    have e205 : S1 205 = S 205 := hF.1 205 (by omega) (by omega)
    have e210 : S1 210 = S 210 := hF.1 210 (by omega) (by omega)
    have hcs := hQ.1.1
    have hcR := hQ.1.2 c hc
    have hsz := (hQ.2.1 c hc).1
    refine am_iload rfl dX10_one_55 ?_
    refine am_aload_n rfl dX10_one_57 ?_
    refine mm_getR dX10_one_58 fl_X10_96 (md_0 hm) mdf_34 ?_
    refine am_iload rfl dX10_one_61 ?_
    refine mm_ial dX10_one_63 (md_size hm) (by omega) ?_
    rw [Int.toNat_natCast, e209]
    refine mm_jge (tgt := 158) dX10_one_64 (by decide) (by omega) (by omega) (fun h64 => ?_) (fun h64 => ?_)
    · have hcc := fun P => itN_c (S := S) (L := L) (r := tr) (pl := tp) (c := c) (k := k) (by first | (left; omega) | (right; omega)) P
      exact kk al sm S1 _ hF (by omega) (by rw [hcc]; exact hT) (by rw [hcc]; exact hY) (by rw [hcc]; exact hN)
    · refine am_aload_n rfl dX10_one_67 ?_
      refine mm_getR dX10_one_68 fl_X10_81 (md_0 hm) mdf_29 ?_
      refine am_iload rfl dX10_one_71 ?_
      refine mm_ial dX10_one_73 (md_caseRoutine hm) (by omega) ?_
      rw [Int.toNat_natCast, e204]
      refine am_iload_n rfl dX10_one_74 ?_
      refine mm_jne (tgt := 158) dX10_one_75 (by decide) (by omega) (by omega) (fun h75 => ?_) (fun h75 => ?_)
      · have hcc := fun P => itN_c (S := S) (L := L) (r := tr) (pl := tp) (c := c) (k := k) (by first | (left; omega) | (right; omega)) P
        exact kk al sm S1 _ hF (by omega) (by rw [hcc]; exact hT) (by rw [hcc]; exact hY) (by rw [hcc]; exact hN)
      · have hk6 : (k : Int) < S 209 c := by omega
        obtain ⟨hgB, hpk, hp0⟩ := hQ.2.2.1 c k hc hk6
        have hms := fun P => itN_s (r := tr) (pl := tp) (L := L) hc hk6 P
        obtain ⟨p, hp⟩ : ∃ p, enP L c k = p := ⟨_, rfl⟩
        have hL : L 211 (2000 * c + k) = lI p := by rw [← hp]; exact (lI_of _).symm
        rw [hp] at hgB hpk hms
        have hpR := pkM_R hgB
        rw [hpk] at hpR
        refine am_aload_n rfl dX10_one_78 ?_
        refine mm_getR dX10_one_79 fl_X10_100 (md_0 hm) mdf_35 ?_
        refine mm_sipush dX10_one_82 (by decide) ?_
        refine am_iload rfl dX10_one_85 ?_
        refine mm_imul dX10_one_87 ?_
        refine am_iload rfl dX10_one_88 ?_
        refine mm_iadd dX10_one_90 ?_
        rw [show (2000 : Int) * (c : Int) + (k : Int) = ((2000 * c + k : Nat) : Int) by omega]
        refine mm_ial dX10_one_91 (md_placeAt hm) (by omega) ?_
        rw [Int.toNat_natCast, e210]
        refine am_iload_n rfl dX10_one_92 ?_
        refine mm_jne (tgt := 152) dX10_one_93 (by decide) (by omega) (by omega) (fun h93 => ?_) (fun h93 => ?_)
        · refine mm_inc8 dX10_one_152 (Nat.le_of_ble_eq_true rfl) (am_c1i _) ?_
          refine am_goto (tgt := 55) dX10_one_155 (by decide) ?_
          first
            | (have hsm : smB p v w := ⟨by omega, by omega⟩
               refine ih (k + 1) (al + 1) (sm + 1) S2 (by omega) (by omega) hF12 (by omega) ⟨fun z => by exfalso; omega, fun z => absurd ((hms _).mpr (Or.inr ⟨hat, trivial⟩)) z⟩ ⟨fun z => by exfalso; omega, fun z => absurd ((hms _).mpr (Or.inr ⟨hat, hsm⟩)) z⟩ ⟨fun z q => ?_, fun z => ?_⟩
               · rcases (hms _).mp q with y | y
                 · exact hN.mp (by omega) y
                 · exact y.2 hsm
               · have := hN.mpr (fun q => z ((hms _).mpr (Or.inl q)))
                 omega)
            | (have hsm : ¬ smB p v w := fun q => by have q1 := q.1; have q2 := q.2; omega
               refine ih (k + 1) (al + 1) (sm + 0) S2 (by omega) (by omega) hF12 (by omega) ⟨fun z => by exfalso; omega, fun z => absurd ((hms _).mpr (Or.inr ⟨hat, trivial⟩)) z⟩ ⟨fun z q => ?_, fun z => by have := hY.mpr (fun q => z ((hms _).mpr (Or.inl q))); omega⟩ ⟨fun z => by exfalso; omega, fun z => absurd ((hms _).mpr (Or.inr ⟨hat, hsm⟩)) z⟩
               rcases (hms _).mp q with y | y
               · exact hY.mp (by omega) y
               · exact hsm y.2)
            | (have hno : ∀ P : kyT → Int → Prop, itN S L tr tp c (k + 1) P ↔ itN S L tr tp c k P := fun P => by
                 rw [hms P]
                 exact ⟨fun q => by
                   rcases q with y | y
                   · exact y
                   · have := y.1.2; exfalso; omega, Or.inl⟩
               refine ih (k + 1) al sm S1 (by omega) (by omega) hF (by omega) (by rw [hno]; exact hT) (by rw [hno]; exact hY) (by rw [hno]; exact hN))
        · refine am_aload_n rfl dX10_one_96 ?_
          refine am_aload_n rfl dX10_one_97 ?_
          refine mm_getR dX10_one_98 fl_X10_103 (md_0 hm) mdf_36 ?_
          refine mm_sipush dX10_one_101 (by decide) ?_
          refine am_iload rfl dX10_one_104 ?_
          refine mm_imul dX10_one_106 ?_
          refine am_iload rfl dX10_one_107 ?_
          refine mm_iadd dX10_one_109 ?_
          rw [show (2000 : Int) * (c : Int) + (k : Int) = ((2000 * c + k : Nat) : Int) by omega]
          refine mm_lal dX10_one_110 (md_packed hm) (by omega) ?_
          rw [Int.toNat_natCast, hL]
          refine am_cv (mm_V1 dX10_one_111 in_X10_unpack mk_X10_287 im_X10_unpack sl_X10_unpack ⟨Nat.le_of_ble_eq_true rfl, Nat.le_of_ble_eq_true rfl⟩ rfl (md_0 hm) (Nat.le_of_ble_eq_true rfl)) (m_unpack (p := p) hm (by omega)) ?_
          have hF2 : rgF S1 (unS S1 p) := rgF_un
          have hrg := rgS_un S1 p
          generalize unS S1 p = S2 at *
          have hF12 : rgF S S2 := ⟨fun b h1 h2 => (hF2.1 b h1 h2).trans (hF.1 b h1 h2), fun j hj => (hF2.2 j hj).trans (hF.2 j hj)⟩
          have hva : ∀ u, u < 5 → S2 198 u = (unM p).1 u := fun u hu => by rw [← hrg]; exact (nrm_in hu).symm
          have hvr := hgB.1 v hv
          have hwr := hgB.1 w hw
          have hat : (S 204 c).toNat = tr ∧ S 210 (2000 * c + k) = (tp : Int) := ⟨by omega, by omega⟩
          refine mm_inc5 dX10_one_114 (Nat.le_of_ble_eq_true rfl) (am_c1i _) ?_
          refine am_iload rfl dX10_one_117 ?_
          refine am_aload_n rfl dX10_one_119 ?_
          refine mm_getR dX10_one_120 fl_X10_63 (md_0 hm) mdf_20 ?_
          refine am_iload_n rfl dX10_one_123 ?_
          refine mm_ial dX10_one_124 (md_var hm) (by omega) ?_
          rw [Int.toNat_natCast, hva v hv]
          refine mm_zle (tgt := 148) dX10_one_125 (by decide) (by omega) (fun h125 => ?_) (fun h125 => ?_)
          · refine mm_iconst dX10_one_148 ?_
            refine mm_iadd dX10_one_149 ?_
            refine am_ist6 dX10_one_150 (Nat.le_of_ble_eq_true rfl) (am_c1i _) ?_
            refine mm_inc8 dX10_one_152 (Nat.le_of_ble_eq_true rfl) (am_c1i _) ?_
            refine am_goto (tgt := 55) dX10_one_155 (by decide) ?_
            first
              | (have hsm : smB p v w := ⟨by omega, by omega⟩
                 refine ih (k + 1) (al + 1) (sm + 1) S2 (by omega) (by omega) hF12 (by omega) ⟨fun z => by exfalso; omega, fun z => absurd ((hms _).mpr (Or.inr ⟨hat, trivial⟩)) z⟩ ⟨fun z => by exfalso; omega, fun z => absurd ((hms _).mpr (Or.inr ⟨hat, hsm⟩)) z⟩ ⟨fun z q => ?_, fun z => ?_⟩
                 · rcases (hms _).mp q with y | y
                   · exact hN.mp (by omega) y
                   · exact y.2 hsm
                 · have := hN.mpr (fun q => z ((hms _).mpr (Or.inl q)))
                   omega)
              | (have hsm : ¬ smB p v w := fun q => by have q1 := q.1; have q2 := q.2; omega
                 refine ih (k + 1) (al + 1) (sm + 0) S2 (by omega) (by omega) hF12 (by omega) ⟨fun z => by exfalso; omega, fun z => absurd ((hms _).mpr (Or.inr ⟨hat, trivial⟩)) z⟩ ⟨fun z q => ?_, fun z => by have := hY.mpr (fun q => z ((hms _).mpr (Or.inl q))); omega⟩ ⟨fun z => by exfalso; omega, fun z => absurd ((hms _).mpr (Or.inr ⟨hat, hsm⟩)) z⟩
                 rcases (hms _).mp q with y | y
                 · exact hY.mp (by omega) y
                 · exact hsm y.2)
              | (have hno : ∀ P : kyT → Int → Prop, itN S L tr tp c (k + 1) P ↔ itN S L tr tp c k P := fun P => by
                   rw [hms P]
                   exact ⟨fun q => by
                     rcases q with y | y
                     · exact y
                     · have := y.1.2; exfalso; omega, Or.inl⟩
                 refine ih (k + 1) al sm S1 (by omega) (by omega) hF (by omega) (by rw [hno]; exact hT) (by rw [hno]; exact hY) (by rw [hno]; exact hN))
          · refine am_aload_n rfl dX10_one_128 ?_
            refine mm_getR dX10_one_129 fl_X10_63 (md_0 hm) mdf_20 ?_
            refine am_iload_n rfl dX10_one_132 ?_
            refine mm_ial dX10_one_133 (md_var hm) (by omega) ?_
            rw [Int.toNat_natCast, hva v hv]
            refine am_aload_n rfl dX10_one_134 ?_
            refine mm_getR dX10_one_135 fl_X10_63 (md_0 hm) mdf_20 ?_
            refine am_iload rfl dX10_one_138 ?_
            refine mm_ial dX10_one_140 (md_var hm) (by omega) ?_
            rw [Int.toNat_natCast, hva w hw]
            refine mm_jne (tgt := 148) dX10_one_141 (by decide) (by omega) (by omega) (fun h141 => ?_) (fun h141 => ?_)
            · refine mm_iconst dX10_one_148 ?_
              refine mm_iadd dX10_one_149 ?_
              refine am_ist6 dX10_one_150 (Nat.le_of_ble_eq_true rfl) (am_c1i _) ?_
              refine mm_inc8 dX10_one_152 (Nat.le_of_ble_eq_true rfl) (am_c1i _) ?_
              refine am_goto (tgt := 55) dX10_one_155 (by decide) ?_
              first
                | (have hsm : smB p v w := ⟨by omega, by omega⟩
                   refine ih (k + 1) (al + 1) (sm + 1) S2 (by omega) (by omega) hF12 (by omega) ⟨fun z => by exfalso; omega, fun z => absurd ((hms _).mpr (Or.inr ⟨hat, trivial⟩)) z⟩ ⟨fun z => by exfalso; omega, fun z => absurd ((hms _).mpr (Or.inr ⟨hat, hsm⟩)) z⟩ ⟨fun z q => ?_, fun z => ?_⟩
                   · rcases (hms _).mp q with y | y
                     · exact hN.mp (by omega) y
                     · exact y.2 hsm
                   · have := hN.mpr (fun q => z ((hms _).mpr (Or.inl q)))
                     omega)
                | (have hsm : ¬ smB p v w := fun q => by have q1 := q.1; have q2 := q.2; omega
                   refine ih (k + 1) (al + 1) (sm + 0) S2 (by omega) (by omega) hF12 (by omega) ⟨fun z => by exfalso; omega, fun z => absurd ((hms _).mpr (Or.inr ⟨hat, trivial⟩)) z⟩ ⟨fun z q => ?_, fun z => by have := hY.mpr (fun q => z ((hms _).mpr (Or.inl q))); omega⟩ ⟨fun z => by exfalso; omega, fun z => absurd ((hms _).mpr (Or.inr ⟨hat, hsm⟩)) z⟩
                   rcases (hms _).mp q with y | y
                   · exact hY.mp (by omega) y
                   · exact hsm y.2)
                | (have hno : ∀ P : kyT → Int → Prop, itN S L tr tp c (k + 1) P ↔ itN S L tr tp c k P := fun P => by
                     rw [hms P]
                     exact ⟨fun q => by
                       rcases q with y | y
                       · exact y
                       · have := y.1.2; exfalso; omega, Or.inl⟩
                   refine ih (k + 1) al sm S1 (by omega) (by omega) hF (by omega) (by rw [hno]; exact hT) (by rw [hno]; exact hY) (by rw [hno]; exact hN))
            · refine mm_iconst dX10_one_144 ?_
              refine am_goto (tgt := 149) dX10_one_145 (by decide) ?_
              refine mm_iadd dX10_one_149 ?_
              refine am_ist6 dX10_one_150 (Nat.le_of_ble_eq_true rfl) (am_c1i _) ?_
              refine mm_inc8 dX10_one_152 (Nat.le_of_ble_eq_true rfl) (am_c1i _) ?_
              refine am_goto (tgt := 55) dX10_one_155 (by decide) ?_
              first
                | (have hsm : smB p v w := ⟨by omega, by omega⟩
                   refine ih (k + 1) (al + 1) (sm + 1) S2 (by omega) (by omega) hF12 (by omega) ⟨fun z => by exfalso; omega, fun z => absurd ((hms _).mpr (Or.inr ⟨hat, trivial⟩)) z⟩ ⟨fun z => by exfalso; omega, fun z => absurd ((hms _).mpr (Or.inr ⟨hat, hsm⟩)) z⟩ ⟨fun z q => ?_, fun z => ?_⟩
                   · rcases (hms _).mp q with y | y
                     · exact hN.mp (by omega) y
                     · exact y.2 hsm
                   · have := hN.mpr (fun q => z ((hms _).mpr (Or.inl q)))
                     omega)
                | (have hsm : ¬ smB p v w := fun q => by have q1 := q.1; have q2 := q.2; omega
                   refine ih (k + 1) (al + 1) (sm + 0) S2 (by omega) (by omega) hF12 (by omega) ⟨fun z => by exfalso; omega, fun z => absurd ((hms _).mpr (Or.inr ⟨hat, trivial⟩)) z⟩ ⟨fun z q => ?_, fun z => by have := hY.mpr (fun q => z ((hms _).mpr (Or.inl q))); omega⟩ ⟨fun z => by exfalso; omega, fun z => absurd ((hms _).mpr (Or.inr ⟨hat, hsm⟩)) z⟩
                   rcases (hms _).mp q with y | y
                   · exact hY.mp (by omega) y
                   · exact hsm y.2)
                | (have hno : ∀ P : kyT → Int → Prop, itN S L tr tp c (k + 1) P ↔ itN S L tr tp c k P := fun P => by
                     rw [hms P]
                     exact ⟨fun q => by
                       rcases q with y | y
                       · exact y
                       · have := y.1.2; exfalso; omega, Or.inl⟩
                   refine ih (k + 1) al sm S1 (by omega) (by omega) hF (by omega) (by rw [hno]; exact hT) (by rw [hno]; exact hY) (by rw [hno]; exact hN))
set_option maxRecDepth 100000 in
set_option maxHeartbeats 4000000 in
theorem l_moo {sh : List mm_H} {S : mm_S} {L : mm_L} (hm : mdS sh) (hQ : qsM S L) {tr tp v w : Nat} (htr : tr < 6) (htp : tp < 25) (hv : v < 5) (hw : w < 5) : ∀ (q : Nat) (c : Nat) (al sm : Int) (S1 : mm_S) (l8 : Option Value), 41 - c < q → ((c : Int) ≤ S 181 27 ∧ (S 181 26 = 1 ∨ c = 0)) → (rgF S S1) → (0 ≤ sm ∧ sm ≤ al ∧ al ≤ 2000 * (c : Int) + 0) → (al = 0 ↔ ¬ itN S L tr tp c 0 (fun _ _ => True)) → (sm = 0 ↔ ¬ itN S L tr tp c 0 (fun _ p => smB p v w)) → (sm = al ↔ ¬ itN S L tr tp c 0 (fun _ p => ¬ smB p v w)) → am_AW eX10_one (mm sh S1 L) 36 [some (.ref 181), some (.int (iI (tr : Int))), some (.int (iI (tp : Int))), some (.int (iI (v : Int))), some (.int (iI (w : Int))), some (.int (iI al)), some (.int (iI sm)), some (.int (iI (c : Int))), l8] [] (fun r0 M' => ∃ a, r0 = some (.int (iI a)) ∧ ∃ S', M' = mm sh S' L ∧ rgF S S' ∧ oneR (S 181 26 = 1 ∧ itX (XM S L) tr tp (fun _ _ => True)) (S 181 26 = 1 ∧ itX (XM S L) tr tp (fun _ p => smB p v w)) (S 181 26 = 1 ∧ itX (XM S L) tr tp (fun _ p => ¬ smB p v w)) a) := by
  intro q
  induction q with
  | zero =>
    intro c al sm S1 l8 hq
    exact absurd hq (Nat.not_lt_zero _)
  | succ q ih =>
    intro c al sm S1 l8 hq hc hF hR hT hY hN
    have e27 : S1 181 27 = S 181 27 := hF.2 27 (by omega)
    have e26 : S1 181 26 = S 181 26 := hF.2 26 (by omega)
    have e209 : S1 209 = S 209 := hF.1 209 (by omega) (by omega)
    have e204 : S1 204 = S 204 := hF.1 204 (by omega) (by omega)
    have e205 : S1 205 = S 205 := hF.1 205 (by omega) (by omega)
    have e210 : S1 210 = S 210 := hF.1 210 (by omega) (by omega)
    have hcs := hQ.1.1
    have h261 := hQ.2.2.2.2
    refine am_iload rfl dX10_one_36 ?_
    refine am_aload_n rfl dX10_one_38 ?_
    refine mm_getI dX10_one_39 fl_X10_240 (md_0 hm) mdf_27 ?_
    rw [e27]
    refine mm_jge (tgt := 164) dX10_one_42 (by decide) (by omega) (by omega) (fun h42 => ?_) (fun h42 => ?_)
    · refine am_iload rfl dX10_one_164 ?_
      refine mm_zne (tgt := 173) dX10_one_166 (by decide) (by omega) (fun h166 => ?_) (fun h166 => ?_)
      · refine am_iload rfl dX10_one_173 ?_
        refine mm_zne (tgt := 182) dX10_one_175 (by decide) (by omega) (fun h175 => ?_) (fun h175 => ?_)
        · refine am_iload rfl dX10_one_182 ?_
          refine am_iload rfl dX10_one_184 ?_
          refine mm_jge (tgt := 193) dX10_one_186 (by decide) (by omega) (by omega) (fun h186 => ?_) (fun h186 => ?_)
          · refine mm_iconst dX10_one_193 ?_
            refine am_ireturn dX10_one_194 rfl rfl ?_
            have key : ∀ P : kyT → Int → Prop, itN S L tr tp c 0 P ↔ (S 181 26 = 1 ∧ itX (XM S L) tr tp P) := fun P => by
              by_cases h0 : c = 0
              · have z0 : ¬ itN S L tr tp c 0 P := by rw [h0]; exact itN_0
                refine ⟨fun y => absurd y z0, fun y => ?_⟩
                have hc0 : S 181 27 ≤ c := by have := y.1; omega
                exact (itN_e hc0 P).mpr y.2
              · have h1 : S 181 26 = 1 := by omega
                have hc0 : S 181 27 ≤ c := by omega
                rw [itN_e hc0 P]
                exact ⟨fun y => ⟨h1, y⟩, fun y => y.2⟩
            rw [key] at hT hY hN
            refine ⟨_, rfl, S1, rfl, hF, ?_⟩
            unfold oneR
            first
              | exact Or.inl ⟨hT.mp (by omega), rfl⟩
              | exact Or.inr (Or.inl ⟨Classical.byContradiction (fun z => by have := hT.mpr z; omega), hY.mp (by omega), rfl⟩)
              | exact Or.inr (Or.inr (Or.inl ⟨Classical.byContradiction (fun z => by have := hT.mpr z; omega), Classical.byContradiction (fun z => by have := hY.mpr z; omega), Classical.byContradiction (fun z => by have := hN.mpr z; omega), rfl⟩))
              | exact Or.inr (Or.inr (Or.inr ⟨Classical.byContradiction (fun z => by have := hT.mpr z; omega), Classical.byContradiction (fun z => by have := hY.mpr z; omega), hN.mp (by omega), rfl⟩))
          · refine mm_iconst dX10_one_189 ?_
            refine am_goto (tgt := 194) dX10_one_190 (by decide) ?_
            refine am_ireturn dX10_one_194 rfl rfl ?_
            have key : ∀ P : kyT → Int → Prop, itN S L tr tp c 0 P ↔ (S 181 26 = 1 ∧ itX (XM S L) tr tp P) := fun P => by
              by_cases h0 : c = 0
              · have z0 : ¬ itN S L tr tp c 0 P := by rw [h0]; exact itN_0
                refine ⟨fun y => absurd y z0, fun y => ?_⟩
                have hc0 : S 181 27 ≤ c := by have := y.1; omega
                exact (itN_e hc0 P).mpr y.2
              · have h1 : S 181 26 = 1 := by omega
                have hc0 : S 181 27 ≤ c := by omega
                rw [itN_e hc0 P]
                exact ⟨fun y => ⟨h1, y⟩, fun y => y.2⟩
            rw [key] at hT hY hN
            refine ⟨_, rfl, S1, rfl, hF, ?_⟩
            unfold oneR
            first
              | exact Or.inl ⟨hT.mp (by omega), rfl⟩
              | exact Or.inr (Or.inl ⟨Classical.byContradiction (fun z => by have := hT.mpr z; omega), hY.mp (by omega), rfl⟩)
              | exact Or.inr (Or.inr (Or.inl ⟨Classical.byContradiction (fun z => by have := hT.mpr z; omega), Classical.byContradiction (fun z => by have := hY.mpr z; omega), Classical.byContradiction (fun z => by have := hN.mpr z; omega), rfl⟩))
              | exact Or.inr (Or.inr (Or.inr ⟨Classical.byContradiction (fun z => by have := hT.mpr z; omega), Classical.byContradiction (fun z => by have := hY.mpr z; omega), hN.mp (by omega), rfl⟩))
        · refine mm_iconst dX10_one_178 ?_
          refine am_goto (tgt := 194) dX10_one_179 (by decide) ?_
          refine am_ireturn dX10_one_194 rfl rfl ?_
          have key : ∀ P : kyT → Int → Prop, itN S L tr tp c 0 P ↔ (S 181 26 = 1 ∧ itX (XM S L) tr tp P) := fun P => by
            by_cases h0 : c = 0
            · have z0 : ¬ itN S L tr tp c 0 P := by rw [h0]; exact itN_0
              refine ⟨fun y => absurd y z0, fun y => ?_⟩
              have hc0 : S 181 27 ≤ c := by have := y.1; omega
              exact (itN_e hc0 P).mpr y.2
            · have h1 : S 181 26 = 1 := by omega
              have hc0 : S 181 27 ≤ c := by omega
              rw [itN_e hc0 P]
              exact ⟨fun y => ⟨h1, y⟩, fun y => y.2⟩
          rw [key] at hT hY hN
          refine ⟨_, rfl, S1, rfl, hF, ?_⟩
          unfold oneR
          first
            | exact Or.inl ⟨hT.mp (by omega), rfl⟩
            | exact Or.inr (Or.inl ⟨Classical.byContradiction (fun z => by have := hT.mpr z; omega), hY.mp (by omega), rfl⟩)
            | exact Or.inr (Or.inr (Or.inl ⟨Classical.byContradiction (fun z => by have := hT.mpr z; omega), Classical.byContradiction (fun z => by have := hY.mpr z; omega), Classical.byContradiction (fun z => by have := hN.mpr z; omega), rfl⟩))
            | exact Or.inr (Or.inr (Or.inr ⟨Classical.byContradiction (fun z => by have := hT.mpr z; omega), Classical.byContradiction (fun z => by have := hY.mpr z; omega), hN.mp (by omega), rfl⟩))
      · refine mm_iconst dX10_one_169 ?_
        refine am_goto (tgt := 194) dX10_one_170 (by decide) ?_
        refine am_ireturn dX10_one_194 rfl rfl ?_
        have key : ∀ P : kyT → Int → Prop, itN S L tr tp c 0 P ↔ (S 181 26 = 1 ∧ itX (XM S L) tr tp P) := fun P => by
          by_cases h0 : c = 0
          · have z0 : ¬ itN S L tr tp c 0 P := by rw [h0]; exact itN_0
            refine ⟨fun y => absurd y z0, fun y => ?_⟩
            have hc0 : S 181 27 ≤ c := by have := y.1; omega
            exact (itN_e hc0 P).mpr y.2
          · have h1 : S 181 26 = 1 := by omega
            have hc0 : S 181 27 ≤ c := by omega
            rw [itN_e hc0 P]
            exact ⟨fun y => ⟨h1, y⟩, fun y => y.2⟩
        rw [key] at hT hY hN
        refine ⟨_, rfl, S1, rfl, hF, ?_⟩
        unfold oneR
        first
          | exact Or.inl ⟨hT.mp (by omega), rfl⟩
          | exact Or.inr (Or.inl ⟨Classical.byContradiction (fun z => by have := hT.mpr z; omega), hY.mp (by omega), rfl⟩)
          | exact Or.inr (Or.inr (Or.inl ⟨Classical.byContradiction (fun z => by have := hT.mpr z; omega), Classical.byContradiction (fun z => by have := hY.mpr z; omega), Classical.byContradiction (fun z => by have := hN.mpr z; omega), rfl⟩))
          | exact Or.inr (Or.inr (Or.inr ⟨Classical.byContradiction (fun z => by have := hT.mpr z; omega), Classical.byContradiction (fun z => by have := hY.mpr z; omega), hN.mp (by omega), rfl⟩))
    · refine am_aload_n rfl dX10_one_45 ?_
      refine mm_getI dX10_one_46 fl_X10_321 (md_0 hm) mdf_26 ?_
      rw [e26]
      refine mm_zeq (tgt := 164) dX10_one_49 (by decide) (by omega) (fun h49 => ?_) (fun h49 => ?_)
      · refine am_iload rfl dX10_one_164 ?_
        refine mm_zne (tgt := 173) dX10_one_166 (by decide) (by omega) (fun h166 => ?_) (fun h166 => ?_)
        · refine am_iload rfl dX10_one_173 ?_
          refine mm_zne (tgt := 182) dX10_one_175 (by decide) (by omega) (fun h175 => ?_) (fun h175 => ?_)
          · refine am_iload rfl dX10_one_182 ?_
            refine am_iload rfl dX10_one_184 ?_
            refine mm_jge (tgt := 193) dX10_one_186 (by decide) (by omega) (by omega) (fun h186 => ?_) (fun h186 => ?_)
            · refine mm_iconst dX10_one_193 ?_
              refine am_ireturn dX10_one_194 rfl rfl ?_
              have key : ∀ P : kyT → Int → Prop, itN S L tr tp c 0 P ↔ (S 181 26 = 1 ∧ itX (XM S L) tr tp P) := fun P => by
                by_cases h0 : c = 0
                · have z0 : ¬ itN S L tr tp c 0 P := by rw [h0]; exact itN_0
                  refine ⟨fun y => absurd y z0, fun y => ?_⟩
                  have hc0 : S 181 27 ≤ c := by have := y.1; omega
                  exact (itN_e hc0 P).mpr y.2
                · have h1 : S 181 26 = 1 := by omega
                  have hc0 : S 181 27 ≤ c := by omega
                  rw [itN_e hc0 P]
                  exact ⟨fun y => ⟨h1, y⟩, fun y => y.2⟩
              rw [key] at hT hY hN
              refine ⟨_, rfl, S1, rfl, hF, ?_⟩
              unfold oneR
              first
                | exact Or.inl ⟨hT.mp (by omega), rfl⟩
                | exact Or.inr (Or.inl ⟨Classical.byContradiction (fun z => by have := hT.mpr z; omega), hY.mp (by omega), rfl⟩)
                | exact Or.inr (Or.inr (Or.inl ⟨Classical.byContradiction (fun z => by have := hT.mpr z; omega), Classical.byContradiction (fun z => by have := hY.mpr z; omega), Classical.byContradiction (fun z => by have := hN.mpr z; omega), rfl⟩))
                | exact Or.inr (Or.inr (Or.inr ⟨Classical.byContradiction (fun z => by have := hT.mpr z; omega), Classical.byContradiction (fun z => by have := hY.mpr z; omega), hN.mp (by omega), rfl⟩))
            · refine mm_iconst dX10_one_189 ?_
              refine am_goto (tgt := 194) dX10_one_190 (by decide) ?_
              refine am_ireturn dX10_one_194 rfl rfl ?_
              have key : ∀ P : kyT → Int → Prop, itN S L tr tp c 0 P ↔ (S 181 26 = 1 ∧ itX (XM S L) tr tp P) := fun P => by
                by_cases h0 : c = 0
                · have z0 : ¬ itN S L tr tp c 0 P := by rw [h0]; exact itN_0
                  refine ⟨fun y => absurd y z0, fun y => ?_⟩
                  have hc0 : S 181 27 ≤ c := by have := y.1; omega
                  exact (itN_e hc0 P).mpr y.2
                · have h1 : S 181 26 = 1 := by omega
                  have hc0 : S 181 27 ≤ c := by omega
                  rw [itN_e hc0 P]
                  exact ⟨fun y => ⟨h1, y⟩, fun y => y.2⟩
              rw [key] at hT hY hN
              refine ⟨_, rfl, S1, rfl, hF, ?_⟩
              unfold oneR
              first
                | exact Or.inl ⟨hT.mp (by omega), rfl⟩
                | exact Or.inr (Or.inl ⟨Classical.byContradiction (fun z => by have := hT.mpr z; omega), hY.mp (by omega), rfl⟩)
                | exact Or.inr (Or.inr (Or.inl ⟨Classical.byContradiction (fun z => by have := hT.mpr z; omega), Classical.byContradiction (fun z => by have := hY.mpr z; omega), Classical.byContradiction (fun z => by have := hN.mpr z; omega), rfl⟩))
                | exact Or.inr (Or.inr (Or.inr ⟨Classical.byContradiction (fun z => by have := hT.mpr z; omega), Classical.byContradiction (fun z => by have := hY.mpr z; omega), hN.mp (by omega), rfl⟩))
          · refine mm_iconst dX10_one_178 ?_
            refine am_goto (tgt := 194) dX10_one_179 (by decide) ?_
            refine am_ireturn dX10_one_194 rfl rfl ?_
            have key : ∀ P : kyT → Int → Prop, itN S L tr tp c 0 P ↔ (S 181 26 = 1 ∧ itX (XM S L) tr tp P) := fun P => by
              by_cases h0 : c = 0
              · have z0 : ¬ itN S L tr tp c 0 P := by rw [h0]; exact itN_0
                refine ⟨fun y => absurd y z0, fun y => ?_⟩
                have hc0 : S 181 27 ≤ c := by have := y.1; omega
                exact (itN_e hc0 P).mpr y.2
              · have h1 : S 181 26 = 1 := by omega
                have hc0 : S 181 27 ≤ c := by omega
                rw [itN_e hc0 P]
                exact ⟨fun y => ⟨h1, y⟩, fun y => y.2⟩
            rw [key] at hT hY hN
            refine ⟨_, rfl, S1, rfl, hF, ?_⟩
            unfold oneR
            first
              | exact Or.inl ⟨hT.mp (by omega), rfl⟩
              | exact Or.inr (Or.inl ⟨Classical.byContradiction (fun z => by have := hT.mpr z; omega), hY.mp (by omega), rfl⟩)
              | exact Or.inr (Or.inr (Or.inl ⟨Classical.byContradiction (fun z => by have := hT.mpr z; omega), Classical.byContradiction (fun z => by have := hY.mpr z; omega), Classical.byContradiction (fun z => by have := hN.mpr z; omega), rfl⟩))
              | exact Or.inr (Or.inr (Or.inr ⟨Classical.byContradiction (fun z => by have := hT.mpr z; omega), Classical.byContradiction (fun z => by have := hY.mpr z; omega), hN.mp (by omega), rfl⟩))
        · refine mm_iconst dX10_one_169 ?_
          refine am_goto (tgt := 194) dX10_one_170 (by decide) ?_
          refine am_ireturn dX10_one_194 rfl rfl ?_
          have key : ∀ P : kyT → Int → Prop, itN S L tr tp c 0 P ↔ (S 181 26 = 1 ∧ itX (XM S L) tr tp P) := fun P => by
            by_cases h0 : c = 0
            · have z0 : ¬ itN S L tr tp c 0 P := by rw [h0]; exact itN_0
              refine ⟨fun y => absurd y z0, fun y => ?_⟩
              have hc0 : S 181 27 ≤ c := by have := y.1; omega
              exact (itN_e hc0 P).mpr y.2
            · have h1 : S 181 26 = 1 := by omega
              have hc0 : S 181 27 ≤ c := by omega
              rw [itN_e hc0 P]
              exact ⟨fun y => ⟨h1, y⟩, fun y => y.2⟩
          rw [key] at hT hY hN
          refine ⟨_, rfl, S1, rfl, hF, ?_⟩
          unfold oneR
          first
            | exact Or.inl ⟨hT.mp (by omega), rfl⟩
            | exact Or.inr (Or.inl ⟨Classical.byContradiction (fun z => by have := hT.mpr z; omega), hY.mp (by omega), rfl⟩)
            | exact Or.inr (Or.inr (Or.inl ⟨Classical.byContradiction (fun z => by have := hT.mpr z; omega), Classical.byContradiction (fun z => by have := hY.mpr z; omega), Classical.byContradiction (fun z => by have := hN.mpr z; omega), rfl⟩))
            | exact Or.inr (Or.inr (Or.inr ⟨Classical.byContradiction (fun z => by have := hT.mpr z; omega), Classical.byContradiction (fun z => by have := hY.mpr z; omega), hN.mp (by omega), rfl⟩))
      · refine mm_iconst dX10_one_52 ?_
        refine am_ist8 dX10_one_53 (Nat.le_of_ble_eq_true rfl) (am_c1i _) ?_
        refine l_moi hm hQ htr htp hv hw (by omega) (fun al' sm' S2 l8' g1 g2 g3 g4 g5 => ?_) 2002 0 al sm S1 (by omega) (by have := (hQ.2.1 c (by omega)).1; omega) hF (by omega) hT hY hN
        refine mm_inc7 dX10_one_158 (Nat.le_of_ble_eq_true rfl) (am_c1i _) ?_
        refine am_goto (tgt := 36) dX10_one_161 (by decide) ?_
        exact ih (c + 1) al' sm' S2 l8' (by omega) (by omega) g1 (by omega) g3 g4 g5
set_option maxRecDepth 100000 in
set_option maxHeartbeats 4000000 in
theorem m_one {sh : List mm_H} {S : mm_S} {L : mm_L} (hm : mdS sh) (hmv : mdV S) (hQ : qsM S L) {r i v w : Int} (hr : Rg r) (hi : Rg i) (hv : Rg v) (hw : Rg w) : am_E eX10_one [.ref 181, .int (iI r), .int (iI i), .int (iI v), .int (iI w)] (mm sh S L) (fun r0 M' => ∃ a, r0 = some (.int (iI a)) ∧ ∃ S', M' = mm sh S' L ∧ rgF S S' ∧ ((¬ (mPl S r i ∧ (0 ≤ v ∧ v < 5) ∧ (0 ≤ w ∧ w < 5)) ∧ a = -2) ∨ ((mPl S r i ∧ (0 ≤ v ∧ v < 5) ∧ (0 ≤ w ∧ w < 5)) ∧ oneR (S 181 26 = 1 ∧ itX (XM S L) r.toNat i.toNat (fun _ _ => True)) (S 181 26 = 1 ∧ itX (XM S L) r.toNat i.toNat (fun _ p => smB p v.toNat w.toNat)) (S 181 26 = 1 ∧ itX (XM S L) r.toNat i.toNat (fun _ p => ¬ smB p v.toNat w.toNat)) a))) := by
  refine am_enter rfl rfl (Nat.le_of_ble_eq_true rfl) ?_
  refine am_aload_n rfl dX10_one_0 ?_
  refine am_iload_n rfl dX10_one_1 ?_
  refine am_iload_n rfl dX10_one_2 ?_
  refine am_ci (mm_V2 dX10_one_3 in_X10_isPlace mk_X10_330 im_X10_isPlace sl_X10_isPlace ⟨Nat.le_of_ble_eq_true rfl, Nat.le_of_ble_eq_true rfl⟩ rfl (md_0 hm) (Nat.le_of_ble_eq_true rfl)) (m_isPlace hm hmv hr hi) ?_
  refine mm_beq (tgt := 24) dX10_one_6 (by decide) (fun h6 => ?_) (fun h6 => ?_)
  · refine mm_bipush dX10_one_24 (by decide) ?_
    refine am_ireturn dX10_one_26 rfl rfl ?_
    exact ⟨-2, rfl, S, rfl, ⟨fun _ _ _ => rfl, fun _ _ => rfl⟩, Or.inl ⟨fun z => by first | exact h6 z.1 | exact h13 z.2.1 | exact h21 z.2.2, rfl⟩⟩
  · refine am_iload_n rfl dX10_one_9 ?_
    refine am_ci (mm_S1 dX10_one_10 in_X10_isVariable mk_X10_187 st_X10_isVariable ⟨Nat.le_of_ble_eq_true rfl, Nat.le_of_ble_eq_true rfl⟩ (Nat.le_of_ble_eq_true rfl)) (m_isVariable hv) ?_
    refine mm_beq (tgt := 24) dX10_one_13 (by decide) (fun h13 => ?_) (fun h13 => ?_)
    · refine mm_bipush dX10_one_24 (by decide) ?_
      refine am_ireturn dX10_one_26 rfl rfl ?_
      exact ⟨-2, rfl, S, rfl, ⟨fun _ _ _ => rfl, fun _ _ => rfl⟩, Or.inl ⟨fun z => by first | exact h6 z.1 | exact h13 z.2.1 | exact h21 z.2.2, rfl⟩⟩
    · refine am_iload rfl dX10_one_16 ?_
      refine am_ci (mm_S1 dX10_one_18 in_X10_isVariable mk_X10_187 st_X10_isVariable ⟨Nat.le_of_ble_eq_true rfl, Nat.le_of_ble_eq_true rfl⟩ (Nat.le_of_ble_eq_true rfl)) (m_isVariable hw) ?_
      refine mm_bne (tgt := 27) dX10_one_21 (by decide) (fun h21 => ?_) (fun h21 => ?_)
      · refine mm_iconst dX10_one_27 ?_
        refine am_ist5 dX10_one_28 (Nat.le_of_ble_eq_true rfl) (am_c1i _) ?_
        refine mm_iconst dX10_one_30 ?_
        refine am_ist6 dX10_one_31 (Nat.le_of_ble_eq_true rfl) (am_c1i _) ?_
        refine mm_iconst dX10_one_33 ?_
        refine am_ist7 dX10_one_34 (Nat.le_of_ble_eq_true rfl) (am_c1i _) ?_
        have hr9 := hmv.2.1
        have hk6 := h6.1.1
        have hk7 := h6.1.2
        have h189 := hmv.2.2.2.2 r.toNat (by omega)
        have hi0 := h6.2
        rw [show iI r = iI ((r.toNat : Nat) : Int) from congrArg iI (by omega), show iI i = iI ((i.toNat : Nat) : Int) from congrArg iI (by omega), show iI v = iI ((v.toNat : Nat) : Int) from congrArg iI (by omega), show iI w = iI ((w.toNat : Nat) : Int) from congrArg iI (by omega)]
        have h0 : ∀ P : kyT → Int → Prop, ¬ itN S L r.toNat i.toNat 0 0 P := fun P => itN_0
        have h9 := l_moo (L := L) (tr := r.toNat) (tp := i.toNat) (v := v.toNat) (w := w.toNat) hm hQ (by omega) (by omega) (by omega) (by omega) 42 0 0 0 S none (by omega) (by have := hQ.1.1; omega) ⟨fun _ _ _ => rfl, fun _ _ => rfl⟩ (by omega) ⟨fun _ => h0 _, fun _ => rfl⟩ ⟨fun _ => h0 _, fun _ => rfl⟩ ⟨fun _ => h0 _, fun _ => rfl⟩
        refine am_AW.mono h9 (fun r0 M' z => ?_)
        obtain ⟨a, z1, S2, z2, z3, z4⟩ := z
        exact ⟨a, z1, S2, z2, z3, Or.inr ⟨⟨h6, h13, h21⟩, z4⟩⟩
      · refine mm_bipush dX10_one_24 (by decide) ?_
        refine am_ireturn dX10_one_26 rfl rfl ?_
        exact ⟨-2, rfl, S, rfl, ⟨fun _ _ _ => rfl, fun _ _ => rfl⟩, Or.inl ⟨fun z => by first | exact h6 z.1 | exact h13 z.2.1 | exact h21 z.2.2, rfl⟩⟩
/-- what paper() of the reference tells -/
def ppM (S : mm_S) (r : Int) (g : Prop) [Decidable g] (k s : Int) : Int := if S 181 26 = 1 ∧ caM S (b2 g + 1) r k s ≠ -1 then S 207 (caM S (b2 g + 1) r k s).toNat + 256 * S 208 (caM S (b2 g + 1) r k s).toNat else -1
theorem or_256 {u w : Nat} (hu : u < 256) : u ||| (w * 256) = u + 256 * w := by
  rw [Nat.or_comm, show w * 256 = 2 ^ 8 * w by omega, ← Nat.two_pow_add_eq_or_of_lt (show u < 2 ^ 8 by omega)]
  omega
set_option maxRecDepth 100000 in
set_option maxHeartbeats 4000000 in
theorem m_paper {sh : List mm_H} {S : mm_S} {L : mm_L} (hm : mdS sh) (hmv : mdV S) (hQ : qsM S L) {r k s : Int} {g : Prop} [Decidable g] (hr : Rg r) (hk : Rg k) (hs : Rg s) (hca : -1 ≤ caM S (b2 g + 1) r k s ∧ caM S (b2 g + 1) r k s < S 181 27) : am_E eX10_paper [.ref 181, .int (iI r), .int (iI (b2 g)), .int (iI k), .int (iI s)] (mm sh S L) (fun r' M' => r' = some (.int (iI (if mR S r ∧ mSt S k s then ppM S r g k s else -2))) ∧ M' = mm sh S L) := by
  refine am_enter rfl rfl (Nat.le_of_ble_eq_true rfl) ?_
  refine am_aload_n rfl dX10_paper_0 ?_
  refine am_iload_n rfl dX10_paper_1 ?_
  refine am_ci (mm_V1 dX10_paper_2 in_X10_isRoutine mk_X10_203 im_X10_isRoutine sl_X10_isRoutine ⟨Nat.le_of_ble_eq_true rfl, Nat.le_of_ble_eq_true rfl⟩ rfl (md_0 hm) (Nat.le_of_ble_eq_true rfl)) (m_isRoutine hm hmv hr) ?_
  refine mm_beq (tgt := 18) dX10_paper_5 (by decide) (fun h5 => ?_) (fun h5 => ?_)
  · refine mm_bipush dX10_paper_18 (by decide) ?_
    refine am_ireturn dX10_paper_20 rfl rfl ?_
    exact ⟨by rw [if_neg (fun z => by first | exact h5 z.1 | exact h15 z.2)], rfl⟩
  · refine am_aload_n rfl dX10_paper_8 ?_
    refine am_iload_n rfl dX10_paper_9 ?_
    refine am_iload rfl dX10_paper_10 ?_
    refine am_ci (mm_V2 dX10_paper_12 in_X10_isState mk_X10_156 im_X10_isState sl_X10_isState ⟨Nat.le_of_ble_eq_true rfl, Nat.le_of_ble_eq_true rfl⟩ rfl (md_0 hm) (Nat.le_of_ble_eq_true rfl)) (m_isState hm hmv hk hs) ?_
    refine mm_bne (tgt := 21) dX10_paper_15 (by decide) (fun h15 => ?_) (fun h15 => ?_)
    · have h261 := hQ.2.2.2.2
      have hg2 := b2_R g
      have h27 := hQ.1.1
      refine am_aload_n rfl dX10_paper_21 ?_
      refine mm_getI dX10_paper_22 fl_X10_321 (md_0 hm) mdf_26 ?_
      refine mm_zeq (tgt := 48) dX10_paper_25 (by decide) (by omega) (fun h25 => ?_) (fun h25 => ?_)
      · refine mm_iconst dX10_paper_48 ?_
        refine am_ist5 dX10_paper_49 (Nat.le_of_ble_eq_true rfl) (am_c1i _) ?_
        refine am_iload rfl dX10_paper_51 ?_
        refine mm_iconst dX10_paper_53 ?_
        refine mm_jne (tgt := 61) dX10_paper_54 (by decide) (by omega) (by omega) (fun h54 => ?_) (fun h54 => ?_)
        · exfalso; omega
        · refine mm_iconst dX10_paper_57 ?_
          refine am_goto (tgt := 79) dX10_paper_58 (by decide) ?_
          refine am_ireturn dX10_paper_79 rfl rfl ?_
          first
            | exact ⟨by rw [if_pos (show mR S r ∧ mSt S k s from ⟨h5, h15⟩), ppM, if_neg (by omega)], rfl⟩
            | (refine ⟨?_, rfl⟩
               rw [if_pos (show mR S r ∧ mSt S k s from ⟨h5, h15⟩), ppM, if_pos (by omega)]
               obtain ⟨u, hu⟩ : ∃ u : Nat, S 207 (caM S (b2 g + 1) r k s).toNat = u := ⟨(S 207 (caM S (b2 g + 1) r k s).toNat).toNat, by omega⟩
               obtain ⟨w, hw⟩ : ∃ w : Nat, S 208 (caM S (b2 g + 1) r k s).toNat = w := ⟨(S 208 (caM S (b2 g + 1) r k s).toNat).toNat, by omega⟩
               rw [hu, hw]
               rw [hu, hw] at h78
               have e1 : ((w : Int) * 2 ^ (8 : Int).toNat).toNat = w * 256 := by show ((w : Int) * 256).toNat = _; omega
               rw [e1, Int.toNat_natCast, or_256 (by omega)]
               exact congrArg (fun z => some (Value.int (iI z))) (by omega))
      · refine am_aload_n rfl dX10_paper_28 ?_
        refine am_iload_n rfl dX10_paper_29 ?_
        refine mm_beq (tgt := 37) dX10_paper_30 (by decide) (fun h30 => ?_) (fun h30 => ?_)
        · refine mm_iconst dX10_paper_37 ?_
          first
            | rw [show iI 2 = iI (b2 g + 1) from congrArg iI (by rw [b2_t h30]; rfl)]
            | rw [show iI 1 = iI (b2 g + 1) from congrArg iI (by rw [b2_f h30]; rfl)]
          refine am_iload_n rfl dX10_paper_38 ?_
          refine am_iload_n rfl dX10_paper_39 ?_
          refine am_iload rfl dX10_paper_40 ?_
          refine am_ci (mm_V4 dX10_paper_42 in_X10_caseOf mk_X10_243 im_X10_caseOf sl_X10_caseOf ⟨Nat.le_of_ble_eq_true rfl, Nat.le_of_ble_eq_true rfl⟩ rfl (md_0 hm) (Nat.le_of_ble_eq_true rfl)) (m_caseOf hm hQ.1 (by omega) hr hk hs) ?_
          refine am_goto (tgt := 49) dX10_paper_45 (by decide) ?_
          refine am_ist5 dX10_paper_49 (Nat.le_of_ble_eq_true rfl) (am_c1i _) ?_
          refine am_iload rfl dX10_paper_51 ?_
          refine mm_iconst dX10_paper_53 ?_
          refine mm_jne (tgt := 61) dX10_paper_54 (by decide) (by omega) (by omega) (fun h54 => ?_) (fun h54 => ?_)
          · first
              | (exfalso; omega)
              | (have h78 := (hQ.2.1 (caM S (b2 g + 1) r k s).toNat (by omega)).2)
            refine am_aload_n rfl dX10_paper_61 ?_
            refine mm_getR dX10_paper_62 fl_X10_90 (md_0 hm) mdf_32 ?_
            refine am_iload rfl dX10_paper_65 ?_
            refine mm_ial dX10_paper_67 (md_ok hm) (by omega) ?_
            refine am_aload_n rfl dX10_paper_68 ?_
            refine mm_getR dX10_paper_69 fl_X10_93 (md_0 hm) mdf_33 ?_
            refine am_iload rfl dX10_paper_72 ?_
            refine mm_ial dX10_paper_74 (md_failing hm) (by omega) ?_
            refine mm_bipush dX10_paper_75 (by decide) ?_
            refine mm_ishl dX10_paper_77 ⟨by omega, by show _ * 2 ^ 8 < _; omega⟩ (by omega) ?_
            refine mm_ior dX10_paper_78 (by omega) ⟨by show 0 ≤ _ * 2 ^ 8; omega, by show _ * 2 ^ 8 < _; omega⟩ ?_
            refine am_ireturn dX10_paper_79 rfl rfl ?_
            first
              | exact ⟨by rw [if_pos (show mR S r ∧ mSt S k s from ⟨h5, h15⟩), ppM, if_neg (by omega)], rfl⟩
              | (refine ⟨?_, rfl⟩
                 rw [if_pos (show mR S r ∧ mSt S k s from ⟨h5, h15⟩), ppM, if_pos (by omega)]
                 obtain ⟨u, hu⟩ : ∃ u : Nat, S 207 (caM S (b2 g + 1) r k s).toNat = u := ⟨(S 207 (caM S (b2 g + 1) r k s).toNat).toNat, by omega⟩
                 obtain ⟨w, hw⟩ : ∃ w : Nat, S 208 (caM S (b2 g + 1) r k s).toNat = w := ⟨(S 208 (caM S (b2 g + 1) r k s).toNat).toNat, by omega⟩
                 rw [hu, hw]
                 rw [hu, hw] at h78
                 have e1 : ((w : Int) * 2 ^ (8 : Int).toNat).toNat = w * 256 := by show ((w : Int) * 256).toNat = _; omega
                 rw [e1, Int.toNat_natCast, or_256 (by omega)]
                 exact congrArg (fun z => some (Value.int (iI z))) (by omega))
          · refine mm_iconst dX10_paper_57 ?_
            refine am_goto (tgt := 79) dX10_paper_58 (by decide) ?_
            refine am_ireturn dX10_paper_79 rfl rfl ?_
            first
              | exact ⟨by rw [if_pos (show mR S r ∧ mSt S k s from ⟨h5, h15⟩), ppM, if_neg (by omega)], rfl⟩
              | (refine ⟨?_, rfl⟩
                 rw [if_pos (show mR S r ∧ mSt S k s from ⟨h5, h15⟩), ppM, if_pos (by omega)]
                 obtain ⟨u, hu⟩ : ∃ u : Nat, S 207 (caM S (b2 g + 1) r k s).toNat = u := ⟨(S 207 (caM S (b2 g + 1) r k s).toNat).toNat, by omega⟩
                 obtain ⟨w, hw⟩ : ∃ w : Nat, S 208 (caM S (b2 g + 1) r k s).toNat = w := ⟨(S 208 (caM S (b2 g + 1) r k s).toNat).toNat, by omega⟩
                 rw [hu, hw]
                 rw [hu, hw] at h78
                 have e1 : ((w : Int) * 2 ^ (8 : Int).toNat).toNat = w * 256 := by show ((w : Int) * 256).toNat = _; omega
                 rw [e1, Int.toNat_natCast, or_256 (by omega)]
                 exact congrArg (fun z => some (Value.int (iI z))) (by omega))
        · refine mm_iconst dX10_paper_33 ?_
          refine am_goto (tgt := 38) dX10_paper_34 (by decide) ?_
          first
            | rw [show iI 2 = iI (b2 g + 1) from congrArg iI (by rw [b2_t h30]; rfl)]
            | rw [show iI 1 = iI (b2 g + 1) from congrArg iI (by rw [b2_f h30]; rfl)]
          refine am_iload_n rfl dX10_paper_38 ?_
          refine am_iload_n rfl dX10_paper_39 ?_
          refine am_iload rfl dX10_paper_40 ?_
          refine am_ci (mm_V4 dX10_paper_42 in_X10_caseOf mk_X10_243 im_X10_caseOf sl_X10_caseOf ⟨Nat.le_of_ble_eq_true rfl, Nat.le_of_ble_eq_true rfl⟩ rfl (md_0 hm) (Nat.le_of_ble_eq_true rfl)) (m_caseOf hm hQ.1 (by omega) hr hk hs) ?_
          refine am_goto (tgt := 49) dX10_paper_45 (by decide) ?_
          refine am_ist5 dX10_paper_49 (Nat.le_of_ble_eq_true rfl) (am_c1i _) ?_
          refine am_iload rfl dX10_paper_51 ?_
          refine mm_iconst dX10_paper_53 ?_
          refine mm_jne (tgt := 61) dX10_paper_54 (by decide) (by omega) (by omega) (fun h54 => ?_) (fun h54 => ?_)
          · first
              | (exfalso; omega)
              | (have h78 := (hQ.2.1 (caM S (b2 g + 1) r k s).toNat (by omega)).2)
            refine am_aload_n rfl dX10_paper_61 ?_
            refine mm_getR dX10_paper_62 fl_X10_90 (md_0 hm) mdf_32 ?_
            refine am_iload rfl dX10_paper_65 ?_
            refine mm_ial dX10_paper_67 (md_ok hm) (by omega) ?_
            refine am_aload_n rfl dX10_paper_68 ?_
            refine mm_getR dX10_paper_69 fl_X10_93 (md_0 hm) mdf_33 ?_
            refine am_iload rfl dX10_paper_72 ?_
            refine mm_ial dX10_paper_74 (md_failing hm) (by omega) ?_
            refine mm_bipush dX10_paper_75 (by decide) ?_
            refine mm_ishl dX10_paper_77 ⟨by omega, by show _ * 2 ^ 8 < _; omega⟩ (by omega) ?_
            refine mm_ior dX10_paper_78 (by omega) ⟨by show 0 ≤ _ * 2 ^ 8; omega, by show _ * 2 ^ 8 < _; omega⟩ ?_
            refine am_ireturn dX10_paper_79 rfl rfl ?_
            first
              | exact ⟨by rw [if_pos (show mR S r ∧ mSt S k s from ⟨h5, h15⟩), ppM, if_neg (by omega)], rfl⟩
              | (refine ⟨?_, rfl⟩
                 rw [if_pos (show mR S r ∧ mSt S k s from ⟨h5, h15⟩), ppM, if_pos (by omega)]
                 obtain ⟨u, hu⟩ : ∃ u : Nat, S 207 (caM S (b2 g + 1) r k s).toNat = u := ⟨(S 207 (caM S (b2 g + 1) r k s).toNat).toNat, by omega⟩
                 obtain ⟨w, hw⟩ : ∃ w : Nat, S 208 (caM S (b2 g + 1) r k s).toNat = w := ⟨(S 208 (caM S (b2 g + 1) r k s).toNat).toNat, by omega⟩
                 rw [hu, hw]
                 rw [hu, hw] at h78
                 have e1 : ((w : Int) * 2 ^ (8 : Int).toNat).toNat = w * 256 := by show ((w : Int) * 256).toNat = _; omega
                 rw [e1, Int.toNat_natCast, or_256 (by omega)]
                 exact congrArg (fun z => some (Value.int (iI z))) (by omega))
          · refine mm_iconst dX10_paper_57 ?_
            refine am_goto (tgt := 79) dX10_paper_58 (by decide) ?_
            refine am_ireturn dX10_paper_79 rfl rfl ?_
            first
              | exact ⟨by rw [if_pos (show mR S r ∧ mSt S k s from ⟨h5, h15⟩), ppM, if_neg (by omega)], rfl⟩
              | (refine ⟨?_, rfl⟩
                 rw [if_pos (show mR S r ∧ mSt S k s from ⟨h5, h15⟩), ppM, if_pos (by omega)]
                 obtain ⟨u, hu⟩ : ∃ u : Nat, S 207 (caM S (b2 g + 1) r k s).toNat = u := ⟨(S 207 (caM S (b2 g + 1) r k s).toNat).toNat, by omega⟩
                 obtain ⟨w, hw⟩ : ∃ w : Nat, S 208 (caM S (b2 g + 1) r k s).toNat = w := ⟨(S 208 (caM S (b2 g + 1) r k s).toNat).toNat, by omega⟩
                 rw [hu, hw]
                 rw [hu, hw] at h78
                 have e1 : ((w : Int) * 2 ^ (8 : Int).toNat).toNat = w * 256 := by show ((w : Int) * 256).toNat = _; omega
                 rw [e1, Int.toNat_natCast, or_256 (by omega)]
                 exact congrArg (fun z => some (Value.int (iI z))) (by omega))
    · refine mm_bipush dX10_paper_18 (by decide) ?_
      refine am_ireturn dX10_paper_20 rfl rfl ?_
      exact ⟨by rw [if_neg (fun z => by first | exact h5 z.1 | exact h15 z.2)], rfl⟩
def cntM (S : mm_S) (w : Int) : Int := if w = 0 then S 181 0 else if w = 1 then S 181 9 else if w = 2 then (if S 181 26 = 1 then wO (S 213) 150 else 0) else if w = 3 then (if S 181 26 = 1 then S 181 27 else 0) else if w = 4 then (if S 181 26 = 1 then szM S (S 181 27).toNat else 0) else -2
theorem szQ {S : mm_S} {L : mm_L} (hQ : qsM S L) : ∀ C : Nat, (C : Int) ≤ S 181 27 → 0 ≤ szM S C ∧ szM S C ≤ 2000 * C
  | 0, _ => by simp [szM]
  | C + 1, h => by
    have ih := szQ hQ C (by omega)
    have u := (hQ.2.1 C (by omega)).1
    simp only [szM]
    omega
set_option maxRecDepth 100000 in
set_option maxHeartbeats 4000000 in
theorem l_mct {sh : List mm_H} {S : mm_S} {L : mm_L} (hm : mdS sh) (hQ : qsM S L) {w : Int} : ∀ (q : Nat) (c : Nat), 41 - c < q → ((c : Int) ≤ S 181 27 ∧ (S 181 26 = 1 ∨ c = 0)) → am_AW eX10_count (mm sh S L) 80 [some (.ref 181), some (.int (iI w)), some (.int (iI (szM S c))), some (.int (iI (c : Int)))] [] (fun r M' => r = some (.int (iI (if S 181 26 = 1 then szM S (S 181 27).toNat else 0))) ∧ M' = mm sh S L) := by
  intro q
  induction q with
  | zero =>
    intro c hq
    exact absurd hq (Nat.not_lt_zero _)
  | succ q ih =>
    intro c hq hc
    have hcs := hQ.1.1
    have h261 := hQ.2.2.2.2
    refine am_iload_n rfl dX10_count_80 ?_
    refine am_aload_n rfl dX10_count_81 ?_
    refine mm_getI dX10_count_82 fl_X10_240 (md_0 hm) mdf_27 ?_
    refine mm_jge (tgt := 110) dX10_count_85 (by decide) (by omega) (by omega) (fun h85 => ?_) (fun h85 => ?_)
    · refine am_iload_n rfl dX10_count_110 ?_
      refine am_ireturn dX10_count_111 rfl rfl ?_
      refine ⟨?_, rfl⟩
      rcases h261 with z | z
      · rw [if_neg (by omega), show c = 0 by omega]; rfl
      · rw [if_pos z, show c = (S 181 27).toNat by omega]
    · refine am_aload_n rfl dX10_count_88 ?_
      refine mm_getI dX10_count_89 fl_X10_321 (md_0 hm) mdf_26 ?_
      refine mm_zeq (tgt := 110) dX10_count_92 (by decide) (by omega) (fun h92 => ?_) (fun h92 => ?_)
      · refine am_iload_n rfl dX10_count_110 ?_
        refine am_ireturn dX10_count_111 rfl rfl ?_
        refine ⟨?_, rfl⟩
        rcases h261 with z | z
        · rw [if_neg (by omega), show c = 0 by omega]; rfl
        · rw [if_pos z, show c = (S 181 27).toNat by omega]
      · refine am_iload_n rfl dX10_count_95 ?_
        refine am_aload_n rfl dX10_count_96 ?_
        refine mm_getR dX10_count_97 fl_X10_96 (md_0 hm) mdf_34 ?_
        refine am_iload_n rfl dX10_count_100 ?_
        refine mm_ial dX10_count_101 (md_size hm) (by omega) ?_
        rw [Int.toNat_natCast]
        refine mm_iadd dX10_count_102 ?_
        refine am_ist2 dX10_count_103 (Nat.le_of_ble_eq_true rfl) (am_c1i _) ?_
        refine mm_inc3 dX10_count_104 (Nat.le_of_ble_eq_true rfl) (am_c1i _) ?_
        refine am_goto (tgt := 80) dX10_count_107 (by decide) ?_
        exact ih (c + 1) (by omega) (by omega)
set_option maxRecDepth 100000 in
set_option maxHeartbeats 4000000 in
theorem m_count {sh : List mm_H} {S : mm_S} {L : mm_L} (hm : mdS sh) (hmv : mdV S) (hQ : qsM S L) {w : Int} (hw : Rg w) : am_E eX10_count [.ref 181, .int (iI w)] (mm sh S L) (fun r M' => r = some (.int (iI (cntM S w))) ∧ M' = mm sh S L) := by
  have h261 := hQ.2.2.2.2
  refine am_enter rfl rfl (Nat.le_of_ble_eq_true rfl) ?_
  refine mm_iconst dX10_count_0 ?_
  refine am_ist2 dX10_count_1 (Nat.le_of_ble_eq_true rfl) (am_c1i _) ?_
  refine am_iload_n rfl dX10_count_2 ?_
  rcases (show (w < 0 ∨ 4 < w) ∨ (w = 0) ∨ (w = 1) ∨ (w = 2) ∨ (w = 3) ∨ (w = 4) by omega) with h3 | h3 | h3 | h3 | h3 | h3
  · refine mm_tout (tgt := 112) dX10_count_3 (by omega) (by omega) (by decide) ?_
    refine mm_bipush dX10_count_112 (by decide) ?_
    refine am_ireturn dX10_count_114 rfl rfl ?_
    refine ⟨?_, rfl⟩
    unfold cntM
    first
      | rw [if_pos (by omega)]
      | rw [if_neg (by omega), if_pos (by omega)]
      | rw [if_neg (by omega), if_neg (by omega), if_pos (by omega), if_pos (by omega)]
      | rw [if_neg (by omega), if_neg (by omega), if_pos (by omega), if_neg (by omega)]
      | rw [if_neg (by omega), if_neg (by omega), if_neg (by omega), if_pos (by omega), if_pos (by omega)]
      | rw [if_neg (by omega), if_neg (by omega), if_neg (by omega), if_pos (by omega), if_neg (by omega)]
      | rw [if_neg (by omega), if_neg (by omega), if_neg (by omega), if_neg (by omega), if_neg (by omega)]
  · refine mm_tsw (tgt := 36) (off := 33) [0] dX10_count_3 (by simp only [List.mem_cons, List.mem_nil_iff, or_false]; omega) (by decide) (by decide) ?_
    refine am_aload_n rfl dX10_count_36 ?_
    refine mm_getI dX10_count_37 fl_X10_141 (md_0 hm) mdf_0 ?_
    refine am_ireturn dX10_count_40 rfl rfl ?_
    refine ⟨?_, rfl⟩
    unfold cntM
    first
      | rw [if_pos (by omega)]
      | rw [if_neg (by omega), if_pos (by omega)]
      | rw [if_neg (by omega), if_neg (by omega), if_pos (by omega), if_pos (by omega)]
      | rw [if_neg (by omega), if_neg (by omega), if_pos (by omega), if_neg (by omega)]
      | rw [if_neg (by omega), if_neg (by omega), if_neg (by omega), if_pos (by omega), if_pos (by omega)]
      | rw [if_neg (by omega), if_neg (by omega), if_neg (by omega), if_pos (by omega), if_neg (by omega)]
      | rw [if_neg (by omega), if_neg (by omega), if_neg (by omega), if_neg (by omega), if_neg (by omega)]
  · refine mm_tsw (tgt := 41) (off := 38) [1] dX10_count_3 (by simp only [List.mem_cons, List.mem_nil_iff, or_false]; omega) (by decide) (by decide) ?_
    refine am_aload_n rfl dX10_count_41 ?_
    refine mm_getI dX10_count_42 fl_X10_200 (md_0 hm) mdf_9 ?_
    refine am_ireturn dX10_count_45 rfl rfl ?_
    refine ⟨?_, rfl⟩
    unfold cntM
    first
      | rw [if_pos (by omega)]
      | rw [if_neg (by omega), if_pos (by omega)]
      | rw [if_neg (by omega), if_neg (by omega), if_pos (by omega), if_pos (by omega)]
      | rw [if_neg (by omega), if_neg (by omega), if_pos (by omega), if_neg (by omega)]
      | rw [if_neg (by omega), if_neg (by omega), if_neg (by omega), if_pos (by omega), if_pos (by omega)]
      | rw [if_neg (by omega), if_neg (by omega), if_neg (by omega), if_pos (by omega), if_neg (by omega)]
      | rw [if_neg (by omega), if_neg (by omega), if_neg (by omega), if_neg (by omega), if_neg (by omega)]
  · refine mm_tsw (tgt := 46) (off := 43) [2] dX10_count_3 (by simp only [List.mem_cons, List.mem_nil_iff, or_false]; omega) (by decide) (by decide) ?_
    refine am_aload_n rfl dX10_count_46 ?_
    refine mm_getI dX10_count_47 fl_X10_321 (md_0 hm) mdf_26 ?_
    refine mm_zeq (tgt := 60) dX10_count_50 (by decide) (by omega) (fun h50 => ?_) (fun h50 => ?_)
    · refine mm_iconst dX10_count_60 ?_
      refine am_ireturn dX10_count_61 rfl rfl ?_
      refine ⟨?_, rfl⟩
      unfold cntM
      first
        | rw [if_pos (by omega)]
        | rw [if_neg (by omega), if_pos (by omega)]
        | rw [if_neg (by omega), if_neg (by omega), if_pos (by omega), if_pos (by omega)]
        | rw [if_neg (by omega), if_neg (by omega), if_pos (by omega), if_neg (by omega)]
        | rw [if_neg (by omega), if_neg (by omega), if_neg (by omega), if_pos (by omega), if_pos (by omega)]
        | rw [if_neg (by omega), if_neg (by omega), if_neg (by omega), if_pos (by omega), if_neg (by omega)]
        | rw [if_neg (by omega), if_neg (by omega), if_neg (by omega), if_neg (by omega), if_neg (by omega)]
    · refine am_aload_n rfl dX10_count_53 ?_
      refine am_ci (mm_V0 dX10_count_54 in_X10_wrongMany mk_X10_327 im_X10_wrongMany sl_X10_wrongMany ⟨Nat.le_of_ble_eq_true rfl, Nat.le_of_ble_eq_true rfl⟩ rfl (md_0 hm) (Nat.le_of_ble_eq_true rfl)) (m_wrongMany hm hQ.2.2.2.1) ?_
      refine am_goto (tgt := 61) dX10_count_57 (by decide) ?_
      refine am_ireturn dX10_count_61 rfl rfl ?_
      refine ⟨?_, rfl⟩
      unfold cntM
      first
        | rw [if_pos (by omega)]
        | rw [if_neg (by omega), if_pos (by omega)]
        | rw [if_neg (by omega), if_neg (by omega), if_pos (by omega), if_pos (by omega)]
        | rw [if_neg (by omega), if_neg (by omega), if_pos (by omega), if_neg (by omega)]
        | rw [if_neg (by omega), if_neg (by omega), if_neg (by omega), if_pos (by omega), if_pos (by omega)]
        | rw [if_neg (by omega), if_neg (by omega), if_neg (by omega), if_pos (by omega), if_neg (by omega)]
        | rw [if_neg (by omega), if_neg (by omega), if_neg (by omega), if_neg (by omega), if_neg (by omega)]
  · refine mm_tsw (tgt := 62) (off := 59) [3] dX10_count_3 (by simp only [List.mem_cons, List.mem_nil_iff, or_false]; omega) (by decide) (by decide) ?_
    refine am_aload_n rfl dX10_count_62 ?_
    refine mm_getI dX10_count_63 fl_X10_321 (md_0 hm) mdf_26 ?_
    refine mm_zeq (tgt := 76) dX10_count_66 (by decide) (by omega) (fun h66 => ?_) (fun h66 => ?_)
    · refine mm_iconst dX10_count_76 ?_
      refine am_ireturn dX10_count_77 rfl rfl ?_
      refine ⟨?_, rfl⟩
      unfold cntM
      first
        | rw [if_pos (by omega)]
        | rw [if_neg (by omega), if_pos (by omega)]
        | rw [if_neg (by omega), if_neg (by omega), if_pos (by omega), if_pos (by omega)]
        | rw [if_neg (by omega), if_neg (by omega), if_pos (by omega), if_neg (by omega)]
        | rw [if_neg (by omega), if_neg (by omega), if_neg (by omega), if_pos (by omega), if_pos (by omega)]
        | rw [if_neg (by omega), if_neg (by omega), if_neg (by omega), if_pos (by omega), if_neg (by omega)]
        | rw [if_neg (by omega), if_neg (by omega), if_neg (by omega), if_neg (by omega), if_neg (by omega)]
    · refine am_aload_n rfl dX10_count_69 ?_
      refine mm_getI dX10_count_70 fl_X10_240 (md_0 hm) mdf_27 ?_
      refine am_goto (tgt := 77) dX10_count_73 (by decide) ?_
      refine am_ireturn dX10_count_77 rfl rfl ?_
      refine ⟨?_, rfl⟩
      unfold cntM
      first
        | rw [if_pos (by omega)]
        | rw [if_neg (by omega), if_pos (by omega)]
        | rw [if_neg (by omega), if_neg (by omega), if_pos (by omega), if_pos (by omega)]
        | rw [if_neg (by omega), if_neg (by omega), if_pos (by omega), if_neg (by omega)]
        | rw [if_neg (by omega), if_neg (by omega), if_neg (by omega), if_pos (by omega), if_pos (by omega)]
        | rw [if_neg (by omega), if_neg (by omega), if_neg (by omega), if_pos (by omega), if_neg (by omega)]
        | rw [if_neg (by omega), if_neg (by omega), if_neg (by omega), if_neg (by omega), if_neg (by omega)]
  · refine mm_tsw (tgt := 78) (off := 75) [4] dX10_count_3 (by simp only [List.mem_cons, List.mem_nil_iff, or_false]; omega) (by decide) (by decide) ?_
    refine mm_iconst dX10_count_78 ?_
    refine am_ist3 dX10_count_79 (Nat.le_of_ble_eq_true rfl) (am_c1i _) ?_
    have h9 := l_mct (w := w) (L := L) hm hQ 42 0 (by omega) (by have := hQ.1.1; omega)
    unfold cntM
    rw [if_neg (by omega), if_neg (by omega), if_neg (by omega), if_neg (by omega), if_pos (by omega)]
    exact h9
