def cDk (S : mm_S) : Nat → Int
  | 0 => 29
  | k + 1 => dgS (cT S (4 + 3 * k)) (cFa S (4 + 3 * k)) (S (4 + 3 * k) 0).toNat (31 * (31 * cDk S k + S (4 + 3 * k) 0) + S (4 + 3 * k) 1)
def cDr (S : mm_S) (h : Int) : Nat → Int
  | 0 => h
  | r + 1 => dgR (cP S (22 + 10 * r)) (S (22 + 10 * r) 0).toNat (31 * cDr S h r + S (22 + 10 * r) 0)
def cDig (S : mm_S) : Int := cDr S (cDk S (S 1 0).toNat) (S 1 1).toNat
set_option maxRecDepth 100000 in
set_option maxHeartbeats 4000000 in
theorem l_cdr {sh : List mm_H} {S : mm_S} {L : mm_L} (hx0 : swS sh) (hb : bkS sh) (hv : bkV S) (hR : rtA S) {h : Int} : ∀ (q : Nat) (r : Nat), (S 1 1).toNat - r < q → ((r : Int) ≤ S 1 1) → am_AW eX9_digest (mm sh S L) 39 [some (.ref 0), some (.long (lI (cDr S h r))), none, some (.int (iI ((r : Nat) : Int)))] [] (fun r0 M' => r0 = some (.long (lI (cDr S h (S 1 1).toNat))) ∧ M' = mm sh S L) := by
  intro q
  induction q with
  | zero =>
    intro r hq
    exact absurd hq (Nat.not_lt_zero _)
  | succ q ih =>
    intro r hq hr
    obtain ⟨hB1, hB2, hB3, hB4, hB5⟩ := hb
    obtain ⟨w0, w1, w2, w3⟩ := hv
    refine am_iload_n rfl dX9_digest_39 ?_
    refine am_aload_n rfl dX9_digest_40 ?_
    refine mm_getR dX9_digest_41 fl_X9_10 hx0 rfl ?_
    refine mm_getI dX9_digest_44 fl_X9_101 hB1 rfl ?_
    refine mm_jge (tgt := 70) dX9_digest_47 (by decide) (by omega) (by omega) (fun h47 => ?_) (fun h47 => ?_)
    · refine am_lload_n rfl dX9_digest_70 ?_
      refine am_lreturn dX9_digest_71 rfl ?_
      exact ⟨by rw [show (S 1 1).toNat = r by omega], rfl⟩
    · refine am_aload_n rfl dX9_digest_50 ?_
      refine mm_getR dX9_digest_51 fl_X9_10 hx0 rfl ?_
      refine mm_getR dX9_digest_54 fl_X9_113 hB1 rfl ?_
      refine am_iload_n rfl dX9_digest_57 ?_
      refine mm_aal dX9_digest_58 (fun _ => rfl) hB3 ⟨by omega, by omega, by omega⟩ (rArr_at (j := r) (by omega)) ?_
      refine am_lload_n rfl dX9_digest_59 ?_
      refine am_cl (mm_V1 dX9_digest_60 in_X6_digestFrom mk_X9_220 im_X6_digestFrom sl_X6_digestFrom ⟨Nat.le_of_ble_eq_true rfl, Nat.le_of_ble_eq_true rfl⟩ rfl (hB5 r (by omega)).1 (Nat.le_of_ble_eq_true rfl)) (c_routineDigest (hB5 r (by omega)) (hR r (by omega))) ?_
      refine am_lst1 dX9_digest_63 (Nat.le_of_ble_eq_true rfl) (am_c1r _) ?_
      refine mm_inc3 dX9_digest_64 (Nat.le_of_ble_eq_true rfl) am_c1n ?_
      refine am_goto (tgt := 39) dX9_digest_67 (by decide) ?_
      exact ih (r + 1) (by omega) (by omega)
set_option maxRecDepth 100000 in
set_option maxHeartbeats 4000000 in
theorem l_cdk {sh : List mm_H} {S : mm_S} {L : mm_L} (hx0 : swS sh) (hb : bkS sh) (hv : bkV S) (hR : rtA S) : ∀ (q : Nat) (k : Nat), (S 1 0).toNat - k < q → ((k : Int) ≤ S 1 0) → am_AW eX9_digest (mm sh S L) 6 [some (.ref 0), some (.long (lI (cDk S k))), none, some (.int (iI ((k : Nat) : Int)))] [] (fun r0 M' => r0 = some (.long (lI (cDig S))) ∧ M' = mm sh S L) := by
  intro q
  induction q with
  | zero =>
    intro k hq
    exact absurd hq (Nat.not_lt_zero _)
  | succ q ih =>
    intro k hq hk
    obtain ⟨hB1, hB2, hB3, hB4, hB5⟩ := hb
    obtain ⟨w0, w1, w2, w3⟩ := hv
    refine am_iload_n rfl dX9_digest_6 ?_
    refine am_aload_n rfl dX9_digest_7 ?_
    refine mm_getR dX9_digest_8 fl_X9_10 hx0 rfl ?_
    refine mm_getI dX9_digest_11 fl_X9_53 hB1 rfl ?_
    refine mm_jge (tgt := 37) dX9_digest_14 (by decide) (by omega) (by omega) (fun h14 => ?_) (fun h14 => ?_)
    · refine mm_iconst dX9_digest_37 ?_
      refine am_ist3 dX9_digest_38 (Nat.le_of_ble_eq_true rfl) am_c1n ?_
      have e : (S 1 0).toNat = k := by omega
      unfold cDig
      rw [e]
      exact l_cdr hx0 ⟨hB1, hB2, hB3, hB4, hB5⟩ ⟨w0, w1, w2, w3⟩ hR 7 0 (by omega) (by omega)
    · refine am_aload_n rfl dX9_digest_17 ?_
      refine mm_getR dX9_digest_18 fl_X9_10 hx0 rfl ?_
      refine mm_getR dX9_digest_21 fl_X9_56 hB1 rfl ?_
      refine am_iload_n rfl dX9_digest_24 ?_
      refine mm_aal dX9_digest_25 (fun _ => rfl) hB2 ⟨by omega, by omega, by omega⟩ (kArr_at (j := k) (by omega)) ?_
      refine am_lload_n rfl dX9_digest_26 ?_
      refine am_cl (mm_V1 dX9_digest_27 in_X4_digestFrom mk_X9_216 im_X4_digestFrom sl_X4_digestFrom ⟨Nat.le_of_ble_eq_true rfl, Nat.le_of_ble_eq_true rfl⟩ rfl (hB4 k (by omega)).1 (Nat.le_of_ble_eq_true rfl)) (c_kindDigest (hB4 k (by omega)) (w2 k (by omega))) ?_
      refine am_lst1 dX9_digest_30 (Nat.le_of_ble_eq_true rfl) (am_c1r _) ?_
      refine mm_inc3 dX9_digest_31 (Nat.le_of_ble_eq_true rfl) am_c1n ?_
      refine am_goto (tgt := 6) dX9_digest_34 (by decide) ?_
      exact ih (k + 1) (by omega) (by omega)
set_option maxRecDepth 100000 in
set_option maxHeartbeats 4000000 in
theorem c_digest {sh : List mm_H} {S : mm_S} {L : mm_L} (hx0 : swS sh) (hb : bkS sh) (hv : bkV S) (hR : rtA S) : am_E eX9_digest [.ref 0] (mm sh S L) (fun r M' => r = some (.long (lI (cDig S))) ∧ M' = mm sh S L) := by
  obtain ⟨hB1, hB2, hB3, hB4, hB5⟩ := hb
  obtain ⟨w0, w1, w2, w3⟩ := hv
  refine am_enter rfl rfl (Nat.le_of_ble_eq_true rfl) ?_
  refine am_ldc2 cc_X9_214 dX9_digest_0 ?_
  refine am_lst1 dX9_digest_3 (Nat.le_of_ble_eq_true rfl) (am_c1r _) ?_
  refine mm_iconst dX9_digest_4 ?_
  refine am_ist3 dX9_digest_5 (Nat.le_of_ble_eq_true rfl) am_c1n ?_
  exact l_cdk hx0 ⟨hB1, hB2, hB3, hB4, hB5⟩ ⟨w0, w1, w2, w3⟩ hR 7 0 (by omega) (by omega)
abbrev mT (S : mm_S) (k s n : Nat) : Int := mlT S k s n True
abbrev mFa (S : mm_S) (k s n : Nat) : Int := mlT S k s n False
def mDk (S : mm_S) : Nat → Int
  | 0 => 29
  | k + 1 => dgS (mT S k) (mFa S k) (S 182 k).toNat (31 * (31 * mDk S k + S 182 k) + S 183 k)
def mP (S : mm_S) (r x : Nat) : Int := mtoldOf S r ((x : Int) / 3) ((x : Int) % 3)
def mDr (S : mm_S) (h : Int) : Nat → Int
  | 0 => h
  | r + 1 => dgL (mP S r) (3 * (S 189 r).toNat) (31 * mDr S h r + S 189 r)
def mDig (S : mm_S) : Int := mDr S (mDk S (S 181 0).toNat) (S 181 9).toNat
theorem mlT_R {S : mm_S} {k s n : Int} {y : Prop} [Decidable y] (hv : mdV S) : -1 ≤ mlT S k s n y ∧ mlT S k s n y ≤ 5 := by
  have h1 := hv.2.2.2.1 (48 * k + 8 * s + n).toNat
  unfold mlT mF
  split
  · split <;> omega
  · omega
theorem mtoldOf_R {S : mm_S} {r i w : Int} (hq : mdQ S) : 0 ≤ mtoldOf S r i w ∧ mtoldOf S r i w ≤ 15 := by
  have := hq (25 * r + i).toNat
  unfold mtoldOf
  split
  · omega
  · split <;> omega
set_option maxRecDepth 100000 in
set_option maxHeartbeats 4000000 in
theorem l_mdn {sh : List mm_H} {S : mm_S} {L : mm_L} (hm : mdS sh) (hv : mdV S) (hq0 : mdQ S) {h : Int} {k s : Nat} {Q : Option Value → am_M → Prop} (hk : k < 6) (hs : s < 6) (hc : am_AW eX10_digest (mm sh S L) 104 [some (.ref 181), some (.long (lI (dg2 (mT S k s) (mFa S k s) 8 h))), none, some (.int (iI ((k : Nat) : Int))), some (.int (iI ((s : Nat) : Int))), some (.int (iI ((8 : Nat) : Int)))] [] Q) : ∀ (q : Nat) (n : Nat), 8 - n < q → (n ≤ 8) → am_AW eX10_digest (mm sh S L) 57 [some (.ref 181), some (.long (lI (dg2 (mT S k s) (mFa S k s) n h))), none, some (.int (iI ((k : Nat) : Int))), some (.int (iI ((s : Nat) : Int))), some (.int (iI ((n : Nat) : Int)))] [] Q := by
  intro q
  induction q with
  | zero =>
    intro n hq
    exact absurd hq (Nat.not_lt_zero _)
  | succ q ih =>
    intro n hq hn
    refine am_iload rfl dX10_digest_57 ?_
    refine mm_bipush dX10_digest_59 (by decide) ?_
    refine mm_jge (tgt := 104) dX10_digest_61 (by decide) (by omega) (by omega) (fun h61 => ?_) (fun h61 => ?_)
    · have h8 : n = 8 := by omega
      subst h8
      exact hc
    · refine am_ldc2 cc_X10_229 dX10_digest_64 ?_
      refine am_ldc2 cc_X10_229 dX10_digest_67 ?_
      refine am_lload_n rfl dX10_digest_70 ?_
      refine mm_lmul dX10_digest_71 ?_
      refine am_aload_n rfl dX10_digest_72 ?_
      refine am_iload_n rfl dX10_digest_73 ?_
      refine am_iload rfl dX10_digest_74 ?_
      refine am_iload rfl dX10_digest_76 ?_
      refine mm_iconst dX10_digest_78 ?_
      refine am_ci (mm_V4 dX10_digest_79 in_X10_leadsTo mk_X10_167 im_X10_leadsTo sl_X10_leadsTo ⟨Nat.le_of_ble_eq_true rfl, Nat.le_of_ble_eq_true rfl⟩ rfl (md_0 hm) (Nat.le_of_ble_eq_true rfl)) (m_leadsTo (y := True) hm hv (by omega) (by omega) (by omega)) ?_
      refine mm_i2l dX10_digest_82 (by have := mlT_R (S := S) (k := k) (s := s) (n := n) (y := True) hv; omega) ?_
      refine mm_ladd dX10_digest_83 ?_
      refine mm_lmul dX10_digest_84 ?_
      refine am_aload_n rfl dX10_digest_85 ?_
      refine am_iload_n rfl dX10_digest_86 ?_
      refine am_iload rfl dX10_digest_87 ?_
      refine am_iload rfl dX10_digest_89 ?_
      refine mm_iconst dX10_digest_91 ?_
      refine am_ci (mm_V4 dX10_digest_92 in_X10_leadsTo mk_X10_167 im_X10_leadsTo sl_X10_leadsTo ⟨Nat.le_of_ble_eq_true rfl, Nat.le_of_ble_eq_true rfl⟩ rfl (md_0 hm) (Nat.le_of_ble_eq_true rfl)) (m_leadsTo (y := False) hm hv (by omega) (by omega) (by omega)) ?_
      refine mm_i2l dX10_digest_95 (by have := mlT_R (S := S) (k := k) (s := s) (n := n) (y := False) hv; omega) ?_
      refine mm_ladd dX10_digest_96 ?_
      refine am_lst1 dX10_digest_97 (Nat.le_of_ble_eq_true rfl) (am_c1r _) ?_
      refine mm_inc5 dX10_digest_98 (Nat.le_of_ble_eq_true rfl) (am_c1i _) ?_
      refine am_goto (tgt := 57) dX10_digest_101 (by decide) ?_
      exact ih (n + 1) (by omega) (by omega)
set_option maxRecDepth 100000 in
set_option maxHeartbeats 4000000 in
theorem l_mds {sh : List mm_H} {S : mm_S} {L : mm_L} (hm : mdS sh) (hv : mdV S) (hq0 : mdQ S) {h : Int} {k : Nat} {Q : Option Value → am_M → Prop} (hk : k < 6) (hc : am_AW eX10_digest (mm sh S L) 110 [some (.ref 181), some (.long (lI (dgS (mT S k) (mFa S k) (S 182 k).toNat h))), none, some (.int (iI ((k : Nat) : Int))), some (.int (iI (((S 182 k).toNat : Nat) : Int))), none] [] Q) : ∀ (q : Nat) (s : Nat), (S 182 k).toNat - s < q → ((s : Int) ≤ S 182 k) → am_AW eX10_digest (mm sh S L) 43 [some (.ref 181), some (.long (lI (dgS (mT S k) (mFa S k) s h))), none, some (.int (iI ((k : Nat) : Int))), some (.int (iI ((s : Nat) : Int))), none] [] Q := by
  intro q
  induction q with
  | zero =>
    intro s hq
    exact absurd hq (Nat.not_lt_zero _)
  | succ q ih =>
    intro s hq hs
    have hu := hv.2.2.1 k hk
    refine am_iload rfl dX10_digest_43 ?_
    refine am_aload_n rfl dX10_digest_45 ?_
    refine mm_getR dX10_digest_46 fl_X10_7 (md_0 hm) mdf_1 ?_
    refine am_iload_n rfl dX10_digest_49 ?_
    refine mm_ial dX10_digest_50 (md_states hm) (by omega) ?_
    rw [Int.toNat_natCast]
    refine mm_jge (tgt := 110) dX10_digest_51 (by decide) (by omega) (by omega) (fun h51 => ?_) (fun h51 => ?_)
    · have e : (S 182 k).toNat = s := by omega
      rw [e] at hc
      exact hc
    · refine mm_iconst dX10_digest_54 ?_
      refine am_ist5 dX10_digest_55 (Nat.le_of_ble_eq_true rfl) (am_c1i _) ?_
      refine l_mdn (h := dgS (mT S k) (mFa S k) s h) hm hv hq0 hk (by omega) ?_ 9 0 (by omega) (by omega)
      refine mm_inc4 dX10_digest_104 (Nat.le_of_ble_eq_true rfl) (am_c1i _) ?_
      refine am_goto (tgt := 43) dX10_digest_107 (by decide) ?_
      exact am_AW.unset 5 (ih (s + 1) (by omega) (by omega))
set_option maxRecDepth 100000 in
set_option maxHeartbeats 4000000 in
theorem l_mdx {sh : List mm_H} {S : mm_S} {L : mm_L} (hm : mdS sh) (hv : mdV S) (hq0 : mdQ S) {h : Int} {r : Nat} {Q : Option Value → am_M → Prop} (hr : r < 6) (hc : am_AW eX10_digest (mm sh S L) 183 [some (.ref 181), some (.long (lI (dgL (mP S r) (3 * (S 189 r).toNat) h))), none, some (.int (iI ((r : Nat) : Int))), some (.int (iI ((3 * (S 189 r).toNat : Nat) : Int))), none] [] Q) : ∀ (q : Nat) (x : Nat), (3 * S 189 r).toNat - x < q → ((x : Int) ≤ 3 * S 189 r) → am_AW eX10_digest (mm sh S L) 143 [some (.ref 181), some (.long (lI (dgL (mP S r) x h))), none, some (.int (iI ((r : Nat) : Int))), some (.int (iI ((x : Nat) : Int))), none] [] Q := by
  intro q
  induction q with
  | zero =>
    intro x hq
    exact absurd hq (Nat.not_lt_zero _)
  | succ q ih =>
    intro x hq hx
    have hu := hv.2.2.2.2 r hr
    refine am_iload rfl dX10_digest_143 ?_
    refine mm_iconst dX10_digest_145 ?_
    refine am_aload_n rfl dX10_digest_146 ?_
    refine mm_getR dX10_digest_147 fl_X10_36 (md_0 hm) mdf_10 ?_
    refine am_iload_n rfl dX10_digest_150 ?_
    refine mm_ial dX10_digest_151 (md_many hm) (by omega) ?_
    rw [Int.toNat_natCast]
    refine mm_imul dX10_digest_152 ?_
    refine mm_jge (tgt := 183) dX10_digest_153 (by decide) (by omega) (by omega) (fun h153 => ?_) (fun h153 => ?_)
    · have e : 3 * (S 189 r).toNat = x := by omega
      rw [e] at hc
      exact hc
    · refine am_ldc2 cc_X10_229 dX10_digest_156 ?_
      refine am_lload_n rfl dX10_digest_159 ?_
      refine mm_lmul dX10_digest_160 ?_
      refine am_aload_n rfl dX10_digest_161 ?_
      refine am_iload_n rfl dX10_digest_162 ?_
      refine am_iload rfl dX10_digest_163 ?_
      refine mm_iconst dX10_digest_165 ?_
      refine mm_idiv dX10_digest_166 (by omega) (by omega) ?_
      refine am_iload rfl dX10_digest_167 ?_
      refine mm_iconst dX10_digest_169 ?_
      refine mm_irem dX10_digest_170 (by omega) (by omega) ?_
      refine am_ci (mm_V3 dX10_digest_171 in_X10_toldOf mk_X10_215 im_X10_toldOf sl_X10_toldOf ⟨Nat.le_of_ble_eq_true rfl, Nat.le_of_ble_eq_true rfl⟩ rfl (md_0 hm) (Nat.le_of_ble_eq_true rfl)) (m_toldOf hm (by omega) (by omega) (by omega)) ?_
      refine mm_i2l dX10_digest_174 (by have := mtoldOf_R (S := S) (r := r) (i := (x : Int) / 3) (w := (x : Int) % 3) hq0; omega) ?_
      refine mm_ladd dX10_digest_175 ?_
      refine am_lst1 dX10_digest_176 (Nat.le_of_ble_eq_true rfl) (am_c1r _) ?_
      refine mm_inc4 dX10_digest_177 (Nat.le_of_ble_eq_true rfl) (am_c1i _) ?_
      refine am_goto (tgt := 143) dX10_digest_180 (by decide) ?_
      exact ih (x + 1) (by omega) (by omega)
set_option maxRecDepth 100000 in
set_option maxHeartbeats 4000000 in
theorem l_mdr {sh : List mm_H} {S : mm_S} {L : mm_L} (hm : mdS sh) (hv : mdV S) (hq0 : mdQ S) {h : Int} : ∀ (q : Nat) (r : Nat), (S 181 9).toNat - r < q → ((r : Int) ≤ S 181 9) → am_AW eX10_digest (mm sh S L) 118 [some (.ref 181), some (.long (lI (mDr S h r))), none, some (.int (iI ((r : Nat) : Int))), none, none] [] (fun r0 M' => r0 = some (.long (lI (mDr S h (S 181 9).toNat))) ∧ M' = mm sh S L) := by
  intro q
  induction q with
  | zero =>
    intro r hq
    exact absurd hq (Nat.not_lt_zero _)
  | succ q ih =>
    intro r hq hr
    have hn1 := hv.2.1
    refine am_iload_n rfl dX10_digest_118 ?_
    refine am_aload_n rfl dX10_digest_119 ?_
    refine mm_getI dX10_digest_120 fl_X10_200 (md_0 hm) mdf_9 ?_
    refine mm_jge (tgt := 189) dX10_digest_123 (by decide) (by omega) (by omega) (fun h123 => ?_) (fun h123 => ?_)
    · refine am_lload_n rfl dX10_digest_189 ?_
      refine am_lreturn dX10_digest_190 rfl ?_
      exact ⟨by rw [show (S 181 9).toNat = r by omega], rfl⟩
    · refine am_ldc2 cc_X10_229 dX10_digest_126 ?_
      refine am_lload_n rfl dX10_digest_129 ?_
      refine mm_lmul dX10_digest_130 ?_
      refine am_aload_n rfl dX10_digest_131 ?_
      refine mm_getR dX10_digest_132 fl_X10_36 (md_0 hm) mdf_10 ?_
      refine am_iload_n rfl dX10_digest_135 ?_
      refine mm_ial dX10_digest_136 (md_many hm) (by omega) ?_
      rw [Int.toNat_natCast]
      refine mm_i2l dX10_digest_137 (by have := hv.2.2.2.2 r (by omega); omega) ?_
      refine mm_ladd dX10_digest_138 ?_
      refine am_lst1 dX10_digest_139 (Nat.le_of_ble_eq_true rfl) (am_c1r _) ?_
      refine mm_iconst dX10_digest_140 ?_
      refine am_ist4 dX10_digest_141 (Nat.le_of_ble_eq_true rfl) (am_c1i _) ?_
      refine l_mdx hm hv hq0 (by omega) ?_ 76 0 (by have := hv.2.2.2.2 r (by omega); omega) (by have := hv.2.2.2.2 r (by omega); omega)
      refine mm_inc3 dX10_digest_183 (Nat.le_of_ble_eq_true rfl) am_c1n ?_
      refine am_goto (tgt := 118) dX10_digest_186 (by decide) ?_
      exact am_AW.unset 4 (ih (r + 1) (by omega) (by omega))
set_option maxRecDepth 100000 in
set_option maxHeartbeats 4000000 in
theorem l_mdk {sh : List mm_H} {S : mm_S} {L : mm_L} (hm : mdS sh) (hv : mdV S) (hq0 : mdQ S) : ∀ (q : Nat) (k : Nat), (S 181 0).toNat - k < q → ((k : Int) ≤ S 181 0) → am_AW eX10_digest (mm sh S L) 6 [some (.ref 181), some (.long (lI (mDk S k))), none, some (.int (iI ((k : Nat) : Int))), none, none] [] (fun r0 M' => r0 = some (.long (lI (mDig S))) ∧ M' = mm sh S L) := by
  intro q
  induction q with
  | zero =>
    intro k hq
    exact absurd hq (Nat.not_lt_zero _)
  | succ q ih =>
    intro k hq hk
    have hn0 := hv.1
    refine am_iload_n rfl dX10_digest_6 ?_
    refine am_aload_n rfl dX10_digest_7 ?_
    refine mm_getI dX10_digest_8 fl_X10_141 (md_0 hm) mdf_0 ?_
    refine mm_jge (tgt := 116) dX10_digest_11 (by decide) (by omega) (by omega) (fun h11 => ?_) (fun h11 => ?_)
    · refine mm_iconst dX10_digest_116 ?_
      refine am_ist3 dX10_digest_117 (Nat.le_of_ble_eq_true rfl) am_c1n ?_
      have e : (S 181 0).toNat = k := by omega
      unfold mDig
      rw [e]
      exact l_mdr hm hv hq0 7 0 (by have := hv.2.1; omega) (by have := hv.2.1; omega)
    · refine am_ldc2 cc_X10_229 dX10_digest_14 ?_
      refine am_ldc2 cc_X10_229 dX10_digest_17 ?_
      refine am_lload_n rfl dX10_digest_20 ?_
      refine mm_lmul dX10_digest_21 ?_
      refine am_aload_n rfl dX10_digest_22 ?_
      refine mm_getR dX10_digest_23 fl_X10_7 (md_0 hm) mdf_1 ?_
      refine am_iload_n rfl dX10_digest_26 ?_
      refine mm_ial dX10_digest_27 (md_states hm) (by omega) ?_
      rw [Int.toNat_natCast]
      refine mm_i2l dX10_digest_28 (by have := hv.2.2.1 k (by omega); omega) ?_
      refine mm_ladd dX10_digest_29 ?_
      refine mm_lmul dX10_digest_30 ?_
      refine am_aload_n rfl dX10_digest_31 ?_
      refine mm_getR dX10_digest_32 fl_X10_13 (md_0 hm) mdf_2 ?_
      refine am_iload_n rfl dX10_digest_35 ?_
      refine mm_ial dX10_digest_36 (md_ends hm) (by omega) ?_
      rw [Int.toNat_natCast]
      refine mm_i2l dX10_digest_37 (by have := hv.2.2.1 k (by omega); omega) ?_
      refine mm_ladd dX10_digest_38 ?_
      refine am_lst1 dX10_digest_39 (Nat.le_of_ble_eq_true rfl) (am_c1r _) ?_
      refine mm_iconst dX10_digest_40 ?_
      refine am_ist4 dX10_digest_41 (Nat.le_of_ble_eq_true rfl) (am_c1i _) ?_
      refine l_mds hm hv hq0 (by omega) ?_ 7 0 (by have := hv.2.2.1 k (by omega); omega) (by have := hv.2.2.1 k (by omega); omega)
      refine mm_inc3 dX10_digest_110 (Nat.le_of_ble_eq_true rfl) am_c1n ?_
      refine am_goto (tgt := 6) dX10_digest_113 (by decide) ?_
      exact am_AW.unset 4 (ih (k + 1) (by omega) (by omega))
set_option maxRecDepth 100000 in
set_option maxHeartbeats 4000000 in
theorem m_digest {sh : List mm_H} {S : mm_S} {L : mm_L} (hm : mdS sh) (hv : mdV S) (hq0 : mdQ S) : am_E eX10_digest [.ref 181] (mm sh S L) (fun r M' => r = some (.long (lI (mDig S))) ∧ M' = mm sh S L) := by
  refine am_enter rfl rfl (Nat.le_of_ble_eq_true rfl) ?_
  refine am_ldc2 cc_X10_420 dX10_digest_0 ?_
  refine am_lst1 dX10_digest_3 (Nat.le_of_ble_eq_true rfl) (am_c1r _) ?_
  refine mm_iconst dX10_digest_4 ?_
  refine am_ist3 dX10_digest_5 (Nat.le_of_ble_eq_true rfl) am_c1n ?_
  exact l_mdk hm hv hq0 7 0 (by have := hv.1; omega) (by have := hv.1; omega)
