theorem mfF.mv {S S' : mm_S} (h : mfF S S') (hv : mdV S) : mdV S' := by
  unfold mdV
  rw [h 181 (by omega) (by omega) (by omega), h 182 (by omega) (by omega) (by omega), h 183 (by omega) (by omega) (by omega), h 184 (by omega) (by omega) (by omega), h 185 (by omega) (by omega) (by omega), h 189 (by omega) (by omega) (by omega)]
  exact hv
theorem mfF.H {S S' : mm_S} {k s n : Int} (h : mfF S S') : mH S' k s n ↔ mH S k s n := by
  unfold mH
  rw [h 184 (by omega) (by omega) (by omega)]
theorem mfF.kF {S S' : mm_S} {k s n : Int} {y : Prop} [Decidable y] (h : mfF S S') : mF S' k s n y = mF S k s n y := by
  unfold mF
  rw [h 184 (by omega) (by omega) (by omega), h 185 (by omega) (by omega) (by omega)]
theorem mfF.Par {S S' : mm_S} {k p s t : Nat} (h : mfF S S') : mPar S' k p s t ↔ mPar S k p s t := by
  unfold mPar mpF mH mA mE
  rw [h 184 (by omega) (by omega) (by omega), h 185 (by omega) (by omega) (by omega), h 183 (by omega) (by omega) (by omega)]
def mkW (S : mm_S) (k : Nat) : Prop := ∀ i, i < 48 → S 184 (48 * k + i) < S 182 k ∧ S 185 (48 * k + i) < S 182 k
theorem mF_st {S : mm_S} {k s n : Nat} {y : Prop} [Decidable y] (hv : mdV S) (hw : mkW S k) (hs : s < 6) (hn : n < 8) (h : mH S k s n) : 0 ≤ mF S k s n y ∧ mF S k s n y < S 182 k := by
  have e : (48 * (k : Int) + 8 * s + n).toNat = 48 * k + (8 * s + n) := by omega
  unfold mH at h
  unfold mF
  rw [e] at h ⊢
  have h1 := hv.2.2.2.1 (48 * k + (8 * s + n))
  have h3 := hw (8 * s + n) (by omega)
  split
  · omega
  · rename_i hc
    have : ¬ S 185 (48 * k + (8 * s + n)) = -1 := fun z => hc (Or.inr z)
    omega
set_option maxRecDepth 100000 in
set_option maxHeartbeats 4000000 in
theorem t_next0 {sh : List mm_H} {S : mm_S} {L : mm_L} (hm : mdS sh) (hv : mdV S) {S' : mm_S} {l : List (Nat × Nat)} {k p s t n i d q : Nat} {z9 : Option Value} {Q : Option Value → am_M → Prop} (hF : mfF S S') (hI : mfI S' l) (hL : lOK l) (hk : k < 6) (hp : p < 6) (hs : s < 6) (ht : t < 6) (hn : n < 8) (hi : l[i]? = some (6 * s + t, d)) (hd : d + 1 ≤ 40) (hq : 6 * mF S k s n True + mF S p t n True = (q : Int)) (hq36 : q < 36) (hc : ∀ S1, mfI S1 (fnd (d + 1) l q) → mfF S' S1 → am_AW eX10_partedAt (mm sh S1 L) 217 [some (.ref 181), some (.int (iI (k : Int))), some (.int (iI (p : Int))), some (.int (iI (((fnd (d + 1) l q).length : Nat) : Int))), some (.int (iI (i : Int))), some (.int (iI (s : Int))), some (.int (iI (t : Int))), some (.int (iI (n : Int))), some (.int (iI (0))), some (.int (iI (q : Int)))] [] Q) : am_AW eX10_partedAt (mm sh S' L) 129 [some (.ref 181), some (.int (iI (k : Int))), some (.int (iI (p : Int))), some (.int (iI ((l.length : Nat) : Int))), some (.int (iI (i : Int))), some (.int (iI (s : Int))), some (.int (iI (t : Int))), some (.int (iI (n : Int))), some (.int (iI (0))), z9] [] Q := by
  have hil : i < l.length := (List.getElem?_eq_some_iff.mp hi).1
  have hlen := hL.len
  refine mm_bipush dX10_partedAt_129 (by decide) ?_
  refine am_aload_n rfl dX10_partedAt_131 ?_
  refine am_iload_n rfl dX10_partedAt_132 ?_
  refine am_iload rfl dX10_partedAt_133 ?_
  refine am_iload rfl dX10_partedAt_135 ?_
  refine am_iload rfl dX10_partedAt_137 ?_
  refine mm_zne (tgt := 146) dX10_partedAt_139 (by decide) (by omega) (fun h139 => ?_) (fun h139 => ?_)
  · exfalso; omega
  · refine mm_iconst dX10_partedAt_142 ?_
    refine am_goto (tgt := 147) dX10_partedAt_143 (by decide) ?_
    refine am_ci (mm_V4 dX10_partedAt_147 in_X10_led mk_X10_163 im_X10_led sl_X10_led ⟨Nat.le_of_ble_eq_true rfl, Nat.le_of_ble_eq_true rfl⟩ rfl (md_0 hm) (Nat.le_of_ble_eq_true rfl)) (m_led (y := True) hm (hF.mv hv) (by omega) (by omega) (by omega)) ?_
    rw [hF.kF]
    refine mm_imul dX10_partedAt_150 ?_
    refine am_aload_n rfl dX10_partedAt_151 ?_
    refine am_iload_n rfl dX10_partedAt_152 ?_
    refine am_iload rfl dX10_partedAt_153 ?_
    refine am_iload rfl dX10_partedAt_155 ?_
    refine am_iload rfl dX10_partedAt_157 ?_
    refine mm_zne (tgt := 166) dX10_partedAt_159 (by decide) (by omega) (fun h159 => ?_) (fun h159 => ?_)
    · exfalso; omega
    · refine mm_iconst dX10_partedAt_162 ?_
      refine am_goto (tgt := 167) dX10_partedAt_163 (by decide) ?_
      refine am_ci (mm_V4 dX10_partedAt_167 in_X10_led mk_X10_163 im_X10_led sl_X10_led ⟨Nat.le_of_ble_eq_true rfl, Nat.le_of_ble_eq_true rfl⟩ rfl (md_0 hm) (Nat.le_of_ble_eq_true rfl)) (m_led (y := True) hm (hF.mv hv) (by omega) (by omega) (by omega)) ?_
      rw [hF.kF]
      refine mm_iadd dX10_partedAt_170 ?_
      rw [hq]
      refine am_ist9 dX10_partedAt_171 (Nat.le_of_ble_eq_true rfl) (am_c1i _) ?_
      refine am_aload_n rfl dX10_partedAt_173 ?_
      refine mm_getR dX10_partedAt_174 fl_X10_32 (md_0 hm) mdf_8 ?_
      refine am_iload rfl dX10_partedAt_177 ?_
      refine mm_bal dX10_partedAt_179 (md_pairMet hm) (by omega) ?_
      rw [Int.toNat_natCast, hI.2 q hq36]
      refine mm_zne (tgt := 217) dX10_partedAt_180 (by decide) (by split <;> omega) (fun h180 => ?_) (fun h180 => ?_)
      · first
          | (have hm9 : q ∈ l.map Prod.fst := Classical.byContradiction (fun z => h180 (by rw [if_neg z]))
             have h9 := hc S' (mfI_old hI hm9) (mfF.rf S')
             rw [fnd_len_old hm9] at h9
             exact h9)
          | (have h9 := hc _ (mfI_new (d := d + 1) hI hm9 rfl) (fun b b1 b2 b3 => by rw [up2_row b2, up2_row b1, up2_row b3])
             rw [fnd_len_new hm9] at h9
             exact h9)
      · have hm9 : q ∉ l.map Prod.fst := fun z => by rw [if_pos z] at h180; omega
        have hlt : l.length < 36 := by have := (lOK_fnd hL (q := q) (d := d + 1) hq36 hd).len; rw [fnd_len_new hm9] at this; omega
        refine am_aload_n rfl dX10_partedAt_183 ?_
        refine mm_getR dX10_partedAt_184 fl_X10_32 (md_0 hm) mdf_8 ?_
        refine am_iload rfl dX10_partedAt_187 ?_
        refine mm_iconst dX10_partedAt_189 ?_
        refine mm_bas dX10_partedAt_190 (md_pairMet hm) (by omega) (Or.inr rfl) ?_
        rw [Int.toNat_natCast]
        refine am_aload_n rfl dX10_partedAt_191 ?_
        refine mm_getR dX10_partedAt_192 fl_X10_26 (md_0 hm) mdf_6 ?_
        refine am_iload_n rfl dX10_partedAt_195 ?_
        refine am_iload rfl dX10_partedAt_196 ?_
        refine mm_ias dX10_partedAt_198 (md_pair hm) (by omega) ?_
        rw [Int.toNat_natCast]
        refine am_aload_n rfl dX10_partedAt_199 ?_
        refine mm_getR dX10_partedAt_200 fl_X10_29 (md_0 hm) mdf_7 ?_
        refine am_iload_n rfl dX10_partedAt_203 ?_
        refine am_aload_n rfl dX10_partedAt_204 ?_
        refine mm_getR dX10_partedAt_205 fl_X10_29 (md_0 hm) mdf_7 ?_
        refine am_iload rfl dX10_partedAt_208 ?_
        refine mm_ial dX10_partedAt_210 (md_pairFar hm) (by omega) ?_
        try simp (disch := omega) only [up2_rd, up2_rc, up2_same]
        rw [Int.toNat_natCast, (hI.1 i _ d hi).2]
        refine mm_iconst dX10_partedAt_211 ?_
        refine mm_iadd dX10_partedAt_212 ?_
        refine mm_ias dX10_partedAt_213 (md_pairFar hm) (by omega) ?_
        rw [Int.toNat_natCast]
        refine mm_inc3 dX10_partedAt_214 (Nat.le_of_ble_eq_true rfl) (am_c1i _) ?_
        first
          | (have hm9 : q ∈ l.map Prod.fst := Classical.byContradiction (fun z => h180 (by rw [if_neg z]))
             have h9 := hc S' (mfI_old hI hm9) (mfF.rf S')
             rw [fnd_len_old hm9] at h9
             exact h9)
          | (have h9 := hc _ (mfI_new (d := d + 1) hI hm9 rfl) (fun b b1 b2 b3 => by rw [up2_row b2, up2_row b1, up2_row b3])
             rw [fnd_len_new hm9] at h9
             exact h9)
set_option maxRecDepth 100000 in
set_option maxHeartbeats 4000000 in
theorem t_next1 {sh : List mm_H} {S : mm_S} {L : mm_L} (hm : mdS sh) (hv : mdV S) {S' : mm_S} {l : List (Nat × Nat)} {k p s t n i d q : Nat} {z9 : Option Value} {Q : Option Value → am_M → Prop} (hF : mfF S S') (hI : mfI S' l) (hL : lOK l) (hk : k < 6) (hp : p < 6) (hs : s < 6) (ht : t < 6) (hn : n < 8) (hi : l[i]? = some (6 * s + t, d)) (hd : d + 1 ≤ 40) (hq : 6 * mF S k s n False + mF S p t n False = (q : Int)) (hq36 : q < 36) (hc : ∀ S1, mfI S1 (fnd (d + 1) l q) → mfF S' S1 → am_AW eX10_partedAt (mm sh S1 L) 217 [some (.ref 181), some (.int (iI (k : Int))), some (.int (iI (p : Int))), some (.int (iI (((fnd (d + 1) l q).length : Nat) : Int))), some (.int (iI (i : Int))), some (.int (iI (s : Int))), some (.int (iI (t : Int))), some (.int (iI (n : Int))), some (.int (iI (1))), some (.int (iI (q : Int)))] [] Q) : am_AW eX10_partedAt (mm sh S' L) 129 [some (.ref 181), some (.int (iI (k : Int))), some (.int (iI (p : Int))), some (.int (iI ((l.length : Nat) : Int))), some (.int (iI (i : Int))), some (.int (iI (s : Int))), some (.int (iI (t : Int))), some (.int (iI (n : Int))), some (.int (iI (1))), z9] [] Q := by
  have hil : i < l.length := (List.getElem?_eq_some_iff.mp hi).1
  have hlen := hL.len
  refine mm_bipush dX10_partedAt_129 (by decide) ?_
  refine am_aload_n rfl dX10_partedAt_131 ?_
  refine am_iload_n rfl dX10_partedAt_132 ?_
  refine am_iload rfl dX10_partedAt_133 ?_
  refine am_iload rfl dX10_partedAt_135 ?_
  refine am_iload rfl dX10_partedAt_137 ?_
  refine mm_zne (tgt := 146) dX10_partedAt_139 (by decide) (by omega) (fun h139 => ?_) (fun h139 => ?_)
  · refine mm_iconst dX10_partedAt_146 ?_
    refine am_ci (mm_V4 dX10_partedAt_147 in_X10_led mk_X10_163 im_X10_led sl_X10_led ⟨Nat.le_of_ble_eq_true rfl, Nat.le_of_ble_eq_true rfl⟩ rfl (md_0 hm) (Nat.le_of_ble_eq_true rfl)) (m_led (y := False) hm (hF.mv hv) (by omega) (by omega) (by omega)) ?_
    rw [hF.kF]
    refine mm_imul dX10_partedAt_150 ?_
    refine am_aload_n rfl dX10_partedAt_151 ?_
    refine am_iload_n rfl dX10_partedAt_152 ?_
    refine am_iload rfl dX10_partedAt_153 ?_
    refine am_iload rfl dX10_partedAt_155 ?_
    refine am_iload rfl dX10_partedAt_157 ?_
    refine mm_zne (tgt := 166) dX10_partedAt_159 (by decide) (by omega) (fun h159 => ?_) (fun h159 => ?_)
    · refine mm_iconst dX10_partedAt_166 ?_
      refine am_ci (mm_V4 dX10_partedAt_167 in_X10_led mk_X10_163 im_X10_led sl_X10_led ⟨Nat.le_of_ble_eq_true rfl, Nat.le_of_ble_eq_true rfl⟩ rfl (md_0 hm) (Nat.le_of_ble_eq_true rfl)) (m_led (y := False) hm (hF.mv hv) (by omega) (by omega) (by omega)) ?_
      rw [hF.kF]
      refine mm_iadd dX10_partedAt_170 ?_
      rw [hq]
      refine am_ist9 dX10_partedAt_171 (Nat.le_of_ble_eq_true rfl) (am_c1i _) ?_
      refine am_aload_n rfl dX10_partedAt_173 ?_
      refine mm_getR dX10_partedAt_174 fl_X10_32 (md_0 hm) mdf_8 ?_
      refine am_iload rfl dX10_partedAt_177 ?_
      refine mm_bal dX10_partedAt_179 (md_pairMet hm) (by omega) ?_
      rw [Int.toNat_natCast, hI.2 q hq36]
      refine mm_zne (tgt := 217) dX10_partedAt_180 (by decide) (by split <;> omega) (fun h180 => ?_) (fun h180 => ?_)
      · first
          | (have hm9 : q ∈ l.map Prod.fst := Classical.byContradiction (fun z => h180 (by rw [if_neg z]))
             have h9 := hc S' (mfI_old hI hm9) (mfF.rf S')
             rw [fnd_len_old hm9] at h9
             exact h9)
          | (have h9 := hc _ (mfI_new (d := d + 1) hI hm9 rfl) (fun b b1 b2 b3 => by rw [up2_row b2, up2_row b1, up2_row b3])
             rw [fnd_len_new hm9] at h9
             exact h9)
      · have hm9 : q ∉ l.map Prod.fst := fun z => by rw [if_pos z] at h180; omega
        have hlt : l.length < 36 := by have := (lOK_fnd hL (q := q) (d := d + 1) hq36 hd).len; rw [fnd_len_new hm9] at this; omega
        refine am_aload_n rfl dX10_partedAt_183 ?_
        refine mm_getR dX10_partedAt_184 fl_X10_32 (md_0 hm) mdf_8 ?_
        refine am_iload rfl dX10_partedAt_187 ?_
        refine mm_iconst dX10_partedAt_189 ?_
        refine mm_bas dX10_partedAt_190 (md_pairMet hm) (by omega) (Or.inr rfl) ?_
        rw [Int.toNat_natCast]
        refine am_aload_n rfl dX10_partedAt_191 ?_
        refine mm_getR dX10_partedAt_192 fl_X10_26 (md_0 hm) mdf_6 ?_
        refine am_iload_n rfl dX10_partedAt_195 ?_
        refine am_iload rfl dX10_partedAt_196 ?_
        refine mm_ias dX10_partedAt_198 (md_pair hm) (by omega) ?_
        rw [Int.toNat_natCast]
        refine am_aload_n rfl dX10_partedAt_199 ?_
        refine mm_getR dX10_partedAt_200 fl_X10_29 (md_0 hm) mdf_7 ?_
        refine am_iload_n rfl dX10_partedAt_203 ?_
        refine am_aload_n rfl dX10_partedAt_204 ?_
        refine mm_getR dX10_partedAt_205 fl_X10_29 (md_0 hm) mdf_7 ?_
        refine am_iload rfl dX10_partedAt_208 ?_
        refine mm_ial dX10_partedAt_210 (md_pairFar hm) (by omega) ?_
        try simp (disch := omega) only [up2_rd, up2_rc, up2_same]
        rw [Int.toNat_natCast, (hI.1 i _ d hi).2]
        refine mm_iconst dX10_partedAt_211 ?_
        refine mm_iadd dX10_partedAt_212 ?_
        refine mm_ias dX10_partedAt_213 (md_pairFar hm) (by omega) ?_
        rw [Int.toNat_natCast]
        refine mm_inc3 dX10_partedAt_214 (Nat.le_of_ble_eq_true rfl) (am_c1i _) ?_
        first
          | (have hm9 : q ∈ l.map Prod.fst := Classical.byContradiction (fun z => h180 (by rw [if_neg z]))
             have h9 := hc S' (mfI_old hI hm9) (mfF.rf S')
             rw [fnd_len_old hm9] at h9
             exact h9)
          | (have h9 := hc _ (mfI_new (d := d + 1) hI hm9 rfl) (fun b b1 b2 b3 => by rw [up2_row b2, up2_row b1, up2_row b3])
             rw [fnd_len_new hm9] at h9
             exact h9)
    · exfalso; omega
  · exfalso; omega
