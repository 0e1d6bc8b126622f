/-! ===== as both begin ===== -/
def swA : List mm_H := .inr (9, [.inr (some 1), .inr (some 82), .inr (some 85), .inr (some 138), .inr (some 180), .inl false, .inl false]) :: (bkB 1 ++ (ftB 82 ++ (jdB 85 ++ (rnB 138 ++ [.inl (0, 6, fun _ => none)]))))
def zS0 : mm_S := fun _ _ => 0
def swI : mm_S := up2 (jdS zS0 85) 0 6 (-1)
def mdH : List mm_H := .inr (10, mdOf 181) :: mdA
def shI : List mm_H := swA ++ mdH
def stI : mm_S := mdI swI 181 288
theorem swA_len : swA.length = 181 := by
  unfold swA
  simp only [List.length_append, List.length_cons, List.length_nil, bkB_len, ftB_len, jdB_len, rnB_len]
theorem zS_0 (n : Nat) : zS zS0 n := fun _ _ _ => rfl
theorem n_sw0 : am_E eX9_init [.ref 0] (mm [sw0] zS0 zL) (fun r M' => r = none ∧ M' = mm swA swI zL) := n_sw (A := []) (zS_0 0)
theorem swI_z : zS swI 181 := fun b hb j => by
  have h : zS (jdS zS0 85) (85 + 53) := jdS_z (zS_0 0) (Nat.zero_le _)
  unfold swI
  rw [up2_row (by omega)]
  exact h b (by omega) j
theorem n_md0 : am_E eX10_init [.ref 181] (mm (swA ++ [md0]) swI zL) (fun r M' => r = none ∧ M' = mm shI stI zL) := by
  have h := n_md (A := swA) (S := swI) (by rw [swA_len]; exact swI_z)
  rw [swA_len] at h
  exact h
theorem sI_lo {a : Nat} (h : a < 181) : shI[a]? = swA[a]? := by
  unfold shI
  rw [List.getElem?_append_left (by rw [swA_len]; exact h)]
theorem sI_hi (i : Nat) : shI[181 + i]? = mdH[i]? := by
  have h := ap_i (A := swA) (B := mdH) i
  rw [swA_len] at h
  exact h
theorem sA_bk {i : Nat} (h : i < 81) : swA[i + 1]? = (bkB 1)[i]? := by
  show (bkB 1 ++ (ftB 82 ++ (jdB 85 ++ (rnB 138 ++ [.inl (0, 6, fun _ => none)]))))[i]? = _
  rw [List.getElem?_append_left (by rw [bkB_len]; exact h)]
theorem sA_ft {i : Nat} (h : i < 3) : swA[i + 82]? = (ftB 82)[i]? := by
  show (bkB 1 ++ (ftB 82 ++ (jdB 85 ++ (rnB 138 ++ [.inl (0, 6, fun _ => none)]))))[i + 81]? = _
  rw [List.getElem?_append_right (by rw [bkB_len]; omega), bkB_len, show i + 81 - 81 = i by omega, List.getElem?_append_left (by rw [ftB_len]; exact h)]
theorem sA_jd {i : Nat} (h : i < 53) : swA[i + 85]? = (jdB 85)[i]? := by
  show (bkB 1 ++ (ftB 82 ++ (jdB 85 ++ (rnB 138 ++ [.inl (0, 6, fun _ => none)]))))[i + 84]? = _
  rw [List.getElem?_append_right (by rw [bkB_len]; omega), bkB_len, List.getElem?_append_right (by rw [ftB_len]; omega), ftB_len, show i + 84 - 81 - 3 = i by omega, List.getElem?_append_left (by rw [jdB_len]; exact h)]
theorem sA_rn {i : Nat} (h : i < 42) : swA[i + 138]? = (rnB 138)[i]? := by
  show (bkB 1 ++ (ftB 82 ++ (jdB 85 ++ (rnB 138 ++ [.inl (0, 6, fun _ => none)]))))[i + 137]? = _
  rw [List.getElem?_append_right (by rw [bkB_len]; omega), bkB_len, List.getElem?_append_right (by rw [ftB_len]; omega), ftB_len, List.getElem?_append_right (by rw [jdB_len]; omega), jdB_len, show i + 137 - 81 - 3 - 53 = i by omega, List.getElem?_append_left (by rw [rnB_len]; exact h)]
theorem sA_180 : swA[180]? = some (.inl (0, 6, fun _ => none)) := by
  show (bkB 1 ++ (ftB 82 ++ (jdB 85 ++ (rnB 138 ++ [.inl (0, 6, fun _ => none)]))))[179]? = _
  rw [List.getElem?_append_right (by rw [bkB_len]; omega), bkB_len, List.getElem?_append_right (by rw [ftB_len]; omega), ftB_len, List.getElem?_append_right (by rw [jdB_len]; omega), jdB_len, List.getElem?_append_right (by rw [rnB_len]; omega), rnB_len]
  rfl
theorem bk_kd {k t : Nat} (hk : k < 6) (ht : t < 3) : (bkB 1)[3 * k + t + 3]? = (kdB (4 + 3 * k))[t]? := by
  show (blks kdB 4 3 6 ++ blks rtB 22 10 6)[3 * k + t]? = _
  rw [List.getElem?_append_left (by rw [blks_len (f := kdB) (w := 3) (fun _ => rfl)]; omega), blks_get (f := kdB) (w := 3) (fun _ => rfl) 6 k t hk ht]
theorem bk_rt {r t : Nat} (hr : r < 6) (ht : t < 10) : (bkB 1)[10 * r + t + 21]? = (rtB (22 + 10 * r))[t]? := by
  show (blks kdB 4 3 6 ++ blks rtB 22 10 6)[10 * r + t + 18]? = _
  rw [List.getElem?_append_right (by rw [blks_len (f := kdB) (w := 3) (fun _ => rfl)]; omega), blks_len (f := kdB) (w := 3) (fun _ => rfl), show 10 * r + t + 18 - 3 * 6 = 10 * r + t by omega, blks_get (f := rtB) (w := 10) (fun _ => rfl) 6 r t hr ht]
theorem jd_cs {k : Nat} (hk : k < 40) : (jdB 85)[k + 13]? = some cs0 := by
  show (blks (fun _ => [cs0]) 98 1 40)[k]? = _
  have h := blks_get (f := fun _ => [cs0]) (n0 := 98) (w := 1) (fun _ => rfl) 40 k 0 hk (by omega)
  rw [show 1 * k + 0 = k by omega] at h
  rw [h]
  rfl
theorem rn_sc {i t : Nat} (hi : i < 10) (ht : t < 4) : (rnB 138)[4 * i + t + 2]? = (scB (140 + 4 * i))[t]? := by
  show (blks scB 140 4 10)[4 * i + t]? = _
  rw [blks_get (f := scB) (w := 4) (fun _ => rfl) 10 i t hi ht]
theorem SHP_I : SHP shI := by
  have lk : ∀ {k t : Nat}, k < 6 → t < 3 → shI[4 + 3 * k + t]? = (kdB (4 + 3 * k))[t]? := fun {k t} hk ht => by
    rw [sI_lo (by omega), show 4 + 3 * k + t = (3 * k + t + 3) + 1 by omega, sA_bk (by omega), bk_kd hk ht]
  have lr : ∀ {r t : Nat}, r < 6 → t < 10 → shI[22 + 10 * r + t]? = (rtB (22 + 10 * r))[t]? := fun {r t} hr ht => by
    rw [sI_lo (by omega), show 22 + 10 * r + t = (10 * r + t + 21) + 1 by omega, sA_bk (by omega), bk_rt hr ht]
  have ls : ∀ {i t : Nat}, i < 10 → t < 4 → shI[140 + 4 * i + t]? = (scB (140 + 4 * i))[t]? := fun {i t} hi ht => by
    rw [sI_lo (by omega), show 140 + 4 * i + t = (4 * i + t + 2) + 138 by omega, sA_rn (by omega), rn_sc hi ht]
  have lj : ∀ i, i < 53 → shI[i + 85]? = (jdB 85)[i]? := fun i hi => by rw [sI_lo (by omega), sA_jd hi]
  refine ⟨?_, ⟨?_, ?_, ?_, fun k hk => ⟨(lk hk (t := 0) (by omega)).trans rfl, (lk hk (t := 1) (by omega)).trans rfl, (lk hk (t := 2) (by omega)).trans rfl⟩, fun r hr => ⟨(lr hr (t := 0) (by omega)).trans rfl, (lr hr (t := 1) (by omega)).trans rfl, (lr hr (t := 2) (by omega)).trans rfl, (lr hr (t := 3) (by omega)).trans rfl, (lr hr (t := 4) (by omega)).trans rfl, (lr hr (t := 5) (by omega)).trans rfl, (lr hr (t := 6) (by omega)).trans rfl, (lr hr (t := 7) (by omega)).trans rfl, (lr hr (t := 8) (by omega)).trans rfl, (lr hr (t := 9) (by omega)).trans rfl⟩⟩, ⟨?_, ?_, ?_⟩, ⟨?_, ?_, ?_, ?_, ?_, ⟨?_, ?_, ?_, ?_⟩, fun q hq => ?_, ?_⟩, ⟨?_, ?_, fun i hi => ⟨(ls hi (t := 0) (by omega)).trans rfl, (ls hi (t := 1) (by omega)).trans rfl, (ls hi (t := 2) (by omega)).trans rfl, (ls hi (t := 3) (by omega)).trans rfl⟩⟩, ?_, ⟨?_, ?_⟩⟩
  · rw [swS, sI_lo (by omega)]; rfl
  · rw [sI_lo (by omega)]; exact (sA_bk (i := 0) (by omega)).trans rfl
  · rw [sI_lo (by omega)]; exact (sA_bk (i := 1) (by omega)).trans rfl
  · rw [sI_lo (by omega)]; exact (sA_bk (i := 2) (by omega)).trans rfl
  · rw [sI_lo (by omega)]; exact (sA_ft (i := 0) (by omega)).trans rfl
  · rw [sI_lo (by omega)]; exact (sA_ft (i := 1) (by omega)).trans rfl
  · rw [sI_lo (by omega)]; exact (sA_ft (i := 2) (by omega)).trans rfl
  · exact (lj 0 (by omega)).trans rfl
  · exact (lj 5 (by omega)).trans (congrArg (fun z => some (Sum.inl (3, 40, z))) (funext fun j => by unfold gA caArr; rw [Nat.one_mul]))
  · exact (lj 6 (by omega)).trans rfl
  · exact (lj 7 (by omega)).trans rfl
  · exact (lj 8 (by omega)).trans rfl
  · exact (lj 9 (by omega)).trans rfl
  · exact (lj 10 (by omega)).trans rfl
  · exact (lj 11 (by omega)).trans rfl
  · exact (lj 12 (by omega)).trans rfl
  · rw [show 98 + q = q + 13 + 85 by omega, lj (q + 13) (by omega), jd_cs hq]; rfl
  · unfold shI
    rw [List.length_append, swA_len]
    exact Nat.le_of_ble_eq_true rfl
  · rw [sI_lo (by omega)]; exact (sA_rn (i := 0) (by omega)).trans rfl
  · rw [sI_lo (by omega)]; exact (sA_rn (i := 1) (by omega)).trans rfl
  · rw [sI_lo (by omega)]; exact sA_180
  · exact (sI_hi 0).trans rfl
  · have h1 : ∀ q ∈ mdTab, mdH[q.1 - 181]? = some (.inl (q.2.1, q.2.2, fun _ => none)) := List.forall_mem_cons.mpr ⟨rfl, List.forall_mem_cons.mpr ⟨rfl, List.forall_mem_cons.mpr ⟨rfl, List.forall_mem_cons.mpr ⟨rfl, List.forall_mem_cons.mpr ⟨rfl, List.forall_mem_cons.mpr ⟨rfl, List.forall_mem_cons.mpr ⟨rfl, List.forall_mem_cons.mpr ⟨rfl, List.forall_mem_cons.mpr ⟨rfl, List.forall_mem_cons.mpr ⟨rfl, List.forall_mem_cons.mpr ⟨rfl, List.forall_mem_cons.mpr ⟨rfl, List.forall_mem_cons.mpr ⟨rfl, List.forall_mem_cons.mpr ⟨rfl, List.forall_mem_cons.mpr ⟨rfl, List.forall_mem_cons.mpr ⟨rfl, List.forall_mem_cons.mpr ⟨rfl, List.forall_mem_cons.mpr ⟨rfl, List.forall_mem_cons.mpr ⟨rfl, List.forall_mem_cons.mpr ⟨rfl, List.forall_mem_cons.mpr ⟨rfl, List.forall_mem_cons.mpr ⟨rfl, List.forall_mem_cons.mpr ⟨rfl, List.forall_mem_cons.mpr ⟨rfl, List.forall_mem_cons.mpr ⟨rfl, List.forall_mem_cons.mpr ⟨rfl, List.forall_mem_cons.mpr ⟨rfl, List.forall_mem_cons.mpr ⟨rfl, List.forall_mem_cons.mpr ⟨rfl, List.forall_mem_cons.mpr ⟨rfl, List.forall_mem_cons.mpr ⟨rfl, List.forall_mem_cons.mpr ⟨rfl, List.forall_mem_cons.mpr ⟨rfl, List.forall_mem_cons.mpr ⟨rfl, List.forall_mem_cons.mpr ⟨rfl, List.forall_mem_cons.mpr ⟨rfl, List.forall_mem_cons.mpr ⟨rfl, List.forall_mem_cons.mpr ⟨rfl, List.forall_mem_cons.mpr ⟨rfl, List.forall_mem_cons.mpr ⟨rfl, List.forall_mem_cons.mpr ⟨rfl, fun q h => absurd h List.not_mem_nil⟩⟩⟩⟩⟩⟩⟩⟩⟩⟩⟩⟩⟩⟩⟩⟩⟩⟩⟩⟩⟩⟩⟩⟩⟩⟩⟩⟩⟩⟩⟩⟩⟩⟩⟩⟩⟩⟩⟩⟩⟩
    have h2 : ∀ q ∈ mdTab, 181 ≤ q.1 := by decide
    intro q hq
    have h3 := h2 q hq
    have h4 := sI_hi (q.1 - 181)
    rw [show 181 + (q.1 - 181) = q.1 by omega] at h4
    rw [h4]
    exact h1 q hq
theorem stI_eq (b j : Nat) : stI b j = if b = 185 ∧ j < 288 then -1 else if b = 184 ∧ j < 288 then -1 else if b = 181 ∧ j = 5 then -1 else if b = 0 ∧ j = 6 then -1 else if b = 91 ∧ j < 433 then -1 else if 98 ≤ b ∧ b < 138 then (if j = 1 then 2 else if j = 6 then -1 else 0) else 0 := rfl
theorem stI_z {b : Nat} (h0 : b ≠ 0) (h1 : b ≠ 91) (h2 : b < 98 ∨ 138 ≤ b) (h3 : b ≠ 181) (h4 : b ≠ 184) (h5 : b ≠ 185) (j : Nat) : stI b j = 0 := by
  rw [stI_eq]
  rw [if_neg (by omega), if_neg (by omega), if_neg (by omega), if_neg (by omega), if_neg (by omega), if_neg (by omega)]
theorem stI_0 {j : Nat} (h : j ≠ 6) : stI 0 j = 0 := by
  rw [stI_eq]
  rw [if_neg (by omega), if_neg (by omega), if_neg (by omega), if_neg (by omega), if_neg (by omega), if_neg (by omega)]
theorem stI_06 : stI 0 6 = -1 := rfl
theorem stI_181 {j : Nat} (h : j ≠ 5) : stI 181 j = 0 := by
  rw [stI_eq]
  rw [if_neg (by omega), if_neg (by omega), if_neg (by omega), if_neg (by omega), if_neg (by omega), if_neg (by omega)]
theorem stI_1815 : stI 181 5 = -1 := rfl
theorem stI_184 (j : Nat) : stI 184 j = -1 ∨ stI 184 j = 0 := by
  rw [stI_eq]
  rw [if_neg (by omega)]
  by_cases h : j < 288
  · rw [if_pos (by omega)]; exact Or.inl rfl
  · rw [if_neg (by omega), if_neg (by omega), if_neg (by omega), if_neg (by omega), if_neg (by omega)]; exact Or.inr rfl
theorem stI_185 (j : Nat) : stI 185 j = -1 ∨ stI 185 j = 0 := by
  rw [stI_eq]
  by_cases h : j < 288
  · rw [if_pos (by omega)]; exact Or.inl rfl
  · rw [if_neg (by omega), if_neg (by omega), if_neg (by omega), if_neg (by omega), if_neg (by omega), if_neg (by omega)]; exact Or.inr rfl
theorem stI_91 {j : Nat} (h : j < 433) : stI 91 j = -1 := by
  rw [stI_eq]
  rw [if_neg (by omega), if_neg (by omega), if_neg (by omega), if_neg (by omega), if_pos (by omega)]
theorem BK_I : BK stI := by
  have k0 : stI 181 0 = 0 := stI_181 (by omega)
  have k9 : stI 181 9 = 0 := stI_181 (by omega)
  have z : ∀ b, 1 ≤ b → b < 85 → ∀ j, stI b j = 0 := fun b x y j => stI_z (by omega) (by omega) (by omega) (by omega) (by omega) (by omega) j
  have y : ∀ b, 182 ≤ b → b ≠ 184 → b ≠ 185 → ∀ j, stI b j = 0 := fun b x1 x2 x3 j => stI_z (by omega) (by omega) (by omega) (by omega) (by omega) (by omega) j
  refine ⟨⟨⟨by omega, by omega, fun k hk => ?_, fun i => ?_, fun r hr => ?_⟩, fun r hr => by omega, fun i => ?_, fun k hk => by omega, fun r hr => by omega⟩, ⟨by rw [z 1 (by omega) (by omega), k0], by rw [z 1 (by omega) (by omega), k9], fun k hk => ?_, fun r hr => ?_⟩, ⟨fun k hk i hi => ?_, fun k hk => by omega⟩, ⟨fun r hr => ?_, fun r hr _ => z _ (by omega) (by omega) 0⟩, by rw [stI_06, stI_1815]⟩
  · rw [y 182 (by omega) (by omega) (by omega), y 183 (by omega) (by omega) (by omega)]; omega
  · have := stI_184 i
    have := stI_185 i
    omega
  · rw [y 189 (by omega) (by omega) (by omega)]; omega
  · rw [y 190 (by omega) (by omega) (by omega), y 191 (by omega) (by omega) (by omega), y 192 (by omega) (by omega) (by omega)]; omega
  · rw [z 1 (by omega) (by omega)] at hk; omega
  · rw [z 1 (by omega) (by omega)] at hr; omega
  · exact ⟨z _ (by omega) (by omega) i, z _ (by omega) (by omega) i⟩
  · have e0 := z (22 + 10 * r) (by omega) (by omega) 0
    refine ⟨by omega, ?_, ?_, ?_, fun i => ?_⟩
    · rw [e0]
      intro i hi
      exact absurd hi (Nat.not_lt_zero _)
    · rw [e0]
      refine ⟨?_, fun j hj => absurd hj (Nat.not_lt_zero _)⟩
      unfold lkB
      have e1 := z (22 + 10 * r) (by omega) (by omega) 1
      simp [stk, e1]
    · rw [e0]
      exact z _ (by omega) (by omega) _
    · rw [z (22 + 10 * r + 1) (by omega) (by omega), z (22 + 10 * r + 2) (by omega) (by omega), z (22 + 10 * r + 3) (by omega) (by omega)]; omega
theorem shI_len : shI.length = 223 := by
  unfold shI
  rw [List.length_append, swA_len]
  rfl
theorem shI_z : shz shI ≤ 5000000 := by decide +kernel
theorem INV_I : INV shI stI zL := by
  have lj : ∀ i, i < 53 → shI[i + 85]? = (jdB 85)[i]? := fun i hi => by rw [sI_lo (by omega), sA_jd hi]
  have z : ∀ b, b ≠ 0 → b ≠ 91 → (b < 98 ∨ 138 ≤ b) → b < 181 ∨ 185 < b → ∀ j, stI b j = 0 := fun b x1 x2 x3 x4 j => stI_z x1 x2 x3 (by omega) (by omega) (by omega) j
  have h26 : stI 181 26 = 0 := stI_181 (by omega)
  have h27 : stI 181 27 = 0 := stI_181 (by omega)
  have h60 : stI 181 60 = 0 := stI_181 (by omega)
  have hq : qsM stI zL := ⟨⟨by omega, fun c hc => by omega⟩, fun c hc => by omega, fun c k hc => by omega, fun x hx => by rw [z 213 (by omega) (by omega) (by omega) (by omega)]; omega, Or.inl h26⟩
  have hs : scV stI 94 := by
    unfold scV
    refine ⟨?_, ?_, ?_, fun v hv => ?_, fun j hj => ?_⟩
    · rw [z 94 (by omega) (by omega) (by omega) (by omega)]; omega
    · rw [z 94 (by omega) (by omega) (by omega) (by omega)]; omega
    · rw [z 94 (by omega) (by omega) (by omega) (by omega)]; omega
    · rw [z (94 + 1) (by omega) (by omega) (by omega) (by omega)]; omega
    · rw [z (94 + 2) (by omega) (by omega) (by omega) (by omega), z (94 + 3) (by omega) (by omega) (by omega) (by omega)]; omega
  refine ⟨SHP_I, BK_I, ⟨87, 88, 89, 128, ⟨(lj 1 (by omega)).trans rfl, (lj 2 (by omega)).trans rfl, (lj 3 (by omega)).trans rfl, (lj 4 (by omega)).trans rfl⟩, ⟨by omega, by omega, 0, by omega, rfl⟩, ⟨shz shI, shI_z, rfl, 0, by omega, rfl, shI_len⟩, ?_⟩, ⟨?_, ?_⟩, fun w hw => ?_, fun i hi => ?_⟩
  · refine jA_0 h26 (Or.inl (z 85 (by omega) (by omega) (by omega) (by omega) 0)) (Or.inl (stI_181 (by omega))) (z 85 (by omega) (by omega) (by omega) (by omega) 1) (z 85 (by omega) (by omega) (by omega) (by omega) 2) (z 86 (by omega) (by omega) (by omega) (by omega) 0) (fun q hq => stI_91 hq) (fun x hx => z 92 (by omega) (by omega) (by omega) (by omega) x) hs hq
  · exact Or.inl (stI_0 (by omega))
  · rw [stI_0 (by omega), h60]
  · rw [z 180 (by omega) (by omega) (by omega) (by omega), z 222 (by omega) (by omega) (by omega) (by omega)]
  · intro j hj
    rw [z (140 + 4 * i + 2) (by omega) (by omega) (by omega) (by omega), z (140 + 4 * i + 3) (by omega) (by omega) (by omega) (by omega)]
    omega
