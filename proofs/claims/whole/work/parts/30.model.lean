/-! ===== The reference, at 181; its rows at 182 .. 222 ===== -/
def mdFd : List (Bool ⊕ Option Nat) := [.inl false, .inr (some 182), .inr (some 183), .inr (some 184), .inr (some 185), .inl false, .inr (some 186), .inr (some 187), .inr (some 188), .inl false, .inr (some 189), .inr (some 190), .inr (some 191), .inr (some 192), .inr (some 193), .inr (some 194), .inr (some 195), .inr (some 196), .inr (some 197), .inl false, .inr (some 198), .inr (some 199), .inl false, .inr (some 200), .inr (some 201), .inr (some 202), .inl false, .inl false, .inr (some 203), .inr (some 204), .inr (some 205), .inr (some 206), .inr (some 207), .inr (some 208), .inr (some 209), .inr (some 210), .inr (some 211), .inr (some 212), .inr (some 213), .inl false, .inl false, .inl false, .inr (some 214), .inr (some 215), .inr (some 216), .inl false, .inr (some 217), .inr (some 218), .inr (some 219), .inr (some 220), .inr (some 221), .inl true, .inl false, .inl false, .inl false, .inl false, .inl false, .inl false, .inl false, .inr (some 222), .inl false, .inl false]
theorem mdf_0 : mdFd[0]? = some (.inl false) := rfl
theorem mdf_1 : mdFd[1]? = some (.inr (some 182)) := rfl
theorem mdf_2 : mdFd[2]? = some (.inr (some 183)) := rfl
theorem mdf_3 : mdFd[3]? = some (.inr (some 184)) := rfl
theorem mdf_4 : mdFd[4]? = some (.inr (some 185)) := rfl
theorem mdf_5 : mdFd[5]? = some (.inl false) := rfl
theorem mdf_6 : mdFd[6]? = some (.inr (some 186)) := rfl
theorem mdf_7 : mdFd[7]? = some (.inr (some 187)) := rfl
theorem mdf_8 : mdFd[8]? = some (.inr (some 188)) := rfl
theorem mdf_9 : mdFd[9]? = some (.inl false) := rfl
theorem mdf_10 : mdFd[10]? = some (.inr (some 189)) := rfl
theorem mdf_11 : mdFd[11]? = some (.inr (some 190)) := rfl
theorem mdf_12 : mdFd[12]? = some (.inr (some 191)) := rfl
theorem mdf_13 : mdFd[13]? = some (.inr (some 192)) := rfl
theorem mdf_14 : mdFd[14]? = some (.inr (some 193)) := rfl
theorem mdf_15 : mdFd[15]? = some (.inr (some 194)) := rfl
theorem mdf_16 : mdFd[16]? = some (.inr (some 195)) := rfl
theorem mdf_17 : mdFd[17]? = some (.inr (some 196)) := rfl
theorem mdf_18 : mdFd[18]? = some (.inr (some 197)) := rfl
theorem mdf_19 : mdFd[19]? = some (.inl false) := rfl
theorem mdf_20 : mdFd[20]? = some (.inr (some 198)) := rfl
theorem mdf_21 : mdFd[21]? = some (.inr (some 199)) := rfl
theorem mdf_22 : mdFd[22]? = some (.inl false) := rfl
theorem mdf_23 : mdFd[23]? = some (.inr (some 200)) := rfl
theorem mdf_24 : mdFd[24]? = some (.inr (some 201)) := rfl
theorem mdf_25 : mdFd[25]? = some (.inr (some 202)) := rfl
theorem mdf_26 : mdFd[26]? = some (.inl false) := rfl
theorem mdf_27 : mdFd[27]? = some (.inl false) := rfl
theorem mdf_28 : mdFd[28]? = some (.inr (some 203)) := rfl
theorem mdf_29 : mdFd[29]? = some (.inr (some 204)) := rfl
theorem mdf_30 : mdFd[30]? = some (.inr (some 205)) := rfl
theorem mdf_31 : mdFd[31]? = some (.inr (some 206)) := rfl
theorem mdf_32 : mdFd[32]? = some (.inr (some 207)) := rfl
theorem mdf_33 : mdFd[33]? = some (.inr (some 208)) := rfl
theorem mdf_34 : mdFd[34]? = some (.inr (some 209)) := rfl
theorem mdf_35 : mdFd[35]? = some (.inr (some 210)) := rfl
theorem mdf_36 : mdFd[36]? = some (.inr (some 211)) := rfl
theorem mdf_37 : mdFd[37]? = some (.inr (some 212)) := rfl
theorem mdf_38 : mdFd[38]? = some (.inr (some 213)) := rfl
theorem mdf_39 : mdFd[39]? = some (.inl false) := rfl
theorem mdf_40 : mdFd[40]? = some (.inl false) := rfl
theorem mdf_41 : mdFd[41]? = some (.inl false) := rfl
theorem mdf_42 : mdFd[42]? = some (.inr (some 214)) := rfl
theorem mdf_43 : mdFd[43]? = some (.inr (some 215)) := rfl
theorem mdf_44 : mdFd[44]? = some (.inr (some 216)) := rfl
theorem mdf_45 : mdFd[45]? = some (.inl false) := rfl
theorem mdf_46 : mdFd[46]? = some (.inr (some 217)) := rfl
theorem mdf_47 : mdFd[47]? = some (.inr (some 218)) := rfl
theorem mdf_48 : mdFd[48]? = some (.inr (some 219)) := rfl
theorem mdf_49 : mdFd[49]? = some (.inr (some 220)) := rfl
theorem mdf_50 : mdFd[50]? = some (.inr (some 221)) := rfl
theorem mdf_51 : mdFd[51]? = some (.inl true) := rfl
theorem mdf_52 : mdFd[52]? = some (.inl false) := rfl
theorem mdf_53 : mdFd[53]? = some (.inl false) := rfl
theorem mdf_54 : mdFd[54]? = some (.inl false) := rfl
theorem mdf_55 : mdFd[55]? = some (.inl false) := rfl
theorem mdf_56 : mdFd[56]? = some (.inl false) := rfl
theorem mdf_57 : mdFd[57]? = some (.inl false) := rfl
theorem mdf_58 : mdFd[58]? = some (.inl false) := rfl
theorem mdf_59 : mdFd[59]? = some (.inr (some 222)) := rfl
theorem mdf_60 : mdFd[60]? = some (.inl false) := rfl
theorem mdf_61 : mdFd[61]? = some (.inl false) := rfl
def mdTab : List (Nat × Nat × Nat) := [(182, 0, 6), (183, 0, 6), (184, 0, 288), (185, 0, 288), (186, 0, 36), (187, 0, 36), (188, 2, 36), (189, 0, 6), (190, 0, 150), (191, 0, 150), (192, 0, 150), (193, 0, 150), (194, 0, 150), (195, 0, 150), (196, 0, 150), (197, 0, 6), (198, 0, 5), (199, 0, 5), (200, 0, 6), (201, 0, 5), (202, 0, 7), (203, 0, 40), (204, 0, 40), (205, 0, 40), (206, 0, 40), (207, 0, 40), (208, 0, 40), (209, 0, 40), (210, 0, 80000), (211, 1, 80000), (212, 0, 163840), (213, 0, 150), (214, 0, 500), (215, 0, 500), (216, 0, 500), (217, 0, 10), (218, 0, 10), (219, 0, 10), (220, 0, 50), (221, 0, 60), (222, 0, 6)]
def mdS (sh : List mm_H) : Prop := sh[181]? = some (.inr (10, mdFd)) ∧ ∀ q ∈ mdTab, sh[q.1]? = some (.inl (q.2.1, q.2.2, fun _ => none))
theorem md_states {sh : List mm_H} (h : mdS sh) : sh[182]? = some (.inl (0, 6, fun _ => none)) := h.2 (182, 0, 6) (List.mem_of_getElem? (i := 0) rfl)
theorem md_ends {sh : List mm_H} (h : mdS sh) : sh[183]? = some (.inl (0, 6, fun _ => none)) := h.2 (183, 0, 6) (List.mem_of_getElem? (i := 1) rfl)
theorem md_byYes {sh : List mm_H} (h : mdS sh) : sh[184]? = some (.inl (0, 288, fun _ => none)) := h.2 (184, 0, 288) (List.mem_of_getElem? (i := 2) rfl)
theorem md_byNo {sh : List mm_H} (h : mdS sh) : sh[185]? = some (.inl (0, 288, fun _ => none)) := h.2 (185, 0, 288) (List.mem_of_getElem? (i := 3) rfl)
theorem md_pair {sh : List mm_H} (h : mdS sh) : sh[186]? = some (.inl (0, 36, fun _ => none)) := h.2 (186, 0, 36) (List.mem_of_getElem? (i := 4) rfl)
theorem md_pairFar {sh : List mm_H} (h : mdS sh) : sh[187]? = some (.inl (0, 36, fun _ => none)) := h.2 (187, 0, 36) (List.mem_of_getElem? (i := 5) rfl)
theorem md_pairMet {sh : List mm_H} (h : mdS sh) : sh[188]? = some (.inl (2, 36, fun _ => none)) := h.2 (188, 2, 36) (List.mem_of_getElem? (i := 6) rfl)
theorem md_many {sh : List mm_H} (h : mdS sh) : sh[189]? = some (.inl (0, 6, fun _ => none)) := h.2 (189, 0, 6) (List.mem_of_getElem? (i := 7) rfl)
theorem md_sortAt {sh : List mm_H} (h : mdS sh) : sh[190]? = some (.inl (0, 150, fun _ => none)) := h.2 (190, 0, 150) (List.mem_of_getElem? (i := 8) rfl)
theorem md_aAt {sh : List mm_H} (h : mdS sh) : sh[191]? = some (.inl (0, 150, fun _ => none)) := h.2 (191, 0, 150) (List.mem_of_getElem? (i := 9) rfl)
theorem md_bAt {sh : List mm_H} (h : mdS sh) : sh[192]? = some (.inl (0, 150, fun _ => none)) := h.2 (192, 0, 150) (List.mem_of_getElem? (i := 10) rfl)
theorem md_openAt {sh : List mm_H} (h : mdS sh) : sh[193]? = some (.inl (0, 150, fun _ => none)) := h.2 (193, 0, 150) (List.mem_of_getElem? (i := 11) rfl)
theorem md_midAt {sh : List mm_H} (h : mdS sh) : sh[194]? = some (.inl (0, 150, fun _ => none)) := h.2 (194, 0, 150) (List.mem_of_getElem? (i := 12) rfl)
theorem md_endAt {sh : List mm_H} (h : mdS sh) : sh[195]? = some (.inl (0, 150, fun _ => none)) := h.2 (195, 0, 150) (List.mem_of_getElem? (i := 13) rfl)
theorem md_around {sh : List mm_H} (h : mdS sh) : sh[196]? = some (.inl (0, 150, fun _ => none)) := h.2 (196, 0, 150) (List.mem_of_getElem? (i := 14) rfl)
theorem md_pile {sh : List mm_H} (h : mdS sh) : sh[197]? = some (.inl (0, 6, fun _ => none)) := h.2 (197, 0, 6) (List.mem_of_getElem? (i := 15) rfl)
theorem md_var {sh : List mm_H} (h : mdS sh) : sh[198]? = some (.inl (0, 5, fun _ => none)) := h.2 (198, 0, 5) (List.mem_of_getElem? (i := 16) rfl)
theorem md_own {sh : List mm_H} (h : mdS sh) : sh[199]? = some (.inl (0, 5, fun _ => none)) := h.2 (199, 0, 5) (List.mem_of_getElem? (i := 17) rfl)
theorem md_pend {sh : List mm_H} (h : mdS sh) : sh[200]? = some (.inl (0, 6, fun _ => none)) := h.2 (200, 0, 6) (List.mem_of_getElem? (i := 18) rfl)
theorem md_fresh {sh : List mm_H} (h : mdS sh) : sh[201]? = some (.inl (0, 5, fun _ => none)) := h.2 (201, 0, 5) (List.mem_of_getElem? (i := 19) rfl)
theorem md_numbered {sh : List mm_H} (h : mdS sh) : sh[202]? = some (.inl (0, 7, fun _ => none)) := h.2 (202, 0, 7) (List.mem_of_getElem? (i := 20) rfl)
theorem md_caseSort {sh : List mm_H} (h : mdS sh) : sh[203]? = some (.inl (0, 40, fun _ => none)) := h.2 (203, 0, 40) (List.mem_of_getElem? (i := 21) rfl)
theorem md_caseRoutine {sh : List mm_H} (h : mdS sh) : sh[204]? = some (.inl (0, 40, fun _ => none)) := h.2 (204, 0, 40) (List.mem_of_getElem? (i := 22) rfl)
theorem md_caseKind {sh : List mm_H} (h : mdS sh) : sh[205]? = some (.inl (0, 40, fun _ => none)) := h.2 (205, 0, 40) (List.mem_of_getElem? (i := 23) rfl)
theorem md_caseState {sh : List mm_H} (h : mdS sh) : sh[206]? = some (.inl (0, 40, fun _ => none)) := h.2 (206, 0, 40) (List.mem_of_getElem? (i := 24) rfl)
theorem md_ok {sh : List mm_H} (h : mdS sh) : sh[207]? = some (.inl (0, 40, fun _ => none)) := h.2 (207, 0, 40) (List.mem_of_getElem? (i := 25) rfl)
theorem md_failing {sh : List mm_H} (h : mdS sh) : sh[208]? = some (.inl (0, 40, fun _ => none)) := h.2 (208, 0, 40) (List.mem_of_getElem? (i := 26) rfl)
theorem md_size {sh : List mm_H} (h : mdS sh) : sh[209]? = some (.inl (0, 40, fun _ => none)) := h.2 (209, 0, 40) (List.mem_of_getElem? (i := 27) rfl)
theorem md_placeAt {sh : List mm_H} (h : mdS sh) : sh[210]? = some (.inl (0, 80000, fun _ => none)) := h.2 (210, 0, 80000) (List.mem_of_getElem? (i := 28) rfl)
theorem md_packed {sh : List mm_H} (h : mdS sh) : sh[211]? = some (.inl (1, 80000, fun _ => none)) := h.2 (211, 1, 80000) (List.mem_of_getElem? (i := 29) rfl)
theorem md_table {sh : List mm_H} (h : mdS sh) : sh[212]? = some (.inl (0, 163840, fun _ => none)) := h.2 (212, 0, 163840) (List.mem_of_getElem? (i := 30) rfl)
theorem md_wrongs {sh : List mm_H} (h : mdS sh) : sh[213]? = some (.inl (0, 150, fun _ => none)) := h.2 (213, 0, 150) (List.mem_of_getElem? (i := 31) rfl)
theorem md_thingKind {sh : List mm_H} (h : mdS sh) : sh[214]? = some (.inl (0, 500, fun _ => none)) := h.2 (214, 0, 500) (List.mem_of_getElem? (i := 32) rfl)
theorem md_thingState {sh : List mm_H} (h : mdS sh) : sh[215]? = some (.inl (0, 500, fun _ => none)) := h.2 (215, 0, 500) (List.mem_of_getElem? (i := 33) rfl)
theorem md_thingOf {sh : List mm_H} (h : mdS sh) : sh[216]? = some (.inl (0, 500, fun _ => none)) := h.2 (216, 0, 500) (List.mem_of_getElem? (i := 34) rfl)
theorem md_atRoutine {sh : List mm_H} (h : mdS sh) : sh[217]? = some (.inl (0, 10, fun _ => none)) := h.2 (217, 0, 10) (List.mem_of_getElem? (i := 35) rfl)
theorem md_atPlace {sh : List mm_H} (h : mdS sh) : sh[218]? = some (.inl (0, 10, fun _ => none)) := h.2 (218, 0, 10) (List.mem_of_getElem? (i := 36) rfl)
theorem md_atLent {sh : List mm_H} (h : mdS sh) : sh[219]? = some (.inl (0, 10, fun _ => none)) := h.2 (219, 0, 10) (List.mem_of_getElem? (i := 37) rfl)
theorem md_names {sh : List mm_H} (h : mdS sh) : sh[220]? = some (.inl (0, 50, fun _ => none)) := h.2 (220, 0, 50) (List.mem_of_getElem? (i := 38) rfl)
theorem md_goesOn {sh : List mm_H} (h : mdS sh) : sh[221]? = some (.inl (0, 60, fun _ => none)) := h.2 (221, 0, 60) (List.mem_of_getElem? (i := 39) rfl)
theorem md_ended {sh : List mm_H} (h : mdS sh) : sh[222]? = some (.inl (0, 6, fun _ => none)) := h.2 (222, 0, 6) (List.mem_of_getElem? (i := 40) rfl)
theorem md_0 {sh : List mm_H} (h : mdS sh) : sh[181]? = some (.inr (10, mdFd)) := h.1
/-- what the reference's numbers keep to -/
def mdV (S : mm_S) : Prop := (0 ≤ S 181 0 ∧ S 181 0 ≤ 6) ∧ (0 ≤ S 181 9 ∧ S 181 9 ≤ 6) ∧ (∀ k : Nat, k < 6 → 0 ≤ S 182 k ∧ S 182 k ≤ 6 ∧ 0 ≤ S 183 k ∧ S 183 k < 64) ∧ (∀ i, -1 ≤ S 184 i ∧ S 184 i ≤ 5 ∧ -1 ≤ S 185 i ∧ S 185 i ≤ 5) ∧ ∀ r : Nat, r < 6 → 0 ≤ S 189 r ∧ S 189 r ≤ 24
set_option maxRecDepth 100000 in
set_option maxHeartbeats 4000000 in
theorem m_in {M : am_M} {x a b : Int} (hx : Rg x) (ha : Rg a) (hb : Rg b) : am_E eX10_in [.int (iI x), .int (iI a), .int (iI b)] M (fun r M' => r = some (.int (iI (b2 (a ≤ x ∧ x ≤ b)))) ∧ M' = M) := by
  refine am_enter rfl rfl (Nat.le_of_ble_eq_true rfl) ?_
  refine am_iload_n rfl dX10_in_0 ?_
  refine am_iload_n rfl dX10_in_1 ?_
  refine mm_jlt (tgt := 14) dX10_in_2 (by decide) (by omega) (by omega) (fun h2 => ?_) (fun h2 => ?_)
  · refine mm_iconst dX10_in_14 ?_
    refine am_ireturn dX10_in_15 rfl rfl ?_
    first | exact ⟨mm_rt (by omega), rfl⟩ | exact ⟨mm_rf (by omega), rfl⟩
  · refine am_iload_n rfl dX10_in_5 ?_
    refine am_iload_n rfl dX10_in_6 ?_
    refine mm_jgt (tgt := 14) dX10_in_7 (by decide) (by omega) (by omega) (fun h7 => ?_) (fun h7 => ?_)
    · refine mm_iconst dX10_in_14 ?_
      refine am_ireturn dX10_in_15 rfl rfl ?_
      first | exact ⟨mm_rt (by omega), rfl⟩ | exact ⟨mm_rf (by omega), rfl⟩
    · refine mm_iconst dX10_in_10 ?_
      refine am_goto (tgt := 15) dX10_in_11 (by decide) ?_
      refine am_ireturn dX10_in_15 rfl rfl ?_
      first | exact ⟨mm_rt (by omega), rfl⟩ | exact ⟨mm_rf (by omega), rfl⟩
abbrev mK (S : mm_S) (k : Int) : Prop := 0 ≤ k ∧ k < S 181 0
abbrev mSt (S : mm_S) (k s : Int) : Prop := mK S k ∧ 0 ≤ s ∧ s < S 182 k.toNat
abbrev mR (S : mm_S) (r : Int) : Prop := 0 ≤ r ∧ r < S 181 9
set_option maxRecDepth 100000 in
set_option maxHeartbeats 4000000 in
theorem m_isKind {sh : List mm_H} {S : mm_S} {L : mm_L} (hm : mdS sh) (hv : mdV S) {k : Int} (hk : Rg k) : am_E eX10_isKind [.ref 181, .int (iI k)] (mm sh S L) (fun r M' => r = some (.int (iI (b2 (mK S k)))) ∧ M' = mm sh S L) := by
  obtain ⟨u0, u1, u2, u3, u4⟩ := hv
  refine am_enter rfl rfl (Nat.le_of_ble_eq_true rfl) ?_
  refine am_iload_n rfl dX10_isKind_0 ?_
  refine mm_iconst dX10_isKind_1 ?_
  refine am_aload_n rfl dX10_isKind_2 ?_
  refine mm_getI dX10_isKind_3 fl_X10_141 (md_0 hm) mdf_0 ?_
  refine mm_iconst dX10_isKind_6 ?_
  refine mm_isub dX10_isKind_7 ?_
  refine am_ci (mm_S3 dX10_isKind_8 in_X10_in mk_X10_144 st_X10_in ⟨Nat.le_of_ble_eq_true rfl, Nat.le_of_ble_eq_true rfl⟩ (Nat.le_of_ble_eq_true rfl)) (m_in hk (by omega) (by omega)) ?_
  refine am_ireturn dX10_isKind_11 rfl (mm_nz (b2_R _)) ?_
  exact ⟨mm_rb (by omega), rfl⟩
set_option maxRecDepth 100000 in
set_option maxHeartbeats 4000000 in
theorem m_isRoutine {sh : List mm_H} {S : mm_S} {L : mm_L} (hm : mdS sh) (hv : mdV S) {k : Int} (hk : Rg k) : am_E eX10_isRoutine [.ref 181, .int (iI k)] (mm sh S L) (fun r M' => r = some (.int (iI (b2 (mR S k)))) ∧ M' = mm sh S L) := by
  obtain ⟨u0, u1, u2, u3, u4⟩ := hv
  refine am_enter rfl rfl (Nat.le_of_ble_eq_true rfl) ?_
  refine am_iload_n rfl dX10_isRoutine_0 ?_
  refine mm_iconst dX10_isRoutine_1 ?_
  refine am_aload_n rfl dX10_isRoutine_2 ?_
  refine mm_getI dX10_isRoutine_3 fl_X10_200 (md_0 hm) mdf_9 ?_
  refine mm_iconst dX10_isRoutine_6 ?_
  refine mm_isub dX10_isRoutine_7 ?_
  refine am_ci (mm_S3 dX10_isRoutine_8 in_X10_in mk_X10_144 st_X10_in ⟨Nat.le_of_ble_eq_true rfl, Nat.le_of_ble_eq_true rfl⟩ (Nat.le_of_ble_eq_true rfl)) (m_in hk (by omega) (by omega)) ?_
  refine am_ireturn dX10_isRoutine_11 rfl (mm_nz (b2_R _)) ?_
  exact ⟨mm_rb (by omega), rfl⟩
set_option maxRecDepth 100000 in
set_option maxHeartbeats 4000000 in
theorem m_isState {sh : List mm_H} {S : mm_S} {L : mm_L} (hm : mdS sh) (hv : mdV S) {k s : Int} (hk : Rg k) (hs : Rg s) : am_E eX10_isState [.ref 181, .int (iI k), .int (iI s)] (mm sh S L) (fun r M' => r = some (.int (iI (b2 (mSt S k s)))) ∧ M' = mm sh S L) := by
  obtain ⟨u0, u1, u2, u3, u4⟩ := hv
  refine am_enter rfl rfl (Nat.le_of_ble_eq_true rfl) ?_
  refine am_aload_n rfl dX10_isState_0 ?_
  refine am_iload_n rfl dX10_isState_1 ?_
  refine am_ci (mm_V1 dX10_isState_2 in_X10_isKind mk_X10_148 im_X10_isKind sl_X10_isKind ⟨Nat.le_of_ble_eq_true rfl, Nat.le_of_ble_eq_true rfl⟩ rfl (md_0 hm) (Nat.le_of_ble_eq_true rfl)) (m_isKind hm ⟨u0, u1, u2, u3, u4⟩ hk) ?_
  refine mm_beq (tgt := 28) dX10_isState_5 (by decide) (fun h5 => ?_) (fun h5 => ?_)
  · refine mm_iconst dX10_isState_28 ?_
    refine am_ireturn dX10_isState_29 rfl rfl ?_
    first | exact ⟨mm_rt (by omega), rfl⟩ | exact ⟨mm_rf (by omega), rfl⟩
  · refine am_iload_n rfl dX10_isState_8 ?_
    refine mm_iconst dX10_isState_9 ?_
    refine am_aload_n rfl dX10_isState_10 ?_
    refine mm_getR dX10_isState_11 fl_X10_7 (md_0 hm) mdf_1 ?_
    refine am_iload_n rfl dX10_isState_14 ?_
    refine mm_ial dX10_isState_15 (md_states hm) ⟨by omega, by omega, by omega⟩ ?_
    refine mm_iconst dX10_isState_16 ?_
    refine mm_isub dX10_isState_17 ?_
    refine am_ci (mm_S3 dX10_isState_18 in_X10_in mk_X10_144 st_X10_in ⟨Nat.le_of_ble_eq_true rfl, Nat.le_of_ble_eq_true rfl⟩ (Nat.le_of_ble_eq_true rfl)) (m_in hs (by omega) (by have := u2 k.toNat (by omega); omega)) ?_
    refine mm_beq (tgt := 28) dX10_isState_21 (by decide) (fun h21 => ?_) (fun h21 => ?_)
    · refine mm_iconst dX10_isState_28 ?_
      refine am_ireturn dX10_isState_29 rfl rfl ?_
      first | exact ⟨mm_rt (by omega), rfl⟩ | exact ⟨mm_rf (by omega), rfl⟩
    · refine mm_iconst dX10_isState_24 ?_
      refine am_goto (tgt := 29) dX10_isState_25 (by decide) ?_
      refine am_ireturn dX10_isState_29 rfl rfl ?_
      first | exact ⟨mm_rt (by omega), rfl⟩ | exact ⟨mm_rf (by omega), rfl⟩
set_option maxRecDepth 100000 in
set_option maxHeartbeats 4000000 in
theorem m_useAt {M : am_M} {k s n : Int} : am_E eX10_useAt [.int (iI k), .int (iI s), .int (iI n)] M (fun r M' => r = some (.int (iI (48 * k + 8 * s + n))) ∧ M' = M) := by
  refine am_enter rfl rfl (Nat.le_of_ble_eq_true rfl) ?_
  refine mm_bipush dX10_useAt_0 (by decide) ?_
  refine am_iload_n rfl dX10_useAt_2 ?_
  refine mm_imul dX10_useAt_3 ?_
  refine mm_bipush dX10_useAt_4 (by decide) ?_
  refine am_iload_n rfl dX10_useAt_6 ?_
  refine mm_imul dX10_useAt_7 ?_
  refine mm_iadd dX10_useAt_8 ?_
  refine am_iload_n rfl dX10_useAt_9 ?_
  refine mm_iadd dX10_useAt_10 ?_
  refine am_ireturn dX10_useAt_11 rfl rfl ?_
  exact ⟨rfl, rfl⟩
abbrev mH (S : mm_S) (k s n : Int) : Prop := S 184 (48 * k + 8 * s + n).toNat ≠ -1
abbrev mA (S : mm_S) (k s n : Int) : Prop := S 185 (48 * k + 8 * s + n).toNat ≠ -1
def mF (S : mm_S) (k s n : Int) (y : Prop) [Decidable y] : Int := if y ∨ S 185 (48 * k + 8 * s + n).toNat = -1 then S 184 (48 * k + 8 * s + n).toNat else S 185 (48 * k + 8 * s + n).toNat
abbrev mE (S : mm_S) (k s : Int) : Prop := S 183 k.toNat / 2 ^ s.toNat % 2 = 1
set_option maxRecDepth 100000 in
set_option maxHeartbeats 4000000 in
theorem m_has {sh : List mm_H} {S : mm_S} {L : mm_L} (hm : mdS sh) (hv : mdV S) {k s n : Int} (hk : 0 ≤ k ∧ k < 6) (hs : 0 ≤ s ∧ s < 6) (hn : 0 ≤ n ∧ n < 8) : am_E eX10_has [.ref 181, .int (iI k), .int (iI s), .int (iI n)] (mm sh S L) (fun r M' => r = some (.int (iI (b2 (mH S k s n)))) ∧ M' = mm sh S L) := by
  obtain ⟨u0, u1, u2, u3, u4⟩ := hv
  refine am_enter rfl rfl (Nat.le_of_ble_eq_true rfl) ?_
  refine am_aload_n rfl dX10_has_0 ?_
  refine mm_getR dX10_has_1 fl_X10_16 (md_0 hm) mdf_3 ?_
  refine am_iload_n rfl dX10_has_4 ?_
  refine am_iload_n rfl dX10_has_5 ?_
  refine am_iload_n rfl dX10_has_6 ?_
  refine am_ci (mm_S3 dX10_has_7 in_X10_useAt mk_X10_152 st_X10_useAt ⟨Nat.le_of_ble_eq_true rfl, Nat.le_of_ble_eq_true rfl⟩ (Nat.le_of_ble_eq_true rfl)) (m_useAt) ?_
  refine mm_ial dX10_has_10 (md_byYes hm) ⟨by omega, by omega, by omega⟩ ?_
  refine mm_iconst dX10_has_11 ?_
  refine mm_jeq (tgt := 19) dX10_has_12 (by decide) (by have := u3 (48 * k + 8 * s + n).toNat; omega) (by have := u3 (48 * k + 8 * s + n).toNat; omega) (fun h12 => ?_) (fun h12 => ?_)
  · refine mm_iconst dX10_has_19 ?_
    refine am_ireturn dX10_has_20 rfl rfl ?_
    first | exact ⟨mm_rt (by omega), rfl⟩ | exact ⟨mm_rf (by omega), rfl⟩
  · refine mm_iconst dX10_has_15 ?_
    refine am_goto (tgt := 20) dX10_has_16 (by decide) ?_
    refine am_ireturn dX10_has_20 rfl rfl ?_
    first | exact ⟨mm_rt (by omega), rfl⟩ | exact ⟨mm_rf (by omega), rfl⟩
set_option maxRecDepth 100000 in
set_option maxHeartbeats 4000000 in
theorem m_asks {sh : List mm_H} {S : mm_S} {L : mm_L} (hm : mdS sh) (hv : mdV S) {k s n : Int} (hk : 0 ≤ k ∧ k < 6) (hs : 0 ≤ s ∧ s < 6) (hn : 0 ≤ n ∧ n < 8) : am_E eX10_asks [.ref 181, .int (iI k), .int (iI s), .int (iI n)] (mm sh S L) (fun r M' => r = some (.int (iI (b2 (mA S k s n)))) ∧ M' = mm sh S L) := by
  obtain ⟨u0, u1, u2, u3, u4⟩ := hv
  refine am_enter rfl rfl (Nat.le_of_ble_eq_true rfl) ?_
  refine am_aload_n rfl dX10_asks_0 ?_
  refine mm_getR dX10_asks_1 fl_X10_19 (md_0 hm) mdf_4 ?_
  refine am_iload_n rfl dX10_asks_4 ?_
  refine am_iload_n rfl dX10_asks_5 ?_
  refine am_iload_n rfl dX10_asks_6 ?_
  refine am_ci (mm_S3 dX10_asks_7 in_X10_useAt mk_X10_152 st_X10_useAt ⟨Nat.le_of_ble_eq_true rfl, Nat.le_of_ble_eq_true rfl⟩ (Nat.le_of_ble_eq_true rfl)) (m_useAt) ?_
  refine mm_ial dX10_asks_10 (md_byNo hm) ⟨by omega, by omega, by omega⟩ ?_
  refine mm_iconst dX10_asks_11 ?_
  refine mm_jeq (tgt := 19) dX10_asks_12 (by decide) (by have := u3 (48 * k + 8 * s + n).toNat; omega) (by have := u3 (48 * k + 8 * s + n).toNat; omega) (fun h12 => ?_) (fun h12 => ?_)
  · refine mm_iconst dX10_asks_19 ?_
    refine am_ireturn dX10_asks_20 rfl rfl ?_
    first | exact ⟨mm_rt (by omega), rfl⟩ | exact ⟨mm_rf (by omega), rfl⟩
  · refine mm_iconst dX10_asks_15 ?_
    refine am_goto (tgt := 20) dX10_asks_16 (by decide) ?_
    refine am_ireturn dX10_asks_20 rfl rfl ?_
    first | exact ⟨mm_rt (by omega), rfl⟩ | exact ⟨mm_rf (by omega), rfl⟩
set_option maxRecDepth 100000 in
set_option maxHeartbeats 4000000 in
theorem m_led {sh : List mm_H} {S : mm_S} {L : mm_L} (hm : mdS sh) (hv : mdV S) {k s n : Int} (hk : 0 ≤ k ∧ k < 6) (hs : 0 ≤ s ∧ s < 6) (hn : 0 ≤ n ∧ n < 8) {y : Prop} [Decidable y] : am_E eX10_led [.ref 181, .int (iI k), .int (iI s), .int (iI n), .int (iI (b2 y))] (mm sh S L) (fun r M' => r = some (.int (iI (mF S k s n y))) ∧ M' = mm sh S L) := by
  obtain ⟨u0, u1, u2, u3, u4⟩ := hv
  refine am_enter rfl rfl (Nat.le_of_ble_eq_true rfl) ?_
  refine am_iload_n rfl dX10_led_0 ?_
  refine am_iload_n rfl dX10_led_1 ?_
  refine am_iload_n rfl dX10_led_2 ?_
  refine am_ci (mm_S3 dX10_led_3 in_X10_useAt mk_X10_152 st_X10_useAt ⟨Nat.le_of_ble_eq_true rfl, Nat.le_of_ble_eq_true rfl⟩ (Nat.le_of_ble_eq_true rfl)) (m_useAt) ?_
  refine am_ist5 dX10_led_6 (Nat.le_of_ble_eq_true rfl) (am_c1i _) ?_
  refine am_iload rfl dX10_led_8 ?_
  refine mm_bne (tgt := 24) dX10_led_10 (by decide) (fun h10 => ?_) (fun h10 => ?_)
  · refine am_aload_n rfl dX10_led_24 ?_
    refine mm_getR dX10_led_25 fl_X10_16 (md_0 hm) mdf_3 ?_
    refine am_iload rfl dX10_led_28 ?_
    refine mm_ial dX10_led_30 (md_byYes hm) ⟨by omega, by omega, by omega⟩ ?_
    refine am_goto (tgt := 41) dX10_led_31 (by decide) ?_
    refine am_ireturn dX10_led_41 rfl rfl ?_
    refine ⟨?_, rfl⟩
    unfold mF
    first | rw [if_pos (Or.inl (by assumption))] | rw [if_pos (Or.inr (by omega))] | rw [if_neg (fun h => h.elim (by assumption) (by omega))]
  · refine am_aload_n rfl dX10_led_13 ?_
    refine mm_getR dX10_led_14 fl_X10_19 (md_0 hm) mdf_4 ?_
    refine am_iload rfl dX10_led_17 ?_
    refine mm_ial dX10_led_19 (md_byNo hm) ⟨by omega, by omega, by omega⟩ ?_
    refine mm_iconst dX10_led_20 ?_
    refine mm_jne (tgt := 34) dX10_led_21 (by decide) (by have := u3 (48 * k + 8 * s + n).toNat; omega) (by have := u3 (48 * k + 8 * s + n).toNat; omega) (fun h21 => ?_) (fun h21 => ?_)
    · refine am_aload_n rfl dX10_led_34 ?_
      refine mm_getR dX10_led_35 fl_X10_19 (md_0 hm) mdf_4 ?_
      refine am_iload rfl dX10_led_38 ?_
      refine mm_ial dX10_led_40 (md_byNo hm) ⟨by omega, by omega, by omega⟩ ?_
      refine am_ireturn dX10_led_41 rfl rfl ?_
      refine ⟨?_, rfl⟩
      unfold mF
      first | rw [if_pos (Or.inl (by assumption))] | rw [if_pos (Or.inr (by omega))] | rw [if_neg (fun h => h.elim (by assumption) (by omega))]
    · refine am_aload_n rfl dX10_led_24 ?_
      refine mm_getR dX10_led_25 fl_X10_16 (md_0 hm) mdf_3 ?_
      refine am_iload rfl dX10_led_28 ?_
      refine mm_ial dX10_led_30 (md_byYes hm) ⟨by omega, by omega, by omega⟩ ?_
      refine am_goto (tgt := 41) dX10_led_31 (by decide) ?_
      refine am_ireturn dX10_led_41 rfl rfl ?_
      refine ⟨?_, rfl⟩
      unfold mF
      first | rw [if_pos (Or.inl (by assumption))] | rw [if_pos (Or.inr (by omega))] | rw [if_neg (fun h => h.elim (by assumption) (by omega))]
set_option maxRecDepth 100000 in
set_option maxHeartbeats 4000000 in
theorem m_isEnd {sh : List mm_H} {S : mm_S} {L : mm_L} (hm : mdS sh) (hv : mdV S) {k s : Int} (hk : 0 ≤ k ∧ k < 6) (hs : 0 ≤ s ∧ s < 32) : am_E eX10_isEnd [.ref 181, .int (iI k), .int (iI s)] (mm sh S L) (fun r M' => r = some (.int (iI (b2 (mE S k s)))) ∧ M' = mm sh S L) := by
  obtain ⟨u0, u1, u2, u3, u4⟩ := hv
  refine am_enter rfl rfl (Nat.le_of_ble_eq_true rfl) ?_
  refine am_aload_n rfl dX10_isEnd_0 ?_
  refine mm_getR dX10_isEnd_1 fl_X10_13 (md_0 hm) mdf_2 ?_
  refine am_iload_n rfl dX10_isEnd_4 ?_
  refine mm_ial dX10_isEnd_5 (md_ends hm) ⟨by omega, by omega, by omega⟩ ?_
  refine am_iload_n rfl dX10_isEnd_6 ?_
  refine mm_ishr dX10_isEnd_7 (by have := u2 k.toNat (by omega); omega) (by omega) ?_
  refine mm_iconst dX10_isEnd_8 ?_
  refine mm_iand1 dX10_isEnd_9 (div_pow_R (by have := u2 k.toNat (by omega); omega)) ?_
  refine mm_iconst dX10_isEnd_10 ?_
  refine mm_jne (tgt := 18) dX10_isEnd_11 (by decide) (by omega) (by omega) (fun h11 => ?_) (fun h11 => ?_)
  · refine mm_iconst dX10_isEnd_18 ?_
    refine am_ireturn dX10_isEnd_19 rfl rfl ?_
    first | exact ⟨mm_rt (by unfold mE; omega), rfl⟩ | exact ⟨mm_rf (by unfold mE; omega), rfl⟩
  · refine mm_iconst dX10_isEnd_14 ?_
    refine am_goto (tgt := 19) dX10_isEnd_15 (by decide) ?_
    refine am_ireturn dX10_isEnd_19 rfl rfl ?_
    first | exact ⟨mm_rt (by unfold mE; omega), rfl⟩ | exact ⟨mm_rf (by unfold mE; omega), rfl⟩
