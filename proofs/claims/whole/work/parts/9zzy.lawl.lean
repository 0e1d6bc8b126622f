/-! ===== what is known at the start ===== -/
theorem wao_0 : Cond.arrayOver (.object "StateWear$Case") ∈ lw_tbl := am_wc 182 (by decide +kernel)
theorem wao_1 : Cond.arrayOver (.object "StateWear$Kind") ∈ lw_tbl := am_wc 30 (by decide +kernel)
theorem wao_2 : Cond.arrayOver (.object "StateWear$Routine") ∈ lw_tbl := am_wc 32 (by decide +kernel)
theorem wao_3 : Cond.arrayOver (.object "StateWear$Scene") ∈ lw_tbl := am_wc 291 (by decide +kernel)
theorem am_K0 {s : State} {A : Array Value} (hts : ∀ w ∈ lw_tbl, w.before A s = true) : ∃ (D : va_G) (cT : Nat → ClassId), am_K D cT s := by
  have ht : ∀ w ∈ am_tbl, w.before A s = true := fun w h => hts w (lwl_in h)
  obtain ⟨c0, f0, hK0⟩ := u_known (C := RX0) (T := TX0) (N := 4) (n := 4) ht inX0 (ht _ insX0)
  obtain ⟨c1, f1, hK1⟩ := u_known (C := RX1) (T := TX1) (N := 7) (n := 7) ht inX1 (ht _ insX1)
  obtain ⟨c2, f2, hK2⟩ := u_known (C := RX2) (T := TX2) (N := 3) (n := 3) ht inX2 (ht _ insX2)
  obtain ⟨c3, f3, hK3⟩ := u_known (C := RX3) (T := TX3) (N := 10) (n := 10) ht inX3 (ht _ insX3)
  obtain ⟨c4, f4, hK4⟩ := u_known (C := RX4) (T := TX4) (N := 4) (n := 4) ht inX4 (ht _ insX4)
  obtain ⟨c5, f5, hK5⟩ := u_known (C := RX5) (T := TX5) (N := 4) (n := 4) ht inX5 (ht _ insX5)
  obtain ⟨c6, f6, hK6⟩ := u_known (C := RX6) (T := TX6) (N := 11) (n := 11) ht inX6 (ht _ insX6)
  obtain ⟨c7, f7, hK7⟩ := u_known (C := RX7) (T := TX7) (N := 9) (n := 9) ht inX7 (ht _ insX7)
  obtain ⟨c8, f8, hK8⟩ := u_known (C := RX8) (T := TX8) (N := 6) (n := 6) ht inX8 (ht _ insX8)
  obtain ⟨c9, f9, hK9⟩ := u_known (C := RX9) (T := TX9) (N := 7) (n := 7) ht inX9 (ht _ insX9)
  obtain ⟨c10, f10, hK10⟩ := u_known (C := RX10) (T := TX10) (N := 62) (n := 62) ht inX10 (ht _ insX10)
  obtain ⟨a0, k0, p0, x0, y0, z0⟩ := Cond.arrayClass_spec (ht _ wac_int)
  obtain ⟨a1, k1, p1, x1, y1, z1⟩ := Cond.arrayClass_spec (ht _ wac_long)
  obtain ⟨a2, k2, p2, x2, y2, z2⟩ := Cond.arrayClass_spec (ht _ wac_boolean)
  obtain ⟨p3, a3, k3, u3, -, y3, z3, x3⟩ := Cond.arrayOver_spec (hts _ wao_0)
  obtain ⟨p4, a4, k4, u4, -, y4, z4, x4⟩ := Cond.arrayOver_spec (hts _ wao_1)
  obtain ⟨p5, a5, k5, u5, -, y5, z5, x5⟩ := Cond.arrayOver_spec (hts _ wao_2)
  obtain ⟨p6, a6, k6, u6, -, y6, z6, x6⟩ := Cond.arrayOver_spec (hts _ wao_3)
  refine ⟨(fun k => match k with | 0 => c0 | 1 => c1 | 2 => c2 | 3 => c3 | 4 => c4 | 5 => c5 | 6 => c6 | 7 => c7 | 8 => c8 | 9 => c9 | _ => c10, fun k => match k with | 0 => f0 | 1 => f1 | 2 => f2 | 3 => f3 | 4 => f4 | 5 => f5 | 6 => f6 | 7 => f7 | 8 => f8 | 9 => f9 | _ => f10), fun t => match t with | 0 => a0 | 1 => a1 | 2 => a2 | 3 => a3 | 4 => a4 | 5 => a5 | _ => a6, ⟨fun k q hq => ?_, fun k q hq => ?_⟩, fun w hw => ?_, fun C hC => ?_⟩
  · match k, hq with
    | 0, hq => cases hq; exact hK0
    | 1, hq => cases hq; exact hK1
    | 2, hq => cases hq; exact hK2
    | 3, hq => cases hq; exact hK3
    | 4, hq => cases hq; exact hK4
    | 5, hq => cases hq; exact hK5
    | 6, hq => cases hq; exact hK6
    | 7, hq => cases hq; exact hK7
    | 8, hq => cases hq; exact hK8
    | 9, hq => cases hq; exact hK9
    | 10, hq => cases hq; exact hK10
    | k + 11, hq => simp [vwCl] at hq
  · match k, hq with
    | 0, hq => cases hq; exact ⟨fun N z => ⟨(fun k h => by cases h), k0, y0, p0, z0⟩, x0⟩
    | 1, hq => cases hq; exact ⟨fun N z => ⟨(fun k h => by cases h), k1, y1, p1, z1⟩, x1⟩
    | 2, hq => cases hq; exact ⟨fun N z => ⟨(fun k h => by cases h), k2, y2, p2, z2⟩, x2⟩
    | 3, hq => cases hq; exact ⟨fun N z => ⟨(fun k h => by cases h), k3, y3, p3, z3⟩, k3, p3, y3, z3, u3, x3⟩
    | 4, hq => cases hq; exact ⟨fun N z => ⟨(fun k h => by cases h), k4, y4, p4, z4⟩, k4, p4, y4, z4, u4, x4⟩
    | 5, hq => cases hq; exact ⟨fun N z => ⟨(fun k h => by cases h), k5, y5, p5, z5⟩, k5, p5, y5, z5, u5, x5⟩
    | 6, hq => cases hq; exact ⟨fun N z => ⟨(fun k h => by cases h), k6, y6, p6, z6⟩, k6, p6, y6, z6, u6, x6⟩
    | k + 7, hq => simp [am_tys] at hq
  · have h1 := hts w (List.mem_filter.mp hw).1
    obtain ⟨a', i', x', g', rfl⟩ := am_nest_form hw
    exact va_Nw.of rfl h1
  · have hC' : C = "StateWear$Case" ∨ C = "StateWear$Kind" ∨ C = "StateWear$Routine" ∨ C = "StateWear$Scene" := by
      simpa [am_ao] using hC
    rcases hC' with rfl | rfl | rfl | rfl
    · exact va_AO.of (hts _ wao_0)
    · exact va_AO.of (hts _ wao_1)
    · exact va_AO.of (hts _ wao_2)
    · exact va_AO.of (hts _ wao_3)
set_option maxRecDepth 100000 in
set_option maxHeartbeats 4000000 in
/-- the law's loop: both have answered alike so far -/
theorem law_loop {p : Program} {l : Launch} {e : Env} {s : State} {m : MethodId} {below : List Frame} {meth : Method} {c : Code} {scr Ln : Nat} {xs : Nat → Int32} {D : va_G} {cT : Nat → ClassId} (C0 : lw_At p s m meth c scr Ln xs) (hLn : Ln ≤ 3072) (hK : am_K D cT s) :
    ∀ (n i : Nat), Ln + 7 ≤ i + n → i ≤ Ln + 6 → ∀ (sh : List mm_H) (S : mm_S) (L : mm_L) (H : Heap) (locs : List Loc) (la : Array Slot), INV sh S L → am_P s.heap.size D cT (mm sh S L) H → va_S (fun q => s.heap.size ≤ q) s.heap H locs → lv_has la 4 [(0, .ref scr), (1, .ref (s.heap.size + 0)), (2, .ref (s.heap.size + 181)), (3, .int (iI (i : Int)))] → W p l e room_1 s m #[Value.ref scr] below meth c H locs (mm sh S L).length (am_z (mm sh S L)) (lw_Z below #[Value.ref scr] s) (F0 m 18 la []) := by
  obtain ⟨hx, hb, hr, hml, hown, hts, hX, hbl, hlocks, hgv⟩ := id C0
  have hbA : ¬ (fun q : Nat => s.heap.size ≤ q) scr := Nat.not_le.mpr hbl
  intro n
  induction n with
  | zero =>
    intro i h1 h2
    exact absurd h1 (by omega)
  | succ n ih =>
    intro i hn hi6 sh S L H locs la hI hP hS hl
    refine lv_iload_n hx hb dL_18 rfl (lv_at hl 3 rfl) ?_
    refine lv_aload_n hx hb dL_19 rfl (lv_at hl 0 rfl) ?_
    refine va_slen hx hb hX hbl hbA hS dL_20 ?_
    refine lv_bipush (v := iI 6) hx hb dL_21 (by decide) ?_
    refine lv_isub hx hb dL_23 ?_
    have e1 : Int32.ofNat Ln - iI 6 = iI ((Ln : Int) - 6) := by
      rw [← iI_sub]
      rfl
    rw [e1]
    refine lv_icmp_gt (tgt := 978) hx hb dL_24 (by decide) (fun h => ?_) (fun h => ?_)
    · refine lv_iconst (v := 1) hx hb dL_978 (by decide) ?_
      refine va_forget (fun q hq => hS.2.2 q hq) ?_
      have ro := INV_room hI
      refine W.widen (k := 600000) (n := 7302250) ro.1 ro.2 ?_
      exact lw_ret hx hb hr hlocks dL_979
    · have hle : i + 6 ≤ Ln := by
        refine Classical.byContradiction fun z => h ?_
        exact (iI_lt (by omega) (by omega)).2 (by omega)
      have hin : vp_in (iI (i : Int)) Ln := iI_in (by omega) (by omega) (by omega)
      refine lv_aload_n hx hb dL_27 rfl (lv_at hl 0 rfl) ?_
      refine lv_iload_n hx hb dL_28 rfl (lv_at hl 3 rfl) ?_
      refine va_sld hx hb hX hbl hbA hS hin dL_29 ?_
      refine lv_bipush (v := iI 31) hx hb dL_30 (by decide) ?_
      refine lv_iand hx hb dL_32 ?_
      have kk : ∀ (sh2 : List mm_H) (S2 : mm_S) (L2 : mm_L) (H2 : Heap) (locs2 : List Loc), INV sh2 S2 L2 → am_P s.heap.size D cT (mm sh2 S2 L2) H2 → va_S (fun q => s.heap.size ≤ q) s.heap H2 locs2 → W p l e room_1 s m #[Value.ref scr] below meth c H2 locs2 (mm sh2 S2 L2).length (am_z (mm sh2 S2 L2)) (lw_Z below #[Value.ref scr] s) (F0 m 972 la []) := fun sh2 S2 L2 H2 locs2 hI2 hP2 hS2 => by
        refine lv_iinc (v := iI ((i + 6 : Nat) : Int)) (lv' := [(3, .int (iI ((i + 6 : Nat) : Int))), (0, .ref scr), (1, .ref (s.heap.size + 0)), (2, .ref (s.heap.size + 181))]) hx hb dL_972 hl (k := 3) rfl (by rw [show ((i + 6 : Nat) : Int) = (i : Int) + 6 by omega, ← iI_add]; rfl) (by decide) rfl (fun la hl => ?_)
        refine lv_goto (tgt := 18) hx hb dL_975 (by decide) ?_
        exact ih (i + 6) (by omega) (by omega) sh2 S2 L2 H2 locs2 la hI2 hP2 hS2 (lv_sub hl [1, 2, 3, 0] rfl)
      obtain ⟨t, ht⟩ : ∃ t : Int, (xs i).toInt % 2 ^ 5 = t := ⟨_, rfl⟩
      have ht32 : 0 ≤ t ∧ t < 32 := by omega
      have ev : xs (iI (i : Int)).toNatClampNeg &&& iI 31 = iI t := by
        rw [iI_clamp (by omega) (by omega), Int.toNat_natCast, ← iI_of (xs i), iI_msk 5 (by decide) (by omega), ht]
      rw [ev]
      have htI : (iI t).toInt = t := iI_toInt (by omega) (by omega)
      clear ev
      rcases (show t = 0 ∨ t = 1 ∨ t = 2 ∨ t = 3 ∨ t = 4 ∨ t = 5 ∨ t = 6 ∨ t = 7 ∨ t = 8 ∨ t = 9 ∨ t = 10 ∨ t = 11 ∨ t = 12 ∨ t = 13 ∨ t = 14 ∨ t = 15 ∨ t = 16 ∨ t = 17 ∨ t = 18 ∨ t = 19 ∨ t = 20 ∨ t = 21 ∨ t = 22 ∨ 22 < t by omega) with hz | hz | hz | hz | hz | hz | hz | hz | hz | hz | hz | hz | hz | hz | hz | hz | hz | hz | hz | hz | hz | hz | hz | hbig
      · subst hz; exact lv_tableIn (off := 107) (tgt := 140) hx hb dL_33 (by decide) (by decide) (by decide) (by decide) (lw_c0 C0 hLn hK hle hI hP hS hl kk)
      · subst hz; exact lv_tableIn (off := 140) (tgt := 173) hx hb dL_33 (by decide) (by decide) (by decide) (by decide) (lw_c1 C0 hLn hK hle hI hP hS hl kk)
      · subst hz; exact lv_tableIn (off := 173) (tgt := 206) hx hb dL_33 (by decide) (by decide) (by decide) (by decide) (lw_c2 C0 hLn hK hle hI hP hS hl kk)
      · subst hz; exact lv_tableIn (off := 236) (tgt := 269) hx hb dL_33 (by decide) (by decide) (by decide) (by decide) (lw_c3 C0 hLn hK hle hI hP hS hl kk)
      · subst hz; exact lv_tableIn (off := 279) (tgt := 312) hx hb dL_33 (by decide) (by decide) (by decide) (by decide) (lw_c4 C0 hLn hK hle hI hP hS hl kk)
      · subst hz; exact lv_tableIn (off := 312) (tgt := 345) hx hb dL_33 (by decide) (by decide) (by decide) (by decide) (lw_c5 C0 hLn hK hle hI hP hS hl kk)
      · subst hz; exact lv_tableIn (off := 381) (tgt := 414) hx hb dL_33 (by decide) (by decide) (by decide) (by decide) (lw_c6 C0 hLn hK hle hI hP hS hl kk)
      · subst hz; exact lv_tableIn (off := 414) (tgt := 447) hx hb dL_33 (by decide) (by decide) (by decide) (by decide) (lw_c7 C0 hLn hK hle hI hP hS hl kk)
      · subst hz; exact lv_tableIn (off := 427) (tgt := 460) hx hb dL_33 (by decide) (by decide) (by decide) (by decide) (lw_c8 C0 hLn hK hle hI hP hS hl kk)
      · subst hz; exact lv_tableIn (off := 440) (tgt := 473) hx hb dL_33 (by decide) (by decide) (by decide) (by decide) (lw_c9 C0 hLn hK hle hI hP hS hl kk)
      · subst hz; exact lv_tableIn (off := 493) (tgt := 526) hx hb dL_33 (by decide) (by decide) (by decide) (by decide) (lw_c10 C0 hLn hK hle hI hP hS hl kk)
      · subst hz; exact lv_tableIn (off := 516) (tgt := 549) hx hb dL_33 (by decide) (by decide) (by decide) (by decide) (lw_c11 C0 hLn hK hle hI hP hS hl kk)
      · subst hz; exact lv_tableIn (off := 559) (tgt := 592) hx hb dL_33 (by decide) (by decide) (by decide) (by decide) (lw_c12 C0 hLn hK hle hI hP hS hl kk)
      · subst hz; exact lv_tableIn (off := 582) (tgt := 615) hx hb dL_33 (by decide) (by decide) (by decide) (by decide) (lw_c13 C0 hLn hK hle hI hP hS hl kk)
      · subst hz; exact lv_tableIn (off := 595) (tgt := 628) hx hb dL_33 (by decide) (by decide) (by decide) (by decide) (lw_c14 C0 hLn hK hle hI hP hS hl kk)
      · subst hz; exact lv_tableIn (off := 628) (tgt := 661) hx hb dL_33 (by decide) (by decide) (by decide) (by decide) (lw_c15 C0 hLn hK hle hI hP hS hl kk)
      · subst hz; exact lv_tableIn (off := 671) (tgt := 704) hx hb dL_33 (by decide) (by decide) (by decide) (by decide) (lw_c16 C0 hLn hK hle hI hP hS hl kk)
      · subst hz; exact lv_tableIn (off := 724) (tgt := 757) hx hb dL_33 (by decide) (by decide) (by decide) (by decide) (lw_c17 C0 hLn hK hle hI hP hS hl kk)
      · subst hz; exact lv_tableIn (off := 793) (tgt := 826) hx hb dL_33 (by decide) (by decide) (by decide) (by decide) (lw_c18 C0 hLn hK hle hI hP hS hl kk)
      · subst hz; exact lv_tableIn (off := 816) (tgt := 849) hx hb dL_33 (by decide) (by decide) (by decide) (by decide) (lw_c19 C0 hLn hK hle hI hP hS hl kk)
      · subst hz; exact lv_tableIn (off := 879) (tgt := 912) hx hb dL_33 (by decide) (by decide) (by decide) (by decide) (lw_c20 C0 hLn hK hle hI hP hS hl kk)
      · subst hz; exact lv_tableIn (off := 902) (tgt := 935) hx hb dL_33 (by decide) (by decide) (by decide) (by decide) (lw_c21 C0 hLn hK hle hI hP hS hl kk)
      · subst hz; exact lv_tableIn (off := 925) (tgt := 958) hx hb dL_33 (by decide) (by decide) (by decide) (by decide) (lw_c22 C0 hLn hK hle hI hP hS hl kk)
      · exact lv_tableOut (tgt := 972) hx hb dL_33 (Or.inr (by rw [htI]; exact hbig)) (by decide) (kk sh S L H locs hI hP hS)
theorem shz_sw : shz swA + 62 ≤ 7302250 := by decide +kernel
theorem shz_I : shz shI ≤ 7302250 := by have := shI_z; omega
set_option maxRecDepth 100000 in
set_option maxHeartbeats 4000000 in
/-- THE LAW, from its entry -/
theorem whole_start {p : Program} {e : Env} {s : State} {m : MethodId} {below : List Frame} {meth : Method} {c : Code} (l : Launch) {b L : Nat} {xs : Nat → Int32} (hL : L ≤ 3072) (C0 : lw_At p s m meth c b L xs) : W p l e room_1 s m #[Value.ref b] below meth c s.heap [] 0 0 (lw_Z below #[Value.ref b] s) (entryFrame m ([Value.ref b] : List Value).toArray 4) := by
  obtain ⟨hx, hb, hr, hml, hown, hts, hX, hbl, hlocks, hgv⟩ := id C0
  obtain ⟨D, cT, hK⟩ := am_K0 hts
  have hS : va_S (fun q : Nat => s.heap.size ≤ q) s.heap s.heap [] := va_S.rf
  have hP : am_P s.heap.size D cT (mm [] zS0 zL) s.heap := fun k q h => by simp [mm, am_W] at h
  have hl := lv_entry ([.ref b]) (n := 4) (Nat.le_of_ble_eq_true rfl)
  rw [lg_entry_eq]
  generalize (lg_sl ([.ref b]) ++ List.replicate (4 - (lg_sl ([.ref b])).length) Slot.unset).toArray = ls at hl ⊢
  have hl : lv_has ls 4 [(0, .ref b)] := hl
  show W p l e room_1 s m #[Value.ref b] below meth c s.heap [] (mm [] zS0 zL).length (am_z (mm [] zS0 zL)) (lw_Z below #[Value.ref b] s) _
  refine lw_new (ci := 9) (sh := []) (fd := [.inr none, .inr none, .inr none, .inr none, .inr none, .inl false, .inl false]) tyX9 C0 hK (zS_0 0) hP hS dL_0 rfl inX9 tyX9_ok cl_L_7 insX9 iniX9 rfl rfl (by decide) (by decide) (fun H1 hP1 hS1 => ?_)
  refine lv_dup hx hb dL_3 rfl ?_
  refine lw_I (As := []) (st := [.ref (s.heap.size + 0)]) (a := 0) C0 hK hP1 hS1 hl dL_4 in_X9_init rfl rfl mk_L_9 im_X9_init ⟨Nat.le_of_ble_eq_true rfl, Nat.le_of_ble_eq_true rfl⟩ rfl rfl (Nat.le_of_ble_eq_true rfl) n_sw0 (fun r M1 z => ?_) (fun r M1 H2 locs2 z hP2 hS2 => ?_)
  · rw [z.2, mm_length, mm_am_z, swA_len]
    have := shz_sw
    omega
  obtain ⟨rfl, rfl⟩ := z
  refine lv_astore_n (lv' := [(1, .ref (s.heap.size + 0)), (0, .ref b)]) hx hb dL_7 rfl hl (by decide) rfl (fun ls hl => ?_)
  refine lw_new (ci := 10) (sh := swA) (fd := mdO0) tyX10 C0 hK (by rw [swA_len]; exact swI_z) hP2 hS2 dL_8 rfl inX10 tyX10_ok cl_L_10 insX10 iniX10 rfl rfl (by rw [swA_len]; omega) shz_sw (fun H3 hP3 hS3 => ?_)
  rw [swA_len]
  refine lv_dup hx hb dL_11 rfl ?_
  refine lw_I (As := []) (st := [.ref (s.heap.size + 181)]) (a := 181) C0 hK hP3 hS3 hl dL_12 in_X10_init rfl rfl mk_L_12 im_X10_init ⟨Nat.le_of_ble_eq_true rfl, Nat.le_of_ble_eq_true rfl⟩ rfl rfl (Nat.le_of_ble_eq_true rfl) n_md0 (fun r M1 z => ?_) (fun r M1 H4 locs4 z hP4 hS4 => ?_)
  · rw [z.2]
    exact INV_room INV_I
  obtain ⟨rfl, rfl⟩ := z
  refine lv_astore_n (lv' := [(2, .ref (s.heap.size + 181)), (1, .ref (s.heap.size + 0)), (0, .ref b)]) hx hb dL_15 rfl hl (by decide) rfl (fun ls hl => ?_)
  refine lv_iconst (v := iI ((0 : Nat) : Int)) hx hb dL_16 (by decide) ?_
  refine lv_istore_n (lv' := [(3, .int (iI ((0 : Nat) : Int))), (2, .ref (s.heap.size + 181)), (1, .ref (s.heap.size + 0)), (0, .ref b)]) hx hb dL_17 rfl hl (by decide) rfl (fun ls hl => ?_)
  exact law_loop C0 hL hK (L + 7) 0 (by omega) (by omega) shI stI zL H4 locs4 ls INV_I hP4 hS4 (lv_sub hl [3, 2, 1, 0] rfl)
