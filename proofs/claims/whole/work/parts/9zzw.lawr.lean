/-! ===== rows of the law ===== -/
theorem lwl_good {Y' : am_Y} (h : Cond.code Y'.1 Y'.2.1 Y'.2.2.1 Y'.2.2.2.1 ∈ lw_tbl) : GoodIn lw_tbl (am_ws Y') := by
  intro w hw
  have key : w ∈ am_tbl := by
    rcases List.mem_cons.mp hw with rfl | hw
    · exact List.mem_filter.mpr ⟨h, rfl⟩
    · exact hw
  exact ⟨(List.mem_filter.mp key).1, good_of_word (List.mem_filter.mp key).2⟩
theorem lwl_in {w : Cond} (h : w ∈ am_tbl) : w ∈ lw_tbl := (List.mem_filter.mp h).1
theorem mm_c_z (s : mm_H) (f : Nat → Int) (l : Nat → Int64) : am_cz (mm_c s f l) = (match s with | .inl (_, n, _) => n | .inr (_, fd) => fd.length) := by
  unfold mm_c
  split <;> simp [am_cz]
theorem mm_am_z (S : mm_S) (L : mm_L) : ∀ (sh : List mm_H), am_z (mm sh S L) = shz sh := by
  intro sh
  unfold am_z shz mm
  congr 1
  apply List.ext_getElem?
  intro i
  simp only [List.getElem?_map, List.getElem?_mapIdx, Option.map_map]
  cases sh[i]? with
  | none => rfl
  | some x => exact congrArg some (mm_c_z x (S i) (L i))
theorem INV_room {sh : List mm_H} {S : mm_S} {L : mm_L} (h : INV sh S L) : (mm sh S L).length ≤ 600000 ∧ am_z (mm sh S L) ≤ 7302250 := by
  obtain ⟨-, -, ⟨p1, p2, p3, n, -, -, ⟨z0, hz, ⟨e1, k, hk, e2, e3⟩⟩, -⟩, -⟩ := h
  have := Nat.pow_le_pow_right (n := 2) (by omega) hk
  rw [mm_length, mm_am_z]
  omega
theorem Rg32 (x : Int32) : Rg x.toInt := ⟨Int32.le_toInt x, Int32.toInt_lt x⟩
section
variable {p : Program} {l : Launch} {e : Env} {s : State} {m : MethodId} {below : List Frame} {meth : Method} {c : Code} {scr Ln : Nat} {xs : Nat → Int32} {D : va_G} {cT : Nat → ClassId} {M : am_M} {H : Heap} {locs : List Loc} {la : Array Slot} {pc : Nat} {st : List Value}
theorem lw_size {n : Nat} {Q' : State → Prop} {g : JFrame} (hP : am_P s.heap.size D cT M H) (hS : va_S (fun q => s.heap.size ≤ q) s.heap H locs) (k : H.size = s.heap.size + M.length → W p l e room_1 s m #[Value.ref scr] below meth c H locs M.length n Q' g) : W p l e room_1 s m #[Value.ref scr] below meth c H locs M.length n Q' g := by
  have h := am_size (p := p) (l := l) (e := e) (R := room_1) (s := s) (m := m) (args := #[Value.ref scr]) (below := below) (meth := meth) (c := c) (H := H) (locs := locs) (n := n) (Q' := Q') (g := g) (b := s.heap.size) (D := D) (cT := cT) (M0 := []) (M := M) rfl (Nat.zero_le _) hP hS
  simp only [List.length_nil, Nat.sub_zero] at h
  exact h k
theorem lw_sl {i k : Nat} {kz : Int} {kk nn : Nat} {Q' : State → Prop} (C0 : lw_At p s m meth c scr Ln xs) (hLn : Ln ≤ 3072) (hS : va_S (fun q => s.heap.size ≤ q) s.heap H locs) (h0 : la[0]? = some (.val (.ref scr))) (h3 : la[3]? = some (.val (.int (iI (i : Int))))) (hk : i + k < Ln) (d0 : decode code pc = .ok (.aload_n 0, 1)) (d1 : decode code (pc + 1) = .ok (.iload_n 3, 1)) (d2 : decode code (pc + 2) = .ok (.iconst kz, 1)) (d3 : decode code (pc + 3) = .ok (.iadd, 1)) (d4 : decode code (pc + 4) = .ok (.iaload, 1)) (hkz : kz = (k : Int)) (q : W p l e room_1 s m #[Value.ref scr] below meth c H locs kk nn Q' (F0 m (pc + 5) la (.int (iI (xs (i + k)).toInt) :: st))) : W p l e room_1 s m #[Value.ref scr] below meth c H locs kk nn Q' (F0 m pc la st) := by
  obtain ⟨hx, hb, hr, hml, hown, hts, hX, hbl, hlocks, hgv⟩ := C0
  subst hkz
  refine lv_aload_n hx hb d0 rfl h0 ?_
  refine lv_iload_n hx hb d1 rfl h3 ?_
  refine lv_iconst (v := iI (k : Int)) hx hb d2 rfl ?_
  refine lv_iadd hx hb d3 ?_
  have hin : vp_in (iI (i : Int) + iI (k : Int)) Ln := by
    rw [iI_add]
    exact iI_in (by omega) (by omega) (by omega)
  refine va_sld hx hb hX hbl (Nat.not_le.mpr hbl) hS hin d4 ?_
  rw [show (iI (i : Int) + iI (k : Int)).toNatClampNeg = i + k by rw [iI_add, iI_clamp (by omega) (by omega)]; omega, ← iI_of (xs (i + k))]
  exact q
/-- a call's run -/
theorem lw_goC {Y' : am_Y} {as : List Value} {st0 : List Value} {Q1 : Option Value → am_M → Prop} {Q' : State → Prop} (hK : am_K D cT s) (hP : am_P s.heap.size D cT M H) (hS : va_S (fun q => s.heap.size ≤ q) s.heap H locs) (hE : am_E Y' as M Q1) (hroom : ∀ r M1, Q1 r M1 → M1.length ≤ 600000 ∧ am_z M1 ≤ 7302250)
    (h : ∀ (r : Option Value) (M1 : am_M), H.size = s.heap.size + M.length → M.length + (M1.length - M.length) ≤ room_1.cells → am_z M + (am_z M1 - am_z M) ≤ room_1.slots → (∀ U : State, U.heap = H → s.WarmedH U.vm → am_Pc s.heap.size D cT as M (as.map (am_v s.heap.size)).toArray U) →
      Met l Y'.1 (am_ws Y') (am_R Y' M M1) (am_Pc s.heap.size D cT as M) (am_Qc s.heap.size D cT r M1) (M1.length - M.length) (am_z M1 - am_z M) (fun q => s.heap.size ≤ q) →
      va_Run p l e room_1 s m #[Value.ref scr] below meth c H locs M.length (am_z M) (M1.length - M.length) (am_z M1 - am_z M) (F0 m pc la st0) st (am_Qc s.heap.size D cT r M1 (as.map (am_v s.heap.size)).toArray) (fun q => s.heap.size ≤ q))
    (k : ∀ r M1 H1 locs1, Q1 r M1 → am_P s.heap.size D cT M1 H1 → va_S (fun q => s.heap.size ≤ q) s.heap H1 locs1 → W p l e room_1 s m #[Value.ref scr] below meth c H1 locs1 M1.length (am_z M1) Q' (F0 m (pc + 3) la ((r.map (am_v s.heap.size)).toList ++ st))) : W p l e room_1 s m #[Value.ref scr] below meth c H locs M.length (am_z M) Q' (F0 m pc la st0) := by
  obtain ⟨r, M1, hq1, e1, e2, hM⟩ := hE
  have ro := hroom r M1 hq1
  refine lw_size hP hS fun hz => ?_
  have hr := h r M1 hz (by show _ ≤ 600000; omega) (by show _ ≤ 7302250; omega) (fun U hU hW => ⟨rfl, by rw [hU]; exact hP, by rw [hU]; exact hz, hK.warm hW⟩) (hM l s.heap.size D cT)
  intro T hT X
  obtain ⟨v, st₀, t, T', L, h0, X', hL, e3, e4, ⟨hv, hP1, hz1, hF1⟩, go⟩ := hr T hT X
  cases hv
  rw [h0] at hz1 hF1
  have hS1 : va_S (fun q => s.heap.size ≤ q) s.heap T'.heap (locs ++ L) := ⟨Nat.le_trans hS.1 (by rw [e3]; exact hz1), fun q q1 q2 => by rw [e3, hF1 q (Nat.lt_of_lt_of_le q1 hS.1) q2]; exact hS.2.1 q q1 q2, fun q hq => by
    rcases List.mem_append.mp hq with h | h
    · exact hS.2.2 q h
    · exact hL q h⟩
  have hw2 := k r M1 T'.heap (locs ++ L) hq1 (by show va_P _ _ _ _; rw [e3]; exact hP1) hS1
  obtain ⟨t2, a1, b1⟩ := hw2 T' rfl (by rw [show M1.length = M.length + (M1.length - M.length) by omega, show am_z M1 = am_z M + (am_z M1 - am_z M) by omega]; exact X')
  exact ⟨t2, go t2 a1, b1⟩
theorem lw_callB {Y' : am_Y} {M1 : am_M} {index n : Nat} (hin : am_in Y' n) (hro : Y'.2.2.2.2.1 + 1 ≤ 11 ∧ 8 + (Y'.2.2.1 + 11) + Y'.2.2.2.2.2 ≤ 426) (ht : ∀ w ∈ lw_tbl, w.before #[Value.ref scr] s = true) (hl : (Cond.methodLink R_law index Y'.1).before #[Value.ref scr] s = true) :
    CallB room_1 s #[Value.ref scr] R_law index Y'.1 Y'.2.1 Y'.2.2.1 Y'.2.2.2.1 (am_ws Y') (am_R Y' M M1) (M1.length - M.length) (am_z M1 - am_z M) n :=
  callB_of n ht (lwl_good hin.1) rfl rfl rfl (ht _ (lwl_in hin.2.1)) hl hin.2.2 ⟨hro.1, hro.2⟩
/-- invokevirtual -/
theorem lw_V {Y' : am_Y} {idx n a ci : Nat} {T : u_T} {N : Nat} {fs : List Value} {As : List Value} {sa : List Value} {lv : List (Nat × Value)} {Q1 : Option Value → am_M → Prop} {Q' : State → Prop} (C0 : lw_At p s m meth c scr Ln xs) (hK : am_K D cT s) (hP : am_P s.heap.size D cT M H) (hS : va_S (fun q => s.heap.size ≤ q) s.heap H locs) (hl : lv_has la 4 lv) (d : decode code pc = .ok (.invokevirtual idx, 3)) (hin : am_in Y' n) (h1 : Cond.methodLink RL idx Y'.1 ∈ am_tbl) (h2 : Cond.instanceMethod Y'.1 ∈ am_tbl) (h3 : Cond.selects Y'.1.cls Y'.1 Y'.1 ∈ am_tbl) (hro : Y'.2.2.2.2.1 + 1 ≤ 11 ∧ 8 + (Y'.2.2.1 + 11) + Y'.2.2.2.2.2 ≤ 426)
    (hc : vwCl[ci]? = some (Y'.1.cls, T, N)) (hM : M[a]? = some (.inr (ci, fs))) (hn : As.length = n) (hsa : sa = (As.map (am_v s.heap.size)).reverse ++ .ref (s.heap.size + a) :: st) (hst : (st.map fun v => v.category).sum ≤ 8)
    (hE : am_E Y' (.ref a :: As) M Q1) (hroom : ∀ r M1, Q1 r M1 → M1.length ≤ 600000 ∧ am_z M1 ≤ 7302250) (k : ∀ r M1 H1 locs1, Q1 r M1 → am_P s.heap.size D cT M1 H1 → va_S (fun q => s.heap.size ≤ q) s.heap H1 locs1 → W p l e room_1 s m #[Value.ref scr] below meth c H1 locs1 M1.length (am_z M1) Q' (F0 m (pc + 3) la ((r.map (am_v s.heap.size)).toList ++ st))) : W p l e room_1 s m #[Value.ref scr] below meth c H locs M.length (am_z M) Q' (F0 m pc la sa) := by
  obtain ⟨hx, hb, hr, hml, hown, hts, hX, hbl, hlocks, hgv⟩ := id C0
  subst hsa
  refine lw_goC hK hP hS hE hroom (fun r M1 hz q1 q2 hPc hMet => ?_) k
  refine va_runV (As := As.map (am_v s.heap.size)) (b := s.heap.size + a) ⟨hx, hb, hml, hown, hts⟩ hMet ⟨lw_callB hin hro hts (hts _ (lwl_in h1)), hts _ (lwl_in h2), hts _ (lwl_in h3)⟩ ⟨am_blind s.heap.size D cT _ M, va_recv hK.1 hP hc (am_W_get hM), fun U hU hW => hPc U hU hW⟩ rfl (by simpa using hn) hl.1 rfl (lv_room hst) d ⟨q1, q2⟩
/-- invokespecial of a constructor -/
theorem lw_I {Y' : am_Y} {idx n a : Nat} {As : List Value} {sa : List Value} {lv : List (Nat × Value)} {Q1 : Option Value → am_M → Prop} {Q' : State → Prop} (C0 : lw_At p s m meth c scr Ln xs) (hK : am_K D cT s) (hP : am_P s.heap.size D cT M H) (hS : va_S (fun q => s.heap.size ≤ q) s.heap H locs) (hl : lv_has la 4 lv) (d : decode code pc = .ok (.invokespecial idx, 3)) (hin : am_in Y' n) (hr : Y'.2.2.2.1 = none) (hy : Y'.1.name = "<init>") (h1 : Cond.methodLink RL idx Y'.1 ∈ am_tbl) (h2 : Cond.instanceMethod Y'.1 ∈ am_tbl) (hro : Y'.2.2.2.2.1 + 1 ≤ 11 ∧ 8 + (Y'.2.2.1 + 11) + Y'.2.2.2.2.2 ≤ 426)
    (hn : As.length = n) (hsa : sa = (As.map (am_v s.heap.size)).reverse ++ .ref (s.heap.size + a) :: st) (hst : (st.map fun v => v.category).sum ≤ 8)
    (hE : am_E Y' (.ref a :: As) M Q1) (hroom : ∀ r M1, Q1 r M1 → M1.length ≤ 600000 ∧ am_z M1 ≤ 7302250) (k : ∀ r M1 H1 locs1, Q1 r M1 → am_P s.heap.size D cT M1 H1 → va_S (fun q => s.heap.size ≤ q) s.heap H1 locs1 → W p l e room_1 s m #[Value.ref scr] below meth c H1 locs1 M1.length (am_z M1) Q' (F0 m (pc + 3) la ((r.map (am_v s.heap.size)).toList ++ st))) : W p l e room_1 s m #[Value.ref scr] below meth c H locs M.length (am_z M) Q' (F0 m pc la sa) := by
  obtain ⟨hx, hb, hr0, hml, hown, hts, hX, hbl, hlocks, hgv⟩ := id C0
  subst hsa
  refine lw_goC hK hP hS hE hroom (fun r M1 hz q1 q2 hPc hMet => ?_) k
  refine va_runI (As := As.map (am_v s.heap.size)) (b := s.heap.size + a) ⟨hx, hb, hml, hown, hts⟩ hMet ⟨by have := lw_callB (M := M) (M1 := M1) hin hro hts (hts _ (lwl_in h1)); rw [hr] at this; exact this, hy, hts _ (lwl_in h2)⟩ ⟨am_blind s.heap.size D cT _ M, fun U hU hW => hPc U hU hW⟩ rfl (by simpa using hn) hl.1 rfl (lv_room hst) d ⟨q1, q2⟩
/-- a new object -/
theorem lw_new {idx ci N : Nat} {C : String} {T : u_T} {sh : List mm_H} {S : mm_S} {fd : List (Bool ⊕ Option Nat)} {Q' : State → Prop} (ty : Nat → FieldType) (C0 : lw_At p s m meth c scr Ln xs) (hK : am_K D cT s) (hz0 : zS S sh.length) (hP : am_P s.heap.size D cT (mm sh S zL) H) (hS : va_S (fun q => s.heap.size ≤ q) s.heap H locs) (d : decode code pc = .ok (.new idx, 3)) (hc : vwCl[ci]? = some (C, T, N)) (hin : ∀ w ∈ u_ws C T N, w ∈ am_tbl) (hty : ∀ k, k < N → parseFieldDescriptor (T k).2.2.1 = some (ty k)) (hl1 : Cond.classLink RL idx C ∈ am_tbl) (hl2 : Cond.instantiable C N ∈ am_tbl) (hl3 : Cond.initialized C ∈ am_tbl)
    (hfs : fd.length = N) (hv : fd.mapIdx (mm_fv (fun _ => 0) (fun _ => 0)) = (List.range N).map (fun j => defaultValue (ty j))) (hsz : sh.length < 600000) (hsl : shz sh + N ≤ 7302250)
    (k : ∀ H1, am_P s.heap.size D cT (mm (sh ++ [.inr (ci, fd)]) S zL) H1 → va_S (fun q => s.heap.size ≤ q) s.heap H1 locs → W p l e room_1 s m #[Value.ref scr] below meth c H1 locs (mm (sh ++ [.inr (ci, fd)]) S zL).length (am_z (mm (sh ++ [.inr (ci, fd)]) S zL)) Q' (F0 m (pc + 3) la (.ref (s.heap.size + sh.length) :: st))) : W p l e room_1 s m #[Value.ref scr] below meth c H locs (mm sh S zL).length (am_z (mm sh S zL)) Q' (F0 m pc la st) := by
  obtain ⟨hx, hb, hr0, hml, hown, hts, hX, hbl, hlocks, hgv⟩ := id C0
  have hts' : ∀ w ∈ am_tbl, w.before #[Value.ref scr] s = true := fun w h => hts w (lwl_in h)
  refine lw_size hP hS fun hz => ?_
  have hKn := hK.1.1 ci _ hc
  have e := mm_push (sh := sh) (S := S) (L := zL) (s := .inr (ci, fd)) (c := .inr (ci, fd.mapIdx (mm_fv (fun _ => 0) (fun _ => 0)))) rfl
  rw [zr_S hz0, zr_L] at e
  refine W.newcK hx hb hown (hts _ (lwl_in hl1)) (hts _ (lwl_in hl2)) (hts _ (lwl_in hl3)) rfl d (by rw [mm_length]; show _ ≤ 600000; omega) (by rw [mm_am_z]; exact hsl) hKn.2.1 rfl fun H1 kC hkC e1 z1 o1 => ?_
  rw [hz] at e1
  have hv' : ∀ j, j < N → (fd.mapIdx (mm_fv (fun _ => 0) (fun _ => 0)))[j]? = some (defaultValue (ty j)) := fun j hj => by
    rw [hv]
    simp [hj]
  have hP1 : am_P s.heap.size D cT (mm (sh ++ [.inr (ci, fd)]) S zL) H1 := by
    rw [← e]
    refine am_pushP hP o1 ⟨_, hc, (u_born ty hts' hin hKn hkC e1 hty).to (fun j hj => ?_)⟩
    have h9 : ∀ b, am_v b (defaultValue (ty j)) = defaultValue (ty j) := fun b => df_v _ _
    simp [vp_V, hv' j hj, h9]
  have := k H1 hP1 (am_pushS hS z1 o1)
  rw [hz, mm_length]
  rw [← e, am_z_push, List.length_append, mm_length] at this
  subst hfs
  simpa [am_cz] using this
end
