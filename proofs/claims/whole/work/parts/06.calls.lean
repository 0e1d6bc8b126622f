section
variable {Y : am_Y} {M : am_M} {pc nx : Nat} {ls : List (Option Value)} {st : List Value} {Q : Option Value → am_M → Prop}
theorem am_newarrayI {n : Int32} (d : am_at Y pc (.newarray .int) 2 nx) (hw : Cond.arrayClass .int ∈ am_tbl) (hn : ¬ n < 0) (hb : n.toNatClampNeg ≤ 1000000) (k : am_AW Y (M ++ [.inl (0, n.toNatClampNeg, .inl (fun _ => 0))]) nx ls (.ref M.length :: st) Q) : am_AW Y M pc ls (.int n :: st) Q := by
  obtain ⟨d, rfl⟩ := d
  refine am_goN (fun p l e R s m args below meth c b D cT M0 H locs kk nn Q' la A hl hP hS hz h1 h2 k => ?_) k
  have hts : ∀ w ∈ am_tbl, w.before args s = true := fun w h => A.2.2.2.2.2.2.2.1 w (List.mem_cons_of_mem _ h)
  refine va_newaK (atype := .int) A.1 A.2.1 (hts _ hw) rfl d rfl hn rfl (show _ * 4 ≤ 536870912 by omega) h1 h2 rfl fun H1 cA e1 z1 o1 hAr hNm => ?_
  have hcA : cA = cT 0 := Option.some.inj (hNm.symm.trans (A.2.2.2.2.2.2.2.2.1.1.2 0 _ rfl).2)
  subst hcA
  rw [hz] at e1
  have := k H1 (am_pushP hP o1 e1) (am_pushS hS z1 o1)
  rw [hz]
  exact this
theorem am_newarrayL {n : Int32} (d : am_at Y pc (.newarray .long) 2 nx) (hw : Cond.arrayClass .long ∈ am_tbl) (hn : ¬ n < 0) (hb : n.toNatClampNeg ≤ 1000000) (k : am_AW Y (M ++ [.inl (1, n.toNatClampNeg, .inr (.inl (fun _ => 0)))]) nx ls (.ref M.length :: st) Q) : am_AW Y M pc ls (.int n :: st) Q := by
  obtain ⟨d, rfl⟩ := d
  refine am_goN (fun p l e R s m args below meth c b D cT M0 H locs kk nn Q' la A hl hP hS hz h1 h2 k => ?_) k
  have hts : ∀ w ∈ am_tbl, w.before args s = true := fun w h => A.2.2.2.2.2.2.2.1 w (List.mem_cons_of_mem _ h)
  refine va_newaK (atype := .long) A.1 A.2.1 (hts _ hw) rfl d rfl hn rfl (show _ * 8 ≤ 536870912 by omega) h1 h2 rfl fun H1 cA e1 z1 o1 hAr hNm => ?_
  have hcA : cA = cT 1 := Option.some.inj (hNm.symm.trans (A.2.2.2.2.2.2.2.2.1.1.2 1 _ rfl).2)
  subst hcA
  rw [hz] at e1
  have := k H1 (am_pushP hP o1 e1) (am_pushS hS z1 o1)
  rw [hz]
  exact this
theorem am_newarrayZ {n : Int32} (d : am_at Y pc (.newarray .boolean) 2 nx) (hw : Cond.arrayClass .boolean ∈ am_tbl) (hn : ¬ n < 0) (hb : n.toNatClampNeg ≤ 1000000) (k : am_AW Y (M ++ [.inl (2, n.toNatClampNeg, .inl (fun _ => 0))]) nx ls (.ref M.length :: st) Q) : am_AW Y M pc ls (.int n :: st) Q := by
  obtain ⟨d, rfl⟩ := d
  refine am_goN (fun p l e R s m args below meth c b D cT M0 H locs kk nn Q' la A hl hP hS hz h1 h2 k => ?_) k
  have hts : ∀ w ∈ am_tbl, w.before args s = true := fun w h => A.2.2.2.2.2.2.2.1 w (List.mem_cons_of_mem _ h)
  refine va_newaK (atype := .boolean) A.1 A.2.1 (hts _ hw) rfl d rfl hn rfl (show _ * 1 ≤ 536870912 by omega) h1 h2 rfl fun H1 cA e1 z1 o1 hAr hNm => ?_
  have hcA : cA = cT 2 := Option.some.inj (hNm.symm.trans (A.2.2.2.2.2.2.2.2.1.1.2 2 _ rfl).2)
  subst hcA
  rw [hz] at e1
  have := k H1 (am_pushP hP o1 e1) (am_pushS hS z1 o1)
  rw [hz]
  exact this
theorem am_anewarray {n : Int32} {idx t : Nat} {C : String} (d : am_at Y pc (.anewarray idx) 3 nx) (ht : ∀ cT, (am_tys cT)[t]? = some (cT t, .object C)) (hC : C ∈ am_ao) (hw : Cond.classLink Y.1.cls idx C ∈ am_tbl) (hn : ¬ n < 0) (hb : n.toNatClampNeg ≤ 1000000)
    (k : am_AW Y (M ++ [.inl (t, n.toNatClampNeg, .inr (.inr (.inr (.inr (fun _ => none)))))]) nx ls (.ref M.length :: st) Q) : am_AW Y M pc ls (.int n :: st) Q := by
  obtain ⟨d, rfl⟩ := d
  refine am_goN (fun p l e R s m args below meth c b D cT M0 H locs kk nn Q' la A hl hP hS hz h1 h2 k => ?_) k
  have hts : ∀ w ∈ am_tbl, w.before args s = true := fun w h => A.2.2.2.2.2.2.2.1 w (List.mem_cons_of_mem _ h)
  refine W.anew A.1 A.2.1 A.2.2.2.2.2.2.1 (hts _ hw) (va_AO.use (A.2.2.2.2.2.2.2.2.1.2.2 C hC)) rfl d rfl hn (by omega) h1 h2 fun cA kA comp f1 f2 f3 f4 => ?_
  generalize hH1 : H.push ({ cls := cA, slots := Array.replicate n.toNatClampNeg .null, vm := .none } : Cell) = H1
  have z1 : H1.size = H.size + 1 := by rw [← hH1, Array.size_push]
  have e1 : H1[H.size]? = some (arrV cA n.toNatClampNeg (fun _ => .null)) := by rw [← hH1, Array.getElem?_push_size, ← arrV_new]
  have o1 : ∀ q : Nat, q < H.size → H1[q]? = H[q]? := fun q hq => by rw [← hH1, Array.getElem?_push, if_neg (Nat.ne_of_lt hq)]
  obtain ⟨-, kA', comp', g1, g2, g3, g4⟩ := A.2.2.2.2.2.2.2.2.1.1.2 t _ (ht cT)
  have hcA : cA = cT t := Option.some.inj (f1.symm.trans g4)
  subst hcA
  rw [hz] at e1
  have := k H1 (am_pushP hP o1 e1) (am_pushS hS z1 o1)
  rw [hz]
  exact this
theorem am_objInit {idx a : Nat} (d : am_at Y pc (.invokespecial idx) 3 nx) (h1 : Cond.methodLink Y.1.cls idx Lib.objectInit ∈ am_tbl) (h2 : Cond.instanceMethod Lib.objectInit ∈ am_tbl) (h3 : Cond.code Lib.objectInit ⟨#[0xb1]⟩ 1 none ∈ am_tbl) (hf : 1 ≤ Y.2.2.2.2.1) (hlo : (st.map fun v => v.category).sum + 12 ≤ Y.2.2.2.2.2) (k : am_AW Y M nx ls st Q) : am_AW Y M pc ls (.ref a :: st) Q := by
  obtain ⟨d, rfl⟩ := d
  refine am_goM (M1 := M) rfl rfl (fun p l e R s m args below meth c b D cT M0 H locs kk nn Q' la hR1 hR2 A hl hP hS k => ?_) k
  have hts : ∀ w ∈ am_tbl, w.before args s = true := fun w h => A.2.2.2.2.2.2.2.1 w (List.mem_cons_of_mem _ h)
  refine W.objInit A.1 A.2.1 A.2.2.2.2.2.2.1 (hts _ h1) (hts _ h2) (hts _ h3) rfl (hl.1.trans A.2.2.1.symm) rfl d (by rw [hR1]; exact hf) ?_ (k H locs hP hS)
  rw [hR2]
  show 2 * 0 + _ + 12 ≤ _
  rw [List.map_map, show ((fun v : Value => v.category) ∘ am_v b) = fun v => v.category from funext fun v => am_v_cat b v]
  omega
theorem am_cats (b : Nat) (st : List Value) : ((st.map (am_v b)).map fun v => v.category).sum = (st.map fun v => v.category).sum := by
  rw [List.map_map, show ((fun v : Value => v.category) ∘ am_v b) = fun v => v.category from funext fun v => am_v_cat b v]
/-! calls -/
/-- what the tables say of a method that is called -/
def am_in (Y' : am_Y) (n : Nat) : Prop := Cond.code Y'.1 Y'.2.1 Y'.2.2.1 Y'.2.2.2.1 ∈ lw_tbl ∧ Cond.initialized Y'.1.cls ∈ am_tbl ∧ (Y'.1.cls ≠ "java/lang/invoke/MethodHandle" ∧ Y'.1.cls ≠ "java/lang/invoke/VarHandle" ∧ (parseMethodDescriptor Y'.1.desc).map (fun d => d.parameters.length) = some n)
def am_room (Y Y' : am_Y) : Prop := Y'.2.2.2.2.1 + 1 ≤ Y.2.2.2.2.1 ∧ 8 + (Y'.2.2.1 + 11) + Y'.2.2.2.2.2 ≤ Y.2.2.2.2.2
theorem am_blind (b : Nat) (D : va_G) (cT : Nat → ClassId) (as : List Value) (M : am_M) : FrameBlind (am_Pc b D cT as M) := by
  intro a U g mk h
  obtain ⟨h1, h2, h3, h4, h5, h6⟩ := h
  exact ⟨h1, h2, h3, va_K.moved (u := U) (U := U.calling g mk a) (Vm.Alike.refl U.vm) h4, fun w hw => by
    have := h5 w hw
    obtain ⟨a', i, x, g', rfl⟩ := am_nest_form hw
    exact va_Nw.same (u := U) (U := U.calling g mk a) rfl rfl this, fun C hC => (h6 C hC).moved (u := U) (U := U.calling g mk a) (Vm.Alike.refl U.vm)⟩
/-- the call's run, however it is called -/
theorem am_goC {Y' : am_Y} {as : List Value} {st0 : List Value} {Q1 : Option Value → am_M → Prop} (hE : am_E Y' as M Q1)
    (h : ∀ (p : Program) (l : Launch) (e : Env) (R : Room) (s : State) (m : MethodId) (args : Array Value) (below : List Frame) (meth : Method) (c : Code) (b : Nat) (D : va_G) (cT : Nat → ClassId) (M0 : am_M) (H : Heap) (locs : List Loc) (kk nn : Nat) (la : Array Slot) (r : Option Value) (M1 : am_M),
      R.frames = Y.2.2.2.2.1 → R.locals = Y.2.2.2.2.2 → am_At Y p s m args meth c b D cT M0 → lv_has la Y.2.2.1 (am_al b ls) → am_P b D cT M H → H.size = b + M.length → kk + (M1.length - M.length) ≤ R.cells → nn + (am_z M1 - am_z M) ≤ R.slots →
      (∀ U : State, U.heap = H → s.WarmedH U.vm → am_Pc b D cT as M (as.map (am_v b)).toArray U) →
      Met l Y'.1 (am_ws Y') (am_R Y' M M1) (am_Pc b D cT as M) (am_Qc b D cT r M1) (M1.length - M.length) (am_z M1 - am_z M) (fun q => b ≤ q) →
      va_Run p l e R s m args below meth c H locs kk nn (M1.length - M.length) (am_z M1 - am_z M) (F0 m pc la (st0.map (am_v b))) (st.map (am_v b)) (am_Qc b D cT r M1 (as.map (am_v b)).toArray) (fun q => b ≤ q))
    (hnx : pc + 3 = nx) (k : ∀ r M1, Q1 r M1 → am_AW Y M1 nx ls (r.toList ++ st) Q) : am_AW Y M pc ls st0 Q := by
  obtain ⟨r, M1, hq1, e1, e2, hM⟩ := hE
  obtain ⟨r2, M', hq, f1, f2, hw⟩ := k r M1 hq1
  refine ⟨r2, M', hq, by omega, by omega, ?_⟩
  intro p l e s m args below meth c b D cT M0 H locs la A g1 g2 hP hS hl
  refine am_size A.2.2.2.2.2.2.2.2.2 g1 hP hS fun hz => ?_
  have hr := h p l e (am_R Y M0 M') s m args below meth c b D cT M0 H locs (M.length - M0.length) (am_z M - am_z M0) la r M1 rfl rfl A hl hP hz (by show _ ≤ M'.length - M0.length; omega) (by show _ ≤ am_z M' - am_z M0; omega)
    (fun U hU hW => ⟨rfl, by rw [hU]; exact hP, by rw [hU]; exact hz, A.2.2.2.2.2.2.2.2.1.warm hW⟩) (hM l b D cT)
  intro T hT X
  obtain ⟨v, st₀, t, T', L, h0, X', hL, e3, e4, ⟨hv, hP1, hz1, hF1⟩, go⟩ := hr T hT X
  cases hv
  rw [h0] at hz1 hF1
  have hS1 : va_S (fun q => b ≤ q) s.heap T'.heap (locs ++ L) := ⟨Nat.le_trans hS.1 (by rw [e3]; exact hz1), fun q q1 q2 => by rw [e3, hF1 q (Nat.lt_of_lt_of_le q1 hS.1) q2]; exact hS.2.1 q q1 q2, fun q hq => by
    rcases List.mem_append.mp hq with h | h
    · exact hS.2.2 q h
    · exact hL q h⟩
  have hw2 := hw p l e s m args below meth c b D cT M0 T'.heap (locs ++ L) la A (by omega) (by omega) (by show va_P _ _ _ _; rw [e3]; exact hP1) hS1 hl
  have hgf : (F0 m pc la (st0.map (am_v b))).pc + 3 = nx := hnx
  obtain ⟨t2, a1, b1⟩ := hw2 T' rfl (by rw [show M1.length - M0.length = M.length - M0.length + (M1.length - M.length) by omega, show am_z M1 - am_z M0 = am_z M - am_z M0 + (am_z M1 - am_z M) by omega]; exact X')
  refine ⟨t2, go t2 ?_, b1⟩
  subst hnx
  have e5 : ((r.toList ++ st).map (am_v b)) = (r.map (am_v b)).toList ++ st.map (am_v b) := by cases r <;> simp
  rw [e5] at a1
  exact a1
theorem am_callB {Y' : am_Y} {M1 : am_M} {own : String} {index n : Nat} {R : Room} {s : State} {args : Array Value} (hin : am_in Y' n) (hro : am_room Y Y') (hR1 : R.frames = Y.2.2.2.2.1) (hR2 : R.locals = Y.2.2.2.2.2) (ht : ∀ w ∈ am_ws Y, w.before args s = true) (hl : (Cond.methodLink own index Y'.1).before args s = true) :
    CallB R s args own index Y'.1 Y'.2.1 Y'.2.2.1 Y'.2.2.2.1 (am_ws Y') (am_R Y' M M1) (M1.length - M.length) (am_z M1 - am_z M) n :=
  callB_of n ht (am_good hin.1) rfl rfl rfl (ht _ (List.mem_cons_of_mem _ hin.2.1)) hl hin.2.2 ⟨by rw [hR1]; exact hro.1, by rw [hR2]; exact hro.2⟩
/-- invokevirtual of a method of the object's own class -/
theorem am_invV {Y' : am_Y} {idx n a ci : Nat} {T : u_T} {N : Nat} {fs : List Value} {As : List Value} {sa : List Value} {Q1 : Option Value → am_M → Prop} (d : am_at Y pc (.invokevirtual idx) 3 nx) (hin : am_in Y' n) (h1 : Cond.methodLink Y.1.cls idx Y'.1 ∈ am_tbl) (h2 : Cond.instanceMethod Y'.1 ∈ am_tbl) (h3 : Cond.selects Y'.1.cls Y'.1 Y'.1 ∈ am_tbl) (hro : am_room Y Y')
    (hc : vwCl[ci]? = some (Y'.1.cls, T, N)) (hM : M[a]? = some (.inr (ci, fs))) (hn : As.length = n) (hsa : sa = As.reverse ++ .ref a :: st) (hst : (st.map fun v => v.category).sum ≤ 8)
    (hE : am_E Y' (.ref a :: As) M Q1) (k : ∀ r M1, Q1 r M1 → am_AW Y M1 nx ls (r.toList ++ st) Q) : am_AW Y M pc ls sa Q := by
  obtain ⟨d, hnx⟩ := d
  subst hsa
  refine am_goC hE (fun p l e R s m args below meth c b D cT M0 H locs kk nn la r M1 hR1 hR2 A hl hP hz q1 q2 hPc hMet => ?_) hnx k
  have ht := A.2.2.2.2.2.2.2.1
  refine va_runV (As := As.map (am_v b)) (b := b + a) ⟨A.1, A.2.1, A.2.2.1, A.2.2.2.2.2.2.1, ht⟩ hMet ⟨am_callB hin hro hR1 hR2 ht (ht _ (List.mem_cons_of_mem _ h1)), ht _ (List.mem_cons_of_mem _ h2), ht _ (List.mem_cons_of_mem _ h3)⟩ ⟨am_blind b D cT _ M, va_recv A.2.2.2.2.2.2.2.2.1.1 hP hc (am_W_get hM), fun U hU hW => hPc U hU hW⟩ rfl (by simpa using hn) hl.1 ?_ ?_ d ⟨q1, q2⟩
  · show (As.reverse ++ Value.ref a :: st).map (am_v b) = _
    simp [am_v]
  · refine lv_room ?_
    rw [am_cats]
    exact hst
theorem am_invS {Y' : am_Y} {idx n : Nat} {As : List Value} {sa : List Value} {Q1 : Option Value → am_M → Prop} (d : am_at Y pc (.invokestatic idx) 3 nx) (hin : am_in Y' n) (h1 : Cond.methodLink Y.1.cls idx Y'.1 ∈ am_tbl) (h2 : Cond.static Y'.1 ∈ am_tbl) (hro : am_room Y Y')
    (hn : As.length = n) (hsa : sa = As.reverse ++ st) (hst : (st.map fun v => v.category).sum ≤ 8)
    (hE : am_E Y' As M Q1) (k : ∀ r M1, Q1 r M1 → am_AW Y M1 nx ls (r.toList ++ st) Q) : am_AW Y M pc ls sa Q := by
  obtain ⟨d, hnx⟩ := d
  subst hsa
  refine am_goC hE (fun p l e R s m args below meth c b D cT M0 H locs kk nn la r M1 hR1 hR2 A hl hP hz q1 q2 hPc hMet => ?_) hnx k
  have ht := A.2.2.2.2.2.2.2.1
  refine va_runS (As := As.map (am_v b)) ⟨A.1, A.2.1, A.2.2.1, A.2.2.2.2.2.2.1, ht⟩ hMet ⟨am_callB hin hro hR1 hR2 ht (ht _ (List.mem_cons_of_mem _ h1)), ht _ (List.mem_cons_of_mem _ h2)⟩ ⟨am_blind b D cT _ M, fun U hU hW => hPc U hU hW⟩ rfl (by simpa using hn) hl.1 ?_ ?_ d ⟨q1, q2⟩
  · show (As.reverse ++ st).map (am_v b) = _
    simp
  · refine lv_room ?_
    rw [am_cats]
    exact hst
theorem am_invI {Y' : am_Y} {idx n a : Nat} {As : List Value} {sa : List Value} {Q1 : Option Value → am_M → Prop} (d : am_at Y pc (.invokespecial idx) 3 nx) (hin : am_in Y' n) (hr : Y'.2.2.2.1 = none) (hy : Y'.1.name = "<init>") (h1 : Cond.methodLink Y.1.cls idx Y'.1 ∈ am_tbl) (h2 : Cond.instanceMethod Y'.1 ∈ am_tbl) (hro : am_room Y Y')
    (hn : As.length = n) (hsa : sa = As.reverse ++ .ref a :: st) (hst : (st.map fun v => v.category).sum ≤ 8)
    (hE : am_E Y' (.ref a :: As) M Q1) (k : ∀ r M1, Q1 r M1 → am_AW Y M1 nx ls (r.toList ++ st) Q) : am_AW Y M pc ls sa Q := by
  obtain ⟨d, hnx⟩ := d
  subst hsa
  refine am_goC hE (fun p l e R s m args below meth c b D cT M0 H locs kk nn la r M1 hR1 hR2 A hl hP hz q1 q2 hPc hMet => ?_) hnx k
  have ht := A.2.2.2.2.2.2.2.1
  refine va_runI (As := As.map (am_v b)) (b := b + a) ⟨A.1, A.2.1, A.2.2.1, A.2.2.2.2.2.2.1, ht⟩ hMet ⟨by have := am_callB (M := M) (M1 := M1) hin hro hR1 hR2 ht (ht _ (List.mem_cons_of_mem _ h1)); rw [hr] at this; exact this, hy, ht _ (List.mem_cons_of_mem _ h2)⟩ ⟨am_blind b D cT _ M, fun U hU hW => hPc U hU hW⟩ rfl (by simpa using hn) hl.1 ?_ ?_ d ⟨q1, q2⟩
  · show (As.reverse ++ Value.ref a :: st).map (am_v b) = _
    simp [am_v]
  · refine lv_room ?_
    rw [am_cats]
    exact hst
theorem am_callN {Y' : am_Y} {M1 : am_M} {own host : String} {index n : Nat} {R : Room} {s : State} {args : Array Value} (hin : am_in Y' n) (hro : am_room Y Y') (hR1 : R.frames = Y.2.2.2.2.1) (hR2 : R.locals = Y.2.2.2.2.2) (ht : ∀ w ∈ am_ws Y, w.before args s = true) (hl : va_Nw (.methodLinkNest own index Y'.1 host) s) :
    va_CN R s args own index Y'.1 host Y'.2.1 Y'.2.2.1 Y'.2.2.2.1 (am_ws Y') (am_R Y' M M1) (M1.length - M.length) (am_z M1 - am_z M) n :=
  va_cnB n ht (am_good hin.1) rfl rfl rfl hl (ht _ (List.mem_cons_of_mem _ hin.2.1)) hin.2.2 ⟨by rw [hR1]; exact hro.1, by rw [hR2]; exact hro.2⟩
theorem am_invSN {Y' : am_Y} {idx n : Nat} {host : String} {As : List Value} {sa : List Value} {Q1 : Option Value → am_M → Prop} (d : am_at Y pc (.invokestatic idx) 3 nx) (hin : am_in Y' n) (h1 : Cond.methodLinkNest Y.1.cls idx Y'.1 host ∈ am_nest) (h2 : Cond.static Y'.1 ∈ am_tbl) (hro : am_room Y Y')
    (hn : As.length = n) (hsa : sa = As.reverse ++ st) (hst : (st.map fun v => v.category).sum ≤ 8)
    (hE : am_E Y' As M Q1) (k : ∀ r M1, Q1 r M1 → am_AW Y M1 nx ls (r.toList ++ st) Q) : am_AW Y M pc ls sa Q := by
  obtain ⟨d, hnx⟩ := d
  subst hsa
  refine am_goC hE (fun p l e R s m args below meth c b D cT M0 H locs kk nn la r M1 hR1 hR2 A hl hP hz q1 q2 hPc hMet => ?_) hnx k
  have ht := A.2.2.2.2.2.2.2.1
  refine va_runSN (As := As.map (am_v b)) ⟨A.1, A.2.1, A.2.2.1, A.2.2.2.2.2.2.1, ht⟩ hMet ⟨am_callN hin hro hR1 hR2 ht (A.2.2.2.2.2.2.2.2.1.2.1 _ h1), ht _ (List.mem_cons_of_mem _ h2), trivial⟩ ⟨am_blind b D cT _ M, fun U hU hW => hPc U hU hW⟩ rfl (by simpa using hn) hl.1 ?_ ?_ d ⟨q1, q2⟩
  · show (As.reverse ++ st).map (am_v b) = _
    simp
  · refine lv_room ?_
    rw [am_cats]
    exact hst
theorem am_invIN {Y' : am_Y} {idx n a : Nat} {host : String} {As : List Value} {sa : List Value} {Q1 : Option Value → am_M → Prop} (d : am_at Y pc (.invokespecial idx) 3 nx) (hin : am_in Y' n) (hr : Y'.2.2.2.1 = none) (hy : Y'.1.name = "<init>") (h1 : Cond.methodLinkNest Y.1.cls idx Y'.1 host ∈ am_nest) (h2 : Cond.instanceMethod Y'.1 ∈ am_tbl) (hro : am_room Y Y')
    (hn : As.length = n) (hsa : sa = As.reverse ++ .ref a :: st) (hst : (st.map fun v => v.category).sum ≤ 8)
    (hE : am_E Y' (.ref a :: As) M Q1) (k : ∀ r M1, Q1 r M1 → am_AW Y M1 nx ls (r.toList ++ st) Q) : am_AW Y M pc ls sa Q := by
  obtain ⟨d, hnx⟩ := d
  subst hsa
  refine am_goC hE (fun p l e R s m args below meth c b D cT M0 H locs kk nn la r M1 hR1 hR2 A hl hP hz q1 q2 hPc hMet => ?_) hnx k
  have ht := A.2.2.2.2.2.2.2.1
  refine va_runIN (As := As.map (am_v b)) (b := b + a) ⟨A.1, A.2.1, A.2.2.1, A.2.2.2.2.2.2.1, ht⟩ hMet ⟨by have := am_callN (M := M) (M1 := M1) hin hro hR1 hR2 ht (A.2.2.2.2.2.2.2.2.1.2.1 _ h1); rw [hr] at this; exact this, hy, ht _ (List.mem_cons_of_mem _ h2)⟩ ⟨am_blind b D cT _ M, fun U hU hW => hPc U hU hW⟩ rfl (by simpa using hn) hl.1 ?_ ?_ d ⟨q1, q2⟩
  · show (As.reverse ++ Value.ref a :: st).map (am_v b) = _
    simp [am_v]
  · refine lv_room ?_
    rw [am_cats]
    exact hst
end
