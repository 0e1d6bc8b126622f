/-! ===== The virtual memory: cells by their numbers 0, 1, ..; a cell's address is b + its number ===== -/
abbrev am_C : Type := (Nat × vp_A) ⊕ (Nat × List Value)
abbrev am_M : Type := List am_C
def am_v (b : Nat) (v : Value) : Value := match v with
  | .ref k => .ref (b + k)
  | .int x => .int x
  | .long x => .long x
  | .float x => .float x
  | .double x => .double x
  | .null => .null
  | .retAddr x => .retAddr x
theorem am_v_cat (b : Nat) (v : Value) : (am_v b v).category = v.category := by cases v <;> rfl
def am_a (b : Nat) (a : vp_A) : vp_A := (a.1, match a.2 with
  | .inl f => .inl f
  | .inr (.inl f) => .inr (.inl f)
  | .inr (.inr (.inl f)) => .inr (.inr (.inl f))
  | .inr (.inr (.inr (.inl f))) => .inr (.inr (.inr (.inl f)))
  | .inr (.inr (.inr (.inr g))) => .inr (.inr (.inr (.inr (fun j => (g j).map (fun k => b + k))))))
def am_e (b : Nat) (cT : Nat → ClassId) (c : am_C) : va_E := match c with
  | .inl a => .inl (cT a.1, am_a b a.2)
  | .inr o => .inr (o.1, o.2.map (am_v b))
def am_W (b : Nat) (cT : Nat → ClassId) (M : am_M) : va_W := M.mapIdx (fun k c => (b + k, am_e b cT c))
def am_cz (c : am_C) : Nat := match c with
  | .inl a => a.2.1
  | .inr o => o.2.length
def am_z (M : am_M) : Nat := (M.map am_cz).sum
theorem am_z_push (M : am_M) (c : am_C) : am_z (M ++ [c]) = am_z M + am_cz c := by simp [am_z]
theorem am_z_set : ∀ (M : am_M) (k : Nat) (c c' : am_C), M[k]? = some c → am_cz c' = am_cz c → am_z (M.set k c') = am_z M
  | [], k, c, c', h, _ => by simp at h
  | a :: M, 0, c, c', h, hz => by
    simp at h
    subst h
    simp [am_z, hz]
  | a :: M, k + 1, c, c', h, hz => by
    have := am_z_set M k c c' (by simpa using h) hz
    simp only [am_z, List.set_cons_succ, List.map_cons, List.sum_cons] at this ⊢
    omega
theorem am_W_get {b : Nat} {cT : Nat → ClassId} {M : am_M} {k : Nat} {c : am_C} (h : M[k]? = some c) : (am_W b cT M)[k]? = some (b + k, am_e b cT c) := by
  simp [am_W, List.getElem?_mapIdx, h]
theorem am_W_of {b : Nat} {cT : Nat → ClassId} {M : am_M} {k : Nat} {q : Nat × va_E} (h : (am_W b cT M)[k]? = some q) : ∃ c, M[k]? = some c ∧ q = (b + k, am_e b cT c) := by
  simp only [am_W, List.getElem?_mapIdx, Option.map_eq_some_iff] at h
  obtain ⟨c, h1, h2⟩ := h
  exact ⟨c, h1, h2.symm⟩
theorem am_W_len (b : Nat) (cT : Nat → ClassId) (M : am_M) : (am_W b cT M).length = M.length := by simp [am_W]
theorem am_W_set (b : Nat) (cT : Nat → ClassId) (M : am_M) (k : Nat) (c : am_C) : (am_W b cT M).set k (b + k, am_e b cT c) = am_W b cT (M.set k c) := by
  apply List.ext_getElem?
  intro i
  by_cases hk : k = i
  · subst hk
    by_cases hl : k < M.length
    · rw [List.getElem?_set_self (by rw [am_W_len]; exact hl), am_W_get (List.getElem?_set_self hl)]
    · rw [List.getElem?_eq_none (by simp [am_W_len]; omega), List.getElem?_eq_none (by simp [am_W_len]; omega)]
  · rw [List.getElem?_set_ne hk]
    simp [am_W, List.getElem?_mapIdx, List.getElem?_set_ne hk]
theorem am_W_push (b : Nat) (cT : Nat → ClassId) (M : am_M) (c : am_C) : am_W b cT (M ++ [c]) = am_W b cT M ++ [(b + M.length, am_e b cT c)] := by
  simp [am_W, List.mapIdx_append]
theorem am_D (b : Nat) (cT : Nat → ClassId) (M : am_M) : va_D (fun q => b ≤ q) (am_W b cT M) := by
  refine ⟨fun i j p q hi hj hpq => ?_, fun k q hk => ?_⟩
  · obtain ⟨c, h1, rfl⟩ := am_W_of hi
    obtain ⟨c', h2, rfl⟩ := am_W_of hj
    simp at hpq
    exact hpq
  · obtain ⟨c, h1, rfl⟩ := am_W_of hk
    simp
def am_ty : List FieldType := [.int, .long, .boolean, .object "StateWear$Case", .object "StateWear$Kind", .object "StateWear$Routine", .object "StateWear$Scene"]
def am_tys (cT : Nat → ClassId) : List (ClassId × FieldType) := [(cT 0, .int), (cT 1, .long), (cT 2, .boolean), (cT 3, .object "StateWear$Case"), (cT 4, .object "StateWear$Kind"), (cT 5, .object "StateWear$Routine"), (cT 6, .object "StateWear$Scene")]
def am_ao : List String := ["StateWear$Case", "StateWear$Kind", "StateWear$Routine", "StateWear$Scene"]
def am_isNest (w : Cond) : Bool := match w with
  | .methodLinkNest .. => true
  | _ => false
def am_nest : List Cond := lw_tbl.filter am_isNest
def am_tbl : List Cond := lw_tbl.filter goodWord
/-- what a method is: name, code, how many locals, what it returns, its room: frames, words of locals -/
abbrev am_Y : Type := MethodName × ByteArray × Nat × Option FieldType × Nat × Nat
abbrev am_ws (Y : am_Y) : List Cond := Cond.code Y.1 Y.2.1 Y.2.2.1 Y.2.2.2.1 :: am_tbl
theorem am_good {Y Y' : am_Y} (h : Cond.code Y'.1 Y'.2.1 Y'.2.2.1 Y'.2.2.2.1 ∈ lw_tbl) : GoodIn (am_ws Y) (am_ws Y') := by
  intro w hw
  have key : w ∈ am_tbl := by
    rcases List.mem_cons.mp hw with rfl | hw
    · exact List.mem_filter.mpr ⟨h, rfl⟩
    · exact hw
  exact ⟨List.mem_cons_of_mem _ key, good_of_word (List.mem_filter.mp key).2⟩
def am_K (D : va_G) (cT : Nat → ClassId) (U : State) : Prop := va_K D vwCl (am_tys cT) U ∧ (∀ w ∈ am_nest, va_Nw w U) ∧ ∀ C ∈ am_ao, va_AO C U
theorem am_nest_form {w : Cond} (h : w ∈ am_nest) : ∃ a i x g, w = .methodLinkNest a i x g := by
  have := (List.mem_filter.mp h).2
  unfold am_isNest at this
  split at this
  · exact ⟨_, _, _, _, rfl⟩
  · cases this
theorem am_K.warm {D : va_G} {cT : Nat → ClassId} {s U : State} (hW : s.WarmedH U.vm) (h : am_K D cT s) : am_K D cT U := by
  refine ⟨va_K.moved hW.alike h.1, fun w hw => ?_, fun C hC => (h.2.2 C hC).moved hW.alike⟩
  have h2 := h.2.1 w hw
  obtain ⟨a, i, x, g, rfl⟩ := am_nest_form hw
  exact va_Nw.warmM hW h2
abbrev am_P (b : Nat) (D : va_G) (cT : Nat → ClassId) (M : am_M) (H : Heap) : Prop := va_P D vwCl (am_W b cT M) H
def am_Pc (b : Nat) (D : va_G) (cT : Nat → ClassId) (as : List Value) (M : am_M) : Array Value → State → Prop := fun v U => v = (as.map (am_v b)).toArray ∧ am_P b D cT M U.heap ∧ U.heap.size = b + M.length ∧ am_K D cT U
def am_Qc (b : Nat) (D : va_G) (cT : Nat → ClassId) (r : Option Value) (M' : am_M) : Array Value → State → Outcome → State → Prop := fun _ st o t => o = .returned (r.map (am_v b)) ∧ am_P b D cT M' t.heap ∧ va_F (fun q => b ≤ q) st t
abbrev am_R (Y : am_Y) (M0 M' : am_M) : Room := { frames := Y.2.2.2.2.1, cells := M'.length - M0.length, slots := am_z M' - am_z M0, locals := Y.2.2.2.2.2 }
/-- **the method, called with these over this memory, answers r, and leaves the memory M'** -/
def am_EV (Y : am_Y) (as : List Value) (M : am_M) (r : Option Value) (M' : am_M) : Prop := M.length ≤ M'.length ∧ am_z M ≤ am_z M' ∧
  ∀ (l : Launch) (b : Nat) (D : va_G) (cT : Nat → ClassId), Met l Y.1 (am_ws Y) (am_R Y M M') (am_Pc b D cT as M) (am_Qc b D cT r M') (M'.length - M.length) (am_z M' - am_z M) (fun q => b ≤ q)
def am_E (Y : am_Y) (as : List Value) (M : am_M) (Q : Option Value → am_M → Prop) : Prop := ∃ r M', Q r M' ∧ am_EV Y as M r M'
def am_At (Y : am_Y) (p : Program) (s : State) (m : MethodId) (args : Array Value) (meth : Method) (c : Code) (b : Nat) (D : va_G) (cT : Nat → ClassId) (M0 : am_M) : Prop :=
  p.tables.exec = Jvm.exec ∧ c.code = Y.2.1 ∧ c.maxLocals = Y.2.2.1 ∧ meth.sig.returnType = Y.2.2.2.1 ∧ meth.locks = false ∧ meth.name = Y.1.name ∧ s.vm.findClass Y.1.cls = some m.cls ∧ (∀ w ∈ am_ws Y, w.before args s = true) ∧ am_K D cT s ∧ s.heap.size = b + M0.length
/-! locals by their places -/
def am_al (b : Nat) (ls : List (Option Value)) : List (Nat × Value) := ls.zipIdx.filterMap (fun q => q.1.map (fun v => (q.2, am_v b v)))
theorem am_al_mem {b : Nat} {ls : List (Option Value)} {i : Nat} {w : Value} : (i, w) ∈ am_al b ls ↔ ∃ v, ls[i]? = some (some v) ∧ w = am_v b v := by
  simp only [am_al, List.mem_filterMap, Option.map_eq_some_iff, Prod.exists, Prod.mk.injEq, List.mem_zipIdx_iff_getElem?]
  constructor
  · rintro ⟨a, j, h1, v, rfl, rfl, rfl⟩
    exact ⟨v, h1, rfl⟩
  · rintro ⟨v, h1, rfl⟩
    exact ⟨some v, i, h1, v, rfl, rfl, rfl⟩
theorem am_lv {la : Array Slot} {n : Nat} {l l' : List (Nat × Value)} (h : lv_has la n l) (hs : ∀ q ∈ l', q ∈ l) : lv_has la n l' := ⟨h.1, h.2.1, fun q hq => h.2.2 q (hs q hq)⟩
theorem am_ld {b : Nat} {la : Array Slot} {n : Nat} {ls : List (Option Value)} (h : lv_has la n (am_al b ls)) {i : Nat} {v : Value} (hi : ls[i]? = some (some v)) : la[i]? = some (.val (am_v b v)) := h.2.2 (i, am_v b v) (am_al_mem.mpr ⟨v, hi, rfl⟩)
def am_RW (Y : am_Y) (M : am_M) (pc : Nat) (ls : List (Option Value)) (st : List Value) (r : Option Value) (M' : am_M) : Prop :=
  M.length ≤ M'.length ∧ am_z M ≤ am_z M' ∧
  ∀ (p : Program) (l : Launch) (e : Env) (s : State) (m : MethodId) (args : Array Value) (below : List Frame) (meth : Method) (c : Code) (b : Nat) (D : va_G) (cT : Nat → ClassId) (M0 : am_M) (H : Heap) (locs : List Loc) (la : Array Slot),
    am_At Y p s m args meth c b D cT M0 → M0.length ≤ M.length → am_z M0 ≤ am_z M → am_P b D cT M H → va_S (fun q => b ≤ q) s.heap H locs → lv_has la Y.2.2.1 (am_al b ls) →
    W p l e (am_R Y M0 M') s m args below meth c H locs (M.length - M0.length) (am_z M - am_z M0) (MQ below (am_Qc b D cT r M') args s (M'.length - M0.length) (am_z M' - am_z M0) (fun q => b ≤ q)) (F0 m pc la (st.map (am_v b)))
/-- **from here, with these locals and this stack over this memory, the method comes to an answer and a memory of which Q holds** -/
def am_AW (Y : am_Y) (M : am_M) (pc : Nat) (ls : List (Option Value)) (st : List Value) (Q : Option Value → am_M → Prop) : Prop := ∃ r M', Q r M' ∧ am_RW Y M pc ls st r M'
theorem am_AW.mono {Y : am_Y} {M : am_M} {pc : Nat} {ls : List (Option Value)} {st : List Value} {Q Q' : Option Value → am_M → Prop} (h : am_AW Y M pc ls st Q) (hq : ∀ r M', Q r M' → Q' r M') : am_AW Y M pc ls st Q' := by
  obtain ⟨r, M', h1, h2⟩ := h
  exact ⟨r, M', hq _ _ h1, h2⟩
theorem am_E.mono {Y : am_Y} {as : List Value} {M : am_M} {Q Q' : Option Value → am_M → Prop} (h : am_E Y as M Q) (hq : ∀ r M', Q r M' → Q' r M') : am_E Y as M Q' := by
  obtain ⟨r, M', h1, h2⟩ := h
  exact ⟨r, M', hq _ _ h1, h2⟩
/-! fewer locals known -/
theorem am_AW.fewer {Y : am_Y} {M : am_M} {pc : Nat} {ls ls' : List (Option Value)} {st : List Value} {Q : Option Value → am_M → Prop} (h : am_AW Y M pc ls' st Q) (hs : ∀ (i : Nat) (v : Value), ls'[i]? = some (some v) → ls[i]? = some (some v)) : am_AW Y M pc ls st Q := by
  obtain ⟨r, M', h1, h2, h3, h4⟩ := h
  refine ⟨r, M', h1, h2, h3, ?_⟩
  intro p l e s m args below meth c b D cT M0 H locs la A g1 g2 hP hS hl
  refine h4 p l e s m args below meth c b D cT M0 H locs la A g1 g2 hP hS (am_lv hl ?_)
  rintro ⟨i, w⟩ hq
  obtain ⟨v, h5, h6⟩ := am_al_mem.mp hq
  exact am_al_mem.mpr ⟨v, hs i v h5, h6⟩
/-- an instruction at its place, with the next one's -/
def am_at (Y : am_Y) (pc : Nat) (i : Instr) (n nx : Nat) : Prop := decode Y.2.1 pc = .ok (i, n) ∧ pc + n = nx
/-! rows that change nothing but place, locals, stack -/
theorem am_go {Y : am_Y} {M : am_M} {pc nx : Nat} {ls ls' : List (Option Value)} {st st' : List Value} {Q : Option Value → am_M → Prop}
    (h : ∀ (p : Program) (l : Launch) (e : Env) (R : Room) (s : State) (m : MethodId) (args : Array Value) (below : List Frame) (meth : Method) (c : Code) (b : Nat) (D : va_G) (cT : Nat → ClassId) (M0 : am_M) (H : Heap) (locs : List Loc) (k n : Nat) (Q' : State → Prop) (la : Array Slot),
      am_At Y p s m args meth c b D cT M0 → lv_has la Y.2.2.1 (am_al b ls) → am_P b D cT M H → (∀ la', lv_has la' Y.2.2.1 (am_al b ls') → W p l e R s m args below meth c H locs k n Q' (F0 m nx la' (st'.map (am_v b)))) →
      W p l e R s m args below meth c H locs k n Q' (F0 m pc la (st.map (am_v b))))
    (k : am_AW Y M nx ls' st' Q) : am_AW Y M pc ls st Q := by
  obtain ⟨r, M', hq, h1, h2, hw⟩ := k
  refine ⟨r, M', hq, h1, h2, ?_⟩
  intro p l e s m args below meth c b D cT M0 H locs la A g1 g2 hP hS hl
  exact h p l e _ s m args below meth c b D cT M0 H locs _ _ _ la A hl hP (fun la' hl' => hw p l e s m args below meth c b D cT M0 H locs la' A g1 g2 hP hS hl')
/-! the heap is just as long as the memory says -/
theorem am_size {p : Program} {l : Launch} {e : Env} {R : Room} {s : State} {m : MethodId} {args : Array Value} {below : List Frame} {meth : Method} {c : Code} {H : Heap} {locs : List Loc} {n : Nat} {Q' : State → Prop} {g : JFrame} {b : Nat} {D : va_G} {cT : Nat → ClassId} {M0 M : am_M}
    (h0 : s.heap.size = b + M0.length) (hle : M0.length ≤ M.length) (hP : am_P b D cT M H) (hS : va_S (fun q => b ≤ q) s.heap H locs)
    (k : H.size = b + M.length → W p l e R s m args below meth c H locs (M.length - M0.length) n Q' g) : W p l e R s m args below meth c H locs (M.length - M0.length) n Q' g := by
  intro T hT X
  refine k ?_ T hT X
  have h1 := X.heapSize
  rw [hT, h0] at h1
  have h2 : b + M.length ≤ H.size := by
    cases hM : M.length with
    | zero => have := hS.1; rw [h0] at this; omega
    | succ q =>
      have hq : q < M.length := by omega
      have := (hP q _ (am_W_get (List.getElem?_eq_getElem hq))).lt
      simp at this
      omega
  omega
theorem am_goM {Y : am_Y} {M M1 : am_M} {pc nx : Nat} {ls : List (Option Value)} {st st' : List Value} {Q : Option Value → am_M → Prop} (hz : M1.length = M.length) (hz2 : am_z M1 = am_z M)
    (h : ∀ (p : Program) (l : Launch) (e : Env) (R : Room) (s : State) (m : MethodId) (args : Array Value) (below : List Frame) (meth : Method) (c : Code) (b : Nat) (D : va_G) (cT : Nat → ClassId) (M0 : am_M) (H : Heap) (locs : List Loc) (k n : Nat) (Q' : State → Prop) (la : Array Slot), R.frames = Y.2.2.2.2.1 → R.locals = Y.2.2.2.2.2 →
      am_At Y p s m args meth c b D cT M0 → lv_has la Y.2.2.1 (am_al b ls) → am_P b D cT M H → va_S (fun q => b ≤ q) s.heap H locs → (∀ H1 locs1, am_P b D cT M1 H1 → va_S (fun q => b ≤ q) s.heap H1 locs1 → W p l e R s m args below meth c H1 locs1 k n Q' (F0 m nx la (st'.map (am_v b)))) →
      W p l e R s m args below meth c H locs k n Q' (F0 m pc la (st.map (am_v b))))
    (k : am_AW Y M1 nx ls st' Q) : am_AW Y M pc ls st Q := by
  obtain ⟨r, M', hq, h1, h2, hw⟩ := k
  refine ⟨r, M', hq, by omega, by omega, ?_⟩
  intro p l e s m args below meth c b D cT M0 H locs la A g1 g2 hP hS hl
  refine h p l e _ s m args below meth c b D cT M0 H locs _ _ _ la rfl rfl A hl hP hS (fun H1 locs1 hP1 hS1 => ?_)
  have := hw p l e s m args below meth c b D cT M0 H1 locs1 la A (by omega) (by omega) hP1 hS1 hl
  rw [hz, hz2] at this
  exact this
theorem am_goN {Y : am_Y} {M : am_M} {cl : am_C} {pc nx : Nat} {ls : List (Option Value)} {st st' : List Value} {Q : Option Value → am_M → Prop}
    (h : ∀ (p : Program) (l : Launch) (e : Env) (R : Room) (s : State) (m : MethodId) (args : Array Value) (below : List Frame) (meth : Method) (c : Code) (b : Nat) (D : va_G) (cT : Nat → ClassId) (M0 : am_M) (H : Heap) (locs : List Loc) (k n : Nat) (Q' : State → Prop) (la : Array Slot),
      am_At Y p s m args meth c b D cT M0 → lv_has la Y.2.2.1 (am_al b ls) → am_P b D cT M H → va_S (fun q => b ≤ q) s.heap H locs → H.size = b + M.length → k + 1 ≤ R.cells → n + am_cz cl ≤ R.slots →
      (∀ H1, am_P b D cT (M ++ [cl]) H1 → va_S (fun q => b ≤ q) s.heap H1 locs → W p l e R s m args below meth c H1 locs (k + 1) (n + am_cz cl) Q' (F0 m nx la (st'.map (am_v b)))) →
      W p l e R s m args below meth c H locs k n Q' (F0 m pc la (st.map (am_v b))))
    (k : am_AW Y (M ++ [cl]) nx ls st' Q) : am_AW Y M pc ls st Q := by
  obtain ⟨r, M', hq, h1, h2, hw⟩ := k
  rw [am_z_push] at h2
  simp only [List.length_append, List.length_cons, List.length_nil] at h1
  refine ⟨r, M', hq, by omega, by omega, ?_⟩
  intro p l e s m args below meth c b D cT M0 H locs la A g1 g2 hP hS hl
  refine am_size A.2.2.2.2.2.2.2.2.2 g1 hP hS fun hz => ?_
  refine h p l e _ s m args below meth c b D cT M0 H locs _ _ _ la A hl hP hS hz (by show _ ≤ M'.length - M0.length; omega) (by show _ ≤ am_z M' - am_z M0; omega) (fun H1 hP1 hS1 => ?_)
  have := hw p l e s m args below meth c b D cT M0 H1 locs la A (by simp; omega) (by rw [am_z_push]; omega) hP1 hS1 hl
  rw [am_z_push, show (M ++ [cl]).length - M0.length = M.length - M0.length + 1 by simp; omega, show am_z M + am_cz cl - am_z M0 = am_z M - am_z M0 + am_cz cl by omega] at this
  exact this
