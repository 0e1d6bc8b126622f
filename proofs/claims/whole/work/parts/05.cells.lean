/-! ===== rows over cells ===== -/
/-- a field of a class, as an entry of a class's table names it -/
def am_fl (own : String) (idx ci j : Nat) : Prop := ∃ (C : String) (T : u_T) (N : Nat), vwCl[ci]? = some (C, T, N) ∧ j < N ∧ (∀ w ∈ u_ws C T N, w ∈ am_tbl) ∧ Cond.fieldLink own idx (T j).1 (T j).2.1 (T j).2.2.1 ∈ am_tbl
def am_fp (own : String) (idx ci j : Nat) (ty : FieldType) (fin : Bool) : Prop := ∃ (C : String) (T : u_T) (N : Nat) (ty0 : Nat → FieldType), vwCl[ci]? = some (C, T, N) ∧ j < N ∧ (∀ w ∈ u_ws C T N, w ∈ am_tbl) ∧ Cond.fieldLink own idx (T j).1 (T j).2.1 (T j).2.2.1 ∈ am_tbl ∧
  (∀ k, k < N → parseFieldDescriptor (T k).2.2.1 = some (ty0 k)) ∧ (∀ a, a < N → ∀ b, b < N → a ≠ b → (T a).2.1 ≠ (T b).2.1) ∧ ty0 j = ty ∧ (T j).2.2.2 = fin ∧ (fin = true → (T j).1 = own)
section
variable {Y : am_Y} {M : am_M} {pc nx : Nat} {ls : List (Option Value)} {st : List Value} {Q : Option Value → am_M → Prop}
theorem am_getfield {idx ci j a : Nat} {fs : List Value} {v : Value} (d : am_at Y pc (.getfield idx) 3 nx) (hf : am_fl Y.1.cls idx ci j) (hM : M[a]? = some (.inr (ci, fs))) (hv : fs[j]? = some v) (k : am_AW Y M nx ls (v :: st) Q) : am_AW Y M pc ls (.ref a :: st) Q := by
  obtain ⟨d, rfl⟩ := d
  obtain ⟨C, T, N, h1, h2, h3, h4⟩ := hf
  refine am_go (ls' := ls) (fun p l e R s m args below meth c b D cT M0 H locs kk nn Q' la A hl hP k => ?_) k
  have hts : ∀ w ∈ am_tbl, w.before args s = true := fun w h => A.2.2.2.2.2.2.2.1 w (List.mem_cons_of_mem _ h)
  exact va_get (a := b + a) (v := am_v b v) A.1 A.2.1 hts h3 A.2.2.2.2.2.2.1 A.2.2.2.2.2.2.2.2.1.1 hP a (am_W_get hM) h1 j h2 (hts _ h4) (fun _ h => h) (by rw [List.getElem?_map, hv]; rfl) d (k la hl)
theorem am_putfield {idx ci j a : Nat} {fs : List Value} {v : Value} {ty : FieldType} (d : am_at Y pc (.putfield idx) 3 nx) (hf : am_fp Y.1.cls idx ci j ty false) (hM : M[a]? = some (.inr (ci, fs))) (hj : j < fs.length) (hn : ∀ b, narrow ty (am_v b v) = am_v b v) (hfit : ∀ b, fits ty (am_v b v) = true)
    (k : am_AW Y (M.set a (.inr (ci, fs.set j v))) nx ls st Q) : am_AW Y M pc ls (v :: .ref a :: st) Q := by
  obtain ⟨d, rfl⟩ := d
  obtain ⟨C, T, N, ty0, h1, h2, h3, h4, h5, h6, h7, h8, h9⟩ := hf
  refine am_goM (by simp) (am_z_set M a _ _ hM (by simp [am_cz])) (fun p l e R s m args below meth c b D cT M0 H locs kk nn Q' la hR1 hR2 A hl hP hS k => ?_) k
  have hts : ∀ w ∈ am_tbl, w.before args s = true := fun w h => A.2.2.2.2.2.2.2.1 w (List.mem_cons_of_mem _ h)
  refine va_put (a := b + a) (v := am_v b v) (ty := ty) A.1 A.2.1 hts h3 ty0 h5 h6 A.2.2.2.2.2.2.1 A.2.2.2.2.2.2.2.2.1.1 hP (am_D b cT M) hS a (am_W_get hM) h1 j h2 (hts _ h4) (fun _ h => h) h8 (by rw [h5 j h2, h7]) (hn b) (hfit b) (by simpa using hj) d (fun H1 locs1 hP1 _ hS1 => k H1 locs1 ?_ hS1)
  have e : ((b + a, (Sum.inr (ci, (fs.map (am_v b)).set j (am_v b v)) : va_E)) : Nat × va_E) = (b + a, am_e b cT (.inr (ci, fs.set j v))) := by simp [am_e, List.map_set]
  rw [e, am_W_set] at hP1
  exact hP1
theorem am_putfinal {idx ci j a : Nat} {fs : List Value} {v : Value} {ty : FieldType} (d : am_at Y pc (.putfield idx) 3 nx) (hf : am_fp Y.1.cls idx ci j ty true) (hi : Y.1.name = "<init>") (hM : M[a]? = some (.inr (ci, fs))) (hj : j < fs.length) (hn : ∀ b, narrow ty (am_v b v) = am_v b v) (hfit : ∀ b, fits ty (am_v b v) = true)
    (k : am_AW Y (M.set a (.inr (ci, fs.set j v))) nx ls st Q) : am_AW Y M pc ls (v :: .ref a :: st) Q := by
  obtain ⟨d, rfl⟩ := d
  obtain ⟨C, T, N, ty0, h1, h2, h3, h4, h5, h6, h7, h8, h9⟩ := hf
  refine am_goM (by simp) (am_z_set M a _ _ hM (by simp [am_cz])) (fun p l e R s m args below meth c b D cT M0 H locs kk nn Q' la hR1 hR2 A hl hP hS k => ?_) k
  have hts : ∀ w ∈ am_tbl, w.before args s = true := fun w h => A.2.2.2.2.2.2.2.1 w (List.mem_cons_of_mem _ h)
  refine va_putF (a := b + a) (v := am_v b v) (ty := ty) A.1 A.2.1 hts h3 ty0 h5 h6 A.2.2.2.2.2.2.1 A.2.2.2.2.2.2.2.2.1.1 hP (am_D b cT M) hS a (am_W_get hM) h1 j h2 (hts _ h4) (fun _ h => h) h8 (A.2.2.2.2.2.1.trans hi) (h9 rfl) (by rw [h5 j h2, h7]) (hn b) (hfit b) (by simpa using hj) d (fun H1 locs1 hP1 _ hS1 => k H1 locs1 ?_ hS1)
  have e : ((b + a, (Sum.inr (ci, (fs.map (am_v b)).set j (am_v b v)) : va_E)) : Nat × va_E) = (b + a, am_e b cT (.inr (ci, fs.set j v))) := by simp [am_e, List.map_set]
  rw [e, am_W_set] at hP1
  exact hP1
theorem am_iaload {a n : Nat} {f : Nat → Int32} {i : Int32} (d : am_at Y pc .iaload 1 nx) (hM : M[a]? = some (.inl (0, n, .inl f))) (hi : vp_in i n) (k : am_AW Y M nx ls (.int (f i.toNatClampNeg) :: st) Q) : am_AW Y M pc ls (.int i :: .ref a :: st) Q := by
  obtain ⟨d, rfl⟩ := d
  exact am_go (ls' := ls) (fun p l e R s m args below meth c b D cT M0 H locs kk nn Q' la A hl hP k => va_iald (a := b + a) A.1 A.2.1 A.2.2.2.2.2.2.2.2.1.1 hP a 0 (am_W_get hM) rfl hi d (k la hl)) k
theorem am_laload {a n : Nat} {f : Nat → Int64} {i : Int32} (d : am_at Y pc .laload 1 nx) (hM : M[a]? = some (.inl (1, n, .inr (.inl f)))) (hi : vp_in i n) (k : am_AW Y M nx ls (.long (f i.toNatClampNeg) :: st) Q) : am_AW Y M pc ls (.int i :: .ref a :: st) Q := by
  obtain ⟨d, rfl⟩ := d
  exact am_go (ls' := ls) (fun p l e R s m args below meth c b D cT M0 H locs kk nn Q' la A hl hP k => va_lald (a := b + a) A.1 A.2.1 A.2.2.2.2.2.2.2.2.1.1 hP a 1 (am_W_get hM) rfl hi d (k la hl)) k
theorem am_baload {a n : Nat} {f : Nat → Int32} {i : Int32} (d : am_at Y pc .baload 1 nx) (hM : M[a]? = some (.inl (2, n, .inl f))) (hi : vp_in i n) (k : am_AW Y M nx ls (.int (f i.toNatClampNeg) :: st) Q) : am_AW Y M pc ls (.int i :: .ref a :: st) Q := by
  obtain ⟨d, rfl⟩ := d
  exact am_go (ls' := ls) (fun p l e R s m args below meth c b D cT M0 H locs kk nn Q' la A hl hP k => va_zald (a := b + a) A.1 A.2.1 A.2.2.2.2.2.2.2.2.1.1 hP a 2 (am_W_get hM) rfl hi d (k la hl)) k
theorem am_aaload {a n t q : Nat} {C : String} {g : Nat → Option Nat} {i : Int32} (d : am_at Y pc .aaload 1 nx) (ht : ∀ cT, (am_tys cT)[t]? = some (cT t, .object C)) (hM : M[a]? = some (.inl (t, n, .inr (.inr (.inr (.inr g)))))) (hi : vp_in i n) (hq : g i.toNatClampNeg = some q) (k : am_AW Y M nx ls (.ref q :: st) Q) : am_AW Y M pc ls (.int i :: .ref a :: st) Q := by
  obtain ⟨d, rfl⟩ := d
  refine am_go (ls' := ls) (fun p l e R s m args below meth c b D cT M0 H locs kk nn Q' la A hl hP k => va_aldq (a := b + a) A.1 A.2.1 A.2.2.2.2.2.2.2.2.1.1 hP a t (am_W_get hM) (ht cT) hi d ?_) k
  rw [hq]
  exact k la hl
theorem am_arraylength {a t : Nat} {x : vp_A} {ty : FieldType} (d : am_at Y pc .arraylength 1 nx) (ht : ∀ cT, (am_tys cT)[t]? = some (cT t, ty)) (hM : M[a]? = some (.inl (t, x))) (k : am_AW Y M nx ls (.int (Int32.ofNat x.1) :: st) Q) : am_AW Y M pc ls (.ref a :: st) Q := by
  obtain ⟨d, rfl⟩ := d
  exact am_go (ls' := ls) (fun p l e R s m args below meth c b D cT M0 H locs kk nn Q' la A hl hP k => va_alen (a := b + a) A.1 A.2.1 A.2.2.2.2.2.2.2.2.1.1 hP a t (am_W_get hM) (ht cT) rfl d (k la hl)) k
theorem am_iastore {a n : Nat} {f : Nat → Int32} {i x : Int32} (d : am_at Y pc .iastore 1 nx) (hM : M[a]? = some (.inl (0, n, .inl f))) (hi : vp_in i n) (k : am_AW Y (M.set a (.inl (0, n, .inl (upd f i.toNatClampNeg x)))) nx ls st Q) : am_AW Y M pc ls (.int x :: .int i :: .ref a :: st) Q := by
  obtain ⟨d, rfl⟩ := d
  refine am_goM (by simp) (am_z_set M a _ _ hM (by simp [am_cz])) (fun p l e R s m args below meth c b D cT M0 H locs kk nn Q' la hR1 hR2 A hl hP hS k => va_iast (a := b + a) A.1 A.2.1 A.2.2.2.2.2.2.2.2.1.1 hP (am_D b cT M) hS a 0 (am_W_get hM) rfl hi d (fun H1 locs1 hP1 _ hS1 => k H1 locs1 ?_ hS1)) k
  have e : ((b + a, (Sum.inl (cT 0, n, .inl (upd f i.toNatClampNeg x)) : va_E)) : Nat × va_E) = (b + a, am_e b cT (.inl (0, n, .inl (upd f i.toNatClampNeg x)))) := rfl
  rw [e, am_W_set] at hP1
  exact hP1
theorem am_lastore {a n : Nat} {f : Nat → Int64} {i : Int32} {x : Int64} (d : am_at Y pc .lastore 1 nx) (hM : M[a]? = some (.inl (1, n, .inr (.inl f)))) (hi : vp_in i n) (k : am_AW Y (M.set a (.inl (1, n, .inr (.inl (vp_updL f i.toNatClampNeg x))))) nx ls st Q) : am_AW Y M pc ls (.long x :: .int i :: .ref a :: st) Q := by
  obtain ⟨d, rfl⟩ := d
  refine am_goM (by simp) (am_z_set M a _ _ hM (by simp [am_cz])) (fun p l e R s m args below meth c b D cT M0 H locs kk nn Q' la hR1 hR2 A hl hP hS k => va_last (a := b + a) A.1 A.2.1 A.2.2.2.2.2.2.2.2.1.1 hP (am_D b cT M) hS a 1 (am_W_get hM) rfl hi d (fun H1 locs1 hP1 _ hS1 => k H1 locs1 ?_ hS1)) k
  have e : ((b + a, (Sum.inl (cT 1, n, .inr (.inl (vp_updL f i.toNatClampNeg x))) : va_E)) : Nat × va_E) = (b + a, am_e b cT (.inl (1, n, .inr (.inl (vp_updL f i.toNatClampNeg x))))) := rfl
  rw [e, am_W_set] at hP1
  exact hP1
theorem am_bastore {a n : Nat} {f : Nat → Int32} {i x : Int32} (d : am_at Y pc .bastore 1 nx) (hM : M[a]? = some (.inl (2, n, .inl f))) (hi : vp_in i n) (hx : vp_nar .boolean x = x) (k : am_AW Y (M.set a (.inl (2, n, .inl (upd f i.toNatClampNeg x)))) nx ls st Q) : am_AW Y M pc ls (.int x :: .int i :: .ref a :: st) Q := by
  obtain ⟨d, rfl⟩ := d
  refine am_goM (by simp) (am_z_set M a _ _ hM (by simp [am_cz])) (fun p l e R s m args below meth c b D cT M0 H locs kk nn Q' la hR1 hR2 A hl hP hS k => va_zast (a := b + a) A.1 A.2.1 A.2.2.2.2.2.2.2.2.1.1 hP (am_D b cT M) hS a 2 (am_W_get hM) rfl hi d (fun H1 locs1 hP1 _ hS1 => k H1 locs1 ?_ hS1)) k
  have e : ((b + a, (Sum.inl (cT 2, n, .inl (upd f i.toNatClampNeg (vp_nar .boolean x))) : va_E)) : Nat × va_E) = (b + a, am_e b cT (.inl (2, n, .inl (upd f i.toNatClampNeg x)))) := by rw [hx]; rfl
  rw [e, am_W_set] at hP1
  exact hP1
theorem am_aastore {a n t ci q : Nat} {C : String} {T : u_T} {N : Nat} {vs : List Value} {g : Nat → Option Nat} {i : Int32} (d : am_at Y pc .aastore 1 nx) (ht : ∀ cT, (am_tys cT)[t]? = some (cT t, .object C)) (hc : vwCl[ci]? = some (C, T, N)) (hM : M[a]? = some (.inl (t, n, .inr (.inr (.inr (.inr g)))))) (hq : M[q]? = some (.inr (ci, vs))) (hi : vp_in i n)
    (k : am_AW Y (M.set a (.inl (t, n, .inr (.inr (.inr (.inr (va_up g i.toNatClampNeg (some q)))))))) nx ls st Q) : am_AW Y M pc ls (.ref q :: .int i :: .ref a :: st) Q := by
  obtain ⟨d, rfl⟩ := d
  refine am_goM (by simp) (am_z_set M a _ _ hM (by simp [am_cz])) (fun p l e R s m args below meth c b D cT M0 H locs kk nn Q' la hR1 hR2 A hl hP hS k => va_astq (a := b + a) (v := b + q) A.1 A.2.1 A.2.2.2.2.2.2.2.2.1.1 hP (am_D b cT M) hS a t q ci (am_W_get hM) (ht cT) (am_W_get hq) hc hi d (fun H1 locs1 hP1 _ hS1 => k H1 locs1 ?_ hS1)) k
  have ef : va_up (fun j => (g j).map (fun k => b + k)) i.toNatClampNeg (some (b + q)) = fun j => (va_up g i.toNatClampNeg (some q) j).map (fun k => b + k) := by
    funext j
    simp only [va_up]
    split <;> rfl
  have e : ((b + a, (Sum.inl (cT t, n, .inr (.inr (.inr (.inr (va_up (fun j => (g j).map (fun k => b + k)) i.toNatClampNeg (some (b + q))))))) : va_E)) : Nat × va_E) = (b + a, am_e b cT (.inl (t, n, .inr (.inr (.inr (.inr (va_up g i.toNatClampNeg (some q)))))))) := by
    rw [ef]
    rfl
  show va_P D vwCl (am_W b cT (M.set a _)) H1
  rw [← am_W_set, ← e]
  exact hP1
theorem am_ireturn {x : Int32} {ty : FieldType} (d : am_at Y pc .ireturn 1 nx) (hr : Y.2.2.2.1 = some ty) (hn : narrow ty (.int x) = .int x) (hq : Q (some (.int x)) M) : am_AW Y M pc ls [.int x] Q := by
  obtain ⟨d, rfl⟩ := d
  refine ⟨some (.int x), M, hq, Nat.le_refl _, Nat.le_refl _, ?_⟩
  intro p l e s m args below meth c b D cT M0 H locs la A g1 g2 hP hS hl
  exact W.zret (ty := ty) A.1 A.2.1 (A.2.2.2.1.trans hr) hn (fun t ht hW => ⟨rfl, by rw [ht]; exact hP, hS.F ht⟩) hS.2.2 d A.2.2.2.2.1
theorem am_lreturn {x : Int64} (d : am_at Y pc .lreturn 1 nx) (hr : Y.2.2.2.1 = some .long) (hq : Q (some (.long x)) M) : am_AW Y M pc ls [.long x] Q := by
  obtain ⟨d, rfl⟩ := d
  refine ⟨some (.long x), M, hq, Nat.le_refl _, Nat.le_refl _, ?_⟩
  intro p l e s m args below meth c b D cT M0 H locs la A g1 g2 hP hS hl
  exact W.lret A.1 A.2.1 (A.2.2.2.1.trans hr) (fun t ht hW => ⟨rfl, by rw [ht]; exact hP, hS.F ht⟩) hS.2.2 d A.2.2.2.2.1
theorem am_areturn {x : Nat} {ty : FieldType} (d : am_at Y pc .areturn 1 nx) (hr : Y.2.2.2.1 = some (.array ty)) (hq : Q (some (.ref x)) M) : am_AW Y M pc ls [.ref x] Q := by
  obtain ⟨d, rfl⟩ := d
  refine ⟨some (.ref x), M, hq, Nat.le_refl _, Nat.le_refl _, ?_⟩
  intro p l e s m args below meth c b D cT M0 H locs la A g1 g2 hP hS hl
  exact W.aret A.1 A.2.1 (A.2.2.2.1.trans hr) (Or.inr ⟨ty, rfl⟩) (Or.inr ⟨_, rfl⟩) (fun t ht hW => ⟨rfl, by rw [ht]; exact hP, hS.F ht⟩) hS.2.2 d A.2.2.2.2.1
theorem am_return (d : am_at Y pc .return_ 1 nx) (hr : Y.2.2.2.1 = none) (hq : Q none M) : am_AW Y M pc ls [] Q := by
  obtain ⟨d, rfl⟩ := d
  refine ⟨none, M, hq, Nat.le_refl _, Nat.le_refl _, ?_⟩
  intro p l e s m args below meth c b D cT M0 H locs la A g1 g2 hP hS hl
  exact W.vret A.1 A.2.1 (A.2.2.2.1.trans hr) (fun t ht hW => ⟨rfl, by rw [ht]; exact hP, hS.F ht⟩) hS.2.2 d A.2.2.2.2.1
/-! new cells -/
theorem am_pushP {b : Nat} {D : va_G} {cT : Nat → ClassId} {M : am_M} {H H1 : Heap} {cl : am_C} (hP : am_P b D cT M H) (o1 : ∀ q, q < H.size → H1[q]? = H[q]?) (h : va_at D vwCl (b + M.length, am_e b cT cl) H1) : am_P b D cT (M ++ [cl]) H1 := by
  show va_P D vwCl (am_W b cT (M ++ [cl])) H1
  rw [am_W_push]
  refine va_P.app (va_P.kept hP (fun k x hx => o1 x.1 ((hP k x hx).lt))) (fun k x hx => ?_)
  have hz : k < 1 := (List.getElem?_eq_some_iff.mp hx).1
  rw [show k = 0 by omega] at hx
  cases hx
  exact h
theorem am_pushS {b : Nat} {s : State} {H H1 : Heap} {locs : List Loc} (hS : va_S (fun q => b ≤ q) s.heap H locs) (z : H1.size = H.size + 1) (o1 : ∀ q, q < H.size → H1[q]? = H[q]?) : va_S (fun q => b ≤ q) s.heap H1 locs := ⟨Nat.le_trans hS.1 (by omega), fun x h1 h2 => (o1 x (Nat.lt_of_lt_of_le h1 hS.1)).trans (hS.2.1 x h1 h2), hS.2.2⟩
theorem am_new {idx ci N : Nat} {C : String} {T : u_T} {fs : List Value} (ty : Nat → FieldType) (d : am_at Y pc (.new idx) 3 nx) (hc : vwCl[ci]? = some (C, T, N)) (hin : ∀ w ∈ u_ws C T N, w ∈ am_tbl) (hty : ∀ k, k < N → parseFieldDescriptor (T k).2.2.1 = some (ty k)) (hl1 : Cond.classLink Y.1.cls idx C ∈ am_tbl) (hl2 : Cond.instantiable C N ∈ am_tbl) (hl3 : Cond.initialized C ∈ am_tbl)
    (hfs : fs.length = N) (hv : ∀ j, j < N → fs[j]? = some (defaultValue (ty j))) (hd : ∀ j b, am_v b (defaultValue (ty j)) = defaultValue (ty j)) (k : am_AW Y (M ++ [.inr (ci, fs)]) nx ls (.ref M.length :: st) Q) : am_AW Y M pc ls st Q := by
  obtain ⟨d, rfl⟩ := d
  subst hfs
  refine am_goN (fun p l e R s m args below meth c b D cT M0 H locs kk nn Q' la A hl hP hS hz h1 h2 k => ?_) k
  have hts : ∀ w ∈ am_tbl, w.before args s = true := fun w h => A.2.2.2.2.2.2.2.1 w (List.mem_cons_of_mem _ h)
  have hKn := A.2.2.2.2.2.2.2.2.1.1.1 ci _ hc
  refine W.newcK A.1 A.2.1 A.2.2.2.2.2.2.1 (hts _ hl1) (hts _ hl2) (hts _ hl3) rfl d h1 h2 hKn.2.1 rfl fun H1 kC hkC e1 z1 o1 => ?_
  rw [hz] at e1
  have := k H1 (am_pushP hP o1 ⟨_, hc, (u_born ty hts hin hKn hkC e1 hty).to (fun j hj => by simp [vp_V, hv j hj, hd])⟩) (am_pushS hS z1 o1)
  rw [hz]
  exact this
end
