/-! ===== Memory of whole numbers: a shape, and what the cells hold as Int ===== -/
def iI (x : Int) : Int32 := Int32.ofInt x
theorem iI_nI (n : Nat) : iI (n : Int) = nI n := rfl
theorem iI_toInt {x : Int} (h1 : -2147483648 ≤ x) (h2 : x < 2147483648) : (iI x).toInt = x := Int32.toInt_ofInt_of_le (by simpa using h1) (by simpa using h2)
theorem iI_of (x : Int32) : iI x.toInt = x := Int32.ofInt_toInt x
theorem iI_add (a b : Int) : iI a + iI b = iI (a + b) := (Int32.ofInt_add a b).symm
theorem iI_sub (a b : Int) : iI a - iI b = iI (a - b) := (Int32.ofInt_sub a b).symm
theorem iI_mul (a b : Int) : iI a * iI b = iI (a * b) := (Int32.ofInt_mul a b).symm
theorem iI_le {a b : Int} (ha : -2147483648 ≤ a ∧ a < 2147483648) (hb : -2147483648 ≤ b ∧ b < 2147483648) : iI a ≤ iI b ↔ a ≤ b := by
  rw [Int32.le_iff_toInt_le, iI_toInt ha.1 ha.2, iI_toInt hb.1 hb.2]
theorem iI_lt {a b : Int} (ha : -2147483648 ≤ a ∧ a < 2147483648) (hb : -2147483648 ≤ b ∧ b < 2147483648) : iI a < iI b ↔ a < b := by
  rw [Int32.lt_iff_toInt_lt, iI_toInt ha.1 ha.2, iI_toInt hb.1 hb.2]
theorem iI_eq {a b : Int} (ha : -2147483648 ≤ a ∧ a < 2147483648) (hb : -2147483648 ≤ b ∧ b < 2147483648) : iI a = iI b ↔ a = b := by
  constructor
  · intro h
    have := congrArg Int32.toInt h
    rw [iI_toInt ha.1 ha.2, iI_toInt hb.1 hb.2] at this
    exact this
  · intro h; rw [h]
theorem iI_clamp {x : Int} (h1 : 0 ≤ x) (h2 : x < 2147483648) : (iI x).toNatClampNeg = x.toNat := by
  show (iI x).toInt.toNat = x.toNat
  rw [iI_toInt (by omega) h2]
theorem iI_in {x : Int} {n : Nat} (h1 : 0 ≤ x) (h2 : x < n) (h3 : x < 2147483648) : vp_in (iI x) n := by
  rw [vp_in_iff, iI_toInt (by omega) h3]
  exact ⟨h1, h2⟩
theorem iI_0 : iI 0 = 0 := rfl
theorem iI_div {a b : Int} (ha : 0 ≤ a ∧ a < 2147483648) (hb : 0 < b ∧ b < 2147483648) : iI a / iI b = iI (a / b) := by
  obtain ⟨m, rfl⟩ := Int.eq_ofNat_of_zero_le ha.1
  obtain ⟨n, rfl⟩ := Int.eq_ofNat_of_zero_le (Int.le_of_lt hb.1)
  rw [iI_nI, iI_nI, pk_div (by omega) (by omega) (by omega)]
  rfl
theorem iI_rem {a b : Int} (ha : 0 ≤ a ∧ a < 2147483648) (hb : 0 < b ∧ b < 2147483648) : iI a - iI a / iI b * iI b = iI (a % b) := by
  obtain ⟨m, rfl⟩ := Int.eq_ofNat_of_zero_le ha.1
  obtain ⟨n, rfl⟩ := Int.eq_ofNat_of_zero_le (Int.le_of_lt hb.1)
  rw [iI_nI, iI_nI, pk_rem (by omega) (by omega) (by omega)]
  rfl
theorem iI_ne0 {b : Int} (hb : (0 < b ∧ b < 2147483648) ∨ (-2147483648 ≤ b ∧ b < 0)) : ¬ iI b = 0 := by
  rw [← iI_0, iI_eq (by omega) (by omega)]
  omega
abbrev mm_S : Type := Nat → Nat → Int
abbrev mm_L : Type := Nat → Nat → Int64
/-- a cell's shape: an array (its type, length, what it refers to), or an object (its class, of each field: whole number, long, reference) -/
abbrev mm_H : Type := (Nat × Nat × (Nat → Option Nat)) ⊕ (Nat × List (Bool ⊕ Option Nat))
def mm_fv (f : Nat → Int) (l : Nat → Int64) (j : Nat) (d : Bool ⊕ Option Nat) : Value := match d with
  | .inl false => .int (iI (f j))
  | .inl true => .long (l j)
  | .inr (some k) => .ref k
  | .inr none => .null
def mm_c (s : mm_H) (f : Nat → Int) (l : Nat → Int64) : am_C := match s with
  | .inl (0, n, _) => .inl (0, n, .inl (fun k => iI (f k)))
  | .inl (1, n, _) => .inl (1, n, .inr (.inl l))
  | .inl (2, n, _) => .inl (2, n, .inl (fun k => iI (f k)))
  | .inl (t + 3, n, g) => .inl (t + 3, n, .inr (.inr (.inr (.inr g))))
  | .inr (ci, fd) => .inr (ci, fd.mapIdx (mm_fv f l))
def mm (sh : List mm_H) (S : mm_S) (L : mm_L) : am_M := sh.mapIdx (fun a s => mm_c s (S a) (L a))
theorem mm_get {sh : List mm_H} {S : mm_S} {L : mm_L} {a : Nat} {s : mm_H} (h : sh[a]? = some s) : (mm sh S L)[a]? = some (mm_c s (S a) (L a)) := by
  simp [mm, List.getElem?_mapIdx, h]
def up2 (S : mm_S) (a i : Nat) (x : Int) : mm_S := fun b j => if b = a ∧ j = i then x else S b j
def upL (L : mm_L) (a i : Nat) (x : Int64) : mm_L := fun b j => if b = a ∧ j = i then x else L b j
theorem up2_same (S : mm_S) (a i : Nat) (x : Int) : up2 S a i x a i = x := by simp [up2]
theorem up2_row {S : mm_S} {a i b : Nat} {x : Int} (h : b ≠ a) : up2 S a i x b = S b := by funext j; simp [up2, h]
theorem up2_col {S : mm_S} {a i j : Nat} {x : Int} (h : j ≠ i) (b : Nat) : up2 S a i x b j = S b j := by simp [up2, h]
theorem up2_up2 (S : mm_S) (a i : Nat) (x y : Int) : up2 (up2 S a i x) a i y = up2 S a i y := by
  funext b j; simp only [up2]; split <;> rfl
theorem up2_id (S : mm_S) (a i : Nat) : up2 S a i (S a i) = S := by
  funext b j; simp only [up2]; split
  · rename_i h; rw [h.1, h.2]
  · rfl
theorem upL_same (S : mm_L) (a i : Nat) (x : Int64) : upL S a i x a i = x := by simp [upL]
theorem upL_row {S : mm_L} {a i b : Nat} {x : Int64} (h : b ≠ a) : upL S a i x b = S b := by funext j; simp [upL, h]
theorem upL_col {S : mm_L} {a i j : Nat} {x : Int64} (h : j ≠ i) (b : Nat) : upL S a i x b j = S b j := by simp [upL, h]
theorem mm_set {sh : List mm_H} {S S' : mm_S} {L L' : mm_L} {a : Nat} {s : mm_H} {c : am_C} (h : sh[a]? = some s) (hc : c = mm_c s (S' a) (L' a)) (hS : ∀ b, b ≠ a → S' b = S b) (hL : ∀ b, b ≠ a → L' b = L b) : (mm sh S L).set a c = mm sh S' L' := by
  have hl : a < sh.length := (List.getElem?_eq_some_iff.mp h).1
  apply List.ext_getElem?
  intro i
  by_cases hi : a = i
  · subst hi
    rw [List.getElem?_set_self (by simpa [mm] using hl), mm_get h, hc]
  · rw [List.getElem?_set_ne hi]
    simp only [mm, List.getElem?_mapIdx]
    cases hh : sh[i]? with
    | none => rfl
    | some z => simp only [Option.map_some]; rw [hS i (fun z => hi z.symm), hL i (fun z => hi z.symm)]
theorem mm_fd_get {fd : List (Bool ⊕ Option Nat)} {f : Nat → Int} {l : Nat → Int64} {j : Nat} {d : Bool ⊕ Option Nat} (h : fd[j]? = some d) : (fd.mapIdx (mm_fv f l))[j]? = some (mm_fv f l j d) := by
  simp [List.getElem?_mapIdx, h]
theorem mm_fd_set {fd : List (Bool ⊕ Option Nat)} {f f' : Nat → Int} {l l' : Nat → Int64} {j : Nat} {v : Value} (h : ∀ d, fd[j]? = some d → v = mm_fv f' l' j d) (hf : ∀ k, k ≠ j → f' k = f k) (hl : ∀ k, k ≠ j → l' k = l k) : (fd.mapIdx (mm_fv f l)).set j v = fd.mapIdx (mm_fv f' l') := by
  apply List.ext_getElem?
  intro i
  by_cases hi : j = i
  · subst hi
    by_cases hlt : j < fd.length
    · rw [List.getElem?_set_self (by simpa using hlt)]
      simp only [List.getElem?_mapIdx, List.getElem?_eq_getElem hlt, Option.map_some]
      rw [h _ (List.getElem?_eq_getElem hlt)]
    · rw [List.getElem?_eq_none (by simp; omega), List.getElem?_eq_none (by simp; omega)]
  · rw [List.getElem?_set_ne hi]
    simp only [List.getElem?_mapIdx]
    cases fd[i]? with
    | none => rfl
    | some d =>
      simp only [Option.map_some, mm_fv]
      rw [hf i (fun z => hi z.symm), hl i (fun z => hi z.symm)]
section
variable {Y : am_Y} {sh : List mm_H} {S : mm_S} {L : mm_L} {pc nx tgt : Nat} {ls : List (Option Value)} {st : List Value} {Q : Option Value → am_M → Prop} {off : Int}
/-! numbers -/
theorem mm_iadd {x y : Int} (d : am_at Y pc .iadd 1 nx) {M : am_M} (k : am_AW Y M nx ls (.int (iI (x + y)) :: st) Q) : am_AW Y M pc ls (.int (iI y) :: .int (iI x) :: st) Q := am_iadd d (by rw [iI_add]; exact k)
theorem mm_isub {x y : Int} (d : am_at Y pc .isub 1 nx) {M : am_M} (k : am_AW Y M nx ls (.int (iI (x - y)) :: st) Q) : am_AW Y M pc ls (.int (iI y) :: .int (iI x) :: st) Q := am_isub d (by rw [iI_sub]; exact k)
theorem mm_imul {x y : Int} (d : am_at Y pc .imul 1 nx) {M : am_M} (k : am_AW Y M nx ls (.int (iI (x * y)) :: st) Q) : am_AW Y M pc ls (.int (iI y) :: .int (iI x) :: st) Q := am_imul d (by rw [iI_mul]; exact k)
theorem mm_idiv {x y : Int} (d : am_at Y pc .idiv 1 nx) {M : am_M} (hx : 0 ≤ x ∧ x < 2147483648) (hy : 0 < y ∧ y < 2147483648) (k : am_AW Y M nx ls (.int (iI (x / y)) :: st) Q) : am_AW Y M pc ls (.int (iI y) :: .int (iI x) :: st) Q := am_idiv (iI_ne0 (Or.inl hy)) d (by rw [iI_div hx hy]; exact k)
theorem mm_irem {x y : Int} (d : am_at Y pc .irem 1 nx) {M : am_M} (hx : 0 ≤ x ∧ x < 2147483648) (hy : 0 < y ∧ y < 2147483648) (k : am_AW Y M nx ls (.int (iI (x % y)) :: st) Q) : am_AW Y M pc ls (.int (iI y) :: .int (iI x) :: st) Q := am_irem (iI_ne0 (Or.inl hy)) d (by rw [iI_rem hx hy]; exact k)
theorem mm_iconst {n : Int} (d : am_at Y pc (.iconst n) 1 nx) {M : am_M} (k : am_AW Y M nx ls (.int (iI n) :: st) Q) : am_AW Y M pc ls st Q := am_iconst rfl d k
theorem mm_bipush {n : Int} (d : am_at Y pc (.bipush n) 2 nx) {M : am_M} (hv : (Int8.ofInt n).toInt32 = iI n) (k : am_AW Y M nx ls (.int (iI n) :: st) Q) : am_AW Y M pc ls st Q := am_bipush hv d k
theorem mm_sipush {n : Int} (d : am_at Y pc (.sipush n) 3 nx) {M : am_M} (hv : (Int16.ofInt n).toInt32 = iI n) (k : am_AW Y M nx ls (.int (iI n) :: st) Q) : am_AW Y M pc ls st Q := am_sipush hv d k
/-! branches -/
theorem mm_jeq {x y : Int} {M : am_M} (d : am_at Y pc (.if_icmp .eq off) 3 nx) (ht : (pc : Int) + off = (tgt : Int)) (hx : -2147483648 ≤ x ∧ x < 2147483648) (hy : -2147483648 ≤ y ∧ y < 2147483648) (kt : x = y → am_AW Y M tgt ls st Q) (kf : x ≠ y → am_AW Y M nx ls st Q) : am_AW Y M pc ls (.int (iI y) :: .int (iI x) :: st) Q :=
  am_icmp_eq d ht (fun h => kt ((iI_eq hx hy).mp h)) (fun h => kf (fun z => h ((iI_eq hx hy).mpr z)))
theorem mm_jne {x y : Int} {M : am_M} (d : am_at Y pc (.if_icmp .ne off) 3 nx) (ht : (pc : Int) + off = (tgt : Int)) (hx : -2147483648 ≤ x ∧ x < 2147483648) (hy : -2147483648 ≤ y ∧ y < 2147483648) (kt : x ≠ y → am_AW Y M tgt ls st Q) (kf : x = y → am_AW Y M nx ls st Q) : am_AW Y M pc ls (.int (iI y) :: .int (iI x) :: st) Q :=
  am_icmp_ne d ht (fun h => kt (fun z => h ((iI_eq hx hy).mpr z))) (fun h => kf ((iI_eq hx hy).mp h))
theorem mm_jge {x y : Int} {M : am_M} (d : am_at Y pc (.if_icmp .ge off) 3 nx) (ht : (pc : Int) + off = (tgt : Int)) (hx : -2147483648 ≤ x ∧ x < 2147483648) (hy : -2147483648 ≤ y ∧ y < 2147483648) (kt : y ≤ x → am_AW Y M tgt ls st Q) (kf : x < y → am_AW Y M nx ls st Q) : am_AW Y M pc ls (.int (iI y) :: .int (iI x) :: st) Q :=
  am_icmp_ge d ht (fun h => kt ((iI_le hy hx).mp h)) (fun h => kf (Int.not_le.mp (fun z => h ((iI_le hy hx).mpr z))))
theorem mm_jle {x y : Int} {M : am_M} (d : am_at Y pc (.if_icmp .le off) 3 nx) (ht : (pc : Int) + off = (tgt : Int)) (hx : -2147483648 ≤ x ∧ x < 2147483648) (hy : -2147483648 ≤ y ∧ y < 2147483648) (kt : x ≤ y → am_AW Y M tgt ls st Q) (kf : y < x → am_AW Y M nx ls st Q) : am_AW Y M pc ls (.int (iI y) :: .int (iI x) :: st) Q :=
  am_icmp_le d ht (fun h => kt ((iI_le hx hy).mp h)) (fun h => kf (Int.not_le.mp (fun z => h ((iI_le hx hy).mpr z))))
theorem mm_jlt {x y : Int} {M : am_M} (d : am_at Y pc (.if_icmp .lt off) 3 nx) (ht : (pc : Int) + off = (tgt : Int)) (hx : -2147483648 ≤ x ∧ x < 2147483648) (hy : -2147483648 ≤ y ∧ y < 2147483648) (kt : x < y → am_AW Y M tgt ls st Q) (kf : y ≤ x → am_AW Y M nx ls st Q) : am_AW Y M pc ls (.int (iI y) :: .int (iI x) :: st) Q :=
  am_icmp_lt d ht (fun h => kt ((iI_lt hx hy).mp h)) (fun h => kf (Int.not_lt.mp (fun z => h ((iI_lt hx hy).mpr z))))
theorem mm_jgt {x y : Int} {M : am_M} (d : am_at Y pc (.if_icmp .gt off) 3 nx) (ht : (pc : Int) + off = (tgt : Int)) (hx : -2147483648 ≤ x ∧ x < 2147483648) (hy : -2147483648 ≤ y ∧ y < 2147483648) (kt : y < x → am_AW Y M tgt ls st Q) (kf : x ≤ y → am_AW Y M nx ls st Q) : am_AW Y M pc ls (.int (iI y) :: .int (iI x) :: st) Q :=
  am_icmp_gt d ht (fun h => kt ((iI_lt hy hx).mp h)) (fun h => kf (Int.not_lt.mp (fun z => h ((iI_lt hy hx).mpr z))))
theorem mm_zeq {x : Int} {M : am_M} (d : am_at Y pc (.ifCond .eq off) 3 nx) (ht : (pc : Int) + off = (tgt : Int)) (hx : -2147483648 ≤ x ∧ x < 2147483648) (kt : x = 0 → am_AW Y M tgt ls st Q) (kf : x ≠ 0 → am_AW Y M nx ls st Q) : am_AW Y M pc ls (.int (iI x) :: st) Q :=
  am_if_eq d ht (fun h => kt ((iI_eq hx (by omega)).mp h)) (fun h => kf (fun z => h ((iI_eq hx (by omega)).mpr z)))
theorem mm_zne {x : Int} {M : am_M} (d : am_at Y pc (.ifCond .ne off) 3 nx) (ht : (pc : Int) + off = (tgt : Int)) (hx : -2147483648 ≤ x ∧ x < 2147483648) (kt : x ≠ 0 → am_AW Y M tgt ls st Q) (kf : x = 0 → am_AW Y M nx ls st Q) : am_AW Y M pc ls (.int (iI x) :: st) Q :=
  am_if_ne d ht (fun h => kt (fun z => h ((iI_eq hx (by omega)).mpr z))) (fun h => kf ((iI_eq hx (by omega)).mp h))
theorem mm_zge {x : Int} {M : am_M} (d : am_at Y pc (.ifCond .ge off) 3 nx) (ht : (pc : Int) + off = (tgt : Int)) (hx : -2147483648 ≤ x ∧ x < 2147483648) (kt : 0 ≤ x → am_AW Y M tgt ls st Q) (kf : x < 0 → am_AW Y M nx ls st Q) : am_AW Y M pc ls (.int (iI x) :: st) Q :=
  am_if_ge d ht (fun h => kt ((iI_le (by omega) hx).mp h)) (fun h => kf (Int.not_le.mp (fun z => h ((iI_le (by omega) hx).mpr z))))
theorem mm_zle {x : Int} {M : am_M} (d : am_at Y pc (.ifCond .le off) 3 nx) (ht : (pc : Int) + off = (tgt : Int)) (hx : -2147483648 ≤ x ∧ x < 2147483648) (kt : x ≤ 0 → am_AW Y M tgt ls st Q) (kf : 0 < x → am_AW Y M nx ls st Q) : am_AW Y M pc ls (.int (iI x) :: st) Q :=
  am_if_le d ht (fun h => kt ((iI_le hx (by omega)).mp h)) (fun h => kf (Int.not_le.mp (fun z => h ((iI_le hx (by omega)).mpr z))))
theorem mm_zlt {x : Int} {M : am_M} (d : am_at Y pc (.ifCond .lt off) 3 nx) (ht : (pc : Int) + off = (tgt : Int)) (hx : -2147483648 ≤ x ∧ x < 2147483648) (kt : x < 0 → am_AW Y M tgt ls st Q) (kf : 0 ≤ x → am_AW Y M nx ls st Q) : am_AW Y M pc ls (.int (iI x) :: st) Q :=
  am_if_lt d ht (fun h => kt ((iI_lt hx (by omega)).mp h)) (fun h => kf (Int.not_lt.mp (fun z => h ((iI_lt hx (by omega)).mpr z))))
theorem mm_zgt {x : Int} {M : am_M} (d : am_at Y pc (.ifCond .gt off) 3 nx) (ht : (pc : Int) + off = (tgt : Int)) (hx : -2147483648 ≤ x ∧ x < 2147483648) (kt : 0 < x → am_AW Y M tgt ls st Q) (kf : x ≤ 0 → am_AW Y M nx ls st Q) : am_AW Y M pc ls (.int (iI x) :: st) Q :=
  am_if_gt d ht (fun h => kt ((iI_lt (by omega) hx).mp h)) (fun h => kf (Int.not_lt.mp (fun z => h ((iI_lt (by omega) hx).mpr z))))
/-! fields -/
theorem mm_getI {idx ci j a : Nat} {fd : List (Bool ⊕ Option Nat)} (d : am_at Y pc (.getfield idx) 3 nx) (hf : am_fl Y.1.cls idx ci j) (h : sh[a]? = some (.inr (ci, fd))) (hj : fd[j]? = some (.inl false)) (k : am_AW Y (mm sh S L) nx ls (.int (iI (S a j)) :: st) Q) : am_AW Y (mm sh S L) pc ls (.ref a :: st) Q :=
  am_getfield d hf (mm_get h) (mm_fd_get hj) k
theorem mm_getL {idx ci j a : Nat} {fd : List (Bool ⊕ Option Nat)} (d : am_at Y pc (.getfield idx) 3 nx) (hf : am_fl Y.1.cls idx ci j) (h : sh[a]? = some (.inr (ci, fd))) (hj : fd[j]? = some (.inl true)) (k : am_AW Y (mm sh S L) nx ls (.long (L a j) :: st) Q) : am_AW Y (mm sh S L) pc ls (.ref a :: st) Q :=
  am_getfield d hf (mm_get h) (mm_fd_get hj) k
theorem mm_getR {idx ci j a q : Nat} {fd : List (Bool ⊕ Option Nat)} (d : am_at Y pc (.getfield idx) 3 nx) (hf : am_fl Y.1.cls idx ci j) (h : sh[a]? = some (.inr (ci, fd))) (hj : fd[j]? = some (.inr (some q))) (k : am_AW Y (mm sh S L) nx ls (.ref q :: st) Q) : am_AW Y (mm sh S L) pc ls (.ref a :: st) Q :=
  am_getfield d hf (mm_get h) (mm_fd_get hj) k
theorem mm_putI {idx ci j a : Nat} {fd : List (Bool ⊕ Option Nat)} {x : Int} (d : am_at Y pc (.putfield idx) 3 nx) (hf : am_fp Y.1.cls idx ci j .int false) (h : sh[a]? = some (.inr (ci, fd))) (hj : fd[j]? = some (.inl false)) (k : am_AW Y (mm sh (up2 S a j x) L) nx ls st Q) : am_AW Y (mm sh S L) pc ls (.int (iI x) :: .ref a :: st) Q := by
  have hl : j < fd.length := (List.getElem?_eq_some_iff.mp hj).1
  refine am_putfield d hf (mm_get h) (by simpa using hl) (fun _ => rfl) (fun _ => rfl) ?_
  rw [mm_set (S' := up2 S a j x) (L' := L) h ?_ (fun b hb => up2_row hb) (fun _ _ => rfl)]
  · exact k
  · show (Sum.inr _ : am_C) = Sum.inr _
    rw [mm_fd_set (f' := up2 S a j x a) (l' := L a) (fun d' hd' => ?_) (fun k hk => up2_col hk a) (fun _ _ => rfl)]
    cases hj.symm.trans hd'
    simp [mm_fv, up2_same]
theorem mm_putZ {idx ci j a : Nat} {fd : List (Bool ⊕ Option Nat)} {x : Int} (d : am_at Y pc (.putfield idx) 3 nx) (hf : am_fp Y.1.cls idx ci j .boolean false) (h : sh[a]? = some (.inr (ci, fd))) (hj : fd[j]? = some (.inl false)) (hx : x = 0 ∨ x = 1) (k : am_AW Y (mm sh (up2 S a j x) L) nx ls st Q) : am_AW Y (mm sh S L) pc ls (.int (iI x) :: .ref a :: st) Q := by
  have hl : j < fd.length := (List.getElem?_eq_some_iff.mp hj).1
  refine am_putfield d hf (mm_get h) (by simpa using hl) (fun _ => by rcases hx with rfl | rfl <;> rfl) (fun _ => by rcases hx with rfl | rfl <;> rfl) ?_
  rw [mm_set (S' := up2 S a j x) (L' := L) h ?_ (fun b hb => up2_row hb) (fun _ _ => rfl)]
  · exact k
  · show (Sum.inr _ : am_C) = Sum.inr _
    rw [mm_fd_set (f' := up2 S a j x a) (l' := L a) (fun d' hd' => ?_) (fun k hk => up2_col hk a) (fun _ _ => rfl)]
    cases hj.symm.trans hd'
    simp [mm_fv, up2_same]
theorem mm_putL {idx ci j a : Nat} {fd : List (Bool ⊕ Option Nat)} {x : Int64} (d : am_at Y pc (.putfield idx) 3 nx) (hf : am_fp Y.1.cls idx ci j .long false) (h : sh[a]? = some (.inr (ci, fd))) (hj : fd[j]? = some (.inl true)) (k : am_AW Y (mm sh S (upL L a j x)) nx ls st Q) : am_AW Y (mm sh S L) pc ls (.long x :: .ref a :: st) Q := by
  have hl : j < fd.length := (List.getElem?_eq_some_iff.mp hj).1
  refine am_putfield d hf (mm_get h) (by simpa using hl) (fun _ => rfl) (fun _ => rfl) ?_
  rw [mm_set (S' := S) (L' := upL L a j x) h ?_ (fun _ _ => rfl) (fun b hb => upL_row hb)]
  · exact k
  · show (Sum.inr _ : am_C) = Sum.inr _
    rw [mm_fd_set (f' := S a) (l' := upL L a j x a) (fun d' hd' => ?_) (fun _ _ => rfl) (fun k hk => upL_col hk a)]
    cases hj.symm.trans hd'
    simp [mm_fv, upL_same]
/-! arrays -/
theorem mm_ial {a n : Nat} {g : Nat → Option Nat} {i : Int} (d : am_at Y pc .iaload 1 nx) (h : sh[a]? = some (.inl (0, n, g))) (hi : 0 ≤ i ∧ i < n ∧ i < 2147483648) (k : am_AW Y (mm sh S L) nx ls (.int (iI (S a i.toNat)) :: st) Q) : am_AW Y (mm sh S L) pc ls (.int (iI i) :: .ref a :: st) Q :=
  am_iaload d (mm_get h) (iI_in hi.1 hi.2.1 hi.2.2) (by rw [iI_clamp hi.1 hi.2.2]; exact k)
theorem mm_lal {a n : Nat} {g : Nat → Option Nat} {i : Int} (d : am_at Y pc .laload 1 nx) (h : sh[a]? = some (.inl (1, n, g))) (hi : 0 ≤ i ∧ i < n ∧ i < 2147483648) (k : am_AW Y (mm sh S L) nx ls (.long (L a i.toNat) :: st) Q) : am_AW Y (mm sh S L) pc ls (.int (iI i) :: .ref a :: st) Q :=
  am_laload d (mm_get h) (iI_in hi.1 hi.2.1 hi.2.2) (by rw [iI_clamp hi.1 hi.2.2]; exact k)
theorem mm_bal {a n : Nat} {g : Nat → Option Nat} {i : Int} (d : am_at Y pc .baload 1 nx) (h : sh[a]? = some (.inl (2, n, g))) (hi : 0 ≤ i ∧ i < n ∧ i < 2147483648) (k : am_AW Y (mm sh S L) nx ls (.int (iI (S a i.toNat)) :: st) Q) : am_AW Y (mm sh S L) pc ls (.int (iI i) :: .ref a :: st) Q :=
  am_baload d (mm_get h) (iI_in hi.1 hi.2.1 hi.2.2) (by rw [iI_clamp hi.1 hi.2.2]; exact k)
theorem mm_aal {a n t q : Nat} {C : String} {g : Nat → Option Nat} {i : Int} (d : am_at Y pc .aaload 1 nx) (ht : ∀ cT, (am_tys cT)[t + 3]? = some (cT (t + 3), .object C)) (h : sh[a]? = some (.inl (t + 3, n, g))) (hi : 0 ≤ i ∧ i < n ∧ i < 2147483648) (hq : g i.toNat = some q) (k : am_AW Y (mm sh S L) nx ls (.ref q :: st) Q) : am_AW Y (mm sh S L) pc ls (.int (iI i) :: .ref a :: st) Q :=
  am_aaload d ht (mm_get h) (iI_in hi.1 hi.2.1 hi.2.2) (by rw [iI_clamp hi.1 hi.2.2]; exact hq) k
theorem mm_len0 {a n : Nat} {g : Nat → Option Nat} (d : am_at Y pc .arraylength 1 nx) (h : sh[a]? = some (.inl (0, n, g))) (k : am_AW Y (mm sh S L) nx ls (.int (iI (n : Int)) :: st) Q) : am_AW Y (mm sh S L) pc ls (.ref a :: st) Q := am_arraylength (t := 0) (ty := .int) d (fun _ => rfl) (mm_get h) k
theorem mm_len1 {a n : Nat} {g : Nat → Option Nat} (d : am_at Y pc .arraylength 1 nx) (h : sh[a]? = some (.inl (1, n, g))) (k : am_AW Y (mm sh S L) nx ls (.int (iI (n : Int)) :: st) Q) : am_AW Y (mm sh S L) pc ls (.ref a :: st) Q := am_arraylength (t := 1) (ty := .long) d (fun _ => rfl) (mm_get h) k
theorem mm_ias {a n : Nat} {g : Nat → Option Nat} {i x : Int} (d : am_at Y pc .iastore 1 nx) (h : sh[a]? = some (.inl (0, n, g))) (hi : 0 ≤ i ∧ i < n ∧ i < 2147483648) (k : am_AW Y (mm sh (up2 S a i.toNat x) L) nx ls st Q) : am_AW Y (mm sh S L) pc ls (.int (iI x) :: .int (iI i) :: .ref a :: st) Q := by
  refine am_iastore d (mm_get h) (iI_in hi.1 hi.2.1 hi.2.2) ?_
  rw [iI_clamp hi.1 hi.2.2, mm_set (S' := up2 S a i.toNat x) (L' := L) h ?_ (fun b hb => up2_row hb) (fun _ _ => rfl)]
  · exact k
  · show (Sum.inl _ : am_C) = Sum.inl _
    congr 4
    funext q
    by_cases hq : q = i.toNat <;> simp [upd, up2, hq]
theorem mm_bas {a n : Nat} {g : Nat → Option Nat} {i x : Int} (d : am_at Y pc .bastore 1 nx) (h : sh[a]? = some (.inl (2, n, g))) (hi : 0 ≤ i ∧ i < n ∧ i < 2147483648) (hx : x = 0 ∨ x = 1) (k : am_AW Y (mm sh (up2 S a i.toNat x) L) nx ls st Q) : am_AW Y (mm sh S L) pc ls (.int (iI x) :: .int (iI i) :: .ref a :: st) Q := by
  refine am_bastore d (mm_get h) (iI_in hi.1 hi.2.1 hi.2.2) (by rcases hx with rfl | rfl <;> rfl) ?_
  rw [iI_clamp hi.1 hi.2.2, mm_set (S' := up2 S a i.toNat x) (L' := L) h ?_ (fun b hb => up2_row hb) (fun _ _ => rfl)]
  · exact k
  · show (Sum.inl _ : am_C) = Sum.inl _
    congr 4
    funext q
    by_cases hq : q = i.toNat <;> simp [upd, up2, hq]
theorem mm_las {a n : Nat} {g : Nat → Option Nat} {i : Int} {x : Int64} (d : am_at Y pc .lastore 1 nx) (h : sh[a]? = some (.inl (1, n, g))) (hi : 0 ≤ i ∧ i < n ∧ i < 2147483648) (k : am_AW Y (mm sh S (upL L a i.toNat x)) nx ls st Q) : am_AW Y (mm sh S L) pc ls (.long x :: .int (iI i) :: .ref a :: st) Q := by
  refine am_lastore d (mm_get h) (iI_in hi.1 hi.2.1 hi.2.2) ?_
  rw [iI_clamp hi.1 hi.2.2, mm_set (S' := S) (L' := upL L a i.toNat x) h ?_ (fun _ _ => rfl) (fun b hb => upL_row hb)]
  · exact k
  · show (Sum.inl _ : am_C) = Sum.inl _
    congr 5
    funext q
    by_cases hq : q = i.toNat <;> simp [vp_updL, upL, hq]
end
/-! bits -/
theorem iI_sh31 (y : Int) (hy : 0 ≤ y ∧ y < 32) : ((iI y &&& 31).toBitVec.smod 32).toNat = y.toNat := by
  have key : ∀ j : Fin 32, ((iI (j.val : Int) &&& 31).toBitVec.smod 32).toNat = j.val := by decide +kernel
  have h := key ⟨y.toNat, by omega⟩
  simp only [show ((y.toNat : Nat) : Int) = y by omega] at h
  exact h
theorem iI_shr {x y : Int} (hx : 0 ≤ x ∧ x < 2147483648) (hy : 0 ≤ y ∧ y < 32) : iI x >>> (iI y &&& 31) = iI (x / 2 ^ y.toNat) := by
  obtain ⟨m, rfl⟩ := Int.eq_ofNat_of_zero_le hx.1
  rw [iI_nI, pk_shrN (by omega) _ y.toNat (iI_sh31 y hy), ← iI_nI]
  congr 1
theorem iI_shl {x y : Int} (hx : 0 ≤ x ∧ x * 2 ^ y.toNat < 2147483648) (hy : 0 ≤ y ∧ y < 32) : iI x <<< (iI y &&& 31) = iI (x * 2 ^ y.toNat) := by
  obtain ⟨m, rfl⟩ := Int.eq_ofNat_of_zero_le hx.1
  have h : m * 2 ^ y.toNat < 2 ^ 32 := by
    have := hx.2
    have e : ((m : Int) * 2 ^ y.toNat) = ((m * 2 ^ y.toNat : Nat) : Int) := by push_cast; rfl
    rw [e] at this
    omega
  rw [iI_nI, pk_shlN _ y.toNat (iI_sh31 y hy) h, ← iI_nI]
  congr 1
theorem iI_and {x y : Int} (hx : 0 ≤ x ∧ x < 2147483648) (hy : 0 ≤ y ∧ y < 2147483648) : iI x &&& iI y = iI ((x.toNat &&& y.toNat : Nat) : Int) := by
  obtain ⟨m, rfl⟩ := Int.eq_ofNat_of_zero_le hx.1
  obtain ⟨n, rfl⟩ := Int.eq_ofNat_of_zero_le hy.1
  rw [iI_nI, iI_nI, iI_nI]
  apply Int32.toBitVec_inj.mp
  show BitVec.ofNat 32 m &&& BitVec.ofNat 32 n = BitVec.ofNat 32 _
  rw [← BitVec.ofNat_and]
  simp
theorem iI_or {x y : Int} (hx : 0 ≤ x ∧ x < 2147483648) (hy : 0 ≤ y ∧ y < 2147483648) : iI x ||| iI y = iI ((x.toNat ||| y.toNat : Nat) : Int) := by
  obtain ⟨m, rfl⟩ := Int.eq_ofNat_of_zero_le hx.1
  obtain ⟨n, rfl⟩ := Int.eq_ofNat_of_zero_le hy.1
  rw [iI_nI, iI_nI, iI_nI]
  apply Int32.toBitVec_inj.mp
  show BitVec.ofNat 32 m ||| BitVec.ofNat 32 n = BitVec.ofNat 32 _
  rw [← BitVec.ofNat_or]
  simp
section
variable {Y : am_Y} {M : am_M} {pc nx tgt : Nat} {ls : List (Option Value)} {st : List Value} {Q : Option Value → am_M → Prop}
theorem mm_ishr {x y : Int} (d : am_at Y pc .ishr 1 nx) (hx : 0 ≤ x ∧ x < 2147483648) (hy : 0 ≤ y ∧ y < 32) (k : am_AW Y M nx ls (.int (iI (x / 2 ^ y.toNat)) :: st) Q) : am_AW Y M pc ls (.int (iI y) :: .int (iI x) :: st) Q := am_ishr d (by rw [iI_shr hx hy]; exact k)
theorem mm_ishl {x y : Int} (d : am_at Y pc .ishl 1 nx) (hx : 0 ≤ x ∧ x * 2 ^ y.toNat < 2147483648) (hy : 0 ≤ y ∧ y < 32) (k : am_AW Y M nx ls (.int (iI (x * 2 ^ y.toNat)) :: st) Q) : am_AW Y M pc ls (.int (iI y) :: .int (iI x) :: st) Q := am_ishl d (by rw [iI_shl hx hy]; exact k)
theorem mm_iand {x y : Int} (d : am_at Y pc .iand 1 nx) (hx : 0 ≤ x ∧ x < 2147483648) (hy : 0 ≤ y ∧ y < 2147483648) (k : am_AW Y M nx ls (.int (iI ((x.toNat &&& y.toNat : Nat) : Int)) :: st) Q) : am_AW Y M pc ls (.int (iI y) :: .int (iI x) :: st) Q := am_iand d (by rw [iI_and hx hy]; exact k)
theorem mm_ior {x y : Int} (d : am_at Y pc .ior 1 nx) (hx : 0 ≤ x ∧ x < 2147483648) (hy : 0 ≤ y ∧ y < 2147483648) (k : am_AW Y M nx ls (.int (iI ((x.toNat ||| y.toNat : Nat) : Int)) :: st) Q) : am_AW Y M pc ls (.int (iI y) :: .int (iI x) :: st) Q := am_ior d (by rw [iI_or hx hy]; exact k)
end
