/-! ===== what is made ===== -/
def zL : mm_L := fun _ _ => 0
def zS (S : mm_S) (n : Nat) : Prop := ∀ b, n ≤ b → ∀ j, S b j = 0
theorem zS_r {S : mm_S} {n m : Nat} (h : zS S n) (hm : n ≤ m) : zS S m := fun b hb j => h b (by omega) j
theorem zr_S {S : mm_S} {n : Nat} (h : zS S n) : zrS S n = S := by
  funext b j
  unfold zrS
  split
  · rename_i e
    rw [h b (by omega) j]
  · rfl
theorem zr_L (n : Nat) : zrL zL n = zL := by
  funext b j
  unfold zrL zL
  split <;> rfl
theorem up2_z {S : mm_S} {a j : Nat} (h : S a j = 0) : up2 S a j 0 = S := by
  have := up2_id S a j
  rw [h] at this
  exact this
theorem ap_0 {A tl : List mm_H} {o : mm_H} : (A ++ (o :: tl))[A.length]? = some o := by rw [List.getElem?_append_right (Nat.le_refl _), Nat.sub_self]; rfl
theorem ap_i {A B : List mm_H} (i : Nat) : (A ++ B)[A.length + i]? = B[i]? := by rw [List.getElem?_append_right (by omega)]; congr 1; omega
theorem ap_set {A B : List mm_H} (i : Nat) (y : mm_H) : (A ++ B).set (A.length + i) y = A ++ B.set i y := by
  rw [List.set_append_right _ _ (by omega)]
  congr 2
  omega
theorem df_v (ty : FieldType) (b : Nat) : am_v b (defaultValue ty) = defaultValue ty := by cases ty <;> rfl
section
variable {Y : am_Y} {A tl : List mm_H} {o : mm_H} {S : mm_S} {pc nx : Nat} {ls : List (Option Value)} {st : List Value} {Q : Option Value → am_M → Prop}
theorem nb_len : (A ++ (o :: tl)).length = A.length + (tl.length + 1) := by simp
theorem nb_newI {x : Int} (hz : zS S A.length) (d : am_at Y pc (.newarray .int) 2 nx) (hx : 0 ≤ x ∧ x ≤ 1000000) (k : am_AW Y (mm (A ++ (o :: (tl ++ [.inl (0, x.toNat, fun _ => none)]))) S zL) nx ls (.ref (A.length + (tl.length + 1)) :: st) Q) : am_AW Y (mm (A ++ (o :: tl)) S zL) pc ls (.int (iI x) :: st) Q := by
  refine mm_newI d hx ?_
  rw [zr_S (zS_r hz (by simp)), zr_L, nb_len, List.append_assoc]
  exact k
theorem nb_newL {x : Int} (hz : zS S A.length) (d : am_at Y pc (.newarray .long) 2 nx) (hx : 0 ≤ x ∧ x ≤ 1000000) (k : am_AW Y (mm (A ++ (o :: (tl ++ [.inl (1, x.toNat, fun _ => none)]))) S zL) nx ls (.ref (A.length + (tl.length + 1)) :: st) Q) : am_AW Y (mm (A ++ (o :: tl)) S zL) pc ls (.int (iI x) :: st) Q := by
  refine mm_newL d hx ?_
  rw [zr_S (zS_r hz (by simp)), zr_L, nb_len, List.append_assoc]
  exact k
theorem nb_newZ {x : Int} (hz : zS S A.length) (d : am_at Y pc (.newarray .boolean) 2 nx) (hx : 0 ≤ x ∧ x ≤ 1000000) (k : am_AW Y (mm (A ++ (o :: (tl ++ [.inl (2, x.toNat, fun _ => none)]))) S zL) nx ls (.ref (A.length + (tl.length + 1)) :: st) Q) : am_AW Y (mm (A ++ (o :: tl)) S zL) pc ls (.int (iI x) :: st) Q := by
  refine mm_newZ d hx ?_
  rw [zr_S (zS_r hz (by simp)), zr_L, nb_len, List.append_assoc]
  exact k
theorem nb_newA {x : Int} {idx t : Nat} {C : String} (hz : zS S A.length) (d : am_at Y pc (.anewarray idx) 3 nx) (ht : ∀ cT, (am_tys cT)[t + 3]? = some (cT (t + 3), .object C)) (hC : C ∈ am_ao) (hw : Cond.classLink Y.1.cls idx C ∈ am_tbl) (hx : 0 ≤ x ∧ x ≤ 1000000) (k : am_AW Y (mm (A ++ (o :: (tl ++ [.inl (t + 3, x.toNat, fun _ => none)]))) S zL) nx ls (.ref (A.length + (tl.length + 1)) :: st) Q) : am_AW Y (mm (A ++ (o :: tl)) S zL) pc ls (.int (iI x) :: st) Q := by
  refine mm_newA d ht hC hw hx ?_
  rw [zr_S (zS_r hz (by simp)), zr_L, nb_len, List.append_assoc]
  exact k
theorem nb_putR {idx ci j q : Nat} {ty : FieldType} {fin : Bool} {fd : List (Bool ⊕ Option Nat)} (d : am_at Y pc (.putfield idx) 3 nx) (hf : am_fp Y.1.cls idx ci j ty fin) (hi0 : Y.1.name = "<init>") (hj : j < fd.length) (hn : ∀ b, narrow ty (.ref b) = .ref b) (hfit : ∀ b, fits ty (.ref b) = true) (k : am_AW Y (mm (A ++ (.inr (ci, fd.set j (.inr (some q))) :: tl)) S zL) nx ls st Q) : am_AW Y (mm (A ++ (.inr (ci, fd) :: tl)) S zL) pc ls (.ref q :: .ref A.length :: st) Q := by
  have e : (A ++ (Sum.inr (ci, fd) :: tl) : List mm_H).set A.length (.inr (ci, fd.set j (.inr (some q)))) = A ++ (.inr (ci, fd.set j (.inr (some q))) :: tl) := by
    rw [List.set_append_right _ _ (Nat.le_refl _), Nat.sub_self]
    rfl
  cases fin with
  | false => exact mm_putR d hf ap_0 hj hn hfit (by rw [e]; exact k)
  | true => exact mm_putRf d hf hi0 ap_0 hj hn hfit (by rw [e]; exact k)
theorem nb_putI {idx ci j : Nat} {x : Int} {fd : List (Bool ⊕ Option Nat)} (d : am_at Y pc (.putfield idx) 3 nx) (hf : am_fp Y.1.cls idx ci j .int false) (hj : fd[j]? = some (.inl false)) (k : am_AW Y (mm (A ++ (.inr (ci, fd) :: tl)) (up2 S A.length j x) zL) nx ls st Q) : am_AW Y (mm (A ++ (.inr (ci, fd) :: tl)) S zL) pc ls (.int (iI x) :: .ref A.length :: st) Q := mm_putI d hf ap_0 hj k
theorem nb_put0 {idx ci j : Nat} {fd : List (Bool ⊕ Option Nat)} (d : am_at Y pc (.putfield idx) 3 nx) (hf : am_fp Y.1.cls idx ci j .int false) (hj : fd[j]? = some (.inl false)) (h0 : S A.length j = 0) (k : am_AW Y (mm (A ++ (.inr (ci, fd) :: tl)) S zL) nx ls st Q) : am_AW Y (mm (A ++ (.inr (ci, fd) :: tl)) S zL) pc ls (.int (iI 0) :: .ref A.length :: st) Q := mm_putI d hf ap_0 hj (by rw [up2_z h0]; exact k)
theorem nb_putZ0 {idx ci j : Nat} {fd : List (Bool ⊕ Option Nat)} (d : am_at Y pc (.putfield idx) 3 nx) (hf : am_fp Y.1.cls idx ci j .boolean false) (hj : fd[j]? = some (.inl false)) (h0 : S A.length j = 0) (k : am_AW Y (mm (A ++ (.inr (ci, fd) :: tl)) S zL) nx ls st Q) : am_AW Y (mm (A ++ (.inr (ci, fd) :: tl)) S zL) pc ls (.int (iI 0) :: .ref A.length :: st) Q := mm_putZ d hf ap_0 hj (Or.inl rfl) (by rw [up2_z h0]; exact k)
theorem nb_putL0 {idx ci j : Nat} {fd : List (Bool ⊕ Option Nat)} (d : am_at Y pc (.putfield idx) 3 nx) (hf : am_fp Y.1.cls idx ci j .long false) (hj : fd[j]? = some (.inl true)) (k : am_AW Y (mm (A ++ (.inr (ci, fd) :: tl)) S zL) nx ls st Q) : am_AW Y (mm (A ++ (.inr (ci, fd) :: tl)) S zL) pc ls (.long 0 :: .ref A.length :: st) Q := mm_putL d hf ap_0 hj (by
  have e : upL zL A.length j 0 = zL := by
    funext b i
    unfold upL zL
    split <;> rfl
  rw [e]
  exact k)
theorem mm_new {sh : List mm_H} {idx ci N : Nat} {C : String} {T : u_T} {fd : List (Bool ⊕ Option Nat)} (hz : zS S sh.length) (ty : Nat → FieldType) (d : am_at Y pc (.new idx) 3 nx) (hc : vwCl[ci]? = some (C, T, N)) (hin : ∀ w ∈ u_ws C T N, w ∈ am_tbl) (hty : ∀ k, k < N → parseFieldDescriptor (T k).2.2.1 = some (ty k)) (hl1 : Cond.classLink Y.1.cls idx C ∈ am_tbl) (hl2 : Cond.instantiable C N ∈ am_tbl) (hl3 : Cond.initialized C ∈ am_tbl)
    (hfs : fd.length = N) (hv : fd.mapIdx (mm_fv (fun _ => 0) (fun _ => 0)) = (List.range N).map (fun j => defaultValue (ty j))) (k : am_AW Y (mm (sh ++ [.inr (ci, fd)]) S zL) nx ls (.ref sh.length :: st) Q) : am_AW Y (mm sh S zL) pc ls st Q := by
  refine am_new (fs := fd.mapIdx (mm_fv (fun _ => 0) (fun _ => 0))) ty d hc hin hty hl1 hl2 hl3 (by simpa using hfs) (fun j hj => ?_) (fun j b => df_v _ _) ?_
  · rw [hv]
    simp [hj]
  · have e := mm_push (sh := sh) (S := S) (L := zL) (s := .inr (ci, fd)) (c := .inr (ci, fd.mapIdx (mm_fv (fun _ => 0) (fun _ => 0)))) rfl
    rw [e, mm_length, zr_S hz, zr_L]
    exact k
theorem mm_aas {sh sh' : List mm_H} {L : mm_L} {a n t ci q : Nat} {C : String} {T : u_T} {N : Nat} {g : Nat → Option Nat} {i : Int} {fd : List (Bool ⊕ Option Nat)} (d : am_at Y pc .aastore 1 nx) (ht : ∀ cT, (am_tys cT)[t + 3]? = some (cT (t + 3), .object C)) (hc : vwCl[ci]? = some (C, T, N)) (h : sh[a]? = some (.inl (t + 3, n, g))) (hq : sh[q]? = some (.inr (ci, fd))) (hi : 0 ≤ i ∧ i < n ∧ i < 2147483648) (hs : sh.set a (.inl (t + 3, n, va_up g i.toNat (some q))) = sh')
    (k : am_AW Y (mm sh' S L) nx ls st Q) : am_AW Y (mm sh S L) pc ls (.ref q :: .int (iI i) :: .ref a :: st) Q := by
  refine am_aastore d ht hc (mm_get h) (mm_get hq) (iI_in hi.1 hi.2.1 hi.2.2) ?_
  have e := mm_shset (S := S) (L := L) (s' := .inl (t + 3, n, va_up g i.toNat (some q))) h
  rw [iI_clamp hi.1 hi.2.2]
  rw [hs] at e
  have e2 : mm_c (.inl (t + 3, n, va_up g i.toNat (some q))) (S a) (L a) = .inl (t + 3, n, .inr (.inr (.inr (.inr (va_up g i.toNat (some q)))))) := rfl
  rw [e2] at e
  rw [e]
  exact k
end
/-- the objects as they are made; [none] where nothing has been put -/
def kdB (a : Nat) : List mm_H := [.inr (4, [.inl false, .inl false, .inr (some (a + 1)), .inr (some (a + 2))]), .inl (0, 48, fun _ => none), .inl (0, 48, fun _ => none)]
def rtB (a : Nat) : List mm_H := [.inr (6, [.inl false, .inl false, .inr (some (a + 1)), .inr (some (a + 2)), .inr (some (a + 3)), .inr (some (a + 4)), .inr (some (a + 5)), .inr (some (a + 6)), .inr (some (a + 7)), .inr (some (a + 8)), .inr (some (a + 9))]), .inl (0, 24, fun _ => none), .inl (0, 24, fun _ => none), .inl (0, 24, fun _ => none), .inl (0, 24, fun _ => none), .inl (0, 24, fun _ => none), .inl (0, 24, fun _ => none), .inl (0, 25, fun _ => none), .inl (0, 24, fun _ => none), .inl (0, 6, fun _ => none)]
def ftB (a : Nat) : List mm_H := [.inr (2, [.inr (some (a + 1)), .inr (some (a + 2)), .inl false]), .inl (0, 36, fun _ => none), .inl (0, 36, fun _ => none)]
def scB (a : Nat) : List mm_H := [.inr (8, [.inl false, .inl false, .inl false, .inr (some (a + 1)), .inr (some (a + 2)), .inr (some (a + 3))]), .inl (0, 5, fun _ => none), .inl (0, 6, fun _ => none), .inl (0, 6, fun _ => none)]
def plB (a : Nat) : List mm_H := [.inr (5, [.inl false, .inr (some (a + 1)), .inr (some (a + 2)), .inr (some (a + 3))]), .inl (1, 128, fun _ => none), .inl (0, 128, fun _ => none), .inl (0, 256, fun _ => none)]
def kd0 : mm_H := .inr (4, [.inl false, .inl false, .inr none, .inr none])
def rt0 : mm_H := .inr (6, [.inl false, .inl false, .inr none, .inr none, .inr none, .inr none, .inr none, .inr none, .inr none, .inr none, .inr none])
def ft0 : mm_H := .inr (2, [.inr none, .inr none, .inl false])
def sc0 : mm_H := .inr (8, [.inl false, .inl false, .inl false, .inr none, .inr none, .inr none])
def pl0 : mm_H := .inr (5, [.inl false, .inr none, .inr none, .inr none])
def cs0 : mm_H := .inr (1, csFd)
set_option maxRecDepth 100000 in
set_option maxHeartbeats 4000000 in
theorem n_kind {A : List mm_H} {S : mm_S} (hz : zS S A.length) : am_E eX4_init [.ref A.length] (mm (A ++ [kd0]) S zL) (fun r M' => r = none ∧ M' = mm (A ++ kdB A.length) S zL) := by
  refine am_enter rfl rfl (Nat.le_of_ble_eq_true rfl) ?_
  refine am_aload_n rfl dX4_init_0 ?_
  refine am_objInit dX4_init_1 mk_X4_3 im_obj cd_obj (Nat.le_of_ble_eq_true rfl) (Nat.le_of_ble_eq_true rfl) ?_
  refine am_aload_n rfl dX4_init_4 ?_
  refine mm_iconst dX4_init_5 ?_
  refine nb_put0 dX4_init_6 fp_X4_9 rfl (hz _ (Nat.le_refl _) _) ?_
  refine am_aload_n rfl dX4_init_9 ?_
  refine mm_iconst dX4_init_10 ?_
  refine nb_put0 dX4_init_11 fp_X4_15 rfl (hz _ (Nat.le_refl _) _) ?_
  refine am_aload_n rfl dX4_init_14 ?_
  refine mm_bipush dX4_init_15 (by decide) ?_
  refine nb_newI hz dX4_init_17 (by decide) ?_
  refine nb_putR dX4_init_19 fp_X4_18 rfl (Nat.le_of_ble_eq_true rfl) (fun _ => rfl) (fun _ => rfl) ?_
  refine am_aload_n rfl dX4_init_22 ?_
  refine mm_bipush dX4_init_23 (by decide) ?_
  refine nb_newI hz dX4_init_25 (by decide) ?_
  refine nb_putR dX4_init_27 fp_X4_22 rfl (Nat.le_of_ble_eq_true rfl) (fun _ => rfl) (fun _ => rfl) ?_
  refine am_return dX4_init_30 rfl ?_
  exact ⟨rfl, rfl⟩
set_option maxRecDepth 100000 in
set_option maxHeartbeats 4000000 in
theorem n_rout {A : List mm_H} {S : mm_S} (hz : zS S A.length) : am_E eX6_init [.ref A.length] (mm (A ++ [rt0]) S zL) (fun r M' => r = none ∧ M' = mm (A ++ rtB A.length) S zL) := by
  refine am_enter rfl rfl (Nat.le_of_ble_eq_true rfl) ?_
  refine am_aload_n rfl dX6_init_0 ?_
  refine am_objInit dX6_init_1 mk_X6_3 im_obj cd_obj (Nat.le_of_ble_eq_true rfl) (Nat.le_of_ble_eq_true rfl) ?_
  refine am_aload_n rfl dX6_init_4 ?_
  refine mm_iconst dX6_init_5 ?_
  refine nb_put0 dX6_init_6 fp_X6_9 rfl (hz _ (Nat.le_refl _) _) ?_
  refine am_aload_n rfl dX6_init_9 ?_
  refine mm_iconst dX6_init_10 ?_
  refine nb_put0 dX6_init_11 fp_X6_15 rfl (hz _ (Nat.le_refl _) _) ?_
  refine am_aload_n rfl dX6_init_14 ?_
  refine mm_bipush dX6_init_15 (by decide) ?_
  refine nb_newI hz dX6_init_17 (by decide) ?_
  refine nb_putR dX6_init_19 fp_X6_18 rfl (Nat.le_of_ble_eq_true rfl) (fun _ => rfl) (fun _ => rfl) ?_
  refine am_aload_n rfl dX6_init_22 ?_
  refine mm_bipush dX6_init_23 (by decide) ?_
  refine nb_newI hz dX6_init_25 (by decide) ?_
  refine nb_putR dX6_init_27 fp_X6_22 rfl (Nat.le_of_ble_eq_true rfl) (fun _ => rfl) (fun _ => rfl) ?_
  refine am_aload_n rfl dX6_init_30 ?_
  refine mm_bipush dX6_init_31 (by decide) ?_
  refine nb_newI hz dX6_init_33 (by decide) ?_
  refine nb_putR dX6_init_35 fp_X6_25 rfl (Nat.le_of_ble_eq_true rfl) (fun _ => rfl) (fun _ => rfl) ?_
  refine am_aload_n rfl dX6_init_38 ?_
  refine mm_bipush dX6_init_39 (by decide) ?_
  refine nb_newI hz dX6_init_41 (by decide) ?_
  refine nb_putR dX6_init_43 fp_X6_28 rfl (Nat.le_of_ble_eq_true rfl) (fun _ => rfl) (fun _ => rfl) ?_
  refine am_aload_n rfl dX6_init_46 ?_
  refine mm_bipush dX6_init_47 (by decide) ?_
  refine nb_newI hz dX6_init_49 (by decide) ?_
  refine nb_putR dX6_init_51 fp_X6_31 rfl (Nat.le_of_ble_eq_true rfl) (fun _ => rfl) (fun _ => rfl) ?_
  refine am_aload_n rfl dX6_init_54 ?_
  refine mm_bipush dX6_init_55 (by decide) ?_
  refine nb_newI hz dX6_init_57 (by decide) ?_
  refine nb_putR dX6_init_59 fp_X6_34 rfl (Nat.le_of_ble_eq_true rfl) (fun _ => rfl) (fun _ => rfl) ?_
  refine am_aload_n rfl dX6_init_62 ?_
  refine mm_bipush dX6_init_63 (by decide) ?_
  refine nb_newI hz dX6_init_65 (by decide) ?_
  refine nb_putR dX6_init_67 fp_X6_37 rfl (Nat.le_of_ble_eq_true rfl) (fun _ => rfl) (fun _ => rfl) ?_
  refine am_aload_n rfl dX6_init_70 ?_
  refine mm_bipush dX6_init_71 (by decide) ?_
  refine nb_newI hz dX6_init_73 (by decide) ?_
  refine nb_putR dX6_init_75 fp_X6_40 rfl (Nat.le_of_ble_eq_true rfl) (fun _ => rfl) (fun _ => rfl) ?_
  refine am_aload_n rfl dX6_init_78 ?_
  refine mm_bipush dX6_init_79 (by decide) ?_
  refine nb_newI hz dX6_init_81 (by decide) ?_
  refine nb_putR dX6_init_83 fp_X6_43 rfl (Nat.le_of_ble_eq_true rfl) (fun _ => rfl) (fun _ => rfl) ?_
  refine am_return dX6_init_86 rfl ?_
  exact ⟨rfl, rfl⟩
set_option maxRecDepth 100000 in
set_option maxHeartbeats 4000000 in
theorem n_fit {A : List mm_H} {S : mm_S} (hz : zS S A.length) : am_E eX2_init [.ref A.length] (mm (A ++ [ft0]) S zL) (fun r M' => r = none ∧ M' = mm (A ++ ftB A.length) S zL) := by
  refine am_enter rfl rfl (Nat.le_of_ble_eq_true rfl) ?_
  refine am_aload_n rfl dX2_init_0 ?_
  refine am_objInit dX2_init_1 mk_X2_3 im_obj cd_obj (Nat.le_of_ble_eq_true rfl) (Nat.le_of_ble_eq_true rfl) ?_
  refine am_aload_n rfl dX2_init_4 ?_
  refine mm_bipush dX2_init_5 (by decide) ?_
  refine nb_newI hz dX2_init_7 (by decide) ?_
  refine nb_putR dX2_init_9 fp_X2_9 rfl (Nat.le_of_ble_eq_true rfl) (fun _ => rfl) (fun _ => rfl) ?_
  refine am_aload_n rfl dX2_init_12 ?_
  refine mm_bipush dX2_init_13 (by decide) ?_
  refine nb_newI hz dX2_init_15 (by decide) ?_
  refine nb_putR dX2_init_17 fp_X2_15 rfl (Nat.le_of_ble_eq_true rfl) (fun _ => rfl) (fun _ => rfl) ?_
  refine am_aload_n rfl dX2_init_20 ?_
  refine mm_iconst dX2_init_21 ?_
  refine nb_put0 dX2_init_22 fp_X2_18 rfl (hz _ (Nat.le_refl _) _) ?_
  refine am_return dX2_init_25 rfl ?_
  exact ⟨rfl, rfl⟩
set_option maxRecDepth 100000 in
set_option maxHeartbeats 4000000 in
theorem n_scene {A : List mm_H} {S : mm_S} (hz : zS S A.length) : am_E eX8_init [.ref A.length] (mm (A ++ [sc0]) S zL) (fun r M' => r = none ∧ M' = mm (A ++ scB A.length) S zL) := by
  refine am_enter rfl rfl (Nat.le_of_ble_eq_true rfl) ?_
  refine am_aload_n rfl dX8_init_0 ?_
  refine am_objInit dX8_init_1 mk_X8_5 im_obj cd_obj (Nat.le_of_ble_eq_true rfl) (Nat.le_of_ble_eq_true rfl) ?_
  refine am_aload_n rfl dX8_init_4 ?_
  refine mm_iconst dX8_init_5 ?_
  refine nb_put0 dX8_init_6 fp_X8_11 rfl (hz _ (Nat.le_refl _) _) ?_
  refine am_aload_n rfl dX8_init_9 ?_
  refine mm_iconst dX8_init_10 ?_
  refine nb_put0 dX8_init_11 fp_X8_15 rfl (hz _ (Nat.le_refl _) _) ?_
  refine am_aload_n rfl dX8_init_14 ?_
  refine mm_iconst dX8_init_15 ?_
  refine nb_put0 dX8_init_16 fp_X8_18 rfl (hz _ (Nat.le_refl _) _) ?_
  refine am_aload_n rfl dX8_init_19 ?_
  refine mm_iconst dX8_init_20 ?_
  refine nb_newI hz dX8_init_21 (by decide) ?_
  refine nb_putR dX8_init_23 fp_X8_21 rfl (Nat.le_of_ble_eq_true rfl) (fun _ => rfl) (fun _ => rfl) ?_
  refine am_aload_n rfl dX8_init_26 ?_
  refine mm_bipush dX8_init_27 (by decide) ?_
  refine nb_newI hz dX8_init_29 (by decide) ?_
  refine nb_putR dX8_init_31 fp_X8_25 rfl (Nat.le_of_ble_eq_true rfl) (fun _ => rfl) (fun _ => rfl) ?_
  refine am_aload_n rfl dX8_init_34 ?_
  refine mm_bipush dX8_init_35 (by decide) ?_
  refine nb_newI hz dX8_init_37 (by decide) ?_
  refine nb_putR dX8_init_39 fp_X8_28 rfl (Nat.le_of_ble_eq_true rfl) (fun _ => rfl) (fun _ => rfl) ?_
  refine am_return dX8_init_42 rfl ?_
  exact ⟨rfl, rfl⟩
set_option maxRecDepth 100000 in
set_option maxHeartbeats 4000000 in
theorem n_pool {A : List mm_H} {S : mm_S} (hz : zS S A.length) : am_E eX5_init [.ref A.length] (mm (A ++ [pl0]) S zL) (fun r M' => r = none ∧ M' = mm (A ++ plB A.length) S zL) := by
  refine am_enter rfl rfl (Nat.le_of_ble_eq_true rfl) ?_
  refine am_aload_n rfl dX5_init_0 ?_
  refine am_objInit dX5_init_1 mk_X5_3 im_obj cd_obj (Nat.le_of_ble_eq_true rfl) (Nat.le_of_ble_eq_true rfl) ?_
  refine am_aload_n rfl dX5_init_4 ?_
  refine mm_iconst dX5_init_5 ?_
  refine nb_put0 dX5_init_6 fp_X5_9 rfl (hz _ (Nat.le_refl _) _) ?_
  refine am_aload_n rfl dX5_init_9 ?_
  refine mm_sipush dX5_init_10 (by decide) ?_
  refine nb_newL hz dX5_init_13 (by decide) ?_
  refine nb_putR dX5_init_15 fp_X5_15 rfl (Nat.le_of_ble_eq_true rfl) (fun _ => rfl) (fun _ => rfl) ?_
  refine am_aload_n rfl dX5_init_18 ?_
  refine mm_sipush dX5_init_19 (by decide) ?_
  refine nb_newI hz dX5_init_22 (by decide) ?_
  refine nb_putR dX5_init_24 fp_X5_19 rfl (Nat.le_of_ble_eq_true rfl) (fun _ => rfl) (fun _ => rfl) ?_
  refine am_aload_n rfl dX5_init_27 ?_
  refine mm_sipush dX5_init_28 (by decide) ?_
  refine nb_newI hz dX5_init_31 (by decide) ?_
  refine nb_putR dX5_init_33 fp_X5_23 rfl (Nat.le_of_ble_eq_true rfl) (fun _ => rfl) (fun _ => rfl) ?_
  refine am_return dX5_init_36 rfl ?_
  exact ⟨rfl, rfl⟩
set_option maxRecDepth 100000 in
set_option maxHeartbeats 4000000 in
theorem n_case {A : List mm_H} {S : mm_S} (hz : zS S A.length) : am_E eX1_init [.ref A.length] (mm (A ++ [cs0]) S zL) (fun r M' => r = none ∧ M' = mm (A ++ [cs0]) (up2 (up2 S A.length 1 2) A.length 6 (-1)) zL) := by
  refine am_enter rfl rfl (Nat.le_of_ble_eq_true rfl) ?_
  refine am_aload_n rfl dX1_init_0 ?_
  refine am_objInit dX1_init_1 mk_X1_3 im_obj cd_obj (Nat.le_of_ble_eq_true rfl) (Nat.le_of_ble_eq_true rfl) ?_
  refine am_aload_n rfl dX1_init_4 ?_
  refine mm_iconst dX1_init_5 ?_
  refine nb_put0 dX1_init_6 fp_X1_9 rfl (hz _ (Nat.le_refl _) _) ?_
  refine am_aload_n rfl dX1_init_9 ?_
  refine mm_iconst dX1_init_10 ?_
  refine nb_putI dX1_init_11 fp_X1_15 rfl ?_
  refine am_aload_n rfl dX1_init_14 ?_
  refine mm_iconst dX1_init_15 ?_
  refine nb_put0 dX1_init_16 fp_X1_18 rfl (by simp (disch := omega) only [up2_rc]; exact hz _ (Nat.le_refl _) _) ?_
  refine am_aload_n rfl dX1_init_19 ?_
  refine mm_iconst dX1_init_20 ?_
  refine nb_put0 dX1_init_21 fp_X1_21 rfl (by simp (disch := omega) only [up2_rc]; exact hz _ (Nat.le_refl _) _) ?_
  refine am_aload_n rfl dX1_init_24 ?_
  refine mm_iconst dX1_init_25 ?_
  refine nb_put0 dX1_init_26 fp_X1_24 rfl (by simp (disch := omega) only [up2_rc]; exact hz _ (Nat.le_refl _) _) ?_
  refine am_aload_n rfl dX1_init_29 ?_
  refine mm_iconst dX1_init_30 ?_
  refine nb_put0 dX1_init_31 fp_X1_27 rfl (by simp (disch := omega) only [up2_rc]; exact hz _ (Nat.le_refl _) _) ?_
  refine am_aload_n rfl dX1_init_34 ?_
  refine mm_iconst dX1_init_35 ?_
  refine nb_putI dX1_init_36 fp_X1_30 rfl ?_
  refine am_return dX1_init_39 rfl ?_
  exact ⟨rfl, rfl⟩
