/-! ===== new cells ===== -/
def zrS (S : mm_S) (a : Nat) : mm_S := fun b j => if b = a then 0 else S b j
def zrL (L : mm_L) (a : Nat) : mm_L := fun b j => if b = a then 0 else L b j
theorem zrS_ne {S : mm_S} {a b : Nat} (h : b ≠ a) : zrS S a b = S b := by funext j; simp [zrS, h]
theorem zrS_eq {S : mm_S} {a j : Nat} : zrS S a a j = 0 := by simp [zrS]
theorem zrL_ne {S : mm_L} {a b : Nat} (h : b ≠ a) : zrL S a b = S b := by funext j; simp [zrL, h]
theorem zrL_eq {S : mm_L} {a j : Nat} : zrL S a a j = 0 := by simp [zrL]
theorem mm_length (sh : List mm_H) (S : mm_S) (L : mm_L) : (mm sh S L).length = sh.length := by simp [mm]
theorem mm_push {sh : List mm_H} {S : mm_S} {L : mm_L} {s : mm_H} {c : am_C} (hc : c = mm_c s (fun _ => 0) (fun _ => 0)) : mm sh S L ++ [c] = mm (sh ++ [s]) (zrS S sh.length) (zrL L sh.length) := by
  apply List.ext_getElem?
  intro i
  by_cases hi : i < sh.length
  · rw [List.getElem?_append_left (by rw [mm_length]; exact hi), mm_get (List.getElem?_eq_getElem hi), mm_get (s := sh[i]) (by rw [List.getElem?_append_left hi]; exact List.getElem?_eq_getElem hi), zrS_ne (by omega), zrL_ne (by omega)]
  · by_cases h2 : i = sh.length
    · subst h2
      rw [List.getElem?_append_right (by rw [mm_length]; exact Nat.le_refl _), mm_length, Nat.sub_self, mm_get (s := s) (by rw [List.getElem?_append_right (Nat.le_refl _), Nat.sub_self]; rfl)]
      rw [show zrS S sh.length sh.length = fun _ => 0 from funext fun j => zrS_eq, show zrL L sh.length sh.length = fun _ => 0 from funext fun j => zrL_eq, hc]
      rfl
    · rw [List.getElem?_eq_none (by simp [mm_length]; omega), List.getElem?_eq_none (by simp [mm_length]; omega)]
theorem mm_shset {sh : List mm_H} {S : mm_S} {L : mm_L} {a : Nat} {s s' : mm_H} (h : sh[a]? = some s) : (mm sh S L).set a (mm_c s' (S a) (L a)) = mm (sh.set a s') S L := by
  have hl : a < sh.length := (List.getElem?_eq_some_iff.mp h).1
  apply List.ext_getElem?
  intro i
  by_cases hi : a = i
  · subst hi
    rw [List.getElem?_set_self (by rw [mm_length]; exact hl), mm_get (List.getElem?_set_self hl)]
  · rw [List.getElem?_set_ne hi]
    simp only [mm, List.getElem?_mapIdx]
    rw [List.getElem?_set_ne hi]
section
variable {Y : am_Y} {sh : List mm_H} {S : mm_S} {L : mm_L} {pc nx tgt : Nat} {ls : List (Option Value)} {st : List Value} {Q : Option Value → am_M → Prop}
theorem mm_newI {x : Int} (d : am_at Y pc (.newarray .int) 2 nx) (hx : 0 ≤ x ∧ x ≤ 1000000) (k : am_AW Y (mm (sh ++ [.inl (0, x.toNat, fun _ => none)]) (zrS S sh.length) (zrL L sh.length)) nx ls (.ref sh.length :: st) Q) : am_AW Y (mm sh S L) pc ls (.int (iI x) :: st) Q := by
  refine am_newarrayI d wac_int ?_ (by rw [iI_clamp hx.1 (by omega)]; omega) ?_
  · rw [← iI_0, iI_lt (by omega) (by omega)]; omega
  · have e := mm_push (sh := sh) (S := S) (L := L) (s := .inl (0, x.toNat, fun _ => none)) (c := .inl (0, x.toNat, .inl fun _ => 0)) rfl
    rw [iI_clamp hx.1 (by omega), e, mm_length]
    exact k
theorem mm_newL {x : Int} (d : am_at Y pc (.newarray .long) 2 nx) (hx : 0 ≤ x ∧ x ≤ 1000000) (k : am_AW Y (mm (sh ++ [.inl (1, x.toNat, fun _ => none)]) (zrS S sh.length) (zrL L sh.length)) nx ls (.ref sh.length :: st) Q) : am_AW Y (mm sh S L) pc ls (.int (iI x) :: st) Q := by
  refine am_newarrayL d wac_long ?_ (by rw [iI_clamp hx.1 (by omega)]; omega) ?_
  · rw [← iI_0, iI_lt (by omega) (by omega)]; omega
  · have e := mm_push (sh := sh) (S := S) (L := L) (s := .inl (1, x.toNat, fun _ => none)) (c := .inl (1, x.toNat, .inr (.inl fun _ => 0))) rfl
    rw [iI_clamp hx.1 (by omega), e, mm_length]
    exact k
theorem mm_newZ {x : Int} (d : am_at Y pc (.newarray .boolean) 2 nx) (hx : 0 ≤ x ∧ x ≤ 1000000) (k : am_AW Y (mm (sh ++ [.inl (2, x.toNat, fun _ => none)]) (zrS S sh.length) (zrL L sh.length)) nx ls (.ref sh.length :: st) Q) : am_AW Y (mm sh S L) pc ls (.int (iI x) :: st) Q := by
  refine am_newarrayZ d wac_boolean ?_ (by rw [iI_clamp hx.1 (by omega)]; omega) ?_
  · rw [← iI_0, iI_lt (by omega) (by omega)]; omega
  · have e := mm_push (sh := sh) (S := S) (L := L) (s := .inl (2, x.toNat, fun _ => none)) (c := .inl (2, x.toNat, .inl fun _ => 0)) rfl
    rw [iI_clamp hx.1 (by omega), e, mm_length]
    exact k
theorem mm_newA {x : Int} {idx t : Nat} {C : String} (d : am_at Y pc (.anewarray idx) 3 nx) (ht : ∀ cT, (am_tys cT)[t + 3]? = some (cT (t + 3), .object C)) (hC : C ∈ am_ao) (hw : Cond.classLink Y.1.cls idx C ∈ am_tbl) (hx : 0 ≤ x ∧ x ≤ 1000000) (k : am_AW Y (mm (sh ++ [.inl (t + 3, x.toNat, fun _ => none)]) (zrS S sh.length) (zrL L sh.length)) nx ls (.ref sh.length :: st) Q) : am_AW Y (mm sh S L) pc ls (.int (iI x) :: st) Q := by
  refine am_anewarray d ht hC hw ?_ (by rw [iI_clamp hx.1 (by omega)]; omega) ?_
  · rw [← iI_0, iI_lt (by omega) (by omega)]; omega
  · have e := mm_push (sh := sh) (S := S) (L := L) (s := .inl (t + 3, x.toNat, fun _ => none)) (c := .inl (t + 3, x.toNat, .inr (.inr (.inr (.inr fun _ => none))))) rfl
    rw [iI_clamp hx.1 (by omega), e, mm_length]
    exact k
theorem mm_putR {idx ci j a q : Nat} {ty : FieldType} {fd : List (Bool ⊕ Option Nat)} (d : am_at Y pc (.putfield idx) 3 nx) (hf : am_fp Y.1.cls idx ci j ty false) (h : sh[a]? = some (.inr (ci, fd))) (hj : j < fd.length) (hn : ∀ b, narrow ty (.ref b) = .ref b) (hfit : ∀ b, fits ty (.ref b) = true) (k : am_AW Y (mm (sh.set a (.inr (ci, fd.set j (.inr (some q))))) S L) nx ls st Q) : am_AW Y (mm sh S L) pc ls (.ref q :: .ref a :: st) Q := by
  refine am_putfield d hf (mm_get h) (by simpa using hj) (fun b => hn _) (fun b => hfit _) ?_
  rw [← mm_shset (s' := .inr (ci, fd.set j (.inr (some q)))) h] at k
  have e : (fd.mapIdx (mm_fv (S a) (L a))).set j (.ref q) = (fd.set j (.inr (some q))).mapIdx (mm_fv (S a) (L a)) := by
    apply List.ext_getElem?
    intro i
    by_cases hi : j = i
    · subst hi
      rw [List.getElem?_set_self (by simpa using hj), mm_fd_get (List.getElem?_set_self hj)]
      rfl
    · rw [List.getElem?_set_ne hi]
      simp only [List.getElem?_mapIdx]
      rw [List.getElem?_set_ne hi]
  rw [e]
  exact k
theorem mm_putRf {idx ci j a q : Nat} {ty : FieldType} {fd : List (Bool ⊕ Option Nat)} (d : am_at Y pc (.putfield idx) 3 nx) (hf : am_fp Y.1.cls idx ci j ty true) (hi0 : Y.1.name = "<init>") (h : sh[a]? = some (.inr (ci, fd))) (hj : j < fd.length) (hn : ∀ b, narrow ty (.ref b) = .ref b) (hfit : ∀ b, fits ty (.ref b) = true) (k : am_AW Y (mm (sh.set a (.inr (ci, fd.set j (.inr (some q))))) S L) nx ls st Q) : am_AW Y (mm sh S L) pc ls (.ref q :: .ref a :: st) Q := by
  refine am_putfinal d hf hi0 (mm_get h) (by simpa using hj) (fun b => hn _) (fun b => hfit _) ?_
  rw [← mm_shset (s' := .inr (ci, fd.set j (.inr (some q)))) h] at k
  have e : (fd.mapIdx (mm_fv (S a) (L a))).set j (.ref q) = (fd.set j (.inr (some q))).mapIdx (mm_fv (S a) (L a)) := by
    apply List.ext_getElem?
    intro i
    by_cases hi : j = i
    · subst hi
      rw [List.getElem?_set_self (by simpa using hj), mm_fd_get (List.getElem?_set_self hj)]
      rfl
    · rw [List.getElem?_set_ne hi]
      simp only [List.getElem?_mapIdx]
      rw [List.getElem?_set_ne hi]
  rw [e]
  exact k
def cpyL (L : mm_L) (a0 a n : Nat) : mm_L := fun b j => if b = a ∧ j < n then L a0 j else L b j
theorem mm_copyl0 {idx a0 a n0 n1 : Nat} {g0 g1 : Nat → Option Nat} {n : Int} (d : am_at Y pc (.invokestatic idx) 3 nx) (w1 : Cond.methodLink Y.1.cls idx arraycopyName ∈ am_tbl) (h0 : sh[a0]? = some (.inl (1, n0, g0))) (h1 : sh[a]? = some (.inl (1, n1, g1))) (hn : 0 ≤ n ∧ n ≤ n0 ∧ n ≤ n1 ∧ n < 2147483648) (hf : 1 ≤ Y.2.2.2.2.1) (hlo : (st.map fun v => v.category).sum + (nativeFrameWords "java/lang/System" "arraycopy" 5 + 11) ≤ Y.2.2.2.2.2)
    (k : am_AW Y (mm sh S (cpyL L a0 a n.toNat)) nx ls st Q) : am_AW Y (mm sh S L) pc ls (.int (iI n) :: .int (iI 0) :: .ref a :: .int (iI 0) :: .ref a0 :: st) Q := by
  have e0 : (iI 0).toNatClampNeg = 0 := rfl
  have en : (iI n).toNatClampNeg = n.toNat := iI_clamp hn.1 hn.2.2.2
  refine am_copyl d w1 nat_copy st_copy iniJ10 (mm_get h0) (mm_get h1) (by decide) (by decide) (fun h => ?_) (by rw [e0, en]; omega) (by rw [e0, en]; omega) hf hlo ?_
  · rw [← iI_0, iI_lt (by omega) (by omega)] at h; omega
  · rw [e0, en, mm_set (S' := S) (L' := cpyL L a0 a n.toNat) h1 ?_ (fun _ _ => rfl) (fun b hb => by funext j; simp [cpyL, hb])]
    · exact k
    · show (Sum.inl _ : am_C) = Sum.inl _
      congr 5
      funext q
      by_cases hq : q < n.toNat <;> simp [va_cpy, cpyL, hq]
end
def minI (x y : Int) : Int := if x ≤ y then x else y
def maxI (x y : Int) : Int := if x ≤ y then y else x
theorem am_maxg {Y : am_Y} {M : am_M} {pc nx idx : Nat} {ls : List (Option Value)} {st : List Value} {Q : Option Value → am_M → Prop} {x y : Int32} (d : am_at Y pc (.invokestatic idx) 3 nx) (w1 : Cond.methodLink Y.1.cls idx yJ9_max_7cf53 ∈ am_tbl) (hf : 1 ≤ Y.2.2.2.2.1) (hlo : (st.map fun v => v.category).sum + 13 ≤ Y.2.2.2.2.2) (k : am_AW Y M nx ls (.int (if x < y then y else x) :: st) Q) : am_AW Y M pc ls (.int y :: .int x :: st) Q := by
  obtain ⟨r, M', hq, h1, h2, hw⟩ := k
  obtain ⟨d, rfl⟩ := d
  refine ⟨r, M', hq, h1, h2, ?_⟩
  intro p l e s m args below meth c b D cT M0 H locs la A g1 g2 hP hS hl
  have hts : ∀ w ∈ am_tbl, w.before args s = true := fun w h => A.2.2.2.2.2.2.2.1 w (List.mem_cons_of_mem _ h)
  have ec : Lib.Math.max.code = cJ9_max_7cf53 := by decide +kernel
  have w4 : Cond.code Lib.Math.max.name Lib.Math.max.code 2 (some .int) ∈ am_tbl := by
    rw [ec]
    exact List.mem_filter.mpr ⟨in_J9_max_7cf53.1, rfl⟩
  exact va_mmax (own := Y.1.cls) A.1 A.2.1 (A.2.2.1.trans hl.1.symm) A.2.2.2.2.2.2.1 (hts _ w1) (hts _ st_J9_max_7cf53) (hts _ iniJ9) (hts _ w4) (show 1 ≤ Y.2.2.2.2.1 from hf) (by rw [am_cats]; exact hlo) (by show _ ≤ M'.length - M0.length; omega) (by show _ ≤ am_z M' - am_z M0; omega) d (hw p l e s m args below meth c b D cT M0 H locs la A g1 g2 hP hS hl)
theorem mm_max {Y : am_Y} {M : am_M} {pc nx idx : Nat} {ls : List (Option Value)} {st : List Value} {Q : Option Value → am_M → Prop} {x y : Int} (d : am_at Y pc (.invokestatic idx) 3 nx) (w1 : Cond.methodLink Y.1.cls idx yJ9_max_7cf53 ∈ am_tbl) (hx : Rg x) (hy : Rg y) (hf : 1 ≤ Y.2.2.2.2.1) (hlo : (st.map fun v => v.category).sum + 13 ≤ Y.2.2.2.2.2) (k : am_AW Y M nx ls (.int (iI (maxI x y)) :: st) Q) : am_AW Y M pc ls (.int (iI y) :: .int (iI x) :: st) Q := by
  refine am_maxg d w1 hf hlo ?_
  have e : (if iI x < iI y then iI y else iI x) = iI (maxI x y) := by
    unfold maxI
    by_cases h : x < y
    · rw [if_pos ((iI_lt (by omega) (by omega)).mpr h)]
      congr 1
      split <;> omega
    · rw [if_neg (fun z => h ((iI_lt (by omega) (by omega)).mp z))]
      congr 1
      split <;> omega
  rw [e]
  exact k
theorem am_ming {Y : am_Y} {M : am_M} {pc nx idx : Nat} {ls : List (Option Value)} {st : List Value} {Q : Option Value → am_M → Prop} {x y : Int32} (d : am_at Y pc (.invokestatic idx) 3 nx) (w1 : Cond.methodLink Y.1.cls idx yJ9_min_7cf53 ∈ am_tbl) (hf : 1 ≤ Y.2.2.2.2.1) (hlo : (st.map fun v => v.category).sum + 13 ≤ Y.2.2.2.2.2) (k : am_AW Y M nx ls (.int (if y < x then y else x) :: st) Q) : am_AW Y M pc ls (.int y :: .int x :: st) Q := by
  obtain ⟨r, M', hq, h1, h2, hw⟩ := k
  obtain ⟨d, rfl⟩ := d
  refine ⟨r, M', hq, h1, h2, ?_⟩
  intro p l e s m args below meth c b D cT M0 H locs la A g1 g2 hP hS hl
  have hts : ∀ w ∈ am_tbl, w.before args s = true := fun w h => A.2.2.2.2.2.2.2.1 w (List.mem_cons_of_mem _ h)
  have ec : Lib.Math.min.code = cJ9_min_7cf53 := by decide +kernel
  have w4 : Cond.code Lib.Math.min.name Lib.Math.min.code 2 (some .int) ∈ am_tbl := by
    rw [ec]
    exact List.mem_filter.mpr ⟨in_J9_min_7cf53.1, rfl⟩
  exact va_mmin (own := Y.1.cls) A.1 A.2.1 (A.2.2.1.trans hl.1.symm) A.2.2.2.2.2.2.1 (hts _ w1) (hts _ st_J9_min_7cf53) (hts _ iniJ9) (hts _ w4) (show 1 ≤ Y.2.2.2.2.1 from hf) (by rw [am_cats]; exact hlo) (by show _ ≤ M'.length - M0.length; omega) (by show _ ≤ am_z M' - am_z M0; omega) d (hw p l e s m args below meth c b D cT M0 H locs la A g1 g2 hP hS hl)
theorem mm_min {Y : am_Y} {M : am_M} {pc nx idx : Nat} {ls : List (Option Value)} {st : List Value} {Q : Option Value → am_M → Prop} {x y : Int} (d : am_at Y pc (.invokestatic idx) 3 nx) (w1 : Cond.methodLink Y.1.cls idx yJ9_min_7cf53 ∈ am_tbl) (hx : Rg x) (hy : Rg y) (hf : 1 ≤ Y.2.2.2.2.1) (hlo : (st.map fun v => v.category).sum + 13 ≤ Y.2.2.2.2.2) (k : am_AW Y M nx ls (.int (iI (minI x y)) :: st) Q) : am_AW Y M pc ls (.int (iI y) :: .int (iI x) :: st) Q := by
  refine am_ming d w1 hf hlo ?_
  have e : (if iI y < iI x then iI y else iI x) = iI (minI x y) := by
    unfold minI
    by_cases h : y < x
    · rw [if_pos ((iI_lt (by omega) (by omega)).mpr h)]
      congr 1
      split <;> omega
    · rw [if_neg (fun z => h ((iI_lt (by omega) (by omega)).mp z))]
      congr 1
      split <;> omega
  rw [e]
  exact k
set_option maxRecDepth 100000 in
set_option maxHeartbeats 4000000 in
theorem c_copyI {sh : List mm_H} {S : mm_S} {L : mm_L} {a n : Nat} {m : Int} (hA : sh[a]? = some (.inl (0, n, fun _ => none))) (hm : (n : Int) < m ∧ m ≤ 1000000) : am_E eJ7_copyOf_59c91 [.ref a, .int (iI m)] (mm sh S L) (fun r M' => ∃ x, r = some (.ref x) ∧ x = sh.length ∧ M' = (mm (sh ++ [.inl (0, m.toNat, fun _ => none)]) (cpyS (zrS S sh.length) a sh.length n) (zrL L sh.length))) := by
  have hal : a < sh.length := (List.getElem?_eq_some_iff.mp hA).1
  refine am_enter rfl rfl (Nat.le_of_ble_eq_true rfl) ?_
  refine am_iload_n rfl dJ7_copyOf_59c91_0 ?_
  refine am_aload_n rfl dJ7_copyOf_59c91_1 ?_
  refine mm_len0 dJ7_copyOf_59c91_2 hA ?_
  refine mm_jne (tgt := 14) dJ7_copyOf_59c91_3 (by decide) (by omega) (by omega) (fun h3 => ?_) (fun h3 => ?_)
  · refine am_iload_n rfl dJ7_copyOf_59c91_14 ?_
    refine mm_newI dJ7_copyOf_59c91_15 (by omega) ?_
    refine am_ast2 dJ7_copyOf_59c91_17 (Nat.le_of_ble_eq_true rfl) (am_c1i _) ?_
    refine am_aload_n rfl dJ7_copyOf_59c91_18 ?_
    refine mm_iconst dJ7_copyOf_59c91_19 ?_
    refine am_aload_n rfl dJ7_copyOf_59c91_20 ?_
    refine mm_iconst dJ7_copyOf_59c91_21 ?_
    refine am_aload_n rfl dJ7_copyOf_59c91_22 ?_
    have hA2 : (sh ++ [Sum.inl (0, m.toNat, fun _ => none)] : List mm_H)[a]? = some (.inl (0, n, fun _ => none)) := by rw [List.getElem?_append_left hal]; exact hA
    refine mm_len0 dJ7_copyOf_59c91_23 hA2 ?_
    refine am_iload_n rfl dJ7_copyOf_59c91_24 ?_
    refine mm_min dJ7_copyOf_59c91_25 mk_J7_304 (by omega) (by omega) (Nat.le_of_ble_eq_true rfl) (Nat.le_of_ble_eq_true rfl) ?_
    rw [minI, if_pos (by omega)]
    refine mm_copy0 dJ7_copyOf_59c91_28 mk_J7_150 hA2 (n1 := m.toNat) (g1 := fun _ => none) (by rw [List.getElem?_append_right (Nat.le_refl _), Nat.sub_self]; rfl) (by omega) (Nat.le_of_ble_eq_true rfl) (Nat.le_of_ble_eq_true rfl) ?_
    refine am_aload_n rfl dJ7_copyOf_59c91_31 ?_
    refine am_areturn dJ7_copyOf_59c91_32 rfl ?_
    exact ⟨_, rfl, rfl, by rw [Int.toNat_natCast]⟩
  · exfalso; omega
set_option maxRecDepth 100000 in
set_option maxHeartbeats 4000000 in
theorem c_copyL {sh : List mm_H} {S : mm_S} {L : mm_L} {a n : Nat} {m : Int} (hA : sh[a]? = some (.inl (1, n, fun _ => none))) (hm : (n : Int) < m ∧ m ≤ 1000000) : am_E eJ7_copyOf_c38d5 [.ref a, .int (iI m)] (mm sh S L) (fun r M' => ∃ x, r = some (.ref x) ∧ x = sh.length ∧ M' = (mm (sh ++ [.inl (1, m.toNat, fun _ => none)]) (zrS S sh.length) (cpyL (zrL L sh.length) a sh.length n))) := by
  have hal : a < sh.length := (List.getElem?_eq_some_iff.mp hA).1
  refine am_enter rfl rfl (Nat.le_of_ble_eq_true rfl) ?_
  refine am_iload_n rfl dJ7_copyOf_c38d5_0 ?_
  refine am_aload_n rfl dJ7_copyOf_c38d5_1 ?_
  refine mm_len1 dJ7_copyOf_c38d5_2 hA ?_
  refine mm_jne (tgt := 14) dJ7_copyOf_c38d5_3 (by decide) (by omega) (by omega) (fun h3 => ?_) (fun h3 => ?_)
  · refine am_iload_n rfl dJ7_copyOf_c38d5_14 ?_
    refine mm_newL dJ7_copyOf_c38d5_15 (by omega) ?_
    refine am_ast2 dJ7_copyOf_c38d5_17 (Nat.le_of_ble_eq_true rfl) (am_c1i _) ?_
    refine am_aload_n rfl dJ7_copyOf_c38d5_18 ?_
    refine mm_iconst dJ7_copyOf_c38d5_19 ?_
    refine am_aload_n rfl dJ7_copyOf_c38d5_20 ?_
    refine mm_iconst dJ7_copyOf_c38d5_21 ?_
    refine am_aload_n rfl dJ7_copyOf_c38d5_22 ?_
    have hA2 : (sh ++ [Sum.inl (1, m.toNat, fun _ => none)] : List mm_H)[a]? = some (.inl (1, n, fun _ => none)) := by rw [List.getElem?_append_left hal]; exact hA
    refine mm_len1 dJ7_copyOf_c38d5_23 hA2 ?_
    refine am_iload_n rfl dJ7_copyOf_c38d5_24 ?_
    refine mm_min dJ7_copyOf_c38d5_25 mk_J7_304 (by omega) (by omega) (Nat.le_of_ble_eq_true rfl) (Nat.le_of_ble_eq_true rfl) ?_
    rw [minI, if_pos (by omega)]
    refine mm_copyl0 dJ7_copyOf_c38d5_28 mk_J7_150 hA2 (n1 := m.toNat) (g1 := fun _ => none) (by rw [List.getElem?_append_right (Nat.le_refl _), Nat.sub_self]; rfl) (by omega) (Nat.le_of_ble_eq_true rfl) (Nat.le_of_ble_eq_true rfl) ?_
    refine am_aload_n rfl dJ7_copyOf_c38d5_31 ?_
    refine am_areturn dJ7_copyOf_c38d5_32 rfl ?_
    exact ⟨_, rfl, rfl, by rw [Int.toNat_natCast]⟩
  · exfalso; omega
