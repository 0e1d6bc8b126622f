section
variable {Y : am_Y} {M : am_M} {pc nx : Nat} {ls : List (Option Value)} {st : List Value} {Q : Option Value → am_M → Prop}
/-! the JDK's own: arraycopy, max, min -/
theorem am_copyi {idx a0 a n0 n1 : Nat} {f g : Nat → Int32} {sp dp n : Int32} (d : am_at Y pc (.invokestatic idx) 3 nx) (w1 : Cond.methodLink Y.1.cls idx arraycopyName ∈ am_tbl) (w2 : Cond.native arraycopyName ∈ am_tbl) (w3 : Cond.static arraycopyName ∈ am_tbl) (w4 : Cond.initialized "java/lang/System" ∈ am_tbl)
    (hM0 : M[a0]? = some (.inl (0, n0, .inl f))) (hM1 : M[a]? = some (.inl (0, n1, .inl g))) (h1 : ¬ sp < 0) (h2 : ¬ dp < 0) (h3 : ¬ n < 0) (h4 : sp.toNatClampNeg + n.toNatClampNeg ≤ n0) (h5 : dp.toNatClampNeg + n.toNatClampNeg ≤ n1) (hf : 1 ≤ Y.2.2.2.2.1) (hlo : (st.map fun v => v.category).sum + (nativeFrameWords "java/lang/System" "arraycopy" 5 + 11) ≤ Y.2.2.2.2.2)
    (k : am_AW Y (M.set a (.inl (0, n1, .inl (va_cpy f g sp.toNatClampNeg dp.toNatClampNeg n.toNatClampNeg)))) nx ls st Q) : am_AW Y M pc ls (.int n :: .int dp :: .ref a :: .int sp :: .ref a0 :: st) Q := by
  obtain ⟨d, rfl⟩ := d
  refine am_goM (by simp) (am_z_set M a _ _ hM1 (by simp [am_cz])) (fun p l e R s m args below meth c b D cT M0 H locs kk nn Q' la hR1 hR2 A hl hP hS k => ?_) k
  have hts : ∀ w ∈ am_tbl, w.before args s = true := fun w h => A.2.2.2.2.2.2.2.1 w (List.mem_cons_of_mem _ h)
  refine va_copyi (a := b + a) (a0 := b + a0) (ty := .int) A.1 A.2.1 (A.2.2.1.trans hl.1.symm) A.2.2.2.2.2.2.1 (hts _ w1) (hts _ w2) (hts _ w3) (hts _ w4) A.2.2.2.2.2.2.2.2.1.1 hP (am_D b cT M) hS a0 a 0 0 (am_W_get hM0) (am_W_get hM1) rfl rfl rfl h1 h2 h3 h4 h5 (fun _ _ => rfl) (by rw [hR1]; exact hf) (by rw [hR2, am_cats]; exact hlo) d (fun H1 locs1 hP1 _ hS1 => k H1 locs1 ?_ hS1)
  have e : ((b + a, (Sum.inl (cT 0, n1, .inl (va_cpy f g sp.toNatClampNeg dp.toNatClampNeg n.toNatClampNeg)) : va_E)) : Nat × va_E) = (b + a, am_e b cT (.inl (0, n1, .inl (va_cpy f g sp.toNatClampNeg dp.toNatClampNeg n.toNatClampNeg)))) := rfl
  rw [e, am_W_set] at hP1
  exact hP1
theorem am_copyl {idx a0 a n0 n1 : Nat} {f g : Nat → Int64} {sp dp n : Int32} (d : am_at Y pc (.invokestatic idx) 3 nx) (w1 : Cond.methodLink Y.1.cls idx arraycopyName ∈ am_tbl) (w2 : Cond.native arraycopyName ∈ am_tbl) (w3 : Cond.static arraycopyName ∈ am_tbl) (w4 : Cond.initialized "java/lang/System" ∈ am_tbl)
    (hM0 : M[a0]? = some (.inl (1, n0, .inr (.inl f)))) (hM1 : M[a]? = some (.inl (1, n1, .inr (.inl g)))) (h1 : ¬ sp < 0) (h2 : ¬ dp < 0) (h3 : ¬ n < 0) (h4 : sp.toNatClampNeg + n.toNatClampNeg ≤ n0) (h5 : dp.toNatClampNeg + n.toNatClampNeg ≤ n1) (hf : 1 ≤ Y.2.2.2.2.1) (hlo : (st.map fun v => v.category).sum + (nativeFrameWords "java/lang/System" "arraycopy" 5 + 11) ≤ Y.2.2.2.2.2)
    (k : am_AW Y (M.set a (.inl (1, n1, .inr (.inl (va_cpy f g sp.toNatClampNeg dp.toNatClampNeg n.toNatClampNeg))))) nx ls st Q) : am_AW Y M pc ls (.int n :: .int dp :: .ref a :: .int sp :: .ref a0 :: st) Q := by
  obtain ⟨d, rfl⟩ := d
  refine am_goM (by simp) (am_z_set M a _ _ hM1 (by simp [am_cz])) (fun p l e R s m args below meth c b D cT M0 H locs kk nn Q' la hR1 hR2 A hl hP hS k => ?_) k
  have hts : ∀ w ∈ am_tbl, w.before args s = true := fun w h => A.2.2.2.2.2.2.2.1 w (List.mem_cons_of_mem _ h)
  refine va_copyl (a := b + a) (a0 := b + a0) (ty := .long) A.1 A.2.1 (A.2.2.1.trans hl.1.symm) A.2.2.2.2.2.2.1 (hts _ w1) (hts _ w2) (hts _ w3) (hts _ w4) A.2.2.2.2.2.2.2.2.1.1 hP (am_D b cT M) hS a0 a 1 1 (am_W_get hM0) (am_W_get hM1) rfl rfl rfl h1 h2 h3 h4 h5 (fun _ _ => rfl) (by rw [hR1]; exact hf) (by rw [hR2, am_cats]; exact hlo) d (fun H1 locs1 hP1 _ hS1 => k H1 locs1 ?_ hS1)
  have e : ((b + a, (Sum.inl (cT 1, n1, .inr (.inl (va_cpy f g sp.toNatClampNeg dp.toNatClampNeg n.toNatClampNeg))) : va_E)) : Nat × va_E) = (b + a, am_e b cT (.inl (1, n1, .inr (.inl (va_cpy f g sp.toNatClampNeg dp.toNatClampNeg n.toNatClampNeg))))) := rfl
  rw [e, am_W_set] at hP1
  exact hP1
/-! a method's entry -/
def am_ent : List Value → List (Option Value)
  | [] => []
  | v :: vs => if v.category = 2 then some v :: none :: am_ent vs else some v :: am_ent vs
theorem am_ent_len (b : Nat) : ∀ as : List Value, (lg_sl (as.map (am_v b))).length = (am_ent as).length
  | [] => rfl
  | v :: vs => by
    have := am_ent_len b vs
    simp only [lg_sl, List.map_cons, List.flatMap_cons, List.length_append, am_v_cat, am_ent] at this ⊢
    split <;> simp [this] <;> omega
theorem am_ent_args (b : Nat) : ∀ (as : List Value) (o j : Nat) (v : Value), (am_ent as)[j]? = some (some v) → (o + j, am_v b v) ∈ lv_args o (as.map (am_v b))
  | [], o, j, v, h => by simp [am_ent] at h
  | a :: as, o, j, v, h => by
    simp only [am_ent, List.map_cons, lv_args, am_v_cat] at h ⊢
    split at h
    · rename_i hc
      rw [if_pos hc]
      match j, h with
      | 0, h => simp at h; subst h; exact List.mem_cons_self
      | 1, h => simp at h
      | j + 2, h => exact List.mem_cons_of_mem _ (by have := am_ent_args b as (o + 2) j v (by simpa using h); rw [show o + (j + 2) = o + 2 + j by omega]; exact this)
    · rename_i hc
      rw [if_neg hc]
      match j, h with
      | 0, h => simp at h; subst h; exact List.mem_cons_self
      | j + 1, h => exact List.mem_cons_of_mem _ (by have := am_ent_args b as (o + 1) j v (by simpa using h); rw [show o + (j + 1) = o + 1 + j by omega]; exact this)
theorem am_enter {as : List Value} (hc : plainName Y.1.cls = true) (hls : am_ent as ++ List.replicate (Y.2.2.1 - (am_ent as).length) none = ls) (hlen : (am_ent as).length ≤ Y.2.2.1) (k : am_AW Y M 0 ls [] Q) : am_E Y as M Q := by
  obtain ⟨r, M', hq, h1, h2, hw⟩ := k
  refine ⟨r, M', hq, h1, h2, fun l b D cT => ?_⟩
  refine Met.ofW (cc := Y.2.1) (maxL := Y.2.2.1) (ret := Y.2.2.2.1) hc rfl ?_
  intro p e s m args below meth c s₁ B hml hv
  obtain ⟨rfl, hP, hz, hK⟩ := hv
  have hts := atoms_spec (ws := am_ws Y) B.pre
  have hl := lv_entry (as.map (am_v b)) (n := Y.2.2.1) (by rw [am_ent_len]; exact hlen)
  rw [lg_entry_eq]
  have hS : va_S (fun q => b ≤ q) s.heap s.heap [] := va_S.rf
  have := hw p l e s m (as.map (am_v b)).toArray below meth c b D cT M s.heap [] _ ⟨B.exec, B.bytes, hml, B.returns, B.notSynchronized, (name_of_methodNamed B.named B.method).1, findClass_of_methodNamed B.named, hts, hK, hz⟩ (Nat.le_refl _) (Nat.le_refl _) hP hS (am_lv hl ?_)
  · rw [Nat.sub_self, Nat.sub_self] at this
    exact this
  · rintro ⟨j, w⟩ hq
    obtain ⟨v, h5, rfl⟩ := am_al_mem.mp hq
    rw [← hls] at h5
    have h6 : (am_ent as)[j]? = some (some v) := by
      by_cases hj : j < (am_ent as).length
      · rw [List.getElem?_append_left hj] at h5
        exact h5
      · rw [List.getElem?_append_right (by omega)] at h5
        simp [List.getElem?_replicate] at h5
    have := am_ent_args b as 0 j v h6
    simpa using this
end
