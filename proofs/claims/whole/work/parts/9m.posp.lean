/-! ===== a CASE too many ===== -/
section
variable {sh : List mm_H} {S : mm_S} {L : mm_L} {p1 p2 p3 n : Nat} {X : XT} {F : FT} {W : WT}
/-- each CASE's beginning is in the pool -/
def inC (S : mm_S) (L : mm_L) (p1 : Nat) : Prop := ∀ c : Nat, (c : Int) < S 85 1 → XC S L p1 (keyC S c) 0 (pkM (bgR (keyC S c)))
theorem in_gr {S' : mm_S} {L' : mm_L} {q1 q2 : Nat} (h : grC S L p1 p2 S' L' q1 q2) (hn : inC S L p1) : inC S' L' q1 := fun c hc => by
  rcases h.2.2.2.2.2.2 c hc with z | z
  · rw [gr_key h z]
    exact gr_X h _ _ _ (hn c z)
  · exact z.1
theorem key_cod (hI : imC S L p1 p2 p3 n) {a : Nat} (ha : (a : Int) < S 85 1) {r h k s : Int} (hr : 0 ≤ r ∧ r < 6) (hh : 0 ≤ h ∧ h ≤ 2) (e : keyC S a = (soC h, r.toNat, k, s)) : codC S a = ((h * 6 + r) * 6 + k) * 6 + s := by
  have u := (hI.2.2.1.2 a ha).1
  have e1 : soC (S (98 + a) 1) = soC h := congrArg Prod.fst e
  have e2 : (S (98 + a) 0).toNat = r.toNat := congrArg (fun z => z.2.1) e
  have e3 : S (98 + a) 2 = k := congrArg (fun z => z.2.2.1) e
  have e4 : S (98 + a) 3 = s := congrArg (fun z => z.2.2.2) e
  have e5 : S (98 + a) 1 = h := by rw [← hwC_so u.2.1, e1, hwC_so hh]
  have e6 : S (98 + a) 0 = r := by omega
  unfold codC
  rw [e3, e4, e5, e6]
theorem key_inj (hI : imC S L p1 p2 p3 n) {a b : Nat} (ha : (a : Int) < S 85 1) (hb : (b : Int) < S 85 1) (e : keyC S a = keyC S b) : a = b := by
  have u := (hI.2.2.1.2 b hb).1
  have h1 := key_cod hI ha u.1 u.2.1 e
  have h2 := hI.2.2.2.1.2 a ha
  have h3 := hI.2.2.2.1.2 b hb
  have h4 : codC S a = codC S b := h1
  rw [h4] at h2
  omega
theorem ov_ca (hI : imC S L p1 p2 p3 n) (hS : SubC S L p1 X F W) (hn : inC S L p1) (hC : S 85 1 = 40) {κ : kyT} (hX : X κ 0 (pkM (bgR κ))) (hf : ∀ c : Nat, c < 40 → keyC S c ≠ κ) : OvX X := by
  refine Or.inr ⟨fun i => if i < 40 then keyC S i else κ, fun i hi => ?_, fun i j hi hj e => ?_⟩
  · by_cases h : i < 40
    · simp only [h, if_true]
      exact hS.1 _ _ _ (hn i (by omega))
    · simp only [h, if_false]
      exact hX
  · by_cases h1 : i < 40 <;> by_cases h2 : j < 40
    · simp only [h1, h2, if_true] at e
      exact key_inj hI (by omega) (by omega) e
    · simp only [h1, h2, if_true, if_false] at e
      exact absurd e (hf i h1)
    · simp only [h1, h2, if_true, if_false] at e
      exact absurd e.symm (hf j h2)
    · omega
theorem po_sp (hpl : plS sh p1 p2 p3 n) (hD : plD p1 p2 p3 n) (hI : imC S L p1 p2 p3 n) (hS : SubC S L p1 X F W) (hO : OvX X) : poC sh S L p1 p2 n X F W sh (up2 S 85 0 1) L p1 p2 p3 n := by
  obtain ⟨⟨d1, d2, d3⟩, d4, -⟩ := id hD
  have e : ∀ b, b ≠ 85 → up2 S 85 0 1 b = S b := fun b hb => up2_row hb
  have e5 : ∀ j, j ≠ 0 → up2 S 85 0 1 85 j = S 85 j := fun j hj => up2_rc hj
  have e0 : up2 S 85 0 1 85 0 = 1 := up2_same _ _ _ _
  generalize up2 S 85 0 1 = S1 at *
  obtain ⟨⟨a1, a2, a3⟩, b1, ⟨c1, c2⟩, ⟨f1, f2⟩, E, ⟨g1, g2, g3, g4⟩, k1, ks⟩ := id hI
  have he : bkE S S1 := ⟨fun b _ _ => e b (by omega), by rw [e 181 (by omega)], by rw [e 181 (by omega)]⟩
  have u := XC_con (S := S) (S' := S1) (L := L) (L' := L) (p1 := p1) c1.2 (e5 1 (by omega)) (e 86 (by omega)) (fun c _ => e (98 + c) (by omega)) rfl
  have kk : ∀ a, keyC S1 a = keyC S a ∧ codC S1 a = codC S a := fun a => key_of (fun j _ => by rw [e (98 + a) (by omega)])
  have e86 := e 86 (by omega)
  have e1 := e5 1 (by omega)
  refine ⟨⟨shE_rf sh, hpl, hD, fun _ h => h⟩, ⟨⟨fun b hb => e b (by omega), fun _ _ => rfl⟩, ⟨by omega, fun c hc => by rw [e (98 + c) (by omega)]; exact ⟨fun _ _ => rfl, rfl, fun _ h => h⟩⟩, ⟨by rw [e86]; exact Int.le_refl _, fun i hi => ⟨rfl, by rw [e p2 (by omega)]⟩⟩, by rw [e 92 (by omega)]; exact fun _ _ h => h, ⟨by rw [e5 8 (by omega)]; exact Int.le_refl _, fun k _ => by rw [e 93 (by omega)]⟩, by omega, fun c hc => Or.inl (by omega)⟩, ⟨⟨by rw [e86]; exact a1, ?_, fun i j hi hj q => ?_⟩, fun i hi => ?_, ⟨by rw [e1]; exact c1, fun c x => ?_⟩, ⟨fun q hq => ?_, fun c x => ?_⟩, by rw [e 92 (by omega), e5 2 (by omega)]; exact E, ⟨by rw [e5 8 (by omega)]; exact g1, fun k x => ?_, fun k l x y q => ?_, fun c b x y => ?_⟩, Or.inr e0, ?_⟩, ⟨by rw [u.1]; exact hS.1, by rw [u.2]; exact hS.2.1, ?_⟩, fun _ => Or.inr hO⟩
  · unfold plT at *
    rw [e86, e p3 (by omega)]
    exact a2
  · rw [e86] at hi hj
    exact a3 i j hi hj q
  · rw [e86] at hi
    obtain ⟨u1, c, x, pl, p, u2, u3⟩ := b1 i hi
    rw [e86, e p2 (by omega)]
    exact ⟨u1, c, x, pl, p, en_of (kk c).1 (by omega) rfl u2, by rw [(kk c).1]; exact itV_of he u3⟩
  · rw [e1] at x
    have w := c2 c x
    unfold csC at *
    rw [e (98 + c) (by omega), e86, (kk c).1, bm_of he]
    exact ⟨w.1, w.2.1, w.2.2.1, by omega, w.2.2.2.2.1, kyV_of he w.2.2.2.2.2.1, w.2.2.2.2.2.2⟩
  · rw [e 91 (by omega), e1]
    have w := f1 q hq
    exact ⟨w.1, w.2.1, fun z => by rw [(kk _).2]; exact w.2.2 z⟩
  · rw [e1] at x
    rw [e 91 (by omega), (kk c).2]
    exact f2 c x
  · rw [e5 8 (by omega)] at x
    rw [e 93 (by omega), e1]
    have w := g2 k x
    exact ⟨w.1, w.2.1, by rw [e _ (by omega)]; exact w.2.2⟩
  · rw [e5 8 (by omega)] at x y
    rw [e 93 (by omega)] at q
    exact g3 k l x y q
  · rw [e1] at x
    rw [e (98 + c) (by omega)] at y
    rw [e5 8 (by omega), e 93 (by omega)]
    exact g4 c b x y
  · unfold scV at *
    rw [e 94 (by omega), e (94 + 1) (by omega), e (94 + 2) (by omega), e (94 + 3) (by omega)]
    exact ks
  · unfold WC
    rw [e 92 (by omega)]
    exact hS.2.2
end
