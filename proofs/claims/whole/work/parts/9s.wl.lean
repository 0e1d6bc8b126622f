/-! ===== the work that is left ===== -/
/-- what an item leads to, but for calls -/
def foN (X : XT) (F : FT) (W : WT) (S : mm_S) (κ : kyT) (pl : Nat) (R : rgT) : Prop := (pl = mN S κ.2.1 → enK F W S κ R 0) ∧ (pl < mN S κ.2.1 → (wrR S κ pl R ≠ 0 → W κ.2.1 pl (wrR S κ pl R)) ∧ (wrR S κ pl R = 0 → ¬ (mSo S κ.2.1 pl = 10 ∨ mSo S κ.2.1 pl = 11) → otK X F W S κ (nxR S κ pl R True) ∧ (asR S κ pl R → otK X F W S κ (nxR S κ pl R False))))
/-- a call that is right -/
def rcC (S : mm_S) (κ : kyT) (pl : Nat) (R : rgT) : Prop := pl < mN S κ.2.1 ∧ (mSo S κ.2.1 pl = 10 ∨ mSo S κ.2.1 pl = 11) ∧ wrR S κ pl R = 0
theorem foN_mono {X X' : XT} {F F' : FT} {W W' : WT} {S : mm_S} {κ : kyT} {pl : Nat} {R : rgT} (hX : ∀ κ pl p, X κ pl p → X' κ pl p) (hF : ∀ κ b, F κ b → F' κ b) (hW : ∀ r pl w, W r pl w → W' r pl w) (h : foN X F W S κ pl R) : foN X' F' W' S κ pl R := by
  obtain ⟨h1, h2⟩ := h
  refine ⟨fun e => ⟨fun q => hW _ _ _ ((h1 e).1 q), fun q => hF _ _ ((h1 e).2 q)⟩, fun e => ⟨fun q => hW _ _ _ ((h2 e).1 q), fun q z => ⟨?_, fun y => ?_⟩⟩⟩
  · exact otK_mono hX hF (fun r pl => hW r pl 5) ((h2 e).2 q z).1
  · exact otK_mono hX hF (fun r pl => hW r pl 5) (((h2 e).2 q z).2 y)
theorem foN_bk {S S' : mm_S} (he : bkE S S') {X : XT} {F : FT} {W : WT} (κ : kyT) (pl : Nat) (R : rgT) : foN X F W S' κ pl R = foN X F W S κ pl R := by
  unfold foN
  rw [bk_N he, bk_wr he, bk_as he, bk_So he]
  simp only [bk_en he, bk_otK he, bk_nx he]
theorem rc_bk {S S' : mm_S} (he : bkE S S') (κ : kyT) (pl : Nat) (R : rgT) : rcC S' κ pl R = rcC S κ pl R := by
  unfold rcC
  rw [bk_N he, bk_wr he, bk_So he]
theorem foN_rc {S : mm_S} {X : XT} {F : FT} {W : WT} {κ : kyT} {pl : Nat} {R : rgT} (h : rcC S κ pl R) : foN X F W S κ pl R := ⟨fun e => by have := h.1; omega, fun _ => ⟨fun q => absurd h.2.2 q, fun _ z => absurd h.2.1 z⟩⟩
/-- a chain of callers -/
def lkC (S : mm_S) (p2 : Nat) : Int → List Nat → Prop
  | h, [] => h = -1
  | h, i :: t => h = (i : Int) ∧ S p2 i < (i : Int) ∧ lkC S p2 (S p2 i) t
theorem lk_fun {S : mm_S} {p2 : Nat} : ∀ (l l' : List Nat) (h : Int), lkC S p2 h l → lkC S p2 h l' → l = l'
  | [], [], _, _, _ => rfl
  | [], i :: t, h, a, b => by
    have a : h = -1 := a
    have b : h = (i : Int) := b.1
    omega
  | i :: t, [], h, a, b => by
    have b : h = -1 := b
    have a : h = (i : Int) := a.1
    omega
  | i :: t, j :: u, h, a, b => by
    have e1 : h = (i : Int) := a.1
    have e2 : h = (j : Int) := b.1
    have e : i = j := by omega
    subst e
    rw [lk_fun t u _ a.2.2 b.2.2]
theorem lk_len {S : mm_S} {p2 : Nat} : ∀ (l : List Nat) (h : Int), lkC S p2 h l → (l.length : Int) ≤ h + 1
  | [], h, a => by
    have a : h = -1 := a
    simp; omega
  | i :: t, h, a => by
    have e1 : h = (i : Int) := a.1
    have e2 := a.2.1
    have := lk_len t _ a.2.2
    rw [List.length_cons]
    omega
theorem lk_of {S S' : mm_S} {p2 q2 : Nat} : ∀ (l : List Nat) (h : Int), (∀ i ∈ l, S' q2 i = S p2 i) → lkC S p2 h l → lkC S' q2 h l
  | [], h, _, a => a
  | i :: t, h, e, a => by
    have ei := e i (List.mem_cons_self ..)
    refine ⟨a.1, by rw [ei]; exact a.2.1, ?_⟩
    rw [ei]
    exact lk_of t _ (fun j hj => e j (List.mem_cons_of_mem _ hj)) a.2.2
section
variable {S S' : mm_S} {L L' : mm_L} {p1 p2 p3 n q1 q2 q3 m : Nat}
theorem en_fun (hI : imC S L p1 p2 p3 n) {i c c' : Nat} {x x' : Int} {pl pl' : Nat} {p p' : Int} (h : enC S L p1 i c x pl p) (h' : enC S L p1 i c' x' pl' p') : c = c' ∧ x = x' ∧ pl = pl' ∧ p = p' := by
  obtain ⟨a1, a2, a3, a4⟩ := h
  obtain ⟨b1, b2, b3, b4⟩ := h'
  have hc : c = c' := by omega
  subst hc
  have hx : x = x' := by omega
  subst hx
  have u := (hI.2.2.1.2 c a1).1
  have k := lnk_fun (so_R u.2.1) (show (S (98 + c) 0).toNat < 6 by omega) (show 0 ≤ S (98 + c) 2 ∧ S (98 + c) 2 ≤ 5 by omega) (show 0 ≤ S (98 + c) 3 ∧ S (98 + c) 3 ≤ 6 by omega) a4 b4
  exact ⟨rfl, rfl, by omega, k.2⟩
/-- entry i calls CASE d; where it isn't E, each way in which d ends has led on, or is still to be told -/
def caC (S : mm_S) (L : mm_L) (p1 E K d i : Nat) : Prop := ∃ (c : Nat) (x : Int) (pl : Nat) (p : Int), enC S L p1 i c x pl p ∧ rcC S (keyC S c) pl (unM p) ∧ clK S (keyC S c) pl (unM p) = keyC S d ∧ (i ≠ E → ∀ b : Nat, bt (S (98 + d) 4) b → (∃ k : Nat, K ≤ k ∧ (k : Int) < S 85 8 ∧ S 93 k = 16 * (d : Int) + b) ∨ otK (XC S L p1) (FC S) (WC S) S (keyC S c) (cbR S (keyC S c) pl (unM p) (8 ≤ b) ((b % 8 : Nat) : Int)))
def wlC (S : mm_S) (L : mm_L) (p1 p2 V E K : Nat) : Prop := (∀ d : Nat, (d : Int) < S 85 1 → ∃ l, lkC S p2 (S (98 + d) 6) l ∧ ∀ i ∈ l, i < V ∧ caC S L p1 E K d i) ∧ (∀ i : Nat, i < V → ∃ (c : Nat) (x : Int) (pl : Nat) (p : Int), enC S L p1 i c x pl p ∧ foN (XC S L p1) (FC S) (WC S) S (keyC S c) pl (unM p) ∧ (rcC S (keyC S c) pl (unM p) → ∃ d : Nat, (d : Int) < S 85 1 ∧ clK S (keyC S c) pl (unM p) = keyC S d ∧ ∃ l, lkC S p2 (S (98 + d) 6) l ∧ i ∈ l)) ∧ (V : Int) ≤ S 86 0 ∧ (K : Int) ≤ S 85 8
/-- a new way to end is told later -/
theorem nw_new (hI : imC S L p1 p2 p3 n) (hI' : imC S' L' q1 q2 q3 m) (hg : grC S L p1 p2 S' L' q1 q2) {K d b : Nat} (hK : (K : Int) ≤ S 85 8) (hd : (d : Int) < S' 85 1) (h1 : bt (S' (98 + d) 4) b) (h0 : ¬ bt (S (98 + d) 4) b) : ∃ k : Nat, K ≤ k ∧ (k : Int) < S' 85 8 ∧ S' 93 k = 16 * (d : Int) + b := by
  have hb := ((hI'.2.2.1.2 d hd).2.2.2.2.2.2 b h1).2
  obtain ⟨k, y1, y2⟩ := hI'.2.2.2.2.2.1.2.2.2 d b hd h1
  refine ⟨k, ?_, y1, y2⟩
  rcases Nat.lt_or_ge k K with z | z
  · exfalso
    have e := hg.2.2.2.2.1.2 k (by omega)
    have u := (hI.2.2.2.2.2.1.2.1 k (by omega)).2.2
    rw [e] at y2
    have e1 : (S 93 k / 16).toNat = d := by omega
    have e2 : (S 93 k % 16).toNat = b := by omega
    rw [e1, e2] at u
    exact h0 u
  · exact z
theorem ca_gr (hI : imC S L p1 p2 p3 n) (hI' : imC S' L' q1 q2 q3 m) (hg : grC S L p1 p2 S' L' q1 q2) {E K d i : Nat} (hK : (K : Int) ≤ S 85 8) (hd : (d : Int) < S 85 1) (hi : (i : Int) < S 86 0) (h : caC S L p1 E K d i) : caC S' L' q1 E K d i := by
  obtain ⟨c, x, pl, p, h1, h2, h3, h4⟩ := h
  have hbe := gr_E hg
  have hk1 := gr_key hg h1.1
  have hkd := gr_key hg hd
  refine ⟨c, x, pl, p, gr_en hg hi h1, by rw [hk1, rc_bk hbe]; exact h2, by rw [hk1, hkd, bk_cl hbe]; exact h3, fun hne b hb => ?_⟩
  rcases Classical.em (bt (S (98 + d) 4) b) with z | z
  · rcases h4 hne b z with ⟨k, y1, y2, y3⟩ | y
    · exact Or.inl ⟨k, y1, by have := hg.2.2.2.2.1.1; omega, by rw [hg.2.2.2.2.1.2 k y2]; exact y3⟩
    · right
      rw [hk1, bk_otK hbe, bk_cd hbe]
      exact otK_mono (gr_X hg) (gr_F hg) (fun r pl => gr_W hg r pl 5) y
  · exact Or.inl (nw_new hI hI' hg hK (by have := hg.2.1.1; omega) hb z)
theorem wl_gr (hI : imC S L p1 p2 p3 n) (hI' : imC S' L' q1 q2 q3 m) (hg : grC S L p1 p2 S' L' q1 q2) {V E K : Nat} (h : wlC S L p1 p2 V E K) : wlC S' L' q1 q2 V E K := by
  obtain ⟨h1, h2, h3, h4⟩ := h
  have hbe := gr_E hg
  have ech : ∀ l : List Nat, (∀ i ∈ l, i < V) → ∀ i ∈ l, S' q2 i = S p2 i := fun l hl i hi => (hg.2.2.1.2 i (by have := hl i hi; omega)).2
  refine ⟨fun d hd => ?_, fun i hi => ?_, by have := hg.2.2.1.1; omega, by have := hg.2.2.2.2.1.1; omega⟩
  · rcases hg.2.2.2.2.2.2 d hd with z | z
    · obtain ⟨l, a1, a2⟩ := h1 d z
      refine ⟨l, ?_, fun i hi => ⟨(a2 i hi).1, ca_gr hI hI' hg h4 z (by have := (a2 i hi).1; omega) (a2 i hi).2⟩⟩
      rw [(hg.2.1.2 d z).2.1]
      exact lk_of l _ (ech l (fun i hi => (a2 i hi).1)) a1
    · exact ⟨[], z.2, fun i hi => absurd hi List.not_mem_nil⟩
  · obtain ⟨c, x, pl, p, a1, a2, a3⟩ := h2 i hi
    have hk1 := gr_key hg a1.1
    refine ⟨c, x, pl, p, gr_en hg (by omega) a1, by rw [hk1, foN_bk hbe]; exact foN_mono (gr_X hg) (gr_F hg) (gr_W hg) a2, fun hr => ?_⟩
    rw [hk1, rc_bk hbe] at hr
    obtain ⟨d, b1, b2, l, b3, b4⟩ := a3 hr
    refine ⟨d, by have := hg.2.1.1; omega, by rw [hk1, bk_cl hbe, gr_key hg b1]; exact b2, l, ?_, b4⟩
    rw [(hg.2.1.2 d b1).2.1]
    obtain ⟨l', c1, c2⟩ := h1 d b1
    rw [lk_fun l l' _ b3 c1]
    exact lk_of l' _ (ech l' (fun i hi => (c2 i hi).1)) c1
/-- an entry that is no right call is done -/
theorem wl_add {V K : Nat} (h : wlC S L p1 p2 V V K) (hV : (V : Int) < S 86 0) {c : Nat} {x : Int} {pl : Nat} {p : Int} (he : enC S L p1 V c x pl p) (hf : foN (XC S L p1) (FC S) (WC S) S (keyC S c) pl (unM p)) (hr : ¬ rcC S (keyC S c) pl (unM p)) : wlC S L p1 p2 (V + 1) (V + 1) K := by
  obtain ⟨h1, h2, h3, h4⟩ := h
  refine ⟨fun d hd => ?_, fun i hi => ?_, by omega, h4⟩
  · obtain ⟨l, a1, a2⟩ := h1 d hd
    refine ⟨l, a1, fun i hi => ⟨by have := (a2 i hi).1; omega, ?_⟩⟩
    obtain ⟨c, x, pl, p, b1, b2, b3, b4⟩ := (a2 i hi).2
    exact ⟨c, x, pl, p, b1, b2, b3, fun _ => b4 (by have := (a2 i hi).1; omega)⟩
  · rcases Nat.lt_or_ge i V with z | z
    · exact h2 i z
    · have : i = V := by omega
      subst this
      exact ⟨c, x, pl, p, he, hf, fun y => absurd y hr⟩
/-- a caller is noted -/
def ntC (S S' : mm_S) (p2 i a : Nat) : Prop := (∀ b, b ≠ p2 → b ≠ 98 + a → S' b = S b) ∧ (∀ j, j ≠ i → S' p2 j = S p2 j) ∧ S' p2 i = S (98 + a) 6 ∧ (∀ j, j ≠ 6 → S' (98 + a) j = S (98 + a) j) ∧ S' (98 + a) 6 = i
theorem nt_rd (hD : plD p1 p2 p3 n) {i a : Nat} (ha : a < 40) (h : ntC S S' p2 i a) : (∀ b, b < 87 ∨ (90 ≤ b ∧ b < 223) → b ≠ 98 + a → S' b = S b) ∧ bkE S S' ∧ cbF S S' := by
  obtain ⟨⟨d1, d2, d3⟩, d4, -⟩ := id hD
  have e : ∀ b, b < 87 ∨ (90 ≤ b ∧ b < 223) → b ≠ 98 + a → S' b = S b := fun b hb hb2 => h.1 b (by omega) hb2
  exact ⟨e, ⟨fun b _ _ => e b (by omega) (by omega), by rw [e 181 (by omega) (by omega)], by rw [e 181 (by omega) (by omega)]⟩, fun b hb => e b (by omega) (by omega)⟩
theorem wl_note (hD : plD p1 p2 p3 n) (hI : imC S L p1 p2 p3 n) {V K a : Nat} (h : wlC S L p1 p2 V V K) (hV : (V : Int) < S 86 0) (ha : (a : Int) < S 85 1) (hn : ntC S S' p2 V a) {c : Nat} {x : Int} {pl : Nat} {p : Int} (he : enC S L p1 V c x pl p) (hr : rcC S (keyC S c) pl (unM p)) (hk : clK S (keyC S c) pl (unM p) = keyC S a) : wlC S' L p1 p2 (V + 1) V K := by
  have h40 := hI.2.2.1.1
  have pc := po_call hD hI hV ha hn.1 hn.2.1 hn.2.2.1 hn.2.2.2.1 hn.2.2.2.2
  obtain ⟨e, hbe, -⟩ := nt_rd hD (by omega) hn
  obtain ⟨h1, h2, h3, h4⟩ := h
  have e85 := e 85 (by omega) (by omega)
  have e86 := e 86 (by omega) (by omega)
  have e93 := e 93 (by omega) (by omega)
  have kk : ∀ c : Nat, (c : Int) < S 85 1 → keyC S' c = keyC S c := fun c hc => pc.2.2.2.2 c (by omega)
  have ech : ∀ l : List Nat, (∀ i ∈ l, i < V) → ∀ i ∈ l, S' p2 i = S p2 i := fun l hl i hi => hn.2.1 i (by have := hl i hi; omega)
  have een : ∀ {i c : Nat} {x : Int} {pl : Nat} {p : Int}, enC S L p1 i c x pl p → enC S' L p1 i c x pl p := fun q => en_of (kk _ q.1) (by rw [e85]; exact Int.le_refl _) rfl q
  have e4 : ∀ d : Nat, (d : Int) < S 85 1 → S' (98 + d) 4 = S (98 + d) 4 := fun d hd => by
    by_cases z : d = a
    · rw [z]; exact hn.2.2.2.1 4 (by omega)
    · rw [e (98 + d) (by omega) (by omega)]
  have eca : ∀ {d i : Nat}, (d : Int) < S 85 1 → caC S L p1 V K d i → caC S' L p1 V K d i := fun {d i} hd ⟨c, x, pl, p, b1, b2, b3, b4⟩ => by
    refine ⟨c, x, pl, p, een b1, by rw [kk c b1.1, rc_bk hbe]; exact b2, by rw [kk c b1.1, kk d hd, bk_cl hbe]; exact b3, fun hne b hb => ?_⟩
    rw [e4 d hd] at hb
    rw [e85, e93, pc.2.1, pc.2.2.1, pc.2.2.2.1, kk c b1.1, bk_otK hbe, bk_cd hbe]
    exact b4 hne b hb
  have hnew : caC S' L p1 V K a V := ⟨c, x, pl, p, een he, by rw [kk c he.1, rc_bk hbe]; exact hr, by rw [kk c he.1, kk a ha, bk_cl hbe]; exact hk, fun z => absurd rfl z⟩
  obtain ⟨la, la1, la2⟩ := h1 a ha
  have hchA : lkC S' p2 (S' (98 + a) 6) (V :: la) := by
    refine ⟨hn.2.2.2.2, ?_, ?_⟩
    · rw [hn.2.2.1]
      cases la with
      | nil =>
        have : S (98 + a) 6 = -1 := la1
        omega
      | cons i t =>
        have q1 : S (98 + a) 6 = (i : Int) := la1.1
        have q2 := (la2 i (List.mem_cons_self ..)).1
        omega
    · rw [hn.2.2.1]
      exact lk_of la _ (ech la (fun i hi => (la2 i hi).1)) la1
  have hchO : ∀ d : Nat, (d : Int) < S 85 1 → d ≠ a → ∀ l, lkC S p2 (S (98 + d) 6) l → lkC S' p2 (S' (98 + d) 6) l := fun d hd z l hl => by
    obtain ⟨l', a1, a2⟩ := h1 d hd
    rw [lk_fun l l' _ hl a1]
    rw [e (98 + d) (by omega) (by omega)]
    exact lk_of l' _ (ech l' (fun i hi => (a2 i hi).1)) a1
  refine ⟨fun d hd => ?_, fun i hi => ?_, by rw [e86]; omega, by rw [e85]; exact h4⟩
  · rw [e85] at hd
    by_cases z : d = a
    · subst z
      refine ⟨V :: la, hchA, fun i hi => ?_⟩
      rcases List.mem_cons.mp hi with y | y
      · subst y; exact ⟨by omega, hnew⟩
      · exact ⟨by have := (la2 i y).1; omega, eca hd (la2 i y).2⟩
    · obtain ⟨l, a1, a2⟩ := h1 d hd
      exact ⟨l, hchO d hd z l a1, fun i hi => ⟨by have := (a2 i hi).1; omega, eca hd (a2 i hi).2⟩⟩
  · rcases Nat.lt_or_ge i V with z | z
    · obtain ⟨c, x, pl, p, b1, b2, b3⟩ := h2 i z
      refine ⟨c, x, pl, p, een b1, by rw [pc.2.1, pc.2.2.1, pc.2.2.2.1, kk c b1.1, foN_bk hbe]; exact b2, fun hr => ?_⟩
      rw [kk c b1.1, rc_bk hbe] at hr
      obtain ⟨d, c1, c2, l, c3, c4⟩ := b3 hr
      refine ⟨d, by rw [e85]; exact c1, by rw [kk c b1.1, kk d c1, bk_cl hbe]; exact c2, ?_⟩
      by_cases y : d = a
      · subst y
        rw [lk_fun l la _ c3 la1] at c4
        exact ⟨V :: la, hchA, List.mem_cons_of_mem _ c4⟩
      · exact ⟨l, hchO d c1 y l c3, c4⟩
    · have : i = V := by omega
      subst this
      refine ⟨c, x, pl, p, een he, ?_, fun _ => ⟨a, by rw [e85]; exact ha, by rw [kk c he.1, kk a ha, bk_cl hbe]; exact hk, i :: la, hchA, List.mem_cons_self ..⟩⟩
      rw [kk c he.1]
      exact foN_rc (by rw [rc_bk hbe]; exact hr)
/-- and has come back on all known ways -/
theorem wl_done (hI : imC S L p1 p2 p3 n) {V K a : Nat} (h : wlC S L p1 p2 (V + 1) V K) (ha : (a : Int) < S 85 1) {c : Nat} {x : Int} {pl : Nat} {p : Int} (he : enC S L p1 V c x pl p) (hk : clK S (keyC S c) pl (unM p) = keyC S a) (hb : ∀ b : Nat, bt (S (98 + a) 4) b → (∃ k : Nat, K ≤ k ∧ (k : Int) < S 85 8 ∧ S 93 k = 16 * (a : Int) + b) ∨ otK (XC S L p1) (FC S) (WC S) S (keyC S c) (cbR S (keyC S c) pl (unM p) (8 ≤ b) ((b % 8 : Nat) : Int))) : wlC S L p1 p2 (V + 1) (V + 1) K := by
  obtain ⟨h1, h2, h3, h4⟩ := h
  refine ⟨fun d hd => ?_, h2, h3, h4⟩
  obtain ⟨l, a1, a2⟩ := h1 d hd
  refine ⟨l, a1, fun i hi => ⟨(a2 i hi).1, ?_⟩⟩
  obtain ⟨c', x', pl', p', b1, b2, b3, b4⟩ := (a2 i hi).2
  refine ⟨c', x', pl', p', b1, b2, b3, fun _ => ?_⟩
  by_cases z : i = V
  · subst z
    obtain ⟨e1, e2, e3, e4⟩ := en_fun hI b1 he
    subst e1 e2 e3 e4
    have : d = a := key_inj hI hd ha (b3.symm.trans hk)
    subst this
    exact hb
  · exact b4 z
/-- one way to end has been told -/
theorem wl_tell (hI : imC S L p1 p2 p3 n) (hI' : imC S' L' q1 q2 q3 m) (hg : grC S L p1 p2 S' L' q1 q2) {V K d0 b0 : Nat} (h : wlC S L p1 p2 V V K) (hK : (K : Int) < S 85 8) (hd0 : (d0 : Int) < S 85 1) (hb0 : b0 < 16) (e : S 93 K = 16 * (d0 : Int) + b0) {l0 : List Nat} (hl0 : lkC S p2 (S (98 + d0) 6) l0) (hot : ∀ i ∈ l0, ∀ (c : Nat) (x : Int) (pl : Nat) (p : Int), enC S L p1 i c x pl p → otK (XC S' L' q1) (FC S') (WC S') S (keyC S c) (cbR S (keyC S c) pl (unM p) (8 ≤ b0) ((b0 % 8 : Nat) : Int))) : wlC S' L' q1 q2 V V (K + 1) := by
  have hbe := gr_E hg
  obtain ⟨h1, h2, h3, h4⟩ := wl_gr hI hI' hg h
  refine ⟨fun d hd => ?_, h2, h3, by have := hg.2.2.2.2.1.1; omega⟩
  obtain ⟨l, a1, a2⟩ := h1 d hd
  refine ⟨l, a1, fun i hi => ⟨(a2 i hi).1, ?_⟩⟩
  obtain ⟨c, x, pl, p, b1, b2, b3, b4⟩ := (a2 i hi).2
  refine ⟨c, x, pl, p, b1, b2, b3, fun hne b hb => ?_⟩
  rcases b4 hne b hb with ⟨k, y1, y2, y3⟩ | y
  · rcases Nat.lt_or_ge K k with z | z
    · exact Or.inl ⟨k, z, y2, y3⟩
    · have ek : k = K := by omega
      subst ek
      rw [hg.2.2.2.2.1.2 k hK, e] at y3
      have hb16 := ((hI'.2.2.1.2 d hd).2.2.2.2.2.2 b hb).2
      have ed : d = d0 := by omega
      have eb : b = b0 := by omega
      subst ed
      subst eb
      right
      obtain ⟨l', c1, c2⟩ := h.1 d hd0
      have el : l = l0 := by
        have q := lk_of (S := S) (S' := S') (p2 := p2) (q2 := q2) l' _ (fun i hi => (hg.2.2.1.2 i (by have := (c2 i hi).1; have := h.2.2.1; omega)).2) c1
        rw [lk_fun l0 l' _ hl0 c1]
        rw [(hg.2.1.2 d hd0).2.1] at a1
        exact lk_fun l l' _ a1 q
      have hiV : (i : Int) < S 86 0 := by have := (a2 i hi).1; have := h.2.2.1; omega
      rw [el] at hi
      obtain ⟨-, c', x', pl', p', w2, -⟩ := hI.2.1 i hiV
      have w3 := gr_en hg hiV w2
      obtain ⟨e1, e2, e3, e4⟩ := en_fun hI' b1 w3
      subst e1 e2 e3 e4
      have := hot i hi c x pl p w2
      rw [gr_key hg w2.1, bk_otK hbe, bk_cd hbe]
      exact this
  · exact Or.inr y
/-- nothing is left -/
theorem wl_end (hI : imC S L p1 p2 p3 n) (hn : inC S L p1) {V K : Nat} (h : wlC S L p1 p2 V V K) (hV : (V : Int) = S 86 0) (hK : (K : Int) = S 85 8) : ∀ κ pl p, XC S L p1 κ pl p → foK (XC S L p1) (FC S) (WC S) S κ pl (unM p) := by
  rintro κ pl p ⟨i, c, x, y1, rfl, y3⟩
  obtain ⟨h1, h2, h3, h4⟩ := h
  obtain ⟨c', x', pl', p', a1, a2, a3⟩ := h2 i (by omega)
  obtain ⟨e1, e2, e3, e4⟩ := en_fun hI y3 a1
  subst e1 e2 e3 e4
  refine ⟨a2.1, fun hp => ⟨(a2.2 hp).1, fun hw hx => ?_, (a2.2 hp).2⟩⟩
  obtain ⟨d, b1, b2, l, b3, b4⟩ := a3 ⟨hp, hx, hw⟩
  obtain ⟨l', c1, c2⟩ := h1 d b1
  rw [lk_fun l l' _ b3 c1] at b4
  obtain ⟨hiV, c', x', pl', p', f1, f2, f3, f4⟩ := c2 i b4
  obtain ⟨e1, e2, e3, e4⟩ := en_fun hI y3 f1
  subst e1 e2 e3 e4
  have f4 := f4 (by omega)
  have key : ∀ b : Nat, FC S (clK S (keyC S c) pl (unM p)) (b : Int) → otK (XC S L p1) (FC S) (WC S) S (keyC S c) (cbR S (keyC S c) pl (unM p) (8 ≤ b) ((b % 8 : Nat) : Int)) := fun b ⟨_, d', g1, g2, g3⟩ => by
    have : d' = d := key_inj hI g1 b1 (g2.trans b2)
    subst this
    rw [Int.toNat_natCast] at g3
    rcases f4 b g3 with ⟨k, y1, y2, -⟩ | y
    · exfalso; omega
    · exact y
  refine ⟨by rw [b2]; exact hn d b1, fun st hst => ⟨fun q => ?_, fun q => ?_⟩⟩
  · have z := key st q
    rw [show st % 8 = st by omega] at z
    unfold cbR at *
    rw [if_neg (by omega)] at z
    rw [if_neg (by trivial)]
    exact z
  · have z := key (8 + st) (by rw [show ((8 + st : Nat) : Int) = 8 + (st : Int) by omega]; exact q)
    rw [show (8 + st) % 8 = st by omega] at z
    unfold cbR at *
    rw [if_pos (by omega)] at z
    rw [if_pos trivial]
    exact z
end
