/-! ===== what holds between two calls, and each call of both ===== -/
def SHP (sh : List mm_H) : Prop := swS sh ∧ bkS sh ∧ ftS sh ∧ jsH sh ∧ rnH sh ∧ sh[180]? = some (.inl (0, 6, fun _ => none)) ∧ mdS sh
theorem SHP_E {sh sh1 : List mm_H} (h : SHP sh) (e : shE sh sh1) : SHP sh1 := by
  obtain ⟨h1, h2, h3, h4, h5, h6, h7⟩ := h
  have hl : 223 ≤ sh.length := h4.2.2.2.2.2.2.2
  have e' : ∀ a, a < 223 → a ≠ 86 → sh1[a]? = sh[a]? := fun a x y => e.2 a (by omega) y
  refine ⟨?_, bkS_of e hl h2, ?_, jsH_of e h4, ?_, ?_, mdS_of e h7⟩
  · unfold swS at *
    rw [e' 0 (by omega) (by omega)]
    exact h1
  · unfold ftS at *
    rw [e' 82 (by omega) (by omega), e' 83 (by omega) (by omega), e' 84 (by omega) (by omega)]
    exact h3
  · obtain ⟨a1, a2, a3⟩ := h5
    refine ⟨by rw [e' 138 (by omega) (by omega)]; exact a1, by rw [e' 139 (by omega) (by omega)]; exact a2, fun i hi => ?_⟩
    have := a3 i hi
    unfold scS at *
    rw [e' (140 + 4 * i) (by omega) (by omega), e' (140 + 4 * i + 1) (by omega) (by omega), e' (140 + 4 * i + 2) (by omega) (by omega), e' (140 + 4 * i + 3) (by omega) (by omega)]
    exact this
  · rw [e' 180 (by omega) (by omega)]
    exact h6
def JL (sh : List mm_H) (S : mm_S) (L : mm_L) : Prop := ∃ p1 p2 p3 n, plS sh p1 p2 p3 n ∧ plD p1 p2 p3 n ∧ (∃ z0, z0 ≤ 5000000 ∧ shB z0 sh n) ∧ jA S L p1 n
def INV (sh : List mm_H) (S : mm_S) (L : mm_L) : Prop := SHP sh ∧ BK S ∧ JL sh S L ∧ RN S
theorem INV_o {sh : List mm_H} {S S' : mm_S} {L : mm_L} (h : INV sh S L) (hb : BK S') (f : okF2 S S') : INV sh S' L := by
  obtain ⟨h1, h2, ⟨p1, p2, p3, n, a1, a2, a3, a4⟩, h4⟩ := h
  exact ⟨h1, hb, ⟨p1, p2, p3, n, a1, a2, a3, jA_o a4 f⟩, RN_o h4 f⟩
/-- a call of both that answers an int -/
def prI (Yc Ym : am_Y) (as : List Value) (sh : List mm_H) (S : mm_S) (L : mm_L) : Prop := am_E Yc (.ref 0 :: as) (mm sh S L) (fun r M1 => ∃ x : Int32, r = some (.int x) ∧ ∃ sh1 S1 L1, M1 = mm sh1 S1 L1 ∧ SHP sh1 ∧ am_E Ym (.ref 181 :: as) (mm sh1 S1 L1) (fun r2 M2 => r2 = some (.int x) ∧ ∃ sh2 S2 L2, M2 = mm sh2 S2 L2 ∧ INV sh2 S2 L2))
section
variable {sh : List mm_H} {S : mm_S} {L : mm_L}
theorem pq_bv (h : INV sh S L) : bkV S := (bk_V h.2.1).1
theorem pq_k6 (h : INV sh S L) : S 1 0 ≤ 6 := (pq_bv h).1.2
theorem q_kind (h : INV sh S L) {s e : Int} (hs : Rg s) (he : Rg e) : prI eX9_kind eX10_kind [.int (iI s), .int (iI e)] sh S L := by
  have p := pr_kind h.2.1 s e
  refine (c_kind h.1.1 h.1.2.1 (pq_bv h) hs he).mono (fun r M1 z => ⟨_, z.1, sh, (kindS S s e), L, z.2, h.1, ?_⟩)
  refine (m_kind h.1.2.2.2.2.2.2 (BKm_hi h.2.1 (kindS_hi S s e (pq_k6 h))).1 hs he).mono (fun r2 M2 y => ⟨by rw [y.1, p.1], sh, _, L, y.2, INV_o h p.2.1 p.2.2⟩)
theorem q_heir (h : INV sh S L) {k m : Int} (hk : Rg k) (hm : Rg m) : prI eX9_heir eX10_heir [.int (iI k), .int (iI m)] sh S L := by
  have p := pr_heir h.2.1 k m
  refine (c_heir h.1.1 h.1.2.1 (pq_bv h) hk hm).mono (fun r M1 z => ⟨_, z.1, sh, (heirS S k m), L, z.2, h.1, ?_⟩)
  refine (m_heir h.1.2.2.2.2.2.2 (BKm_hi h.2.1 (heirS_hi S k m (pq_k6 h))).1 hk hm).mono (fun r2 M2 y => ⟨by rw [y.1, p.1], sh, _, L, y.2, INV_o h p.2.1 p.2.2⟩)
theorem q_use (h : INV sh S L) {k s n a b : Int} (hk : Rg k) (hs : Rg s) (hn : Rg n) (ha : Rg a) (hb : Rg b) : prI eX9_use eX10_use [.int (iI k), .int (iI s), .int (iI n), .int (iI a), .int (iI b)] sh S L := by
  have p := pr_use h.2.1 k s n a b
  refine (c_use h.1.1 h.1.2.1 (pq_bv h) hk hs hn ha hb).mono (fun r M1 z => ⟨_, z.1, sh, (useS S k s n a b), L, z.2, h.1, ?_⟩)
  refine (m_use h.1.2.2.2.2.2.2 (BKm_hi h.2.1 (useS_hi S k s n a b (pq_k6 h))).1 hk hs hn ha hb).mono (fun r2 M2 y => ⟨by rw [y.1, p.1], sh, _, L, y.2, INV_o h p.2.1 p.2.2⟩)
theorem q_drop (h : INV sh S L) {k s n : Int} (hk : Rg k) (hs : Rg s) (hn : Rg n) : prI eX9_drop eX10_drop [.int (iI k), .int (iI s), .int (iI n)] sh S L := by
  have p := pr_drop h.2.1 k s n
  refine (c_drop h.1.1 h.1.2.1 (pq_bv h) hk hs hn).mono (fun r M1 z => ⟨_, z.1, sh, (dropS S k s n), L, z.2, h.1, ?_⟩)
  refine (m_drop h.1.2.2.2.2.2.2 (BKm_hi h.2.1 (dropS_hi S k s n (pq_k6 h))).1 hk hs hn).mono (fun r2 M2 y => ⟨by rw [y.1, p.1], sh, _, L, y.2, INV_o h p.2.1 p.2.2⟩)
theorem q_ends (h : INV sh S L) {k e : Int} (hk : Rg k) (he : Rg e) : prI eX9_ends eX10_ends [.int (iI k), .int (iI e)] sh S L := by
  have p := pr_ends h.2.1 k e
  refine (c_ends h.1.1 h.1.2.1 (pq_bv h) hk he).mono (fun r M1 z => ⟨_, z.1, sh, (endsS S k e), L, z.2, h.1, ?_⟩)
  refine (m_ends h.1.2.2.2.2.2.2 (BKm_hi h.2.1 (endsS_hi S k e (pq_k6 h))).1 hk he).mono (fun r2 M2 y => ⟨by rw [y.1, p.1], sh, _, L, y.2, INV_o h p.2.1 p.2.2⟩)
theorem q_leads (h : INV sh S L) {k s n : Int} (hk : Rg k) (hs : Rg s) (hn : Rg n) (y : Prop) [Decidable y] : prI eX9_leads eX10_leads [.int (iI k), .int (iI s), .int (iI n), .int (iI (b2 y))] sh S L := by
  refine (c_leads h.1.1 h.1.2.1 (pq_bv h) hk hs hn (y := y)).mono (fun r M1 z => ⟨_, z.1, sh, S, L, z.2, h.1, ?_⟩)
  exact (m_leads h.1.2.2.2.2.2.2 h.2.1.1.1 hk hs hn (y := y)).mono (fun r2 M2 y => ⟨by rw [y.1, pr_leads h.2.1], sh, _, L, y.2, h⟩)
theorem q_fits (h : INV sh S L) {k p : Int} (hk : Rg k) (hp : Rg p) : prI eX9_fits eX10_fits [.int (iI k), .int (iI p)] sh S L := by
  refine (c_fits h.1.1 h.1.2.1 (pq_bv h) h.1.2.2.1 (bk_V h.2.1).2 hk hp).mono (fun r M1 z => ?_)
  obtain ⟨v, S1, z1, z2, z3⟩ := z
  refine ⟨_, z1, sh, S1, L, z2, h.1, ?_⟩
  have hb := fits_hi h.2.1 z3
  refine (m_fits h.1.2.2.2.2.2.2 hb.1 hb.2.2.2.1 hk hp).mono (fun r2 M2 y => ?_)
  obtain ⟨w, S2, y1, y2, y3⟩ := y
  have q := pr_fits h.2.1 z3 y3
  exact ⟨by rw [y1, q.1], sh, S2, L, y2, INV_o h q.2.1 q.2.2⟩
theorem q_parts (h : INV sh S L) : prI eX9_parts eX10_parts [] sh S L := by
  refine (c_parts h.1.1).mono (fun r M1 z => ⟨_, z.1, sh, S, L, z.2, h.1, ?_⟩)
  exact (m_parts h.1.2.2.2.2.2.2).mono (fun r2 M2 y => ⟨by rw [y.1, h.2.1.2.2.2.2], sh, _, L, y.2, h⟩)
theorem q_routine (h : INV sh S L) : prI eX9_routine eX10_routine [] sh S L := by
  have p := pr_routine h.2.1
  refine (c_routine h.1.1 h.1.2.1 (pq_bv h)).mono (fun r M1 z => ⟨_, z.1, sh, _, L, z.2, h.1, ?_⟩)
  exact (m_routine h.1.2.2.2.2.2.2 (BKm_hi h.2.1 p.2.2.2).1).mono (fun r2 M2 y => ⟨by rw [y.1, p.1], sh, _, L, y.2, INV_o h p.2.1 p.2.2.1⟩)
theorem st_hi {S1 : mm_S} (h : BK S) {r x a b v : Int} (hc : cstQ S S1 r x a b v) : BKm S1 := by
  have hv := h.1.1
  refine BKm_hi h (fun b hb => ?_)
  rcases hc with ⟨-, -, e⟩ | ⟨-, -, -, e⟩ | ⟨-, -, -, -, e⟩ | ⟨ok, -, -, -, e, -, -⟩
  · rw [e]
  · rw [e]
  · rw [e]
  · have hr : r.toNat < 6 := by
      have z := (r_iff h r).mp ok.1
      have := hv.2.1
      have z1 := z.1
      have z2 := z.2
      omega
    rw [e.1 b (by omega), apS_row (by omega) (by omega) (by omega) (by omega)]
theorem q_statement (h : INV sh S L) {r x a b : Int} (hr : Rg r) (hx : Rg x) (ha : Rg a) (hb : Rg b) : prI eX9_statement eX10_statement [.int (iI r), .int (iI x), .int (iI a), .int (iI b)] sh S L := by
  refine (c_statement h.1.1 h.1.2.1 (pq_bv h) h.2.1.2.2.2.1.1 hr hx ha hb).mono (fun r M1 z => ?_)
  obtain ⟨v, S1, z1, z2, z3⟩ := z
  refine ⟨_, z1, sh, S1, L, z2, h.1, ?_⟩
  have hb2 := st_hi h.2.1 z3
  refine (m_statement h.1.2.2.2.2.2.2 hb2.1 hb2.2.1 hr hx ha hb).mono (fun r2 M2 y => ?_)
  obtain ⟨w, S2, y1, y2, y3⟩ := y
  have q := pr_st h.2.1 z3 y3
  exact ⟨by rw [y1, q.1], sh, S2, L, y2, INV_o h q.2.1 q.2.2⟩
theorem q_cut (h : INV sh S L) {r : Int} (hr : Rg r) : prI eX9_cut eX10_cut [.int (iI r)] sh S L := by
  refine (c_cut h.1.1 h.1.2.1 (pq_bv h) h.2.1.2.2.2.1.1 hr).mono (fun r M1 z => ?_)
  obtain ⟨v, S1, z1, z2, z3⟩ := z
  have p := pr_cut h.2.1 z3
  refine ⟨_, z1, sh, S1, L, z2, h.1, ?_⟩
  exact (m_cut h.1.2.2.2.2.2.2 p.2.2.2.1 hr).mono (fun r2 M2 y => ⟨by rw [y.1, p.1], sh, _, L, y.2, INV_o h p.2.1 p.2.2.1⟩)
theorem q_told (h : INV sh S L) {k i w : Int} (hk : Rg k) (hi : Rg i) (hw : Rg w) : prI eX9_told eX10_told [.int (iI k), .int (iI i), .int (iI w)] sh S L := by
  refine (c_told h.1.1 h.1.2.1 (pq_bv h) hk hi hw).mono (fun r M1 z => ⟨_, z.1, sh, S, L, z.2, h.1, ?_⟩)
  exact (m_told h.1.2.2.2.2.2.2 h.2.1.1.1 hk hi hw).mono (fun r2 M2 y => ⟨by rw [y.1, pr_told h.2.1], sh, _, L, y.2, h⟩)
theorem q_open (h : INV sh S L) {k : Int} (hk : Rg k) : prI eX9_open eX10_open [.int (iI k)] sh S L := by
  refine (c_open h.1.1 h.1.2.1 (pq_bv h) hk).mono (fun r M1 z => ⟨_, z.1, sh, S, L, z.2, h.1, ?_⟩)
  refine (m_open h.1.2.2.2.2.2.2 h.2.1.1.1 h.2.1.1.2.1 hk).mono (fun r2 M2 y => ?_)
  obtain ⟨S2, y1, y2, y3⟩ := y
  exact ⟨by rw [y1, pr_open h.2.1], sh, S2, L, y2, INV_o h (BK_wk h.2.1 y3) (okF2_wk y3)⟩
theorem q_judge (h : INV sh S L) : prI eX9_judge eX10_judge [] sh S L := by
  obtain ⟨h1, h2, ⟨p1, p2, p3, n, a1, a2, ⟨z0, a3, a4⟩, a5⟩, h4⟩ := h
  refine (c_judge h1.1 h1.2.1 (bk_V h2).1 h2.2.2.2.1.1 h1.2.2.2.1 a1 a2 a5.1.1 a5.2.1.2.2.2.2 (fun w => cbB_bk h2 ((whole_eq h2).1 w))).mono (fun r M1 z => ?_)
  obtain ⟨v, z1, sh1, S1, L1, q1, q2, q3, m, z2, z3⟩ := z
  have hE : shE sh sh1 := by
    rcases z3 with ⟨-, -, e, -⟩ | ⟨-, fd, -⟩
    · rw [e]; exact shE_rf _
    · exact fd.1.1
  have hr : ∀ b, 138 ≤ b → b < 223 → S1 b = S b := by
    rcases z3 with ⟨-, -, -, e, -⟩ | ⟨-, fd, -⟩
    · rw [e]; exact fun _ _ _ => rfl
    · exact fun b x y => fd.2.1.1 b (Or.inr ⟨x, y⟩)
  have hbm : BKm S1 := BKm_of h2.1 (fun b x y => hr b (by omega) (by omega)) (by rw [hr 181 (by omega) (by omega)]) (by rw [hr 181 (by omega) (by omega)])
  refine ⟨_, z1, sh1, S1, L1, z2, SHP_E h1 hE, ?_⟩
  refine (m_judge (SHP_E h1 hE).2.2.2.2.2.2 hbm.1 hbm.2.1 hbm.2.2.1 hbm.2.2.2.1 hbm.2.2.2.2 (by rw [hr 181 (by omega) (by omega)]; exact a5.1.2)).mono (fun r2 M2 y => ?_)
  obtain ⟨w, S2, L2, y1, y2, y3⟩ := y
  obtain ⟨k1, k2, k3, -, u1, u2, u3, k, k4, k5, k6, k7⟩ := pr_judge h2 a5 a1 a2 z3 y3
  exact ⟨by rw [y1, k1], sh1, S2, L2, y2, SHP_E h1 hE, k2, ⟨u1, u2, u3, k, k4, k5, ⟨z0, a3, k6 z0 a4⟩, k7⟩, RN_j h4 k3⟩
theorem q_wrong (h : INV sh S L) {i w : Int} (hi : Rg i) (hw : Rg w) : prI eX9_wrong eX10_wrong_ [.int (iI i), .int (iI w)] sh S L := by
  obtain ⟨h1, h2, ⟨p1, p2, p3, n, a1, a2, a3, a5⟩, h4⟩ := id h
  refine (c_wrong h1.1 h1.2.2.2.1 a5.2.2.2.1.2.1 a5.2.2.2.1.2.2 hi hw).mono (fun r M1 z => ⟨_, z.1, sh, S, L, z.2, h.1, ?_⟩)
  exact (m_wrong_ h1.2.2.2.2.2.2 a5.2.2.1.2.2.2.1 a5.2.2.1.2.2.2.2 hi hw).mono (fun r2 M2 y => ⟨by rw [y.1, pr_wrong a5], sh, _, L, y.2, h⟩)
theorem pl_n {p1 p2 p3 n : Nat} (h : plD p1 p2 p3 n) : (n : Int) < 1000000 := by
  obtain ⟨k, hk, e⟩ := h.2.2
  have := Nat.pow_le_pow_right (n := 2) (by omega) hk
  omega
theorem q_may (h : INV sh S L) {r i v : Int} (hr : Rg r) (hi : Rg i) (hv : Rg v) : prI eX9_may eX10_may [.int (iI r), .int (iI i), .int (iI v)] sh S L := by
  obtain ⟨h1, h2, ⟨p1, p2, p3, n, a1, a2, a3, a5⟩, h4⟩ := id h
  refine (c_may h1.1 h1.2.1 (bk_V h2).1 h1.2.2.2.1 a1 (pl_n a2) a5.2.1 hr hi hv).mono (fun r M1 z => ?_)
  obtain ⟨a, z1, S1, z2, z3, z4, z5⟩ := z
  have k1 := qa_keep h2 a5 z3 z4 (rgF_refl S1)
  refine ⟨_, z1, sh, S1, L, z2, h1, ?_⟩
  refine (m_may h1.2.2.2.2.2.2 k1.1.1.1 k1.2.1.2.2.1 hr hi hv).mono (fun r2 M2 y => ?_)
  obtain ⟨b, y1, S2, y2, y3, y4⟩ := y
  have k2 := qa_keep h2 a5 z3 z4 y3
  exact ⟨by rw [y1, pr_may h2 a5 z3 z4 z5 y4], sh, S2, L, y2, h1, k2.1, ⟨p1, p2, p3, n, a1, a2, a3, k2.2.1⟩, RN_j h4 k2.2.2⟩
theorem q_one (h : INV sh S L) {r i v w : Int} (hr : Rg r) (hi : Rg i) (hv : Rg v) (hw : Rg w) : prI eX9_one eX10_one [.int (iI r), .int (iI i), .int (iI v), .int (iI w)] sh S L := by
  obtain ⟨h1, h2, ⟨p1, p2, p3, n, a1, a2, a3, a5⟩, h4⟩ := id h
  refine (c_one h1.1 h1.2.1 (bk_V h2).1 h1.2.2.2.1 a1 (pl_n a2) a5.2.1 hr hi hv hw).mono (fun r M1 z => ?_)
  obtain ⟨a, z1, S1, z2, z3, z4, z5⟩ := z
  have k1 := qa_keep h2 a5 z3 z4 (rgF_refl S1)
  refine ⟨_, z1, sh, S1, L, z2, h1, ?_⟩
  refine (m_one h1.2.2.2.2.2.2 k1.1.1.1 k1.2.1.2.2.1 hr hi hv hw).mono (fun r2 M2 y => ?_)
  obtain ⟨b, y1, S2, y2, y3, y4⟩ := y
  have k2 := qa_keep h2 a5 z3 z4 y3
  exact ⟨by rw [y1, pr_one h2 a5 z3 z4 z5 y4], sh, S2, L, y2, h1, k2.1, ⟨p1, p2, p3, n, a1, a2, a3, k2.2.1⟩, RN_j h4 k2.2.2⟩
theorem q_paper (h : INV sh S L) {r k s : Int} (g : Prop) [Decidable g] (hr : Rg r) (hk : Rg k) (hs : Rg s) : prI eX9_paper eX10_paper [.int (iI r), .int (iI (b2 g)), .int (iI k), .int (iI s)] sh S L := by
  obtain ⟨h1, h2, ⟨p1, p2, p3, n, a1, a2, a3, a5⟩, h4⟩ := id h
  refine (c_paper h1.1 h1.2.1 (bk_V h2).1 h1.2.2.2.1 a5.2.2.2.1.1 (g := g) hr hk hs).mono (fun r M1 z => ⟨_, z.1, sh, S, L, z.2, h.1, ?_⟩)
  exact (m_paper h1.2.2.2.2.2.2 h2.1.1 a5.2.2.1 (g := g) hr hk hs (caM_R a5.2.2.1 _ _ _ _)).mono (fun r2 M2 y => ⟨by rw [y.1, pr_paper h2 a5], sh, _, L, y.2, h⟩)
theorem q_count (h : INV sh S L) {w : Int} (hw : Rg w) : prI eX9_count eX10_count [.int (iI w)] sh S L := by
  obtain ⟨h1, h2, ⟨p1, p2, p3, n, a1, a2, a3, a5⟩, h4⟩ := id h
  refine (c_count h1.1 h1.2.1 h1.2.2.2.1 a1 hw).mono (fun r M1 z => ⟨_, z.1, sh, S, L, z.2, h.1, ?_⟩)
  exact (m_count h1.2.2.2.2.2.2 h2.1.1 a5.2.2.1 hw).mono (fun r2 M2 y => ⟨by rw [y.1, pr_count h2 a5], sh, _, L, y.2, h⟩)
theorem pl_p {p1 p2 p3 n : Nat} (h : plD p1 p2 p3 n) : p1 < 90 ∨ 222 < p1 := h.1.1.2
theorem q_run (h : INV sh S L) {x : Int64} {n : Int} (hn : Rg n) : prI eX9_run eX10_run [.long x, .int (iI n)] sh S L := by
  obtain ⟨h1, h2, ⟨p1, p2, p3, n0, a1, a2, a3, a5⟩, h4⟩ := id h
  refine (c_run h1.1 h1.2.1 h1.2.2.2.2.1 h1.2.2.2.2.2.1 (bk_V h2).1 h2.2.2.2.1.1 (fun w => cbB_bk h2 ((whole_eq h2).1 w)) h4.2.2 hn).mono (fun r M1 z => ?_)
  obtain ⟨v, z1, S1, L1, z2, z3⟩ := z
  have hr : ∀ b, 181 ≤ b → S1 b = S b := by
    rcases z3 with ⟨-, -, e, -⟩ | ⟨-, -, -, e, -⟩ | ⟨-, -, e, -, -, q, -⟩
    · rw [e]; exact fun _ _ => rfl
    · rw [e]; exact fun _ _ => rfl
    · exact fun b x => q.1 b (by omega) (by omega)
  have hbm : BKm S1 := BKm_of h2.1 (fun b x y => hr b (by omega)) (by rw [hr 181 (by omega)]) (by rw [hr 181 (by omega)])
  refine ⟨_, z1, sh, S1, L1, z2, h1, ?_⟩
  refine (m_run h1.2.2.2.2.2.2 hbm.1 hbm.2.1 hbm.2.2.1 hbm.2.2.2.1 hbm.2.2.2.2 hn).mono (fun r2 M2 y => ?_)
  obtain ⟨w, y1, S2, L2, y2, y3⟩ := y
  have k := pr_run h2 a5 h4 (pl_p a2) z3 y3
  exact ⟨by rw [y1, k.1], sh, S2, L2, y2, h1, k.2.1, ⟨p1, p2, p3, n0, a1, a2, a3, k.2.2.1⟩, k.2.2.2⟩
theorem q_ended (h : INV sh S L) {w : Int} (hw : Rg w) : prI eX9_ended eX10_ended [.int (iI w)] sh S L := by
  have h4 := h.2.2.2
  refine (c_ended h.1.1 h.1.2.2.2.2.2.1 h4.1.1 hw).mono (fun r M1 z => ⟨_, z.1, sh, S, L, z.2, h.1, ?_⟩)
  exact (m_ended h.1.2.2.2.2.2.2 (by rw [← h4.1.2]; exact h4.1.1) hw).mono (fun r2 M2 y => ⟨by rw [y.1, pr_ended h4], sh, _, L, y.2, h⟩)
theorem q_breaks (h : INV sh S L) {n : Int} (hn : Rg n) : prI eX9_breaks eX10_breaks [.int (iI n)] sh S L := by
  obtain ⟨h1, h2, ⟨p1, p2, p3, n0, a1, a2, a3, a5⟩, h4⟩ := id h
  refine (c_breaks h1.1 h1.2.1 h1.2.2.2.2.1 (bk_V h2).1 h2.2.2.2.1.1 (fun w => cbB_bk h2 ((whole_eq h2).1 w)) h4.2.2 hn).mono (fun r M1 z => ?_)
  obtain ⟨v, z1, S1, L1, z2, z3⟩ := z
  have hr : ∀ b, 181 ≤ b → S1 b = S b := by
    rcases z3 with ⟨-, -, e, -⟩ | ⟨-, -, -, e, -⟩ | ⟨-, -, -, q, -⟩
    · rw [e]; exact fun _ _ => rfl
    · rw [e]; exact fun _ _ => rfl
    · exact fun b x => q b (by omega)
  have hbm : BKm S1 := BKm_of h2.1 (fun b x y => hr b (by omega)) (by rw [hr 181 (by omega)]) (by rw [hr 181 (by omega)])
  refine ⟨_, z1, sh, S1, L1, z2, h1, ?_⟩
  refine (m_breaks h1.2.2.2.2.2.2 hbm.1 hbm.2.1 hbm.2.2.1 hbm.2.2.2.1 hbm.2.2.2.2 hn).mono (fun r2 M2 y => ?_)
  obtain ⟨w, y1, S2, L2, y2, y3⟩ := y
  have k := pr_breaks h2 a5 h4 (pl_p a2) z3 y3
  exact ⟨by rw [y1, k.1], sh, S2, L2, y2, h1, k.2.1, ⟨p1, p2, p3, n0, a1, a2, a3, k.2.2.1⟩, k.2.2.2⟩
/-- a call of both that answers a long -/
def prL (Yc Ym : am_Y) (as : List Value) (sh : List mm_H) (S : mm_S) (L : mm_L) : Prop := am_E Yc (.ref 0 :: as) (mm sh S L) (fun r M1 => ∃ x : Int64, r = some (.long x) ∧ ∃ sh1 S1 L1, M1 = mm sh1 S1 L1 ∧ SHP sh1 ∧ am_E Ym (.ref 181 :: as) (mm sh1 S1 L1) (fun r2 M2 => r2 = some (.long x) ∧ ∃ sh2 S2 L2, M2 = mm sh2 S2 L2 ∧ INV sh2 S2 L2))
theorem q_digest (h : INV sh S L) : prL eX9_digest eX10_digest [] sh S L := by
  refine (c_digest h.1.1 h.1.2.1 (pq_bv h) h.2.1.2.2.2.1.1).mono (fun r M1 z => ⟨_, z.1, sh, S, L, z.2, h.1, ?_⟩)
  exact (m_digest h.1.2.2.2.2.2.2 h.2.1.1.1 h.2.1.1.2.2.1).mono (fun r2 M2 y => ⟨by rw [y.1, pr_digest h.2.1], sh, _, L, y.2, h⟩)
end
