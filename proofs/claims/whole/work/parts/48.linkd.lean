theorem lk3_no {S2 : mm_S} {s : Nat → Int} {a i : Nat} (h : lk2 S2 s a i) (hs : ¬ opn (s i)) : lkI (up2 S2 (a + 5) i (ctO s i)) s a (i + 1) := by
  obtain ⟨hb, h1, h2, h3⟩ := h
  have e : stk s (i + 1) = stk2 s i := by
    unfold stk2
    by_cases h7 : s i = 7
    · rw [if_pos h7, stk_end h7]
    · rw [if_neg h7, stk_no hs h7]
  unfold lkI
  rw [e]
  refine ⟨lkB_up hb (by omega), fun j hj => ?_⟩
  rw [up2_rd (by omega), up2_rd (by omega), up2_rd (by omega), up2_rd (by omega)]
  refine ⟨(h1 j hj).1, (h1 j hj).2.1, ?_, (h1 j hj).2.2, ?_⟩
  · by_cases hx : j = i
    · subst hx
      rw [h2]
      by_cases h7 : s j = 7
      · rw [if_pos h7]
      · rw [if_neg h7, lvO, if_neg (by omega)]
        split
        · rw [if_neg (by omega)]
        · rfl
    · exact (h3 j (by omega)).1
  · by_cases hx : j = i
    · subst hx; rw [up2_same]
    · rw [up2_rc hx]; exact (h3 j (by omega)).2
theorem lk3_op {S2 : mm_S} {s : Nat → Int} {a i : Nat} (h : lk2 S2 s a i) (hs : opn (s i)) (hS : S2 (a + 1) i = s i) : lkI (lbS (up2 S2 (a + 5) i (ctO s i)) a i) s a (i + 1) := by
  obtain ⟨hb, h1, h2, h3⟩ := h
  have e : stk2 s i = stk s i := if_neg (by omega)
  rw [e] at hb
  have hl1 : up2 S2 (a + 5) i (ctO s i) a 1 = ((stk s i).length : Int) := (lkB_up hb (by omega)).1
  have hl2 : up2 S2 (a + 5) i (ctO s i) (a + 1) i = s i := by rw [up2_rd (by omega)]; exact hS
  unfold lbS
  rw [hl1, hl2, Int.toNat_natCast]
  have key : ∀ S3 : mm_S, lkB S3 (stk s i) a → (∀ j, j < i + 1 → S3 (a + 8) j = midO s (i + 1) j ∧ S3 (a + 4) j = tgt s (i + 1) j ∧ S3 (a + 6) j = lvO s j ∧ S3 (a + 7) j = kpO s j ∧ S3 (a + 5) j = ctO s j) → lkI (up2 (up2 S3 a 1 (((stk s i).length : Int) + 1)) (a + 9) (stk s i).length (i : Int)) s a (i + 1) := by
    intro S3 hb3 hj3
    unfold lkI
    rw [stk_op hs]
    refine ⟨⟨?_, fun j p hp => ?_⟩, fun j hj => ?_⟩
    · rw [up2_rd (by omega), up2_same]; simp
    · rw [List.reverse_cons] at hp
      by_cases hjl : j < (stk s i).length
      · rw [List.getElem?_append_left (by simpa using hjl)] at hp
        rw [up2_rc (by omega), up2_rd (by omega)]
        exact hb3.2 j p hp
      · rw [List.getElem?_append_right (by simp; omega)] at hp
        have hz : j - (stk s i).reverse.length = 0 := by
          have := (List.getElem?_eq_some_iff.mp hp).1
          simp at this ⊢
          omega
        have hje : j = (stk s i).length := by simp at hz; omega
        rw [hz] at hp
        simp at hp
        subst hp
        rw [hje, up2_same]
    · rw [up2_rd (by omega), up2_rd (by omega), up2_rd (by omega), up2_rd (by omega), up2_rd (by omega), up2_rd (by omega), up2_rd (by omega), up2_rd (by omega), up2_rd (by omega), up2_rd (by omega)]
      exact hj3 j hj
  have cat : ∀ j, j < i + 1 → up2 S2 (a + 5) i (ctO s i) (a + 5) j = ctO s j := fun j hj => by
    by_cases hx : j = i
    · subst hx; rw [up2_same]
    · rw [up2_rc hx]; exact (h3 j (by omega)).2
  by_cases h14 : s i = 14
  · rw [if_pos h14]
    refine key _ (lkB_up (lkB_up hb (by omega)) (by omega)) (fun j hj => ?_)
    refine ⟨?_, ?_, ?_, ?_, ?_⟩
    · rw [up2_rd (by omega), up2_rd (by omega)]; exact (h1 j hj).1
    · rw [up2_rd (by omega), up2_rd (by omega)]; exact (h1 j hj).2.1
    · by_cases hx : j = i
      · subst hx; rw [up2_same, lvO, if_pos h14]
      · rw [up2_rc hx, up2_rd (by omega)]; exact (h3 j (by omega)).1
    · rw [up2_rd (by omega), up2_rd (by omega)]; exact (h1 j hj).2.2
    · rw [up2_rd (by omega)]; exact cat j hj
  · rw [if_neg h14]
    refine key _ (lkB_up hb (by omega)) (fun j hj => ?_)
    rw [up2_rd (by omega), up2_rd (by omega), up2_rd (by omega), up2_rd (by omega)]
    refine ⟨(h1 j hj).1, (h1 j hj).2.1, ?_, (h1 j hj).2.2, cat j hj⟩
    by_cases hx : j = i
    · subst hx
      rw [h2, if_neg (by omega), lvO, if_neg h14]
      split
      · rw [if_neg (by omega)]
      · rfl
    · exact (h3 j (by omega)).1
theorem lkF_lm {S S' : mm_S} {a i o : Nat} (h : lkF S S' a) : lkF S (lmS S' a i o) a := lkF_up (lkF_up h (by omega)) (by omega)
theorem lkF_le {S S' : mm_S} {a i o : Nat} (h : lkF S S' a) : lkF S (leS S' a i o) a := by
  unfold leS
  split
  · exact lkF_up (lkF_op h) (by omega)
  · split
    · split
      · exact lkF_up (lkF_up (lkF_op h) (by omega)) (by omega)
      · exact lkF_up (lkF_op h) (by omega)
    · exact lkF_up (lkF_op h) (by omega)
theorem lkF_lb {S S' : mm_S} {a i : Nat} (h : lkF S S' a) : lkF S (lbS S' a i) a := by
  unfold lbS
  split
  · exact lkF_up (lkF_op (lkF_up h (by omega))) (by omega)
  · exact lkF_up (lkF_op h) (by omega)
theorem stk2_mem {s : Nat → Int} {i o : Nat} (h : o ∈ stk2 s i) : o ∈ stk s i := by
  unfold stk2 at h
  split at h
  · exact List.mem_of_mem_tail h
  · exact h
theorem stk2_len {s : Nat → Int} {i : Nat} : (stk2 s i).length ≤ (stk s i).length := by
  unfold stk2
  split
  · simp
  · exact Nat.le_refl _
set_option maxRecDepth 100000 in
set_option maxHeartbeats 4000000 in
theorem l_link {sh : List mm_H} {S : mm_S} {L : mm_L} {a n : Nat} {s : Nat → Int} (hr : rtS sh a) (hn : S a 0 = n) (hn2 : n ≤ 24) (hs : ∀ j, j < n → S (a + 1) j = s j) (hw : wfP s n) : ∀ (q : Nat) (i : Nat) (S' : mm_S), n - i < q → (i ≤ n) → (lkF S S' a) → (lkI S' s a i) → am_AW eX6_link (mm sh S' L) 7 [some (.ref a), some (.int (iI (i : Int)))] [] (fun r M' => r = none ∧ ∃ S2, M' = mm sh S2 L ∧ lkF S S2 a ∧ lkI S2 s a n ∧ S2 (a + 7) n = 0) := by
  intro q
  induction q with
  | zero =>
    intro i S' hq
    exact absurd hq (Nat.not_lt_zero _)
  | succ q ih =>
    intro i S' hq hi hF hI
    obtain ⟨hr0, hr1, hr2, hr3, hr4, hr5, hr6, hr7, hr8, hr9⟩ := hr
    have hS0 : S' a 0 = (n : Int) := by rw [hF.2.2.2.2 0 (by omega)]; exact hn
    have hlen := stk_len (wfP_le hw hi)
    refine am_iload_n rfl dX6_link_7 ?_
    refine am_aload_n rfl dX6_link_8 ?_
    refine mm_getI dX6_link_9 fl_X6_9 hr0 rfl ?_
    rw [hS0]
    refine mm_jge (tgt := 124) dX6_link_12 (by decide) (by omega) (by omega) (fun h12 => ?_) (fun h12 => ?_)
    · have hin : i = n := by omega
      subst hin
      refine am_aload_n rfl dX6_link_124 ?_
      refine mm_getR dX6_link_125 fl_X6_37 hr0 rfl ?_
      refine am_aload_n rfl dX6_link_128 ?_
      refine mm_getI dX6_link_129 fl_X6_9 hr0 rfl ?_
      rw [hS0]
      refine mm_iconst dX6_link_132 ?_
      refine mm_ias dX6_link_133 hr7 (by omega) ?_
      rw [Int.toNat_natCast]
      refine am_return dX6_link_134 rfl ?_
      refine ⟨rfl, _, rfl, lkF_up hF (by omega), ⟨lkB_up hI.1 (by omega), fun j hj => ?_⟩, up2_same _ _ _ _⟩
      rw [up2_rc (by omega), up2_rc (by omega), up2_rc (by omega), up2_rc (by omega), up2_rc (by omega)]
      exact hI.2 j hj
    · have hwi := hw i (by omega)
      have hso : S' (a + 1) i = s i := by rw [hF.2.1]; exact hs i (by omega)
      have hrS : ∀ j, j < n → S' (a + 1) j = s j ∧ Rg (s j) := fun j hj => ⟨by rw [hF.2.1]; exact hs j hj, by have := (hw j hj).1; omega⟩
      refine am_aload_n rfl dX6_link_15 ?_
      refine mm_getR dX6_link_16 fl_X6_28 hr0 rfl ?_
      refine am_iload_n rfl dX6_link_19 ?_
      refine am_iload_n rfl dX6_link_20 ?_
      refine mm_iconst dX6_link_21 ?_
      refine mm_iadd dX6_link_22 ?_
      refine mm_ias dX6_link_23 hr4 (by omega) ?_
      rw [Int.toNat_natCast]
      refine am_aload_n rfl dX6_link_24 ?_
      refine mm_getR dX6_link_25 fl_X6_34 hr0 rfl ?_
      refine am_iload_n rfl dX6_link_28 ?_
      refine mm_iconst dX6_link_29 ?_
      refine mm_ias dX6_link_30 hr6 (by omega) ?_
      rw [Int.toNat_natCast]
      refine am_aload_n rfl dX6_link_31 ?_
      refine mm_getR dX6_link_32 fl_X6_40 hr0 rfl ?_
      refine am_iload_n rfl dX6_link_35 ?_
      refine mm_iconst dX6_link_36 ?_
      refine mm_ias dX6_link_37 hr8 (by omega) ?_
      rw [Int.toNat_natCast]
      refine am_aload_n rfl dX6_link_38 ?_
      refine mm_getR dX6_link_39 fl_X6_18 hr0 rfl ?_
      refine am_iload_n rfl dX6_link_42 ?_
      refine mm_ial dX6_link_43 hr1 (by omega) ?_
      try rw [Int.toNat_natCast]
      try simp (disch := omega) only [up2_rd, up2_rc, up2_same]
      rw [hso]
      refine mm_bipush dX6_link_44 (by decide) ?_
      refine mm_jeq (tgt := 60) dX6_link_46 (by decide) (by omega) (by omega) (fun h46 => ?_) (fun h46 => ?_)
      · obtain ⟨o, ho⟩ : ∃ o, (stk s i).head? = some o := by
          rcases (show s i = 6 ∨ s i = 15 by omega) with z | z
          · obtain ⟨o, h1, -⟩ := hwi.2.2.1 z; exact ⟨o, h1⟩
          · obtain ⟨o, h1, -⟩ := hwi.2.2.2.1 z; exact ⟨o, h1⟩
        obtain ⟨t1, t2, t3⟩ := hI.1.top ho
        have hb1 := hI.1.1
        refine am_aload_n rfl dX6_link_60 ?_
        refine am_iload_n rfl dX6_link_61 ?_
        refine am_cv (mm_V1 dX6_link_62 in_X6_linkMiddle mk_X6_56 im_X6_linkMiddle sl_X6_linkMiddle ⟨Nat.le_of_ble_eq_true rfl, Nat.le_of_ble_eq_true rfl⟩ rfl hr0 (Nat.le_of_ble_eq_true rfl)) (c_linkMiddle ⟨hr0, hr1, hr2, hr3, hr4, hr5, hr6, hr7, hr8, hr9⟩ (o := o) (by omega) (by simp (disch := omega) only [up2_rd, up2_rc, up2_same]; rw [hso]; omega) (by simp (disch := omega) only [up2_rd, up2_rc, up2_same]; rw [hb1]; omega) (by simp (disch := omega) only [up2_rd, up2_rc, up2_same]; exact t1) (by omega)) ?_
        refine am_gen (P := fun S1 => lkF S S1 a ∧ lk1 S1 s a i) ?_ (fun S1 hS1 => ?_)
        · first
            | exact ⟨lkF_lm (lkF_up (lkF_up (lkF_up hF (by omega)) (by omega)) (by omega)), lk1_mid hI (by omega) ho hso⟩
            | exact ⟨lkF_up (lkF_up (lkF_up hF (by omega)) (by omega)) (by omega), lk1_no hI (by omega)⟩
        obtain ⟨hF1, hl1⟩ := hS1
        have hso1 : S1 (a + 1) i = s i := by rw [hF1.2.1]; exact hs i (by omega)
        have hbl1 : blS S1 a (stk s i) s (midO s (i + 1)) := hl1.1.bl hlen hn2 (fun o ho => by have := (stk_mem ho).1; omega) (fun j hj => ⟨by rw [hF1.2.1]; exact hs j hj, (hrS j hj).2⟩) (fun o ho => ⟨(hl1.2.1 o (by have := (stk_mem ho).1; omega)).1, by have := midO_lt s (i + 1) o; omega⟩)
        refine am_aload_n rfl dX6_link_65 ?_
        refine mm_getR dX6_link_66 fl_X6_37 hr0 rfl ?_
        refine am_iload_n rfl dX6_link_69 ?_
        refine am_aload_n rfl dX6_link_70 ?_
        refine am_ci (mm_V0 dX6_link_71 in_X6_modesKnown mk_X6_60 im_X6_modesKnown sl_X6_modesKnown ⟨Nat.le_of_ble_eq_true rfl, Nat.le_of_ble_eq_true rfl⟩ rfl hr0 (Nat.le_of_ble_eq_true rfl)) (c_modesKnown ⟨hr0, hr1, hr2, hr3, hr4, hr5, hr6, hr7, hr8, hr9⟩ hbl1) ?_
        refine mm_ias dX6_link_74 hr7 (by omega) ?_
        rw [Int.toNat_natCast]
        refine am_aload_n rfl dX6_link_75 ?_
        refine mm_getR dX6_link_76 fl_X6_18 hr0 rfl ?_
        refine am_iload_n rfl dX6_link_79 ?_
        refine mm_ial dX6_link_80 hr1 (by omega) ?_
        try rw [Int.toNat_natCast]
        try simp (disch := omega) only [up2_rd, up2_rc, up2_same]
        rw [hso1]
        refine mm_bipush dX6_link_81 (by decide) ?_
        refine mm_jne (tgt := 91) dX6_link_83 (by decide) (by omega) (by omega) (fun h83 => ?_) (fun h83 => ?_)
        · refine am_gen (P := fun S2 => lkF S S2 a ∧ lk2 S2 s a i) ?_ (fun S2 hS2 => ?_)
          · first
              | exact ⟨lkF_le (lkF_up hF1 (by omega)), lk2_end hl1 (by omega) ho hso2⟩
              | exact ⟨lkF_up hF1 (by omega), lk2_no hl1 (by omega)⟩
          obtain ⟨hF2, hl2⟩ := hS2
          have hso3 : S2 (a + 1) i = s i := by rw [hF2.2.1]; exact hs i (by omega)
          have hbl2 : blS S2 a (stk2 s i) s (midO s (i + 1)) := hl2.1.bl (Nat.le_trans stk2_len hlen) hn2 (fun o ho => by have := (stk_mem (stk2_mem ho)).1; omega) (fun j hj => ⟨by rw [hF2.2.1]; exact hs j hj, (hrS j hj).2⟩) (fun o ho => ⟨(hl2.2.1 o (by have := (stk_mem (stk2_mem ho)).1; omega)).1, by have := midO_lt s (i + 1) o; omega⟩)
          have hb2 := hl2.1.1
          refine am_aload_n rfl dX6_link_91 ?_
          refine mm_getR dX6_link_92 fl_X6_31 hr0 rfl ?_
          refine am_iload_n rfl dX6_link_95 ?_
          refine am_aload_n rfl dX6_link_96 ?_
          refine am_ci (mm_V0 dX6_link_97 in_X6_innermostCatcher mk_X6_67 im_X6_innermostCatcher sl_X6_innermostCatcher ⟨Nat.le_of_ble_eq_true rfl, Nat.le_of_ble_eq_true rfl⟩ rfl hr0 (Nat.le_of_ble_eq_true rfl)) (c_catcher ⟨hr0, hr1, hr2, hr3, hr4, hr5, hr6, hr7, hr8, hr9⟩ hbl2) ?_
          refine mm_ias dX6_link_100 hr5 (by omega) ?_
          rw [Int.toNat_natCast]
          refine am_aload_n rfl dX6_link_101 ?_
          refine mm_getR dX6_link_102 fl_X6_18 hr0 rfl ?_
          refine am_iload_n rfl dX6_link_105 ?_
          refine mm_ial dX6_link_106 hr1 (by omega) ?_
          try rw [Int.toNat_natCast]
          try simp (disch := omega) only [up2_rd, up2_rc, up2_same]
          rw [hso3]
          refine am_ci (mm_SN1 dX6_link_107 in_X9_opensBlock mk_X6_46 st_X9_opensBlock ⟨Nat.le_of_ble_eq_true rfl, Nat.le_of_ble_eq_true rfl⟩ (Nat.le_of_ble_eq_true rfl)) (c_opensBlock (by omega)) ?_
          refine mm_beq (tgt := 118) dX6_link_110 (by decide) (fun h110 => ?_) (fun h110 => ?_)
          · refine mm_inc1 dX6_link_118 (Nat.le_of_ble_eq_true rfl) (am_c1r _) ?_
            refine am_goto (tgt := 7) dX6_link_121 (by decide) ?_
            first
              | exact ih (i + 1) _ (by omega) (by omega) (lkF_lb (lkF_up hF2 (by omega))) (lk3_op hl2 (by assumption) hso3)
              | exact ih (i + 1) _ (by omega) (by omega) (lkF_up hF2 (by omega)) (lk3_no hl2 (by assumption))
          · refine am_aload_n rfl dX6_link_113 ?_
            refine am_iload_n rfl dX6_link_114 ?_
            refine am_cv (mm_V1 dX6_link_115 in_X6_linkBlock mk_X6_70 im_X6_linkBlock sl_X6_linkBlock ⟨Nat.le_of_ble_eq_true rfl, Nat.le_of_ble_eq_true rfl⟩ rfl hr0 (Nat.le_of_ble_eq_true rfl)) (c_linkBlock ⟨hr0, hr1, hr2, hr3, hr4, hr5, hr6, hr7, hr8, hr9⟩ (by omega) (by simp (disch := omega) only [up2_rd, up2_rc, up2_same]; rw [hso3]; omega) (by simp (disch := omega) only [up2_rd, up2_rc, up2_same]; rw [hb2, show stk2 s i = stk s i from if_neg (by omega)]; have := hwi.2.1 (by assumption); omega)) ?_
            refine mm_inc1 dX6_link_118 (Nat.le_of_ble_eq_true rfl) (am_c1r _) ?_
            refine am_goto (tgt := 7) dX6_link_121 (by decide) ?_
            first
              | exact ih (i + 1) _ (by omega) (by omega) (lkF_lb (lkF_up hF2 (by omega))) (lk3_op hl2 (by assumption) hso3)
              | exact ih (i + 1) _ (by omega) (by omega) (lkF_up hF2 (by omega)) (lk3_no hl2 (by assumption))
        · obtain ⟨o, ho⟩ : ∃ o, (stk s i).head? = some o := by
            obtain ⟨o, h1, -⟩ := hwi.2.2.2.2 (by omega); exact ⟨o, h1⟩
          obtain ⟨t1, t2, t3⟩ := hl1.1.top ho
          have hb1 := hl1.1.1
          have hmo : S1 (a + 8) o = midO s (i + 1) o := (hl1.2.1 o (by omega)).1
          have hml := midO_lt s (i + 1) o
          have hso2 : S1 (a + 1) o = s o := by rw [hF1.2.1]; exact hs o (by omega)
          have hwo := (hw o (by omega)).1
          refine am_aload_n rfl dX6_link_86 ?_
          refine am_iload_n rfl dX6_link_87 ?_
          refine am_cv (mm_V1 dX6_link_88 in_X6_linkEnd mk_X6_64 im_X6_linkEnd sl_X6_linkEnd ⟨Nat.le_of_ble_eq_true rfl, Nat.le_of_ble_eq_true rfl⟩ rfl hr0 (Nat.le_of_ble_eq_true rfl)) (c_linkEnd ⟨hr0, hr1, hr2, hr3, hr4, hr5, hr6, hr7, hr8, hr9⟩ (o := o) (by omega) (by simp (disch := omega) only [up2_rd, up2_rc, up2_same]; rw [hb1]; omega) (by simp (disch := omega) only [up2_rd, up2_rc, up2_same]; exact t1) (by omega) (by simp (disch := omega) only [up2_rd, up2_rc, up2_same]; rw [hso2]; omega) (by simp (disch := omega) only [up2_rd, up2_rc, up2_same]; rw [hmo]; omega)) ?_
          refine am_gen (P := fun S2 => lkF S S2 a ∧ lk2 S2 s a i) ?_ (fun S2 hS2 => ?_)
          · first
              | exact ⟨lkF_le (lkF_up hF1 (by omega)), lk2_end hl1 (by omega) ho hso2⟩
              | exact ⟨lkF_up hF1 (by omega), lk2_no hl1 (by omega)⟩
          obtain ⟨hF2, hl2⟩ := hS2
          have hso3 : S2 (a + 1) i = s i := by rw [hF2.2.1]; exact hs i (by omega)
          have hbl2 : blS S2 a (stk2 s i) s (midO s (i + 1)) := hl2.1.bl (Nat.le_trans stk2_len hlen) hn2 (fun o ho => by have := (stk_mem (stk2_mem ho)).1; omega) (fun j hj => ⟨by rw [hF2.2.1]; exact hs j hj, (hrS j hj).2⟩) (fun o ho => ⟨(hl2.2.1 o (by have := (stk_mem (stk2_mem ho)).1; omega)).1, by have := midO_lt s (i + 1) o; omega⟩)
          have hb2 := hl2.1.1
          refine am_aload_n rfl dX6_link_91 ?_
          refine mm_getR dX6_link_92 fl_X6_31 hr0 rfl ?_
          refine am_iload_n rfl dX6_link_95 ?_
          refine am_aload_n rfl dX6_link_96 ?_
          refine am_ci (mm_V0 dX6_link_97 in_X6_innermostCatcher mk_X6_67 im_X6_innermostCatcher sl_X6_innermostCatcher ⟨Nat.le_of_ble_eq_true rfl, Nat.le_of_ble_eq_true rfl⟩ rfl hr0 (Nat.le_of_ble_eq_true rfl)) (c_catcher ⟨hr0, hr1, hr2, hr3, hr4, hr5, hr6, hr7, hr8, hr9⟩ hbl2) ?_
          refine mm_ias dX6_link_100 hr5 (by omega) ?_
          rw [Int.toNat_natCast]
          refine am_aload_n rfl dX6_link_101 ?_
          refine mm_getR dX6_link_102 fl_X6_18 hr0 rfl ?_
          refine am_iload_n rfl dX6_link_105 ?_
          refine mm_ial dX6_link_106 hr1 (by omega) ?_
          try rw [Int.toNat_natCast]
          try simp (disch := omega) only [up2_rd, up2_rc, up2_same]
          rw [hso3]
          refine am_ci (mm_SN1 dX6_link_107 in_X9_opensBlock mk_X6_46 st_X9_opensBlock ⟨Nat.le_of_ble_eq_true rfl, Nat.le_of_ble_eq_true rfl⟩ (Nat.le_of_ble_eq_true rfl)) (c_opensBlock (by omega)) ?_
          refine mm_beq (tgt := 118) dX6_link_110 (by decide) (fun h110 => ?_) (fun h110 => ?_)
          · refine mm_inc1 dX6_link_118 (Nat.le_of_ble_eq_true rfl) (am_c1r _) ?_
            refine am_goto (tgt := 7) dX6_link_121 (by decide) ?_
            first
              | exact ih (i + 1) _ (by omega) (by omega) (lkF_lb (lkF_up hF2 (by omega))) (lk3_op hl2 (by assumption) hso3)
              | exact ih (i + 1) _ (by omega) (by omega) (lkF_up hF2 (by omega)) (lk3_no hl2 (by assumption))
          · refine am_aload_n rfl dX6_link_113 ?_
            refine am_iload_n rfl dX6_link_114 ?_
            refine am_cv (mm_V1 dX6_link_115 in_X6_linkBlock mk_X6_70 im_X6_linkBlock sl_X6_linkBlock ⟨Nat.le_of_ble_eq_true rfl, Nat.le_of_ble_eq_true rfl⟩ rfl hr0 (Nat.le_of_ble_eq_true rfl)) (c_linkBlock ⟨hr0, hr1, hr2, hr3, hr4, hr5, hr6, hr7, hr8, hr9⟩ (by omega) (by simp (disch := omega) only [up2_rd, up2_rc, up2_same]; rw [hso3]; omega) (by simp (disch := omega) only [up2_rd, up2_rc, up2_same]; rw [hb2, show stk2 s i = stk s i from if_neg (by omega)]; have := hwi.2.1 (by assumption); omega)) ?_
            refine mm_inc1 dX6_link_118 (Nat.le_of_ble_eq_true rfl) (am_c1r _) ?_
            refine am_goto (tgt := 7) dX6_link_121 (by decide) ?_
            first
              | exact ih (i + 1) _ (by omega) (by omega) (lkF_lb (lkF_up hF2 (by omega))) (lk3_op hl2 (by assumption) hso3)
              | exact ih (i + 1) _ (by omega) (by omega) (lkF_up hF2 (by omega)) (lk3_no hl2 (by assumption))
      · refine am_aload_n rfl dX6_link_49 ?_
        refine mm_getR dX6_link_50 fl_X6_18 hr0 rfl ?_
        refine am_iload_n rfl dX6_link_53 ?_
        refine mm_ial dX6_link_54 hr1 (by omega) ?_
        try rw [Int.toNat_natCast]
        try simp (disch := omega) only [up2_rd, up2_rc, up2_same]
        rw [hso]
        refine mm_bipush dX6_link_55 (by decide) ?_
        refine mm_jne (tgt := 65) dX6_link_57 (by decide) (by omega) (by omega) (fun h57 => ?_) (fun h57 => ?_)
        · refine am_gen (P := fun S1 => lkF S S1 a ∧ lk1 S1 s a i) ?_ (fun S1 hS1 => ?_)
          · first
              | exact ⟨lkF_lm (lkF_up (lkF_up (lkF_up hF (by omega)) (by omega)) (by omega)), lk1_mid hI (by omega) ho hso⟩
              | exact ⟨lkF_up (lkF_up (lkF_up hF (by omega)) (by omega)) (by omega), lk1_no hI (by omega)⟩
          obtain ⟨hF1, hl1⟩ := hS1
          have hso1 : S1 (a + 1) i = s i := by rw [hF1.2.1]; exact hs i (by omega)
          have hbl1 : blS S1 a (stk s i) s (midO s (i + 1)) := hl1.1.bl hlen hn2 (fun o ho => by have := (stk_mem ho).1; omega) (fun j hj => ⟨by rw [hF1.2.1]; exact hs j hj, (hrS j hj).2⟩) (fun o ho => ⟨(hl1.2.1 o (by have := (stk_mem ho).1; omega)).1, by have := midO_lt s (i + 1) o; omega⟩)
          refine am_aload_n rfl dX6_link_65 ?_
          refine mm_getR dX6_link_66 fl_X6_37 hr0 rfl ?_
          refine am_iload_n rfl dX6_link_69 ?_
          refine am_aload_n rfl dX6_link_70 ?_
          refine am_ci (mm_V0 dX6_link_71 in_X6_modesKnown mk_X6_60 im_X6_modesKnown sl_X6_modesKnown ⟨Nat.le_of_ble_eq_true rfl, Nat.le_of_ble_eq_true rfl⟩ rfl hr0 (Nat.le_of_ble_eq_true rfl)) (c_modesKnown ⟨hr0, hr1, hr2, hr3, hr4, hr5, hr6, hr7, hr8, hr9⟩ hbl1) ?_
          refine mm_ias dX6_link_74 hr7 (by omega) ?_
          rw [Int.toNat_natCast]
          refine am_aload_n rfl dX6_link_75 ?_
          refine mm_getR dX6_link_76 fl_X6_18 hr0 rfl ?_
          refine am_iload_n rfl dX6_link_79 ?_
          refine mm_ial dX6_link_80 hr1 (by omega) ?_
          try rw [Int.toNat_natCast]
          try simp (disch := omega) only [up2_rd, up2_rc, up2_same]
          rw [hso1]
          refine mm_bipush dX6_link_81 (by decide) ?_
          refine mm_jne (tgt := 91) dX6_link_83 (by decide) (by omega) (by omega) (fun h83 => ?_) (fun h83 => ?_)
          · refine am_gen (P := fun S2 => lkF S S2 a ∧ lk2 S2 s a i) ?_ (fun S2 hS2 => ?_)
            · first
                | exact ⟨lkF_le (lkF_up hF1 (by omega)), lk2_end hl1 (by omega) ho hso2⟩
                | exact ⟨lkF_up hF1 (by omega), lk2_no hl1 (by omega)⟩
            obtain ⟨hF2, hl2⟩ := hS2
            have hso3 : S2 (a + 1) i = s i := by rw [hF2.2.1]; exact hs i (by omega)
            have hbl2 : blS S2 a (stk2 s i) s (midO s (i + 1)) := hl2.1.bl (Nat.le_trans stk2_len hlen) hn2 (fun o ho => by have := (stk_mem (stk2_mem ho)).1; omega) (fun j hj => ⟨by rw [hF2.2.1]; exact hs j hj, (hrS j hj).2⟩) (fun o ho => ⟨(hl2.2.1 o (by have := (stk_mem (stk2_mem ho)).1; omega)).1, by have := midO_lt s (i + 1) o; omega⟩)
            have hb2 := hl2.1.1
            refine am_aload_n rfl dX6_link_91 ?_
            refine mm_getR dX6_link_92 fl_X6_31 hr0 rfl ?_
            refine am_iload_n rfl dX6_link_95 ?_
            refine am_aload_n rfl dX6_link_96 ?_
            refine am_ci (mm_V0 dX6_link_97 in_X6_innermostCatcher mk_X6_67 im_X6_innermostCatcher sl_X6_innermostCatcher ⟨Nat.le_of_ble_eq_true rfl, Nat.le_of_ble_eq_true rfl⟩ rfl hr0 (Nat.le_of_ble_eq_true rfl)) (c_catcher ⟨hr0, hr1, hr2, hr3, hr4, hr5, hr6, hr7, hr8, hr9⟩ hbl2) ?_
            refine mm_ias dX6_link_100 hr5 (by omega) ?_
            rw [Int.toNat_natCast]
            refine am_aload_n rfl dX6_link_101 ?_
            refine mm_getR dX6_link_102 fl_X6_18 hr0 rfl ?_
            refine am_iload_n rfl dX6_link_105 ?_
            refine mm_ial dX6_link_106 hr1 (by omega) ?_
            try rw [Int.toNat_natCast]
            try simp (disch := omega) only [up2_rd, up2_rc, up2_same]
            rw [hso3]
            refine am_ci (mm_SN1 dX6_link_107 in_X9_opensBlock mk_X6_46 st_X9_opensBlock ⟨Nat.le_of_ble_eq_true rfl, Nat.le_of_ble_eq_true rfl⟩ (Nat.le_of_ble_eq_true rfl)) (c_opensBlock (by omega)) ?_
            refine mm_beq (tgt := 118) dX6_link_110 (by decide) (fun h110 => ?_) (fun h110 => ?_)
            · refine mm_inc1 dX6_link_118 (Nat.le_of_ble_eq_true rfl) (am_c1r _) ?_
              refine am_goto (tgt := 7) dX6_link_121 (by decide) ?_
              first
                | exact ih (i + 1) _ (by omega) (by omega) (lkF_lb (lkF_up hF2 (by omega))) (lk3_op hl2 (by assumption) hso3)
                | exact ih (i + 1) _ (by omega) (by omega) (lkF_up hF2 (by omega)) (lk3_no hl2 (by assumption))
            · refine am_aload_n rfl dX6_link_113 ?_
              refine am_iload_n rfl dX6_link_114 ?_
              refine am_cv (mm_V1 dX6_link_115 in_X6_linkBlock mk_X6_70 im_X6_linkBlock sl_X6_linkBlock ⟨Nat.le_of_ble_eq_true rfl, Nat.le_of_ble_eq_true rfl⟩ rfl hr0 (Nat.le_of_ble_eq_true rfl)) (c_linkBlock ⟨hr0, hr1, hr2, hr3, hr4, hr5, hr6, hr7, hr8, hr9⟩ (by omega) (by simp (disch := omega) only [up2_rd, up2_rc, up2_same]; rw [hso3]; omega) (by simp (disch := omega) only [up2_rd, up2_rc, up2_same]; rw [hb2, show stk2 s i = stk s i from if_neg (by omega)]; have := hwi.2.1 (by assumption); omega)) ?_
              refine mm_inc1 dX6_link_118 (Nat.le_of_ble_eq_true rfl) (am_c1r _) ?_
              refine am_goto (tgt := 7) dX6_link_121 (by decide) ?_
              first
                | exact ih (i + 1) _ (by omega) (by omega) (lkF_lb (lkF_up hF2 (by omega))) (lk3_op hl2 (by assumption) hso3)
                | exact ih (i + 1) _ (by omega) (by omega) (lkF_up hF2 (by omega)) (lk3_no hl2 (by assumption))
          · obtain ⟨o, ho⟩ : ∃ o, (stk s i).head? = some o := by
              obtain ⟨o, h1, -⟩ := hwi.2.2.2.2 (by omega); exact ⟨o, h1⟩
            obtain ⟨t1, t2, t3⟩ := hl1.1.top ho
            have hb1 := hl1.1.1
            have hmo : S1 (a + 8) o = midO s (i + 1) o := (hl1.2.1 o (by omega)).1
            have hml := midO_lt s (i + 1) o
            have hso2 : S1 (a + 1) o = s o := by rw [hF1.2.1]; exact hs o (by omega)
            have hwo := (hw o (by omega)).1
            refine am_aload_n rfl dX6_link_86 ?_
            refine am_iload_n rfl dX6_link_87 ?_
            refine am_cv (mm_V1 dX6_link_88 in_X6_linkEnd mk_X6_64 im_X6_linkEnd sl_X6_linkEnd ⟨Nat.le_of_ble_eq_true rfl, Nat.le_of_ble_eq_true rfl⟩ rfl hr0 (Nat.le_of_ble_eq_true rfl)) (c_linkEnd ⟨hr0, hr1, hr2, hr3, hr4, hr5, hr6, hr7, hr8, hr9⟩ (o := o) (by omega) (by simp (disch := omega) only [up2_rd, up2_rc, up2_same]; rw [hb1]; omega) (by simp (disch := omega) only [up2_rd, up2_rc, up2_same]; exact t1) (by omega) (by simp (disch := omega) only [up2_rd, up2_rc, up2_same]; rw [hso2]; omega) (by simp (disch := omega) only [up2_rd, up2_rc, up2_same]; rw [hmo]; omega)) ?_
            refine am_gen (P := fun S2 => lkF S S2 a ∧ lk2 S2 s a i) ?_ (fun S2 hS2 => ?_)
            · first
                | exact ⟨lkF_le (lkF_up hF1 (by omega)), lk2_end hl1 (by omega) ho hso2⟩
                | exact ⟨lkF_up hF1 (by omega), lk2_no hl1 (by omega)⟩
            obtain ⟨hF2, hl2⟩ := hS2
            have hso3 : S2 (a + 1) i = s i := by rw [hF2.2.1]; exact hs i (by omega)
            have hbl2 : blS S2 a (stk2 s i) s (midO s (i + 1)) := hl2.1.bl (Nat.le_trans stk2_len hlen) hn2 (fun o ho => by have := (stk_mem (stk2_mem ho)).1; omega) (fun j hj => ⟨by rw [hF2.2.1]; exact hs j hj, (hrS j hj).2⟩) (fun o ho => ⟨(hl2.2.1 o (by have := (stk_mem (stk2_mem ho)).1; omega)).1, by have := midO_lt s (i + 1) o; omega⟩)
            have hb2 := hl2.1.1
            refine am_aload_n rfl dX6_link_91 ?_
            refine mm_getR dX6_link_92 fl_X6_31 hr0 rfl ?_
            refine am_iload_n rfl dX6_link_95 ?_
            refine am_aload_n rfl dX6_link_96 ?_
            refine am_ci (mm_V0 dX6_link_97 in_X6_innermostCatcher mk_X6_67 im_X6_innermostCatcher sl_X6_innermostCatcher ⟨Nat.le_of_ble_eq_true rfl, Nat.le_of_ble_eq_true rfl⟩ rfl hr0 (Nat.le_of_ble_eq_true rfl)) (c_catcher ⟨hr0, hr1, hr2, hr3, hr4, hr5, hr6, hr7, hr8, hr9⟩ hbl2) ?_
            refine mm_ias dX6_link_100 hr5 (by omega) ?_
            rw [Int.toNat_natCast]
            refine am_aload_n rfl dX6_link_101 ?_
            refine mm_getR dX6_link_102 fl_X6_18 hr0 rfl ?_
            refine am_iload_n rfl dX6_link_105 ?_
            refine mm_ial dX6_link_106 hr1 (by omega) ?_
            try rw [Int.toNat_natCast]
            try simp (disch := omega) only [up2_rd, up2_rc, up2_same]
            rw [hso3]
            refine am_ci (mm_SN1 dX6_link_107 in_X9_opensBlock mk_X6_46 st_X9_opensBlock ⟨Nat.le_of_ble_eq_true rfl, Nat.le_of_ble_eq_true rfl⟩ (Nat.le_of_ble_eq_true rfl)) (c_opensBlock (by omega)) ?_
            refine mm_beq (tgt := 118) dX6_link_110 (by decide) (fun h110 => ?_) (fun h110 => ?_)
            · refine mm_inc1 dX6_link_118 (Nat.le_of_ble_eq_true rfl) (am_c1r _) ?_
              refine am_goto (tgt := 7) dX6_link_121 (by decide) ?_
              first
                | exact ih (i + 1) _ (by omega) (by omega) (lkF_lb (lkF_up hF2 (by omega))) (lk3_op hl2 (by assumption) hso3)
                | exact ih (i + 1) _ (by omega) (by omega) (lkF_up hF2 (by omega)) (lk3_no hl2 (by assumption))
            · refine am_aload_n rfl dX6_link_113 ?_
              refine am_iload_n rfl dX6_link_114 ?_
              refine am_cv (mm_V1 dX6_link_115 in_X6_linkBlock mk_X6_70 im_X6_linkBlock sl_X6_linkBlock ⟨Nat.le_of_ble_eq_true rfl, Nat.le_of_ble_eq_true rfl⟩ rfl hr0 (Nat.le_of_ble_eq_true rfl)) (c_linkBlock ⟨hr0, hr1, hr2, hr3, hr4, hr5, hr6, hr7, hr8, hr9⟩ (by omega) (by simp (disch := omega) only [up2_rd, up2_rc, up2_same]; rw [hso3]; omega) (by simp (disch := omega) only [up2_rd, up2_rc, up2_same]; rw [hb2, show stk2 s i = stk s i from if_neg (by omega)]; have := hwi.2.1 (by assumption); omega)) ?_
              refine mm_inc1 dX6_link_118 (Nat.le_of_ble_eq_true rfl) (am_c1r _) ?_
              refine am_goto (tgt := 7) dX6_link_121 (by decide) ?_
              first
                | exact ih (i + 1) _ (by omega) (by omega) (lkF_lb (lkF_up hF2 (by omega))) (lk3_op hl2 (by assumption) hso3)
                | exact ih (i + 1) _ (by omega) (by omega) (lkF_up hF2 (by omega)) (lk3_no hl2 (by assumption))
        · obtain ⟨o, ho⟩ : ∃ o, (stk s i).head? = some o := by
            rcases (show s i = 6 ∨ s i = 15 by omega) with z | z
            · obtain ⟨o, h1, -⟩ := hwi.2.2.1 z; exact ⟨o, h1⟩
            · obtain ⟨o, h1, -⟩ := hwi.2.2.2.1 z; exact ⟨o, h1⟩
          obtain ⟨t1, t2, t3⟩ := hI.1.top ho
          have hb1 := hI.1.1
          refine am_aload_n rfl dX6_link_60 ?_
          refine am_iload_n rfl dX6_link_61 ?_
          refine am_cv (mm_V1 dX6_link_62 in_X6_linkMiddle mk_X6_56 im_X6_linkMiddle sl_X6_linkMiddle ⟨Nat.le_of_ble_eq_true rfl, Nat.le_of_ble_eq_true rfl⟩ rfl hr0 (Nat.le_of_ble_eq_true rfl)) (c_linkMiddle ⟨hr0, hr1, hr2, hr3, hr4, hr5, hr6, hr7, hr8, hr9⟩ (o := o) (by omega) (by simp (disch := omega) only [up2_rd, up2_rc, up2_same]; rw [hso]; omega) (by simp (disch := omega) only [up2_rd, up2_rc, up2_same]; rw [hb1]; omega) (by simp (disch := omega) only [up2_rd, up2_rc, up2_same]; exact t1) (by omega)) ?_
          refine am_gen (P := fun S1 => lkF S S1 a ∧ lk1 S1 s a i) ?_ (fun S1 hS1 => ?_)
          · first
              | exact ⟨lkF_lm (lkF_up (lkF_up (lkF_up hF (by omega)) (by omega)) (by omega)), lk1_mid hI (by omega) ho hso⟩
              | exact ⟨lkF_up (lkF_up (lkF_up hF (by omega)) (by omega)) (by omega), lk1_no hI (by omega)⟩
          obtain ⟨hF1, hl1⟩ := hS1
          have hso1 : S1 (a + 1) i = s i := by rw [hF1.2.1]; exact hs i (by omega)
          have hbl1 : blS S1 a (stk s i) s (midO s (i + 1)) := hl1.1.bl hlen hn2 (fun o ho => by have := (stk_mem ho).1; omega) (fun j hj => ⟨by rw [hF1.2.1]; exact hs j hj, (hrS j hj).2⟩) (fun o ho => ⟨(hl1.2.1 o (by have := (stk_mem ho).1; omega)).1, by have := midO_lt s (i + 1) o; omega⟩)
          refine am_aload_n rfl dX6_link_65 ?_
          refine mm_getR dX6_link_66 fl_X6_37 hr0 rfl ?_
          refine am_iload_n rfl dX6_link_69 ?_
          refine am_aload_n rfl dX6_link_70 ?_
          refine am_ci (mm_V0 dX6_link_71 in_X6_modesKnown mk_X6_60 im_X6_modesKnown sl_X6_modesKnown ⟨Nat.le_of_ble_eq_true rfl, Nat.le_of_ble_eq_true rfl⟩ rfl hr0 (Nat.le_of_ble_eq_true rfl)) (c_modesKnown ⟨hr0, hr1, hr2, hr3, hr4, hr5, hr6, hr7, hr8, hr9⟩ hbl1) ?_
          refine mm_ias dX6_link_74 hr7 (by omega) ?_
          rw [Int.toNat_natCast]
          refine am_aload_n rfl dX6_link_75 ?_
          refine mm_getR dX6_link_76 fl_X6_18 hr0 rfl ?_
          refine am_iload_n rfl dX6_link_79 ?_
          refine mm_ial dX6_link_80 hr1 (by omega) ?_
          try rw [Int.toNat_natCast]
          try simp (disch := omega) only [up2_rd, up2_rc, up2_same]
          rw [hso1]
          refine mm_bipush dX6_link_81 (by decide) ?_
          refine mm_jne (tgt := 91) dX6_link_83 (by decide) (by omega) (by omega) (fun h83 => ?_) (fun h83 => ?_)
          · refine am_gen (P := fun S2 => lkF S S2 a ∧ lk2 S2 s a i) ?_ (fun S2 hS2 => ?_)
            · first
                | exact ⟨lkF_le (lkF_up hF1 (by omega)), lk2_end hl1 (by omega) ho hso2⟩
                | exact ⟨lkF_up hF1 (by omega), lk2_no hl1 (by omega)⟩
            obtain ⟨hF2, hl2⟩ := hS2
            have hso3 : S2 (a + 1) i = s i := by rw [hF2.2.1]; exact hs i (by omega)
            have hbl2 : blS S2 a (stk2 s i) s (midO s (i + 1)) := hl2.1.bl (Nat.le_trans stk2_len hlen) hn2 (fun o ho => by have := (stk_mem (stk2_mem ho)).1; omega) (fun j hj => ⟨by rw [hF2.2.1]; exact hs j hj, (hrS j hj).2⟩) (fun o ho => ⟨(hl2.2.1 o (by have := (stk_mem (stk2_mem ho)).1; omega)).1, by have := midO_lt s (i + 1) o; omega⟩)
            have hb2 := hl2.1.1
            refine am_aload_n rfl dX6_link_91 ?_
            refine mm_getR dX6_link_92 fl_X6_31 hr0 rfl ?_
            refine am_iload_n rfl dX6_link_95 ?_
            refine am_aload_n rfl dX6_link_96 ?_
            refine am_ci (mm_V0 dX6_link_97 in_X6_innermostCatcher mk_X6_67 im_X6_innermostCatcher sl_X6_innermostCatcher ⟨Nat.le_of_ble_eq_true rfl, Nat.le_of_ble_eq_true rfl⟩ rfl hr0 (Nat.le_of_ble_eq_true rfl)) (c_catcher ⟨hr0, hr1, hr2, hr3, hr4, hr5, hr6, hr7, hr8, hr9⟩ hbl2) ?_
            refine mm_ias dX6_link_100 hr5 (by omega) ?_
            rw [Int.toNat_natCast]
            refine am_aload_n rfl dX6_link_101 ?_
            refine mm_getR dX6_link_102 fl_X6_18 hr0 rfl ?_
            refine am_iload_n rfl dX6_link_105 ?_
            refine mm_ial dX6_link_106 hr1 (by omega) ?_
            try rw [Int.toNat_natCast]
            try simp (disch := omega) only [up2_rd, up2_rc, up2_same]
            rw [hso3]
            refine am_ci (mm_SN1 dX6_link_107 in_X9_opensBlock mk_X6_46 st_X9_opensBlock ⟨Nat.le_of_ble_eq_true rfl, Nat.le_of_ble_eq_true rfl⟩ (Nat.le_of_ble_eq_true rfl)) (c_opensBlock (by omega)) ?_
            refine mm_beq (tgt := 118) dX6_link_110 (by decide) (fun h110 => ?_) (fun h110 => ?_)
            · refine mm_inc1 dX6_link_118 (Nat.le_of_ble_eq_true rfl) (am_c1r _) ?_
              refine am_goto (tgt := 7) dX6_link_121 (by decide) ?_
              first
                | exact ih (i + 1) _ (by omega) (by omega) (lkF_lb (lkF_up hF2 (by omega))) (lk3_op hl2 (by assumption) hso3)
                | exact ih (i + 1) _ (by omega) (by omega) (lkF_up hF2 (by omega)) (lk3_no hl2 (by assumption))
            · refine am_aload_n rfl dX6_link_113 ?_
              refine am_iload_n rfl dX6_link_114 ?_
              refine am_cv (mm_V1 dX6_link_115 in_X6_linkBlock mk_X6_70 im_X6_linkBlock sl_X6_linkBlock ⟨Nat.le_of_ble_eq_true rfl, Nat.le_of_ble_eq_true rfl⟩ rfl hr0 (Nat.le_of_ble_eq_true rfl)) (c_linkBlock ⟨hr0, hr1, hr2, hr3, hr4, hr5, hr6, hr7, hr8, hr9⟩ (by omega) (by simp (disch := omega) only [up2_rd, up2_rc, up2_same]; rw [hso3]; omega) (by simp (disch := omega) only [up2_rd, up2_rc, up2_same]; rw [hb2, show stk2 s i = stk s i from if_neg (by omega)]; have := hwi.2.1 (by assumption); omega)) ?_
              refine mm_inc1 dX6_link_118 (Nat.le_of_ble_eq_true rfl) (am_c1r _) ?_
              refine am_goto (tgt := 7) dX6_link_121 (by decide) ?_
              first
                | exact ih (i + 1) _ (by omega) (by omega) (lkF_lb (lkF_up hF2 (by omega))) (lk3_op hl2 (by assumption) hso3)
                | exact ih (i + 1) _ (by omega) (by omega) (lkF_up hF2 (by omega)) (lk3_no hl2 (by assumption))
          · obtain ⟨o, ho⟩ : ∃ o, (stk s i).head? = some o := by
              obtain ⟨o, h1, -⟩ := hwi.2.2.2.2 (by omega); exact ⟨o, h1⟩
            obtain ⟨t1, t2, t3⟩ := hl1.1.top ho
            have hb1 := hl1.1.1
            have hmo : S1 (a + 8) o = midO s (i + 1) o := (hl1.2.1 o (by omega)).1
            have hml := midO_lt s (i + 1) o
            have hso2 : S1 (a + 1) o = s o := by rw [hF1.2.1]; exact hs o (by omega)
            have hwo := (hw o (by omega)).1
            refine am_aload_n rfl dX6_link_86 ?_
            refine am_iload_n rfl dX6_link_87 ?_
            refine am_cv (mm_V1 dX6_link_88 in_X6_linkEnd mk_X6_64 im_X6_linkEnd sl_X6_linkEnd ⟨Nat.le_of_ble_eq_true rfl, Nat.le_of_ble_eq_true rfl⟩ rfl hr0 (Nat.le_of_ble_eq_true rfl)) (c_linkEnd ⟨hr0, hr1, hr2, hr3, hr4, hr5, hr6, hr7, hr8, hr9⟩ (o := o) (by omega) (by simp (disch := omega) only [up2_rd, up2_rc, up2_same]; rw [hb1]; omega) (by simp (disch := omega) only [up2_rd, up2_rc, up2_same]; exact t1) (by omega) (by simp (disch := omega) only [up2_rd, up2_rc, up2_same]; rw [hso2]; omega) (by simp (disch := omega) only [up2_rd, up2_rc, up2_same]; rw [hmo]; omega)) ?_
            refine am_gen (P := fun S2 => lkF S S2 a ∧ lk2 S2 s a i) ?_ (fun S2 hS2 => ?_)
            · first
                | exact ⟨lkF_le (lkF_up hF1 (by omega)), lk2_end hl1 (by omega) ho hso2⟩
                | exact ⟨lkF_up hF1 (by omega), lk2_no hl1 (by omega)⟩
            obtain ⟨hF2, hl2⟩ := hS2
            have hso3 : S2 (a + 1) i = s i := by rw [hF2.2.1]; exact hs i (by omega)
            have hbl2 : blS S2 a (stk2 s i) s (midO s (i + 1)) := hl2.1.bl (Nat.le_trans stk2_len hlen) hn2 (fun o ho => by have := (stk_mem (stk2_mem ho)).1; omega) (fun j hj => ⟨by rw [hF2.2.1]; exact hs j hj, (hrS j hj).2⟩) (fun o ho => ⟨(hl2.2.1 o (by have := (stk_mem (stk2_mem ho)).1; omega)).1, by have := midO_lt s (i + 1) o; omega⟩)
            have hb2 := hl2.1.1
            refine am_aload_n rfl dX6_link_91 ?_
            refine mm_getR dX6_link_92 fl_X6_31 hr0 rfl ?_
            refine am_iload_n rfl dX6_link_95 ?_
            refine am_aload_n rfl dX6_link_96 ?_
            refine am_ci (mm_V0 dX6_link_97 in_X6_innermostCatcher mk_X6_67 im_X6_innermostCatcher sl_X6_innermostCatcher ⟨Nat.le_of_ble_eq_true rfl, Nat.le_of_ble_eq_true rfl⟩ rfl hr0 (Nat.le_of_ble_eq_true rfl)) (c_catcher ⟨hr0, hr1, hr2, hr3, hr4, hr5, hr6, hr7, hr8, hr9⟩ hbl2) ?_
            refine mm_ias dX6_link_100 hr5 (by omega) ?_
            rw [Int.toNat_natCast]
            refine am_aload_n rfl dX6_link_101 ?_
            refine mm_getR dX6_link_102 fl_X6_18 hr0 rfl ?_
            refine am_iload_n rfl dX6_link_105 ?_
            refine mm_ial dX6_link_106 hr1 (by omega) ?_
            try rw [Int.toNat_natCast]
            try simp (disch := omega) only [up2_rd, up2_rc, up2_same]
            rw [hso3]
            refine am_ci (mm_SN1 dX6_link_107 in_X9_opensBlock mk_X6_46 st_X9_opensBlock ⟨Nat.le_of_ble_eq_true rfl, Nat.le_of_ble_eq_true rfl⟩ (Nat.le_of_ble_eq_true rfl)) (c_opensBlock (by omega)) ?_
            refine mm_beq (tgt := 118) dX6_link_110 (by decide) (fun h110 => ?_) (fun h110 => ?_)
            · refine mm_inc1 dX6_link_118 (Nat.le_of_ble_eq_true rfl) (am_c1r _) ?_
              refine am_goto (tgt := 7) dX6_link_121 (by decide) ?_
              first
                | exact ih (i + 1) _ (by omega) (by omega) (lkF_lb (lkF_up hF2 (by omega))) (lk3_op hl2 (by assumption) hso3)
                | exact ih (i + 1) _ (by omega) (by omega) (lkF_up hF2 (by omega)) (lk3_no hl2 (by assumption))
            · refine am_aload_n rfl dX6_link_113 ?_
              refine am_iload_n rfl dX6_link_114 ?_
              refine am_cv (mm_V1 dX6_link_115 in_X6_linkBlock mk_X6_70 im_X6_linkBlock sl_X6_linkBlock ⟨Nat.le_of_ble_eq_true rfl, Nat.le_of_ble_eq_true rfl⟩ rfl hr0 (Nat.le_of_ble_eq_true rfl)) (c_linkBlock ⟨hr0, hr1, hr2, hr3, hr4, hr5, hr6, hr7, hr8, hr9⟩ (by omega) (by simp (disch := omega) only [up2_rd, up2_rc, up2_same]; rw [hso3]; omega) (by simp (disch := omega) only [up2_rd, up2_rc, up2_same]; rw [hb2, show stk2 s i = stk s i from if_neg (by omega)]; have := hwi.2.1 (by assumption); omega)) ?_
              refine mm_inc1 dX6_link_118 (Nat.le_of_ble_eq_true rfl) (am_c1r _) ?_
              refine am_goto (tgt := 7) dX6_link_121 (by decide) ?_
              first
                | exact ih (i + 1) _ (by omega) (by omega) (lkF_lb (lkF_up hF2 (by omega))) (lk3_op hl2 (by assumption) hso3)
                | exact ih (i + 1) _ (by omega) (by omega) (lkF_up hF2 (by omega)) (lk3_no hl2 (by assumption))
set_option maxRecDepth 100000 in
set_option maxHeartbeats 4000000 in
theorem c_link {sh : List mm_H} {S : mm_S} {L : mm_L} {a n : Nat} {s : Nat → Int} (hr : rtS sh a) (hn : S a 0 = n) (hn2 : n ≤ 24) (hs : ∀ j, j < n → S (a + 1) j = s j) (hw : wfP s n) : am_E eX6_link [.ref a] (mm sh S L) (fun r M' => r = none ∧ ∃ S2, M' = mm sh S2 L ∧ lkF S S2 a ∧ lkI S2 s a n ∧ S2 (a + 7) n = 0) := by
  obtain ⟨hr0, hr1, hr2, hr3, hr4, hr5, hr6, hr7, hr8, hr9⟩ := id hr
  refine am_enter rfl rfl (Nat.le_of_ble_eq_true rfl) ?_
  refine am_aload_n rfl dX6_link_0 ?_
  refine mm_iconst dX6_link_1 ?_
  refine mm_putI dX6_link_2 fp_X6_15 hr0 rfl ?_
  refine mm_iconst dX6_link_5 ?_
  refine am_ist1 dX6_link_6 (Nat.le_of_ble_eq_true rfl) (am_c1r _) ?_
  exact l_link hr hn hn2 hs hw (n + 1) 0 _ (by omega) (by omega) (lkF_op (lkF_rf S a)) ⟨⟨up2_same _ _ _ _, fun j o h => by simp [stk] at h⟩, fun j hj => absurd hj (Nat.not_lt_zero j)⟩
