/-! ===== a CASE ends ===== -/
theorem pow2_b {b : Nat} (h : b < 16) : (0 : Int) < 2 ^ b ∧ (2 : Int) ^ b ≤ 32768 := by
  have h2 := Nat.pow_le_pow_right (n := 2) (by decide) (show b ≤ 15 by omega)
  refine ⟨Int.pow_pos (by decide), ?_⟩
  rw [show (2 : Int) ^ b = ((2 ^ b : Nat) : Int) by norm_cast]
  omega
set_option maxRecDepth 100000 in
set_option maxHeartbeats 4000000 in
theorem c_endCase {sh : List mm_H} {S : mm_S} {L : mm_L} {p1 p2 p3 n : Nat} (jh : jsH sh) (hpl : plS sh p1 p2 p3 n) (hD : plD p1 p2 p3 n) (hI : imC S L p1 p2 p3 n) {X : XT} {F : FT} {W : WT} (hS : SubC S L p1 X F W) (hb : bkS sh) (hB : cbB S) {c : Nat} (hc : (c : Int) < S 85 1) {pl : Nat} {R : rgT} (hsim : simP S 94 (keyC S c) pl R) {y : Prop} [Decidable y] {g : Int} (hg : y ∧ g = 8 ∨ ¬ y ∧ g = 0) (hE : enK F W S (keyC S c) R g) : am_E eX3_endCase [.ref 85, .ref 1, .int (iI (c : Int)), .int (iI (b2 y))] (mm sh S L) (fun r0 M' => r0 = none ∧ ∃ S', M' = mm sh S' L ∧ poC sh S L p1 p2 n X F W sh S' L p1 p2 p3 n ∧ S' 86 0 = S 86 0 ∧ enK (FC S') (WC S') S (keyC S c) R g) := by
  have h40 := hI.2.2.1.1
  have hc40 : c < 40 := by omega
  have hcs := hI.2.2.1.2 c hc
  have hky := hcs.2.2.2.2.2.1
  obtain ⟨r, hrr⟩ : ∃ r, r = (S (98 + c) 0).toNat := ⟨_, rfl⟩
  have hr9 : (r : Int) < S 181 9 := by rw [hrr]; exact hky.2.1
  have hro := cb_ro hB hr9
  obtain ⟨hB1, hB2, hB3, hB4, hB5⟩ := id hb
  have hlv := sim_lvs hB.2.2.1 hB.2.2.2 hsim
  have hK := sim_K hB.2.2.1 hB.2.2.2 hsim
  have h94 : S 94 0 = (r : Int) := by rw [hrr]; exact hsim.2.2.2.2
  have hr6 := hro.2.2.2.2.1
  have hN := hro.2.2.2.2.2
  obtain ⟨hr0, -⟩ := hB5 r hr6
  have het := sim_et hsim
  have heR := et_R hsim.2.1.1 hB.2.2.2.1
  have hem := et_bm hsim.2.1.1
  obtain ⟨e, hee⟩ : ∃ e : Nat, etR (keyC S c) R = (e : Int) := ⟨(etR (keyC S c) R).toNat, by omega⟩
  rw [hee] at het heR hem
  obtain ⟨b, hbb⟩ : ∃ b : Nat, (b : Int) = g + e := ⟨(g + e).toNat, by rcases hg with z | z <;> (have := z.2; omega)⟩
  have hb16 : b < 16 := by rcases hg with z | z <;> (have := z.2; omega)
  have hb8 : b % 8 = e := by rcases hg with z | z <;> (have := z.2; omega)
  have hp2 := pow2_b hb16
  have hpp := hcs.2.1
  have hnc := hI.2.2.2.2.2.1.1
  refine am_enter rfl rfl (Nat.le_of_ble_eq_true rfl) ?_
  refine am_aload_n rfl dX3_endCase_0 ?_
  refine mm_getR dX3_endCase_1 fl_X3_51 jh.1 rfl ?_
  refine am_aload_n rfl dX3_endCase_4 ?_
  refine am_ci (mm_V1 dX3_endCase_5 in_X8_leavesThings mk_X3_217 im_X8_leavesThings sl_X8_leavesThings ⟨Nat.le_of_ble_eq_true rfl, Nat.le_of_ble_eq_true rfl⟩ rfl jh.2.2.2.2.2.1.1 (Nat.le_of_ble_eq_true rfl)) (c_leaves jh.2.2.2.2.2.1 hsim.2.2.1 hK hb hB.1) ?_
  refine mm_beq (tgt := 39) dX3_endCase_8 (by decide) (fun h8 => ?_) (fun h8 => ?_)
  · refine am_aload_n rfl dX3_endCase_39 ?_
    refine mm_getR dX3_endCase_40 fl_X3_51 jh.1 rfl ?_
    refine am_ci (mm_V0 dX3_endCase_43 in_X8_stateOfLent mk_X3_220 im_X8_stateOfLent sl_X8_stateOfLent ⟨Nat.le_of_ble_eq_true rfl, Nat.le_of_ble_eq_true rfl⟩ rfl jh.2.2.2.2.2.1.1 (Nat.le_of_ble_eq_true rfl)) (c_stateOfLent jh.2.2.2.2.2.1) ?_
    rw [het]
    refine am_iload_n rfl dX3_endCase_46 ?_
    refine mm_beq (tgt := 55) dX3_endCase_47 (by decide) (fun h47 => ?_) (fun h47 => ?_)
    · have hgv : g = 0 := by rcases hg with z | z; exact absurd z.1 h47; exact z.2
      refine mm_iconst dX3_endCase_55 ?_
      refine mm_iadd dX3_endCase_56 ?_
      first
        | rw [show (e : Int) + 8 = (b : Int) by omega]
        | rw [show (e : Int) + 0 = (b : Int) by omega]
      refine am_ist4 dX3_endCase_57 (Nat.le_of_ble_eq_true rfl) (am_c1i _) ?_
      refine am_aload_n rfl dX3_endCase_59 ?_
      refine mm_getR dX3_endCase_60 fl_X3_31 jh.1 rfl ?_
      refine am_iload_n rfl dX3_endCase_63 ?_
      refine mm_aal dX3_endCase_64 (fun _ => rfl) jh.2.1 ⟨by omega, by omega, by omega⟩ (show caArr _ = some (98 + c) by rw [Int.toNat_natCast]; exact if_pos hc40) ?_
      refine mm_getI dX3_endCase_65 fl_X3_208 (jh.2.2.2.2.2.2.1 c hc40) rfl ?_
      refine am_iload rfl dX3_endCase_68 ?_
      refine mm_ishr dX3_endCase_70 (by omega) (by omega) ?_
      rw [Int.toNat_natCast]
      refine mm_iconst dX3_endCase_71 ?_
      refine mm_iand1 dX3_endCase_72 (div_pow_R (by omega)) ?_
      refine mm_zne (tgt := 88) dX3_endCase_73 (by decide) (by omega) (fun h73 => ?_) (fun h73 => ?_)
      · refine am_return dX3_endCase_88 rfl ?_
        first
          | (have hbt : bt (S (98 + c) 4) b := by rcases bt_dec (S (98 + c) 4) b with z | z; exact z; omega
             refine ⟨rfl, S, rfl, po_rf hpl hD hI hS, rfl, fun z => absurd (hlv.mpr z) h8, fun _ => ⟨by omega, c, hc, rfl, ?_⟩⟩
             rw [hee, ← hbb, Int.toNat_natCast]
             exact hbt)
          | (exfalso; have := news_room hI hc hb16 (fun z => by unfold bt at z; omega); omega)
      · refine am_aload_n rfl dX3_endCase_76 ?_
        refine mm_getI dX3_endCase_77 fl_X3_45 jh.1 rfl ?_
        refine am_aload_n rfl dX3_endCase_80 ?_
        refine mm_getR dX3_endCase_81 fl_X3_42 jh.1 rfl ?_
        refine mm_len0 dX3_endCase_84 jh.2.2.2.2.1 ?_
        refine mm_jlt (tgt := 89) dX3_endCase_85 (by decide) (by omega) (by omega) (fun h85 => ?_) (fun h85 => ?_)
        · refine am_aload_n rfl dX3_endCase_89 ?_
          refine mm_getR dX3_endCase_90 fl_X3_31 jh.1 rfl ?_
          refine am_iload_n rfl dX3_endCase_93 ?_
          refine mm_aal dX3_endCase_94 (fun _ => rfl) jh.2.1 ⟨by omega, by omega, by omega⟩ (show caArr _ = some (98 + c) by rw [Int.toNat_natCast]; exact if_pos hc40) ?_
          refine am_dup rfl dX3_endCase_95 ?_
          refine mm_getI dX3_endCase_96 fl_X3_208 (jh.2.2.2.2.2.2.1 c hc40) rfl ?_
          refine mm_iconst dX3_endCase_99 ?_
          refine am_iload rfl dX3_endCase_100 ?_
          refine mm_ishl dX3_endCase_102 ⟨by omega, by rw [Int.toNat_natCast]; omega⟩ (by omega) ?_
          refine mm_ior dX3_endCase_103 (by omega) ⟨by rw [Int.toNat_natCast]; omega, by rw [Int.toNat_natCast]; omega⟩ ?_
          rw [or_orB, Int.toNat_natCast]
          refine mm_putI dX3_endCase_104 fp_X3_208 (jh.2.2.2.2.2.2.1 c hc40) rfl ?_
          refine am_aload_n rfl dX3_endCase_107 ?_
          refine mm_getR dX3_endCase_108 fl_X3_42 jh.1 rfl ?_
          refine am_aload_n rfl dX3_endCase_111 ?_
          refine am_dup rfl dX3_endCase_112 ?_
          refine mm_getI dX3_endCase_113 fl_X3_45 jh.1 rfl ?_
          rw [up2_rd (show 85 ≠ 98 + c by omega)]
          refine am_dup_x1 rfl rfl dX3_endCase_116 ?_
          refine mm_iconst dX3_endCase_117 ?_
          refine mm_iadd dX3_endCase_118 ?_
          refine mm_putI dX3_endCase_119 fp_X3_45 jh.1 rfl ?_
          refine am_iload_n rfl dX3_endCase_122 ?_
          refine mm_iconst dX3_endCase_123 ?_
          refine mm_imul dX3_endCase_124 ?_
          refine mm_bipush dX3_endCase_125 (by decide) ?_
          refine mm_imul dX3_endCase_127 ?_
          refine am_iload rfl dX3_endCase_128 ?_
          refine mm_iadd dX3_endCase_130 ?_
          refine mm_ias dX3_endCase_131 jh.2.2.2.2.1 (by omega) ?_
          refine am_return dX3_endCase_132 rfl ?_
          have key := po_bt hpl hD hI hS hc hb16 (by rw [hb8]; exact hem) (by have := hE.2 (fun z => h8 (hlv.mpr z)); rw [hee, ← hbb] at this; exact this) (fun z => by unfold bt at z; omega)
          exact ⟨rfl, _, rfl, key.1, by rw [up2_rd (by omega), up2_rd (by omega), up2_rd (by omega)], fun z => absurd (hlv.mpr z) h8, fun _ => by rw [hee, ← hbb]; exact key.2⟩
        · refine am_return dX3_endCase_88 rfl ?_
          first
            | (have hbt : bt (S (98 + c) 4) b := by rcases bt_dec (S (98 + c) 4) b with z | z; exact z; omega
               refine ⟨rfl, S, rfl, po_rf hpl hD hI hS, rfl, fun z => absurd (hlv.mpr z) h8, fun _ => ⟨by omega, c, hc, rfl, ?_⟩⟩
               rw [hee, ← hbb, Int.toNat_natCast]
               exact hbt)
            | (exfalso; have := news_room hI hc hb16 (fun z => by unfold bt at z; omega); omega)
    · have hgv : g = 8 := by rcases hg with z | z; exact z.2; exact absurd h47 z.1
      refine mm_bipush dX3_endCase_50 (by decide) ?_
      refine am_goto (tgt := 56) dX3_endCase_52 (by decide) ?_
      refine mm_iadd dX3_endCase_56 ?_
      first
        | rw [show (e : Int) + 8 = (b : Int) by omega]
        | rw [show (e : Int) + 0 = (b : Int) by omega]
      refine am_ist4 dX3_endCase_57 (Nat.le_of_ble_eq_true rfl) (am_c1i _) ?_
      refine am_aload_n rfl dX3_endCase_59 ?_
      refine mm_getR dX3_endCase_60 fl_X3_31 jh.1 rfl ?_
      refine am_iload_n rfl dX3_endCase_63 ?_
      refine mm_aal dX3_endCase_64 (fun _ => rfl) jh.2.1 ⟨by omega, by omega, by omega⟩ (show caArr _ = some (98 + c) by rw [Int.toNat_natCast]; exact if_pos hc40) ?_
      refine mm_getI dX3_endCase_65 fl_X3_208 (jh.2.2.2.2.2.2.1 c hc40) rfl ?_
      refine am_iload rfl dX3_endCase_68 ?_
      refine mm_ishr dX3_endCase_70 (by omega) (by omega) ?_
      rw [Int.toNat_natCast]
      refine mm_iconst dX3_endCase_71 ?_
      refine mm_iand1 dX3_endCase_72 (div_pow_R (by omega)) ?_
      refine mm_zne (tgt := 88) dX3_endCase_73 (by decide) (by omega) (fun h73 => ?_) (fun h73 => ?_)
      · refine am_return dX3_endCase_88 rfl ?_
        first
          | (have hbt : bt (S (98 + c) 4) b := by rcases bt_dec (S (98 + c) 4) b with z | z; exact z; omega
             refine ⟨rfl, S, rfl, po_rf hpl hD hI hS, rfl, fun z => absurd (hlv.mpr z) h8, fun _ => ⟨by omega, c, hc, rfl, ?_⟩⟩
             rw [hee, ← hbb, Int.toNat_natCast]
             exact hbt)
          | (exfalso; have := news_room hI hc hb16 (fun z => by unfold bt at z; omega); omega)
      · refine am_aload_n rfl dX3_endCase_76 ?_
        refine mm_getI dX3_endCase_77 fl_X3_45 jh.1 rfl ?_
        refine am_aload_n rfl dX3_endCase_80 ?_
        refine mm_getR dX3_endCase_81 fl_X3_42 jh.1 rfl ?_
        refine mm_len0 dX3_endCase_84 jh.2.2.2.2.1 ?_
        refine mm_jlt (tgt := 89) dX3_endCase_85 (by decide) (by omega) (by omega) (fun h85 => ?_) (fun h85 => ?_)
        · refine am_aload_n rfl dX3_endCase_89 ?_
          refine mm_getR dX3_endCase_90 fl_X3_31 jh.1 rfl ?_
          refine am_iload_n rfl dX3_endCase_93 ?_
          refine mm_aal dX3_endCase_94 (fun _ => rfl) jh.2.1 ⟨by omega, by omega, by omega⟩ (show caArr _ = some (98 + c) by rw [Int.toNat_natCast]; exact if_pos hc40) ?_
          refine am_dup rfl dX3_endCase_95 ?_
          refine mm_getI dX3_endCase_96 fl_X3_208 (jh.2.2.2.2.2.2.1 c hc40) rfl ?_
          refine mm_iconst dX3_endCase_99 ?_
          refine am_iload rfl dX3_endCase_100 ?_
          refine mm_ishl dX3_endCase_102 ⟨by omega, by rw [Int.toNat_natCast]; omega⟩ (by omega) ?_
          refine mm_ior dX3_endCase_103 (by omega) ⟨by rw [Int.toNat_natCast]; omega, by rw [Int.toNat_natCast]; omega⟩ ?_
          rw [or_orB, Int.toNat_natCast]
          refine mm_putI dX3_endCase_104 fp_X3_208 (jh.2.2.2.2.2.2.1 c hc40) rfl ?_
          refine am_aload_n rfl dX3_endCase_107 ?_
          refine mm_getR dX3_endCase_108 fl_X3_42 jh.1 rfl ?_
          refine am_aload_n rfl dX3_endCase_111 ?_
          refine am_dup rfl dX3_endCase_112 ?_
          refine mm_getI dX3_endCase_113 fl_X3_45 jh.1 rfl ?_
          rw [up2_rd (show 85 ≠ 98 + c by omega)]
          refine am_dup_x1 rfl rfl dX3_endCase_116 ?_
          refine mm_iconst dX3_endCase_117 ?_
          refine mm_iadd dX3_endCase_118 ?_
          refine mm_putI dX3_endCase_119 fp_X3_45 jh.1 rfl ?_
          refine am_iload_n rfl dX3_endCase_122 ?_
          refine mm_iconst dX3_endCase_123 ?_
          refine mm_imul dX3_endCase_124 ?_
          refine mm_bipush dX3_endCase_125 (by decide) ?_
          refine mm_imul dX3_endCase_127 ?_
          refine am_iload rfl dX3_endCase_128 ?_
          refine mm_iadd dX3_endCase_130 ?_
          refine mm_ias dX3_endCase_131 jh.2.2.2.2.1 (by omega) ?_
          refine am_return dX3_endCase_132 rfl ?_
          have key := po_bt hpl hD hI hS hc hb16 (by rw [hb8]; exact hem) (by have := hE.2 (fun z => h8 (hlv.mpr z)); rw [hee, ← hbb] at this; exact this) (fun z => by unfold bt at z; omega)
          exact ⟨rfl, _, rfl, key.1, by rw [up2_rd (by omega), up2_rd (by omega), up2_rd (by omega)], fun z => absurd (hlv.mpr z) h8, fun _ => by rw [hee, ← hbb]; exact key.2⟩
        · refine am_return dX3_endCase_88 rfl ?_
          first
            | (have hbt : bt (S (98 + c) 4) b := by rcases bt_dec (S (98 + c) 4) b with z | z; exact z; omega
               refine ⟨rfl, S, rfl, po_rf hpl hD hI hS, rfl, fun z => absurd (hlv.mpr z) h8, fun _ => ⟨by omega, c, hc, rfl, ?_⟩⟩
               rw [hee, ← hbb, Int.toNat_natCast]
               exact hbt)
            | (exfalso; have := news_room hI hc hb16 (fun z => by unfold bt at z; omega); omega)
  · refine am_aload_n rfl dX3_endCase_11 ?_
    refine am_aload_n rfl dX3_endCase_12 ?_
    refine mm_getR dX3_endCase_13 fl_X3_51 jh.1 rfl ?_
    refine mm_getI dX3_endCase_16 fl_X3_147 jh.2.2.2.2.2.1.1 rfl ?_
    refine am_aload_n rfl dX3_endCase_19 ?_
    refine mm_getR dX3_endCase_20 fl_X3_141 hB1 rfl ?_
    refine am_aload_n rfl dX3_endCase_23 ?_
    refine mm_getR dX3_endCase_24 fl_X3_51 jh.1 rfl ?_
    refine mm_getI dX3_endCase_27 fl_X3_147 jh.2.2.2.2.2.1.1 rfl ?_
    refine mm_aal dX3_endCase_30 (fun _ => rfl) hB3 ⟨by omega, by omega, by omega⟩ (show rArr _ = some (22 + 10 * r) by rw [h94, Int.toNat_natCast]; exact rArr_at hr6) ?_
    refine mm_getI dX3_endCase_31 fl_X3_151 hr0 rfl ?_
    refine mm_iconst dX3_endCase_34 ?_
    rw [h94, ← hN.1]
    refine am_cxv (mm_V3 dX3_endCase_35 in_X3_addWrong mk_X3_164 im_X3_addWrong sl_X3_addWrong ⟨Nat.le_of_ble_eq_true rfl, Nat.le_of_ble_eq_true rfl⟩ rfl jh.1 (Nat.le_of_ble_eq_true rfl)) (c_addWrong (X := X) (F := F) (W := W) (r := r) (pl := mN S r) (w := 5) jh hpl hD hI hS hr6 (by omega) (by omega) (by have := hE.1 (hlv.mp h8); rw [hrr]; exact this)) (fun M1 hq => ?_)
    obtain ⟨S1, rfl, hpo, h86, hwm⟩ := hq
    refine am_return dX3_endCase_38 rfl ?_
    exact ⟨rfl, S1, rfl, hpo, h86, fun _ => by rw [hrr] at hwm; exact hwm, fun z => absurd (hlv.mp h8) z⟩
