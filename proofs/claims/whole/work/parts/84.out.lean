/-! ===== ends, out, calls ===== -/
theorem otK_1 {X : XT} {F : FT} {W : WT} {S : mm_S} {κ : kyT} {pl : Int} {R : rgT} : otK X F W S κ (1, pl, R) = X κ pl.toNat (pkM R) := if_pos rfl
theorem otK_0 {X : XT} {F : FT} {W : WT} {S : mm_S} {κ : kyT} {pl : Int} {R : rgT} : otK X F W S κ (0, pl, R) = enK F W S κ R 8 := if_neg (show ¬ (0 : Int) = 1 by decide)
theorem et_R {S : mm_S} {κ : kyT} {R : rgT} (h : rgV S κ R) (hm : mdV S) : 0 ≤ etR κ R ∧ etR κ R < 6 := by
  unfold etR
  split
  · rename_i e
    have g := h.2.2.2.1 e
    have u := hm.2.2.1 κ.2.2.1.toNat (by have := hm.1; omega)
    omega
  · omega
theorem et_bm {S : mm_S} {κ : kyT} {R : rgT} (h : rgV S κ R) : etR κ R < bmS S κ := by
  unfold etR bmS
  by_cases e : κ.1 = 1
  · rw [if_pos e, if_pos e]; exact (h.2.2.2.1 e).2.2
  · rw [if_neg e, if_neg e]; omega
theorem or_ne {x b : Int} (hx : 0 ≤ x) : orB x b.toNat = x ↔ bt x b.toNat := ⟨fun e => by
  rcases bt_dec x b.toNat with z | z
  · exact z
  · exfalso
    have := orB_gt hx (w := b.toNat) (fun q => by unfold bt at q; omega)
    omega, fun e => orB_eq hx e⟩
theorem pow2_e {b : Int} (h : 0 ≤ b ∧ b < 6) : (0 : Int) < 2 ^ b.toNat ∧ (2 : Int) ^ b.toNat ≤ 32 := by
  have h2 := Nat.pow_le_pow_right (n := 2) (by decide) (show b.toNat ≤ 5 by omega)
  refine ⟨Int.pow_pos (by decide), ?_⟩
  have e : ((2 : Int) ^ b.toNat) = ((2 ^ b.toNat : Nat) : Int) := by push_cast; rfl
  rw [e]
  omega
set_option maxRecDepth 100000 in
set_option maxHeartbeats 8000000 in
theorem l_ends0 {sh : List mm_H} {S : mm_S} {L : mm_L} (hm : mdS sh) (hb : mbW S) (hI : imS S L) {X : XT} {F : FT} {W : WT} (hS : SubM S L X F W) {c : Nat} (hc : (c : Int) < S 181 27) (hR : rgV S (keyM S c) (rgS S)) {y : Prop} [Decidable y] {g : Int} (hg : y ∧ g = 0 ∨ ¬ y ∧ g = 8) (hE : enK F W S (keyM S c) (rgS S) g) (hl : ¬ lvM S (rgS S)) (hy : y) (hgg : g = 0) (h03 : True) : am_AW eX10_ends_ (mm sh S L) 47 [some (.ref 181), some (.int (iI (c : Int))), some (.int (iI (b2 y))), some (.int (iI (S 204 c))), none, none] [.int (iI (1 * 2 ^ (etR (keyM S c) (rgS S)).toNat))] (fun r0 M' => r0 = none ∧ ∃ S', M' = mm sh S' L ∧ poM S L X F W S' L ∧ (enK (FM S') (WM S') S (keyM S c) (rgS S) g)) := by
  have het := et_R hR hb.1
  have hbm := et_bm hR
  have hcs := hI.1
  have hc27 := hI.1.1
  have hcc := hcs.2 c hc
  have hκ := (hI.2.1 c hc).1
  have hr9 : (((S 204 c).toNat : Nat) : Int) < S 181 9 := hκ.2.1
  have hrw := hb.2.2.2.2 (S 204 c).toNat hr9
  have h24 := hb.1.2.2.2.2 (S 204 c).toNat (by omega)
  have hc40 : c < 40 := by omega
  have er204 : S 204 c = (((S 204 c).toNat : Nat) : Int) := by omega
  have hrr := rgB_S hR.1
  have hf := hI.2.2.2.2.2
  have k2 := (hI.2.1 c hc).2.1
  refine am_ist4 dX10_ends__47 (Nat.le_of_ble_eq_true rfl) (am_c1i _) ?_
  refine am_iload_n rfl dX10_ends__49 ?_
  refine mm_beq (tgt := 62) dX10_ends__50 (by decide) (fun h50 => ?_) (fun h50 => ?_)
  · exact absurd hy h50
  · refine am_aload_n rfl dX10_ends__53 ?_
    refine mm_getR dX10_ends__54 fl_X10_90 (md_0 hm) mdf_32 ?_
    refine am_iload_n rfl dX10_ends__57 ?_
    refine mm_ial dX10_ends__58 (md_ok hm) (by omega) ?_
    rw [Int.toNat_natCast]
    refine am_goto (tgt := 68) dX10_ends__59 (by decide) ?_
    refine am_ist5 dX10_ends__68 (Nat.le_of_ble_eq_true rfl) (am_c1i _) ?_
    refine am_aload_n rfl dX10_ends__70 ?_
    refine am_aload_n rfl dX10_ends__71 ?_
    refine mm_getI dX10_ends__72 fl_X10_237 (md_0 hm) mdf_40 ?_
    refine mm_zne (tgt := 88) dX10_ends__75 (by decide) (by omega) (fun h75 => ?_) (fun h75 => ?_)
    · refine mm_iconst dX10_ends__88 ?_
      refine am_goto (tgt := 93) dX10_ends__89 (by decide) ?_
      refine mm_putZ dX10_ends__93 fp_X10_237 (md_0 hm) mdf_40 (by omega) ?_
      refine am_iload_n rfl dX10_ends__96 ?_
      refine mm_beq (tgt := 114) dX10_ends__97 (by decide) (fun h97 => ?_) (fun h97 => ?_)
      · exact absurd hy h97
      · refine am_aload_n rfl dX10_ends__100 ?_
        refine mm_getR dX10_ends__101 fl_X10_90 (md_0 hm) mdf_32 ?_
        refine am_iload_n rfl dX10_ends__104 ?_
        refine am_dup2_11 rfl rfl dX10_ends__105 ?_
        refine mm_ial dX10_ends__106 (md_ok hm) (by omega) ?_
        rw [Int.toNat_natCast, up2_rd (by omega)]
        refine am_iload rfl dX10_ends__107 ?_
        refine mm_ior dX10_ends__109 (by omega) ⟨by have := pow2_e het; omega, by have := pow2_e het; omega⟩ ?_
        rw [or_orB]
        refine mm_ias dX10_ends__110 (md_ok hm) (by omega) ?_
        rw [Int.toNat_natCast]
        refine am_goto (tgt := 125) dX10_ends__111 (by decide) ?_
        refine am_return dX10_ends__125 rfl ?_
        first
          | (have key := po_bit (q := 207) (g := g) (b := etR (keyM S c) (rgS S)) (m := 1) hI hS hc (by omega) het (hE.2 hl) hbm (Or.inl ⟨rfl, Or.inl (by omega)⟩); exact ⟨rfl, _, rfl, key.1, fun z => absurd z hl, fun _ => key.2⟩)
          | (have key := po_bit (q := 207) (g := g) (b := etR (keyM S c) (rgS S)) (m := 1) hI hS hc (by omega) het (hE.2 hl) hbm (Or.inl ⟨rfl, Or.inr (fun z => h85 (orB_eq (by omega) z))⟩); exact ⟨rfl, _, rfl, key.1, fun z => absurd z hl, fun _ => key.2⟩)
          | (have key := po_bit (q := 207) (g := g) (b := etR (keyM S c) (rgS S)) (m := 0) hI hS hc (by omega) het (hE.2 hl) hbm (Or.inr ⟨rfl, by omega, (or_ne (by omega)).mp h85⟩); exact ⟨rfl, _, rfl, key.1, fun z => absurd z hl, fun _ => key.2⟩)
    · refine am_iload rfl dX10_ends__78 ?_
      refine am_iload rfl dX10_ends__80 ?_
      refine mm_ior dX10_ends__82 (by omega) ⟨by have := pow2_e het; omega, by have := pow2_e het; omega⟩ ?_
      rw [or_orB]
      refine am_iload rfl dX10_ends__83 ?_
      refine mm_jeq (tgt := 92) dX10_ends__85 (by decide) (by have := orB_lt (n := 6) (x := S 207 c) (w := (etR (keyM S c) (rgS S)).toNat) (by omega) (by omega); omega) (by omega) (fun h85 => ?_) (fun h85 => ?_)
      · refine mm_iconst dX10_ends__92 ?_
        refine mm_putZ dX10_ends__93 fp_X10_237 (md_0 hm) mdf_40 (by omega) ?_
        refine am_iload_n rfl dX10_ends__96 ?_
        refine mm_beq (tgt := 114) dX10_ends__97 (by decide) (fun h97 => ?_) (fun h97 => ?_)
        · exact absurd hy h97
        · refine am_aload_n rfl dX10_ends__100 ?_
          refine mm_getR dX10_ends__101 fl_X10_90 (md_0 hm) mdf_32 ?_
          refine am_iload_n rfl dX10_ends__104 ?_
          refine am_dup2_11 rfl rfl dX10_ends__105 ?_
          refine mm_ial dX10_ends__106 (md_ok hm) (by omega) ?_
          rw [Int.toNat_natCast, up2_rd (by omega)]
          refine am_iload rfl dX10_ends__107 ?_
          refine mm_ior dX10_ends__109 (by omega) ⟨by have := pow2_e het; omega, by have := pow2_e het; omega⟩ ?_
          rw [or_orB]
          refine mm_ias dX10_ends__110 (md_ok hm) (by omega) ?_
          rw [Int.toNat_natCast]
          refine am_goto (tgt := 125) dX10_ends__111 (by decide) ?_
          refine am_return dX10_ends__125 rfl ?_
          first
            | (have key := po_bit (q := 207) (g := g) (b := etR (keyM S c) (rgS S)) (m := 1) hI hS hc (by omega) het (hE.2 hl) hbm (Or.inl ⟨rfl, Or.inl (by omega)⟩); exact ⟨rfl, _, rfl, key.1, fun z => absurd z hl, fun _ => key.2⟩)
            | (have key := po_bit (q := 207) (g := g) (b := etR (keyM S c) (rgS S)) (m := 1) hI hS hc (by omega) het (hE.2 hl) hbm (Or.inl ⟨rfl, Or.inr (fun z => h85 (orB_eq (by omega) z))⟩); exact ⟨rfl, _, rfl, key.1, fun z => absurd z hl, fun _ => key.2⟩)
            | (have key := po_bit (q := 207) (g := g) (b := etR (keyM S c) (rgS S)) (m := 0) hI hS hc (by omega) het (hE.2 hl) hbm (Or.inr ⟨rfl, by omega, (or_ne (by omega)).mp h85⟩); exact ⟨rfl, _, rfl, key.1, fun z => absurd z hl, fun _ => key.2⟩)
      · refine mm_iconst dX10_ends__88 ?_
        refine am_goto (tgt := 93) dX10_ends__89 (by decide) ?_
        refine mm_putZ dX10_ends__93 fp_X10_237 (md_0 hm) mdf_40 (by omega) ?_
        refine am_iload_n rfl dX10_ends__96 ?_
        refine mm_beq (tgt := 114) dX10_ends__97 (by decide) (fun h97 => ?_) (fun h97 => ?_)
        · exact absurd hy h97
        · refine am_aload_n rfl dX10_ends__100 ?_
          refine mm_getR dX10_ends__101 fl_X10_90 (md_0 hm) mdf_32 ?_
          refine am_iload_n rfl dX10_ends__104 ?_
          refine am_dup2_11 rfl rfl dX10_ends__105 ?_
          refine mm_ial dX10_ends__106 (md_ok hm) (by omega) ?_
          rw [Int.toNat_natCast, up2_rd (by omega)]
          refine am_iload rfl dX10_ends__107 ?_
          refine mm_ior dX10_ends__109 (by omega) ⟨by have := pow2_e het; omega, by have := pow2_e het; omega⟩ ?_
          rw [or_orB]
          refine mm_ias dX10_ends__110 (md_ok hm) (by omega) ?_
          rw [Int.toNat_natCast]
          refine am_goto (tgt := 125) dX10_ends__111 (by decide) ?_
          refine am_return dX10_ends__125 rfl ?_
          first
            | (have key := po_bit (q := 207) (g := g) (b := etR (keyM S c) (rgS S)) (m := 1) hI hS hc (by omega) het (hE.2 hl) hbm (Or.inl ⟨rfl, Or.inl (by omega)⟩); exact ⟨rfl, _, rfl, key.1, fun z => absurd z hl, fun _ => key.2⟩)
            | (have key := po_bit (q := 207) (g := g) (b := etR (keyM S c) (rgS S)) (m := 1) hI hS hc (by omega) het (hE.2 hl) hbm (Or.inl ⟨rfl, Or.inr (fun z => h85 (orB_eq (by omega) z))⟩); exact ⟨rfl, _, rfl, key.1, fun z => absurd z hl, fun _ => key.2⟩)
            | (have key := po_bit (q := 207) (g := g) (b := etR (keyM S c) (rgS S)) (m := 0) hI hS hc (by omega) het (hE.2 hl) hbm (Or.inr ⟨rfl, by omega, (or_ne (by omega)).mp h85⟩); exact ⟨rfl, _, rfl, key.1, fun z => absurd z hl, fun _ => key.2⟩)
set_option maxRecDepth 100000 in
set_option maxHeartbeats 8000000 in
theorem l_ends8 {sh : List mm_H} {S : mm_S} {L : mm_L} (hm : mdS sh) (hb : mbW S) (hI : imS S L) {X : XT} {F : FT} {W : WT} (hS : SubM S L X F W) {c : Nat} (hc : (c : Int) < S 181 27) (hR : rgV S (keyM S c) (rgS S)) {y : Prop} [Decidable y] {g : Int} (hg : y ∧ g = 0 ∨ ¬ y ∧ g = 8) (hE : enK F W S (keyM S c) (rgS S) g) (hl : ¬ lvM S (rgS S)) (hy : ¬ y) (hgg : g = 8) (h03 : True) : am_AW eX10_ends_ (mm sh S L) 47 [some (.ref 181), some (.int (iI (c : Int))), some (.int (iI (b2 y))), some (.int (iI (S 204 c))), none, none] [.int (iI (1 * 2 ^ (etR (keyM S c) (rgS S)).toNat))] (fun r0 M' => r0 = none ∧ ∃ S', M' = mm sh S' L ∧ poM S L X F W S' L ∧ (enK (FM S') (WM S') S (keyM S c) (rgS S) g)) := by
  have het := et_R hR hb.1
  have hbm := et_bm hR
  have hcs := hI.1
  have hc27 := hI.1.1
  have hcc := hcs.2 c hc
  have hκ := (hI.2.1 c hc).1
  have hr9 : (((S 204 c).toNat : Nat) : Int) < S 181 9 := hκ.2.1
  have hrw := hb.2.2.2.2 (S 204 c).toNat hr9
  have h24 := hb.1.2.2.2.2 (S 204 c).toNat (by omega)
  have hc40 : c < 40 := by omega
  have er204 : S 204 c = (((S 204 c).toNat : Nat) : Int) := by omega
  have hrr := rgB_S hR.1
  have hf := hI.2.2.2.2.2
  have k2 := (hI.2.1 c hc).2.1
  refine am_ist4 dX10_ends__47 (Nat.le_of_ble_eq_true rfl) (am_c1i _) ?_
  refine am_iload_n rfl dX10_ends__49 ?_
  refine mm_beq (tgt := 62) dX10_ends__50 (by decide) (fun h50 => ?_) (fun h50 => ?_)
  · refine am_aload_n rfl dX10_ends__62 ?_
    refine mm_getR dX10_ends__63 fl_X10_93 (md_0 hm) mdf_33 ?_
    refine am_iload_n rfl dX10_ends__66 ?_
    refine mm_ial dX10_ends__67 (md_failing hm) (by omega) ?_
    rw [Int.toNat_natCast]
    refine am_ist5 dX10_ends__68 (Nat.le_of_ble_eq_true rfl) (am_c1i _) ?_
    refine am_aload_n rfl dX10_ends__70 ?_
    refine am_aload_n rfl dX10_ends__71 ?_
    refine mm_getI dX10_ends__72 fl_X10_237 (md_0 hm) mdf_40 ?_
    refine mm_zne (tgt := 88) dX10_ends__75 (by decide) (by omega) (fun h75 => ?_) (fun h75 => ?_)
    · refine mm_iconst dX10_ends__88 ?_
      refine am_goto (tgt := 93) dX10_ends__89 (by decide) ?_
      refine mm_putZ dX10_ends__93 fp_X10_237 (md_0 hm) mdf_40 (by omega) ?_
      refine am_iload_n rfl dX10_ends__96 ?_
      refine mm_beq (tgt := 114) dX10_ends__97 (by decide) (fun h97 => ?_) (fun h97 => ?_)
      · refine am_aload_n rfl dX10_ends__114 ?_
        refine mm_getR dX10_ends__115 fl_X10_93 (md_0 hm) mdf_33 ?_
        refine am_iload_n rfl dX10_ends__118 ?_
        refine am_dup2_11 rfl rfl dX10_ends__119 ?_
        refine mm_ial dX10_ends__120 (md_failing hm) (by omega) ?_
        rw [Int.toNat_natCast, up2_rd (by omega)]
        refine am_iload rfl dX10_ends__121 ?_
        refine mm_ior dX10_ends__123 (by omega) ⟨by have := pow2_e het; omega, by have := pow2_e het; omega⟩ ?_
        rw [or_orB]
        refine mm_ias dX10_ends__124 (md_failing hm) (by omega) ?_
        rw [Int.toNat_natCast]
        refine am_return dX10_ends__125 rfl ?_
        first
          | (have key := po_bit (q := 208) (g := g) (b := etR (keyM S c) (rgS S)) (m := 1) hI hS hc (by omega) het (hE.2 hl) hbm (Or.inl ⟨rfl, Or.inl (by omega)⟩); exact ⟨rfl, _, rfl, key.1, fun z => absurd z hl, fun _ => key.2⟩)
          | (have key := po_bit (q := 208) (g := g) (b := etR (keyM S c) (rgS S)) (m := 1) hI hS hc (by omega) het (hE.2 hl) hbm (Or.inl ⟨rfl, Or.inr (fun z => h85 (orB_eq (by omega) z))⟩); exact ⟨rfl, _, rfl, key.1, fun z => absurd z hl, fun _ => key.2⟩)
          | (have key := po_bit (q := 208) (g := g) (b := etR (keyM S c) (rgS S)) (m := 0) hI hS hc (by omega) het (hE.2 hl) hbm (Or.inr ⟨rfl, by omega, (or_ne (by omega)).mp h85⟩); exact ⟨rfl, _, rfl, key.1, fun z => absurd z hl, fun _ => key.2⟩)
      · exact absurd h97 hy
    · refine am_iload rfl dX10_ends__78 ?_
      refine am_iload rfl dX10_ends__80 ?_
      refine mm_ior dX10_ends__82 (by omega) ⟨by have := pow2_e het; omega, by have := pow2_e het; omega⟩ ?_
      rw [or_orB]
      refine am_iload rfl dX10_ends__83 ?_
      refine mm_jeq (tgt := 92) dX10_ends__85 (by decide) (by have := orB_lt (n := 6) (x := S 208 c) (w := (etR (keyM S c) (rgS S)).toNat) (by omega) (by omega); omega) (by omega) (fun h85 => ?_) (fun h85 => ?_)
      · refine mm_iconst dX10_ends__92 ?_
        refine mm_putZ dX10_ends__93 fp_X10_237 (md_0 hm) mdf_40 (by omega) ?_
        refine am_iload_n rfl dX10_ends__96 ?_
        refine mm_beq (tgt := 114) dX10_ends__97 (by decide) (fun h97 => ?_) (fun h97 => ?_)
        · refine am_aload_n rfl dX10_ends__114 ?_
          refine mm_getR dX10_ends__115 fl_X10_93 (md_0 hm) mdf_33 ?_
          refine am_iload_n rfl dX10_ends__118 ?_
          refine am_dup2_11 rfl rfl dX10_ends__119 ?_
          refine mm_ial dX10_ends__120 (md_failing hm) (by omega) ?_
          rw [Int.toNat_natCast, up2_rd (by omega)]
          refine am_iload rfl dX10_ends__121 ?_
          refine mm_ior dX10_ends__123 (by omega) ⟨by have := pow2_e het; omega, by have := pow2_e het; omega⟩ ?_
          rw [or_orB]
          refine mm_ias dX10_ends__124 (md_failing hm) (by omega) ?_
          rw [Int.toNat_natCast]
          refine am_return dX10_ends__125 rfl ?_
          first
            | (have key := po_bit (q := 208) (g := g) (b := etR (keyM S c) (rgS S)) (m := 1) hI hS hc (by omega) het (hE.2 hl) hbm (Or.inl ⟨rfl, Or.inl (by omega)⟩); exact ⟨rfl, _, rfl, key.1, fun z => absurd z hl, fun _ => key.2⟩)
            | (have key := po_bit (q := 208) (g := g) (b := etR (keyM S c) (rgS S)) (m := 1) hI hS hc (by omega) het (hE.2 hl) hbm (Or.inl ⟨rfl, Or.inr (fun z => h85 (orB_eq (by omega) z))⟩); exact ⟨rfl, _, rfl, key.1, fun z => absurd z hl, fun _ => key.2⟩)
            | (have key := po_bit (q := 208) (g := g) (b := etR (keyM S c) (rgS S)) (m := 0) hI hS hc (by omega) het (hE.2 hl) hbm (Or.inr ⟨rfl, by omega, (or_ne (by omega)).mp h85⟩); exact ⟨rfl, _, rfl, key.1, fun z => absurd z hl, fun _ => key.2⟩)
        · exact absurd h97 hy
      · refine mm_iconst dX10_ends__88 ?_
        refine am_goto (tgt := 93) dX10_ends__89 (by decide) ?_
        refine mm_putZ dX10_ends__93 fp_X10_237 (md_0 hm) mdf_40 (by omega) ?_
        refine am_iload_n rfl dX10_ends__96 ?_
        refine mm_beq (tgt := 114) dX10_ends__97 (by decide) (fun h97 => ?_) (fun h97 => ?_)
        · refine am_aload_n rfl dX10_ends__114 ?_
          refine mm_getR dX10_ends__115 fl_X10_93 (md_0 hm) mdf_33 ?_
          refine am_iload_n rfl dX10_ends__118 ?_
          refine am_dup2_11 rfl rfl dX10_ends__119 ?_
          refine mm_ial dX10_ends__120 (md_failing hm) (by omega) ?_
          rw [Int.toNat_natCast, up2_rd (by omega)]
          refine am_iload rfl dX10_ends__121 ?_
          refine mm_ior dX10_ends__123 (by omega) ⟨by have := pow2_e het; omega, by have := pow2_e het; omega⟩ ?_
          rw [or_orB]
          refine mm_ias dX10_ends__124 (md_failing hm) (by omega) ?_
          rw [Int.toNat_natCast]
          refine am_return dX10_ends__125 rfl ?_
          first
            | (have key := po_bit (q := 208) (g := g) (b := etR (keyM S c) (rgS S)) (m := 1) hI hS hc (by omega) het (hE.2 hl) hbm (Or.inl ⟨rfl, Or.inl (by omega)⟩); exact ⟨rfl, _, rfl, key.1, fun z => absurd z hl, fun _ => key.2⟩)
            | (have key := po_bit (q := 208) (g := g) (b := etR (keyM S c) (rgS S)) (m := 1) hI hS hc (by omega) het (hE.2 hl) hbm (Or.inl ⟨rfl, Or.inr (fun z => h85 (orB_eq (by omega) z))⟩); exact ⟨rfl, _, rfl, key.1, fun z => absurd z hl, fun _ => key.2⟩)
            | (have key := po_bit (q := 208) (g := g) (b := etR (keyM S c) (rgS S)) (m := 0) hI hS hc (by omega) het (hE.2 hl) hbm (Or.inr ⟨rfl, by omega, (or_ne (by omega)).mp h85⟩); exact ⟨rfl, _, rfl, key.1, fun z => absurd z hl, fun _ => key.2⟩)
        · exact absurd h97 hy
  · exact absurd h50 hy
set_option maxRecDepth 100000 in
set_option maxHeartbeats 4000000 in
theorem m_endsP {sh : List mm_H} {S : mm_S} {L : mm_L} (hm : mdS sh) (hb : mbW S) (hI : imS S L) {X : XT} {F : FT} {W : WT} (hS : SubM S L X F W) {c : Nat} (hc : (c : Int) < S 181 27) (hR : rgV S (keyM S c) (rgS S)) {y : Prop} [Decidable y] {g : Int} (hg : y ∧ g = 0 ∨ ¬ y ∧ g = 8) (hE : enK F W S (keyM S c) (rgS S) g) : am_E eX10_ends_ [.ref 181, .int (iI (c : Int)), .int (iI (b2 y))] (mm sh S L) (fun r0 M' => r0 = none ∧ ∃ S', M' = mm sh S' L ∧ poM S L X F W S' L ∧ (enK (FM S') (WM S') S (keyM S c) (rgS S) g)) := by
  have hcs := hI.1
  have hc27 := hI.1.1
  have hcc := hcs.2 c hc
  have hκ := (hI.2.1 c hc).1
  have hr9 : (((S 204 c).toNat : Nat) : Int) < S 181 9 := hκ.2.1
  have hrw := hb.2.2.2.2 (S 204 c).toNat hr9
  have h24 := hb.1.2.2.2.2 (S 204 c).toNat (by omega)
  have hc40 : c < 40 := by omega
  have er204 : S 204 c = (((S 204 c).toNat : Nat) : Int) := by omega
  have hrr := rgB_S hR.1
  have hf := hI.2.2.2.2.2
  have k2 := (hI.2.1 c hc).2.1
  refine am_enter rfl rfl (Nat.le_of_ble_eq_true rfl) ?_
  refine am_aload_n rfl dX10_ends__0 ?_
  refine mm_getR dX10_ends__1 fl_X10_81 (md_0 hm) mdf_29 ?_
  refine am_iload_n rfl dX10_ends__4 ?_
  refine mm_ial dX10_ends__5 (md_caseRoutine hm) (by omega) ?_
  rw [Int.toNat_natCast]
  refine am_ist3 dX10_ends__6 (Nat.le_of_ble_eq_true rfl) (am_c1i _) ?_
  refine am_aload_n rfl dX10_ends__7 ?_
  refine am_cxi (mm_V0 dX10_ends__8 in_X10_leavesSome mk_X10_257 im_X10_leavesSome sl_X10_leavesSome ⟨Nat.le_of_ble_eq_true rfl, Nat.le_of_ble_eq_true rfl⟩ rfl (md_0 hm) (Nat.le_of_ble_eq_true rfl)) (m_leavesSome hm hb.1 hrr) (fun x M1 hq => ?_)
  obtain ⟨v, rfl, hx, rfl⟩ := hq
  have hx01 := tells_01 hx
  refine mm_zeq (tgt := 27) dX10_ends__11 (by decide) (by omega) (fun h11 => ?_) (fun h11 => ?_)
  · refine am_aload_n rfl dX10_ends__27 ?_
    refine mm_getR dX10_ends__28 fl_X10_78 (md_0 hm) mdf_28 ?_
    refine am_iload_n rfl dX10_ends__31 ?_
    refine mm_ial dX10_ends__32 (md_caseSort hm) (by omega) ?_
    rw [Int.toNat_natCast]
    refine mm_iconst dX10_ends__33 ?_
    refine mm_jne (tgt := 46) dX10_ends__34 (by decide) (by omega) (by omega) (fun h34 => ?_) (fun h34 => ?_)
    · refine mm_iconst dX10_ends__46 ?_
      first
        | (have ee : (1 * 2 ^ (S 181 22).toNat : Int) = 1 * 2 ^ (etR (keyM S c) (rgS S)).toNat := by unfold etR; rw [if_pos h34]; rfl
           rw [ee]
           by_cases hy : y
           · exact l_ends0 hm hb hI hS hc hR hg hE (tells_f hx h11) hy (by rcases hg with z | z; exact z.2; exact absurd hy z.1) trivial
           · exact l_ends8 hm hb hI hS hc hR hg hE (tells_f hx h11) hy (by rcases hg with z | z; exact absurd z.1 hy; exact z.2) trivial)
        | (have ee : (1 : Int) = 1 * 2 ^ (etR (keyM S c) (rgS S)).toNat := by unfold etR; rw [if_neg h34]; rfl
           rw [show iI 1 = iI (1 * 2 ^ (etR (keyM S c) (rgS S)).toNat) from congrArg iI ee]
           by_cases hy : y
           · exact l_ends0 hm hb hI hS hc hR hg hE (tells_f hx h11) hy (by rcases hg with z | z; exact z.2; exact absurd hy z.1) trivial
           · exact l_ends8 hm hb hI hS hc hR hg hE (tells_f hx h11) hy (by rcases hg with z | z; exact absurd z.1 hy; exact z.2) trivial)
    · refine mm_iconst dX10_ends__37 ?_
      refine am_aload_n rfl dX10_ends__38 ?_
      refine mm_getI dX10_ends__39 fl_X10_222 (md_0 hm) mdf_22 ?_
      have hle : 0 ≤ S 181 22 ∧ S 181 22 < 6 := by
        have := et_R hR hb.1
        unfold etR at this
        rw [if_pos h34] at this
        exact this
      refine mm_ishl dX10_ends__42 ⟨by omega, by have := pow2_e (b := S 181 22) hle; omega⟩ (by omega) ?_
      refine am_goto (tgt := 47) dX10_ends__43 (by decide) ?_
      first
        | (have ee : (1 * 2 ^ (S 181 22).toNat : Int) = 1 * 2 ^ (etR (keyM S c) (rgS S)).toNat := by unfold etR; rw [if_pos h34]; rfl
           rw [ee]
           by_cases hy : y
           · exact l_ends0 hm hb hI hS hc hR hg hE (tells_f hx h11) hy (by rcases hg with z | z; exact z.2; exact absurd hy z.1) trivial
           · exact l_ends8 hm hb hI hS hc hR hg hE (tells_f hx h11) hy (by rcases hg with z | z; exact absurd z.1 hy; exact z.2) trivial)
        | (have ee : (1 : Int) = 1 * 2 ^ (etR (keyM S c) (rgS S)).toNat := by unfold etR; rw [if_neg h34]; rfl
           rw [show iI 1 = iI (1 * 2 ^ (etR (keyM S c) (rgS S)).toNat) from congrArg iI ee]
           by_cases hy : y
           · exact l_ends0 hm hb hI hS hc hR hg hE (tells_f hx h11) hy (by rcases hg with z | z; exact z.2; exact absurd hy z.1) trivial
           · exact l_ends8 hm hb hI hS hc hR hg hE (tells_f hx h11) hy (by rcases hg with z | z; exact absurd z.1 hy; exact z.2) trivial)
  · refine am_aload_n rfl dX10_ends__14 ?_
    refine am_iload_n rfl dX10_ends__15 ?_
    refine am_aload_n rfl dX10_ends__16 ?_
    refine mm_getR dX10_ends__17 fl_X10_36 (md_0 hm) mdf_10 ?_
    refine am_iload_n rfl dX10_ends__20 ?_
    refine mm_ial dX10_ends__21 (md_many hm) (by omega) ?_
    rw [show (S 189 (S 204 c).toNat) = ((mN S (S 204 c).toNat : Nat) : Int) by unfold mN; omega]
    refine mm_iconst dX10_ends__22 ?_
    refine am_cxv (mm_V3 dX10_ends__23 in_X10_wrong mk_X10_261 im_X10_wrong sl_X10_wrong ⟨Nat.le_of_ble_eq_true rfl, Nat.le_of_ble_eq_true rfl⟩ rfl (md_0 hm) (Nat.le_of_ble_eq_true rfl)) (m_wrongP (X := X) (F := F) (W := W) (pl := mN S (S 204 c).toNat) (w := 5) hm hb hI hS hc (by unfold mN; omega) (by omega) (hE.1 (tells_t hx h11))) (fun M1 hq => ?_)
    obtain ⟨S1, rfl, hpo, hwm⟩ := hq
    refine am_return dX10_ends__26 rfl ?_
    exact ⟨rfl, S1, rfl, hpo, fun _ => hwm, fun z => absurd (tells_t hx h11) z⟩
theorem it_ot {S : mm_S} {κ : kyT} {R : rgT} (hm : mrC S κ.2.1) (hv : 0 ≤ S 189 κ.2.1) (hR : rgV S κ R) {pl : Nat} {how : Int} (hh : how = 1 ∨ how = 2) (ht : tryM S κ.2.1 pl ≠ -1) : itV S κ (otR S κ.2.1 pl how R).2.1 (otR S κ.2.1 pl how R).2.2 ∧ (otR S κ.2.1 pl how R).1 = 1 ∧ (tryM S κ.2.1 pl).toNat < mN S κ.2.1 ∧ 0 ≤ tryM S κ.2.1 pl ∧ mSo S κ.2.1 (tryM S κ.2.1 pl).toNat = 14 ∧ (stk (mSo S κ.2.1) (tryM S κ.2.1 pl).toNat).length < 6 ∧ (0 ≤ midO (mSo S κ.2.1) (mN S κ.2.1) (tryM S κ.2.1 pl).toNat ∧ midO (mSo S κ.2.1) (mN S κ.2.1) (tryM S κ.2.1 pl).toNat ≤ mN S κ.2.1) := by
  obtain ⟨c1, c2, c3, c4⟩ := hm
  have hR1 := trA_R (mSo S κ.2.1) (midO (mSo S κ.2.1) (mN S κ.2.1)) pl (mN S κ.2.1)
  unfold otR
  rw [if_pos ht]
  obtain ⟨o, ho⟩ : ∃ o : Nat, tryM S κ.2.1 pl = o := ⟨(tryM S κ.2.1 pl).toNat, by unfold tryM at ht ⊢; omega⟩
  rw [ho, Int.toNat_natCast]
  have hsp : o < mN S κ.2.1 ∧ mSo S κ.2.1 o = 14 ∧ (o : Int) < pl ∧ (pl : Int) < midO (mSo S κ.2.1) (mN S κ.2.1) o := by
    rcases trA_sp (mSo S κ.2.1) (midO (mSo S κ.2.1) (mN S κ.2.1)) pl (mN S κ.2.1) with ⟨g, -⟩ | ⟨q, g1, g2, g3, -⟩
    · exact absurd g ht
    · have : q = o := by unfold tryM at ho; omega
      subst this
      exact ⟨g1, g3⟩
  have hmid := blk_mid c1 c2 (Or.inr hsp.2.1) hsp.1 (by omega)
  have hend := blk_end c1 c2 (Or.inr hsp.2.1) hsp.1
  have har : arA (mSo S κ.2.1) o = ((stk (mSo S κ.2.1) o).length : Int) := by unfold arA; rw [if_neg (by omega)]
  have hl6 : (stk (mSo S κ.2.1) o).length < 6 := (c1 o hsp.1).2.1 (Or.inr hsp.2.1)
  have hN : ((mN S κ.2.1 : Nat) : Int) = S 189 κ.2.1 := by unfold mN; omega
  refine ⟨⟨rg_pend hR (fun k hk => ?_), ⟨by show 0 ≤ midO _ _ _; omega, by show midO _ _ _ ≤ _; omega⟩, fun k hk hne => ?_⟩, rfl, hsp.1, by omega, hsp.2.1, hl6, by omega, by omega⟩
  · show 0 ≤ ud (mvP S κ.2.1 _ R.2.2.2) (arA (mSo S κ.2.1) o).toNat how k ∧ ud (mvP S κ.2.1 _ R.2.2.2) (arA (mSo S κ.2.1) o).toNat how k ≤ 2
    unfold ud
    split
    · omega
    · exact mv_R hR k hk
  · have hne : ud (mvP S κ.2.1 (midO (mSo S κ.2.1) (mN S κ.2.1) o) R.2.2.2) (arA (mSo S κ.2.1) o).toNat how k ≠ 0 := hne
    show inL S κ.2.1 (midO (mSo S κ.2.1) (mN S κ.2.1) o) k
    by_cases e : k = (arA (mSo S κ.2.1) o).toNat
    · exact ⟨o, hsp.1, hsp.2.1, by rw [e, har]; omega, Int.le_refl _, by omega⟩
    · rw [ud_ne e] at hne
      rcases mv_in (S := S) (r := κ.2.1) (w := midO (mSo S κ.2.1) (mN S κ.2.1) o) (P := R.2.2.2) hk with ⟨-, q⟩ | q
      · exact q
      · exact absurd q hne
theorem fo1 {S S1 S2 : mm_S} {L2 : mm_L} {κ κ1 : kyT} {z : Int × Int × rgT} {R : rgT} {D : Nat} {n : Int} (eo : z = (1, (D : Int), R)) (hk : κ1 = κ) (hr : rgS S1 = R) (hx : XM S2 L2 κ1 (D : Int).toNat (pkM (rgS S1)) ∨ (n = 2000 ∧ S2 181 39 = 1)) (e : S2 181 39 = 0) : otK (XM S2 L2) (FM S2) (WM S2) S κ z := by
  rw [eo, otK_1, ← hk, ← hr]
  rcases hx with q | q
  · exact q
  · omega
theorem fo2 {S S2 : mm_S} {L2 : mm_L} {r pl : Nat} {κ : kyT} {how : Int} {R : rgT} (h20 : tryM S r pl = -1) (h75 : how = 1) (hN : ((mN S r : Nat) : Int) = S 189 r) (hx : XM S2 L2 κ (S 189 r).toNat (pkM (gtR S r (S 189 r) R).2.2)) : otK (XM S2 L2) (FM S2) (WM S2) S κ (otR S r pl how R) := by
  unfold otR
  rw [if_neg (fun z => z h20), if_pos h75, hN, otK_1]
  exact hx
theorem fo3 {S S2 : mm_S} {L2 : mm_L} {r pl : Nat} {κ : kyT} {how : Int} {R : rgT} (h20 : tryM S r pl = -1) (h75 : how ≠ 1) (hx : enK (FM S2) (WM S2) S κ R 8) : otK (XM S2 L2) (FM S2) (WM S2) S κ (otR S r pl how R) := by
  unfold otR
  rw [if_neg (fun z => z h20), if_neg h75, otK_0]
  exact hx
theorem mrW_C {S : mm_S} {r : Nat} (h : mrW S r) : mrC S r := ⟨h.1, h.2.1, h.2.2.2.1, h.2.2.2.2⟩
set_option maxRecDepth 100000 in
set_option maxHeartbeats 4000000 in
theorem m_out {sh : List mm_H} {S : mm_S} {L : mm_L} (hm : mdS sh) (hb : mbW S) (hI : imS S L) {X : XT} {F : FT} {W : WT} (hS : SubM S L X F W) {c : Nat} (hc : (c : Int) < S 181 27) (hR : rgV S (keyM S c) (rgS S)) {pl : Nat} (hp : pl < mN S (S 204 c).toNat) {how : Int} (hh : how = 1 ∨ how = 2) (hE : otK X F W S (keyM S c) (otR S (S 204 c).toNat pl how (rgS S))) : am_E eX10_out [.ref 181, .int (iI (c : Int)), .int (iI (pl : Int)), .int (iI how)] (mm sh S L) (fun r0 M' => r0 = none ∧ ∃ S' L', M' = mm sh S' L' ∧ poM S L X F W S' L' ∧ (S' 181 39 = 0 → otK (XM S' L') (FM S') (WM S') S (keyM S c) (otR S (S 204 c).toNat pl how (rgS S)))) := by
  have hcs := hI.1
  have hc27 := hI.1.1
  have hcc := hcs.2 c hc
  have hκ := (hI.2.1 c hc).1
  have hr9 : (((S 204 c).toNat : Nat) : Int) < S 181 9 := hκ.2.1
  have hrw := hb.2.2.2.2 (S 204 c).toNat hr9
  have h24 := hb.1.2.2.2.2 (S 204 c).toNat (by omega)
  have hc40 : c < 40 := by omega
  have er204 : S 204 c = (((S 204 c).toNat : Nat) : Int) := by omega
  have hN : ((mN S (S 204 c).toNat : Nat) : Int) = S 189 (S 204 c).toNat := by unfold mN; omega
  have hrr := rgB_S hR.1
  have hT := trA_R (mSo S (S 204 c).toNat) (midO (mSo S (S 204 c).toNat) (mN S (S 204 c).toNat)) pl (mN S (S 204 c).toNat)
  have hT : -1 ≤ tryM S (S 204 c).toNat pl ∧ tryM S (S 204 c).toNat pl < mN S (S 204 c).toNat := hT
  refine am_enter rfl rfl (Nat.le_of_ble_eq_true rfl) ?_
  refine am_aload_n rfl dX10_out_0 ?_
  refine mm_getR dX10_out_1 fl_X10_81 (md_0 hm) mdf_29 ?_
  refine am_iload_n rfl dX10_out_4 ?_
  refine mm_ial dX10_out_5 (md_caseRoutine hm) (by omega) ?_
  rw [Int.toNat_natCast, show iI (S 204 c) = iI (((S 204 c).toNat : Nat) : Int) from congrArg iI er204]
  refine am_ist4 dX10_out_6 (Nat.le_of_ble_eq_true rfl) (am_c1i _) ?_
  refine am_aload_n rfl dX10_out_8 ?_
  refine am_iload rfl dX10_out_9 ?_
  refine am_iload_n rfl dX10_out_11 ?_
  refine am_ci (mm_V2 dX10_out_12 in_X10_tryAround mk_X10_265 im_X10_tryAround sl_X10_tryAround ⟨Nat.le_of_ble_eq_true rfl, Nat.le_of_ble_eq_true rfl⟩ rfl (md_0 hm) (Nat.le_of_ble_eq_true rfl)) (m_tryAround hm (by omega) h24.2 hrw h24.1 (by omega)) ?_
  refine am_ist5 dX10_out_15 (Nat.le_of_ble_eq_true rfl) (am_c1i _) ?_
  refine am_iload rfl dX10_out_17 ?_
  refine mm_iconst dX10_out_19 ?_
  refine mm_jeq (tgt := 73) dX10_out_20 (by decide) (by omega) (by omega) (fun h20 => ?_) (fun h20 => ?_)
  · refine am_iload_n rfl dX10_out_73 ?_
    refine mm_iconst dX10_out_74 ?_
    refine mm_jne (tgt := 93) dX10_out_75 (by decide) (by omega) (by omega) (fun h75 => ?_) (fun h75 => ?_)
    · refine am_aload_n rfl dX10_out_93 ?_
      refine am_iload_n rfl dX10_out_94 ?_
      refine mm_iconst dX10_out_95 ?_
      rw [← b2_f (p := False) (fun z => z)]
      refine am_cxv (mm_V2 dX10_out_96 in_X10_ends_ mk_X10_271 im_X10_ends_ sl_X10_ends_ ⟨Nat.le_of_ble_eq_true rfl, Nat.le_of_ble_eq_true rfl⟩ rfl (md_0 hm) (Nat.le_of_ble_eq_true rfl)) (m_endsP (X := X) (F := F) (W := W) (y := False) (g := 8) hm hb hI hS hc hR (Or.inr ⟨fun z => z, rfl⟩) (by have hE := hE; unfold otR at hE; rw [if_neg (fun z => z h20), if_neg h75, otK_0] at hE; exact hE)) (fun M2 hq2 => ?_)
      obtain ⟨S2, rfl, hpo, hx⟩ := hq2
      refine am_return dX10_out_99 rfl ?_
      first
        | (refine ⟨rfl, S2, L2, rfl, poM_tr (poM_rg hF2 hI hS) hpo, fun e => ?_⟩; exact fo1 eo hk2 hrg2 hx e)
        | (refine ⟨rfl, S2, L, rfl, hpo, fun _ => ?_⟩; exact fo3 h20 h75 hx)
        | exact ⟨rfl, S2, L2, rfl, hpo, fun e => fo2 h20 h75 hN (hx e)⟩
    · refine am_aload_n rfl dX10_out_78 ?_
      refine am_iload_n rfl dX10_out_79 ?_
      refine am_aload_n rfl dX10_out_80 ?_
      refine mm_getR dX10_out_81 fl_X10_36 (md_0 hm) mdf_10 ?_
      refine am_iload rfl dX10_out_84 ?_
      refine mm_ial dX10_out_86 (md_many hm) (by omega) ?_
      refine am_cxv (mm_V2 dX10_out_87 in_X10_goes mk_X10_268 im_X10_goes sl_X10_goes ⟨Nat.le_of_ble_eq_true rfl, Nat.le_of_ble_eq_true rfl⟩ rfl (md_0 hm) (Nat.le_of_ble_eq_true rfl)) (m_goes (X := X) (F := F) (W := W) (to := S 189 (S 204 c).toNat) hm hb hI hS hc (by omega) hR (by have hE := hE; unfold otR at hE; rw [if_neg (fun z => z h20), if_pos h75, hN, otK_1] at hE; exact hE)) (fun M2 hq2 => ?_)
      obtain ⟨S2, L2, rfl, hpo, hx⟩ := hq2
      refine am_goto (tgt := 99) dX10_out_90 (by decide) ?_
      refine am_return dX10_out_99 rfl ?_
      first
        | (refine ⟨rfl, S2, L2, rfl, poM_tr (poM_rg hF2 hI hS) hpo, fun e => ?_⟩; exact fo1 eo hk2 hrg2 hx e)
        | (refine ⟨rfl, S2, L, rfl, hpo, fun _ => ?_⟩; exact fo3 h20 h75 hx)
        | exact ⟨rfl, S2, L2, rfl, hpo, fun e => fo2 h20 h75 hN (hx e)⟩
  · have io := it_ot (κ := keyM S c) (mrW_C hrw) h24.1 hR (pl := pl) hh h20
    obtain ⟨i1, i2, i3, i4, i5, i6, i7⟩ := io
    have i3 : (tryM S (S 204 c).toNat pl).toNat < mN S (S 204 c).toNat := i3
    have i4 : 0 ≤ tryM S (S 204 c).toNat pl := i4
    have i5 : mSo S (S 204 c).toNat (tryM S (S 204 c).toNat pl).toNat = 14 := i5
    have i6 : (stk (mSo S (S 204 c).toNat) (tryM S (S 204 c).toNat pl).toNat).length < 6 := i6
    have i7 : 0 ≤ midO (mSo S (S 204 c).toNat) (mN S (S 204 c).toNat) (tryM S (S 204 c).toNat pl).toNat ∧ midO (mSo S (S 204 c).toNat) (mN S (S 204 c).toNat) (tryM S (S 204 c).toNat pl).toNat ≤ mN S (S 204 c).toNat := i7
    obtain ⟨t, ht⟩ : ∃ t : Nat, (tryM S (S 204 c).toNat pl).toNat = t := ⟨_, rfl⟩
    rw [ht] at i3 i5 i6 i7
    rw [show tryM S (S 204 c).toNat pl = (t : Int) by omega]
    have gmid : S 194 (25 * (S 204 c).toNat + t) = midO (mSo S (S 204 c).toNat) (mN S (S 204 c).toNat) t := (wk_mid hrw t i3 (Or.inr i5)).1
    have gar : S 196 (25 * (S 204 c).toNat + t) = ((stk (mSo S (S 204 c).toNat) t).length : Int) := by
      have := (wk_ar hrw t i3).2
      rw [show S 196 (25 * (S 204 c).toNat + t) = mAr S (S 204 c).toNat t from rfl, this]
      unfold arA
      rw [if_neg (by omega)]
    obtain ⟨D, hD⟩ : ∃ D : Nat, midO (mSo S (S 204 c).toNat) (mN S (S 204 c).toNat) t = D := ⟨(midO (mSo S (S 204 c).toNat) (mN S (S 204 c).toNat) t).toNat, by omega⟩
    obtain ⟨l, hl⟩ : ∃ l : Nat, (stk (mSo S (S 204 c).toNat) t).length = l := ⟨_, rfl⟩
    rw [hD] at gmid i7
    rw [hl] at gar i6
    have eo : otR S (S 204 c).toNat pl how (rgS S) = (1, (D : Int), ((rgS S).1, (rgS S).2.1, (rgS S).2.2.1, ud (mvP S (S 204 c).toNat D (rgS S).2.2.2) l how)) := by
      unfold otR
      rw [if_pos h20, ht, hD]
      unfold arA
      rw [if_neg (by omega), hl, Int.toNat_natCast]
    refine mm_bipush dX10_out_23 (by decide) ?_
    refine am_iload rfl dX10_out_25 ?_
    refine mm_imul dX10_out_27 ?_
    refine am_iload rfl dX10_out_28 ?_
    refine mm_iadd dX10_out_30 ?_
    rw [show (25 * (((S 204 c).toNat : Nat) : Int) + (t : Int)) = ((25 * (S 204 c).toNat + t : Nat) : Int) by omega]
    refine am_ist6 dX10_out_31 (Nat.le_of_ble_eq_true rfl) (am_c1i _) ?_
    refine am_aload_n rfl dX10_out_33 ?_
    refine am_iload_n rfl dX10_out_34 ?_
    refine am_aload_n rfl dX10_out_35 ?_
    refine mm_getR dX10_out_36 fl_X10_51 (md_0 hm) mdf_15 ?_
    refine am_iload rfl dX10_out_39 ?_
    refine mm_ial dX10_out_41 (md_midAt hm) (by omega) ?_
    rw [Int.toNat_natCast, gmid]
    refine am_cxv (mm_V2 dX10_out_42 in_X10_moves mk_X10_251 im_X10_moves sl_X10_moves ⟨Nat.le_of_ble_eq_true rfl, Nat.le_of_ble_eq_true rfl⟩ rfl (md_0 hm) (Nat.le_of_ble_eq_true rfl)) (m_moves hm (r := (S 204 c).toNat) (by omega) h24.2 hrw h24.1 (to := (D : Int)) (by omega) hrr.2.2.2 hc40 er204) (fun M1 hq => ?_)
    obtain ⟨S1, rfl, hmv⟩ := hq
    have hF := rgF_mv hmv
    have hrg := mvF_rg hrw hmv
    have hP1 := mvF_R hmv hrr.2.2.2
    refine am_aload_n rfl dX10_out_45 ?_
    refine mm_getR dX10_out_46 fl_X10_69 (md_0 hm) mdf_23 ?_
    refine am_aload_n rfl dX10_out_49 ?_
    refine mm_getR dX10_out_50 fl_X10_57 (md_0 hm) mdf_17 ?_
    refine am_iload rfl dX10_out_53 ?_
    refine mm_ial dX10_out_55 (md_around hm) (by omega) ?_
    rw [Int.toNat_natCast, hF.1 196 (by omega) (by omega), gar]
    refine am_iload_n rfl dX10_out_56 ?_
    refine mm_ias dX10_out_57 (md_pend hm) (by omega) ?_
    rw [Int.toNat_natCast]
    have hF2 : rgF S (up2 S1 200 l how) := rgF_tr hF (rgF_up (by omega))
    have hk2 : keyM (up2 S1 200 l how) c = keyM S c := rgF_key hF2 c
    have hrg2 : rgS (up2 S1 200 l how) = ((rgS S).1, (rgS S).2.1, (rgS S).2.2.1, ud (mvP S (S 204 c).toNat D (rgS S).2.2.2) l how) := by
      have e : rgS (up2 S1 200 l how) = ((rgS S1).1, (rgS S1).2.1, (rgS S1).2.2.1, ud (rgS S1).2.2.2 l how) := by
        unfold rgS
        rw [nrm_up (by omega), up2_row (by omega), up2_row (by omega), up2_rd (by omega)]
      rw [e, hrg]
    refine am_aload_n rfl dX10_out_58 ?_
    refine am_iload_n rfl dX10_out_59 ?_
    refine am_aload_n rfl dX10_out_60 ?_
    refine mm_getR dX10_out_61 fl_X10_51 (md_0 hm) mdf_15 ?_
    refine am_iload rfl dX10_out_64 ?_
    refine mm_ial dX10_out_66 (md_midAt hm) (by omega) ?_
    rw [Int.toNat_natCast, hF2.1 194 (by omega) (by omega), gmid]
    refine am_cxv (mm_V2 dX10_out_67 in_X10_add mk_X10_247 im_X10_add sl_X10_add ⟨Nat.le_of_ble_eq_true rfl, Nat.le_of_ble_eq_true rfl⟩ rfl (md_0 hm) (Nat.le_of_ble_eq_true rfl)) (m_add (X := X) (F := F) (W := W) hm (mbW_of (rgF_E hF2) hb) (rgF_I hF2 hI) (rgF_S hF2 hS) (c := c) (by rw [hF2.2 27 (by omega)]; exact hc) (pl := (D : Int)) (by rw [hk2, hrg2]; have i1 := i1; rw [show otR S (keyM S c).2.1 pl how (rgS S) = otR S (S 204 c).toNat pl how (rgS S) from rfl, eo] at i1; exact itV_of (rgF_E hF2) i1) (by rw [hk2, hrg2]; have hE := hE; rw [eo, otK_1] at hE; exact hE)) (fun M2 hq2 => ?_)
    obtain ⟨S2, L2, rfl, hpo, hx⟩ := hq2
    refine am_goto (tgt := 99) dX10_out_70 (by decide) ?_
    refine am_return dX10_out_99 rfl ?_
    first
      | (refine ⟨rfl, S2, L2, rfl, poM_tr (poM_rg hF2 hI hS) hpo, fun e => ?_⟩; exact fo1 eo hk2 hrg2 hx e)
      | (refine ⟨rfl, S2, L, rfl, hpo, fun _ => ?_⟩; exact fo3 h20 h75 hx)
      | exact ⟨rfl, S2, L2, rfl, hpo, fun e => fo2 h20 h75 hN (hx e)⟩
