set_option maxRecDepth 100000 in
set_option maxHeartbeats 4000000 in
theorem c_known {sh : List mm_H} {S : mm_S} {L : mm_L} {p1 p2 p3 n : Nat} (jh : jsH sh) (hpl : plS sh p1 p2 p3 n) (hD : plD p1 p2 p3 n) (hI : imC S L p1 p2 p3 n) {X : XT} {F : FT} {W : WT} (hS : SubC S L p1 X F W) (hb : bkS sh) (hB : cbB S) {i c : Nat} {x : Int} {pl : Nat} {p : Int} (hi : (i : Int) < S 86 0) (hen : enC S L p1 i c x pl p) (hit : itV S (keyC S c) pl (unM p)) (hp : pl < mN S (keyC S c).2.1) (hx : mSo S (keyC S c).2.1 pl = 10 ∨ mSo S (keyC S c).2.1 pl = 11) (hw : wrR S (keyC S c) pl (unM p) = 0) {d : Nat} (hd : (d : Int) < S 85 1) (hq8 : ∀ b : Nat, bt (S (98 + d) 4) b → mSo S (keyC S c).2.1 pl = 10 → 0 ≤ ((b % 8 : Nat) : Int) ∧ ((b % 8 : Nat) : Int) < S 182 (cdR (keyC S c).2.2.1 (unM p) ((unM p).1 (mBb S (keyC S c).2.1 pl).toNat) / 7).toNat) (hE : ∀ b : Nat, bt (S (98 + d) 4) b → otK X F W S (keyC S c) (cbR S (keyC S c) pl (unM p) (8 ≤ b) ((b % 8 : Nat) : Int))) (hN8 : S 86 0 + 16 < 262144) : am_E eX3_comeBackAsKnown [.ref 85, .ref 1, .int (iI (i : Int)), .int (iI (d : Int))] (mm sh S L) (fun r0 M' => r0 = none ∧ ∃ sh' S' L' q1 q2 q3 m, M' = mm sh' S' L' ∧ poC sh S L p1 p2 n X F W sh' S' L' q1 q2 q3 m ∧ S' 86 0 ≤ S 86 0 + 16 ∧ ∀ b : Nat, b < 16 → bt (S (98 + d) 4) b → otK (XC S' L' q1) (FC S') (WC S') S (keyC S c) (cbR S (keyC S c) pl (unM p) (8 ≤ b) ((b % 8 : Nat) : Int))) := by
  have h40 := hI.2.2.1.1
  refine am_enter rfl rfl (Nat.le_of_ble_eq_true rfl) ?_
  refine am_aload_n rfl dX3_comeBackAsKnown_0 ?_
  refine mm_getR dX3_comeBackAsKnown_1 fl_X3_31 jh.1 rfl ?_
  refine am_iload_n rfl dX3_comeBackAsKnown_4 ?_
  refine mm_aal dX3_comeBackAsKnown_5 (fun _ => rfl) jh.2.1 ⟨by omega, by omega, by omega⟩ (show caArr _ = some (98 + d) by rw [Int.toNat_natCast]; exact if_pos (by omega)) ?_
  refine mm_getI dX3_comeBackAsKnown_6 fl_X3_208 (jh.2.2.2.2.2.2.1 d (by omega)) rfl ?_
  refine am_ist4 dX3_comeBackAsKnown_9 (Nat.le_of_ble_eq_true rfl) (am_c1i _) ?_
  refine mm_iconst dX3_comeBackAsKnown_11 ?_
  refine am_ist5 dX3_comeBackAsKnown_12 (Nat.le_of_ble_eq_true rfl) (am_c1i _) ?_
  exact l_known (d := (d : Int)) jh hpl hD hI hS hb hB hi hen hit hp hx hw (hI.2.2.1.2 d hd).2.1 hq8 hE hN8 (fun sh' S' L' q1 q2 q3 m u1 u2 u3 => ⟨rfl, sh', S', L', q1, q2, q3, m, rfl, u1, u2, u3⟩) 17 0 sh S L p1 p2 p3 n (by omega) (by omega) (po_rf hpl hD hI hS) (by omega) (fun b' h => absurd h (Nat.not_lt_zero b'))
