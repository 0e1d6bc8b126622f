/-! ===== the law's cases ===== -/
theorem pr_room {Ym : am_Y} {as : List Value} {M1 : am_M} {r : Option Value} (z : ∃ x : Int32, r = some (.int x) ∧ ∃ sh1 S1 L1, M1 = mm sh1 S1 L1 ∧ SHP sh1 ∧ am_E Ym as (mm sh1 S1 L1) (fun r2 M2 => r2 = some (.int x) ∧ ∃ sh2 S2 L2, M2 = mm sh2 S2 L2 ∧ INV sh2 S2 L2)) : M1.length ≤ 600000 ∧ am_z M1 ≤ 7302250 := by
  obtain ⟨x, -, sh1, S1, L1, rfl, -, r2, M2, ⟨-, sh2, S2, L2, rfl, hI⟩, e1, e2, -⟩ := z
  have := INV_room hI
  exact ⟨Nat.le_trans e1 this.1, Nat.le_trans e2 this.2⟩
theorem pr_roomL {Ym : am_Y} {as : List Value} {M1 : am_M} {r : Option Value} (z : ∃ x : Int64, r = some (.long x) ∧ ∃ sh1 S1 L1, M1 = mm sh1 S1 L1 ∧ SHP sh1 ∧ am_E Ym as (mm sh1 S1 L1) (fun r2 M2 => r2 = some (.long x) ∧ ∃ sh2 S2 L2, M2 = mm sh2 S2 L2 ∧ INV sh2 S2 L2)) : M1.length ≤ 600000 ∧ am_z M1 ≤ 7302250 := by
  obtain ⟨x, -, sh1, S1, L1, rfl, -, r2, M2, ⟨-, sh2, S2, L2, rfl, hI⟩, e1, e2, -⟩ := z
  have := INV_room hI
  exact ⟨Nat.le_trans e1 this.1, Nat.le_trans e2 this.2⟩
theorem pr_room2 {M2 : am_M} {r2 v : Option Value} (z : r2 = v ∧ ∃ sh2 S2 L2, M2 = mm sh2 S2 L2 ∧ INV sh2 S2 L2) : M2.length ≤ 600000 ∧ am_z M2 ≤ 7302250 := by
  obtain ⟨-, sh2, S2, L2, rfl, hI⟩ := z
  exact INV_room hI
section
variable {p : Program} {l : Launch} {e : Env} {s : State} {m : MethodId} {below : List Frame} {meth : Method} {c : Code} {scr Ln : Nat} {xs : Nat → Int32} {D : va_G} {cT : Nat → ClassId} {H : Heap} {locs : List Loc} {la : Array Slot} {i : Nat} {sh : List mm_H} {S : mm_S} {L : mm_L}
theorem lw_nz {kz nn pc tgt : Nat} {st : List Value} {v : Int32} {Q' : State → Prop} {o1 o2 : Int} (hx : p.tables.exec = Jvm.exec) (hb : c.code = code) (d0 : decode code pc = .ok (.ifCond .eq o1, 3)) (d1 : decode code (pc + 3) = .ok (.iconst 1, 1)) (d2 : decode code (pc + 4) = .ok (.goto o2, 3)) (d3 : decode code tgt = .ok (.iconst 0, 1)) (e1 : (pc : Int) + o1 = (tgt : Int)) (e2 : ((pc + 4 : Nat) : Int) + o2 = ((pc + 8 : Nat) : Int)) (e3 : tgt + 1 = pc + 8) (q : W p l e room_1 s m #[Value.ref scr] below meth c H locs kz nn Q' (F0 m (pc + 8) la (.int (iI (b2 (v.toInt ≠ 0))) :: st))) : W p l e room_1 s m #[Value.ref scr] below meth c H locs kz nn Q' (F0 m pc la (.int (iI v.toInt) :: st)) := by
  have hv : iI v.toInt = 0 ↔ v.toInt = 0 := by
    have h9 := Rg32 v
    rw [show (0 : Int32) = iI 0 from rfl]
    exact iI_eq h9 (by decide)
  refine lv_if_eq (tgt := tgt) hx hb d0 e1 (fun h => ?_) (fun h => ?_)
  · refine lv_iconst (v := iI 0) hx hb d3 rfl ?_
    rw [show b2 (v.toInt ≠ 0) = 0 from if_neg (fun z => z (hv.1 h))] at q
    rw [e3]
    exact q
  · refine lv_iconst (v := iI 1) hx hb d1 rfl ?_
    refine lv_goto (tgt := pc + 8) hx hb d2 e2 ?_
    rw [show b2 (v.toInt ≠ 0) = 1 from if_pos (fun z => h (hv.2 z))] at q
    exact q
theorem lg_cmp_self (x : Int64) : lg_cmp x x = 0 := by
  unfold lg_cmp
  simp
set_option maxHeartbeats 1000000 in
theorem lw_c0 (C0 : lw_At p s m meth c scr Ln xs) (hLn : Ln ≤ 3072) (hK : am_K D cT s) (hi : i + 6 ≤ Ln) (hI : INV sh S L) (hP : am_P s.heap.size D cT (mm sh S L) H) (hS : va_S (fun q => s.heap.size ≤ q) s.heap H locs) (hl : lv_has la 4 [(0, .ref scr), (1, .ref (s.heap.size + 0)), (2, .ref (s.heap.size + 181)), (3, .int (iI (i : Int)))]) (kk : ∀ sh2 S2 L2 H2 locs2, INV sh2 S2 L2 → am_P s.heap.size D cT (mm sh2 S2 L2) H2 → va_S (fun q => s.heap.size ≤ q) s.heap H2 locs2 → W p l e room_1 s m #[Value.ref scr] below meth c H2 locs2 (mm sh2 S2 L2).length (am_z (mm sh2 S2 L2)) (lw_Z below #[Value.ref scr] s) (F0 m 972 la [])) : W p l e room_1 s m #[Value.ref scr] below meth c H locs (mm sh S L).length (am_z (mm sh S L)) (lw_Z below #[Value.ref scr] s) (F0 m 140 la []) := by
  obtain ⟨hx, hb, hr, hml, hown, hts, hX, hbl, hlocks, hgv⟩ := id C0
  have h0 := lv_at hl 0 rfl
  have h1 := lv_at hl 1 rfl
  have h2 := lv_at hl 2 rfl
  have h3 := lv_at hl 3 rfl
  refine lv_aload_n hx hb dL_140 rfl h1 ?_
  refine lw_sl (k := 1) C0 hLn hS h0 h3 (by omega) dL_141 dL_142 dL_143 dL_144 dL_145 rfl ?_
  refine lw_sl (k := 2) C0 hLn hS h0 h3 (by omega) dL_146 dL_147 dL_148 dL_149 dL_150 rfl ?_
  refine lw_V (As := [.int (iI (xs (i + 1)).toInt), .int (iI (xs (i + 2)).toInt)]) (st := []) (a := 0) (ci := 9) C0 hK hP hS hl dL_151 in_X9_kind mk_L_13 im_X9_kind sl_X9_kind ⟨Nat.le_of_ble_eq_true rfl, Nat.le_of_ble_eq_true rfl⟩ rfl (mm_get hI.1.1) rfl rfl (Nat.le_of_ble_eq_true rfl) (q_kind hI (Rg32 _) (Rg32 _)) (fun r M1 z => pr_room z) (fun r M1 H1 locs1 z hP1 hS1 => ?_)
  obtain ⟨x, rfl, sh1, S1, L1, rfl, hH1, hE2⟩ := z
  refine lv_aload_n hx hb dL_154 rfl h2 ?_
  refine lw_sl (k := 1) C0 hLn hS1 h0 h3 (by omega) dL_155 dL_156 dL_157 dL_158 dL_159 rfl ?_
  refine lw_sl (k := 2) C0 hLn hS1 h0 h3 (by omega) dL_160 dL_161 dL_162 dL_163 dL_164 rfl ?_
  refine lw_V (As := [.int (iI (xs (i + 1)).toInt), .int (iI (xs (i + 2)).toInt)]) (st := [.int x]) (a := 181) (ci := 10) C0 hK hP1 hS1 hl dL_165 in_X10_kind mk_L_17 im_X10_kind sl_X10_kind ⟨Nat.le_of_ble_eq_true rfl, Nat.le_of_ble_eq_true rfl⟩ rfl (mm_get hH1.2.2.2.2.2.2.1) rfl rfl (Nat.le_of_ble_eq_true rfl) hE2 (fun r M2 z => pr_room2 z) (fun r2 M2 H2 locs2 z hP2 hS2 => ?_)
  obtain ⟨rfl, sh2, S2, L2, rfl, hI2⟩ := z
  refine lv_icmp_eq (tgt := 972) hx hb dL_168 (by decide) (fun _ => kk sh2 S2 L2 H2 locs2 hI2 hP2 hS2) (fun h => absurd rfl h)
set_option maxHeartbeats 1000000 in
theorem lw_c1 (C0 : lw_At p s m meth c scr Ln xs) (hLn : Ln ≤ 3072) (hK : am_K D cT s) (hi : i + 6 ≤ Ln) (hI : INV sh S L) (hP : am_P s.heap.size D cT (mm sh S L) H) (hS : va_S (fun q => s.heap.size ≤ q) s.heap H locs) (hl : lv_has la 4 [(0, .ref scr), (1, .ref (s.heap.size + 0)), (2, .ref (s.heap.size + 181)), (3, .int (iI (i : Int)))]) (kk : ∀ sh2 S2 L2 H2 locs2, INV sh2 S2 L2 → am_P s.heap.size D cT (mm sh2 S2 L2) H2 → va_S (fun q => s.heap.size ≤ q) s.heap H2 locs2 → W p l e room_1 s m #[Value.ref scr] below meth c H2 locs2 (mm sh2 S2 L2).length (am_z (mm sh2 S2 L2)) (lw_Z below #[Value.ref scr] s) (F0 m 972 la [])) : W p l e room_1 s m #[Value.ref scr] below meth c H locs (mm sh S L).length (am_z (mm sh S L)) (lw_Z below #[Value.ref scr] s) (F0 m 173 la []) := by
  obtain ⟨hx, hb, hr, hml, hown, hts, hX, hbl, hlocks, hgv⟩ := id C0
  have h0 := lv_at hl 0 rfl
  have h1 := lv_at hl 1 rfl
  have h2 := lv_at hl 2 rfl
  have h3 := lv_at hl 3 rfl
  refine lv_aload_n hx hb dL_173 rfl h1 ?_
  refine lw_sl (k := 1) C0 hLn hS h0 h3 (by omega) dL_174 dL_175 dL_176 dL_177 dL_178 rfl ?_
  refine lw_sl (k := 2) C0 hLn hS h0 h3 (by omega) dL_179 dL_180 dL_181 dL_182 dL_183 rfl ?_
  refine lw_V (As := [.int (iI (xs (i + 1)).toInt), .int (iI (xs (i + 2)).toInt)]) (st := []) (a := 0) (ci := 9) C0 hK hP hS hl dL_184 in_X9_heir mk_L_18 im_X9_heir sl_X9_heir ⟨Nat.le_of_ble_eq_true rfl, Nat.le_of_ble_eq_true rfl⟩ rfl (mm_get hI.1.1) rfl rfl (Nat.le_of_ble_eq_true rfl) (q_heir hI (Rg32 _) (Rg32 _)) (fun r M1 z => pr_room z) (fun r M1 H1 locs1 z hP1 hS1 => ?_)
  obtain ⟨x, rfl, sh1, S1, L1, rfl, hH1, hE2⟩ := z
  refine lv_aload_n hx hb dL_187 rfl h2 ?_
  refine lw_sl (k := 1) C0 hLn hS1 h0 h3 (by omega) dL_188 dL_189 dL_190 dL_191 dL_192 rfl ?_
  refine lw_sl (k := 2) C0 hLn hS1 h0 h3 (by omega) dL_193 dL_194 dL_195 dL_196 dL_197 rfl ?_
  refine lw_V (As := [.int (iI (xs (i + 1)).toInt), .int (iI (xs (i + 2)).toInt)]) (st := [.int x]) (a := 181) (ci := 10) C0 hK hP1 hS1 hl dL_198 in_X10_heir mk_L_21 im_X10_heir sl_X10_heir ⟨Nat.le_of_ble_eq_true rfl, Nat.le_of_ble_eq_true rfl⟩ rfl (mm_get hH1.2.2.2.2.2.2.1) rfl rfl (Nat.le_of_ble_eq_true rfl) hE2 (fun r M2 z => pr_room2 z) (fun r2 M2 H2 locs2 z hP2 hS2 => ?_)
  obtain ⟨rfl, sh2, S2, L2, rfl, hI2⟩ := z
  refine lv_icmp_eq (tgt := 972) hx hb dL_201 (by decide) (fun _ => kk sh2 S2 L2 H2 locs2 hI2 hP2 hS2) (fun h => absurd rfl h)
set_option maxHeartbeats 1000000 in
theorem lw_c2 (C0 : lw_At p s m meth c scr Ln xs) (hLn : Ln ≤ 3072) (hK : am_K D cT s) (hi : i + 6 ≤ Ln) (hI : INV sh S L) (hP : am_P s.heap.size D cT (mm sh S L) H) (hS : va_S (fun q => s.heap.size ≤ q) s.heap H locs) (hl : lv_has la 4 [(0, .ref scr), (1, .ref (s.heap.size + 0)), (2, .ref (s.heap.size + 181)), (3, .int (iI (i : Int)))]) (kk : ∀ sh2 S2 L2 H2 locs2, INV sh2 S2 L2 → am_P s.heap.size D cT (mm sh2 S2 L2) H2 → va_S (fun q => s.heap.size ≤ q) s.heap H2 locs2 → W p l e room_1 s m #[Value.ref scr] below meth c H2 locs2 (mm sh2 S2 L2).length (am_z (mm sh2 S2 L2)) (lw_Z below #[Value.ref scr] s) (F0 m 972 la [])) : W p l e room_1 s m #[Value.ref scr] below meth c H locs (mm sh S L).length (am_z (mm sh S L)) (lw_Z below #[Value.ref scr] s) (F0 m 206 la []) := by
  obtain ⟨hx, hb, hr, hml, hown, hts, hX, hbl, hlocks, hgv⟩ := id C0
  have h0 := lv_at hl 0 rfl
  have h1 := lv_at hl 1 rfl
  have h2 := lv_at hl 2 rfl
  have h3 := lv_at hl 3 rfl
  refine lv_aload_n hx hb dL_206 rfl h1 ?_
  refine lw_sl (k := 1) C0 hLn hS h0 h3 (by omega) dL_207 dL_208 dL_209 dL_210 dL_211 rfl ?_
  refine lw_sl (k := 2) C0 hLn hS h0 h3 (by omega) dL_212 dL_213 dL_214 dL_215 dL_216 rfl ?_
  refine lw_sl (k := 3) C0 hLn hS h0 h3 (by omega) dL_217 dL_218 dL_219 dL_220 dL_221 rfl ?_
  refine lw_sl (k := 4) C0 hLn hS h0 h3 (by omega) dL_222 dL_223 dL_224 dL_225 dL_226 rfl ?_
  refine lw_sl (k := 5) C0 hLn hS h0 h3 (by omega) dL_227 dL_228 dL_229 dL_230 dL_231 rfl ?_
  refine lw_V (As := [.int (iI (xs (i + 1)).toInt), .int (iI (xs (i + 2)).toInt), .int (iI (xs (i + 3)).toInt), .int (iI (xs (i + 4)).toInt), .int (iI (xs (i + 5)).toInt)]) (st := []) (a := 0) (ci := 9) C0 hK hP hS hl dL_232 in_X9_use mk_L_22 im_X9_use sl_X9_use ⟨Nat.le_of_ble_eq_true rfl, Nat.le_of_ble_eq_true rfl⟩ rfl (mm_get hI.1.1) rfl rfl (Nat.le_of_ble_eq_true rfl) (q_use hI (Rg32 _) (Rg32 _) (Rg32 _) (Rg32 _) (Rg32 _)) (fun r M1 z => pr_room z) (fun r M1 H1 locs1 z hP1 hS1 => ?_)
  obtain ⟨x, rfl, sh1, S1, L1, rfl, hH1, hE2⟩ := z
  refine lv_aload_n hx hb dL_235 rfl h2 ?_
  refine lw_sl (k := 1) C0 hLn hS1 h0 h3 (by omega) dL_236 dL_237 dL_238 dL_239 dL_240 rfl ?_
  refine lw_sl (k := 2) C0 hLn hS1 h0 h3 (by omega) dL_241 dL_242 dL_243 dL_244 dL_245 rfl ?_
  refine lw_sl (k := 3) C0 hLn hS1 h0 h3 (by omega) dL_246 dL_247 dL_248 dL_249 dL_250 rfl ?_
  refine lw_sl (k := 4) C0 hLn hS1 h0 h3 (by omega) dL_251 dL_252 dL_253 dL_254 dL_255 rfl ?_
  refine lw_sl (k := 5) C0 hLn hS1 h0 h3 (by omega) dL_256 dL_257 dL_258 dL_259 dL_260 rfl ?_
  refine lw_V (As := [.int (iI (xs (i + 1)).toInt), .int (iI (xs (i + 2)).toInt), .int (iI (xs (i + 3)).toInt), .int (iI (xs (i + 4)).toInt), .int (iI (xs (i + 5)).toInt)]) (st := [.int x]) (a := 181) (ci := 10) C0 hK hP1 hS1 hl dL_261 in_X10_use mk_L_26 im_X10_use sl_X10_use ⟨Nat.le_of_ble_eq_true rfl, Nat.le_of_ble_eq_true rfl⟩ rfl (mm_get hH1.2.2.2.2.2.2.1) rfl rfl (Nat.le_of_ble_eq_true rfl) hE2 (fun r M2 z => pr_room2 z) (fun r2 M2 H2 locs2 z hP2 hS2 => ?_)
  obtain ⟨rfl, sh2, S2, L2, rfl, hI2⟩ := z
  refine lv_icmp_eq (tgt := 972) hx hb dL_264 (by decide) (fun _ => kk sh2 S2 L2 H2 locs2 hI2 hP2 hS2) (fun h => absurd rfl h)
set_option maxHeartbeats 1000000 in
theorem lw_c3 (C0 : lw_At p s m meth c scr Ln xs) (hLn : Ln ≤ 3072) (hK : am_K D cT s) (hi : i + 6 ≤ Ln) (hI : INV sh S L) (hP : am_P s.heap.size D cT (mm sh S L) H) (hS : va_S (fun q => s.heap.size ≤ q) s.heap H locs) (hl : lv_has la 4 [(0, .ref scr), (1, .ref (s.heap.size + 0)), (2, .ref (s.heap.size + 181)), (3, .int (iI (i : Int)))]) (kk : ∀ sh2 S2 L2 H2 locs2, INV sh2 S2 L2 → am_P s.heap.size D cT (mm sh2 S2 L2) H2 → va_S (fun q => s.heap.size ≤ q) s.heap H2 locs2 → W p l e room_1 s m #[Value.ref scr] below meth c H2 locs2 (mm sh2 S2 L2).length (am_z (mm sh2 S2 L2)) (lw_Z below #[Value.ref scr] s) (F0 m 972 la [])) : W p l e room_1 s m #[Value.ref scr] below meth c H locs (mm sh S L).length (am_z (mm sh S L)) (lw_Z below #[Value.ref scr] s) (F0 m 269 la []) := by
  obtain ⟨hx, hb, hr, hml, hown, hts, hX, hbl, hlocks, hgv⟩ := id C0
  have h0 := lv_at hl 0 rfl
  have h1 := lv_at hl 1 rfl
  have h2 := lv_at hl 2 rfl
  have h3 := lv_at hl 3 rfl
  refine lv_aload_n hx hb dL_269 rfl h1 ?_
  refine lw_sl (k := 1) C0 hLn hS h0 h3 (by omega) dL_270 dL_271 dL_272 dL_273 dL_274 rfl ?_
  refine lw_sl (k := 2) C0 hLn hS h0 h3 (by omega) dL_275 dL_276 dL_277 dL_278 dL_279 rfl ?_
  refine lw_sl (k := 3) C0 hLn hS h0 h3 (by omega) dL_280 dL_281 dL_282 dL_283 dL_284 rfl ?_
  refine lw_V (As := [.int (iI (xs (i + 1)).toInt), .int (iI (xs (i + 2)).toInt), .int (iI (xs (i + 3)).toInt)]) (st := []) (a := 0) (ci := 9) C0 hK hP hS hl dL_285 in_X9_drop mk_L_27 im_X9_drop sl_X9_drop ⟨Nat.le_of_ble_eq_true rfl, Nat.le_of_ble_eq_true rfl⟩ rfl (mm_get hI.1.1) rfl rfl (Nat.le_of_ble_eq_true rfl) (q_drop hI (Rg32 _) (Rg32 _) (Rg32 _)) (fun r M1 z => pr_room z) (fun r M1 H1 locs1 z hP1 hS1 => ?_)
  obtain ⟨x, rfl, sh1, S1, L1, rfl, hH1, hE2⟩ := z
  refine lv_aload_n hx hb dL_288 rfl h2 ?_
  refine lw_sl (k := 1) C0 hLn hS1 h0 h3 (by omega) dL_289 dL_290 dL_291 dL_292 dL_293 rfl ?_
  refine lw_sl (k := 2) C0 hLn hS1 h0 h3 (by omega) dL_294 dL_295 dL_296 dL_297 dL_298 rfl ?_
  refine lw_sl (k := 3) C0 hLn hS1 h0 h3 (by omega) dL_299 dL_300 dL_301 dL_302 dL_303 rfl ?_
  refine lw_V (As := [.int (iI (xs (i + 1)).toInt), .int (iI (xs (i + 2)).toInt), .int (iI (xs (i + 3)).toInt)]) (st := [.int x]) (a := 181) (ci := 10) C0 hK hP1 hS1 hl dL_304 in_X10_drop mk_L_31 im_X10_drop sl_X10_drop ⟨Nat.le_of_ble_eq_true rfl, Nat.le_of_ble_eq_true rfl⟩ rfl (mm_get hH1.2.2.2.2.2.2.1) rfl rfl (Nat.le_of_ble_eq_true rfl) hE2 (fun r M2 z => pr_room2 z) (fun r2 M2 H2 locs2 z hP2 hS2 => ?_)
  obtain ⟨rfl, sh2, S2, L2, rfl, hI2⟩ := z
  refine lv_icmp_eq (tgt := 972) hx hb dL_307 (by decide) (fun _ => kk sh2 S2 L2 H2 locs2 hI2 hP2 hS2) (fun h => absurd rfl h)
set_option maxHeartbeats 1000000 in
theorem lw_c4 (C0 : lw_At p s m meth c scr Ln xs) (hLn : Ln ≤ 3072) (hK : am_K D cT s) (hi : i + 6 ≤ Ln) (hI : INV sh S L) (hP : am_P s.heap.size D cT (mm sh S L) H) (hS : va_S (fun q => s.heap.size ≤ q) s.heap H locs) (hl : lv_has la 4 [(0, .ref scr), (1, .ref (s.heap.size + 0)), (2, .ref (s.heap.size + 181)), (3, .int (iI (i : Int)))]) (kk : ∀ sh2 S2 L2 H2 locs2, INV sh2 S2 L2 → am_P s.heap.size D cT (mm sh2 S2 L2) H2 → va_S (fun q => s.heap.size ≤ q) s.heap H2 locs2 → W p l e room_1 s m #[Value.ref scr] below meth c H2 locs2 (mm sh2 S2 L2).length (am_z (mm sh2 S2 L2)) (lw_Z below #[Value.ref scr] s) (F0 m 972 la [])) : W p l e room_1 s m #[Value.ref scr] below meth c H locs (mm sh S L).length (am_z (mm sh S L)) (lw_Z below #[Value.ref scr] s) (F0 m 312 la []) := by
  obtain ⟨hx, hb, hr, hml, hown, hts, hX, hbl, hlocks, hgv⟩ := id C0
  have h0 := lv_at hl 0 rfl
  have h1 := lv_at hl 1 rfl
  have h2 := lv_at hl 2 rfl
  have h3 := lv_at hl 3 rfl
  refine lv_aload_n hx hb dL_312 rfl h1 ?_
  refine lw_sl (k := 1) C0 hLn hS h0 h3 (by omega) dL_313 dL_314 dL_315 dL_316 dL_317 rfl ?_
  refine lw_sl (k := 2) C0 hLn hS h0 h3 (by omega) dL_318 dL_319 dL_320 dL_321 dL_322 rfl ?_
  refine lw_V (As := [.int (iI (xs (i + 1)).toInt), .int (iI (xs (i + 2)).toInt)]) (st := []) (a := 0) (ci := 9) C0 hK hP hS hl dL_323 in_X9_ends mk_L_32 im_X9_ends sl_X9_ends ⟨Nat.le_of_ble_eq_true rfl, Nat.le_of_ble_eq_true rfl⟩ rfl (mm_get hI.1.1) rfl rfl (Nat.le_of_ble_eq_true rfl) (q_ends hI (Rg32 _) (Rg32 _)) (fun r M1 z => pr_room z) (fun r M1 H1 locs1 z hP1 hS1 => ?_)
  obtain ⟨x, rfl, sh1, S1, L1, rfl, hH1, hE2⟩ := z
  refine lv_aload_n hx hb dL_326 rfl h2 ?_
  refine lw_sl (k := 1) C0 hLn hS1 h0 h3 (by omega) dL_327 dL_328 dL_329 dL_330 dL_331 rfl ?_
  refine lw_sl (k := 2) C0 hLn hS1 h0 h3 (by omega) dL_332 dL_333 dL_334 dL_335 dL_336 rfl ?_
  refine lw_V (As := [.int (iI (xs (i + 1)).toInt), .int (iI (xs (i + 2)).toInt)]) (st := [.int x]) (a := 181) (ci := 10) C0 hK hP1 hS1 hl dL_337 in_X10_ends mk_L_35 im_X10_ends sl_X10_ends ⟨Nat.le_of_ble_eq_true rfl, Nat.le_of_ble_eq_true rfl⟩ rfl (mm_get hH1.2.2.2.2.2.2.1) rfl rfl (Nat.le_of_ble_eq_true rfl) hE2 (fun r M2 z => pr_room2 z) (fun r2 M2 H2 locs2 z hP2 hS2 => ?_)
  obtain ⟨rfl, sh2, S2, L2, rfl, hI2⟩ := z
  refine lv_icmp_eq (tgt := 972) hx hb dL_340 (by decide) (fun _ => kk sh2 S2 L2 H2 locs2 hI2 hP2 hS2) (fun h => absurd rfl h)
set_option maxHeartbeats 1000000 in
theorem lw_c5 (C0 : lw_At p s m meth c scr Ln xs) (hLn : Ln ≤ 3072) (hK : am_K D cT s) (hi : i + 6 ≤ Ln) (hI : INV sh S L) (hP : am_P s.heap.size D cT (mm sh S L) H) (hS : va_S (fun q => s.heap.size ≤ q) s.heap H locs) (hl : lv_has la 4 [(0, .ref scr), (1, .ref (s.heap.size + 0)), (2, .ref (s.heap.size + 181)), (3, .int (iI (i : Int)))]) (kk : ∀ sh2 S2 L2 H2 locs2, INV sh2 S2 L2 → am_P s.heap.size D cT (mm sh2 S2 L2) H2 → va_S (fun q => s.heap.size ≤ q) s.heap H2 locs2 → W p l e room_1 s m #[Value.ref scr] below meth c H2 locs2 (mm sh2 S2 L2).length (am_z (mm sh2 S2 L2)) (lw_Z below #[Value.ref scr] s) (F0 m 972 la [])) : W p l e room_1 s m #[Value.ref scr] below meth c H locs (mm sh S L).length (am_z (mm sh S L)) (lw_Z below #[Value.ref scr] s) (F0 m 345 la []) := by
  obtain ⟨hx, hb, hr, hml, hown, hts, hX, hbl, hlocks, hgv⟩ := id C0
  have h0 := lv_at hl 0 rfl
  have h1 := lv_at hl 1 rfl
  have h2 := lv_at hl 2 rfl
  have h3 := lv_at hl 3 rfl
  refine lv_aload_n hx hb dL_345 rfl h1 ?_
  refine lw_sl (k := 1) C0 hLn hS h0 h3 (by omega) dL_346 dL_347 dL_348 dL_349 dL_350 rfl ?_
  refine lw_sl (k := 2) C0 hLn hS h0 h3 (by omega) dL_351 dL_352 dL_353 dL_354 dL_355 rfl ?_
  refine lw_sl (k := 3) C0 hLn hS h0 h3 (by omega) dL_356 dL_357 dL_358 dL_359 dL_360 rfl ?_
  refine lw_sl (k := 4) C0 hLn hS h0 h3 (by omega) dL_361 dL_362 dL_363 dL_364 dL_365 rfl ?_
  refine lw_nz (tgt := 373) hx hb dL_366 dL_369 dL_370 dL_373 rfl rfl rfl ?_
  refine lw_V (As := [.int (iI (xs (i + 1)).toInt), .int (iI (xs (i + 2)).toInt), .int (iI (xs (i + 3)).toInt), .int (iI (b2 ((xs (i + 4)).toInt ≠ 0)))]) (st := []) (a := 0) (ci := 9) C0 hK hP hS hl dL_374 in_X9_leads mk_L_36 im_X9_leads sl_X9_leads ⟨Nat.le_of_ble_eq_true rfl, Nat.le_of_ble_eq_true rfl⟩ rfl (mm_get hI.1.1) rfl rfl (Nat.le_of_ble_eq_true rfl) (q_leads hI (Rg32 _) (Rg32 _) (Rg32 _) ((xs (i + 4)).toInt ≠ 0)) (fun r M1 z => pr_room z) (fun r M1 H1 locs1 z hP1 hS1 => ?_)
  obtain ⟨x, rfl, sh1, S1, L1, rfl, hH1, hE2⟩ := z
  refine lv_aload_n hx hb dL_377 rfl h2 ?_
  refine lw_sl (k := 1) C0 hLn hS1 h0 h3 (by omega) dL_378 dL_379 dL_380 dL_381 dL_382 rfl ?_
  refine lw_sl (k := 2) C0 hLn hS1 h0 h3 (by omega) dL_383 dL_384 dL_385 dL_386 dL_387 rfl ?_
  refine lw_sl (k := 3) C0 hLn hS1 h0 h3 (by omega) dL_388 dL_389 dL_390 dL_391 dL_392 rfl ?_
  refine lw_sl (k := 4) C0 hLn hS1 h0 h3 (by omega) dL_393 dL_394 dL_395 dL_396 dL_397 rfl ?_
  refine lw_nz (tgt := 405) hx hb dL_398 dL_401 dL_402 dL_405 rfl rfl rfl ?_
  refine lw_V (As := [.int (iI (xs (i + 1)).toInt), .int (iI (xs (i + 2)).toInt), .int (iI (xs (i + 3)).toInt), .int (iI (b2 ((xs (i + 4)).toInt ≠ 0)))]) (st := [.int x]) (a := 181) (ci := 10) C0 hK hP1 hS1 hl dL_406 in_X10_leads mk_L_40 im_X10_leads sl_X10_leads ⟨Nat.le_of_ble_eq_true rfl, Nat.le_of_ble_eq_true rfl⟩ rfl (mm_get hH1.2.2.2.2.2.2.1) rfl rfl (Nat.le_of_ble_eq_true rfl) hE2 (fun r M2 z => pr_room2 z) (fun r2 M2 H2 locs2 z hP2 hS2 => ?_)
  obtain ⟨rfl, sh2, S2, L2, rfl, hI2⟩ := z
  refine lv_icmp_eq (tgt := 972) hx hb dL_409 (by decide) (fun _ => kk sh2 S2 L2 H2 locs2 hI2 hP2 hS2) (fun h => absurd rfl h)
set_option maxHeartbeats 1000000 in
theorem lw_c6 (C0 : lw_At p s m meth c scr Ln xs) (hLn : Ln ≤ 3072) (hK : am_K D cT s) (hi : i + 6 ≤ Ln) (hI : INV sh S L) (hP : am_P s.heap.size D cT (mm sh S L) H) (hS : va_S (fun q => s.heap.size ≤ q) s.heap H locs) (hl : lv_has la 4 [(0, .ref scr), (1, .ref (s.heap.size + 0)), (2, .ref (s.heap.size + 181)), (3, .int (iI (i : Int)))]) (kk : ∀ sh2 S2 L2 H2 locs2, INV sh2 S2 L2 → am_P s.heap.size D cT (mm sh2 S2 L2) H2 → va_S (fun q => s.heap.size ≤ q) s.heap H2 locs2 → W p l e room_1 s m #[Value.ref scr] below meth c H2 locs2 (mm sh2 S2 L2).length (am_z (mm sh2 S2 L2)) (lw_Z below #[Value.ref scr] s) (F0 m 972 la [])) : W p l e room_1 s m #[Value.ref scr] below meth c H locs (mm sh S L).length (am_z (mm sh S L)) (lw_Z below #[Value.ref scr] s) (F0 m 414 la []) := by
  obtain ⟨hx, hb, hr, hml, hown, hts, hX, hbl, hlocks, hgv⟩ := id C0
  have h0 := lv_at hl 0 rfl
  have h1 := lv_at hl 1 rfl
  have h2 := lv_at hl 2 rfl
  have h3 := lv_at hl 3 rfl
  refine lv_aload_n hx hb dL_414 rfl h1 ?_
  refine lw_sl (k := 1) C0 hLn hS h0 h3 (by omega) dL_415 dL_416 dL_417 dL_418 dL_419 rfl ?_
  refine lw_sl (k := 2) C0 hLn hS h0 h3 (by omega) dL_420 dL_421 dL_422 dL_423 dL_424 rfl ?_
  refine lw_V (As := [.int (iI (xs (i + 1)).toInt), .int (iI (xs (i + 2)).toInt)]) (st := []) (a := 0) (ci := 9) C0 hK hP hS hl dL_425 in_X9_fits mk_L_41 im_X9_fits sl_X9_fits ⟨Nat.le_of_ble_eq_true rfl, Nat.le_of_ble_eq_true rfl⟩ rfl (mm_get hI.1.1) rfl rfl (Nat.le_of_ble_eq_true rfl) (q_fits hI (Rg32 _) (Rg32 _)) (fun r M1 z => pr_room z) (fun r M1 H1 locs1 z hP1 hS1 => ?_)
  obtain ⟨x, rfl, sh1, S1, L1, rfl, hH1, hE2⟩ := z
  refine lv_aload_n hx hb dL_428 rfl h2 ?_
  refine lw_sl (k := 1) C0 hLn hS1 h0 h3 (by omega) dL_429 dL_430 dL_431 dL_432 dL_433 rfl ?_
  refine lw_sl (k := 2) C0 hLn hS1 h0 h3 (by omega) dL_434 dL_435 dL_436 dL_437 dL_438 rfl ?_
  refine lw_V (As := [.int (iI (xs (i + 1)).toInt), .int (iI (xs (i + 2)).toInt)]) (st := [.int x]) (a := 181) (ci := 10) C0 hK hP1 hS1 hl dL_439 in_X10_fits mk_L_44 im_X10_fits sl_X10_fits ⟨Nat.le_of_ble_eq_true rfl, Nat.le_of_ble_eq_true rfl⟩ rfl (mm_get hH1.2.2.2.2.2.2.1) rfl rfl (Nat.le_of_ble_eq_true rfl) hE2 (fun r M2 z => pr_room2 z) (fun r2 M2 H2 locs2 z hP2 hS2 => ?_)
  obtain ⟨rfl, sh2, S2, L2, rfl, hI2⟩ := z
  refine lv_icmp_eq (tgt := 972) hx hb dL_442 (by decide) (fun _ => kk sh2 S2 L2 H2 locs2 hI2 hP2 hS2) (fun h => absurd rfl h)
set_option maxHeartbeats 1000000 in
theorem lw_c7 (C0 : lw_At p s m meth c scr Ln xs) (hLn : Ln ≤ 3072) (hK : am_K D cT s) (hi : i + 6 ≤ Ln) (hI : INV sh S L) (hP : am_P s.heap.size D cT (mm sh S L) H) (hS : va_S (fun q => s.heap.size ≤ q) s.heap H locs) (hl : lv_has la 4 [(0, .ref scr), (1, .ref (s.heap.size + 0)), (2, .ref (s.heap.size + 181)), (3, .int (iI (i : Int)))]) (kk : ∀ sh2 S2 L2 H2 locs2, INV sh2 S2 L2 → am_P s.heap.size D cT (mm sh2 S2 L2) H2 → va_S (fun q => s.heap.size ≤ q) s.heap H2 locs2 → W p l e room_1 s m #[Value.ref scr] below meth c H2 locs2 (mm sh2 S2 L2).length (am_z (mm sh2 S2 L2)) (lw_Z below #[Value.ref scr] s) (F0 m 972 la [])) : W p l e room_1 s m #[Value.ref scr] below meth c H locs (mm sh S L).length (am_z (mm sh S L)) (lw_Z below #[Value.ref scr] s) (F0 m 447 la []) := by
  obtain ⟨hx, hb, hr, hml, hown, hts, hX, hbl, hlocks, hgv⟩ := id C0
  have h0 := lv_at hl 0 rfl
  have h1 := lv_at hl 1 rfl
  have h2 := lv_at hl 2 rfl
  have h3 := lv_at hl 3 rfl
  refine lv_aload_n hx hb dL_447 rfl h1 ?_
  refine lw_V (As := []) (st := []) (a := 0) (ci := 9) C0 hK hP hS hl dL_448 in_X9_parts mk_L_45 im_X9_parts sl_X9_parts ⟨Nat.le_of_ble_eq_true rfl, Nat.le_of_ble_eq_true rfl⟩ rfl (mm_get hI.1.1) rfl rfl (Nat.le_of_ble_eq_true rfl) (q_parts hI) (fun r M1 z => pr_room z) (fun r M1 H1 locs1 z hP1 hS1 => ?_)
  obtain ⟨x, rfl, sh1, S1, L1, rfl, hH1, hE2⟩ := z
  refine lv_aload_n hx hb dL_451 rfl h2 ?_
  refine lw_V (As := []) (st := [.int x]) (a := 181) (ci := 10) C0 hK hP1 hS1 hl dL_452 in_X10_parts mk_L_49 im_X10_parts sl_X10_parts ⟨Nat.le_of_ble_eq_true rfl, Nat.le_of_ble_eq_true rfl⟩ rfl (mm_get hH1.2.2.2.2.2.2.1) rfl rfl (Nat.le_of_ble_eq_true rfl) hE2 (fun r M2 z => pr_room2 z) (fun r2 M2 H2 locs2 z hP2 hS2 => ?_)
  obtain ⟨rfl, sh2, S2, L2, rfl, hI2⟩ := z
  refine lv_icmp_eq (tgt := 972) hx hb dL_455 (by decide) (fun _ => kk sh2 S2 L2 H2 locs2 hI2 hP2 hS2) (fun h => absurd rfl h)
set_option maxHeartbeats 1000000 in
theorem lw_c8 (C0 : lw_At p s m meth c scr Ln xs) (hLn : Ln ≤ 3072) (hK : am_K D cT s) (hi : i + 6 ≤ Ln) (hI : INV sh S L) (hP : am_P s.heap.size D cT (mm sh S L) H) (hS : va_S (fun q => s.heap.size ≤ q) s.heap H locs) (hl : lv_has la 4 [(0, .ref scr), (1, .ref (s.heap.size + 0)), (2, .ref (s.heap.size + 181)), (3, .int (iI (i : Int)))]) (kk : ∀ sh2 S2 L2 H2 locs2, INV sh2 S2 L2 → am_P s.heap.size D cT (mm sh2 S2 L2) H2 → va_S (fun q => s.heap.size ≤ q) s.heap H2 locs2 → W p l e room_1 s m #[Value.ref scr] below meth c H2 locs2 (mm sh2 S2 L2).length (am_z (mm sh2 S2 L2)) (lw_Z below #[Value.ref scr] s) (F0 m 972 la [])) : W p l e room_1 s m #[Value.ref scr] below meth c H locs (mm sh S L).length (am_z (mm sh S L)) (lw_Z below #[Value.ref scr] s) (F0 m 460 la []) := by
  obtain ⟨hx, hb, hr, hml, hown, hts, hX, hbl, hlocks, hgv⟩ := id C0
  have h0 := lv_at hl 0 rfl
  have h1 := lv_at hl 1 rfl
  have h2 := lv_at hl 2 rfl
  have h3 := lv_at hl 3 rfl
  refine lv_aload_n hx hb dL_460 rfl h1 ?_
  refine lw_V (As := []) (st := []) (a := 0) (ci := 9) C0 hK hP hS hl dL_461 in_X9_routine mk_L_50 im_X9_routine sl_X9_routine ⟨Nat.le_of_ble_eq_true rfl, Nat.le_of_ble_eq_true rfl⟩ rfl (mm_get hI.1.1) rfl rfl (Nat.le_of_ble_eq_true rfl) (q_routine hI) (fun r M1 z => pr_room z) (fun r M1 H1 locs1 z hP1 hS1 => ?_)
  obtain ⟨x, rfl, sh1, S1, L1, rfl, hH1, hE2⟩ := z
  refine lv_aload_n hx hb dL_464 rfl h2 ?_
  refine lw_V (As := []) (st := [.int x]) (a := 181) (ci := 10) C0 hK hP1 hS1 hl dL_465 in_X10_routine mk_L_53 im_X10_routine sl_X10_routine ⟨Nat.le_of_ble_eq_true rfl, Nat.le_of_ble_eq_true rfl⟩ rfl (mm_get hH1.2.2.2.2.2.2.1) rfl rfl (Nat.le_of_ble_eq_true rfl) hE2 (fun r M2 z => pr_room2 z) (fun r2 M2 H2 locs2 z hP2 hS2 => ?_)
  obtain ⟨rfl, sh2, S2, L2, rfl, hI2⟩ := z
  refine lv_icmp_eq (tgt := 972) hx hb dL_468 (by decide) (fun _ => kk sh2 S2 L2 H2 locs2 hI2 hP2 hS2) (fun h => absurd rfl h)
set_option maxHeartbeats 1000000 in
theorem lw_c9 (C0 : lw_At p s m meth c scr Ln xs) (hLn : Ln ≤ 3072) (hK : am_K D cT s) (hi : i + 6 ≤ Ln) (hI : INV sh S L) (hP : am_P s.heap.size D cT (mm sh S L) H) (hS : va_S (fun q => s.heap.size ≤ q) s.heap H locs) (hl : lv_has la 4 [(0, .ref scr), (1, .ref (s.heap.size + 0)), (2, .ref (s.heap.size + 181)), (3, .int (iI (i : Int)))]) (kk : ∀ sh2 S2 L2 H2 locs2, INV sh2 S2 L2 → am_P s.heap.size D cT (mm sh2 S2 L2) H2 → va_S (fun q => s.heap.size ≤ q) s.heap H2 locs2 → W p l e room_1 s m #[Value.ref scr] below meth c H2 locs2 (mm sh2 S2 L2).length (am_z (mm sh2 S2 L2)) (lw_Z below #[Value.ref scr] s) (F0 m 972 la [])) : W p l e room_1 s m #[Value.ref scr] below meth c H locs (mm sh S L).length (am_z (mm sh S L)) (lw_Z below #[Value.ref scr] s) (F0 m 473 la []) := by
  obtain ⟨hx, hb, hr, hml, hown, hts, hX, hbl, hlocks, hgv⟩ := id C0
  have h0 := lv_at hl 0 rfl
  have h1 := lv_at hl 1 rfl
  have h2 := lv_at hl 2 rfl
  have h3 := lv_at hl 3 rfl
  refine lv_aload_n hx hb dL_473 rfl h1 ?_
  refine lw_sl (k := 1) C0 hLn hS h0 h3 (by omega) dL_474 dL_475 dL_476 dL_477 dL_478 rfl ?_
  refine lw_sl (k := 2) C0 hLn hS h0 h3 (by omega) dL_479 dL_480 dL_481 dL_482 dL_483 rfl ?_
  refine lw_sl (k := 3) C0 hLn hS h0 h3 (by omega) dL_484 dL_485 dL_486 dL_487 dL_488 rfl ?_
  refine lw_sl (k := 4) C0 hLn hS h0 h3 (by omega) dL_489 dL_490 dL_491 dL_492 dL_493 rfl ?_
  refine lw_V (As := [.int (iI (xs (i + 1)).toInt), .int (iI (xs (i + 2)).toInt), .int (iI (xs (i + 3)).toInt), .int (iI (xs (i + 4)).toInt)]) (st := []) (a := 0) (ci := 9) C0 hK hP hS hl dL_494 in_X9_statement mk_L_54 im_X9_statement sl_X9_statement ⟨Nat.le_of_ble_eq_true rfl, Nat.le_of_ble_eq_true rfl⟩ rfl (mm_get hI.1.1) rfl rfl (Nat.le_of_ble_eq_true rfl) (q_statement hI (Rg32 _) (Rg32 _) (Rg32 _) (Rg32 _)) (fun r M1 z => pr_room z) (fun r M1 H1 locs1 z hP1 hS1 => ?_)
  obtain ⟨x, rfl, sh1, S1, L1, rfl, hH1, hE2⟩ := z
  refine lv_aload_n hx hb dL_497 rfl h2 ?_
  refine lw_sl (k := 1) C0 hLn hS1 h0 h3 (by omega) dL_498 dL_499 dL_500 dL_501 dL_502 rfl ?_
  refine lw_sl (k := 2) C0 hLn hS1 h0 h3 (by omega) dL_503 dL_504 dL_505 dL_506 dL_507 rfl ?_
  refine lw_sl (k := 3) C0 hLn hS1 h0 h3 (by omega) dL_508 dL_509 dL_510 dL_511 dL_512 rfl ?_
  refine lw_sl (k := 4) C0 hLn hS1 h0 h3 (by omega) dL_513 dL_514 dL_515 dL_516 dL_517 rfl ?_
  refine lw_V (As := [.int (iI (xs (i + 1)).toInt), .int (iI (xs (i + 2)).toInt), .int (iI (xs (i + 3)).toInt), .int (iI (xs (i + 4)).toInt)]) (st := [.int x]) (a := 181) (ci := 10) C0 hK hP1 hS1 hl dL_518 in_X10_statement mk_L_58 im_X10_statement sl_X10_statement ⟨Nat.le_of_ble_eq_true rfl, Nat.le_of_ble_eq_true rfl⟩ rfl (mm_get hH1.2.2.2.2.2.2.1) rfl rfl (Nat.le_of_ble_eq_true rfl) hE2 (fun r M2 z => pr_room2 z) (fun r2 M2 H2 locs2 z hP2 hS2 => ?_)
  obtain ⟨rfl, sh2, S2, L2, rfl, hI2⟩ := z
  refine lv_icmp_eq (tgt := 972) hx hb dL_521 (by decide) (fun _ => kk sh2 S2 L2 H2 locs2 hI2 hP2 hS2) (fun h => absurd rfl h)
set_option maxHeartbeats 1000000 in
theorem lw_c10 (C0 : lw_At p s m meth c scr Ln xs) (hLn : Ln ≤ 3072) (hK : am_K D cT s) (hi : i + 6 ≤ Ln) (hI : INV sh S L) (hP : am_P s.heap.size D cT (mm sh S L) H) (hS : va_S (fun q => s.heap.size ≤ q) s.heap H locs) (hl : lv_has la 4 [(0, .ref scr), (1, .ref (s.heap.size + 0)), (2, .ref (s.heap.size + 181)), (3, .int (iI (i : Int)))]) (kk : ∀ sh2 S2 L2 H2 locs2, INV sh2 S2 L2 → am_P s.heap.size D cT (mm sh2 S2 L2) H2 → va_S (fun q => s.heap.size ≤ q) s.heap H2 locs2 → W p l e room_1 s m #[Value.ref scr] below meth c H2 locs2 (mm sh2 S2 L2).length (am_z (mm sh2 S2 L2)) (lw_Z below #[Value.ref scr] s) (F0 m 972 la [])) : W p l e room_1 s m #[Value.ref scr] below meth c H locs (mm sh S L).length (am_z (mm sh S L)) (lw_Z below #[Value.ref scr] s) (F0 m 526 la []) := by
  obtain ⟨hx, hb, hr, hml, hown, hts, hX, hbl, hlocks, hgv⟩ := id C0
  have h0 := lv_at hl 0 rfl
  have h1 := lv_at hl 1 rfl
  have h2 := lv_at hl 2 rfl
  have h3 := lv_at hl 3 rfl
  refine lv_aload_n hx hb dL_526 rfl h1 ?_
  refine lw_sl (k := 1) C0 hLn hS h0 h3 (by omega) dL_527 dL_528 dL_529 dL_530 dL_531 rfl ?_
  refine lw_V (As := [.int (iI (xs (i + 1)).toInt)]) (st := []) (a := 0) (ci := 9) C0 hK hP hS hl dL_532 in_X9_cut mk_L_59 im_X9_cut sl_X9_cut ⟨Nat.le_of_ble_eq_true rfl, Nat.le_of_ble_eq_true rfl⟩ rfl (mm_get hI.1.1) rfl rfl (Nat.le_of_ble_eq_true rfl) (q_cut hI (Rg32 _)) (fun r M1 z => pr_room z) (fun r M1 H1 locs1 z hP1 hS1 => ?_)
  obtain ⟨x, rfl, sh1, S1, L1, rfl, hH1, hE2⟩ := z
  refine lv_aload_n hx hb dL_535 rfl h2 ?_
  refine lw_sl (k := 1) C0 hLn hS1 h0 h3 (by omega) dL_536 dL_537 dL_538 dL_539 dL_540 rfl ?_
  refine lw_V (As := [.int (iI (xs (i + 1)).toInt)]) (st := [.int x]) (a := 181) (ci := 10) C0 hK hP1 hS1 hl dL_541 in_X10_cut mk_L_63 im_X10_cut sl_X10_cut ⟨Nat.le_of_ble_eq_true rfl, Nat.le_of_ble_eq_true rfl⟩ rfl (mm_get hH1.2.2.2.2.2.2.1) rfl rfl (Nat.le_of_ble_eq_true rfl) hE2 (fun r M2 z => pr_room2 z) (fun r2 M2 H2 locs2 z hP2 hS2 => ?_)
  obtain ⟨rfl, sh2, S2, L2, rfl, hI2⟩ := z
  refine lv_icmp_eq (tgt := 972) hx hb dL_544 (by decide) (fun _ => kk sh2 S2 L2 H2 locs2 hI2 hP2 hS2) (fun h => absurd rfl h)
set_option maxHeartbeats 1000000 in
theorem lw_c11 (C0 : lw_At p s m meth c scr Ln xs) (hLn : Ln ≤ 3072) (hK : am_K D cT s) (hi : i + 6 ≤ Ln) (hI : INV sh S L) (hP : am_P s.heap.size D cT (mm sh S L) H) (hS : va_S (fun q => s.heap.size ≤ q) s.heap H locs) (hl : lv_has la 4 [(0, .ref scr), (1, .ref (s.heap.size + 0)), (2, .ref (s.heap.size + 181)), (3, .int (iI (i : Int)))]) (kk : ∀ sh2 S2 L2 H2 locs2, INV sh2 S2 L2 → am_P s.heap.size D cT (mm sh2 S2 L2) H2 → va_S (fun q => s.heap.size ≤ q) s.heap H2 locs2 → W p l e room_1 s m #[Value.ref scr] below meth c H2 locs2 (mm sh2 S2 L2).length (am_z (mm sh2 S2 L2)) (lw_Z below #[Value.ref scr] s) (F0 m 972 la [])) : W p l e room_1 s m #[Value.ref scr] below meth c H locs (mm sh S L).length (am_z (mm sh S L)) (lw_Z below #[Value.ref scr] s) (F0 m 549 la []) := by
  obtain ⟨hx, hb, hr, hml, hown, hts, hX, hbl, hlocks, hgv⟩ := id C0
  have h0 := lv_at hl 0 rfl
  have h1 := lv_at hl 1 rfl
  have h2 := lv_at hl 2 rfl
  have h3 := lv_at hl 3 rfl
  refine lv_aload_n hx hb dL_549 rfl h1 ?_
  refine lw_sl (k := 1) C0 hLn hS h0 h3 (by omega) dL_550 dL_551 dL_552 dL_553 dL_554 rfl ?_
  refine lw_sl (k := 2) C0 hLn hS h0 h3 (by omega) dL_555 dL_556 dL_557 dL_558 dL_559 rfl ?_
  refine lw_sl (k := 3) C0 hLn hS h0 h3 (by omega) dL_560 dL_561 dL_562 dL_563 dL_564 rfl ?_
  refine lw_V (As := [.int (iI (xs (i + 1)).toInt), .int (iI (xs (i + 2)).toInt), .int (iI (xs (i + 3)).toInt)]) (st := []) (a := 0) (ci := 9) C0 hK hP hS hl dL_565 in_X9_told mk_L_64 im_X9_told sl_X9_told ⟨Nat.le_of_ble_eq_true rfl, Nat.le_of_ble_eq_true rfl⟩ rfl (mm_get hI.1.1) rfl rfl (Nat.le_of_ble_eq_true rfl) (q_told hI (Rg32 _) (Rg32 _) (Rg32 _)) (fun r M1 z => pr_room z) (fun r M1 H1 locs1 z hP1 hS1 => ?_)
  obtain ⟨x, rfl, sh1, S1, L1, rfl, hH1, hE2⟩ := z
  refine lv_aload_n hx hb dL_568 rfl h2 ?_
  refine lw_sl (k := 1) C0 hLn hS1 h0 h3 (by omega) dL_569 dL_570 dL_571 dL_572 dL_573 rfl ?_
  refine lw_sl (k := 2) C0 hLn hS1 h0 h3 (by omega) dL_574 dL_575 dL_576 dL_577 dL_578 rfl ?_
  refine lw_sl (k := 3) C0 hLn hS1 h0 h3 (by omega) dL_579 dL_580 dL_581 dL_582 dL_583 rfl ?_
  refine lw_V (As := [.int (iI (xs (i + 1)).toInt), .int (iI (xs (i + 2)).toInt), .int (iI (xs (i + 3)).toInt)]) (st := [.int x]) (a := 181) (ci := 10) C0 hK hP1 hS1 hl dL_584 in_X10_told mk_L_67 im_X10_told sl_X10_told ⟨Nat.le_of_ble_eq_true rfl, Nat.le_of_ble_eq_true rfl⟩ rfl (mm_get hH1.2.2.2.2.2.2.1) rfl rfl (Nat.le_of_ble_eq_true rfl) hE2 (fun r M2 z => pr_room2 z) (fun r2 M2 H2 locs2 z hP2 hS2 => ?_)
  obtain ⟨rfl, sh2, S2, L2, rfl, hI2⟩ := z
  refine lv_icmp_eq (tgt := 972) hx hb dL_587 (by decide) (fun _ => kk sh2 S2 L2 H2 locs2 hI2 hP2 hS2) (fun h => absurd rfl h)
set_option maxHeartbeats 1000000 in
theorem lw_c12 (C0 : lw_At p s m meth c scr Ln xs) (hLn : Ln ≤ 3072) (hK : am_K D cT s) (hi : i + 6 ≤ Ln) (hI : INV sh S L) (hP : am_P s.heap.size D cT (mm sh S L) H) (hS : va_S (fun q => s.heap.size ≤ q) s.heap H locs) (hl : lv_has la 4 [(0, .ref scr), (1, .ref (s.heap.size + 0)), (2, .ref (s.heap.size + 181)), (3, .int (iI (i : Int)))]) (kk : ∀ sh2 S2 L2 H2 locs2, INV sh2 S2 L2 → am_P s.heap.size D cT (mm sh2 S2 L2) H2 → va_S (fun q => s.heap.size ≤ q) s.heap H2 locs2 → W p l e room_1 s m #[Value.ref scr] below meth c H2 locs2 (mm sh2 S2 L2).length (am_z (mm sh2 S2 L2)) (lw_Z below #[Value.ref scr] s) (F0 m 972 la [])) : W p l e room_1 s m #[Value.ref scr] below meth c H locs (mm sh S L).length (am_z (mm sh S L)) (lw_Z below #[Value.ref scr] s) (F0 m 592 la []) := by
  obtain ⟨hx, hb, hr, hml, hown, hts, hX, hbl, hlocks, hgv⟩ := id C0
  have h0 := lv_at hl 0 rfl
  have h1 := lv_at hl 1 rfl
  have h2 := lv_at hl 2 rfl
  have h3 := lv_at hl 3 rfl
  refine lv_aload_n hx hb dL_592 rfl h1 ?_
  refine lw_sl (k := 1) C0 hLn hS h0 h3 (by omega) dL_593 dL_594 dL_595 dL_596 dL_597 rfl ?_
  refine lw_V (As := [.int (iI (xs (i + 1)).toInt)]) (st := []) (a := 0) (ci := 9) C0 hK hP hS hl dL_598 in_X9_open mk_L_68 im_X9_open sl_X9_open ⟨Nat.le_of_ble_eq_true rfl, Nat.le_of_ble_eq_true rfl⟩ rfl (mm_get hI.1.1) rfl rfl (Nat.le_of_ble_eq_true rfl) (q_open hI (Rg32 _)) (fun r M1 z => pr_room z) (fun r M1 H1 locs1 z hP1 hS1 => ?_)
  obtain ⟨x, rfl, sh1, S1, L1, rfl, hH1, hE2⟩ := z
  refine lv_aload_n hx hb dL_601 rfl h2 ?_
  refine lw_sl (k := 1) C0 hLn hS1 h0 h3 (by omega) dL_602 dL_603 dL_604 dL_605 dL_606 rfl ?_
  refine lw_V (As := [.int (iI (xs (i + 1)).toInt)]) (st := [.int x]) (a := 181) (ci := 10) C0 hK hP1 hS1 hl dL_607 in_X10_open mk_L_71 im_X10_open sl_X10_open ⟨Nat.le_of_ble_eq_true rfl, Nat.le_of_ble_eq_true rfl⟩ rfl (mm_get hH1.2.2.2.2.2.2.1) rfl rfl (Nat.le_of_ble_eq_true rfl) hE2 (fun r M2 z => pr_room2 z) (fun r2 M2 H2 locs2 z hP2 hS2 => ?_)
  obtain ⟨rfl, sh2, S2, L2, rfl, hI2⟩ := z
  refine lv_icmp_eq (tgt := 972) hx hb dL_610 (by decide) (fun _ => kk sh2 S2 L2 H2 locs2 hI2 hP2 hS2) (fun h => absurd rfl h)
set_option maxHeartbeats 1000000 in
theorem lw_c13 (C0 : lw_At p s m meth c scr Ln xs) (hLn : Ln ≤ 3072) (hK : am_K D cT s) (hi : i + 6 ≤ Ln) (hI : INV sh S L) (hP : am_P s.heap.size D cT (mm sh S L) H) (hS : va_S (fun q => s.heap.size ≤ q) s.heap H locs) (hl : lv_has la 4 [(0, .ref scr), (1, .ref (s.heap.size + 0)), (2, .ref (s.heap.size + 181)), (3, .int (iI (i : Int)))]) (kk : ∀ sh2 S2 L2 H2 locs2, INV sh2 S2 L2 → am_P s.heap.size D cT (mm sh2 S2 L2) H2 → va_S (fun q => s.heap.size ≤ q) s.heap H2 locs2 → W p l e room_1 s m #[Value.ref scr] below meth c H2 locs2 (mm sh2 S2 L2).length (am_z (mm sh2 S2 L2)) (lw_Z below #[Value.ref scr] s) (F0 m 972 la [])) : W p l e room_1 s m #[Value.ref scr] below meth c H locs (mm sh S L).length (am_z (mm sh S L)) (lw_Z below #[Value.ref scr] s) (F0 m 615 la []) := by
  obtain ⟨hx, hb, hr, hml, hown, hts, hX, hbl, hlocks, hgv⟩ := id C0
  have h0 := lv_at hl 0 rfl
  have h1 := lv_at hl 1 rfl
  have h2 := lv_at hl 2 rfl
  have h3 := lv_at hl 3 rfl
  refine lv_aload_n hx hb dL_615 rfl h1 ?_
  refine lw_V (As := []) (st := []) (a := 0) (ci := 9) C0 hK hP hS hl dL_616 in_X9_judge mk_L_72 im_X9_judge sl_X9_judge ⟨Nat.le_of_ble_eq_true rfl, Nat.le_of_ble_eq_true rfl⟩ rfl (mm_get hI.1.1) rfl rfl (Nat.le_of_ble_eq_true rfl) (q_judge hI) (fun r M1 z => pr_room z) (fun r M1 H1 locs1 z hP1 hS1 => ?_)
  obtain ⟨x, rfl, sh1, S1, L1, rfl, hH1, hE2⟩ := z
  refine lv_aload_n hx hb dL_619 rfl h2 ?_
  refine lw_V (As := []) (st := [.int x]) (a := 181) (ci := 10) C0 hK hP1 hS1 hl dL_620 in_X10_judge mk_L_75 im_X10_judge sl_X10_judge ⟨Nat.le_of_ble_eq_true rfl, Nat.le_of_ble_eq_true rfl⟩ rfl (mm_get hH1.2.2.2.2.2.2.1) rfl rfl (Nat.le_of_ble_eq_true rfl) hE2 (fun r M2 z => pr_room2 z) (fun r2 M2 H2 locs2 z hP2 hS2 => ?_)
  obtain ⟨rfl, sh2, S2, L2, rfl, hI2⟩ := z
  refine lv_icmp_eq (tgt := 972) hx hb dL_623 (by decide) (fun _ => kk sh2 S2 L2 H2 locs2 hI2 hP2 hS2) (fun h => absurd rfl h)
set_option maxHeartbeats 1000000 in
theorem lw_c14 (C0 : lw_At p s m meth c scr Ln xs) (hLn : Ln ≤ 3072) (hK : am_K D cT s) (hi : i + 6 ≤ Ln) (hI : INV sh S L) (hP : am_P s.heap.size D cT (mm sh S L) H) (hS : va_S (fun q => s.heap.size ≤ q) s.heap H locs) (hl : lv_has la 4 [(0, .ref scr), (1, .ref (s.heap.size + 0)), (2, .ref (s.heap.size + 181)), (3, .int (iI (i : Int)))]) (kk : ∀ sh2 S2 L2 H2 locs2, INV sh2 S2 L2 → am_P s.heap.size D cT (mm sh2 S2 L2) H2 → va_S (fun q => s.heap.size ≤ q) s.heap H2 locs2 → W p l e room_1 s m #[Value.ref scr] below meth c H2 locs2 (mm sh2 S2 L2).length (am_z (mm sh2 S2 L2)) (lw_Z below #[Value.ref scr] s) (F0 m 972 la [])) : W p l e room_1 s m #[Value.ref scr] below meth c H locs (mm sh S L).length (am_z (mm sh S L)) (lw_Z below #[Value.ref scr] s) (F0 m 628 la []) := by
  obtain ⟨hx, hb, hr, hml, hown, hts, hX, hbl, hlocks, hgv⟩ := id C0
  have h0 := lv_at hl 0 rfl
  have h1 := lv_at hl 1 rfl
  have h2 := lv_at hl 2 rfl
  have h3 := lv_at hl 3 rfl
  refine lv_aload_n hx hb dL_628 rfl h1 ?_
  refine lw_sl (k := 1) C0 hLn hS h0 h3 (by omega) dL_629 dL_630 dL_631 dL_632 dL_633 rfl ?_
  refine lw_sl (k := 2) C0 hLn hS h0 h3 (by omega) dL_634 dL_635 dL_636 dL_637 dL_638 rfl ?_
  refine lw_V (As := [.int (iI (xs (i + 1)).toInt), .int (iI (xs (i + 2)).toInt)]) (st := []) (a := 0) (ci := 9) C0 hK hP hS hl dL_639 in_X9_wrong mk_L_76 im_X9_wrong sl_X9_wrong ⟨Nat.le_of_ble_eq_true rfl, Nat.le_of_ble_eq_true rfl⟩ rfl (mm_get hI.1.1) rfl rfl (Nat.le_of_ble_eq_true rfl) (q_wrong hI (Rg32 _) (Rg32 _)) (fun r M1 z => pr_room z) (fun r M1 H1 locs1 z hP1 hS1 => ?_)
  obtain ⟨x, rfl, sh1, S1, L1, rfl, hH1, hE2⟩ := z
  refine lv_aload_n hx hb dL_642 rfl h2 ?_
  refine lw_sl (k := 1) C0 hLn hS1 h0 h3 (by omega) dL_643 dL_644 dL_645 dL_646 dL_647 rfl ?_
  refine lw_sl (k := 2) C0 hLn hS1 h0 h3 (by omega) dL_648 dL_649 dL_650 dL_651 dL_652 rfl ?_
  refine lw_V (As := [.int (iI (xs (i + 1)).toInt), .int (iI (xs (i + 2)).toInt)]) (st := [.int x]) (a := 181) (ci := 10) C0 hK hP1 hS1 hl dL_653 in_X10_wrong_ mk_L_79 im_X10_wrong_ sl_X10_wrong_ ⟨Nat.le_of_ble_eq_true rfl, Nat.le_of_ble_eq_true rfl⟩ rfl (mm_get hH1.2.2.2.2.2.2.1) rfl rfl (Nat.le_of_ble_eq_true rfl) hE2 (fun r M2 z => pr_room2 z) (fun r2 M2 H2 locs2 z hP2 hS2 => ?_)
  obtain ⟨rfl, sh2, S2, L2, rfl, hI2⟩ := z
  refine lv_icmp_eq (tgt := 972) hx hb dL_656 (by decide) (fun _ => kk sh2 S2 L2 H2 locs2 hI2 hP2 hS2) (fun h => absurd rfl h)
set_option maxHeartbeats 1000000 in
theorem lw_c15 (C0 : lw_At p s m meth c scr Ln xs) (hLn : Ln ≤ 3072) (hK : am_K D cT s) (hi : i + 6 ≤ Ln) (hI : INV sh S L) (hP : am_P s.heap.size D cT (mm sh S L) H) (hS : va_S (fun q => s.heap.size ≤ q) s.heap H locs) (hl : lv_has la 4 [(0, .ref scr), (1, .ref (s.heap.size + 0)), (2, .ref (s.heap.size + 181)), (3, .int (iI (i : Int)))]) (kk : ∀ sh2 S2 L2 H2 locs2, INV sh2 S2 L2 → am_P s.heap.size D cT (mm sh2 S2 L2) H2 → va_S (fun q => s.heap.size ≤ q) s.heap H2 locs2 → W p l e room_1 s m #[Value.ref scr] below meth c H2 locs2 (mm sh2 S2 L2).length (am_z (mm sh2 S2 L2)) (lw_Z below #[Value.ref scr] s) (F0 m 972 la [])) : W p l e room_1 s m #[Value.ref scr] below meth c H locs (mm sh S L).length (am_z (mm sh S L)) (lw_Z below #[Value.ref scr] s) (F0 m 661 la []) := by
  obtain ⟨hx, hb, hr, hml, hown, hts, hX, hbl, hlocks, hgv⟩ := id C0
  have h0 := lv_at hl 0 rfl
  have h1 := lv_at hl 1 rfl
  have h2 := lv_at hl 2 rfl
  have h3 := lv_at hl 3 rfl
  refine lv_aload_n hx hb dL_661 rfl h1 ?_
  refine lw_sl (k := 1) C0 hLn hS h0 h3 (by omega) dL_662 dL_663 dL_664 dL_665 dL_666 rfl ?_
  refine lw_sl (k := 2) C0 hLn hS h0 h3 (by omega) dL_667 dL_668 dL_669 dL_670 dL_671 rfl ?_
  refine lw_sl (k := 3) C0 hLn hS h0 h3 (by omega) dL_672 dL_673 dL_674 dL_675 dL_676 rfl ?_
  refine lw_V (As := [.int (iI (xs (i + 1)).toInt), .int (iI (xs (i + 2)).toInt), .int (iI (xs (i + 3)).toInt)]) (st := []) (a := 0) (ci := 9) C0 hK hP hS hl dL_677 in_X9_may mk_L_80 im_X9_may sl_X9_may ⟨Nat.le_of_ble_eq_true rfl, Nat.le_of_ble_eq_true rfl⟩ rfl (mm_get hI.1.1) rfl rfl (Nat.le_of_ble_eq_true rfl) (q_may hI (Rg32 _) (Rg32 _) (Rg32 _)) (fun r M1 z => pr_room z) (fun r M1 H1 locs1 z hP1 hS1 => ?_)
  obtain ⟨x, rfl, sh1, S1, L1, rfl, hH1, hE2⟩ := z
  refine lv_aload_n hx hb dL_680 rfl h2 ?_
  refine lw_sl (k := 1) C0 hLn hS1 h0 h3 (by omega) dL_681 dL_682 dL_683 dL_684 dL_685 rfl ?_
  refine lw_sl (k := 2) C0 hLn hS1 h0 h3 (by omega) dL_686 dL_687 dL_688 dL_689 dL_690 rfl ?_
  refine lw_sl (k := 3) C0 hLn hS1 h0 h3 (by omega) dL_691 dL_692 dL_693 dL_694 dL_695 rfl ?_
  refine lw_V (As := [.int (iI (xs (i + 1)).toInt), .int (iI (xs (i + 2)).toInt), .int (iI (xs (i + 3)).toInt)]) (st := [.int x]) (a := 181) (ci := 10) C0 hK hP1 hS1 hl dL_696 in_X10_may mk_L_83 im_X10_may sl_X10_may ⟨Nat.le_of_ble_eq_true rfl, Nat.le_of_ble_eq_true rfl⟩ rfl (mm_get hH1.2.2.2.2.2.2.1) rfl rfl (Nat.le_of_ble_eq_true rfl) hE2 (fun r M2 z => pr_room2 z) (fun r2 M2 H2 locs2 z hP2 hS2 => ?_)
  obtain ⟨rfl, sh2, S2, L2, rfl, hI2⟩ := z
  refine lv_icmp_eq (tgt := 972) hx hb dL_699 (by decide) (fun _ => kk sh2 S2 L2 H2 locs2 hI2 hP2 hS2) (fun h => absurd rfl h)
set_option maxHeartbeats 1000000 in
theorem lw_c16 (C0 : lw_At p s m meth c scr Ln xs) (hLn : Ln ≤ 3072) (hK : am_K D cT s) (hi : i + 6 ≤ Ln) (hI : INV sh S L) (hP : am_P s.heap.size D cT (mm sh S L) H) (hS : va_S (fun q => s.heap.size ≤ q) s.heap H locs) (hl : lv_has la 4 [(0, .ref scr), (1, .ref (s.heap.size + 0)), (2, .ref (s.heap.size + 181)), (3, .int (iI (i : Int)))]) (kk : ∀ sh2 S2 L2 H2 locs2, INV sh2 S2 L2 → am_P s.heap.size D cT (mm sh2 S2 L2) H2 → va_S (fun q => s.heap.size ≤ q) s.heap H2 locs2 → W p l e room_1 s m #[Value.ref scr] below meth c H2 locs2 (mm sh2 S2 L2).length (am_z (mm sh2 S2 L2)) (lw_Z below #[Value.ref scr] s) (F0 m 972 la [])) : W p l e room_1 s m #[Value.ref scr] below meth c H locs (mm sh S L).length (am_z (mm sh S L)) (lw_Z below #[Value.ref scr] s) (F0 m 704 la []) := by
  obtain ⟨hx, hb, hr, hml, hown, hts, hX, hbl, hlocks, hgv⟩ := id C0
  have h0 := lv_at hl 0 rfl
  have h1 := lv_at hl 1 rfl
  have h2 := lv_at hl 2 rfl
  have h3 := lv_at hl 3 rfl
  refine lv_aload_n hx hb dL_704 rfl h1 ?_
  refine lw_sl (k := 1) C0 hLn hS h0 h3 (by omega) dL_705 dL_706 dL_707 dL_708 dL_709 rfl ?_
  refine lw_sl (k := 2) C0 hLn hS h0 h3 (by omega) dL_710 dL_711 dL_712 dL_713 dL_714 rfl ?_
  refine lw_sl (k := 3) C0 hLn hS h0 h3 (by omega) dL_715 dL_716 dL_717 dL_718 dL_719 rfl ?_
  refine lw_sl (k := 4) C0 hLn hS h0 h3 (by omega) dL_720 dL_721 dL_722 dL_723 dL_724 rfl ?_
  refine lw_V (As := [.int (iI (xs (i + 1)).toInt), .int (iI (xs (i + 2)).toInt), .int (iI (xs (i + 3)).toInt), .int (iI (xs (i + 4)).toInt)]) (st := []) (a := 0) (ci := 9) C0 hK hP hS hl dL_725 in_X9_one mk_L_84 im_X9_one sl_X9_one ⟨Nat.le_of_ble_eq_true rfl, Nat.le_of_ble_eq_true rfl⟩ rfl (mm_get hI.1.1) rfl rfl (Nat.le_of_ble_eq_true rfl) (q_one hI (Rg32 _) (Rg32 _) (Rg32 _) (Rg32 _)) (fun r M1 z => pr_room z) (fun r M1 H1 locs1 z hP1 hS1 => ?_)
  obtain ⟨x, rfl, sh1, S1, L1, rfl, hH1, hE2⟩ := z
  refine lv_aload_n hx hb dL_728 rfl h2 ?_
  refine lw_sl (k := 1) C0 hLn hS1 h0 h3 (by omega) dL_729 dL_730 dL_731 dL_732 dL_733 rfl ?_
  refine lw_sl (k := 2) C0 hLn hS1 h0 h3 (by omega) dL_734 dL_735 dL_736 dL_737 dL_738 rfl ?_
  refine lw_sl (k := 3) C0 hLn hS1 h0 h3 (by omega) dL_739 dL_740 dL_741 dL_742 dL_743 rfl ?_
  refine lw_sl (k := 4) C0 hLn hS1 h0 h3 (by omega) dL_744 dL_745 dL_746 dL_747 dL_748 rfl ?_
  refine lw_V (As := [.int (iI (xs (i + 1)).toInt), .int (iI (xs (i + 2)).toInt), .int (iI (xs (i + 3)).toInt), .int (iI (xs (i + 4)).toInt)]) (st := [.int x]) (a := 181) (ci := 10) C0 hK hP1 hS1 hl dL_749 in_X10_one mk_L_87 im_X10_one sl_X10_one ⟨Nat.le_of_ble_eq_true rfl, Nat.le_of_ble_eq_true rfl⟩ rfl (mm_get hH1.2.2.2.2.2.2.1) rfl rfl (Nat.le_of_ble_eq_true rfl) hE2 (fun r M2 z => pr_room2 z) (fun r2 M2 H2 locs2 z hP2 hS2 => ?_)
  obtain ⟨rfl, sh2, S2, L2, rfl, hI2⟩ := z
  refine lv_icmp_eq (tgt := 972) hx hb dL_752 (by decide) (fun _ => kk sh2 S2 L2 H2 locs2 hI2 hP2 hS2) (fun h => absurd rfl h)
set_option maxHeartbeats 1000000 in
theorem lw_c17 (C0 : lw_At p s m meth c scr Ln xs) (hLn : Ln ≤ 3072) (hK : am_K D cT s) (hi : i + 6 ≤ Ln) (hI : INV sh S L) (hP : am_P s.heap.size D cT (mm sh S L) H) (hS : va_S (fun q => s.heap.size ≤ q) s.heap H locs) (hl : lv_has la 4 [(0, .ref scr), (1, .ref (s.heap.size + 0)), (2, .ref (s.heap.size + 181)), (3, .int (iI (i : Int)))]) (kk : ∀ sh2 S2 L2 H2 locs2, INV sh2 S2 L2 → am_P s.heap.size D cT (mm sh2 S2 L2) H2 → va_S (fun q => s.heap.size ≤ q) s.heap H2 locs2 → W p l e room_1 s m #[Value.ref scr] below meth c H2 locs2 (mm sh2 S2 L2).length (am_z (mm sh2 S2 L2)) (lw_Z below #[Value.ref scr] s) (F0 m 972 la [])) : W p l e room_1 s m #[Value.ref scr] below meth c H locs (mm sh S L).length (am_z (mm sh S L)) (lw_Z below #[Value.ref scr] s) (F0 m 757 la []) := by
  obtain ⟨hx, hb, hr, hml, hown, hts, hX, hbl, hlocks, hgv⟩ := id C0
  have h0 := lv_at hl 0 rfl
  have h1 := lv_at hl 1 rfl
  have h2 := lv_at hl 2 rfl
  have h3 := lv_at hl 3 rfl
  refine lv_aload_n hx hb dL_757 rfl h1 ?_
  refine lw_sl (k := 1) C0 hLn hS h0 h3 (by omega) dL_758 dL_759 dL_760 dL_761 dL_762 rfl ?_
  refine lw_sl (k := 2) C0 hLn hS h0 h3 (by omega) dL_763 dL_764 dL_765 dL_766 dL_767 rfl ?_
  refine lw_nz (tgt := 775) hx hb dL_768 dL_771 dL_772 dL_775 rfl rfl rfl ?_
  refine lw_sl (k := 3) C0 hLn hS h0 h3 (by omega) dL_776 dL_777 dL_778 dL_779 dL_780 rfl ?_
  refine lw_sl (k := 4) C0 hLn hS h0 h3 (by omega) dL_781 dL_782 dL_783 dL_784 dL_785 rfl ?_
  refine lw_V (As := [.int (iI (xs (i + 1)).toInt), .int (iI (b2 ((xs (i + 2)).toInt ≠ 0))), .int (iI (xs (i + 3)).toInt), .int (iI (xs (i + 4)).toInt)]) (st := []) (a := 0) (ci := 9) C0 hK hP hS hl dL_786 in_X9_paper mk_L_88 im_X9_paper sl_X9_paper ⟨Nat.le_of_ble_eq_true rfl, Nat.le_of_ble_eq_true rfl⟩ rfl (mm_get hI.1.1) rfl rfl (Nat.le_of_ble_eq_true rfl) (q_paper hI ((xs (i + 2)).toInt ≠ 0) (Rg32 _) (Rg32 _) (Rg32 _)) (fun r M1 z => pr_room z) (fun r M1 H1 locs1 z hP1 hS1 => ?_)
  obtain ⟨x, rfl, sh1, S1, L1, rfl, hH1, hE2⟩ := z
  refine lv_aload_n hx hb dL_789 rfl h2 ?_
  refine lw_sl (k := 1) C0 hLn hS1 h0 h3 (by omega) dL_790 dL_791 dL_792 dL_793 dL_794 rfl ?_
  refine lw_sl (k := 2) C0 hLn hS1 h0 h3 (by omega) dL_795 dL_796 dL_797 dL_798 dL_799 rfl ?_
  refine lw_nz (tgt := 807) hx hb dL_800 dL_803 dL_804 dL_807 rfl rfl rfl ?_
  refine lw_sl (k := 3) C0 hLn hS1 h0 h3 (by omega) dL_808 dL_809 dL_810 dL_811 dL_812 rfl ?_
  refine lw_sl (k := 4) C0 hLn hS1 h0 h3 (by omega) dL_813 dL_814 dL_815 dL_816 dL_817 rfl ?_
  refine lw_V (As := [.int (iI (xs (i + 1)).toInt), .int (iI (b2 ((xs (i + 2)).toInt ≠ 0))), .int (iI (xs (i + 3)).toInt), .int (iI (xs (i + 4)).toInt)]) (st := [.int x]) (a := 181) (ci := 10) C0 hK hP1 hS1 hl dL_818 in_X10_paper mk_L_92 im_X10_paper sl_X10_paper ⟨Nat.le_of_ble_eq_true rfl, Nat.le_of_ble_eq_true rfl⟩ rfl (mm_get hH1.2.2.2.2.2.2.1) rfl rfl (Nat.le_of_ble_eq_true rfl) hE2 (fun r M2 z => pr_room2 z) (fun r2 M2 H2 locs2 z hP2 hS2 => ?_)
  obtain ⟨rfl, sh2, S2, L2, rfl, hI2⟩ := z
  refine lv_icmp_eq (tgt := 972) hx hb dL_821 (by decide) (fun _ => kk sh2 S2 L2 H2 locs2 hI2 hP2 hS2) (fun h => absurd rfl h)
set_option maxHeartbeats 1000000 in
theorem lw_c18 (C0 : lw_At p s m meth c scr Ln xs) (hLn : Ln ≤ 3072) (hK : am_K D cT s) (hi : i + 6 ≤ Ln) (hI : INV sh S L) (hP : am_P s.heap.size D cT (mm sh S L) H) (hS : va_S (fun q => s.heap.size ≤ q) s.heap H locs) (hl : lv_has la 4 [(0, .ref scr), (1, .ref (s.heap.size + 0)), (2, .ref (s.heap.size + 181)), (3, .int (iI (i : Int)))]) (kk : ∀ sh2 S2 L2 H2 locs2, INV sh2 S2 L2 → am_P s.heap.size D cT (mm sh2 S2 L2) H2 → va_S (fun q => s.heap.size ≤ q) s.heap H2 locs2 → W p l e room_1 s m #[Value.ref scr] below meth c H2 locs2 (mm sh2 S2 L2).length (am_z (mm sh2 S2 L2)) (lw_Z below #[Value.ref scr] s) (F0 m 972 la [])) : W p l e room_1 s m #[Value.ref scr] below meth c H locs (mm sh S L).length (am_z (mm sh S L)) (lw_Z below #[Value.ref scr] s) (F0 m 826 la []) := by
  obtain ⟨hx, hb, hr, hml, hown, hts, hX, hbl, hlocks, hgv⟩ := id C0
  have h0 := lv_at hl 0 rfl
  have h1 := lv_at hl 1 rfl
  have h2 := lv_at hl 2 rfl
  have h3 := lv_at hl 3 rfl
  refine lv_aload_n hx hb dL_826 rfl h1 ?_
  refine lw_sl (k := 1) C0 hLn hS h0 h3 (by omega) dL_827 dL_828 dL_829 dL_830 dL_831 rfl ?_
  refine lw_V (As := [.int (iI (xs (i + 1)).toInt)]) (st := []) (a := 0) (ci := 9) C0 hK hP hS hl dL_832 in_X9_count mk_L_93 im_X9_count sl_X9_count ⟨Nat.le_of_ble_eq_true rfl, Nat.le_of_ble_eq_true rfl⟩ rfl (mm_get hI.1.1) rfl rfl (Nat.le_of_ble_eq_true rfl) (q_count hI (Rg32 _)) (fun r M1 z => pr_room z) (fun r M1 H1 locs1 z hP1 hS1 => ?_)
  obtain ⟨x, rfl, sh1, S1, L1, rfl, hH1, hE2⟩ := z
  refine lv_aload_n hx hb dL_835 rfl h2 ?_
  refine lw_sl (k := 1) C0 hLn hS1 h0 h3 (by omega) dL_836 dL_837 dL_838 dL_839 dL_840 rfl ?_
  refine lw_V (As := [.int (iI (xs (i + 1)).toInt)]) (st := [.int x]) (a := 181) (ci := 10) C0 hK hP1 hS1 hl dL_841 in_X10_count mk_L_96 im_X10_count sl_X10_count ⟨Nat.le_of_ble_eq_true rfl, Nat.le_of_ble_eq_true rfl⟩ rfl (mm_get hH1.2.2.2.2.2.2.1) rfl rfl (Nat.le_of_ble_eq_true rfl) hE2 (fun r M2 z => pr_room2 z) (fun r2 M2 H2 locs2 z hP2 hS2 => ?_)
  obtain ⟨rfl, sh2, S2, L2, rfl, hI2⟩ := z
  refine lv_icmp_eq (tgt := 972) hx hb dL_844 (by decide) (fun _ => kk sh2 S2 L2 H2 locs2 hI2 hP2 hS2) (fun h => absurd rfl h)
set_option maxHeartbeats 1000000 in
theorem lw_c19 (C0 : lw_At p s m meth c scr Ln xs) (hLn : Ln ≤ 3072) (hK : am_K D cT s) (hi : i + 6 ≤ Ln) (hI : INV sh S L) (hP : am_P s.heap.size D cT (mm sh S L) H) (hS : va_S (fun q => s.heap.size ≤ q) s.heap H locs) (hl : lv_has la 4 [(0, .ref scr), (1, .ref (s.heap.size + 0)), (2, .ref (s.heap.size + 181)), (3, .int (iI (i : Int)))]) (kk : ∀ sh2 S2 L2 H2 locs2, INV sh2 S2 L2 → am_P s.heap.size D cT (mm sh2 S2 L2) H2 → va_S (fun q => s.heap.size ≤ q) s.heap H2 locs2 → W p l e room_1 s m #[Value.ref scr] below meth c H2 locs2 (mm sh2 S2 L2).length (am_z (mm sh2 S2 L2)) (lw_Z below #[Value.ref scr] s) (F0 m 972 la [])) : W p l e room_1 s m #[Value.ref scr] below meth c H locs (mm sh S L).length (am_z (mm sh S L)) (lw_Z below #[Value.ref scr] s) (F0 m 849 la []) := by
  obtain ⟨hx, hb, hr, hml, hown, hts, hX, hbl, hlocks, hgv⟩ := id C0
  have h0 := lv_at hl 0 rfl
  have h1 := lv_at hl 1 rfl
  have h2 := lv_at hl 2 rfl
  have h3 := lv_at hl 3 rfl
  refine lv_aload_n hx hb dL_849 rfl h1 ?_
  refine lw_sl (k := 1) C0 hLn hS h0 h3 (by omega) dL_850 dL_851 dL_852 dL_853 dL_854 rfl ?_
  refine lv_i2l hx hb dL_855 rfl ?_
  refine lv_bipush (v := iI 32) hx hb dL_856 (by decide) ?_
  refine lv_lshl hx hb dL_858 rfl ?_
  refine lw_sl (k := 2) C0 hLn hS h0 h3 (by omega) dL_859 dL_860 dL_861 dL_862 dL_863 rfl ?_
  refine lv_i2l hx hb dL_864 rfl ?_
  refine lv_ldc2 hx hb hown (hts _ (lwl_in ct_L_97)) dL_865 ?_
  refine lv_land hx hb dL_868 ?_
  refine lv_lor hx hb dL_869 ?_
  refine lw_sl (k := 3) C0 hLn hS h0 h3 (by omega) dL_870 dL_871 dL_872 dL_873 dL_874 rfl ?_
  refine lw_V (As := [.long (((iI (xs (i + 1)).toInt).toInt64 <<< ((iI 32).toInt64 &&& 63)) ||| ((iI (xs (i + 2)).toInt).toInt64 &&& 4294967295)), .int (iI (xs (i + 3)).toInt)]) (st := []) (a := 0) (ci := 9) C0 hK hP hS hl dL_875 in_X9_run mk_L_99 im_X9_run sl_X9_run ⟨Nat.le_of_ble_eq_true rfl, Nat.le_of_ble_eq_true rfl⟩ rfl (mm_get hI.1.1) rfl rfl (Nat.le_of_ble_eq_true rfl) (q_run hI (Rg32 _)) (fun r M1 z => pr_room z) (fun r M1 H1 locs1 z hP1 hS1 => ?_)
  obtain ⟨x, rfl, sh1, S1, L1, rfl, hH1, hE2⟩ := z
  refine lv_aload_n hx hb dL_878 rfl h2 ?_
  refine lw_sl (k := 1) C0 hLn hS1 h0 h3 (by omega) dL_879 dL_880 dL_881 dL_882 dL_883 rfl ?_
  refine lv_i2l hx hb dL_884 rfl ?_
  refine lv_bipush (v := iI 32) hx hb dL_885 (by decide) ?_
  refine lv_lshl hx hb dL_887 rfl ?_
  refine lw_sl (k := 2) C0 hLn hS1 h0 h3 (by omega) dL_888 dL_889 dL_890 dL_891 dL_892 rfl ?_
  refine lv_i2l hx hb dL_893 rfl ?_
  refine lv_ldc2 hx hb hown (hts _ (lwl_in ct_L_97)) dL_894 ?_
  refine lv_land hx hb dL_897 ?_
  refine lv_lor hx hb dL_898 ?_
  refine lw_sl (k := 3) C0 hLn hS1 h0 h3 (by omega) dL_899 dL_900 dL_901 dL_902 dL_903 rfl ?_
  refine lw_V (As := [.long (((iI (xs (i + 1)).toInt).toInt64 <<< ((iI 32).toInt64 &&& 63)) ||| ((iI (xs (i + 2)).toInt).toInt64 &&& 4294967295)), .int (iI (xs (i + 3)).toInt)]) (st := [.int x]) (a := 181) (ci := 10) C0 hK hP1 hS1 hl dL_904 in_X10_run mk_L_103 im_X10_run sl_X10_run ⟨Nat.le_of_ble_eq_true rfl, Nat.le_of_ble_eq_true rfl⟩ rfl (mm_get hH1.2.2.2.2.2.2.1) rfl rfl (Nat.le_of_ble_eq_true rfl) hE2 (fun r M2 z => pr_room2 z) (fun r2 M2 H2 locs2 z hP2 hS2 => ?_)
  obtain ⟨rfl, sh2, S2, L2, rfl, hI2⟩ := z
  refine lv_icmp_eq (tgt := 972) hx hb dL_907 (by decide) (fun _ => kk sh2 S2 L2 H2 locs2 hI2 hP2 hS2) (fun h => absurd rfl h)
set_option maxHeartbeats 1000000 in
theorem lw_c20 (C0 : lw_At p s m meth c scr Ln xs) (hLn : Ln ≤ 3072) (hK : am_K D cT s) (hi : i + 6 ≤ Ln) (hI : INV sh S L) (hP : am_P s.heap.size D cT (mm sh S L) H) (hS : va_S (fun q => s.heap.size ≤ q) s.heap H locs) (hl : lv_has la 4 [(0, .ref scr), (1, .ref (s.heap.size + 0)), (2, .ref (s.heap.size + 181)), (3, .int (iI (i : Int)))]) (kk : ∀ sh2 S2 L2 H2 locs2, INV sh2 S2 L2 → am_P s.heap.size D cT (mm sh2 S2 L2) H2 → va_S (fun q => s.heap.size ≤ q) s.heap H2 locs2 → W p l e room_1 s m #[Value.ref scr] below meth c H2 locs2 (mm sh2 S2 L2).length (am_z (mm sh2 S2 L2)) (lw_Z below #[Value.ref scr] s) (F0 m 972 la [])) : W p l e room_1 s m #[Value.ref scr] below meth c H locs (mm sh S L).length (am_z (mm sh S L)) (lw_Z below #[Value.ref scr] s) (F0 m 912 la []) := by
  obtain ⟨hx, hb, hr, hml, hown, hts, hX, hbl, hlocks, hgv⟩ := id C0
  have h0 := lv_at hl 0 rfl
  have h1 := lv_at hl 1 rfl
  have h2 := lv_at hl 2 rfl
  have h3 := lv_at hl 3 rfl
  refine lv_aload_n hx hb dL_912 rfl h1 ?_
  refine lw_sl (k := 1) C0 hLn hS h0 h3 (by omega) dL_913 dL_914 dL_915 dL_916 dL_917 rfl ?_
  refine lw_V (As := [.int (iI (xs (i + 1)).toInt)]) (st := []) (a := 0) (ci := 9) C0 hK hP hS hl dL_918 in_X9_ended mk_L_104 im_X9_ended sl_X9_ended ⟨Nat.le_of_ble_eq_true rfl, Nat.le_of_ble_eq_true rfl⟩ rfl (mm_get hI.1.1) rfl rfl (Nat.le_of_ble_eq_true rfl) (q_ended hI (Rg32 _)) (fun r M1 z => pr_room z) (fun r M1 H1 locs1 z hP1 hS1 => ?_)
  obtain ⟨x, rfl, sh1, S1, L1, rfl, hH1, hE2⟩ := z
  refine lv_aload_n hx hb dL_921 rfl h2 ?_
  refine lw_sl (k := 1) C0 hLn hS1 h0 h3 (by omega) dL_922 dL_923 dL_924 dL_925 dL_926 rfl ?_
  refine lw_V (As := [.int (iI (xs (i + 1)).toInt)]) (st := [.int x]) (a := 181) (ci := 10) C0 hK hP1 hS1 hl dL_927 in_X10_ended mk_L_107 im_X10_ended sl_X10_ended ⟨Nat.le_of_ble_eq_true rfl, Nat.le_of_ble_eq_true rfl⟩ rfl (mm_get hH1.2.2.2.2.2.2.1) rfl rfl (Nat.le_of_ble_eq_true rfl) hE2 (fun r M2 z => pr_room2 z) (fun r2 M2 H2 locs2 z hP2 hS2 => ?_)
  obtain ⟨rfl, sh2, S2, L2, rfl, hI2⟩ := z
  refine lv_icmp_eq (tgt := 972) hx hb dL_930 (by decide) (fun _ => kk sh2 S2 L2 H2 locs2 hI2 hP2 hS2) (fun h => absurd rfl h)
set_option maxHeartbeats 1000000 in
theorem lw_c21 (C0 : lw_At p s m meth c scr Ln xs) (hLn : Ln ≤ 3072) (hK : am_K D cT s) (hi : i + 6 ≤ Ln) (hI : INV sh S L) (hP : am_P s.heap.size D cT (mm sh S L) H) (hS : va_S (fun q => s.heap.size ≤ q) s.heap H locs) (hl : lv_has la 4 [(0, .ref scr), (1, .ref (s.heap.size + 0)), (2, .ref (s.heap.size + 181)), (3, .int (iI (i : Int)))]) (kk : ∀ sh2 S2 L2 H2 locs2, INV sh2 S2 L2 → am_P s.heap.size D cT (mm sh2 S2 L2) H2 → va_S (fun q => s.heap.size ≤ q) s.heap H2 locs2 → W p l e room_1 s m #[Value.ref scr] below meth c H2 locs2 (mm sh2 S2 L2).length (am_z (mm sh2 S2 L2)) (lw_Z below #[Value.ref scr] s) (F0 m 972 la [])) : W p l e room_1 s m #[Value.ref scr] below meth c H locs (mm sh S L).length (am_z (mm sh S L)) (lw_Z below #[Value.ref scr] s) (F0 m 935 la []) := by
  obtain ⟨hx, hb, hr, hml, hown, hts, hX, hbl, hlocks, hgv⟩ := id C0
  have h0 := lv_at hl 0 rfl
  have h1 := lv_at hl 1 rfl
  have h2 := lv_at hl 2 rfl
  have h3 := lv_at hl 3 rfl
  refine lv_aload_n hx hb dL_935 rfl h1 ?_
  refine lw_sl (k := 1) C0 hLn hS h0 h3 (by omega) dL_936 dL_937 dL_938 dL_939 dL_940 rfl ?_
  refine lw_V (As := [.int (iI (xs (i + 1)).toInt)]) (st := []) (a := 0) (ci := 9) C0 hK hP hS hl dL_941 in_X9_breaks mk_L_108 im_X9_breaks sl_X9_breaks ⟨Nat.le_of_ble_eq_true rfl, Nat.le_of_ble_eq_true rfl⟩ rfl (mm_get hI.1.1) rfl rfl (Nat.le_of_ble_eq_true rfl) (q_breaks hI (Rg32 _)) (fun r M1 z => pr_room z) (fun r M1 H1 locs1 z hP1 hS1 => ?_)
  obtain ⟨x, rfl, sh1, S1, L1, rfl, hH1, hE2⟩ := z
  refine lv_aload_n hx hb dL_944 rfl h2 ?_
  refine lw_sl (k := 1) C0 hLn hS1 h0 h3 (by omega) dL_945 dL_946 dL_947 dL_948 dL_949 rfl ?_
  refine lw_V (As := [.int (iI (xs (i + 1)).toInt)]) (st := [.int x]) (a := 181) (ci := 10) C0 hK hP1 hS1 hl dL_950 in_X10_breaks mk_L_111 im_X10_breaks sl_X10_breaks ⟨Nat.le_of_ble_eq_true rfl, Nat.le_of_ble_eq_true rfl⟩ rfl (mm_get hH1.2.2.2.2.2.2.1) rfl rfl (Nat.le_of_ble_eq_true rfl) hE2 (fun r M2 z => pr_room2 z) (fun r2 M2 H2 locs2 z hP2 hS2 => ?_)
  obtain ⟨rfl, sh2, S2, L2, rfl, hI2⟩ := z
  refine lv_icmp_eq (tgt := 972) hx hb dL_953 (by decide) (fun _ => kk sh2 S2 L2 H2 locs2 hI2 hP2 hS2) (fun h => absurd rfl h)
set_option maxHeartbeats 1000000 in
theorem lw_c22 (C0 : lw_At p s m meth c scr Ln xs) (hLn : Ln ≤ 3072) (hK : am_K D cT s) (hi : i + 6 ≤ Ln) (hI : INV sh S L) (hP : am_P s.heap.size D cT (mm sh S L) H) (hS : va_S (fun q => s.heap.size ≤ q) s.heap H locs) (hl : lv_has la 4 [(0, .ref scr), (1, .ref (s.heap.size + 0)), (2, .ref (s.heap.size + 181)), (3, .int (iI (i : Int)))]) (kk : ∀ sh2 S2 L2 H2 locs2, INV sh2 S2 L2 → am_P s.heap.size D cT (mm sh2 S2 L2) H2 → va_S (fun q => s.heap.size ≤ q) s.heap H2 locs2 → W p l e room_1 s m #[Value.ref scr] below meth c H2 locs2 (mm sh2 S2 L2).length (am_z (mm sh2 S2 L2)) (lw_Z below #[Value.ref scr] s) (F0 m 972 la [])) : W p l e room_1 s m #[Value.ref scr] below meth c H locs (mm sh S L).length (am_z (mm sh S L)) (lw_Z below #[Value.ref scr] s) (F0 m 958 la []) := by
  obtain ⟨hx, hb, hr, hml, hown, hts, hX, hbl, hlocks, hgv⟩ := id C0
  have h0 := lv_at hl 0 rfl
  have h1 := lv_at hl 1 rfl
  have h2 := lv_at hl 2 rfl
  have h3 := lv_at hl 3 rfl
  refine lv_aload_n hx hb dL_958 rfl h1 ?_
  refine lw_V (As := []) (st := []) (a := 0) (ci := 9) C0 hK hP hS hl dL_959 in_X9_digest mk_L_112 im_X9_digest sl_X9_digest ⟨Nat.le_of_ble_eq_true rfl, Nat.le_of_ble_eq_true rfl⟩ rfl (mm_get hI.1.1) rfl rfl (Nat.le_of_ble_eq_true rfl) (q_digest hI) (fun r M1 z => pr_roomL z) (fun r M1 H1 locs1 z hP1 hS1 => ?_)
  obtain ⟨x, rfl, sh1, S1, L1, rfl, hH1, hE2⟩ := z
  refine lv_aload_n hx hb dL_962 rfl h2 ?_
  refine lw_V (As := []) (st := [.long x]) (a := 181) (ci := 10) C0 hK hP1 hS1 hl dL_963 in_X10_digest mk_L_116 im_X10_digest sl_X10_digest ⟨Nat.le_of_ble_eq_true rfl, Nat.le_of_ble_eq_true rfl⟩ rfl (mm_get hH1.2.2.2.2.2.2.1) rfl rfl (Nat.le_of_ble_eq_true rfl) hE2 (fun r M2 z => pr_room2 z) (fun r2 M2 H2 locs2 z hP2 hS2 => ?_)
  obtain ⟨rfl, sh2, S2, L2, rfl, hI2⟩ := z
  refine W.lcmp hx hb dL_966 ?_
  refine lv_if_eq (tgt := 972) hx hb dL_967 (by decide) (fun _ => kk sh2 S2 L2 H2 locs2 hI2 hP2 hS2) (fun h => absurd (lg_cmp_self x) h)
end
