/-! THE LAW'S CASES: a call on the class, the same on the reference, the answers compared -/
section LWC
variable {p : Program} {l : Launch} {e : Env} {s : State} {m : MethodId} {below : List Frame} {meth : Method} {c : Code} {H : Heap} {locs : List Loc} {cells slots : Nat} {Q : State → Prop}
variable {ls : Array Slot} {D : va_G} {b L : Nat} {xs : Nat → Int32} {k : ck_F} {km : mk_F} {d : ck_A} {x : cs_S}
theorem m_oneShotR {LL : List Nat} {f : Nat → va_E} {sz : Nat} (hI : mR km x LL f) (a b : Int64) : Met l yM_oneShot (wz yM_oneShot bM_oneShot 8 (some .long)) (rmL 0 0 0) (gP D (mk_tys km) LL f sz [.ref (mO km), .long a, .long b]) (vp_Sl (fun r => r = os a b)) 0 0 (fun _ => False) := by
  obtain ⟨y, -, hJ⟩ := hI
  exact m_oneShot hJ a b

set_option maxHeartbeats 600000 in
set_option maxRecDepth 100000 in
theorem law_c0 (h : lCx p s m c b L xs D k km) (hcs : cells + 100 ≤ room_1.cells ∧ slots + 900 ≤ room_1.slots) {i : Nat} (hi : i + 5 ≤ L) (hH : g2 D (cJ k) (d, x) (mR km) x (lA s) s.heap H locs) (hl : lv_has ls 4 [(0, .ref b), (1, .ref (kO k)), (2, .ref (mO km)), (3, .int (nI i))]) (kk : ∀ (d : ck_A) (x : cs_S) (H : Heap) (locs : List Loc), g2 D (cJ k) (d, x) (mR km) x (lA s) s.heap H locs → W p l e room_1 s m #[Value.ref b] below meth c H locs (cells + 100) (slots + 900) Q (F0 m 703 ls [])) : W p l e room_1 s m #[Value.ref b] below meth c H locs cells slots Q (F0 m 136 ls []) := by
  obtain ⟨hC, hM, hX, hbl, hL⟩ := h
  have hx := hC.1
  have hb := hC.2.1
  have hts := hC.2.2.1
  have hown := hC.2.2.2.1
  have hA : ∀ q : Nat, s.heap.size ≤ q → lA s q := fun _ h => h
  have hS := hH.S
  have hl : lv_has ls 4 [(0, _), (1, _), (2, _), (3, _)] := hl
  first | refine lv_aload_n hx hb dL_law_136 rfl (lv_at hl 1 rfl) ?_ | refine lv_aload_nN hx hb dL_law_136 rfl (lv_at hl 1 rfl) ?_
  first | refine lv_aload_n hx hb dL_law_137 rfl (lv_at hl 0 rfl) ?_ | refine lv_aload_nN hx hb dL_law_137 rfl (lv_at hl 0 rfl) ?_
  refine lv_iload_n hx hb dL_law_138 rfl (lv_at hl 3 rfl) ?_
  refine lv_iconst (v := 1) hx hb dL_law_139 (by decide) ?_
  refine lv_iadd hx hb dL_law_140 ?_
  refine l_sld hx hb hX hbl hL hS (t := i + 1) (nI_add i 1) (by omega) dL_law_141 ?_
  refine lv_i2l hx hb dL_law_142 rfl ?_
  refine lv_bipush (v := 32) hx hb dL_law_143 (by decide) ?_
  refine lv_lshl hx hb dL_law_145 rfl ?_
  first | refine lv_aload_n hx hb dL_law_146 rfl (lv_at hl 0 rfl) ?_ | refine lv_aload_nN hx hb dL_law_146 rfl (lv_at hl 0 rfl) ?_
  refine lv_iload_n hx hb dL_law_147 rfl (lv_at hl 3 rfl) ?_
  refine lv_iconst (v := 2) hx hb dL_law_148 (by decide) ?_
  refine lv_iadd hx hb dL_law_149 ?_
  refine l_sld hx hb hX hbl hL hS (t := i + 2) (nI_add i 2) (by omega) dL_law_150 ?_
  refine lv_i2l hx hb dL_law_151 rfl ?_
  refine lv_ldc2 hx hb hown (hts _ wq_L_21) dL_law_152 ?_
  refine lv_land hx hb dL_law_155 ?_
  refine lv_lor hx hb dL_law_156 ?_
  first | refine lv_aload_n hx hb dL_law_157 rfl (lv_at hl 0 rfl) ?_ | refine lv_aload_nN hx hb dL_law_157 rfl (lv_at hl 0 rfl) ?_
  refine lv_iload_n hx hb dL_law_158 rfl (lv_at hl 3 rfl) ?_
  refine lv_iconst (v := 3) hx hb dL_law_159 (by decide) ?_
  refine lv_iadd hx hb dL_law_160 ?_
  refine l_sld hx hb hX hbl hL hS (t := i + 3) (nI_add i 3) (by omega) dL_law_161 ?_
  refine g2Wi hC hl.1 hA hH (fun LL f sz hI => c_tool hI _ _) (fun LL f h => ⟨_, cJ.o LL f h⟩) rfl rfl kL_23 ⟨Nat.le_of_ble_eq_true rfl, Nat.le_of_ble_eq_true rfl⟩ dL_law_162 ⟨by omega, by omega⟩ rfl (Nat.le_of_ble_eq_true rfl) (fun r u H locs hp hH => ?_)
  obtain ⟨d1, x1⟩ := u
  have hS := hH.S
  have hH := hH.swap
  first | refine lv_aload_n hx hb dL_law_165 rfl (lv_at hl 2 rfl) ?_ | refine lv_aload_nN hx hb dL_law_165 rfl (lv_at hl 2 rfl) ?_
  first | refine lv_aload_n hx hb dL_law_166 rfl (lv_at hl 0 rfl) ?_ | refine lv_aload_nN hx hb dL_law_166 rfl (lv_at hl 0 rfl) ?_
  refine lv_iload_n hx hb dL_law_167 rfl (lv_at hl 3 rfl) ?_
  refine lv_iconst (v := 1) hx hb dL_law_168 (by decide) ?_
  refine lv_iadd hx hb dL_law_169 ?_
  refine l_sld hx hb hX hbl hL hS (t := i + 1) (nI_add i 1) (by omega) dL_law_170 ?_
  refine lv_i2l hx hb dL_law_171 rfl ?_
  refine lv_bipush (v := 32) hx hb dL_law_172 (by decide) ?_
  refine lv_lshl hx hb dL_law_174 rfl ?_
  first | refine lv_aload_n hx hb dL_law_175 rfl (lv_at hl 0 rfl) ?_ | refine lv_aload_nN hx hb dL_law_175 rfl (lv_at hl 0 rfl) ?_
  refine lv_iload_n hx hb dL_law_176 rfl (lv_at hl 3 rfl) ?_
  refine lv_iconst (v := 2) hx hb dL_law_177 (by decide) ?_
  refine lv_iadd hx hb dL_law_178 ?_
  refine l_sld hx hb hX hbl hL hS (t := i + 2) (nI_add i 2) (by omega) dL_law_179 ?_
  refine lv_i2l hx hb dL_law_180 rfl ?_
  refine lv_ldc2 hx hb hown (hts _ wq_L_21) dL_law_181 ?_
  refine lv_land hx hb dL_law_184 ?_
  refine lv_lor hx hb dL_law_185 ?_
  first | refine lv_aload_n hx hb dL_law_186 rfl (lv_at hl 0 rfl) ?_ | refine lv_aload_nN hx hb dL_law_186 rfl (lv_at hl 0 rfl) ?_
  refine lv_iload_n hx hb dL_law_187 rfl (lv_at hl 3 rfl) ?_
  refine lv_iconst (v := 3) hx hb dL_law_188 (by decide) ?_
  refine lv_iadd hx hb dL_law_189 ?_
  refine l_sld hx hb hX hbl hL hS (t := i + 3) (nI_add i 3) (by omega) dL_law_190 ?_
  refine g2Wi hM hl.1 hA hH (fun LL f sz hI => m_tool hI _ _) mR.o rfl rfl kL_27 ⟨Nat.le_of_ble_eq_true rfl, Nat.le_of_ble_eq_true rfl⟩ dL_law_191 ⟨by omega, by omega⟩ rfl (Nat.le_of_ble_eq_true rfl) (fun r2 x2 H locs hp2 hH => ?_)
  obtain ⟨e1, e2⟩ := Prod.mk.inj (hp.trans hp2.symm)
  have e1 : x1 = x2 := e1
  have e2 : r = r2 := e2
  subst e1
  have hH := hH.swap
  exact lv_icmp_eq (tgt := 703) hx hb dL_law_194 (by decide) (fun _ => W.widen (by omega) (by omega) (kk d1 x1 H locs hH)) (fun h => absurd e2 h)
set_option maxHeartbeats 600000 in
set_option maxRecDepth 100000 in
theorem law_c1 (h : lCx p s m c b L xs D k km) (hcs : cells + 100 ≤ room_1.cells ∧ slots + 900 ≤ room_1.slots) {i : Nat} (hi : i + 5 ≤ L) (hH : g2 D (cJ k) (d, x) (mR km) x (lA s) s.heap H locs) (hl : lv_has ls 4 [(0, .ref b), (1, .ref (kO k)), (2, .ref (mO km)), (3, .int (nI i))]) (kk : ∀ (d : ck_A) (x : cs_S) (H : Heap) (locs : List Loc), g2 D (cJ k) (d, x) (mR km) x (lA s) s.heap H locs → W p l e room_1 s m #[Value.ref b] below meth c H locs (cells + 100) (slots + 900) Q (F0 m 703 ls [])) : W p l e room_1 s m #[Value.ref b] below meth c H locs cells slots Q (F0 m 199 ls []) := by
  obtain ⟨hC, hM, hX, hbl, hL⟩ := h
  have hx := hC.1
  have hb := hC.2.1
  have hts := hC.2.2.1
  have hown := hC.2.2.2.1
  have hA : ∀ q : Nat, s.heap.size ≤ q → lA s q := fun _ h => h
  have hS := hH.S
  have hl : lv_has ls 4 [(0, _), (1, _), (2, _), (3, _)] := hl
  first | refine lv_aload_n hx hb dL_law_199 rfl (lv_at hl 1 rfl) ?_ | refine lv_aload_nN hx hb dL_law_199 rfl (lv_at hl 1 rfl) ?_
  first | refine lv_aload_n hx hb dL_law_200 rfl (lv_at hl 0 rfl) ?_ | refine lv_aload_nN hx hb dL_law_200 rfl (lv_at hl 0 rfl) ?_
  refine lv_iload_n hx hb dL_law_201 rfl (lv_at hl 3 rfl) ?_
  refine lv_iconst (v := 1) hx hb dL_law_202 (by decide) ?_
  refine lv_iadd hx hb dL_law_203 ?_
  refine l_sld hx hb hX hbl hL hS (t := i + 1) (nI_add i 1) (by omega) dL_law_204 ?_
  first | refine lv_aload_n hx hb dL_law_205 rfl (lv_at hl 0 rfl) ?_ | refine lv_aload_nN hx hb dL_law_205 rfl (lv_at hl 0 rfl) ?_
  refine lv_iload_n hx hb dL_law_206 rfl (lv_at hl 3 rfl) ?_
  refine lv_iconst (v := 2) hx hb dL_law_207 (by decide) ?_
  refine lv_iadd hx hb dL_law_208 ?_
  refine l_sld hx hb hX hbl hL hS (t := i + 2) (nI_add i 2) (by omega) dL_law_209 ?_
  refine lv_i2l hx hb dL_law_210 rfl ?_
  refine lv_bipush (v := 32) hx hb dL_law_211 (by decide) ?_
  refine lv_lshl hx hb dL_law_213 rfl ?_
  first | refine lv_aload_n hx hb dL_law_214 rfl (lv_at hl 0 rfl) ?_ | refine lv_aload_nN hx hb dL_law_214 rfl (lv_at hl 0 rfl) ?_
  refine lv_iload_n hx hb dL_law_215 rfl (lv_at hl 3 rfl) ?_
  refine lv_iconst (v := 3) hx hb dL_law_216 (by decide) ?_
  refine lv_iadd hx hb dL_law_217 ?_
  refine l_sld hx hb hX hbl hL hS (t := i + 3) (nI_add i 3) (by omega) dL_law_218 ?_
  refine lv_i2l hx hb dL_law_219 rfl ?_
  refine lv_ldc2 hx hb hown (hts _ wq_L_21) dL_law_220 ?_
  refine lv_land hx hb dL_law_223 ?_
  refine lv_lor hx hb dL_law_224 ?_
  refine g2Wi hC hl.1 hA hH (fun LL f sz hI => c_edition hI _ _) (fun LL f h => ⟨_, cJ.o LL f h⟩) rfl rfl kL_28 ⟨Nat.le_of_ble_eq_true rfl, Nat.le_of_ble_eq_true rfl⟩ dL_law_225 ⟨by omega, by omega⟩ rfl (Nat.le_of_ble_eq_true rfl) (fun r u H locs hp hH => ?_)
  obtain ⟨d1, x1⟩ := u
  have hS := hH.S
  have hH := hH.swap
  first | refine lv_aload_n hx hb dL_law_228 rfl (lv_at hl 2 rfl) ?_ | refine lv_aload_nN hx hb dL_law_228 rfl (lv_at hl 2 rfl) ?_
  first | refine lv_aload_n hx hb dL_law_229 rfl (lv_at hl 0 rfl) ?_ | refine lv_aload_nN hx hb dL_law_229 rfl (lv_at hl 0 rfl) ?_
  refine lv_iload_n hx hb dL_law_230 rfl (lv_at hl 3 rfl) ?_
  refine lv_iconst (v := 1) hx hb dL_law_231 (by decide) ?_
  refine lv_iadd hx hb dL_law_232 ?_
  refine l_sld hx hb hX hbl hL hS (t := i + 1) (nI_add i 1) (by omega) dL_law_233 ?_
  first | refine lv_aload_n hx hb dL_law_234 rfl (lv_at hl 0 rfl) ?_ | refine lv_aload_nN hx hb dL_law_234 rfl (lv_at hl 0 rfl) ?_
  refine lv_iload_n hx hb dL_law_235 rfl (lv_at hl 3 rfl) ?_
  refine lv_iconst (v := 2) hx hb dL_law_236 (by decide) ?_
  refine lv_iadd hx hb dL_law_237 ?_
  refine l_sld hx hb hX hbl hL hS (t := i + 2) (nI_add i 2) (by omega) dL_law_238 ?_
  refine lv_i2l hx hb dL_law_239 rfl ?_
  refine lv_bipush (v := 32) hx hb dL_law_240 (by decide) ?_
  refine lv_lshl hx hb dL_law_242 rfl ?_
  first | refine lv_aload_n hx hb dL_law_243 rfl (lv_at hl 0 rfl) ?_ | refine lv_aload_nN hx hb dL_law_243 rfl (lv_at hl 0 rfl) ?_
  refine lv_iload_n hx hb dL_law_244 rfl (lv_at hl 3 rfl) ?_
  refine lv_iconst (v := 3) hx hb dL_law_245 (by decide) ?_
  refine lv_iadd hx hb dL_law_246 ?_
  refine l_sld hx hb hX hbl hL hS (t := i + 3) (nI_add i 3) (by omega) dL_law_247 ?_
  refine lv_i2l hx hb dL_law_248 rfl ?_
  refine lv_ldc2 hx hb hown (hts _ wq_L_21) dL_law_249 ?_
  refine lv_land hx hb dL_law_252 ?_
  refine lv_lor hx hb dL_law_253 ?_
  refine g2Wi hM hl.1 hA hH (fun LL f sz hI => m_edition hI _ _) mR.o rfl rfl kL_32 ⟨Nat.le_of_ble_eq_true rfl, Nat.le_of_ble_eq_true rfl⟩ dL_law_254 ⟨by omega, by omega⟩ rfl (Nat.le_of_ble_eq_true rfl) (fun r2 x2 H locs hp2 hH => ?_)
  obtain ⟨e1, e2⟩ := Prod.mk.inj (hp.trans hp2.symm)
  have e1 : x1 = x2 := e1
  have e2 : r = r2 := e2
  subst e1
  have hH := hH.swap
  exact lv_icmp_eq (tgt := 703) hx hb dL_law_257 (by decide) (fun _ => W.widen (by omega) (by omega) (kk d1 x1 H locs hH)) (fun h => absurd e2 h)
set_option maxHeartbeats 600000 in
set_option maxRecDepth 100000 in
theorem law_c2 (h : lCx p s m c b L xs D k km) (hcs : cells + 100 ≤ room_1.cells ∧ slots + 900 ≤ room_1.slots) {i : Nat} (hi : i + 5 ≤ L) (hH : g2 D (cJ k) (d, x) (mR km) x (lA s) s.heap H locs) (hl : lv_has ls 4 [(0, .ref b), (1, .ref (kO k)), (2, .ref (mO km)), (3, .int (nI i))]) (kk : ∀ (d : ck_A) (x : cs_S) (H : Heap) (locs : List Loc), g2 D (cJ k) (d, x) (mR km) x (lA s) s.heap H locs → W p l e room_1 s m #[Value.ref b] below meth c H locs (cells + 100) (slots + 900) Q (F0 m 703 ls [])) : W p l e room_1 s m #[Value.ref b] below meth c H locs cells slots Q (F0 m 262 ls []) := by
  obtain ⟨hC, hM, hX, hbl, hL⟩ := h
  have hx := hC.1
  have hb := hC.2.1
  have hts := hC.2.2.1
  have hown := hC.2.2.2.1
  have hA : ∀ q : Nat, s.heap.size ≤ q → lA s q := fun _ h => h
  have hS := hH.S
  have hl : lv_has ls 4 [(0, _), (1, _), (2, _), (3, _)] := hl
  first | refine lv_aload_n hx hb dL_law_262 rfl (lv_at hl 1 rfl) ?_ | refine lv_aload_nN hx hb dL_law_262 rfl (lv_at hl 1 rfl) ?_
  first | refine lv_aload_n hx hb dL_law_263 rfl (lv_at hl 0 rfl) ?_ | refine lv_aload_nN hx hb dL_law_263 rfl (lv_at hl 0 rfl) ?_
  refine lv_iload_n hx hb dL_law_264 rfl (lv_at hl 3 rfl) ?_
  refine lv_iconst (v := 1) hx hb dL_law_265 (by decide) ?_
  refine lv_iadd hx hb dL_law_266 ?_
  refine l_sld hx hb hX hbl hL hS (t := i + 1) (nI_add i 1) (by omega) dL_law_267 ?_
  first | refine lv_aload_n hx hb dL_law_268 rfl (lv_at hl 0 rfl) ?_ | refine lv_aload_nN hx hb dL_law_268 rfl (lv_at hl 0 rfl) ?_
  refine lv_iload_n hx hb dL_law_269 rfl (lv_at hl 3 rfl) ?_
  refine lv_iconst (v := 2) hx hb dL_law_270 (by decide) ?_
  refine lv_iadd hx hb dL_law_271 ?_
  refine l_sld hx hb hX hbl hL hS (t := i + 2) (nI_add i 2) (by omega) dL_law_272 ?_
  refine g2Wi hC hl.1 hA hH (fun LL f sz hI => c_quirk hI _ _) (fun LL f h => ⟨_, cJ.o LL f h⟩) rfl rfl kL_33 ⟨Nat.le_of_ble_eq_true rfl, Nat.le_of_ble_eq_true rfl⟩ dL_law_273 ⟨by omega, by omega⟩ rfl (Nat.le_of_ble_eq_true rfl) (fun r u H locs hp hH => ?_)
  obtain ⟨d1, x1⟩ := u
  have hS := hH.S
  have hH := hH.swap
  first | refine lv_aload_n hx hb dL_law_276 rfl (lv_at hl 2 rfl) ?_ | refine lv_aload_nN hx hb dL_law_276 rfl (lv_at hl 2 rfl) ?_
  first | refine lv_aload_n hx hb dL_law_277 rfl (lv_at hl 0 rfl) ?_ | refine lv_aload_nN hx hb dL_law_277 rfl (lv_at hl 0 rfl) ?_
  refine lv_iload_n hx hb dL_law_278 rfl (lv_at hl 3 rfl) ?_
  refine lv_iconst (v := 1) hx hb dL_law_279 (by decide) ?_
  refine lv_iadd hx hb dL_law_280 ?_
  refine l_sld hx hb hX hbl hL hS (t := i + 1) (nI_add i 1) (by omega) dL_law_281 ?_
  first | refine lv_aload_n hx hb dL_law_282 rfl (lv_at hl 0 rfl) ?_ | refine lv_aload_nN hx hb dL_law_282 rfl (lv_at hl 0 rfl) ?_
  refine lv_iload_n hx hb dL_law_283 rfl (lv_at hl 3 rfl) ?_
  refine lv_iconst (v := 2) hx hb dL_law_284 (by decide) ?_
  refine lv_iadd hx hb dL_law_285 ?_
  refine l_sld hx hb hX hbl hL hS (t := i + 2) (nI_add i 2) (by omega) dL_law_286 ?_
  refine g2Wi hM hl.1 hA hH (fun LL f sz hI => m_quirk hI _ _) mR.o rfl rfl kL_37 ⟨Nat.le_of_ble_eq_true rfl, Nat.le_of_ble_eq_true rfl⟩ dL_law_287 ⟨by omega, by omega⟩ rfl (Nat.le_of_ble_eq_true rfl) (fun r2 x2 H locs hp2 hH => ?_)
  obtain ⟨e1, e2⟩ := Prod.mk.inj (hp.trans hp2.symm)
  have e1 : x1 = x2 := e1
  have e2 : r = r2 := e2
  subst e1
  have hH := hH.swap
  exact lv_icmp_eq (tgt := 703) hx hb dL_law_290 (by decide) (fun _ => W.widen (by omega) (by omega) (kk d1 x1 H locs hH)) (fun h => absurd e2 h)
set_option maxHeartbeats 600000 in
set_option maxRecDepth 100000 in
theorem law_c3 (h : lCx p s m c b L xs D k km) (hcs : cells + 100 ≤ room_1.cells ∧ slots + 900 ≤ room_1.slots) {i : Nat} (hi : i + 5 ≤ L) (hH : g2 D (cJ k) (d, x) (mR km) x (lA s) s.heap H locs) (hl : lv_has ls 4 [(0, .ref b), (1, .ref (kO k)), (2, .ref (mO km)), (3, .int (nI i))]) (kk : ∀ (d : ck_A) (x : cs_S) (H : Heap) (locs : List Loc), g2 D (cJ k) (d, x) (mR km) x (lA s) s.heap H locs → W p l e room_1 s m #[Value.ref b] below meth c H locs (cells + 100) (slots + 900) Q (F0 m 703 ls [])) : W p l e room_1 s m #[Value.ref b] below meth c H locs cells slots Q (F0 m 295 ls []) := by
  obtain ⟨hC, hM, hX, hbl, hL⟩ := h
  have hx := hC.1
  have hb := hC.2.1
  have hts := hC.2.2.1
  have hown := hC.2.2.2.1
  have hA : ∀ q : Nat, s.heap.size ≤ q → lA s q := fun _ h => h
  have hS := hH.S
  have hl : lv_has ls 4 [(0, _), (1, _), (2, _), (3, _)] := hl
  first | refine lv_aload_n hx hb dL_law_295 rfl (lv_at hl 1 rfl) ?_ | refine lv_aload_nN hx hb dL_law_295 rfl (lv_at hl 1 rfl) ?_
  first | refine lv_aload_n hx hb dL_law_296 rfl (lv_at hl 0 rfl) ?_ | refine lv_aload_nN hx hb dL_law_296 rfl (lv_at hl 0 rfl) ?_
  refine lv_iload_n hx hb dL_law_297 rfl (lv_at hl 3 rfl) ?_
  refine lv_iconst (v := 1) hx hb dL_law_298 (by decide) ?_
  refine lv_iadd hx hb dL_law_299 ?_
  refine l_sld hx hb hX hbl hL hS (t := i + 1) (nI_add i 1) (by omega) dL_law_300 ?_
  first | refine lv_aload_n hx hb dL_law_301 rfl (lv_at hl 0 rfl) ?_ | refine lv_aload_nN hx hb dL_law_301 rfl (lv_at hl 0 rfl) ?_
  refine lv_iload_n hx hb dL_law_302 rfl (lv_at hl 3 rfl) ?_
  refine lv_iconst (v := 2) hx hb dL_law_303 (by decide) ?_
  refine lv_iadd hx hb dL_law_304 ?_
  refine l_sld hx hb hX hbl hL hS (t := i + 2) (nI_add i 2) (by omega) dL_law_305 ?_
  refine lv_i2l hx hb dL_law_306 rfl ?_
  refine lv_bipush (v := 32) hx hb dL_law_307 (by decide) ?_
  refine lv_lshl hx hb dL_law_309 rfl ?_
  first | refine lv_aload_n hx hb dL_law_310 rfl (lv_at hl 0 rfl) ?_ | refine lv_aload_nN hx hb dL_law_310 rfl (lv_at hl 0 rfl) ?_
  refine lv_iload_n hx hb dL_law_311 rfl (lv_at hl 3 rfl) ?_
  refine lv_iconst (v := 3) hx hb dL_law_312 (by decide) ?_
  refine lv_iadd hx hb dL_law_313 ?_
  refine l_sld hx hb hX hbl hL hS (t := i + 3) (nI_add i 3) (by omega) dL_law_314 ?_
  refine lv_i2l hx hb dL_law_315 rfl ?_
  refine lv_ldc2 hx hb hown (hts _ wq_L_21) dL_law_316 ?_
  refine lv_land hx hb dL_law_319 ?_
  refine lv_lor hx hb dL_law_320 ?_
  first | refine lv_aload_n hx hb dL_law_321 rfl (lv_at hl 0 rfl) ?_ | refine lv_aload_nN hx hb dL_law_321 rfl (lv_at hl 0 rfl) ?_
  refine lv_iload_n hx hb dL_law_322 rfl (lv_at hl 3 rfl) ?_
  refine lv_iconst (v := 4) hx hb dL_law_323 (by decide) ?_
  refine lv_iadd hx hb dL_law_324 ?_
  refine l_sld hx hb hX hbl hL hS (t := i + 4) (nI_add i 4) (by omega) dL_law_325 ?_
  refine g2Wi hC hl.1 hA hH (fun LL f sz hI => c_request hI _ _ _) (fun LL f h => ⟨_, cJ.o LL f h⟩) rfl rfl kL_38 ⟨Nat.le_of_ble_eq_true rfl, Nat.le_of_ble_eq_true rfl⟩ dL_law_326 ⟨by omega, by omega⟩ rfl (Nat.le_of_ble_eq_true rfl) (fun r u H locs hp hH => ?_)
  obtain ⟨d1, x1⟩ := u
  have hS := hH.S
  have hH := hH.swap
  first | refine lv_aload_n hx hb dL_law_329 rfl (lv_at hl 2 rfl) ?_ | refine lv_aload_nN hx hb dL_law_329 rfl (lv_at hl 2 rfl) ?_
  first | refine lv_aload_n hx hb dL_law_330 rfl (lv_at hl 0 rfl) ?_ | refine lv_aload_nN hx hb dL_law_330 rfl (lv_at hl 0 rfl) ?_
  refine lv_iload_n hx hb dL_law_331 rfl (lv_at hl 3 rfl) ?_
  refine lv_iconst (v := 1) hx hb dL_law_332 (by decide) ?_
  refine lv_iadd hx hb dL_law_333 ?_
  refine l_sld hx hb hX hbl hL hS (t := i + 1) (nI_add i 1) (by omega) dL_law_334 ?_
  first | refine lv_aload_n hx hb dL_law_335 rfl (lv_at hl 0 rfl) ?_ | refine lv_aload_nN hx hb dL_law_335 rfl (lv_at hl 0 rfl) ?_
  refine lv_iload_n hx hb dL_law_336 rfl (lv_at hl 3 rfl) ?_
  refine lv_iconst (v := 2) hx hb dL_law_337 (by decide) ?_
  refine lv_iadd hx hb dL_law_338 ?_
  refine l_sld hx hb hX hbl hL hS (t := i + 2) (nI_add i 2) (by omega) dL_law_339 ?_
  refine lv_i2l hx hb dL_law_340 rfl ?_
  refine lv_bipush (v := 32) hx hb dL_law_341 (by decide) ?_
  refine lv_lshl hx hb dL_law_343 rfl ?_
  first | refine lv_aload_n hx hb dL_law_344 rfl (lv_at hl 0 rfl) ?_ | refine lv_aload_nN hx hb dL_law_344 rfl (lv_at hl 0 rfl) ?_
  refine lv_iload_n hx hb dL_law_345 rfl (lv_at hl 3 rfl) ?_
  refine lv_iconst (v := 3) hx hb dL_law_346 (by decide) ?_
  refine lv_iadd hx hb dL_law_347 ?_
  refine l_sld hx hb hX hbl hL hS (t := i + 3) (nI_add i 3) (by omega) dL_law_348 ?_
  refine lv_i2l hx hb dL_law_349 rfl ?_
  refine lv_ldc2 hx hb hown (hts _ wq_L_21) dL_law_350 ?_
  refine lv_land hx hb dL_law_353 ?_
  refine lv_lor hx hb dL_law_354 ?_
  first | refine lv_aload_n hx hb dL_law_355 rfl (lv_at hl 0 rfl) ?_ | refine lv_aload_nN hx hb dL_law_355 rfl (lv_at hl 0 rfl) ?_
  refine lv_iload_n hx hb dL_law_356 rfl (lv_at hl 3 rfl) ?_
  refine lv_iconst (v := 4) hx hb dL_law_357 (by decide) ?_
  refine lv_iadd hx hb dL_law_358 ?_
  refine l_sld hx hb hX hbl hL hS (t := i + 4) (nI_add i 4) (by omega) dL_law_359 ?_
  refine g2Wi hM hl.1 hA hH (fun LL f sz hI => m_request hI _ _ _) mR.o rfl rfl kL_42 ⟨Nat.le_of_ble_eq_true rfl, Nat.le_of_ble_eq_true rfl⟩ dL_law_360 ⟨by omega, by omega⟩ rfl (Nat.le_of_ble_eq_true rfl) (fun r2 x2 H locs hp2 hH => ?_)
  obtain ⟨e1, e2⟩ := Prod.mk.inj (hp.trans hp2.symm)
  have e1 : x1 = x2 := e1
  have e2 : r = r2 := e2
  subst e1
  have hH := hH.swap
  exact lv_icmp_eq (tgt := 703) hx hb dL_law_363 (by decide) (fun _ => W.widen (by omega) (by omega) (kk d1 x1 H locs hH)) (fun h => absurd e2 h)
set_option maxHeartbeats 600000 in
set_option maxRecDepth 100000 in
theorem law_c4 (h : lCx p s m c b L xs D k km) (hcs : cells + 100 ≤ room_1.cells ∧ slots + 900 ≤ room_1.slots) {i : Nat} (hi : i + 5 ≤ L) (hH : g2 D (cJ k) (d, x) (mR km) x (lA s) s.heap H locs) (hl : lv_has ls 4 [(0, .ref b), (1, .ref (kO k)), (2, .ref (mO km)), (3, .int (nI i))]) (kk : ∀ (d : ck_A) (x : cs_S) (H : Heap) (locs : List Loc), g2 D (cJ k) (d, x) (mR km) x (lA s) s.heap H locs → W p l e room_1 s m #[Value.ref b] below meth c H locs (cells + 100) (slots + 900) Q (F0 m 703 ls [])) : W p l e room_1 s m #[Value.ref b] below meth c H locs cells slots Q (F0 m 368 ls []) := by
  obtain ⟨hC, hM, hX, hbl, hL⟩ := h
  have hx := hC.1
  have hb := hC.2.1
  have hts := hC.2.2.1
  have hown := hC.2.2.2.1
  have hA : ∀ q : Nat, s.heap.size ≤ q → lA s q := fun _ h => h
  have hS := hH.S
  have hl : lv_has ls 4 [(0, _), (1, _), (2, _), (3, _)] := hl
  first | refine lv_aload_n hx hb dL_law_368 rfl (lv_at hl 1 rfl) ?_ | refine lv_aload_nN hx hb dL_law_368 rfl (lv_at hl 1 rfl) ?_
  first | refine lv_aload_n hx hb dL_law_369 rfl (lv_at hl 0 rfl) ?_ | refine lv_aload_nN hx hb dL_law_369 rfl (lv_at hl 0 rfl) ?_
  refine lv_iload_n hx hb dL_law_370 rfl (lv_at hl 3 rfl) ?_
  refine lv_iconst (v := 1) hx hb dL_law_371 (by decide) ?_
  refine lv_iadd hx hb dL_law_372 ?_
  refine l_sld hx hb hX hbl hL hS (t := i + 1) (nI_add i 1) (by omega) dL_law_373 ?_
  refine g2Wi hC hl.1 hA hH (fun LL f sz hI => c_cancel hI _) (fun LL f h => ⟨_, cJ.o LL f h⟩) rfl rfl kL_43 ⟨Nat.le_of_ble_eq_true rfl, Nat.le_of_ble_eq_true rfl⟩ dL_law_374 ⟨by omega, by omega⟩ rfl (Nat.le_of_ble_eq_true rfl) (fun r u H locs hp hH => ?_)
  obtain ⟨d1, x1⟩ := u
  have hS := hH.S
  have hH := hH.swap
  first | refine lv_aload_n hx hb dL_law_377 rfl (lv_at hl 2 rfl) ?_ | refine lv_aload_nN hx hb dL_law_377 rfl (lv_at hl 2 rfl) ?_
  first | refine lv_aload_n hx hb dL_law_378 rfl (lv_at hl 0 rfl) ?_ | refine lv_aload_nN hx hb dL_law_378 rfl (lv_at hl 0 rfl) ?_
  refine lv_iload_n hx hb dL_law_379 rfl (lv_at hl 3 rfl) ?_
  refine lv_iconst (v := 1) hx hb dL_law_380 (by decide) ?_
  refine lv_iadd hx hb dL_law_381 ?_
  refine l_sld hx hb hX hbl hL hS (t := i + 1) (nI_add i 1) (by omega) dL_law_382 ?_
  refine g2Wi hM hl.1 hA hH (fun LL f sz hI => m_cancel hI _) mR.o rfl rfl kL_47 ⟨Nat.le_of_ble_eq_true rfl, Nat.le_of_ble_eq_true rfl⟩ dL_law_383 ⟨by omega, by omega⟩ rfl (Nat.le_of_ble_eq_true rfl) (fun r2 x2 H locs hp2 hH => ?_)
  obtain ⟨e1, e2⟩ := Prod.mk.inj (hp.trans hp2.symm)
  have e1 : x1 = x2 := e1
  have e2 : r = r2 := e2
  subst e1
  have hH := hH.swap
  exact lv_icmp_eq (tgt := 703) hx hb dL_law_386 (by decide) (fun _ => W.widen (by omega) (by omega) (kk d1 x1 H locs hH)) (fun h => absurd e2 h)
set_option maxHeartbeats 600000 in
set_option maxRecDepth 100000 in
theorem law_c5 (h : lCx p s m c b L xs D k km) (hcs : cells + 100 ≤ room_1.cells ∧ slots + 900 ≤ room_1.slots) {i : Nat} (hi : i + 5 ≤ L) (hH : g2 D (cJ k) (d, x) (mR km) x (lA s) s.heap H locs) (hl : lv_has ls 4 [(0, .ref b), (1, .ref (kO k)), (2, .ref (mO km)), (3, .int (nI i))]) (kk : ∀ (d : ck_A) (x : cs_S) (H : Heap) (locs : List Loc), g2 D (cJ k) (d, x) (mR km) x (lA s) s.heap H locs → W p l e room_1 s m #[Value.ref b] below meth c H locs (cells + 100) (slots + 900) Q (F0 m 703 ls [])) : W p l e room_1 s m #[Value.ref b] below meth c H locs cells slots Q (F0 m 391 ls []) := by
  obtain ⟨hC, hM, hX, hbl, hL⟩ := h
  have hx := hC.1
  have hb := hC.2.1
  have hts := hC.2.2.1
  have hown := hC.2.2.2.1
  have hA : ∀ q : Nat, s.heap.size ≤ q → lA s q := fun _ h => h
  have hS := hH.S
  have hl : lv_has ls 4 [(0, _), (1, _), (2, _), (3, _)] := hl
  first | refine lv_aload_n hx hb dL_law_391 rfl (lv_at hl 1 rfl) ?_ | refine lv_aload_nN hx hb dL_law_391 rfl (lv_at hl 1 rfl) ?_
  refine g2Wi hC hl.1 hA hH (fun LL f sz hI => c_step hI) (fun LL f h => ⟨_, cJ.o LL f h⟩) rfl rfl kL_48 ⟨Nat.le_of_ble_eq_true rfl, Nat.le_of_ble_eq_true rfl⟩ dL_law_392 ⟨by omega, by omega⟩ rfl (Nat.le_of_ble_eq_true rfl) (fun r u H locs hp hH => ?_)
  obtain ⟨d1, x1⟩ := u
  have hS := hH.S
  have hH := hH.swap
  first | refine lv_aload_n hx hb dL_law_395 rfl (lv_at hl 2 rfl) ?_ | refine lv_aload_nN hx hb dL_law_395 rfl (lv_at hl 2 rfl) ?_
  refine g2Wi hM hl.1 hA hH (fun LL f sz hI => m_step hI) mR.o rfl rfl kL_52 ⟨Nat.le_of_ble_eq_true rfl, Nat.le_of_ble_eq_true rfl⟩ dL_law_396 ⟨by omega, by omega⟩ rfl (Nat.le_of_ble_eq_true rfl) (fun r2 x2 H locs hp2 hH => ?_)
  obtain ⟨e1, e2⟩ := Prod.mk.inj (hp.trans hp2.symm)
  have e1 : x1 = x2 := e1
  have e2 : r = r2 := e2
  subst e1
  have hH := hH.swap
  exact lv_icmp_eq (tgt := 703) hx hb dL_law_399 (by decide) (fun _ => W.widen (by omega) (by omega) (kk d1 x1 H locs hH)) (fun h => absurd e2 h)
set_option maxHeartbeats 600000 in
set_option maxRecDepth 100000 in
theorem law_c6 (h : lCx p s m c b L xs D k km) (hcs : cells + 100 ≤ room_1.cells ∧ slots + 900 ≤ room_1.slots) {i : Nat} (hi : i + 5 ≤ L) (hH : g2 D (cJ k) (d, x) (mR km) x (lA s) s.heap H locs) (hl : lv_has ls 4 [(0, .ref b), (1, .ref (kO k)), (2, .ref (mO km)), (3, .int (nI i))]) (kk : ∀ (d : ck_A) (x : cs_S) (H : Heap) (locs : List Loc), g2 D (cJ k) (d, x) (mR km) x (lA s) s.heap H locs → W p l e room_1 s m #[Value.ref b] below meth c H locs (cells + 100) (slots + 900) Q (F0 m 703 ls [])) : W p l e room_1 s m #[Value.ref b] below meth c H locs cells slots Q (F0 m 404 ls []) := by
  obtain ⟨hC, hM, hX, hbl, hL⟩ := h
  have hx := hC.1
  have hb := hC.2.1
  have hts := hC.2.2.1
  have hown := hC.2.2.2.1
  have hA : ∀ q : Nat, s.heap.size ≤ q → lA s q := fun _ h => h
  have hS := hH.S
  have hl : lv_has ls 4 [(0, _), (1, _), (2, _), (3, _)] := hl
  first | refine lv_aload_n hx hb dL_law_404 rfl (lv_at hl 1 rfl) ?_ | refine lv_aload_nN hx hb dL_law_404 rfl (lv_at hl 1 rfl) ?_
  first | refine lv_aload_n hx hb dL_law_405 rfl (lv_at hl 0 rfl) ?_ | refine lv_aload_nN hx hb dL_law_405 rfl (lv_at hl 0 rfl) ?_
  refine lv_iload_n hx hb dL_law_406 rfl (lv_at hl 3 rfl) ?_
  refine lv_iconst (v := 1) hx hb dL_law_407 (by decide) ?_
  refine lv_iadd hx hb dL_law_408 ?_
  refine l_sld hx hb hX hbl hL hS (t := i + 1) (nI_add i 1) (by omega) dL_law_409 ?_
  refine g2Wi hC hl.1 hA hH (fun LL f sz hI => c_finish hI _) (fun LL f h => ⟨_, cJ.o LL f h⟩) rfl rfl kL_53 ⟨Nat.le_of_ble_eq_true rfl, Nat.le_of_ble_eq_true rfl⟩ dL_law_410 ⟨by omega, by omega⟩ rfl (Nat.le_of_ble_eq_true rfl) (fun r u H locs hp hH => ?_)
  obtain ⟨d1, x1⟩ := u
  have hS := hH.S
  have hH := hH.swap
  first | refine lv_aload_n hx hb dL_law_413 rfl (lv_at hl 2 rfl) ?_ | refine lv_aload_nN hx hb dL_law_413 rfl (lv_at hl 2 rfl) ?_
  first | refine lv_aload_n hx hb dL_law_414 rfl (lv_at hl 0 rfl) ?_ | refine lv_aload_nN hx hb dL_law_414 rfl (lv_at hl 0 rfl) ?_
  refine lv_iload_n hx hb dL_law_415 rfl (lv_at hl 3 rfl) ?_
  refine lv_iconst (v := 1) hx hb dL_law_416 (by decide) ?_
  refine lv_iadd hx hb dL_law_417 ?_
  refine l_sld hx hb hX hbl hL hS (t := i + 1) (nI_add i 1) (by omega) dL_law_418 ?_
  refine g2Wi hM hl.1 hA hH (fun LL f sz hI => m_finish hI _) mR.o rfl rfl kL_56 ⟨Nat.le_of_ble_eq_true rfl, Nat.le_of_ble_eq_true rfl⟩ dL_law_419 ⟨by omega, by omega⟩ rfl (Nat.le_of_ble_eq_true rfl) (fun r2 x2 H locs hp2 hH => ?_)
  obtain ⟨e1, e2⟩ := Prod.mk.inj (hp.trans hp2.symm)
  have e1 : x1 = x2 := e1
  have e2 : r = r2 := e2
  subst e1
  have hH := hH.swap
  exact lv_icmp_eq (tgt := 703) hx hb dL_law_422 (by decide) (fun _ => W.widen (by omega) (by omega) (kk d1 x1 H locs hH)) (fun h => absurd e2 h)
set_option maxHeartbeats 600000 in
set_option maxRecDepth 100000 in
theorem law_c7 (h : lCx p s m c b L xs D k km) (hcs : cells + 100 ≤ room_1.cells ∧ slots + 900 ≤ room_1.slots) {i : Nat} (hi : i + 5 ≤ L) (hH : g2 D (cJ k) (d, x) (mR km) x (lA s) s.heap H locs) (hl : lv_has ls 4 [(0, .ref b), (1, .ref (kO k)), (2, .ref (mO km)), (3, .int (nI i))]) (kk : ∀ (d : ck_A) (x : cs_S) (H : Heap) (locs : List Loc), g2 D (cJ k) (d, x) (mR km) x (lA s) s.heap H locs → W p l e room_1 s m #[Value.ref b] below meth c H locs (cells + 100) (slots + 900) Q (F0 m 703 ls [])) : W p l e room_1 s m #[Value.ref b] below meth c H locs cells slots Q (F0 m 427 ls []) := by
  obtain ⟨hC, hM, hX, hbl, hL⟩ := h
  have hx := hC.1
  have hb := hC.2.1
  have hts := hC.2.2.1
  have hown := hC.2.2.2.1
  have hA : ∀ q : Nat, s.heap.size ≤ q → lA s q := fun _ h => h
  have hS := hH.S
  have hl : lv_has ls 4 [(0, _), (1, _), (2, _), (3, _)] := hl
  first | refine lv_aload_n hx hb dL_law_427 rfl (lv_at hl 1 rfl) ?_ | refine lv_aload_nN hx hb dL_law_427 rfl (lv_at hl 1 rfl) ?_
  first | refine lv_aload_n hx hb dL_law_428 rfl (lv_at hl 0 rfl) ?_ | refine lv_aload_nN hx hb dL_law_428 rfl (lv_at hl 0 rfl) ?_
  refine lv_iload_n hx hb dL_law_429 rfl (lv_at hl 3 rfl) ?_
  refine lv_iconst (v := 1) hx hb dL_law_430 (by decide) ?_
  refine lv_iadd hx hb dL_law_431 ?_
  refine l_sld hx hb hX hbl hL hS (t := i + 1) (nI_add i 1) (by omega) dL_law_432 ?_
  refine g2Wi hC hl.1 hA hH (fun LL f sz hI => c_crash hI _) (fun LL f h => ⟨_, cJ.o LL f h⟩) rfl rfl kL_57 ⟨Nat.le_of_ble_eq_true rfl, Nat.le_of_ble_eq_true rfl⟩ dL_law_433 ⟨by omega, by omega⟩ rfl (Nat.le_of_ble_eq_true rfl) (fun r u H locs hp hH => ?_)
  obtain ⟨d1, x1⟩ := u
  have hS := hH.S
  have hH := hH.swap
  first | refine lv_aload_n hx hb dL_law_436 rfl (lv_at hl 2 rfl) ?_ | refine lv_aload_nN hx hb dL_law_436 rfl (lv_at hl 2 rfl) ?_
  first | refine lv_aload_n hx hb dL_law_437 rfl (lv_at hl 0 rfl) ?_ | refine lv_aload_nN hx hb dL_law_437 rfl (lv_at hl 0 rfl) ?_
  refine lv_iload_n hx hb dL_law_438 rfl (lv_at hl 3 rfl) ?_
  refine lv_iconst (v := 1) hx hb dL_law_439 (by decide) ?_
  refine lv_iadd hx hb dL_law_440 ?_
  refine l_sld hx hb hX hbl hL hS (t := i + 1) (nI_add i 1) (by omega) dL_law_441 ?_
  refine g2Wi hM hl.1 hA hH (fun LL f sz hI => m_crash hI _) mR.o rfl rfl kL_60 ⟨Nat.le_of_ble_eq_true rfl, Nat.le_of_ble_eq_true rfl⟩ dL_law_442 ⟨by omega, by omega⟩ rfl (Nat.le_of_ble_eq_true rfl) (fun r2 x2 H locs hp2 hH => ?_)
  obtain ⟨e1, e2⟩ := Prod.mk.inj (hp.trans hp2.symm)
  have e1 : x1 = x2 := e1
  have e2 : r = r2 := e2
  subst e1
  have hH := hH.swap
  exact lv_icmp_eq (tgt := 703) hx hb dL_law_445 (by decide) (fun _ => W.widen (by omega) (by omega) (kk d1 x1 H locs hH)) (fun h => absurd e2 h)
set_option maxHeartbeats 600000 in
set_option maxRecDepth 100000 in
theorem law_c8 (h : lCx p s m c b L xs D k km) (hcs : cells + 100 ≤ room_1.cells ∧ slots + 900 ≤ room_1.slots) {i : Nat} (hi : i + 5 ≤ L) (hH : g2 D (cJ k) (d, x) (mR km) x (lA s) s.heap H locs) (hl : lv_has ls 4 [(0, .ref b), (1, .ref (kO k)), (2, .ref (mO km)), (3, .int (nI i))]) (kk : ∀ (d : ck_A) (x : cs_S) (H : Heap) (locs : List Loc), g2 D (cJ k) (d, x) (mR km) x (lA s) s.heap H locs → W p l e room_1 s m #[Value.ref b] below meth c H locs (cells + 100) (slots + 900) Q (F0 m 703 ls [])) : W p l e room_1 s m #[Value.ref b] below meth c H locs cells slots Q (F0 m 450 ls []) := by
  obtain ⟨hC, hM, hX, hbl, hL⟩ := h
  have hx := hC.1
  have hb := hC.2.1
  have hts := hC.2.2.1
  have hown := hC.2.2.2.1
  have hA : ∀ q : Nat, s.heap.size ≤ q → lA s q := fun _ h => h
  have hS := hH.S
  have hl : lv_has ls 4 [(0, _), (1, _), (2, _), (3, _)] := hl
  first | refine lv_aload_n hx hb dL_law_450 rfl (lv_at hl 1 rfl) ?_ | refine lv_aload_nN hx hb dL_law_450 rfl (lv_at hl 1 rfl) ?_
  first | refine lv_aload_n hx hb dL_law_451 rfl (lv_at hl 0 rfl) ?_ | refine lv_aload_nN hx hb dL_law_451 rfl (lv_at hl 0 rfl) ?_
  refine lv_iload_n hx hb dL_law_452 rfl (lv_at hl 3 rfl) ?_
  refine lv_iconst (v := 1) hx hb dL_law_453 (by decide) ?_
  refine lv_iadd hx hb dL_law_454 ?_
  refine l_sld hx hb hX hbl hL hS (t := i + 1) (nI_add i 1) (by omega) dL_law_455 ?_
  refine g2Wi hC hl.1 hA hH (fun LL f sz hI => c_tick hI _) (fun LL f h => ⟨_, cJ.o LL f h⟩) rfl rfl kL_61 ⟨Nat.le_of_ble_eq_true rfl, Nat.le_of_ble_eq_true rfl⟩ dL_law_456 ⟨by omega, by omega⟩ rfl (Nat.le_of_ble_eq_true rfl) (fun r u H locs hp hH => ?_)
  obtain ⟨d1, x1⟩ := u
  have hS := hH.S
  have hH := hH.swap
  first | refine lv_aload_n hx hb dL_law_459 rfl (lv_at hl 2 rfl) ?_ | refine lv_aload_nN hx hb dL_law_459 rfl (lv_at hl 2 rfl) ?_
  first | refine lv_aload_n hx hb dL_law_460 rfl (lv_at hl 0 rfl) ?_ | refine lv_aload_nN hx hb dL_law_460 rfl (lv_at hl 0 rfl) ?_
  refine lv_iload_n hx hb dL_law_461 rfl (lv_at hl 3 rfl) ?_
  refine lv_iconst (v := 1) hx hb dL_law_462 (by decide) ?_
  refine lv_iadd hx hb dL_law_463 ?_
  refine l_sld hx hb hX hbl hL hS (t := i + 1) (nI_add i 1) (by omega) dL_law_464 ?_
  refine g2Wi hM hl.1 hA hH (fun LL f sz hI => m_tick hI _) mR.o rfl rfl kL_64 ⟨Nat.le_of_ble_eq_true rfl, Nat.le_of_ble_eq_true rfl⟩ dL_law_465 ⟨by omega, by omega⟩ rfl (Nat.le_of_ble_eq_true rfl) (fun r2 x2 H locs hp2 hH => ?_)
  obtain ⟨e1, e2⟩ := Prod.mk.inj (hp.trans hp2.symm)
  have e1 : x1 = x2 := e1
  have e2 : r = r2 := e2
  subst e1
  have hH := hH.swap
  exact lv_icmp_eq (tgt := 703) hx hb dL_law_468 (by decide) (fun _ => W.widen (by omega) (by omega) (kk d1 x1 H locs hH)) (fun h => absurd e2 h)
set_option maxHeartbeats 600000 in
set_option maxRecDepth 100000 in
theorem law_c9 (h : lCx p s m c b L xs D k km) (hcs : cells + 100 ≤ room_1.cells ∧ slots + 900 ≤ room_1.slots) {i : Nat} (hi : i + 5 ≤ L) (hH : g2 D (cJ k) (d, x) (mR km) x (lA s) s.heap H locs) (hl : lv_has ls 4 [(0, .ref b), (1, .ref (kO k)), (2, .ref (mO km)), (3, .int (nI i))]) (kk : ∀ (d : ck_A) (x : cs_S) (H : Heap) (locs : List Loc), g2 D (cJ k) (d, x) (mR km) x (lA s) s.heap H locs → W p l e room_1 s m #[Value.ref b] below meth c H locs (cells + 100) (slots + 900) Q (F0 m 703 ls [])) : W p l e room_1 s m #[Value.ref b] below meth c H locs cells slots Q (F0 m 473 ls []) := by
  obtain ⟨hC, hM, hX, hbl, hL⟩ := h
  have hx := hC.1
  have hb := hC.2.1
  have hts := hC.2.2.1
  have hown := hC.2.2.2.1
  have hA : ∀ q : Nat, s.heap.size ≤ q → lA s q := fun _ h => h
  have hS := hH.S
  have hl : lv_has ls 4 [(0, _), (1, _), (2, _), (3, _)] := hl
  first | refine lv_aload_n hx hb dL_law_473 rfl (lv_at hl 1 rfl) ?_ | refine lv_aload_nN hx hb dL_law_473 rfl (lv_at hl 1 rfl) ?_
  first | refine lv_aload_n hx hb dL_law_474 rfl (lv_at hl 0 rfl) ?_ | refine lv_aload_nN hx hb dL_law_474 rfl (lv_at hl 0 rfl) ?_
  refine lv_iload_n hx hb dL_law_475 rfl (lv_at hl 3 rfl) ?_
  refine lv_iconst (v := 1) hx hb dL_law_476 (by decide) ?_
  refine lv_iadd hx hb dL_law_477 ?_
  refine l_sld hx hb hX hbl hL hS (t := i + 1) (nI_add i 1) (by omega) dL_law_478 ?_
  refine g2Wi hC hl.1 hA hH (fun LL f sz hI => c_sample hI _) (fun LL f h => ⟨_, cJ.o LL f h⟩) rfl rfl kL_65 ⟨Nat.le_of_ble_eq_true rfl, Nat.le_of_ble_eq_true rfl⟩ dL_law_479 ⟨by omega, by omega⟩ rfl (Nat.le_of_ble_eq_true rfl) (fun r u H locs hp hH => ?_)
  obtain ⟨d1, x1⟩ := u
  have hS := hH.S
  have hH := hH.swap
  first | refine lv_aload_n hx hb dL_law_482 rfl (lv_at hl 2 rfl) ?_ | refine lv_aload_nN hx hb dL_law_482 rfl (lv_at hl 2 rfl) ?_
  first | refine lv_aload_n hx hb dL_law_483 rfl (lv_at hl 0 rfl) ?_ | refine lv_aload_nN hx hb dL_law_483 rfl (lv_at hl 0 rfl) ?_
  refine lv_iload_n hx hb dL_law_484 rfl (lv_at hl 3 rfl) ?_
  refine lv_iconst (v := 1) hx hb dL_law_485 (by decide) ?_
  refine lv_iadd hx hb dL_law_486 ?_
  refine l_sld hx hb hX hbl hL hS (t := i + 1) (nI_add i 1) (by omega) dL_law_487 ?_
  refine g2Wi hM hl.1 hA hH (fun LL f sz hI => m_sample hI _) mR.o rfl rfl kL_68 ⟨Nat.le_of_ble_eq_true rfl, Nat.le_of_ble_eq_true rfl⟩ dL_law_488 ⟨by omega, by omega⟩ rfl (Nat.le_of_ble_eq_true rfl) (fun r2 x2 H locs hp2 hH => ?_)
  obtain ⟨e1, e2⟩ := Prod.mk.inj (hp.trans hp2.symm)
  have e1 : x1 = x2 := e1
  have e2 : r = r2 := e2
  subst e1
  have hH := hH.swap
  exact lv_icmp_eq (tgt := 703) hx hb dL_law_491 (by decide) (fun _ => W.widen (by omega) (by omega) (kk d1 x1 H locs hH)) (fun h => absurd e2 h)
set_option maxHeartbeats 600000 in
set_option maxRecDepth 100000 in
theorem law_c10 (h : lCx p s m c b L xs D k km) (hcs : cells + 100 ≤ room_1.cells ∧ slots + 900 ≤ room_1.slots) {i : Nat} (hi : i + 5 ≤ L) (hH : g2 D (cJ k) (d, x) (mR km) x (lA s) s.heap H locs) (hl : lv_has ls 4 [(0, .ref b), (1, .ref (kO k)), (2, .ref (mO km)), (3, .int (nI i))]) (kk : ∀ (d : ck_A) (x : cs_S) (H : Heap) (locs : List Loc), g2 D (cJ k) (d, x) (mR km) x (lA s) s.heap H locs → W p l e room_1 s m #[Value.ref b] below meth c H locs (cells + 100) (slots + 900) Q (F0 m 703 ls [])) : W p l e room_1 s m #[Value.ref b] below meth c H locs cells slots Q (F0 m 496 ls []) := by
  obtain ⟨hC, hM, hX, hbl, hL⟩ := h
  have hx := hC.1
  have hb := hC.2.1
  have hts := hC.2.2.1
  have hown := hC.2.2.2.1
  have hA : ∀ q : Nat, s.heap.size ≤ q → lA s q := fun _ h => h
  have hS := hH.S
  have hl : lv_has ls 4 [(0, _), (1, _), (2, _), (3, _)] := hl
  first | refine lv_aload_n hx hb dL_law_496 rfl (lv_at hl 1 rfl) ?_ | refine lv_aload_nN hx hb dL_law_496 rfl (lv_at hl 1 rfl) ?_
  first | refine lv_aload_n hx hb dL_law_497 rfl (lv_at hl 0 rfl) ?_ | refine lv_aload_nN hx hb dL_law_497 rfl (lv_at hl 0 rfl) ?_
  refine lv_iload_n hx hb dL_law_498 rfl (lv_at hl 3 rfl) ?_
  refine lv_iconst (v := 1) hx hb dL_law_499 (by decide) ?_
  refine lv_iadd hx hb dL_law_500 ?_
  refine l_sld hx hb hX hbl hL hS (t := i + 1) (nI_add i 1) (by omega) dL_law_501 ?_
  first | refine lv_aload_n hx hb dL_law_502 rfl (lv_at hl 0 rfl) ?_ | refine lv_aload_nN hx hb dL_law_502 rfl (lv_at hl 0 rfl) ?_
  refine lv_iload_n hx hb dL_law_503 rfl (lv_at hl 3 rfl) ?_
  refine lv_iconst (v := 2) hx hb dL_law_504 (by decide) ?_
  refine lv_iadd hx hb dL_law_505 ?_
  refine l_sld hx hb hX hbl hL hS (t := i + 2) (nI_add i 2) (by omega) dL_law_506 ?_
  refine g2Ri hC hl.1 hH (fun LL f sz hI => c_about hI _ _) (fun LL f h => ⟨_, cJ.o LL f h⟩) rfl rfl kL_69 ⟨Nat.le_of_ble_eq_true rfl, Nat.le_of_ble_eq_true rfl⟩ dL_law_507 ⟨by omega, by omega⟩ rfl (Nat.le_of_ble_eq_true rfl) (fun r hp => ?_)
  have hH2 := hH.swap
  first | refine lv_aload_n hx hb dL_law_510 rfl (lv_at hl 2 rfl) ?_ | refine lv_aload_nN hx hb dL_law_510 rfl (lv_at hl 2 rfl) ?_
  first | refine lv_aload_n hx hb dL_law_511 rfl (lv_at hl 0 rfl) ?_ | refine lv_aload_nN hx hb dL_law_511 rfl (lv_at hl 0 rfl) ?_
  refine lv_iload_n hx hb dL_law_512 rfl (lv_at hl 3 rfl) ?_
  refine lv_iconst (v := 1) hx hb dL_law_513 (by decide) ?_
  refine lv_iadd hx hb dL_law_514 ?_
  refine l_sld hx hb hX hbl hL hS (t := i + 1) (nI_add i 1) (by omega) dL_law_515 ?_
  first | refine lv_aload_n hx hb dL_law_516 rfl (lv_at hl 0 rfl) ?_ | refine lv_aload_nN hx hb dL_law_516 rfl (lv_at hl 0 rfl) ?_
  refine lv_iload_n hx hb dL_law_517 rfl (lv_at hl 3 rfl) ?_
  refine lv_iconst (v := 2) hx hb dL_law_518 (by decide) ?_
  refine lv_iadd hx hb dL_law_519 ?_
  refine l_sld hx hb hX hbl hL hS (t := i + 2) (nI_add i 2) (by omega) dL_law_520 ?_
  refine g2Ri hM hl.1 hH2 (fun LL f sz hI => m_about hI _ _) mR.o rfl rfl kL_73 ⟨Nat.le_of_ble_eq_true rfl, Nat.le_of_ble_eq_true rfl⟩ dL_law_521 ⟨by omega, by omega⟩ rfl (Nat.le_of_ble_eq_true rfl) (fun r2 hp2 => ?_)
  have e2 : r = r2 := hp.trans hp2.symm
  exact lv_icmp_eq (tgt := 703) hx hb dL_law_524 (by decide) (fun _ => W.widen (by omega) (by omega) (kk d x H locs hH)) (fun h => absurd e2 h)
set_option maxHeartbeats 600000 in
set_option maxRecDepth 100000 in
theorem law_c11 (h : lCx p s m c b L xs D k km) (hcs : cells + 100 ≤ room_1.cells ∧ slots + 900 ≤ room_1.slots) {i : Nat} (hi : i + 5 ≤ L) (hH : g2 D (cJ k) (d, x) (mR km) x (lA s) s.heap H locs) (hl : lv_has ls 4 [(0, .ref b), (1, .ref (kO k)), (2, .ref (mO km)), (3, .int (nI i))]) (kk : ∀ (d : ck_A) (x : cs_S) (H : Heap) (locs : List Loc), g2 D (cJ k) (d, x) (mR km) x (lA s) s.heap H locs → W p l e room_1 s m #[Value.ref b] below meth c H locs (cells + 100) (slots + 900) Q (F0 m 703 ls [])) : W p l e room_1 s m #[Value.ref b] below meth c H locs cells slots Q (F0 m 529 ls []) := by
  obtain ⟨hC, hM, hX, hbl, hL⟩ := h
  have hx := hC.1
  have hb := hC.2.1
  have hts := hC.2.2.1
  have hown := hC.2.2.2.1
  have hA : ∀ q : Nat, s.heap.size ≤ q → lA s q := fun _ h => h
  have hS := hH.S
  have hl : lv_has ls 4 [(0, _), (1, _), (2, _), (3, _)] := hl
  first | refine lv_aload_n hx hb dL_law_529 rfl (lv_at hl 1 rfl) ?_ | refine lv_aload_nN hx hb dL_law_529 rfl (lv_at hl 1 rfl) ?_
  first | refine lv_aload_n hx hb dL_law_530 rfl (lv_at hl 0 rfl) ?_ | refine lv_aload_nN hx hb dL_law_530 rfl (lv_at hl 0 rfl) ?_
  refine lv_iload_n hx hb dL_law_531 rfl (lv_at hl 3 rfl) ?_
  refine lv_iconst (v := 1) hx hb dL_law_532 (by decide) ?_
  refine lv_iadd hx hb dL_law_533 ?_
  refine l_sld hx hb hX hbl hL hS (t := i + 1) (nI_add i 1) (by omega) dL_law_534 ?_
  refine g2Rl hC hl.1 hH (fun LL f sz hI => c_result hI _) (fun LL f h => ⟨_, cJ.o LL f h⟩) rfl rfl kL_74 ⟨Nat.le_of_ble_eq_true rfl, Nat.le_of_ble_eq_true rfl⟩ dL_law_535 ⟨by omega, by omega⟩ rfl (Nat.le_of_ble_eq_true rfl) (fun r hp => ?_)
  have hH2 := hH.swap
  first | refine lv_aload_n hx hb dL_law_538 rfl (lv_at hl 2 rfl) ?_ | refine lv_aload_nN hx hb dL_law_538 rfl (lv_at hl 2 rfl) ?_
  first | refine lv_aload_n hx hb dL_law_539 rfl (lv_at hl 0 rfl) ?_ | refine lv_aload_nN hx hb dL_law_539 rfl (lv_at hl 0 rfl) ?_
  refine lv_iload_n hx hb dL_law_540 rfl (lv_at hl 3 rfl) ?_
  refine lv_iconst (v := 1) hx hb dL_law_541 (by decide) ?_
  refine lv_iadd hx hb dL_law_542 ?_
  refine l_sld hx hb hX hbl hL hS (t := i + 1) (nI_add i 1) (by omega) dL_law_543 ?_
  refine g2Rl hM hl.1 hH2 (fun LL f sz hI => m_result hI _) mR.o rfl rfl kL_78 ⟨Nat.le_of_ble_eq_true rfl, Nat.le_of_ble_eq_true rfl⟩ dL_law_544 ⟨by omega, by omega⟩ rfl (Nat.le_of_ble_eq_true rfl) (fun r2 hp2 => ?_)
  have e2 : r = r2 := hp.trans hp2.symm
  refine W.lcmp hx hb dL_law_547 ?_
  exact lv_if_eq (tgt := 703) hx hb dL_law_548 (by decide) (fun _ => W.widen (by omega) (by omega) (kk d x H locs hH)) (fun h => absurd ((lg_cmp_eq _ _).mpr e2) h)
set_option maxHeartbeats 600000 in
set_option maxRecDepth 100000 in
theorem law_c12 (h : lCx p s m c b L xs D k km) (hcs : cells + 100 ≤ room_1.cells ∧ slots + 900 ≤ room_1.slots) {i : Nat} (hi : i + 5 ≤ L) (hH : g2 D (cJ k) (d, x) (mR km) x (lA s) s.heap H locs) (hl : lv_has ls 4 [(0, .ref b), (1, .ref (kO k)), (2, .ref (mO km)), (3, .int (nI i))]) (kk : ∀ (d : ck_A) (x : cs_S) (H : Heap) (locs : List Loc), g2 D (cJ k) (d, x) (mR km) x (lA s) s.heap H locs → W p l e room_1 s m #[Value.ref b] below meth c H locs (cells + 100) (slots + 900) Q (F0 m 703 ls [])) : W p l e room_1 s m #[Value.ref b] below meth c H locs cells slots Q (F0 m 553 ls []) := by
  obtain ⟨hC, hM, hX, hbl, hL⟩ := h
  have hx := hC.1
  have hb := hC.2.1
  have hts := hC.2.2.1
  have hown := hC.2.2.2.1
  have hA : ∀ q : Nat, s.heap.size ≤ q → lA s q := fun _ h => h
  have hS := hH.S
  have hl : lv_has ls 4 [(0, _), (1, _), (2, _), (3, _)] := hl
  first | refine lv_aload_n hx hb dL_law_553 rfl (lv_at hl 1 rfl) ?_ | refine lv_aload_nN hx hb dL_law_553 rfl (lv_at hl 1 rfl) ?_
  first | refine lv_aload_n hx hb dL_law_554 rfl (lv_at hl 0 rfl) ?_ | refine lv_aload_nN hx hb dL_law_554 rfl (lv_at hl 0 rfl) ?_
  refine lv_iload_n hx hb dL_law_555 rfl (lv_at hl 3 rfl) ?_
  refine lv_iconst (v := 1) hx hb dL_law_556 (by decide) ?_
  refine lv_iadd hx hb dL_law_557 ?_
  refine l_sld hx hb hX hbl hL hS (t := i + 1) (nI_add i 1) (by omega) dL_law_558 ?_
  first | refine lv_aload_n hx hb dL_law_559 rfl (lv_at hl 0 rfl) ?_ | refine lv_aload_nN hx hb dL_law_559 rfl (lv_at hl 0 rfl) ?_
  refine lv_iload_n hx hb dL_law_560 rfl (lv_at hl 3 rfl) ?_
  refine lv_iconst (v := 2) hx hb dL_law_561 (by decide) ?_
  refine lv_iadd hx hb dL_law_562 ?_
  refine l_sld hx hb hX hbl hL hS (t := i + 2) (nI_add i 2) (by omega) dL_law_563 ?_
  refine g2Ri hC hl.1 hH (fun LL f sz hI => c_worker hI _ _) (fun LL f h => ⟨_, cJ.o LL f h⟩) rfl rfl kL_79 ⟨Nat.le_of_ble_eq_true rfl, Nat.le_of_ble_eq_true rfl⟩ dL_law_564 ⟨by omega, by omega⟩ rfl (Nat.le_of_ble_eq_true rfl) (fun r hp => ?_)
  have hH2 := hH.swap
  first | refine lv_aload_n hx hb dL_law_567 rfl (lv_at hl 2 rfl) ?_ | refine lv_aload_nN hx hb dL_law_567 rfl (lv_at hl 2 rfl) ?_
  first | refine lv_aload_n hx hb dL_law_568 rfl (lv_at hl 0 rfl) ?_ | refine lv_aload_nN hx hb dL_law_568 rfl (lv_at hl 0 rfl) ?_
  refine lv_iload_n hx hb dL_law_569 rfl (lv_at hl 3 rfl) ?_
  refine lv_iconst (v := 1) hx hb dL_law_570 (by decide) ?_
  refine lv_iadd hx hb dL_law_571 ?_
  refine l_sld hx hb hX hbl hL hS (t := i + 1) (nI_add i 1) (by omega) dL_law_572 ?_
  first | refine lv_aload_n hx hb dL_law_573 rfl (lv_at hl 0 rfl) ?_ | refine lv_aload_nN hx hb dL_law_573 rfl (lv_at hl 0 rfl) ?_
  refine lv_iload_n hx hb dL_law_574 rfl (lv_at hl 3 rfl) ?_
  refine lv_iconst (v := 2) hx hb dL_law_575 (by decide) ?_
  refine lv_iadd hx hb dL_law_576 ?_
  refine l_sld hx hb hX hbl hL hS (t := i + 2) (nI_add i 2) (by omega) dL_law_577 ?_
  refine g2Ri hM hl.1 hH2 (fun LL f sz hI => m_worker hI _ _) mR.o rfl rfl kL_82 ⟨Nat.le_of_ble_eq_true rfl, Nat.le_of_ble_eq_true rfl⟩ dL_law_578 ⟨by omega, by omega⟩ rfl (Nat.le_of_ble_eq_true rfl) (fun r2 hp2 => ?_)
  have e2 : r = r2 := hp.trans hp2.symm
  exact lv_icmp_eq (tgt := 703) hx hb dL_law_581 (by decide) (fun _ => W.widen (by omega) (by omega) (kk d x H locs hH)) (fun h => absurd e2 h)
set_option maxHeartbeats 600000 in
set_option maxRecDepth 100000 in
theorem law_c13 (h : lCx p s m c b L xs D k km) (hcs : cells + 100 ≤ room_1.cells ∧ slots + 900 ≤ room_1.slots) {i : Nat} (hi : i + 5 ≤ L) (hH : g2 D (cJ k) (d, x) (mR km) x (lA s) s.heap H locs) (hl : lv_has ls 4 [(0, .ref b), (1, .ref (kO k)), (2, .ref (mO km)), (3, .int (nI i))]) (kk : ∀ (d : ck_A) (x : cs_S) (H : Heap) (locs : List Loc), g2 D (cJ k) (d, x) (mR km) x (lA s) s.heap H locs → W p l e room_1 s m #[Value.ref b] below meth c H locs (cells + 100) (slots + 900) Q (F0 m 703 ls [])) : W p l e room_1 s m #[Value.ref b] below meth c H locs cells slots Q (F0 m 586 ls []) := by
  obtain ⟨hC, hM, hX, hbl, hL⟩ := h
  have hx := hC.1
  have hb := hC.2.1
  have hts := hC.2.2.1
  have hown := hC.2.2.2.1
  have hA : ∀ q : Nat, s.heap.size ≤ q → lA s q := fun _ h => h
  have hS := hH.S
  have hl : lv_has ls 4 [(0, _), (1, _), (2, _), (3, _)] := hl
  first | refine lv_aload_n hx hb dL_law_586 rfl (lv_at hl 1 rfl) ?_ | refine lv_aload_nN hx hb dL_law_586 rfl (lv_at hl 1 rfl) ?_
  first | refine lv_aload_n hx hb dL_law_587 rfl (lv_at hl 0 rfl) ?_ | refine lv_aload_nN hx hb dL_law_587 rfl (lv_at hl 0 rfl) ?_
  refine lv_iload_n hx hb dL_law_588 rfl (lv_at hl 3 rfl) ?_
  refine lv_iconst (v := 1) hx hb dL_law_589 (by decide) ?_
  refine lv_iadd hx hb dL_law_590 ?_
  refine l_sld hx hb hX hbl hL hS (t := i + 1) (nI_add i 1) (by omega) dL_law_591 ?_
  refine g2Ri hC hl.1 hH (fun LL f sz hI => c_bars hI _) (fun LL f h => ⟨_, cJ.o LL f h⟩) rfl rfl kL_83 ⟨Nat.le_of_ble_eq_true rfl, Nat.le_of_ble_eq_true rfl⟩ dL_law_592 ⟨by omega, by omega⟩ rfl (Nat.le_of_ble_eq_true rfl) (fun r hp => ?_)
  have hH2 := hH.swap
  first | refine lv_aload_n hx hb dL_law_595 rfl (lv_at hl 2 rfl) ?_ | refine lv_aload_nN hx hb dL_law_595 rfl (lv_at hl 2 rfl) ?_
  first | refine lv_aload_n hx hb dL_law_596 rfl (lv_at hl 0 rfl) ?_ | refine lv_aload_nN hx hb dL_law_596 rfl (lv_at hl 0 rfl) ?_
  refine lv_iload_n hx hb dL_law_597 rfl (lv_at hl 3 rfl) ?_
  refine lv_iconst (v := 1) hx hb dL_law_598 (by decide) ?_
  refine lv_iadd hx hb dL_law_599 ?_
  refine l_sld hx hb hX hbl hL hS (t := i + 1) (nI_add i 1) (by omega) dL_law_600 ?_
  refine g2Ri hM hl.1 hH2 (fun LL f sz hI => m_bars hI _) mR.o rfl rfl kL_86 ⟨Nat.le_of_ble_eq_true rfl, Nat.le_of_ble_eq_true rfl⟩ dL_law_601 ⟨by omega, by omega⟩ rfl (Nat.le_of_ble_eq_true rfl) (fun r2 hp2 => ?_)
  have e2 : r = r2 := hp.trans hp2.symm
  exact lv_icmp_eq (tgt := 703) hx hb dL_law_604 (by decide) (fun _ => W.widen (by omega) (by omega) (kk d x H locs hH)) (fun h => absurd e2 h)
set_option maxHeartbeats 600000 in
set_option maxRecDepth 100000 in
theorem law_c14 (h : lCx p s m c b L xs D k km) (hcs : cells + 100 ≤ room_1.cells ∧ slots + 900 ≤ room_1.slots) {i : Nat} (hi : i + 5 ≤ L) (hH : g2 D (cJ k) (d, x) (mR km) x (lA s) s.heap H locs) (hl : lv_has ls 4 [(0, .ref b), (1, .ref (kO k)), (2, .ref (mO km)), (3, .int (nI i))]) (kk : ∀ (d : ck_A) (x : cs_S) (H : Heap) (locs : List Loc), g2 D (cJ k) (d, x) (mR km) x (lA s) s.heap H locs → W p l e room_1 s m #[Value.ref b] below meth c H locs (cells + 100) (slots + 900) Q (F0 m 703 ls [])) : W p l e room_1 s m #[Value.ref b] below meth c H locs cells slots Q (F0 m 609 ls []) := by
  obtain ⟨hC, hM, hX, hbl, hL⟩ := h
  have hx := hC.1
  have hb := hC.2.1
  have hts := hC.2.2.1
  have hown := hC.2.2.2.1
  have hA : ∀ q : Nat, s.heap.size ≤ q → lA s q := fun _ h => h
  have hS := hH.S
  have hl : lv_has ls 4 [(0, _), (1, _), (2, _), (3, _)] := hl
  first | refine lv_aload_n hx hb dL_law_609 rfl (lv_at hl 1 rfl) ?_ | refine lv_aload_nN hx hb dL_law_609 rfl (lv_at hl 1 rfl) ?_
  first | refine lv_aload_n hx hb dL_law_610 rfl (lv_at hl 0 rfl) ?_ | refine lv_aload_nN hx hb dL_law_610 rfl (lv_at hl 0 rfl) ?_
  refine lv_iload_n hx hb dL_law_611 rfl (lv_at hl 3 rfl) ?_
  refine lv_iconst (v := 1) hx hb dL_law_612 (by decide) ?_
  refine lv_iadd hx hb dL_law_613 ?_
  refine l_sld hx hb hX hbl hL hS (t := i + 1) (nI_add i 1) (by omega) dL_law_614 ?_
  refine lv_i2l hx hb dL_law_615 rfl ?_
  refine lv_bipush (v := 32) hx hb dL_law_616 (by decide) ?_
  refine lv_lshl hx hb dL_law_618 rfl ?_
  first | refine lv_aload_n hx hb dL_law_619 rfl (lv_at hl 0 rfl) ?_ | refine lv_aload_nN hx hb dL_law_619 rfl (lv_at hl 0 rfl) ?_
  refine lv_iload_n hx hb dL_law_620 rfl (lv_at hl 3 rfl) ?_
  refine lv_iconst (v := 2) hx hb dL_law_621 (by decide) ?_
  refine lv_iadd hx hb dL_law_622 ?_
  refine l_sld hx hb hX hbl hL hS (t := i + 2) (nI_add i 2) (by omega) dL_law_623 ?_
  refine lv_i2l hx hb dL_law_624 rfl ?_
  refine lv_ldc2 hx hb hown (hts _ wq_L_21) dL_law_625 ?_
  refine lv_land hx hb dL_law_628 ?_
  refine lv_lor hx hb dL_law_629 ?_
  first | refine lv_aload_n hx hb dL_law_630 rfl (lv_at hl 0 rfl) ?_ | refine lv_aload_nN hx hb dL_law_630 rfl (lv_at hl 0 rfl) ?_
  refine lv_iload_n hx hb dL_law_631 rfl (lv_at hl 3 rfl) ?_
  refine lv_iconst (v := 3) hx hb dL_law_632 (by decide) ?_
  refine lv_iadd hx hb dL_law_633 ?_
  refine l_sld hx hb hX hbl hL hS (t := i + 3) (nI_add i 3) (by omega) dL_law_634 ?_
  refine lv_i2l hx hb dL_law_635 rfl ?_
  refine lv_bipush (v := 32) hx hb dL_law_636 (by decide) ?_
  refine lv_lshl hx hb dL_law_638 rfl ?_
  first | refine lv_aload_n hx hb dL_law_639 rfl (lv_at hl 0 rfl) ?_ | refine lv_aload_nN hx hb dL_law_639 rfl (lv_at hl 0 rfl) ?_
  refine lv_iload_n hx hb dL_law_640 rfl (lv_at hl 3 rfl) ?_
  refine lv_iconst (v := 4) hx hb dL_law_641 (by decide) ?_
  refine lv_iadd hx hb dL_law_642 ?_
  refine l_sld hx hb hX hbl hL hS (t := i + 4) (nI_add i 4) (by omega) dL_law_643 ?_
  refine lv_i2l hx hb dL_law_644 rfl ?_
  refine lv_ldc2 hx hb hown (hts _ wq_L_21) dL_law_645 ?_
  refine lv_land hx hb dL_law_648 ?_
  refine lv_lor hx hb dL_law_649 ?_
  refine g2Rl hC hl.1 hH (fun LL f sz hI => c_oneShot hI _ _) (fun LL f h => ⟨_, cJ.o LL f h⟩) rfl rfl kL_87 ⟨Nat.le_of_ble_eq_true rfl, Nat.le_of_ble_eq_true rfl⟩ dL_law_650 ⟨by omega, by omega⟩ rfl (Nat.le_of_ble_eq_true rfl) (fun r hp => ?_)
  have hH2 := hH.swap
  first | refine lv_aload_n hx hb dL_law_653 rfl (lv_at hl 2 rfl) ?_ | refine lv_aload_nN hx hb dL_law_653 rfl (lv_at hl 2 rfl) ?_
  first | refine lv_aload_n hx hb dL_law_654 rfl (lv_at hl 0 rfl) ?_ | refine lv_aload_nN hx hb dL_law_654 rfl (lv_at hl 0 rfl) ?_
  refine lv_iload_n hx hb dL_law_655 rfl (lv_at hl 3 rfl) ?_
  refine lv_iconst (v := 1) hx hb dL_law_656 (by decide) ?_
  refine lv_iadd hx hb dL_law_657 ?_
  refine l_sld hx hb hX hbl hL hS (t := i + 1) (nI_add i 1) (by omega) dL_law_658 ?_
  refine lv_i2l hx hb dL_law_659 rfl ?_
  refine lv_bipush (v := 32) hx hb dL_law_660 (by decide) ?_
  refine lv_lshl hx hb dL_law_662 rfl ?_
  first | refine lv_aload_n hx hb dL_law_663 rfl (lv_at hl 0 rfl) ?_ | refine lv_aload_nN hx hb dL_law_663 rfl (lv_at hl 0 rfl) ?_
  refine lv_iload_n hx hb dL_law_664 rfl (lv_at hl 3 rfl) ?_
  refine lv_iconst (v := 2) hx hb dL_law_665 (by decide) ?_
  refine lv_iadd hx hb dL_law_666 ?_
  refine l_sld hx hb hX hbl hL hS (t := i + 2) (nI_add i 2) (by omega) dL_law_667 ?_
  refine lv_i2l hx hb dL_law_668 rfl ?_
  refine lv_ldc2 hx hb hown (hts _ wq_L_21) dL_law_669 ?_
  refine lv_land hx hb dL_law_672 ?_
  refine lv_lor hx hb dL_law_673 ?_
  first | refine lv_aload_n hx hb dL_law_674 rfl (lv_at hl 0 rfl) ?_ | refine lv_aload_nN hx hb dL_law_674 rfl (lv_at hl 0 rfl) ?_
  refine lv_iload_n hx hb dL_law_675 rfl (lv_at hl 3 rfl) ?_
  refine lv_iconst (v := 3) hx hb dL_law_676 (by decide) ?_
  refine lv_iadd hx hb dL_law_677 ?_
  refine l_sld hx hb hX hbl hL hS (t := i + 3) (nI_add i 3) (by omega) dL_law_678 ?_
  refine lv_i2l hx hb dL_law_679 rfl ?_
  refine lv_bipush (v := 32) hx hb dL_law_680 (by decide) ?_
  refine lv_lshl hx hb dL_law_682 rfl ?_
  first | refine lv_aload_n hx hb dL_law_683 rfl (lv_at hl 0 rfl) ?_ | refine lv_aload_nN hx hb dL_law_683 rfl (lv_at hl 0 rfl) ?_
  refine lv_iload_n hx hb dL_law_684 rfl (lv_at hl 3 rfl) ?_
  refine lv_iconst (v := 4) hx hb dL_law_685 (by decide) ?_
  refine lv_iadd hx hb dL_law_686 ?_
  refine l_sld hx hb hX hbl hL hS (t := i + 4) (nI_add i 4) (by omega) dL_law_687 ?_
  refine lv_i2l hx hb dL_law_688 rfl ?_
  refine lv_ldc2 hx hb hown (hts _ wq_L_21) dL_law_689 ?_
  refine lv_land hx hb dL_law_692 ?_
  refine lv_lor hx hb dL_law_693 ?_
  refine g2Rl hM hl.1 hH2 (fun LL f sz hI => m_oneShotR hI _ _) mR.o rfl rfl kL_91 ⟨Nat.le_of_ble_eq_true rfl, Nat.le_of_ble_eq_true rfl⟩ dL_law_694 ⟨by omega, by omega⟩ rfl (Nat.le_of_ble_eq_true rfl) (fun r2 hp2 => ?_)
  have e2 : r = r2 := hp.trans hp2.symm
  refine W.lcmp hx hb dL_law_697 ?_
  exact lv_if_eq (tgt := 703) hx hb dL_law_698 (by decide) (fun _ => W.widen (by omega) (by omega) (kk d x H locs hH)) (fun h => absurd ((lg_cmp_eq _ _).mpr e2) h)
end LWC