/-! RAW POOLS (for objects under way) and NEW objects -/
def rI (LL : List Nat) : (Nat → va_E) → List Nat → (Nat → va_E) → Prop := fun g L f => L = LL ∧ f = g
section RP
variable {p : Program} {l : Launch} {e : Env} {R : Room} {s : State} {m : MethodId} {args : Array Value} {below : List Frame} {meth : Method} {c : Code} {H : Heap} {locs : List Loc} {cells slots : Nat} {Q : State → Prop}
variable {cc : ByteArray} {pc nL : Nat} {ls : Array Slot} {rest st : List Value} {D : va_G} {A : Nat → Prop} {tys : List (ClassId × FieldType)} {H0 : Heap} {own : String} {LL : List Nat} {g : Nat → va_E} {a : Nat} {σ : Type} {I : σ → List Nat → (Nat → va_E) → Prop} {u : σ}
theorem gH.to (hH : gH D (rI LL) g A H0 H locs) (h : I u LL g) : gH D I u A H0 H locs := by
  obtain ⟨L, f, ⟨rfl, rfl⟩, h1, h2, h3⟩ := hH
  exact ⟨L, f, h, h1, h2, h3⟩
theorem rp_get (hC : gX own tys D p s m args c cc nL) (hH : gH D (rI LL) g A H0 H locs) {C : String} {T : u_T} {N ci index : Nat} (hin : ∀ w ∈ u_ws C T N, w ∈ wA) {fs : List Value} (ha : a ∈ LL) (hf : g a = .inr (ci, fs)) (hc : vwCl[ci]? = some (C, T, N)) (k : Nat) (hk : k < N) (hlink : Cond.fieldLink own index (T k).1 (T k).2.1 (T k).2.2.1 ∈ wA) {v : Value} (hv : fs[k]? = some v) (hdg : decode cc pc = .ok (.getfield index, 3))
    (kk : W p l e R s m args below meth c H locs cells slots Q (F0 m (pc + 3) ls (v :: rest))) : W p l e R s m args below meth c H locs cells slots Q (F0 m pc ls (.ref a :: rest)) := by
  obtain ⟨L, f, ⟨rfl, rfl⟩, hP, hD, hS⟩ := hH
  exact pw_get hC.1 hC.2.1 hC.2.2.1 hin hC.2.2.2.1 hC.2.2.2.2.1 hP ha hf hc k hk (hC.2.2.1 _ hlink) hv hdg kk
theorem rp_put (hC : gX own tys D p s m args c cc nL) (hH : gH D (rI LL) g A H0 H locs) {C : String} {T : u_T} {N ci index : Nat} (hin : ∀ w ∈ u_ws C T N, w ∈ wA) (ty0 : Nat → FieldType) (hty : ∀ k, k < N → parseFieldDescriptor (T k).2.2.1 = some (ty0 k)) (hnm : ∀ a, a < N → ∀ b, b < N → a ≠ b → (T a).2.1 ≠ (T b).2.1) {fs : List Value} (ha : a ∈ LL) (hf : g a = .inr (ci, fs)) (hc : vwCl[ci]? = some (C, T, N)) (k : Nat) (hk : k < N) (hlink : Cond.fieldLink own index (T k).1 (T k).2.1 (T k).2.2.1 ∈ wA) (hfin : (T k).2.2.2 = false) {v : Value} (hn : narrow (ty0 k) v = v) (hfit : fits (ty0 k) v = true) (hl : k < fs.length) (hdg : decode cc pc = .ok (.putfield index, 3))
    (kk : ∀ (H1 : Heap) (locs1 : List Loc), gH D (rI LL) (va_up g a (.inr (ci, fs.set k v))) A H0 H1 locs1 → W p l e R s m args below meth c H1 locs1 cells slots Q (F0 m (pc + 3) ls rest)) : W p l e R s m args below meth c H locs cells slots Q (F0 m pc ls (v :: .ref a :: rest)) := by
  obtain ⟨L, f, ⟨rfl, rfl⟩, hP, hD, hS⟩ := hH
  exact pw_put hC.1 hC.2.1 hC.2.2.1 hin ty0 hty hnm hC.2.2.2.1 hC.2.2.2.2.1 hP hD hS ha hf hc k hk (hC.2.2.1 _ hlink) hfin hn hfit hl hdg (fun H1 locs1 h1 h2 h3 => kk H1 locs1 ⟨_, _, ⟨rfl, rfl⟩, h1, h2, h3⟩)
theorem rp_putF (hC : gX own tys D p s m args c cc nL) (hH : gH D (rI LL) g A H0 H locs) {C : String} {T : u_T} {N ci index : Nat} (hin : ∀ w ∈ u_ws C T N, w ∈ wA) (ty0 : Nat → FieldType) (hty : ∀ k, k < N → parseFieldDescriptor (T k).2.2.1 = some (ty0 k)) (hnm : ∀ a, a < N → ∀ b, b < N → a ≠ b → (T a).2.1 ≠ (T b).2.1) {fs : List Value} (ha : a ∈ LL) (hf : g a = .inr (ci, fs)) (hc : vwCl[ci]? = some (C, T, N)) (k : Nat) (hk : k < N) (hlink : Cond.fieldLink own index (T k).1 (T k).2.1 (T k).2.2.1 ∈ wA) (hfin : (T k).2.2.2 = true) (hin2 : meth.name = "<init>") (hdecl : (T k).1 = own) {v : Value} (hn : narrow (ty0 k) v = v) (hfit : fits (ty0 k) v = true) (hl : k < fs.length) (hdg : decode cc pc = .ok (.putfield index, 3))
    (kk : ∀ (H1 : Heap) (locs1 : List Loc), gH D (rI LL) (va_up g a (.inr (ci, fs.set k v))) A H0 H1 locs1 → W p l e R s m args below meth c H1 locs1 cells slots Q (F0 m (pc + 3) ls rest)) : W p l e R s m args below meth c H locs cells slots Q (F0 m pc ls (v :: .ref a :: rest)) := by
  obtain ⟨L, f, ⟨rfl, rfl⟩, hP, hD, hS⟩ := hH
  exact pw_putF hC.1 hC.2.1 hC.2.2.1 hin ty0 hty hnm hC.2.2.2.1 hC.2.2.2.2.1 hP hD hS ha hf hc k hk (hC.2.2.1 _ hlink) hfin hin2 hdecl hn hfit hl hdg (fun H1 locs1 h1 h2 h3 => kk H1 locs1 ⟨_, _, ⟨rfl, rfl⟩, h1, h2, h3⟩)
theorem rp_astq (hC : gX own tys D p s m args c cc nL) (hH : gH D (rI LL) g A H0 H locs) (t0 ci : Nat) {cA : ClassId} {r : vw_C} {n v i : Nat} {vs : List Value} {h : Nat → Option Nat} (ha : a ∈ LL) (hf : g a = rowE cA n h) (ht : tys[t0]? = some (cA, .object r.1)) (hva : v ∈ LL) (hv : g v = .inr (ci, vs)) (hc : vwCl[ci]? = some r) (hi : i < n) (hn : n ≤ 100) (hdg : decode cc pc = .ok (.aastore, 1))
    (kk : ∀ (H1 : Heap) (locs1 : List Loc), gH D (rI LL) (va_up g a (rowE cA n (va_up h i (some v)))) A H0 H1 locs1 → W p l e R s m args below meth c H1 locs1 cells slots Q (F0 m (pc + 1) ls rest)) : W p l e R s m args below meth c H locs cells slots Q (F0 m pc ls (.ref v :: .int (nI i) :: .ref a :: rest)) := by
  obtain ⟨L, f, ⟨rfl, rfl⟩, hP, hD, hS⟩ := hH
  refine pw_astq hC.1 hC.2.1 hC.2.2.2.2.1 hP hD hS t0 ci ha hf ht hva hv hc (vp_in_nI hi (by omega)) hdg (fun H1 locs1 h1 h2 h3 => ?_)
  rw [nI_clamp (by omega)] at h1 h2
  exact kk H1 locs1 ⟨_, _, ⟨rfl, rfl⟩, h1, h2, h3⟩
theorem rp_new (hC : gX own tys D p s m args c cc nL) (hA : ∀ q, H0.size ≤ q → A q) (hH : gH D I u A H0 H locs) {C : String} {T : u_T} {N ci index : Nat} (hin : ∀ w ∈ u_ws C T N, w ∈ wA) (ty : Nat → FieldType) (hty : ∀ k, k < N → parseFieldDescriptor (T k).2.2.1 = some (ty k)) (hcl : Cond.classLink own index C ∈ wA) (hinst : Cond.instantiable C N ∈ wA) (hini : Cond.initialized C ∈ wA) (hc : vwCl[ci]? = some (C, T, N)) {fs : List Value} (hfs : ∀ j, j < N → defaultValue (ty j) = vp_V fs j) (hcells : cells + 1 ≤ R.cells) (hslots : slots + N ≤ R.slots) (hdg : decode cc pc = .ok (.new index, 3))
    (kk : ∀ (q : Nat) (H1 : Heap) (LL : List Nat) (f : Nat → va_E), I u LL f → q ∉ LL → gH D (rI (LL ++ [q])) (va_up f q (.inr (ci, fs))) A H0 H1 locs → W p l e R s m args below meth c H1 locs (cells + 1) (slots + N) Q (F0 m (pc + 3) ls (.ref q :: rest))) : W p l e R s m args below meth c H locs cells slots Q (F0 m pc ls rest) := by
  obtain ⟨L, f, hI, hP, hD, hS⟩ := hH
  exact pw_new hC.1 hC.2.1 hC.2.2.1 hin ty hty hC.2.2.2.1 (hC.2.2.1 _ hcl) (hC.2.2.1 _ hinst) (hC.2.2.1 _ hini) hC.2.2.2.2.1 hP hD hS hA hc hfs hcells hslots hdg (fun q H1 hq h1 h2 h3 => kk q H1 L f hI hq ⟨_, _, ⟨rfl, rfl⟩, h1, h2, h3⟩)
theorem gcWI {y : MethodName} {b : ByteArray} {n dp idx mc ms : Nat} {av : List Value} {post : σ → Prop} (hC : gX own tys D p s m args c cc nL) (hls : ls.size = nL) (hA : ∀ q, H0.size ≤ q → A q) (hH : gH D I u A H0 H locs) (M : ∀ LL f sz, I u LL f → Met l y (wz y b n none) (rmL dp mc ms) (gP D tys LL f sz (.ref a :: av)) (va_Qv post (gB D tys I (va_A (va_pl LL f) sz)) (va_A (va_pl LL f) sz)) mc ms (va_A (va_pl LL f) sz)) (hk : gKI own idx y b n av.length) (hR : dp + 1 ≤ R.frames ∧ 8 + (n + 11) + 34 * dp ≤ R.locals) (hdg : decode cc pc = .ok (.invokespecial idx, 3)) (hcs : cells + mc ≤ R.cells ∧ slots + ms ≤ R.slots) (hst : st = av.reverse ++ .ref a :: rest) (hcat : (rest.map fun v => v.category).sum ≤ 8) (kk : ∀ (u' : σ) (H1 : Heap) (locs1 : List Loc), post u' → gH D I u' A H0 H1 locs1 → W p l e R s m args below meth c H1 locs1 (cells + mc) (slots + ms) Q (F0 m (pc + 3) ls rest)) : W p l e R s m args below meth c H locs cells slots Q (F0 m pc ls st) := by
  obtain ⟨LL, f, hI, hP, hD, hS⟩ := hH
  have hF := gH.free hD hS hA
  exact va_callv (va_runI (As := av) hC.fix (M LL f H.size hI) ⟨hk.1.B hC.2.2.1 hR, hk.2.1, hC.2.2.1 _ hk.2.2⟩ ⟨gP_blind, fun U hU hW => gP_pre hC.2.2.2.2.1 hP hD hU hW⟩ rfl rfl hls hst (lv_room hcat) hdg hcs) hS (fun q _ h => hF q h) hF (fun u' t H1 locs1 ht hvm hp hB hz hk1 hS1 => kk u' H1 locs1 hp (gH.back hB ht hF hS1))
end RP
section CN
variable {l : Launch} {D : va_G} {tys : List (ClassId × FieldType)} {LL : List Nat} {g : Nat → va_E} {sz : Nat} {a : Nat}
set_option maxHeartbeats 4000000 in
set_option maxRecDepth 100000 in
theorem c_Tinit0 (hI : rI LL g LL g) (ha : a ∈ LL) (hf : g a = .inr (1, [.int 0, .long 0, .int 0, .int 0])) (v : Int32) (ed : Int64) (qu : Int32) : Met l yT_init (wz yT_init bT_init 5 none) (rmL 1 0 0) (gP D tys LL g sz [.ref a, .int v, .long ed, .int qu]) (va_Qv (fun u => u = va_up g a (.inr (1, [.int v, .long ed, .int qu, .int 0]))) (gB D tys (rI LL) (va_A (va_pl LL g) sz)) (va_A (va_pl LL g) sz)) 0 0 (va_A (va_pl LL g) sz) := by
  refine gMet (own := RX1) (u := g) (Qc := fun A => va_Qv (fun u => u = va_up g a (.inr (1, [.int v, .long ed, .int qu, .int 0]))) (gB D tys (rI LL) A) A) (by decide) rfl hI (Nat.le_of_ble_eq_true rfl) ?_
  intro p e s m below meth c ls A hC hr hlk hnm hA hH hl
  have hx := hC.1
  have hb := hC.2.1
  have hml := hC.2.2.2.2.2
  have hts := hC.2.2.1
  have hown := hC.2.2.2.1
  have hl : lv_has ls 5 [(0, _), (1, _), (2, _), (4, _)] := hl
  first | refine lv_aload_n hx hb dT_init_0 rfl (lv_at hl 0 rfl) ?_ | refine lv_aload_nN hx hb dT_init_0 rfl (lv_at hl 0 rfl) ?_
  refine W.objInit hx hb hown (hts _ wm_T_1) (hts _ wi_O_init) (hts _ wc_O_init) rfl (by rw [hml]; exact hl.1) rfl dT_init_1 (Nat.le_of_ble_eq_true rfl) (Nat.le_of_ble_eq_true rfl) ?_
  refine W.eq (g2 := F0 m 4 ls []) rfl ?_
  first | refine lv_aload_n hx hb dT_init_4 rfl (lv_at hl 0 rfl) ?_ | refine lv_aload_nN hx hb dT_init_4 rfl (lv_at hl 0 rfl) ?_
  refine lv_iload_n hx hb dT_init_5 rfl (lv_at hl 1 rfl) ?_
  refine rp_putF hC hH inX1 tyX1 tyX1_ok nmX1 ha hf rfl 0 (by decide) wf_T_7 rfl hnm rfl rfl rfl (Nat.le_of_ble_eq_true rfl) dT_init_6 (fun H locs hH => ?_)
  first | refine lv_aload_n hx hb dT_init_9 rfl (lv_at hl 0 rfl) ?_ | refine lv_aload_nN hx hb dT_init_9 rfl (lv_at hl 0 rfl) ?_
  refine lv_lload_n hx hb dT_init_10 rfl (lv_at hl 2 rfl) ?_
  refine rp_put hC hH inX1 tyX1 tyX1_ok nmX1 ha (va_up_self _ _ _) rfl 1 (by decide) wf_T_13 rfl rfl rfl (Nat.le_of_ble_eq_true rfl) dT_init_11 (fun H locs hH => ?_)
  first | refine lv_aload_n hx hb dT_init_14 rfl (lv_at hl 0 rfl) ?_ | refine lv_aload_nN hx hb dT_init_14 rfl (lv_at hl 0 rfl) ?_
  refine lv_iload hx hb dT_init_15 (lv_at hl 3 rfl) ?_
  refine rp_put hC hH inX1 tyX1 tyX1_ok nmX1 ha (va_up_self _ _ _) rfl 2 (by decide) wf_T_17 rfl rfl rfl (Nat.le_of_ble_eq_true rfl) dT_init_17 (fun H locs hH => ?_)
  exact grWv hC hr hlk hH (by simp only [bx_uu]; rfl) dT_init_20
theorem c_Tinit {L2 : List Nat} {f2 : Nat → va_E} (hI : rI LL g L2 f2) (ha : a ∈ LL) (hf : g a = .inr (1, [.int 0, .long 0, .int 0, .int 0])) (v : Int32) (ed : Int64) (qu : Int32) : Met l yT_init (wz yT_init bT_init 5 none) (rmL 1 0 0) (gP D tys L2 f2 sz [.ref a, .int v, .long ed, .int qu]) (va_Qv (fun u => u = va_up g a (.inr (1, [.int v, .long ed, .int qu, .int 0]))) (gB D tys (rI LL) (va_A (va_pl L2 f2) sz)) (va_A (va_pl L2 f2) sz)) 0 0 (va_A (va_pl L2 f2) sz) := by
  obtain ⟨h1, h2⟩ := hI
  rw [h1, h2]
  exact c_Tinit0 ⟨rfl, rfl⟩ ha hf v ed qu
set_option maxHeartbeats 4000000 in
set_option maxRecDepth 100000 in
theorem c_Rinit0 (hI : rI LL g LL g) (ha : a ∈ LL) (hf : g a = .inr (0, [.int 0, .null, .long 0, .int 0, .int 0, .int 0, .int 0, .int 0, .long 0, .null, .int 0])) (v : Int32) (t : Nat) (i : Int64) (z : Int32) : Met l yR_init (wz yR_init bR_init 6 none) (rmL 1 0 0) (gP D tys LL g sz [.ref a, .int v, .ref t, .long i, .int z]) (va_Qv (fun u => u = va_up g a (.inr (0, [.int v, .ref t, .long i, .int z, .int 0, .int 0, .int 0, .int 0, .long 0, .null, .int 0]))) (gB D tys (rI LL) (va_A (va_pl LL g) sz)) (va_A (va_pl LL g) sz)) 0 0 (va_A (va_pl LL g) sz) := by
  refine gMet (own := RX0) (u := g) (Qc := fun A => va_Qv (fun u => u = va_up g a (.inr (0, [.int v, .ref t, .long i, .int z, .int 0, .int 0, .int 0, .int 0, .long 0, .null, .int 0]))) (gB D tys (rI LL) A) A) (by decide) rfl hI (Nat.le_of_ble_eq_true rfl) ?_
  intro p e s m below meth c ls A hC hr hlk hnm hA hH hl
  have hx := hC.1
  have hb := hC.2.1
  have hml := hC.2.2.2.2.2
  have hts := hC.2.2.1
  have hown := hC.2.2.2.1
  have hl : lv_has ls 6 [(0, _), (1, _), (2, _), (3, _), (5, _)] := hl
  first | refine lv_aload_n hx hb dR_init_0 rfl (lv_at hl 0 rfl) ?_ | refine lv_aload_nN hx hb dR_init_0 rfl (lv_at hl 0 rfl) ?_
  refine W.objInit hx hb hown (hts _ wm_R_1) (hts _ wi_O_init) (hts _ wc_O_init) rfl (by rw [hml]; exact hl.1) rfl dR_init_1 (Nat.le_of_ble_eq_true rfl) (Nat.le_of_ble_eq_true rfl) ?_
  refine W.eq (g2 := F0 m 4 ls []) rfl ?_
  first | refine lv_aload_n hx hb dR_init_4 rfl (lv_at hl 0 rfl) ?_ | refine lv_aload_nN hx hb dR_init_4 rfl (lv_at hl 0 rfl) ?_
  refine lv_iload_n hx hb dR_init_5 rfl (lv_at hl 1 rfl) ?_
  refine rp_putF hC hH inX0 tyX0 tyX0_ok nmX0 ha hf rfl 0 (by decide) wf_R_7 rfl hnm rfl rfl rfl (Nat.le_of_ble_eq_true rfl) dR_init_6 (fun H locs hH => ?_)
  first | refine lv_aload_n hx hb dR_init_9 rfl (lv_at hl 0 rfl) ?_ | refine lv_aload_nN hx hb dR_init_9 rfl (lv_at hl 0 rfl) ?_
  first | refine lv_aload_n hx hb dR_init_10 rfl (lv_at hl 2 rfl) ?_ | refine lv_aload_nN hx hb dR_init_10 rfl (lv_at hl 2 rfl) ?_
  refine rp_putF hC hH inX0 tyX0 tyX0_ok nmX0 ha (va_up_self _ _ _) rfl 1 (by decide) wf_R_13 rfl hnm rfl rfl rfl (Nat.le_of_ble_eq_true rfl) dR_init_11 (fun H locs hH => ?_)
  first | refine lv_aload_n hx hb dR_init_14 rfl (lv_at hl 0 rfl) ?_ | refine lv_aload_nN hx hb dR_init_14 rfl (lv_at hl 0 rfl) ?_
  refine lv_lload_n hx hb dR_init_15 rfl (lv_at hl 3 rfl) ?_
  refine rp_putF hC hH inX0 tyX0 tyX0_ok nmX0 ha (va_up_self _ _ _) rfl 2 (by decide) wf_R_17 rfl hnm rfl rfl rfl (Nat.le_of_ble_eq_true rfl) dR_init_16 (fun H locs hH => ?_)
  first | refine lv_aload_n hx hb dR_init_19 rfl (lv_at hl 0 rfl) ?_ | refine lv_aload_nN hx hb dR_init_19 rfl (lv_at hl 0 rfl) ?_
  refine lv_iload hx hb dR_init_20 (lv_at hl 4 rfl) ?_
  refine rp_putF hC hH inX0 tyX0 tyX0_ok nmX0 ha (va_up_self _ _ _) rfl 3 (by decide) wf_R_21 rfl hnm rfl rfl rfl (Nat.le_of_ble_eq_true rfl) dR_init_22 (fun H locs hH => ?_)
  exact grWv hC hr hlk hH (by simp only [bx_uu]; rfl) dR_init_25
theorem c_Rinit {L2 : List Nat} {f2 : Nat → va_E} (hI : rI LL g L2 f2) (ha : a ∈ LL) (hf : g a = .inr (0, [.int 0, .null, .long 0, .int 0, .int 0, .int 0, .int 0, .int 0, .long 0, .null, .int 0])) (v : Int32) (t : Nat) (i : Int64) (z : Int32) : Met l yR_init (wz yR_init bR_init 6 none) (rmL 1 0 0) (gP D tys L2 f2 sz [.ref a, .int v, .ref t, .long i, .int z]) (va_Qv (fun u => u = va_up g a (.inr (0, [.int v, .ref t, .long i, .int z, .int 0, .int 0, .int 0, .int 0, .long 0, .null, .int 0]))) (gB D tys (rI LL) (va_A (va_pl L2 f2) sz)) (va_A (va_pl L2 f2) sz)) 0 0 (va_A (va_pl L2 f2) sz) := by
  obtain ⟨h1, h2⟩ := hI
  rw [h1, h2]
  exact c_Rinit0 ⟨rfl, rfl⟩ ha hf v t i z
set_option maxHeartbeats 4000000 in
set_option maxRecDepth 100000 in
theorem c_Winit0 (hI : rI LL g LL g) (ha : a ∈ LL) (hf : g a = .inr (2, [.int 0, .null, .long 0, .int 0, .int 0, .int 0, .int 0, .int 0, .null])) (v : Int32) {t n : Nat} {ed : Int64} {x1 x2 : Int32} (ht : t ∈ LL) (hte : g t = .inr (1, [.int (nI n), .long ed, .int x1, .int x2])) : Met l yW_init (wz yW_init bW_init 3 none) (rmL 1 0 0) (gP D tys LL g sz [.ref a, .int v, .ref t]) (va_Qv (fun u => u = va_up g a (.inr (2, [.int v, .ref t, .long ed, .int 0, .int 0, .int 0, .int 0, .int 0, .null]))) (gB D tys (rI LL) (va_A (va_pl LL g) sz)) (va_A (va_pl LL g) sz)) 0 0 (va_A (va_pl LL g) sz) := by
  refine gMet (own := RX2) (u := g) (Qc := fun A => va_Qv (fun u => u = va_up g a (.inr (2, [.int v, .ref t, .long ed, .int 0, .int 0, .int 0, .int 0, .int 0, .null]))) (gB D tys (rI LL) A) A) (by decide) rfl hI (Nat.le_of_ble_eq_true rfl) ?_
  intro p e s m below meth c ls A hC hr hlk hnm hA hH hl
  have hx := hC.1
  have hb := hC.2.1
  have hml := hC.2.2.2.2.2
  have hts := hC.2.2.1
  have hown := hC.2.2.2.1
  have hl : lv_has ls 3 [(0, _), (1, _), (2, _)] := hl
  have hat : t ≠ a := fun q => by rw [q, hf] at hte; cases hte
  first | refine lv_aload_n hx hb dW_init_0 rfl (lv_at hl 0 rfl) ?_ | refine lv_aload_nN hx hb dW_init_0 rfl (lv_at hl 0 rfl) ?_
  refine W.objInit hx hb hown (hts _ wm_W_1) (hts _ wi_O_init) (hts _ wc_O_init) rfl (by rw [hml]; exact hl.1) rfl dW_init_1 (Nat.le_of_ble_eq_true rfl) (Nat.le_of_ble_eq_true rfl) ?_
  refine W.eq (g2 := F0 m 4 ls []) rfl ?_
  first | refine lv_aload_n hx hb dW_init_4 rfl (lv_at hl 0 rfl) ?_ | refine lv_aload_nN hx hb dW_init_4 rfl (lv_at hl 0 rfl) ?_
  refine lv_iload_n hx hb dW_init_5 rfl (lv_at hl 1 rfl) ?_
  refine rp_putF hC hH inX2 tyX2 tyX2_ok nmX2 ha hf rfl 0 (by decide) wf_W_7 rfl hnm rfl rfl rfl (Nat.le_of_ble_eq_true rfl) dW_init_6 (fun H locs hH => ?_)
  first | refine lv_aload_n hx hb dW_init_9 rfl (lv_at hl 0 rfl) ?_ | refine lv_aload_nN hx hb dW_init_9 rfl (lv_at hl 0 rfl) ?_
  first | refine lv_aload_n hx hb dW_init_10 rfl (lv_at hl 2 rfl) ?_ | refine lv_aload_nN hx hb dW_init_10 rfl (lv_at hl 2 rfl) ?_
  refine rp_putF hC hH inX2 tyX2 tyX2_ok nmX2 ha (va_up_self _ _ _) rfl 1 (by decide) wf_W_13 rfl hnm rfl rfl rfl (Nat.le_of_ble_eq_true rfl) dW_init_11 (fun H locs hH => ?_)
  first | refine lv_aload_n hx hb dW_init_14 rfl (lv_at hl 0 rfl) ?_ | refine lv_aload_nN hx hb dW_init_14 rfl (lv_at hl 0 rfl) ?_
  first | refine lv_aload_n hx hb dW_init_15 rfl (lv_at hl 2 rfl) ?_ | refine lv_aload_nN hx hb dW_init_15 rfl (lv_at hl 2 rfl) ?_
  refine rp_get hC hH inX1 ht (by rw [va_up_ne _ _ hat, va_up_ne _ _ hat]; exact hte) rfl 1 (by decide) wf_W_17 rfl dW_init_16 ?_
  refine rp_putF hC hH inX2 tyX2 tyX2_ok nmX2 ha (va_up_self _ _ _) rfl 2 (by decide) wf_W_23 rfl hnm rfl rfl rfl (Nat.le_of_ble_eq_true rfl) dW_init_19 (fun H locs hH => ?_)
  exact grWv hC hr hlk hH (by simp only [bx_uu]; rfl) dW_init_22
theorem c_Winit {L2 : List Nat} {f2 : Nat → va_E} (hI : rI LL g L2 f2) (ha : a ∈ LL) (hf : g a = .inr (2, [.int 0, .null, .long 0, .int 0, .int 0, .int 0, .int 0, .int 0, .null])) (v : Int32) {t n : Nat} {ed : Int64} {x1 x2 : Int32} (ht : t ∈ LL) (hte : g t = .inr (1, [.int (nI n), .long ed, .int x1, .int x2])) : Met l yW_init (wz yW_init bW_init 3 none) (rmL 1 0 0) (gP D tys L2 f2 sz [.ref a, .int v, .ref t]) (va_Qv (fun u => u = va_up g a (.inr (2, [.int v, .ref t, .long ed, .int 0, .int 0, .int 0, .int 0, .int 0, .null]))) (gB D tys (rI LL) (va_A (va_pl L2 f2) sz)) (va_A (va_pl L2 f2) sz)) 0 0 (va_A (va_pl L2 f2) sz) := by
  obtain ⟨h1, h2⟩ := hI
  rw [h1, h2]
  exact c_Winit0 ⟨rfl, rfl⟩ ha hf v ht hte
end CN
