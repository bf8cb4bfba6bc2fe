/-! THE LAW'S BEGINNING: both objects made -/
section LWB
variable {p : Program} {l : Launch} {e : Env} {s : State} {m : MethodId} {below : List Frame} {meth : Method} {c : Code} {H : Heap} {locs : List Loc} {cells slots : Nat} {Q : State → Prop}
variable {ls : Array Slot} {rest : List Value} {D : va_G} {b L : Nat} {xs : Nat → Int32} {k : ck_F} {km : mk_F} {d : ck_A} {x : cs_S}
theorem cP0_blind {a : Nat} {g : Nat → va_E} {sz : Nat} {av : List Value} : FrameBlind (cP0 D a g sz av) := fun a' U g' mk q => by
  obtain ⟨q0, q1, qP, qK, qD, q5, q6, q7⟩ := q
  exact ⟨q0, q1, qP, va_K.moved (u := U) (U := U.calling g' mk a') (Vm.Alike.refl U.vm) qK, qD, va_AO.moved (u := U) (U := U.calling g' mk a') (Vm.Alike.refl U.vm) q5, va_AO.moved (u := U) (U := U.calling g' mk a') (Vm.Alike.refl U.vm) q6, va_AO.moved (u := U) (U := U.calling g' mk a') (Vm.Alike.refl U.vm) q7⟩
theorem mP0_blind {a : Nat} {g : Nat → va_E} {sz : Nat} {av : List Value} : FrameBlind (mP0 D a g sz av) := fun a' U g' mk q => by
  obtain ⟨q0, q1, qP, qK, qD⟩ := q
  exact ⟨q0, q1, qP, va_K.moved (u := U) (U := U.calling g' mk a') (Vm.Alike.refl U.vm) qK, qD⟩

set_option maxHeartbeats 1000000 in
set_option maxRecDepth 100000 in
theorem law_A (hL : L ≤ 2563) (hC : gX RL [] D p s m #[Value.ref b] c bL_law 4) (hX : va_X b L xs s s.heap) (hbl : b < s.heap.size) (ao1 : va_AO RX1 s) (ao2 : va_AO RX2 s) (ao0 : va_AO RX0 s) (hl : lv_has ls 4 [(0, .ref b)]) (kk : ∀ (k : ck_F) (d : ck_A) (H : Heap) (locs : List Loc) (ls : Array Slot), gX RL (ck_tys k) D p s m #[Value.ref b] c bL_law 4 → gH D (cJ k) (d, cs0 (zNear (zCell xs L 0) 1 4) (zNear (zCell xs L 1) 0 100000) (zNear (zCell xs L 2) 1 1000)) (lA s) s.heap H locs → lv_has ls 4 [(1, .ref (kO k)), (0, .ref b)] → W p l e room_1 s m #[Value.ref b] below meth c H locs 4 176 Q (F0 m 23 ls [])) : W p l e room_1 s m #[Value.ref b] below meth c s.heap [] 0 0 Q (F0 m 0 ls []) := by
  have hx := hC.1
  have hb := hC.2.1
  have hA : ∀ q : Nat, s.heap.size ≤ q → lA s q := fun _ h => h
  have hH : gH D (rI []) (fun _ => .inr (3, [])) (lA s) s.heap s.heap [] := ⟨[], _, ⟨rfl, rfl⟩, fun k q h => by simp [va_pl] at h, ⟨fun i j p q h => by simp [va_pl] at h, fun k q h => by simp [va_pl] at h⟩, va_S.rf⟩
  have hl : lv_has ls 4 [(0, _)] := hl
  refine rp_new (ci := 3) (fs := [.int 0, .int 0, .int 0, .int 0, .null, .null, .null, .int 0, .int 0, .int 0]) hC hA hH inX3 tyX3 tyX3_ok wk_L_7 wb_C wn_C rfl (fun j hj => by rcases (show j = 0 ∨ j = 1 ∨ j = 2 ∨ j = 3 ∨ j = 4 ∨ j = 5 ∨ j = 6 ∨ j = 7 ∨ j = 8 ∨ j = 9 by omega) with rfl | rfl | rfl | rfl | rfl | rfl | rfl | rfl | rfl | rfl <;> rfl) (Nat.le_of_ble_eq_true rfl) (Nat.le_of_ble_eq_true rfl) dL_law_0 (fun q H LL f hI hq hH => ?_)
  obtain ⟨rfl, rfl⟩ := hI
  obtain ⟨LL, g, ⟨rfl, rfl⟩, hP, hD, hS⟩ := hH
  have hg := va_up_self (fun _ => (.inr (3, []) : va_E)) q (.inr (3, [.int 0, .int 0, .int 0, .int 0, .null, .null, .null, .int 0, .int 0, .int 0]) : va_E)
  generalize va_up (fun _ => (.inr (3, []) : va_E)) q (.inr (3, [.int 0, .int 0, .int 0, .int 0, .null, .null, .null, .int 0, .int 0, .int 0]) : va_E) = g at hP hD hg
  have hP : va_P D vwCl (va_pl [q] g) H := hP
  have hD : va_D (lA s) (va_pl [q] g) := hD
  refine lv_dup hx hb dL_law_3 rfl ?_
  first | refine lv_aload_n hx hb dL_law_4 rfl (lv_at hl 0 rfl) ?_ | refine lv_aload_nN hx hb dL_law_4 rfl (lv_at hl 0 rfl) ?_
  refine lv_iconst (v := 0) hx hb dL_law_5 (by decide) ?_
  refine l_cc hC.fix hl.1 hX hbl hL hS 0 (by decide) ⟨Nat.le_of_ble_eq_true rfl, Nat.le_of_ble_eq_true rfl⟩ dL_law_6 (Nat.le_of_ble_eq_true rfl) ?_
  first | refine lv_aload_n hx hb dL_law_9 rfl (lv_at hl 0 rfl) ?_ | refine lv_aload_nN hx hb dL_law_9 rfl (lv_at hl 0 rfl) ?_
  refine lv_iconst (v := 1) hx hb dL_law_10 (by decide) ?_
  refine l_cc hC.fix hl.1 hX hbl hL hS 1 (by decide) ⟨Nat.le_of_ble_eq_true rfl, Nat.le_of_ble_eq_true rfl⟩ dL_law_11 (Nat.le_of_ble_eq_true rfl) ?_
  first | refine lv_aload_n hx hb dL_law_14 rfl (lv_at hl 0 rfl) ?_ | refine lv_aload_nN hx hb dL_law_14 rfl (lv_at hl 0 rfl) ?_
  refine lv_iconst (v := 2) hx hb dL_law_15 (by decide) ?_
  refine l_cc hC.fix hl.1 hX hbl hL hS 2 (by decide) ⟨Nat.le_of_ble_eq_true rfl, Nat.le_of_ble_eq_true rfl⟩ dL_law_16 (Nat.le_of_ble_eq_true rfl) ?_
  have hF := gH.free hD hS hA
  refine va_callv (va_runI (As := [.int (zCell xs L 0), .int (zCell xs L 1), .int (zCell xs L 2)]) (rest := [.ref q]) hC.fix (c_Cinit (D := D) (sz := H.size) hg (zCell xs L 0) (zCell xs L 1) (zCell xs L 2)) ⟨kL_15.1.B hC.2.2.1 ⟨Nat.le_of_ble_eq_true rfl, Nat.le_of_ble_eq_true rfl⟩, kL_15.2.1, hC.2.2.1 _ kL_15.2.2⟩ ⟨cP0_blind, fun U hU hW => ⟨rfl, by rw [hU], by rw [hU]; exact hP, va_K.moved hW.alike hC.2.2.2.2.1, hD.weaken (fun _ _ _ _ => trivial), va_AO.moved hW.alike ao1, va_AO.moved hW.alike ao2, va_AO.moved hW.alike ao0⟩⟩ rfl rfl hl.1 rfl (lv_room (Nat.le_of_ble_eq_true rfl)) dL_law_19 ⟨Nat.le_of_ble_eq_true rfl, Nat.le_of_ble_eq_true rfl⟩) hS (fun q _ h => hF q h) hF (fun u t H1 locs1 ht hvm hp hB hz hk1 hS1 => ?_)
  obtain ⟨k, d, x⟩ := u
  obtain ⟨hp1, hp2⟩ := hp
  have hp1 : kO k = q := hp1
  have hp2 : x = cs0 (zNear (zCell xs L 0) 1 4) (zNear (zCell xs L 1) 0 100000) (zNear (zCell xs L 2) 1 1000) := hp2
  subst hp1
  subst hp2
  have hB : gB D (ck_tys k) (cJ k) (va_A (va_pl [kO k] g) H.size) (d, cs0 (zNear (zCell xs L 0) 1 4) (zNear (zCell xs L 1) 0 100000) (zNear (zCell xs L 2) 1 1000)) t := hB
  have hH := gH.back hB ht hF hS1
  obtain ⟨_, _, _, _, hK, _⟩ := hB
  have hC2 : gX RL (ck_tys k) D p s m #[Value.ref b] c bL_law 4 := ⟨hC.1, hC.2.1, hC.2.2.1, hC.2.2.2.1, va_K.moved hvm.symm hK, hC.2.2.2.2.2⟩
  first | refine lv_astore_n hx hb dL_law_22 rfl hl (by decide) rfl (fun ls hl => ?_) | refine lv_astore_nN hx hb dL_law_22 rfl hl (by decide) rfl (fun ls hl => ?_)
  have hl : lv_has ls 4 [(1, _), (0, _)] := hl
  exact kk k d H1 locs1 ls hC2 hH hl
/-- a new object beside a pool -/
theorem g2.new {σ : Type} {I : σ → List Nat → (Nat → va_E) → Prop} {u : σ} {own : String} {tys : List (ClassId × FieldType)} {args : Array Value} {R : Room} {cc : ByteArray} {pc nL : Nat} {A : Nat → Prop} {H0 : Heap} (hC : gX own tys D p s m args c cc nL) (hA : ∀ q, H0.size ≤ q → A q) (hH : gH D I u A H0 H locs) {C : String} {T : u_T} {N ci index : Nat} (hin : ∀ w ∈ u_ws C T N, w ∈ wA) (ty : Nat → FieldType) (hty : ∀ k, k < N → parseFieldDescriptor (T k).2.2.1 = some (ty k)) (hcl : Cond.classLink own index C ∈ wA) (hinst : Cond.instantiable C N ∈ wA) (hini : Cond.initialized C ∈ wA) (hc : vwCl[ci]? = some (C, T, N)) {fs : List Value} (hfs : ∀ j, j < N → defaultValue (ty j) = vp_V fs j) (hcells : cells + 1 ≤ R.cells) (hslots : slots + N ≤ R.slots) (hdg : decode cc pc = .ok (.new index, 3))
    (kk : ∀ (q : Nat) (H1 : Heap), g2 D (rI [q]) (fun _ => .inr (ci, fs)) I u A H0 H1 locs → W p l e R s m args below meth c H1 locs (cells + 1) (slots + N) Q (F0 m (pc + 3) ls (.ref q :: rest))) : W p l e R s m args below meth c H locs cells slots Q (F0 m pc ls rest) := by
  obtain ⟨LL, f, hI, hP, hD, hS⟩ := hH
  refine va_new hC.1 hC.2.1 hC.2.2.1 hin ty hty hC.2.2.2.1 (hC.2.2.1 _ hcl) (hC.2.2.1 _ hinst) (hC.2.2.1 _ hini) hC.2.2.2.2.1 hP hD hS hA hc hfs hcells hslots hdg (fun q H1 h1 h2 h3 => kk q H1 ?_)
  have hq : q ∉ LL := pw_push h2
  have hend : (va_pl LL f ++ [(q, (.inr (ci, fs) : va_E))])[(va_pl LL f).length]? = some (q, .inr (ci, fs)) := by
    rw [List.getElem?_append_right (Nat.le_refl _), Nat.sub_self]
    rfl
  have hleft : ∀ (j : Nat) (z : Nat × va_E), (va_pl LL f)[j]? = some z → (va_pl LL f ++ [(q, (.inr (ci, fs) : va_E))])[j]? = some z := fun j z hz => by
    rw [List.getElem?_append_left (List.getElem?_eq_some_iff.mp hz).1]
    exact hz
  have hone : ∀ (j : Nat) (z : Nat × va_E), (va_pl [q] (fun _ => (.inr (ci, fs) : va_E)))[j]? = some z → j = 0 ∧ z = (q, .inr (ci, fs)) := fun j z hz => by
    match j, hz with
    | 0, hz => exact ⟨rfl, (Option.some.inj hz).symm⟩
    | j + 1, hz => simp [va_pl] at hz
  refine ⟨[q], _, LL, f, ⟨rfl, rfl⟩, hI, fun j z hz => ?_, ⟨fun i j y z hy hz _ => ?_, fun j z hz => ?_⟩, fun j z hz => h1 j z (hleft j z hz), hD, fun z hz hz2 => ?_, h3⟩
  · rw [(hone j z hz).2]
    exact h1 _ _ hend
  · rw [(hone i y hy).1, (hone j z hz).1]
  · rw [(hone j z hz).2]
    exact h2.2 _ _ hend
  · rw [List.mem_singleton.mp hz] at hz2
    exact hq hz2
set_option maxHeartbeats 1000000 in
set_option maxRecDepth 100000 in
theorem law_B (hL : L ≤ 2563) (hC0 : gX RL [] D p s m #[Value.ref b] c bL_law 4) (hC : gX RL (ck_tys k) D p s m #[Value.ref b] c bL_law 4) (hX : va_X b L xs s s.heap) (hbl : b < s.heap.size) (hH : gH D (cJ k) (d, cs0 (zNear (zCell xs L 0) 1 4) (zNear (zCell xs L 1) 0 100000) (zNear (zCell xs L 2) 1 1000)) (lA s) s.heap H locs) (hl : lv_has ls 4 [(1, .ref (kO k)), (0, .ref b)]) (kk : ∀ (km : mk_F) (H : Heap) (locs : List Loc) (ls : Array Slot), gX RL (mk_tys km) D p s m #[Value.ref b] c bL_law 4 → g2 D (cJ k) (d, cs0 (zNear (zCell xs L 0) 1 4) (zNear (zCell xs L 1) 0 100000) (zNear (zCell xs L 2) 1 1000)) (mR km) (cs0 (zNear (zCell xs L 0) 1 4) (zNear (zCell xs L 1) 0 100000) (zNear (zCell xs L 2) 1 1000)) (lA s) s.heap H locs → lv_has ls 4 [(0, .ref b), (1, .ref (kO k)), (2, .ref (mO km)), (3, .int (nI (3 + 5 * 0)))] → W p l e room_1 s m #[Value.ref b] below meth c H locs 27 1763 Q (F0 m 48 ls [])) : W p l e room_1 s m #[Value.ref b] below meth c H locs 4 176 Q (F0 m 23 ls []) := by
  have hx := hC.1
  have hb := hC.2.1
  have hA : ∀ q : Nat, s.heap.size ≤ q → lA s q := fun _ h => h
  have hl : lv_has ls 4 [(1, _), (0, _)] := hl
  refine g2.new (ci := 4) (fs := [.int 0, .int 0, .int 0, .int 0, .int 0, .int 0, .int 0, .null, .null, .null, .null, .null, .null, .null, .null, .null, .null, .null, .null, .null, .null, .null, .null, .null, .null, .null, .null, .null, .null]) hC hA hH inX4 tyX4 tyX4_ok wk_L_18 wb_M wn_M rfl (fun j hj => by rcases (show j = 0 ∨ j = 1 ∨ j = 2 ∨ j = 3 ∨ j = 4 ∨ j = 5 ∨ j = 6 ∨ j = 7 ∨ j = 8 ∨ j = 9 ∨ j = 10 ∨ j = 11 ∨ j = 12 ∨ j = 13 ∨ j = 14 ∨ j = 15 ∨ j = 16 ∨ j = 17 ∨ j = 18 ∨ j = 19 ∨ j = 20 ∨ j = 21 ∨ j = 22 ∨ j = 23 ∨ j = 24 ∨ j = 25 ∨ j = 26 ∨ j = 27 ∨ j = 28 by omega) with rfl | rfl | rfl | rfl | rfl | rfl | rfl | rfl | rfl | rfl | rfl | rfl | rfl | rfl | rfl | rfl | rfl | rfl | rfl | rfl | rfl | rfl | rfl | rfl | rfl | rfl | rfl | rfl | rfl <;> rfl) (Nat.le_of_ble_eq_true rfl) (Nat.le_of_ble_eq_true rfl) dL_law_23 (fun q H hH => ?_)
  have hS := hH.S
  refine lv_dup hx hb dL_law_26 rfl ?_
  first | refine lv_aload_n hx hb dL_law_27 rfl (lv_at hl 1 rfl) ?_ | refine lv_aload_nN hx hb dL_law_27 rfl (lv_at hl 1 rfl) ?_
  refine lv_iconst (v := 0) hx hb dL_law_28 (by decide) ?_
  refine l_cc hC.fix hl.1 hX hbl hL hS 0 (by decide) ⟨Nat.le_of_ble_eq_true rfl, Nat.le_of_ble_eq_true rfl⟩ dL_law_29 (Nat.le_of_ble_eq_true rfl) ?_
  first | refine lv_aload_n hx hb dL_law_32 rfl (lv_at hl 1 rfl) ?_ | refine lv_aload_nN hx hb dL_law_32 rfl (lv_at hl 1 rfl) ?_
  refine lv_iconst (v := 1) hx hb dL_law_33 (by decide) ?_
  refine l_cc hC.fix hl.1 hX hbl hL hS 1 (by decide) ⟨Nat.le_of_ble_eq_true rfl, Nat.le_of_ble_eq_true rfl⟩ dL_law_34 (Nat.le_of_ble_eq_true rfl) ?_
  first | refine lv_aload_n hx hb dL_law_37 rfl (lv_at hl 1 rfl) ?_ | refine lv_aload_nN hx hb dL_law_37 rfl (lv_at hl 1 rfl) ?_
  refine lv_iconst (v := 2) hx hb dL_law_38 (by decide) ?_
  refine l_cc hC.fix hl.1 hX hbl hL hS 2 (by decide) ⟨Nat.le_of_ble_eq_true rfl, Nat.le_of_ble_eq_true rfl⟩ dL_law_39 (Nat.le_of_ble_eq_true rfl) ?_
  obtain ⟨L1, f1, L2, f2, ⟨rfl, rfl⟩, hw, hP, hD, hP2, hD2, hdis, hS⟩ := hH
  have hF := gH.free hD hS hA
  refine va_callv (va_runI (As := [.int (zCell xs L 0), .int (zCell xs L 1), .int (zCell xs L 2)]) (rest := [.ref q]) hC.fix (m_init (D := D) (a := q) (g := fun _ => .inr (4, [.int 0, .int 0, .int 0, .int 0, .int 0, .int 0, .int 0, .null, .null, .null, .null, .null, .null, .null, .null, .null, .null, .null, .null, .null, .null, .null, .null, .null, .null, .null, .null, .null, .null])) (sz := H.size) rfl (zCell xs L 0) (zCell xs L 1) (zCell xs L 2)) ⟨kL_20.1.B hC.2.2.1 ⟨Nat.le_of_ble_eq_true rfl, Nat.le_of_ble_eq_true rfl⟩, kL_20.2.1, hC.2.2.1 _ kL_20.2.2⟩ ⟨mP0_blind, fun U hU hW => ⟨rfl, by rw [hU], by rw [hU]; exact hP, va_K.moved hW.alike hC0.2.2.2.2.1, hD.weaken (fun _ _ _ _ => trivial)⟩⟩ rfl rfl hl.1 rfl (lv_room (Nat.le_of_ble_eq_true rfl)) dL_law_42 ⟨Nat.le_of_ble_eq_true rfl, Nat.le_of_ble_eq_true rfl⟩) hS (fun q _ h => hF q h) hF (fun u t H1 locs1 ht hvm hp hB hz hk1 hS1 => ?_)
  obtain ⟨km, x⟩ := u
  obtain ⟨hp1, hp2⟩ := hp
  have hp1 : mO km = q := hp1
  have hp2 : x = cs0 (zNear (zCell xs L 0) 1 4) (zNear (zCell xs L 1) 0 100000) (zNear (zCell xs L 2) 1 1000) := hp2
  subst hp1
  subst hp2
  have hB : gB D (mk_tys km) (mR km) (va_A (va_pl [mO km] _) H.size) (cs0 (zNear (zCell xs L 0) 1 4) (zNear (zCell xs L 1) 0 100000) (zNear (zCell xs L 2) 1 1000)) t := hB
  have hH := (g2.back hP hw hP2 hD2 hdis hB ht hk1 hF hS1).swap
  obtain ⟨_, _, _, _, hK, _⟩ := hB
  have hM : gX RL (mk_tys km) D p s m #[Value.ref b] c bL_law 4 := ⟨hC.1, hC.2.1, hC.2.2.1, hC.2.2.2.1, va_K.moved hvm.symm hK, hC.2.2.2.2.2⟩
  first | refine lv_astore_n hx hb dL_law_45 rfl hl (by decide) rfl (fun ls hl => ?_) | refine lv_astore_nN hx hb dL_law_45 rfl hl (by decide) rfl (fun ls hl => ?_)
  have hl : lv_has ls 4 [(2, _), (1, _), (0, _)] := hl
  refine lv_iconst (v := 3) hx hb dL_law_46 (by decide) ?_
  refine lv_istore_n hx hb dL_law_47 rfl hl (by decide) rfl (fun ls hl => ?_)
  have hl : lv_has ls 4 [(3, _), (2, _), (1, _), (0, _)] := hl
  exact kk km H1 locs1 ls hM hH (lv_sub hl [3, 2, 1, 0] rfl)
end LWB