/-! THE LAW'S OWN: its script, its two objects side by side -/
section LW
variable {p : Program} {l : Launch} {e : Env} {s : State} {m : MethodId} {below : List Frame} {meth : Method} {c : Code} {H : Heap} {locs : List Loc} {cells slots : Nat} {Q : State → Prop}
variable {pc : Nat} {ls : Array Slot} {rest st : List Value} {D : va_G} {b L : Nat} {xs : Nat → Int32} {k : ck_F} {km : mk_F} {d : ck_A} {x : cs_S}
abbrev lA (s : State) : Nat → Prop := fun q => s.heap.size ≤ q
def lCx (p : Program) (s : State) (m : MethodId) (c : Code) (b L : Nat) (xs : Nat → Int32) (D : va_G) (k : ck_F) (km : mk_F) : Prop := gX RL (ck_tys k) D p s m #[Value.ref b] c bL_law 4 ∧ gX RL (mk_tys km) D p s m #[Value.ref b] c bL_law 4 ∧ va_X b L xs s s.heap ∧ b < s.heap.size ∧ L ≤ 2563
theorem g2.S {σ τ : Type} {I : σ → List Nat → (Nat → va_E) → Prop} {u : σ} {J : τ → List Nat → (Nat → va_E) → Prop} {w : τ} {A : Nat → Prop} {H0 : Heap} (h : g2 D I u J w A H0 H locs) : va_S A H0 H locs := by
  obtain ⟨_, _, _, _, _, _, _, _, _, _, _, h8⟩ := h
  exact h8
theorem l_sld {t : Nat} {v : Int32} (hx : p.tables.exec = Jvm.exec) (hb : c.code = bL_law) (hX : va_X b L xs s s.heap) (hbl : b < s.heap.size) (hL : L ≤ 2563) (hS : va_S (lA s) s.heap H locs) (hv : v = nI t) (ht : t < L) (hdg : decode bL_law pc = .ok (.iaload, 1)) (kk : W p l e room_1 s m #[Value.ref b] below meth c H locs cells slots Q (F0 m (pc + 1) ls (.int (xs t) :: rest))) : W p l e room_1 s m #[Value.ref b] below meth c H locs cells slots Q (F0 m pc ls (.int v :: .ref b :: rest)) := by
  subst hv
  refine va_sld hx hb hX hbl (Nat.not_le.mpr hbl) hS (vp_in_nI ht (by omega)) hdg ?_
  rw [nI_clamp (by omega)]
  exact kk

/-! cell -/
def zCell (xs : Nat → Int32) (L j : Nat) : Int32 := if j < L then xs j else 0
def lP0 (b L : Nat) (xs : Nat → Int32) (j : Nat) : Array Value → State → Prop := va_Pc [.ref b, .int (nI j)] (fun U => va_X b L xs U U.heap ∧ b < U.heap.size)
theorem lP0_blind {j : Nat} : FrameBlind (lP0 b L xs j) := fun a U g mk q => by
  obtain ⟨q0, q1, q2⟩ := q
  exact ⟨q0, va_X.moved (u := U) (U := U.calling g mk a) (Vm.Alike.refl U.vm) q1, q2⟩
set_option maxHeartbeats 600000 in
set_option maxRecDepth 100000 in
theorem l_cell (hL : L ≤ 2563) (j : Nat) (hj : j < 3) : Met l yL_cell (wz yL_cell bL_cell 2 (some .int)) (rmL 0 0 0) (lP0 b L xs j) (vp_Si (fun r => r = zCell xs L j)) 0 0 (fun _ => False) := by
  refine Met.ofW (cc := bL_cell) (maxL := 2) (ret := some .int) (by decide) rfl ?_
  intro p e s m args below meth c s₁ B hml hv
  obtain ⟨rfl, hX, hbl⟩ := hv
  rw [lg_entry_eq]
  have hx := B.exec
  have hb := B.bytes
  have hr := B.returns
  have hlk := B.notSynchronized
  have hS : va_S (fun _ => False) s.heap s.heap [] := va_S.rf
  have hl := lv_entry ([.ref b, .int (nI j)]) (n := 2) (Nat.le_of_ble_eq_true rfl)
  generalize (lg_sl ([.ref b, .int (nI j)]) ++ List.replicate (2 - (lg_sl ([.ref b, .int (nI j)])).length) Slot.unset).toArray = ls at hl ⊢
  have hl : lv_has ls 2 [(0, _), (1, _)] := hl
  refine lv_iload_n hx hb dL_cell_0 rfl (lv_at hl 1 rfl) ?_
  first | refine lv_aload_n hx hb dL_cell_1 rfl (lv_at hl 0 rfl) ?_ | refine lv_aload_nN hx hb dL_cell_1 rfl (lv_at hl 0 rfl) ?_
  refine va_slen hx hb hX hbl (fun h => h) hS dL_cell_2 ?_
  refine lv_icmp_ge  (tgt := 12) hx hb dL_cell_3 (by decide) (fun h1 => ?_) (fun h1 => ?_)
  · have h2 : ¬ j < L := fun q => nI_ge q (by omega) h1
    refine lv_iconst (v := 0) hx hb dL_cell_12 (by decide) ?_
    exact W.zret hx hb hr rfl (fun t ht hW => ⟨_, rfl, (if_neg h2).symm, ht⟩) (fun q h => by cases h) dL_cell_13
  · have h2 : j < L := Nat.not_le.mp fun q => h1 (nI_le q (by omega))
    first | refine lv_aload_n hx hb dL_cell_6 rfl (lv_at hl 0 rfl) ?_ | refine lv_aload_nN hx hb dL_cell_6 rfl (lv_at hl 0 rfl) ?_
    refine lv_iload_n hx hb dL_cell_7 rfl (lv_at hl 1 rfl) ?_
    refine va_sld hx hb hX hbl (fun h => h) hS (vp_in_nI h2 (by omega)) dL_cell_8 ?_
    rw [nI_clamp (by omega)]
    refine lv_goto (tgt := 13) hx hb dL_cell_9 (by decide) ?_
    exact W.zret hx hb hr rfl (fun t ht hW => ⟨_, rfl, (if_pos h2).symm, ht⟩) (fun q h => by cases h) dL_cell_13
theorem l_cc (hF : CallFix p m c bL_law 4 s #[Value.ref b] wA RL) (hls : ls.size = 4) (hX : va_X b L xs s s.heap) (hbl : b < s.heap.size) (hL : L ≤ 2563) (hS : va_S (lA s) s.heap H locs) (j : Nat) (hj : j < 3) (hcs : cells ≤ room_1.cells ∧ slots ≤ room_1.slots) (hdg : decode bL_law pc = .ok (.invokestatic 9, 3)) (hcat : (rest.map fun v => v.category).sum ≤ 8) (kk : W p l e room_1 s m #[Value.ref b] below meth c H locs cells slots Q (F0 m (pc + 3) ls (.int (zCell xs L j) :: rest))) : W p l e room_1 s m #[Value.ref b] below meth c H locs cells slots Q (F0 m pc ls (.int (nI j) :: .ref b :: rest)) :=
  vp_callSi (W.runS (As := [.ref b, .int (nI j)]) hF (l_cell hL j hj) ⟨kL_9.1.B hF.2.2.2.2 ⟨Nat.le_of_ble_eq_true rfl, Nat.le_of_ble_eq_true rfl⟩, hF.2.2.2.2 _ kL_9.2⟩ ⟨lP0_blind, fun U hU hW => ⟨rfl, by rw [hU]; exact (hX.kept (hS.2.1 b hbl (Nat.not_le.mpr hbl))).moved hW.alike, by rw [hU]; exact Nat.lt_of_lt_of_le hbl hS.1⟩⟩ rfl rfl hls rfl (lv_room hcat) hdg hcs) (fun v hv => by subst hv; exact kk)
end LW