set_option maxHeartbeats 4000000 in
set_option maxRecDepth 100000 in
/-- from the entry, for every script of at most 2563 ints, the law comes to its end with true -/
theorem whole_start {p : Program} {e : Env} {s : State} {m : MethodId} {below : List Frame} {meth : Method} {c : Code} (l : Launch) {b L : Nat} {xs : Nat → Int32} (hL : L ≤ 2563) (C0 : lw_At p s m meth c b L xs) : W p l e room_1 s m #[Value.ref b] below meth c s.heap [] 0 0 (lw_Z below #[Value.ref b] s) (entryFrame m ([Value.ref b] : List Value).toArray 4) := by
  obtain ⟨hx, hb, hr, hml, hown, hts, hX, hbl, hlocks, hgv⟩ := C0
  have hA : ∀ w ∈ wA, w.before #[Value.ref b] s = true := fun w h => hts w (wA_tbl w h)
  obtain ⟨c0, i0, hK0⟩ := u_known (C := RX0) (T := TX0) (N := 11) (n := 11) hA inX0 (hA _ wb_R)
  obtain ⟨c1, i1, hK1⟩ := u_known (C := RX1) (T := TX1) (N := 4) (n := 4) hA inX1 (hA _ wb_T)
  obtain ⟨c2, i2, hK2⟩ := u_known (C := RX2) (T := TX2) (N := 9) (n := 9) hA inX2 (hA _ wb_W)
  obtain ⟨c3, i3, hK3⟩ := u_known (C := RX3) (T := TX3) (N := 10) (n := 10) hA inX3 (hA _ wb_C)
  obtain ⟨c4, i4, hK4⟩ := u_known (C := RX4) (T := TX4) (N := 29) (n := 29) hA inX4 (hA _ wb_M)
  obtain ⟨dC, dI, hKc⟩ : ∃ (dC : Nat → ClassId) (dI : Nat → Nat → Nat), ∀ (k : Nat) (q : vw_C), vwCl[k]? = some q → u_Kn s q.1 q.2.1 q.2.2 (dC k) (dI k) := by
    refine ⟨fun k => if k = 0 then c0 else if k = 1 then c1 else if k = 2 then c2 else if k = 3 then c3 else c4, fun k => if k = 0 then i0 else if k = 1 then i1 else if k = 2 then i2 else if k = 3 then i3 else i4, ?_⟩
    intro k q hq
    match k, hq with
    | 0, hq => cases hq; exact hK0
    | 1, hq => cases hq; exact hK1
    | 2, hq => cases hq; exact hK2
    | 3, hq => cases hq; exact hK3
    | 4, hq => cases hq; exact hK4
    | k + 5, hq => simp [vwCl] at hq
  have hK : va_K (dC, dI) vwCl [] s := ⟨hKc, fun k q h => by simp at h⟩
  have ao1 : va_AO RX1 s := va_AO.of (hts _ (List.mem_of_getElem? (i := 34) (by decide +kernel)))
  have ao2 : va_AO RX2 s := va_AO.of (hts _ (List.mem_of_getElem? (i := 36) (by decide +kernel)))
  have ao0 : va_AO RX0 s := va_AO.of (hts _ (List.mem_of_getElem? (i := 38) (by decide +kernel)))
  have hl := lv_entry ([.ref b]) (n := 4) (Nat.le_of_ble_eq_true rfl)
  rw [lg_entry_eq]
  generalize (lg_sl ([.ref b]) ++ List.replicate (4 - (lg_sl ([.ref b])).length) Slot.unset).toArray = ls at hl ⊢
  have hl : lv_has ls 4 [(0, .ref b)] := hl
  have hC : gX RL [] (dC, dI) p s m #[Value.ref b] c bL_law 4 := ⟨hx, hb, hA, hown, hK, hml⟩
  refine law_A hL hC hX hbl ao1 ao2 ao0 hl (fun k d H locs ls hC1 hH hl => ?_)
  refine law_B hL hC hC1 hX hbl hH hl (fun km H locs ls hM hG hl => ?_)
  exact law_loop hL ⟨hC1, hM, hX, hbl, hL⟩ hr hlocks 513 0 rfl (Nat.zero_le _) d _ H locs ls hG hl
