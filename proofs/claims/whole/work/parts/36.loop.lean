/-! THE LAW'S LOOP -/
section LWL
variable {p : Program} {l : Launch} {e : Env} {s : State} {m : MethodId} {below : List Frame} {meth : Method} {c : Code} {H : Heap} {locs : List Loc} {cells slots : Nat} {Q : State → Prop}
variable {ls : Array Slot} {D : va_G} {b L : Nat} {xs : Nat → Int32} {k : ck_F} {km : mk_F} {d : ck_A} {x : cs_S}
theorem l_and15 (v : Int32) : ∃ n : Nat, n ≤ 15 ∧ v &&& 15 = nI n := by
  refine ⟨(v &&& 15).toBitVec.toNat, ?_, ?_⟩
  · rw [Int32.toBitVec_and, BitVec.toNat_and]
    exact Nat.and_le_right
  · apply Int32.toBitVec_inj.mp
    show (v &&& 15).toBitVec = BitVec.ofNat 32 (v &&& 15).toBitVec.toNat
    simp
theorem l_len (hL : L ≤ 2563) : (Int32.ofNat L - 5).toInt = (L : Int) - 5 := by
  have h1 : (Int32.ofNat L).toInt = (L : Int) := nI_toInt (n := L) (by omega)
  rw [Int32.toInt_sub, h1, show (5 : Int32).toInt = 5 from by decide]
  apply Int.bmod_eq_of_le <;> omega
theorem l_go {i : Nat} (hL : L ≤ 2563) (hi : i ≤ 2563) (h : ¬ Int32.ofNat L - 5 < nI i) : i + 5 ≤ L := by
  have h1 : ¬ ((L : Int) - 5 < (i : Int)) := fun q => h (Int32.lt_iff_toInt_lt.mpr (by rw [l_len hL, nI_toInt (by omega)]; exact q))
  omega

set_option maxHeartbeats 1000000 in
set_option maxRecDepth 100000 in
theorem law_sw (h : lCx p s m c b L xs D k km) (hcs : cells + 100 ≤ room_1.cells ∧ slots + 900 ≤ room_1.slots) {i : Nat} (hi : i + 5 ≤ L) (hH : g2 D (cJ k) (d, x) (mR km) x (lA s) s.heap H locs) (hl : lv_has ls 4 [(0, .ref b), (1, .ref (kO k)), (2, .ref (mO km)), (3, .int (nI i))]) (kk : ∀ (d : ck_A) (x : cs_S) (H : Heap) (locs : List Loc), g2 D (cJ k) (d, x) (mR km) x (lA s) s.heap H locs → W p l e room_1 s m #[Value.ref b] below meth c H locs (cells + 100) (slots + 900) Q (F0 m 703 ls [])) (v : Int32) : W p l e room_1 s m #[Value.ref b] below meth c H locs cells slots Q (F0 m 62 ls [.int (v &&& 15)]) := by
  have hx := h.1.1
  have hb := h.1.2.1
  obtain ⟨n, hn, hv⟩ := l_and15 v
  rw [hv]
  rcases (show n = 0 ∨ n = 1 ∨ n = 2 ∨ n = 3 ∨ n = 4 ∨ n = 5 ∨ n = 6 ∨ n = 7 ∨ n = 8 ∨ n = 9 ∨ n = 10 ∨ n = 11 ∨ n = 12 ∨ n = 13 ∨ n = 14 ∨ n = 15 by omega) with rfl | rfl | rfl | rfl | rfl | rfl | rfl | rfl | rfl | rfl | rfl | rfl | rfl | rfl | rfl | rfl
  · exact lv_tableIn (off := 74) (tgt := 136) hx hb dL_law_62 (by decide) (by decide) (by decide) (by decide) (law_c0 h hcs hi hH hl kk)
  · exact lv_tableIn (off := 137) (tgt := 199) hx hb dL_law_62 (by decide) (by decide) (by decide) (by decide) (law_c1 h hcs hi hH hl kk)
  · exact lv_tableIn (off := 200) (tgt := 262) hx hb dL_law_62 (by decide) (by decide) (by decide) (by decide) (law_c2 h hcs hi hH hl kk)
  · exact lv_tableIn (off := 233) (tgt := 295) hx hb dL_law_62 (by decide) (by decide) (by decide) (by decide) (law_c3 h hcs hi hH hl kk)
  · exact lv_tableIn (off := 306) (tgt := 368) hx hb dL_law_62 (by decide) (by decide) (by decide) (by decide) (law_c4 h hcs hi hH hl kk)
  · exact lv_tableIn (off := 329) (tgt := 391) hx hb dL_law_62 (by decide) (by decide) (by decide) (by decide) (law_c5 h hcs hi hH hl kk)
  · exact lv_tableIn (off := 342) (tgt := 404) hx hb dL_law_62 (by decide) (by decide) (by decide) (by decide) (law_c6 h hcs hi hH hl kk)
  · exact lv_tableIn (off := 365) (tgt := 427) hx hb dL_law_62 (by decide) (by decide) (by decide) (by decide) (law_c7 h hcs hi hH hl kk)
  · exact lv_tableIn (off := 388) (tgt := 450) hx hb dL_law_62 (by decide) (by decide) (by decide) (by decide) (law_c8 h hcs hi hH hl kk)
  · exact lv_tableIn (off := 411) (tgt := 473) hx hb dL_law_62 (by decide) (by decide) (by decide) (by decide) (law_c9 h hcs hi hH hl kk)
  · exact lv_tableIn (off := 434) (tgt := 496) hx hb dL_law_62 (by decide) (by decide) (by decide) (by decide) (law_c10 h hcs hi hH hl kk)
  · exact lv_tableIn (off := 467) (tgt := 529) hx hb dL_law_62 (by decide) (by decide) (by decide) (by decide) (law_c11 h hcs hi hH hl kk)
  · exact lv_tableIn (off := 491) (tgt := 553) hx hb dL_law_62 (by decide) (by decide) (by decide) (by decide) (law_c12 h hcs hi hH hl kk)
  · exact lv_tableIn (off := 524) (tgt := 586) hx hb dL_law_62 (by decide) (by decide) (by decide) (by decide) (law_c13 h hcs hi hH hl kk)
  · exact lv_tableIn (off := 547) (tgt := 609) hx hb dL_law_62 (by decide) (by decide) (by decide) (by decide) (law_c14 h hcs hi hH hl kk)
  · exact lv_tableOut (tgt := 703) hx hb dL_law_62 (by decide) (by decide) (W.widen (by omega) (by omega) (kk d x H locs hH))
set_option maxHeartbeats 1000000 in
set_option maxRecDepth 100000 in
theorem law_loop (hL : L ≤ 2563) (h : lCx p s m c b L xs D k km) (hr : meth.sig.returnType = ret) (hlocks : meth.locks = false) : ∀ (F n : Nat), n + F = 513 → n ≤ 512 → ∀ (d : ck_A) (x : cs_S) (H : Heap) (locs : List Loc) (ls : Array Slot), g2 D (cJ k) (d, x) (mR km) x (lA s) s.heap H locs → lv_has ls 4 [(0, .ref b), (1, .ref (kO k)), (2, .ref (mO km)), (3, .int (nI (3 + 5 * n)))] → W p l e room_1 s m #[Value.ref b] below meth c H locs (27 + 100 * n) (1763 + 900 * n) (lw_Z below #[Value.ref b] s) (F0 m 48 ls []) := by
  intro F
  induction F with
  | zero => intro n h1 h2; exact absurd h1 (by omega)
  | succ F ih =>
    intro n hF hn d x H locs ls hH hl
    obtain ⟨hC, hM, hX, hbl, -⟩ := id h
    have hx := hC.1
    have hb := hC.2.1
    have hS := hH.S
    have hl : lv_has ls 4 [(0, _), (1, _), (2, _), (3, _)] := hl
    refine lv_iload_n hx hb dL_law_48 rfl (lv_at hl 3 rfl) ?_
    first | refine lv_aload_n hx hb dL_law_49 rfl (lv_at hl 0 rfl) ?_ | refine lv_aload_nN hx hb dL_law_49 rfl (lv_at hl 0 rfl) ?_
    refine va_slen hx hb hX hbl (Nat.not_le.mpr hbl) hS dL_law_50 ?_
    refine lv_iconst (v := 5) hx hb dL_law_51 (by decide) ?_
    refine lv_isub hx hb dL_law_52 ?_
    refine lv_icmp_gt  (tgt := 709) hx hb dL_law_53 (by decide) (fun h1 => ?_) (fun h1 => ?_)
    · refine lv_iconst (v := 1) hx hb dL_law_709 (by decide) ?_
      refine va_forget (fun q hq => hS.2.2 q hq) ?_
      refine W.widen (k := 600000) (n := 7302250) (by omega) (by omega) ?_
      exact lw_ret hx hb hr hlocks dL_law_710
    · have hi : (3 + 5 * n) + 5 ≤ L := l_go hL (by omega) h1
      generalize hie : 3 + 5 * n = i at hl hi
      first | refine lv_aload_n hx hb dL_law_56 rfl (lv_at hl 0 rfl) ?_ | refine lv_aload_nN hx hb dL_law_56 rfl (lv_at hl 0 rfl) ?_
      refine lv_iload_n hx hb dL_law_57 rfl (lv_at hl 3 rfl) ?_
      refine l_sld hx hb hX hbl hL hS (t := i) rfl (by omega) dL_law_58 ?_
      refine lv_bipush (v := 15) hx hb dL_law_59 (by decide) ?_
      refine lv_iand hx hb dL_law_61 ?_
      refine law_sw h ⟨by show 27 + 100 * n + 100 ≤ 600000; omega, by show 1763 + 900 * n + 900 ≤ 7302250; omega⟩ hi hH hl (fun d x H locs hH => ?_) (xs i)
      refine lv_iinc hx hb dL_law_703 hl (k := 3) rfl rfl (by decide) rfl (fun ls hl => ?_)
      have hl : lv_has ls 4 [(3, _), (0, _), (1, _), (2, _)] := hl
      refine lv_goto (tgt := 48) hx hb dL_law_706 (by decide) ?_
      have hl := lv_sub hl [1, 2, 3, 0] rfl
      refine W.widen (k := 27 + 100 * (n + 1)) (n := 1763 + 900 * (n + 1)) (by omega) (by omega) (ih (n + 1) (by omega) (by omega) d x H locs ls hH ?_)
      rw [show 3 + 5 * (n + 1) = i + 5 by omega, ← nI_add i 5]
      exact hl
end LWL