/-! WHAT THE METHODS OF WorkerRows DO, in words of the state -/
theorem bI_0 {b : Bool} : bI b = 0 ↔ b = false := by cases b <;> decide
theorem sT_sT (x : cs_S) (i : Nat) (a b : cs_T) : sT (sT x i a) i b = sT x i b := by simp only [sT, gT, bx_uu]
theorem sW_sW (x : cs_S) (i : Nat) (a b : cs_W) : sW (sW x i a) i b = sW x i b := by simp only [sW, gW, bx_uu]
theorem sR_sR (x : cs_S) (i : Nat) (a b : cs_R) : sR (sR x i a) i b = sR x i b := by simp only [sR, gR, bx_uu]
def zEnd (w : cs_W) : Int32 := if wEn w = 0 then 0 else 1
def zSt (w : cs_W) : Int32 := if wEn w = 0 then (if wRq w = none then 0 else 1) else 2
def os1 (r : Int64) : Int64 := (r ^^^ (r.toUInt64 >>> ((31 : Int32).toInt64.toUInt64 &&& Int64.toUInt64 63)).toInt64) * (-7046029254386353131)
def os (e i : Int64) : Int64 := os1 (os1 (e ^^^ i)) + i
def qCan (r : cs_R) : cs_R := rUn_ (rWk_ (rSt_ r 3) none) false
def qDone (r : cs_R) (w : Option Nat) (v : Int64) : cs_R := if rUn r = true then qCan r else rRs_ (rWk_ (rSt_ r 2) w) v
def qWait (r : cs_R) : cs_R := if rUn r = true then qCan r else rWk_ (rSt_ r 0) none
section C1
variable {l : Launch} {D : va_G} {k : ck_F} {d : ck_A} {x : cs_S} {LL : List Nat} {f : Nat → va_E} {sz : Nat}
set_option maxHeartbeats 4000000 in
set_option maxRecDepth 100000 in
theorem c_isEnded (hI : cJ k (d, x) LL f) {i : Nat} (hi : i < nW x) : Met l yC_isEnded (wz yC_isEnded bC_isEnded 1 (some .boolean)) (rmL 0 0 0) (gP D (ck_tys k) LL f sz [.ref (aWo d i)]) (vp_Si (fun r => r = zEnd (gW x i))) 0 0 (fun _ => False) := by
  refine gMetR (own := RX3) (u := (d, x)) (by decide) rfl hI (Nat.le_of_ble_eq_true rfl) ?_
  intro p e s m below meth c ls hC hr hlk hH hl
  have hx := hC.1
  have hb := hC.2.1
  have hml := hC.2.2.2.2.2
  have hts := hC.2.2.1
  have hown := hC.2.2.2.1
  have hl : lv_has ls 1 [(0, _)] := hl
  first | refine lv_aload_n hx hb dC_isEnded_0 rfl (lv_at hl 0 rfl) ?_ | refine lv_aload_nN hx hb dC_isEnded_0 rfl (lv_at hl 0 rfl) ?_
  refine gC_W_endedBy hC hH (by assumption) dC_isEnded_1 ?_
  refine lv_if_eq  (tgt := 11) hx hb dC_isEnded_4 (by decide) (fun h => ?_) (fun h => ?_)
  · refine lv_iconst (v := 0) hx hb dC_isEnded_11 (by decide) ?_
    exact grSi hC hr hlk rfl (by simp [zEnd, h]) dC_isEnded_12
  · refine lv_iconst (v := 1) hx hb dC_isEnded_7 (by decide) ?_
    refine lv_goto (tgt := 12) hx hb dC_isEnded_8 (by decide) ?_
    exact grSi hC hr hlk rfl (by simp [zEnd, h]) dC_isEnded_12
set_option maxHeartbeats 4000000 in
set_option maxRecDepth 100000 in
theorem c_stateOf (hI : cJ k (d, x) LL f) {i : Nat} (hi : i < nW x) : Met l yC_stateOf (wz yC_stateOf bC_stateOf 1 (some .int)) (rmL 1 0 0) (gP D (ck_tys k) LL f sz [.ref (aWo d i)]) (vp_Si (fun r => r = zSt (gW x i))) 0 0 (fun _ => False) := by
  refine gMetR (own := RX3) (u := (d, x)) (by decide) rfl hI (Nat.le_of_ble_eq_true rfl) ?_
  intro p e s m below meth c ls hC hr hlk hH hl
  have hx := hC.1
  have hb := hC.2.1
  have hml := hC.2.2.2.2.2
  have hts := hC.2.2.1
  have hown := hC.2.2.2.1
  have hl : lv_has ls 1 [(0, _)] := hl
  first | refine lv_aload_n hx hb dC_stateOf_0 rfl (lv_at hl 0 rfl) ?_ | refine lv_aload_nN hx hb dC_stateOf_0 rfl (lv_at hl 0 rfl) ?_
  refine gcSi hC hl.1 hH (fun LL f sz hI => c_isEnded hI hi) kC_63 ⟨Nat.le_of_ble_eq_true rfl, Nat.le_of_ble_eq_true rfl⟩ dC_stateOf_1 ⟨Nat.le_of_ble_eq_true rfl, Nat.le_of_ble_eq_true rfl⟩ rfl (Nat.le_of_ble_eq_true rfl) (fun r hr1 => ?_)
  refine lv_if_eq  (tgt := 9) hx hb dC_stateOf_4 (by decide) (fun h => ?_) (fun h => ?_)
  · have h0 : wEn (gW x i) = 0 := by
      rw [hr1] at h
      simp only [zEnd] at h
      split at h
      · assumption
      · exact absurd h (by decide)
    first | refine lv_aload_n hx hb dC_stateOf_9 rfl (lv_at hl 0 rfl) ?_ | refine lv_aload_nN hx hb dC_stateOf_9 rfl (lv_at hl 0 rfl) ?_
    refine gC_W_request hC hH (by assumption) dC_stateOf_10 ?_
    rcases hq : wRq (gW x i) with _ | j
    · first | refine lv_ifnonnullN hx hb dC_stateOf_13 ?_ | refine lv_ifnonnull (tgt := 20) hx hb dC_stateOf_13 (by decide) ?_
      refine lv_iconst (v := 0) hx hb dC_stateOf_16 (by decide) ?_
      refine lv_goto (tgt := 21) hx hb dC_stateOf_17 (by decide) ?_
      exact grSi hC hr hlk rfl (by simp [zSt, h0, hq]) dC_stateOf_21
    · first | refine lv_ifnonnullN hx hb dC_stateOf_13 ?_ | refine lv_ifnonnull (tgt := 20) hx hb dC_stateOf_13 (by decide) ?_
      refine lv_iconst (v := 1) hx hb dC_stateOf_20 (by decide) ?_
      exact grSi hC hr hlk rfl (by simp [zSt, h0, hq]) dC_stateOf_21
  · have h0 : ¬ wEn (gW x i) = 0 := by
      intro q
      exact h (by rw [hr1]; simp [zEnd, q])
    refine lv_iconst (v := 2) hx hb dC_stateOf_7 (by decide) ?_
    exact grSi hC hr hlk rfl (by simp [zSt, h0]) dC_stateOf_8
set_option maxHeartbeats 4000000 in
set_option maxRecDepth 100000 in
theorem c_freshRun (a b : Int64) : Met l yC_freshRun (wz yC_freshRun bC_freshRun 7 (some .long)) (rmL 0 0 0) (fun v _ => v = ([.long a, .long b] : List Value).toArray) (vp_Sl (fun r => r = os a b)) 0 0 (fun _ => False) := by
  refine gMetS (own := RX3) (by decide) rfl (Nat.le_of_ble_eq_true rfl) ?_
  intro p e s m below meth c ls hx hb hts hown hml hr hlk hl
  have hl : lv_has ls 7 [(0, _), (2, _)] := hl
  refine lv_lload_n hx hb dC_freshRun_0 rfl (lv_at hl 0 rfl) ?_
  refine lv_lload_n hx hb dC_freshRun_1 rfl (lv_at hl 1 rfl) ?_
  refine lv_lxor hx hb dC_freshRun_2 ?_
  refine lv_lstore hx hb dC_freshRun_3 hl (by decide) rfl (fun ls hl => ?_)
  have hl : lv_has ls 7 [(4, _), (0, _), (2, _)] := hl
  refine lv_iconst (v := 0) hx hb dC_freshRun_5 (by decide) ?_
  refine lv_istore hx hb dC_freshRun_6 hl (by decide) rfl (fun ls hl => ?_)
  have hl : lv_has ls 7 [(6, _), (4, _), (0, _), (2, _)] := hl
  refine lv_iload hx hb dC_freshRun_8 (lv_at hl 0 rfl) ?_
  refine lv_iconst (v := 2) hx hb dC_freshRun_10 (by decide) ?_
  refine lv_icmp_ge  (tgt := 34) hx hb dC_freshRun_11 (by decide) (fun h => ?_) (fun h => ?_)
  · exact absurd h (by decide)
  refine lv_lload hx hb dC_freshRun_14 (lv_at hl 1 rfl) ?_
  refine lv_lload hx hb dC_freshRun_16 (lv_at hl 1 rfl) ?_
  refine lv_bipush (v := 31) hx hb dC_freshRun_18 (by decide) ?_
  refine lv_lushr hx hb dC_freshRun_20 rfl ?_
  refine lv_lxor hx hb dC_freshRun_21 ?_
  refine lv_ldc2 hx hb hown (hts _ wq_C_183) dC_freshRun_22 ?_
  refine lv_lmul hx hb dC_freshRun_25 ?_
  refine lv_lstore hx hb dC_freshRun_26 hl (by decide) rfl (fun ls hl => ?_)
  have hl : lv_has ls 7 [(4, _), (6, _), (0, _), (2, _)] := hl
  refine lv_iinc hx hb dC_freshRun_28 hl (k := 1) rfl rfl (by decide) rfl (fun ls hl => ?_)
  have hl : lv_has ls 7 [(6, _), (4, _), (0, _), (2, _)] := hl
  refine lv_goto (tgt := 8) hx hb dC_freshRun_31 (by decide) ?_
  refine lv_iload hx hb dC_freshRun_8 (lv_at hl 0 rfl) ?_
  refine lv_iconst (v := 2) hx hb dC_freshRun_10 (by decide) ?_
  refine lv_icmp_ge  (tgt := 34) hx hb dC_freshRun_11 (by decide) (fun h => ?_) (fun h => ?_)
  · exact absurd h (by decide)
  refine lv_lload hx hb dC_freshRun_14 (lv_at hl 1 rfl) ?_
  refine lv_lload hx hb dC_freshRun_16 (lv_at hl 1 rfl) ?_
  refine lv_bipush (v := 31) hx hb dC_freshRun_18 (by decide) ?_
  refine lv_lushr hx hb dC_freshRun_20 rfl ?_
  refine lv_lxor hx hb dC_freshRun_21 ?_
  refine lv_ldc2 hx hb hown (hts _ wq_C_183) dC_freshRun_22 ?_
  refine lv_lmul hx hb dC_freshRun_25 ?_
  refine lv_lstore hx hb dC_freshRun_26 hl (by decide) rfl (fun ls hl => ?_)
  have hl : lv_has ls 7 [(4, _), (6, _), (0, _), (2, _)] := hl
  refine lv_iinc hx hb dC_freshRun_28 hl (k := 1) rfl rfl (by decide) rfl (fun ls hl => ?_)
  have hl : lv_has ls 7 [(6, _), (4, _), (0, _), (2, _)] := hl
  refine lv_goto (tgt := 8) hx hb dC_freshRun_31 (by decide) ?_
  refine lv_iload hx hb dC_freshRun_8 (lv_at hl 0 rfl) ?_
  refine lv_iconst (v := 2) hx hb dC_freshRun_10 (by decide) ?_
  refine lv_icmp_ge  (tgt := 34) hx hb dC_freshRun_11 (by decide) (fun h => ?_) (fun h => ?_)
  · refine lv_lload hx hb dC_freshRun_34 (lv_at hl 1 rfl) ?_
    refine lv_lload_n hx hb dC_freshRun_36 rfl (lv_at hl 3 rfl) ?_
    refine lv_ladd hx hb dC_freshRun_37 ?_
    exact W.lret hx hb hr (fun t ht hW => ⟨_, rfl, rfl, ht⟩) (fun q h => by cases h) dC_freshRun_38
  · exact absurd h (by decide)
end C1
