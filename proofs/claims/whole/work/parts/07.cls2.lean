section C2
variable {l : Launch} {D : va_G} {k : ck_F} {d : ck_A} {x : cs_S} {LL : List Nat} {f : Nat → va_E} {sz : Nat}
def zNear (v lo hi : Int32) : Int32 := if lo < (if v < hi then v else hi) then (if v < hi then v else hi) else lo
set_option maxHeartbeats 4000000 in
set_option maxRecDepth 100000 in
theorem c_nearest (v lo hi : Int32) : Met l yC_nearest (wz yC_nearest bC_nearest 3 (some .int)) (rmL 1 0 0) (fun q _ => q = ([.int v, .int lo, .int hi] : List Value).toArray) (vp_Si (fun r => r = zNear v lo hi)) 0 0 (fun _ => False) := by
  refine gMetS (own := RX3) (by decide) rfl (Nat.le_of_ble_eq_true rfl) ?_
  intro p e s m below meth c ls hx hb hts hown hml hr hlk hl
  have hl : lv_has ls 3 [(0, _), (1, _), (2, _)] := hl
  refine lv_iload_n hx hb dC_nearest_0 rfl (lv_at hl 1 rfl) ?_
  refine lv_iload_n hx hb dC_nearest_1 rfl (lv_at hl 2 rfl) ?_
  refine lv_iload_n hx hb dC_nearest_2 rfl (lv_at hl 0 rfl) ?_
  refine va_mmin hx hb (hml.trans hl.1.symm) hown (hts _ wm_C_180) (hts _ ws_J_min) (hts _ wn_J) (hts _ wc_J_min) (Nat.le_of_ble_eq_true rfl) (Nat.le_of_ble_eq_true rfl) (Nat.le_of_ble_eq_true rfl) (Nat.le_of_ble_eq_true rfl) dC_nearest_3 ?_
  refine va_mmax hx hb (hml.trans hl.1.symm) hown (hts _ wm_C_160) (hts _ ws_J_max) (hts _ wn_J) (hts _ wc_J_max) (Nat.le_of_ble_eq_true rfl) (Nat.le_of_ble_eq_true rfl) (Nat.le_of_ble_eq_true rfl) (Nat.le_of_ble_eq_true rfl) dC_nearest_6 ?_
  exact W.zret hx hb hr rfl (fun t ht hW => ⟨_, rfl, rfl, ht⟩) (fun q h => by cases h) dC_nearest_9
def zGive (x : cs_S) (i j : Nat) : Int64 := os (wEd (gW x i)) (rIn (gR x j)) + (tQu (gT x (wTo (gW x i)))).toInt64 * (wFi (gW x i)).toInt64
set_option maxHeartbeats 4000000 in
set_option maxRecDepth 100000 in
theorem c_whatItGives (hI : cJ k (d, x) LL f) {i j : Nat} (hi : i < nW x) (hj : j < nR x) : Met l yC_whatItGives (wz yC_whatItGives bC_whatItGives 4 (some .long)) (rmL 1 0 0) (gP D (ck_tys k) LL f sz [.ref (aWo d i), .ref (aRq d j)]) (vp_Sl (fun r => r = zGive x i j)) 0 0 (fun _ => False) := by
  refine gMetR (own := RX3) (u := (d, x)) (by decide) rfl hI (Nat.le_of_ble_eq_true rfl) ?_
  intro p e s m below meth c ls hC hr hlk hH hl
  have ht := ((cG.ok hH).2.1 i hi).1
  have hx := hC.1
  have hb := hC.2.1
  have hml := hC.2.2.2.2.2
  have hts := hC.2.2.1
  have hown := hC.2.2.2.1
  have hl : lv_has ls 4 [(0, _), (1, _)] := hl
  first | refine lv_aload_n hx hb dC_whatItGives_0 rfl (lv_at hl 0 rfl) ?_ | refine lv_aload_nN hx hb dC_whatItGives_0 rfl (lv_at hl 0 rfl) ?_
  refine gC_W_tool hC hH (by assumption) dC_whatItGives_1 ?_
  refine gC_T_quirk hC hH (by assumption) dC_whatItGives_4 ?_
  refine lv_i2l hx hb dC_whatItGives_7 rfl ?_
  first | refine lv_aload_n hx hb dC_whatItGives_8 rfl (lv_at hl 0 rfl) ?_ | refine lv_aload_nN hx hb dC_whatItGives_8 rfl (lv_at hl 0 rfl) ?_
  refine gC_W_finished hC hH (by assumption) dC_whatItGives_9 ?_
  refine lv_i2l hx hb dC_whatItGives_12 rfl ?_
  refine lv_lmul hx hb dC_whatItGives_13 ?_
  refine lv_lstore_n hx hb dC_whatItGives_14 rfl hl (by decide) rfl (fun ls hl => ?_)
  have hl : lv_has ls 4 [(2, _), (0, _), (1, _)] := hl
  first | refine lv_aload_n hx hb dC_whatItGives_15 rfl (lv_at hl 1 rfl) ?_ | refine lv_aload_nN hx hb dC_whatItGives_15 rfl (lv_at hl 1 rfl) ?_
  refine gC_W_edition hC hH (by assumption) dC_whatItGives_16 ?_
  first | refine lv_aload_n hx hb dC_whatItGives_19 rfl (lv_at hl 2 rfl) ?_ | refine lv_aload_nN hx hb dC_whatItGives_19 rfl (lv_at hl 2 rfl) ?_
  refine gC_R_input hC hH (by assumption) dC_whatItGives_20 ?_
  refine gcTl hC.fix hl.1 (c_freshRun _ _) kC_141 ⟨Nat.le_of_ble_eq_true rfl, Nat.le_of_ble_eq_true rfl⟩ dC_whatItGives_23 ⟨Nat.le_of_ble_eq_true rfl, Nat.le_of_ble_eq_true rfl⟩ rfl (Nat.le_of_ble_eq_true rfl) (fun r hr1 => ?_)
  refine lv_lload_n hx hb dC_whatItGives_26 rfl (lv_at hl 0 rfl) ?_
  refine lv_ladd hx hb dC_whatItGives_27 ?_
  subst hr1
  exact grSl hC hr hlk rfl dC_whatItGives_28
set_option maxHeartbeats 4000000 in
set_option maxRecDepth 100000 in
theorem c_toolAt (hI : cJ k (d, x) LL f) (v : Int32) : Met l yC_toolAt (wz yC_toolAt bC_toolAt 2 (some (.object "WorkerRows$Tool"))) (rmL 0 0 0) (gP D (ck_tys k) LL f sz [.ref (kO k), .int v]) (va_Sq (fun r => (∃ i : Nat, i < nT x ∧ v = nI i ∧ r = some (aTo d i)) ∨ ((∀ i : Nat, i < nT x → v ≠ nI i) ∧ r = none))) 0 0 (fun _ => False) := by
  refine gMetR (own := RX3) (u := (d, x)) (by decide) rfl hI (Nat.le_of_ble_eq_true rfl) ?_
  intro p e s m below meth c ls hC hr hlk hH hl
  have hn := (cG.ok hH).1.1
  have hx := hC.1
  have hb := hC.2.1
  have hml := hC.2.2.2.2.2
  have hts := hC.2.2.1
  have hown := hC.2.2.2.1
  have hl : lv_has ls 2 [(0, _), (1, _)] := hl
  refine lv_iload_n hx hb dC_toolAt_0 rfl (lv_at hl 1 rfl) ?_
  refine lv_if_lt  (tgt := 13) hx hb dC_toolAt_1 (by decide) (fun h => ?_) (fun h => ?_)
  · refine lv_null hx hb dC_toolAt_13 ?_
    refine lv_goto (tgt := 23) hx hb dC_toolAt_14 (by decide) ?_
    exact grSq (v := none) hC hr hlk (Or.inr ⟨fun i hi q => nI_pos (n := i) (by omega) (q ▸ h), rfl⟩) dC_toolAt_23
  · refine lv_iload_n hx hb dC_toolAt_4 rfl (lv_at hl 1 rfl) ?_
    first | refine lv_aload_n hx hb dC_toolAt_5 rfl (lv_at hl 0 rfl) ?_ | refine lv_aload_nN hx hb dC_toolAt_5 rfl (lv_at hl 0 rfl) ?_
    refine gC_C_tools hC hH dC_toolAt_6 ?_
    first | refine lC_T hC hH dC_toolAt_9 ?_ | refine lC_W hC hH dC_toolAt_9 ?_ | refine lC_R hC hH dC_toolAt_9 ?_
    refine lv_icmp_lt  (tgt := 17) hx hb dC_toolAt_10 (by decide) (fun h2 => ?_) (fun h2 => ?_)
    · first | refine lv_aload_n hx hb dC_toolAt_17 rfl (lv_at hl 0 rfl) ?_ | refine lv_aload_nN hx hb dC_toolAt_17 rfl (lv_at hl 0 rfl) ?_
      refine gC_C_tools hC hH dC_toolAt_18 ?_
      refine lv_iload_n hx hb dC_toolAt_21 rfl (lv_at hl 1 rfl) ?_
      obtain ⟨i, hi, rfl⟩ : ∃ i : Nat, i < 6 ∧ v = nI i := by
        rcases pk_ix v (n := 6) (by decide) with q | q | q
        · exact absurd q h
        · exact absurd h2 (Int32.not_lt.mpr q)
        · exact q
      by_cases hi2 : i < nT x
      · refine aC_T hC hH hi2 rfl dC_toolAt_22 ?_
        exact grSq (v := some (aTo d i)) hC hr hlk (Or.inl ⟨i, hi2, rfl, rfl⟩) dC_toolAt_23
      · refine aC_TN hC hH hi2 hi rfl dC_toolAt_22 ?_
        exact grSq (v := none) hC hr hlk (Or.inr ⟨fun j hj q => hi2 (by rw [(nI_eq (by omega) (by omega)).mp q]; exact hj), rfl⟩) dC_toolAt_23
    · refine lv_null hx hb dC_toolAt_13 ?_
      refine lv_goto (tgt := 23) hx hb dC_toolAt_14 (by decide) ?_
      exact grSq (v := none) hC hr hlk (Or.inr ⟨fun i hi q => h2 (by rw [q]; exact nI_lt (b := 6) (by omega) (by decide)), rfl⟩) dC_toolAt_23
set_option maxHeartbeats 4000000 in
set_option maxRecDepth 100000 in
theorem c_workerAt (hI : cJ k (d, x) LL f) (v : Int32) : Met l yC_workerAt (wz yC_workerAt bC_workerAt 2 (some (.object "WorkerRows$Worker"))) (rmL 0 0 0) (gP D (ck_tys k) LL f sz [.ref (kO k), .int v]) (va_Sq (fun r => (∃ i : Nat, i < nW x ∧ v = nI i ∧ r = some (aWo d i)) ∨ ((∀ i : Nat, i < nW x → v ≠ nI i) ∧ r = none))) 0 0 (fun _ => False) := by
  refine gMetR (own := RX3) (u := (d, x)) (by decide) rfl hI (Nat.le_of_ble_eq_true rfl) ?_
  intro p e s m below meth c ls hC hr hlk hH hl
  have hn := (cG.ok hH).1.2.1
  have hx := hC.1
  have hb := hC.2.1
  have hml := hC.2.2.2.2.2
  have hts := hC.2.2.1
  have hown := hC.2.2.2.1
  have hl : lv_has ls 2 [(0, _), (1, _)] := hl
  refine lv_iload_n hx hb dC_workerAt_0 rfl (lv_at hl 1 rfl) ?_
  refine lv_if_lt  (tgt := 13) hx hb dC_workerAt_1 (by decide) (fun h => ?_) (fun h => ?_)
  · refine lv_null hx hb dC_workerAt_13 ?_
    refine lv_goto (tgt := 23) hx hb dC_workerAt_14 (by decide) ?_
    exact grSq (v := none) hC hr hlk (Or.inr ⟨fun i hi q => nI_pos (n := i) (by omega) (q ▸ h), rfl⟩) dC_workerAt_23
  · refine lv_iload_n hx hb dC_workerAt_4 rfl (lv_at hl 1 rfl) ?_
    first | refine lv_aload_n hx hb dC_workerAt_5 rfl (lv_at hl 0 rfl) ?_ | refine lv_aload_nN hx hb dC_workerAt_5 rfl (lv_at hl 0 rfl) ?_
    refine gC_C_workers hC hH dC_workerAt_6 ?_
    first | refine lC_T hC hH dC_workerAt_9 ?_ | refine lC_W hC hH dC_workerAt_9 ?_ | refine lC_R hC hH dC_workerAt_9 ?_
    refine lv_icmp_lt  (tgt := 17) hx hb dC_workerAt_10 (by decide) (fun h2 => ?_) (fun h2 => ?_)
    · first | refine lv_aload_n hx hb dC_workerAt_17 rfl (lv_at hl 0 rfl) ?_ | refine lv_aload_nN hx hb dC_workerAt_17 rfl (lv_at hl 0 rfl) ?_
      refine gC_C_workers hC hH dC_workerAt_18 ?_
      refine lv_iload_n hx hb dC_workerAt_21 rfl (lv_at hl 1 rfl) ?_
      obtain ⟨i, hi, rfl⟩ : ∃ i : Nat, i < 60 ∧ v = nI i := by
        rcases pk_ix v (n := 60) (by decide) with q | q | q
        · exact absurd q h
        · exact absurd h2 (Int32.not_lt.mpr q)
        · exact q
      by_cases hi2 : i < nW x
      · refine aC_W hC hH hi2 rfl dC_workerAt_22 ?_
        exact grSq (v := some (aWo d i)) hC hr hlk (Or.inl ⟨i, hi2, rfl, rfl⟩) dC_workerAt_23
      · refine aC_WN hC hH hi2 hi rfl dC_workerAt_22 ?_
        exact grSq (v := none) hC hr hlk (Or.inr ⟨fun j hj q => hi2 (by rw [(nI_eq (by omega) (by omega)).mp q]; exact hj), rfl⟩) dC_workerAt_23
    · refine lv_null hx hb dC_workerAt_13 ?_
      refine lv_goto (tgt := 23) hx hb dC_workerAt_14 (by decide) ?_
      exact grSq (v := none) hC hr hlk (Or.inr ⟨fun i hi q => h2 (by rw [q]; exact nI_lt (b := 60) (by omega) (by decide)), rfl⟩) dC_workerAt_23
set_option maxHeartbeats 4000000 in
set_option maxRecDepth 100000 in
theorem c_requestAt (hI : cJ k (d, x) LL f) (v : Int32) : Met l yC_requestAt (wz yC_requestAt bC_requestAt 2 (some (.object "WorkerRows$Request"))) (rmL 0 0 0) (gP D (ck_tys k) LL f sz [.ref (kO k), .int v]) (va_Sq (fun r => (∃ i : Nat, i < nR x ∧ v = nI i ∧ r = some (aRq d i)) ∨ ((∀ i : Nat, i < nR x → v ≠ nI i) ∧ r = none))) 0 0 (fun _ => False) := by
  refine gMetR (own := RX3) (u := (d, x)) (by decide) rfl hI (Nat.le_of_ble_eq_true rfl) ?_
  intro p e s m below meth c ls hC hr hlk hH hl
  have hn := (cG.ok hH).1.2.2
  have hx := hC.1
  have hb := hC.2.1
  have hml := hC.2.2.2.2.2
  have hts := hC.2.2.1
  have hown := hC.2.2.2.1
  have hl : lv_has ls 2 [(0, _), (1, _)] := hl
  refine lv_iload_n hx hb dC_requestAt_0 rfl (lv_at hl 1 rfl) ?_
  refine lv_if_lt  (tgt := 13) hx hb dC_requestAt_1 (by decide) (fun h => ?_) (fun h => ?_)
  · refine lv_null hx hb dC_requestAt_13 ?_
    refine lv_goto (tgt := 23) hx hb dC_requestAt_14 (by decide) ?_
    exact grSq (v := none) hC hr hlk (Or.inr ⟨fun i hi q => nI_pos (n := i) (by omega) (q ▸ h), rfl⟩) dC_requestAt_23
  · refine lv_iload_n hx hb dC_requestAt_4 rfl (lv_at hl 1 rfl) ?_
    first | refine lv_aload_n hx hb dC_requestAt_5 rfl (lv_at hl 0 rfl) ?_ | refine lv_aload_nN hx hb dC_requestAt_5 rfl (lv_at hl 0 rfl) ?_
    refine gC_C_requests hC hH dC_requestAt_6 ?_
    first | refine lC_T hC hH dC_requestAt_9 ?_ | refine lC_W hC hH dC_requestAt_9 ?_ | refine lC_R hC hH dC_requestAt_9 ?_
    refine lv_icmp_lt  (tgt := 17) hx hb dC_requestAt_10 (by decide) (fun h2 => ?_) (fun h2 => ?_)
    · first | refine lv_aload_n hx hb dC_requestAt_17 rfl (lv_at hl 0 rfl) ?_ | refine lv_aload_nN hx hb dC_requestAt_17 rfl (lv_at hl 0 rfl) ?_
      refine gC_C_requests hC hH dC_requestAt_18 ?_
      refine lv_iload_n hx hb dC_requestAt_21 rfl (lv_at hl 1 rfl) ?_
      obtain ⟨i, hi, rfl⟩ : ∃ i : Nat, i < 100 ∧ v = nI i := by
        rcases pk_ix v (n := 100) (by decide) with q | q | q
        · exact absurd q h
        · exact absurd h2 (Int32.not_lt.mpr q)
        · exact q
      by_cases hi2 : i < nR x
      · refine aC_R hC hH hi2 rfl dC_requestAt_22 ?_
        exact grSq (v := some (aRq d i)) hC hr hlk (Or.inl ⟨i, hi2, rfl, rfl⟩) dC_requestAt_23
      · refine aC_RN hC hH hi2 hi rfl dC_requestAt_22 ?_
        exact grSq (v := none) hC hr hlk (Or.inr ⟨fun j hj q => hi2 (by rw [(nI_eq (by omega) (by omega)).mp q]; exact hj), rfl⟩) dC_requestAt_23
    · refine lv_null hx hb dC_requestAt_13 ?_
      refine lv_goto (tgt := 23) hx hb dC_requestAt_14 (by decide) ?_
      exact grSq (v := none) hC hr hlk (Or.inr ⟨fun i hi q => h2 (by rw [q]; exact nI_lt (b := 100) (by omega) (by decide)), rfl⟩) dC_requestAt_23
set_option maxHeartbeats 4000000 in
set_option maxRecDepth 100000 in
theorem c_becomeCancelled (hI : cJ k (d, x) LL f) {j : Nat} (hj : j < nR x) : Met l yC_becomeCancelled (wz yC_becomeCancelled bC_becomeCancelled 1 none) (rmL 0 0 0) (gP D (ck_tys k) LL f sz [.ref (aRq d j)]) (va_Qv (fun u => u = (d, sR x j (qCan (gR x j)))) (gB D (ck_tys k) (cJ k) (va_A (va_pl LL f) sz)) (va_A (va_pl LL f) sz)) 0 0 (va_A (va_pl LL f) sz) := by
  refine gMet (own := RX3) (u := (d, x)) (Qc := fun A => va_Qv (fun u => u = (d, sR x j (qCan (gR x j)))) (gB D (ck_tys k) (cJ k) A) A) (by decide) rfl hI (Nat.le_of_ble_eq_true rfl) ?_
  intro p e s m below meth c ls A hC hr hlk hnm hA hH hl
  have hx := hC.1
  have hb := hC.2.1
  have hml := hC.2.2.2.2.2
  have hts := hC.2.2.1
  have hown := hC.2.2.2.1
  have hl : lv_has ls 1 [(0, _)] := hl
  first | refine lv_aload_n hx hb dC_becomeCancelled_0 rfl (lv_at hl 0 rfl) ?_ | refine lv_aload_nN hx hb dC_becomeCancelled_0 rfl (lv_at hl 0 rfl) ?_
  refine lv_iconst (v := 3) hx hb dC_becomeCancelled_1 (by decide) ?_
  refine pC_R_state hC hH (by assumption) dC_becomeCancelled_2 (fun H locs hH => ?_)
  first | refine lv_aload_n hx hb dC_becomeCancelled_5 rfl (lv_at hl 0 rfl) ?_ | refine lv_aload_nN hx hb dC_becomeCancelled_5 rfl (lv_at hl 0 rfl) ?_
  refine lv_null hx hb dC_becomeCancelled_6 ?_
  first | refine pC_R_workerN hC hH (by assumption) dC_becomeCancelled_7 (fun H locs hH => ?_) | refine pC_R_workerR hC hH (by assumption) (by assumption) dC_becomeCancelled_7 (fun H locs hH => ?_)
  first | refine lv_aload_n hx hb dC_becomeCancelled_10 rfl (lv_at hl 0 rfl) ?_ | refine lv_aload_nN hx hb dC_becomeCancelled_10 rfl (lv_at hl 0 rfl) ?_
  refine lv_iconst (v := 0) hx hb dC_becomeCancelled_11 (by decide) ?_
  first | refine pC_R_unwanted0 hC hH (by assumption) dC_becomeCancelled_12 (fun H locs hH => ?_) | refine pC_R_unwanted1 hC hH (by assumption) dC_becomeCancelled_12 (fun H locs hH => ?_)
  exact grWv hC hr hlk hH (by simp only [sR_sR, gR_self, qCan]) dC_becomeCancelled_15
set_option maxHeartbeats 4000000 in
set_option maxRecDepth 100000 in
theorem c_waitAgain (hI : cJ k (d, x) LL f) {j : Nat} (hj : j < nR x) : Met l yC_waitAgain (wz yC_waitAgain bC_waitAgain 1 none) (rmL 1 0 0) (gP D (ck_tys k) LL f sz [.ref (aRq d j)]) (va_Qv (fun u => u = (d, sR x j (qWait (gR x j)))) (gB D (ck_tys k) (cJ k) (va_A (va_pl LL f) sz)) (va_A (va_pl LL f) sz)) 0 0 (va_A (va_pl LL f) sz) := by
  refine gMet (own := RX3) (u := (d, x)) (Qc := fun A => va_Qv (fun u => u = (d, sR x j (qWait (gR x j)))) (gB D (ck_tys k) (cJ k) A) A) (by decide) rfl hI (Nat.le_of_ble_eq_true rfl) ?_
  intro p e s m below meth c ls A hC hr hlk hnm hA hH hl
  have hx := hC.1
  have hb := hC.2.1
  have hml := hC.2.2.2.2.2
  have hts := hC.2.2.1
  have hown := hC.2.2.2.1
  have hl : lv_has ls 1 [(0, _)] := hl
  first | refine lv_aload_n hx hb dC_waitAgain_0 rfl (lv_at hl 0 rfl) ?_ | refine lv_aload_nN hx hb dC_waitAgain_0 rfl (lv_at hl 0 rfl) ?_
  refine gC_R_unwanted hC hH (by assumption) dC_waitAgain_1 ?_
  refine lv_if_eq  (tgt := 12) hx hb dC_waitAgain_4 (by decide) (fun h => ?_) (fun h => ?_)
  · first | refine lv_aload_n hx hb dC_waitAgain_12 rfl (lv_at hl 0 rfl) ?_ | refine lv_aload_nN hx hb dC_waitAgain_12 rfl (lv_at hl 0 rfl) ?_
    refine lv_iconst (v := 0) hx hb dC_waitAgain_13 (by decide) ?_
    refine pC_R_state hC hH (by assumption) dC_waitAgain_14 (fun H locs hH => ?_)
    first | refine lv_aload_n hx hb dC_waitAgain_17 rfl (lv_at hl 0 rfl) ?_ | refine lv_aload_nN hx hb dC_waitAgain_17 rfl (lv_at hl 0 rfl) ?_
    refine lv_null hx hb dC_waitAgain_18 ?_
    first | refine pC_R_workerN hC hH (by assumption) dC_waitAgain_19 (fun H locs hH => ?_) | refine pC_R_workerR hC hH (by assumption) (by assumption) dC_waitAgain_19 (fun H locs hH => ?_)
    exact grWv hC hr hlk hH (by simp only [sR_sR, gR_self, qWait, bI_0.mp h]; rfl) dC_waitAgain_22
  · first | refine lv_aload_n hx hb dC_waitAgain_7 rfl (lv_at hl 0 rfl) ?_ | refine lv_aload_nN hx hb dC_waitAgain_7 rfl (lv_at hl 0 rfl) ?_
    refine gcWSv hC hl.1 hA hH (fun LL f sz hI => c_becomeCancelled hI hj) kC_88 ⟨Nat.le_of_ble_eq_true rfl, Nat.le_of_ble_eq_true rfl⟩ dC_waitAgain_8 ⟨Nat.le_of_ble_eq_true rfl, Nat.le_of_ble_eq_true rfl⟩ rfl (Nat.le_of_ble_eq_true rfl) (fun u H locs hp hH => ?_)
    subst hp
    have h1 : rUn (gR x j) = true := by
      cases q : rUn (gR x j)
      · exact absurd (bI_0.mpr q) h
      · rfl
    exact grWv hC hr hlk hH (by simp only [qWait, h1]; rfl) dC_waitAgain_11
set_option maxHeartbeats 4000000 in
set_option maxRecDepth 100000 in
theorem c_leaveDoneR (hI : cJ k (d, x) LL f) {i j : Nat} (hi : i < nW x) (hj : j < nR x) (v : Int64) : Met l yC_leaveDone (wz yC_leaveDone bC_leaveDone 4 none) (rmL 1 0 0) (gP D (ck_tys k) LL f sz [.ref (aRq d j), .ref (aWo d i), .long v]) (va_Qv (fun u => u = (d, sR x j (qDone (gR x j) (some i) v))) (gB D (ck_tys k) (cJ k) (va_A (va_pl LL f) sz)) (va_A (va_pl LL f) sz)) 0 0 (va_A (va_pl LL f) sz) := by
  refine gMet (own := RX3) (u := (d, x)) (Qc := fun A => va_Qv (fun u => u = (d, sR x j (qDone (gR x j) (some i) v))) (gB D (ck_tys k) (cJ k) A) A) (by decide) rfl hI (Nat.le_of_ble_eq_true rfl) ?_
  intro p e s m below meth c ls A hC hr hlk hnm hA hH hl
  have hx := hC.1
  have hb := hC.2.1
  have hml := hC.2.2.2.2.2
  have hts := hC.2.2.1
  have hown := hC.2.2.2.1
  have hl : lv_has ls 4 [(0, _), (1, _), (2, _)] := hl
  first | refine lv_aload_n hx hb dC_leaveDone_0 rfl (lv_at hl 0 rfl) ?_ | refine lv_aload_nN hx hb dC_leaveDone_0 rfl (lv_at hl 0 rfl) ?_
  refine gC_R_unwanted hC hH (by assumption) dC_leaveDone_1 ?_
  refine lv_if_eq  (tgt := 12) hx hb dC_leaveDone_4 (by decide) (fun h => ?_) (fun h => ?_)
  · first | refine lv_aload_n hx hb dC_leaveDone_12 rfl (lv_at hl 0 rfl) ?_ | refine lv_aload_nN hx hb dC_leaveDone_12 rfl (lv_at hl 0 rfl) ?_
    refine lv_iconst (v := 2) hx hb dC_leaveDone_13 (by decide) ?_
    refine pC_R_state hC hH (by assumption) dC_leaveDone_14 (fun H locs hH => ?_)
    first | refine lv_aload_n hx hb dC_leaveDone_17 rfl (lv_at hl 0 rfl) ?_ | refine lv_aload_nN hx hb dC_leaveDone_17 rfl (lv_at hl 0 rfl) ?_
    first | refine lv_aload_n hx hb dC_leaveDone_18 rfl (lv_at hl 1 rfl) ?_ | refine lv_aload_nN hx hb dC_leaveDone_18 rfl (lv_at hl 1 rfl) ?_
    first | refine pC_R_workerN hC hH (by assumption) dC_leaveDone_19 (fun H locs hH => ?_) | refine pC_R_workerR hC hH (by assumption) (by assumption) dC_leaveDone_19 (fun H locs hH => ?_)
    first | refine lv_aload_n hx hb dC_leaveDone_22 rfl (lv_at hl 0 rfl) ?_ | refine lv_aload_nN hx hb dC_leaveDone_22 rfl (lv_at hl 0 rfl) ?_
    refine lv_lload_n hx hb dC_leaveDone_23 rfl (lv_at hl 2 rfl) ?_
    refine pC_R_result hC hH (by assumption) dC_leaveDone_24 (fun H locs hH => ?_)
    exact grWv hC hr hlk hH (by simp only [sR_sR, gR_self, qDone, bI_0.mp h]; rfl) dC_leaveDone_27
  · first | refine lv_aload_n hx hb dC_leaveDone_7 rfl (lv_at hl 0 rfl) ?_ | refine lv_aload_nN hx hb dC_leaveDone_7 rfl (lv_at hl 0 rfl) ?_
    refine gcWSv hC hl.1 hA hH (fun LL f sz hI => c_becomeCancelled hI hj) kC_88 ⟨Nat.le_of_ble_eq_true rfl, Nat.le_of_ble_eq_true rfl⟩ dC_leaveDone_8 ⟨Nat.le_of_ble_eq_true rfl, Nat.le_of_ble_eq_true rfl⟩ rfl (Nat.le_of_ble_eq_true rfl) (fun u H locs hp hH => ?_)
    subst hp
    have h1 : rUn (gR x j) = true := by
      cases q : rUn (gR x j)
      · exact absurd (bI_0.mpr q) h
      · rfl
    exact grWv hC hr hlk hH (by simp only [qDone, h1]; rfl) dC_leaveDone_11
set_option maxHeartbeats 4000000 in
set_option maxRecDepth 100000 in
theorem c_leaveDoneN (hI : cJ k (d, x) LL f) {j : Nat} (hj : j < nR x) (v : Int64) : Met l yC_leaveDone (wz yC_leaveDone bC_leaveDone 4 none) (rmL 1 0 0) (gP D (ck_tys k) LL f sz [.ref (aRq d j), .null, .long v]) (va_Qv (fun u => u = (d, sR x j (qDone (gR x j) none v))) (gB D (ck_tys k) (cJ k) (va_A (va_pl LL f) sz)) (va_A (va_pl LL f) sz)) 0 0 (va_A (va_pl LL f) sz) := by
  refine gMet (own := RX3) (u := (d, x)) (Qc := fun A => va_Qv (fun u => u = (d, sR x j (qDone (gR x j) none v))) (gB D (ck_tys k) (cJ k) A) A) (by decide) rfl hI (Nat.le_of_ble_eq_true rfl) ?_
  intro p e s m below meth c ls A hC hr hlk hnm hA hH hl
  have hx := hC.1
  have hb := hC.2.1
  have hml := hC.2.2.2.2.2
  have hts := hC.2.2.1
  have hown := hC.2.2.2.1
  have hl : lv_has ls 4 [(0, _), (1, _), (2, _)] := hl
  first | refine lv_aload_n hx hb dC_leaveDone_0 rfl (lv_at hl 0 rfl) ?_ | refine lv_aload_nN hx hb dC_leaveDone_0 rfl (lv_at hl 0 rfl) ?_
  refine gC_R_unwanted hC hH (by assumption) dC_leaveDone_1 ?_
  refine lv_if_eq  (tgt := 12) hx hb dC_leaveDone_4 (by decide) (fun h => ?_) (fun h => ?_)
  · first | refine lv_aload_n hx hb dC_leaveDone_12 rfl (lv_at hl 0 rfl) ?_ | refine lv_aload_nN hx hb dC_leaveDone_12 rfl (lv_at hl 0 rfl) ?_
    refine lv_iconst (v := 2) hx hb dC_leaveDone_13 (by decide) ?_
    refine pC_R_state hC hH (by assumption) dC_leaveDone_14 (fun H locs hH => ?_)
    first | refine lv_aload_n hx hb dC_leaveDone_17 rfl (lv_at hl 0 rfl) ?_ | refine lv_aload_nN hx hb dC_leaveDone_17 rfl (lv_at hl 0 rfl) ?_
    first | refine lv_aload_n hx hb dC_leaveDone_18 rfl (lv_at hl 1 rfl) ?_ | refine lv_aload_nN hx hb dC_leaveDone_18 rfl (lv_at hl 1 rfl) ?_
    first | refine pC_R_workerN hC hH (by assumption) dC_leaveDone_19 (fun H locs hH => ?_) | refine pC_R_workerR hC hH (by assumption) (by assumption) dC_leaveDone_19 (fun H locs hH => ?_)
    first | refine lv_aload_n hx hb dC_leaveDone_22 rfl (lv_at hl 0 rfl) ?_ | refine lv_aload_nN hx hb dC_leaveDone_22 rfl (lv_at hl 0 rfl) ?_
    refine lv_lload_n hx hb dC_leaveDone_23 rfl (lv_at hl 2 rfl) ?_
    refine pC_R_result hC hH (by assumption) dC_leaveDone_24 (fun H locs hH => ?_)
    exact grWv hC hr hlk hH (by simp only [sR_sR, gR_self, qDone, bI_0.mp h]; rfl) dC_leaveDone_27
  · first | refine lv_aload_n hx hb dC_leaveDone_7 rfl (lv_at hl 0 rfl) ?_ | refine lv_aload_nN hx hb dC_leaveDone_7 rfl (lv_at hl 0 rfl) ?_
    refine gcWSv hC hl.1 hA hH (fun LL f sz hI => c_becomeCancelled hI hj) kC_88 ⟨Nat.le_of_ble_eq_true rfl, Nat.le_of_ble_eq_true rfl⟩ dC_leaveDone_8 ⟨Nat.le_of_ble_eq_true rfl, Nat.le_of_ble_eq_true rfl⟩ rfl (Nat.le_of_ble_eq_true rfl) (fun u H locs hp hH => ?_)
    subst hp
    have h1 : rUn (gR x j) = true := by
      cases q : rUn (gR x j)
      · exact absurd (bI_0.mpr q) h
      · rfl
    exact grWv hC hr hlk hH (by simp only [qDone, h1]; rfl) dC_leaveDone_11
def zEndRe (x : cs_S) (i : Nat) (y : Int32) : cs_S := match wRq (gW x i) with
  | none => sW x i (wEn_ (wRq_ (gW x i) none) y)
  | some j => sR (sW x i (wEn_ (wRq_ (gW x i) none) y)) j (qWait (gR x j))
set_option maxHeartbeats 4000000 in
set_option maxRecDepth 100000 in
theorem c_endAndRequeue (hI : cJ k (d, x) LL f) {i : Nat} (hi : i < nW x) (y : Int32) : Met l yC_endAndRequeue (wz yC_endAndRequeue bC_endAndRequeue 3 none) (rmL 2 0 0) (gP D (ck_tys k) LL f sz [.ref (aWo d i), .int y]) (va_Qv (fun u => u = (d, zEndRe x i y)) (gB D (ck_tys k) (cJ k) (va_A (va_pl LL f) sz)) (va_A (va_pl LL f) sz)) 0 0 (va_A (va_pl LL f) sz) := by
  refine gMet (own := RX3) (u := (d, x)) (Qc := fun A => va_Qv (fun u => u = (d, zEndRe x i y)) (gB D (ck_tys k) (cJ k) A) A) (by decide) rfl hI (Nat.le_of_ble_eq_true rfl) ?_
  intro p e s m below meth c ls A hC hr hlk hnm hA hH hl
  have hx := hC.1
  have hb := hC.2.1
  have hml := hC.2.2.2.2.2
  have hts := hC.2.2.1
  have hown := hC.2.2.2.1
  have hl : lv_has ls 3 [(0, _), (1, _)] := hl
  first | refine lv_aload_n hx hb dC_endAndRequeue_0 rfl (lv_at hl 0 rfl) ?_ | refine lv_aload_nN hx hb dC_endAndRequeue_0 rfl (lv_at hl 0 rfl) ?_
  refine gC_W_request hC hH (by assumption) dC_endAndRequeue_1 ?_
  rcases hq : wRq (gW x i) with _ | j
  · first | refine lv_astore_n hx hb dC_endAndRequeue_4 rfl hl (by decide) rfl (fun ls hl => ?_) | refine lv_astore_nN hx hb dC_endAndRequeue_4 rfl hl (by decide) rfl (fun ls hl => ?_)
    have hl : lv_has ls 3 [(2, _), (0, _), (1, _)] := hl
    first | refine lv_aload_n hx hb dC_endAndRequeue_5 rfl (lv_at hl 1 rfl) ?_ | refine lv_aload_nN hx hb dC_endAndRequeue_5 rfl (lv_at hl 1 rfl) ?_
    refine lv_null hx hb dC_endAndRequeue_6 ?_
    first | refine pC_W_requestN hC hH (by assumption) dC_endAndRequeue_7 (fun H locs hH => ?_) | refine pC_W_requestR hC hH (by assumption) (by assumption) dC_endAndRequeue_7 (fun H locs hH => ?_)
    first | refine lv_aload_n hx hb dC_endAndRequeue_10 rfl (lv_at hl 1 rfl) ?_ | refine lv_aload_nN hx hb dC_endAndRequeue_10 rfl (lv_at hl 1 rfl) ?_
    refine lv_iload_n hx hb dC_endAndRequeue_11 rfl (lv_at hl 2 rfl) ?_
    refine pC_W_endedBy hC hH (by assumption) dC_endAndRequeue_12 (fun H locs hH => ?_)
    first | refine lv_aload_n hx hb dC_endAndRequeue_15 rfl (lv_at hl 0 rfl) ?_ | refine lv_aload_nN hx hb dC_endAndRequeue_15 rfl (lv_at hl 0 rfl) ?_
    first | refine lv_ifnull hx hb dC_endAndRequeue_16 ?_ | refine lv_ifnullN (tgt := 23) hx hb dC_endAndRequeue_16 (by decide) ?_
    exact grWv hC hr hlk hH (by simp only [sW_sW, gW_self, zEndRe, hq]) dC_endAndRequeue_23
  · have hj := ((cG.ok hH).2.1 i hi).2 j hq
    first | refine lv_astore_n hx hb dC_endAndRequeue_4 rfl hl (by decide) rfl (fun ls hl => ?_) | refine lv_astore_nN hx hb dC_endAndRequeue_4 rfl hl (by decide) rfl (fun ls hl => ?_)
    have hl : lv_has ls 3 [(2, _), (0, _), (1, _)] := hl
    first | refine lv_aload_n hx hb dC_endAndRequeue_5 rfl (lv_at hl 1 rfl) ?_ | refine lv_aload_nN hx hb dC_endAndRequeue_5 rfl (lv_at hl 1 rfl) ?_
    refine lv_null hx hb dC_endAndRequeue_6 ?_
    first | refine pC_W_requestN hC hH (by assumption) dC_endAndRequeue_7 (fun H locs hH => ?_) | refine pC_W_requestR hC hH (by assumption) (by assumption) dC_endAndRequeue_7 (fun H locs hH => ?_)
    first | refine lv_aload_n hx hb dC_endAndRequeue_10 rfl (lv_at hl 1 rfl) ?_ | refine lv_aload_nN hx hb dC_endAndRequeue_10 rfl (lv_at hl 1 rfl) ?_
    refine lv_iload_n hx hb dC_endAndRequeue_11 rfl (lv_at hl 2 rfl) ?_
    refine pC_W_endedBy hC hH (by assumption) dC_endAndRequeue_12 (fun H locs hH => ?_)
    first | refine lv_aload_n hx hb dC_endAndRequeue_15 rfl (lv_at hl 0 rfl) ?_ | refine lv_aload_nN hx hb dC_endAndRequeue_15 rfl (lv_at hl 0 rfl) ?_
    first | refine lv_ifnull hx hb dC_endAndRequeue_16 ?_ | refine lv_ifnullN (tgt := 23) hx hb dC_endAndRequeue_16 (by decide) ?_
    first | refine lv_aload_n hx hb dC_endAndRequeue_19 rfl (lv_at hl 0 rfl) ?_ | refine lv_aload_nN hx hb dC_endAndRequeue_19 rfl (lv_at hl 0 rfl) ?_
    refine gcWSv hC hl.1 hA hH (fun LL f sz hI => c_waitAgain (j := j) hI hj) kC_207 ⟨Nat.le_of_ble_eq_true rfl, Nat.le_of_ble_eq_true rfl⟩ dC_endAndRequeue_20 ⟨Nat.le_of_ble_eq_true rfl, Nat.le_of_ble_eq_true rfl⟩ rfl (Nat.le_of_ble_eq_true rfl) (fun u H locs hp hH => ?_)
    subst hp
    exact grWv hC hr hlk hH (by simp only [sW_sW, gW_self, zEndRe, hq]) dC_endAndRequeue_23
def zBegin (x : cs_S) (j i : Nat) : cs_S := sR (sW x i (wRq_ (gW x i) (some j))) j (rBe_ (rSt_ (rWk_ (gR x j) (some i)) 1) (rBe (gR x j) + 1))
set_option maxHeartbeats 4000000 in
set_option maxRecDepth 100000 in
theorem c_beginWith (hI : cJ k (d, x) LL f) {i j : Nat} (hi : i < nW x) (hj : j < nR x) : Met l yC_beginWith (wz yC_beginWith bC_beginWith 2 none) (rmL 0 0 0) (gP D (ck_tys k) LL f sz [.ref (aRq d j), .ref (aWo d i)]) (va_Qv (fun u => u = (d, zBegin x j i)) (gB D (ck_tys k) (cJ k) (va_A (va_pl LL f) sz)) (va_A (va_pl LL f) sz)) 0 0 (va_A (va_pl LL f) sz) := by
  refine gMet (own := RX3) (u := (d, x)) (Qc := fun A => va_Qv (fun u => u = (d, zBegin x j i)) (gB D (ck_tys k) (cJ k) A) A) (by decide) rfl hI (Nat.le_of_ble_eq_true rfl) ?_
  intro p e s m below meth c ls A hC hr hlk hnm hA hH hl
  have hx := hC.1
  have hb := hC.2.1
  have hml := hC.2.2.2.2.2
  have hts := hC.2.2.1
  have hown := hC.2.2.2.1
  have hl : lv_has ls 2 [(0, _), (1, _)] := hl
  first | refine lv_aload_n hx hb dC_beginWith_0 rfl (lv_at hl 1 rfl) ?_ | refine lv_aload_nN hx hb dC_beginWith_0 rfl (lv_at hl 1 rfl) ?_
  first | refine lv_aload_n hx hb dC_beginWith_1 rfl (lv_at hl 0 rfl) ?_ | refine lv_aload_nN hx hb dC_beginWith_1 rfl (lv_at hl 0 rfl) ?_
  first | refine pC_W_requestN hC hH (by assumption) dC_beginWith_2 (fun H locs hH => ?_) | refine pC_W_requestR hC hH (by assumption) (by assumption) dC_beginWith_2 (fun H locs hH => ?_)
  first | refine lv_aload_n hx hb dC_beginWith_5 rfl (lv_at hl 0 rfl) ?_ | refine lv_aload_nN hx hb dC_beginWith_5 rfl (lv_at hl 0 rfl) ?_
  first | refine lv_aload_n hx hb dC_beginWith_6 rfl (lv_at hl 1 rfl) ?_ | refine lv_aload_nN hx hb dC_beginWith_6 rfl (lv_at hl 1 rfl) ?_
  first | refine pC_R_workerN hC hH (by assumption) dC_beginWith_7 (fun H locs hH => ?_) | refine pC_R_workerR hC hH (by assumption) (by assumption) dC_beginWith_7 (fun H locs hH => ?_)
  first | refine lv_aload_n hx hb dC_beginWith_10 rfl (lv_at hl 0 rfl) ?_ | refine lv_aload_nN hx hb dC_beginWith_10 rfl (lv_at hl 0 rfl) ?_
  refine lv_iconst (v := 1) hx hb dC_beginWith_11 (by decide) ?_
  refine pC_R_state hC hH (by assumption) dC_beginWith_12 (fun H locs hH => ?_)
  first | refine lv_aload_n hx hb dC_beginWith_15 rfl (lv_at hl 0 rfl) ?_ | refine lv_aload_nN hx hb dC_beginWith_15 rfl (lv_at hl 0 rfl) ?_
  refine lv_dup hx hb dC_beginWith_16 rfl ?_
  refine gC_R_begun hC hH (by assumption) dC_beginWith_17 ?_
  refine lv_iconst (v := 1) hx hb dC_beginWith_20 (by decide) ?_
  refine lv_iadd hx hb dC_beginWith_21 ?_
  refine pC_R_begun hC hH (by assumption) dC_beginWith_22 (fun H locs hH => ?_)
  exact grWv hC hr hlk hH (by simp only [sR_sR, gR_self, zBegin]) dC_beginWith_25
end C2
