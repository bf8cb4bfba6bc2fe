section C4
variable {l : Launch} {D : va_G} {k : ck_F} {d : ck_A} {x : cs_S} {LL : List Nat} {f : Nat → va_E} {sz : Nat}
def zTool (x : cs_S) (ed : Int64) (qu : Int32) : cs_S × Int32 := if nT x < 6 then (aT x (ed, qu, 0), nI (nT x)) else (x, -1)
def zReq (x : cs_S) (v : Int32) (inp : Int64) (z : Int32) : cs_S × Int32 := match lk (nT x) v with
  | none => (x, -1)
  | some t => if nR x < 100 ∧ ¬ z < 0 ∧ z ≤ 1000 then (aR x (t, inp, z, 0, 0, false, false, 0, none, 0), nI (nR x)) else (x, -1)
theorem nI_lt_iff {a b : Nat} (ha : a < 1000) (hb : b < 1000) : nI a < nI b ↔ a < b := nI_ltI (by omega) (by omega)
set_option maxHeartbeats 4000000 in
set_option maxRecDepth 100000 in
theorem c_tool (hI : cJ k (d, x) LL f) (ed : Int64) (qu : Int32) : Met l yC_tool (wz yC_tool bC_tool 5 (some .int)) (rmL 2 1 4) (gP D (ck_tys k) LL f sz [.ref (kO k), .long ed, .int qu]) (va_Qi (fun (r : Int32) (u : ck_A × cs_S) => (u.2, r) = zTool x ed qu) (gB D (ck_tys k) (cJ k) (va_A (va_pl LL f) sz)) (va_A (va_pl LL f) sz)) 1 4 (va_A (va_pl LL f) sz) := by
  refine gMet (own := RX3) (u := (d, x)) (Qc := fun A => va_Qi (fun (r : Int32) (u : ck_A × cs_S) => (u.2, r) = zTool x ed qu) (gB D (ck_tys k) (cJ k) A) A) (by decide) rfl hI (Nat.le_of_ble_eq_true rfl) ?_
  intro p e s m below meth c ls A hC hr hlk hnm hA hH hl
  have hx := hC.1
  have hb := hC.2.1
  have hml := hC.2.2.2.2.2
  have hts := hC.2.2.1
  have hown := hC.2.2.2.1
  have hl : lv_has ls 5 [(0, _), (1, _), (3, _)] := hl
  have hn6 := (cG.ok hH).1.1
  first | refine lv_aload_n hx hb dC_tool_0 rfl (lv_at hl 0 rfl) ?_ | refine lv_aload_nN hx hb dC_tool_0 rfl (lv_at hl 0 rfl) ?_
  refine gC_C_toolCount hC hH dC_tool_1 ?_
  first | refine lv_aload_n hx hb dC_tool_4 rfl (lv_at hl 0 rfl) ?_ | refine lv_aload_nN hx hb dC_tool_4 rfl (lv_at hl 0 rfl) ?_
  refine gC_C_tools hC hH dC_tool_5 ?_
  first | refine lC_T hC hH dC_tool_8 ?_ | refine lC_W hC hH dC_tool_8 ?_ | refine lC_R hC hH dC_tool_8 ?_
  refine lv_icmp_lt  (tgt := 14) hx hb dC_tool_9 (by decide) (fun h => ?_) (fun h => ?_)
  · have hn : nT x < 6 := (nI_lt_iff (b := 6) (by omega) (by omega)).mp h
    refine rp_new (ci := 1) (fs := [.int 0, .long 0, .int 0, .int 0]) hC hA hH inX1 tyX1 tyX1_ok wk_C_9 wb_T wn_T rfl (fun j hj => by rcases (show j = 0 ∨ j = 1 ∨ j = 2 ∨ j = 3 by omega) with rfl | rfl | rfl | rfl <;> rfl) (Nat.le_of_ble_eq_true rfl) (Nat.le_of_ble_eq_true rfl) dC_tool_14 (fun q H LL f hI hq hN => ?_)
    have hI : cI k d x LL f := hI
    have hH : cG D k d x A s.heap H [] := gH.to hN (hI.ext hq _)
    refine lv_dup hx hb dC_tool_17 rfl ?_
    first | refine lv_aload_n hx hb dC_tool_18 rfl (lv_at hl 0 rfl) ?_ | refine lv_aload_nN hx hb dC_tool_18 rfl (lv_at hl 0 rfl) ?_
    refine gC_C_toolCount hC hH dC_tool_19 ?_
    refine lv_lload_n hx hb dC_tool_22 rfl (lv_at hl 1 rfl) ?_
    refine lv_iload_n hx hb dC_tool_23 rfl (lv_at hl 2 rfl) ?_
    refine gcWI hC hl.1 hA hN (fun L2 f2 sz h2 => c_Tinit h2 (List.mem_append_right _ (List.mem_singleton.mpr rfl)) (va_up_self _ _ _) _ _ _) kC_45 ⟨Nat.le_of_ble_eq_true rfl, Nat.le_of_ble_eq_true rfl⟩ dC_tool_24 ⟨Nat.le_of_ble_eq_true rfl, Nat.le_of_ble_eq_true rfl⟩ rfl (Nat.le_of_ble_eq_true rfl) (fun g H locs hg hN => ?_)
    subst hg
    rw [bx_uu] at hN
    have e1 := (hI.ext hq (.inr (1, [.int (nI (nT x)), .long ed, .int qu, .int 0])))
    have hH : cG D k d x A s.heap H locs := gH.to hN e1
    first | refine lv_astore hx hb dC_tool_27 hl (by decide) rfl (fun ls hl => ?_) | refine lv_astoreN hx hb dC_tool_27 hl (by decide) rfl (fun ls hl => ?_)
    have hl : lv_has ls 5 [(4, _), (0, _), (1, _), (3, _)] := hl
    first | refine lv_aload_n hx hb dC_tool_29 rfl (lv_at hl 1 rfl) ?_ | refine lv_aload_nN hx hb dC_tool_29 rfl (lv_at hl 1 rfl) ?_
    refine gC_C_tools hC hH dC_tool_30 ?_
    first | refine lv_aload_n hx hb dC_tool_33 rfl (lv_at hl 1 rfl) ?_ | refine lv_aload_nN hx hb dC_tool_33 rfl (lv_at hl 1 rfl) ?_
    refine gC_C_toolCount hC hH dC_tool_34 ?_
    first | refine lv_aload hx hb dC_tool_37 (lv_at hl 0 rfl) ?_ | refine lv_aloadN hx hb dC_tool_37 (lv_at hl 0 rfl) ?_
    refine rp_astq hC hN 0 1 e1.2.2.1.1 e1.2.2.1.2 rfl (List.mem_append_right _ (List.mem_singleton.mpr rfl)) (va_up_self _ _ _) rfl hn (by decide) dC_tool_39 (fun H locs hN => ?_)
    have hne : kO k ≠ kTs k := fun z => by have h1 := hI.2.1.2; rw [z, hI.2.2.1.2] at h1; cases h1
    have hq2 : kO k ≠ q := fun z => hq (z ▸ hI.2.1.1)
    first | refine lv_aload_n hx hb dC_tool_40 rfl (lv_at hl 1 rfl) ?_ | refine lv_aload_nN hx hb dC_tool_40 rfl (lv_at hl 1 rfl) ?_
    refine lv_dup hx hb dC_tool_41 rfl ?_
    refine rp_get hC hN inX3 e1.2.1.1 (by rw [va_up_ne _ _ hne, va_up_ne _ _ hq2]; exact hI.2.1.2) rfl 7 (by decide) wf_C_42 rfl dC_tool_42 ?_
    refine lv_iconst (v := 1) hx hb dC_tool_45 (by decide) ?_
    refine lv_iadd hx hb dC_tool_46 ?_
    refine rp_put hC hN inX3 tyX3 tyX3_ok nmX3 e1.2.1.1 (by rw [va_up_ne _ _ hne, va_up_ne _ _ hq2]; exact hI.2.1.2) rfl 7 (by decide) wf_C_42 rfl rfl rfl (Nat.le_of_ble_eq_true rfl) dC_tool_47 (fun H locs hN => ?_)
    rw [nI_1] at hN
    have hz := hI.pushT hq hn (ed, qu, 0)
    have hH : cG D k (va_up (aTo d) (nT x) q, aWo d, aRq d) (aT x (ed, qu, 0)) A s.heap H locs := gH.to hN hz
    first | refine lv_aload hx hb dC_tool_50 (lv_at hl 0 rfl) ?_ | refine lv_aloadN hx hb dC_tool_50 (lv_at hl 0 rfl) ?_
    refine rp_get hC hN inX1 (List.mem_append_right _ (List.mem_singleton.mpr rfl)) (up3q (fun z => hq (z ▸ hI.2.2.1.1)) (fun z => hq2 z.symm)) rfl 0 (by decide) wf_C_48 rfl dC_tool_52 ?_
    exact grWi hC hr hlk rfl hH (by rw [zTool, if_pos hn]) dC_tool_55
  · have hn : ¬ nT x < 6 := fun z => h (nI_lt (b := 6) z (by decide))
    refine lv_iconst (v := -1) hx hb dC_tool_12 (by decide) ?_
    refine W.widen (k := 1) (n := 4) (by decide) (by decide) ?_
    exact grWi hC hr hlk rfl hH (by rw [zTool, if_neg hn]) dC_tool_13
set_option maxHeartbeats 4000000 in
set_option maxRecDepth 100000 in
theorem c_startWorker (hI : cJ k (d, x) LL f) {t : Nat} (ht : t < nT x) : Met l yC_startWorker (wz yC_startWorker bC_startWorker 3 (some (.object "WorkerRows$Worker"))) (rmL 2 1 9) (gP D (ck_tys k) LL f sz [.ref (kO k), .ref (aTo d t)]) (va_Qq (fun (r : Option Nat) (u : ck_A × cs_S) => ((nW x < 60 ∧ cst x t 60 < cMo x) ∧ ∃ q : Nat, u = ((aTo d, va_up (aWo d) (nW x) q, aRq d), aW x (t, tEd (gT x t), 0, 0, 0, 0, 0, none)) ∧ r = some q) ∨ (¬ (nW x < 60 ∧ cst x t 60 < cMo x) ∧ u = (d, x) ∧ r = none)) (gB D (ck_tys k) (cJ k) (va_A (va_pl LL f) sz)) (va_A (va_pl LL f) sz)) 1 9 (va_A (va_pl LL f) sz) := by
  refine gMet (own := RX3) (u := (d, x)) (Qc := fun A => va_Qq (fun (r : Option Nat) (u : ck_A × cs_S) => ((nW x < 60 ∧ cst x t 60 < cMo x) ∧ ∃ q : Nat, u = ((aTo d, va_up (aWo d) (nW x) q, aRq d), aW x (t, tEd (gT x t), 0, 0, 0, 0, 0, none)) ∧ r = some q) ∨ (¬ (nW x < 60 ∧ cst x t 60 < cMo x) ∧ u = (d, x) ∧ r = none)) (gB D (ck_tys k) (cJ k) A) A) (by decide) rfl hI (Nat.le_of_ble_eq_true rfl) ?_
  intro p e s m below meth c ls A hC hr hlk hnm hA hH hl
  have hx := hC.1
  have hb := hC.2.1
  have hml := hC.2.2.2.2.2
  have hts := hC.2.2.1
  have hown := hC.2.2.2.1
  have hl : lv_has ls 3 [(0, _), (1, _)] := hl
  have hn60 := (cG.ok hH).1.2.1
  first | refine lv_aload_n hx hb dC_startWorker_0 rfl (lv_at hl 0 rfl) ?_ | refine lv_aload_nN hx hb dC_startWorker_0 rfl (lv_at hl 0 rfl) ?_
  refine gC_C_workerCount hC hH dC_startWorker_1 ?_
  first | refine lv_aload_n hx hb dC_startWorker_4 rfl (lv_at hl 0 rfl) ?_ | refine lv_aload_nN hx hb dC_startWorker_4 rfl (lv_at hl 0 rfl) ?_
  refine gC_C_workers hC hH dC_startWorker_5 ?_
  first | refine lC_T hC hH dC_startWorker_8 ?_ | refine lC_W hC hH dC_startWorker_8 ?_ | refine lC_R hC hH dC_startWorker_8 ?_
  refine lv_icmp_ge  (tgt := 24) hx hb dC_startWorker_9 (by decide) (fun h => ?_) (fun h => ?_)
  · have hn : ¬ nW x < 60 := fun z => nI_ge (b := 60) z (by decide) h
    refine lv_null hx hb dC_startWorker_24 ?_
    refine W.widen (k := 1) (n := 9) (by decide) (by decide) ?_
    exact grWq (v := none) hC hr hlk hH (Or.inr ⟨fun z => hn z.1, rfl, rfl⟩) dC_startWorker_25
  · have hn : nW x < 60 := Nat.lt_of_not_le (fun z => h (nI_le (a := 60) z (by omega)))
    first | refine lv_aload_n hx hb dC_startWorker_12 rfl (lv_at hl 0 rfl) ?_ | refine lv_aload_nN hx hb dC_startWorker_12 rfl (lv_at hl 0 rfl) ?_
    first | refine lv_aload_n hx hb dC_startWorker_13 rfl (lv_at hl 1 rfl) ?_ | refine lv_aload_nN hx hb dC_startWorker_13 rfl (lv_at hl 1 rfl) ?_
    refine gcVi hC hl.1 hH (fun LL f sz hI => c_countStaying hI ht) cJ.o rfl rfl kC_200 ⟨Nat.le_of_ble_eq_true rfl, Nat.le_of_ble_eq_true rfl⟩ dC_startWorker_14 ⟨Nat.le_of_ble_eq_true rfl, Nat.le_of_ble_eq_true rfl⟩ rfl (Nat.le_of_ble_eq_true rfl) (fun r hr1 => ?_)
    subst hr1
    first | refine lv_aload_n hx hb dC_startWorker_17 rfl (lv_at hl 0 rfl) ?_ | refine lv_aload_nN hx hb dC_startWorker_17 rfl (lv_at hl 0 rfl) ?_
    refine gC_C_most hC hH dC_startWorker_18 ?_
    refine lv_icmp_lt  (tgt := 26) hx hb dC_startWorker_21 (by decide) (fun h2 => ?_) (fun h2 => ?_)
    · refine rp_new (ci := 2) (fs := [.int 0, .null, .long 0, .int 0, .int 0, .int 0, .int 0, .int 0, .null]) hC hA hH inX2 tyX2 tyX2_ok wk_C_15 wb_W wn_W rfl (fun j hj => by rcases (show j = 0 ∨ j = 1 ∨ j = 2 ∨ j = 3 ∨ j = 4 ∨ j = 5 ∨ j = 6 ∨ j = 7 ∨ j = 8 by omega) with rfl | rfl | rfl | rfl | rfl | rfl | rfl | rfl | rfl <;> rfl) (Nat.le_of_ble_eq_true rfl) (Nat.le_of_ble_eq_true rfl) dC_startWorker_26 (fun q H LL f hI hq hN => ?_)
      have hI : cI k d x LL f := hI
      have e0 := hI.ext hq (.inr (2, [.int 0, .null, .long 0, .int 0, .int 0, .int 0, .int 0, .int 0, .null]))
      have hH : cG D k d x A s.heap H [] := gH.to hN e0
      refine lv_dup hx hb dC_startWorker_29 rfl ?_
      first | refine lv_aload_n hx hb dC_startWorker_30 rfl (lv_at hl 0 rfl) ?_ | refine lv_aload_nN hx hb dC_startWorker_30 rfl (lv_at hl 0 rfl) ?_
      refine gC_C_workerCount hC hH dC_startWorker_31 ?_
      first | refine lv_aload_n hx hb dC_startWorker_34 rfl (lv_at hl 1 rfl) ?_ | refine lv_aload_nN hx hb dC_startWorker_34 rfl (lv_at hl 1 rfl) ?_
      refine gcWI hC hl.1 hA hN (fun L2 f2 sz h2 => c_Winit h2 (List.mem_append_right _ (List.mem_singleton.mpr rfl)) (va_up_self _ _ _) _ (e0.2.2.2.2.2.1 t ht).1 (e0.2.2.2.2.2.1 t ht).2) kC_204 ⟨Nat.le_of_ble_eq_true rfl, Nat.le_of_ble_eq_true rfl⟩ dC_startWorker_35 ⟨Nat.le_of_ble_eq_true rfl, Nat.le_of_ble_eq_true rfl⟩ rfl (Nat.le_of_ble_eq_true rfl) (fun g H locs hg hN => ?_)
      subst hg
      rw [bx_uu] at hN
      have e1 := hI.ext hq (.inr (2, [.int (nI (nW x)), .ref (aTo d t), .long (tEd (gT x t)), .int 0, .int 0, .int 0, .int 0, .int 0, .null]))
      have hH : cG D k d x A s.heap H locs := gH.to hN e1
      first | refine lv_astore_n hx hb dC_startWorker_38 rfl hl (by decide) rfl (fun ls hl => ?_) | refine lv_astore_nN hx hb dC_startWorker_38 rfl hl (by decide) rfl (fun ls hl => ?_)
      have hl : lv_has ls 3 [(2, _), (0, _), (1, _)] := hl
      first | refine lv_aload_n hx hb dC_startWorker_39 rfl (lv_at hl 1 rfl) ?_ | refine lv_aload_nN hx hb dC_startWorker_39 rfl (lv_at hl 1 rfl) ?_
      refine gC_C_workers hC hH dC_startWorker_40 ?_
      first | refine lv_aload_n hx hb dC_startWorker_43 rfl (lv_at hl 1 rfl) ?_ | refine lv_aload_nN hx hb dC_startWorker_43 rfl (lv_at hl 1 rfl) ?_
      refine gC_C_workerCount hC hH dC_startWorker_44 ?_
      first | refine lv_aload_n hx hb dC_startWorker_47 rfl (lv_at hl 0 rfl) ?_ | refine lv_aload_nN hx hb dC_startWorker_47 rfl (lv_at hl 0 rfl) ?_
      refine rp_astq hC hN 1 2 e1.2.2.2.1.1 e1.2.2.2.1.2 rfl (List.mem_append_right _ (List.mem_singleton.mpr rfl)) (va_up_self _ _ _) rfl hn (by decide) dC_startWorker_48 (fun H locs hN => ?_)
      have hne : kO k ≠ kWs k := fun z => by have h1 := hI.2.1.2; rw [z, hI.2.2.2.1.2] at h1; cases h1
      have hq2 : kO k ≠ q := fun z => hq (z ▸ hI.2.1.1)
      first | refine lv_aload_n hx hb dC_startWorker_49 rfl (lv_at hl 1 rfl) ?_ | refine lv_aload_nN hx hb dC_startWorker_49 rfl (lv_at hl 1 rfl) ?_
      refine lv_dup hx hb dC_startWorker_50 rfl ?_
      refine rp_get hC hN inX3 e1.2.1.1 (by rw [va_up_ne _ _ hne, va_up_ne _ _ hq2]; exact hI.2.1.2) rfl 8 (by decide) wf_C_197 rfl dC_startWorker_51 ?_
      refine lv_iconst (v := 1) hx hb dC_startWorker_54 (by decide) ?_
      refine lv_iadd hx hb dC_startWorker_55 ?_
      refine rp_put hC hN inX3 tyX3 tyX3_ok nmX3 e1.2.1.1 (by rw [va_up_ne _ _ hne, va_up_ne _ _ hq2]; exact hI.2.1.2) rfl 8 (by decide) wf_C_197 rfl rfl rfl (Nat.le_of_ble_eq_true rfl) dC_startWorker_56 (fun H locs hN => ?_)
      rw [nI_1] at hN
      have hz := hI.pushW hq hn (t, tEd (gT x t), 0, 0, 0, 0, 0, none) ht rfl
      have hH : cG D k (aTo d, va_up (aWo d) (nW x) q, aRq d) (aW x (t, tEd (gT x t), 0, 0, 0, 0, 0, none)) A s.heap H locs := gH.to hN hz
      first | refine lv_aload_n hx hb dC_startWorker_59 rfl (lv_at hl 0 rfl) ?_ | refine lv_aload_nN hx hb dC_startWorker_59 rfl (lv_at hl 0 rfl) ?_
      exact grWq (v := some q) hC hr hlk hH (Or.inl ⟨⟨hn, h2⟩, q, rfl, rfl⟩) dC_startWorker_60
    · refine lv_null hx hb dC_startWorker_24 ?_
      refine W.widen (k := 1) (n := 9) (by decide) (by decide) ?_
      exact grWq (v := none) hC hr hlk hH (Or.inr ⟨fun z => h2 z.2, rfl, rfl⟩) dC_startWorker_25
set_option maxHeartbeats 4000000 in
set_option maxRecDepth 100000 in
theorem c_request (hI : cJ k (d, x) LL f) (v : Int32) (inp : Int64) (z : Int32) : Met l yC_request (wz yC_request bC_request 7 (some .int)) (rmL 2 1 11) (gP D (ck_tys k) LL f sz [.ref (kO k), .int v, .long inp, .int z]) (va_Qi (fun (r : Int32) (u : ck_A × cs_S) => (u.2, r) = zReq x v inp z) (gB D (ck_tys k) (cJ k) (va_A (va_pl LL f) sz)) (va_A (va_pl LL f) sz)) 1 11 (va_A (va_pl LL f) sz) := by
  refine gMet (own := RX3) (u := (d, x)) (Qc := fun A => va_Qi (fun (r : Int32) (u : ck_A × cs_S) => (u.2, r) = zReq x v inp z) (gB D (ck_tys k) (cJ k) A) A) (by decide) rfl hI (Nat.le_of_ble_eq_true rfl) ?_
  intro p e s m below meth c ls A hC hr hlk hnm hA hH hl
  have hx := hC.1
  have hb := hC.2.1
  have hml := hC.2.2.2.2.2
  have hts := hC.2.2.1
  have hown := hC.2.2.2.1
  have hl : lv_has ls 7 [(0, _), (1, _), (2, _), (4, _)] := hl
  have hn100 := (cG.ok hH).1.2.2
  have hn6 := (cG.ok hH).1.1
  first | refine lv_aload_n hx hb dC_request_0 rfl (lv_at hl 0 rfl) ?_ | refine lv_aload_nN hx hb dC_request_0 rfl (lv_at hl 0 rfl) ?_
  refine lv_iload_n hx hb dC_request_1 rfl (lv_at hl 1 rfl) ?_
  refine gcVq hC hl.1 hH (fun LL f sz hI => c_toolAt hI v) cJ.o rfl rfl kC_51 ⟨Nat.le_of_ble_eq_true rfl, Nat.le_of_ble_eq_true rfl⟩ dC_request_2 ⟨Nat.le_of_ble_eq_true rfl, Nat.le_of_ble_eq_true rfl⟩ rfl (Nat.le_of_ble_eq_true rfl) (fun o ho => ?_)
  rcases ho with ⟨t, ht, hv, rfl⟩ | ⟨hv, rfl⟩
  · have hlk : lk (nT x) v = some t := by rw [hv]; exact lk_in ht (by omega)
    first | refine lv_astore hx hb dC_request_5 hl (by decide) rfl (fun ls hl => ?_) | refine lv_astoreN hx hb dC_request_5 hl (by decide) rfl (fun ls hl => ?_)
    have hl : lv_has ls 7 [(5, _), (0, _), (1, _), (2, _), (4, _)] := hl
    first | refine lv_aload hx hb dC_request_7 (lv_at hl 0 rfl) ?_ | refine lv_aloadN hx hb dC_request_7 (lv_at hl 0 rfl) ?_
    first | refine lv_ifnull hx hb dC_request_9 ?_ | refine lv_ifnullN (tgt := 37) hx hb dC_request_9 (by decide) ?_
    first | refine lv_aload_n hx hb dC_request_12 rfl (lv_at hl 1 rfl) ?_ | refine lv_aload_nN hx hb dC_request_12 rfl (lv_at hl 1 rfl) ?_
    refine gC_C_requestCount hC hH dC_request_13 ?_
    first | refine lv_aload_n hx hb dC_request_16 rfl (lv_at hl 1 rfl) ?_ | refine lv_aload_nN hx hb dC_request_16 rfl (lv_at hl 1 rfl) ?_
    refine gC_C_requests hC hH dC_request_17 ?_
    first | refine lC_T hC hH dC_request_20 ?_ | refine lC_W hC hH dC_request_20 ?_ | refine lC_R hC hH dC_request_20 ?_
    refine lv_icmp_ge  (tgt := 37) hx hb dC_request_21 (by decide) (fun h => ?_) (fun h => ?_)
    · have hn : ¬ nR x < 100 := fun q => nI_ge (b := 100) q (by decide) h
      refine lv_iconst (v := -1) hx hb dC_request_37 (by decide) ?_
      refine W.widen (k := 1) (n := 11) (by decide) (by decide) ?_
      exact grWi hC hr (by assumption) rfl hH (by simp only [zReq, hlk]; rw [if_neg (fun q => hn q.1)]) dC_request_38
    · have hn : nR x < 100 := Nat.lt_of_not_le (fun q => h (nI_le (a := 100) q (by omega)))
      refine lv_iload hx hb dC_request_24 (lv_at hl 4 rfl) ?_
      refine lv_if_lt  (tgt := 37) hx hb dC_request_26 (by decide) (fun h2 => ?_) (fun h2 => ?_)
      · refine lv_iconst (v := -1) hx hb dC_request_37 (by decide) ?_
        refine W.widen (k := 1) (n := 11) (by decide) (by decide) ?_
        exact grWi hC hr (by assumption) rfl hH (by simp only [zReq, hlk]; rw [if_neg (fun q => q.2.1 h2)]) dC_request_38
      · refine lv_iload hx hb dC_request_29 (lv_at hl 4 rfl) ?_
        refine lv_sipush (v := 1000) hx hb dC_request_31 (by decide) ?_
        refine lv_icmp_le  (tgt := 39) hx hb dC_request_34 (by decide) (fun h3 => ?_) (fun h3 => ?_)
        · refine rp_new (ci := 0) (fs := [.int 0, .null, .long 0, .int 0, .int 0, .int 0, .int 0, .int 0, .long 0, .null, .int 0]) hC hA hH inX0 tyX0 tyX0_ok wk_C_21 wb_R wn_R rfl (fun j hj => by rcases (show j = 0 ∨ j = 1 ∨ j = 2 ∨ j = 3 ∨ j = 4 ∨ j = 5 ∨ j = 6 ∨ j = 7 ∨ j = 8 ∨ j = 9 ∨ j = 10 by omega) with rfl | rfl | rfl | rfl | rfl | rfl | rfl | rfl | rfl | rfl | rfl <;> rfl) (Nat.le_of_ble_eq_true rfl) (Nat.le_of_ble_eq_true rfl) dC_request_39 (fun q H LL f hI hq hN => ?_)
          have hI : cI k d x LL f := hI
          have e0 := hI.ext hq (.inr (0, [.int 0, .null, .long 0, .int 0, .int 0, .int 0, .int 0, .int 0, .long 0, .null, .int 0]))
          have hH : cG D k d x A s.heap H [] := gH.to hN e0
          refine lv_dup hx hb dC_request_42 rfl ?_
          first | refine lv_aload_n hx hb dC_request_43 rfl (lv_at hl 1 rfl) ?_ | refine lv_aload_nN hx hb dC_request_43 rfl (lv_at hl 1 rfl) ?_
          refine gC_C_requestCount hC hH dC_request_44 ?_
          first | refine lv_aload hx hb dC_request_47 (lv_at hl 0 rfl) ?_ | refine lv_aloadN hx hb dC_request_47 (lv_at hl 0 rfl) ?_
          refine lv_lload_n hx hb dC_request_49 rfl (lv_at hl 3 rfl) ?_
          refine lv_iload hx hb dC_request_50 (lv_at hl 4 rfl) ?_
          refine gcWI hC hl.1 hA hN (fun L2 f2 sz h2 => c_Rinit h2 (List.mem_append_right _ (List.mem_singleton.mpr rfl)) (va_up_self _ _ _) _ _ _ _) kC_77 ⟨Nat.le_of_ble_eq_true rfl, Nat.le_of_ble_eq_true rfl⟩ dC_request_52 ⟨Nat.le_of_ble_eq_true rfl, Nat.le_of_ble_eq_true rfl⟩ rfl (Nat.le_of_ble_eq_true rfl) (fun g H locs hg hN => ?_)
          subst hg
          rw [bx_uu] at hN
          have e1 := hI.ext hq (.inr (0, [.int (nI (nR x)), .ref (aTo d t), .long inp, .int z, .int 0, .int 0, .int 0, .int 0, .long 0, .null, .int 0]))
          have hH : cG D k d x A s.heap H locs := gH.to hN e1
          first | refine lv_astore hx hb dC_request_55 hl (by decide) rfl (fun ls hl => ?_) | refine lv_astoreN hx hb dC_request_55 hl (by decide) rfl (fun ls hl => ?_)
          have hl : lv_has ls 7 [(6, _), (5, _), (0, _), (1, _), (2, _), (4, _)] := hl
          first | refine lv_aload_n hx hb dC_request_57 rfl (lv_at hl 2 rfl) ?_ | refine lv_aload_nN hx hb dC_request_57 rfl (lv_at hl 2 rfl) ?_
          refine gC_C_requests hC hH dC_request_58 ?_
          first | refine lv_aload_n hx hb dC_request_61 rfl (lv_at hl 2 rfl) ?_ | refine lv_aload_nN hx hb dC_request_61 rfl (lv_at hl 2 rfl) ?_
          refine gC_C_requestCount hC hH dC_request_62 ?_
          first | refine lv_aload hx hb dC_request_65 (lv_at hl 0 rfl) ?_ | refine lv_aloadN hx hb dC_request_65 (lv_at hl 0 rfl) ?_
          refine rp_astq hC hN 2 0 e1.2.2.2.2.1.1 e1.2.2.2.2.1.2 rfl (List.mem_append_right _ (List.mem_singleton.mpr rfl)) (va_up_self _ _ _) rfl hn (by decide) dC_request_67 (fun H locs hN => ?_)
          have hne : kO k ≠ kRs k := fun z => by have h1 := hI.2.1.2; rw [z, hI.2.2.2.2.1.2] at h1; cases h1
          have hq2 : kO k ≠ q := fun z => hq (z ▸ hI.2.1.1)
          first | refine lv_aload_n hx hb dC_request_68 rfl (lv_at hl 2 rfl) ?_ | refine lv_aload_nN hx hb dC_request_68 rfl (lv_at hl 2 rfl) ?_
          refine lv_dup hx hb dC_request_69 rfl ?_
          refine rp_get hC hN inX3 e1.2.1.1 (by rw [va_up_ne _ _ hne, va_up_ne _ _ hq2]; exact hI.2.1.2) rfl 9 (by decide) wf_C_74 rfl dC_request_70 ?_
          refine lv_iconst (v := 1) hx hb dC_request_73 (by decide) ?_
          refine lv_iadd hx hb dC_request_74 ?_
          refine rp_put hC hN inX3 tyX3 tyX3_ok nmX3 e1.2.1.1 (by rw [va_up_ne _ _ hne, va_up_ne _ _ hq2]; exact hI.2.1.2) rfl 9 (by decide) wf_C_74 rfl rfl rfl (Nat.le_of_ble_eq_true rfl) dC_request_75 (fun H locs hN => ?_)
          rw [nI_1] at hN
          have hz := hI.pushR hq hn (t, inp, z, 0, 0, false, false, 0, none, 0) ht rfl
          have hH : cG D k (aTo d, aWo d, va_up (aRq d) (nR x) q) (aR x (t, inp, z, 0, 0, false, false, 0, none, 0)) A s.heap H locs := gH.to hN hz
          first | refine lv_aload hx hb dC_request_78 (lv_at hl 0 rfl) ?_ | refine lv_aloadN hx hb dC_request_78 (lv_at hl 0 rfl) ?_
          refine rp_get hC hN inX0 (List.mem_append_right _ (List.mem_singleton.mpr rfl)) (up3q (fun z => hq (z ▸ hI.2.2.2.2.1.1)) (fun z => hq2 z.symm)) rfl 0 (by decide) wf_C_80 rfl dC_request_80 ?_
          exact grWi hC hr (by assumption) rfl hH (by simp only [zReq, hlk]; rw [if_pos ⟨hn, h2, h3⟩]) dC_request_83
        · refine lv_iconst (v := -1) hx hb dC_request_37 (by decide) ?_
          refine W.widen (k := 1) (n := 11) (by decide) (by decide) ?_
          exact grWi hC hr (by assumption) rfl hH (by simp only [zReq, hlk]; rw [if_neg (fun q => h3 q.2.2)]) dC_request_38
  · have hlk2 : lk (nT x) v = none := lk_out hv
    first | refine lv_astore hx hb dC_request_5 hl (by decide) rfl (fun ls hl => ?_) | refine lv_astoreN hx hb dC_request_5 hl (by decide) rfl (fun ls hl => ?_)
    have hl : lv_has ls 7 [(5, _), (0, _), (1, _), (2, _), (4, _)] := hl
    first | refine lv_aload hx hb dC_request_7 (lv_at hl 0 rfl) ?_ | refine lv_aloadN hx hb dC_request_7 (lv_at hl 0 rfl) ?_
    first | refine lv_ifnull hx hb dC_request_9 ?_ | refine lv_ifnullN (tgt := 37) hx hb dC_request_9 (by decide) ?_
    refine lv_iconst (v := -1) hx hb dC_request_37 (by decide) ?_
    refine W.widen (k := 1) (n := 11) (by decide) (by decide) ?_
    exact grWi hC hr hlk rfl hH (by simp only [zReq, hlk2]) dC_request_38
end C4
