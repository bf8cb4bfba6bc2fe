section M3
theorem gcWViE {p : Program} {l : Launch} {e : Env} {R : Room} {s : State} {m : MethodId} {args : Array Value} {below : List Frame} {meth : Method} {c : Code} {H : Heap} {locs : List Loc} {cells slots : Nat} {Q : State → Prop} {cc : ByteArray} {pc : Nat} {ls : Array Slot} {rest st : List Value} {D : va_G} {A : Nat → Prop} {tys : List (ClassId × FieldType)} {H0 : Heap} {own : String} {nL : Nat} {σ : Type} {I : σ → List Nat → (Nat → va_E) → Prop} {u : σ} {y : MethodName} {b : ByteArray} {n dp idx mc ms : Nat} {r : Option FieldType} {av : List Value} {post : Int32 → σ → Prop} {a ci : Nat} {q : vw_C} (hC : gX own tys D p s m args c cc nL) (hls : ls.size = nL) (hA : ∀ q, H0.size ≤ q → A q) (hH : gH D I u A H0 H locs) (M : ∀ LL f sz, I u LL f → Met l y (wz y b n r) (rmL dp mc ms) (gP D tys LL f sz (.ref a :: av)) (va_Qi post (gB D tys I (va_A (va_pl LL f) sz)) (va_A (va_pl LL f) sz)) mc ms (va_A (va_pl LL f) sz)) (ha : ∀ LL f, I u LL f → ∃ fs, a ∈ LL ∧ f a = .inr (ci, fs)) (hc : vwCl[ci]? = some q) (hq : q.1 = y.cls) (hk : gKV own idx y b n r av.length) (hR : dp + 1 ≤ R.frames ∧ 8 + (n + 11) + 34 * dp ≤ R.locals) (hdg : decode cc pc = .ok (.invokevirtual idx, 3)) (hcs : cells + mc ≤ R.cells ∧ slots + ms ≤ R.slots) (hst : st = av.reverse ++ .ref a :: rest) (hcat : (rest.map fun v => v.category).sum ≤ 8) (kk : ∀ (v : Int32) (u' : σ) (H1 : Heap) (locs1 : List Loc), post v u' → gH D I u' A H0 H1 locs1 → W p l e R s m args below meth c H1 locs1 (cells + mc) (slots + ms) Q (F0 m (pc + 3) ls (.int v :: rest))) : W p l e R s m args below meth c H locs cells slots Q (F0 m pc ls st) := by
  obtain ⟨LL, f, hI, hP, hD, hS⟩ := hH
  have hF := gH.free hD hS hA
  obtain ⟨fs, ha1, ha2⟩ := ha LL f hI
  have hr := pw_recv hC.2.2.2.2.1 hP ha1 ha2 hc
  rw [hq] at hr
  exact va_calli (va_runV (C := y.cls) (As := av) hC.fix (M LL f H.size hI) ⟨hk.1.B hC.2.2.1 hR, hC.2.2.1 _ hk.2.1, hC.2.2.1 _ hk.2.2⟩ ⟨gP_blind, hr, fun U hU hW => gP_pre hC.2.2.2.2.1 hP hD hU hW⟩ rfl rfl hls hst (lv_room hcat) hdg hcs) hS (fun q _ h => hF q h) hF (fun v u' t H1 locs1 ht hvm hp hB hz hk1 hS1 => kk v u' H1 locs1 hp (gH.back hB ht hF hS1))
theorem mR.o {k : mk_F} {x : cs_S} : ∀ LL f, mR k x LL f → ∃ fs, mO k ∈ LL ∧ f (mO k) = .inr (4, fs) := fun LL f h => by
  obtain ⟨y, -, h2⟩ := h
  exact ⟨_, h2.1⟩
theorem ffr_ok {x : cs_S} {t : Nat} : ∀ (n i a : Nat), ffr x t n i = some a → a < nW x ∧ zSt (gW x a) = 0
  | 0, i, a, h => by cases h
  | n + 1, i, a, h => by
    unfold ffr at h
    split at h
    · next q => cases h; exact ⟨q.1, q.2.2⟩
    · exact ffr_ok n (i + 1) a h
theorem Rel.begin {x : cs_S} {y : ms_S} {i j : Nat} (h : Rel x y) (hi : i < nW x) (hj : j < nR x) (hz : zSt (gW x i) = 0) (hs : rSt (gR x j) = 0) : Rel (zBegin x j i) (sMI (sMI (sMI (sMI (sMI y 11 i 1) 14 i (nI j)) 21 j 1) 22 j (nI i)) 24 j (MI (sMI (sMI (sMI (sMI y 11 i 1) 14 i (nI j)) 21 j 1) 22 j (nI i)) 24 j + 1)) := by
  have hz2 := zSt_0.mp hz
  have hz3 : zSt (wRq_ (gW x i) (some j)) = 1 := zSt_1.mpr ⟨hz2.1, fun q => by cases q⟩
  have okj := h.2.1.2.2 j hj
  have oki := h.2.1.2.1 i hi
  refine h.upWR hi hj (((((fr.rf.iW 11 1 (by decide)).iW 14 (nI j) (by decide)).iR 21 1 (by decide)).iR 22 (nI i) (by decide)).iR 24 _ (by decide)) ?_ ?_ ⟨oki.1, fun a ha => by cases ha; exact hj⟩ ⟨okj.1, fun a ha => by cases ha; exact hi⟩ (fun a ha => by cases ha; exact ⟨rfl, rfl, rfl⟩) (fun a _ ha => h.noW (by rw [hs]; decide) a ha)
  · obtain ⟨q1, q2, q3, q4, q5, q6, q7, q8, q9, q10⟩ := h.2.2.2.2.1 i hi
    exact ⟨(show MI (sMI (sMI (sMI (sMI (sMI y 11 i 1) 14 i (nI j)) 21 j 1) 22 j (nI i)) 24 j (MI (sMI (sMI (sMI (sMI y 11 i 1) 14 i (nI j)) 21 j 1) 22 j (nI i)) 24 j + 1)) 10 i = MI y 10 i from by simp [MI_sMI, ML_sML, MI_sML, ML_sMI]).trans q1, by rw [hz3]; simp [MI_sMI], (show MI (sMI (sMI (sMI (sMI (sMI y 11 i 1) 14 i (nI j)) 21 j 1) 22 j (nI i)) 24 j (MI (sMI (sMI (sMI (sMI y 11 i 1) 14 i (nI j)) 21 j 1) 22 j (nI i)) 24 j + 1)) 12 i = MI y 12 i from by simp [MI_sMI, ML_sML, MI_sML, ML_sMI]).trans q3, (show MI (sMI (sMI (sMI (sMI (sMI y 11 i 1) 14 i (nI j)) 21 j 1) 22 j (nI i)) 24 j (MI (sMI (sMI (sMI (sMI y 11 i 1) 14 i (nI j)) 21 j 1) 22 j (nI i)) 24 j + 1)) 13 i = MI y 13 i from by simp [MI_sMI, ML_sML, MI_sML, ML_sMI]).trans q4, fun a ha => (by cases ha; simp [MI_sMI]), (show MI (sMI (sMI (sMI (sMI (sMI y 11 i 1) 14 i (nI j)) 21 j 1) 22 j (nI i)) 24 j (MI (sMI (sMI (sMI (sMI y 11 i 1) 14 i (nI j)) 21 j 1) 22 j (nI i)) 24 j + 1)) 15 i = MI y 15 i from by simp [MI_sMI, ML_sML, MI_sML, ML_sMI]).trans q6, (show MI (sMI (sMI (sMI (sMI (sMI y 11 i 1) 14 i (nI j)) 21 j 1) 22 j (nI i)) 24 j (MI (sMI (sMI (sMI (sMI y 11 i 1) 14 i (nI j)) 21 j 1) 22 j (nI i)) 24 j + 1)) 16 i = MI y 16 i from by simp [MI_sMI, ML_sML, MI_sML, ML_sMI]).trans q7, fun q => absurd (hz3.symm.trans q) (by decide), (show ML (sMI (sMI (sMI (sMI (sMI y 11 i 1) 14 i (nI j)) 21 j 1) 22 j (nI i)) 24 j (MI (sMI (sMI (sMI (sMI y 11 i 1) 14 i (nI j)) 21 j 1) 22 j (nI i)) 24 j + 1)) 18 i = ML y 18 i from by simp [MI_sMI, ML_sML, MI_sML, ML_sMI]).trans q9, fun q => absurd hz2.1 q⟩
  · obtain ⟨q1, q2, q3, q4, q5, q6, q7, q8, q9, q10, q11⟩ := h.2.2.2.2.2.1 j hj
    exact ⟨(show MI (sMI (sMI (sMI (sMI (sMI y 11 i 1) 14 i (nI j)) 21 j 1) 22 j (nI i)) 24 j (MI (sMI (sMI (sMI (sMI y 11 i 1) 14 i (nI j)) 21 j 1) 22 j (nI i)) 24 j + 1)) 19 j = MI y 19 j from by simp [MI_sMI, ML_sML, MI_sML, ML_sMI]).trans q1, (show MI (sMI (sMI (sMI (sMI (sMI y 11 i 1) 14 i (nI j)) 21 j 1) 22 j (nI i)) 24 j (MI (sMI (sMI (sMI (sMI y 11 i 1) 14 i (nI j)) 21 j 1) 22 j (nI i)) 24 j + 1)) 20 j = MI y 20 j from by simp [MI_sMI, ML_sML, MI_sML, ML_sMI]).trans q2, by simp [MI_sMI], by simp [MI_sMI, oI], fun q => absurd (show (1 : Int32) = 2 from q) (by decide), (show MI (sMI (sMI (sMI (sMI (sMI y 11 i 1) 14 i (nI j)) 21 j 1) 22 j (nI i)) 24 j (MI (sMI (sMI (sMI (sMI y 11 i 1) 14 i (nI j)) 21 j 1) 22 j (nI i)) 24 j + 1)) 24 j = MI y 24 j + 1 from by simp [MI_sMI]).trans (congrArg (fun z => z + 1) q6), (show MI (sMI (sMI (sMI (sMI (sMI y 11 i 1) 14 i (nI j)) 21 j 1) 22 j (nI i)) 24 j (MI (sMI (sMI (sMI (sMI y 11 i 1) 14 i (nI j)) 21 j 1) 22 j (nI i)) 24 j + 1)) 25 j = MI y 25 j from by simp [MI_sMI, ML_sML, MI_sML, ML_sMI]).trans q7, (show MI (sMI (sMI (sMI (sMI (sMI y 11 i 1) 14 i (nI j)) 21 j 1) 22 j (nI i)) 24 j (MI (sMI (sMI (sMI (sMI y 11 i 1) 14 i (nI j)) 21 j 1) 22 j (nI i)) 24 j + 1)) 26 j = MI y 26 j from by simp [MI_sMI, ML_sML, MI_sML, ML_sMI]).trans q8, (show ML (sMI (sMI (sMI (sMI (sMI y 11 i 1) 14 i (nI j)) 21 j 1) 22 j (nI i)) 24 j (MI (sMI (sMI (sMI (sMI y 11 i 1) 14 i (nI j)) 21 j 1) 22 j (nI i)) 24 j + 1)) 27 j = ML y 27 j from by simp [MI_sMI, ML_sML, MI_sML, ML_sMI]).trans q9, (show ML (sMI (sMI (sMI (sMI (sMI y 11 i 1) 14 i (nI j)) 21 j 1) 22 j (nI i)) 24 j (MI (sMI (sMI (sMI (sMI y 11 i 1) 14 i (nI j)) 21 j 1) 22 j (nI i)) 24 j + 1)) 28 j = ML y 28 j from by simp [MI_sMI, ML_sML, MI_sML, ML_sMI]).trans q10, fun q => absurd (show (1 : Int32) = 0 from q) (by decide)⟩
theorem Rel.bar {x : cs_S} {y : ms_S} {j : Nat} (h : Rel x y) (hj : j < nR x) (hs : rSt (gR x j) = 0) (v : Int64) : Rel (sR x j (qDone (gR x j) none v)) (yAns y j v) := by
  obtain ⟨q1, q2, q3, q4, q5, q6, q7, q8, q9, q10, q11⟩ := h.2.2.2.2.2.1 j hj
  have q12 := q11 hs
  have e : qDone (gR x j) none v = rRs_ (rWk_ (rSt_ (gR x j) 2) none) v := if_neg (by rw [q12.2]; decide)
  rw [e]
  exact h.upR hj ((fr.rf.iR 21 2 (by decide)).lR 28 v (by decide)) ⟨(show MI (sML (sMI y 21 j 2) 28 j v) 19 j = MI y 19 j from by simp [MI_sMI, ML_sML, MI_sML, ML_sMI]).trans q1, (show MI (sML (sMI y 21 j 2) 28 j v) 20 j = MI y 20 j from by simp [MI_sMI, ML_sML, MI_sML, ML_sMI]).trans q2, by simp [MI_sMI, MI_sML], (show MI (sML (sMI y 21 j 2) 28 j v) 22 j = MI y 22 j from by simp [MI_sMI, MI_sML]).trans (q4.trans (by rw [q12.1])), fun _ z => absurd rfl z, (show MI (sML (sMI y 21 j 2) 28 j v) 24 j = MI y 24 j from by simp [MI_sMI, ML_sML, MI_sML, ML_sMI]).trans q6, (show MI (sML (sMI y 21 j 2) 28 j v) 25 j = MI y 25 j from by simp [MI_sMI, ML_sML, MI_sML, ML_sMI]).trans q7, (show MI (sML (sMI y 21 j 2) 28 j v) 26 j = MI y 26 j from by simp [MI_sMI, ML_sML, MI_sML, ML_sMI]).trans q8, (show ML (sML (sMI y 21 j 2) 28 j v) 27 j = ML y 27 j from by simp [MI_sMI, ML_sML, MI_sML, ML_sMI]).trans q9, by simp [ML_sML], fun z => absurd (show (2 : Int32) = 0 from z) (by decide)⟩ ⟨(h.2.1.2.2 j hj).1, fun a z => by cases z⟩ (Or.inr (h.noW (by rw [hs]; decide)))
variable {l : Launch} {D : va_G} {k : mk_F} {x : cs_S} {LL : List Nat} {f : Nat → va_E} {sz : Nat}
set_option maxHeartbeats 600000 in
set_option maxRecDepth 100000 in
theorem m_tool (hI : mR k x LL f) (ed : Int64) (qu : Int32) : Met l yM_tool (wz yM_tool bM_tool 4 (some .int)) (rmL 0 0 0) (gP D (mk_tys k) LL f sz [.ref (mO k), .long ed, .int qu]) (va_Qi (fun (r : Int32) (u : cs_S) => (u, r) = zTool x ed qu) (gB D (mk_tys k) (mR k) (va_A (va_pl LL f) sz)) (va_A (va_pl LL f) sz)) 0 0 (va_A (va_pl LL f) sz) := by
  refine gMet (own := RX4) (u := x) (Qc := fun A => va_Qi (fun (r : Int32) (u : cs_S) => (u, r) = zTool x ed qu) (gB D (mk_tys k) (mR k) A) A) (by decide) rfl hI (Nat.le_of_ble_eq_true rfl) ?_
  intro p e s m below meth c ls A hC hr hlk hnm hA hH hl
  obtain ⟨y, hR, hH⟩ := mR.out hH
  obtain ⟨hnT, hnW, hnR⟩ := hR.n
  have hok := hR.2.1
  have hb6 := hok.1.1
  have hb60 := hok.1.2.1
  have hb100 := hok.1.2.2
  have hx := hC.1
  have hb := hC.2.1
  have hml := hC.2.2.2.2.2
  have hts := hC.2.2.1
  have hown := hC.2.2.2.1
  have hl : lv_has ls 4 [(0, _), (1, _), (3, _)] := hl
  first | refine lv_aload_n hx hb dM_tool_0 rfl (lv_at hl 0 rfl) ?_ | refine lv_aload_nN hx hb dM_tool_0 rfl (lv_at hl 0 rfl) ?_
  refine gM_tools hC hH dM_tool_1 ?_
  refine lv_bipush (v := 6) hx hb dM_tool_4 (by decide) ?_
  refine lv_icmp_ne  (tgt := 11) hx hb dM_tool_6 (by decide) (fun h => ?_) (fun h => ?_)
  · have hn : nT x < 6 := by
      have : nT x ≠ 6 := fun q => h (by rw [hnT, q]; rfl)
      omega
    have hn2 : yT y < 6 := by omega
    first | refine lv_aload_n hx hb dM_tool_11 rfl (lv_at hl 0 rfl) ?_ | refine lv_aload_nN hx hb dM_tool_11 rfl (lv_at hl 0 rfl) ?_
    refine gM_editionOf hC hH dM_tool_12 ?_
    first | refine lv_aload_n hx hb dM_tool_15 rfl (lv_at hl 0 rfl) ?_ | refine lv_aload_nN hx hb dM_tool_15 rfl (lv_at hl 0 rfl) ?_
    refine gM_tools hC hH dM_tool_16 ?_
    refine lv_lload_n hx hb dM_tool_19 rfl (lv_at hl 1 rfl) ?_
    refine sM_l hC hH (by decide) (by assumption) dM_tool_20 (fun H locs hH => ?_)
    first | refine lv_aload_n hx hb dM_tool_21 rfl (lv_at hl 0 rfl) ?_ | refine lv_aload_nN hx hb dM_tool_21 rfl (lv_at hl 0 rfl) ?_
    refine gM_quirkOf hC hH dM_tool_22 ?_
    first | refine lv_aload_n hx hb dM_tool_25 rfl (lv_at hl 0 rfl) ?_ | refine lv_aload_nN hx hb dM_tool_25 rfl (lv_at hl 0 rfl) ?_
    refine gM_tools hC hH dM_tool_26 ?_
    refine lv_iload_n hx hb dM_tool_29 rfl (lv_at hl 2 rfl) ?_
    refine sM_i hC hH (by decide) (by assumption) dM_tool_30 (fun H locs hH => ?_)
    first | refine lv_aload_n hx hb dM_tool_31 rfl (lv_at hl 0 rfl) ?_ | refine lv_aload_nN hx hb dM_tool_31 rfl (lv_at hl 0 rfl) ?_
    refine gM_barsOf hC hH dM_tool_32 ?_
    first | refine lv_aload_n hx hb dM_tool_35 rfl (lv_at hl 0 rfl) ?_ | refine lv_aload_nN hx hb dM_tool_35 rfl (lv_at hl 0 rfl) ?_
    refine gM_tools hC hH dM_tool_36 ?_
    refine lv_iconst (v := 0) hx hb dM_tool_39 (by decide) ?_
    refine sM_i hC hH (by decide) (by assumption) dM_tool_40 (fun H locs hH => ?_)
    first | refine lv_aload_n hx hb dM_tool_41 rfl (lv_at hl 0 rfl) ?_ | refine lv_aload_nN hx hb dM_tool_41 rfl (lv_at hl 0 rfl) ?_
    refine lv_dup hx hb dM_tool_42 rfl ?_
    refine gM_tools hC hH dM_tool_43 ?_
    refine lv_iconst (v := 1) hx hb dM_tool_46 (by decide) ?_
    refine lv_iadd hx hb dM_tool_47 ?_
    rw [nI_1]
    refine pM_tools hC hH dM_tool_48 (fun H locs hH => ?_)
    first | refine lv_aload_n hx hb dM_tool_51 rfl (lv_at hl 0 rfl) ?_ | refine lv_aload_nN hx hb dM_tool_51 rfl (lv_at hl 0 rfl) ?_
    refine gM_tools hC hH dM_tool_52 ?_
    refine lv_iconst (v := 1) hx hb dM_tool_55 (by decide) ?_
    refine lv_isub hx hb dM_tool_56 ?_
    refine lv_topi (fun r hr2 => ?_)
    have hR2 := hR.pushT hn ed qu
    exact grWi hC hr hlk rfl (mR.in hR2 hH) (by rw [zTool, if_pos hn, hr2, ← hnT]; exact congrArg (fun q => (_, q)) (nI_pred (yT y))) dM_tool_57
  · have hn : ¬ nT x < 6 := fun q => by
      rw [hnT] at h
      have := (nI_eq (a := nT x) (b := 6) (by omega) (by omega)).mp h
      omega
    refine lv_iconst (v := -1) hx hb dM_tool_9 (by decide) ?_
    exact grWi hC hr hlk rfl (mR.in hR hH) (by rw [zTool, if_neg hn]) dM_tool_10
set_option maxHeartbeats 600000 in
set_option maxRecDepth 100000 in
theorem m_request (hI : mR k x LL f) (v : Int32) (inp : Int64) (z : Int32) : Met l yM_request (wz yM_request bM_request 6 (some .int)) (rmL 1 0 0) (gP D (mk_tys k) LL f sz [.ref (mO k), .int v, .long inp, .int z]) (va_Qi (fun (r : Int32) (u : cs_S) => (u, r) = zReq x v inp z) (gB D (mk_tys k) (mR k) (va_A (va_pl LL f) sz)) (va_A (va_pl LL f) sz)) 0 0 (va_A (va_pl LL f) sz) := by
  refine gMet (own := RX4) (u := x) (Qc := fun A => va_Qi (fun (r : Int32) (u : cs_S) => (u, r) = zReq x v inp z) (gB D (mk_tys k) (mR k) A) A) (by decide) rfl hI (Nat.le_of_ble_eq_true rfl) ?_
  intro p e s m below meth c ls A hC hr hlk hnm hA hH hl
  obtain ⟨y, hR, hH⟩ := mR.out hH
  obtain ⟨hnT, hnW, hnR⟩ := hR.n
  have hok := hR.2.1
  have hb6 := hok.1.1
  have hb60 := hok.1.2.1
  have hb100 := hok.1.2.2
  have hx := hC.1
  have hb := hC.2.1
  have hml := hC.2.2.2.2.2
  have hts := hC.2.2.1
  have hown := hC.2.2.2.1
  have hl : lv_has ls 6 [(0, _), (1, _), (2, _), (4, _)] := hl
  first | refine lv_aload_n hx hb dM_request_0 rfl (lv_at hl 0 rfl) ?_ | refine lv_aload_nN hx hb dM_request_0 rfl (lv_at hl 0 rfl) ?_
  refine gM_requests hC hH dM_request_1 ?_
  refine lv_bipush (v := 100) hx hb dM_request_4 (by decide) ?_
  refine lv_icmp_eq  (tgt := 33) hx hb dM_request_6 (by decide) (fun h => ?_) (fun h => ?_)
  · have hn : ¬ nR x < 100 := fun q => by
      rw [hnR] at h
      have := (nI_eq (a := nR x) (b := 100) (by omega) (by omega)).mp h
      omega
    refine lv_iconst (v := -1) hx hb dM_request_33 (by decide) ?_
    exact grWi hC hr hlk rfl (mR.in hR hH) (by unfold zReq; rcases lk (nT x) v with _ | t; rfl; exact (if_neg (fun q => hn q.1)).symm) dM_request_34
  · have hn : nR x < 100 := by
      have : nR x ≠ 100 := fun q => h (by rw [hnR, q]; rfl)
      omega
    have hn2 : yR y < 100 := by omega
    refine lv_iload_n hx hb dM_request_9 rfl (lv_at hl 1 rfl) ?_
    first | refine lv_aload_n hx hb dM_request_10 rfl (lv_at hl 0 rfl) ?_ | refine lv_aload_nN hx hb dM_request_10 rfl (lv_at hl 0 rfl) ?_
    refine gM_tools hC hH dM_request_11 ?_
    refine gcTi hC.fix hl.1 (m_in v (yT y) (by omega)) kM_96 ⟨Nat.le_of_ble_eq_true rfl, Nat.le_of_ble_eq_true rfl⟩ dM_request_14 ⟨Nat.le_of_ble_eq_true rfl, Nat.le_of_ble_eq_true rfl⟩ rfl (Nat.le_of_ble_eq_true rfl) (fun r hr1 => ?_)
    rcases hr1 with ⟨t, ht, hv, rfl⟩ | ⟨hv, rfl⟩
    · have ht2 : t < nT x := by rw [← hnT]; exact ht
      have hkk : lk (nT x) v = some t := by rw [hv]; exact lk_in ht2 (by omega)
      subst hv
      refine lv_if_eq  (tgt := 33) hx hb dM_request_17 (by decide) (fun h1 => ?_) (fun h1 => ?_)
      · exact absurd h1 (by decide)
      · refine lv_iload hx hb dM_request_20 (lv_at hl 3 rfl) ?_
        refine lv_if_lt  (tgt := 33) hx hb dM_request_22 (by decide) (fun h2 => ?_) (fun h2 => ?_)
        · refine lv_iconst (v := -1) hx hb dM_request_33 (by decide) ?_
          exact grWi hC hr hlk rfl (mR.in hR hH) (by simp only [zReq, hkk]; rw [if_neg (fun q => q.2.1 h2)]) dM_request_34
        · refine lv_iload hx hb dM_request_25 (lv_at hl 3 rfl) ?_
          refine lv_sipush (v := 1000) hx hb dM_request_27 (by decide) ?_
          refine lv_icmp_le  (tgt := 35) hx hb dM_request_30 (by decide) (fun h3 => ?_) (fun h3 => ?_)
          · first | refine lv_aload_n hx hb dM_request_35 rfl (lv_at hl 0 rfl) ?_ | refine lv_aload_nN hx hb dM_request_35 rfl (lv_at hl 0 rfl) ?_
            refine gM_requests hC hH dM_request_36 ?_
            refine lv_istore hx hb dM_request_39 hl (by decide) rfl (fun ls hl => ?_)
            have hl : lv_has ls 6 [(5, _), (0, _), (1, _), (2, _), (4, _)] := hl
            first | refine lv_aload_n hx hb dM_request_41 rfl (lv_at hl 1 rfl) ?_ | refine lv_aload_nN hx hb dM_request_41 rfl (lv_at hl 1 rfl) ?_
            refine gM_wants hC hH dM_request_42 ?_
            refine lv_iload hx hb dM_request_45 (lv_at hl 0 rfl) ?_
            refine lv_iload_n hx hb dM_request_47 rfl (lv_at hl 2 rfl) ?_
            refine sM_i hC hH (by decide) (by assumption) dM_request_48 (fun H locs hH => ?_)
            first | refine lv_aload_n hx hb dM_request_49 rfl (lv_at hl 1 rfl) ?_ | refine lv_aload_nN hx hb dM_request_49 rfl (lv_at hl 1 rfl) ?_
            refine gM_input hC hH dM_request_50 ?_
            refine lv_iload hx hb dM_request_53 (lv_at hl 0 rfl) ?_
            refine lv_lload_n hx hb dM_request_55 rfl (lv_at hl 3 rfl) ?_
            refine sM_l hC hH (by decide) (by assumption) dM_request_56 (fun H locs hH => ?_)
            first | refine lv_aload_n hx hb dM_request_57 rfl (lv_at hl 1 rfl) ?_ | refine lv_aload_nN hx hb dM_request_57 rfl (lv_at hl 1 rfl) ?_
            refine gM_size hC hH dM_request_58 ?_
            refine lv_iload hx hb dM_request_61 (lv_at hl 0 rfl) ?_
            refine lv_iload hx hb dM_request_63 (lv_at hl 4 rfl) ?_
            refine sM_i hC hH (by decide) (by assumption) dM_request_65 (fun H locs hH => ?_)
            first | refine lv_aload_n hx hb dM_request_66 rfl (lv_at hl 1 rfl) ?_ | refine lv_aload_nN hx hb dM_request_66 rfl (lv_at hl 1 rfl) ?_
            refine gM_kind hC hH dM_request_67 ?_
            refine lv_iload hx hb dM_request_70 (lv_at hl 0 rfl) ?_
            refine lv_iconst (v := 0) hx hb dM_request_72 (by decide) ?_
            refine sM_i hC hH (by decide) (by assumption) dM_request_73 (fun H locs hH => ?_)
            first | refine lv_aload_n hx hb dM_request_74 rfl (lv_at hl 1 rfl) ?_ | refine lv_aload_nN hx hb dM_request_74 rfl (lv_at hl 1 rfl) ?_
            refine gM_by hC hH dM_request_75 ?_
            refine lv_iload hx hb dM_request_78 (lv_at hl 0 rfl) ?_
            refine lv_iconst (v := -1) hx hb dM_request_80 (by decide) ?_
            refine sM_i hC hH (by decide) (by assumption) dM_request_81 (fun H locs hH => ?_)
            first | refine lv_aload_n hx hb dM_request_82 rfl (lv_at hl 1 rfl) ?_ | refine lv_aload_nN hx hb dM_request_82 rfl (lv_at hl 1 rfl) ?_
            refine lv_dup hx hb dM_request_83 rfl ?_
            refine gM_requests hC hH dM_request_84 ?_
            refine lv_iconst (v := 1) hx hb dM_request_87 (by decide) ?_
            refine lv_iadd hx hb dM_request_88 ?_
            rw [nI_1]
            refine pM_requests hC hH dM_request_89 (fun H locs hH => ?_)
            refine lv_iload hx hb dM_request_92 (lv_at hl 0 rfl) ?_
            have hR2 := hR.pushR hn ht2 inp z
            exact grWi hC hr hlk rfl (mR.in hR2 hH) (by simp only [zReq, hkk]; rw [if_pos ⟨hn, h2, h3⟩, ← hnR]) dM_request_94
          · refine lv_iconst (v := -1) hx hb dM_request_33 (by decide) ?_
            exact grWi hC hr hlk rfl (mR.in hR hH) (by simp only [zReq, hkk]; rw [if_neg (fun q => h3 q.2.2)]) dM_request_34
    · have hkk : lk (nT x) v = none := lk_out (fun i hi => hv i (by rw [hnT]; exact hi))
      refine lv_if_eq  (tgt := 33) hx hb dM_request_17 (by decide) (fun h1 => ?_) (fun h1 => ?_)
      · refine lv_iconst (v := -1) hx hb dM_request_33 (by decide) ?_
        exact grWi hC hr hlk rfl (mR.in hR hH) (by simp only [zReq, hkk]) dM_request_34
      · exact absurd rfl h1
set_option maxHeartbeats 600000 in
set_option maxRecDepth 100000 in
theorem goes_tail {p : Program} {e : Env} {R : Room} {s : State} {m : MethodId} {args : Array Value} {below : List Frame} {meth : Method} {c : Code} {H : Heap} {locs : List Loc} {cells slots : Nat} {Q : State → Prop} {ls : Array Slot} {A : Nat → Prop} {y : ms_S} {i j : Nat} (hC : mX D k p s m args c bM_goes 4) (hR : Rel x y) (hi : i < nW x) (hj : j < nR x) (hz : zSt (gW x i) = 0) (hs : rSt (gR x j) = 0) (hH : mG D k y A s.heap H locs) (hl : lv_has ls 4 [(0, .ref (mO k)), (1, .int (nI j)), (3, .int (nI i))]) (kk : ∀ (H1 : Heap) (locs1 : List Loc), gH D (mR k) (zBegin x j i) A s.heap H1 locs1 → W p l e R s m args below meth c H1 locs1 cells slots Q (F0 m 121 ls [])) : W p l e R s m args below meth c H locs cells slots Q (F0 m 83 ls []) := by
  have hok := hR.2.1
  have hi60 : i < 60 := Nat.lt_of_lt_of_le hi hok.1.2.1
  have hj3 : j < 100 := Nat.lt_of_lt_of_le hj hok.1.2.2
  have hR2 := hR.begin hi hj hz hs
  have hx := hC.1
  have hb := hC.2.1
  have hml := hC.2.2.2.2.2
  have hts := hC.2.2.1
  have hown := hC.2.2.2.1
  have hl : lv_has ls 4 [(0, _), (1, _), (3, _)] := hl
  first | refine lv_aload_n hx hb dM_goes_83 rfl (lv_at hl 0 rfl) ?_ | refine lv_aload_nN hx hb dM_goes_83 rfl (lv_at hl 0 rfl) ?_
  refine gM_state hC hH dM_goes_84 ?_
  refine lv_iload_n hx hb dM_goes_87 rfl (lv_at hl 2 rfl) ?_
  refine lv_iconst (v := 1) hx hb dM_goes_88 (by decide) ?_
  refine sM_i hC hH (by decide) (by assumption) dM_goes_89 (fun H locs hH => ?_)
  first | refine lv_aload_n hx hb dM_goes_90 rfl (lv_at hl 0 rfl) ?_ | refine lv_aload_nN hx hb dM_goes_90 rfl (lv_at hl 0 rfl) ?_
  refine gM_busyWith hC hH dM_goes_91 ?_
  refine lv_iload_n hx hb dM_goes_94 rfl (lv_at hl 2 rfl) ?_
  refine lv_iload_n hx hb dM_goes_95 rfl (lv_at hl 1 rfl) ?_
  refine sM_i hC hH (by decide) (by assumption) dM_goes_96 (fun H locs hH => ?_)
  first | refine lv_aload_n hx hb dM_goes_97 rfl (lv_at hl 0 rfl) ?_ | refine lv_aload_nN hx hb dM_goes_97 rfl (lv_at hl 0 rfl) ?_
  refine gM_kind hC hH dM_goes_98 ?_
  refine lv_iload_n hx hb dM_goes_101 rfl (lv_at hl 1 rfl) ?_
  refine lv_iconst (v := 1) hx hb dM_goes_102 (by decide) ?_
  refine sM_i hC hH (by decide) (by assumption) dM_goes_103 (fun H locs hH => ?_)
  first | refine lv_aload_n hx hb dM_goes_104 rfl (lv_at hl 0 rfl) ?_ | refine lv_aload_nN hx hb dM_goes_104 rfl (lv_at hl 0 rfl) ?_
  refine gM_by hC hH dM_goes_105 ?_
  refine lv_iload_n hx hb dM_goes_108 rfl (lv_at hl 1 rfl) ?_
  refine lv_iload_n hx hb dM_goes_109 rfl (lv_at hl 2 rfl) ?_
  refine sM_i hC hH (by decide) (by assumption) dM_goes_110 (fun H locs hH => ?_)
  first | refine lv_aload_n hx hb dM_goes_111 rfl (lv_at hl 0 rfl) ?_ | refine lv_aload_nN hx hb dM_goes_111 rfl (lv_at hl 0 rfl) ?_
  refine gM_begun hC hH dM_goes_112 ?_
  refine lv_iload_n hx hb dM_goes_115 rfl (lv_at hl 1 rfl) ?_
  refine lv_dup2_11 hx hb dM_goes_116 rfl rfl ?_
  refine aM_i hC hH (by decide) (by assumption) dM_goes_117 ?_
  refine lv_iconst (v := 1) hx hb dM_goes_118 (by decide) ?_
  refine lv_iadd hx hb dM_goes_119 ?_
  refine sM_i hC hH (by decide) (by assumption) dM_goes_120 (fun H locs hH => ?_)
  exact kk _ _ (mR.in hR2 hH)
set_option maxHeartbeats 600000 in
set_option maxRecDepth 100000 in
theorem m_goes (hI : mR k x LL f) {j : Nat} (hj : j < nR x) (hs : rSt (gR x j) = 0) : Met l yM_goes (wz yM_goes bM_goes 4 (some .boolean)) (rmL 1 0 0) (gP D (mk_tys k) LL f sz [.ref (mO k), .int (nI j)]) (va_Qi (fun (r : Int32) (u : cs_S) => (u, r) = zMove x j) (gB D (mk_tys k) (mR k) (va_A (va_pl LL f) sz)) (va_A (va_pl LL f) sz)) 0 0 (va_A (va_pl LL f) sz) := by
  refine gMet (own := RX4) (u := x) (Qc := fun A => va_Qi (fun (r : Int32) (u : cs_S) => (u, r) = zMove x j) (gB D (mk_tys k) (mR k) A) A) (by decide) rfl hI (Nat.le_of_ble_eq_true rfl) ?_
  intro p e s m below meth c ls A hC hr hlk hnm hA hH hl
  obtain ⟨y, hR, hH⟩ := mR.out hH
  obtain ⟨hnT, hnW, hnR⟩ := hR.n
  have hok := hR.2.1
  have hb6 := hok.1.1
  have hb60 := hok.1.2.1
  have hb100 := hok.1.2.2
  have hx := hC.1
  have hb := hC.2.1
  have hml := hC.2.2.2.2.2
  have hts := hC.2.2.1
  have hown := hC.2.2.2.1
  have hl : lv_has ls 4 [(0, _), (1, _)] := hl
  have q0 := hR.2.2.2.2.2.1 j hj
  have hj3 : j < 100 := by omega
  have ht : (rTo (gR x j)) < nT x := (hok.2.2 j hj).1
  have ht6 : (rTo (gR x j)) < 6 := by omega
  have qt := hR.2.2.2.1 (rTo (gR x j)) ht
  first | refine lv_aload_n hx hb dM_goes_0 rfl (lv_at hl 0 rfl) ?_ | refine lv_aload_nN hx hb dM_goes_0 rfl (lv_at hl 0 rfl) ?_
  refine gM_wants hC hH dM_goes_1 ?_
  refine lv_iload_n hx hb dM_goes_4 rfl (lv_at hl 1 rfl) ?_
  refine aM_i hC hH (by decide) (by assumption) dM_goes_5 ?_
  rw [q0.1]
  refine lv_istore_n hx hb dM_goes_6 rfl hl (by decide) rfl (fun ls hl => ?_)
  have hl : lv_has ls 4 [(2, _), (0, _), (1, _)] := hl
  first | refine lv_aload_n hx hb dM_goes_7 rfl (lv_at hl 1 rfl) ?_ | refine lv_aload_nN hx hb dM_goes_7 rfl (lv_at hl 1 rfl) ?_
  refine gM_barsOf hC hH dM_goes_8 ?_
  refine lv_iload_n hx hb dM_goes_11 rfl (lv_at hl 0 rfl) ?_
  refine aM_i hC hH (by decide) (by assumption) dM_goes_12 ?_
  refine lv_iconst (v := 3) hx hb dM_goes_13 (by decide) ?_
  rw [qt.2.2]
  refine lv_icmp_lt  (tgt := 40) hx hb dM_goes_14 (by decide) (fun h => ?_) (fun h => ?_)
  · first | refine lv_aload_n hx hb dM_goes_40 rfl (lv_at hl 1 rfl) ?_ | refine lv_aload_nN hx hb dM_goes_40 rfl (lv_at hl 1 rfl) ?_
    refine lv_iload_n hx hb dM_goes_41 rfl (lv_at hl 0 rfl) ?_
    refine gcVi hC hl.1 hH (fun LL f sz hI => m_freeOne hI (nI (rTo (gR x j))) (by omega)) mJ.o rfl rfl kM_118 ⟨Nat.le_of_ble_eq_true rfl, Nat.le_of_ble_eq_true rfl⟩ dM_goes_42 ⟨Nat.le_of_ble_eq_true rfl, Nat.le_of_ble_eq_true rfl⟩ rfl (Nat.le_of_ble_eq_true rfl) (fun r hr1 => ?_)
    rw [hR.freeOne ht] at hr1
    rcases hff : ffr x (rTo (gR x j)) 60 0 with _ | i
    · obtain rfl : r = -1 := by rw [hr1, hff]; rfl
      refine lv_istore_n hx hb dM_goes_45 rfl hl (by decide) rfl (fun ls hl => ?_)
      have hl : lv_has ls 4 [(3, _), (2, _), (0, _), (1, _)] := hl
      refine lv_iload_n hx hb dM_goes_46 rfl (lv_at hl 0 rfl) ?_
      refine lv_if_ge  (tgt := 77) hx hb dM_goes_47 (by decide) (fun h1 => ?_) (fun h1 => ?_)
      · exact absurd h1 (by decide)
      · first | refine lv_aload_n hx hb dM_goes_50 rfl (lv_at hl 2 rfl) ?_ | refine lv_aload_nN hx hb dM_goes_50 rfl (lv_at hl 2 rfl) ?_
        refine lv_iload_n hx hb dM_goes_51 rfl (lv_at hl 1 rfl) ?_
        refine gcVi hC hl.1 hH (fun LL f sz hI => m_alive hI (nI (rTo (gR x j))) (by omega)) mJ.o rfl rfl kM_122 ⟨Nat.le_of_ble_eq_true rfl, Nat.le_of_ble_eq_true rfl⟩ dM_goes_52 ⟨Nat.le_of_ble_eq_true rfl, Nat.le_of_ble_eq_true rfl⟩ rfl (Nat.le_of_ble_eq_true rfl) (fun r2 hr2 => ?_)
        rw [hR.alive ht] at hr2
        subst hr2
        have hmo : yMo y = cMo x := congrArg (fun q => q.1) hR.1.1
        first | refine lv_aload_n hx hb dM_goes_55 rfl (lv_at hl 2 rfl) ?_ | refine lv_aload_nN hx hb dM_goes_55 rfl (lv_at hl 2 rfl) ?_
        refine gM_most hC hH dM_goes_56 ?_
        rw [hmo]
        refine lv_icmp_ge  (tgt := 77) hx hb dM_goes_59 (by decide) (fun h2 => ?_) (fun h2 => ?_)
        · refine lv_iload_n hx hb dM_goes_77 rfl (lv_at hl 0 rfl) ?_
          refine lv_if_ge  (tgt := 83) hx hb dM_goes_78 (by decide) (fun h3 => ?_) (fun h3 => ?_)
          · exact absurd h3 (by decide)
          · refine lv_iconst (v := 0) hx hb dM_goes_81 (by decide) ?_
            exact grWi hC hr hlk rfl (mR.in hR hH) (by simp only [zMove, hff]; rw [if_neg (fun q => q h), if_neg (fun q => absurd q.2 (Int32.not_lt.mpr h2))]) dM_goes_82
        · first | refine lv_aload_n hx hb dM_goes_62 rfl (lv_at hl 2 rfl) ?_ | refine lv_aload_nN hx hb dM_goes_62 rfl (lv_at hl 2 rfl) ?_
          refine gM_workers hC hH dM_goes_63 ?_
          refine lv_bipush (v := 60) hx hb dM_goes_66 (by decide) ?_
          refine lv_icmp_ge  (tgt := 77) hx hb dM_goes_68 (by decide) (fun h4 => ?_) (fun h4 => ?_)
          · have hn : ¬ nW x < 60 := fun q => nI_ge (b := 60) (by omega) (by decide) h4
            refine lv_iload_n hx hb dM_goes_77 rfl (lv_at hl 0 rfl) ?_
            refine lv_if_ge  (tgt := 83) hx hb dM_goes_78 (by decide) (fun h3 => ?_) (fun h3 => ?_)
            · exact absurd h3 (by decide)
            · refine lv_iconst (v := 0) hx hb dM_goes_81 (by decide) ?_
              exact grWi hC hr hlk rfl (mR.in hR hH) (by simp only [zMove, hff]; rw [if_neg (fun q => q h), if_neg (fun q => hn q.1)]) dM_goes_82
          · have hn : nW x < 60 := Nat.lt_of_not_le (fun q => h4 (nI_le (a := 60) (by omega) (by omega)))
            have hnc : nW x < 60 ∧ cst x (rTo (gR x j)) 60 < cMo x := ⟨hn, Int32.not_le.mp h2⟩
            first | refine lv_aload_n hx hb dM_goes_71 rfl (lv_at hl 2 rfl) ?_ | refine lv_aload_nN hx hb dM_goes_71 rfl (lv_at hl 2 rfl) ?_
            refine lv_iload_n hx hb dM_goes_72 rfl (lv_at hl 1 rfl) ?_
            refine gcWVi hC hl.1 hA hH (fun LL f sz hI => m_newOne hI ht6 (by omega)) mJ.o rfl rfl kM_125 ⟨Nat.le_of_ble_eq_true rfl, Nat.le_of_ble_eq_true rfl⟩ dM_goes_73 ⟨Nat.le_of_ble_eq_true rfl, Nat.le_of_ble_eq_true rfl⟩ rfl (Nat.le_of_ble_eq_true rfl) (fun r3 u H locs hp hH => ?_)
            obtain ⟨rfl, rfl⟩ := hp
            have hR1 := hR.pushW hn ht
            rw [hnW]
            have hw3 : nW x < 60 := hn
            have hi1 : nW x < nW (aW x ((rTo (gR x j)), tEd (gT x (rTo (gR x j))), 0, 0, 0, 0, 0, none)) := Nat.lt_succ_self _
            refine lv_istore_n hx hb dM_goes_76 rfl hl (by decide) rfl (fun ls hl => ?_)
            have hl : lv_has ls 4 [(3, _), (2, _), (0, _), (1, _)] := hl
            refine lv_iload_n hx hb dM_goes_77 rfl (lv_at hl 0 rfl) ?_
            refine lv_if_ge  (tgt := 83) hx hb dM_goes_78 (by decide) (fun h3 => ?_) (fun h3 => ?_)
            · generalize yNew y (rTo (gR x j)) = y1 at hR1 hH
              refine goes_tail hC hR1 hi1 hj (by rw [gW_new]; rfl) hs hH (lv_sub hl [2, 3, 0] rfl) (fun H locs hH => ?_)
              refine lv_iconst (v := 1) hx hb dM_goes_121 (by decide) ?_
              exact grWi hC hr hlk rfl hH (by simp only [zMove, hff]; rw [if_neg (fun q => q h), if_pos hnc]) dM_goes_122
            · exact absurd (nI_pos' (by omega)) h3
    · obtain ⟨hi, hz⟩ := ffr_ok _ _ _ hff
      have hi60 : i < 60 := by omega
      obtain rfl : r = nI i := by rw [hr1, hff]; rfl
      refine lv_istore_n hx hb dM_goes_45 rfl hl (by decide) rfl (fun ls hl => ?_)
      have hl : lv_has ls 4 [(3, _), (2, _), (0, _), (1, _)] := hl
      refine lv_iload_n hx hb dM_goes_46 rfl (lv_at hl 0 rfl) ?_
      refine lv_if_ge  (tgt := 77) hx hb dM_goes_47 (by decide) (fun h1 => ?_) (fun h1 => ?_)
      · refine lv_iload_n hx hb dM_goes_77 rfl (lv_at hl 0 rfl) ?_
        refine lv_if_ge  (tgt := 83) hx hb dM_goes_78 (by decide) (fun h3 => ?_) (fun h3 => ?_)
        · refine goes_tail hC hR hi hj hz hs hH (lv_sub hl [2, 3, 0] rfl) (fun H locs hH => ?_)
          refine lv_iconst (v := 1) hx hb dM_goes_121 (by decide) ?_
          exact grWi hC hr hlk rfl hH (by simp only [zMove, hff]; rw [if_neg (fun q => q h)]) dM_goes_122
        · exact absurd (nI_pos' (by omega)) h3
      · exact absurd (nI_pos' (by omega)) h1
  · first | refine lv_aload_n hx hb dM_goes_17 rfl (lv_at hl 1 rfl) ?_ | refine lv_aload_nN hx hb dM_goes_17 rfl (lv_at hl 1 rfl) ?_
    refine lv_iload_n hx hb dM_goes_18 rfl (lv_at hl 2 rfl) ?_
    first | refine lv_aload_n hx hb dM_goes_19 rfl (lv_at hl 1 rfl) ?_ | refine lv_aload_nN hx hb dM_goes_19 rfl (lv_at hl 1 rfl) ?_
    first | refine lv_aload_n hx hb dM_goes_20 rfl (lv_at hl 1 rfl) ?_ | refine lv_aload_nN hx hb dM_goes_20 rfl (lv_at hl 1 rfl) ?_
    refine gM_editionOf hC hH dM_goes_21 ?_
    refine lv_iload_n hx hb dM_goes_24 rfl (lv_at hl 0 rfl) ?_
    refine aM_l hC hH (by decide) (by assumption) dM_goes_25 ?_
    first | refine lv_aload_n hx hb dM_goes_26 rfl (lv_at hl 1 rfl) ?_ | refine lv_aload_nN hx hb dM_goes_26 rfl (lv_at hl 1 rfl) ?_
    refine gM_input hC hH dM_goes_27 ?_
    refine lv_iload_n hx hb dM_goes_30 rfl (lv_at hl 2 rfl) ?_
    refine aM_l hC hH (by decide) (by assumption) dM_goes_31 ?_
    refine gcVl hC hl.1 hH (fun LL f sz hI => m_oneShot hI _ _) mJ.o rfl rfl kM_110 ⟨Nat.le_of_ble_eq_true rfl, Nat.le_of_ble_eq_true rfl⟩ dM_goes_32 ⟨Nat.le_of_ble_eq_true rfl, Nat.le_of_ble_eq_true rfl⟩ rfl (Nat.le_of_ble_eq_true rfl) (fun v hv => ?_)
    have hv2 : v = os (tEd (gT x (rTo (gR x j)))) (rIn (gR x j)) := by rw [hv, qt.1, q0.2.2.2.2.2.2.2.2.1]
    clear hv
    refine gcWVv hC hl.1 hA hH (fun LL f sz hI => m_answers hI hj3 v) mJ.o rfl rfl kM_114 ⟨Nat.le_of_ble_eq_true rfl, Nat.le_of_ble_eq_true rfl⟩ dM_goes_35 ⟨Nat.le_of_ble_eq_true rfl, Nat.le_of_ble_eq_true rfl⟩ rfl (Nat.le_of_ble_eq_true rfl) (fun u H locs hp hH => ?_)
    subst hp
    refine lv_iconst (v := 1) hx hb dM_goes_38 (by decide) ?_
    have hR2 := hR.bar hj hs v
    exact grWi hC hr hlk rfl (mR.in hR2 hH) (by simp only [zMove]; rw [if_pos h, hv2]) dM_goes_39
end M3
