section M6
theorem Rel.fin {x : cs_S} {y y1 : ms_S} {i j : Nat} {r' : cs_R} (h : Rel x y) (hi : i < nW x) (hq : wRq (gW x i) = some j) (hf : fr y y1 1000 j) (hf2 : fr y y1 i j) (hr : RR r' y1 j) (ht : rTo r' = rTo (gR x j)) (hn : rWk r' = none ∨ rWk r' = some i) : Rel (sR (sW x i (wFr_ (zFinW x i j) (cCl x))) j r') (sMI (sMI (sMI (sMI (sMI y1 12 i (wFi (gW x i) + 1)) 13 i (wMe (gW x i) + rSz (gR x j))) 14 i (-1)) 11 i 0) 17 i (yCl (sMI (sMI (sMI (sMI y1 12 i (wFi (gW x i) + 1)) 13 i (wMe (gW x i) + rSz (gR x j))) 14 i (-1)) 11 i 0))) ∧ Rel (sR (sW x i (wEn_ (zFinW x i j) 2)) j r') (yEnd (sMI (sMI (sMI (sMI (sMI y1 12 i (wFi (gW x i) + 1)) 13 i (wMe (gW x i) + rSz (gR x j))) 14 i (-1)) 11 i 0) 17 i (yCl (sMI (sMI (sMI (sMI y1 12 i (wFi (gW x i) + 1)) 13 i (wMe (gW x i) + rSz (gR x j))) 14 i (-1)) 11 i 0))) i 2) := by
  have hj := (h.2.1.2.1 i hi).2 j hq
  have hb60 := h.2.1.1.2.1
  have hb100 := h.2.1.1.2.2
  have e := fun a (ha : a < 19) => hf.2 a i (Or.inr (Or.inl ⟨ha, by omega⟩))
  obtain ⟨q1, q2, q3, q4, q5, q6, q7, q8, q9, q10⟩ := h.2.2.2.2.1 i hi
  have hen : wEn (gW x i) = 0 := Classical.byContradiction (fun z => by rw [q10 z] at hq; cases hq)
  have hcl : yCl (sMI (sMI (sMI (sMI y1 12 i (wFi (gW x i) + 1)) 13 i (wMe (gW x i) + rSz (gR x j))) 14 i (-1)) 11 i 0) = cCl x := (show y1.2.1 = _ from hf.1.2.1).trans h.1.2.1
  have hfr : fr y (sMI (sMI (sMI (sMI (sMI y1 12 i (wFi (gW x i) + 1)) 13 i (wMe (gW x i) + rSz (gR x j))) 14 i (-1)) 11 i 0) 17 i (yCl (sMI (sMI (sMI (sMI y1 12 i (wFi (gW x i) + 1)) 13 i (wMe (gW x i) + rSz (gR x j))) 14 i (-1)) 11 i 0))) i j := ((((hf2.iW 12 _ (by decide)).iW 13 _ (by decide)).iW 14 _ (by decide)).iW 11 _ (by decide)).iW 17 _ (by decide)
  have hfr1 : fr y1 (sMI (sMI (sMI (sMI (sMI y1 12 i (wFi (gW x i) + 1)) 13 i (wMe (gW x i) + rSz (gR x j))) 14 i (-1)) 11 i 0) 17 i (yCl (sMI (sMI (sMI (sMI y1 12 i (wFi (gW x i) + 1)) 13 i (wMe (gW x i) + rSz (gR x j))) 14 i (-1)) 11 i 0))) i 1000 := ((((fr.rf.iW 12 _ (by decide)).iW 13 _ (by decide)).iW 14 _ (by decide)).iW 11 _ (by decide)).iW 17 _ (by decide)
  have okr : rTo r' < nT x ∧ ∀ a, rWk r' = some a → a < nW x := ⟨by rw [ht]; exact (h.2.1.2.2 j hj).1, fun a z => by
    rcases hn with hn | hn
    · rw [hn] at z; cases z
    · rw [hn] at z; cases z; exact hi⟩
  have c10 : MI (sMI (sMI (sMI (sMI (sMI y1 12 i (wFi (gW x i) + 1)) 13 i (wMe (gW x i) + rSz (gR x j))) 14 i (-1)) 11 i 0) 17 i (yCl (sMI (sMI (sMI (sMI y1 12 i (wFi (gW x i) + 1)) 13 i (wMe (gW x i) + rSz (gR x j))) 14 i (-1)) 11 i 0))) 10 i = nI (wTo (gW x i)) := (show MI (sMI (sMI (sMI (sMI (sMI y1 12 i (wFi (gW x i) + 1)) 13 i (wMe (gW x i) + rSz (gR x j))) 14 i (-1)) 11 i 0) 17 i (yCl (sMI (sMI (sMI (sMI y1 12 i (wFi (gW x i) + 1)) 13 i (wMe (gW x i) + rSz (gR x j))) 14 i (-1)) 11 i 0))) 10 i = MI y1 10 i from by simp [MI_sMI]).trans ((e 10 (by omega)).1.trans q1)
  have c12 : MI (sMI (sMI (sMI (sMI (sMI y1 12 i (wFi (gW x i) + 1)) 13 i (wMe (gW x i) + rSz (gR x j))) 14 i (-1)) 11 i 0) 17 i (yCl (sMI (sMI (sMI (sMI y1 12 i (wFi (gW x i) + 1)) 13 i (wMe (gW x i) + rSz (gR x j))) 14 i (-1)) 11 i 0))) 12 i = wFi (gW x i) + 1 := by simp [MI_sMI]
  have c13 : MI (sMI (sMI (sMI (sMI (sMI y1 12 i (wFi (gW x i) + 1)) 13 i (wMe (gW x i) + rSz (gR x j))) 14 i (-1)) 11 i 0) 17 i (yCl (sMI (sMI (sMI (sMI y1 12 i (wFi (gW x i) + 1)) 13 i (wMe (gW x i) + rSz (gR x j))) 14 i (-1)) 11 i 0))) 13 i = wMe (gW x i) + rSz (gR x j) := by simp [MI_sMI]
  have c11 : MI (sMI (sMI (sMI (sMI (sMI y1 12 i (wFi (gW x i) + 1)) 13 i (wMe (gW x i) + rSz (gR x j))) 14 i (-1)) 11 i 0) 17 i (yCl (sMI (sMI (sMI (sMI y1 12 i (wFi (gW x i) + 1)) 13 i (wMe (gW x i) + rSz (gR x j))) 14 i (-1)) 11 i 0))) 11 i = 0 := by simp [MI_sMI]
  have c15 : MI (sMI (sMI (sMI (sMI (sMI y1 12 i (wFi (gW x i) + 1)) 13 i (wMe (gW x i) + rSz (gR x j))) 14 i (-1)) 11 i 0) 17 i (yCl (sMI (sMI (sMI (sMI y1 12 i (wFi (gW x i) + 1)) 13 i (wMe (gW x i) + rSz (gR x j))) 14 i (-1)) 11 i 0))) 15 i = wEn (gW x i) := (show MI (sMI (sMI (sMI (sMI (sMI y1 12 i (wFi (gW x i) + 1)) 13 i (wMe (gW x i) + rSz (gR x j))) 14 i (-1)) 11 i 0) 17 i (yCl (sMI (sMI (sMI (sMI y1 12 i (wFi (gW x i) + 1)) 13 i (wMe (gW x i) + rSz (gR x j))) 14 i (-1)) 11 i 0))) 15 i = MI y1 15 i from by simp [MI_sMI]).trans ((e 15 (by omega)).1.trans q6)
  have c16 : MI (sMI (sMI (sMI (sMI (sMI y1 12 i (wFi (gW x i) + 1)) 13 i (wMe (gW x i) + rSz (gR x j))) 14 i (-1)) 11 i 0) 17 i (yCl (sMI (sMI (sMI (sMI y1 12 i (wFi (gW x i) + 1)) 13 i (wMe (gW x i) + rSz (gR x j))) 14 i (-1)) 11 i 0))) 16 i = wTr (gW x i) := (show MI (sMI (sMI (sMI (sMI (sMI y1 12 i (wFi (gW x i) + 1)) 13 i (wMe (gW x i) + rSz (gR x j))) 14 i (-1)) 11 i 0) 17 i (yCl (sMI (sMI (sMI (sMI y1 12 i (wFi (gW x i) + 1)) 13 i (wMe (gW x i) + rSz (gR x j))) 14 i (-1)) 11 i 0))) 16 i = MI y1 16 i from by simp [MI_sMI]).trans ((e 16 (by omega)).1.trans q7)
  have c17 : MI (sMI (sMI (sMI (sMI (sMI y1 12 i (wFi (gW x i) + 1)) 13 i (wMe (gW x i) + rSz (gR x j))) 14 i (-1)) 11 i 0) 17 i (yCl (sMI (sMI (sMI (sMI y1 12 i (wFi (gW x i) + 1)) 13 i (wMe (gW x i) + rSz (gR x j))) 14 i (-1)) 11 i 0))) 17 i = cCl x := (show MI (sMI (sMI (sMI (sMI (sMI y1 12 i (wFi (gW x i) + 1)) 13 i (wMe (gW x i) + rSz (gR x j))) 14 i (-1)) 11 i 0) 17 i (yCl (sMI (sMI (sMI (sMI y1 12 i (wFi (gW x i) + 1)) 13 i (wMe (gW x i) + rSz (gR x j))) 14 i (-1)) 11 i 0))) 17 i = yCl (sMI (sMI (sMI (sMI y1 12 i (wFi (gW x i) + 1)) 13 i (wMe (gW x i) + rSz (gR x j))) 14 i (-1)) 11 i 0) from by simp [MI_sMI]).trans hcl
  have c18 : ML (sMI (sMI (sMI (sMI (sMI y1 12 i (wFi (gW x i) + 1)) 13 i (wMe (gW x i) + rSz (gR x j))) 14 i (-1)) 11 i 0) 17 i (yCl (sMI (sMI (sMI (sMI y1 12 i (wFi (gW x i) + 1)) 13 i (wMe (gW x i) + rSz (gR x j))) 14 i (-1)) 11 i 0))) 18 i = wEd (gW x i) := (e 18 (by omega)).2.trans q9
  have hr6 : RR r' (sMI (sMI (sMI (sMI (sMI y1 12 i (wFi (gW x i) + 1)) 13 i (wMe (gW x i) + rSz (gR x j))) 14 i (-1)) 11 i 0) 17 i (yCl (sMI (sMI (sMI (sMI y1 12 i (wFi (gW x i) + 1)) 13 i (wMe (gW x i) + rSz (gR x j))) 14 i (-1)) 11 i 0))) j := hr.mv hfr1 (by omega)
  generalize sMI (sMI (sMI (sMI (sMI y1 12 i (wFi (gW x i) + 1)) 13 i (wMe (gW x i) + rSz (gR x j))) 14 i (-1)) 11 i 0) 17 i (yCl (sMI (sMI (sMI (sMI y1 12 i (wFi (gW x i) + 1)) 13 i (wMe (gW x i) + rSz (gR x j))) 14 i (-1)) 11 i 0)) = y6 at hfr hr6 c10 c11 c12 c13 c15 c16 c17 c18 ⊢
  have hz : zSt (wFr_ (zFinW x i j) (cCl x)) = 0 := zSt_0.mpr ⟨hen, rfl⟩
  have hz2 : zSt (wEn_ (zFinW x i j) 2) = 2 := zSt_2.mpr (show ¬ (2 : Int32) = 0 by decide)
  refine ⟨h.upWR hi hj hfr ⟨c10, c11.trans hz.symm, c12, c13, fun a z => (by cases z), c15, c16, fun _ => c17, c18, fun _ => rfl⟩ hr6 ⟨(h.2.1.2.1 i hi).1, fun a z => by cases z⟩ okr (fun a z => by cases z) (h.onlyW hi hq), ?_⟩
  have hE : fr y6 (yEnd y6 i 2) i 1000 := fr.yEnd i 2 1000
  refine h.upWR hi hj (((hfr.iW 11 _ (by decide)).iW 15 _ (by decide)).iW 14 _ (by decide)) ⟨?_, ?_, ?_, ?_, fun a z => (by cases z), ?_, ?_, fun z => absurd (hz2.symm.trans z) (by decide), ?_, fun _ => rfl⟩ (hr6.mv hE (by omega)) ⟨(h.2.1.2.1 i hi).1, fun a z => by cases z⟩ okr (fun a z => by cases z) (h.onlyW hi hq)
  · exact (show MI (yEnd y6 i 2) 10 i = MI y6 10 i from by simp [yEnd, MI_sMI]).trans c10
  · rw [hz2]; simp [yEnd, MI_sMI]
  · exact (show MI (yEnd y6 i 2) 12 i = MI y6 12 i from by simp [yEnd, MI_sMI]).trans c12
  · exact (show MI (yEnd y6 i 2) 13 i = MI y6 13 i from by simp [yEnd, MI_sMI]).trans c13
  · simp [yEnd, MI_sMI]
  · exact (show MI (yEnd y6 i 2) 16 i = MI y6 16 i from by simp [yEnd, MI_sMI]).trans c16
  · exact c18
theorem RR.fin {r : cs_R} {y : ms_S} {i j : Nat} (h : RR r y j) (hw : rWk r = some i) (f1 : Int32) (g : Int64) : RR (qDone (rPl_ r f1) (some i) g) (if MI y 25 j = 0 then sMI (yAns y j g) 23 j f1 else yLet y j) j := by
  by_cases hu : MI y 25 j = 0
  · have hb : rUn r = false := bI_0.mp (by rw [← h.2.2.2.2.2.2.1]; exact hu)
    have e2 : qDone (rPl_ r f1) (some i) g = rRs_ (rWk_ (rSt_ (rPl_ r f1) 2) (some i)) g := if_neg (by show ¬ rUn r = true; rw [hb]; decide)
    obtain ⟨q1, q2, q3, q4, q5, q6, q7, q8, q9, q10, q11⟩ := h
    rw [if_pos hu, e2]
    exact ⟨(show MI (sMI (yAns y j g) 23 j f1) 19 j = MI y 19 j from by simp [MI_sMI, ML_sML, MI_sML, ML_sMI, yAns]).trans q1, (show MI (sMI (yAns y j g) 23 j f1) 20 j = MI y 20 j from by simp [MI_sMI, ML_sML, MI_sML, ML_sMI, yAns]).trans q2, by simp [yAns, MI_sMI, MI_sML], (show MI (sMI (yAns y j g) 23 j f1) 22 j = MI y 22 j from by simp [yAns, MI_sMI, MI_sML]).trans (q4.trans (by rw [hw])), fun _ _ => (by simp [yAns, MI_sMI, MI_sML]), (show MI (sMI (yAns y j g) 23 j f1) 24 j = MI y 24 j from by simp [MI_sMI, ML_sML, MI_sML, ML_sMI, yAns]).trans q6, (show MI (sMI (yAns y j g) 23 j f1) 25 j = MI y 25 j from by simp [MI_sMI, ML_sML, MI_sML, ML_sMI, yAns]).trans q7, (show MI (sMI (yAns y j g) 23 j f1) 26 j = MI y 26 j from by simp [MI_sMI, ML_sML, MI_sML, ML_sMI, yAns]).trans q8, (show ML (sMI (yAns y j g) 23 j f1) 27 j = ML y 27 j from by simp [MI_sMI, ML_sML, MI_sML, ML_sMI, yAns]).trans q9, by simp [yAns, ML_sML, ML_sMI], fun z => absurd (show (2 : Int32) = 0 from z) (by decide)⟩
  · have hb : rUn r = true := bI_f (by rw [← h.2.2.2.2.2.2.1]; exact hu)
    have e2 : qDone (rPl_ r f1) (some i) g = qCan (rPl_ r f1) := if_pos hb
    rw [if_neg hu, e2]
    have q := h.let hu
    exact ⟨q.1, q.2.1, q.2.2.1, q.2.2.2.1, fun z => absurd (show (3 : Int32) = 2 from z) (by decide), q.2.2.2.2.2⟩
variable {l : Launch} {D : va_G} {k : mk_F} {x : cs_S} {LL : List Nat} {f : Nat → va_E} {sz : Nat}
set_option maxHeartbeats 600000 in
set_option maxRecDepth 100000 in
theorem m_isBusy {y : ms_S} (hI : mJ k y LL f) (v : Int32) (hw : yW y ≤ 60) : Met l yM_isBusy (wz yM_isBusy bM_isBusy 2 (some .boolean)) (rmL 1 0 0) (gP D (mk_tys k) LL f sz [.ref (mO k), .int v]) (vp_Si (fun r => (∃ i : Nat, i < yW y ∧ v = nI i ∧ MI y 11 i = 1 ∧ r = 1) ∨ ((∀ i : Nat, i < yW y → v = nI i → ¬ MI y 11 i = 1) ∧ r = 0))) 0 0 (fun _ => False) := by
  refine gMetR (own := RX4) (u := y) (by decide) rfl hI (Nat.le_of_ble_eq_true rfl) ?_
  intro p e s m below meth c ls hC hr hlk hH hl
  have hx := hC.1
  have hb := hC.2.1
  have hml := hC.2.2.2.2.2
  have hts := hC.2.2.1
  have hown := hC.2.2.2.1
  have hl : lv_has ls 2 [(0, _), (1, _)] := hl
  refine lv_iload_n hx hb dM_isBusy_0 rfl (lv_at hl 1 rfl) ?_
  first | refine lv_aload_n hx hb dM_isBusy_1 rfl (lv_at hl 0 rfl) ?_ | refine lv_aload_nN hx hb dM_isBusy_1 rfl (lv_at hl 0 rfl) ?_
  refine gM_workers hC hH dM_isBusy_2 ?_
  refine gcTi hC.fix hl.1 (m_in v (yW y) (by omega)) kM_96 ⟨Nat.le_of_ble_eq_true rfl, Nat.le_of_ble_eq_true rfl⟩ dM_isBusy_5 ⟨Nat.le_of_ble_eq_true rfl, Nat.le_of_ble_eq_true rfl⟩ rfl (Nat.le_of_ble_eq_true rfl) (fun r hr1 => ?_)
  rcases hr1 with ⟨i, hi, hv, rfl⟩ | ⟨hv, rfl⟩
  · subst hv
    have hi3 : i < 60 := by omega
    refine lv_if_eq  (tgt := 25) hx hb dM_isBusy_8 (by decide) (fun h => ?_) (fun h => ?_)
    · exact absurd h (by decide)
    · first | refine lv_aload_n hx hb dM_isBusy_11 rfl (lv_at hl 0 rfl) ?_ | refine lv_aload_nN hx hb dM_isBusy_11 rfl (lv_at hl 0 rfl) ?_
      refine gM_state hC hH dM_isBusy_12 ?_
      refine lv_iload_n hx hb dM_isBusy_15 rfl (lv_at hl 1 rfl) ?_
      refine aM_i hC hH (by decide) (by assumption) dM_isBusy_16 ?_
      refine lv_iconst (v := 1) hx hb dM_isBusy_17 (by decide) ?_
      refine lv_icmp_ne  (tgt := 25) hx hb dM_isBusy_18 (by decide) (fun h2 => ?_) (fun h2 => ?_)
      · refine lv_iconst (v := 0) hx hb dM_isBusy_25 (by decide) ?_
        exact grSi hC hr hlk rfl (Or.inr ⟨fun a ha hva => by rw [← (nI_eq (by omega) (by omega)).mp hva]; exact h2, rfl⟩) dM_isBusy_26
      · refine lv_iconst (v := 1) hx hb dM_isBusy_21 (by decide) ?_
        refine lv_goto (tgt := 26) hx hb dM_isBusy_22 (by decide) ?_
        exact grSi hC hr hlk rfl (Or.inl ⟨i, hi, rfl, h2, rfl⟩) dM_isBusy_26
  · refine lv_if_eq  (tgt := 25) hx hb dM_isBusy_8 (by decide) (fun h => ?_) (fun h => ?_)
    · refine lv_iconst (v := 0) hx hb dM_isBusy_25 (by decide) ?_
      exact grSi hC hr hlk rfl (Or.inr ⟨fun a ha hva => absurd hva (hv a ha), rfl⟩) dM_isBusy_26
    · exact absurd rfl h
set_option maxHeartbeats 600000 in
set_option maxRecDepth 100000 in
theorem fin_tail {p : Program} {e : Env} {R : Room} {s : State} {m : MethodId} {args : Array Value} {below : List Frame} {meth : Method} {c : Code} {H : Heap} {locs : List Loc} {Q : State → Prop} {ls : Array Slot} {A : Nat → Prop} {y y1 : ms_S} {i j : Nat} {r' : cs_R} (hC : mX D k p s m args c bM_finish 4) (hRR : 1 ≤ R.frames ∧ 34 ≤ R.locals) (hA : ∀ q : Nat, s.heap.size ≤ q → A q) (hR : Rel x y) (hi : i < nW x) (hq : wRq (gW x i) = some j) (hf : fr y y1 1000 j) (hf2 : fr y y1 i j) (hr : RR r' y1 j) (ht : rTo r' = rTo (gR x j)) (hn : rWk r' = none ∨ rWk r' = some i) (hsz : rSz r' = rSz (gR x j)) (hH : mG D k y1 A s.heap H locs) (hl : lv_has ls 4 [(0, .ref (mO k)), (1, .int (nI i)), (2, .int (nI j))]) (kk : ∀ (ls : Array Slot) (H1 : Heap) (locs1 : List Loc) (x' : cs_S), x' = (if wMe (zFinW x i j) ≤ cBo x then sR (sW x i (wFr_ (zFinW x i j) (cCl x))) j r' else sR (sW x i (wEn_ (zFinW x i j) 2)) j r') → gH D (mR k) x' A s.heap H1 locs1 → W p l e R s m args below meth c H1 locs1 0 0 Q (F0 m 161 ls [.int (nI j)])) : W p l e R s m args below meth c H locs 0 0 Q (F0 m 91 ls []) := by
  have hok := hR.2.1
  have hj := (hok.2.1 i hi).2 j hq
  have hi60 : i < 60 := Nat.lt_of_lt_of_le hi hok.1.2.1
  have hj3 : j < 100 := Nat.lt_of_lt_of_le hj hok.1.2.2
  obtain ⟨q1, q2, q3, q4, q5, q6, q7, q8, q9, q10⟩ := hR.2.2.2.2.1 i hi
  have ec := fun a (ha : a < 19) => (hf.2 a i (Or.inr (Or.inl ⟨ha, by omega⟩))).1
  have e12 : MI y1 12 i = wFi (gW x i) := (ec 12 (by omega)).trans q3
  have e13 : MI (sMI y1 12 i (wFi (gW x i) + 1)) 13 i = wMe (gW x i) := (show MI (sMI y1 12 i (wFi (gW x i) + 1)) 13 i = MI y1 13 i from by simp [MI_sMI]).trans ((ec 13 (by omega)).trans q4)
  have e20 : MI (sMI y1 12 i (wFi (gW x i) + 1)) 20 j = rSz (gR x j) := (show MI (sMI y1 12 i (wFi (gW x i) + 1)) 20 j = MI y1 20 j from by simp [MI_sMI]).trans (hr.2.1.trans hsz)
  have e13b : MI (sMI (sMI (sMI (sMI (sMI y1 12 i (wFi (gW x i) + 1)) 13 i (wMe (gW x i) + rSz (gR x j))) 14 i (-1)) 11 i 0) 17 i (yCl (sMI (sMI (sMI (sMI y1 12 i (wFi (gW x i) + 1)) 13 i (wMe (gW x i) + rSz (gR x j))) 14 i (-1)) 11 i 0))) 13 i = wMe (gW x i) + rSz (gR x j) := by simp [MI_sMI]
  have hbo : yBo y1 = cBo x := (congrArg (fun q => q.2.1) hf.1.1).trans (congrArg (fun q => q.2.1) hR.1.1)
  obtain ⟨hRa, hRb⟩ := hR.fin hi hq hf hf2 hr ht hn
  have hx := hC.1
  have hb := hC.2.1
  have hml := hC.2.2.2.2.2
  have hts := hC.2.2.1
  have hown := hC.2.2.2.1
  have hl : lv_has ls 4 [(0, _), (1, _), (2, _)] := hl
  first | refine lv_aload_n hx hb dM_finish_91 rfl (lv_at hl 0 rfl) ?_ | refine lv_aload_nN hx hb dM_finish_91 rfl (lv_at hl 0 rfl) ?_
  refine gM_finished hC hH dM_finish_92 ?_
  refine lv_iload_n hx hb dM_finish_95 rfl (lv_at hl 1 rfl) ?_
  refine lv_dup2_11 hx hb dM_finish_96 rfl rfl ?_
  refine aM_i hC hH (by decide) (by assumption) dM_finish_97 ?_
  rw [e12]
  refine lv_iconst (v := 1) hx hb dM_finish_98 (by decide) ?_
  refine lv_iadd hx hb dM_finish_99 ?_
  refine sM_i hC hH (by decide) (by assumption) dM_finish_100 (fun H locs hH => ?_)
  first | refine lv_aload_n hx hb dM_finish_101 rfl (lv_at hl 0 rfl) ?_ | refine lv_aload_nN hx hb dM_finish_101 rfl (lv_at hl 0 rfl) ?_
  refine gM_memory hC hH dM_finish_102 ?_
  refine lv_iload_n hx hb dM_finish_105 rfl (lv_at hl 1 rfl) ?_
  refine lv_dup2_11 hx hb dM_finish_106 rfl rfl ?_
  refine aM_i hC hH (by decide) (by assumption) dM_finish_107 ?_
  rw [e13]
  first | refine lv_aload_n hx hb dM_finish_108 rfl (lv_at hl 0 rfl) ?_ | refine lv_aload_nN hx hb dM_finish_108 rfl (lv_at hl 0 rfl) ?_
  refine gM_size hC hH dM_finish_109 ?_
  refine lv_iload_n hx hb dM_finish_112 rfl (lv_at hl 2 rfl) ?_
  refine aM_i hC hH (by decide) (by assumption) dM_finish_113 ?_
  rw [e20]
  refine lv_iadd hx hb dM_finish_114 ?_
  refine sM_i hC hH (by decide) (by assumption) dM_finish_115 (fun H locs hH => ?_)
  first | refine lv_aload_n hx hb dM_finish_116 rfl (lv_at hl 0 rfl) ?_ | refine lv_aload_nN hx hb dM_finish_116 rfl (lv_at hl 0 rfl) ?_
  refine gM_busyWith hC hH dM_finish_117 ?_
  refine lv_iload_n hx hb dM_finish_120 rfl (lv_at hl 1 rfl) ?_
  refine lv_iconst (v := -1) hx hb dM_finish_121 (by decide) ?_
  refine sM_i hC hH (by decide) (by assumption) dM_finish_122 (fun H locs hH => ?_)
  first | refine lv_aload_n hx hb dM_finish_123 rfl (lv_at hl 0 rfl) ?_ | refine lv_aload_nN hx hb dM_finish_123 rfl (lv_at hl 0 rfl) ?_
  refine gM_state hC hH dM_finish_124 ?_
  refine lv_iload_n hx hb dM_finish_127 rfl (lv_at hl 1 rfl) ?_
  refine lv_iconst (v := 0) hx hb dM_finish_128 (by decide) ?_
  refine sM_i hC hH (by decide) (by assumption) dM_finish_129 (fun H locs hH => ?_)
  first | refine lv_aload_n hx hb dM_finish_130 rfl (lv_at hl 0 rfl) ?_ | refine lv_aload_nN hx hb dM_finish_130 rfl (lv_at hl 0 rfl) ?_
  refine gM_since hC hH dM_finish_131 ?_
  refine lv_iload_n hx hb dM_finish_134 rfl (lv_at hl 1 rfl) ?_
  first | refine lv_aload_n hx hb dM_finish_135 rfl (lv_at hl 0 rfl) ?_ | refine lv_aload_nN hx hb dM_finish_135 rfl (lv_at hl 0 rfl) ?_
  refine gM_clock hC hH dM_finish_136 ?_
  refine sM_i hC hH (by decide) (by assumption) dM_finish_139 (fun H locs hH => ?_)
  first | refine lv_aload_n hx hb dM_finish_140 rfl (lv_at hl 0 rfl) ?_ | refine lv_aload_nN hx hb dM_finish_140 rfl (lv_at hl 0 rfl) ?_
  refine gM_memory hC hH dM_finish_141 ?_
  refine lv_iload_n hx hb dM_finish_144 rfl (lv_at hl 1 rfl) ?_
  refine aM_i hC hH (by decide) (by assumption) dM_finish_145 ?_
  rw [e13b]
  first | refine lv_aload_n hx hb dM_finish_146 rfl (lv_at hl 0 rfl) ?_ | refine lv_aload_nN hx hb dM_finish_146 rfl (lv_at hl 0 rfl) ?_
  refine gM_bound hC hH dM_finish_147 ?_
  refine lv_icmp_le  (tgt := 160) hx hb dM_finish_150 (by decide) (fun h => ?_) (fun h => ?_)
  · have h2 : wMe (gW x i) + rSz (gR x j) ≤ yBo y1 := h
    rw [hbo] at h2
    refine lv_iload_n hx hb dM_finish_160 rfl (lv_at hl 2 rfl) ?_
    exact kk ls H locs _ (if_pos h2).symm (mR.in hRa hH)
  · have h2 : ¬ wMe (gW x i) + rSz (gR x j) ≤ yBo y1 := h
    rw [hbo] at h2
    generalize sMI (sMI (sMI (sMI (sMI y1 12 i (wFi (gW x i) + 1)) 13 i (wMe (gW x i) + rSz (gR x j))) 14 i (-1)) 11 i 0) 17 i (yCl (sMI (sMI (sMI (sMI y1 12 i (wFi (gW x i) + 1)) 13 i (wMe (gW x i) + rSz (gR x j))) 14 i (-1)) 11 i 0)) = y6 at hRb hH
    first | refine lv_aload_n hx hb dM_finish_153 rfl (lv_at hl 0 rfl) ?_ | refine lv_aload_nN hx hb dM_finish_153 rfl (lv_at hl 0 rfl) ?_
    refine lv_iload_n hx hb dM_finish_154 rfl (lv_at hl 1 rfl) ?_
    refine lv_iconst (v := 2) hx hb dM_finish_155 (by decide) ?_
    refine gcWVi hC hl.1 hA hH (fun LL f sz hI => m_ends hI hi60 2) mJ.o rfl rfl kM_137 ⟨by omega, by omega⟩ dM_finish_156 ⟨Nat.zero_le _, Nat.zero_le _⟩ rfl (Nat.le_of_ble_eq_true rfl) (fun r u H locs hp hH => ?_)
    obtain ⟨hp1, hp2⟩ := hp
    subst hp1
    refine lv_istore_n hx hb dM_finish_159 rfl hl (by decide) rfl (fun ls hl => ?_)
    have hl : lv_has ls 4 [(3, _), (0, _), (1, _), (2, _)] := hl
    refine lv_iload_n hx hb dM_finish_160 rfl (lv_at hl 3 rfl) ?_
    exact kk ls H locs _ (if_neg h2).symm (mR.in hRb hH)
set_option maxHeartbeats 600000 in
set_option maxRecDepth 100000 in
theorem m_finish (hI : mR k x LL f) (v : Int32) : Met l yM_finish (wz yM_finish bM_finish 4 (some .int)) (rmL 2 0 0) (gP D (mk_tys k) LL f sz [.ref (mO k), .int v]) (va_Qi (fun (r : Int32) (u : cs_S) => (u, r) = zFin x v) (gB D (mk_tys k) (mR k) (va_A (va_pl LL f) sz)) (va_A (va_pl LL f) sz)) 0 0 (va_A (va_pl LL f) sz) := by
  refine gMet (own := RX4) (u := x) (Qc := fun A => va_Qi (fun (r : Int32) (u : cs_S) => (u, r) = zFin x v) (gB D (mk_tys k) (mR k) A) A) (by decide) rfl hI (Nat.le_of_ble_eq_true rfl) ?_
  intro p e s m below meth c ls A hC hr hlk hnm hA hH hl
  obtain ⟨y, hR, hH⟩ := mR.out hH
  obtain ⟨hnT, hnW, hnR⟩ := hR.n
  have hok := hR.2.1
  have hb6 := hok.1.1
  have hb60 := hok.1.2.1
  have hb100 := hok.1.2.2
  have hx := hC.1
  have hb := hC.2.1
  have hml := hC.2.2.2.2.2
  have hts := hC.2.2.1
  have hown := hC.2.2.2.1
  have hl : lv_has ls 4 [(0, _), (1, _)] := hl
  first | refine lv_aload_n hx hb dM_finish_0 rfl (lv_at hl 0 rfl) ?_ | refine lv_aload_nN hx hb dM_finish_0 rfl (lv_at hl 0 rfl) ?_
  refine lv_iload_n hx hb dM_finish_1 rfl (lv_at hl 1 rfl) ?_
  refine gcVi hC hl.1 hH (fun LL f sz hI => m_isBusy hI v (by omega)) mJ.o rfl rfl kM_131 ⟨Nat.le_of_ble_eq_true rfl, Nat.le_of_ble_eq_true rfl⟩ dM_finish_2 ⟨Nat.le_of_ble_eq_true rfl, Nat.le_of_ble_eq_true rfl⟩ rfl (Nat.le_of_ble_eq_true rfl) (fun r hr1 => ?_)
  rcases hr1 with ⟨i, hi, hv, h11, rfl⟩ | ⟨hv, rfl⟩
  · have hi2 : i < nW x := by rw [← hnW]; exact hi
    have hi3 : i < 60 := by omega
    have hkk : lk (nW x) v = some i := by rw [hv]; exact lk_in hi2 (by omega)
    subst hv
    have q0 := hR.2.2.2.2.1 i hi2
    rw [q0.2.1] at h11
    refine lv_if_ne  (tgt := 10) hx hb dM_finish_5 (by decide) (fun h => ?_) (fun h => ?_)
    · rcases hq : wRq (gW x i) with _ | j
      · exact absurd hq (zSt_1.mp h11).2
      · have hj := (hok.2.1 i hi2).2 j hq
        have hj3 : j < 100 := by omega
        have qr := hR.2.2.2.2.2.1 j hj
        have hx7 := hR.2.2.2.2.2.2.1 i j hi2 hq
        have hti := (hok.2.1 i hi2).1
        have hti6 : wTo (gW x i) < 6 := by omega
        have qt := hR.2.2.2.1 (wTo (gW x i)) hti
        obtain ⟨gv, hgv⟩ : ∃ gv, gv = zGive x i j := ⟨_, rfl⟩
        have hrf := qr.fin hx7.1 (wFi (gW x i) + 1) gv
        have hpost : ∀ x', x' = (if wMe (zFinW x i j) ≤ cBo x then sR (sW x i (wFr_ (zFinW x i j) (cCl x))) j (qDone (rPl_ (gR x j) (wFi (gW x i) + 1)) (some i) gv) else sR (sW x i (wEn_ (zFinW x i j) 2)) j (qDone (rPl_ (gR x j) (wFi (gW x i) + 1)) (some i) gv)) → (x', nI j) = zFin x (nI i) := by
          intro x' hx'
          simp only [zFin, hkk, hq, zFinR]
          rw [hx', ← hgv]
          split <;> rfl
        have hqd : ∀ c : cs_R, rTo (qDone c (some i) gv) = rTo c ∧ (rWk (qDone c (some i) gv) = none ∨ rWk (qDone c (some i) gv) = some i) ∧ rSz (qDone c (some i) gv) = rSz c := fun c => by
          unfold qDone
          split
          · exact ⟨rfl, Or.inl rfl, rfl⟩
          · exact ⟨rfl, Or.inr rfl, rfl⟩
        first | refine lv_aload_n hx hb dM_finish_10 rfl (lv_at hl 0 rfl) ?_ | refine lv_aload_nN hx hb dM_finish_10 rfl (lv_at hl 0 rfl) ?_
        refine gM_busyWith hC hH dM_finish_11 ?_
        refine lv_iload_n hx hb dM_finish_14 rfl (lv_at hl 1 rfl) ?_
        refine aM_i hC hH (by decide) (by assumption) dM_finish_15 ?_
        rw [q0.2.2.2.2.1 j hq]
        refine lv_istore_n hx hb dM_finish_16 rfl hl (by decide) rfl (fun ls hl => ?_)
        have hl : lv_has ls 4 [(2, _), (0, _), (1, _)] := hl
        first | refine lv_aload_n hx hb dM_finish_17 rfl (lv_at hl 1 rfl) ?_ | refine lv_aload_nN hx hb dM_finish_17 rfl (lv_at hl 1 rfl) ?_
        refine gM_isUnwanted hC hH dM_finish_18 ?_
        refine lv_iload_n hx hb dM_finish_21 rfl (lv_at hl 0 rfl) ?_
        refine aM_z hC hH (by decide) (by assumption) dM_finish_22 ?_
        refine lv_if_eq  (tgt := 35) hx hb dM_finish_23 (by decide) (fun h2 => ?_) (fun h2 => ?_)
        · rw [if_pos h2] at hrf
          first | refine lv_aload_n hx hb dM_finish_35 rfl (lv_at hl 1 rfl) ?_ | refine lv_aload_nN hx hb dM_finish_35 rfl (lv_at hl 1 rfl) ?_
          refine lv_iload_n hx hb dM_finish_36 rfl (lv_at hl 0 rfl) ?_
          first | refine lv_aload_n hx hb dM_finish_37 rfl (lv_at hl 1 rfl) ?_ | refine lv_aload_nN hx hb dM_finish_37 rfl (lv_at hl 1 rfl) ?_
          first | refine lv_aload_n hx hb dM_finish_38 rfl (lv_at hl 1 rfl) ?_ | refine lv_aload_nN hx hb dM_finish_38 rfl (lv_at hl 1 rfl) ?_
          refine gM_startedWith hC hH dM_finish_39 ?_
          refine lv_iload_n hx hb dM_finish_42 rfl (lv_at hl 2 rfl) ?_
          refine aM_l hC hH (by decide) (by assumption) dM_finish_43 ?_
          first | refine lv_aload_n hx hb dM_finish_44 rfl (lv_at hl 1 rfl) ?_ | refine lv_aload_nN hx hb dM_finish_44 rfl (lv_at hl 1 rfl) ?_
          refine gM_input hC hH dM_finish_45 ?_
          refine lv_iload_n hx hb dM_finish_48 rfl (lv_at hl 0 rfl) ?_
          refine aM_l hC hH (by decide) (by assumption) dM_finish_49 ?_
          refine gcVl hC hl.1 hH (fun LL f sz hI => m_oneShot hI _ _) mJ.o rfl rfl kM_110 ⟨Nat.le_of_ble_eq_true rfl, Nat.le_of_ble_eq_true rfl⟩ dM_finish_50 ⟨Nat.le_of_ble_eq_true rfl, Nat.le_of_ble_eq_true rfl⟩ rfl (Nat.le_of_ble_eq_true rfl) (fun ov hov => ?_)
          first | refine lv_aload_n hx hb dM_finish_53 rfl (lv_at hl 1 rfl) ?_ | refine lv_aload_nN hx hb dM_finish_53 rfl (lv_at hl 1 rfl) ?_
          refine gM_quirkOf hC hH dM_finish_54 ?_
          first | refine lv_aload_n hx hb dM_finish_57 rfl (lv_at hl 1 rfl) ?_ | refine lv_aload_nN hx hb dM_finish_57 rfl (lv_at hl 1 rfl) ?_
          refine gM_toolOf hC hH dM_finish_58 ?_
          refine lv_iload_n hx hb dM_finish_61 rfl (lv_at hl 2 rfl) ?_
          refine aM_i hC hH (by decide) (by assumption) dM_finish_62 ?_
          rw [q0.1]
          refine aM_i hC hH (by decide) (by assumption) dM_finish_63 ?_
          rw [qt.2.1]
          refine lv_i2l hx hb dM_finish_64 rfl ?_
          first | refine lv_aload_n hx hb dM_finish_65 rfl (lv_at hl 1 rfl) ?_ | refine lv_aload_nN hx hb dM_finish_65 rfl (lv_at hl 1 rfl) ?_
          refine gM_finished hC hH dM_finish_66 ?_
          refine lv_iload_n hx hb dM_finish_69 rfl (lv_at hl 2 rfl) ?_
          refine aM_i hC hH (by decide) (by assumption) dM_finish_70 ?_
          rw [q0.2.2.1]
          refine lv_i2l hx hb dM_finish_71 rfl ?_
          refine lv_lmul hx hb dM_finish_72 ?_
          refine lv_ladd hx hb dM_finish_73 ?_
          refine lv_topl (fun g2 hg2 => ?_)
          have hg3 : g2 = gv := by rw [hg2, hgv, hov, q0.2.2.2.2.2.2.2.2.1, qr.2.2.2.2.2.2.2.2.1]; rfl
          clear hg2
          subst hg3
          refine gcWVv hC hl.1 hA hH (fun LL f sz hI => m_answers hI hj3 g2) mJ.o rfl rfl kM_114 ⟨Nat.le_of_ble_eq_true rfl, Nat.le_of_ble_eq_true rfl⟩ dM_finish_74 ⟨Nat.le_of_ble_eq_true rfl, Nat.le_of_ble_eq_true rfl⟩ rfl (Nat.le_of_ble_eq_true rfl) (fun u H locs hp hH => ?_)
          subst hp
          have e12 : MI (yAns y j g2) 12 i = wFi (gW x i) := (show MI (yAns y j g2) 12 i = MI y 12 i from by simp [yAns, MI_sMI, MI_sML]).trans q0.2.2.1
          first | refine lv_aload_n hx hb dM_finish_77 rfl (lv_at hl 1 rfl) ?_ | refine lv_aload_nN hx hb dM_finish_77 rfl (lv_at hl 1 rfl) ?_
          refine gM_place hC hH dM_finish_78 ?_
          refine lv_iload_n hx hb dM_finish_81 rfl (lv_at hl 0 rfl) ?_
          first | refine lv_aload_n hx hb dM_finish_82 rfl (lv_at hl 1 rfl) ?_ | refine lv_aload_nN hx hb dM_finish_82 rfl (lv_at hl 1 rfl) ?_
          refine gM_finished hC hH dM_finish_83 ?_
          refine lv_iload_n hx hb dM_finish_86 rfl (lv_at hl 2 rfl) ?_
          refine aM_i hC hH (by decide) (by assumption) dM_finish_87 ?_
          rw [e12]
          refine lv_iconst (v := 1) hx hb dM_finish_88 (by decide) ?_
          refine lv_iadd hx hb dM_finish_89 ?_
          refine sM_i hC hH (by decide) (by assumption) dM_finish_90 (fun H locs hH => ?_)
          refine fin_tail (y1 := sMI (yAns y j g2) 23 j (wFi (gW x i) + 1)) hC ⟨Nat.le_of_ble_eq_true rfl, Nat.le_of_ble_eq_true rfl⟩ hA hR hi2 hq ((fr.rf.ans g2).iR 23 _ (by decide)) ((fr.rf.ans g2).iR 23 _ (by decide)) hrf (hqd _).1 (hqd _).2.1 (hqd _).2.2 hH (lv_sub hl [1, 2, 0] rfl) (fun ls H locs x' hx' hH => ?_)
          exact grWi hC hr hlk rfl hH (hpost x' hx') dM_finish_161
        · rw [if_neg h2] at hrf
          first | refine lv_aload_n hx hb dM_finish_26 rfl (lv_at hl 1 rfl) ?_ | refine lv_aload_nN hx hb dM_finish_26 rfl (lv_at hl 1 rfl) ?_
          refine lv_iload_n hx hb dM_finish_27 rfl (lv_at hl 0 rfl) ?_
          refine gcWVi hC hl.1 hA hH (fun LL f sz hI => m_lets hI hj3) mJ.o rfl rfl kM_103 ⟨Nat.le_of_ble_eq_true rfl, Nat.le_of_ble_eq_true rfl⟩ dM_finish_28 ⟨Nat.le_of_ble_eq_true rfl, Nat.le_of_ble_eq_true rfl⟩ rfl (Nat.le_of_ble_eq_true rfl) (fun r2 u H locs hp hH => ?_)
          obtain ⟨hp1, hp2⟩ := hp
          subst hp1
          refine lv_istore_n hx hb dM_finish_31 rfl hl (by decide) rfl (fun ls hl => ?_)
          have hl : lv_has ls 4 [(3, _), (2, _), (0, _), (1, _)] := hl
          refine lv_goto (tgt := 91) hx hb dM_finish_32 (by decide) ?_
          refine fin_tail (y1 := yLet y j) hC ⟨Nat.le_of_ble_eq_true rfl, Nat.le_of_ble_eq_true rfl⟩ hA hR hi2 hq fr.rf.let fr.rf.let hrf (hqd _).1 (hqd _).2.1 (hqd _).2.2 hH (lv_sub hl [2, 3, 1] rfl) (fun ls H locs x' hx' hH => ?_)
          exact grWi hC hr hlk rfl hH (hpost x' hx') dM_finish_161
    · exact absurd h (by decide)
  · refine lv_if_ne  (tgt := 10) hx hb dM_finish_5 (by decide) (fun h => ?_) (fun h => ?_)
    · exact absurd rfl h
    · refine lv_iconst (v := -1) hx hb dM_finish_8 (by decide) ?_
      have hno : (x, (-1 : Int32)) = zFin x v := by
        unfold zFin
        rcases hkk : lk (nW x) v with _ | i
        · rfl
        · obtain ⟨hi, hv2⟩ := lk_some hkk (by omega)
          have h11 := hv i (by omega) hv2
          rw [(hR.2.2.2.2.1 i hi).2.1] at h11
          rcases hq : wRq (gW x i) with _ | j
          · simp only [hq]
          · exact absurd (zSt_1.mpr ⟨Classical.byContradiction (fun z => by have := (hR.2.2.2.2.1 i hi).2.2.2.2.2.2.2.2.2 z; rw [hq] at this; cases this), by rw [hq]; simp⟩) h11
      exact grWi hC hr hlk rfl (mR.in hR hH) hno dM_finish_9
end M6
