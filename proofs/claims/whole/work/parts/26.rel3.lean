section RL3
variable {x : cs_S} {y y0 : ms_S} {i j : Nat}
theorem fr.let (h : fr y0 y i j) : fr y0 (yLet y j) i j := by
  unfold yLet
  split
  · exact h.iR 22 (-1) (by decide)
  · exact ((h.iR 22 (-1) (by decide)).iR 25 0 (by decide)).iR 21 3 (by decide)
theorem fr.wai (h : fr y0 y i j) : fr y0 (yWai y j) i j := by
  unfold yWai
  split
  · exact (h.iR 22 (-1) (by decide)).iR 21 0 (by decide)
  · exact h.let
theorem ML_let (y : ms_S) (j : Nat) : ML (yLet y j) = ML y := by
  unfold yLet
  split <;> rfl
theorem fr.ans (h : fr y0 y i j) (v : Int64) : fr y0 (yAns y j v) i j := (h.iR 21 2 (by decide)).lR 28 v (by decide)
theorem bI_f {b : Bool} (h : ¬ bI b = 0) : b = true := by
  cases b
  · exact absurd rfl h
  · rfl
theorem RR.let {r : cs_R} (h : RR r y j) (hu : ¬ MI y 25 j = 0) : RR (qCan r) (yLet y j) j := by
  obtain ⟨q1, q2, q3, q4, q5, q6, q7, q8, q9, q10, q11⟩ := h
  have e : yLet y j = sMI (sMI (sMI y 22 j (-1)) 25 j 0) 21 j 3 := if_neg hu
  rw [e]
  exact ⟨(show MI (sMI (sMI (sMI y 22 j (-1)) 25 j 0) 21 j 3) 19 j = MI y 19 j from by simp [MI_sMI, ML_sML, MI_sML, ML_sMI]).trans q1, (show MI (sMI (sMI (sMI y 22 j (-1)) 25 j 0) 21 j 3) 20 j = MI y 20 j from by simp [MI_sMI, ML_sML, MI_sML, ML_sMI]).trans q2, by simp [MI_sMI]; rfl, by simp [MI_sMI]; rfl, fun z => absurd (show (3 : Int32) = 2 from z) (by decide), (show MI (sMI (sMI (sMI y 22 j (-1)) 25 j 0) 21 j 3) 24 j = MI y 24 j from by simp [MI_sMI, ML_sML, MI_sML, ML_sMI]).trans q6, by simp [MI_sMI]; rfl, (show MI (sMI (sMI (sMI y 22 j (-1)) 25 j 0) 21 j 3) 26 j = MI y 26 j from by simp [MI_sMI, ML_sML, MI_sML, ML_sMI]).trans q8, (show ML (sMI (sMI (sMI y 22 j (-1)) 25 j 0) 21 j 3) 27 j = ML y 27 j from by simp [MI_sMI, ML_sML, MI_sML, ML_sMI]).trans q9, (show ML (sMI (sMI (sMI y 22 j (-1)) 25 j 0) 21 j 3) 28 j = ML y 28 j from by simp [MI_sMI, ML_sML, MI_sML, ML_sMI]).trans q10, fun z => absurd (show (3 : Int32) = 0 from z) (by decide)⟩
theorem RR.wait {r : cs_R} (h : RR r y j) : RR (qWait r) (yWai y j) j := by
  by_cases hu : MI y 25 j = 0
  · have hb : rUn r = false := bI_0.mp (by rw [← h.2.2.2.2.2.2.1]; exact hu)
    have e : yWai y j = sMI (sMI y 22 j (-1)) 21 j 0 := if_pos hu
    have e2 : qWait r = rWk_ (rSt_ r 0) none := if_neg (by rw [hb]; decide)
    obtain ⟨q1, q2, q3, q4, q5, q6, q7, q8, q9, q10, q11⟩ := h
    rw [e, e2]
    exact ⟨(show MI (sMI (sMI y 22 j (-1)) 21 j 0) 19 j = MI y 19 j from by simp [MI_sMI, ML_sML, MI_sML, ML_sMI]).trans q1, (show MI (sMI (sMI y 22 j (-1)) 21 j 0) 20 j = MI y 20 j from by simp [MI_sMI, ML_sML, MI_sML, ML_sMI]).trans q2, by simp [MI_sMI], by simp [MI_sMI]; rfl, fun z => absurd (show (0 : Int32) = 2 from z) (by decide), (show MI (sMI (sMI y 22 j (-1)) 21 j 0) 24 j = MI y 24 j from by simp [MI_sMI, ML_sML, MI_sML, ML_sMI]).trans q6, (show MI (sMI (sMI y 22 j (-1)) 21 j 0) 25 j = MI y 25 j from by simp [MI_sMI, ML_sML, MI_sML, ML_sMI]).trans q7, (show MI (sMI (sMI y 22 j (-1)) 21 j 0) 26 j = MI y 26 j from by simp [MI_sMI, ML_sML, MI_sML, ML_sMI]).trans q8, (show ML (sMI (sMI y 22 j (-1)) 21 j 0) 27 j = ML y 27 j from by simp [MI_sMI, ML_sML, MI_sML, ML_sMI]).trans q9, (show ML (sMI (sMI y 22 j (-1)) 21 j 0) 28 j = ML y 28 j from by simp [MI_sMI, ML_sML, MI_sML, ML_sMI]).trans q10, fun _ => ⟨rfl, hb⟩⟩
  · have hb : rUn r = true := bI_f (by rw [← h.2.2.2.2.2.2.1]; exact hu)
    have e : yWai y j = yLet y j := if_neg hu
    have e2 : qWait r = qCan r := if_pos hb
    rw [e, e2]
    exact h.let hu
theorem RR.ans {r : cs_R} (h : RR r y j) (v : Int64) : RR (qDone r none v) (if MI y 25 j = 0 then yAns (yLet y j) j v else yLet y j) j := by
  by_cases hu : MI y 25 j = 0
  · have hb : rUn r = false := bI_0.mp (by rw [← h.2.2.2.2.2.2.1]; exact hu)
    have e2 : qDone r none v = rRs_ (rWk_ (rSt_ r 2) none) v := if_neg (by rw [hb]; decide)
    have e : yLet y j = sMI y 22 j (-1) := if_pos hu
    obtain ⟨q1, q2, q3, q4, q5, q6, q7, q8, q9, q10, q11⟩ := h
    rw [if_pos hu, e, e2]
    exact ⟨(show MI (yAns (sMI y 22 j (-1)) j v) 19 j = MI y 19 j from by simp [MI_sMI, ML_sML, MI_sML, ML_sMI, yAns]).trans q1, (show MI (yAns (sMI y 22 j (-1)) j v) 20 j = MI y 20 j from by simp [MI_sMI, ML_sML, MI_sML, ML_sMI, yAns]).trans q2, by simp [yAns, MI_sMI, MI_sML], by simp [yAns, MI_sMI, MI_sML]; rfl, fun _ z => absurd rfl z, (show MI (yAns (sMI y 22 j (-1)) j v) 24 j = MI y 24 j from by simp [MI_sMI, ML_sML, MI_sML, ML_sMI, yAns]).trans q6, (show MI (yAns (sMI y 22 j (-1)) j v) 25 j = MI y 25 j from by simp [MI_sMI, ML_sML, MI_sML, ML_sMI, yAns]).trans q7, (show MI (yAns (sMI y 22 j (-1)) j v) 26 j = MI y 26 j from by simp [MI_sMI, ML_sML, MI_sML, ML_sMI, yAns]).trans q8, (show ML (yAns (sMI y 22 j (-1)) j v) 27 j = ML y 27 j from by simp [MI_sMI, ML_sML, MI_sML, ML_sMI, yAns]).trans q9, by simp [yAns, ML_sML], fun z => absurd (show (2 : Int32) = 0 from z) (by decide)⟩
  · have hb : rUn r = true := bI_f (by rw [← h.2.2.2.2.2.2.1]; exact hu)
    have e2 : qDone r none v = qCan r := if_pos hb
    rw [if_neg hu, e2]
    exact h.let hu
theorem Rel.endBusy (h : Rel x y) (hi : i < nW x) (hj : j < nR x) {r : Int32} (hr0 : ¬ r = 0) (hq : wRq (gW x i) = some j) {y' : ms_S} {r' : cs_R} (hf : fr (yEnd y i r) y' 1000 j) (hf2 : fr y y' i j) (hr : RR r' y' j) (ht : rTo r' = rTo (gR x j)) (hn : rWk r' = none) : Rel (sR (sW x i (wEn_ (wRq_ (gW x i) none) r)) j r') y' := by
  obtain ⟨q1, q2, q3, q4, q5, q6, q7, q8, q9, q10⟩ := h.2.2.2.2.1 i hi
  have hi60 := h.2.1.1.2.1
  have hz : zSt (wEn_ (wRq_ (gW x i) none) r) = 2 := zSt_2.mpr hr0
  have hw : RW (wEn_ (wRq_ (gW x i) none) r) (yEnd y i r) i := ⟨(show MI (yEnd y i r) 10 i = MI y 10 i from by simp [MI_sMI, ML_sML, MI_sML, ML_sMI, yEnd]).trans q1, by rw [hz]; simp [yEnd, MI_sMI], (show MI (yEnd y i r) 12 i = MI y 12 i from by simp [MI_sMI, ML_sML, MI_sML, ML_sMI, yEnd]).trans q3, (show MI (yEnd y i r) 13 i = MI y 13 i from by simp [MI_sMI, ML_sML, MI_sML, ML_sMI, yEnd]).trans q4, fun a z => (by cases z), by simp [yEnd, MI_sMI], (show MI (yEnd y i r) 16 i = MI y 16 i from by simp [MI_sMI, ML_sML, MI_sML, ML_sMI, yEnd]).trans q7, fun z => absurd (hz.symm.trans z) (by decide), (show ML (yEnd y i r) 18 i = ML y 18 i from by simp [MI_sMI, ML_sML, MI_sML, ML_sMI, yEnd]).trans q9, fun _ => rfl⟩
  refine h.upWR hi hj hf2 (hw.mv hf (by omega)) hr ⟨(h.2.1.2.1 i hi).1, fun a z => by cases z⟩ ⟨by rw [ht]; exact (h.2.1.2.2 j hj).1, fun a z => by rw [hn] at z; cases z⟩ (fun a z => by cases z) (h.onlyW hi hq)
theorem Rel.atEnd (h : Rel x y) (hj : j < nR x) (r : Int32) : RR (gR x j) (yEnd y i r) j := (h.2.2.2.2.2.1 j hj).mv (fr.yEnd i r 1000) (by have := h.2.1.1.2.2; omega)
theorem Rel.endRe0 (h : Rel x y) (hi : i < nW x) {r : Int32} (hr : ¬ r = 0) (hq : wRq (gW x i) = none) : Rel (sW x i (wEn_ (wRq_ (gW x i) none) r)) (yEnd y i r) ∧ Rel (zEndRe x i r) (yEnd y i r) := by
  have e : wEn_ (wRq_ (gW x i) none) r = wEn_ (gW x i) r := by
    show (_, _, _, _, _, _, r, none) = (_, _, _, _, _, _, r, wRq (gW x i))
    rw [hq]
  have e2 : zEndRe x i r = sW x i (wEn_ (wRq_ (gW x i) none) r) := by unfold zEndRe; rw [hq]
  rw [e2, e]
  exact ⟨h.ends0 hi hr hq, h.ends0 hi hr hq⟩
theorem Rel.endRe1 (h : Rel x y) (hi : i < nW x) {r : Int32} (hr : ¬ r = 0) (hq : wRq (gW x i) = some j) : Rel (zEndRe x i r) (yWai (yEnd y i r) j) := by
  have hj := (h.2.1.2.1 i hi).2 j hq
  have e2 : zEndRe x i r = sR (sW x i (wEn_ (wRq_ (gW x i) none) r)) j (qWait (gR x j)) := by unfold zEndRe; rw [hq]
  rw [e2]
  have hu : ∀ q : cs_R, rTo (qWait q) = rTo q ∧ rWk (qWait q) = none := fun q => by
    unfold qWait
    split <;> exact ⟨rfl, rfl⟩
  exact h.endBusy hi hj hr hq fr.rf.wai (fr.yEnd i r j).wai (h.atEnd hj r).wait (hu _).1 (hu _).2
theorem nR_zMove (x : cs_S) (j : Nat) : nR (zMove x j).1 = nR x := by
  unfold zMove
  split
  · rfl
  · split
    · rfl
    · split <;> rfl
theorem zStepF_n (x : cs_S) : ∀ i, nR (zStepF x i).1 = nR x
  | 0 => rfl
  | i + 1 => by
    unfold zStepF
    split
    · rw [nR_zMove]
      exact zStepF_n x i
    · exact zStepF_n x i
theorem zStepF_100 (x : cs_S) : ∀ m, zStepF x (nR x + m) = zStepF x (nR x)
  | 0 => rfl
  | m + 1 => by
    rw [← zStepF_100 x m]
    exact if_neg (fun q => absurd q.1 (by rw [zStepF_n]; exact Nat.not_lt.mpr (Nat.le_add_right _ _)))
theorem zEdF_60 (x : cs_S) (t : Nat) : (∀ i, nW (zEdF x t i).1 = nW x) ∧ ∀ m, zEdF x t (nW x + m) = zEdF x t (nW x) := by
  have h1 : ∀ i, nW (zEdF x t i).1 = nW x := by
    intro i
    induction i with
    | zero => rfl
    | succ i ih =>
      unfold zEdF
      split
      · rw [(nW_zEndRe _ _ _).1]
        exact ih
      · exact ih
  refine ⟨h1, fun m => ?_⟩
  induction m with
  | zero => rfl
  | succ m ih =>
    rw [← ih]
    exact if_neg (fun q => absurd q.1 (by rw [h1]; exact Nat.not_lt.mpr (Nat.le_add_right _ _)))
theorem zTkF_60 (x : cs_S) : (∀ i, nW (zTkF x i).1 = nW x ∧ cCl (zTkF x i).1 = cCl x ∧ cId (zTkF x i).1 = cId x) ∧ ∀ m, zTkF x (nW x + m) = zTkF x (nW x) := by
  have h1 : ∀ i, nW (zTkF x i).1 = nW x ∧ cCl (zTkF x i).1 = cCl x ∧ cId (zTkF x i).1 = cId x := by
    intro i
    induction i with
    | zero => exact ⟨rfl, rfl, rfl⟩
    | succ i ih =>
      unfold zTkF
      split
      · exact ih
      · exact ih
  refine ⟨h1, fun m => ?_⟩
  induction m with
  | zero => rfl
  | succ m ih =>
    rw [← ih]
    exact if_neg (fun q => absurd q.1 (by rw [(h1 _).1]; exact Nat.not_lt.mpr (Nat.le_add_right _ _)))
end RL3
