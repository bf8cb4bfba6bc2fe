/-! THE RELATION of the class's state x and the reference's state y -/
def oI (o : Option Nat) : Int32 := match o with
  | none => -1
  | some i => nI i
def RT (t : cs_T) (y : ms_S) (i : Nat) : Prop := ML y 7 i = tEd t ∧ MI y 8 i = tQu t ∧ MI y 9 i = tBa t
def RW (w : cs_W) (y : ms_S) (i : Nat) : Prop := MI y 10 i = nI (wTo w) ∧ MI y 11 i = zSt w ∧ MI y 12 i = wFi w ∧ MI y 13 i = wMe w ∧ (∀ j, wRq w = some j → MI y 14 i = nI j) ∧ MI y 15 i = wEn w ∧ MI y 16 i = wTr w ∧ (zSt w = 0 → MI y 17 i = wFr w) ∧ ML y 18 i = wEd w ∧ (¬ wEn w = 0 → wRq w = none)
def RR (r : cs_R) (y : ms_S) (j : Nat) : Prop := MI y 19 j = nI (rTo r) ∧ MI y 20 j = rSz r ∧ MI y 21 j = rSt r ∧ MI y 22 j = oI (rWk r) ∧ (rSt r = 2 → rWk r ≠ none → MI y 23 j = rPl r) ∧ MI y 24 j = rBe r ∧ MI y 25 j = bI (rUn r) ∧ MI y 26 j = bI (rRe r) ∧ ML y 27 j = rIn r ∧ ML y 28 j = rRs r ∧ (rSt r = 0 → rWk r = none ∧ rUn r = false)
def RX (x : cs_S) : Prop := ∀ i j, i < nW x → wRq (gW x i) = some j → rWk (gR x j) = some i ∧ rSt (gR x j) = 1
def Rel (x : cs_S) (y : ms_S) : Prop :=
  (y.1 = x.1 ∧ y.2.1 = x.2.1 ∧ y.2.2.1 = x.2.2.1) ∧ cs_ok x ∧ (0 ≤ (cCl x).toInt ∧ (cCl x).toInt ≤ 1000000000) ∧ (∀ i, i < nT x → RT (gT x i) y i) ∧ (∀ i, i < nW x → RW (gW x i) y i) ∧ (∀ j, j < nR x → RR (gR x j) y j) ∧ RX x ∧ (∀ i, nW x ≤ i → i < 60 → MI y 11 i = 0 ∧ MI y 12 i = 0 ∧ MI y 13 i = 0 ∧ MI y 15 i = 0 ∧ MI y 16 i = 0 ∧ MI y 17 i = 0) ∧ (∀ j, nR x ≤ j → j < 100 → MI y 24 j = 0 ∧ MI y 25 j = 0 ∧ MI y 26 j = 0 ∧ ML y 28 j = 0)
/-- y' is y but for the worker i and the request j -/
def fr (y y' : ms_S) (i j : Nat) : Prop := (y'.1 = y.1 ∧ y'.2.1 = y.2.1 ∧ y'.2.2.1 = y.2.2.1) ∧ ∀ a b, (a < 10 ∨ (a < 19 ∧ b ≠ i) ∨ (19 ≤ a ∧ b ≠ j)) → MI y' a b = MI y a b ∧ ML y' a b = ML y a b
theorem fr.rf {y : ms_S} {i j : Nat} : fr y y i j := ⟨⟨rfl, rfl, rfl⟩, fun _ _ _ => ⟨rfl, rfl⟩⟩
theorem fr.iW {y y' : ms_S} {i j : Nat} (h : fr y y' i j) (a : Nat) (v : Int32) (ha : 10 ≤ a ∧ a < 19) : fr y (sMI y' a i v) i j := ⟨h.1, fun b c hb => ⟨by rw [MI_sMI, if_neg (by omega)]; exact (h.2 b c hb).1, (h.2 b c hb).2⟩⟩
theorem fr.iR {y y' : ms_S} {i j : Nat} (h : fr y y' i j) (a : Nat) (v : Int32) (ha : 19 ≤ a) : fr y (sMI y' a j v) i j := ⟨h.1, fun b c hb => ⟨by rw [MI_sMI, if_neg (by omega)]; exact (h.2 b c hb).1, (h.2 b c hb).2⟩⟩
theorem fr.lW {y y' : ms_S} {i j : Nat} (h : fr y y' i j) (a : Nat) (v : Int64) (ha : 10 ≤ a ∧ a < 19) : fr y (sML y' a i v) i j := ⟨h.1, fun b c hb => ⟨(h.2 b c hb).1, by rw [ML_sML, if_neg (by omega)]; exact (h.2 b c hb).2⟩⟩
theorem fr.lR {y y' : ms_S} {i j : Nat} (h : fr y y' i j) (a : Nat) (v : Int64) (ha : 19 ≤ a) : fr y (sML y' a j v) i j := ⟨h.1, fun b c hb => ⟨(h.2 b c hb).1, by rw [ML_sML, if_neg (by omega)]; exact (h.2 b c hb).2⟩⟩
theorem RT.mv {t : cs_T} {y y' : ms_S} {i a b : Nat} (h : RT t y i) (hf : fr y y' a b) : RT t y' i := by
  have e := fun c (hc : c < 10) => hf.2 c i (Or.inl hc)
  exact ⟨by rw [(e 7 (by omega)).2]; exact h.1, by rw [(e 8 (by omega)).1]; exact h.2.1, by rw [(e 9 (by omega)).1]; exact h.2.2⟩
theorem RW.mv {w : cs_W} {y y' : ms_S} {i a b : Nat} (h : RW w y i) (hf : fr y y' a b) (hi : i ≠ a) : RW w y' i := by
  have e := fun c (hc : c < 19) => hf.2 c i (Or.inr (Or.inl ⟨hc, hi⟩))
  obtain ⟨h1, h2, h3, h4, h5, h6, h7, h8, h9, h10⟩ := h
  exact ⟨by rw [(e 10 (by omega)).1]; exact h1, by rw [(e 11 (by omega)).1]; exact h2, by rw [(e 12 (by omega)).1]; exact h3, by rw [(e 13 (by omega)).1]; exact h4, fun j hj => by rw [(e 14 (by omega)).1]; exact h5 j hj, by rw [(e 15 (by omega)).1]; exact h6, by rw [(e 16 (by omega)).1]; exact h7, fun q => by rw [(e 17 (by omega)).1]; exact h8 q, by rw [(e 18 (by omega)).2]; exact h9, h10⟩
theorem RR.mv {r : cs_R} {y y' : ms_S} {j a b : Nat} (h : RR r y j) (hf : fr y y' a b) (hj : j ≠ b) : RR r y' j := by
  have e := fun c (hc : 19 ≤ c) => hf.2 c j (Or.inr (Or.inr ⟨hc, hj⟩))
  obtain ⟨h1, h2, h3, h4, h5, h6, h7, h8, h9, h10, h11⟩ := h
  exact ⟨by rw [(e 19 (by omega)).1]; exact h1, by rw [(e 20 (by omega)).1]; exact h2, by rw [(e 21 (by omega)).1]; exact h3, by rw [(e 22 (by omega)).1]; exact h4, fun q1 q2 => by rw [(e 23 (by omega)).1]; exact h5 q1 q2, by rw [(e 24 (by omega)).1]; exact h6, by rw [(e 25 (by omega)).1]; exact h7, by rw [(e 26 (by omega)).1]; exact h8, by rw [(e 27 (by omega)).2]; exact h9, by rw [(e 28 (by omega)).2]; exact h10, h11⟩
section RL
variable {x : cs_S} {y y' : ms_S} {i j : Nat}
theorem Rel.n (h : Rel x y) : yT y = nT x ∧ yW y = nW x ∧ yR y = nR x := by
  have e := h.1.2.2
  exact ⟨congrArg Prod.fst e, congrArg (fun q => q.2.1) e, congrArg (fun q => q.2.2) e⟩
theorem Rel.uniq (h : Rel x y) {a b c : Nat} (ha : a < nW x) (hb : b < nW x) (h1 : wRq (gW x a) = some c) (h2 : wRq (gW x b) = some c) : a = b := Option.some.inj ((h.2.2.2.2.2.2.1 a c ha h1).1.symm.trans (h.2.2.2.2.2.2.1 b c hb h2).1)
theorem Rel.freshW (h : Rel x y) (hf : fr y y' i j) (hi : i < nW x) : ∀ a, nW x ≤ a → a < 60 → MI y' 11 a = 0 ∧ MI y' 12 a = 0 ∧ MI y' 13 a = 0 ∧ MI y' 15 a = 0 ∧ MI y' 16 a = 0 ∧ MI y' 17 a = 0 := by
  intro a h1 h2
  have e := fun c (hc : c < 19) => (hf.2 c a (Or.inr (Or.inl ⟨hc, by omega⟩))).1
  have q := h.2.2.2.2.2.2.2.1 a h1 h2
  exact ⟨by rw [e 11 (by omega)]; exact q.1, by rw [e 12 (by omega)]; exact q.2.1, by rw [e 13 (by omega)]; exact q.2.2.1, by rw [e 15 (by omega)]; exact q.2.2.2.1, by rw [e 16 (by omega)]; exact q.2.2.2.2.1, by rw [e 17 (by omega)]; exact q.2.2.2.2.2⟩
theorem Rel.freshR (h : Rel x y) (hf : fr y y' i j) (hj : j < nR x ∨ 100 ≤ j) : ∀ a, nR x ≤ a → a < 100 → MI y' 24 a = 0 ∧ MI y' 25 a = 0 ∧ MI y' 26 a = 0 ∧ ML y' 28 a = 0 := by
  intro a h1 h2
  have e := fun c (hc : 19 ≤ c) => hf.2 c a (Or.inr (Or.inr ⟨hc, by omega⟩))
  have q := h.2.2.2.2.2.2.2.2 a h1 h2
  exact ⟨by rw [(e 24 (by omega)).1]; exact q.1, by rw [(e 25 (by omega)).1]; exact q.2.1, by rw [(e 26 (by omega)).1]; exact q.2.2.1, by rw [(e 28 (by omega)).2]; exact q.2.2.2⟩
theorem Rel.upWR (h : Rel x y) (hi : i < nW x) (hj : j < nR x) (hf : fr y y' i j) {w : cs_W} {r : cs_R} (hw : RW w y' i) (hr : RR r y' j) (okw : wTo w < nT x ∧ ∀ a, wRq w = some a → a < nR x) (okr : rTo r < nT x ∧ ∀ a, rWk r = some a → a < nW x) (cw : ∀ a, wRq w = some a → a = j ∧ rWk r = some i ∧ rSt r = 1) (co : ∀ a, a ≠ i → a < nW x → wRq (gW x a) ≠ some j) : Rel (sR (sW x i w) j r) y' := by
  obtain ⟨h1, h2, h3, h4, h5, h6, h7, h8, h9⟩ := id h
  refine ⟨⟨hf.1.1.trans h1.1, hf.1.2.1.trans h1.2.1, hf.1.2.2.trans h1.2.2⟩, (h2.setW i w okw).setR j r okr, h3, fun t ht => (h4 t ht).mv hf, fun a ha => ?_, fun a ha => ?_, fun a b ha hb => ?_, h.freshW hf hi, h.freshR hf (Or.inl hj)⟩
  · rw [gW_sR]
    by_cases e : a = i
    · subst e
      rw [gW_self]
      exact hw
    · rw [gW_ne _ _ e]
      exact (h5 a ha).mv hf e
  · by_cases e : a = j
    · subst e
      rw [gR_self]
      exact hr
    · rw [gR_ne _ _ e, gR_sW]
      exact (h6 a ha).mv hf e
  · rw [gW_sR] at hb
    by_cases e : a = i
    · subst e
      rw [gW_self] at hb
      obtain ⟨rfl, q1, q2⟩ := cw b hb
      rw [gR_self]
      exact ⟨q1, q2⟩
    · rw [gW_ne _ _ e] at hb
      have e2 : b ≠ j := fun q => co a e ha (by rw [hb, q])
      rw [gR_ne _ _ e2, gR_sW]
      exact h7 a b ha hb
theorem Rel.upW (h : Rel x y) (hi : i < nW x) (hf : fr y y' i 1000) {w : cs_W} (hw : RW w y' i) (okw : wTo w < nT x) (cw : ∀ a, wRq w = some a → wRq (gW x i) = some a) : Rel (sW x i w) y' := by
  obtain ⟨h1, h2, h3, h4, h5, h6, h7, h8, h9⟩ := id h
  refine ⟨⟨hf.1.1.trans h1.1, hf.1.2.1.trans h1.2.1, hf.1.2.2.trans h1.2.2⟩, h2.setW i w ⟨okw, fun a ha => (h2.2.1 i hi).2 a (cw a ha)⟩, h3, fun t ht => (h4 t ht).mv hf, fun a ha => ?_, fun a ha => (h6 a ha).mv hf (by have : a < nR x := ha; have := h2.1.2.2; omega), fun a b ha hb => ?_, h.freshW hf hi, h.freshR hf (Or.inr (by decide))⟩
  · by_cases e : a = i
    · subst e
      rw [gW_self]
      exact hw
    · rw [gW_ne _ _ e]
      exact (h5 a ha).mv hf e
  · rw [gR_sW]
    by_cases e : a = i
    · subst e
      rw [gW_self] at hb
      exact h7 a b ha (cw b hb)
    · rw [gW_ne _ _ e] at hb
      exact h7 a b ha hb
theorem Rel.upR (h : Rel x y) (hj : j < nR x) (hf : fr y y' 1000 j) {r : cs_R} (hr : RR r y' j) (okr : rTo r < nT x ∧ ∀ a, rWk r = some a → a < nW x) (co : (rWk r = rWk (gR x j) ∧ rSt r = rSt (gR x j)) ∨ ∀ a, a < nW x → wRq (gW x a) ≠ some j) : Rel (sR x j r) y' := by
  obtain ⟨h1, h2, h3, h4, h5, h6, h7, h8, h9⟩ := id h
  refine ⟨⟨hf.1.1.trans h1.1, hf.1.2.1.trans h1.2.1, hf.1.2.2.trans h1.2.2⟩, h2.setR j r okr, h3, fun t ht => (h4 t ht).mv hf, fun a ha => (h5 a ha).mv hf (by have : a < nW x := ha; have := h2.1.2.1; omega), fun a ha => ?_, fun a b ha hb => ?_, fun a q1 q2 => ?_, h.freshR hf (Or.inl hj)⟩
  · by_cases e : a = j
    · subst e
      rw [gR_self]
      exact hr
    · rw [gR_ne _ _ e]
      exact (h6 a ha).mv hf e
  · rw [gW_sR] at hb
    by_cases e : b = j
    · subst e
      rw [gR_self]
      rcases co with ⟨q1, q2⟩ | co
      · rw [q1, q2]
        exact h7 a b ha hb
      · exact absurd hb (co a ha)
    · rw [gR_ne _ _ e]
      exact h7 a b ha hb
  · have e := fun c (hc : c < 19) => (hf.2 c a (Or.inr (Or.inl ⟨hc, by omega⟩))).1
    have q := h8 a q1 q2
    exact ⟨by rw [e 11 (by omega)]; exact q.1, by rw [e 12 (by omega)]; exact q.2.1, by rw [e 13 (by omega)]; exact q.2.2.1, by rw [e 15 (by omega)]; exact q.2.2.2.1, by rw [e 16 (by omega)]; exact q.2.2.2.2.1, by rw [e 17 (by omega)]; exact q.2.2.2.2.2⟩
theorem Rel.noW (h : Rel x y) (hs : ¬ rSt (gR x j) = 1) : ∀ a, a < nW x → wRq (gW x a) ≠ some j := fun a ha q => hs (h.2.2.2.2.2.2.1 a j ha q).2
theorem Rel.onlyW (h : Rel x y) (hi : i < nW x) (hq : wRq (gW x i) = some j) : ∀ a, a ≠ i → a < nW x → wRq (gW x a) ≠ some j := fun a hne ha q => hne (h.uniq ha hi q hq)
theorem zSt_0 {w : cs_W} : zSt w = 0 ↔ wEn w = 0 ∧ wRq w = none := by
  unfold zSt
  split
  · next h =>
    split
    · next h2 => exact ⟨fun _ => ⟨h, h2⟩, fun _ => rfl⟩
    · next h2 => exact ⟨fun q => absurd q (by decide), fun q => absurd q.2 h2⟩
  · next h => exact ⟨fun q => absurd q (by decide), fun q => absurd q.1 h⟩
theorem zSt_2 {w : cs_W} : zSt w = 2 ↔ ¬ wEn w = 0 := by
  unfold zSt
  split
  · next h =>
    split
    · exact ⟨fun q => absurd q (by decide), fun q => absurd h q⟩
    · exact ⟨fun q => absurd q (by decide), fun q => absurd h q⟩
  · next h => exact ⟨fun _ => h, fun _ => rfl⟩
theorem zSt_1 {w : cs_W} : zSt w = 1 ↔ wEn w = 0 ∧ ¬ wRq w = none := by
  unfold zSt
  split
  · next h =>
    split
    · next h2 => exact ⟨fun q => absurd q (by decide), fun q => absurd h2 q.2⟩
    · next h2 => exact ⟨fun _ => ⟨h, h2⟩, fun _ => rfl⟩
  · next h => exact ⟨fun q => absurd q (by decide), fun q => absurd q.1 h⟩
theorem fr.yEnd (i : Nat) (r : Int32) (j : Nat) : fr y (yEnd y i r) i j := ((fr.rf.iW 11 2 (by decide)).iW 15 r (by decide)).iW 14 (-1) (by decide)
/-- a worker with no request ends -/
theorem Rel.ends0 (h : Rel x y) (hi : i < nW x) {r : Int32} (hr : ¬ r = 0) (hq : wRq (gW x i) = none) : Rel (sW x i (wEn_ (gW x i) r)) (yEnd y i r) := by
  obtain ⟨q1, q2, q3, q4, q5, q6, q7, q8, q9, q10⟩ := h.2.2.2.2.1 i hi
  have hz : zSt (wEn_ (gW x i) r) = 2 := zSt_2.mpr hr
  refine h.upW hi (fr.yEnd i r 1000) ⟨?_, ?_, ?_, ?_, fun j hj => ?_, ?_, ?_, fun q => ?_, ?_, fun _ => hq⟩ (h.2.1.2.1 i hi).1 (fun a ha => ha)
  · simpa [yEnd, MI_sMI] using q1
  · rw [hz]; simp [yEnd, MI_sMI]
  · simpa [yEnd, MI_sMI] using q3
  · simpa [yEnd, MI_sMI] using q4
  · exact absurd ((show wRq (gW x i) = some j from hj).symm.trans hq) (by simp)
  · simp [yEnd, MI_sMI]
  · simpa [yEnd, MI_sMI] using q7
  · rw [hz] at q; exact absurd q (by decide)
  · exact q9
end RL
