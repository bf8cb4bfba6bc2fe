/-! ONE MORE of each; what the reference's searches find -/
section RL2
variable {x : cs_S} {y y' : ms_S} {i j : Nat}
theorem RW.cg {w : cs_W} (h : RW w y i) (e1 : ∀ a, 10 ≤ a → MI y' a i = MI y a i) (e2 : ∀ a, 10 ≤ a → ML y' a i = ML y a i) : RW w y' i := by
  unfold RW at h ⊢
  simpa only [e1 10 (by decide), e1 11 (by decide), e1 12 (by decide), e1 13 (by decide), e1 14 (by decide), e1 15 (by decide), e1 16 (by decide), e1 17 (by decide), e2 18 (by decide)] using h
theorem RR.cg {r : cs_R} (h : RR r y j) (e1 : ∀ a, 19 ≤ a → MI y' a j = MI y a j) (e2 : ∀ a, 19 ≤ a → ML y' a j = ML y a j) : RR r y' j := by
  unfold RR at h ⊢
  simpa only [e1 19 (by decide), e1 20 (by decide), e1 21 (by decide), e1 22 (by decide), e1 23 (by decide), e1 24 (by decide), e1 25 (by decide), e1 26 (by decide), e2 27 (by decide), e2 28 (by decide)] using h
theorem Rel.pushT (h : Rel x y) (hn : nT x < 6) (ed : Int64) (qu : Int32) : Rel (aT x (ed, qu, 0)) (sYT (sMI (sMI (sML y 7 (yT y) ed) 8 (yT y) qu) 9 (yT y) 0) (yT y + 1)) := by
  have hn1 := h.n
  obtain ⟨h1, h2, h3, h4, h5, h6, h7, h8, h9⟩ := id h
  have e1 : ∀ a b, 10 ≤ a → MI (sYT (sMI (sMI (sML y 7 (yT y) ed) 8 (yT y) qu) 9 (yT y) 0) (yT y + 1)) a b = MI y a b := fun a b ha => by
    show MI (sMI (sMI (sML y 7 (yT y) ed) 8 (yT y) qu) 9 (yT y) 0) a b = _
    rw [MI_sMI, if_neg (by omega), MI_sMI, if_neg (by omega)]
  have e2 : ∀ a b, 10 ≤ a → ML (sYT (sMI (sMI (sML y 7 (yT y) ed) 8 (yT y) qu) 9 (yT y) 0) (yT y + 1)) a b = ML y a b := fun a b ha => by
    show ML (sML y 7 (yT y) ed) a b = _
    rw [ML_sML, if_neg (by omega)]
  refine ⟨⟨h1.1, h1.2.1, by show (yT y + 1, yW y, yR y) = _; rw [hn1.1, hn1.2.1, hn1.2.2]⟩, ⟨⟨hn, h2.1.2⟩, fun i hi => ⟨Nat.lt_succ_of_lt (h2.2.1 i hi).1, (h2.2.1 i hi).2⟩, fun i hi => ⟨Nat.lt_succ_of_lt (h2.2.2 i hi).1, (h2.2.2 i hi).2⟩⟩, h3, fun a ha => ?_, fun a ha => (h5 a ha).cg (fun b hb => e1 b a hb) (fun b hb => e2 b a hb), fun a ha => (h6 a ha).cg (fun b hb => e1 b a (by omega)) (fun b hb => e2 b a (by omega)), h7, fun a q1 q2 => ?_, fun a q1 q2 => ?_⟩
  · by_cases e : a = nT x
    · subst e
      rw [gT_new]
      refine ⟨?_, ?_, ?_⟩
      · show ML (sML y 7 (yT y) ed) 7 (nT x) = ed
        rw [ML_sML, if_pos ⟨rfl, hn1.1.symm⟩]
      · show MI (sMI (sMI (sML y 7 (yT y) ed) 8 (yT y) qu) 9 (yT y) 0) 8 (nT x) = qu
        rw [MI_sMI, if_neg (by omega), MI_sMI, if_pos ⟨rfl, hn1.1.symm⟩]
      · show MI (sMI (sMI (sML y 7 (yT y) ed) 8 (yT y) qu) 9 (yT y) 0) 9 (nT x) = 0
        rw [MI_sMI, if_pos ⟨rfl, hn1.1.symm⟩]
    · rw [gT_old _ _ e]
      have q := h4 a (by have : a < nT x + 1 := ha; omega)
      have e3 : a ≠ yT y := by rw [hn1.1]; exact e
      refine ⟨?_, ?_, ?_⟩
      · show ML (sML y 7 (yT y) ed) 7 a = _
        rw [ML_sML, if_neg (fun z => e3 z.2)]
        exact q.1
      · show MI (sMI (sMI (sML y 7 (yT y) ed) 8 (yT y) qu) 9 (yT y) 0) 8 a = _
        rw [MI_sMI, if_neg (by omega), MI_sMI, if_neg (fun z => e3 z.2)]
        exact q.2.1
      · show MI (sMI (sMI (sML y 7 (yT y) ed) 8 (yT y) qu) 9 (yT y) 0) 9 a = _
        rw [MI_sMI, if_neg (fun z => e3 z.2), MI_sMI, if_neg (by omega)]
        exact q.2.2
  · simpa only [e1 11 a (by decide), e1 12 a (by decide), e1 13 a (by decide), e1 15 a (by decide), e1 16 a (by decide), e1 17 a (by decide)] using h8 a q1 q2
  · simpa only [e1 24 a (by decide), e1 25 a (by decide), e1 26 a (by decide), e2 28 a (by decide)] using h9 a q1 q2
theorem Rel.pushW (h : Rel x y) (hn : nW x < 60) {t : Nat} (ht : t < nT x) : Rel (aW x (t, tEd (gT x t), 0, 0, 0, 0, 0, none)) (yNew y t) := by
  have hn1 := h.n
  obtain ⟨h1, h2, h3, h4, h5, h6, h7, h8, h9⟩ := id h
  have e1 : ∀ a b, ¬ (a = 10 ∧ b = nW x) → MI (yNew y t) a b = MI y a b := fun a b ha => by
    show MI (sMI y 10 (yW y) (nI t)) a b = _
    rw [MI_sMI, hn1.2.1, if_neg ha]
  have e2 : ∀ a b, ¬ (a = 18 ∧ b = nW x) → ML (yNew y t) a b = ML y a b := fun a b ha => by
    show ML (sML (sMI y 10 (yW y) (nI t)) 18 (yW y) (ML y 7 t)) a b = _
    rw [ML_sML, hn1.2.1, if_neg ha]
  have e3 : MI (yNew y t) 10 (nW x) = nI t := by
    show MI (sMI y 10 (yW y) (nI t)) 10 (nW x) = _
    rw [MI_sMI, hn1.2.1, if_pos ⟨rfl, rfl⟩]
  have e4 : ML (yNew y t) 18 (nW x) = tEd (gT x t) := by
    show ML (sML (sMI y 10 (yW y) (nI t)) 18 (yW y) (ML y 7 t)) 18 (nW x) = _
    rw [ML_sML, hn1.2.1, if_pos ⟨rfl, rfl⟩]
    exact (h4 t ht).1
  refine ⟨⟨h1.1, h1.2.1, by show (yT y, yW y + 1, yR y) = _; rw [hn1.1, hn1.2.1, hn1.2.2]⟩, ⟨⟨h2.1.1, hn, h2.1.2.2⟩, fun a ha => ?_, fun a ha => ⟨(h2.2.2 a ha).1, fun b hb => Nat.lt_succ_of_lt ((h2.2.2 a ha).2 b hb)⟩⟩, h3, fun a ha => ?_, fun a ha => ?_, fun a ha => ?_, fun a b ha hb => ?_, fun a q1 q2 => ?_, fun a q1 q2 => ?_⟩
  · by_cases e : a = nW x
    · subst e
      rw [gW_new]
      exact ⟨ht, fun b hb => by cases hb⟩
    · rw [gW_old _ _ e]
      exact h2.2.1 a (by have : a < nW x + 1 := ha; omega)
  · have q := h4 a ha
    exact ⟨by rw [e2 _ _ (by omega)]; exact q.1, by rw [e1 _ _ (by omega)]; exact q.2.1, by rw [e1 _ _ (by omega)]; exact q.2.2⟩
  · by_cases e : a = nW x
    · subst e
      rw [gW_new]
      have q := h8 (nW x) (Nat.le_refl _) hn
      exact ⟨e3, by rw [e1 _ _ (by omega)]; exact q.1, by rw [e1 _ _ (by omega)]; exact q.2.1, by rw [e1 _ _ (by omega)]; exact q.2.2.1, fun b hb => (by cases hb), by rw [e1 _ _ (by omega)]; exact q.2.2.2.1, by rw [e1 _ _ (by omega)]; exact q.2.2.2.2.1, fun _ => by rw [e1 _ _ (by omega)]; exact q.2.2.2.2.2, e4, fun _ => rfl⟩
    · rw [gW_old _ _ e]
      exact (h5 a (by have : a < nW x + 1 := ha; omega)).cg (fun b _ => e1 b a (by omega)) (fun b _ => e2 b a (by omega))
  · exact (h6 a ha).cg (fun b _ => e1 b a (by omega)) (fun b _ => e2 b a (by omega))
  · by_cases e : a = nW x
    · subst e
      rw [gW_new] at hb
      cases hb
    · rw [gW_old _ _ e] at hb
      exact h7 a b (by have : a < nW x + 1 := ha; omega) hb
  · have q1 : nW x + 1 ≤ a := q1
    have q := h8 a (by omega) q2
    exact ⟨by rw [e1 _ _ (by omega)]; exact q.1, by rw [e1 _ _ (by omega)]; exact q.2.1, by rw [e1 _ _ (by omega)]; exact q.2.2.1, by rw [e1 _ _ (by omega)]; exact q.2.2.2.1, by rw [e1 _ _ (by omega)]; exact q.2.2.2.2.1, by rw [e1 _ _ (by omega)]; exact q.2.2.2.2.2⟩
  · have q := h9 a q1 q2
    exact ⟨by rw [e1 _ _ (by omega)]; exact q.1, by rw [e1 _ _ (by omega)]; exact q.2.1, by rw [e1 _ _ (by omega)]; exact q.2.2.1, by rw [e2 _ _ (by omega)]; exact q.2.2.2⟩
theorem Rel.pushR (h : Rel x y) (hn : nR x < 100) {t : Nat} (ht : t < nT x) (inp : Int64) (z : Int32) : Rel (aR x (t, inp, z, 0, 0, false, false, 0, none, 0)) (sYR (sMI (sMI (sMI (sML (sMI y 19 (yR y) (nI t)) 27 (yR y) inp) 20 (yR y) z) 21 (yR y) 0) 22 (yR y) (-1)) (yR y + 1)) := by
  have hn1 := h.n
  obtain ⟨h1, h2, h3, h4, h5, h6, h7, h8, h9⟩ := id h
  generalize hy : sYR (sMI (sMI (sMI (sML (sMI y 19 (yR y) (nI t)) 27 (yR y) inp) 20 (yR y) z) 21 (yR y) 0) 22 (yR y) (-1)) (yR y + 1) = y1
  have eI : ∀ a b, MI y1 a b = if a = 22 ∧ b = nR x then -1 else if a = 21 ∧ b = nR x then 0 else if a = 20 ∧ b = nR x then z else if a = 19 ∧ b = nR x then nI t else MI y a b := fun a b => by
    rw [← hy]
    show MI (sMI (sMI (sMI (sML (sMI y 19 (yR y) (nI t)) 27 (yR y) inp) 20 (yR y) z) 21 (yR y) 0) 22 (yR y) (-1)) a b = _
    rw [MI_sMI, MI_sMI, MI_sMI, MI_sML, MI_sMI, hn1.2.2]
  have eL : ∀ a b, ML y1 a b = if a = 27 ∧ b = nR x then inp else ML y a b := fun a b => by
    rw [← hy]
    show ML (sML (sMI y 19 (yR y) (nI t)) 27 (yR y) inp) a b = _
    rw [ML_sML, hn1.2.2]
  have e1 : ∀ a b, (a < 19 ∨ 23 ≤ a ∨ b ≠ nR x) → MI y1 a b = MI y a b := fun a b ha => by
    rw [eI, if_neg (by omega), if_neg (by omega), if_neg (by omega), if_neg (by omega)]
  have e2 : ∀ a b, (a ≠ 27 ∨ b ≠ nR x) → ML y1 a b = ML y a b := fun a b ha => by
    rw [eL, if_neg (by omega)]
  refine ⟨by rw [← hy]; exact ⟨h1.1, h1.2.1, by show (yT y, yW y, yR y + 1) = _; rw [hn1.1, hn1.2.1, hn1.2.2]⟩, ⟨⟨h2.1.1, h2.1.2.1, hn⟩, fun a ha => ⟨(h2.2.1 a ha).1, fun b hb => Nat.lt_succ_of_lt ((h2.2.1 a ha).2 b hb)⟩, fun a ha => ?_⟩, h3, fun a ha => ?_, fun a ha => ?_, fun a ha => ?_, fun a b ha hb => ?_, fun a q1 q2 => ?_, fun a q1 q2 => ?_⟩
  · by_cases e : a = nR x
    · subst e
      rw [gR_new]
      exact ⟨ht, fun b hb => by cases hb⟩
    · rw [gR_old _ _ e]
      exact h2.2.2 a (by have : a < nR x + 1 := ha; omega)
  · have q := h4 a ha
    exact ⟨by rw [e2 _ _ (by omega)]; exact q.1, by rw [e1 _ _ (by omega)]; exact q.2.1, by rw [e1 _ _ (by omega)]; exact q.2.2⟩
  · have q := h5 a ha
    unfold RW at q ⊢
    simpa only [e1 10 a (by omega), e1 11 a (by omega), e1 12 a (by omega), e1 13 a (by omega), e1 14 a (by omega), e1 15 a (by omega), e1 16 a (by omega), e1 17 a (by omega), e2 18 a (by omega)] using q
  · by_cases e : a = nR x
    · subst e
      rw [gR_new]
      have q := h9 (nR x) (Nat.le_refl _) hn
      exact ⟨by rw [eI]; simp, by rw [eI]; simp, by rw [eI]; simp, by rw [eI]; simp [oI], fun z1 => absurd (show (0 : Int32) = 2 from z1) (by decide), by rw [e1 _ _ (by omega)]; exact q.1, by rw [e1 _ _ (by omega)]; exact q.2.1, by rw [e1 _ _ (by omega)]; exact q.2.2.1, by rw [eL]; simp, by rw [e2 _ _ (by omega)]; exact q.2.2.2, fun _ => ⟨rfl, rfl⟩⟩
    · rw [gR_old _ _ e]
      exact (h6 a (by have : a < nR x + 1 := ha; omega)).cg (fun b _ => e1 b a (by omega)) (fun b _ => e2 b a (by omega))
  · have q := h7 a b ha hb
    have hb2 := (h2.2.1 a ha).2 b hb
    rw [gR_old _ _ (Nat.ne_of_lt hb2)]
    exact q
  · have q := h8 a q1 q2
    exact ⟨by rw [e1 _ _ (by omega)]; exact q.1, by rw [e1 _ _ (by omega)]; exact q.2.1, by rw [e1 _ _ (by omega)]; exact q.2.2.1, by rw [e1 _ _ (by omega)]; exact q.2.2.2.1, by rw [e1 _ _ (by omega)]; exact q.2.2.2.2.1, by rw [e1 _ _ (by omega)]; exact q.2.2.2.2.2⟩
  · have q1 : nR x + 1 ≤ a := q1
    have q := h9 a (by omega) q2
    exact ⟨by rw [e1 _ _ (by omega)]; exact q.1, by rw [e1 _ _ (by omega)]; exact q.2.1, by rw [e1 _ _ (by omega)]; exact q.2.2.1, by rw [e2 _ _ (by omega)]; exact q.2.2.2⟩
def ff2 (x : cs_S) (t : Nat) : Nat → Option Nat
  | 0 => none
  | n + 1 => match ff2 x t n with
    | some i => some i
    | none => if n < nW x ∧ wTo (gW x n) = t ∧ zSt (gW x n) = 0 then some n else none
theorem ffr_ff2 (x : cs_S) (t : Nat) : ∀ m i, ff2 x t (i + m) = (match ff2 x t i with | some a => some a | none => ffr x t m i)
  | 0, i => by
    rw [Nat.add_zero]
    cases ff2 x t i <;> rfl
  | m + 1, i => by
    rw [show i + (m + 1) = (i + 1) + m by omega, ffr_ff2 x t m (i + 1)]
    show (match (match ff2 x t i with | some i => some i | none => if i < nW x ∧ wTo (gW x i) = t ∧ zSt (gW x i) = 0 then some i else none) with | some a => some a | none => ffr x t m (i + 1)) = _
    cases ff2 x t i with
    | some a => rfl
    | none =>
      show _ = if i < nW x ∧ wTo (gW x i) = t ∧ zSt (gW x i) = 0 then some i else ffr x t m (i + 1)
      by_cases q : i < nW x ∧ wTo (gW x i) = t ∧ zSt (gW x i) = 0
      · simp only [if_pos q]
      · simp only [if_neg q]
theorem ff2_60 (x : cs_S) (t : Nat) : ∀ m, ff2 x t (nW x + m) = ff2 x t (nW x)
  | 0 => rfl
  | m + 1 => by
    have ih := ff2_60 x t m
    show (match ff2 x t (nW x + m) with | some i => some i | none => _) = _
    rw [ih]
    cases ff2 x t (nW x) with
    | some a => rfl
    | none => exact if_neg (fun q => absurd q.1 (Nat.not_lt.mpr (Nat.le_add_right _ _)))
theorem Rel.col10 (h : Rel x y) {n t : Nat} (hn : n < nW x) (ht : t < 100) : MI y 10 n = nI t ↔ wTo (gW x n) = t := by
  rw [(h.2.2.2.2.1 n hn).1]
  have := (h.2.1.2.1 n hn).1
  have := h.2.1.1.1
  exact nI_eq (by omega) (by omega)
theorem Rel.free (h : Rel x y) {t : Nat} (ht : t < 100) : ∀ n a, n ≤ nW x → yFr y (nI t) n a = (match ff2 x t n with | some i => nI i | none => a)
  | 0, a, _ => rfl
  | n + 1, a, hn => by
    show yFr y (nI t) n (if MI y 10 n = nI t ∧ MI y 11 n = 0 then nI n else a) = _
    rw [h.free ht n _ (by omega)]
    show _ = (match (match ff2 x t n with | some i => some i | none => if n < nW x ∧ wTo (gW x n) = t ∧ zSt (gW x n) = 0 then some n else none) with | some i => nI i | none => a)
    have e : (MI y 10 n = nI t ∧ MI y 11 n = 0) ↔ (n < nW x ∧ wTo (gW x n) = t ∧ zSt (gW x n) = 0) := by
      rw [h.col10 hn ht, (h.2.2.2.2.1 n hn).2.1]
      exact ⟨fun q => ⟨hn, q⟩, fun q => q.2⟩
    cases ff2 x t n with
    | some i => rfl
    | none =>
      by_cases q : n < nW x ∧ wTo (gW x n) = t ∧ zSt (gW x n) = 0
      · simp only [if_pos q, if_pos (e.mpr q)]
      · simp only [if_neg q, if_neg (fun z => q (e.mp z))]
theorem Rel.freeOne (h : Rel x y) {t : Nat} (ht : t < nT x) : yFr y (nI t) (yW y) (-1) = oI (ffr x t 60 0) := by
  have hb := h.2.1.1
  rw [h.n.2.1, h.free (by omega) _ _ (Nat.le_refl _)]
  have e := ffr_ff2 x t 60 0
  rw [Nat.zero_add] at e
  have e2 := ff2_60 x t (60 - nW x)
  rw [show nW x + (60 - nW x) = 60 by omega] at e2
  have e3 : ffr x t 60 0 = ff2 x t (nW x) := by rw [← e2, e]; rfl
  rw [e3]
  cases ff2 x t (nW x) <;> rfl
theorem cst_60 (x : cs_S) (t : Nat) : ∀ m, cst x t (nW x + m) = cst x t (nW x)
  | 0 => rfl
  | m + 1 => by
    show (if nW x + m < nW x ∧ _ then _ else cst x t (nW x + m)) = _
    rw [if_neg (fun q => by omega)]
    exact cst_60 x t m
theorem Rel.al (h : Rel x y) {t : Nat} (ht : t < 100) : ∀ n, n ≤ nW x → yAl y (nI t) n = cst x t n
  | 0, _ => rfl
  | n + 1, hn => by
    show (if MI y 10 n = nI t ∧ ¬ MI y 11 n = 2 then yAl y (nI t) n + 1 else yAl y (nI t) n) = (if n < nW x ∧ wTo (gW x n) = t ∧ wEn (gW x n) = 0 then cst x t n + 1 else cst x t n)
    rw [h.al ht n (by omega)]
    have e : (MI y 10 n = nI t ∧ ¬ MI y 11 n = 2) ↔ (n < nW x ∧ wTo (gW x n) = t ∧ wEn (gW x n) = 0) := by
      rw [h.col10 hn ht, (h.2.2.2.2.1 n hn).2.1, zSt_2, Classical.not_not]
      exact ⟨fun q => ⟨hn, q⟩, fun q => q.2⟩
    by_cases q : n < nW x ∧ wTo (gW x n) = t ∧ wEn (gW x n) = 0
    · rw [if_pos q, if_pos (e.mpr q)]
    · rw [if_neg q, if_neg (fun z => q (e.mp z))]
theorem Rel.alive (h : Rel x y) {t : Nat} (ht : t < nT x) : yAl y (nI t) (yW y) = cst x t 60 := by
  have hb := h.2.1.1
  rw [h.n.2.1, h.al (by omega) _ (Nat.le_refl _)]
  have e2 := cst_60 x t (60 - nW x)
  rw [show nW x + (60 - nW x) = 60 by omega] at e2
  exact e2.symm
end RL2
