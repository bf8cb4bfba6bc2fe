/-! WHAT A STATE OF WorkerRows IS. A tool: (edition, quirk, bars). A worker: (tool, edition, finished, trusted, memory, freeSince, endedBy, request). A request: (tool, input, size, state, begun, unwanted, redone, result, worker, place). -/
abbrev cs_T : Type := Int64 × Int32 × Int32
abbrev cs_W : Type := Nat × Int64 × Int32 × Int32 × Int32 × Int32 × Int32 × Option Nat
abbrev cs_R : Type := Nat × Int64 × Int32 × Int32 × Int32 × Bool × Bool × Int64 × Option Nat × Int32
abbrev tEd (t : cs_T) : Int64 := t.1
abbrev tQu (t : cs_T) : Int32 := t.2.1
abbrev tBa (t : cs_T) : Int32 := t.2.2
abbrev wTo (w : cs_W) : Nat := w.1
abbrev wEd (w : cs_W) : Int64 := w.2.1
abbrev wFi (w : cs_W) : Int32 := w.2.2.1
abbrev wTr (w : cs_W) : Int32 := w.2.2.2.1
abbrev wMe (w : cs_W) : Int32 := w.2.2.2.2.1
abbrev wFr (w : cs_W) : Int32 := w.2.2.2.2.2.1
abbrev wEn (w : cs_W) : Int32 := w.2.2.2.2.2.2.1
abbrev wRq (w : cs_W) : Option Nat := w.2.2.2.2.2.2.2
abbrev rTo (r : cs_R) : Nat := r.1
abbrev rIn (r : cs_R) : Int64 := r.2.1
abbrev rSz (r : cs_R) : Int32 := r.2.2.1
abbrev rSt (r : cs_R) : Int32 := r.2.2.2.1
abbrev rBe (r : cs_R) : Int32 := r.2.2.2.2.1
abbrev rUn (r : cs_R) : Bool := r.2.2.2.2.2.1
abbrev rRe (r : cs_R) : Bool := r.2.2.2.2.2.2.1
abbrev rRs (r : cs_R) : Int64 := r.2.2.2.2.2.2.2.1
abbrev rWk (r : cs_R) : Option Nat := r.2.2.2.2.2.2.2.2.1
abbrev rPl (r : cs_R) : Int32 := r.2.2.2.2.2.2.2.2.2
-- a field gets a value
abbrev tEd_ (t : cs_T) (x : Int64) : cs_T := (x, tQu t, tBa t)
abbrev tQu_ (t : cs_T) (x : Int32) : cs_T := (tEd t, x, tBa t)
abbrev tBa_ (t : cs_T) (x : Int32) : cs_T := (tEd t, tQu t, x)
abbrev wFi_ (w : cs_W) (x : Int32) : cs_W := (wTo w, wEd w, x, wTr w, wMe w, wFr w, wEn w, wRq w)
abbrev wTr_ (w : cs_W) (x : Int32) : cs_W := (wTo w, wEd w, wFi w, x, wMe w, wFr w, wEn w, wRq w)
abbrev wMe_ (w : cs_W) (x : Int32) : cs_W := (wTo w, wEd w, wFi w, wTr w, x, wFr w, wEn w, wRq w)
abbrev wFr_ (w : cs_W) (x : Int32) : cs_W := (wTo w, wEd w, wFi w, wTr w, wMe w, x, wEn w, wRq w)
abbrev wEn_ (w : cs_W) (x : Int32) : cs_W := (wTo w, wEd w, wFi w, wTr w, wMe w, wFr w, x, wRq w)
abbrev wRq_ (w : cs_W) (x : Option Nat) : cs_W := (wTo w, wEd w, wFi w, wTr w, wMe w, wFr w, wEn w, x)
abbrev rSt_ (r : cs_R) (x : Int32) : cs_R := (rTo r, rIn r, rSz r, x, rBe r, rUn r, rRe r, rRs r, rWk r, rPl r)
abbrev rBe_ (r : cs_R) (x : Int32) : cs_R := (rTo r, rIn r, rSz r, rSt r, x, rUn r, rRe r, rRs r, rWk r, rPl r)
abbrev rUn_ (r : cs_R) (x : Bool) : cs_R := (rTo r, rIn r, rSz r, rSt r, rBe r, x, rRe r, rRs r, rWk r, rPl r)
abbrev rRe_ (r : cs_R) (x : Bool) : cs_R := (rTo r, rIn r, rSz r, rSt r, rBe r, rUn r, x, rRs r, rWk r, rPl r)
abbrev rRs_ (r : cs_R) (x : Int64) : cs_R := (rTo r, rIn r, rSz r, rSt r, rBe r, rUn r, rRe r, x, rWk r, rPl r)
abbrev rWk_ (r : cs_R) (x : Option Nat) : cs_R := (rTo r, rIn r, rSz r, rSt r, rBe r, rUn r, rRe r, rRs r, x, rPl r)
abbrev rPl_ (r : cs_R) (x : Int32) : cs_R := (rTo r, rIn r, rSz r, rSt r, rBe r, rUn r, rRe r, rRs r, rWk r, x)
/-- the whole: (most, bound, idle), the clock, how many of each, and each -/
abbrev cs_S : Type := (Int32 × Int32 × Int32) × Int32 × (Nat × Nat × Nat) × (Nat → cs_T) × (Nat → cs_W) × (Nat → cs_R)
abbrev cMo (x : cs_S) : Int32 := x.1.1
abbrev cBo (x : cs_S) : Int32 := x.1.2.1
abbrev cId (x : cs_S) : Int32 := x.1.2.2
abbrev cCl (x : cs_S) : Int32 := x.2.1
abbrev nT (x : cs_S) : Nat := x.2.2.1.1
abbrev nW (x : cs_S) : Nat := x.2.2.1.2.1
abbrev nR (x : cs_S) : Nat := x.2.2.1.2.2
abbrev gT (x : cs_S) : Nat → cs_T := x.2.2.2.1
abbrev gW (x : cs_S) : Nat → cs_W := x.2.2.2.2.1
abbrev gR (x : cs_S) : Nat → cs_R := x.2.2.2.2.2
abbrev sCl (x : cs_S) (k : Int32) : cs_S := (x.1, k, x.2.2.1, gT x, gW x, gR x)
abbrev sT (x : cs_S) (i : Nat) (t : cs_T) : cs_S := (x.1, x.2.1, x.2.2.1, va_up (gT x) i t, gW x, gR x)
abbrev sW (x : cs_S) (i : Nat) (w : cs_W) : cs_S := (x.1, x.2.1, x.2.2.1, gT x, va_up (gW x) i w, gR x)
abbrev sR (x : cs_S) (i : Nat) (r : cs_R) : cs_S := (x.1, x.2.1, x.2.2.1, gT x, gW x, va_up (gR x) i r)
abbrev aT (x : cs_S) (t : cs_T) : cs_S := (x.1, x.2.1, (nT x + 1, nW x, nR x), va_up (gT x) (nT x) t, gW x, gR x)
abbrev aW (x : cs_S) (w : cs_W) : cs_S := (x.1, x.2.1, (nT x, nW x + 1, nR x), gT x, va_up (gW x) (nW x) w, gR x)
abbrev aR (x : cs_S) (r : cs_R) : cs_S := (x.1, x.2.1, (nT x, nW x, nR x + 1), gT x, gW x, va_up (gR x) (nR x) r)
def bI (b : Bool) : Int32 := match b with
  | true => 1
  | false => 0
-- an object's fields
def eT (i : Nat) (t : cs_T) : List Value := [.int (nI i), .long (tEd t), .int (tQu t), .int (tBa t)]
def eW (ta ra : Nat → Nat) (i : Nat) (w : cs_W) : List Value := [.int (nI i), .ref (ta (wTo w)), .long (wEd w), .int (wFi w), .int (wTr w), .int (wMe w), .int (wFr w), .int (wEn w), va_rf ((wRq w).map ra)]
def eR (ta wa : Nat → Nat) (i : Nat) (r : cs_R) : List Value := [.int (nI i), .ref (ta (rTo r)), .long (rIn r), .int (rSz r), .int (rSt r), .int (rBe r), .int (bI (rUn r)), .int (bI (rRe r)), .long (rRs r), va_rf ((rWk r).map wa), .int (rPl r)]
/-- where it lies: the object, its three rows with their array classes; the tools, workers, requests -/
abbrev ck_F : Type := (Nat × Nat × Nat × Nat) × (ClassId × ClassId × ClassId)
abbrev ck_A : Type := (Nat → Nat) × (Nat → Nat) × (Nat → Nat)
def eO (k : ck_F) (x : cs_S) : List Value := [.int (cMo x), .int (cBo x), .int (cId x), .int (cCl x), .ref k.1.2.1, .ref k.1.2.2.1, .ref k.1.2.2.2, .int (nI (nT x)), .int (nI (nW x)), .int (nI (nR x))]
def eA (n : Nat) (ad : Nat → Nat) : Nat → Option Nat := fun i => if i < n then some (ad i) else none
/-- what is referred to is there -/
def cs_ok (x : cs_S) : Prop := (nT x ≤ 6 ∧ nW x ≤ 60 ∧ nR x ≤ 100) ∧ (∀ i, i < nW x → wTo (gW x i) < nT x ∧ ∀ j, wRq (gW x i) = some j → j < nR x) ∧ (∀ j, j < nR x → rTo (gR x j) < nT x ∧ ∀ i, rWk (gR x j) = some i → i < nW x)

abbrev kO (k : ck_F) : Nat := k.1.1
abbrev kTs (k : ck_F) : Nat := k.1.2.1
abbrev kWs (k : ck_F) : Nat := k.1.2.2.1
abbrev kRs (k : ck_F) : Nat := k.1.2.2.2
abbrev aTo (d : ck_A) : Nat → Nat := d.1
abbrev aWo (d : ck_A) : Nat → Nat := d.2.1
abbrev aRq (d : ck_A) : Nat → Nat := d.2.2
abbrev rowE (cA : ClassId) (n : Nat) (g : Nat → Option Nat) : va_E := .inl (cA, n, .inr (.inr (.inr (.inr g))))
def ck_tys (k : ck_F) : List (ClassId × FieldType) := [(k.2.1, .object RX1), (k.2.2.1, .object RX2), (k.2.2.2, .object RX0)]
/-- the pool (LL, f) holds the state x -/
def cI (k : ck_F) (d : ck_A) (x : cs_S) (LL : List Nat) (f : Nat → va_E) : Prop :=
  cs_ok x ∧ (kO k ∈ LL ∧ f (kO k) = .inr (3, eO k x)) ∧ (kTs k ∈ LL ∧ f (kTs k) = rowE k.2.1 6 (eA (nT x) (aTo d))) ∧ (kWs k ∈ LL ∧ f (kWs k) = rowE k.2.2.1 60 (eA (nW x) (aWo d))) ∧ (kRs k ∈ LL ∧ f (kRs k) = rowE k.2.2.2 100 (eA (nR x) (aRq d))) ∧ (∀ i, i < nT x → aTo d i ∈ LL ∧ f (aTo d i) = .inr (1, eT i (gT x i))) ∧ (∀ i, i < nW x → aWo d i ∈ LL ∧ f (aWo d i) = .inr (2, eW (aTo d) (aRq d) i (gW x i))) ∧ (∀ i, i < nR x → aRq d i ∈ LL ∧ f (aRq d i) = .inr (0, eR (aTo d) (aWo d) i (gR x i)))
/-- the heap H holds the state x, and since H0 nothing outside A has changed -/
def cH (D : va_G) (k : ck_F) (d : ck_A) (x : cs_S) (A : Nat → Prop) (H0 H : Heap) (locs : List Loc) : Prop := ∃ (LL : List Nat) (f : Nat → va_E), cI k d x LL f ∧ va_P D vwCl (va_pl LL f) H ∧ va_D A (va_pl LL f) ∧ va_S A H0 H locs
theorem cs_ok.setT {x : cs_S} (h : cs_ok x) (i : Nat) (t : cs_T) : cs_ok (sT x i t) := h
theorem cs_ok.setCl {x : cs_S} (h : cs_ok x) (c : Int32) : cs_ok (sCl x c) := h
theorem gT_self (x : cs_S) (i : Nat) (t : cs_T) : gT (sT x i t) i = t := va_up_self _ _ _
theorem gW_self (x : cs_S) (i : Nat) (w : cs_W) : gW (sW x i w) i = w := va_up_self _ _ _
theorem gR_self (x : cs_S) (i : Nat) (r : cs_R) : gR (sR x i r) i = r := va_up_self _ _ _
theorem gT_ne (x : cs_S) {i j : Nat} (t : cs_T) (h : j ≠ i) : gT (sT x i t) j = gT x j := va_up_ne _ _ h
theorem gW_ne (x : cs_S) {i j : Nat} (w : cs_W) (h : j ≠ i) : gW (sW x i w) j = gW x j := va_up_ne _ _ h
theorem gR_ne (x : cs_S) {i j : Nat} (r : cs_R) (h : j ≠ i) : gR (sR x i r) j = gR x j := va_up_ne _ _ h
theorem cs_ok.setW {x : cs_S} (h : cs_ok x) (i : Nat) (w : cs_W) (hw : wTo w < nT x ∧ ∀ j, wRq w = some j → j < nR x) : cs_ok (sW x i w) := by
  refine ⟨h.1, fun a ha => ?_, h.2.2⟩
  by_cases e : a = i
  · subst e
    rw [gW_self]
    exact hw
  · rw [gW_ne _ _ e]
    exact h.2.1 a ha
theorem cs_ok.setR {x : cs_S} (h : cs_ok x) (i : Nat) (r : cs_R) (hr : rTo r < nT x ∧ ∀ j, rWk r = some j → j < nW x) : cs_ok (sR x i r) := by
  refine ⟨h.1, h.2.1, fun a ha => ?_⟩
  by_cases e : a = i
  · subst e
    rw [gR_self]
    exact hr
  · rw [gR_ne _ _ e]
    exact h.2.2 a ha
theorem nI_inj {i j n : Nat} (hi : i < n) (hj : j < n) (hn : n ≤ 100) (h : Value.int (nI i) = Value.int (nI j)) : i = j := by
  have h1 : nI i = nI j := Value.int.inj h
  exact (nI_eq (by omega) (by omega)).mp h1
section CI
variable {k : ck_F} {d : ck_A} {x : cs_S} {LL : List Nat} {f : Nat → va_E}
theorem cI.ok (h : cI k d x LL f) : cs_ok x := h.1
theorem cI.injT (h : cI k d x LL f) {i j : Nat} (hi : i < nT x) (hj : j < nT x) (e : aTo d i = aTo d j) : i = j := by
  have h1 := (h.2.2.2.2.2.1 i hi).2
  have h2 := (h.2.2.2.2.2.1 j hj).2
  rw [e, h2] at h1
  have h3 : eT j (gT x j) = eT i (gT x i) := congrArg Prod.snd (Sum.inr.inj h1)
  have h4 : Value.int (nI j) = Value.int (nI i) := (List.cons.inj h3).1
  exact (nI_inj hj hi (Nat.le_trans h.1.1.1 (by decide)) h4).symm
theorem cI.injW (h : cI k d x LL f) {i j : Nat} (hi : i < nW x) (hj : j < nW x) (e : aWo d i = aWo d j) : i = j := by
  have h1 := (h.2.2.2.2.2.2.1 i hi).2
  have h2 := (h.2.2.2.2.2.2.1 j hj).2
  rw [e, h2] at h1
  have h3 := congrArg Prod.snd (Sum.inr.inj h1)
  have h4 : Value.int (nI j) = Value.int (nI i) := (List.cons.inj h3).1
  exact (nI_inj hj hi (Nat.le_trans h.1.1.2.1 (by decide)) h4).symm
theorem cI.injR (h : cI k d x LL f) {i j : Nat} (hi : i < nR x) (hj : j < nR x) (e : aRq d i = aRq d j) : i = j := by
  have h1 := (h.2.2.2.2.2.2.2 i hi).2
  have h2 := (h.2.2.2.2.2.2.2 j hj).2
  rw [e, h2] at h1
  have h3 := congrArg Prod.snd (Sum.inr.inj h1)
  have h4 : Value.int (nI j) = Value.int (nI i) := (List.cons.inj h3).1
  exact (nI_inj hj hi (Nat.le_trans h.1.1.2.2 (by decide)) h4).symm
/-- two addresses with different cells are different -/
theorem up_ne {f : Nat → va_E} {a b : Nat} {e v : va_E} (hv : f b = v) (h : f a ≠ v) : va_up f a e b = v := by
  rw [va_up_ne _ _ (fun q => h (by rw [← q, hv]))]
  exact hv
theorem cI.setT (h : cI k d x LL f) {i : Nat} (hi : i < nT x) (t : cs_T) : cI k d (sT x i t) LL (va_up f (aTo d i) (.inr (1, eT i t))) := by
  have ha := (h.2.2.2.2.2.1 i hi).2
  obtain ⟨h0, h1, h2, h3, h4, h5, h6, h7⟩ := id h
  refine ⟨h0.setT i t, ⟨h1.1, up_ne h1.2 (by rw [ha]; simp)⟩, ⟨h2.1, up_ne h2.2 (by rw [ha]; simp)⟩, ⟨h3.1, up_ne h3.2 (by rw [ha]; simp)⟩, ⟨h4.1, up_ne h4.2 (by rw [ha]; simp)⟩, fun j hj => ⟨(h5 j hj).1, ?_⟩, fun j hj => ⟨(h6 j hj).1, up_ne (h6 j hj).2 (by rw [ha]; simp)⟩, fun j hj => ⟨(h7 j hj).1, up_ne (h7 j hj).2 (by rw [ha]; simp)⟩⟩
  by_cases e : j = i
  · subst e
    rw [va_up_self, gT_self]
  · rw [va_up_ne _ _ (fun q => e (h.injT hj hi q)), gT_ne _ _ e]
    exact (h5 j hj).2
theorem cI.setW (h : cI k d x LL f) {i : Nat} (hi : i < nW x) (w : cs_W) (hw : wTo w < nT x ∧ ∀ j, wRq w = some j → j < nR x) : cI k d (sW x i w) LL (va_up f (aWo d i) (.inr (2, eW (aTo d) (aRq d) i w))) := by
  have ha := (h.2.2.2.2.2.2.1 i hi).2
  obtain ⟨h0, h1, h2, h3, h4, h5, h6, h7⟩ := id h
  refine ⟨h0.setW i w hw, ⟨h1.1, up_ne h1.2 (by rw [ha]; simp)⟩, ⟨h2.1, up_ne h2.2 (by rw [ha]; simp)⟩, ⟨h3.1, up_ne h3.2 (by rw [ha]; simp)⟩, ⟨h4.1, up_ne h4.2 (by rw [ha]; simp)⟩, fun j hj => ⟨(h5 j hj).1, up_ne (h5 j hj).2 (by rw [ha]; simp)⟩, fun j hj => ⟨(h6 j hj).1, ?_⟩, fun j hj => ⟨(h7 j hj).1, up_ne (h7 j hj).2 (by rw [ha]; simp)⟩⟩
  by_cases e : j = i
  · subst e
    rw [va_up_self, gW_self]
  · rw [va_up_ne _ _ (fun q => e (h.injW hj hi q)), gW_ne _ _ e]
    exact (h6 j hj).2
theorem cI.setR (h : cI k d x LL f) {i : Nat} (hi : i < nR x) (r : cs_R) (hr : rTo r < nT x ∧ ∀ j, rWk r = some j → j < nW x) : cI k d (sR x i r) LL (va_up f (aRq d i) (.inr (0, eR (aTo d) (aWo d) i r))) := by
  have ha := (h.2.2.2.2.2.2.2 i hi).2
  obtain ⟨h0, h1, h2, h3, h4, h5, h6, h7⟩ := id h
  refine ⟨h0.setR i r hr, ⟨h1.1, up_ne h1.2 (by rw [ha]; simp)⟩, ⟨h2.1, up_ne h2.2 (by rw [ha]; simp)⟩, ⟨h3.1, up_ne h3.2 (by rw [ha]; simp)⟩, ⟨h4.1, up_ne h4.2 (by rw [ha]; simp)⟩, fun j hj => ⟨(h5 j hj).1, up_ne (h5 j hj).2 (by rw [ha]; simp)⟩, fun j hj => ⟨(h6 j hj).1, up_ne (h6 j hj).2 (by rw [ha]; simp)⟩, fun j hj => ⟨(h7 j hj).1, ?_⟩⟩
  by_cases e : j = i
  · subst e
    rw [va_up_self, gR_self]
  · rw [va_up_ne _ _ (fun q => e (h.injR hj hi q)), gR_ne _ _ e]
    exact (h7 j hj).2
theorem cI.setCl (h : cI k d x LL f) (c : Int32) : cI k d (sCl x c) LL (va_up f (kO k) (.inr (3, eO k (sCl x c)))) := by
  have ha := h.2.1.2
  obtain ⟨h0, h1, h2, h3, h4, h5, h6, h7⟩ := id h
  exact ⟨h0.setCl c, ⟨h1.1, va_up_self _ _ _⟩, ⟨h2.1, up_ne h2.2 (by rw [ha]; simp)⟩, ⟨h3.1, up_ne h3.2 (by rw [ha]; simp)⟩, ⟨h4.1, up_ne h4.2 (by rw [ha]; simp)⟩, fun j hj => ⟨(h5 j hj).1, up_ne (h5 j hj).2 (by rw [ha]; simp)⟩, fun j hj => ⟨(h6 j hj).1, up_ne (h6 j hj).2 (by rw [ha]; simp)⟩, fun j hj => ⟨(h7 j hj).1, up_ne (h7 j hj).2 (by rw [ha]; simp)⟩⟩
end CI
