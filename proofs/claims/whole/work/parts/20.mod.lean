/-! THE REFERENCE'S STATE: (most, bound, idle), clock, how many of each; its columns of ints (booleans are 0, 1) and of longs, by the field's number -/
abbrev ms_S : Type := (Int32 × Int32 × Int32) × Int32 × (Nat × Nat × Nat) × (Nat → Nat → Int32) × (Nat → Nat → Int64)
abbrev yMo (y : ms_S) : Int32 := y.1.1
abbrev yBo (y : ms_S) : Int32 := y.1.2.1
abbrev yId (y : ms_S) : Int32 := y.1.2.2
abbrev yCl (y : ms_S) : Int32 := y.2.1
abbrev yT (y : ms_S) : Nat := y.2.2.1.1
abbrev yW (y : ms_S) : Nat := y.2.2.1.2.1
abbrev yR (y : ms_S) : Nat := y.2.2.1.2.2
abbrev MI (y : ms_S) : Nat → Nat → Int32 := y.2.2.2.1
abbrev ML (y : ms_S) : Nat → Nat → Int64 := y.2.2.2.2
abbrev sMI (y : ms_S) (j i : Nat) (v : Int32) : ms_S := (y.1, y.2.1, y.2.2.1, va_up (MI y) j (upd (MI y j) i v), ML y)
abbrev sML (y : ms_S) (j i : Nat) (v : Int64) : ms_S := (y.1, y.2.1, y.2.2.1, MI y, va_up (ML y) j (vp_updL (ML y j) i v))
abbrev sYcl (y : ms_S) (c : Int32) : ms_S := (y.1, c, y.2.2.1, MI y, ML y)
abbrev sYT (y : ms_S) (n : Nat) : ms_S := (y.1, y.2.1, (n, yW y, yR y), MI y, ML y)
abbrev sYW (y : ms_S) (n : Nat) : ms_S := (y.1, y.2.1, (yT y, n, yR y), MI y, ML y)
abbrev sYR (y : ms_S) (n : Nat) : ms_S := (y.1, y.2.1, (yT y, yW y, n), MI y, ML y)
theorem MI_sMI (y : ms_S) (a i : Nat) (v : Int32) (b k : Nat) : MI (sMI y a i v) b k = if b = a ∧ k = i then v else MI y b k := by
  show va_up (MI y) a (upd (MI y a) i v) b k = _
  by_cases h : b = a
  · subst h
    rw [va_up_self]
    by_cases h2 : k = i
    · subst h2
      rw [if_pos ⟨rfl, rfl⟩, pk_us]
    · rw [if_neg (fun q => h2 q.2), pk_un h2]
  · rw [va_up_ne _ _ h, if_neg (fun q => h q.1)]
theorem ML_sML (y : ms_S) (a i : Nat) (v : Int64) (b k : Nat) : ML (sML y a i v) b k = if b = a ∧ k = i then v else ML y b k := by
  show va_up (ML y) a (vp_updL (ML y a) i v) b k = _
  by_cases h : b = a
  · subst h
    rw [va_up_self]
    by_cases h2 : k = i
    · subst h2
      rw [if_pos ⟨rfl, rfl⟩, pk_uLs]
    · rw [if_neg (fun q => h2 q.2), pk_uLn h2]
  · rw [va_up_ne _ _ h, if_neg (fun q => h q.1)]
theorem ML_sMI (y : ms_S) (a i : Nat) (v : Int32) : ML (sMI y a i v) = ML y := rfl
theorem MI_sML (y : ms_S) (a i : Nat) (v : Int64) : MI (sML y a i v) = MI y := rfl
def mLen (j : Nat) : Nat := if j < 10 then 6 else if j < 19 then 60 else 100
def mTy (j : Nat) : FieldType := if j = 7 ∨ j = 18 ∨ j = 27 ∨ j = 28 then .long else if j = 25 ∨ j = 26 then .boolean else .int
/-- the object, its rows by the field's number, their array classes -/
abbrev mk_F : Type := Nat × (Nat → Nat) × (Nat → ClassId)
abbrev mO (k : mk_F) : Nat := k.1
abbrev mA (k : mk_F) : Nat → Nat := k.2.1
def mE (c : ClassId) (y : ms_S) (j : Nat) : va_E := if mTy j = .long then .inl (c, mLen j, .inr (.inl (ML y j))) else .inl (c, mLen j, .inl (MI y j))
def eM (k : mk_F) (y : ms_S) : List Value := [.int (yMo y), .int (yBo y), .int (yId y), .int (yCl y), .int (nI (yT y)), .int (nI (yW y)), .int (nI (yR y)), .ref (mA k 7), .ref (mA k 8), .ref (mA k 9), .ref (mA k 10), .ref (mA k 11), .ref (mA k 12), .ref (mA k 13), .ref (mA k 14), .ref (mA k 15), .ref (mA k 16), .ref (mA k 17), .ref (mA k 18), .ref (mA k 19), .ref (mA k 20), .ref (mA k 21), .ref (mA k 22), .ref (mA k 23), .ref (mA k 24), .ref (mA k 25), .ref (mA k 26), .ref (mA k 27), .ref (mA k 28)]
def mk_tys (k : mk_F) : List (ClassId × FieldType) := (List.range 22).map (fun j => (k.2.2 (j + 7), mTy (j + 7)))
theorem mk_at (k : mk_F) {j : Nat} (h : 7 ≤ j) (h2 : j < 29) : (mk_tys k)[j - 7]? = some (k.2.2 j, mTy j) := by
  unfold mk_tys
  rw [List.getElem?_map, List.getElem?_range (by omega)]
  simp only [Option.map]
  rw [show j - 7 + 7 = j by omega]
def mJ (k : mk_F) : ms_S → List Nat → (Nat → va_E) → Prop := fun y LL f => (mO k ∈ LL ∧ f (mO k) = .inr (4, eM k y)) ∧ (∀ j, 7 ≤ j → j < 29 → mA k j ∈ LL ∧ f (mA k j) = mE (k.2.2 j) y j) ∧ (∀ i j, 7 ≤ i → i < 29 → 7 ≤ j → j < 29 → mA k i = mA k j → i = j)
theorem mJ.o {k : mk_F} {y : ms_S} : ∀ LL f, mJ k y LL f → mO k ∈ LL ∧ f (mO k) = .inr (4, eM k y) := fun LL f h => h.1
theorem mE_ne {c : ClassId} {y : ms_S} {j : Nat} {q : Nat × List Value} : mE c y j ≠ .inr q := by
  unfold mE
  split <;> simp
theorem mE_i {c : ClassId} {y : ms_S} {j : Nat} (h : mTy j ≠ .long) : mE c y j = .inl (c, mLen j, .inl (MI y j)) := if_neg h
theorem mE_l {c : ClassId} {y : ms_S} {j : Nat} (h : mTy j = .long) : mE c y j = .inl (c, mLen j, .inr (.inl (ML y j))) := if_pos h
theorem mE_congr {c : ClassId} {y y' : ms_S} {j : Nat} (h1 : MI y' j = MI y j) (h2 : ML y' j = ML y j) : mE c y' j = mE c y j := by
  unfold mE
  rw [h1, h2]
theorem mJ.obj {k : mk_F} {y y' : ms_S} {LL : List Nat} {f : Nat → va_E} (h : mJ k y LL f) (h1 : MI y' = MI y) (h2 : ML y' = ML y) : mJ k y' LL (va_up f (mO k) (.inr (4, eM k y'))) := by
  refine ⟨⟨h.1.1, va_up_self _ _ _⟩, fun j hj hj2 => ⟨(h.2.1 j hj hj2).1, ?_⟩, h.2.2⟩
  have e := (h.2.1 j hj hj2).2
  rw [va_up_ne _ _ (fun q => by rw [q, h.1.2] at e; exact mE_ne e.symm), e]
  exact (mE_congr (by rw [h1]) (by rw [h2])).symm
theorem mJ.arr {k : mk_F} {y y' : ms_S} {LL : List Nat} {f : Nat → va_E} (h : mJ k y LL f) {a : Nat} (ha : 7 ≤ a) (ha2 : a < 29) (h0 : eM k y' = eM k y) (h1 : ∀ b, b ≠ a → MI y' b = MI y b) (h2 : ∀ b, b ≠ a → ML y' b = ML y b) : mJ k y' LL (va_up f (mA k a) (mE (k.2.2 a) y' a)) := by
  refine ⟨⟨h.1.1, ?_⟩, fun j hj hj2 => ⟨(h.2.1 j hj hj2).1, ?_⟩, h.2.2⟩
  · have e := (h.2.1 a ha ha2).2
    rw [va_up_ne _ _ (fun q => by have e2 := h.1.2; rw [q, e] at e2; exact mE_ne e2), h.1.2, h0]
  · by_cases e : j = a
    · subst e
      rw [va_up_self]
    · rw [va_up_ne _ _ (fun q => e (h.2.2 j a hj hj2 ha ha2 q)), (h.2.1 j hj hj2).2]
      exact (mE_congr (h1 j e) (h2 j e)).symm
abbrev mX (D : va_G) (k : mk_F) (p : Program) (s : State) (m : MethodId) (args : Array Value) (c : Code) (cc : ByteArray) (n : Nat) : Prop := gX RX4 (mk_tys k) D p s m args c cc n
abbrev mG (D : va_G) (k : mk_F) (y : ms_S) (A : Nat → Prop) (H0 H : Heap) (locs : List Loc) : Prop := gH D (mJ k) y A H0 H locs
section MR
variable {p : Program} {l : Launch} {e : Env} {R : Room} {s : State} {m : MethodId} {args : Array Value} {below : List Frame} {meth : Method} {c : Code} {H : Heap} {locs : List Loc} {cells slots : Nat} {Q : State → Prop}
variable {cc : ByteArray} {pc nL : Nat} {ls : Array Slot} {rest : List Value} {D : va_G} {k : mk_F} {y : ms_S} {A : Nat → Prop} {H0 : Heap}
theorem gM_most (hC : mX D k p s m args c cc nL) (hH : mG D k y A H0 H locs) (hdg : decode cc pc = .ok (.getfield 82, 3)) (kk : W p l e R s m args below meth c H locs cells slots Q (F0 m (pc + 3) ls (.int (yMo y) :: rest))) : W p l e R s m args below meth c H locs cells slots Q (F0 m pc ls (.ref (mO k) :: rest)) := by
  obtain ⟨LL, f, hI, hP, hD, hS⟩ := hH
  exact pw_get hC.1 hC.2.1 hC.2.2.1 inX4 hC.2.2.2.1 hC.2.2.2.2.1 hP hI.1.1 hI.1.2 rfl 0 (by decide) (hC.2.2.1 _ wf_M_82) rfl hdg kk
theorem gM_bound (hC : mX D k p s m args c cc nL) (hH : mG D k y A H0 H locs) (hdg : decode cc pc = .ok (.getfield 87, 3)) (kk : W p l e R s m args below meth c H locs cells slots Q (F0 m (pc + 3) ls (.int (yBo y) :: rest))) : W p l e R s m args below meth c H locs cells slots Q (F0 m pc ls (.ref (mO k) :: rest)) := by
  obtain ⟨LL, f, hI, hP, hD, hS⟩ := hH
  exact pw_get hC.1 hC.2.1 hC.2.2.1 inX4 hC.2.2.2.1 hC.2.2.2.2.1 hP hI.1.1 hI.1.2 rfl 1 (by decide) (hC.2.2.1 _ wf_M_87) rfl hdg kk
theorem gM_idle (hC : mX D k p s m args c cc nL) (hH : mG D k y A H0 H locs) (hdg : decode cc pc = .ok (.getfield 90, 3)) (kk : W p l e R s m args below meth c H locs cells slots Q (F0 m (pc + 3) ls (.int (yId y) :: rest))) : W p l e R s m args below meth c H locs cells slots Q (F0 m pc ls (.ref (mO k) :: rest)) := by
  obtain ⟨LL, f, hI, hP, hD, hS⟩ := hH
  exact pw_get hC.1 hC.2.1 hC.2.2.1 inX4 hC.2.2.2.1 hC.2.2.2.2.1 hP hI.1.1 hI.1.2 rfl 2 (by decide) (hC.2.2.1 _ wf_M_90) rfl hdg kk
theorem gM_clock (hC : mX D k p s m args c cc nL) (hH : mG D k y A H0 H locs) (hdg : decode cc pc = .ok (.getfield 134, 3)) (kk : W p l e R s m args below meth c H locs cells slots Q (F0 m (pc + 3) ls (.int (yCl y) :: rest))) : W p l e R s m args below meth c H locs cells slots Q (F0 m pc ls (.ref (mO k) :: rest)) := by
  obtain ⟨LL, f, hI, hP, hD, hS⟩ := hH
  exact pw_get hC.1 hC.2.1 hC.2.2.1 inX4 hC.2.2.2.1 hC.2.2.2.2.1 hP hI.1.1 hI.1.2 rfl 3 (by decide) (hC.2.2.1 _ wf_M_134) rfl hdg kk
theorem gM_tools (hC : mX D k p s m args c cc nL) (hH : mG D k y A H0 H locs) (hdg : decode cc pc = .ok (.getfield 93, 3)) (kk : W p l e R s m args below meth c H locs cells slots Q (F0 m (pc + 3) ls (.int (nI (yT y)) :: rest))) : W p l e R s m args below meth c H locs cells slots Q (F0 m pc ls (.ref (mO k) :: rest)) := by
  obtain ⟨LL, f, hI, hP, hD, hS⟩ := hH
  exact pw_get hC.1 hC.2.1 hC.2.2.1 inX4 hC.2.2.2.1 hC.2.2.2.2.1 hP hI.1.1 hI.1.2 rfl 4 (by decide) (hC.2.2.1 _ wf_M_93) rfl hdg kk
theorem gM_workers (hC : mX D k p s m args c cc nL) (hH : mG D k y A H0 H locs) (hdg : decode cc pc = .ok (.getfield 107, 3)) (kk : W p l e R s m args below meth c H locs cells slots Q (F0 m (pc + 3) ls (.int (nI (yW y)) :: rest))) : W p l e R s m args below meth c H locs cells slots Q (F0 m pc ls (.ref (mO k) :: rest)) := by
  obtain ⟨LL, f, hI, hP, hD, hS⟩ := hH
  exact pw_get hC.1 hC.2.1 hC.2.2.1 inX4 hC.2.2.2.1 hC.2.2.2.2.1 hP hI.1.1 hI.1.2 rfl 5 (by decide) (hC.2.2.1 _ wf_M_107) rfl hdg kk
theorem gM_requests (hC : mX D k p s m args c cc nL) (hH : mG D k y A H0 H locs) (hdg : decode cc pc = .ok (.getfield 100, 3)) (kk : W p l e R s m args below meth c H locs cells slots Q (F0 m (pc + 3) ls (.int (nI (yR y)) :: rest))) : W p l e R s m args below meth c H locs cells slots Q (F0 m pc ls (.ref (mO k) :: rest)) := by
  obtain ⟨LL, f, hI, hP, hD, hS⟩ := hH
  exact pw_get hC.1 hC.2.1 hC.2.2.1 inX4 hC.2.2.2.1 hC.2.2.2.2.1 hP hI.1.1 hI.1.2 rfl 6 (by decide) (hC.2.2.1 _ wf_M_100) rfl hdg kk
theorem gM_editionOf (hC : mX D k p s m args c cc nL) (hH : mG D k y A H0 H locs) (hdg : decode cc pc = .ok (.getfield 7, 3)) (kk : W p l e R s m args below meth c H locs cells slots Q (F0 m (pc + 3) ls (.ref (mA k 7) :: rest))) : W p l e R s m args below meth c H locs cells slots Q (F0 m pc ls (.ref (mO k) :: rest)) := by
  obtain ⟨LL, f, hI, hP, hD, hS⟩ := hH
  exact pw_get hC.1 hC.2.1 hC.2.2.1 inX4 hC.2.2.2.1 hC.2.2.2.2.1 hP hI.1.1 hI.1.2 rfl 7 (by decide) (hC.2.2.1 _ wf_M_7) rfl hdg kk
theorem gM_quirkOf (hC : mX D k p s m args c cc nL) (hH : mG D k y A H0 H locs) (hdg : decode cc pc = .ok (.getfield 13, 3)) (kk : W p l e R s m args below meth c H locs cells slots Q (F0 m (pc + 3) ls (.ref (mA k 8) :: rest))) : W p l e R s m args below meth c H locs cells slots Q (F0 m pc ls (.ref (mO k) :: rest)) := by
  obtain ⟨LL, f, hI, hP, hD, hS⟩ := hH
  exact pw_get hC.1 hC.2.1 hC.2.2.1 inX4 hC.2.2.2.1 hC.2.2.2.2.1 hP hI.1.1 hI.1.2 rfl 8 (by decide) (hC.2.2.1 _ wf_M_13) rfl hdg kk
theorem gM_barsOf (hC : mX D k p s m args c cc nL) (hH : mG D k y A H0 H locs) (hdg : decode cc pc = .ok (.getfield 17, 3)) (kk : W p l e R s m args below meth c H locs cells slots Q (F0 m (pc + 3) ls (.ref (mA k 9) :: rest))) : W p l e R s m args below meth c H locs cells slots Q (F0 m pc ls (.ref (mO k) :: rest)) := by
  obtain ⟨LL, f, hI, hP, hD, hS⟩ := hH
  exact pw_get hC.1 hC.2.1 hC.2.2.1 inX4 hC.2.2.2.1 hC.2.2.2.2.1 hP hI.1.1 hI.1.2 rfl 9 (by decide) (hC.2.2.1 _ wf_M_17) rfl hdg kk
theorem gM_toolOf (hC : mX D k p s m args c cc nL) (hH : mG D k y A H0 H locs) (hdg : decode cc pc = .ok (.getfield 20, 3)) (kk : W p l e R s m args below meth c H locs cells slots Q (F0 m (pc + 3) ls (.ref (mA k 10) :: rest))) : W p l e R s m args below meth c H locs cells slots Q (F0 m pc ls (.ref (mO k) :: rest)) := by
  obtain ⟨LL, f, hI, hP, hD, hS⟩ := hH
  exact pw_get hC.1 hC.2.1 hC.2.2.1 inX4 hC.2.2.2.1 hC.2.2.2.2.1 hP hI.1.1 hI.1.2 rfl 10 (by decide) (hC.2.2.1 _ wf_M_20) rfl hdg kk
theorem gM_state (hC : mX D k p s m args c cc nL) (hH : mG D k y A H0 H locs) (hdg : decode cc pc = .ok (.getfield 23, 3)) (kk : W p l e R s m args below meth c H locs cells slots Q (F0 m (pc + 3) ls (.ref (mA k 11) :: rest))) : W p l e R s m args below meth c H locs cells slots Q (F0 m pc ls (.ref (mO k) :: rest)) := by
  obtain ⟨LL, f, hI, hP, hD, hS⟩ := hH
  exact pw_get hC.1 hC.2.1 hC.2.2.1 inX4 hC.2.2.2.1 hC.2.2.2.2.1 hP hI.1.1 hI.1.2 rfl 11 (by decide) (hC.2.2.1 _ wf_M_23) rfl hdg kk
theorem gM_finished (hC : mX D k p s m args c cc nL) (hH : mG D k y A H0 H locs) (hdg : decode cc pc = .ok (.getfield 26, 3)) (kk : W p l e R s m args below meth c H locs cells slots Q (F0 m (pc + 3) ls (.ref (mA k 12) :: rest))) : W p l e R s m args below meth c H locs cells slots Q (F0 m pc ls (.ref (mO k) :: rest)) := by
  obtain ⟨LL, f, hI, hP, hD, hS⟩ := hH
  exact pw_get hC.1 hC.2.1 hC.2.2.1 inX4 hC.2.2.2.1 hC.2.2.2.2.1 hP hI.1.1 hI.1.2 rfl 12 (by decide) (hC.2.2.1 _ wf_M_26) rfl hdg kk
theorem gM_memory (hC : mX D k p s m args c cc nL) (hH : mG D k y A H0 H locs) (hdg : decode cc pc = .ok (.getfield 29, 3)) (kk : W p l e R s m args below meth c H locs cells slots Q (F0 m (pc + 3) ls (.ref (mA k 13) :: rest))) : W p l e R s m args below meth c H locs cells slots Q (F0 m pc ls (.ref (mO k) :: rest)) := by
  obtain ⟨LL, f, hI, hP, hD, hS⟩ := hH
  exact pw_get hC.1 hC.2.1 hC.2.2.1 inX4 hC.2.2.2.1 hC.2.2.2.2.1 hP hI.1.1 hI.1.2 rfl 13 (by decide) (hC.2.2.1 _ wf_M_29) rfl hdg kk
theorem gM_busyWith (hC : mX D k p s m args c cc nL) (hH : mG D k y A H0 H locs) (hdg : decode cc pc = .ok (.getfield 32, 3)) (kk : W p l e R s m args below meth c H locs cells slots Q (F0 m (pc + 3) ls (.ref (mA k 14) :: rest))) : W p l e R s m args below meth c H locs cells slots Q (F0 m pc ls (.ref (mO k) :: rest)) := by
  obtain ⟨LL, f, hI, hP, hD, hS⟩ := hH
  exact pw_get hC.1 hC.2.1 hC.2.2.1 inX4 hC.2.2.2.1 hC.2.2.2.2.1 hP hI.1.1 hI.1.2 rfl 14 (by decide) (hC.2.2.1 _ wf_M_32) rfl hdg kk
theorem gM_why (hC : mX D k p s m args c cc nL) (hH : mG D k y A H0 H locs) (hdg : decode cc pc = .ok (.getfield 35, 3)) (kk : W p l e R s m args below meth c H locs cells slots Q (F0 m (pc + 3) ls (.ref (mA k 15) :: rest))) : W p l e R s m args below meth c H locs cells slots Q (F0 m pc ls (.ref (mO k) :: rest)) := by
  obtain ⟨LL, f, hI, hP, hD, hS⟩ := hH
  exact pw_get hC.1 hC.2.1 hC.2.2.1 inX4 hC.2.2.2.1 hC.2.2.2.2.1 hP hI.1.1 hI.1.2 rfl 15 (by decide) (hC.2.2.1 _ wf_M_35) rfl hdg kk
theorem gM_trusted (hC : mX D k p s m args c cc nL) (hH : mG D k y A H0 H locs) (hdg : decode cc pc = .ok (.getfield 38, 3)) (kk : W p l e R s m args below meth c H locs cells slots Q (F0 m (pc + 3) ls (.ref (mA k 16) :: rest))) : W p l e R s m args below meth c H locs cells slots Q (F0 m pc ls (.ref (mO k) :: rest)) := by
  obtain ⟨LL, f, hI, hP, hD, hS⟩ := hH
  exact pw_get hC.1 hC.2.1 hC.2.2.1 inX4 hC.2.2.2.1 hC.2.2.2.2.1 hP hI.1.1 hI.1.2 rfl 16 (by decide) (hC.2.2.1 _ wf_M_38) rfl hdg kk
theorem gM_since (hC : mX D k p s m args c cc nL) (hH : mG D k y A H0 H locs) (hdg : decode cc pc = .ok (.getfield 41, 3)) (kk : W p l e R s m args below meth c H locs cells slots Q (F0 m (pc + 3) ls (.ref (mA k 17) :: rest))) : W p l e R s m args below meth c H locs cells slots Q (F0 m pc ls (.ref (mO k) :: rest)) := by
  obtain ⟨LL, f, hI, hP, hD, hS⟩ := hH
  exact pw_get hC.1 hC.2.1 hC.2.2.1 inX4 hC.2.2.2.1 hC.2.2.2.2.1 hP hI.1.1 hI.1.2 rfl 17 (by decide) (hC.2.2.1 _ wf_M_41) rfl hdg kk
theorem gM_startedWith (hC : mX D k p s m args c cc nL) (hH : mG D k y A H0 H locs) (hdg : decode cc pc = .ok (.getfield 44, 3)) (kk : W p l e R s m args below meth c H locs cells slots Q (F0 m (pc + 3) ls (.ref (mA k 18) :: rest))) : W p l e R s m args below meth c H locs cells slots Q (F0 m pc ls (.ref (mO k) :: rest)) := by
  obtain ⟨LL, f, hI, hP, hD, hS⟩ := hH
  exact pw_get hC.1 hC.2.1 hC.2.2.1 inX4 hC.2.2.2.1 hC.2.2.2.2.1 hP hI.1.1 hI.1.2 rfl 18 (by decide) (hC.2.2.1 _ wf_M_44) rfl hdg kk
theorem gM_wants (hC : mX D k p s m args c cc nL) (hH : mG D k y A H0 H locs) (hdg : decode cc pc = .ok (.getfield 47, 3)) (kk : W p l e R s m args below meth c H locs cells slots Q (F0 m (pc + 3) ls (.ref (mA k 19) :: rest))) : W p l e R s m args below meth c H locs cells slots Q (F0 m pc ls (.ref (mO k) :: rest)) := by
  obtain ⟨LL, f, hI, hP, hD, hS⟩ := hH
  exact pw_get hC.1 hC.2.1 hC.2.2.1 inX4 hC.2.2.2.1 hC.2.2.2.2.1 hP hI.1.1 hI.1.2 rfl 19 (by decide) (hC.2.2.1 _ wf_M_47) rfl hdg kk
theorem gM_size (hC : mX D k p s m args c cc nL) (hH : mG D k y A H0 H locs) (hdg : decode cc pc = .ok (.getfield 50, 3)) (kk : W p l e R s m args below meth c H locs cells slots Q (F0 m (pc + 3) ls (.ref (mA k 20) :: rest))) : W p l e R s m args below meth c H locs cells slots Q (F0 m pc ls (.ref (mO k) :: rest)) := by
  obtain ⟨LL, f, hI, hP, hD, hS⟩ := hH
  exact pw_get hC.1 hC.2.1 hC.2.2.1 inX4 hC.2.2.2.1 hC.2.2.2.2.1 hP hI.1.1 hI.1.2 rfl 20 (by decide) (hC.2.2.1 _ wf_M_50) rfl hdg kk
theorem gM_kind (hC : mX D k p s m args c cc nL) (hH : mG D k y A H0 H locs) (hdg : decode cc pc = .ok (.getfield 53, 3)) (kk : W p l e R s m args below meth c H locs cells slots Q (F0 m (pc + 3) ls (.ref (mA k 21) :: rest))) : W p l e R s m args below meth c H locs cells slots Q (F0 m pc ls (.ref (mO k) :: rest)) := by
  obtain ⟨LL, f, hI, hP, hD, hS⟩ := hH
  exact pw_get hC.1 hC.2.1 hC.2.2.1 inX4 hC.2.2.2.1 hC.2.2.2.2.1 hP hI.1.1 hI.1.2 rfl 21 (by decide) (hC.2.2.1 _ wf_M_53) rfl hdg kk
theorem gM_by (hC : mX D k p s m args c cc nL) (hH : mG D k y A H0 H locs) (hdg : decode cc pc = .ok (.getfield 56, 3)) (kk : W p l e R s m args below meth c H locs cells slots Q (F0 m (pc + 3) ls (.ref (mA k 22) :: rest))) : W p l e R s m args below meth c H locs cells slots Q (F0 m pc ls (.ref (mO k) :: rest)) := by
  obtain ⟨LL, f, hI, hP, hD, hS⟩ := hH
  exact pw_get hC.1 hC.2.1 hC.2.2.1 inX4 hC.2.2.2.1 hC.2.2.2.2.1 hP hI.1.1 hI.1.2 rfl 22 (by decide) (hC.2.2.1 _ wf_M_56) rfl hdg kk
theorem gM_place (hC : mX D k p s m args c cc nL) (hH : mG D k y A H0 H locs) (hdg : decode cc pc = .ok (.getfield 59, 3)) (kk : W p l e R s m args below meth c H locs cells slots Q (F0 m (pc + 3) ls (.ref (mA k 23) :: rest))) : W p l e R s m args below meth c H locs cells slots Q (F0 m pc ls (.ref (mO k) :: rest)) := by
  obtain ⟨LL, f, hI, hP, hD, hS⟩ := hH
  exact pw_get hC.1 hC.2.1 hC.2.2.1 inX4 hC.2.2.2.1 hC.2.2.2.2.1 hP hI.1.1 hI.1.2 rfl 23 (by decide) (hC.2.2.1 _ wf_M_59) rfl hdg kk
theorem gM_begun (hC : mX D k p s m args c cc nL) (hH : mG D k y A H0 H locs) (hdg : decode cc pc = .ok (.getfield 62, 3)) (kk : W p l e R s m args below meth c H locs cells slots Q (F0 m (pc + 3) ls (.ref (mA k 24) :: rest))) : W p l e R s m args below meth c H locs cells slots Q (F0 m pc ls (.ref (mO k) :: rest)) := by
  obtain ⟨LL, f, hI, hP, hD, hS⟩ := hH
  exact pw_get hC.1 hC.2.1 hC.2.2.1 inX4 hC.2.2.2.1 hC.2.2.2.2.1 hP hI.1.1 hI.1.2 rfl 24 (by decide) (hC.2.2.1 _ wf_M_62) rfl hdg kk
theorem gM_isUnwanted (hC : mX D k p s m args c cc nL) (hH : mG D k y A H0 H locs) (hdg : decode cc pc = .ok (.getfield 65, 3)) (kk : W p l e R s m args below meth c H locs cells slots Q (F0 m (pc + 3) ls (.ref (mA k 25) :: rest))) : W p l e R s m args below meth c H locs cells slots Q (F0 m pc ls (.ref (mO k) :: rest)) := by
  obtain ⟨LL, f, hI, hP, hD, hS⟩ := hH
  exact pw_get hC.1 hC.2.1 hC.2.2.1 inX4 hC.2.2.2.1 hC.2.2.2.2.1 hP hI.1.1 hI.1.2 rfl 25 (by decide) (hC.2.2.1 _ wf_M_65) rfl hdg kk
theorem gM_isRedone (hC : mX D k p s m args c cc nL) (hH : mG D k y A H0 H locs) (hdg : decode cc pc = .ok (.getfield 69, 3)) (kk : W p l e R s m args below meth c H locs cells slots Q (F0 m (pc + 3) ls (.ref (mA k 26) :: rest))) : W p l e R s m args below meth c H locs cells slots Q (F0 m pc ls (.ref (mO k) :: rest)) := by
  obtain ⟨LL, f, hI, hP, hD, hS⟩ := hH
  exact pw_get hC.1 hC.2.1 hC.2.2.1 inX4 hC.2.2.2.1 hC.2.2.2.2.1 hP hI.1.1 hI.1.2 rfl 26 (by decide) (hC.2.2.1 _ wf_M_69) rfl hdg kk
theorem gM_input (hC : mX D k p s m args c cc nL) (hH : mG D k y A H0 H locs) (hdg : decode cc pc = .ok (.getfield 72, 3)) (kk : W p l e R s m args below meth c H locs cells slots Q (F0 m (pc + 3) ls (.ref (mA k 27) :: rest))) : W p l e R s m args below meth c H locs cells slots Q (F0 m pc ls (.ref (mO k) :: rest)) := by
  obtain ⟨LL, f, hI, hP, hD, hS⟩ := hH
  exact pw_get hC.1 hC.2.1 hC.2.2.1 inX4 hC.2.2.2.1 hC.2.2.2.2.1 hP hI.1.1 hI.1.2 rfl 27 (by decide) (hC.2.2.1 _ wf_M_72) rfl hdg kk
theorem gM_gave (hC : mX D k p s m args c cc nL) (hH : mG D k y A H0 H locs) (hdg : decode cc pc = .ok (.getfield 75, 3)) (kk : W p l e R s m args below meth c H locs cells slots Q (F0 m (pc + 3) ls (.ref (mA k 28) :: rest))) : W p l e R s m args below meth c H locs cells slots Q (F0 m pc ls (.ref (mO k) :: rest)) := by
  obtain ⟨LL, f, hI, hP, hD, hS⟩ := hH
  exact pw_get hC.1 hC.2.1 hC.2.2.1 inX4 hC.2.2.2.1 hC.2.2.2.2.1 hP hI.1.1 hI.1.2 rfl 28 (by decide) (hC.2.2.1 _ wf_M_75) rfl hdg kk
theorem pM_clock (hC : mX D k p s m args c cc nL) (hH : mG D k y A H0 H locs) {v : Int32} (hdg : decode cc pc = .ok (.putfield 134, 3)) (kk : ∀ (H1 : Heap) (locs1 : List Loc), mG D k (sYcl y v) A H0 H1 locs1 → W p l e R s m args below meth c H1 locs1 cells slots Q (F0 m (pc + 3) ls rest)) : W p l e R s m args below meth c H locs cells slots Q (F0 m pc ls (.int v :: .ref (mO k) :: rest)) := by
  obtain ⟨LL, f, hI, hP, hD, hS⟩ := hH
  exact pw_put hC.1 hC.2.1 hC.2.2.1 inX4 tyX4 tyX4_ok nmX4 hC.2.2.2.1 hC.2.2.2.2.1 hP hD hS hI.1.1 hI.1.2 rfl 3 (by decide) (hC.2.2.1 _ wf_M_134) rfl rfl rfl (Nat.le_of_ble_eq_true rfl) hdg (fun H1 locs1 h1 h2 h3 => kk H1 locs1 ⟨LL, _, mJ.obj hI rfl rfl, h1, h2, h3⟩)
theorem pM_tools (hC : mX D k p s m args c cc nL) (hH : mG D k y A H0 H locs) {v : Nat} (hdg : decode cc pc = .ok (.putfield 93, 3)) (kk : ∀ (H1 : Heap) (locs1 : List Loc), mG D k (sYT y v) A H0 H1 locs1 → W p l e R s m args below meth c H1 locs1 cells slots Q (F0 m (pc + 3) ls rest)) : W p l e R s m args below meth c H locs cells slots Q (F0 m pc ls (.int (nI v) :: .ref (mO k) :: rest)) := by
  obtain ⟨LL, f, hI, hP, hD, hS⟩ := hH
  exact pw_put hC.1 hC.2.1 hC.2.2.1 inX4 tyX4 tyX4_ok nmX4 hC.2.2.2.1 hC.2.2.2.2.1 hP hD hS hI.1.1 hI.1.2 rfl 4 (by decide) (hC.2.2.1 _ wf_M_93) rfl rfl rfl (Nat.le_of_ble_eq_true rfl) hdg (fun H1 locs1 h1 h2 h3 => kk H1 locs1 ⟨LL, _, mJ.obj hI rfl rfl, h1, h2, h3⟩)
theorem pM_workers (hC : mX D k p s m args c cc nL) (hH : mG D k y A H0 H locs) {v : Nat} (hdg : decode cc pc = .ok (.putfield 107, 3)) (kk : ∀ (H1 : Heap) (locs1 : List Loc), mG D k (sYW y v) A H0 H1 locs1 → W p l e R s m args below meth c H1 locs1 cells slots Q (F0 m (pc + 3) ls rest)) : W p l e R s m args below meth c H locs cells slots Q (F0 m pc ls (.int (nI v) :: .ref (mO k) :: rest)) := by
  obtain ⟨LL, f, hI, hP, hD, hS⟩ := hH
  exact pw_put hC.1 hC.2.1 hC.2.2.1 inX4 tyX4 tyX4_ok nmX4 hC.2.2.2.1 hC.2.2.2.2.1 hP hD hS hI.1.1 hI.1.2 rfl 5 (by decide) (hC.2.2.1 _ wf_M_107) rfl rfl rfl (Nat.le_of_ble_eq_true rfl) hdg (fun H1 locs1 h1 h2 h3 => kk H1 locs1 ⟨LL, _, mJ.obj hI rfl rfl, h1, h2, h3⟩)
theorem pM_requests (hC : mX D k p s m args c cc nL) (hH : mG D k y A H0 H locs) {v : Nat} (hdg : decode cc pc = .ok (.putfield 100, 3)) (kk : ∀ (H1 : Heap) (locs1 : List Loc), mG D k (sYR y v) A H0 H1 locs1 → W p l e R s m args below meth c H1 locs1 cells slots Q (F0 m (pc + 3) ls rest)) : W p l e R s m args below meth c H locs cells slots Q (F0 m pc ls (.int (nI v) :: .ref (mO k) :: rest)) := by
  obtain ⟨LL, f, hI, hP, hD, hS⟩ := hH
  exact pw_put hC.1 hC.2.1 hC.2.2.1 inX4 tyX4 tyX4_ok nmX4 hC.2.2.2.1 hC.2.2.2.2.1 hP hD hS hI.1.1 hI.1.2 rfl 6 (by decide) (hC.2.2.1 _ wf_M_100) rfl rfl rfl (Nat.le_of_ble_eq_true rfl) hdg (fun H1 locs1 h1 h2 h3 => kk H1 locs1 ⟨LL, _, mJ.obj hI rfl rfl, h1, h2, h3⟩)
theorem aM_i (hC : mX D k p s m args c cc nL) (hH : mG D k y A H0 H locs) {j i : Nat} (hj : 7 ≤ j ∧ j < 29 ∧ mTy j = .int) (hi : i < mLen j) (hdg : decode cc pc = .ok (.iaload, 1)) (kk : W p l e R s m args below meth c H locs cells slots Q (F0 m (pc + 1) ls (.int (MI y j i) :: rest))) : W p l e R s m args below meth c H locs cells slots Q (F0 m pc ls (.int (nI i) :: .ref (mA k j) :: rest)) := by
  obtain ⟨LL, f, hI, hP, hD, hS⟩ := hH
  have hj1 := hI.2.1 j hj.1 hj.2.1
  have ht := mk_at k hj.1 hj.2.1
  have hi2 : i < 2 ^ 31 := Nat.lt_of_lt_of_le hi (by unfold mLen; split; decide; split <;> decide)
  have hi3 : mLen j < 2 ^ 31 := by unfold mLen; split; decide; split <;> decide
  rw [hj.2.2] at ht
  refine pw_iald hC.1 hC.2.1 hC.2.2.2.2.1 hP (j - 7) hj1.1 (hj1.2.trans (mE_i (by rw [hj.2.2]; decide))) ht (vp_in_nI hi hi3) hdg ?_
  rw [nI_clamp hi2]
  exact kk
theorem aM_z (hC : mX D k p s m args c cc nL) (hH : mG D k y A H0 H locs) {j i : Nat} (hj : 7 ≤ j ∧ j < 29 ∧ mTy j = .boolean) (hi : i < mLen j) (hdg : decode cc pc = .ok (.baload, 1)) (kk : W p l e R s m args below meth c H locs cells slots Q (F0 m (pc + 1) ls (.int (MI y j i) :: rest))) : W p l e R s m args below meth c H locs cells slots Q (F0 m pc ls (.int (nI i) :: .ref (mA k j) :: rest)) := by
  obtain ⟨LL, f, hI, hP, hD, hS⟩ := hH
  have hj1 := hI.2.1 j hj.1 hj.2.1
  have ht := mk_at k hj.1 hj.2.1
  have hi2 : i < 2 ^ 31 := Nat.lt_of_lt_of_le hi (by unfold mLen; split; decide; split <;> decide)
  have hi3 : mLen j < 2 ^ 31 := by unfold mLen; split; decide; split <;> decide
  rw [hj.2.2] at ht
  refine pw_zald hC.1 hC.2.1 hC.2.2.2.2.1 hP (j - 7) hj1.1 (hj1.2.trans (mE_i (by rw [hj.2.2]; decide))) ht (vp_in_nI hi hi3) hdg ?_
  rw [nI_clamp hi2]
  exact kk
theorem aM_l (hC : mX D k p s m args c cc nL) (hH : mG D k y A H0 H locs) {j i : Nat} (hj : 7 ≤ j ∧ j < 29 ∧ mTy j = .long) (hi : i < mLen j) (hdg : decode cc pc = .ok (.laload, 1)) (kk : W p l e R s m args below meth c H locs cells slots Q (F0 m (pc + 1) ls (.long (ML y j i) :: rest))) : W p l e R s m args below meth c H locs cells slots Q (F0 m pc ls (.int (nI i) :: .ref (mA k j) :: rest)) := by
  obtain ⟨LL, f, hI, hP, hD, hS⟩ := hH
  have hj1 := hI.2.1 j hj.1 hj.2.1
  have ht := mk_at k hj.1 hj.2.1
  have hi2 : i < 2 ^ 31 := Nat.lt_of_lt_of_le hi (by unfold mLen; split; decide; split <;> decide)
  have hi3 : mLen j < 2 ^ 31 := by unfold mLen; split; decide; split <;> decide
  rw [hj.2.2] at ht
  refine pw_lald hC.1 hC.2.1 hC.2.2.2.2.1 hP (j - 7) hj1.1 (hj1.2.trans (mE_l hj.2.2)) ht (vp_in_nI hi hi3) hdg ?_
  rw [nI_clamp hi2]
  exact kk
theorem sM_i (hC : mX D k p s m args c cc nL) (hH : mG D k y A H0 H locs) {j i : Nat} {x : Int32} (hj : 7 ≤ j ∧ j < 29 ∧ mTy j = .int) (hi : i < mLen j) (hdg : decode cc pc = .ok (.iastore, 1)) (kk : ∀ (H1 : Heap) (locs1 : List Loc), mG D k (sMI y j i x) A H0 H1 locs1 → W p l e R s m args below meth c H1 locs1 cells slots Q (F0 m (pc + 1) ls rest)) : W p l e R s m args below meth c H locs cells slots Q (F0 m pc ls (.int x :: .int (nI i) :: .ref (mA k j) :: rest)) := by
  obtain ⟨LL, f, hI, hP, hD, hS⟩ := hH
  have hj1 := hI.2.1 j hj.1 hj.2.1
  have ht := mk_at k hj.1 hj.2.1
  have hi2 : i < 2 ^ 31 := Nat.lt_of_lt_of_le hi (by unfold mLen; split; decide; split <;> decide)
  have hi3 : mLen j < 2 ^ 31 := by unfold mLen; split; decide; split <;> decide
  rw [hj.2.2] at ht
  refine pw_iast hC.1 hC.2.1 hC.2.2.2.2.1 hP hD hS (j - 7) hj1.1 (hj1.2.trans (mE_i (by rw [hj.2.2]; decide))) ht (vp_in_nI hi hi3) hdg (fun H1 locs1 h1 h2 h3 => ?_)
  rw [nI_clamp hi2] at h1 h2
  have hJ : mJ k (sMI y j i x) LL _ := mJ.arr (y' := sMI y j i x) hI hj.1 hj.2.1 rfl (fun b hb => va_up_ne _ _ hb) (fun b hb => rfl)
  rw [show mE (k.2.2 j) (sMI y j i x) j = _ from (mE_i (by rw [hj.2.2]; decide))] at hJ
  have e1 : MI (sMI y j i x) j = _ := va_up_self _ _ _
  rw [e1] at hJ
  exact kk H1 locs1 ⟨LL, _, hJ, h1, h2, h3⟩
theorem sM_z (hC : mX D k p s m args c cc nL) (hH : mG D k y A H0 H locs) {j i : Nat} {x : Int32} (hx : vp_nar .boolean x = x) (hj : 7 ≤ j ∧ j < 29 ∧ mTy j = .boolean) (hi : i < mLen j) (hdg : decode cc pc = .ok (.bastore, 1)) (kk : ∀ (H1 : Heap) (locs1 : List Loc), mG D k (sMI y j i x) A H0 H1 locs1 → W p l e R s m args below meth c H1 locs1 cells slots Q (F0 m (pc + 1) ls rest)) : W p l e R s m args below meth c H locs cells slots Q (F0 m pc ls (.int x :: .int (nI i) :: .ref (mA k j) :: rest)) := by
  obtain ⟨LL, f, hI, hP, hD, hS⟩ := hH
  have hj1 := hI.2.1 j hj.1 hj.2.1
  have ht := mk_at k hj.1 hj.2.1
  have hi2 : i < 2 ^ 31 := Nat.lt_of_lt_of_le hi (by unfold mLen; split; decide; split <;> decide)
  have hi3 : mLen j < 2 ^ 31 := by unfold mLen; split; decide; split <;> decide
  rw [hj.2.2] at ht
  refine pw_zast hC.1 hC.2.1 hC.2.2.2.2.1 hP hD hS (j - 7) hj1.1 (hj1.2.trans (mE_i (by rw [hj.2.2]; decide))) ht (vp_in_nI hi hi3) hdg (fun H1 locs1 h1 h2 h3 => ?_)
  rw [nI_clamp hi2, hx] at h1 h2
  have hJ : mJ k (sMI y j i x) LL _ := mJ.arr (y' := sMI y j i x) hI hj.1 hj.2.1 rfl (fun b hb => va_up_ne _ _ hb) (fun b hb => rfl)
  rw [show mE (k.2.2 j) (sMI y j i x) j = _ from (mE_i (by rw [hj.2.2]; decide))] at hJ
  have e1 : MI (sMI y j i x) j = _ := va_up_self _ _ _
  rw [e1] at hJ
  exact kk H1 locs1 ⟨LL, _, hJ, h1, h2, h3⟩
theorem sM_l (hC : mX D k p s m args c cc nL) (hH : mG D k y A H0 H locs) {j i : Nat} {x : Int64} (hj : 7 ≤ j ∧ j < 29 ∧ mTy j = .long) (hi : i < mLen j) (hdg : decode cc pc = .ok (.lastore, 1)) (kk : ∀ (H1 : Heap) (locs1 : List Loc), mG D k (sML y j i x) A H0 H1 locs1 → W p l e R s m args below meth c H1 locs1 cells slots Q (F0 m (pc + 1) ls rest)) : W p l e R s m args below meth c H locs cells slots Q (F0 m pc ls (.long x :: .int (nI i) :: .ref (mA k j) :: rest)) := by
  obtain ⟨LL, f, hI, hP, hD, hS⟩ := hH
  have hj1 := hI.2.1 j hj.1 hj.2.1
  have ht := mk_at k hj.1 hj.2.1
  have hi2 : i < 2 ^ 31 := Nat.lt_of_lt_of_le hi (by unfold mLen; split; decide; split <;> decide)
  have hi3 : mLen j < 2 ^ 31 := by unfold mLen; split; decide; split <;> decide
  rw [hj.2.2] at ht
  refine pw_last hC.1 hC.2.1 hC.2.2.2.2.1 hP hD hS (j - 7) hj1.1 (hj1.2.trans (mE_l hj.2.2)) ht (vp_in_nI hi hi3) hdg (fun H1 locs1 h1 h2 h3 => ?_)
  rw [nI_clamp hi2] at h1 h2
  have hJ : mJ k (sML y j i x) LL _ := mJ.arr (y' := sML y j i x) hI hj.1 hj.2.1 rfl (fun b hb => rfl) (fun b hb => va_up_ne _ _ hb)
  rw [show mE (k.2.2 j) (sML y j i x) j = _ from (mE_l hj.2.2)] at hJ
  have e1 : ML (sML y j i x) j = _ := va_up_self _ _ _
  rw [e1] at hJ
  exact kk H1 locs1 ⟨LL, _, hJ, h1, h2, h3⟩
end MR
