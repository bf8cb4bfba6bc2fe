/-! ROWS OF WorkerRows: a field read or written, by the state -/
def cJ (k : ck_F) : ck_A × cs_S → List Nat → (Nat → va_E) → Prop := fun u LL f => cI k u.1 u.2 LL f
abbrev cX (D : va_G) (k : ck_F) (p : Program) (s : State) (m : MethodId) (args : Array Value) (c : Code) (cc : ByteArray) (n : Nat) : Prop := gX RX3 (ck_tys k) D p s m args c cc n
abbrev cG (D : va_G) (k : ck_F) (d : ck_A) (x : cs_S) (A : Nat → Prop) (H0 H : Heap) (locs : List Loc) : Prop := gH D (cJ k) (d, x) A H0 H locs
theorem cG.ok {D : va_G} {k : ck_F} {d : ck_A} {x : cs_S} {A : Nat → Prop} {H0 H : Heap} {locs : List Loc} (h : cG D k d x A H0 H locs) : cs_ok x := by
  obtain ⟨LL, f, hI, -⟩ := h
  exact cI.ok hI
theorem cJ.o {k : ck_F} {d : ck_A} {x : cs_S} : ∀ LL f, cJ k (d, x) LL f → kO k ∈ LL ∧ f (kO k) = .inr (3, eO k x) := fun LL f h => (show cI k d x LL f from h).2.1
theorem cG.injT {D : va_G} {k : ck_F} {d : ck_A} {x : cs_S} {A : Nat → Prop} {H0 H : Heap} {locs : List Loc} (h : cG D k d x A H0 H locs) {i j : Nat} (hi : i < nT x) (hj : j < nT x) (e : aTo d i = aTo d j) : i = j := by
  obtain ⟨LL, f, hI, -⟩ := h
  exact cI.injT hI hi hj e
theorem cG.injW {D : va_G} {k : ck_F} {d : ck_A} {x : cs_S} {A : Nat → Prop} {H0 H : Heap} {locs : List Loc} (h : cG D k d x A H0 H locs) {i j : Nat} (hi : i < nW x) (hj : j < nW x) (e : aWo d i = aWo d j) : i = j := by
  obtain ⟨LL, f, hI, -⟩ := h
  exact cI.injW hI hi hj e
theorem cG.injR {D : va_G} {k : ck_F} {d : ck_A} {x : cs_S} {A : Nat → Prop} {H0 H : Heap} {locs : List Loc} (h : cG D k d x A H0 H locs) {i j : Nat} (hi : i < nR x) (hj : j < nR x) (e : aRq d i = aRq d j) : i = j := by
  obtain ⟨LL, f, hI, -⟩ := h
  exact cI.injR hI hi hj e
theorem eA_in {n i : Nat} {ad : Nat → Nat} (h : i < n) : eA n ad i = some (ad i) := if_pos h
theorem eA_out {n i : Nat} {ad : Nat → Nat} (h : ¬ i < n) : eA n ad i = none := if_neg h
section CR
variable {p : Program} {l : Launch} {e : Env} {R : Room} {s : State} {m : MethodId} {args : Array Value} {below : List Frame} {meth : Method} {c : Code} {H : Heap} {locs : List Loc} {cells slots : Nat} {Q : State → Prop}
variable {cc : ByteArray} {pc nL : Nat} {ls : Array Slot} {rest : List Value} {D : va_G} {k : ck_F} {d : ck_A} {x : cs_S} {A : Nat → Prop} {H0 : Heap}
theorem gC_T_number (hC : cX D k p s m args c cc nL) (hH : cG D k d x A H0 H locs) {i : Nat} (hi : i < nT x) (hdg : decode cc pc = .ok (.getfield 48, 3)) (kk : W p l e R s m args below meth c H locs cells slots Q (F0 m (pc + 3) ls (.int (nI i) :: rest))) : W p l e R s m args below meth c H locs cells slots Q (F0 m pc ls (.ref (aTo d i) :: rest)) := by
  obtain ⟨LL, f, hI, hP, hD, hS⟩ := hH
  have h := (show cI k d x LL f from hI).2.2.2.2.2.1 i hi
  exact pw_get hC.1 hC.2.1 hC.2.2.1 inX1 hC.2.2.2.1 hC.2.2.2.2.1 hP h.1 h.2 rfl 0 (by decide) (hC.2.2.1 _ wf_C_48) rfl hdg kk
theorem gC_T_edition (hC : cX D k p s m args c cc nL) (hH : cG D k d x A H0 H locs) {i : Nat} (hi : i < nT x) (hdg : decode cc pc = .ok (.getfield 55, 3)) (kk : W p l e R s m args below meth c H locs cells slots Q (F0 m (pc + 3) ls (.long (tEd (gT x i)) :: rest))) : W p l e R s m args below meth c H locs cells slots Q (F0 m pc ls (.ref (aTo d i) :: rest)) := by
  obtain ⟨LL, f, hI, hP, hD, hS⟩ := hH
  have h := (show cI k d x LL f from hI).2.2.2.2.2.1 i hi
  exact pw_get hC.1 hC.2.1 hC.2.2.1 inX1 hC.2.2.2.1 hC.2.2.2.2.1 hP h.1 h.2 rfl 1 (by decide) (hC.2.2.1 _ wf_C_55) rfl hdg kk
theorem gC_T_quirk (hC : cX D k p s m args c cc nL) (hH : cG D k d x A H0 H locs) {i : Nat} (hi : i < nT x) (hdg : decode cc pc = .ok (.getfield 71, 3)) (kk : W p l e R s m args below meth c H locs cells slots Q (F0 m (pc + 3) ls (.int (tQu (gT x i)) :: rest))) : W p l e R s m args below meth c H locs cells slots Q (F0 m pc ls (.ref (aTo d i) :: rest)) := by
  obtain ⟨LL, f, hI, hP, hD, hS⟩ := hH
  have h := (show cI k d x LL f from hI).2.2.2.2.2.1 i hi
  exact pw_get hC.1 hC.2.1 hC.2.2.1 inX1 hC.2.2.2.1 hC.2.2.2.2.1 hP h.1 h.2 rfl 2 (by decide) (hC.2.2.1 _ wf_C_71) rfl hdg kk
theorem gC_T_bars (hC : cX D k p s m args c cc nL) (hH : cG D k d x A H0 H locs) {i : Nat} (hi : i < nT x) (hdg : decode cc pc = .ok (.getfield 170, 3)) (kk : W p l e R s m args below meth c H locs cells slots Q (F0 m (pc + 3) ls (.int (tBa (gT x i)) :: rest))) : W p l e R s m args below meth c H locs cells slots Q (F0 m pc ls (.ref (aTo d i) :: rest)) := by
  obtain ⟨LL, f, hI, hP, hD, hS⟩ := hH
  have h := (show cI k d x LL f from hI).2.2.2.2.2.1 i hi
  exact pw_get hC.1 hC.2.1 hC.2.2.1 inX1 hC.2.2.2.1 hC.2.2.2.2.1 hP h.1 h.2 rfl 3 (by decide) (hC.2.2.1 _ wf_C_170) rfl hdg kk
theorem gC_W_number (hC : cX D k p s m args c cc nL) (hH : cG D k d x A H0 H locs) {i : Nat} (hi : i < nW x) (hdg : decode cc pc = .ok (.getfield 173, 3)) (kk : W p l e R s m args below meth c H locs cells slots Q (F0 m (pc + 3) ls (.int (nI i) :: rest))) : W p l e R s m args below meth c H locs cells slots Q (F0 m pc ls (.ref (aWo d i) :: rest)) := by
  obtain ⟨LL, f, hI, hP, hD, hS⟩ := hH
  have h := (show cI k d x LL f from hI).2.2.2.2.2.2.1 i hi
  exact pw_get hC.1 hC.2.1 hC.2.2.1 inX2 hC.2.2.2.1 hC.2.2.2.2.1 hP h.1 h.2 rfl 0 (by decide) (hC.2.2.1 _ wf_C_173) rfl hdg kk
theorem gC_W_tool (hC : cX D k p s m args c cc nL) (hH : cG D k d x A H0 H locs) {i : Nat} (hi : i < nW x) (hdg : decode cc pc = .ok (.getfield 59, 3)) (kk : W p l e R s m args below meth c H locs cells slots Q (F0 m (pc + 3) ls (.ref (aTo d (wTo (gW x i))) :: rest))) : W p l e R s m args below meth c H locs cells slots Q (F0 m pc ls (.ref (aWo d i) :: rest)) := by
  obtain ⟨LL, f, hI, hP, hD, hS⟩ := hH
  have h := (show cI k d x LL f from hI).2.2.2.2.2.2.1 i hi
  exact pw_get hC.1 hC.2.1 hC.2.2.1 inX2 hC.2.2.2.1 hC.2.2.2.2.1 hP h.1 h.2 rfl 1 (by decide) (hC.2.2.1 _ wf_C_59) rfl hdg kk
theorem gC_W_edition (hC : cX D k p s m args c cc nL) (hH : cG D k d x A H0 H locs) {i : Nat} (hi : i < nW x) (hdg : decode cc pc = .ok (.getfield 137, 3)) (kk : W p l e R s m args below meth c H locs cells slots Q (F0 m (pc + 3) ls (.long (wEd (gW x i)) :: rest))) : W p l e R s m args below meth c H locs cells slots Q (F0 m pc ls (.ref (aWo d i) :: rest)) := by
  obtain ⟨LL, f, hI, hP, hD, hS⟩ := hH
  have h := (show cI k d x LL f from hI).2.2.2.2.2.2.1 i hi
  exact pw_get hC.1 hC.2.1 hC.2.2.1 inX2 hC.2.2.2.1 hC.2.2.2.2.1 hP h.1 h.2 rfl 2 (by decide) (hC.2.2.1 _ wf_C_137) rfl hdg kk
theorem gC_W_finished (hC : cX D k p s m args c cc nL) (hH : cG D k d x A H0 H locs) {i : Nat} (hi : i < nW x) (hdg : decode cc pc = .ok (.getfield 112, 3)) (kk : W p l e R s m args below meth c H locs cells slots Q (F0 m (pc + 3) ls (.int (wFi (gW x i)) :: rest))) : W p l e R s m args below meth c H locs cells slots Q (F0 m pc ls (.ref (aWo d i) :: rest)) := by
  obtain ⟨LL, f, hI, hP, hD, hS⟩ := hH
  have h := (show cI k d x LL f from hI).2.2.2.2.2.2.1 i hi
  exact pw_get hC.1 hC.2.1 hC.2.2.1 inX2 hC.2.2.2.1 hC.2.2.2.2.1 hP h.1 h.2 rfl 3 (by decide) (hC.2.2.1 _ wf_C_112) rfl hdg kk
theorem gC_W_trusted (hC : cX D k p s m args c cc nL) (hH : cG D k d x A H0 H locs) {i : Nat} (hi : i < nW x) (hdg : decode cc pc = .ok (.getfield 157, 3)) (kk : W p l e R s m args below meth c H locs cells slots Q (F0 m (pc + 3) ls (.int (wTr (gW x i)) :: rest))) : W p l e R s m args below meth c H locs cells slots Q (F0 m pc ls (.ref (aWo d i) :: rest)) := by
  obtain ⟨LL, f, hI, hP, hD, hS⟩ := hH
  have h := (show cI k d x LL f from hI).2.2.2.2.2.2.1 i hi
  exact pw_get hC.1 hC.2.1 hC.2.2.1 inX2 hC.2.2.2.1 hC.2.2.2.2.1 hP h.1 h.2 rfl 4 (by decide) (hC.2.2.1 _ wf_C_157) rfl hdg kk
theorem gC_W_memory (hC : cX D k p s m args c cc nL) (hH : cG D k d x A H0 H locs) {i : Nat} (hi : i < nW x) (hdg : decode cc pc = .ok (.getfield 115, 3)) (kk : W p l e R s m args below meth c H locs cells slots Q (F0 m (pc + 3) ls (.int (wMe (gW x i)) :: rest))) : W p l e R s m args below meth c H locs cells slots Q (F0 m pc ls (.ref (aWo d i) :: rest)) := by
  obtain ⟨LL, f, hI, hP, hD, hS⟩ := hH
  have h := (show cI k d x LL f from hI).2.2.2.2.2.2.1 i hi
  exact pw_get hC.1 hC.2.1 hC.2.2.1 inX2 hC.2.2.2.1 hC.2.2.2.2.1 hP h.1 h.2 rfl 5 (by decide) (hC.2.2.1 _ wf_C_115) rfl hdg kk
theorem gC_W_freeSince (hC : cX D k p s m args c cc nL) (hH : cG D k d x A H0 H locs) {i : Nat} (hi : i < nW x) (hdg : decode cc pc = .ok (.getfield 134, 3)) (kk : W p l e R s m args below meth c H locs cells slots Q (F0 m (pc + 3) ls (.int (wFr (gW x i)) :: rest))) : W p l e R s m args below meth c H locs cells slots Q (F0 m pc ls (.ref (aWo d i) :: rest)) := by
  obtain ⟨LL, f, hI, hP, hD, hS⟩ := hH
  have h := (show cI k d x LL f from hI).2.2.2.2.2.2.1 i hi
  exact pw_get hC.1 hC.2.1 hC.2.2.1 inX2 hC.2.2.2.1 hC.2.2.2.2.1 hP h.1 h.2 rfl 6 (by decide) (hC.2.2.1 _ wf_C_134) rfl hdg kk
theorem gC_W_endedBy (hC : cX D k p s m args c cc nL) (hH : cG D k d x A H0 H locs) {i : Nat} (hi : i < nW x) (hdg : decode cc pc = .ok (.getfield 128, 3)) (kk : W p l e R s m args below meth c H locs cells slots Q (F0 m (pc + 3) ls (.int (wEn (gW x i)) :: rest))) : W p l e R s m args below meth c H locs cells slots Q (F0 m pc ls (.ref (aWo d i) :: rest)) := by
  obtain ⟨LL, f, hI, hP, hD, hS⟩ := hH
  have h := (show cI k d x LL f from hI).2.2.2.2.2.2.1 i hi
  exact pw_get hC.1 hC.2.1 hC.2.2.1 inX2 hC.2.2.2.1 hC.2.2.2.2.1 hP h.1 h.2 rfl 7 (by decide) (hC.2.2.1 _ wf_C_128) rfl hdg kk
theorem gC_W_request (hC : cX D k p s m args c cc nL) (hH : cG D k d x A H0 H locs) {i : Nat} (hi : i < nW x) (hdg : decode cc pc = .ok (.getfield 104, 3)) (kk : W p l e R s m args below meth c H locs cells slots Q (F0 m (pc + 3) ls (va_rf ((wRq (gW x i)).map (aRq d)) :: rest))) : W p l e R s m args below meth c H locs cells slots Q (F0 m pc ls (.ref (aWo d i) :: rest)) := by
  obtain ⟨LL, f, hI, hP, hD, hS⟩ := hH
  have h := (show cI k d x LL f from hI).2.2.2.2.2.2.1 i hi
  exact pw_get hC.1 hC.2.1 hC.2.2.1 inX2 hC.2.2.2.1 hC.2.2.2.2.1 hP h.1 h.2 rfl 8 (by decide) (hC.2.2.1 _ wf_C_104) rfl hdg kk
theorem gC_R_number (hC : cX D k p s m args c cc nL) (hH : cG D k d x A H0 H locs) {i : Nat} (hi : i < nR x) (hdg : decode cc pc = .ok (.getfield 80, 3)) (kk : W p l e R s m args below meth c H locs cells slots Q (F0 m (pc + 3) ls (.int (nI i) :: rest))) : W p l e R s m args below meth c H locs cells slots Q (F0 m pc ls (.ref (aRq d i) :: rest)) := by
  obtain ⟨LL, f, hI, hP, hD, hS⟩ := hH
  have h := (show cI k d x LL f from hI).2.2.2.2.2.2.2 i hi
  exact pw_get hC.1 hC.2.1 hC.2.2.1 inX0 hC.2.2.2.1 hC.2.2.2.2.1 hP h.1 h.2 rfl 0 (by decide) (hC.2.2.1 _ wf_C_80) rfl hdg kk
theorem gC_R_tool (hC : cX D k p s m args c cc nL) (hH : cG D k d x A H0 H locs) {i : Nat} (hi : i < nR x) (hdg : decode cc pc = .ok (.getfield 185, 3)) (kk : W p l e R s m args below meth c H locs cells slots Q (F0 m (pc + 3) ls (.ref (aTo d (rTo (gR x i))) :: rest))) : W p l e R s m args below meth c H locs cells slots Q (F0 m pc ls (.ref (aRq d i) :: rest)) := by
  obtain ⟨LL, f, hI, hP, hD, hS⟩ := hH
  have h := (show cI k d x LL f from hI).2.2.2.2.2.2.2 i hi
  exact pw_get hC.1 hC.2.1 hC.2.2.1 inX0 hC.2.2.2.1 hC.2.2.2.2.1 hP h.1 h.2 rfl 1 (by decide) (hC.2.2.1 _ wf_C_185) rfl hdg kk
theorem gC_R_input (hC : cX D k p s m args c cc nL) (hH : cG D k d x A H0 H locs) {i : Nat} (hi : i < nR x) (hdg : decode cc pc = .ok (.getfield 138, 3)) (kk : W p l e R s m args below meth c H locs cells slots Q (F0 m (pc + 3) ls (.long (rIn (gR x i)) :: rest))) : W p l e R s m args below meth c H locs cells slots Q (F0 m pc ls (.ref (aRq d i) :: rest)) := by
  obtain ⟨LL, f, hI, hP, hD, hS⟩ := hH
  have h := (show cI k d x LL f from hI).2.2.2.2.2.2.2 i hi
  exact pw_get hC.1 hC.2.1 hC.2.2.1 inX0 hC.2.2.2.1 hC.2.2.2.2.1 hP h.1 h.2 rfl 2 (by decide) (hC.2.2.1 _ wf_C_138) rfl hdg kk
theorem gC_R_size (hC : cX D k p s m args c cc nL) (hH : cG D k d x A H0 H locs) {i : Nat} (hi : i < nR x) (hdg : decode cc pc = .ok (.getfield 118, 3)) (kk : W p l e R s m args below meth c H locs cells slots Q (F0 m (pc + 3) ls (.int (rSz (gR x i)) :: rest))) : W p l e R s m args below meth c H locs cells slots Q (F0 m pc ls (.ref (aRq d i) :: rest)) := by
  obtain ⟨LL, f, hI, hP, hD, hS⟩ := hH
  have h := (show cI k d x LL f from hI).2.2.2.2.2.2.2 i hi
  exact pw_get hC.1 hC.2.1 hC.2.2.1 inX0 hC.2.2.2.1 hC.2.2.2.2.1 hP h.1 h.2 rfl 3 (by decide) (hC.2.2.1 _ wf_C_118) rfl hdg kk
theorem gC_R_state (hC : cX D k p s m args c cc nL) (hH : cG D k d x A H0 H locs) {i : Nat} (hi : i < nR x) (hdg : decode cc pc = .ok (.getfield 85, 3)) (kk : W p l e R s m args below meth c H locs cells slots Q (F0 m (pc + 3) ls (.int (rSt (gR x i)) :: rest))) : W p l e R s m args below meth c H locs cells slots Q (F0 m pc ls (.ref (aRq d i) :: rest)) := by
  obtain ⟨LL, f, hI, hP, hD, hS⟩ := hH
  have h := (show cI k d x LL f from hI).2.2.2.2.2.2.2 i hi
  exact pw_get hC.1 hC.2.1 hC.2.2.1 inX0 hC.2.2.2.1 hC.2.2.2.2.1 hP h.1 h.2 rfl 4 (by decide) (hC.2.2.1 _ wf_C_85) rfl hdg kk
theorem gC_R_begun (hC : cX D k p s m args c cc nL) (hH : cG D k d x A H0 H locs) {i : Nat} (hi : i < nR x) (hdg : decode cc pc = .ok (.getfield 174, 3)) (kk : W p l e R s m args below meth c H locs cells slots Q (F0 m (pc + 3) ls (.int (rBe (gR x i)) :: rest))) : W p l e R s m args below meth c H locs cells slots Q (F0 m pc ls (.ref (aRq d i) :: rest)) := by
  obtain ⟨LL, f, hI, hP, hD, hS⟩ := hH
  have h := (show cI k d x LL f from hI).2.2.2.2.2.2.2 i hi
  exact pw_get hC.1 hC.2.1 hC.2.2.1 inX0 hC.2.2.2.1 hC.2.2.2.2.1 hP h.1 h.2 rfl 5 (by decide) (hC.2.2.1 _ wf_C_174) rfl hdg kk
theorem gC_R_unwanted (hC : cX D k p s m args c cc nL) (hH : cG D k d x A H0 H locs) {i : Nat} (hi : i < nR x) (hdg : decode cc pc = .ok (.getfield 92, 3)) (kk : W p l e R s m args below meth c H locs cells slots Q (F0 m (pc + 3) ls (.int (bI (rUn (gR x i))) :: rest))) : W p l e R s m args below meth c H locs cells slots Q (F0 m pc ls (.ref (aRq d i) :: rest)) := by
  obtain ⟨LL, f, hI, hP, hD, hS⟩ := hH
  have h := (show cI k d x LL f from hI).2.2.2.2.2.2.2 i hi
  exact pw_get hC.1 hC.2.1 hC.2.2.1 inX0 hC.2.2.2.1 hC.2.2.2.2.1 hP h.1 h.2 rfl 6 (by decide) (hC.2.2.1 _ wf_C_92) rfl hdg kk
theorem gC_R_redone (hC : cX D k p s m args c cc nL) (hH : cG D k d x A H0 H locs) {i : Nat} (hi : i < nR x) (hdg : decode cc pc = .ok (.getfield 177, 3)) (kk : W p l e R s m args below meth c H locs cells slots Q (F0 m (pc + 3) ls (.int (bI (rRe (gR x i))) :: rest))) : W p l e R s m args below meth c H locs cells slots Q (F0 m pc ls (.ref (aRq d i) :: rest)) := by
  obtain ⟨LL, f, hI, hP, hD, hS⟩ := hH
  have h := (show cI k d x LL f from hI).2.2.2.2.2.2.2 i hi
  exact pw_get hC.1 hC.2.1 hC.2.2.1 inX0 hC.2.2.2.1 hC.2.2.2.2.1 hP h.1 h.2 rfl 7 (by decide) (hC.2.2.1 _ wf_C_177) rfl hdg kk
theorem gC_R_result (hC : cX D k p s m args c cc nL) (hH : cG D k d x A H0 H locs) {i : Nat} (hi : i < nR x) (hdg : decode cc pc = .ok (.getfield 154, 3)) (kk : W p l e R s m args below meth c H locs cells slots Q (F0 m (pc + 3) ls (.long (rRs (gR x i)) :: rest))) : W p l e R s m args below meth c H locs cells slots Q (F0 m pc ls (.ref (aRq d i) :: rest)) := by
  obtain ⟨LL, f, hI, hP, hD, hS⟩ := hH
  have h := (show cI k d x LL f from hI).2.2.2.2.2.2.2 i hi
  exact pw_get hC.1 hC.2.1 hC.2.2.1 inX0 hC.2.2.2.1 hC.2.2.2.2.1 hP h.1 h.2 rfl 8 (by decide) (hC.2.2.1 _ wf_C_154) rfl hdg kk
theorem gC_R_worker (hC : cX D k p s m args c cc nL) (hH : cG D k d x A H0 H locs) {i : Nat} (hi : i < nR x) (hdg : decode cc pc = .ok (.getfield 150, 3)) (kk : W p l e R s m args below meth c H locs cells slots Q (F0 m (pc + 3) ls (va_rf ((rWk (gR x i)).map (aWo d)) :: rest))) : W p l e R s m args below meth c H locs cells slots Q (F0 m pc ls (.ref (aRq d i) :: rest)) := by
  obtain ⟨LL, f, hI, hP, hD, hS⟩ := hH
  have h := (show cI k d x LL f from hI).2.2.2.2.2.2.2 i hi
  exact pw_get hC.1 hC.2.1 hC.2.2.1 inX0 hC.2.2.2.1 hC.2.2.2.2.1 hP h.1 h.2 rfl 9 (by decide) (hC.2.2.1 _ wf_C_150) rfl hdg kk
theorem gC_R_place (hC : cX D k p s m args c cc nL) (hH : cG D k d x A H0 H locs) {i : Nat} (hi : i < nR x) (hdg : decode cc pc = .ok (.getfield 121, 3)) (kk : W p l e R s m args below meth c H locs cells slots Q (F0 m (pc + 3) ls (.int (rPl (gR x i)) :: rest))) : W p l e R s m args below meth c H locs cells slots Q (F0 m pc ls (.ref (aRq d i) :: rest)) := by
  obtain ⟨LL, f, hI, hP, hD, hS⟩ := hH
  have h := (show cI k d x LL f from hI).2.2.2.2.2.2.2 i hi
  exact pw_get hC.1 hC.2.1 hC.2.2.1 inX0 hC.2.2.2.1 hC.2.2.2.2.1 hP h.1 h.2 rfl 10 (by decide) (hC.2.2.1 _ wf_C_121) rfl hdg kk
theorem gC_C_most (hC : cX D k p s m args c cc nL) (hH : cG D k d x A H0 H locs) (hdg : decode cc pc = .ok (.getfield 31, 3)) (kk : W p l e R s m args below meth c H locs cells slots Q (F0 m (pc + 3) ls (.int (cMo x) :: rest))) : W p l e R s m args below meth c H locs cells slots Q (F0 m pc ls (.ref (kO k) :: rest)) := by
  obtain ⟨LL, f, hI, hP, hD, hS⟩ := hH
  have h := (show cI k d x LL f from hI).2.1
  exact pw_get hC.1 hC.2.1 hC.2.2.1 inX3 hC.2.2.2.1 hC.2.2.2.2.1 hP h.1 h.2 rfl 0 (by decide) (hC.2.2.1 _ wf_C_31) rfl hdg kk
theorem gC_C_bound (hC : cX D k p s m args c cc nL) (hH : cG D k d x A H0 H locs) (hdg : decode cc pc = .ok (.getfield 36, 3)) (kk : W p l e R s m args below meth c H locs cells slots Q (F0 m (pc + 3) ls (.int (cBo x) :: rest))) : W p l e R s m args below meth c H locs cells slots Q (F0 m pc ls (.ref (kO k) :: rest)) := by
  obtain ⟨LL, f, hI, hP, hD, hS⟩ := hH
  have h := (show cI k d x LL f from hI).2.1
  exact pw_get hC.1 hC.2.1 hC.2.2.1 inX3 hC.2.2.2.1 hC.2.2.2.2.1 hP h.1 h.2 rfl 1 (by decide) (hC.2.2.1 _ wf_C_36) rfl hdg kk
theorem gC_C_idle (hC : cX D k p s m args c cc nL) (hH : cG D k d x A H0 H locs) (hdg : decode cc pc = .ok (.getfield 39, 3)) (kk : W p l e R s m args below meth c H locs cells slots Q (F0 m (pc + 3) ls (.int (cId x) :: rest))) : W p l e R s m args below meth c H locs cells slots Q (F0 m pc ls (.ref (kO k) :: rest)) := by
  obtain ⟨LL, f, hI, hP, hD, hS⟩ := hH
  have h := (show cI k d x LL f from hI).2.1
  exact pw_get hC.1 hC.2.1 hC.2.2.1 inX3 hC.2.2.2.1 hC.2.2.2.2.1 hP h.1 h.2 rfl 2 (by decide) (hC.2.2.1 _ wf_C_39) rfl hdg kk
theorem gC_C_clock (hC : cX D k p s m args c cc nL) (hH : cG D k d x A H0 H locs) (hdg : decode cc pc = .ok (.getfield 131, 3)) (kk : W p l e R s m args below meth c H locs cells slots Q (F0 m (pc + 3) ls (.int (cCl x) :: rest))) : W p l e R s m args below meth c H locs cells slots Q (F0 m pc ls (.ref (kO k) :: rest)) := by
  obtain ⟨LL, f, hI, hP, hD, hS⟩ := hH
  have h := (show cI k d x LL f from hI).2.1
  exact pw_get hC.1 hC.2.1 hC.2.2.1 inX3 hC.2.2.2.1 hC.2.2.2.2.1 hP h.1 h.2 rfl 3 (by decide) (hC.2.2.1 _ wf_C_131) rfl hdg kk
theorem gC_C_tools (hC : cX D k p s m args c cc nL) (hH : cG D k d x A H0 H locs) (hdg : decode cc pc = .ok (.getfield 11, 3)) (kk : W p l e R s m args below meth c H locs cells slots Q (F0 m (pc + 3) ls (.ref (kTs k) :: rest))) : W p l e R s m args below meth c H locs cells slots Q (F0 m pc ls (.ref (kO k) :: rest)) := by
  obtain ⟨LL, f, hI, hP, hD, hS⟩ := hH
  have h := (show cI k d x LL f from hI).2.1
  exact pw_get hC.1 hC.2.1 hC.2.2.1 inX3 hC.2.2.2.1 hC.2.2.2.2.1 hP h.1 h.2 rfl 4 (by decide) (hC.2.2.1 _ wf_C_11) rfl hdg kk
theorem gC_C_workers (hC : cX D k p s m args c cc nL) (hH : cG D k d x A H0 H locs) (hdg : decode cc pc = .ok (.getfield 17, 3)) (kk : W p l e R s m args below meth c H locs cells slots Q (F0 m (pc + 3) ls (.ref (kWs k) :: rest))) : W p l e R s m args below meth c H locs cells slots Q (F0 m pc ls (.ref (kO k) :: rest)) := by
  obtain ⟨LL, f, hI, hP, hD, hS⟩ := hH
  have h := (show cI k d x LL f from hI).2.1
  exact pw_get hC.1 hC.2.1 hC.2.2.1 inX3 hC.2.2.2.1 hC.2.2.2.2.1 hP h.1 h.2 rfl 5 (by decide) (hC.2.2.1 _ wf_C_17) rfl hdg kk
theorem gC_C_requests (hC : cX D k p s m args c cc nL) (hH : cG D k d x A H0 H locs) (hdg : decode cc pc = .ok (.getfield 23, 3)) (kk : W p l e R s m args below meth c H locs cells slots Q (F0 m (pc + 3) ls (.ref (kRs k) :: rest))) : W p l e R s m args below meth c H locs cells slots Q (F0 m pc ls (.ref (kO k) :: rest)) := by
  obtain ⟨LL, f, hI, hP, hD, hS⟩ := hH
  have h := (show cI k d x LL f from hI).2.1
  exact pw_get hC.1 hC.2.1 hC.2.2.1 inX3 hC.2.2.2.1 hC.2.2.2.2.1 hP h.1 h.2 rfl 6 (by decide) (hC.2.2.1 _ wf_C_23) rfl hdg kk
theorem gC_C_toolCount (hC : cX D k p s m args c cc nL) (hH : cG D k d x A H0 H locs) (hdg : decode cc pc = .ok (.getfield 42, 3)) (kk : W p l e R s m args below meth c H locs cells slots Q (F0 m (pc + 3) ls (.int (nI (nT x)) :: rest))) : W p l e R s m args below meth c H locs cells slots Q (F0 m pc ls (.ref (kO k) :: rest)) := by
  obtain ⟨LL, f, hI, hP, hD, hS⟩ := hH
  have h := (show cI k d x LL f from hI).2.1
  exact pw_get hC.1 hC.2.1 hC.2.2.1 inX3 hC.2.2.2.1 hC.2.2.2.2.1 hP h.1 h.2 rfl 7 (by decide) (hC.2.2.1 _ wf_C_42) rfl hdg kk
theorem gC_C_workerCount (hC : cX D k p s m args c cc nL) (hH : cG D k d x A H0 H locs) (hdg : decode cc pc = .ok (.getfield 197, 3)) (kk : W p l e R s m args below meth c H locs cells slots Q (F0 m (pc + 3) ls (.int (nI (nW x)) :: rest))) : W p l e R s m args below meth c H locs cells slots Q (F0 m pc ls (.ref (kO k) :: rest)) := by
  obtain ⟨LL, f, hI, hP, hD, hS⟩ := hH
  have h := (show cI k d x LL f from hI).2.1
  exact pw_get hC.1 hC.2.1 hC.2.2.1 inX3 hC.2.2.2.1 hC.2.2.2.2.1 hP h.1 h.2 rfl 8 (by decide) (hC.2.2.1 _ wf_C_197) rfl hdg kk
theorem gC_C_requestCount (hC : cX D k p s m args c cc nL) (hH : cG D k d x A H0 H locs) (hdg : decode cc pc = .ok (.getfield 74, 3)) (kk : W p l e R s m args below meth c H locs cells slots Q (F0 m (pc + 3) ls (.int (nI (nR x)) :: rest))) : W p l e R s m args below meth c H locs cells slots Q (F0 m pc ls (.ref (kO k) :: rest)) := by
  obtain ⟨LL, f, hI, hP, hD, hS⟩ := hH
  have h := (show cI k d x LL f from hI).2.1
  exact pw_get hC.1 hC.2.1 hC.2.2.1 inX3 hC.2.2.2.1 hC.2.2.2.2.1 hP h.1 h.2 rfl 9 (by decide) (hC.2.2.1 _ wf_C_74) rfl hdg kk
theorem pC_T_edition (hC : cX D k p s m args c cc nL) (hH : cG D k d x A H0 H locs) {i : Nat} (hi : i < nT x) {v : Int64} (hdg : decode cc pc = .ok (.putfield 55, 3)) (kk : ∀ (H1 : Heap) (locs1 : List Loc), cG D k d (sT x i (tEd_ (gT x i) v)) A H0 H1 locs1 → W p l e R s m args below meth c H1 locs1 cells slots Q (F0 m (pc + 3) ls rest)) : W p l e R s m args below meth c H locs cells slots Q (F0 m pc ls (.long v :: .ref (aTo d i) :: rest)) := by
  obtain ⟨LL, f, hI, hP, hD, hS⟩ := hH
  have hI2 := (show cI k d x LL f from hI)
  have h := hI2.2.2.2.2.2.1 i hi
  exact pw_put hC.1 hC.2.1 hC.2.2.1 inX1 tyX1 tyX1_ok nmX1 hC.2.2.2.1 hC.2.2.2.2.1 hP hD hS h.1 h.2 rfl 1 (by decide) (hC.2.2.1 _ wf_C_55) rfl rfl rfl (Nat.le_of_ble_eq_true rfl) hdg (fun H1 locs1 h1 h2 h3 => kk H1 locs1 ⟨LL, _, hI2.setT hi (tEd_ (gT x i) v), h1, h2, h3⟩)
theorem pC_T_quirk (hC : cX D k p s m args c cc nL) (hH : cG D k d x A H0 H locs) {i : Nat} (hi : i < nT x) {v : Int32} (hdg : decode cc pc = .ok (.putfield 71, 3)) (kk : ∀ (H1 : Heap) (locs1 : List Loc), cG D k d (sT x i (tQu_ (gT x i) v)) A H0 H1 locs1 → W p l e R s m args below meth c H1 locs1 cells slots Q (F0 m (pc + 3) ls rest)) : W p l e R s m args below meth c H locs cells slots Q (F0 m pc ls (.int v :: .ref (aTo d i) :: rest)) := by
  obtain ⟨LL, f, hI, hP, hD, hS⟩ := hH
  have hI2 := (show cI k d x LL f from hI)
  have h := hI2.2.2.2.2.2.1 i hi
  exact pw_put hC.1 hC.2.1 hC.2.2.1 inX1 tyX1 tyX1_ok nmX1 hC.2.2.2.1 hC.2.2.2.2.1 hP hD hS h.1 h.2 rfl 2 (by decide) (hC.2.2.1 _ wf_C_71) rfl rfl rfl (Nat.le_of_ble_eq_true rfl) hdg (fun H1 locs1 h1 h2 h3 => kk H1 locs1 ⟨LL, _, hI2.setT hi (tQu_ (gT x i) v), h1, h2, h3⟩)
theorem pC_T_bars (hC : cX D k p s m args c cc nL) (hH : cG D k d x A H0 H locs) {i : Nat} (hi : i < nT x) {v : Int32} (hdg : decode cc pc = .ok (.putfield 170, 3)) (kk : ∀ (H1 : Heap) (locs1 : List Loc), cG D k d (sT x i (tBa_ (gT x i) v)) A H0 H1 locs1 → W p l e R s m args below meth c H1 locs1 cells slots Q (F0 m (pc + 3) ls rest)) : W p l e R s m args below meth c H locs cells slots Q (F0 m pc ls (.int v :: .ref (aTo d i) :: rest)) := by
  obtain ⟨LL, f, hI, hP, hD, hS⟩ := hH
  have hI2 := (show cI k d x LL f from hI)
  have h := hI2.2.2.2.2.2.1 i hi
  exact pw_put hC.1 hC.2.1 hC.2.2.1 inX1 tyX1 tyX1_ok nmX1 hC.2.2.2.1 hC.2.2.2.2.1 hP hD hS h.1 h.2 rfl 3 (by decide) (hC.2.2.1 _ wf_C_170) rfl rfl rfl (Nat.le_of_ble_eq_true rfl) hdg (fun H1 locs1 h1 h2 h3 => kk H1 locs1 ⟨LL, _, hI2.setT hi (tBa_ (gT x i) v), h1, h2, h3⟩)
theorem pC_W_finished (hC : cX D k p s m args c cc nL) (hH : cG D k d x A H0 H locs) {i : Nat} (hi : i < nW x) {v : Int32} (hdg : decode cc pc = .ok (.putfield 112, 3)) (kk : ∀ (H1 : Heap) (locs1 : List Loc), cG D k d (sW x i (wFi_ (gW x i) v)) A H0 H1 locs1 → W p l e R s m args below meth c H1 locs1 cells slots Q (F0 m (pc + 3) ls rest)) : W p l e R s m args below meth c H locs cells slots Q (F0 m pc ls (.int v :: .ref (aWo d i) :: rest)) := by
  obtain ⟨LL, f, hI, hP, hD, hS⟩ := hH
  have hI2 := (show cI k d x LL f from hI)
  have h := hI2.2.2.2.2.2.2.1 i hi
  exact pw_put hC.1 hC.2.1 hC.2.2.1 inX2 tyX2 tyX2_ok nmX2 hC.2.2.2.1 hC.2.2.2.2.1 hP hD hS h.1 h.2 rfl 3 (by decide) (hC.2.2.1 _ wf_C_112) rfl rfl rfl (Nat.le_of_ble_eq_true rfl) hdg (fun H1 locs1 h1 h2 h3 => kk H1 locs1 ⟨LL, _, hI2.setW hi (wFi_ (gW x i) v) ⟨(hI2.ok.2.1 i hi).1, (hI2.ok.2.1 i hi).2⟩, h1, h2, h3⟩)
theorem pC_W_trusted (hC : cX D k p s m args c cc nL) (hH : cG D k d x A H0 H locs) {i : Nat} (hi : i < nW x) {v : Int32} (hdg : decode cc pc = .ok (.putfield 157, 3)) (kk : ∀ (H1 : Heap) (locs1 : List Loc), cG D k d (sW x i (wTr_ (gW x i) v)) A H0 H1 locs1 → W p l e R s m args below meth c H1 locs1 cells slots Q (F0 m (pc + 3) ls rest)) : W p l e R s m args below meth c H locs cells slots Q (F0 m pc ls (.int v :: .ref (aWo d i) :: rest)) := by
  obtain ⟨LL, f, hI, hP, hD, hS⟩ := hH
  have hI2 := (show cI k d x LL f from hI)
  have h := hI2.2.2.2.2.2.2.1 i hi
  exact pw_put hC.1 hC.2.1 hC.2.2.1 inX2 tyX2 tyX2_ok nmX2 hC.2.2.2.1 hC.2.2.2.2.1 hP hD hS h.1 h.2 rfl 4 (by decide) (hC.2.2.1 _ wf_C_157) rfl rfl rfl (Nat.le_of_ble_eq_true rfl) hdg (fun H1 locs1 h1 h2 h3 => kk H1 locs1 ⟨LL, _, hI2.setW hi (wTr_ (gW x i) v) ⟨(hI2.ok.2.1 i hi).1, (hI2.ok.2.1 i hi).2⟩, h1, h2, h3⟩)
theorem pC_W_memory (hC : cX D k p s m args c cc nL) (hH : cG D k d x A H0 H locs) {i : Nat} (hi : i < nW x) {v : Int32} (hdg : decode cc pc = .ok (.putfield 115, 3)) (kk : ∀ (H1 : Heap) (locs1 : List Loc), cG D k d (sW x i (wMe_ (gW x i) v)) A H0 H1 locs1 → W p l e R s m args below meth c H1 locs1 cells slots Q (F0 m (pc + 3) ls rest)) : W p l e R s m args below meth c H locs cells slots Q (F0 m pc ls (.int v :: .ref (aWo d i) :: rest)) := by
  obtain ⟨LL, f, hI, hP, hD, hS⟩ := hH
  have hI2 := (show cI k d x LL f from hI)
  have h := hI2.2.2.2.2.2.2.1 i hi
  exact pw_put hC.1 hC.2.1 hC.2.2.1 inX2 tyX2 tyX2_ok nmX2 hC.2.2.2.1 hC.2.2.2.2.1 hP hD hS h.1 h.2 rfl 5 (by decide) (hC.2.2.1 _ wf_C_115) rfl rfl rfl (Nat.le_of_ble_eq_true rfl) hdg (fun H1 locs1 h1 h2 h3 => kk H1 locs1 ⟨LL, _, hI2.setW hi (wMe_ (gW x i) v) ⟨(hI2.ok.2.1 i hi).1, (hI2.ok.2.1 i hi).2⟩, h1, h2, h3⟩)
theorem pC_W_freeSince (hC : cX D k p s m args c cc nL) (hH : cG D k d x A H0 H locs) {i : Nat} (hi : i < nW x) {v : Int32} (hdg : decode cc pc = .ok (.putfield 134, 3)) (kk : ∀ (H1 : Heap) (locs1 : List Loc), cG D k d (sW x i (wFr_ (gW x i) v)) A H0 H1 locs1 → W p l e R s m args below meth c H1 locs1 cells slots Q (F0 m (pc + 3) ls rest)) : W p l e R s m args below meth c H locs cells slots Q (F0 m pc ls (.int v :: .ref (aWo d i) :: rest)) := by
  obtain ⟨LL, f, hI, hP, hD, hS⟩ := hH
  have hI2 := (show cI k d x LL f from hI)
  have h := hI2.2.2.2.2.2.2.1 i hi
  exact pw_put hC.1 hC.2.1 hC.2.2.1 inX2 tyX2 tyX2_ok nmX2 hC.2.2.2.1 hC.2.2.2.2.1 hP hD hS h.1 h.2 rfl 6 (by decide) (hC.2.2.1 _ wf_C_134) rfl rfl rfl (Nat.le_of_ble_eq_true rfl) hdg (fun H1 locs1 h1 h2 h3 => kk H1 locs1 ⟨LL, _, hI2.setW hi (wFr_ (gW x i) v) ⟨(hI2.ok.2.1 i hi).1, (hI2.ok.2.1 i hi).2⟩, h1, h2, h3⟩)
theorem pC_W_endedBy (hC : cX D k p s m args c cc nL) (hH : cG D k d x A H0 H locs) {i : Nat} (hi : i < nW x) {v : Int32} (hdg : decode cc pc = .ok (.putfield 128, 3)) (kk : ∀ (H1 : Heap) (locs1 : List Loc), cG D k d (sW x i (wEn_ (gW x i) v)) A H0 H1 locs1 → W p l e R s m args below meth c H1 locs1 cells slots Q (F0 m (pc + 3) ls rest)) : W p l e R s m args below meth c H locs cells slots Q (F0 m pc ls (.int v :: .ref (aWo d i) :: rest)) := by
  obtain ⟨LL, f, hI, hP, hD, hS⟩ := hH
  have hI2 := (show cI k d x LL f from hI)
  have h := hI2.2.2.2.2.2.2.1 i hi
  exact pw_put hC.1 hC.2.1 hC.2.2.1 inX2 tyX2 tyX2_ok nmX2 hC.2.2.2.1 hC.2.2.2.2.1 hP hD hS h.1 h.2 rfl 7 (by decide) (hC.2.2.1 _ wf_C_128) rfl rfl rfl (Nat.le_of_ble_eq_true rfl) hdg (fun H1 locs1 h1 h2 h3 => kk H1 locs1 ⟨LL, _, hI2.setW hi (wEn_ (gW x i) v) ⟨(hI2.ok.2.1 i hi).1, (hI2.ok.2.1 i hi).2⟩, h1, h2, h3⟩)
theorem pC_W_requestN (hC : cX D k p s m args c cc nL) (hH : cG D k d x A H0 H locs) {i : Nat} (hi : i < nW x)  (hdg : decode cc pc = .ok (.putfield 104, 3)) (kk : ∀ (H1 : Heap) (locs1 : List Loc), cG D k d (sW x i (wRq_ (gW x i) none)) A H0 H1 locs1 → W p l e R s m args below meth c H1 locs1 cells slots Q (F0 m (pc + 3) ls rest)) : W p l e R s m args below meth c H locs cells slots Q (F0 m pc ls (.null :: .ref (aWo d i) :: rest)) := by
  obtain ⟨LL, f, hI, hP, hD, hS⟩ := hH
  have hI2 := (show cI k d x LL f from hI)
  have h := hI2.2.2.2.2.2.2.1 i hi
  exact pw_put hC.1 hC.2.1 hC.2.2.1 inX2 tyX2 tyX2_ok nmX2 hC.2.2.2.1 hC.2.2.2.2.1 hP hD hS h.1 h.2 rfl 8 (by decide) (hC.2.2.1 _ wf_C_104) rfl rfl rfl (Nat.le_of_ble_eq_true rfl) hdg (fun H1 locs1 h1 h2 h3 => kk H1 locs1 ⟨LL, _, hI2.setW hi (wRq_ (gW x i) none) ⟨(hI2.ok.2.1 i hi).1, fun _ q => by cases q⟩, h1, h2, h3⟩)
theorem pC_W_requestR (hC : cX D k p s m args c cc nL) (hH : cG D k d x A H0 H locs) {i : Nat} (hi : i < nW x) {j : Nat} (hj : j < nR x) (hdg : decode cc pc = .ok (.putfield 104, 3)) (kk : ∀ (H1 : Heap) (locs1 : List Loc), cG D k d (sW x i (wRq_ (gW x i) (some j))) A H0 H1 locs1 → W p l e R s m args below meth c H1 locs1 cells slots Q (F0 m (pc + 3) ls rest)) : W p l e R s m args below meth c H locs cells slots Q (F0 m pc ls (.ref (aRq d j) :: .ref (aWo d i) :: rest)) := by
  obtain ⟨LL, f, hI, hP, hD, hS⟩ := hH
  have hI2 := (show cI k d x LL f from hI)
  have h := hI2.2.2.2.2.2.2.1 i hi
  exact pw_put hC.1 hC.2.1 hC.2.2.1 inX2 tyX2 tyX2_ok nmX2 hC.2.2.2.1 hC.2.2.2.2.1 hP hD hS h.1 h.2 rfl 8 (by decide) (hC.2.2.1 _ wf_C_104) rfl rfl rfl (Nat.le_of_ble_eq_true rfl) hdg (fun H1 locs1 h1 h2 h3 => kk H1 locs1 ⟨LL, _, hI2.setW hi (wRq_ (gW x i) (some j)) ⟨(hI2.ok.2.1 i hi).1, fun _ q => by cases q; exact hj⟩, h1, h2, h3⟩)
theorem pC_R_state (hC : cX D k p s m args c cc nL) (hH : cG D k d x A H0 H locs) {i : Nat} (hi : i < nR x) {v : Int32} (hdg : decode cc pc = .ok (.putfield 85, 3)) (kk : ∀ (H1 : Heap) (locs1 : List Loc), cG D k d (sR x i (rSt_ (gR x i) v)) A H0 H1 locs1 → W p l e R s m args below meth c H1 locs1 cells slots Q (F0 m (pc + 3) ls rest)) : W p l e R s m args below meth c H locs cells slots Q (F0 m pc ls (.int v :: .ref (aRq d i) :: rest)) := by
  obtain ⟨LL, f, hI, hP, hD, hS⟩ := hH
  have hI2 := (show cI k d x LL f from hI)
  have h := hI2.2.2.2.2.2.2.2 i hi
  exact pw_put hC.1 hC.2.1 hC.2.2.1 inX0 tyX0 tyX0_ok nmX0 hC.2.2.2.1 hC.2.2.2.2.1 hP hD hS h.1 h.2 rfl 4 (by decide) (hC.2.2.1 _ wf_C_85) rfl rfl rfl (Nat.le_of_ble_eq_true rfl) hdg (fun H1 locs1 h1 h2 h3 => kk H1 locs1 ⟨LL, _, hI2.setR hi (rSt_ (gR x i) v) ⟨(hI2.ok.2.2 i hi).1, (hI2.ok.2.2 i hi).2⟩, h1, h2, h3⟩)
theorem pC_R_begun (hC : cX D k p s m args c cc nL) (hH : cG D k d x A H0 H locs) {i : Nat} (hi : i < nR x) {v : Int32} (hdg : decode cc pc = .ok (.putfield 174, 3)) (kk : ∀ (H1 : Heap) (locs1 : List Loc), cG D k d (sR x i (rBe_ (gR x i) v)) A H0 H1 locs1 → W p l e R s m args below meth c H1 locs1 cells slots Q (F0 m (pc + 3) ls rest)) : W p l e R s m args below meth c H locs cells slots Q (F0 m pc ls (.int v :: .ref (aRq d i) :: rest)) := by
  obtain ⟨LL, f, hI, hP, hD, hS⟩ := hH
  have hI2 := (show cI k d x LL f from hI)
  have h := hI2.2.2.2.2.2.2.2 i hi
  exact pw_put hC.1 hC.2.1 hC.2.2.1 inX0 tyX0 tyX0_ok nmX0 hC.2.2.2.1 hC.2.2.2.2.1 hP hD hS h.1 h.2 rfl 5 (by decide) (hC.2.2.1 _ wf_C_174) rfl rfl rfl (Nat.le_of_ble_eq_true rfl) hdg (fun H1 locs1 h1 h2 h3 => kk H1 locs1 ⟨LL, _, hI2.setR hi (rBe_ (gR x i) v) ⟨(hI2.ok.2.2 i hi).1, (hI2.ok.2.2 i hi).2⟩, h1, h2, h3⟩)
theorem pC_R_result (hC : cX D k p s m args c cc nL) (hH : cG D k d x A H0 H locs) {i : Nat} (hi : i < nR x) {v : Int64} (hdg : decode cc pc = .ok (.putfield 154, 3)) (kk : ∀ (H1 : Heap) (locs1 : List Loc), cG D k d (sR x i (rRs_ (gR x i) v)) A H0 H1 locs1 → W p l e R s m args below meth c H1 locs1 cells slots Q (F0 m (pc + 3) ls rest)) : W p l e R s m args below meth c H locs cells slots Q (F0 m pc ls (.long v :: .ref (aRq d i) :: rest)) := by
  obtain ⟨LL, f, hI, hP, hD, hS⟩ := hH
  have hI2 := (show cI k d x LL f from hI)
  have h := hI2.2.2.2.2.2.2.2 i hi
  exact pw_put hC.1 hC.2.1 hC.2.2.1 inX0 tyX0 tyX0_ok nmX0 hC.2.2.2.1 hC.2.2.2.2.1 hP hD hS h.1 h.2 rfl 8 (by decide) (hC.2.2.1 _ wf_C_154) rfl rfl rfl (Nat.le_of_ble_eq_true rfl) hdg (fun H1 locs1 h1 h2 h3 => kk H1 locs1 ⟨LL, _, hI2.setR hi (rRs_ (gR x i) v) ⟨(hI2.ok.2.2 i hi).1, (hI2.ok.2.2 i hi).2⟩, h1, h2, h3⟩)
theorem pC_R_place (hC : cX D k p s m args c cc nL) (hH : cG D k d x A H0 H locs) {i : Nat} (hi : i < nR x) {v : Int32} (hdg : decode cc pc = .ok (.putfield 121, 3)) (kk : ∀ (H1 : Heap) (locs1 : List Loc), cG D k d (sR x i (rPl_ (gR x i) v)) A H0 H1 locs1 → W p l e R s m args below meth c H1 locs1 cells slots Q (F0 m (pc + 3) ls rest)) : W p l e R s m args below meth c H locs cells slots Q (F0 m pc ls (.int v :: .ref (aRq d i) :: rest)) := by
  obtain ⟨LL, f, hI, hP, hD, hS⟩ := hH
  have hI2 := (show cI k d x LL f from hI)
  have h := hI2.2.2.2.2.2.2.2 i hi
  exact pw_put hC.1 hC.2.1 hC.2.2.1 inX0 tyX0 tyX0_ok nmX0 hC.2.2.2.1 hC.2.2.2.2.1 hP hD hS h.1 h.2 rfl 10 (by decide) (hC.2.2.1 _ wf_C_121) rfl rfl rfl (Nat.le_of_ble_eq_true rfl) hdg (fun H1 locs1 h1 h2 h3 => kk H1 locs1 ⟨LL, _, hI2.setR hi (rPl_ (gR x i) v) ⟨(hI2.ok.2.2 i hi).1, (hI2.ok.2.2 i hi).2⟩, h1, h2, h3⟩)
theorem pC_R_unwanted0 (hC : cX D k p s m args c cc nL) (hH : cG D k d x A H0 H locs) {i : Nat} (hi : i < nR x)  (hdg : decode cc pc = .ok (.putfield 92, 3)) (kk : ∀ (H1 : Heap) (locs1 : List Loc), cG D k d (sR x i (rUn_ (gR x i) false)) A H0 H1 locs1 → W p l e R s m args below meth c H1 locs1 cells slots Q (F0 m (pc + 3) ls rest)) : W p l e R s m args below meth c H locs cells slots Q (F0 m pc ls (.int 0 :: .ref (aRq d i) :: rest)) := by
  obtain ⟨LL, f, hI, hP, hD, hS⟩ := hH
  have hI2 := (show cI k d x LL f from hI)
  have h := hI2.2.2.2.2.2.2.2 i hi
  exact pw_put hC.1 hC.2.1 hC.2.2.1 inX0 tyX0 tyX0_ok nmX0 hC.2.2.2.1 hC.2.2.2.2.1 hP hD hS h.1 h.2 rfl 6 (by decide) (hC.2.2.1 _ wf_C_92) rfl rfl rfl (Nat.le_of_ble_eq_true rfl) hdg (fun H1 locs1 h1 h2 h3 => kk H1 locs1 ⟨LL, _, hI2.setR hi (rUn_ (gR x i) false) ⟨(hI2.ok.2.2 i hi).1, (hI2.ok.2.2 i hi).2⟩, h1, h2, h3⟩)
theorem pC_R_unwanted1 (hC : cX D k p s m args c cc nL) (hH : cG D k d x A H0 H locs) {i : Nat} (hi : i < nR x)  (hdg : decode cc pc = .ok (.putfield 92, 3)) (kk : ∀ (H1 : Heap) (locs1 : List Loc), cG D k d (sR x i (rUn_ (gR x i) true)) A H0 H1 locs1 → W p l e R s m args below meth c H1 locs1 cells slots Q (F0 m (pc + 3) ls rest)) : W p l e R s m args below meth c H locs cells slots Q (F0 m pc ls (.int 1 :: .ref (aRq d i) :: rest)) := by
  obtain ⟨LL, f, hI, hP, hD, hS⟩ := hH
  have hI2 := (show cI k d x LL f from hI)
  have h := hI2.2.2.2.2.2.2.2 i hi
  exact pw_put hC.1 hC.2.1 hC.2.2.1 inX0 tyX0 tyX0_ok nmX0 hC.2.2.2.1 hC.2.2.2.2.1 hP hD hS h.1 h.2 rfl 6 (by decide) (hC.2.2.1 _ wf_C_92) rfl rfl rfl (Nat.le_of_ble_eq_true rfl) hdg (fun H1 locs1 h1 h2 h3 => kk H1 locs1 ⟨LL, _, hI2.setR hi (rUn_ (gR x i) true) ⟨(hI2.ok.2.2 i hi).1, (hI2.ok.2.2 i hi).2⟩, h1, h2, h3⟩)
theorem pC_R_redone1 (hC : cX D k p s m args c cc nL) (hH : cG D k d x A H0 H locs) {i : Nat} (hi : i < nR x)  (hdg : decode cc pc = .ok (.putfield 177, 3)) (kk : ∀ (H1 : Heap) (locs1 : List Loc), cG D k d (sR x i (rRe_ (gR x i) true)) A H0 H1 locs1 → W p l e R s m args below meth c H1 locs1 cells slots Q (F0 m (pc + 3) ls rest)) : W p l e R s m args below meth c H locs cells slots Q (F0 m pc ls (.int 1 :: .ref (aRq d i) :: rest)) := by
  obtain ⟨LL, f, hI, hP, hD, hS⟩ := hH
  have hI2 := (show cI k d x LL f from hI)
  have h := hI2.2.2.2.2.2.2.2 i hi
  exact pw_put hC.1 hC.2.1 hC.2.2.1 inX0 tyX0 tyX0_ok nmX0 hC.2.2.2.1 hC.2.2.2.2.1 hP hD hS h.1 h.2 rfl 7 (by decide) (hC.2.2.1 _ wf_C_177) rfl rfl rfl (Nat.le_of_ble_eq_true rfl) hdg (fun H1 locs1 h1 h2 h3 => kk H1 locs1 ⟨LL, _, hI2.setR hi (rRe_ (gR x i) true) ⟨(hI2.ok.2.2 i hi).1, (hI2.ok.2.2 i hi).2⟩, h1, h2, h3⟩)
theorem pC_R_workerN (hC : cX D k p s m args c cc nL) (hH : cG D k d x A H0 H locs) {i : Nat} (hi : i < nR x)  (hdg : decode cc pc = .ok (.putfield 150, 3)) (kk : ∀ (H1 : Heap) (locs1 : List Loc), cG D k d (sR x i (rWk_ (gR x i) none)) A H0 H1 locs1 → W p l e R s m args below meth c H1 locs1 cells slots Q (F0 m (pc + 3) ls rest)) : W p l e R s m args below meth c H locs cells slots Q (F0 m pc ls (.null :: .ref (aRq d i) :: rest)) := by
  obtain ⟨LL, f, hI, hP, hD, hS⟩ := hH
  have hI2 := (show cI k d x LL f from hI)
  have h := hI2.2.2.2.2.2.2.2 i hi
  exact pw_put hC.1 hC.2.1 hC.2.2.1 inX0 tyX0 tyX0_ok nmX0 hC.2.2.2.1 hC.2.2.2.2.1 hP hD hS h.1 h.2 rfl 9 (by decide) (hC.2.2.1 _ wf_C_150) rfl rfl rfl (Nat.le_of_ble_eq_true rfl) hdg (fun H1 locs1 h1 h2 h3 => kk H1 locs1 ⟨LL, _, hI2.setR hi (rWk_ (gR x i) none) ⟨(hI2.ok.2.2 i hi).1, fun _ q => by cases q⟩, h1, h2, h3⟩)
theorem pC_R_workerR (hC : cX D k p s m args c cc nL) (hH : cG D k d x A H0 H locs) {i : Nat} (hi : i < nR x) {j : Nat} (hj : j < nW x) (hdg : decode cc pc = .ok (.putfield 150, 3)) (kk : ∀ (H1 : Heap) (locs1 : List Loc), cG D k d (sR x i (rWk_ (gR x i) (some j))) A H0 H1 locs1 → W p l e R s m args below meth c H1 locs1 cells slots Q (F0 m (pc + 3) ls rest)) : W p l e R s m args below meth c H locs cells slots Q (F0 m pc ls (.ref (aWo d j) :: .ref (aRq d i) :: rest)) := by
  obtain ⟨LL, f, hI, hP, hD, hS⟩ := hH
  have hI2 := (show cI k d x LL f from hI)
  have h := hI2.2.2.2.2.2.2.2 i hi
  exact pw_put hC.1 hC.2.1 hC.2.2.1 inX0 tyX0 tyX0_ok nmX0 hC.2.2.2.1 hC.2.2.2.2.1 hP hD hS h.1 h.2 rfl 9 (by decide) (hC.2.2.1 _ wf_C_150) rfl rfl rfl (Nat.le_of_ble_eq_true rfl) hdg (fun H1 locs1 h1 h2 h3 => kk H1 locs1 ⟨LL, _, hI2.setR hi (rWk_ (gR x i) (some j)) ⟨(hI2.ok.2.2 i hi).1, fun _ q => by cases q; exact hj⟩, h1, h2, h3⟩)
theorem pC_C_clock (hC : cX D k p s m args c cc nL) (hH : cG D k d x A H0 H locs) {v : Int32} (hdg : decode cc pc = .ok (.putfield 131, 3)) (kk : ∀ (H1 : Heap) (locs1 : List Loc), cG D k d (sCl x v) A H0 H1 locs1 → W p l e R s m args below meth c H1 locs1 cells slots Q (F0 m (pc + 3) ls rest)) : W p l e R s m args below meth c H locs cells slots Q (F0 m pc ls (.int v :: .ref (kO k) :: rest)) := by
  obtain ⟨LL, f, hI, hP, hD, hS⟩ := hH
  have hI2 := (show cI k d x LL f from hI)
  have h := hI2.2.1
  exact pw_put hC.1 hC.2.1 hC.2.2.1 inX3 tyX3 tyX3_ok nmX3 hC.2.2.2.1 hC.2.2.2.2.1 hP hD hS h.1 h.2 rfl 3 (by decide) (hC.2.2.1 _ wf_C_131) rfl rfl rfl (Nat.le_of_ble_eq_true rfl) hdg (fun H1 locs1 h1 h2 h3 => kk H1 locs1 ⟨LL, _, hI2.setCl v, h1, h2, h3⟩)
theorem lC_T (hC : cX D k p s m args c cc nL) (hH : cG D k d x A H0 H locs) (hdg : decode cc pc = .ok (.arraylength, 1)) (kk : W p l e R s m args below meth c H locs cells slots Q (F0 m (pc + 1) ls (.int 6 :: rest))) : W p l e R s m args below meth c H locs cells slots Q (F0 m pc ls (.ref (kTs k) :: rest)) := by
  obtain ⟨LL, f, hI, hP, hD, hS⟩ := hH
  have hI2 := (show cI k d x LL f from hI)
  have h := hI2.2.2.1
  exact pw_alen hC.1 hC.2.1 hC.2.2.2.2.1 hP 0 h.1 h.2 rfl rfl hdg kk
theorem aC_T (hC : cX D k p s m args c cc nL) (hH : cG D k d x A H0 H locs) {i : Nat} (hi : i < nT x) {v : Int32} (hv : v = nI i) (hdg : decode cc pc = .ok (.aaload, 1)) (kk : W p l e R s m args below meth c H locs cells slots Q (F0 m (pc + 1) ls (.ref (aTo d i) :: rest))) : W p l e R s m args below meth c H locs cells slots Q (F0 m pc ls (.int v :: .ref (kTs k) :: rest)) := by
  obtain ⟨LL, f, hI, hP, hD, hS⟩ := hH
  have hI2 := (show cI k d x LL f from hI)
  have h := hI2.2.2.1
  subst hv
  have hl : i < 6 := Nat.lt_of_lt_of_le hi (by first | exact hI2.1.1.1 | exact hI2.1.1.2.1 | exact hI2.1.1.2.2)
  refine pw_aldq hC.1 hC.2.1 hC.2.2.2.2.1 hP 0 h.1 h.2 rfl (vp_in_nI hl (by decide)) hdg ?_
  rw [nI_clamp (by omega), eA_in hi]
  exact kk
theorem aC_TN (hC : cX D k p s m args c cc nL) (hH : cG D k d x A H0 H locs) {i : Nat} (hi : ¬ i < nT x) (hl : i < 6) {v : Int32} (hv : v = nI i) (hdg : decode cc pc = .ok (.aaload, 1)) (kk : W p l e R s m args below meth c H locs cells slots Q (F0 m (pc + 1) ls (.null :: rest))) : W p l e R s m args below meth c H locs cells slots Q (F0 m pc ls (.int v :: .ref (kTs k) :: rest)) := by
  obtain ⟨LL, f, hI, hP, hD, hS⟩ := hH
  have hI2 := (show cI k d x LL f from hI)
  have h := hI2.2.2.1
  subst hv
  refine pw_aldq hC.1 hC.2.1 hC.2.2.2.2.1 hP 0 h.1 h.2 rfl (vp_in_nI hl (by decide)) hdg ?_
  rw [nI_clamp (by omega), eA_out hi]
  exact kk
theorem lC_W (hC : cX D k p s m args c cc nL) (hH : cG D k d x A H0 H locs) (hdg : decode cc pc = .ok (.arraylength, 1)) (kk : W p l e R s m args below meth c H locs cells slots Q (F0 m (pc + 1) ls (.int 60 :: rest))) : W p l e R s m args below meth c H locs cells slots Q (F0 m pc ls (.ref (kWs k) :: rest)) := by
  obtain ⟨LL, f, hI, hP, hD, hS⟩ := hH
  have hI2 := (show cI k d x LL f from hI)
  have h := hI2.2.2.2.1
  exact pw_alen hC.1 hC.2.1 hC.2.2.2.2.1 hP 1 h.1 h.2 rfl rfl hdg kk
theorem aC_W (hC : cX D k p s m args c cc nL) (hH : cG D k d x A H0 H locs) {i : Nat} (hi : i < nW x) {v : Int32} (hv : v = nI i) (hdg : decode cc pc = .ok (.aaload, 1)) (kk : W p l e R s m args below meth c H locs cells slots Q (F0 m (pc + 1) ls (.ref (aWo d i) :: rest))) : W p l e R s m args below meth c H locs cells slots Q (F0 m pc ls (.int v :: .ref (kWs k) :: rest)) := by
  obtain ⟨LL, f, hI, hP, hD, hS⟩ := hH
  have hI2 := (show cI k d x LL f from hI)
  have h := hI2.2.2.2.1
  subst hv
  have hl : i < 60 := Nat.lt_of_lt_of_le hi (by first | exact hI2.1.1.1 | exact hI2.1.1.2.1 | exact hI2.1.1.2.2)
  refine pw_aldq hC.1 hC.2.1 hC.2.2.2.2.1 hP 1 h.1 h.2 rfl (vp_in_nI hl (by decide)) hdg ?_
  rw [nI_clamp (by omega), eA_in hi]
  exact kk
theorem aC_WN (hC : cX D k p s m args c cc nL) (hH : cG D k d x A H0 H locs) {i : Nat} (hi : ¬ i < nW x) (hl : i < 60) {v : Int32} (hv : v = nI i) (hdg : decode cc pc = .ok (.aaload, 1)) (kk : W p l e R s m args below meth c H locs cells slots Q (F0 m (pc + 1) ls (.null :: rest))) : W p l e R s m args below meth c H locs cells slots Q (F0 m pc ls (.int v :: .ref (kWs k) :: rest)) := by
  obtain ⟨LL, f, hI, hP, hD, hS⟩ := hH
  have hI2 := (show cI k d x LL f from hI)
  have h := hI2.2.2.2.1
  subst hv
  refine pw_aldq hC.1 hC.2.1 hC.2.2.2.2.1 hP 1 h.1 h.2 rfl (vp_in_nI hl (by decide)) hdg ?_
  rw [nI_clamp (by omega), eA_out hi]
  exact kk
theorem lC_R (hC : cX D k p s m args c cc nL) (hH : cG D k d x A H0 H locs) (hdg : decode cc pc = .ok (.arraylength, 1)) (kk : W p l e R s m args below meth c H locs cells slots Q (F0 m (pc + 1) ls (.int 100 :: rest))) : W p l e R s m args below meth c H locs cells slots Q (F0 m pc ls (.ref (kRs k) :: rest)) := by
  obtain ⟨LL, f, hI, hP, hD, hS⟩ := hH
  have hI2 := (show cI k d x LL f from hI)
  have h := hI2.2.2.2.2.1
  exact pw_alen hC.1 hC.2.1 hC.2.2.2.2.1 hP 2 h.1 h.2 rfl rfl hdg kk
theorem aC_R (hC : cX D k p s m args c cc nL) (hH : cG D k d x A H0 H locs) {i : Nat} (hi : i < nR x) {v : Int32} (hv : v = nI i) (hdg : decode cc pc = .ok (.aaload, 1)) (kk : W p l e R s m args below meth c H locs cells slots Q (F0 m (pc + 1) ls (.ref (aRq d i) :: rest))) : W p l e R s m args below meth c H locs cells slots Q (F0 m pc ls (.int v :: .ref (kRs k) :: rest)) := by
  obtain ⟨LL, f, hI, hP, hD, hS⟩ := hH
  have hI2 := (show cI k d x LL f from hI)
  have h := hI2.2.2.2.2.1
  subst hv
  have hl : i < 100 := Nat.lt_of_lt_of_le hi (by first | exact hI2.1.1.1 | exact hI2.1.1.2.1 | exact hI2.1.1.2.2)
  refine pw_aldq hC.1 hC.2.1 hC.2.2.2.2.1 hP 2 h.1 h.2 rfl (vp_in_nI hl (by decide)) hdg ?_
  rw [nI_clamp (by omega), eA_in hi]
  exact kk
theorem aC_RN (hC : cX D k p s m args c cc nL) (hH : cG D k d x A H0 H locs) {i : Nat} (hi : ¬ i < nR x) (hl : i < 100) {v : Int32} (hv : v = nI i) (hdg : decode cc pc = .ok (.aaload, 1)) (kk : W p l e R s m args below meth c H locs cells slots Q (F0 m (pc + 1) ls (.null :: rest))) : W p l e R s m args below meth c H locs cells slots Q (F0 m pc ls (.int v :: .ref (kRs k) :: rest)) := by
  obtain ⟨LL, f, hI, hP, hD, hS⟩ := hH
  have hI2 := (show cI k d x LL f from hI)
  have h := hI2.2.2.2.2.1
  subst hv
  refine pw_aldq hC.1 hC.2.1 hC.2.2.2.2.1 hP 2 h.1 h.2 rfl (vp_in_nI hl (by decide)) hdg ?_
  rw [nI_clamp (by omega), eA_out hi]
  exact kk
end CR
theorem kL_15 : gKI RL 15 yC_init bC_init 4 3 := ⟨⟨wc_C_init, wn_C, wm_L_15, by decide +kernel, by decide +kernel, by decide +kernel⟩, by decide +kernel, wi_C_init⟩
theorem kC_27 : gKS RX3 27 yC_nearest bC_nearest 3 (some .int) 3 := ⟨⟨wc_C_nearest, wn_C, wm_C_27, by decide +kernel, by decide +kernel, by decide +kernel⟩, ws_C_nearest⟩
theorem kL_23 : gKV RL 23 yC_tool bC_tool 5 (some .int) 2 := ⟨⟨wc_C_tool, wn_C, wm_L_23, by decide +kernel, by decide +kernel, by decide +kernel⟩, wi_C_tool, wv_C_tool⟩
theorem kC_45 : gKI RX3 45 yT_init bT_init 5 3 := ⟨⟨wc_T_init, wn_T, wm_C_45, by decide +kernel, by decide +kernel, by decide +kernel⟩, by decide +kernel, wi_T_init⟩
theorem kL_28 : gKV RL 28 yC_edition bC_edition 10 (some .int) 2 := ⟨⟨wc_C_edition, wn_C, wm_L_28, by decide +kernel, by decide +kernel, by decide +kernel⟩, wi_C_edition, wv_C_edition⟩
theorem kC_51 : gKV RX3 51 yC_toolAt bC_toolAt 2 (some (.object "WorkerRows$Tool")) 1 := ⟨⟨wc_C_toolAt, wn_C, wm_C_51, by decide +kernel, by decide +kernel, by decide +kernel⟩, wi_C_toolAt, wv_C_toolAt⟩
theorem kC_63 : gKS RX3 63 yC_isEnded bC_isEnded 1 (some .boolean) 1 := ⟨⟨wc_C_isEnded, wn_C, wm_C_63, by decide +kernel, by decide +kernel, by decide +kernel⟩, ws_C_isEnded⟩
theorem kC_67 : gKS RX3 67 yC_endAndRequeue bC_endAndRequeue 3 none 2 := ⟨⟨wc_C_endAndRequeue, wn_C, wm_C_67, by decide +kernel, by decide +kernel, by decide +kernel⟩, ws_C_endAndRequeue⟩
theorem kC_207 : gKS RX3 207 yC_waitAgain bC_waitAgain 1 none 1 := ⟨⟨wc_C_waitAgain, wn_C, wm_C_207, by decide +kernel, by decide +kernel, by decide +kernel⟩, ws_C_waitAgain⟩
theorem kC_88 : gKS RX3 88 yC_becomeCancelled bC_becomeCancelled 1 none 1 := ⟨⟨wc_C_becomeCancelled, wn_C, wm_C_88, by decide +kernel, by decide +kernel, by decide +kernel⟩, ws_C_becomeCancelled⟩
theorem kL_33 : gKV RL 33 yC_quirk bC_quirk 4 (some .boolean) 2 := ⟨⟨wc_C_quirk, wn_C, wm_L_33, by decide +kernel, by decide +kernel, by decide +kernel⟩, wi_C_quirk, wv_C_quirk⟩
theorem kL_38 : gKV RL 38 yC_request bC_request 7 (some .int) 3 := ⟨⟨wc_C_request, wn_C, wm_L_38, by decide +kernel, by decide +kernel, by decide +kernel⟩, wi_C_request, wv_C_request⟩
theorem kC_77 : gKI RX3 77 yR_init bR_init 6 4 := ⟨⟨wc_R_init, wn_R, wm_C_77, by decide +kernel, by decide +kernel, by decide +kernel⟩, by decide +kernel, wi_R_init⟩
theorem kL_43 : gKV RL 43 yC_cancel bC_cancel 3 (some .int) 1 := ⟨⟨wc_C_cancel, wn_C, wm_L_43, by decide +kernel, by decide +kernel, by decide +kernel⟩, wi_C_cancel, wv_C_cancel⟩
theorem kC_81 : gKV RX3 81 yC_requestAt bC_requestAt 2 (some (.object "WorkerRows$Request")) 1 := ⟨⟨wc_C_requestAt, wn_C, wm_C_81, by decide +kernel, by decide +kernel, by decide +kernel⟩, wi_C_requestAt, wv_C_requestAt⟩
theorem kL_48 : gKV RL 48 yC_step bC_step 6 (some .int) 0 := ⟨⟨wc_C_step, wn_C, wm_L_48, by decide +kernel, by decide +kernel, by decide +kernel⟩, wi_C_step, wv_C_step⟩
theorem kC_96 : gKV RX3 96 yC_moveOn bC_moveOn 4 (some .boolean) 1 := ⟨⟨wc_C_moveOn, wn_C, wm_C_96, by decide +kernel, by decide +kernel, by decide +kernel⟩, wi_C_moveOn, wv_C_moveOn⟩
theorem kC_141 : gKS RX3 141 yC_freshRun bC_freshRun 7 (some .long) 2 := ⟨⟨wc_C_freshRun, wn_C, wm_C_141, by decide +kernel, by decide +kernel, by decide +kernel⟩, ws_C_freshRun⟩
theorem kC_124 : gKS RX3 124 yC_leaveDone bC_leaveDone 4 none 3 := ⟨⟨wc_C_leaveDone, wn_C, wm_C_124, by decide +kernel, by decide +kernel, by decide +kernel⟩, ws_C_leaveDone⟩
theorem kC_186 : gKV RX3 186 yC_firstFree bC_firstFree 6 (some (.object "WorkerRows$Worker")) 1 := ⟨⟨wc_C_firstFree, wn_C, wm_C_186, by decide +kernel, by decide +kernel, by decide +kernel⟩, wi_C_firstFree, wv_C_firstFree⟩
theorem kC_146 : gKS RX3 146 yC_stateOf bC_stateOf 1 (some .int) 1 := ⟨⟨wc_C_stateOf, wn_C, wm_C_146, by decide +kernel, by decide +kernel, by decide +kernel⟩, ws_C_stateOf⟩
theorem kC_190 : gKV RX3 190 yC_startWorker bC_startWorker 3 (some (.object "WorkerRows$Worker")) 1 := ⟨⟨wc_C_startWorker, wn_C, wm_C_190, by decide +kernel, by decide +kernel, by decide +kernel⟩, wi_C_startWorker, wv_C_startWorker⟩
theorem kC_200 : gKV RX3 200 yC_countStaying bC_countStaying 7 (some .int) 1 := ⟨⟨wc_C_countStaying, wn_C, wm_C_200, by decide +kernel, by decide +kernel, by decide +kernel⟩, wi_C_countStaying, wv_C_countStaying⟩
theorem kC_204 : gKI RX3 204 yW_init bW_init 3 2 := ⟨⟨wc_W_init, wn_W, wm_C_204, by decide +kernel, by decide +kernel, by decide +kernel⟩, by decide +kernel, wi_W_init⟩
theorem kC_193 : gKS RX3 193 yC_beginWith bC_beginWith 2 none 2 := ⟨⟨wc_C_beginWith, wn_C, wm_C_193, by decide +kernel, by decide +kernel, by decide +kernel⟩, ws_C_beginWith⟩
theorem kL_53 : gKV RL 53 yC_finish bC_finish 6 (some .int) 1 := ⟨⟨wc_C_finish, wn_C, wm_L_53, by decide +kernel, by decide +kernel, by decide +kernel⟩, wi_C_finish, wv_C_finish⟩
theorem kC_100 : gKV RX3 100 yC_workerAt bC_workerAt 2 (some (.object "WorkerRows$Worker")) 1 := ⟨⟨wc_C_workerAt, wn_C, wm_C_100, by decide +kernel, by decide +kernel, by decide +kernel⟩, wi_C_workerAt, wv_C_workerAt⟩
theorem kC_108 : gKS RX3 108 yC_whatItGives bC_whatItGives 4 (some .long) 2 := ⟨⟨wc_C_whatItGives, wn_C, wm_C_108, by decide +kernel, by decide +kernel, by decide +kernel⟩, ws_C_whatItGives⟩
theorem kL_57 : gKV RL 57 yC_crash bC_crash 4 (some .int) 1 := ⟨⟨wc_C_crash, wn_C, wm_L_57, by decide +kernel, by decide +kernel, by decide +kernel⟩, wi_C_crash, wv_C_crash⟩
theorem kL_61 : gKV RL 61 yC_tick bC_tick 7 (some .int) 1 := ⟨⟨wc_C_tick, wn_C, wm_L_61, by decide +kernel, by decide +kernel, by decide +kernel⟩, wi_C_tick, wv_C_tick⟩
theorem kL_65 : gKV RL 65 yC_sample bC_sample 5 (some .int) 1 := ⟨⟨wc_C_sample, wn_C, wm_L_65, by decide +kernel, by decide +kernel, by decide +kernel⟩, wi_C_sample, wv_C_sample⟩
theorem kC_166 : gKV RX3 166 yC_redoUntrusted bC_redoUntrusted 8 (some .int) 2 := ⟨⟨wc_C_redoUntrusted, wn_C, wm_C_166, by decide +kernel, by decide +kernel, by decide +kernel⟩, wi_C_redoUntrusted, wv_C_redoUntrusted⟩
theorem kL_69 : gKV RL 69 yC_about bC_about 4 (some .int) 2 := ⟨⟨wc_C_about, wn_C, wm_L_69, by decide +kernel, by decide +kernel, by decide +kernel⟩, wi_C_about, wv_C_about⟩
theorem kL_74 : gKV RL 74 yC_result bC_result 3 (some .long) 1 := ⟨⟨wc_C_result, wn_C, wm_L_74, by decide +kernel, by decide +kernel, by decide +kernel⟩, wi_C_result, wv_C_result⟩
theorem kL_79 : gKV RL 79 yC_worker bC_worker 4 (some .int) 2 := ⟨⟨wc_C_worker, wn_C, wm_L_79, by decide +kernel, by decide +kernel, by decide +kernel⟩, wi_C_worker, wv_C_worker⟩
theorem kL_83 : gKV RL 83 yC_bars bC_bars 3 (some .int) 1 := ⟨⟨wc_C_bars, wn_C, wm_L_83, by decide +kernel, by decide +kernel, by decide +kernel⟩, wi_C_bars, wv_C_bars⟩
theorem kL_87 : gKV RL 87 yC_oneShot bC_oneShot 5 (some .long) 2 := ⟨⟨wc_C_oneShot, wn_C, wm_L_87, by decide +kernel, by decide +kernel, by decide +kernel⟩, wi_C_oneShot, wv_C_oneShot⟩
theorem kL_9 : gKS RL 9 yL_cell bL_cell 2 (some .int) 2 := ⟨⟨wc_L_cell, wn_L, wm_L_9, by decide +kernel, by decide +kernel, by decide +kernel⟩, ws_L_cell⟩
theorem kL_20 : gKI RL 20 yM_init bM_init 4 3 := ⟨⟨wc_M_init, wn_M, wm_L_20, by decide +kernel, by decide +kernel, by decide +kernel⟩, by decide +kernel, wi_M_init⟩
theorem kM_78 : gKS RX4 78 yM_between bM_between 3 (some .int) 3 := ⟨⟨wc_M_between, wn_M, wm_M_78, by decide +kernel, by decide +kernel, by decide +kernel⟩, ws_M_between⟩
theorem kL_27 : gKV RL 27 yM_tool bM_tool 4 (some .int) 2 := ⟨⟨wc_M_tool, wn_M, wm_L_27, by decide +kernel, by decide +kernel, by decide +kernel⟩, wi_M_tool, wv_M_tool⟩
theorem kL_37 : gKV RL 37 yM_quirk bM_quirk 3 (some .boolean) 2 := ⟨⟨wc_M_quirk, wn_M, wm_L_37, by decide +kernel, by decide +kernel, by decide +kernel⟩, wi_M_quirk, wv_M_quirk⟩
theorem kM_96 : gKS RX4 96 yM_in bM_in 2 (some .boolean) 2 := ⟨⟨wc_M_in, wn_M, wm_M_96, by decide +kernel, by decide +kernel, by decide +kernel⟩, ws_M_in⟩
theorem kL_42 : gKV RL 42 yM_request bM_request 6 (some .int) 3 := ⟨⟨wc_M_request, wn_M, wm_L_42, by decide +kernel, by decide +kernel, by decide +kernel⟩, wi_M_request, wv_M_request⟩
theorem kL_47 : gKV RL 47 yM_cancel bM_cancel 2 (some .int) 1 := ⟨⟨wc_M_cancel, wn_M, wm_L_47, by decide +kernel, by decide +kernel, by decide +kernel⟩, wi_M_cancel, wv_M_cancel⟩
theorem kL_52 : gKV RL 52 yM_step bM_step 3 (some .int) 0 := ⟨⟨wc_M_step, wn_M, wm_L_52, by decide +kernel, by decide +kernel, by decide +kernel⟩, wi_M_step, wv_M_step⟩
theorem kM_128 : gKV RX4 128 yM_goes bM_goes 4 (some .boolean) 1 := ⟨⟨wc_M_goes, wn_M, wm_M_128, by decide +kernel, by decide +kernel, by decide +kernel⟩, wi_M_goes, wv_M_goes⟩
theorem kM_110 : gKV RX4 110 yM_oneShot bM_oneShot 8 (some .long) 2 := ⟨⟨wc_M_oneShot, wn_M, wm_M_110, by decide +kernel, by decide +kernel, by decide +kernel⟩, wi_M_oneShot, wv_M_oneShot⟩
theorem kM_114 : gKV RX4 114 yM_answers bM_answers 4 none 2 := ⟨⟨wc_M_answers, wn_M, wm_M_114, by decide +kernel, by decide +kernel, by decide +kernel⟩, wi_M_answers, wv_M_answers⟩
theorem kM_118 : gKV RX4 118 yM_freeOne bM_freeOne 4 (some .int) 1 := ⟨⟨wc_M_freeOne, wn_M, wm_M_118, by decide +kernel, by decide +kernel, by decide +kernel⟩, wi_M_freeOne, wv_M_freeOne⟩
theorem kM_122 : gKV RX4 122 yM_alive bM_alive 4 (some .int) 1 := ⟨⟨wc_M_alive, wn_M, wm_M_122, by decide +kernel, by decide +kernel, by decide +kernel⟩, wi_M_alive, wv_M_alive⟩
theorem kM_125 : gKV RX4 125 yM_newOne bM_newOne 3 (some .int) 1 := ⟨⟨wc_M_newOne, wn_M, wm_M_125, by decide +kernel, by decide +kernel, by decide +kernel⟩, wi_M_newOne, wv_M_newOne⟩
theorem kL_56 : gKV RL 56 yM_finish bM_finish 4 (some .int) 1 := ⟨⟨wc_M_finish, wn_M, wm_L_56, by decide +kernel, by decide +kernel, by decide +kernel⟩, wi_M_finish, wv_M_finish⟩
theorem kM_131 : gKV RX4 131 yM_isBusy bM_isBusy 2 (some .boolean) 1 := ⟨⟨wc_M_isBusy, wn_M, wm_M_131, by decide +kernel, by decide +kernel, by decide +kernel⟩, wi_M_isBusy, wv_M_isBusy⟩
theorem kM_103 : gKV RX4 103 yM_lets bM_lets 2 (some .boolean) 1 := ⟨⟨wc_M_lets, wn_M, wm_M_103, by decide +kernel, by decide +kernel, by decide +kernel⟩, wi_M_lets, wv_M_lets⟩
theorem kM_137 : gKV RX4 137 yM_ends bM_ends 4 (some .int) 2 := ⟨⟨wc_M_ends, wn_M, wm_M_137, by decide +kernel, by decide +kernel, by decide +kernel⟩, wi_M_ends, wv_M_ends⟩
theorem kL_60 : gKV RL 60 yM_crash bM_crash 4 (some .int) 1 := ⟨⟨wc_M_crash, wn_M, wm_L_60, by decide +kernel, by decide +kernel, by decide +kernel⟩, wi_M_crash, wv_M_crash⟩
theorem kL_32 : gKV RL 32 yM_edition bM_edition 8 (some .int) 2 := ⟨⟨wc_M_edition, wn_M, wm_L_32, by decide +kernel, by decide +kernel, by decide +kernel⟩, wi_M_edition, wv_M_edition⟩
theorem kM_141 : gKV RX4 141 yM_waitsAgain bM_waitsAgain 2 none 1 := ⟨⟨wc_M_waitsAgain, wn_M, wm_M_141, by decide +kernel, by decide +kernel, by decide +kernel⟩, wi_M_waitsAgain, wv_M_waitsAgain⟩
theorem kL_64 : gKV RL 64 yM_tick bM_tick 5 (some .int) 1 := ⟨⟨wc_M_tick, wn_M, wm_L_64, by decide +kernel, by decide +kernel, by decide +kernel⟩, wi_M_tick, wv_M_tick⟩
theorem kL_68 : gKV RL 68 yM_sample bM_sample 6 (some .int) 1 := ⟨⟨wc_M_sample, wn_M, wm_L_68, by decide +kernel, by decide +kernel, by decide +kernel⟩, wi_M_sample, wv_M_sample⟩
theorem kM_146 : gKV RX4 146 yM_isDoneBy bM_isDoneBy 3 (some .boolean) 2 := ⟨⟨wc_M_isDoneBy, wn_M, wm_M_146, by decide +kernel, by decide +kernel, by decide +kernel⟩, wi_M_isDoneBy, wv_M_isDoneBy⟩
theorem kL_73 : gKV RL 73 yM_about bM_about 3 (some .int) 2 := ⟨⟨wc_M_about, wn_M, wm_L_73, by decide +kernel, by decide +kernel, by decide +kernel⟩, wi_M_about, wv_M_about⟩
theorem kL_78 : gKV RL 78 yM_result bM_result 2 (some .long) 1 := ⟨⟨wc_M_result, wn_M, wm_L_78, by decide +kernel, by decide +kernel, by decide +kernel⟩, wi_M_result, wv_M_result⟩
theorem kL_82 : gKV RL 82 yM_worker bM_worker 3 (some .int) 2 := ⟨⟨wc_M_worker, wn_M, wm_L_82, by decide +kernel, by decide +kernel, by decide +kernel⟩, wi_M_worker, wv_M_worker⟩
theorem kL_86 : gKV RL 86 yM_bars bM_bars 2 (some .int) 1 := ⟨⟨wc_M_bars, wn_M, wm_L_86, by decide +kernel, by decide +kernel, by decide +kernel⟩, wi_M_bars, wv_M_bars⟩
theorem kL_91 : gKV RL 91 yM_oneShot bM_oneShot 8 (some .long) 2 := ⟨⟨wc_M_oneShot, wn_M, wm_L_91, by decide +kernel, by decide +kernel, by decide +kernel⟩, wi_M_oneShot, wv_M_oneShot⟩
