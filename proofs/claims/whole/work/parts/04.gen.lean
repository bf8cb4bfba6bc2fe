/-! CONTRACTS OVER A POOL, for any class: own its name, tys the array classes it uses, I u LL f: the pool (LL, f) holds the state u -/
abbrev rmL (n mc ms : Nat) : Room := { frames := n, cells := mc, slots := ms, locals := 34 * n }
abbrev wz (y : MethodName) (b : ByteArray) (n : Nat) (r : Option FieldType) : List Cond := Cond.code y b n r :: wA
theorem gz {y : MethodName} {b : ByteArray} {n : Nat} {r : Option FieldType} (h : Cond.code y b n r ∈ wA) : GoodIn wA (wz y b n r) := fun w hw => by
  rcases List.mem_cons.mp hw with e | h1
  · subst e
    exact ⟨h, good_of_word (wA_good _ h)⟩
  · exact ⟨h1, good_of_word (wA_good _ h1)⟩
def gX (own : String) (tys : List (ClassId × FieldType)) (D : va_G) (p : Program) (s : State) (m : MethodId) (args : Array Value) (c : Code) (cc : ByteArray) (n : Nat) : Prop := p.tables.exec = Jvm.exec ∧ c.code = cc ∧ (∀ w ∈ wA, w.before args s = true) ∧ s.vm.findClass own = some m.cls ∧ va_K D vwCl tys s ∧ c.maxLocals = n
def gH {σ : Type} (D : va_G) (I : σ → List Nat → (Nat → va_E) → Prop) (u : σ) (A : Nat → Prop) (H0 H : Heap) (locs : List Loc) : Prop := ∃ (LL : List Nat) (f : Nat → va_E), I u LL f ∧ va_P D vwCl (va_pl LL f) H ∧ va_D A (va_pl LL f) ∧ va_S A H0 H locs
def gB {σ : Type} (D : va_G) (tys : List (ClassId × FieldType)) (I : σ → List Nat → (Nat → va_E) → Prop) (A : Nat → Prop) (u : σ) (t : State) : Prop := ∃ (LL : List Nat) (f : Nat → va_E), I u LL f ∧ va_P D vwCl (va_pl LL f) t.heap ∧ va_K D vwCl tys t ∧ va_D A (va_pl LL f)
def gP (D : va_G) (tys : List (ClassId × FieldType)) (LL : List Nat) (f : Nat → va_E) (sz : Nat) (av : List Value) : Array Value → State → Prop := va_Pc av (fun U => U.heap.size = sz ∧ va_P D vwCl (va_pl LL f) U.heap ∧ va_K D vwCl tys U ∧ va_D (fun _ => True) (va_pl LL f))
theorem gP_blind {D : va_G} {tys : List (ClassId × FieldType)} {LL : List Nat} {f : Nat → va_E} {sz : Nat} {av : List Value} : FrameBlind (gP D tys LL f sz av) := fun a U g mk q => by
  obtain ⟨q0, q1, qP, qK, qD⟩ := q
  exact ⟨q0, q1, qP, va_K.moved (u := U) (U := U.calling g mk a) (Vm.Alike.refl U.vm) qK, qD⟩
theorem gP_pre {D : va_G} {tys : List (ClassId × FieldType)} {LL : List Nat} {f : Nat → va_E} {av : List Value} {s U : State} {H : Heap} {A : Nat → Prop} (hK : va_K D vwCl tys s) (hP : va_P D vwCl (va_pl LL f) H) (hD : va_D A (va_pl LL f)) (hU : U.heap = H) (hW : s.WarmedH U.vm) : gP D tys LL f H.size av av.toArray U := ⟨rfl, by rw [hU], by rw [hU]; exact hP, va_K.moved hW.alike hK, hD.weaken (fun _ _ _ _ => trivial)⟩
/-- a contract of a method that may write -/
theorem gMet {σ : Type} {l : Launch} {D : va_G} {tys : List (ClassId × FieldType)} {I : σ → List Nat → (Nat → va_E) → Prop} {u : σ} {own : String} {y : MethodName} {b : ByteArray} {n : Nat} {ret : Option FieldType} {av : List Value} {Qc : (Nat → Prop) → Array Value → State → Outcome → State → Prop} {mc ms dp : Nat} {LL : List Nat} {f : Nat → va_E} {sz : Nat} (hy : plainName y.cls = true) (ho : y.cls = own) (hI : I u LL f) (hav : (lg_sl av).length ≤ n)
    (body : ∀ (p : Program) (e : Env) (s : State) (m : MethodId) (below : List Frame) (meth : Method) (c : Code) (ls : Array Slot) (A : Nat → Prop), gX own tys D p s m av.toArray c b n → meth.sig.returnType = ret → meth.locks = false → meth.name = y.name → (∀ q : Nat, s.heap.size ≤ q → A q) → gH D I u A s.heap s.heap [] → lv_has ls n (lv_args 0 av) → W p l e (rmL dp mc ms) s m av.toArray below meth c s.heap [] 0 0 (MQ below (Qc A) av.toArray s mc ms A) (F0 m 0 ls [])) :
    Met l y (wz y b n ret) (rmL dp mc ms) (gP D tys LL f sz av) (Qc (va_A (va_pl LL f) sz)) mc ms (va_A (va_pl LL f) sz) := by
  refine Met.ofW (cc := b) (maxL := n) (ret := ret) hy rfl ?_
  intro p e s m args below meth c s₁ B hml hv
  obtain ⟨rfl, hsz, hP, hK, hD0⟩ := hv
  subst hsz
  rw [lg_entry_eq]
  have hts := atoms_spec (ws := wz y b n ret) B.pre
  have hown : s.vm.findClass y.cls = some m.cls := findClass_of_methodNamed B.named
  exact body p e s m below meth c _ _ ⟨B.exec, B.bytes, fun w h => hts w (List.mem_cons_of_mem _ h), by rw [← ho]; exact hown, hK, hml⟩ B.returns B.notSynchronized (name_of_methodNamed B.named B.method).1 (fun q h => Or.inr h) ⟨LL, f, hI, hP, hD0.self, va_S.rf⟩ (lv_entry av hav)
/-- a contract of a method that only reads -/
theorem gMetR {σ : Type} {l : Launch} {D : va_G} {tys : List (ClassId × FieldType)} {I : σ → List Nat → (Nat → va_E) → Prop} {u : σ} {own : String} {y : MethodName} {b : ByteArray} {n : Nat} {ret : Option FieldType} {av : List Value} {Qc : Array Value → State → Outcome → State → Prop} {dp : Nat} {LL : List Nat} {f : Nat → va_E} {sz : Nat} (hy : plainName y.cls = true) (ho : y.cls = own) (hI : I u LL f) (hav : (lg_sl av).length ≤ n)
    (body : ∀ (p : Program) (e : Env) (s : State) (m : MethodId) (below : List Frame) (meth : Method) (c : Code) (ls : Array Slot), gX own tys D p s m av.toArray c b n → meth.sig.returnType = ret → meth.locks = false → gH D I u (fun _ => True) s.heap s.heap [] → lv_has ls n (lv_args 0 av) → W p l e (rmL dp 0 0) s m av.toArray below meth c s.heap [] 0 0 (MQ below Qc av.toArray s 0 0 (fun _ => False)) (F0 m 0 ls [])) :
    Met l y (wz y b n ret) (rmL dp 0 0) (gP D tys LL f sz av) Qc 0 0 (fun _ => False) := by
  refine Met.ofW (cc := b) (maxL := n) (ret := ret) hy rfl ?_
  intro p e s m args below meth c s₁ B hml hv
  obtain ⟨rfl, hsz, hP, hK, hD0⟩ := hv
  subst hsz
  rw [lg_entry_eq]
  have hts := atoms_spec (ws := wz y b n ret) B.pre
  have hown : s.vm.findClass y.cls = some m.cls := findClass_of_methodNamed B.named
  exact body p e s m below meth c _ ⟨B.exec, B.bytes, fun w h => hts w (List.mem_cons_of_mem _ h), by rw [← ho]; exact hown, hK, hml⟩ B.returns B.notSynchronized ⟨LL, f, hI, hP, hD0, va_S.rf⟩ (lv_entry av hav)
/-- a contract of a method that looks at its arguments alone -/
theorem gMetS {l : Launch} {own : String} {y : MethodName} {b : ByteArray} {n : Nat} {ret : Option FieldType} {av : List Value} {Qc : Array Value → State → Outcome → State → Prop} {dp : Nat} (hy : plainName y.cls = true) (ho : y.cls = own) (hav : (lg_sl av).length ≤ n)
    (body : ∀ (p : Program) (e : Env) (s : State) (m : MethodId) (below : List Frame) (meth : Method) (c : Code) (ls : Array Slot), p.tables.exec = Jvm.exec → c.code = b → (∀ w ∈ wA, w.before av.toArray s = true) → s.vm.findClass own = some m.cls → c.maxLocals = n → meth.sig.returnType = ret → meth.locks = false → lv_has ls n (lv_args 0 av) → W p l e (rmL dp 0 0) s m av.toArray below meth c s.heap [] 0 0 (MQ below Qc av.toArray s 0 0 (fun _ => False)) (F0 m 0 ls [])) :
    Met l y (wz y b n ret) (rmL dp 0 0) (fun v _ => v = av.toArray) Qc 0 0 (fun _ => False) := by
  refine Met.ofW (cc := b) (maxL := n) (ret := ret) hy rfl ?_
  intro p e s m args below meth c s₁ B hml hv
  subst hv
  rw [lg_entry_eq]
  have hts := atoms_spec (ws := wz y b n ret) B.pre
  have hown : s.vm.findClass y.cls = some m.cls := findClass_of_methodNamed B.named
  exact body p e s m below meth c _ B.exec B.bytes (fun w h => hts w (List.mem_cons_of_mem _ h)) (by rw [← ho]; exact hown) hml B.returns B.notSynchronized (lv_entry av hav)
/-- what the tables say of a call -/
def gK (own : String) (idx : Nat) (y : MethodName) (b : ByteArray) (n : Nat) (r : Option FieldType) (k : Nat) : Prop := Cond.code y b n r ∈ wA ∧ Cond.initialized y.cls ∈ wA ∧ Cond.methodLink own idx y ∈ wA ∧ y.cls ≠ "java/lang/invoke/MethodHandle" ∧ y.cls ≠ "java/lang/invoke/VarHandle" ∧ (parseMethodDescriptor y.desc).map (fun d => d.parameters.length) = some k
def gKS (own : String) (idx : Nat) (y : MethodName) (b : ByteArray) (n : Nat) (r : Option FieldType) (k : Nat) : Prop := gK own idx y b n r k ∧ Cond.static y ∈ wA
def gKV (own : String) (idx : Nat) (y : MethodName) (b : ByteArray) (n : Nat) (r : Option FieldType) (k : Nat) : Prop := gK own idx y b n r k ∧ Cond.instanceMethod y ∈ wA ∧ Cond.selects y.cls y y ∈ wA
def gKI (own : String) (idx : Nat) (y : MethodName) (b : ByteArray) (n : Nat) (k : Nat) : Prop := gK own idx y b n none k ∧ y.name = "<init>" ∧ Cond.instanceMethod y ∈ wA
theorem gK.B {own : String} {idx : Nat} {y : MethodName} {b : ByteArray} {n : Nat} {r : Option FieldType} {k : Nat} (h : gK own idx y b n r k) {R : Room} {s : State} {args : Array Value} (hts : ∀ w ∈ wA, w.before args s = true) {dp mc ms : Nat} (hR : dp + 1 ≤ R.frames ∧ 8 + (n + 11) + 34 * dp ≤ R.locals) : CallB R s args own idx y b n r (wz y b n r) (rmL dp mc ms) mc ms k :=
  callB_of k hts (gz h.1) rfl rfl rfl (hts _ h.2.1) (hts _ h.2.2.1) h.2.2.2 hR
section GC
variable {p : Program} {l : Launch} {e : Env} {R : Room} {s : State} {m : MethodId} {args : Array Value} {below : List Frame} {meth : Method} {c : Code} {H : Heap} {locs : List Loc} {cells slots : Nat} {Q : State → Prop}
variable {cc : ByteArray} {pc : Nat} {ls : Array Slot} {rest st : List Value} {D : va_G} {A : Nat → Prop} {tys : List (ClassId × FieldType)} {H0 : Heap} {own : String} {nL : Nat} {σ : Type} {I : σ → List Nat → (Nat → va_E) → Prop} {u : σ} {y : MethodName} {b : ByteArray} {n dp idx mc ms : Nat} {r : Option FieldType} {av : List Value}
theorem gX.fix (h : gX own tys D p s m args c cc nL) : CallFix p m c cc nL s args wA own := ⟨h.1, h.2.1, h.2.2.2.2.2, h.2.2.2.1, h.2.2.1⟩
-- a static method that only reads
theorem gcSi {post : Int32 → Prop} (hC : gX own tys D p s m args c cc nL) (hls : ls.size = nL) (hH : gH D I u A H0 H locs) (M : ∀ LL f sz, I u LL f → Met l y (wz y b n r) (rmL dp 0 0) (gP D tys LL f sz av) (vp_Si post) 0 0 (fun _ => False)) (hk : gKS own idx y b n r av.length) (hR : dp + 1 ≤ R.frames ∧ 8 + (n + 11) + 34 * dp ≤ R.locals) (hdg : decode cc pc = .ok (.invokestatic idx, 3)) (hcs : cells ≤ R.cells ∧ slots ≤ R.slots) (hst : st = av.reverse ++ rest) (hcat : (rest.map fun v => v.category).sum ≤ 8) (kk : ∀ v : Int32, post v → W p l e R s m args below meth c H locs cells slots Q (F0 m (pc + 3) ls (.int v :: rest))) : W p l e R s m args below meth c H locs cells slots Q (F0 m pc ls st) := by
  obtain ⟨LL, f, hI, hP, hD, hS⟩ := hH
  exact vp_callSi (W.runS (As := av) hC.fix (M LL f H.size hI) ⟨hk.1.B hC.2.2.1 hR, hC.2.2.1 _ hk.2⟩ ⟨gP_blind, fun U hU hW => gP_pre hC.2.2.2.2.1 hP hD hU hW⟩ rfl rfl hls hst (lv_room hcat) hdg hcs) kk
theorem gcSl {post : Int64 → Prop} (hC : gX own tys D p s m args c cc nL) (hls : ls.size = nL) (hH : gH D I u A H0 H locs) (M : ∀ LL f sz, I u LL f → Met l y (wz y b n r) (rmL dp 0 0) (gP D tys LL f sz av) (vp_Sl post) 0 0 (fun _ => False)) (hk : gKS own idx y b n r av.length) (hR : dp + 1 ≤ R.frames ∧ 8 + (n + 11) + 34 * dp ≤ R.locals) (hdg : decode cc pc = .ok (.invokestatic idx, 3)) (hcs : cells ≤ R.cells ∧ slots ≤ R.slots) (hst : st = av.reverse ++ rest) (hcat : (rest.map fun v => v.category).sum ≤ 8) (kk : ∀ v : Int64, post v → W p l e R s m args below meth c H locs cells slots Q (F0 m (pc + 3) ls (.long v :: rest))) : W p l e R s m args below meth c H locs cells slots Q (F0 m pc ls st) := by
  obtain ⟨LL, f, hI, hP, hD, hS⟩ := hH
  exact vp_callSl (W.runS (As := av) hC.fix (M LL f H.size hI) ⟨hk.1.B hC.2.2.1 hR, hC.2.2.1 _ hk.2⟩ ⟨gP_blind, fun U hU hW => gP_pre hC.2.2.2.2.1 hP hD hU hW⟩ rfl rfl hls hst (lv_room hcat) hdg hcs) kk
-- a static method of its arguments alone
theorem gcTi {post : Int32 → Prop} (hF : CallFix p m c cc nL s args wA own) (hls : ls.size = nL) (M : Met l y (wz y b n r) (rmL dp 0 0) (fun v _ => v = av.toArray) (vp_Si post) 0 0 (fun _ => False)) (hk : gKS own idx y b n r av.length) (hR : dp + 1 ≤ R.frames ∧ 8 + (n + 11) + 34 * dp ≤ R.locals) (hdg : decode cc pc = .ok (.invokestatic idx, 3)) (hcs : cells ≤ R.cells ∧ slots ≤ R.slots) (hst : st = av.reverse ++ rest) (hcat : (rest.map fun v => v.category).sum ≤ 8) (kk : ∀ v : Int32, post v → W p l e R s m args below meth c H locs cells slots Q (F0 m (pc + 3) ls (.int v :: rest))) : W p l e R s m args below meth c H locs cells slots Q (F0 m pc ls st) :=
  vp_callSi (W.runS (As := av) hF M ⟨hk.1.B hF.2.2.2.2 hR, hF.2.2.2.2 _ hk.2⟩ preEq rfl rfl hls hst (lv_room hcat) hdg hcs) kk
theorem gcTl {post : Int64 → Prop} (hF : CallFix p m c cc nL s args wA own) (hls : ls.size = nL) (M : Met l y (wz y b n r) (rmL dp 0 0) (fun v _ => v = av.toArray) (vp_Sl post) 0 0 (fun _ => False)) (hk : gKS own idx y b n r av.length) (hR : dp + 1 ≤ R.frames ∧ 8 + (n + 11) + 34 * dp ≤ R.locals) (hdg : decode cc pc = .ok (.invokestatic idx, 3)) (hcs : cells ≤ R.cells ∧ slots ≤ R.slots) (hst : st = av.reverse ++ rest) (hcat : (rest.map fun v => v.category).sum ≤ 8) (kk : ∀ v : Int64, post v → W p l e R s m args below meth c H locs cells slots Q (F0 m (pc + 3) ls (.long v :: rest))) : W p l e R s m args below meth c H locs cells slots Q (F0 m pc ls st) :=
  vp_callSl (W.runS (As := av) hF M ⟨hk.1.B hF.2.2.2.2 hR, hF.2.2.2.2 _ hk.2⟩ preEq rfl rfl hls hst (lv_room hcat) hdg hcs) kk
-- an instance method that only reads; its receiver a
theorem gcVi {post : Int32 → Prop} {a ci : Nat} {fs : List Value} {q : vw_C} (hC : gX own tys D p s m args c cc nL) (hls : ls.size = nL) (hH : gH D I u A H0 H locs) (M : ∀ LL f sz, I u LL f → Met l y (wz y b n r) (rmL dp 0 0) (gP D tys LL f sz (.ref a :: av)) (vp_Si post) 0 0 (fun _ => False)) (ha : ∀ LL f, I u LL f → a ∈ LL ∧ f a = .inr (ci, fs)) (hc : vwCl[ci]? = some q) (hq : q.1 = y.cls) (hk : gKV own idx y b n r av.length) (hR : dp + 1 ≤ R.frames ∧ 8 + (n + 11) + 34 * dp ≤ R.locals) (hdg : decode cc pc = .ok (.invokevirtual idx, 3)) (hcs : cells ≤ R.cells ∧ slots ≤ R.slots) (hst : st = av.reverse ++ .ref a :: rest) (hcat : (rest.map fun v => v.category).sum ≤ 8) (kk : ∀ v : Int32, post v → W p l e R s m args below meth c H locs cells slots Q (F0 m (pc + 3) ls (.int v :: rest))) : W p l e R s m args below meth c H locs cells slots Q (F0 m pc ls st) := by
  obtain ⟨LL, f, hI, hP, hD, hS⟩ := hH
  have hr := pw_recv hC.2.2.2.2.1 hP (ha LL f hI).1 (ha LL f hI).2 hc
  rw [hq] at hr
  exact vp_callSi (W.runV (C := y.cls) (As := av) hC.fix (M LL f H.size hI) ⟨hk.1.B hC.2.2.1 hR, hC.2.2.1 _ hk.2.1, hC.2.2.1 _ hk.2.2⟩ ⟨gP_blind, hr, fun U hU hW => gP_pre hC.2.2.2.2.1 hP hD hU hW⟩ rfl rfl hls hst (lv_room hcat) hdg hcs) kk
theorem gcVl {post : Int64 → Prop} {a ci : Nat} {fs : List Value} {q : vw_C} (hC : gX own tys D p s m args c cc nL) (hls : ls.size = nL) (hH : gH D I u A H0 H locs) (M : ∀ LL f sz, I u LL f → Met l y (wz y b n r) (rmL dp 0 0) (gP D tys LL f sz (.ref a :: av)) (vp_Sl post) 0 0 (fun _ => False)) (ha : ∀ LL f, I u LL f → a ∈ LL ∧ f a = .inr (ci, fs)) (hc : vwCl[ci]? = some q) (hq : q.1 = y.cls) (hk : gKV own idx y b n r av.length) (hR : dp + 1 ≤ R.frames ∧ 8 + (n + 11) + 34 * dp ≤ R.locals) (hdg : decode cc pc = .ok (.invokevirtual idx, 3)) (hcs : cells ≤ R.cells ∧ slots ≤ R.slots) (hst : st = av.reverse ++ .ref a :: rest) (hcat : (rest.map fun v => v.category).sum ≤ 8) (kk : ∀ v : Int64, post v → W p l e R s m args below meth c H locs cells slots Q (F0 m (pc + 3) ls (.long v :: rest))) : W p l e R s m args below meth c H locs cells slots Q (F0 m pc ls st) := by
  obtain ⟨LL, f, hI, hP, hD, hS⟩ := hH
  have hr := pw_recv hC.2.2.2.2.1 hP (ha LL f hI).1 (ha LL f hI).2 hc
  rw [hq] at hr
  exact vp_callSl (W.runV (C := y.cls) (As := av) hC.fix (M LL f H.size hI) ⟨hk.1.B hC.2.2.1 hR, hC.2.2.1 _ hk.2.1, hC.2.2.1 _ hk.2.2⟩ ⟨gP_blind, hr, fun U hU hW => gP_pre hC.2.2.2.2.1 hP hD hU hW⟩ rfl rfl hls hst (lv_room hcat) hdg hcs) kk
theorem gcVq {post : Option Nat → Prop} {a ci : Nat} {fs : List Value} {q : vw_C} (hC : gX own tys D p s m args c cc nL) (hls : ls.size = nL) (hH : gH D I u A H0 H locs) (M : ∀ LL f sz, I u LL f → Met l y (wz y b n r) (rmL dp 0 0) (gP D tys LL f sz (.ref a :: av)) (va_Sq post) 0 0 (fun _ => False)) (ha : ∀ LL f, I u LL f → a ∈ LL ∧ f a = .inr (ci, fs)) (hc : vwCl[ci]? = some q) (hq : q.1 = y.cls) (hk : gKV own idx y b n r av.length) (hR : dp + 1 ≤ R.frames ∧ 8 + (n + 11) + 34 * dp ≤ R.locals) (hdg : decode cc pc = .ok (.invokevirtual idx, 3)) (hcs : cells ≤ R.cells ∧ slots ≤ R.slots) (hst : st = av.reverse ++ .ref a :: rest) (hcat : (rest.map fun v => v.category).sum ≤ 8) (kk : ∀ v : Option Nat, post v → W p l e R s m args below meth c H locs cells slots Q (F0 m (pc + 3) ls (va_rf v :: rest))) : W p l e R s m args below meth c H locs cells slots Q (F0 m pc ls st) := by
  obtain ⟨LL, f, hI, hP, hD, hS⟩ := hH
  have hr := pw_recv hC.2.2.2.2.1 hP (ha LL f hI).1 (ha LL f hI).2 hc
  rw [hq] at hr
  exact va_csq (W.runV (C := y.cls) (As := av) hC.fix (M LL f H.size hI) ⟨hk.1.B hC.2.2.1 hR, hC.2.2.1 _ hk.2.1, hC.2.2.1 _ hk.2.2⟩ ⟨gP_blind, hr, fun U hU hW => gP_pre hC.2.2.2.2.1 hP hD hU hW⟩ rfl rfl hls hst (lv_room hcat) hdg hcs) kk
/-- behind a call that writes: the world again -/
theorem gH.back {LL : List Nat} {f : Nat → va_E} {u' : σ} {t : State} {H1 : Heap} {locs1 : List Loc} (hB : gB D tys I (va_A (va_pl LL f) H.size) u' t) (ht : t.heap = H1) (hF : ∀ q, va_A (va_pl LL f) H.size q → A q) (hS : va_S A H0 H1 locs1) : gH D I u' A H0 H1 locs1 := by
  obtain ⟨L2, f2, h1, h2, h3, h4⟩ := hB
  exact ⟨L2, f2, h1, by rw [← ht]; exact h2, h4.weaken (fun _ q _ h => hF q.1 h), hS⟩
theorem gH.free {LL : List Nat} {f : Nat → va_E} (hD : va_D A (va_pl LL f)) (hS : va_S A H0 H locs) (hA : ∀ q, H0.size ≤ q → A q) : ∀ q, va_A (va_pl LL f) H.size q → A q := fun q h => by
  rcases h with ⟨k, x, h⟩ | h
  · exact hD.2 k _ h
  · exact hA q (Nat.le_trans hS.1 h)
-- methods that write
theorem gcWSv {post : σ → Prop} (hC : gX own tys D p s m args c cc nL) (hls : ls.size = nL) (hA : ∀ q, H0.size ≤ q → A q) (hH : gH D I u A H0 H locs) (M : ∀ LL f sz, I u LL f → Met l y (wz y b n r) (rmL dp mc ms) (gP D tys LL f sz av) (va_Qv post (gB D tys I (va_A (va_pl LL f) sz)) (va_A (va_pl LL f) sz)) mc ms (va_A (va_pl LL f) sz)) (hk : gKS own idx y b n r av.length) (hR : dp + 1 ≤ R.frames ∧ 8 + (n + 11) + 34 * dp ≤ R.locals) (hdg : decode cc pc = .ok (.invokestatic idx, 3)) (hcs : cells + mc ≤ R.cells ∧ slots + ms ≤ R.slots) (hst : st = av.reverse ++ rest) (hcat : (rest.map fun v => v.category).sum ≤ 8) (kk : ∀ (u' : σ) (H1 : Heap) (locs1 : List Loc), post u' → gH D I u' A H0 H1 locs1 → W p l e R s m args below meth c H1 locs1 (cells + mc) (slots + ms) Q (F0 m (pc + 3) ls rest)) : W p l e R s m args below meth c H locs cells slots Q (F0 m pc ls st) := by
  obtain ⟨LL, f, hI, hP, hD, hS⟩ := hH
  have hF := gH.free hD hS hA
  exact va_callv (va_runS (As := av) hC.fix (M LL f H.size hI) ⟨hk.1.B hC.2.2.1 hR, hC.2.2.1 _ hk.2⟩ ⟨gP_blind, fun U hU hW => gP_pre hC.2.2.2.2.1 hP hD hU hW⟩ rfl rfl hls hst (lv_room hcat) hdg hcs) hS (fun q _ h => hF q h) hF (fun u' t H1 locs1 ht hvm hp hB hz hk1 hS1 => kk u' H1 locs1 hp (gH.back hB ht hF hS1))
theorem gcWVv {post : σ → Prop} {a ci : Nat} {fs : List Value} {q : vw_C} (hC : gX own tys D p s m args c cc nL) (hls : ls.size = nL) (hA : ∀ q, H0.size ≤ q → A q) (hH : gH D I u A H0 H locs) (M : ∀ LL f sz, I u LL f → Met l y (wz y b n r) (rmL dp mc ms) (gP D tys LL f sz (.ref a :: av)) (va_Qv post (gB D tys I (va_A (va_pl LL f) sz)) (va_A (va_pl LL f) sz)) mc ms (va_A (va_pl LL f) sz)) (ha : ∀ LL f, I u LL f → a ∈ LL ∧ f a = .inr (ci, fs)) (hc : vwCl[ci]? = some q) (hq : q.1 = y.cls) (hk : gKV own idx y b n r av.length) (hR : dp + 1 ≤ R.frames ∧ 8 + (n + 11) + 34 * dp ≤ R.locals) (hdg : decode cc pc = .ok (.invokevirtual idx, 3)) (hcs : cells + mc ≤ R.cells ∧ slots + ms ≤ R.slots) (hst : st = av.reverse ++ .ref a :: rest) (hcat : (rest.map fun v => v.category).sum ≤ 8) (kk : ∀ (u' : σ) (H1 : Heap) (locs1 : List Loc), post u' → gH D I u' A H0 H1 locs1 → W p l e R s m args below meth c H1 locs1 (cells + mc) (slots + ms) Q (F0 m (pc + 3) ls rest)) : W p l e R s m args below meth c H locs cells slots Q (F0 m pc ls st) := by
  obtain ⟨LL, f, hI, hP, hD, hS⟩ := hH
  have hF := gH.free hD hS hA
  have hr := pw_recv hC.2.2.2.2.1 hP (ha LL f hI).1 (ha LL f hI).2 hc
  rw [hq] at hr
  exact va_callv (va_runV (C := y.cls) (As := av) hC.fix (M LL f H.size hI) ⟨hk.1.B hC.2.2.1 hR, hC.2.2.1 _ hk.2.1, hC.2.2.1 _ hk.2.2⟩ ⟨gP_blind, hr, fun U hU hW => gP_pre hC.2.2.2.2.1 hP hD hU hW⟩ rfl rfl hls hst (lv_room hcat) hdg hcs) hS (fun q _ h => hF q h) hF (fun u' t H1 locs1 ht hvm hp hB hz hk1 hS1 => kk u' H1 locs1 hp (gH.back hB ht hF hS1))
theorem gcWVi {post : Int32 → σ → Prop} {a ci : Nat} {fs : List Value} {q : vw_C} (hC : gX own tys D p s m args c cc nL) (hls : ls.size = nL) (hA : ∀ q, H0.size ≤ q → A q) (hH : gH D I u A H0 H locs) (M : ∀ LL f sz, I u LL f → Met l y (wz y b n r) (rmL dp mc ms) (gP D tys LL f sz (.ref a :: av)) (va_Qi post (gB D tys I (va_A (va_pl LL f) sz)) (va_A (va_pl LL f) sz)) mc ms (va_A (va_pl LL f) sz)) (ha : ∀ LL f, I u LL f → a ∈ LL ∧ f a = .inr (ci, fs)) (hc : vwCl[ci]? = some q) (hq : q.1 = y.cls) (hk : gKV own idx y b n r av.length) (hR : dp + 1 ≤ R.frames ∧ 8 + (n + 11) + 34 * dp ≤ R.locals) (hdg : decode cc pc = .ok (.invokevirtual idx, 3)) (hcs : cells + mc ≤ R.cells ∧ slots + ms ≤ R.slots) (hst : st = av.reverse ++ .ref a :: rest) (hcat : (rest.map fun v => v.category).sum ≤ 8) (kk : ∀ (v : Int32) (u' : σ) (H1 : Heap) (locs1 : List Loc), post v u' → gH D I u' A H0 H1 locs1 → W p l e R s m args below meth c H1 locs1 (cells + mc) (slots + ms) Q (F0 m (pc + 3) ls (.int v :: rest))) : W p l e R s m args below meth c H locs cells slots Q (F0 m pc ls st) := by
  obtain ⟨LL, f, hI, hP, hD, hS⟩ := hH
  have hF := gH.free hD hS hA
  have hr := pw_recv hC.2.2.2.2.1 hP (ha LL f hI).1 (ha LL f hI).2 hc
  rw [hq] at hr
  exact va_calli (va_runV (C := y.cls) (As := av) hC.fix (M LL f H.size hI) ⟨hk.1.B hC.2.2.1 hR, hC.2.2.1 _ hk.2.1, hC.2.2.1 _ hk.2.2⟩ ⟨gP_blind, hr, fun U hU hW => gP_pre hC.2.2.2.2.1 hP hD hU hW⟩ rfl rfl hls hst (lv_room hcat) hdg hcs) hS (fun q _ h => hF q h) hF (fun v u' t H1 locs1 ht hvm hp hB hz hk1 hS1 => kk v u' H1 locs1 hp (gH.back hB ht hF hS1))
theorem gcWVq {post : Option Nat → σ → Prop} {a ci : Nat} {fs : List Value} {q : vw_C} (hC : gX own tys D p s m args c cc nL) (hls : ls.size = nL) (hA : ∀ q, H0.size ≤ q → A q) (hH : gH D I u A H0 H locs) (M : ∀ LL f sz, I u LL f → Met l y (wz y b n r) (rmL dp mc ms) (gP D tys LL f sz (.ref a :: av)) (va_Qq post (gB D tys I (va_A (va_pl LL f) sz)) (va_A (va_pl LL f) sz)) mc ms (va_A (va_pl LL f) sz)) (ha : ∀ LL f, I u LL f → a ∈ LL ∧ f a = .inr (ci, fs)) (hc : vwCl[ci]? = some q) (hq : q.1 = y.cls) (hk : gKV own idx y b n r av.length) (hR : dp + 1 ≤ R.frames ∧ 8 + (n + 11) + 34 * dp ≤ R.locals) (hdg : decode cc pc = .ok (.invokevirtual idx, 3)) (hcs : cells + mc ≤ R.cells ∧ slots + ms ≤ R.slots) (hst : st = av.reverse ++ .ref a :: rest) (hcat : (rest.map fun v => v.category).sum ≤ 8) (kk : ∀ (v : Option Nat) (u' : σ) (H1 : Heap) (locs1 : List Loc), post v u' → gH D I u' A H0 H1 locs1 → W p l e R s m args below meth c H1 locs1 (cells + mc) (slots + ms) Q (F0 m (pc + 3) ls (va_rf v :: rest))) : W p l e R s m args below meth c H locs cells slots Q (F0 m pc ls st) := by
  obtain ⟨LL, f, hI, hP, hD, hS⟩ := hH
  have hF := gH.free hD hS hA
  have hr := pw_recv hC.2.2.2.2.1 hP (ha LL f hI).1 (ha LL f hI).2 hc
  rw [hq] at hr
  exact va_callq (va_runV (C := y.cls) (As := av) hC.fix (M LL f H.size hI) ⟨hk.1.B hC.2.2.1 hR, hC.2.2.1 _ hk.2.1, hC.2.2.1 _ hk.2.2⟩ ⟨gP_blind, hr, fun U hU hW => gP_pre hC.2.2.2.2.1 hP hD hU hW⟩ rfl rfl hls hst (lv_room hcat) hdg hcs) hS (fun q _ h => hF q h) hF (fun v u' t H1 locs1 ht hvm hp hB hz hk1 hS1 => kk v u' H1 locs1 hp (gH.back hB ht hF hS1))
-- ends
theorem grSi {post : Int32 → Prop} {v : Int32} {ty : FieldType} (hC : gX own tys D p s m args c cc nL) (hr : meth.sig.returnType = some ty) (hlk : meth.locks = false) (hn : narrow ty (.int v) = .int v) (hp : post v) (hdg : decode cc pc = .ok (.ireturn, 1)) : W p l e R s m args below meth c s.heap [] 0 0 (MQ below (vp_Si post) args s 0 0 (fun _ => False)) (F0 m pc ls [.int v]) :=
  W.zret hC.1 hC.2.1 hr hn (fun t ht hW => ⟨v, rfl, hp, ht⟩) (fun q h => by cases h) hdg
theorem grSl {post : Int64 → Prop} {v : Int64} (hC : gX own tys D p s m args c cc nL) (hr : meth.sig.returnType = some .long) (hlk : meth.locks = false) (hp : post v) (hdg : decode cc pc = .ok (.lreturn, 1)) : W p l e R s m args below meth c s.heap [] 0 0 (MQ below (vp_Sl post) args s 0 0 (fun _ => False)) (F0 m pc ls [.long v]) :=
  W.lret hC.1 hC.2.1 hr (fun t ht hW => ⟨v, rfl, hp, ht⟩) (fun q h => by cases h) hdg
theorem grSq {post : Option Nat → Prop} {v : Option Nat} {C : String} (hC : gX own tys D p s m args c cc nL) (hr : meth.sig.returnType = some (.object C)) (hlk : meth.locks = false) (hp : post v) (hdg : decode cc pc = .ok (.areturn, 1)) : W p l e R s m args below meth c s.heap [] 0 0 (MQ below (va_Sq post) args s 0 0 (fun _ => False)) (F0 m pc ls [va_rf v]) :=
  W.aret hC.1 hC.2.1 hr (Or.inl ⟨_, rfl⟩) (va_rf_or v) (fun t ht hW => ⟨v, rfl, hp, ht⟩) (fun q h => by cases h) hdg
theorem gH.B {u' : σ} {t : State} (hC : gX own tys D p s m args c cc nL) (hH : gH D I u' A s.heap H locs) (ht : t.heap = H) (hW : s.WarmedH t.vm) : gB D tys I A u' t ∧ va_F A s t := by
  obtain ⟨LL, f, h1, h2, h3, h4⟩ := hH
  exact ⟨⟨LL, f, h1, by rw [ht]; exact h2, va_K.moved hW.alike hC.2.2.2.2.1, h3⟩, h4.F ht⟩
theorem gH.L {u' : σ} (hH : gH D I u' A s.heap H locs) : ∀ q ∈ locs, A q.base := by
  obtain ⟨LL, f, h1, h2, h3, h4⟩ := hH
  exact h4.2.2
theorem grWi {post : Int32 → σ → Prop} {v : Int32} {ty : FieldType} {u' : σ} (hC : gX own tys D p s m args c cc nL) (hr : meth.sig.returnType = some ty) (hlk : meth.locks = false) (hn : narrow ty (.int v) = .int v) (hH : gH D I u' A s.heap H locs) (hp : post v u') (hdg : decode cc pc = .ok (.ireturn, 1)) : W p l e R s m args below meth c H locs cells slots (MQ below (va_Qi post (gB D tys I A) A) args s cells slots A) (F0 m pc ls [.int v]) :=
  W.zret hC.1 hC.2.1 hr hn (fun t ht hW => ⟨⟨v, u', rfl, hp, (gH.B hC hH ht hW).1⟩, (gH.B hC hH ht hW).2⟩) hH.L hdg
theorem grWv {post : σ → Prop} {u' : σ} (hC : gX own tys D p s m args c cc nL) (hr : meth.sig.returnType = none) (hlk : meth.locks = false) (hH : gH D I u' A s.heap H locs) (hp : post u') (hdg : decode cc pc = .ok (.return_, 1)) : W p l e R s m args below meth c H locs cells slots (MQ below (va_Qv post (gB D tys I A) A) args s cells slots A) (F0 m pc ls []) :=
  W.vret hC.1 hC.2.1 hr (fun t ht hW => ⟨⟨u', rfl, hp, (gH.B hC hH ht hW).1⟩, (gH.B hC hH ht hW).2⟩) hH.L hdg
theorem grWq {post : Option Nat → σ → Prop} {v : Option Nat} {C : String} {u' : σ} (hC : gX own tys D p s m args c cc nL) (hr : meth.sig.returnType = some (.object C)) (hlk : meth.locks = false) (hH : gH D I u' A s.heap H locs) (hp : post v u') (hdg : decode cc pc = .ok (.areturn, 1)) : W p l e R s m args below meth c H locs cells slots (MQ below (va_Qq post (gB D tys I A) A) args s cells slots A) (F0 m pc ls [va_rf v]) :=
  W.aret hC.1 hC.2.1 hr (Or.inl ⟨_, rfl⟩) (va_rf_or v) (fun t ht hW => ⟨⟨v, u', rfl, hp, (gH.B hC hH ht hW).1⟩, (gH.B hC hH ht hW).2⟩) hH.L hdg
end GC
