/-! POOL WORLDS: a world is a list LL of addresses and f, what lies at each; rows by membership -/
section PW
theorem pw_at {f : Nat → va_E} {LL : List Nat} {a : Nat} {x : va_E} (ha : a ∈ LL) (hf : f a = x) : ∃ k : Nat, (va_pl LL f)[k]? = some (a, x) := by
  obtain ⟨k, hk⟩ := va_pl_get (X := []) (f := f) ha
  exact ⟨k, by rw [← hf]; exact hk⟩
theorem pw_set {A : Nat → Prop} {LL : List Nat} {f : Nat → va_E} {a k : Nat} {x y : va_E} (hD : va_D A (va_pl LL f)) (ha : a ∈ LL) (hf : f a = x) (hk : (va_pl LL f)[k]? = some (a, x)) : (va_pl LL f).set k (a, y) = va_pl LL (va_up f a y) := by
  subst hf
  exact va_pl_set (X := []) hD ha hk
variable {p : Program} {l : Launch} {e : Env} {R : Room} {s : State} {m : MethodId} {args : Array Value} {below : List Frame} {meth : Method} {c : Code} {H : Heap} {locs : List Loc} {cells slots : Nat} {Q : State → Prop}
variable {cc : ByteArray} {pc : Nat} {ls : Array Slot} {rest : List Value} {D : va_G} {cl : List vw_C} {A : Nat → Prop} {a : Nat} {tys : List (ClassId × FieldType)} {H0 : Heap} {LL : List Nat} {f : Nat → va_E}
theorem pw_get (hexec : p.tables.exec = Jvm.exec) (hb : c.code = cc) {own C : String} {T : u_T} {N ci index : Nat} {Ts : List Cond} (hts : ∀ w ∈ Ts, w.before args s = true) (hin : ∀ w ∈ u_ws C T N, w ∈ Ts) (hown : s.vm.findClass own = some m.cls) (hK : va_K D cl tys s) (hP : va_P D cl (va_pl LL f) H) {fs : List Value} (ha : a ∈ LL) (hf : f a = .inr (ci, fs)) (hc : cl[ci]? = some (C, T, N)) (k : Nat) (hk : k < N) (hlink : (Cond.fieldLink own index (T k).1 (T k).2.1 (T k).2.2.1).before args s = true) {v : Value} (hv : fs[k]? = some v) (hdg : decode cc pc = .ok (.getfield index, 3))
    (kk : W p l e R s m args below meth c H locs cells slots Q (F0 m (pc + 3) ls (v :: rest))) : W p l e R s m args below meth c H locs cells slots Q (F0 m pc ls (.ref a :: rest)) := by
  obtain ⟨j, hj⟩ := pw_at ha hf
  exact va_get hexec hb hts hin hown hK hP j hj hc k hk hlink (fun _ h => h) hv hdg kk
theorem pw_put (hexec : p.tables.exec = Jvm.exec) (hb : c.code = cc) {own C : String} {T : u_T} {N ci index : Nat} {Ts : List Cond} (hts : ∀ w ∈ Ts, w.before args s = true) (hin : ∀ w ∈ u_ws C T N, w ∈ Ts) (ty0 : Nat → FieldType) (hty : ∀ k, k < N → parseFieldDescriptor (T k).2.2.1 = some (ty0 k)) (hnm : ∀ a, a < N → ∀ b, b < N → a ≠ b → (T a).2.1 ≠ (T b).2.1) (hown : s.vm.findClass own = some m.cls) (hK : va_K D cl tys s) (hP : va_P D cl (va_pl LL f) H) (hD : va_D A (va_pl LL f)) (hS0 : va_S A H0 H locs) {fs : List Value} (ha : a ∈ LL) (hf : f a = .inr (ci, fs)) (hc : cl[ci]? = some (C, T, N)) (k : Nat) (hk : k < N) (hlink : (Cond.fieldLink own index (T k).1 (T k).2.1 (T k).2.2.1).before args s = true) (hfin : (T k).2.2.2 = false) {v : Value} (hn : narrow (ty0 k) v = v) (hfit : fits (ty0 k) v = true) (hl : k < fs.length)
    (hdg : decode cc pc = .ok (.putfield index, 3)) (kk : ∀ (H1 : Heap) (locs1 : List Loc), va_P D cl (va_pl LL (va_up f a (.inr (ci, fs.set k v)))) H1 → va_D A (va_pl LL (va_up f a (.inr (ci, fs.set k v)))) → va_S A H0 H1 locs1 → W p l e R s m args below meth c H1 locs1 cells slots Q (F0 m (pc + 3) ls rest)) : W p l e R s m args below meth c H locs cells slots Q (F0 m pc ls (v :: .ref a :: rest)) := by
  obtain ⟨j, hj⟩ := pw_at ha hf
  refine va_put hexec hb hts hin ty0 hty hnm hown hK hP hD hS0 j hj hc k hk hlink (fun _ h => h) hfin (hty k hk) hn hfit hl hdg (fun H1 locs1 h1 h2 h3 => ?_)
  rw [pw_set hD ha hf hj] at h1 h2
  exact kk H1 locs1 h1 h2 h3
theorem pw_putF (hexec : p.tables.exec = Jvm.exec) (hb : c.code = cc) {own C : String} {T : u_T} {N ci index : Nat} {Ts : List Cond} (hts : ∀ w ∈ Ts, w.before args s = true) (hin : ∀ w ∈ u_ws C T N, w ∈ Ts) (ty0 : Nat → FieldType) (hty : ∀ k, k < N → parseFieldDescriptor (T k).2.2.1 = some (ty0 k)) (hnm : ∀ a, a < N → ∀ b, b < N → a ≠ b → (T a).2.1 ≠ (T b).2.1) (hown : s.vm.findClass own = some m.cls) (hK : va_K D cl tys s) (hP : va_P D cl (va_pl LL f) H) (hD : va_D A (va_pl LL f)) (hS0 : va_S A H0 H locs) {fs : List Value} (ha : a ∈ LL) (hf : f a = .inr (ci, fs)) (hc : cl[ci]? = some (C, T, N)) (k : Nat) (hk : k < N) (hlink : (Cond.fieldLink own index (T k).1 (T k).2.1 (T k).2.2.1).before args s = true) (hfin : (T k).2.2.2 = true) (hin2 : meth.name = "<init>") (hdecl : (T k).1 = own) {v : Value} (hn : narrow (ty0 k) v = v) (hfit : fits (ty0 k) v = true) (hl : k < fs.length)
    (hdg : decode cc pc = .ok (.putfield index, 3)) (kk : ∀ (H1 : Heap) (locs1 : List Loc), va_P D cl (va_pl LL (va_up f a (.inr (ci, fs.set k v)))) H1 → va_D A (va_pl LL (va_up f a (.inr (ci, fs.set k v)))) → va_S A H0 H1 locs1 → W p l e R s m args below meth c H1 locs1 cells slots Q (F0 m (pc + 3) ls rest)) : W p l e R s m args below meth c H locs cells slots Q (F0 m pc ls (v :: .ref a :: rest)) := by
  obtain ⟨j, hj⟩ := pw_at ha hf
  refine va_putF hexec hb hts hin ty0 hty hnm hown hK hP hD hS0 j hj hc k hk hlink (fun _ h => h) hfin hin2 hdecl (hty k hk) hn hfit hl hdg (fun H1 locs1 h1 h2 h3 => ?_)
  rw [pw_set hD ha hf hj] at h1 h2
  exact kk H1 locs1 h1 h2 h3
/-- a reference out of an array of references -/
theorem pw_aldq (hexec : p.tables.exec = Jvm.exec) (hb : c.code = cc) (hK : va_K D cl tys s) (hP : va_P D cl (va_pl LL f) H) (t0 : Nat) {cA : ClassId} {C : String} {n : Nat} {g : Nat → Option Nat} (ha : a ∈ LL) (hf : f a = .inl (cA, n, .inr (.inr (.inr (.inr g))))) (ht : tys[t0]? = some (cA, .object C)) {i : Int32} (hin : vp_in i n) (hdg : decode cc pc = .ok (.aaload, 1))
    (kk : W p l e R s m args below meth c H locs cells slots Q (F0 m (pc + 1) ls (va_rf (g i.toNatClampNeg) :: rest))) : W p l e R s m args below meth c H locs cells slots Q (F0 m pc ls (.int i :: .ref a :: rest)) := by
  obtain ⟨j, hj⟩ := pw_at ha hf
  exact va_aldq hexec hb hK hP j t0 hj ht hin hdg kk
theorem pw_astq (hexec : p.tables.exec = Jvm.exec) (hb : c.code = cc) (hK : va_K D cl tys s) (hP : va_P D cl (va_pl LL f) H) (hD : va_D A (va_pl LL f)) (hS : va_S A H0 H locs) (t0 ci : Nat) {cA : ClassId} {r : vw_C} {n v : Nat} {vs : List Value} {g : Nat → Option Nat} (ha : a ∈ LL) (hf : f a = .inl (cA, n, .inr (.inr (.inr (.inr g))))) (ht : tys[t0]? = some (cA, .object r.1)) (hva : v ∈ LL) (hv : f v = .inr (ci, vs)) (hc : cl[ci]? = some r) {i : Int32} (hin : vp_in i n) (hdg : decode cc pc = .ok (.aastore, 1))
    (kk : ∀ (H1 : Heap) (locs1 : List Loc), va_P D cl (va_pl LL (va_up f a (.inl (cA, n, .inr (.inr (.inr (.inr (va_up g i.toNatClampNeg (some v))))))))) H1 → va_D A (va_pl LL (va_up f a (.inl (cA, n, .inr (.inr (.inr (.inr (va_up g i.toNatClampNeg (some v))))))))) → va_S A H0 H1 locs1 → W p l e R s m args below meth c H1 locs1 cells slots Q (F0 m (pc + 1) ls rest)) : W p l e R s m args below meth c H locs cells slots Q (F0 m pc ls (.ref v :: .int i :: .ref a :: rest)) := by
  obtain ⟨j, hj⟩ := pw_at ha hf
  obtain ⟨k, hk⟩ := pw_at hva hv
  refine va_astq hexec hb hK hP hD hS j t0 k ci hj ht hk hc hin hdg (fun H1 locs1 h1 h2 h3 => ?_)
  rw [pw_set hD ha hf hj] at h1 h2
  exact kk H1 locs1 h1 h2 h3
theorem pw_alen (hexec : p.tables.exec = Jvm.exec) (hb : c.code = cc) (hK : va_K D cl tys s) (hP : va_P D cl (va_pl LL f) H) (t0 : Nat) {cA : ClassId} {x : vp_A} (ha : a ∈ LL) (hf : f a = .inl (cA, x)) {ty : FieldType} (ht : tys[t0]? = some (cA, ty)) {v : Int32} (hv : Int32.ofNat x.1 = v) (hdg : decode cc pc = .ok (.arraylength, 1))
    (kk : W p l e R s m args below meth c H locs cells slots Q (F0 m (pc + 1) ls (.int v :: rest))) : W p l e R s m args below meth c H locs cells slots Q (F0 m pc ls (.ref a :: rest)) := by
  obtain ⟨j, hj⟩ := pw_at ha hf
  exact va_alen hexec hb hK hP j t0 hj ht hv hdg kk
theorem pw_iald (hexec : p.tables.exec = Jvm.exec) (hb : c.code = cc) (hK : va_K D cl tys s) (hP : va_P D cl (va_pl LL f) H) (t0 : Nat) {cA : ClassId} {n : Nat} {g : Nat → Int32} (ha : a ∈ LL) (hf : f a = .inl (cA, n, .inl g)) (ht : tys[t0]? = some (cA, .int)) {i : Int32} (hin : vp_in i n) (hdg : decode cc pc = .ok (.iaload, 1))
    (kk : W p l e R s m args below meth c H locs cells slots Q (F0 m (pc + 1) ls (.int (g i.toNatClampNeg) :: rest))) : W p l e R s m args below meth c H locs cells slots Q (F0 m pc ls (.int i :: .ref a :: rest)) := by
  obtain ⟨j, hj⟩ := pw_at ha hf
  exact va_iald hexec hb hK hP j t0 hj ht hin hdg kk
theorem pw_zald (hexec : p.tables.exec = Jvm.exec) (hb : c.code = cc) (hK : va_K D cl tys s) (hP : va_P D cl (va_pl LL f) H) (t0 : Nat) {cA : ClassId} {n : Nat} {g : Nat → Int32} (ha : a ∈ LL) (hf : f a = .inl (cA, n, .inl g)) (ht : tys[t0]? = some (cA, .boolean)) {i : Int32} (hin : vp_in i n) (hdg : decode cc pc = .ok (.baload, 1))
    (kk : W p l e R s m args below meth c H locs cells slots Q (F0 m (pc + 1) ls (.int (g i.toNatClampNeg) :: rest))) : W p l e R s m args below meth c H locs cells slots Q (F0 m pc ls (.int i :: .ref a :: rest)) := by
  obtain ⟨j, hj⟩ := pw_at ha hf
  exact va_zald hexec hb hK hP j t0 hj ht hin hdg kk
theorem pw_lald (hexec : p.tables.exec = Jvm.exec) (hb : c.code = cc) (hK : va_K D cl tys s) (hP : va_P D cl (va_pl LL f) H) (t0 : Nat) {cA : ClassId} {n : Nat} {g : Nat → Int64} (ha : a ∈ LL) (hf : f a = .inl (cA, n, .inr (.inl g))) (ht : tys[t0]? = some (cA, .long)) {i : Int32} (hin : vp_in i n) (hdg : decode cc pc = .ok (.laload, 1))
    (kk : W p l e R s m args below meth c H locs cells slots Q (F0 m (pc + 1) ls (.long (g i.toNatClampNeg) :: rest))) : W p l e R s m args below meth c H locs cells slots Q (F0 m pc ls (.int i :: .ref a :: rest)) := by
  obtain ⟨j, hj⟩ := pw_at ha hf
  exact va_lald hexec hb hK hP j t0 hj ht hin hdg kk
theorem pw_iast (hexec : p.tables.exec = Jvm.exec) (hb : c.code = cc) (hK : va_K D cl tys s) (hP : va_P D cl (va_pl LL f) H) (hD : va_D A (va_pl LL f)) (hS : va_S A H0 H locs) (t0 : Nat) {cA : ClassId} {n : Nat} {g : Nat → Int32} (ha : a ∈ LL) (hf : f a = .inl (cA, n, .inl g)) (ht : tys[t0]? = some (cA, .int)) {i x : Int32} (hin : vp_in i n) (hdg : decode cc pc = .ok (.iastore, 1))
    (kk : ∀ (H1 : Heap) (locs1 : List Loc), va_P D cl (va_pl LL (va_up f a (.inl (cA, n, .inl (upd g i.toNatClampNeg x))))) H1 → va_D A (va_pl LL (va_up f a (.inl (cA, n, .inl (upd g i.toNatClampNeg x))))) → va_S A H0 H1 locs1 → W p l e R s m args below meth c H1 locs1 cells slots Q (F0 m (pc + 1) ls rest)) : W p l e R s m args below meth c H locs cells slots Q (F0 m pc ls (.int x :: .int i :: .ref a :: rest)) := by
  obtain ⟨j, hj⟩ := pw_at ha hf
  refine va_iast hexec hb hK hP hD hS j t0 hj ht hin hdg (fun H1 locs1 h1 h2 h3 => ?_)
  rw [pw_set hD ha hf hj] at h1 h2
  exact kk H1 locs1 h1 h2 h3
theorem pw_zast (hexec : p.tables.exec = Jvm.exec) (hb : c.code = cc) (hK : va_K D cl tys s) (hP : va_P D cl (va_pl LL f) H) (hD : va_D A (va_pl LL f)) (hS : va_S A H0 H locs) (t0 : Nat) {cA : ClassId} {n : Nat} {g : Nat → Int32} (ha : a ∈ LL) (hf : f a = .inl (cA, n, .inl g)) (ht : tys[t0]? = some (cA, .boolean)) {i x : Int32} (hin : vp_in i n) (hdg : decode cc pc = .ok (.bastore, 1))
    (kk : ∀ (H1 : Heap) (locs1 : List Loc), va_P D cl (va_pl LL (va_up f a (.inl (cA, n, .inl (upd g i.toNatClampNeg (vp_nar .boolean x)))))) H1 → va_D A (va_pl LL (va_up f a (.inl (cA, n, .inl (upd g i.toNatClampNeg (vp_nar .boolean x)))))) → va_S A H0 H1 locs1 → W p l e R s m args below meth c H1 locs1 cells slots Q (F0 m (pc + 1) ls rest)) : W p l e R s m args below meth c H locs cells slots Q (F0 m pc ls (.int x :: .int i :: .ref a :: rest)) := by
  obtain ⟨j, hj⟩ := pw_at ha hf
  refine va_zast hexec hb hK hP hD hS j t0 hj ht hin hdg (fun H1 locs1 h1 h2 h3 => ?_)
  rw [pw_set hD ha hf hj] at h1 h2
  exact kk H1 locs1 h1 h2 h3
theorem pw_last (hexec : p.tables.exec = Jvm.exec) (hb : c.code = cc) (hK : va_K D cl tys s) (hP : va_P D cl (va_pl LL f) H) (hD : va_D A (va_pl LL f)) (hS : va_S A H0 H locs) (t0 : Nat) {cA : ClassId} {n : Nat} {g : Nat → Int64} (ha : a ∈ LL) (hf : f a = .inl (cA, n, .inr (.inl g))) (ht : tys[t0]? = some (cA, .long)) {i : Int32} {x : Int64} (hin : vp_in i n) (hdg : decode cc pc = .ok (.lastore, 1))
    (kk : ∀ (H1 : Heap) (locs1 : List Loc), va_P D cl (va_pl LL (va_up f a (.inl (cA, n, .inr (.inl (vp_updL g i.toNatClampNeg x)))))) H1 → va_D A (va_pl LL (va_up f a (.inl (cA, n, .inr (.inl (vp_updL g i.toNatClampNeg x)))))) → va_S A H0 H1 locs1 → W p l e R s m args below meth c H1 locs1 cells slots Q (F0 m (pc + 1) ls rest)) : W p l e R s m args below meth c H locs cells slots Q (F0 m pc ls (.long x :: .int i :: .ref a :: rest)) := by
  obtain ⟨j, hj⟩ := pw_at ha hf
  refine va_last hexec hb hK hP hD hS j t0 hj ht hin hdg (fun H1 locs1 h1 h2 h3 => ?_)
  rw [pw_set hD ha hf hj] at h1 h2
  exact kk H1 locs1 h1 h2 h3
/-- a new cell at the end of a pool -/
theorem pw_push {x : va_E} {q : Nat} (hD : va_D A (va_pl LL f ++ [(q, x)])) : q ∉ LL := va_pl_fresh2 (X := []) hD
theorem pw_new (hexec : p.tables.exec = Jvm.exec) (hb : c.code = cc) {own C : String} {T : u_T} {N ci index : Nat} {Ts : List Cond} (hts : ∀ w ∈ Ts, w.before args s = true) (hin : ∀ w ∈ u_ws C T N, w ∈ Ts) (ty : Nat → FieldType) (hty : ∀ k, k < N → parseFieldDescriptor (T k).2.2.1 = some (ty k)) (hown : s.vm.findClass own = some m.cls) (hcl : (Cond.classLink own index C).before args s = true) (hinst : (Cond.instantiable C N).before args s = true) (hini : (Cond.initialized C).before args s = true)
    (hK : va_K D cl tys s) (hP : va_P D cl (va_pl LL f) H) (hD : va_D A (va_pl LL f)) (hS : va_S A H0 H locs) (hA : ∀ q, H0.size ≤ q → A q) (hc : cl[ci]? = some (C, T, N)) {fs : List Value} (hfs : ∀ j, j < N → defaultValue (ty j) = vp_V fs j) (hcells : cells + 1 ≤ R.cells) (hslots : slots + N ≤ R.slots) (hdg : decode cc pc = .ok (.new index, 3))
    (kk : ∀ (q : Nat) (H1 : Heap), q ∉ LL → va_P D cl (va_pl (LL ++ [q]) (va_up f q (.inr (ci, fs)))) H1 → va_D A (va_pl (LL ++ [q]) (va_up f q (.inr (ci, fs)))) → va_S A H0 H1 locs →
      W p l e R s m args below meth c H1 locs (cells + 1) (slots + N) Q (F0 m (pc + 3) ls (.ref q :: rest))) : W p l e R s m args below meth c H locs cells slots Q (F0 m pc ls rest) := by
  refine va_new hexec hb hts hin ty hty hown hcl hinst hini hK hP hD hS hA hc hfs hcells hslots hdg (fun q H1 h1 h2 h3 => ?_)
  have hq := pw_push h2
  rw [va_pl_push hq] at h1 h2
  exact kk q H1 hq h1 h2 h3
theorem pw_newq (hexec : p.tables.exec = Jvm.exec) (hb : c.code = cc) {own C : String} {index : Nat} (hown : s.vm.findClass own = some m.cls) (hclink : (Cond.classLink own index C).before args s = true) (hover : va_AO C s) (hK : va_K D cl tys s) (hP : va_P D cl (va_pl LL f) H) (hD : va_D A (va_pl LL f)) (hS : va_S A H0 H locs) (hA : ∀ q, H0.size ≤ q → A q)
    {n : Int32} {N' : Nat} (hn : ¬ n < 0) (hN : n.toNatClampNeg = N') (hbytes : N' * 4 ≤ 536870912) (hcells : cells + 1 ≤ R.cells) (hslots : slots + N' ≤ R.slots) (hdg : decode cc pc = .ok (.anewarray index, 3))
    (kk : ∀ (q : Nat) (cA : ClassId) (H1 : Heap), q ∉ LL → va_K D cl (tys ++ [(cA, .object C)]) s → va_P D cl (va_pl (LL ++ [q]) (va_up f q (.inl (cA, N', .inr (.inr (.inr (.inr (fun _ => none)))))))) H1 → va_D A (va_pl (LL ++ [q]) (va_up f q (.inl (cA, N', .inr (.inr (.inr (.inr (fun _ => none)))))))) → va_S A H0 H1 locs →
      W p l e R s m args below meth c H1 locs (cells + 1) (slots + N') Q (F0 m (pc + 3) ls (.ref q :: rest))) : W p l e R s m args below meth c H locs cells slots Q (F0 m pc ls (.int n :: rest)) := by
  refine va_newq hexec hb hown hclink hover hK hP hD hS hA hn hN hbytes hcells hslots hdg (fun q cA H1 h0 h1 h2 h3 => ?_)
  have hq := pw_push h2
  rw [va_pl_push hq] at h1 h2
  exact kk q cA H1 hq h0 h1 h2 h3
theorem pw_newa (hexec : p.tables.exec = Jvm.exec) (hb : c.code = cc) {atype : ArrayType} (harr : (Cond.arrayClass (newarray.typeOf atype)).before args s = true) {ty : FieldType} (hty : newarray.typeOf atype = ty) (hK : va_K D cl tys s) (hP : va_P D cl (va_pl LL f) H) (hD : va_D A (va_pl LL f)) (hS : va_S A H0 H locs) (hA : ∀ q, H0.size ≤ q → A q)
    {n : Int32} {N' : Nat} {a0 : vp_A} (ha : ∀ cA : ClassId, vp_cell cA a0 = arrV cA N' (fun _ => defaultValue ty)) (hn : ¬ n < 0) (hN : n.toNatClampNeg = N') (hbytes : N' * componentBytes ty ≤ 536870912) (hcells : cells + 1 ≤ R.cells) (hslots : slots + N' ≤ R.slots) (hdg : decode cc pc = .ok (.newarray atype, 2))
    (kk : ∀ (q : Nat) (cA : ClassId) (H1 : Heap), q ∉ LL → va_K D cl (tys ++ [(cA, ty)]) s → va_P D cl (va_pl (LL ++ [q]) (va_up f q (.inl (cA, a0)))) H1 → va_D A (va_pl (LL ++ [q]) (va_up f q (.inl (cA, a0)))) → va_S A H0 H1 locs →
      W p l e R s m args below meth c H1 locs (cells + 1) (slots + N') Q (F0 m (pc + 2) ls (.ref q :: rest))) : W p l e R s m args below meth c H locs cells slots Q (F0 m pc ls (.int n :: rest)) := by
  refine va_newa hexec hb harr hty hK hP hD hS hA ha hn hN hbytes hcells hslots hdg (fun q cA H1 h0 h1 h2 h3 => ?_)
  have hq := pw_push h2
  rw [va_pl_push hq] at h1 h2
  exact kk q cA H1 hq h0 h1 h2 h3
/-- what a method may write: its pool's cells, and those from sz on -/
theorem pw_A {LL : List Nat} {f : Nat → va_E} {sz q : Nat} : va_A (va_pl LL f) sz q ↔ (q ∈ LL ∨ sz ≤ q) := by
  constructor
  · rintro (⟨k, x, h⟩ | h)
    · have := List.mem_of_getElem? h
      obtain ⟨b, hb, e⟩ := List.mem_map.mp this
      cases e
      exact Or.inl hb
    · exact Or.inr h
  · rintro (h | h)
    · obtain ⟨k, hk⟩ := pw_at (f := f) h rfl
      exact Or.inl ⟨k, _, hk⟩
    · exact Or.inr h
theorem pw_Aeq {LL : List Nat} {f g : Nat → va_E} {sz : Nat} : va_A (va_pl LL f) sz = va_A (va_pl LL g) sz := by
  funext q
  exact propext (pw_A.trans pw_A.symm)
theorem pw_recv {s : State} {ci : Nat} {r : vw_C} {fs : List Value} (hK : va_K D cl tys s) (hP : va_P D cl (va_pl LL f) H) (ha : a ∈ LL) (hf : f a = .inr (ci, fs)) (hc : cl[ci]? = some r) : ∃ cell : Cell, H[a]? = some cell ∧ cell.vm.isStatics = false ∧ s.vm.findClass r.1 = some cell.cls := by
  obtain ⟨j, hj⟩ := pw_at ha hf
  exact va_recv hK hP hc hj
end PW
