/-! WorkerRowsModel(most, bound, idle): its rows one by one -/
def y00 : ms_S := ((0, 0, 0), 0, (0, 0, 0), (fun _ _ => 0), (fun _ _ => 0))
def mTs (cl : Nat → ClassId) (n : Nat) : List (ClassId × FieldType) := (List.range n).map (fun i => (cl (i + 7), mTy (i + 7)))
theorem mTs_push (cl : Nat → ClassId) (n : Nat) (c : ClassId) : mTs (va_up cl (n + 7) c) (n + 1) = mTs cl n ++ [(c, mTy (n + 7))] := by
  unfold mTs
  rw [List.range_succ, List.map_append]
  congr 1
  · apply List.map_congr_left
    intro i hi
    have := List.mem_range.mp hi
    rw [va_up_ne _ _ (by omega)]
  · simp [va_up]
def mB (o n : Nat) : ((Nat → Nat) × (Nat → ClassId) × List Value) → List Nat → (Nat → va_E) → Prop := fun u LL f => (o ∈ LL ∧ f o = .inr (4, u.2.2)) ∧ (∀ i, 7 ≤ i → i < n + 7 → u.1 i ∈ LL ∧ f (u.1 i) = mE (u.2.1 i) y00 i) ∧ (∀ a b, 7 ≤ a → a < n + 7 → 7 ≤ b → b < n + 7 → u.1 a = u.1 b → a = b)
section MN
variable {p : Program} {l : Launch} {e : Env} {R : Room} {s : State} {m : MethodId} {args : Array Value} {below : List Frame} {meth : Method} {c : Code} {H : Heap} {locs : List Loc} {cells slots : Nat} {Q : State → Prop} {cc : ByteArray} {pc nL : Nat} {ls : Array Slot} {rest : List Value} {D : va_G} {A : Nat → Prop} {H0 : Heap} {o n : Nat} {ka : Nat → Nat} {cl : Nat → ClassId} {fs : List Value}
theorem mPut (hC : gX RX4 (mTs cl n) D p s m args c cc nL) (hH : gH D (mB o n) (ka, cl, fs) A H0 H locs) (hfs : fs.length = 29) {k idx : Nat} (hk : k < 29) (hlink : Cond.fieldLink RX4 idx (TX4 k).1 (TX4 k).2.1 (TX4 k).2.2.1 ∈ wA) (hfin : (TX4 k).2.2.2 = true) (hnm : meth.name = "<init>") (hdecl : (TX4 k).1 = RX4) {v : Value} (hn : narrow (tyX4 k) v = v) (hfit : fits (tyX4 k) v = true) (hdg : decode cc pc = .ok (.putfield idx, 3)) (kk : ∀ (H1 : Heap) (locs1 : List Loc), gH D (mB o n) (ka, cl, fs.set k v) A H0 H1 locs1 → W p l e R s m args below meth c H1 locs1 cells slots Q (F0 m (pc + 3) ls rest)) : W p l e R s m args below meth c H locs cells slots Q (F0 m pc ls (v :: .ref o :: rest)) := by
  obtain ⟨LL, f, hI, hP, hD, hS⟩ := hH
  refine pw_putF hC.1 hC.2.1 hC.2.2.1 inX4 tyX4 tyX4_ok nmX4 hC.2.2.2.1 hC.2.2.2.2.1 hP hD hS hI.1.1 hI.1.2 rfl k hk (hC.2.2.1 _ hlink) hfin hnm hdecl hn hfit (by show k < fs.length; omega) hdg (fun H1 locs1 h1 h2 h3 => kk H1 locs1 ⟨LL, _, ⟨⟨hI.1.1, va_up_self _ _ _⟩, fun i hi hi2 => ⟨(hI.2.1 i hi hi2).1, ?_⟩, hI.2.2⟩, h1, h2, h3⟩)
  have e := (hI.2.1 i hi hi2).2
  rw [va_up_ne _ _ (fun q => by rw [q, hI.1.2] at e; exact mE_ne e.symm)]
  exact e
theorem mNA (hC : gX RX4 (mTs cl n) D p s m args c cc nL) (hA : ∀ q, H0.size ≤ q → A q) (hH : gH D (mB o n) (ka, cl, fs) A H0 H locs) (hfs : fs.length = 29) (hn : n < 22) {at' : ArrayType} (harr : Cond.arrayClass (newarray.typeOf at') ∈ wA) (hty : newarray.typeOf at' = mTy (n + 7)) {a0 : vp_A} (ha0 : ∀ c, mE c y00 (n + 7) = .inl (c, a0)) (ha1 : ∀ cA : ClassId, vp_cell cA a0 = arrV cA (mLen (n + 7)) (fun _ => defaultValue (mTy (n + 7)))) {v : Int32} (hv : ¬ v < 0) (hN : v.toNatClampNeg = mLen (n + 7)) (hby : mLen (n + 7) * componentBytes (mTy (n + 7)) ≤ 536870912) (hcells : cells + 1 ≤ R.cells) (hslots : slots + mLen (n + 7) ≤ R.slots) (hd1 : decode cc pc = .ok (.newarray at', 2)) {idx : Nat} (hlink : Cond.fieldLink RX4 idx (TX4 (n + 7)).1 (TX4 (n + 7)).2.1 (TX4 (n + 7)).2.2.1 ∈ wA) (hfin : (TX4 (n + 7)).2.2.2 = true) (hnm : meth.name = "<init>") (hdecl : (TX4 (n + 7)).1 = RX4) (hnar : ∀ q, narrow (tyX4 (n + 7)) (.ref q) = .ref q) (hfit : ∀ q, fits (tyX4 (n + 7)) (.ref q) = true) (hd2 : decode cc (pc + 2) = .ok (.putfield idx, 3))
    (kk : ∀ (q : Nat) (cA : ClassId) (H1 : Heap) (locs1 : List Loc), gX RX4 (mTs (va_up cl (n + 7) cA) (n + 1)) D p s m args c cc nL → gH D (mB o (n + 1)) (va_up ka (n + 7) q, va_up cl (n + 7) cA, fs.set (n + 7) (.ref q)) A H0 H1 locs1 → W p l e R s m args below meth c H1 locs1 (cells + 1) (slots + mLen (n + 7)) Q (F0 m (pc + 2 + 3) ls rest)) : W p l e R s m args below meth c H locs cells slots Q (F0 m pc ls (.int v :: .ref o :: rest)) := by
  obtain ⟨LL, f, hI, hP, hD, hS⟩ := hH
  refine pw_newa hC.1 hC.2.1 (hC.2.2.1 _ harr) hty hC.2.2.2.2.1 hP hD hS hA ha1 hv hN hby hcells hslots hd1 (fun q cA H1 hq hK h1 h2 h3 => ?_)
  have hoq : o ≠ q := fun z => hq (z ▸ hI.1.1)
  have hK2 : va_K D vwCl (mTs (va_up cl (n + 7) cA) (n + 1)) s := by rw [mTs_push]; exact hK
  have hC2 : gX RX4 (mTs (va_up cl (n + 7) cA) (n + 1)) D p s m args c cc nL := ⟨hC.1, hC.2.1, hC.2.2.1, hC.2.2.2.1, hK2, hC.2.2.2.2.2⟩
  refine pw_putF hC.1 hC.2.1 hC.2.2.1 inX4 tyX4 tyX4_ok nmX4 hC.2.2.2.1 hK2 h1 h2 h3 (List.mem_append_left _ hI.1.1) ((va_up_ne _ _ hoq).trans hI.1.2) rfl (n + 7) (by omega) (hC.2.2.1 _ hlink) hfin hnm hdecl (hnar q) (hfit q) (by show n + 7 < fs.length; omega) hd2 (fun H2 locs2 g1 g2 g3 => kk q cA H2 locs2 hC2 ⟨LL ++ [q], _, ⟨⟨List.mem_append_left _ hI.1.1, va_up_self _ _ _⟩, fun i hi hi2 => ?_, fun a b ha ha2 hb hb2 hab => ?_⟩, g1, g2, g3⟩)
  · show va_up ka (n + 7) q i ∈ LL ++ [q] ∧ va_up _ o _ (va_up ka (n + 7) q i) = mE (va_up cl (n + 7) cA i) y00 i
    by_cases e : i = n + 7
    · subst e
      rw [va_up_self, va_up_self, va_up_ne _ _ hoq.symm, va_up_self, ha0]
      exact ⟨List.mem_append_right _ (List.mem_singleton.mpr rfl), rfl⟩
    · have h9 := hI.2.1 i hi (by omega)
      have e9 : f (ka i) = mE (cl i) y00 i := h9.2
      have z1 : ka i ≠ o := fun z => by rw [z, hI.1.2] at e9; exact mE_ne e9.symm
      have z2 : ka i ≠ q := fun z => hq (z ▸ h9.1)
      rw [va_up_ne _ _ e, va_up_ne _ _ e, va_up_ne _ _ z1, va_up_ne _ _ z2]
      exact ⟨List.mem_append_left _ h9.1, e9⟩
  · have hab : va_up ka (n + 7) q a = va_up ka (n + 7) q b := hab
    by_cases e1 : a = n + 7
    · by_cases e2 : b = n + 7
      · omega
      · rw [e1, va_up_self, va_up_ne _ _ e2] at hab
        exact absurd (show ka b ∈ LL from (hI.2.1 b hb (by omega)).1) (by rw [← hab]; exact hq)
    · by_cases e2 : b = n + 7
      · rw [e2, va_up_self, va_up_ne _ _ e1] at hab
        exact absurd (show ka a ∈ LL from (hI.2.1 a ha (by omega)).1) (by rw [hab]; exact hq)
      · rw [va_up_ne _ _ e1, va_up_ne _ _ e2] at hab
        exact hI.2.2 a b ha (by omega) hb (by omega) hab
end MN
theorem zBtw_near {v lo hi : Int32} (h : lo ≤ hi) : zBtw v lo hi = zNear v lo hi := by
  unfold zBtw zNear
  have h1 := Int32.le_iff_toInt_le.mp h
  by_cases a : lo ≤ v
  · have a1 := Int32.le_iff_toInt_le.mp a
    rw [if_pos a]
    by_cases b : v ≤ hi
    · have b1 := Int32.le_iff_toInt_le.mp b
      rw [if_pos b]
      by_cases c1 : v < hi
      · rw [if_pos c1]
        by_cases d : lo < v
        · rw [if_pos d]
        · rw [if_neg d]
          exact Int32.toInt_inj.mp (by have := Int32.le_iff_toInt_le.mp (Int32.not_lt.mp d); omega)
      · rw [if_neg c1]
        have e : v = hi := Int32.toInt_inj.mp (by have := Int32.le_iff_toInt_le.mp (Int32.not_lt.mp c1); omega)
        subst e
        by_cases d : lo < v
        · rw [if_pos d]
        · rw [if_neg d]
          exact Int32.toInt_inj.mp (by have := Int32.le_iff_toInt_le.mp (Int32.not_lt.mp d); omega)
    · have b1 := Int32.lt_iff_toInt_lt.mp (Int32.not_le.mp b)
      have hv : ¬ v < hi := fun q => by
        have := Int32.lt_iff_toInt_lt.mp q
        omega
      rw [if_neg b, if_neg hv]
      by_cases d : lo < hi
      · rw [if_pos d]
      · rw [if_neg d]
        exact Int32.toInt_inj.mp (by have := Int32.le_iff_toInt_le.mp (Int32.not_lt.mp d); omega)
  · have a1 := Int32.lt_iff_toInt_lt.mp (Int32.not_le.mp a)
    have hv : v < hi := Int32.lt_iff_toInt_lt.mpr (by omega)
    have hv2 : ¬ lo < v := fun q => by
      have := Int32.lt_iff_toInt_lt.mp q
      omega
    rw [if_neg a, if_pos hv, if_neg hv2]
theorem Rel0 (mo bo id : Int32) : Rel (cs0 mo bo id) ((mo, bo, id), 0, (0, 0, 0), (fun _ _ => 0), (fun _ _ => 0)) := ⟨⟨rfl, rfl, rfl⟩, ⟨⟨Nat.zero_le _, Nat.zero_le _, Nat.zero_le _⟩, fun i h => absurd h (Nat.not_lt_zero i), fun i h => absurd h (Nat.not_lt_zero i)⟩, ⟨(by decide : (0 : Int) ≤ (0 : Int32).toInt), (by decide : (0 : Int32).toInt ≤ 1000000000)⟩, fun i h => absurd h (Nat.not_lt_zero i), fun i h => absurd h (Nat.not_lt_zero i), fun i h => absurd h (Nat.not_lt_zero i), fun i j h => absurd h (Nat.not_lt_zero i), fun i _ _ => ⟨rfl, rfl, rfl, rfl, rfl, rfl⟩, fun i _ _ => ⟨rfl, rfl, rfl, rfl⟩⟩
def mP0 (D : va_G) (a : Nat) (g : Nat → va_E) (sz : Nat) (av : List Value) : Array Value → State → Prop := va_Pc av (fun U => U.heap.size = sz ∧ va_P D vwCl (va_pl [a] g) U.heap ∧ va_K D vwCl [] U ∧ va_D (fun _ => True) (va_pl [a] g))
def mB0 (D : va_G) (A : Nat → Prop) (u : mk_F × cs_S) (t : State) : Prop := gB D (mk_tys u.1) (mR u.1) A u.2 t
section MI0
variable {l : Launch} {D : va_G} {a : Nat} {g : Nat → va_E} {sz : Nat}
set_option maxHeartbeats 400000 in
set_option maxRecDepth 100000 in
theorem m_init (hg : g a = .inr (4, [.int 0, .int 0, .int 0, .int 0, .int 0, .int 0, .int 0, .null, .null, .null, .null, .null, .null, .null, .null, .null, .null, .null, .null, .null, .null, .null, .null, .null, .null, .null, .null, .null, .null])) (mo bo id : Int32) : Met l yM_init (wz yM_init bM_init 4 none) (rmL 1 22 1558) (mP0 D a g sz [.ref a, .int mo, .int bo, .int id]) (va_Qv (fun (u : mk_F × cs_S) => mO u.1 = a ∧ u.2 = cs0 (zNear mo 1 4) (zNear bo 0 100000) (zNear id 1 1000)) (mB0 D (va_A (va_pl [a] g) sz)) (va_A (va_pl [a] g) sz)) 22 1558 (va_A (va_pl [a] g) sz) := by
  refine Met.ofW (cc := bM_init) (maxL := 4) (ret := none) (by decide) rfl ?_
  intro p e s m args below meth c s₁ B hml hv
  obtain ⟨rfl, hsz, hP, hK, hD0⟩ := hv
  subst hsz
  rw [lg_entry_eq]
  have hts := atoms_spec (ws := wz yM_init bM_init 4 none) B.pre
  have hown : s.vm.findClass RX4 = some m.cls := findClass_of_methodNamed B.named
  have hC : gX RX4 (mTs (fun _ => 0) 0) D p s m ([.ref a, .int mo, .int bo, .int id] : List Value).toArray c bM_init 4 := ⟨B.exec, B.bytes, fun w h => hts w (List.mem_cons_of_mem _ h), hown, hK, hml⟩
  have hr := B.returns
  have hlk := B.notSynchronized
  have hnm : meth.name = "<init>" := (name_of_methodNamed B.named B.method).1
  have hH : gH D (mB a 0) ((fun _ => 0), (fun _ => 0), [.int 0, .int 0, .int 0, .int 0, .int 0, .int 0, .int 0, .null, .null, .null, .null, .null, .null, .null, .null, .null, .null, .null, .null, .null, .null, .null, .null, .null, .null, .null, .null, .null, .null]) (va_A (va_pl [a] g) s.heap.size) s.heap s.heap [] := ⟨_, _, ⟨⟨List.mem_singleton.mpr rfl, hg⟩, fun i h1 h2 => absurd h2 (by omega), fun i j h1 h2 => absurd h2 (by omega)⟩, hP, hD0.self, va_S.rf⟩
  have hl := lv_entry ([.ref a, .int mo, .int bo, .int id]) (n := 4) (Nat.le_of_ble_eq_true rfl)
  generalize (lg_sl ([.ref a, .int mo, .int bo, .int id]) ++ List.replicate (4 - (lg_sl ([.ref a, .int mo, .int bo, .int id])).length) Slot.unset).toArray = ls at hl ⊢
  generalize hAe : va_A (va_pl [a] g) s.heap.size = A at hH ⊢
  have hA : ∀ q : Nat, s.heap.size ≤ q → A q := fun q h => by rw [← hAe]; exact Or.inr h
  have hx := hC.1
  have hb := hC.2.1
  have hml := hC.2.2.2.2.2
  have hts := hC.2.2.1
  have hown := hC.2.2.2.1
  have hl : lv_has ls 4 [(0, _), (1, _), (2, _), (3, _)] := hl
  first | refine lv_aload_n hx hb dM_init_0 rfl (lv_at hl 0 rfl) ?_ | refine lv_aload_nN hx hb dM_init_0 rfl (lv_at hl 0 rfl) ?_
  refine W.objInit hx hb hown (hts _ wm_M_1) (hts _ wi_O_init) (hts _ wc_O_init) rfl (by rw [hml]; exact hl.1) rfl dM_init_1 (Nat.le_of_ble_eq_true rfl) (Nat.le_of_ble_eq_true rfl) ?_
  refine W.eq (g2 := F0 m 4 ls []) rfl ?_
  first | refine lv_aload_n hx hb dM_init_4 rfl (lv_at hl 0 rfl) ?_ | refine lv_aload_nN hx hb dM_init_4 rfl (lv_at hl 0 rfl) ?_
  refine lv_bipush (v := 6) hx hb dM_init_5 (by decide) ?_
  refine mNA (n := 0) (a0 := (6, .inr (.inl (fun _ => 0)))) (at' := .long) hC hA hH (by (try simp only [List.length_set]); rfl) (by decide) wr_long rfl (fun _ => rfl) (fun _ => rfl) (by decide) (by decide) (by decide) (Nat.le_of_ble_eq_true rfl) (Nat.le_of_ble_eq_true rfl) dM_init_7 wf_M_7 rfl hnm rfl (fun _ => rfl) (fun _ => rfl) dM_init_9 (fun q0 c0 H locs hC hH => ?_)
  have hH : gH D (mB a 1) (_, _, [.int 0, .int 0, .int 0, .int 0, .int 0, .int 0, .int 0, .ref q0, .null, .null, .null, .null, .null, .null, .null, .null, .null, .null, .null, .null, .null, .null, .null, .null, .null, .null, .null, .null, .null]) A s.heap H locs := hH
  first | refine lv_aload_n hx hb dM_init_12 rfl (lv_at hl 0 rfl) ?_ | refine lv_aload_nN hx hb dM_init_12 rfl (lv_at hl 0 rfl) ?_
  refine lv_bipush (v := 6) hx hb dM_init_13 (by decide) ?_
  refine mNA (n := 1) (a0 := (6, .inl (fun _ => 0))) (at' := .int) hC hA hH (by (try simp only [List.length_set]); rfl) (by decide) wr_int rfl (fun _ => rfl) (fun _ => rfl) (by decide) (by decide) (by decide) (Nat.le_of_ble_eq_true rfl) (Nat.le_of_ble_eq_true rfl) dM_init_15 wf_M_13 rfl hnm rfl (fun _ => rfl) (fun _ => rfl) dM_init_17 (fun q1 c1 H locs hC hH => ?_)
  have hH : gH D (mB a 2) (_, _, [.int 0, .int 0, .int 0, .int 0, .int 0, .int 0, .int 0, .ref q0, .ref q1, .null, .null, .null, .null, .null, .null, .null, .null, .null, .null, .null, .null, .null, .null, .null, .null, .null, .null, .null, .null]) A s.heap H locs := hH
  first | refine lv_aload_n hx hb dM_init_20 rfl (lv_at hl 0 rfl) ?_ | refine lv_aload_nN hx hb dM_init_20 rfl (lv_at hl 0 rfl) ?_
  refine lv_bipush (v := 6) hx hb dM_init_21 (by decide) ?_
  refine mNA (n := 2) (a0 := (6, .inl (fun _ => 0))) (at' := .int) hC hA hH (by (try simp only [List.length_set]); rfl) (by decide) wr_int rfl (fun _ => rfl) (fun _ => rfl) (by decide) (by decide) (by decide) (Nat.le_of_ble_eq_true rfl) (Nat.le_of_ble_eq_true rfl) dM_init_23 wf_M_17 rfl hnm rfl (fun _ => rfl) (fun _ => rfl) dM_init_25 (fun q2 c2 H locs hC hH => ?_)
  have hH : gH D (mB a 3) (_, _, [.int 0, .int 0, .int 0, .int 0, .int 0, .int 0, .int 0, .ref q0, .ref q1, .ref q2, .null, .null, .null, .null, .null, .null, .null, .null, .null, .null, .null, .null, .null, .null, .null, .null, .null, .null, .null]) A s.heap H locs := hH
  first | refine lv_aload_n hx hb dM_init_28 rfl (lv_at hl 0 rfl) ?_ | refine lv_aload_nN hx hb dM_init_28 rfl (lv_at hl 0 rfl) ?_
  refine lv_bipush (v := 60) hx hb dM_init_29 (by decide) ?_
  refine mNA (n := 3) (a0 := (60, .inl (fun _ => 0))) (at' := .int) hC hA hH (by (try simp only [List.length_set]); rfl) (by decide) wr_int rfl (fun _ => rfl) (fun _ => rfl) (by decide) (by decide) (by decide) (Nat.le_of_ble_eq_true rfl) (Nat.le_of_ble_eq_true rfl) dM_init_31 wf_M_20 rfl hnm rfl (fun _ => rfl) (fun _ => rfl) dM_init_33 (fun q3 c3 H locs hC hH => ?_)
  have hH : gH D (mB a 4) (_, _, [.int 0, .int 0, .int 0, .int 0, .int 0, .int 0, .int 0, .ref q0, .ref q1, .ref q2, .ref q3, .null, .null, .null, .null, .null, .null, .null, .null, .null, .null, .null, .null, .null, .null, .null, .null, .null, .null]) A s.heap H locs := hH
  first | refine lv_aload_n hx hb dM_init_36 rfl (lv_at hl 0 rfl) ?_ | refine lv_aload_nN hx hb dM_init_36 rfl (lv_at hl 0 rfl) ?_
  refine lv_bipush (v := 60) hx hb dM_init_37 (by decide) ?_
  refine mNA (n := 4) (a0 := (60, .inl (fun _ => 0))) (at' := .int) hC hA hH (by (try simp only [List.length_set]); rfl) (by decide) wr_int rfl (fun _ => rfl) (fun _ => rfl) (by decide) (by decide) (by decide) (Nat.le_of_ble_eq_true rfl) (Nat.le_of_ble_eq_true rfl) dM_init_39 wf_M_23 rfl hnm rfl (fun _ => rfl) (fun _ => rfl) dM_init_41 (fun q4 c4 H locs hC hH => ?_)
  have hH : gH D (mB a 5) (_, _, [.int 0, .int 0, .int 0, .int 0, .int 0, .int 0, .int 0, .ref q0, .ref q1, .ref q2, .ref q3, .ref q4, .null, .null, .null, .null, .null, .null, .null, .null, .null, .null, .null, .null, .null, .null, .null, .null, .null]) A s.heap H locs := hH
  first | refine lv_aload_n hx hb dM_init_44 rfl (lv_at hl 0 rfl) ?_ | refine lv_aload_nN hx hb dM_init_44 rfl (lv_at hl 0 rfl) ?_
  refine lv_bipush (v := 60) hx hb dM_init_45 (by decide) ?_
  refine mNA (n := 5) (a0 := (60, .inl (fun _ => 0))) (at' := .int) hC hA hH (by (try simp only [List.length_set]); rfl) (by decide) wr_int rfl (fun _ => rfl) (fun _ => rfl) (by decide) (by decide) (by decide) (Nat.le_of_ble_eq_true rfl) (Nat.le_of_ble_eq_true rfl) dM_init_47 wf_M_26 rfl hnm rfl (fun _ => rfl) (fun _ => rfl) dM_init_49 (fun q5 c5 H locs hC hH => ?_)
  have hH : gH D (mB a 6) (_, _, [.int 0, .int 0, .int 0, .int 0, .int 0, .int 0, .int 0, .ref q0, .ref q1, .ref q2, .ref q3, .ref q4, .ref q5, .null, .null, .null, .null, .null, .null, .null, .null, .null, .null, .null, .null, .null, .null, .null, .null]) A s.heap H locs := hH
  first | refine lv_aload_n hx hb dM_init_52 rfl (lv_at hl 0 rfl) ?_ | refine lv_aload_nN hx hb dM_init_52 rfl (lv_at hl 0 rfl) ?_
  refine lv_bipush (v := 60) hx hb dM_init_53 (by decide) ?_
  refine mNA (n := 6) (a0 := (60, .inl (fun _ => 0))) (at' := .int) hC hA hH (by (try simp only [List.length_set]); rfl) (by decide) wr_int rfl (fun _ => rfl) (fun _ => rfl) (by decide) (by decide) (by decide) (Nat.le_of_ble_eq_true rfl) (Nat.le_of_ble_eq_true rfl) dM_init_55 wf_M_29 rfl hnm rfl (fun _ => rfl) (fun _ => rfl) dM_init_57 (fun q6 c6 H locs hC hH => ?_)
  have hH : gH D (mB a 7) (_, _, [.int 0, .int 0, .int 0, .int 0, .int 0, .int 0, .int 0, .ref q0, .ref q1, .ref q2, .ref q3, .ref q4, .ref q5, .ref q6, .null, .null, .null, .null, .null, .null, .null, .null, .null, .null, .null, .null, .null, .null, .null]) A s.heap H locs := hH
  first | refine lv_aload_n hx hb dM_init_60 rfl (lv_at hl 0 rfl) ?_ | refine lv_aload_nN hx hb dM_init_60 rfl (lv_at hl 0 rfl) ?_
  refine lv_bipush (v := 60) hx hb dM_init_61 (by decide) ?_
  refine mNA (n := 7) (a0 := (60, .inl (fun _ => 0))) (at' := .int) hC hA hH (by (try simp only [List.length_set]); rfl) (by decide) wr_int rfl (fun _ => rfl) (fun _ => rfl) (by decide) (by decide) (by decide) (Nat.le_of_ble_eq_true rfl) (Nat.le_of_ble_eq_true rfl) dM_init_63 wf_M_32 rfl hnm rfl (fun _ => rfl) (fun _ => rfl) dM_init_65 (fun q7 c7 H locs hC hH => ?_)
  have hH : gH D (mB a 8) (_, _, [.int 0, .int 0, .int 0, .int 0, .int 0, .int 0, .int 0, .ref q0, .ref q1, .ref q2, .ref q3, .ref q4, .ref q5, .ref q6, .ref q7, .null, .null, .null, .null, .null, .null, .null, .null, .null, .null, .null, .null, .null, .null]) A s.heap H locs := hH
  first | refine lv_aload_n hx hb dM_init_68 rfl (lv_at hl 0 rfl) ?_ | refine lv_aload_nN hx hb dM_init_68 rfl (lv_at hl 0 rfl) ?_
  refine lv_bipush (v := 60) hx hb dM_init_69 (by decide) ?_
  refine mNA (n := 8) (a0 := (60, .inl (fun _ => 0))) (at' := .int) hC hA hH (by (try simp only [List.length_set]); rfl) (by decide) wr_int rfl (fun _ => rfl) (fun _ => rfl) (by decide) (by decide) (by decide) (Nat.le_of_ble_eq_true rfl) (Nat.le_of_ble_eq_true rfl) dM_init_71 wf_M_35 rfl hnm rfl (fun _ => rfl) (fun _ => rfl) dM_init_73 (fun q8 c8 H locs hC hH => ?_)
  have hH : gH D (mB a 9) (_, _, [.int 0, .int 0, .int 0, .int 0, .int 0, .int 0, .int 0, .ref q0, .ref q1, .ref q2, .ref q3, .ref q4, .ref q5, .ref q6, .ref q7, .ref q8, .null, .null, .null, .null, .null, .null, .null, .null, .null, .null, .null, .null, .null]) A s.heap H locs := hH
  first | refine lv_aload_n hx hb dM_init_76 rfl (lv_at hl 0 rfl) ?_ | refine lv_aload_nN hx hb dM_init_76 rfl (lv_at hl 0 rfl) ?_
  refine lv_bipush (v := 60) hx hb dM_init_77 (by decide) ?_
  refine mNA (n := 9) (a0 := (60, .inl (fun _ => 0))) (at' := .int) hC hA hH (by (try simp only [List.length_set]); rfl) (by decide) wr_int rfl (fun _ => rfl) (fun _ => rfl) (by decide) (by decide) (by decide) (Nat.le_of_ble_eq_true rfl) (Nat.le_of_ble_eq_true rfl) dM_init_79 wf_M_38 rfl hnm rfl (fun _ => rfl) (fun _ => rfl) dM_init_81 (fun q9 c9 H locs hC hH => ?_)
  have hH : gH D (mB a 10) (_, _, [.int 0, .int 0, .int 0, .int 0, .int 0, .int 0, .int 0, .ref q0, .ref q1, .ref q2, .ref q3, .ref q4, .ref q5, .ref q6, .ref q7, .ref q8, .ref q9, .null, .null, .null, .null, .null, .null, .null, .null, .null, .null, .null, .null]) A s.heap H locs := hH
  first | refine lv_aload_n hx hb dM_init_84 rfl (lv_at hl 0 rfl) ?_ | refine lv_aload_nN hx hb dM_init_84 rfl (lv_at hl 0 rfl) ?_
  refine lv_bipush (v := 60) hx hb dM_init_85 (by decide) ?_
  refine mNA (n := 10) (a0 := (60, .inl (fun _ => 0))) (at' := .int) hC hA hH (by (try simp only [List.length_set]); rfl) (by decide) wr_int rfl (fun _ => rfl) (fun _ => rfl) (by decide) (by decide) (by decide) (Nat.le_of_ble_eq_true rfl) (Nat.le_of_ble_eq_true rfl) dM_init_87 wf_M_41 rfl hnm rfl (fun _ => rfl) (fun _ => rfl) dM_init_89 (fun q10 c10 H locs hC hH => ?_)
  have hH : gH D (mB a 11) (_, _, [.int 0, .int 0, .int 0, .int 0, .int 0, .int 0, .int 0, .ref q0, .ref q1, .ref q2, .ref q3, .ref q4, .ref q5, .ref q6, .ref q7, .ref q8, .ref q9, .ref q10, .null, .null, .null, .null, .null, .null, .null, .null, .null, .null, .null]) A s.heap H locs := hH
  first | refine lv_aload_n hx hb dM_init_92 rfl (lv_at hl 0 rfl) ?_ | refine lv_aload_nN hx hb dM_init_92 rfl (lv_at hl 0 rfl) ?_
  refine lv_bipush (v := 60) hx hb dM_init_93 (by decide) ?_
  refine mNA (n := 11) (a0 := (60, .inr (.inl (fun _ => 0)))) (at' := .long) hC hA hH (by (try simp only [List.length_set]); rfl) (by decide) wr_long rfl (fun _ => rfl) (fun _ => rfl) (by decide) (by decide) (by decide) (Nat.le_of_ble_eq_true rfl) (Nat.le_of_ble_eq_true rfl) dM_init_95 wf_M_44 rfl hnm rfl (fun _ => rfl) (fun _ => rfl) dM_init_97 (fun q11 c11 H locs hC hH => ?_)
  have hH : gH D (mB a 12) (_, _, [.int 0, .int 0, .int 0, .int 0, .int 0, .int 0, .int 0, .ref q0, .ref q1, .ref q2, .ref q3, .ref q4, .ref q5, .ref q6, .ref q7, .ref q8, .ref q9, .ref q10, .ref q11, .null, .null, .null, .null, .null, .null, .null, .null, .null, .null]) A s.heap H locs := hH
  first | refine lv_aload_n hx hb dM_init_100 rfl (lv_at hl 0 rfl) ?_ | refine lv_aload_nN hx hb dM_init_100 rfl (lv_at hl 0 rfl) ?_
  refine lv_bipush (v := 100) hx hb dM_init_101 (by decide) ?_
  refine mNA (n := 12) (a0 := (100, .inl (fun _ => 0))) (at' := .int) hC hA hH (by (try simp only [List.length_set]); rfl) (by decide) wr_int rfl (fun _ => rfl) (fun _ => rfl) (by decide) (by decide) (by decide) (Nat.le_of_ble_eq_true rfl) (Nat.le_of_ble_eq_true rfl) dM_init_103 wf_M_47 rfl hnm rfl (fun _ => rfl) (fun _ => rfl) dM_init_105 (fun q12 c12 H locs hC hH => ?_)
  have hH : gH D (mB a 13) (_, _, [.int 0, .int 0, .int 0, .int 0, .int 0, .int 0, .int 0, .ref q0, .ref q1, .ref q2, .ref q3, .ref q4, .ref q5, .ref q6, .ref q7, .ref q8, .ref q9, .ref q10, .ref q11, .ref q12, .null, .null, .null, .null, .null, .null, .null, .null, .null]) A s.heap H locs := hH
  first | refine lv_aload_n hx hb dM_init_108 rfl (lv_at hl 0 rfl) ?_ | refine lv_aload_nN hx hb dM_init_108 rfl (lv_at hl 0 rfl) ?_
  refine lv_bipush (v := 100) hx hb dM_init_109 (by decide) ?_
  refine mNA (n := 13) (a0 := (100, .inl (fun _ => 0))) (at' := .int) hC hA hH (by (try simp only [List.length_set]); rfl) (by decide) wr_int rfl (fun _ => rfl) (fun _ => rfl) (by decide) (by decide) (by decide) (Nat.le_of_ble_eq_true rfl) (Nat.le_of_ble_eq_true rfl) dM_init_111 wf_M_50 rfl hnm rfl (fun _ => rfl) (fun _ => rfl) dM_init_113 (fun q13 c13 H locs hC hH => ?_)
  have hH : gH D (mB a 14) (_, _, [.int 0, .int 0, .int 0, .int 0, .int 0, .int 0, .int 0, .ref q0, .ref q1, .ref q2, .ref q3, .ref q4, .ref q5, .ref q6, .ref q7, .ref q8, .ref q9, .ref q10, .ref q11, .ref q12, .ref q13, .null, .null, .null, .null, .null, .null, .null, .null]) A s.heap H locs := hH
  first | refine lv_aload_n hx hb dM_init_116 rfl (lv_at hl 0 rfl) ?_ | refine lv_aload_nN hx hb dM_init_116 rfl (lv_at hl 0 rfl) ?_
  refine lv_bipush (v := 100) hx hb dM_init_117 (by decide) ?_
  refine mNA (n := 14) (a0 := (100, .inl (fun _ => 0))) (at' := .int) hC hA hH (by (try simp only [List.length_set]); rfl) (by decide) wr_int rfl (fun _ => rfl) (fun _ => rfl) (by decide) (by decide) (by decide) (Nat.le_of_ble_eq_true rfl) (Nat.le_of_ble_eq_true rfl) dM_init_119 wf_M_53 rfl hnm rfl (fun _ => rfl) (fun _ => rfl) dM_init_121 (fun q14 c14 H locs hC hH => ?_)
  have hH : gH D (mB a 15) (_, _, [.int 0, .int 0, .int 0, .int 0, .int 0, .int 0, .int 0, .ref q0, .ref q1, .ref q2, .ref q3, .ref q4, .ref q5, .ref q6, .ref q7, .ref q8, .ref q9, .ref q10, .ref q11, .ref q12, .ref q13, .ref q14, .null, .null, .null, .null, .null, .null, .null]) A s.heap H locs := hH
  first | refine lv_aload_n hx hb dM_init_124 rfl (lv_at hl 0 rfl) ?_ | refine lv_aload_nN hx hb dM_init_124 rfl (lv_at hl 0 rfl) ?_
  refine lv_bipush (v := 100) hx hb dM_init_125 (by decide) ?_
  refine mNA (n := 15) (a0 := (100, .inl (fun _ => 0))) (at' := .int) hC hA hH (by (try simp only [List.length_set]); rfl) (by decide) wr_int rfl (fun _ => rfl) (fun _ => rfl) (by decide) (by decide) (by decide) (Nat.le_of_ble_eq_true rfl) (Nat.le_of_ble_eq_true rfl) dM_init_127 wf_M_56 rfl hnm rfl (fun _ => rfl) (fun _ => rfl) dM_init_129 (fun q15 c15 H locs hC hH => ?_)
  have hH : gH D (mB a 16) (_, _, [.int 0, .int 0, .int 0, .int 0, .int 0, .int 0, .int 0, .ref q0, .ref q1, .ref q2, .ref q3, .ref q4, .ref q5, .ref q6, .ref q7, .ref q8, .ref q9, .ref q10, .ref q11, .ref q12, .ref q13, .ref q14, .ref q15, .null, .null, .null, .null, .null, .null]) A s.heap H locs := hH
  first | refine lv_aload_n hx hb dM_init_132 rfl (lv_at hl 0 rfl) ?_ | refine lv_aload_nN hx hb dM_init_132 rfl (lv_at hl 0 rfl) ?_
  refine lv_bipush (v := 100) hx hb dM_init_133 (by decide) ?_
  refine mNA (n := 16) (a0 := (100, .inl (fun _ => 0))) (at' := .int) hC hA hH (by (try simp only [List.length_set]); rfl) (by decide) wr_int rfl (fun _ => rfl) (fun _ => rfl) (by decide) (by decide) (by decide) (Nat.le_of_ble_eq_true rfl) (Nat.le_of_ble_eq_true rfl) dM_init_135 wf_M_59 rfl hnm rfl (fun _ => rfl) (fun _ => rfl) dM_init_137 (fun q16 c16 H locs hC hH => ?_)
  have hH : gH D (mB a 17) (_, _, [.int 0, .int 0, .int 0, .int 0, .int 0, .int 0, .int 0, .ref q0, .ref q1, .ref q2, .ref q3, .ref q4, .ref q5, .ref q6, .ref q7, .ref q8, .ref q9, .ref q10, .ref q11, .ref q12, .ref q13, .ref q14, .ref q15, .ref q16, .null, .null, .null, .null, .null]) A s.heap H locs := hH
  first | refine lv_aload_n hx hb dM_init_140 rfl (lv_at hl 0 rfl) ?_ | refine lv_aload_nN hx hb dM_init_140 rfl (lv_at hl 0 rfl) ?_
  refine lv_bipush (v := 100) hx hb dM_init_141 (by decide) ?_
  refine mNA (n := 17) (a0 := (100, .inl (fun _ => 0))) (at' := .int) hC hA hH (by (try simp only [List.length_set]); rfl) (by decide) wr_int rfl (fun _ => rfl) (fun _ => rfl) (by decide) (by decide) (by decide) (Nat.le_of_ble_eq_true rfl) (Nat.le_of_ble_eq_true rfl) dM_init_143 wf_M_62 rfl hnm rfl (fun _ => rfl) (fun _ => rfl) dM_init_145 (fun q17 c17 H locs hC hH => ?_)
  have hH : gH D (mB a 18) (_, _, [.int 0, .int 0, .int 0, .int 0, .int 0, .int 0, .int 0, .ref q0, .ref q1, .ref q2, .ref q3, .ref q4, .ref q5, .ref q6, .ref q7, .ref q8, .ref q9, .ref q10, .ref q11, .ref q12, .ref q13, .ref q14, .ref q15, .ref q16, .ref q17, .null, .null, .null, .null]) A s.heap H locs := hH
  first | refine lv_aload_n hx hb dM_init_148 rfl (lv_at hl 0 rfl) ?_ | refine lv_aload_nN hx hb dM_init_148 rfl (lv_at hl 0 rfl) ?_
  refine lv_bipush (v := 100) hx hb dM_init_149 (by decide) ?_
  refine mNA (n := 18) (a0 := (100, .inl (fun _ => 0))) (at' := .boolean) hC hA hH (by (try simp only [List.length_set]); rfl) (by decide) wr_boolean rfl (fun _ => rfl) (fun _ => rfl) (by decide) (by decide) (by decide) (Nat.le_of_ble_eq_true rfl) (Nat.le_of_ble_eq_true rfl) dM_init_151 wf_M_65 rfl hnm rfl (fun _ => rfl) (fun _ => rfl) dM_init_153 (fun q18 c18 H locs hC hH => ?_)
  have hH : gH D (mB a 19) (_, _, [.int 0, .int 0, .int 0, .int 0, .int 0, .int 0, .int 0, .ref q0, .ref q1, .ref q2, .ref q3, .ref q4, .ref q5, .ref q6, .ref q7, .ref q8, .ref q9, .ref q10, .ref q11, .ref q12, .ref q13, .ref q14, .ref q15, .ref q16, .ref q17, .ref q18, .null, .null, .null]) A s.heap H locs := hH
  first | refine lv_aload_n hx hb dM_init_156 rfl (lv_at hl 0 rfl) ?_ | refine lv_aload_nN hx hb dM_init_156 rfl (lv_at hl 0 rfl) ?_
  refine lv_bipush (v := 100) hx hb dM_init_157 (by decide) ?_
  refine mNA (n := 19) (a0 := (100, .inl (fun _ => 0))) (at' := .boolean) hC hA hH (by (try simp only [List.length_set]); rfl) (by decide) wr_boolean rfl (fun _ => rfl) (fun _ => rfl) (by decide) (by decide) (by decide) (Nat.le_of_ble_eq_true rfl) (Nat.le_of_ble_eq_true rfl) dM_init_159 wf_M_69 rfl hnm rfl (fun _ => rfl) (fun _ => rfl) dM_init_161 (fun q19 c19 H locs hC hH => ?_)
  have hH : gH D (mB a 20) (_, _, [.int 0, .int 0, .int 0, .int 0, .int 0, .int 0, .int 0, .ref q0, .ref q1, .ref q2, .ref q3, .ref q4, .ref q5, .ref q6, .ref q7, .ref q8, .ref q9, .ref q10, .ref q11, .ref q12, .ref q13, .ref q14, .ref q15, .ref q16, .ref q17, .ref q18, .ref q19, .null, .null]) A s.heap H locs := hH
  first | refine lv_aload_n hx hb dM_init_164 rfl (lv_at hl 0 rfl) ?_ | refine lv_aload_nN hx hb dM_init_164 rfl (lv_at hl 0 rfl) ?_
  refine lv_bipush (v := 100) hx hb dM_init_165 (by decide) ?_
  refine mNA (n := 20) (a0 := (100, .inr (.inl (fun _ => 0)))) (at' := .long) hC hA hH (by (try simp only [List.length_set]); rfl) (by decide) wr_long rfl (fun _ => rfl) (fun _ => rfl) (by decide) (by decide) (by decide) (Nat.le_of_ble_eq_true rfl) (Nat.le_of_ble_eq_true rfl) dM_init_167 wf_M_72 rfl hnm rfl (fun _ => rfl) (fun _ => rfl) dM_init_169 (fun q20 c20 H locs hC hH => ?_)
  have hH : gH D (mB a 21) (_, _, [.int 0, .int 0, .int 0, .int 0, .int 0, .int 0, .int 0, .ref q0, .ref q1, .ref q2, .ref q3, .ref q4, .ref q5, .ref q6, .ref q7, .ref q8, .ref q9, .ref q10, .ref q11, .ref q12, .ref q13, .ref q14, .ref q15, .ref q16, .ref q17, .ref q18, .ref q19, .ref q20, .null]) A s.heap H locs := hH
  first | refine lv_aload_n hx hb dM_init_172 rfl (lv_at hl 0 rfl) ?_ | refine lv_aload_nN hx hb dM_init_172 rfl (lv_at hl 0 rfl) ?_
  refine lv_bipush (v := 100) hx hb dM_init_173 (by decide) ?_
  refine mNA (n := 21) (a0 := (100, .inr (.inl (fun _ => 0)))) (at' := .long) hC hA hH (by (try simp only [List.length_set]); rfl) (by decide) wr_long rfl (fun _ => rfl) (fun _ => rfl) (by decide) (by decide) (by decide) (Nat.le_of_ble_eq_true rfl) (Nat.le_of_ble_eq_true rfl) dM_init_175 wf_M_75 rfl hnm rfl (fun _ => rfl) (fun _ => rfl) dM_init_177 (fun q21 c21 H locs hC hH => ?_)
  have hH : gH D (mB a 22) (_, _, [.int 0, .int 0, .int 0, .int 0, .int 0, .int 0, .int 0, .ref q0, .ref q1, .ref q2, .ref q3, .ref q4, .ref q5, .ref q6, .ref q7, .ref q8, .ref q9, .ref q10, .ref q11, .ref q12, .ref q13, .ref q14, .ref q15, .ref q16, .ref q17, .ref q18, .ref q19, .ref q20, .ref q21]) A s.heap H locs := hH
  first | refine lv_aload_n hx hb dM_init_180 rfl (lv_at hl 0 rfl) ?_ | refine lv_aload_nN hx hb dM_init_180 rfl (lv_at hl 0 rfl) ?_
  refine lv_iload_n hx hb dM_init_181 rfl (lv_at hl 1 rfl) ?_
  refine lv_iconst (v := 1) hx hb dM_init_182 (by decide) ?_
  refine lv_iconst (v := 4) hx hb dM_init_183 (by decide) ?_
  refine gcTi hC.fix hl.1 (m_between _ _ _) kM_78 ⟨Nat.le_of_ble_eq_true rfl, Nat.le_of_ble_eq_true rfl⟩ dM_init_184 ⟨Nat.le_of_ble_eq_true rfl, Nat.le_of_ble_eq_true rfl⟩ rfl (Nat.le_of_ble_eq_true rfl) (fun r hr1 => ?_)
  rw [zBtw_near (by decide)] at hr1
  subst hr1
  refine mPut hC hH (by (try simp only [List.length_set]); rfl) (k := 0) (by decide) wf_M_82 rfl hnm rfl rfl rfl dM_init_187 (fun H locs hH => ?_)
  have hH : gH D (mB a 22) (_, _, [.int (zNear mo 1 4), .int 0, .int 0, .int 0, .int 0, .int 0, .int 0, .ref q0, .ref q1, .ref q2, .ref q3, .ref q4, .ref q5, .ref q6, .ref q7, .ref q8, .ref q9, .ref q10, .ref q11, .ref q12, .ref q13, .ref q14, .ref q15, .ref q16, .ref q17, .ref q18, .ref q19, .ref q20, .ref q21]) A s.heap H locs := hH
  first | refine lv_aload_n hx hb dM_init_190 rfl (lv_at hl 0 rfl) ?_ | refine lv_aload_nN hx hb dM_init_190 rfl (lv_at hl 0 rfl) ?_
  refine lv_iload_n hx hb dM_init_191 rfl (lv_at hl 2 rfl) ?_
  refine lv_iconst (v := 0) hx hb dM_init_192 (by decide) ?_
  refine lv_ldc hx hb hown (hts _ wq_M_86) dM_init_193 ?_
  refine gcTi hC.fix hl.1 (m_between _ _ _) kM_78 ⟨Nat.le_of_ble_eq_true rfl, Nat.le_of_ble_eq_true rfl⟩ dM_init_195 ⟨Nat.le_of_ble_eq_true rfl, Nat.le_of_ble_eq_true rfl⟩ rfl (Nat.le_of_ble_eq_true rfl) (fun r hr1 => ?_)
  rw [zBtw_near (by decide)] at hr1
  subst hr1
  refine mPut hC hH (by (try simp only [List.length_set]); rfl) (k := 1) (by decide) wf_M_87 rfl hnm rfl rfl rfl dM_init_198 (fun H locs hH => ?_)
  have hH : gH D (mB a 22) (_, _, [.int (zNear mo 1 4), .int (zNear bo 0 100000), .int 0, .int 0, .int 0, .int 0, .int 0, .ref q0, .ref q1, .ref q2, .ref q3, .ref q4, .ref q5, .ref q6, .ref q7, .ref q8, .ref q9, .ref q10, .ref q11, .ref q12, .ref q13, .ref q14, .ref q15, .ref q16, .ref q17, .ref q18, .ref q19, .ref q20, .ref q21]) A s.heap H locs := hH
  first | refine lv_aload_n hx hb dM_init_201 rfl (lv_at hl 0 rfl) ?_ | refine lv_aload_nN hx hb dM_init_201 rfl (lv_at hl 0 rfl) ?_
  refine lv_iload_n hx hb dM_init_202 rfl (lv_at hl 3 rfl) ?_
  refine lv_iconst (v := 1) hx hb dM_init_203 (by decide) ?_
  refine lv_sipush (v := 1000) hx hb dM_init_204 (by decide) ?_
  refine gcTi hC.fix hl.1 (m_between _ _ _) kM_78 ⟨Nat.le_of_ble_eq_true rfl, Nat.le_of_ble_eq_true rfl⟩ dM_init_207 ⟨Nat.le_of_ble_eq_true rfl, Nat.le_of_ble_eq_true rfl⟩ rfl (Nat.le_of_ble_eq_true rfl) (fun r hr1 => ?_)
  rw [zBtw_near (by decide)] at hr1
  subst hr1
  refine mPut hC hH (by (try simp only [List.length_set]); rfl) (k := 2) (by decide) wf_M_90 rfl hnm rfl rfl rfl dM_init_210 (fun H locs hH => ?_)
  have hH : gH D (mB a 22) (_, _, [.int (zNear mo 1 4), .int (zNear bo 0 100000), .int (zNear id 1 1000), .int 0, .int 0, .int 0, .int 0, .ref q0, .ref q1, .ref q2, .ref q3, .ref q4, .ref q5, .ref q6, .ref q7, .ref q8, .ref q9, .ref q10, .ref q11, .ref q12, .ref q13, .ref q14, .ref q15, .ref q16, .ref q17, .ref q18, .ref q19, .ref q20, .ref q21]) A s.heap H locs := hH
  generalize hka : va_up _ 28 q21 = ka at hH
  generalize hcl : va_up _ 28 c21 = cl at hH hC
  have e7 : ka 7 = q0 ∧ ka 8 = q1 ∧ ka 9 = q2 ∧ ka 10 = q3 ∧ ka 11 = q4 ∧ ka 12 = q5 ∧ ka 13 = q6 ∧ ka 14 = q7 ∧ ka 15 = q8 ∧ ka 16 = q9 ∧ ka 17 = q10 ∧ ka 18 = q11 ∧ ka 19 = q12 ∧ ka 20 = q13 ∧ ka 21 = q14 ∧ ka 22 = q15 ∧ ka 23 = q16 ∧ ka 24 = q17 ∧ ka 25 = q18 ∧ ka 26 = q19 ∧ ka 27 = q20 ∧ ka 28 = q21 := by subst hka; exact ⟨rfl, rfl, rfl, rfl, rfl, rfl, rfl, rfl, rfl, rfl, rfl, rfl, rfl, rfl, rfl, rfl, rfl, rfl, rfl, rfl, rfl, rfl⟩
  have hJ : gH D (mR (a, ka, cl)) (cs0 (zNear mo 1 4) (zNear bo 0 100000) (zNear id 1 1000)) A s.heap H locs := by
    obtain ⟨LL, f, hI, hP, hD, hS⟩ := hH
    refine ⟨LL, f, ⟨_, Rel0 _ _ _, ⟨hI.1.1, hI.1.2.trans ?_⟩, hI.2.1, hI.2.2⟩, hP, hD, hS⟩
    obtain ⟨e0, e1, e2, e3, e4, e5, e6, e7, e8, e9, e10, e11, e12, e13, e14, e15, e16, e17, e18, e19, e20, e21⟩ := e7
    show (Sum.inr (4, _) : va_E) = Sum.inr (4, [Value.int _, Value.int _, Value.int _, Value.int _, Value.int _, Value.int _, Value.int _, Value.ref (ka 7), Value.ref (ka 8), Value.ref (ka 9), Value.ref (ka 10), Value.ref (ka 11), Value.ref (ka 12), Value.ref (ka 13), Value.ref (ka 14), Value.ref (ka 15), Value.ref (ka 16), Value.ref (ka 17), Value.ref (ka 18), Value.ref (ka 19), Value.ref (ka 20), Value.ref (ka 21), Value.ref (ka 22), Value.ref (ka 23), Value.ref (ka 24), Value.ref (ka 25), Value.ref (ka 26), Value.ref (ka 27), Value.ref (ka 28)])
    rw [e0, e1, e2, e3, e4, e5, e6, e7, e8, e9, e10, e11, e12, e13, e14, e15, e16, e17, e18, e19, e20, e21]
    rfl
  have hC2 : gX RX4 (mk_tys (a, ka, cl)) D p s m ([.ref a, .int mo, .int bo, .int id] : List Value).toArray c bM_init 4 := hC
  exact W.vret hx hb hr (fun t ht hW => ⟨⟨((a, ka, cl), cs0 (zNear mo 1 4) (zNear bo 0 100000) (zNear id 1 1000)), rfl, ⟨rfl, rfl⟩, (gH.B (tys := mk_tys (a, ka, cl)) hC2 hJ ht hW).1⟩, (gH.B hC2 hJ ht hW).2⟩) hJ.L dM_init_213
end MI0
