/-! WorkerRowsModel(most, bound, idle): its rows one by one -/
def y00 : ms_S := ((0, 0, 0), 0, (0, 0, 0), (fun _ _ => 0), (fun _ _ => 0))
def mTs (cl : Nat → ClassId) (n : Nat) : List (ClassId × FieldType) := (List.range n).map (fun i => (cl (i + 7), mTy (i + 7)))
theorem mTs_push (cl : Nat → ClassId) (n : Nat) (c : ClassId) : mTs (va_up cl (n + 7) c) (n + 1) = mTs cl n ++ [(c, mTy (n + 7))] := by
  unfold mTs
  rw [List.range_succ, List.map_append]
  congr 1
  · apply List.map_congr_left
    intro i hi
    have := List.mem_range.mp hi
    rw [va_up_ne _ _ (by omega)]
  · simp [va_up]
def mB (o n : Nat) : ((Nat → Nat) × (Nat → ClassId) × List Value) → List Nat → (Nat → va_E) → Prop := fun u LL f => (o ∈ LL ∧ f o = .inr (4, u.2.2)) ∧ (∀ i, 7 ≤ i → i < n + 7 → u.1 i ∈ LL ∧ f (u.1 i) = mE (u.2.1 i) y00 i) ∧ (∀ a b, 7 ≤ a → a < n + 7 → 7 ≤ b → b < n + 7 → u.1 a = u.1 b → a = b)
section MN
variable {p : Program} {l : Launch} {e : Env} {R : Room} {s : State} {m : MethodId} {args : Array Value} {below : List Frame} {meth : Method} {c : Code} {H : Heap} {locs : List Loc} {cells slots : Nat} {Q : State → Prop} {cc : ByteArray} {pc nL : Nat} {ls : Array Slot} {rest : List Value} {D : va_G} {A : Nat → Prop} {H0 : Heap} {o n : Nat} {ka : Nat → Nat} {cl : Nat → ClassId} {fs : List Value}
theorem mPut (hC : gX RX4 (mTs cl n) D p s m args c cc nL) (hH : gH D (mB o n) (ka, cl, fs) A H0 H locs) (hfs : fs.length = 29) {k idx : Nat} (hk : k < 29) (hlink : Cond.fieldLink RX4 idx (TX4 k).1 (TX4 k).2.1 (TX4 k).2.2.1 ∈ wA) (hfin : (TX4 k).2.2.2 = true) (hnm : meth.name = "<init>") (hdecl : (TX4 k).1 = RX4) {v : Value} (hn : narrow (tyX4 k) v = v) (hfit : fits (tyX4 k) v = true) (hdg : decode cc pc = .ok (.putfield idx, 3)) (kk : ∀ (H1 : Heap) (locs1 : List Loc), gH D (mB o n) (ka, cl, fs.set k v) A H0 H1 locs1 → W p l e R s m args below meth c H1 locs1 cells slots Q (F0 m (pc + 3) ls rest)) : W p l e R s m args below meth c H locs cells slots Q (F0 m pc ls (v :: .ref o :: rest)) := by
  obtain ⟨LL, f, hI, hP, hD, hS⟩ := hH
  refine pw_putF hC.1 hC.2.1 hC.2.2.1 inX4 tyX4 tyX4_ok nmX4 hC.2.2.2.1 hC.2.2.2.2.1 hP hD hS hI.1.1 hI.1.2 rfl k hk (hC.2.2.1 _ hlink) hfin hnm hdecl hn hfit (by show k < fs.length; omega) hdg (fun H1 locs1 h1 h2 h3 => kk H1 locs1 ⟨LL, _, ⟨⟨hI.1.1, va_up_self _ _ _⟩, fun i hi hi2 => ⟨(hI.2.1 i hi hi2).1, ?_⟩, hI.2.2⟩, h1, h2, h3⟩)
  have e := (hI.2.1 i hi hi2).2
  rw [va_up_ne _ _ (fun q => by rw [q, hI.1.2] at e; exact mE_ne e.symm)]
  exact e
theorem mNA (hC : gX RX4 (mTs cl n) D p s m args c cc nL) (hA : ∀ q, H0.size ≤ q → A q) (hH : gH D (mB o n) (ka, cl, fs) A H0 H locs) (hfs : fs.length = 29) (hn : n < 22) {at' : ArrayType} (harr : Cond.arrayClass (newarray.typeOf at') ∈ wA) (hty : newarray.typeOf at' = mTy (n + 7)) {a0 : vp_A} (ha0 : ∀ c, mE c y00 (n + 7) = .inl (c, a0)) (ha1 : ∀ cA : ClassId, vp_cell cA a0 = arrV cA (mLen (n + 7)) (fun _ => defaultValue (mTy (n + 7)))) {v : Int32} (hv : ¬ v < 0) (hN : v.toNatClampNeg = mLen (n + 7)) (hby : mLen (n + 7) * componentBytes (mTy (n + 7)) ≤ 536870912) (hcells : cells + 1 ≤ R.cells) (hslots : slots + mLen (n + 7) ≤ R.slots) (hd1 : decode cc pc = .ok (.newarray at', 2)) {idx : Nat} (hlink : Cond.fieldLink RX4 idx (TX4 (n + 7)).1 (TX4 (n + 7)).2.1 (TX4 (n + 7)).2.2.1 ∈ wA) (hfin : (TX4 (n + 7)).2.2.2 = true) (hnm : meth.name = "<init>") (hdecl : (TX4 (n + 7)).1 = RX4) (hnar : ∀ q, narrow (tyX4 (n + 7)) (.ref q) = .ref q) (hfit : ∀ q, fits (tyX4 (n + 7)) (.ref q) = true) (hd2 : decode cc (pc + 2) = .ok (.putfield idx, 3))
    (kk : ∀ (q : Nat) (cA : ClassId) (H1 : Heap) (locs1 : List Loc), gX RX4 (mTs (va_up cl (n + 7) cA) (n + 1)) D p s m args c cc nL → gH D (mB o (n + 1)) (va_up ka (n + 7) q, va_up cl (n + 7) cA, fs.set (n + 7) (.ref q)) A H0 H1 locs1 → W p l e R s m args below meth c H1 locs1 (cells + 1) (slots + mLen (n + 7)) Q (F0 m (pc + 2 + 3) ls rest)) : W p l e R s m args below meth c H locs cells slots Q (F0 m pc ls (.int v :: .ref o :: rest)) := by
  obtain ⟨LL, f, hI, hP, hD, hS⟩ := hH
  refine pw_newa hC.1 hC.2.1 (hC.2.2.1 _ harr) hty hC.2.2.2.2.1 hP hD hS hA ha1 hv hN hby hcells hslots hd1 (fun q cA H1 hq hK h1 h2 h3 => ?_)
  have hoq : o ≠ q := fun z => hq (z ▸ hI.1.1)
  have hK2 : va_K D vwCl (mTs (va_up cl (n + 7) cA) (n + 1)) s := by rw [mTs_push]; exact hK
  have hC2 : gX RX4 (mTs (va_up cl (n + 7) cA) (n + 1)) D p s m args c cc nL := ⟨hC.1, hC.2.1, hC.2.2.1, hC.2.2.2.1, hK2, hC.2.2.2.2.2⟩
  refine pw_putF hC.1 hC.2.1 hC.2.2.1 inX4 tyX4 tyX4_ok nmX4 hC.2.2.2.1 hK2 h1 h2 h3 (List.mem_append_left _ hI.1.1) ((va_up_ne _ _ hoq).trans hI.1.2) rfl (n + 7) (by omega) (hC.2.2.1 _ hlink) hfin hnm hdecl (hnar q) (hfit q) (by show n + 7 < fs.length; omega) hd2 (fun H2 locs2 g1 g2 g3 => kk q cA H2 locs2 hC2 ⟨LL ++ [q], _, ⟨⟨List.mem_append_left _ hI.1.1, va_up_self _ _ _⟩, fun i hi hi2 => ?_, fun a b ha ha2 hb hb2 hab => ?_⟩, g1, g2, g3⟩)
  · show va_up ka (n + 7) q i ∈ LL ++ [q] ∧ va_up _ o _ (va_up ka (n + 7) q i) = mE (va_up cl (n + 7) cA i) y00 i
    by_cases e : i = n + 7
    · subst e
      rw [va_up_self, va_up_self, va_up_ne _ _ hoq.symm, va_up_self, ha0]
      exact ⟨List.mem_append_right _ (List.mem_singleton.mpr rfl), rfl⟩
    · have h9 := hI.2.1 i hi (by omega)
      have e9 : f (ka i) = mE (cl i) y00 i := h9.2
      have z1 : ka i ≠ o := fun z => by rw [z, hI.1.2] at e9; exact mE_ne e9.symm
      have z2 : ka i ≠ q := fun z => hq (z ▸ h9.1)
      rw [va_up_ne _ _ e, va_up_ne _ _ e, va_up_ne _ _ z1, va_up_ne _ _ z2]
      exact ⟨List.mem_append_left _ h9.1, e9⟩
  · have hab : va_up ka (n + 7) q a = va_up ka (n + 7) q b := hab
    by_cases e1 : a = n + 7
    · by_cases e2 : b = n + 7
      · omega
      · rw [e1, va_up_self, va_up_ne _ _ e2] at hab
        exact absurd (show ka b ∈ LL from (hI.2.1 b hb (by omega)).1) (by rw [← hab]; exact hq)
    · by_cases e2 : b = n + 7
      · rw [e2, va_up_self, va_up_ne _ _ e1] at hab
        exact absurd (show ka a ∈ LL from (hI.2.1 a ha (by omega)).1) (by rw [hab]; exact hq)
      · rw [va_up_ne _ _ e1, va_up_ne _ _ e2] at hab
        exact hI.2.2 a b ha (by omega) hb (by omega) hab
end MN
theorem zBtw_near {v lo hi : Int32} (h : lo ≤ hi) : zBtw v lo hi = zNear v lo hi := by
  unfold zBtw zNear
  have h1 := Int32.le_iff_toInt_le.mp h
  by_cases a : lo ≤ v
  · have a1 := Int32.le_iff_toInt_le.mp a
    rw [if_pos a]
    by_cases b : v ≤ hi
    · have b1 := Int32.le_iff_toInt_le.mp b
      rw [if_pos b]
      by_cases c1 : v < hi
      · rw [if_pos c1]
        by_cases d : lo < v
        · rw [if_pos d]
        · rw [if_neg d]
          exact Int32.toInt_inj.mp (by have := Int32.le_iff_toInt_le.mp (Int32.not_lt.mp d); omega)
      · rw [if_neg c1]
        have e : v = hi := Int32.toInt_inj.mp (by have := Int32.le_iff_toInt_le.mp (Int32.not_lt.mp c1); omega)
        subst e
        by_cases d : lo < v
        · rw [if_pos d]
        · rw [if_neg d]
          exact Int32.toInt_inj.mp (by have := Int32.le_iff_toInt_le.mp (Int32.not_lt.mp d); omega)
    · have b1 := Int32.lt_iff_toInt_lt.mp (Int32.not_le.mp b)
      rw [if_neg b, if_neg (fun q => by have := Int32.lt_iff_toInt_lt.mp q; omega)]
      by_cases d : lo < hi
      · rw [if_pos d]
      · rw [if_neg d]
        exact Int32.toInt_inj.mp (by have := Int32.le_iff_toInt_le.mp (Int32.not_lt.mp d); omega)
  · have a1 := Int32.lt_iff_toInt_lt.mp (Int32.not_le.mp a)
    rw [if_neg a, if_pos (Int32.lt_iff_toInt_lt.mpr (by omega)), if_neg (fun q => by have := Int32.lt_iff_toInt_lt.mp q; omega)]
theorem Rel0 (mo bo id : Int32) : Rel (cs0 mo bo id) ((mo, bo, id), 0, (0, 0, 0), (fun _ _ => 0), (fun _ _ => 0)) := ⟨⟨rfl, rfl, rfl⟩, ⟨⟨Nat.zero_le _, Nat.zero_le _, Nat.zero_le _⟩, fun i h => absurd h (Nat.not_lt_zero i), fun i h => absurd h (Nat.not_lt_zero i)⟩, ⟨(by decide : (0 : Int) ≤ (0 : Int32).toInt), (by decide : (0 : Int32).toInt ≤ 1000000000)⟩, fun i h => absurd h (Nat.not_lt_zero i), fun i h => absurd h (Nat.not_lt_zero i), fun i h => absurd h (Nat.not_lt_zero i), fun i j h => absurd h (Nat.not_lt_zero i), fun i _ _ => ⟨rfl, rfl, rfl, rfl, rfl, rfl⟩, fun i _ _ => ⟨rfl, rfl, rfl, rfl⟩⟩
def mP0 (D : va_G) (a : Nat) (g : Nat → va_E) (sz : Nat) (av : List Value) : Array Value → State → Prop := va_Pc av (fun U => U.heap.size = sz ∧ va_P D vwCl (va_pl [a] g) U.heap ∧ va_K D vwCl [] U ∧ va_D (fun _ => True) (va_pl [a] g))
def mB0 (D : va_G) (A : Nat → Prop) (u : mk_F × cs_S) (t : State) : Prop := gB D (mk_tys u.1) (mR u.1) A u.2 t
section MI0
variable {l : Launch} {D : va_G} {a : Nat} {g : Nat → va_E} {sz : Nat}
set_option maxHeartbeats 200000 in
set_option maxRecDepth 100000 in
theorem m_init (hg : g a = .inr (4, [.int 0, .int 0, .int 0, .int 0, .int 0, .int 0, .int 0, .null, .null, .null, .null, .null, .null, .null, .null, .null, .null, .null, .null, .null, .null, .null, .null, .null, .null, .null, .null, .null, .null])) (mo bo id : Int32) : Met l yM_init (wz yM_init bM_init 4 none) (rmL 1 22 1558) (mP0 D a g sz [.ref a, .int mo, .int bo, .int id]) (va_Qv (fun (u : mk_F × cs_S) => mO u.1 = a ∧ u.2 = cs0 (zNear mo 1 4) (zNear bo 0 100000) (zNear id 1 1000)) (mB0 D (va_A (va_pl [a] g) sz)) (va_A (va_pl [a] g) sz)) 22 1558 (va_A (va_pl [a] g) sz) := by
  refine Met.ofW (cc := bM_init) (maxL := 4) (ret := none) (by decide) rfl ?_
  intro p e s m args below meth c s₁ B hml hv
  obtain ⟨rfl, hsz, hP, hK, hD0⟩ := hv
  subst hsz
  rw [lg_entry_eq]
  have hts := atoms_spec (ws := wz yM_init bM_init 4 none) B.pre
  have hown : s.vm.findClass RX4 = some m.cls := findClass_of_methodNamed B.named
  have hC : gX RX4 (mTs (fun _ => 0) 0) D p s m ([.ref a, .int mo, .int bo, .int id] : List Value).toArray c bM_init 4 := ⟨B.exec, B.bytes, fun w h => hts w (List.mem_cons_of_mem _ h), hown, hK, hml⟩
  have hr := B.returns
  have hlk := B.notSynchronized
  have hnm : meth.name = "<init>" := (name_of_methodNamed B.named B.method).1
  have hH : gH D (mB a 0) ((fun _ => 0), (fun _ => 0), [.int 0, .int 0, .int 0, .int 0, .int 0, .int 0, .int 0, .null, .null, .null, .null, .null, .null, .null, .null, .null, .null, .null, .null, .null, .null, .null, .null, .null, .null, .null, .null, .null, .null]) (va_A (va_pl [a] g) s.heap.size) s.heap s.heap [] := ⟨_, _, ⟨⟨List.mem_singleton.mpr rfl, hg⟩, fun i h1 h2 => absurd h2 (by omega), fun i j h1 h2 => absurd h2 (by omega)⟩, hP, hD0.self, va_S.rf⟩
  have hl := lv_entry ([.ref a, .int mo, .int bo, .int id]) (n := 4) (Nat.le_of_ble_eq_true rfl)
  generalize (lg_sl ([.ref a, .int mo, .int bo, .int id]) ++ List.replicate (4 - (lg_sl ([.ref a, .int mo, .int bo, .int id])).length) Slot.unset).toArray = ls at hl ⊢
  generalize hAe : va_A (va_pl [a] g) s.heap.size = A at hH ⊢
  have hA : ∀ q : Nat, s.heap.size ≤ q → A q := fun q h => by rw [← hAe]; exact Or.inr h
  have hx := hC.1
  have hb := hC.2.1
  have hml := hC.2.2.2.2.2
  have hts := hC.2.2.1
  have hown := hC.2.2.2.1
  have hl : lv_has ls 4 [(0, _), (1, _), (2, _), (3, _)] := hl
  first | refine lv_aload_n hx hb dM_init_0 rfl (lv_at hl 0 rfl) ?_ | refine lv_aload_nN hx hb dM_init_0 rfl (lv_at hl 0 rfl) ?_
  refine W.objInit hx hb hown (hts _ wm_M_1) (hts _ wi_O_init) (hts _ wc_O_init) rfl (by rw [hml]; exact hl.1) rfl dM_init_1 (Nat.le_of_ble_eq_true rfl) (Nat.le_of_ble_eq_true rfl) ?_
  refine W.eq (g2 := F0 m 4 ls []) rfl ?_
  first | refine lv_aload_n hx hb dM_init_4 rfl (lv_at hl 0 rfl) ?_ | refine lv_aload_nN hx hb dM_init_4 rfl (lv_at hl 0 rfl) ?_
  refine lv_bipush (v := 6) hx hb dM_init_5 (by decide) ?_
  refine mNA (n := 0) (a0 := (6, .inr (.inl (fun _ => 0)))) hC hA hH rfl (by decide) wr_long rfl (fun _ => rfl) (fun _ => rfl) (by decide) (by decide) (by decide) (Nat.le_of_ble_eq_true rfl) (Nat.le_of_ble_eq_true rfl) dM_init_7 wf_M_7 rfl hnm rfl (fun _ => rfl) (fun _ => rfl) dM_init_9 (fun q0 c0 H locs hC hH => ?_)
  sorry
end MI0
