/-! WorkerRows(most, bound, idle) -/
def cs0 (mo bo id : Int32) : cs_S := ((mo, bo, id), 0, (0, 0, 0), (fun _ => (0, 0, 0)), (fun _ => (0, 0, 0, 0, 0, 0, 0, none)), (fun _ => (0, 0, 0, 0, 0, false, false, 0, none, 0)))
section C10
theorem cI0 {a q1 q2 q3 : Nat} {c1 c2 c3 : ClassId} {F : Nat → va_E} {mo bo id : Int32} {d : ck_A} (h1 : F a = .inr (3, eO ((a, q1, q2, q3), (c1, c2, c3)) (cs0 mo bo id))) (h2 : F q1 = rowE c1 6 (fun _ => none)) (h3 : F q2 = rowE c2 60 (fun _ => none)) (h4 : F q3 = rowE c3 100 (fun _ => none)) : cI ((a, q1, q2, q3), (c1, c2, c3)) d (cs0 mo bo id) ((([a] ++ [q1]) ++ [q2]) ++ [q3]) F := by
  have e0 : ∀ ad : Nat → Nat, eA 0 ad = fun _ => none := fun ad => by funext i; exact eA_out (Nat.not_lt_zero i)
  refine ⟨⟨⟨Nat.zero_le _, Nat.zero_le _, Nat.zero_le _⟩, fun i h => absurd h (Nat.not_lt_zero i), fun i h => absurd h (Nat.not_lt_zero i)⟩, ⟨by simp, h1⟩, ⟨by simp, h2.trans ?_⟩, ⟨by simp, h3.trans ?_⟩, ⟨by simp, h4.trans ?_⟩, fun i h => absurd h (Nat.not_lt_zero i), fun i h => absurd h (Nat.not_lt_zero i), fun i h => absurd h (Nat.not_lt_zero i)⟩
  · show _ = rowE c1 6 (eA 0 d.1)
    rw [e0]
  · show _ = rowE c2 60 (eA 0 d.2.1)
    rw [e0]
  · show _ = rowE c3 100 (eA 0 d.2.2)
    rw [e0]
theorem rp_newq {p : Program} {l : Launch} {e : Env} {R : Room} {s : State} {m : MethodId} {args : Array Value} {below : List Frame} {meth : Method} {c : Code} {H : Heap} {locs : List Loc} {cells slots : Nat} {Q : State → Prop} {cc : ByteArray} {pc nL : Nat} {ls : Array Slot} {rest : List Value} {D : va_G} {A : Nat → Prop} {tys : List (ClassId × FieldType)} {H0 : Heap} {own : String} {LL : List Nat} {g : Nat → va_E} (hC : gX own tys D p s m args c cc nL) (hA : ∀ q, H0.size ≤ q → A q) (hH : gH D (rI LL) g A H0 H locs) {C : String} {index : Nat} (hcl : Cond.classLink own index C ∈ wA) (hao : va_AO C s) {n : Int32} {N : Nat} (hn : ¬ n < 0) (hN : n.toNatClampNeg = N) (hbytes : N * 4 ≤ 536870912) (hcells : cells + 1 ≤ R.cells) (hslots : slots + N ≤ R.slots) (hdg : decode cc pc = .ok (.anewarray index, 3))
    (kk : ∀ (q : Nat) (cA : ClassId) (H1 : Heap), q ∉ LL → gX own (tys ++ [(cA, .object C)]) D p s m args c cc nL → gH D (rI (LL ++ [q])) (va_up g q (rowE cA N (fun _ => none))) A H0 H1 locs → W p l e R s m args below meth c H1 locs (cells + 1) (slots + N) Q (F0 m (pc + 3) ls (.ref q :: rest))) : W p l e R s m args below meth c H locs cells slots Q (F0 m pc ls (.int n :: rest)) := by
  obtain ⟨L, f, ⟨rfl, rfl⟩, hP, hD, hS⟩ := hH
  exact pw_newq hC.1 hC.2.1 hC.2.2.2.1 (hC.2.2.1 _ hcl) hao hC.2.2.2.2.1 hP hD hS hA hn hN hbytes hcells hslots hdg (fun q cA H1 hq hK h1 h2 h3 => kk q cA H1 hq ⟨hC.1, hC.2.1, hC.2.2.1, hC.2.2.2.1, hK, hC.2.2.2.2.2⟩ ⟨_, _, ⟨rfl, rfl⟩, h1, h2, h3⟩)
def cP0 (D : va_G) (a : Nat) (g : Nat → va_E) (sz : Nat) (av : List Value) : Array Value → State → Prop := va_Pc av (fun U => U.heap.size = sz ∧ va_P D vwCl (va_pl [a] g) U.heap ∧ va_K D vwCl [] U ∧ va_D (fun _ => True) (va_pl [a] g) ∧ va_AO RX1 U ∧ va_AO RX2 U ∧ va_AO RX0 U)
def cB0 (D : va_G) (A : Nat → Prop) (u : ck_F × ck_A × cs_S) (t : State) : Prop := gB D (ck_tys u.1) (cJ u.1) A u.2 t
variable {l : Launch} {D : va_G} {a : Nat} {g : Nat → va_E} {sz : Nat}
set_option maxHeartbeats 1000000 in
set_option maxRecDepth 100000 in
theorem c_Cinit (hg : g a = .inr (3, [.int 0, .int 0, .int 0, .int 0, .null, .null, .null, .int 0, .int 0, .int 0])) (mo bo id : Int32) : Met l yC_init (wz yC_init bC_init 4 none) (rmL 2 3 166) (cP0 D a g sz [.ref a, .int mo, .int bo, .int id]) (va_Qv (fun (u : ck_F × ck_A × cs_S) => kO u.1 = a ∧ u.2.2 = cs0 (zNear mo 1 4) (zNear bo 0 100000) (zNear id 1 1000)) (cB0 D (va_A (va_pl [a] g) sz)) (va_A (va_pl [a] g) sz)) 3 166 (va_A (va_pl [a] g) sz) := by
  refine Met.ofW (cc := bC_init) (maxL := 4) (ret := none) (by decide) rfl ?_
  intro p e s m args below meth c s₁ B hml hv
  obtain ⟨rfl, hsz, hP, hK, hD0, ao1, ao2, ao3⟩ := hv
  subst hsz
  rw [lg_entry_eq]
  have hts := atoms_spec (ws := wz yC_init bC_init 4 none) B.pre
  have hown : s.vm.findClass RX3 = some m.cls := findClass_of_methodNamed B.named
  have hC : gX RX3 [] D p s m ([.ref a, .int mo, .int bo, .int id] : List Value).toArray c bC_init 4 := ⟨B.exec, B.bytes, fun w h => hts w (List.mem_cons_of_mem _ h), hown, hK, hml⟩
  have hr := B.returns
  have hlk := B.notSynchronized
  have hnm : meth.name = "<init>" := (name_of_methodNamed B.named B.method).1
  have hH : gH D (rI [a]) g (va_A (va_pl [a] g) s.heap.size) s.heap s.heap [] := ⟨_, _, ⟨rfl, rfl⟩, hP, hD0.self, va_S.rf⟩
  have hl := lv_entry ([.ref a, .int mo, .int bo, .int id]) (n := 4) (Nat.le_of_ble_eq_true rfl)
  generalize (lg_sl ([.ref a, .int mo, .int bo, .int id]) ++ List.replicate (4 - (lg_sl ([.ref a, .int mo, .int bo, .int id])).length) Slot.unset).toArray = ls at hl ⊢
  generalize hAe : va_A (va_pl [a] g) s.heap.size = A at hH ⊢
  have hA : ∀ q : Nat, s.heap.size ≤ q → A q := fun q h => by rw [← hAe]; exact Or.inr h
  have hx := hC.1
  have hb := hC.2.1
  have hml := hC.2.2.2.2.2
  have hts := hC.2.2.1
  have hown := hC.2.2.2.1
  have hl : lv_has ls 4 [(0, _), (1, _), (2, _), (3, _)] := hl
  first | refine lv_aload_n hx hb dC_init_0 rfl (lv_at hl 0 rfl) ?_ | refine lv_aload_nN hx hb dC_init_0 rfl (lv_at hl 0 rfl) ?_
  refine W.objInit hx hb hown (hts _ wm_C_1) (hts _ wi_O_init) (hts _ wc_O_init) rfl (by rw [hml]; exact hl.1) rfl dC_init_1 (Nat.le_of_ble_eq_true rfl) (Nat.le_of_ble_eq_true rfl) ?_
  refine W.eq (g2 := F0 m 4 ls []) rfl ?_
  first | refine lv_aload_n hx hb dC_init_4 rfl (lv_at hl 0 rfl) ?_ | refine lv_aload_nN hx hb dC_init_4 rfl (lv_at hl 0 rfl) ?_
  refine lv_bipush (v := 6) hx hb dC_init_5 (by decide) ?_
  refine rp_newq hC hA hH wk_C_9 ao1 (by decide) (N := 6) (by decide) (by decide) (Nat.le_of_ble_eq_true rfl) (Nat.le_of_ble_eq_true rfl) dC_init_7 (fun q1 c1 H hq1 hC hH => ?_)
  have n1 : a ≠ q1 := fun z => hq1 (by rw [z]; exact List.mem_singleton.mpr rfl)
  refine rp_putF hC hH inX3 tyX3 tyX3_ok nmX3 (List.mem_append_left _ (List.mem_singleton.mpr rfl)) ((va_up_ne _ _ n1).trans hg) rfl 4 (by decide) wf_C_11 rfl hnm rfl rfl rfl (Nat.le_of_ble_eq_true rfl) dC_init_10 (fun H locs hH => ?_)
  first | refine lv_aload_n hx hb dC_init_13 rfl (lv_at hl 0 rfl) ?_ | refine lv_aload_nN hx hb dC_init_13 rfl (lv_at hl 0 rfl) ?_
  refine lv_bipush (v := 60) hx hb dC_init_14 (by decide) ?_
  refine rp_newq hC hA hH wk_C_15 ao2 (by decide) (N := 60) (by decide) (by decide) (Nat.le_of_ble_eq_true rfl) (Nat.le_of_ble_eq_true rfl) dC_init_16 (fun q2 c2 H hq2 hC hH => ?_)
  have n2 : a ≠ q2 := fun z => hq2 (by rw [z]; exact List.mem_append_left _ (List.mem_singleton.mpr rfl))
  have n12 : q1 ≠ q2 := fun z => hq2 (by rw [z]; exact List.mem_append_right _ (List.mem_singleton.mpr rfl))
  refine rp_putF hC hH inX3 tyX3 tyX3_ok nmX3 (List.mem_append_left _ (List.mem_append_left _ (List.mem_singleton.mpr rfl))) ((va_up_ne _ _ n2).trans (va_up_self _ _ _)) rfl 5 (by decide) wf_C_17 rfl hnm rfl rfl rfl (Nat.le_of_ble_eq_true rfl) dC_init_19 (fun H locs hH => ?_)
  first | refine lv_aload_n hx hb dC_init_22 rfl (lv_at hl 0 rfl) ?_ | refine lv_aload_nN hx hb dC_init_22 rfl (lv_at hl 0 rfl) ?_
  refine lv_bipush (v := 100) hx hb dC_init_23 (by decide) ?_
  refine rp_newq hC hA hH wk_C_21 ao3 (by decide) (N := 100) (by decide) (by decide) (Nat.le_of_ble_eq_true rfl) (Nat.le_of_ble_eq_true rfl) dC_init_25 (fun q3 c3 H hq3 hC hH => ?_)
  have n3 : a ≠ q3 := fun z => hq3 (by rw [z]; exact List.mem_append_left _ (List.mem_append_left _ (List.mem_singleton.mpr rfl)))
  have n13 : q1 ≠ q3 := fun z => hq3 (by rw [z]; exact List.mem_append_left _ (List.mem_append_right _ (List.mem_singleton.mpr rfl)))
  have n23 : q2 ≠ q3 := fun z => hq3 (by rw [z]; exact List.mem_append_right _ (List.mem_singleton.mpr rfl))
  have hm : a ∈ (([a] ++ [q1]) ++ [q2]) ++ [q3] := List.mem_append_left _ (List.mem_append_left _ (List.mem_append_left _ (List.mem_singleton.mpr rfl)))
  refine rp_putF hC hH inX3 tyX3 tyX3_ok nmX3 hm ((va_up_ne _ _ n3).trans (va_up_self _ _ _)) rfl 6 (by decide) wf_C_23 rfl hnm rfl rfl rfl (Nat.le_of_ble_eq_true rfl) dC_init_28 (fun H locs hH => ?_)
  first | refine lv_aload_n hx hb dC_init_31 rfl (lv_at hl 0 rfl) ?_ | refine lv_aload_nN hx hb dC_init_31 rfl (lv_at hl 0 rfl) ?_
  refine lv_iload_n hx hb dC_init_32 rfl (lv_at hl 1 rfl) ?_
  refine lv_iconst (v := 1) hx hb dC_init_33 (by decide) ?_
  refine lv_iconst (v := 4) hx hb dC_init_34 (by decide) ?_
  refine gcTi hC.fix hl.1 (c_nearest _ _ _) kC_27 ⟨Nat.le_of_ble_eq_true rfl, Nat.le_of_ble_eq_true rfl⟩ dC_init_35 ⟨Nat.le_of_ble_eq_true rfl, Nat.le_of_ble_eq_true rfl⟩ rfl (Nat.le_of_ble_eq_true rfl) (fun r hr1 => ?_)
  subst hr1
  refine rp_putF hC hH inX3 tyX3 tyX3_ok nmX3 hm (va_up_self _ _ _) rfl 0 (by decide) wf_C_31 rfl hnm rfl rfl rfl (Nat.le_of_ble_eq_true rfl) dC_init_38 (fun H locs hH => ?_)
  first | refine lv_aload_n hx hb dC_init_41 rfl (lv_at hl 0 rfl) ?_ | refine lv_aload_nN hx hb dC_init_41 rfl (lv_at hl 0 rfl) ?_
  refine lv_iload_n hx hb dC_init_42 rfl (lv_at hl 2 rfl) ?_
  refine lv_iconst (v := 0) hx hb dC_init_43 (by decide) ?_
  refine lv_ldc hx hb hown (hts _ wq_C_35) dC_init_44 ?_
  refine gcTi hC.fix hl.1 (c_nearest _ _ _) kC_27 ⟨Nat.le_of_ble_eq_true rfl, Nat.le_of_ble_eq_true rfl⟩ dC_init_46 ⟨Nat.le_of_ble_eq_true rfl, Nat.le_of_ble_eq_true rfl⟩ rfl (Nat.le_of_ble_eq_true rfl) (fun r hr1 => ?_)
  subst hr1
  refine rp_putF hC hH inX3 tyX3 tyX3_ok nmX3 hm (va_up_self _ _ _) rfl 1 (by decide) wf_C_36 rfl hnm rfl rfl rfl (Nat.le_of_ble_eq_true rfl) dC_init_49 (fun H locs hH => ?_)
  first | refine lv_aload_n hx hb dC_init_52 rfl (lv_at hl 0 rfl) ?_ | refine lv_aload_nN hx hb dC_init_52 rfl (lv_at hl 0 rfl) ?_
  refine lv_iload_n hx hb dC_init_53 rfl (lv_at hl 3 rfl) ?_
  refine lv_iconst (v := 1) hx hb dC_init_54 (by decide) ?_
  refine lv_sipush (v := 1000) hx hb dC_init_55 (by decide) ?_
  refine gcTi hC.fix hl.1 (c_nearest _ _ _) kC_27 ⟨Nat.le_of_ble_eq_true rfl, Nat.le_of_ble_eq_true rfl⟩ dC_init_58 ⟨Nat.le_of_ble_eq_true rfl, Nat.le_of_ble_eq_true rfl⟩ rfl (Nat.le_of_ble_eq_true rfl) (fun r hr1 => ?_)
  subst hr1
  refine rp_putF hC hH inX3 tyX3 tyX3_ok nmX3 hm (va_up_self _ _ _) rfl 2 (by decide) wf_C_39 rfl hnm rfl rfl rfl (Nat.le_of_ble_eq_true rfl) dC_init_61 (fun H locs hH => ?_)
  simp only [bx_uu] at hH
  have hJ : gH D (cJ ((a, q1, q2, q3), (c1, c2, c3))) (((fun _ => 0), (fun _ => 0), (fun _ => 0)), cs0 (zNear mo 1 4) (zNear bo 0 100000) (zNear id 1 1000)) A s.heap H locs := gH.to hH (cI0 (va_up_self _ _ _) (by rw [va_up_ne _ _ n1.symm, va_up_ne _ _ n13, va_up_ne _ _ n1.symm, va_up_ne _ _ n12, va_up_ne _ _ n1.symm, va_up_self]) (by rw [va_up_ne _ _ n2.symm, va_up_ne _ _ n23, va_up_ne _ _ n2.symm, va_up_self]) (by rw [va_up_ne _ _ n3.symm, va_up_self]))
  exact W.vret hx hb hr (fun t ht hW => ⟨⟨(((a, q1, q2, q3), (c1, c2, c3)), (((fun _ => 0), (fun _ => 0), (fun _ => 0)), cs0 (zNear mo 1 4) (zNear bo 0 100000) (zNear id 1 1000))), rfl, ⟨rfl, rfl⟩, (gH.B (tys := ck_tys ((a, q1, q2, q3), (c1, c2, c3))) hC hJ ht hW).1⟩, (gH.B hC hJ ht hW).2⟩) hJ.L dC_init_64
end C10
