section M4
variable {l : Launch} {D : va_G} {k : mk_F} {x : cs_S} {LL : List Nat} {f : Nat → va_E} {sz : Nat}
set_option maxHeartbeats 600000 in
set_option maxRecDepth 100000 in
theorem m_step (hI : mR k x LL f) : Met l yM_step (wz yM_step bM_step 3 (some .int)) (rmL 2 0 0) (gP D (mk_tys k) LL f sz [.ref (mO k)]) (va_Qi (fun (r : Int32) (u : cs_S) => (u, r) = zStepF x 100) (gB D (mk_tys k) (mR k) (va_A (va_pl LL f) sz)) (va_A (va_pl LL f) sz)) 0 0 (va_A (va_pl LL f) sz) := by
  refine gMet (own := RX4) (u := x) (Qc := fun A => va_Qi (fun (r : Int32) (u : cs_S) => (u, r) = zStepF x 100) (gB D (mk_tys k) (mR k) A) A) (by decide) rfl hI (Nat.le_of_ble_eq_true rfl) ?_
  intro p e s m below meth c ls A hC hr hlk hnm hA hH hl
  have hx := hC.1
  have hb := hC.2.1
  have hml := hC.2.2.2.2.2
  have hts := hC.2.2.1
  have hown := hC.2.2.2.1
  have hl : lv_has ls 3 [(0, _)] := hl
  refine lv_iconst (v := 0) hx hb dM_step_0 (by decide) ?_
  refine lv_istore_n hx hb dM_step_1 rfl hl (by decide) rfl (fun ls hl => ?_)
  have hl : lv_has ls 3 [(1, _), (0, _)] := hl
  refine lv_iconst (v := 0) hx hb dM_step_2 (by decide) ?_
  refine lv_istore_n hx hb dM_step_3 rfl hl (by decide) rfl (fun ls hl => ?_)
  have hl : lv_has ls 3 [(2, _), (1, _), (0, _)] := hl
  refine (?_ : ∀ (n i : Nat) (w : Int32) (ls : Array Slot) (H : Heap) (locs : List Loc), i + n = nR x → w = (zStepF x i).2 → gH D (mR k) (zStepF x i).1 A s.heap H locs → lv_has ls 3 [(0, .ref (mO k)), (1, .int w), (2, .int (nI i))] → W p l e _ s m _ below meth c H locs 0 0 _ (F0 m 4 ls [])) (nR x) 0 0 ls _ _ (Nat.zero_add _) rfl hH (lv_sub hl [2, 1, 0] rfl)
  intro n
  induction n with
  | zero =>
    intro i w ls H locs hin hw hH hl
    obtain ⟨y, hR, hM⟩ := mR.out hH
    have hG := hH
    have hH := hM
    have hnR := hR.n.2.2
    have hb100 := hR.2.1.1.2.2
    rw [zStepF_n] at hnR hb100
    refine lv_iload_n hx hb dM_step_4 rfl (lv_at hl 2 rfl) ?_
    first | refine lv_aload_n hx hb dM_step_5 rfl (lv_at hl 0 rfl) ?_ | refine lv_aload_nN hx hb dM_step_5 rfl (lv_at hl 0 rfl) ?_
    refine gM_requests hC hH dM_step_6 ?_
    refine lv_icmp_ge  (tgt := 38) hx hb dM_step_9 (by decide) (fun h => ?_) (fun h => ?_)
    · refine lv_iload_n hx hb dM_step_38 rfl (lv_at hl 1 rfl) ?_
      obtain rfl : i = nR x := by omega
      have e := zStepF_100 x (100 - nR x)
      rw [show nR x + (100 - nR x) = 100 by omega] at e
      exact grWi hC hr hlk rfl hG (by rw [hw, e]) dM_step_39
    · exact absurd (by rw [hnR]; exact nI_le (by omega) (by omega)) h
  | succ n ih =>
    intro i w ls H locs hin hw hH hl
    obtain ⟨y, hR, hM⟩ := mR.out hH
    have hG := hH
    have hH := hM
    have hnR := hR.n.2.2
    have hb100 := hR.2.1.1.2.2
    rw [zStepF_n] at hnR hb100
    have hi2 : i < nR (zStepF x i).1 := by rw [zStepF_n]; omega
    have hi3 : i < 100 := by omega
    have q := hR.2.2.2.2.2.1 i hi2
    refine lv_iload_n hx hb dM_step_4 rfl (lv_at hl 2 rfl) ?_
    first | refine lv_aload_n hx hb dM_step_5 rfl (lv_at hl 0 rfl) ?_ | refine lv_aload_nN hx hb dM_step_5 rfl (lv_at hl 0 rfl) ?_
    refine gM_requests hC hH dM_step_6 ?_
    refine lv_icmp_ge  (tgt := 38) hx hb dM_step_9 (by decide) (fun h => ?_) (fun h => ?_)
    · exact absurd h (by rw [hnR]; exact nI_ge (by omega) (by omega))
    · first | refine lv_aload_n hx hb dM_step_12 rfl (lv_at hl 0 rfl) ?_ | refine lv_aload_nN hx hb dM_step_12 rfl (lv_at hl 0 rfl) ?_
      refine gM_kind hC hH dM_step_13 ?_
      refine lv_iload_n hx hb dM_step_16 rfl (lv_at hl 2 rfl) ?_
      refine aM_i hC hH (by decide) (by assumption) dM_step_17 ?_
      rw [q.2.2.1]
      refine lv_if_ne  (tgt := 32) hx hb dM_step_18 (by decide) (fun h1 => ?_) (fun h1 => ?_)
      · refine lv_iinc hx hb dM_step_32 hl (k := 2) rfl rfl (by decide) rfl (fun ls hl => ?_)
        have hl : lv_has ls 3 [(2, _), (0, _), (1, _)] := hl
        refine lv_goto (tgt := 4) hx hb dM_step_35 (by decide) ?_
        have hs : zStepF x (i + 1) = zStepF x i := if_neg (fun q => h1 q.2)
        exact ih (i + 1) w ls H locs (by omega) (by rw [hs]; exact hw) (by rw [hs]; exact hG) (by rw [← nI_1 i]; exact lv_sub hl [1, 2, 0] rfl)
      · first | refine lv_aload_n hx hb dM_step_21 rfl (lv_at hl 0 rfl) ?_ | refine lv_aload_nN hx hb dM_step_21 rfl (lv_at hl 0 rfl) ?_
        refine lv_iload_n hx hb dM_step_22 rfl (lv_at hl 2 rfl) ?_
        refine gcWViE hC hl.1 hA hG (fun LL f sz hI => m_goes hI hi2 h1) mR.o rfl rfl kM_128 ⟨Nat.le_of_ble_eq_true rfl, Nat.le_of_ble_eq_true rfl⟩ dM_step_23 ⟨Nat.le_of_ble_eq_true rfl, Nat.le_of_ble_eq_true rfl⟩ rfl (Nat.le_of_ble_eq_true rfl) (fun r u H locs hp hH => ?_)
        have hs : zStepF x (i + 1) = (u, if r = 0 then (zStepF x i).2 else (zStepF x i).2 + 1) := by
          rw [show zStepF x (i + 1) = _ from if_pos ⟨hi2, h1⟩, ← hp]
        refine lv_if_eq  (tgt := 32) hx hb dM_step_26 (by decide) (fun h2 => ?_) (fun h2 => ?_)
        · refine lv_iinc hx hb dM_step_32 hl (k := 2) rfl rfl (by decide) rfl (fun ls hl => ?_)
          have hl : lv_has ls 3 [(2, _), (0, _), (1, _)] := hl
          refine lv_goto (tgt := 4) hx hb dM_step_35 (by decide) ?_
          exact ih (i + 1) w ls H locs (by omega) (by rw [hs, hw]; exact (if_pos h2).symm) (by rw [hs]; exact hH) (by rw [← nI_1 i]; exact lv_sub hl [1, 2, 0] rfl)
        · refine lv_iinc hx hb dM_step_29 hl (k := 1) rfl rfl (by decide) rfl (fun ls hl => ?_)
          have hl : lv_has ls 3 [(1, _), (0, _), (2, _)] := hl
          refine lv_iinc hx hb dM_step_32 hl (k := 2) rfl rfl (by decide) rfl (fun ls hl => ?_)
          have hl : lv_has ls 3 [(2, _), (1, _), (0, _)] := hl
          refine lv_goto (tgt := 4) hx hb dM_step_35 (by decide) ?_
          exact ih (i + 1) (w + Int32.ofInt 1) ls H locs (by omega) (by rw [hs, hw]; exact (if_neg h2).symm) (by rw [hs]; exact hH) (by rw [← nI_1 i]; exact lv_sub hl [2, 1, 0] rfl)
set_option maxHeartbeats 600000 in
set_option maxRecDepth 100000 in
theorem m_crash (hI : mR k x LL f) (v : Int32) : Met l yM_crash (wz yM_crash bM_crash 4 (some .int)) (rmL 1 0 0) (gP D (mk_tys k) LL f sz [.ref (mO k), .int v]) (va_Qi (fun (r : Int32) (u : cs_S) => (u, r) = zCra x v) (gB D (mk_tys k) (mR k) (va_A (va_pl LL f) sz)) (va_A (va_pl LL f) sz)) 0 0 (va_A (va_pl LL f) sz) := by
  refine gMet (own := RX4) (u := x) (Qc := fun A => va_Qi (fun (r : Int32) (u : cs_S) => (u, r) = zCra x v) (gB D (mk_tys k) (mR k) A) A) (by decide) rfl hI (Nat.le_of_ble_eq_true rfl) ?_
  intro p e s m below meth c ls A hC hr hlk hnm hA hH hl
  obtain ⟨y, hR, hH⟩ := mR.out hH
  obtain ⟨hnT, hnW, hnR⟩ := hR.n
  have hok := hR.2.1
  have hb6 := hok.1.1
  have hb60 := hok.1.2.1
  have hb100 := hok.1.2.2
  have hx := hC.1
  have hb := hC.2.1
  have hml := hC.2.2.2.2.2
  have hts := hC.2.2.1
  have hown := hC.2.2.2.1
  have hl : lv_has ls 4 [(0, _), (1, _)] := hl
  refine lv_iload_n hx hb dM_crash_0 rfl (lv_at hl 1 rfl) ?_
  first | refine lv_aload_n hx hb dM_crash_1 rfl (lv_at hl 0 rfl) ?_ | refine lv_aload_nN hx hb dM_crash_1 rfl (lv_at hl 0 rfl) ?_
  refine gM_workers hC hH dM_crash_2 ?_
  refine gcTi hC.fix hl.1 (m_in v (yW y) (by omega)) kM_96 ⟨Nat.le_of_ble_eq_true rfl, Nat.le_of_ble_eq_true rfl⟩ dM_crash_5 ⟨Nat.le_of_ble_eq_true rfl, Nat.le_of_ble_eq_true rfl⟩ rfl (Nat.le_of_ble_eq_true rfl) (fun r hr1 => ?_)
  rcases hr1 with ⟨i, hi, hv, rfl⟩ | ⟨hv, rfl⟩
  · have hi2 : i < nW x := by rw [← hnW]; exact hi
    have hi3 : i < 60 := by omega
    have hkk : lk (nW x) v = some i := by rw [hv]; exact lk_in hi2 (by omega)
    subst hv
    have q0 := hR.2.2.2.2.1 i hi2
    refine lv_if_eq  (tgt := 21) hx hb dM_crash_8 (by decide) (fun h => ?_) (fun h => ?_)
    · exact absurd h (by decide)
    · first | refine lv_aload_n hx hb dM_crash_11 rfl (lv_at hl 0 rfl) ?_ | refine lv_aload_nN hx hb dM_crash_11 rfl (lv_at hl 0 rfl) ?_
      refine gM_state hC hH dM_crash_12 ?_
      refine lv_iload_n hx hb dM_crash_15 rfl (lv_at hl 1 rfl) ?_
      refine aM_i hC hH (by decide) (by assumption) dM_crash_16 ?_
      refine lv_iconst (v := 2) hx hb dM_crash_17 (by decide) ?_
      rw [q0.2.1]
      refine lv_icmp_ne  (tgt := 23) hx hb dM_crash_18 (by decide) (fun h2 => ?_) (fun h2 => ?_)
      · have h0 : wEn (gW x i) = 0 := Classical.byContradiction (fun z => h2 (zSt_2.mpr z))
        first | refine lv_aload_n hx hb dM_crash_23 rfl (lv_at hl 0 rfl) ?_ | refine lv_aload_nN hx hb dM_crash_23 rfl (lv_at hl 0 rfl) ?_
        refine gM_state hC hH dM_crash_24 ?_
        refine lv_iload_n hx hb dM_crash_27 rfl (lv_at hl 1 rfl) ?_
        refine aM_i hC hH (by decide) (by assumption) dM_crash_28 ?_
        refine lv_iconst (v := 1) hx hb dM_crash_29 (by decide) ?_
        rw [q0.2.1]
        refine lv_icmp_ne  (tgt := 37) hx hb dM_crash_30 (by decide) (fun h3 => ?_) (fun h3 => ?_)
        · have hq : wRq (gW x i) = none := Classical.byContradiction (fun z => h3 (zSt_1.mpr ⟨h0, z⟩))
          refine lv_iconst (v := 0) hx hb dM_crash_37 (by decide) ?_
          refine lv_istore_n hx hb dM_crash_38 rfl hl (by decide) rfl (fun ls hl => ?_)
          have hl : lv_has ls 4 [(2, _), (0, _), (1, _)] := hl
          first | refine lv_aload_n hx hb dM_crash_39 rfl (lv_at hl 1 rfl) ?_ | refine lv_aload_nN hx hb dM_crash_39 rfl (lv_at hl 1 rfl) ?_
          refine lv_iload_n hx hb dM_crash_40 rfl (lv_at hl 2 rfl) ?_
          refine lv_iconst (v := 3) hx hb dM_crash_41 (by decide) ?_
          refine gcWVi hC hl.1 hA hH (fun LL f sz hI => m_ends hI hi3 3) mJ.o rfl rfl kM_137 ⟨Nat.le_of_ble_eq_true rfl, Nat.le_of_ble_eq_true rfl⟩ dM_crash_42 ⟨Nat.le_of_ble_eq_true rfl, Nat.le_of_ble_eq_true rfl⟩ rfl (Nat.le_of_ble_eq_true rfl) (fun r u H locs hp hH => ?_)
          obtain ⟨hp1, hp2⟩ := hp
          subst hp1
          refine lv_istore_n hx hb dM_crash_45 rfl hl (by decide) rfl (fun ls hl => ?_)
          have hl : lv_has ls 4 [(3, _), (2, _), (0, _), (1, _)] := hl
          refine lv_iload_n hx hb dM_crash_46 rfl (lv_at hl 1 rfl) ?_
          refine lv_if_eq  (tgt := 79) hx hb dM_crash_47 (by decide) (fun h4 => ?_) (fun h4 => ?_)
          · refine lv_iconst (v := 1) hx hb dM_crash_79 (by decide) ?_
            have hR2 := (hR.endRe0 hi2 (r := 3) (by decide) hq).1
            exact grWi hC hr hlk rfl (mR.in hR2 hH) (by simp only [zCra, hkk, hq]; rw [if_pos h0]) dM_crash_80
          · exact absurd rfl h4
        · rcases hq : wRq (gW x i) with _ | j
          · exact absurd hq (zSt_1.mp h3).2
          · have hj := (hok.2.1 i hi2).2 j hq
            have hj3 : j < 100 := by omega
            refine lv_iconst (v := 1) hx hb dM_crash_33 (by decide) ?_
            refine lv_goto (tgt := 38) hx hb dM_crash_34 (by decide) ?_
            refine lv_istore_n hx hb dM_crash_38 rfl hl (by decide) rfl (fun ls hl => ?_)
            have hl : lv_has ls 4 [(2, _), (0, _), (1, _)] := hl
            first | refine lv_aload_n hx hb dM_crash_39 rfl (lv_at hl 1 rfl) ?_ | refine lv_aload_nN hx hb dM_crash_39 rfl (lv_at hl 1 rfl) ?_
            refine lv_iload_n hx hb dM_crash_40 rfl (lv_at hl 2 rfl) ?_
            refine lv_iconst (v := 3) hx hb dM_crash_41 (by decide) ?_
            refine gcWVi hC hl.1 hA hH (fun LL f sz hI => m_ends hI hi3 3) mJ.o rfl rfl kM_137 ⟨Nat.le_of_ble_eq_true rfl, Nat.le_of_ble_eq_true rfl⟩ dM_crash_42 ⟨Nat.le_of_ble_eq_true rfl, Nat.le_of_ble_eq_true rfl⟩ rfl (Nat.le_of_ble_eq_true rfl) (fun r u H locs hp hH => ?_)
            obtain ⟨hp1, hp2⟩ := hp
            subst hp1
            obtain rfl : r = nI j := by rw [hp2]; exact q0.2.2.2.2.1 j hq
            have hat := hR.atEnd (i := i) hj 3
            have hu : ∀ (c : cs_R) (v : Int64), rTo (qDone c none v) = rTo c ∧ rWk (qDone c none v) = none := fun c v => by
              unfold qDone
              split <;> exact ⟨rfl, rfl⟩
            obtain ⟨ov, hov⟩ : ∃ ov, ov = os (wEd (gW x i)) (rIn (gR x j)) := ⟨_, rfl⟩
            refine lv_istore_n hx hb dM_crash_45 rfl hl (by decide) rfl (fun ls hl => ?_)
            have hl : lv_has ls 4 [(3, _), (2, _), (0, _), (1, _)] := hl
            refine lv_iload_n hx hb dM_crash_46 rfl (lv_at hl 1 rfl) ?_
            refine lv_if_eq  (tgt := 79) hx hb dM_crash_47 (by decide) (fun h4 => ?_) (fun h4 => ?_)
            · exact absurd h4 (by decide)
            · first | refine lv_aload_n hx hb dM_crash_50 rfl (lv_at hl 2 rfl) ?_ | refine lv_aload_nN hx hb dM_crash_50 rfl (lv_at hl 2 rfl) ?_
              refine lv_iload_n hx hb dM_crash_51 rfl (lv_at hl 0 rfl) ?_
              refine gcWVi hC hl.1 hA hH (fun LL f sz hI => m_lets hI hj3) mJ.o rfl rfl kM_103 ⟨Nat.le_of_ble_eq_true rfl, Nat.le_of_ble_eq_true rfl⟩ dM_crash_52 ⟨Nat.le_of_ble_eq_true rfl, Nat.le_of_ble_eq_true rfl⟩ rfl (Nat.le_of_ble_eq_true rfl) (fun r2 u H locs hp hH => ?_)
              obtain ⟨hp1, hp2⟩ := hp
              subst hp1
              refine lv_if_ne  (tgt := 79) hx hb dM_crash_55 (by decide) (fun h5 => ?_) (fun h5 => ?_)
              · have h6 : ¬ MI (yEnd y i 3) 25 j = 0 := fun z => h5 (by rw [hp2, if_pos z])
                refine lv_iconst (v := 1) hx hb dM_crash_79 (by decide) ?_
                have hx2 := hat.ans ov
                rw [if_neg h6] at hx2
                have hR2 := hR.endBusy hi2 hj (r := 3) (by decide) hq (y' := yLet (yEnd y i 3) j) (r' := qDone (gR x j) none ov) fr.rf.let (fr.yEnd i 3 j).let hx2 (hu _ _).1 (hu _ _).2
                exact grWi hC hr hlk rfl (mR.in hR2 hH) (by simp only [zCra, hkk, hq]; rw [if_pos h0, ← hov]) dM_crash_80
              · have h6 : MI (yEnd y i 3) 25 j = 0 := Classical.byContradiction (fun z => by rw [hp2, if_neg z] at h5; exact absurd h5 (by decide))
                first | refine lv_aload_n hx hb dM_crash_58 rfl (lv_at hl 2 rfl) ?_ | refine lv_aload_nN hx hb dM_crash_58 rfl (lv_at hl 2 rfl) ?_
                refine lv_iload_n hx hb dM_crash_59 rfl (lv_at hl 0 rfl) ?_
                first | refine lv_aload_n hx hb dM_crash_60 rfl (lv_at hl 2 rfl) ?_ | refine lv_aload_nN hx hb dM_crash_60 rfl (lv_at hl 2 rfl) ?_
                first | refine lv_aload_n hx hb dM_crash_61 rfl (lv_at hl 2 rfl) ?_ | refine lv_aload_nN hx hb dM_crash_61 rfl (lv_at hl 2 rfl) ?_
                refine gM_startedWith hC hH dM_crash_62 ?_
                refine lv_iload_n hx hb dM_crash_65 rfl (lv_at hl 3 rfl) ?_
                refine aM_l hC hH (by decide) (by assumption) dM_crash_66 ?_
                first | refine lv_aload_n hx hb dM_crash_67 rfl (lv_at hl 2 rfl) ?_ | refine lv_aload_nN hx hb dM_crash_67 rfl (lv_at hl 2 rfl) ?_
                refine gM_input hC hH dM_crash_68 ?_
                refine lv_iload_n hx hb dM_crash_71 rfl (lv_at hl 0 rfl) ?_
                refine aM_l hC hH (by decide) (by assumption) dM_crash_72 ?_
                refine gcVl hC hl.1 hH (fun LL f sz hI => m_oneShot hI _ _) mJ.o rfl rfl kM_110 ⟨Nat.le_of_ble_eq_true rfl, Nat.le_of_ble_eq_true rfl⟩ dM_crash_73 ⟨Nat.le_of_ble_eq_true rfl, Nat.le_of_ble_eq_true rfl⟩ rfl (Nat.le_of_ble_eq_true rfl) (fun v hv => ?_)
                have hv2 : v = ov := by rw [hv, hov, ML_let]; show os (ML y 18 i) (ML y 27 j) = _; rw [q0.2.2.2.2.2.2.2.2.1, (hR.2.2.2.2.2.1 j hj).2.2.2.2.2.2.2.2.1]
                clear hv
                subst hv2
                refine gcWVv hC hl.1 hA hH (fun LL f sz hI => m_answers hI hj3 v) mJ.o rfl rfl kM_114 ⟨Nat.le_of_ble_eq_true rfl, Nat.le_of_ble_eq_true rfl⟩ dM_crash_76 ⟨Nat.le_of_ble_eq_true rfl, Nat.le_of_ble_eq_true rfl⟩ rfl (Nat.le_of_ble_eq_true rfl) (fun u H locs hp hH => ?_)
                subst hp
                refine lv_iconst (v := 1) hx hb dM_crash_79 (by decide) ?_
                have hx2 := hat.ans v
                rw [if_pos h6] at hx2
                have hR2 := hR.endBusy hi2 hj (r := 3) (by decide) hq (y' := yAns (yLet (yEnd y i 3) j) j v) (r' := qDone (gR x j) none v) (fr.rf.let.ans v) ((fr.yEnd i 3 j).let.ans v) hx2 (hu _ _).1 (hu _ _).2
                exact grWi hC hr hlk rfl (mR.in hR2 hH) (by simp only [zCra, hkk, hq]; rw [if_pos h0, ← hov]) dM_crash_80
      · have h0 : ¬ wEn (gW x i) = 0 := zSt_2.mp h2
        refine lv_iconst (v := -1) hx hb dM_crash_21 (by decide) ?_
        exact grWi hC hr hlk rfl (mR.in hR hH) (by simp only [zCra, hkk]; rw [if_neg h0]) dM_crash_22
  · have hkk : lk (nW x) v = none := lk_out (fun i hi => hv i (by rw [hnW]; exact hi))
    refine lv_if_eq  (tgt := 21) hx hb dM_crash_8 (by decide) (fun h => ?_) (fun h => ?_)
    · refine lv_iconst (v := -1) hx hb dM_crash_21 (by decide) ?_
      exact grWi hC hr hlk rfl (mR.in hR hH) (by simp only [zCra, hkk]) dM_crash_22
    · exact absurd rfl h
end M4
