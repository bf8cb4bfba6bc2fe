section C7
variable {l : Launch} {D : va_G} {k : ck_F} {d : ck_A} {x : cs_S} {LL : List Nat} {f : Nat → va_E} {sz : Nat}
theorem zEnd_0 {w : cs_W} : zEnd w = 0 ↔ wEn w = 0 := by
  unfold zEnd
  split
  · next h => exact ⟨fun _ => h, fun _ => rfl⟩
  · next h => exact ⟨fun q => absurd q (by decide), fun q => absurd q h⟩
set_option maxHeartbeats 600000 in
set_option maxRecDepth 100000 in
theorem c_crash (hI : cJ k (d, x) LL f) (v : Int32) : Met l yC_crash (wz yC_crash bC_crash 4 (some .int)) (rmL 2 0 0) (gP D (ck_tys k) LL f sz [.ref (kO k), .int v]) (va_Qi (fun (r : Int32) (u : ck_A × cs_S) => (u.2, r) = zCra x v) (gB D (ck_tys k) (cJ k) (va_A (va_pl LL f) sz)) (va_A (va_pl LL f) sz)) 0 0 (va_A (va_pl LL f) sz) := by
  refine gMet (own := RX3) (u := (d, x)) (Qc := fun A => va_Qi (fun (r : Int32) (u : ck_A × cs_S) => (u.2, r) = zCra x v) (gB D (ck_tys k) (cJ k) A) A) (by decide) rfl hI (Nat.le_of_ble_eq_true rfl) ?_
  intro p e s m below meth c ls A hC hr hlk hnm hA hH hl
  have hx := hC.1
  have hb := hC.2.1
  have hml := hC.2.2.2.2.2
  have hts := hC.2.2.1
  have hown := hC.2.2.2.1
  have hl : lv_has ls 4 [(0, _), (1, _)] := hl
  have hn6 := (cG.ok hH).1.2.1
  first | refine lv_aload_n hx hb dC_crash_0 rfl (lv_at hl 0 rfl) ?_ | refine lv_aload_nN hx hb dC_crash_0 rfl (lv_at hl 0 rfl) ?_
  refine lv_iload_n hx hb dC_crash_1 rfl (lv_at hl 1 rfl) ?_
  refine gcVq hC hl.1 hH (fun LL f sz hI => c_workerAt hI v) cJ.o rfl rfl kC_100 ⟨Nat.le_of_ble_eq_true rfl, Nat.le_of_ble_eq_true rfl⟩ dC_crash_2 ⟨Nat.le_of_ble_eq_true rfl, Nat.le_of_ble_eq_true rfl⟩ rfl (Nat.le_of_ble_eq_true rfl) (fun o ho => ?_)
  rcases ho with ⟨i, hi, hv, rfl⟩ | ⟨hv, rfl⟩
  · have hkk : lk (nW x) v = some i := by rw [hv]; exact lk_in hi (by omega)
    first | refine lv_astore_n hx hb dC_crash_5 rfl hl (by decide) rfl (fun ls hl => ?_) | refine lv_astore_nN hx hb dC_crash_5 rfl hl (by decide) rfl (fun ls hl => ?_)
    have hl : lv_has ls 4 [(2, _), (0, _), (1, _)] := hl
    first | refine lv_aload_n hx hb dC_crash_6 rfl (lv_at hl 0 rfl) ?_ | refine lv_aload_nN hx hb dC_crash_6 rfl (lv_at hl 0 rfl) ?_
    first | refine lv_ifnull hx hb dC_crash_7 ?_ | refine lv_ifnullN (tgt := 17) hx hb dC_crash_7 (by decide) ?_
    first | refine lv_aload_n hx hb dC_crash_10 rfl (lv_at hl 0 rfl) ?_ | refine lv_aload_nN hx hb dC_crash_10 rfl (lv_at hl 0 rfl) ?_
    refine gcSi hC hl.1 hH (fun LL f sz hI => c_isEnded hI hi) kC_63 ⟨Nat.le_of_ble_eq_true rfl, Nat.le_of_ble_eq_true rfl⟩ dC_crash_11 ⟨Nat.le_of_ble_eq_true rfl, Nat.le_of_ble_eq_true rfl⟩ rfl (Nat.le_of_ble_eq_true rfl) (fun r hr1 => ?_)
    refine lv_if_eq  (tgt := 19) hx hb dC_crash_14 (by decide) (fun h => ?_) (fun h => ?_)
    · have h0 : wEn (gW x i) = 0 := zEnd_0.mp (by rw [← hr1]; exact h)
      first | refine lv_aload_n hx hb dC_crash_19 rfl (lv_at hl 0 rfl) ?_ | refine lv_aload_nN hx hb dC_crash_19 rfl (lv_at hl 0 rfl) ?_
      refine gC_W_request hC hH (by assumption) dC_crash_20 ?_
      rcases hq : wRq (gW x i) with _ | j
      · first | refine lv_astore_n hx hb dC_crash_23 rfl hl (by decide) rfl (fun ls hl => ?_) | refine lv_astore_nN hx hb dC_crash_23 rfl hl (by decide) rfl (fun ls hl => ?_)
        have hl : lv_has ls 4 [(3, _), (2, _), (0, _), (1, _)] := hl
        first | refine lv_aload_n hx hb dC_crash_24 rfl (lv_at hl 1 rfl) ?_ | refine lv_aload_nN hx hb dC_crash_24 rfl (lv_at hl 1 rfl) ?_
        refine lv_null hx hb dC_crash_25 ?_
        first | refine pC_W_requestN hC hH (by assumption) dC_crash_26 (fun H locs hH => ?_) | refine pC_W_requestR hC hH (by assumption) (by assumption) dC_crash_26 (fun H locs hH => ?_)
        first | refine lv_aload_n hx hb dC_crash_29 rfl (lv_at hl 1 rfl) ?_ | refine lv_aload_nN hx hb dC_crash_29 rfl (lv_at hl 1 rfl) ?_
        refine lv_iconst (v := 3) hx hb dC_crash_30 (by decide) ?_
        refine pC_W_endedBy hC hH (by assumption) dC_crash_31 (fun H locs hH => ?_)
        first | refine lv_aload_n hx hb dC_crash_34 rfl (lv_at hl 0 rfl) ?_ | refine lv_aload_nN hx hb dC_crash_34 rfl (lv_at hl 0 rfl) ?_
        first | refine lv_ifnull hx hb dC_crash_35 ?_ | refine lv_ifnullN (tgt := 54) hx hb dC_crash_35 (by decide) ?_
        refine lv_iconst (v := 1) hx hb dC_crash_54 (by decide) ?_
        exact grWi hC hr hlk rfl hH (by simp only [zCra, hkk, hq, sW_sW, gW_self]; rw [if_pos h0]) dC_crash_55
      · have hj := ((cG.ok hH).2.1 i hi).2 j hq
        first | refine lv_astore_n hx hb dC_crash_23 rfl hl (by decide) rfl (fun ls hl => ?_) | refine lv_astore_nN hx hb dC_crash_23 rfl hl (by decide) rfl (fun ls hl => ?_)
        have hl : lv_has ls 4 [(3, _), (2, _), (0, _), (1, _)] := hl
        first | refine lv_aload_n hx hb dC_crash_24 rfl (lv_at hl 1 rfl) ?_ | refine lv_aload_nN hx hb dC_crash_24 rfl (lv_at hl 1 rfl) ?_
        refine lv_null hx hb dC_crash_25 ?_
        first | refine pC_W_requestN hC hH (by assumption) dC_crash_26 (fun H locs hH => ?_) | refine pC_W_requestR hC hH (by assumption) (by assumption) dC_crash_26 (fun H locs hH => ?_)
        first | refine lv_aload_n hx hb dC_crash_29 rfl (lv_at hl 1 rfl) ?_ | refine lv_aload_nN hx hb dC_crash_29 rfl (lv_at hl 1 rfl) ?_
        refine lv_iconst (v := 3) hx hb dC_crash_30 (by decide) ?_
        refine pC_W_endedBy hC hH (by assumption) dC_crash_31 (fun H locs hH => ?_)
        first | refine lv_aload_n hx hb dC_crash_34 rfl (lv_at hl 0 rfl) ?_ | refine lv_aload_nN hx hb dC_crash_34 rfl (lv_at hl 0 rfl) ?_
        first | refine lv_ifnull hx hb dC_crash_35 ?_ | refine lv_ifnullN (tgt := 54) hx hb dC_crash_35 (by decide) ?_
        first | refine lv_aload_n hx hb dC_crash_38 rfl (lv_at hl 0 rfl) ?_ | refine lv_aload_nN hx hb dC_crash_38 rfl (lv_at hl 0 rfl) ?_
        refine lv_null hx hb dC_crash_39 ?_
        first | refine lv_aload_n hx hb dC_crash_40 rfl (lv_at hl 1 rfl) ?_ | refine lv_aload_nN hx hb dC_crash_40 rfl (lv_at hl 1 rfl) ?_
        refine gC_W_edition hC hH (by assumption) dC_crash_41 ?_
        first | refine lv_aload_n hx hb dC_crash_44 rfl (lv_at hl 0 rfl) ?_ | refine lv_aload_nN hx hb dC_crash_44 rfl (lv_at hl 0 rfl) ?_
        refine gC_R_input hC hH (by assumption) dC_crash_45 ?_
        refine gcTl hC.fix hl.1 (c_freshRun _ _) kC_141 ⟨Nat.le_of_ble_eq_true rfl, Nat.le_of_ble_eq_true rfl⟩ dC_crash_48 ⟨Nat.le_of_ble_eq_true rfl, Nat.le_of_ble_eq_true rfl⟩ rfl (Nat.le_of_ble_eq_true rfl) (fun r hr1 => ?_)
        subst hr1
        refine gcWSv hC hl.1 hA hH (fun LL f sz hI => c_leaveDoneN hI hj _) kC_124 ⟨Nat.le_of_ble_eq_true rfl, Nat.le_of_ble_eq_true rfl⟩ dC_crash_51 ⟨Nat.le_of_ble_eq_true rfl, Nat.le_of_ble_eq_true rfl⟩ rfl (Nat.le_of_ble_eq_true rfl) (fun u H locs hp hH => ?_)
        subst hp
        refine lv_iconst (v := 1) hx hb dC_crash_54 (by decide) ?_
        exact grWi hC hr hlk rfl hH (by simp only [zCra, hkk, hq, sW_sW, gW_self, gR_sW]; rw [if_pos h0]) dC_crash_55
    · have h0 : ¬ wEn (gW x i) = 0 := fun q => h (by rw [hr1]; exact zEnd_0.mpr q)
      refine lv_iconst (v := -1) hx hb dC_crash_17 (by decide) ?_
      exact grWi hC hr hlk rfl hH (by simp only [zCra, hkk]; rw [if_neg h0]) dC_crash_18
  · have hkk : lk (nW x) v = none := lk_out hv
    first | refine lv_astore_n hx hb dC_crash_5 rfl hl (by decide) rfl (fun ls hl => ?_) | refine lv_astore_nN hx hb dC_crash_5 rfl hl (by decide) rfl (fun ls hl => ?_)
    have hl : lv_has ls 4 [(2, _), (0, _), (1, _)] := hl
    first | refine lv_aload_n hx hb dC_crash_6 rfl (lv_at hl 0 rfl) ?_ | refine lv_aload_nN hx hb dC_crash_6 rfl (lv_at hl 0 rfl) ?_
    first | refine lv_ifnull hx hb dC_crash_7 ?_ | refine lv_ifnullN (tgt := 17) hx hb dC_crash_7 (by decide) ?_
    refine lv_iconst (v := -1) hx hb dC_crash_17 (by decide) ?_
    exact grWi hC hr hlk rfl hH (by simp only [zCra, hkk]) dC_crash_18
set_option maxHeartbeats 600000 in
set_option maxRecDepth 100000 in
theorem c_tick (hI : cJ k (d, x) LL f) (v : Int32) : Met l yC_tick (wz yC_tick bC_tick 7 (some .int)) (rmL 2 0 0) (gP D (ck_tys k) LL f sz [.ref (kO k), .int v]) (va_Qi (fun (r : Int32) (u : ck_A × cs_S) => (u.2, r) = zTick x v) (gB D (ck_tys k) (cJ k) (va_A (va_pl LL f) sz)) (va_A (va_pl LL f) sz)) 0 0 (va_A (va_pl LL f) sz) := by
  refine gMet (own := RX3) (u := (d, x)) (Qc := fun A => va_Qi (fun (r : Int32) (u : ck_A × cs_S) => (u.2, r) = zTick x v) (gB D (ck_tys k) (cJ k) A) A) (by decide) rfl hI (Nat.le_of_ble_eq_true rfl) ?_
  intro p e s m below meth c ls A hC hr hlk hnm hA hH hl
  have hx := hC.1
  have hb := hC.2.1
  have hml := hC.2.2.2.2.2
  have hts := hC.2.2.1
  have hown := hC.2.2.2.1
  have hl : lv_has ls 7 [(0, _), (1, _)] := hl
  refine lv_iload_n hx hb dC_tick_0 rfl (lv_at hl 1 rfl) ?_
  refine lv_if_lt  (tgt := 22) hx hb dC_tick_1 (by decide) (fun h => ?_) (fun h => ?_)
  · refine lv_iconst (v := -1) hx hb dC_tick_22 (by decide) ?_
    exact grWi hC hr hlk rfl hH (by rw [zTick, if_pos (Or.inl h)]) dC_tick_23
  · refine lv_iload_n hx hb dC_tick_4 rfl (lv_at hl 1 rfl) ?_
    refine lv_sipush (v := 10000) hx hb dC_tick_5 (by decide) ?_
    refine lv_icmp_gt  (tgt := 22) hx hb dC_tick_8 (by decide) (fun h2 => ?_) (fun h2 => ?_)
    · refine lv_iconst (v := -1) hx hb dC_tick_22 (by decide) ?_
      exact grWi hC hr hlk rfl hH (by rw [zTick, if_pos (Or.inr (Or.inl h2))]) dC_tick_23
    · first | refine lv_aload_n hx hb dC_tick_11 rfl (lv_at hl 0 rfl) ?_ | refine lv_aload_nN hx hb dC_tick_11 rfl (lv_at hl 0 rfl) ?_
      refine gC_C_clock hC hH dC_tick_12 ?_
      refine lv_ldc hx hb hown (hts _ wq_C_145) dC_tick_15 ?_
      refine lv_iload_n hx hb dC_tick_17 rfl (lv_at hl 1 rfl) ?_
      refine lv_isub hx hb dC_tick_18 ?_
      refine lv_icmp_le  (tgt := 24) hx hb dC_tick_19 (by decide) (fun h3 => ?_) (fun h3 => ?_)
      · first | refine lv_aload_n hx hb dC_tick_24 rfl (lv_at hl 0 rfl) ?_ | refine lv_aload_nN hx hb dC_tick_24 rfl (lv_at hl 0 rfl) ?_
        refine lv_dup hx hb dC_tick_25 rfl ?_
        refine gC_C_clock hC hH dC_tick_26 ?_
        refine lv_iload_n hx hb dC_tick_29 rfl (lv_at hl 1 rfl) ?_
        refine lv_iadd hx hb dC_tick_30 ?_
        refine pC_C_clock hC hH dC_tick_31 (fun H locs hH => ?_)
        refine lv_iconst (v := 0) hx hb dC_tick_34 (by decide) ?_
        refine lv_istore_n hx hb dC_tick_35 rfl hl (by decide) rfl (fun ls hl => ?_)
        have hl : lv_has ls 7 [(2, _), (0, _), (1, _)] := hl
        first | refine lv_aload_n hx hb dC_tick_36 rfl (lv_at hl 1 rfl) ?_ | refine lv_aload_nN hx hb dC_tick_36 rfl (lv_at hl 1 rfl) ?_
        refine gC_C_workers hC hH dC_tick_37 ?_
        first | refine lv_astore_n hx hb dC_tick_40 rfl hl (by decide) rfl (fun ls hl => ?_) | refine lv_astore_nN hx hb dC_tick_40 rfl hl (by decide) rfl (fun ls hl => ?_)
        have hl : lv_has ls 7 [(3, _), (2, _), (0, _), (1, _)] := hl
        first | refine lv_aload_n hx hb dC_tick_41 rfl (lv_at hl 0 rfl) ?_ | refine lv_aload_nN hx hb dC_tick_41 rfl (lv_at hl 0 rfl) ?_
        first | refine lC_T hC hH dC_tick_42 ?_ | refine lC_W hC hH dC_tick_42 ?_ | refine lC_R hC hH dC_tick_42 ?_
        refine lv_istore hx hb dC_tick_43 hl (by decide) rfl (fun ls hl => ?_)
        have hl : lv_has ls 7 [(4, _), (3, _), (2, _), (0, _), (1, _)] := hl
        refine lv_iconst (v := 0) hx hb dC_tick_45 (by decide) ?_
        refine lv_istore hx hb dC_tick_46 hl (by decide) rfl (fun ls hl => ?_)
        have hl : lv_has ls 7 [(5, _), (4, _), (3, _), (2, _), (0, _), (1, _)] := hl
        generalize hy : sCl x (cCl x + v) = y at hH
        refine (?_ : ∀ (n i : Nat) (b w : Int32) (ls : Array Slot) (H : Heap) (locs : List Loc), i + n = 60 → b = nI i → w = (zTkF y i).2 → cG D k d (zTkF y i).1 A s.heap H locs → lv_has ls 7 [(0, .ref (kO k)), (2, .int w), (3, .ref (kWs k)), (4, .int 60), (5, .int b)] → W p l e _ s m _ below meth c H locs 0 0 _ (F0 m 48 ls [])) 60 0 0 0 ls _ _ rfl rfl rfl hH (lv_sub hl [4, 3, 2, 1, 0] rfl)
        intro n
        induction n with
        | zero =>
          intro i b w ls H locs hin hb2 hw hH hl
          obtain rfl : i = 60 := by omega
          refine lv_iload hx hb dC_tick_48 (lv_at hl 4 rfl) ?_
          refine lv_iload hx hb dC_tick_50 (lv_at hl 3 rfl) ?_
          refine lv_icmp_ge  (tgt := 106) hx hb dC_tick_52 (by decide) (fun h9 => ?_) (fun h9 => ?_)
          · refine lv_iload_n hx hb dC_tick_106 rfl (lv_at hl 1 rfl) ?_
            exact grWi hC hr hlk rfl hH (by rw [hw, zTick, if_neg (by rintro (q | q | q); exact h q; exact h2 q; exact q h3), hy]) dC_tick_107
          · exact absurd (by rw [hb2]; exact nI_le (a := 60) (by omega) (by omega)) h9
        | succ n ih =>
          intro i b w ls H locs hin hb2 hw hH hl
          have hn := (cG.ok hH).1.2.1
          refine lv_iload hx hb dC_tick_48 (lv_at hl 4 rfl) ?_
          refine lv_iload hx hb dC_tick_50 (lv_at hl 3 rfl) ?_
          refine lv_icmp_ge  (tgt := 106) hx hb dC_tick_52 (by decide) (fun h9 => ?_) (fun h9 => ?_)
          · exact absurd h9 (by rw [hb2]; exact nI_ge (b := 60) (by omega) (by decide))
          · first | refine lv_aload_n hx hb dC_tick_55 rfl (lv_at hl 2 rfl) ?_ | refine lv_aload_nN hx hb dC_tick_55 rfl (lv_at hl 2 rfl) ?_
            refine lv_iload hx hb dC_tick_56 (lv_at hl 4 rfl) ?_
            by_cases hi : i < nW (zTkF y i).1
            · refine aC_W hC hH hi hb2 dC_tick_58 ?_
              first | refine lv_astore hx hb dC_tick_59 hl (by decide) rfl (fun ls hl => ?_) | refine lv_astoreN hx hb dC_tick_59 hl (by decide) rfl (fun ls hl => ?_)
              have hl : lv_has ls 7 [(6, _), (0, _), (2, _), (3, _), (4, _), (5, _)] := hl
              first | refine lv_aload hx hb dC_tick_61 (lv_at hl 0 rfl) ?_ | refine lv_aloadN hx hb dC_tick_61 (lv_at hl 0 rfl) ?_
              first | refine lv_ifnull hx hb dC_tick_63 ?_ | refine lv_ifnullN (tgt := 100) hx hb dC_tick_63 (by decide) ?_
              first | refine lv_aload hx hb dC_tick_66 (lv_at hl 0 rfl) ?_ | refine lv_aloadN hx hb dC_tick_66 (lv_at hl 0 rfl) ?_
              refine gcSi hC hl.1 hH (fun LL f sz hI => c_stateOf hI hi) kC_146 ⟨Nat.le_of_ble_eq_true rfl, Nat.le_of_ble_eq_true rfl⟩ dC_tick_68 ⟨Nat.le_of_ble_eq_true rfl, Nat.le_of_ble_eq_true rfl⟩ rfl (Nat.le_of_ble_eq_true rfl) (fun r hr1 => ?_)
              refine lv_if_ne  (tgt := 100) hx hb dC_tick_71 (by decide) (fun h1 => ?_) (fun h1 => ?_)
              · refine lv_iinc hx hb dC_tick_100 hl (k := 5) rfl rfl (by decide) rfl (fun ls hl => ?_)
                have hl : lv_has ls 7 [(5, _), (6, _), (0, _), (2, _), (3, _), (4, _)] := hl
                refine lv_goto (tgt := 48) hx hb dC_tick_103 (by decide) ?_
                have hs : zTkF y (i + 1) = zTkF y i := if_neg (fun q => h1 (by rw [hr1]; exact q.2.1))
                exact ih (i + 1) _ _ ls H locs (by omega) (by rw [hb2]; exact nI_1 i) (by rw [hs]; exact hw) (by rw [hs]; exact hH) (lv_sub hl [2, 3, 4, 5, 0] rfl)
              · first | refine lv_aload_n hx hb dC_tick_74 rfl (lv_at hl 1 rfl) ?_ | refine lv_aload_nN hx hb dC_tick_74 rfl (lv_at hl 1 rfl) ?_
                refine gC_C_clock hC hH dC_tick_75 ?_
                first | refine lv_aload hx hb dC_tick_78 (lv_at hl 0 rfl) ?_ | refine lv_aloadN hx hb dC_tick_78 (lv_at hl 0 rfl) ?_
                refine gC_W_freeSince hC hH (by assumption) dC_tick_80 ?_
                refine lv_isub hx hb dC_tick_83 ?_
                first | refine lv_aload_n hx hb dC_tick_84 rfl (lv_at hl 1 rfl) ?_ | refine lv_aload_nN hx hb dC_tick_84 rfl (lv_at hl 1 rfl) ?_
                refine gC_C_idle hC hH dC_tick_85 ?_
                refine lv_icmp_lt  (tgt := 100) hx hb dC_tick_88 (by decide) (fun h4 => ?_) (fun h4 => ?_)
                · refine lv_iinc hx hb dC_tick_100 hl (k := 5) rfl rfl (by decide) rfl (fun ls hl => ?_)
                  have hl : lv_has ls 7 [(5, _), (6, _), (0, _), (2, _), (3, _), (4, _)] := hl
                  refine lv_goto (tgt := 48) hx hb dC_tick_103 (by decide) ?_
                  have hs : zTkF y (i + 1) = zTkF y i := if_neg (fun q => q.2.2 h4)
                  exact ih (i + 1) _ _ ls H locs (by omega) (by rw [hb2]; exact nI_1 i) (by rw [hs]; exact hw) (by rw [hs]; exact hH) (lv_sub hl [2, 3, 4, 5, 0] rfl)
                · first | refine lv_aload hx hb dC_tick_91 (lv_at hl 0 rfl) ?_ | refine lv_aloadN hx hb dC_tick_91 (lv_at hl 0 rfl) ?_
                  refine lv_iconst (v := 4) hx hb dC_tick_93 (by decide) ?_
                  refine pC_W_endedBy hC hH (by assumption) dC_tick_94 (fun H locs hH => ?_)
                  refine lv_iinc hx hb dC_tick_97 hl (k := 2) rfl rfl (by decide) rfl (fun ls hl => ?_)
                  have hl : lv_has ls 7 [(2, _), (6, _), (0, _), (3, _), (4, _), (5, _)] := hl
                  refine lv_iinc hx hb dC_tick_100 hl (k := 5) rfl rfl (by decide) rfl (fun ls hl => ?_)
                  have hl : lv_has ls 7 [(5, _), (2, _), (6, _), (0, _), (3, _), (4, _)] := hl
                  refine lv_goto (tgt := 48) hx hb dC_tick_103 (by decide) ?_
                  have hs : zTkF y (i + 1) = (sW (zTkF y i).1 i (wEn_ (gW (zTkF y i).1 i) 4), (zTkF y i).2 + 1) := if_pos ⟨hi, by rw [← hr1]; exact h1, h4⟩
                  exact ih (i + 1) _ _ ls H locs (by omega) (by rw [hb2]; exact nI_1 i) (by rw [hs, hw]; rfl) (by rw [hs]; exact hH) (lv_sub hl [3, 1, 4, 5, 0] rfl)
            · refine aC_WN hC hH hi (by omega) hb2 dC_tick_58 ?_
              first | refine lv_astore hx hb dC_tick_59 hl (by decide) rfl (fun ls hl => ?_) | refine lv_astoreN hx hb dC_tick_59 hl (by decide) rfl (fun ls hl => ?_)
              have hl : lv_has ls 7 [(6, _), (0, _), (2, _), (3, _), (4, _), (5, _)] := hl
              first | refine lv_aload hx hb dC_tick_61 (lv_at hl 0 rfl) ?_ | refine lv_aloadN hx hb dC_tick_61 (lv_at hl 0 rfl) ?_
              first | refine lv_ifnull hx hb dC_tick_63 ?_ | refine lv_ifnullN (tgt := 100) hx hb dC_tick_63 (by decide) ?_
              refine lv_iinc hx hb dC_tick_100 hl (k := 5) rfl rfl (by decide) rfl (fun ls hl => ?_)
              have hl : lv_has ls 7 [(5, _), (6, _), (0, _), (2, _), (3, _), (4, _)] := hl
              refine lv_goto (tgt := 48) hx hb dC_tick_103 (by decide) ?_
              have hs : zTkF y (i + 1) = zTkF y i := if_neg (fun q => hi q.1)
              exact ih (i + 1) _ _ ls H locs (by omega) (by rw [hb2]; exact nI_1 i) (by rw [hs]; exact hw) (by rw [hs]; exact hH) (lv_sub hl [2, 3, 4, 5, 0] rfl)
      · refine lv_iconst (v := -1) hx hb dC_tick_22 (by decide) ?_
        exact grWi hC hr hlk rfl hH (by rw [zTick, if_pos (Or.inr (Or.inr h3))]) dC_tick_23
set_option maxHeartbeats 600000 in
set_option maxRecDepth 100000 in
theorem c_redoUntrusted (hI : cJ k (d, x) LL f) {i j : Nat} (hi : i < nW x) (hj : j < nR x) : Met l yC_redoUntrusted (wz yC_redoUntrusted bC_redoUntrusted 8 (some .int)) (rmL 1 0 0) (gP D (ck_tys k) LL f sz [.ref (kO k), .ref (aRq d j), .ref (aWo d i)]) (va_Qi (fun (r : Int32) (u : ck_A × cs_S) => u = (d, (zRdF x j i 100).1) ∧ r = (zRdF x j i 100).2) (gB D (ck_tys k) (cJ k) (va_A (va_pl LL f) sz)) (va_A (va_pl LL f) sz)) 0 0 (va_A (va_pl LL f) sz) := by
  refine gMet (own := RX3) (u := (d, x)) (Qc := fun A => va_Qi (fun (r : Int32) (u : ck_A × cs_S) => u = (d, (zRdF x j i 100).1) ∧ r = (zRdF x j i 100).2) (gB D (ck_tys k) (cJ k) A) A) (by decide) rfl hI (Nat.le_of_ble_eq_true rfl) ?_
  intro p e s m below meth c ls A hC hr hlk hnm hA hH hl
  have hx := hC.1
  have hb := hC.2.1
  have hml := hC.2.2.2.2.2
  have hts := hC.2.2.1
  have hown := hC.2.2.2.1
  have hl : lv_has ls 8 [(0, _), (1, _), (2, _)] := hl
  refine lv_iconst (v := 0) hx hb dC_redoUntrusted_0 (by decide) ?_
  refine lv_istore_n hx hb dC_redoUntrusted_1 rfl hl (by decide) rfl (fun ls hl => ?_)
  have hl : lv_has ls 8 [(3, _), (0, _), (1, _), (2, _)] := hl
  first | refine lv_aload_n hx hb dC_redoUntrusted_2 rfl (lv_at hl 1 rfl) ?_ | refine lv_aload_nN hx hb dC_redoUntrusted_2 rfl (lv_at hl 1 rfl) ?_
  refine gC_C_requests hC hH dC_redoUntrusted_3 ?_
  first | refine lv_astore hx hb dC_redoUntrusted_6 hl (by decide) rfl (fun ls hl => ?_) | refine lv_astoreN hx hb dC_redoUntrusted_6 hl (by decide) rfl (fun ls hl => ?_)
  have hl : lv_has ls 8 [(4, _), (3, _), (0, _), (1, _), (2, _)] := hl
  first | refine lv_aload hx hb dC_redoUntrusted_8 (lv_at hl 0 rfl) ?_ | refine lv_aloadN hx hb dC_redoUntrusted_8 (lv_at hl 0 rfl) ?_
  first | refine lC_T hC hH dC_redoUntrusted_10 ?_ | refine lC_W hC hH dC_redoUntrusted_10 ?_ | refine lC_R hC hH dC_redoUntrusted_10 ?_
  refine lv_istore hx hb dC_redoUntrusted_11 hl (by decide) rfl (fun ls hl => ?_)
  have hl : lv_has ls 8 [(5, _), (4, _), (3, _), (0, _), (1, _), (2, _)] := hl
  refine lv_iconst (v := 0) hx hb dC_redoUntrusted_13 (by decide) ?_
  refine lv_istore hx hb dC_redoUntrusted_14 hl (by decide) rfl (fun ls hl => ?_)
  have hl : lv_has ls 8 [(6, _), (5, _), (4, _), (3, _), (0, _), (1, _), (2, _)] := hl
  refine (?_ : ∀ (n a : Nat) (b w : Int32) (ls : Array Slot) (H : Heap) (locs : List Loc), a + n = 100 → b = nI a → w = (zRdF x j i a).2 → cG D k d (zRdF x j i a).1 A s.heap H locs → lv_has ls 8 [(0, .ref (kO k)), (1, .ref (aRq d j)), (2, .ref (aWo d i)), (3, .int w), (4, .ref (kRs k)), (5, .int 100), (6, .int b)] → W p l e _ s m _ below meth c H locs 0 0 _ (F0 m 16 ls [])) 100 0 0 0 ls _ _ rfl rfl rfl hH (lv_sub hl [4, 5, 6, 3, 2, 1, 0] rfl)
  intro n
  induction n with
  | zero =>
    intro a b w ls H locs hin hb2 hw hH hl
    obtain rfl : a = 100 := by omega
    refine lv_iload hx hb dC_redoUntrusted_16 (lv_at hl 6 rfl) ?_
    refine lv_iload hx hb dC_redoUntrusted_18 (lv_at hl 5 rfl) ?_
    refine lv_icmp_ge  (tgt := 109) hx hb dC_redoUntrusted_20 (by decide) (fun h9 => ?_) (fun h9 => ?_)
    · refine lv_iload_n hx hb dC_redoUntrusted_109 rfl (lv_at hl 3 rfl) ?_
      exact grWi hC hr hlk rfl hH ⟨rfl, hw⟩ dC_redoUntrusted_110
    · exact absurd (by rw [hb2]; exact nI_le (a := 100) (by omega) (by omega)) h9
  | succ n ih =>
    intro a b w ls H locs hin hb2 hw hH hl
    have hn := (cG.ok hH).1.2.2
    have hi2 : i < nW (zRdF x j i a).1 := by rw [(zRdF_n x j i a).1]; exact hi
    have hj2 : j < nR (zRdF x j i a).1 := by rw [(zRdF_n x j i a).2.2]; exact hj
    refine lv_iload hx hb dC_redoUntrusted_16 (lv_at hl 6 rfl) ?_
    refine lv_iload hx hb dC_redoUntrusted_18 (lv_at hl 5 rfl) ?_
    refine lv_icmp_ge  (tgt := 109) hx hb dC_redoUntrusted_20 (by decide) (fun h9 => ?_) (fun h9 => ?_)
    · exact absurd h9 (by rw [hb2]; exact nI_ge (b := 100) (by omega) (by decide))
    · first | refine lv_aload hx hb dC_redoUntrusted_23 (lv_at hl 4 rfl) ?_ | refine lv_aloadN hx hb dC_redoUntrusted_23 (lv_at hl 4 rfl) ?_
      refine lv_iload hx hb dC_redoUntrusted_25 (lv_at hl 6 rfl) ?_
      by_cases ha : a < nR (zRdF x j i a).1
      · refine aC_R hC hH ha hb2 dC_redoUntrusted_27 ?_
        first | refine lv_astore hx hb dC_redoUntrusted_28 hl (by decide) rfl (fun ls hl => ?_) | refine lv_astoreN hx hb dC_redoUntrusted_28 hl (by decide) rfl (fun ls hl => ?_)
        have hl : lv_has ls 8 [(7, _), (0, _), (1, _), (2, _), (3, _), (4, _), (5, _), (6, _)] := hl
        first | refine lv_aload hx hb dC_redoUntrusted_30 (lv_at hl 0 rfl) ?_ | refine lv_aloadN hx hb dC_redoUntrusted_30 (lv_at hl 0 rfl) ?_
        first | refine lv_ifnull hx hb dC_redoUntrusted_32 ?_ | refine lv_ifnullN (tgt := 103) hx hb dC_redoUntrusted_32 (by decide) ?_
        first | refine lv_aload hx hb dC_redoUntrusted_35 (lv_at hl 0 rfl) ?_ | refine lv_aloadN hx hb dC_redoUntrusted_35 (lv_at hl 0 rfl) ?_
        refine gC_R_state hC hH (by assumption) dC_redoUntrusted_37 ?_
        refine lv_iconst (v := 2) hx hb dC_redoUntrusted_40 (by decide) ?_
        refine lv_icmp_ne  (tgt := 103) hx hb dC_redoUntrusted_41 (by decide) (fun h1 => ?_) (fun h1 => ?_)
        · refine lv_iinc hx hb dC_redoUntrusted_103 hl (k := 7) rfl rfl (by decide) rfl (fun ls hl => ?_)
          have hl : lv_has ls 8 [(6, _), (7, _), (0, _), (1, _), (2, _), (3, _), (4, _), (5, _)] := hl
          refine lv_goto (tgt := 16) hx hb dC_redoUntrusted_106 (by decide) ?_
          have hs : zRdF x j i (a + 1) = zRdF x j i a := if_neg (fun q => h1 q.2.1)
          exact ih (a + 1) _ _ ls H locs (by omega) (by rw [hb2]; exact nI_1 a) (by rw [hs]; exact hw) (by rw [hs]; exact hH) (lv_sub hl [2, 3, 4, 5, 6, 7, 0] rfl)
        · first | refine lv_aload hx hb dC_redoUntrusted_44 (lv_at hl 0 rfl) ?_ | refine lv_aloadN hx hb dC_redoUntrusted_44 (lv_at hl 0 rfl) ?_
          refine gC_R_worker hC hH (by assumption) dC_redoUntrusted_46 ?_
          first | refine lv_aload_n hx hb dC_redoUntrusted_49 rfl (lv_at hl 3 rfl) ?_ | refine lv_aload_nN hx hb dC_redoUntrusted_49 rfl (lv_at hl 3 rfl) ?_
          refine lv_acmp_ne (rx := (rWk (gR (zRdF x j i a).1 a)).map (aWo d)) (ry := some (aWo d i)) (tgt := 103) hx hb dC_redoUntrusted_50 (by decide) (fun h2 => ?_) (fun h2 => ?_)
          · refine lv_iinc hx hb dC_redoUntrusted_103 hl (k := 7) rfl rfl (by decide) rfl (fun ls hl => ?_)
            have hl : lv_has ls 8 [(6, _), (7, _), (0, _), (1, _), (2, _), (3, _), (4, _), (5, _)] := hl
            refine lv_goto (tgt := 16) hx hb dC_redoUntrusted_106 (by decide) ?_
            have hs : zRdF x j i (a + 1) = zRdF x j i a := if_neg (fun q => h2 (by rw [q.2.2.1]; rfl))
            exact ih (a + 1) _ _ ls H locs (by omega) (by rw [hb2]; exact nI_1 a) (by rw [hs]; exact hw) (by rw [hs]; exact hH) (lv_sub hl [2, 3, 4, 5, 6, 7, 0] rfl)
          · have h3 : rWk (gR (zRdF x j i a).1 a) = some i := by
              rcases hq : rWk (gR (zRdF x j i a).1 a) with _ | i2
              · rw [hq] at h2; cases h2
              · rw [hq] at h2
                have hi3 := ((cG.ok hH).2.2 a ha).2 i2 hq
                rw [cG.injW hH hi3 hi2 (Option.some.inj h2)]
            first | refine lv_aload hx hb dC_redoUntrusted_53 (lv_at hl 0 rfl) ?_ | refine lv_aloadN hx hb dC_redoUntrusted_53 (lv_at hl 0 rfl) ?_
            first | refine lv_aload_n hx hb dC_redoUntrusted_55 rfl (lv_at hl 2 rfl) ?_ | refine lv_aload_nN hx hb dC_redoUntrusted_55 rfl (lv_at hl 2 rfl) ?_
            refine lv_acmp_eq (rx := some (aRq d a)) (ry := some (aRq d j)) (tgt := 71) hx hb dC_redoUntrusted_56 (by decide) (fun h4 => ?_) (fun h4 => ?_)
            · have h5 : a = j := cG.injR hH ha hj2 (Option.some.inj h4)
              have hs : zRdF x j i (a + 1) = _ := if_pos ⟨ha, h1, h3, Or.inl h5⟩
              first | refine lv_aload hx hb dC_redoUntrusted_71 (lv_at hl 0 rfl) ?_ | refine lv_aloadN hx hb dC_redoUntrusted_71 (lv_at hl 0 rfl) ?_
              first | refine lv_aload_n hx hb dC_redoUntrusted_73 rfl (lv_at hl 3 rfl) ?_ | refine lv_aload_nN hx hb dC_redoUntrusted_73 rfl (lv_at hl 3 rfl) ?_
              refine gC_W_edition hC hH (by assumption) dC_redoUntrusted_74 ?_
              first | refine lv_aload hx hb dC_redoUntrusted_77 (lv_at hl 0 rfl) ?_ | refine lv_aloadN hx hb dC_redoUntrusted_77 (lv_at hl 0 rfl) ?_
              refine gC_R_input hC hH (by assumption) dC_redoUntrusted_79 ?_
              refine gcTl hC.fix hl.1 (c_freshRun _ _) kC_141 ⟨Nat.le_of_ble_eq_true rfl, Nat.le_of_ble_eq_true rfl⟩ dC_redoUntrusted_82 ⟨Nat.le_of_ble_eq_true rfl, Nat.le_of_ble_eq_true rfl⟩ rfl (Nat.le_of_ble_eq_true rfl) (fun r hr1 => ?_)
              subst hr1
              refine pC_R_result hC hH (by assumption) dC_redoUntrusted_85 (fun H locs hH => ?_)
              first | refine lv_aload hx hb dC_redoUntrusted_88 (lv_at hl 0 rfl) ?_ | refine lv_aloadN hx hb dC_redoUntrusted_88 (lv_at hl 0 rfl) ?_
              refine lv_null hx hb dC_redoUntrusted_90 ?_
              first | refine pC_R_workerN hC hH (by assumption) dC_redoUntrusted_91 (fun H locs hH => ?_) | refine pC_R_workerR hC hH (by assumption) (by assumption) dC_redoUntrusted_91 (fun H locs hH => ?_)
              first | refine lv_aload hx hb dC_redoUntrusted_94 (lv_at hl 0 rfl) ?_ | refine lv_aloadN hx hb dC_redoUntrusted_94 (lv_at hl 0 rfl) ?_
              refine lv_iconst (v := 1) hx hb dC_redoUntrusted_96 (by decide) ?_
              refine pC_R_redone1 hC hH (by assumption) dC_redoUntrusted_97 (fun H locs hH => ?_)
              refine lv_iinc hx hb dC_redoUntrusted_100 hl (k := 4) rfl rfl (by decide) rfl (fun ls hl => ?_)
              have hl : lv_has ls 8 [(3, _), (7, _), (0, _), (1, _), (2, _), (4, _), (5, _), (6, _)] := hl
              refine lv_iinc hx hb dC_redoUntrusted_103 hl (k := 7) rfl rfl (by decide) rfl (fun ls hl => ?_)
              have hl : lv_has ls 8 [(6, _), (3, _), (7, _), (0, _), (1, _), (2, _), (4, _), (5, _)] := hl
              refine lv_goto (tgt := 16) hx hb dC_redoUntrusted_106 (by decide) ?_
              simp only [sR_sR, gR_self] at hH
              exact ih (a + 1) _ _ ls H locs (by omega) (by rw [hb2]; exact nI_1 a) (by rw [hs, hw]; rfl) (by rw [hs]; exact hH) (lv_sub hl [3, 4, 5, 1, 6, 7, 0] rfl)
            · have h5 : ¬ a = j := fun q => h4 (by rw [q])
              first | refine lv_aload hx hb dC_redoUntrusted_59 (lv_at hl 0 rfl) ?_ | refine lv_aloadN hx hb dC_redoUntrusted_59 (lv_at hl 0 rfl) ?_
              refine gC_R_place hC hH (by assumption) dC_redoUntrusted_61 ?_
              first | refine lv_aload_n hx hb dC_redoUntrusted_64 rfl (lv_at hl 3 rfl) ?_ | refine lv_aload_nN hx hb dC_redoUntrusted_64 rfl (lv_at hl 3 rfl) ?_
              refine gC_W_trusted hC hH (by assumption) dC_redoUntrusted_65 ?_
              refine lv_icmp_le  (tgt := 103) hx hb dC_redoUntrusted_68 (by decide) (fun h6 => ?_) (fun h6 => ?_)
              · refine lv_iinc hx hb dC_redoUntrusted_103 hl (k := 7) rfl rfl (by decide) rfl (fun ls hl => ?_)
                have hl : lv_has ls 8 [(6, _), (7, _), (0, _), (1, _), (2, _), (3, _), (4, _), (5, _)] := hl
                refine lv_goto (tgt := 16) hx hb dC_redoUntrusted_106 (by decide) ?_
                have hs : zRdF x j i (a + 1) = zRdF x j i a := if_neg (fun q => by rcases q.2.2.2 with z | z; exact h5 z; exact z h6)
                exact ih (a + 1) _ _ ls H locs (by omega) (by rw [hb2]; exact nI_1 a) (by rw [hs]; exact hw) (by rw [hs]; exact hH) (lv_sub hl [2, 3, 4, 5, 6, 7, 0] rfl)
              · have hs : zRdF x j i (a + 1) = _ := if_pos ⟨ha, h1, h3, Or.inr h6⟩
                first | refine lv_aload hx hb dC_redoUntrusted_71 (lv_at hl 0 rfl) ?_ | refine lv_aloadN hx hb dC_redoUntrusted_71 (lv_at hl 0 rfl) ?_
                first | refine lv_aload_n hx hb dC_redoUntrusted_73 rfl (lv_at hl 3 rfl) ?_ | refine lv_aload_nN hx hb dC_redoUntrusted_73 rfl (lv_at hl 3 rfl) ?_
                refine gC_W_edition hC hH (by assumption) dC_redoUntrusted_74 ?_
                first | refine lv_aload hx hb dC_redoUntrusted_77 (lv_at hl 0 rfl) ?_ | refine lv_aloadN hx hb dC_redoUntrusted_77 (lv_at hl 0 rfl) ?_
                refine gC_R_input hC hH (by assumption) dC_redoUntrusted_79 ?_
                refine gcTl hC.fix hl.1 (c_freshRun _ _) kC_141 ⟨Nat.le_of_ble_eq_true rfl, Nat.le_of_ble_eq_true rfl⟩ dC_redoUntrusted_82 ⟨Nat.le_of_ble_eq_true rfl, Nat.le_of_ble_eq_true rfl⟩ rfl (Nat.le_of_ble_eq_true rfl) (fun r hr1 => ?_)
                subst hr1
                refine pC_R_result hC hH (by assumption) dC_redoUntrusted_85 (fun H locs hH => ?_)
                first | refine lv_aload hx hb dC_redoUntrusted_88 (lv_at hl 0 rfl) ?_ | refine lv_aloadN hx hb dC_redoUntrusted_88 (lv_at hl 0 rfl) ?_
                refine lv_null hx hb dC_redoUntrusted_90 ?_
                first | refine pC_R_workerN hC hH (by assumption) dC_redoUntrusted_91 (fun H locs hH => ?_) | refine pC_R_workerR hC hH (by assumption) (by assumption) dC_redoUntrusted_91 (fun H locs hH => ?_)
                first | refine lv_aload hx hb dC_redoUntrusted_94 (lv_at hl 0 rfl) ?_ | refine lv_aloadN hx hb dC_redoUntrusted_94 (lv_at hl 0 rfl) ?_
                refine lv_iconst (v := 1) hx hb dC_redoUntrusted_96 (by decide) ?_
                refine pC_R_redone1 hC hH (by assumption) dC_redoUntrusted_97 (fun H locs hH => ?_)
                refine lv_iinc hx hb dC_redoUntrusted_100 hl (k := 4) rfl rfl (by decide) rfl (fun ls hl => ?_)
                have hl : lv_has ls 8 [(3, _), (7, _), (0, _), (1, _), (2, _), (4, _), (5, _), (6, _)] := hl
                refine lv_iinc hx hb dC_redoUntrusted_103 hl (k := 7) rfl rfl (by decide) rfl (fun ls hl => ?_)
                have hl : lv_has ls 8 [(6, _), (3, _), (7, _), (0, _), (1, _), (2, _), (4, _), (5, _)] := hl
                refine lv_goto (tgt := 16) hx hb dC_redoUntrusted_106 (by decide) ?_
                simp only [sR_sR, gR_self] at hH
                exact ih (a + 1) _ _ ls H locs (by omega) (by rw [hb2]; exact nI_1 a) (by rw [hs, hw]; rfl) (by rw [hs]; exact hH) (lv_sub hl [3, 4, 5, 1, 6, 7, 0] rfl)
      · refine aC_RN hC hH ha (by omega) hb2 dC_redoUntrusted_27 ?_
        first | refine lv_astore hx hb dC_redoUntrusted_28 hl (by decide) rfl (fun ls hl => ?_) | refine lv_astoreN hx hb dC_redoUntrusted_28 hl (by decide) rfl (fun ls hl => ?_)
        have hl : lv_has ls 8 [(7, _), (0, _), (1, _), (2, _), (3, _), (4, _), (5, _), (6, _)] := hl
        first | refine lv_aload hx hb dC_redoUntrusted_30 (lv_at hl 0 rfl) ?_ | refine lv_aloadN hx hb dC_redoUntrusted_30 (lv_at hl 0 rfl) ?_
        first | refine lv_ifnull hx hb dC_redoUntrusted_32 ?_ | refine lv_ifnullN (tgt := 103) hx hb dC_redoUntrusted_32 (by decide) ?_
        refine lv_iinc hx hb dC_redoUntrusted_103 hl (k := 7) rfl rfl (by decide) rfl (fun ls hl => ?_)
        have hl : lv_has ls 8 [(6, _), (7, _), (0, _), (1, _), (2, _), (3, _), (4, _), (5, _)] := hl
        refine lv_goto (tgt := 16) hx hb dC_redoUntrusted_106 (by decide) ?_
        have hs : zRdF x j i (a + 1) = zRdF x j i a := if_neg (fun q => ha q.1)
        exact ih (a + 1) _ _ ls H locs (by omega) (by rw [hb2]; exact nI_1 a) (by rw [hs]; exact hw) (by rw [hs]; exact hH) (lv_sub hl [2, 3, 4, 5, 6, 7, 0] rfl)
end C7
