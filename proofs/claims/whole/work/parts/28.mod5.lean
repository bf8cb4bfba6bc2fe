section M5
theorem tick_le {c v : Int32} (h0 : 0 ≤ c.toInt) (h1 : c.toInt ≤ 1000000000) (h2 : ¬ v < 0) (h3 : ¬ 10000 < v) : (c + v ≤ 1000000000 ↔ c ≤ 1000000000 - v) ∧ (c + v ≤ 1000000000 → 0 ≤ (c + v).toInt ∧ (c + v).toInt ≤ 1000000000) := by
  obtain ⟨m, hm, rfl⟩ := nI_of2 (M := 10000) (n := 10000) (by decide) h2 (Int32.not_lt.mp h3)
  have e0 : (0 : Int32).toInt = 0 := by decide
  have e9 : (1000000000 : Int32).toInt = 1000000000 := by decide
  have hc0 : ¬ c < 0 := fun q => by
    have := Int32.lt_iff_toInt_lt.mp q
    omega
  have hc9 : c ≤ 1000000000 := Int32.le_iff_toInt_le.mpr (by omega)
  obtain ⟨b, hb, rfl⟩ := nI_of2 (x := c) (M := 1000000000) (n := 1000000000) e9 hc0 hc9
  rw [nI_add, show (1000000000 : Int32) = nI 1000000000 from rfl, pk_sub (by omega), nI_leI (by omega) (by omega), nI_leI (by omega) (by omega), nI_toInt (by omega)]
  exact ⟨by omega, fun q => by omega⟩
variable {l : Launch} {D : va_G} {k : mk_F} {x : cs_S} {LL : List Nat} {f : Nat → va_E} {sz : Nat}
set_option maxHeartbeats 600000 in
set_option maxRecDepth 100000 in
theorem m_edition (hI : mR k x LL f) (v : Int32) (ed : Int64) : Met l yM_edition (wz yM_edition bM_edition 8 (some .int)) (rmL 2 0 0) (gP D (mk_tys k) LL f sz [.ref (mO k), .int v, .long ed]) (va_Qi (fun (r : Int32) (u : cs_S) => (u, r) = zEdi x v ed) (gB D (mk_tys k) (mR k) (va_A (va_pl LL f) sz)) (va_A (va_pl LL f) sz)) 0 0 (va_A (va_pl LL f) sz) := by
  refine gMet (own := RX4) (u := x) (Qc := fun A => va_Qi (fun (r : Int32) (u : cs_S) => (u, r) = zEdi x v ed) (gB D (mk_tys k) (mR k) A) A) (by decide) rfl hI (Nat.le_of_ble_eq_true rfl) ?_
  intro p e s m below meth c ls A hC hr hlk hnm hA hH hl
  obtain ⟨y, hR, hH⟩ := mR.out hH
  obtain ⟨hnT, hnW, hnR⟩ := hR.n
  have hok := hR.2.1
  have hb6 := hok.1.1
  have hb60 := hok.1.2.1
  have hb100 := hok.1.2.2
  have hx := hC.1
  have hb := hC.2.1
  have hml := hC.2.2.2.2.2
  have hts := hC.2.2.1
  have hown := hC.2.2.2.1
  have hl : lv_has ls 8 [(0, _), (1, _), (2, _)] := hl
  refine lv_iload_n hx hb dM_edition_0 rfl (lv_at hl 1 rfl) ?_
  first | refine lv_aload_n hx hb dM_edition_1 rfl (lv_at hl 0 rfl) ?_ | refine lv_aload_nN hx hb dM_edition_1 rfl (lv_at hl 0 rfl) ?_
  refine gM_tools hC hH dM_edition_2 ?_
  refine gcTi hC.fix hl.1 (m_in v (yT y) (by omega)) kM_96 ⟨Nat.le_of_ble_eq_true rfl, Nat.le_of_ble_eq_true rfl⟩ dM_edition_5 ⟨Nat.le_of_ble_eq_true rfl, Nat.le_of_ble_eq_true rfl⟩ rfl (Nat.le_of_ble_eq_true rfl) (fun r hr1 => ?_)
  rcases hr1 with ⟨t, ht, hv, rfl⟩ | ⟨hv, rfl⟩
  · have ht2 : t < nT x := by rw [← hnT]; exact ht
    have ht3 : t < 6 := by omega
    have hkk : lk (nT x) v = some t := by rw [hv]; exact lk_in ht2 (by omega)
    subst hv
    refine lv_if_ne  (tgt := 13) hx hb dM_edition_8 (by decide) (fun h => ?_) (fun h => ?_)
    · first | refine lv_aload_n hx hb dM_edition_13 rfl (lv_at hl 0 rfl) ?_ | refine lv_aload_nN hx hb dM_edition_13 rfl (lv_at hl 0 rfl) ?_
      refine gM_editionOf hC hH dM_edition_14 ?_
      refine lv_iload_n hx hb dM_edition_17 rfl (lv_at hl 1 rfl) ?_
      refine lv_lload_n hx hb dM_edition_18 rfl (lv_at hl 2 rfl) ?_
      refine sM_l hC hH (by decide) (by assumption) dM_edition_19 (fun H locs hH => ?_)
      refine lv_iconst (v := 0) hx hb dM_edition_20 (by decide) ?_
      refine lv_istore hx hb dM_edition_21 hl (by decide) rfl (fun ls hl => ?_)
      have hl : lv_has ls 8 [(4, _), (0, _), (1, _), (2, _)] := hl
      refine lv_iconst (v := 0) hx hb dM_edition_23 (by decide) ?_
      refine lv_istore hx hb dM_edition_24 hl (by decide) rfl (fun ls hl => ?_)
      have hl : lv_has ls 8 [(5, _), (4, _), (0, _), (1, _), (2, _)] := hl
      have qt := hR.2.2.2.1 t ht2
      have hR2 : Rel (sT x t (tEd_ (gT x t) ed)) (sML y 7 t ed) := hR.upT (y' := sML y 7 t ed) (t := tEd_ (gT x t) ed) ht2 ⟨rfl, rfl, rfl⟩ (fun a b hab => ⟨rfl, by rw [ML_sML, if_neg (by omega)]⟩) ⟨by simp [ML_sML], qt.2.1, qt.2.2⟩
      have hG := mR.in hR2 hH
      have hXW : nW (sT x t (tEd_ (gT x t) ed)) = nW x := rfl
      have hXT : nT (sT x t (tEd_ (gT x t) ed)) = nT x := rfl
      generalize hX : sT x t (tEd_ (gT x t) ed) = X at hG hXW hXT
      refine (?_ : ∀ (n i : Nat) (w : Int32) (ls : Array Slot) (H : Heap) (locs : List Loc), i + n = nW x → w = (zEdF X t i).2 → gH D (mR k) (zEdF X t i).1 A s.heap H locs → lv_has ls 8 [(0, .ref (mO k)), (1, .int (nI t)), (4, .int w), (5, .int (nI i))] → W p l e _ s m _ below meth c H locs 0 0 _ (F0 m 26 ls [])) (nW x) 0 0 ls _ _ (Nat.zero_add _) rfl hG (lv_sub hl [2, 3, 1, 0] rfl)
      intro n
      induction n with
      | zero =>
        intro i w ls H locs hin hw hG hl
        obtain ⟨y, hR, hH⟩ := mR.out hG
        have hnW := hR.n.2.1
        rw [(zEdF_60 X t).1, hXW] at hnW
        refine lv_iload hx hb dM_edition_26 (lv_at hl 3 rfl) ?_
        first | refine lv_aload_n hx hb dM_edition_28 rfl (lv_at hl 0 rfl) ?_ | refine lv_aload_nN hx hb dM_edition_28 rfl (lv_at hl 0 rfl) ?_
        refine gM_workers hC hH dM_edition_29 ?_
        refine lv_icmp_ge  (tgt := 104) hx hb dM_edition_32 (by decide) (fun h9 => ?_) (fun h9 => ?_)
        · refine lv_iload hx hb dM_edition_104 (lv_at hl 2 rfl) ?_
          obtain rfl : i = nW x := by omega
          have e := (zEdF_60 X t).2 (60 - nW x)
          rw [hXW, show nW x + (60 - nW x) = 60 by omega] at e
          exact grWi hC hr hlk rfl hG (by simp only [zEdi, hkk, hX]; rw [hw, e]) dM_edition_106
        · exact absurd (by rw [hnW]; exact nI_le (by omega) (by omega)) h9
      | succ n ih =>
        intro i w ls H locs hin hw hG hl
        obtain ⟨y, hR, hH⟩ := mR.out hG
        have hnW := hR.n.2.1
        rw [(zEdF_60 X t).1, hXW] at hnW
        have hi2 : i < nW (zEdF X t i).1 := by rw [(zEdF_60 X t).1, hXW]; omega
        have hi3 : i < 60 := by omega
        have q0 := hR.2.2.2.2.1 i hi2
        refine lv_iload hx hb dM_edition_26 (lv_at hl 3 rfl) ?_
        first | refine lv_aload_n hx hb dM_edition_28 rfl (lv_at hl 0 rfl) ?_ | refine lv_aload_nN hx hb dM_edition_28 rfl (lv_at hl 0 rfl) ?_
        refine gM_workers hC hH dM_edition_29 ?_
        refine lv_icmp_ge  (tgt := 104) hx hb dM_edition_32 (by decide) (fun h9 => ?_) (fun h9 => ?_)
        · exact absurd h9 (by rw [hnW]; exact nI_ge (by omega) (by omega))
        · first | refine lv_aload_n hx hb dM_edition_35 rfl (lv_at hl 0 rfl) ?_ | refine lv_aload_nN hx hb dM_edition_35 rfl (lv_at hl 0 rfl) ?_
          refine gM_toolOf hC hH dM_edition_36 ?_
          refine lv_iload hx hb dM_edition_39 (lv_at hl 3 rfl) ?_
          refine aM_i hC hH (by decide) (by assumption) dM_edition_41 ?_
          refine lv_iload_n hx hb dM_edition_42 rfl (lv_at hl 1 rfl) ?_
          refine lv_icmp_ne  (tgt := 98) hx hb dM_edition_43 (by decide) (fun h1 => ?_) (fun h1 => ?_)
          · refine lv_iinc hx hb dM_edition_98 hl (k := 3) rfl rfl (by decide) rfl (fun ls hl => ?_)
            have hl : lv_has ls 8 [(5, _), (0, _), (1, _), (4, _)] := hl
            refine lv_goto (tgt := 26) hx hb dM_edition_101 (by decide) ?_
            have hs : zEdF X t (i + 1) = zEdF X t i := if_neg (fun q => h1 ((hR.col10 hi2 (by omega)).mpr q.2.1))
            exact ih (i + 1) w ls H locs (by omega) (by rw [hs]; exact hw) (by rw [hs]; exact hG) (by rw [← nI_1 i]; exact lv_sub hl [1, 2, 3, 0] rfl)
          · have h1 := (hR.col10 hi2 (by omega)).mp h1
            first | refine lv_aload_n hx hb dM_edition_46 rfl (lv_at hl 0 rfl) ?_ | refine lv_aload_nN hx hb dM_edition_46 rfl (lv_at hl 0 rfl) ?_
            refine gM_state hC hH dM_edition_47 ?_
            refine lv_iload hx hb dM_edition_50 (lv_at hl 3 rfl) ?_
            refine aM_i hC hH (by decide) (by assumption) dM_edition_52 ?_
            refine lv_iconst (v := 2) hx hb dM_edition_53 (by decide) ?_
            rw [q0.2.1]
            refine lv_icmp_eq  (tgt := 98) hx hb dM_edition_54 (by decide) (fun h2 => ?_) (fun h2 => ?_)
            · refine lv_iinc hx hb dM_edition_98 hl (k := 3) rfl rfl (by decide) rfl (fun ls hl => ?_)
              have hl : lv_has ls 8 [(5, _), (0, _), (1, _), (4, _)] := hl
              refine lv_goto (tgt := 26) hx hb dM_edition_101 (by decide) ?_
              have hs : zEdF X t (i + 1) = zEdF X t i := if_neg (fun q => zSt_2.mp h2 q.2.2)
              exact ih (i + 1) w ls H locs (by omega) (by rw [hs]; exact hw) (by rw [hs]; exact hG) (by rw [← nI_1 i]; exact lv_sub hl [1, 2, 3, 0] rfl)
            · have h0 : wEn (gW (zEdF X t i).1 i) = 0 := Classical.byContradiction (fun z => h2 (zSt_2.mpr z))
              have hs : zEdF X t (i + 1) = (zEndRe (zEdF X t i).1 i 1, (zEdF X t i).2 + 1) := if_pos ⟨hi2, h1, h0⟩
              first | refine lv_aload_n hx hb dM_edition_57 rfl (lv_at hl 0 rfl) ?_ | refine lv_aload_nN hx hb dM_edition_57 rfl (lv_at hl 0 rfl) ?_
              refine gM_state hC hH dM_edition_58 ?_
              refine lv_iload hx hb dM_edition_61 (lv_at hl 3 rfl) ?_
              refine aM_i hC hH (by decide) (by assumption) dM_edition_63 ?_
              refine lv_iconst (v := 1) hx hb dM_edition_64 (by decide) ?_
              rw [q0.2.1]
              refine lv_icmp_ne  (tgt := 72) hx hb dM_edition_65 (by decide) (fun h3 => ?_) (fun h3 => ?_)
              · have hq : wRq (gW (zEdF X t i).1 i) = none := Classical.byContradiction (fun z => h3 (zSt_1.mpr ⟨h0, z⟩))
                refine lv_iconst (v := 0) hx hb dM_edition_72 (by decide) ?_
                refine lv_istore hx hb dM_edition_73 hl (by decide) rfl (fun ls hl => ?_)
                have hl : lv_has ls 8 [(6, _), (0, _), (1, _), (4, _), (5, _)] := hl
                first | refine lv_aload_n hx hb dM_edition_75 rfl (lv_at hl 1 rfl) ?_ | refine lv_aload_nN hx hb dM_edition_75 rfl (lv_at hl 1 rfl) ?_
                refine lv_iload hx hb dM_edition_76 (lv_at hl 4 rfl) ?_
                refine lv_iconst (v := 1) hx hb dM_edition_78 (by decide) ?_
                refine gcWVi hC hl.1 hA hH (fun LL f sz hI => m_ends hI hi3 1) mJ.o rfl rfl kM_137 ⟨Nat.le_of_ble_eq_true rfl, Nat.le_of_ble_eq_true rfl⟩ dM_edition_79 ⟨Nat.le_of_ble_eq_true rfl, Nat.le_of_ble_eq_true rfl⟩ rfl (Nat.le_of_ble_eq_true rfl) (fun r u H locs hp hH => ?_)
                obtain ⟨hp1, hp2⟩ := hp
                subst hp1
                have hR3 := (hR.endRe0 hi2 (r := 1) (by decide) hq).2
                refine lv_istore hx hb dM_edition_82 hl (by decide) rfl (fun ls hl => ?_)
                have hl : lv_has ls 8 [(7, _), (6, _), (0, _), (1, _), (4, _), (5, _)] := hl
                refine lv_iload hx hb dM_edition_84 (lv_at hl 1 rfl) ?_
                refine lv_if_eq  (tgt := 95) hx hb dM_edition_86 (by decide) (fun h4 => ?_) (fun h4 => ?_)
                · refine lv_iinc hx hb dM_edition_95 hl (k := 4) rfl rfl (by decide) rfl (fun ls hl => ?_)
                  have hl : lv_has ls 8 [(4, _), (7, _), (6, _), (0, _), (1, _), (5, _)] := hl
                  refine lv_iinc hx hb dM_edition_98 hl (k := 5) rfl rfl (by decide) rfl (fun ls hl => ?_)
                  have hl : lv_has ls 8 [(5, _), (4, _), (7, _), (6, _), (0, _), (1, _)] := hl
                  refine lv_goto (tgt := 26) hx hb dM_edition_101 (by decide) ?_
                  exact ih (i + 1) (w + Int32.ofInt 1) ls H locs (by omega) (by rw [hs, hw]; rfl) (by rw [hs]; exact mR.in hR3 hH) (by rw [← nI_1 i]; exact lv_sub hl [4, 5, 1, 0] rfl)
                · exact absurd rfl h4
              · rcases hq : wRq (gW (zEdF X t i).1 i) with _ | j
                · exact absurd hq (zSt_1.mp h3).2
                · have hj := (hR.2.1.2.1 i hi2).2 j hq
                  have hj3 : j < 100 := Nat.lt_of_lt_of_le hj hR.2.1.1.2.2
                  refine lv_iconst (v := 1) hx hb dM_edition_68 (by decide) ?_
                  refine lv_goto (tgt := 73) hx hb dM_edition_69 (by decide) ?_
                  refine lv_istore hx hb dM_edition_73 hl (by decide) rfl (fun ls hl => ?_)
                  have hl : lv_has ls 8 [(6, _), (0, _), (1, _), (4, _), (5, _)] := hl
                  first | refine lv_aload_n hx hb dM_edition_75 rfl (lv_at hl 1 rfl) ?_ | refine lv_aload_nN hx hb dM_edition_75 rfl (lv_at hl 1 rfl) ?_
                  refine lv_iload hx hb dM_edition_76 (lv_at hl 4 rfl) ?_
                  refine lv_iconst (v := 1) hx hb dM_edition_78 (by decide) ?_
                  refine gcWVi hC hl.1 hA hH (fun LL f sz hI => m_ends hI hi3 1) mJ.o rfl rfl kM_137 ⟨Nat.le_of_ble_eq_true rfl, Nat.le_of_ble_eq_true rfl⟩ dM_edition_79 ⟨Nat.le_of_ble_eq_true rfl, Nat.le_of_ble_eq_true rfl⟩ rfl (Nat.le_of_ble_eq_true rfl) (fun r u H locs hp hH => ?_)
                  obtain ⟨hp1, hp2⟩ := hp
                  subst hp1
                  obtain rfl : r = nI j := by rw [hp2]; exact q0.2.2.2.2.1 j hq
                  have hR3 := hR.endRe1 hi2 (r := 1) (by decide) hq
                  refine lv_istore hx hb dM_edition_82 hl (by decide) rfl (fun ls hl => ?_)
                  have hl : lv_has ls 8 [(7, _), (6, _), (0, _), (1, _), (4, _), (5, _)] := hl
                  refine lv_iload hx hb dM_edition_84 (lv_at hl 1 rfl) ?_
                  refine lv_if_eq  (tgt := 95) hx hb dM_edition_86 (by decide) (fun h4 => ?_) (fun h4 => ?_)
                  · exact absurd h4 (by decide)
                  · first | refine lv_aload_n hx hb dM_edition_89 rfl (lv_at hl 2 rfl) ?_ | refine lv_aload_nN hx hb dM_edition_89 rfl (lv_at hl 2 rfl) ?_
                    refine lv_iload hx hb dM_edition_90 (lv_at hl 0 rfl) ?_
                    refine gcWVv hC hl.1 hA hH (fun LL f sz hI => m_waitsAgain hI hj3) mJ.o rfl rfl kM_141 ⟨Nat.le_of_ble_eq_true rfl, Nat.le_of_ble_eq_true rfl⟩ dM_edition_92 ⟨Nat.le_of_ble_eq_true rfl, Nat.le_of_ble_eq_true rfl⟩ rfl (Nat.le_of_ble_eq_true rfl) (fun u H locs hp hH => ?_)
                    subst hp
                    refine lv_iinc hx hb dM_edition_95 hl (k := 4) rfl rfl (by decide) rfl (fun ls hl => ?_)
                    have hl : lv_has ls 8 [(4, _), (7, _), (6, _), (0, _), (1, _), (5, _)] := hl
                    refine lv_iinc hx hb dM_edition_98 hl (k := 5) rfl rfl (by decide) rfl (fun ls hl => ?_)
                    have hl : lv_has ls 8 [(5, _), (4, _), (7, _), (6, _), (0, _), (1, _)] := hl
                    refine lv_goto (tgt := 26) hx hb dM_edition_101 (by decide) ?_
                    exact ih (i + 1) (w + Int32.ofInt 1) ls H locs (by omega) (by rw [hs, hw]; rfl) (by rw [hs]; exact mR.in hR3 hH) (by rw [← nI_1 i]; exact lv_sub hl [4, 5, 1, 0] rfl)
    · exact absurd h (by decide)
  · have hkk : lk (nT x) v = none := lk_out (fun i hi => hv i (by rw [hnT]; exact hi))
    refine lv_if_ne  (tgt := 13) hx hb dM_edition_8 (by decide) (fun h => ?_) (fun h => ?_)
    · exact absurd rfl h
    · refine lv_iconst (v := -1) hx hb dM_edition_11 (by decide) ?_
      exact grWi hC hr hlk rfl (mR.in hR hH) (by simp only [zEdi, hkk]) dM_edition_12
set_option maxHeartbeats 600000 in
set_option maxRecDepth 100000 in
theorem m_tick (hI : mR k x LL f) (v : Int32) : Met l yM_tick (wz yM_tick bM_tick 5 (some .int)) (rmL 1 0 0) (gP D (mk_tys k) LL f sz [.ref (mO k), .int v]) (va_Qi (fun (r : Int32) (u : cs_S) => (u, r) = zTick x v) (gB D (mk_tys k) (mR k) (va_A (va_pl LL f) sz)) (va_A (va_pl LL f) sz)) 0 0 (va_A (va_pl LL f) sz) := by
  refine gMet (own := RX4) (u := x) (Qc := fun A => va_Qi (fun (r : Int32) (u : cs_S) => (u, r) = zTick x v) (gB D (mk_tys k) (mR k) A) A) (by decide) rfl hI (Nat.le_of_ble_eq_true rfl) ?_
  intro p e s m below meth c ls A hC hr hlk hnm hA hH hl
  obtain ⟨y, hR, hH⟩ := mR.out hH
  obtain ⟨hnT, hnW, hnR⟩ := hR.n
  have hok := hR.2.1
  have hb6 := hok.1.1
  have hb60 := hok.1.2.1
  have hb100 := hok.1.2.2
  have hx := hC.1
  have hb := hC.2.1
  have hml := hC.2.2.2.2.2
  have hts := hC.2.2.1
  have hown := hC.2.2.2.1
  have hl : lv_has ls 5 [(0, _), (1, _)] := hl
  have hcl : yCl y = cCl x := hR.1.2.1
  refine lv_iload_n hx hb dM_tick_0 rfl (lv_at hl 1 rfl) ?_
  refine lv_if_lt  (tgt := 22) hx hb dM_tick_1 (by decide) (fun h => ?_) (fun h => ?_)
  · refine lv_iconst (v := -1) hx hb dM_tick_22 (by decide) ?_
    exact grWi hC hr hlk rfl (mR.in hR hH) (by rw [zTick, if_pos (Or.inl h)]) dM_tick_23
  · refine lv_iload_n hx hb dM_tick_4 rfl (lv_at hl 1 rfl) ?_
    refine lv_sipush (v := 10000) hx hb dM_tick_5 (by decide) ?_
    refine lv_icmp_gt  (tgt := 22) hx hb dM_tick_8 (by decide) (fun h2 => ?_) (fun h2 => ?_)
    · refine lv_iconst (v := -1) hx hb dM_tick_22 (by decide) ?_
      exact grWi hC hr hlk rfl (mR.in hR hH) (by rw [zTick, if_pos (Or.inr (Or.inl h2))]) dM_tick_23
    · have htl := tick_le hR.2.2.1.1 hR.2.2.1.2 h h2
      first | refine lv_aload_n hx hb dM_tick_11 rfl (lv_at hl 0 rfl) ?_ | refine lv_aload_nN hx hb dM_tick_11 rfl (lv_at hl 0 rfl) ?_
      refine gM_clock hC hH dM_tick_12 ?_
      refine lv_iload_n hx hb dM_tick_15 rfl (lv_at hl 1 rfl) ?_
      refine lv_iadd hx hb dM_tick_16 ?_
      refine lv_ldc hx hb hown (hts _ wq_M_145) dM_tick_17 ?_
      rw [hcl]
      refine lv_icmp_le  (tgt := 24) hx hb dM_tick_19 (by decide) (fun h3 => ?_) (fun h3 => ?_)
      · have hR2 : Rel (sCl x (cCl x + v)) (sYcl y (yCl y + v)) := ⟨⟨hR.1.1, by show yCl y + v = _; rw [hcl], hR.1.2.2⟩, hR.2.1, htl.2 h3, hR.2.2.2.1, hR.2.2.2.2.1, hR.2.2.2.2.2.1, hR.2.2.2.2.2.2.1, hR.2.2.2.2.2.2.2.1, hR.2.2.2.2.2.2.2.2⟩
        first | refine lv_aload_n hx hb dM_tick_24 rfl (lv_at hl 0 rfl) ?_ | refine lv_aload_nN hx hb dM_tick_24 rfl (lv_at hl 0 rfl) ?_
        refine lv_dup hx hb dM_tick_25 rfl ?_
        refine gM_clock hC hH dM_tick_26 ?_
        refine lv_iload_n hx hb dM_tick_29 rfl (lv_at hl 1 rfl) ?_
        refine lv_iadd hx hb dM_tick_30 ?_
        refine pM_clock hC hH dM_tick_31 (fun H locs hH => ?_)
        refine lv_iconst (v := 0) hx hb dM_tick_34 (by decide) ?_
        refine lv_istore_n hx hb dM_tick_35 rfl hl (by decide) rfl (fun ls hl => ?_)
        have hl : lv_has ls 5 [(2, _), (0, _), (1, _)] := hl
        refine lv_iconst (v := 0) hx hb dM_tick_36 (by decide) ?_
        refine lv_istore_n hx hb dM_tick_37 rfl hl (by decide) rfl (fun ls hl => ?_)
        have hl : lv_has ls 5 [(3, _), (2, _), (0, _), (1, _)] := hl
        have hG := mR.in hR2 hH
        have hXW : nW (sCl x (cCl x + v)) = nW x := rfl
        generalize hX : sCl x (cCl x + v) = X at hG hXW
        refine (?_ : ∀ (n i : Nat) (w : Int32) (ls : Array Slot) (H : Heap) (locs : List Loc), i + n = nW x → w = (zTkF X i).2 → gH D (mR k) (zTkF X i).1 A s.heap H locs → lv_has ls 5 [(0, .ref (mO k)), (2, .int w), (3, .int (nI i))] → W p l e _ s m _ below meth c H locs 0 0 _ (F0 m 38 ls [])) (nW x) 0 0 ls _ _ (Nat.zero_add _) rfl hG (lv_sub hl [2, 1, 0] rfl)
        intro n
        induction n with
        | zero =>
          intro i w ls H locs hin hw hG hl
          obtain ⟨y, hR, hH⟩ := mR.out hG
          have hnW := hR.n.2.1
          rw [((zTkF_60 X).1 _).1, hXW] at hnW
          refine lv_iload_n hx hb dM_tick_38 rfl (lv_at hl 2 rfl) ?_
          first | refine lv_aload_n hx hb dM_tick_39 rfl (lv_at hl 0 rfl) ?_ | refine lv_aload_nN hx hb dM_tick_39 rfl (lv_at hl 0 rfl) ?_
          refine gM_workers hC hH dM_tick_40 ?_
          refine lv_icmp_ge  (tgt := 90) hx hb dM_tick_43 (by decide) (fun h9 => ?_) (fun h9 => ?_)
          · refine lv_iload_n hx hb dM_tick_90 rfl (lv_at hl 1 rfl) ?_
            obtain rfl : i = nW x := by omega
            have e := (zTkF_60 X).2 (60 - nW x)
            rw [hXW, show nW x + (60 - nW x) = 60 by omega] at e
            exact grWi hC hr hlk rfl hG (by rw [zTick, if_neg (by rintro (q | q | q); exact h q; exact h2 q; exact q (htl.1.mp h3)), hX, hw, e]) dM_tick_91
          · exact absurd (by rw [hnW]; exact nI_le (by omega) (by omega)) h9
        | succ n ih =>
          intro i w ls H locs hin hw hG hl
          obtain ⟨y, hR, hH⟩ := mR.out hG
          have hnW := hR.n.2.1
          rw [((zTkF_60 X).1 _).1, hXW] at hnW
          have hi2 : i < nW (zTkF X i).1 := by rw [((zTkF_60 X).1 _).1, hXW]; omega
          have hi3 : i < 60 := by omega
          have q0 := hR.2.2.2.2.1 i hi2
          have hc2 : yCl y = cCl (zTkF X i).1 := hR.1.2.1
          have hd2 : yId y = cId (zTkF X i).1 := congrArg (fun q => q.2.2) hR.1.1
          refine lv_iload_n hx hb dM_tick_38 rfl (lv_at hl 2 rfl) ?_
          first | refine lv_aload_n hx hb dM_tick_39 rfl (lv_at hl 0 rfl) ?_ | refine lv_aload_nN hx hb dM_tick_39 rfl (lv_at hl 0 rfl) ?_
          refine gM_workers hC hH dM_tick_40 ?_
          refine lv_icmp_ge  (tgt := 90) hx hb dM_tick_43 (by decide) (fun h9 => ?_) (fun h9 => ?_)
          · exact absurd h9 (by rw [hnW]; exact nI_ge (by omega) (by omega))
          · first | refine lv_aload_n hx hb dM_tick_46 rfl (lv_at hl 0 rfl) ?_ | refine lv_aload_nN hx hb dM_tick_46 rfl (lv_at hl 0 rfl) ?_
            refine gM_state hC hH dM_tick_47 ?_
            refine lv_iload_n hx hb dM_tick_50 rfl (lv_at hl 2 rfl) ?_
            refine aM_i hC hH (by decide) (by assumption) dM_tick_51 ?_
            rw [q0.2.1]
            refine lv_if_ne  (tgt := 84) hx hb dM_tick_52 (by decide) (fun h1 => ?_) (fun h1 => ?_)
            · refine lv_iinc hx hb dM_tick_84 hl (k := 2) rfl rfl (by decide) rfl (fun ls hl => ?_)
              have hl : lv_has ls 5 [(3, _), (0, _), (2, _)] := hl
              refine lv_goto (tgt := 38) hx hb dM_tick_87 (by decide) ?_
              have hs : zTkF X (i + 1) = zTkF X i := if_neg (fun q => h1 q.2.1)
              exact ih (i + 1) w ls H locs (by omega) (by rw [hs]; exact hw) (by rw [hs]; exact hG) (by rw [← nI_1 i]; exact lv_sub hl [1, 2, 0] rfl)
            · first | refine lv_aload_n hx hb dM_tick_55 rfl (lv_at hl 0 rfl) ?_ | refine lv_aload_nN hx hb dM_tick_55 rfl (lv_at hl 0 rfl) ?_
              refine gM_clock hC hH dM_tick_56 ?_
              first | refine lv_aload_n hx hb dM_tick_59 rfl (lv_at hl 0 rfl) ?_ | refine lv_aload_nN hx hb dM_tick_59 rfl (lv_at hl 0 rfl) ?_
              refine gM_since hC hH dM_tick_60 ?_
              refine lv_iload_n hx hb dM_tick_63 rfl (lv_at hl 2 rfl) ?_
              refine aM_i hC hH (by decide) (by assumption) dM_tick_64 ?_
              refine lv_isub hx hb dM_tick_65 ?_
              first | refine lv_aload_n hx hb dM_tick_66 rfl (lv_at hl 0 rfl) ?_ | refine lv_aload_nN hx hb dM_tick_66 rfl (lv_at hl 0 rfl) ?_
              refine gM_idle hC hH dM_tick_67 ?_
              rw [q0.2.2.2.2.2.2.2.1 h1, hc2, hd2]
              refine lv_icmp_lt  (tgt := 84) hx hb dM_tick_70 (by decide) (fun h5 => ?_) (fun h5 => ?_)
              · refine lv_iinc hx hb dM_tick_84 hl (k := 2) rfl rfl (by decide) rfl (fun ls hl => ?_)
                have hl : lv_has ls 5 [(3, _), (0, _), (2, _)] := hl
                refine lv_goto (tgt := 38) hx hb dM_tick_87 (by decide) ?_
                have hs : zTkF X (i + 1) = zTkF X i := if_neg (fun q => q.2.2 h5)
                exact ih (i + 1) w ls H locs (by omega) (by rw [hs]; exact hw) (by rw [hs]; exact hG) (by rw [← nI_1 i]; exact lv_sub hl [1, 2, 0] rfl)
              · have hs : zTkF X (i + 1) = (sW (zTkF X i).1 i (wEn_ (gW (zTkF X i).1 i) 4), (zTkF X i).2 + 1) := if_pos ⟨hi2, h1, h5⟩
                have hR3 := hR.ends0 hi2 (r := 4) (by decide) (zSt_0.mp h1).2
                first | refine lv_aload_n hx hb dM_tick_73 rfl (lv_at hl 0 rfl) ?_ | refine lv_aload_nN hx hb dM_tick_73 rfl (lv_at hl 0 rfl) ?_
                refine lv_iload_n hx hb dM_tick_74 rfl (lv_at hl 2 rfl) ?_
                refine lv_iconst (v := 4) hx hb dM_tick_75 (by decide) ?_
                refine gcWVi hC hl.1 hA hH (fun LL f sz hI => m_ends hI hi3 4) mJ.o rfl rfl kM_137 ⟨Nat.le_of_ble_eq_true rfl, Nat.le_of_ble_eq_true rfl⟩ dM_tick_76 ⟨Nat.le_of_ble_eq_true rfl, Nat.le_of_ble_eq_true rfl⟩ rfl (Nat.le_of_ble_eq_true rfl) (fun r u H locs hp hH => ?_)
                obtain ⟨hp1, hp2⟩ := hp
                subst hp1
                refine lv_istore hx hb dM_tick_79 hl (by decide) rfl (fun ls hl => ?_)
                have hl : lv_has ls 5 [(4, _), (0, _), (2, _), (3, _)] := hl
                refine lv_iinc hx hb dM_tick_81 hl (k := 2) rfl rfl (by decide) rfl (fun ls hl => ?_)
                have hl : lv_has ls 5 [(2, _), (4, _), (0, _), (3, _)] := hl
                refine lv_iinc hx hb dM_tick_84 hl (k := 3) rfl rfl (by decide) rfl (fun ls hl => ?_)
                have hl : lv_has ls 5 [(3, _), (2, _), (4, _), (0, _)] := hl
                refine lv_goto (tgt := 38) hx hb dM_tick_87 (by decide) ?_
                exact ih (i + 1) (w + Int32.ofInt 1) ls H locs (by omega) (by rw [hs, hw]; rfl) (by rw [hs]; exact mR.in hR3 hH) (by rw [← nI_1 i]; exact lv_sub hl [3, 1, 0] rfl)
      · refine lv_iconst (v := -1) hx hb dM_tick_22 (by decide) ?_
        exact grWi hC hr hlk rfl (mR.in hR hH) (by rw [zTick, if_pos (Or.inr (Or.inr (fun q => h3 (htl.1.mpr q))))]) dM_tick_23
end M5
