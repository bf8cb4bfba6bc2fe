section C9
variable {l : Launch} {D : va_G} {k : ck_F} {d : ck_A} {x : cs_S} {LL : List Nat} {f : Nat → va_E} {sz : Nat}
set_option maxHeartbeats 600000 in
set_option maxRecDepth 100000 in
theorem c_sample (hI : cJ k (d, x) LL f) (v : Int32) : Met l yC_sample (wz yC_sample bC_sample 5 (some .int)) (rmL 3 0 0) (gP D (ck_tys k) LL f sz [.ref (kO k), .int v]) (va_Qi (fun (r : Int32) (u : ck_A × cs_S) => (u.2, r) = zSam x v) (gB D (ck_tys k) (cJ k) (va_A (va_pl LL f) sz)) (va_A (va_pl LL f) sz)) 0 0 (va_A (va_pl LL f) sz) := by
  refine gMet (own := RX3) (u := (d, x)) (Qc := fun A => va_Qi (fun (r : Int32) (u : ck_A × cs_S) => (u.2, r) = zSam x v) (gB D (ck_tys k) (cJ k) A) A) (by decide) rfl hI (Nat.le_of_ble_eq_true rfl) ?_
  intro p e s m below meth c ls A hC hr hlk hnm hA hH hl
  have hx := hC.1
  have hb := hC.2.1
  have hml := hC.2.2.2.2.2
  have hts := hC.2.2.1
  have hown := hC.2.2.2.1
  have hl : lv_has ls 5 [(0, _), (1, _)] := hl
  have hn6 := (cG.ok hH).1.2.2
  first | refine lv_aload_n hx hb dC_sample_0 rfl (lv_at hl 0 rfl) ?_ | refine lv_aload_nN hx hb dC_sample_0 rfl (lv_at hl 0 rfl) ?_
  refine lv_iload_n hx hb dC_sample_1 rfl (lv_at hl 1 rfl) ?_
  refine gcVq hC hl.1 hH (fun LL f sz hI => c_requestAt hI v) cJ.o rfl rfl kC_81 ⟨Nat.le_of_ble_eq_true rfl, Nat.le_of_ble_eq_true rfl⟩ dC_sample_2 ⟨Nat.le_of_ble_eq_true rfl, Nat.le_of_ble_eq_true rfl⟩ rfl (Nat.le_of_ble_eq_true rfl) (fun o ho => ?_)
  rcases ho with ⟨j, hj, hv, rfl⟩ | ⟨hv, rfl⟩
  · have hkk : lk (nR x) v = some j := by rw [hv]; exact lk_in hj (by omega)
    first | refine lv_astore_n hx hb dC_sample_5 rfl hl (by decide) rfl (fun ls hl => ?_) | refine lv_astore_nN hx hb dC_sample_5 rfl hl (by decide) rfl (fun ls hl => ?_)
    have hl : lv_has ls 5 [(2, _), (0, _), (1, _)] := hl
    first | refine lv_aload_n hx hb dC_sample_6 rfl (lv_at hl 0 rfl) ?_ | refine lv_aload_nN hx hb dC_sample_6 rfl (lv_at hl 0 rfl) ?_
    first | refine lv_ifnull hx hb dC_sample_7 ?_ | refine lv_ifnullN (tgt := 25) hx hb dC_sample_7 (by decide) ?_
    first | refine lv_aload_n hx hb dC_sample_10 rfl (lv_at hl 0 rfl) ?_ | refine lv_aload_nN hx hb dC_sample_10 rfl (lv_at hl 0 rfl) ?_
    refine gC_R_state hC hH (by assumption) dC_sample_11 ?_
    refine lv_iconst (v := 2) hx hb dC_sample_14 (by decide) ?_
    refine lv_icmp_ne  (tgt := 25) hx hb dC_sample_15 (by decide) (fun h => ?_) (fun h => ?_)
    · refine lv_iconst (v := -1) hx hb dC_sample_25 (by decide) ?_
      exact grWi hC hr hlk rfl hH (by simp only [zSam, hkk]; rw [if_neg h]) dC_sample_26
    · first | refine lv_aload_n hx hb dC_sample_18 rfl (lv_at hl 0 rfl) ?_ | refine lv_aload_nN hx hb dC_sample_18 rfl (lv_at hl 0 rfl) ?_
      refine gC_R_worker hC hH (by assumption) dC_sample_19 ?_
      rcases hq : rWk (gR x j) with _ | i
      · first | refine lv_ifnonnullN hx hb dC_sample_22 ?_ | refine lv_ifnonnull (tgt := 27) hx hb dC_sample_22 (by decide) ?_
        refine lv_iconst (v := -1) hx hb dC_sample_25 (by decide) ?_
        exact grWi hC hr hlk rfl hH (by simp only [zSam, hkk, hq]; rw [if_pos h]) dC_sample_26
      · have hi := ((cG.ok hH).2.2 j hj).2 i hq
        first | refine lv_ifnonnullN hx hb dC_sample_22 ?_ | refine lv_ifnonnull (tgt := 27) hx hb dC_sample_22 (by decide) ?_
        first | refine lv_aload_n hx hb dC_sample_27 rfl (lv_at hl 0 rfl) ?_ | refine lv_aload_nN hx hb dC_sample_27 rfl (lv_at hl 0 rfl) ?_
        refine gC_R_worker hC hH (by assumption) dC_sample_28 ?_
        rw [hq]
        first | refine lv_astore_n hx hb dC_sample_31 rfl hl (by decide) rfl (fun ls hl => ?_) | refine lv_astore_nN hx hb dC_sample_31 rfl hl (by decide) rfl (fun ls hl => ?_)
        have hl : lv_has ls 5 [(3, _), (2, _), (0, _), (1, _)] := hl
        first | refine lv_aload_n hx hb dC_sample_32 rfl (lv_at hl 1 rfl) ?_ | refine lv_aload_nN hx hb dC_sample_32 rfl (lv_at hl 1 rfl) ?_
        refine gC_R_result hC hH (by assumption) dC_sample_33 ?_
        first | refine lv_aload_n hx hb dC_sample_36 rfl (lv_at hl 0 rfl) ?_ | refine lv_aload_nN hx hb dC_sample_36 rfl (lv_at hl 0 rfl) ?_
        refine gC_W_edition hC hH (by assumption) dC_sample_37 ?_
        first | refine lv_aload_n hx hb dC_sample_40 rfl (lv_at hl 1 rfl) ?_ | refine lv_aload_nN hx hb dC_sample_40 rfl (lv_at hl 1 rfl) ?_
        refine gC_R_input hC hH (by assumption) dC_sample_41 ?_
        refine gcTl hC.fix hl.1 (c_freshRun _ _) kC_141 ⟨Nat.le_of_ble_eq_true rfl, Nat.le_of_ble_eq_true rfl⟩ dC_sample_44 ⟨Nat.le_of_ble_eq_true rfl, Nat.le_of_ble_eq_true rfl⟩ rfl (Nat.le_of_ble_eq_true rfl) (fun r hr1 => ?_)
        subst hr1
        refine W.lcmp hx hb dC_sample_47 ?_
        refine lv_if_ne  (tgt := 68) hx hb dC_sample_48 (by decide) (fun h2 => ?_) (fun h2 => ?_)
        · have h3 : ¬ rRs (gR x j) = os (wEd (gW x i)) (rIn (gR x j)) := fun q => h2 ((lg_cmp_eq _ _).mpr q)
          first | refine lv_aload_n hx hb dC_sample_68 rfl (lv_at hl 2 rfl) ?_ | refine lv_aload_nN hx hb dC_sample_68 rfl (lv_at hl 2 rfl) ?_
          first | refine lv_aload_n hx hb dC_sample_69 rfl (lv_at hl 1 rfl) ?_ | refine lv_aload_nN hx hb dC_sample_69 rfl (lv_at hl 1 rfl) ?_
          first | refine lv_aload_n hx hb dC_sample_70 rfl (lv_at hl 0 rfl) ?_ | refine lv_aload_nN hx hb dC_sample_70 rfl (lv_at hl 0 rfl) ?_
          refine gcWVi hC hl.1 hA hH (fun LL f sz hI => c_redoUntrusted hI hi hj) cJ.o rfl rfl kC_166 ⟨Nat.le_of_ble_eq_true rfl, Nat.le_of_ble_eq_true rfl⟩ dC_sample_71 ⟨Nat.le_of_ble_eq_true rfl, Nat.le_of_ble_eq_true rfl⟩ rfl (Nat.le_of_ble_eq_true rfl) (fun r u H locs hp hH => ?_)
          have hzn := (zRdF_n x j i 100).1
          obtain ⟨hp1, hp2⟩ := hp
          generalize hz : zRdF x j i 100 = z at hp1 hp2 hzn
          subst hp1 hp2
          have hi2 : i < nW z.1 := by rw [hzn]; exact hi
          refine lv_istore hx hb dC_sample_74 hl (by decide) rfl (fun ls hl => ?_)
          have hl : lv_has ls 5 [(4, _), (3, _), (2, _), (0, _), (1, _)] := hl
          first | refine lv_aload_n hx hb dC_sample_76 rfl (lv_at hl 1 rfl) ?_ | refine lv_aload_nN hx hb dC_sample_76 rfl (lv_at hl 1 rfl) ?_
          refine gcSi hC hl.1 hH (fun LL f sz hI => c_isEnded hI hi2) kC_63 ⟨Nat.le_of_ble_eq_true rfl, Nat.le_of_ble_eq_true rfl⟩ dC_sample_77 ⟨Nat.le_of_ble_eq_true rfl, Nat.le_of_ble_eq_true rfl⟩ rfl (Nat.le_of_ble_eq_true rfl) (fun r hr1 => ?_)
          refine lv_if_ne  (tgt := 88) hx hb dC_sample_80 (by decide) (fun h4 => ?_) (fun h4 => ?_)
          · have h5 : ¬ wEn (gW z.1 i) = 0 := fun q => h4 (by rw [hr1]; exact zEnd_0.mpr q)
            have hti := ((cG.ok hH).2.1 i hi2).1
            first | refine lv_aload_n hx hb dC_sample_88 rfl (lv_at hl 1 rfl) ?_ | refine lv_aload_nN hx hb dC_sample_88 rfl (lv_at hl 1 rfl) ?_
            refine gC_W_tool hC hH (by assumption) dC_sample_89 ?_
            refine lv_dup hx hb dC_sample_92 rfl ?_
            refine gC_T_bars hC hH (by assumption) dC_sample_93 ?_
            refine lv_iconst (v := 1) hx hb dC_sample_96 (by decide) ?_
            refine lv_iadd hx hb dC_sample_97 ?_
            refine pC_T_bars hC hH (by assumption) dC_sample_98 (fun H locs hH => ?_)
            refine lv_iload hx hb dC_sample_101 (lv_at hl 0 rfl) ?_
            exact grWi hC hr hlk rfl hH (by simp only [zSam, hkk, hq, zBar]; rw [if_pos h, if_neg h3, hz, if_neg h5]) dC_sample_103
          · have h5 : wEn (gW z.1 i) = 0 := zEnd_0.mp (by rw [← hr1]; exact h4)
            first | refine lv_aload_n hx hb dC_sample_83 rfl (lv_at hl 1 rfl) ?_ | refine lv_aload_nN hx hb dC_sample_83 rfl (lv_at hl 1 rfl) ?_
            refine lv_iconst (v := 5) hx hb dC_sample_84 (by decide) ?_
            refine gcWSv hC hl.1 hA hH (fun LL f sz hI => c_endAndRequeue hI hi2 5) kC_67 ⟨Nat.le_of_ble_eq_true rfl, Nat.le_of_ble_eq_true rfl⟩ dC_sample_85 ⟨Nat.le_of_ble_eq_true rfl, Nat.le_of_ble_eq_true rfl⟩ rfl (Nat.le_of_ble_eq_true rfl) (fun u H locs hp hH => ?_)
            subst hp
            have hi3 : i < nW (zEndRe z.1 i 5) := by rw [(nW_zEndRe _ _ _).1]; exact hi2
            have hti := ((cG.ok hH).2.1 i hi3).1
            first | refine lv_aload_n hx hb dC_sample_88 rfl (lv_at hl 1 rfl) ?_ | refine lv_aload_nN hx hb dC_sample_88 rfl (lv_at hl 1 rfl) ?_
            refine gC_W_tool hC hH (by assumption) dC_sample_89 ?_
            refine lv_dup hx hb dC_sample_92 rfl ?_
            refine gC_T_bars hC hH (by assumption) dC_sample_93 ?_
            refine lv_iconst (v := 1) hx hb dC_sample_96 (by decide) ?_
            refine lv_iadd hx hb dC_sample_97 ?_
            refine pC_T_bars hC hH (by assumption) dC_sample_98 (fun H locs hH => ?_)
            refine lv_iload hx hb dC_sample_101 (lv_at hl 0 rfl) ?_
            exact grWi hC hr hlk rfl hH (by simp only [zSam, hkk, hq, zBar]; rw [if_pos h, if_neg h3, hz, if_pos h5]) dC_sample_103
        · have h3 : rRs (gR x j) = os (wEd (gW x i)) (rIn (gR x j)) := (lg_cmp_eq _ _).mp h2
          first | refine lv_aload_n hx hb dC_sample_51 rfl (lv_at hl 0 rfl) ?_ | refine lv_aload_nN hx hb dC_sample_51 rfl (lv_at hl 0 rfl) ?_
          first | refine lv_aload_n hx hb dC_sample_52 rfl (lv_at hl 0 rfl) ?_ | refine lv_aload_nN hx hb dC_sample_52 rfl (lv_at hl 0 rfl) ?_
          refine gC_W_trusted hC hH (by assumption) dC_sample_53 ?_
          first | refine lv_aload_n hx hb dC_sample_56 rfl (lv_at hl 1 rfl) ?_ | refine lv_aload_nN hx hb dC_sample_56 rfl (lv_at hl 1 rfl) ?_
          refine gC_R_place hC hH (by assumption) dC_sample_57 ?_
          refine va_mmax hx hb (hml.trans hl.1.symm) hown (hts _ wm_C_160) (hts _ ws_J_max) (hts _ wn_J) (hts _ wc_J_max) (Nat.le_of_ble_eq_true rfl) (Nat.le_of_ble_eq_true rfl) (Nat.le_of_ble_eq_true rfl) (Nat.le_of_ble_eq_true rfl) dC_sample_60 ?_
          refine pC_W_trusted hC hH (by assumption) dC_sample_63 (fun H locs hH => ?_)
          refine lv_iconst (v := 0) hx hb dC_sample_66 (by decide) ?_
          exact grWi hC hr hlk rfl hH (by simp only [zSam, hkk, hq]; rw [if_pos h, if_pos h3]) dC_sample_67
  · have hkk : lk (nR x) v = none := lk_out hv
    first | refine lv_astore_n hx hb dC_sample_5 rfl hl (by decide) rfl (fun ls hl => ?_) | refine lv_astore_nN hx hb dC_sample_5 rfl hl (by decide) rfl (fun ls hl => ?_)
    have hl : lv_has ls 5 [(2, _), (0, _), (1, _)] := hl
    first | refine lv_aload_n hx hb dC_sample_6 rfl (lv_at hl 0 rfl) ?_ | refine lv_aload_nN hx hb dC_sample_6 rfl (lv_at hl 0 rfl) ?_
    first | refine lv_ifnull hx hb dC_sample_7 ?_ | refine lv_ifnullN (tgt := 25) hx hb dC_sample_7 (by decide) ?_
    refine lv_iconst (v := -1) hx hb dC_sample_25 (by decide) ?_
    exact grWi hC hr hlk rfl hH (by simp only [zSam, hkk]) dC_sample_26
end C9
