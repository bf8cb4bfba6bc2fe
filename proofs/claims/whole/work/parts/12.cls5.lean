section C5
variable {l : Launch} {D : va_G} {k : ck_F} {d : ck_A} {x : cs_S} {LL : List Nat} {f : Nat → va_E} {sz : Nat}
theorem sW_sR (x : cs_S) (i j : Nat) (w : cs_W) (r : cs_R) : sW (sR x j r) i w = sR (sW x i w) j r := rfl
theorem sT_sR (x : cs_S) (i j : Nat) (t : cs_T) (r : cs_R) : sT (sR x j r) i t = sR (sT x i t) j r := rfl
theorem sT_sW (x : cs_S) (i j : Nat) (t : cs_T) (w : cs_W) : sT (sW x j w) i t = sW (sT x i t) j w := rfl
theorem gW_sR (x : cs_S) (j : Nat) (r : cs_R) : gW (sR x j r) = gW x := rfl
theorem gR_sW (x : cs_S) (i : Nat) (w : cs_W) : gR (sW x i w) = gR x := rfl
theorem gT_sW (x : cs_S) (i : Nat) (w : cs_W) : gT (sW x i w) = gT x := rfl
theorem gT_sR (x : cs_S) (j : Nat) (r : cs_R) : gT (sR x j r) = gT x := rfl
theorem gW_sT (x : cs_S) (i : Nat) (t : cs_T) : gW (sT x i t) = gW x := rfl
theorem gR_sT (x : cs_S) (i : Nat) (t : cs_T) : gR (sT x i t) = gR x := rfl
def zMove (x : cs_S) (j : Nat) : cs_S × Int32 := if ¬ tBa (gT x (rTo (gR x j))) < 3 then (sR x j (qDone (gR x j) none (os (tEd (gT x (rTo (gR x j)))) (rIn (gR x j)))), 1) else match ffr x (rTo (gR x j)) 60 0 with
  | some i => (zBegin x j i, 1)
  | none => if nW x < 60 ∧ cst x (rTo (gR x j)) 60 < cMo x then (zBegin (aW x (rTo (gR x j), tEd (gT x (rTo (gR x j))), 0, 0, 0, 0, 0, none)) j (nW x), 1) else (x, 0)
def zStepF (x : cs_S) : Nat → cs_S × Int32
  | 0 => (x, 0)
  | j + 1 => if j < nR (zStepF x j).1 ∧ rSt (gR (zStepF x j).1 j) = 0 then ((zMove (zStepF x j).1 j).1, if (zMove (zStepF x j).1 j).2 = 0 then (zStepF x j).2 else (zStepF x j).2 + 1) else zStepF x j
theorem ffr_lt {x : cs_S} {t : Nat} : ∀ (n i a : Nat), ffr x t n i = some a → a < nW x
  | 0, i, a, h => by cases h
  | n + 1, i, a, h => by
    unfold ffr at h
    split at h
    · next q => cases h; exact q.1
    · exact ffr_lt n (i + 1) a h
set_option maxHeartbeats 4000000 in
set_option maxRecDepth 100000 in
theorem c_moveOn (hI : cJ k (d, x) LL f) {j : Nat} (hj : j < nR x) : Met l yC_moveOn (wz yC_moveOn bC_moveOn 4 (some .boolean)) (rmL 3 1 9) (gP D (ck_tys k) LL f sz [.ref (kO k), .ref (aRq d j)]) (va_Qi (fun (r : Int32) (u : ck_A × cs_S) => (u.2, r) = zMove x j) (gB D (ck_tys k) (cJ k) (va_A (va_pl LL f) sz)) (va_A (va_pl LL f) sz)) 1 9 (va_A (va_pl LL f) sz) := by
  refine gMet (own := RX3) (u := (d, x)) (Qc := fun A => va_Qi (fun (r : Int32) (u : ck_A × cs_S) => (u.2, r) = zMove x j) (gB D (ck_tys k) (cJ k) A) A) (by decide) rfl hI (Nat.le_of_ble_eq_true rfl) ?_
  intro p e s m below meth c ls A hC hr hlk hnm hA hH hl
  have hx := hC.1
  have hb := hC.2.1
  have hml := hC.2.2.2.2.2
  have hts := hC.2.2.1
  have hown := hC.2.2.2.1
  have hl : lv_has ls 4 [(0, _), (1, _)] := hl
  have htj := ((cG.ok hH).2.2 j hj).1
  first | refine lv_aload_n hx hb dC_moveOn_0 rfl (lv_at hl 1 rfl) ?_ | refine lv_aload_nN hx hb dC_moveOn_0 rfl (lv_at hl 1 rfl) ?_
  refine gC_R_tool hC hH (by assumption) dC_moveOn_1 ?_
  first | refine lv_astore_n hx hb dC_moveOn_4 rfl hl (by decide) rfl (fun ls hl => ?_) | refine lv_astore_nN hx hb dC_moveOn_4 rfl hl (by decide) rfl (fun ls hl => ?_)
  have hl : lv_has ls 4 [(2, _), (0, _), (1, _)] := hl
  first | refine lv_aload_n hx hb dC_moveOn_5 rfl (lv_at hl 0 rfl) ?_ | refine lv_aload_nN hx hb dC_moveOn_5 rfl (lv_at hl 0 rfl) ?_
  refine gC_T_bars hC hH (by assumption) dC_moveOn_6 ?_
  refine lv_iconst (v := 3) hx hb dC_moveOn_9 (by decide) ?_
  refine lv_icmp_lt  (tgt := 31) hx hb dC_moveOn_10 (by decide) (fun h => ?_) (fun h => ?_)
  · first | refine lv_aload_n hx hb dC_moveOn_31 rfl (lv_at hl 1 rfl) ?_ | refine lv_aload_nN hx hb dC_moveOn_31 rfl (lv_at hl 1 rfl) ?_
    first | refine lv_aload_n hx hb dC_moveOn_32 rfl (lv_at hl 0 rfl) ?_ | refine lv_aload_nN hx hb dC_moveOn_32 rfl (lv_at hl 0 rfl) ?_
    refine gcVq hC hl.1 hH (fun LL f sz hI => c_firstFree hI htj) cJ.o rfl rfl kC_186 ⟨Nat.le_of_ble_eq_true rfl, Nat.le_of_ble_eq_true rfl⟩ dC_moveOn_33 ⟨Nat.le_of_ble_eq_true rfl, Nat.le_of_ble_eq_true rfl⟩ rfl (Nat.le_of_ble_eq_true rfl) (fun o ho => ?_)
    subst ho
    rcases hff : ffr x (rTo (gR x j)) 60 0 with _ | i
    · first | refine lv_astore_n hx hb dC_moveOn_36 rfl hl (by decide) rfl (fun ls hl => ?_) | refine lv_astore_nN hx hb dC_moveOn_36 rfl hl (by decide) rfl (fun ls hl => ?_)
      have hl : lv_has ls 4 [(3, _), (2, _), (0, _), (1, _)] := hl
      first | refine lv_aload_n hx hb dC_moveOn_37 rfl (lv_at hl 0 rfl) ?_ | refine lv_aload_nN hx hb dC_moveOn_37 rfl (lv_at hl 0 rfl) ?_
      first | refine lv_ifnonnullN hx hb dC_moveOn_38 ?_ | refine lv_ifnonnull (tgt := 47) hx hb dC_moveOn_38 (by decide) ?_
      first | refine lv_aload_n hx hb dC_moveOn_41 rfl (lv_at hl 2 rfl) ?_ | refine lv_aload_nN hx hb dC_moveOn_41 rfl (lv_at hl 2 rfl) ?_
      first | refine lv_aload_n hx hb dC_moveOn_42 rfl (lv_at hl 1 rfl) ?_ | refine lv_aload_nN hx hb dC_moveOn_42 rfl (lv_at hl 1 rfl) ?_
      refine gcWVq hC hl.1 hA hH (fun LL f sz hI => c_startWorker hI htj) cJ.o rfl rfl kC_190 ⟨Nat.le_of_ble_eq_true rfl, Nat.le_of_ble_eq_true rfl⟩ dC_moveOn_43 ⟨Nat.le_of_ble_eq_true rfl, Nat.le_of_ble_eq_true rfl⟩ rfl (Nat.le_of_ble_eq_true rfl) (fun o u H locs hp hH => ?_)
      rcases hp with ⟨hn, q, rfl, rfl⟩ | ⟨hn, rfl, rfl⟩
      · first | refine lv_astore_n hx hb dC_moveOn_46 rfl hl (by decide) rfl (fun ls hl => ?_) | refine lv_astore_nN hx hb dC_moveOn_46 rfl hl (by decide) rfl (fun ls hl => ?_)
        have hl : lv_has ls 4 [(3, _), (2, _), (0, _), (1, _)] := hl
        first | refine lv_aload_n hx hb dC_moveOn_47 rfl (lv_at hl 0 rfl) ?_ | refine lv_aload_nN hx hb dC_moveOn_47 rfl (lv_at hl 0 rfl) ?_
        first | refine lv_ifnonnullN hx hb dC_moveOn_48 ?_ | refine lv_ifnonnull (tgt := 53) hx hb dC_moveOn_48 (by decide) ?_
        have hq : q = aWo (aTo d, va_up (aWo d) (nW x) q, aRq d) (nW x) := (va_up_self _ _ _).symm
        have hi2 : nW x < nW (aW x (rTo (gR x j), tEd (gT x (rTo (gR x j))), 0, 0, 0, 0, 0, none)) := Nat.lt_succ_self _
        have hl : lv_has ls 4 [(3, .ref (aWo (aTo d, va_up (aWo d) (nW x) q, aRq d) (nW x))), (1, .ref (aRq (aTo d, va_up (aWo d) (nW x) q, aRq d) j))] := by rw [← hq]; exact lv_sub hl [0, 3] rfl
        first | refine lv_aload_n hx hb dC_moveOn_53 rfl (lv_at hl 1 rfl) ?_ | refine lv_aload_nN hx hb dC_moveOn_53 rfl (lv_at hl 1 rfl) ?_
        first | refine lv_aload_n hx hb dC_moveOn_54 rfl (lv_at hl 0 rfl) ?_ | refine lv_aload_nN hx hb dC_moveOn_54 rfl (lv_at hl 0 rfl) ?_
        refine gcWSv hC hl.1 hA hH (fun LL f sz hI => c_beginWith (i := nW x) (j := j) hI hi2 hj) kC_193 ⟨Nat.le_of_ble_eq_true rfl, Nat.le_of_ble_eq_true rfl⟩ dC_moveOn_55 ⟨Nat.le_of_ble_eq_true rfl, Nat.le_of_ble_eq_true rfl⟩ rfl (Nat.le_of_ble_eq_true rfl) (fun u H locs hp hH => ?_)
        subst hp
        refine lv_iconst (v := 1) hx hb dC_moveOn_58 (by decide) ?_
        exact grWi hC hr hlk rfl hH (by simp only [zMove, hff]; rw [if_neg (fun q => q h), if_pos hn]) dC_moveOn_59
      · first | refine lv_astore_n hx hb dC_moveOn_46 rfl hl (by decide) rfl (fun ls hl => ?_) | refine lv_astore_nN hx hb dC_moveOn_46 rfl hl (by decide) rfl (fun ls hl => ?_)
        have hl : lv_has ls 4 [(3, _), (2, _), (0, _), (1, _)] := hl
        first | refine lv_aload_n hx hb dC_moveOn_47 rfl (lv_at hl 0 rfl) ?_ | refine lv_aload_nN hx hb dC_moveOn_47 rfl (lv_at hl 0 rfl) ?_
        first | refine lv_ifnonnullN hx hb dC_moveOn_48 ?_ | refine lv_ifnonnull (tgt := 53) hx hb dC_moveOn_48 (by decide) ?_
        refine lv_iconst (v := 0) hx hb dC_moveOn_51 (by decide) ?_
        exact grWi hC hr hlk rfl hH (by simp only [zMove, hff]; rw [if_neg (fun q => q h), if_neg hn]) dC_moveOn_52
    · have hi := ffr_lt _ _ _ hff
      first | refine lv_astore_n hx hb dC_moveOn_36 rfl hl (by decide) rfl (fun ls hl => ?_) | refine lv_astore_nN hx hb dC_moveOn_36 rfl hl (by decide) rfl (fun ls hl => ?_)
      have hl : lv_has ls 4 [(3, _), (2, _), (0, _), (1, _)] := hl
      first | refine lv_aload_n hx hb dC_moveOn_37 rfl (lv_at hl 0 rfl) ?_ | refine lv_aload_nN hx hb dC_moveOn_37 rfl (lv_at hl 0 rfl) ?_
      first | refine lv_ifnonnullN hx hb dC_moveOn_38 ?_ | refine lv_ifnonnull (tgt := 47) hx hb dC_moveOn_38 (by decide) ?_
      first | refine lv_aload_n hx hb dC_moveOn_47 rfl (lv_at hl 0 rfl) ?_ | refine lv_aload_nN hx hb dC_moveOn_47 rfl (lv_at hl 0 rfl) ?_
      first | refine lv_ifnonnullN hx hb dC_moveOn_48 ?_ | refine lv_ifnonnull (tgt := 53) hx hb dC_moveOn_48 (by decide) ?_
      first | refine lv_aload_n hx hb dC_moveOn_53 rfl (lv_at hl 3 rfl) ?_ | refine lv_aload_nN hx hb dC_moveOn_53 rfl (lv_at hl 3 rfl) ?_
      first | refine lv_aload_n hx hb dC_moveOn_54 rfl (lv_at hl 0 rfl) ?_ | refine lv_aload_nN hx hb dC_moveOn_54 rfl (lv_at hl 0 rfl) ?_
      refine gcWSv hC hl.1 hA hH (fun LL f sz hI => c_beginWith (i := i) (j := j) hI hi hj) kC_193 ⟨Nat.le_of_ble_eq_true rfl, Nat.le_of_ble_eq_true rfl⟩ dC_moveOn_55 ⟨Nat.le_of_ble_eq_true rfl, Nat.le_of_ble_eq_true rfl⟩ rfl (Nat.le_of_ble_eq_true rfl) (fun u H locs hp hH => ?_)
      subst hp
      refine lv_iconst (v := 1) hx hb dC_moveOn_58 (by decide) ?_
      refine W.widen (k := 1) (n := 9) (by decide) (by decide) ?_
      exact grWi hC hr hlk rfl hH (by simp only [zMove, hff]; rw [if_neg (fun q => q h)]) dC_moveOn_59
  · first | refine lv_aload_n hx hb dC_moveOn_13 rfl (lv_at hl 2 rfl) ?_ | refine lv_aload_nN hx hb dC_moveOn_13 rfl (lv_at hl 2 rfl) ?_
    refine lv_null hx hb dC_moveOn_14 ?_
    first | refine lv_aload_n hx hb dC_moveOn_15 rfl (lv_at hl 0 rfl) ?_ | refine lv_aload_nN hx hb dC_moveOn_15 rfl (lv_at hl 0 rfl) ?_
    refine gC_T_edition hC hH (by assumption) dC_moveOn_16 ?_
    first | refine lv_aload_n hx hb dC_moveOn_19 rfl (lv_at hl 2 rfl) ?_ | refine lv_aload_nN hx hb dC_moveOn_19 rfl (lv_at hl 2 rfl) ?_
    refine gC_R_input hC hH (by assumption) dC_moveOn_20 ?_
    refine gcTl hC.fix hl.1 (c_freshRun _ _) kC_141 ⟨Nat.le_of_ble_eq_true rfl, Nat.le_of_ble_eq_true rfl⟩ dC_moveOn_23 ⟨Nat.le_of_ble_eq_true rfl, Nat.le_of_ble_eq_true rfl⟩ rfl (Nat.le_of_ble_eq_true rfl) (fun r hr1 => ?_)
    subst hr1
    refine gcWSv hC hl.1 hA hH (fun LL f sz hI => c_leaveDoneN hI hj _) kC_124 ⟨Nat.le_of_ble_eq_true rfl, Nat.le_of_ble_eq_true rfl⟩ dC_moveOn_26 ⟨Nat.le_of_ble_eq_true rfl, Nat.le_of_ble_eq_true rfl⟩ rfl (Nat.le_of_ble_eq_true rfl) (fun u H locs hp hH => ?_)
    subst hp
    refine lv_iconst (v := 1) hx hb dC_moveOn_29 (by decide) ?_
    refine W.widen (k := 1) (n := 9) (by decide) (by decide) ?_
    exact grWi hC hr hlk rfl hH (by simp only [zMove]; rw [if_pos h]) dC_moveOn_30
set_option maxHeartbeats 4000000 in
set_option maxRecDepth 100000 in
theorem c_step (hI : cJ k (d, x) LL f) : Met l yC_step (wz yC_step bC_step 6 (some .int)) (rmL 4 100 900) (gP D (ck_tys k) LL f sz [.ref (kO k)]) (va_Qi (fun (r : Int32) (u : ck_A × cs_S) => (u.2, r) = zStepF x 100) (gB D (ck_tys k) (cJ k) (va_A (va_pl LL f) sz)) (va_A (va_pl LL f) sz)) 100 900 (va_A (va_pl LL f) sz) := by
  refine gMet (own := RX3) (u := (d, x)) (Qc := fun A => va_Qi (fun (r : Int32) (u : ck_A × cs_S) => (u.2, r) = zStepF x 100) (gB D (ck_tys k) (cJ k) A) A) (by decide) rfl hI (Nat.le_of_ble_eq_true rfl) ?_
  intro p e s m below meth c ls A hC hr hlk hnm hA hH hl
  have hx := hC.1
  have hb := hC.2.1
  have hml := hC.2.2.2.2.2
  have hts := hC.2.2.1
  have hown := hC.2.2.2.1
  have hl : lv_has ls 6 [(0, _)] := hl
  refine lv_iconst (v := 0) hx hb dC_step_0 (by decide) ?_
  refine lv_istore_n hx hb dC_step_1 rfl hl (by decide) rfl (fun ls hl => ?_)
  have hl : lv_has ls 6 [(1, _), (0, _)] := hl
  first | refine lv_aload_n hx hb dC_step_2 rfl (lv_at hl 1 rfl) ?_ | refine lv_aload_nN hx hb dC_step_2 rfl (lv_at hl 1 rfl) ?_
  refine gC_C_requests hC hH dC_step_3 ?_
  first | refine lv_astore_n hx hb dC_step_6 rfl hl (by decide) rfl (fun ls hl => ?_) | refine lv_astore_nN hx hb dC_step_6 rfl hl (by decide) rfl (fun ls hl => ?_)
  have hl : lv_has ls 6 [(2, _), (1, _), (0, _)] := hl
  first | refine lv_aload_n hx hb dC_step_7 rfl (lv_at hl 0 rfl) ?_ | refine lv_aload_nN hx hb dC_step_7 rfl (lv_at hl 0 rfl) ?_
  first | refine lC_T hC hH dC_step_8 ?_ | refine lC_W hC hH dC_step_8 ?_ | refine lC_R hC hH dC_step_8 ?_
  refine lv_istore_n hx hb dC_step_9 rfl hl (by decide) rfl (fun ls hl => ?_)
  have hl : lv_has ls 6 [(3, _), (2, _), (1, _), (0, _)] := hl
  refine lv_iconst (v := 0) hx hb dC_step_10 (by decide) ?_
  refine lv_istore hx hb dC_step_11 hl (by decide) rfl (fun ls hl => ?_)
  have hl : lv_has ls 6 [(4, _), (3, _), (2, _), (1, _), (0, _)] := hl
  refine (?_ : ∀ (n i : Nat) (v w : Int32) (ls : Array Slot) (H : Heap) (locs : List Loc) (d : ck_A), i + n = 100 → v = nI i → w = (zStepF x i).2 → cG D k d (zStepF x i).1 A s.heap H locs → lv_has ls 6 [(0, .ref (kO k)), (1, .int w), (2, .ref (kRs k)), (3, .int 100), (4, .int v)] → W p l e _ s m _ below meth c H locs i (9 * i) _ (F0 m 13 ls [])) 100 0 0 0 ls s.heap [] d rfl rfl rfl hH (lv_sub hl [4, 3, 2, 1, 0] rfl)
  intro n
  induction n with
  | zero =>
    intro i v w ls H locs d hin hv hw hH hl
    obtain rfl : i = 100 := by omega
    refine lv_iload hx hb dC_step_13 (lv_at hl 4 rfl) ?_
    refine lv_iload_n hx hb dC_step_15 rfl (lv_at hl 3 rfl) ?_
    refine lv_icmp_ge  (tgt := 56) hx hb dC_step_16 (by decide) (fun h => ?_) (fun h => ?_)
    · refine lv_iload_n hx hb dC_step_56 rfl (lv_at hl 1 rfl) ?_
      exact grWi hC hr hlk rfl hH (by rw [hw]) dC_step_57
    · exact absurd (by rw [hv]; exact nI_le (a := 100) (by omega) (by omega)) h
  | succ n ih =>
    intro i v w ls H locs d hin hv hw hH hl
    have hn := (cG.ok hH).1.2.2
    refine lv_iload hx hb dC_step_13 (lv_at hl 4 rfl) ?_
    refine lv_iload_n hx hb dC_step_15 rfl (lv_at hl 3 rfl) ?_
    refine lv_icmp_ge  (tgt := 56) hx hb dC_step_16 (by decide) (fun h => ?_) (fun h => ?_)
    · exact absurd h (by rw [hv]; exact nI_ge (b := 100) (by omega) (by decide))
    · first | refine lv_aload_n hx hb dC_step_19 rfl (lv_at hl 2 rfl) ?_ | refine lv_aload_nN hx hb dC_step_19 rfl (lv_at hl 2 rfl) ?_
      refine lv_iload hx hb dC_step_20 (lv_at hl 4 rfl) ?_
      by_cases hi : i < nR (zStepF x i).1
      · refine aC_R hC hH hi hv dC_step_22 ?_
        first | refine lv_astore hx hb dC_step_23 hl (by decide) rfl (fun ls hl => ?_) | refine lv_astoreN hx hb dC_step_23 hl (by decide) rfl (fun ls hl => ?_)
        have hl : lv_has ls 6 [(5, _), (0, _), (1, _), (2, _), (3, _), (4, _)] := hl
        first | refine lv_aload hx hb dC_step_25 (lv_at hl 0 rfl) ?_ | refine lv_aloadN hx hb dC_step_25 (lv_at hl 0 rfl) ?_
        first | refine lv_ifnull hx hb dC_step_27 ?_ | refine lv_ifnullN (tgt := 50) hx hb dC_step_27 (by decide) ?_
        first | refine lv_aload hx hb dC_step_30 (lv_at hl 0 rfl) ?_ | refine lv_aloadN hx hb dC_step_30 (lv_at hl 0 rfl) ?_
        refine gC_R_state hC hH (by assumption) dC_step_32 ?_
        refine lv_if_ne  (tgt := 50) hx hb dC_step_35 (by decide) (fun h1 => ?_) (fun h1 => ?_)
        · refine lv_iinc hx hb dC_step_50 hl (k := 5) rfl rfl (by decide) rfl (fun ls hl => ?_)
          have hl : lv_has ls 6 [(4, _), (5, _), (0, _), (1, _), (2, _), (3, _)] := hl
          refine lv_goto (tgt := 13) hx hb dC_step_53 (by decide) ?_
          refine W.widen (k := i + 1) (n := 9 * (i + 1)) (by omega) (by omega) ?_
          have hs : zStepF x (i + 1) = zStepF x i := if_neg (fun q => h1 q.2)
          exact ih (i + 1) _ _ ls H locs d (by omega) (by rw [hv]; exact nI_1 i) (by rw [hs]; exact hw) (by rw [hs]; exact hH) (lv_sub hl [2, 3, 4, 5, 0] rfl)
        · first | refine lv_aload_n hx hb dC_step_38 rfl (lv_at hl 1 rfl) ?_ | refine lv_aload_nN hx hb dC_step_38 rfl (lv_at hl 1 rfl) ?_
          first | refine lv_aload hx hb dC_step_39 (lv_at hl 0 rfl) ?_ | refine lv_aloadN hx hb dC_step_39 (lv_at hl 0 rfl) ?_
          refine gcWVi hC hl.1 hA hH (fun LL f sz hI => c_moveOn hI hi) cJ.o rfl rfl kC_96 ⟨Nat.le_of_ble_eq_true rfl, Nat.le_of_ble_eq_true rfl⟩ dC_step_41 ⟨(by show i + 1 ≤ 100; omega), (by show 9 * i + 9 ≤ 900; omega)⟩ rfl (Nat.le_of_ble_eq_true rfl) (fun r u H locs hp hH => ?_)
          obtain ⟨d2, y⟩ := u
          have hp : (y, r) = zMove (zStepF x i).1 i := hp
          have hs : zStepF x (i + 1) = (y, if r = 0 then (zStepF x i).2 else (zStepF x i).2 + 1) := by
            rw [show zStepF x (i + 1) = _ from if_pos ⟨hi, h1⟩, ← hp]
          refine lv_if_eq  (tgt := 50) hx hb dC_step_44 (by decide) (fun h2 => ?_) (fun h2 => ?_)
          · refine lv_iinc hx hb dC_step_50 hl (k := 5) rfl rfl (by decide) rfl (fun ls hl => ?_)
            have hl : lv_has ls 6 [(4, _), (5, _), (0, _), (1, _), (2, _), (3, _)] := hl
            refine lv_goto (tgt := 13) hx hb dC_step_53 (by decide) ?_
            exact ih (i + 1) _ _ ls H locs d2 (by omega) (by rw [hv]; exact nI_1 i) (by rw [hs, hw]; exact (if_pos h2).symm) (by rw [hs]; exact hH) (lv_sub hl [2, 3, 4, 5, 0] rfl)
          · refine lv_iinc hx hb dC_step_47 hl (k := 2) rfl rfl (by decide) rfl (fun ls hl => ?_)
            have hl : lv_has ls 6 [(1, _), (5, _), (0, _), (2, _), (3, _), (4, _)] := hl
            refine lv_iinc hx hb dC_step_50 hl (k := 5) rfl rfl (by decide) rfl (fun ls hl => ?_)
            have hl : lv_has ls 6 [(4, _), (1, _), (5, _), (0, _), (2, _), (3, _)] := hl
            refine lv_goto (tgt := 13) hx hb dC_step_53 (by decide) ?_
            exact ih (i + 1) _ _ ls H locs d2 (by omega) (by rw [hv]; exact nI_1 i) (by rw [hs, hw]; exact (if_neg h2).symm) (by rw [hs]; exact hH) (lv_sub hl [3, 1, 4, 5, 0] rfl)
      · refine aC_RN hC hH hi (by omega) hv dC_step_22 ?_
        first | refine lv_astore hx hb dC_step_23 hl (by decide) rfl (fun ls hl => ?_) | refine lv_astoreN hx hb dC_step_23 hl (by decide) rfl (fun ls hl => ?_)
        have hl : lv_has ls 6 [(5, _), (0, _), (1, _), (2, _), (3, _), (4, _)] := hl
        first | refine lv_aload hx hb dC_step_25 (lv_at hl 0 rfl) ?_ | refine lv_aloadN hx hb dC_step_25 (lv_at hl 0 rfl) ?_
        first | refine lv_ifnull hx hb dC_step_27 ?_ | refine lv_ifnullN (tgt := 50) hx hb dC_step_27 (by decide) ?_
        refine lv_iinc hx hb dC_step_50 hl (k := 5) rfl rfl (by decide) rfl (fun ls hl => ?_)
        have hl : lv_has ls 6 [(4, _), (5, _), (0, _), (1, _), (2, _), (3, _)] := hl
        refine lv_goto (tgt := 13) hx hb dC_step_53 (by decide) ?_
        refine W.widen (k := i + 1) (n := 9 * (i + 1)) (by omega) (by omega) ?_
        have hs : zStepF x (i + 1) = zStepF x i := if_neg (fun q => hi q.1)
        exact ih (i + 1) _ _ ls H locs d (by omega) (by rw [hv]; exact nI_1 i) (by rw [hs]; exact hw) (by rw [hs]; exact hH) (lv_sub hl [2, 3, 4, 5, 0] rfl)
end C5
