section C3
variable {l : Launch} {D : va_G} {k : ck_F} {d : ck_A} {x : cs_S} {LL : List Nat} {f : Nat → va_E} {sz : Nat}
/-- the first free worker of a tool, from i on -/
def ffr (x : cs_S) (t : Nat) : Nat → Nat → Option Nat
  | 0, _ => none
  | n + 1, i => if i < nW x ∧ wTo (gW x i) = t ∧ zSt (gW x i) = 0 then some i else ffr x t n (i + 1)
/-- how many workers of a tool, of the first i, aren't ended -/
def cst (x : cs_S) (t : Nat) : Nat → Int32
  | 0 => 0
  | i + 1 => if i < nW x ∧ wTo (gW x i) = t ∧ wEn (gW x i) = 0 then cst x t i + 1 else cst x t i
set_option maxHeartbeats 4000000 in
set_option maxRecDepth 100000 in
theorem c_firstFree (hI : cJ k (d, x) LL f) {t : Nat} (ht : t < nT x) : Met l yC_firstFree (wz yC_firstFree bC_firstFree 6 (some (.object "WorkerRows$Worker"))) (rmL 2 0 0) (gP D (ck_tys k) LL f sz [.ref (kO k), .ref (aTo d t)]) (va_Sq (fun r => r = (ffr x t 60 0).map (aWo d))) 0 0 (fun _ => False) := by
  refine gMetR (own := RX3) (u := (d, x)) (by decide) rfl hI (Nat.le_of_ble_eq_true rfl) ?_
  intro p e s m below meth c ls hC hr hlk hH hl
  have hn := (cG.ok hH).1.2.1
  have hx := hC.1
  have hb := hC.2.1
  have hml := hC.2.2.2.2.2
  have hts := hC.2.2.1
  have hown := hC.2.2.2.1
  have hl : lv_has ls 6 [(0, _), (1, _)] := hl
  first | refine lv_aload_n hx hb dC_firstFree_0 rfl (lv_at hl 0 rfl) ?_ | refine lv_aload_nN hx hb dC_firstFree_0 rfl (lv_at hl 0 rfl) ?_
  refine gC_C_workers hC hH dC_firstFree_1 ?_
  first | refine lv_astore_n hx hb dC_firstFree_4 rfl hl (by decide) rfl (fun ls hl => ?_) | refine lv_astore_nN hx hb dC_firstFree_4 rfl hl (by decide) rfl (fun ls hl => ?_)
  have hl : lv_has ls 6 [(2, _), (0, _), (1, _)] := hl
  first | refine lv_aload_n hx hb dC_firstFree_5 rfl (lv_at hl 0 rfl) ?_ | refine lv_aload_nN hx hb dC_firstFree_5 rfl (lv_at hl 0 rfl) ?_
  first | refine lC_T hC hH dC_firstFree_6 ?_ | refine lC_W hC hH dC_firstFree_6 ?_ | refine lC_R hC hH dC_firstFree_6 ?_
  refine lv_istore_n hx hb dC_firstFree_7 rfl hl (by decide) rfl (fun ls hl => ?_)
  have hl : lv_has ls 6 [(3, _), (2, _), (0, _), (1, _)] := hl
  refine lv_iconst (v := 0) hx hb dC_firstFree_8 (by decide) ?_
  refine lv_istore hx hb dC_firstFree_9 hl (by decide) rfl (fun ls hl => ?_)
  have hl : lv_has ls 6 [(4, _), (3, _), (2, _), (0, _), (1, _)] := hl
  refine (?_ : ∀ (n i : Nat) (v : Int32) (ls : Array Slot), i + n = 60 → v = nI i → ffr x t 60 0 = ffr x t n i → lv_has ls 6 [(0, .ref (kO k)), (1, .ref (aTo d t)), (2, .ref (kWs k)), (3, .int 60), (4, .int v)] → W p l e _ s m _ below meth c s.heap [] 0 0 _ (F0 m 11 ls [])) 60 0 0 ls rfl rfl rfl (lv_sub hl [3, 4, 2, 1, 0] rfl)
  intro n
  induction n with
  | zero =>
    intro i v ls hin hv hff hl
    refine lv_iload hx hb dC_firstFree_11 (lv_at hl 4 rfl) ?_
    refine lv_iload_n hx hb dC_firstFree_13 rfl (lv_at hl 3 rfl) ?_
    refine lv_icmp_ge  (tgt := 54) hx hb dC_firstFree_14 (by decide) (fun h => ?_) (fun h => ?_)
    · refine lv_null hx hb dC_firstFree_54 ?_
      exact grSq (v := none) hC hr hlk (by rw [hff]; rfl) dC_firstFree_55
    · exact absurd (by rw [hv]; exact nI_le (a := 60) (by omega) (by omega)) h
  | succ n ih =>
    intro i v ls hin hv hff hl
    refine lv_iload hx hb dC_firstFree_11 (lv_at hl 4 rfl) ?_
    refine lv_iload_n hx hb dC_firstFree_13 rfl (lv_at hl 3 rfl) ?_
    refine lv_icmp_ge  (tgt := 54) hx hb dC_firstFree_14 (by decide) (fun h => ?_) (fun h => ?_)
    · exact absurd h (by rw [hv]; exact nI_ge (b := 60) (by omega) (by decide))
    · first | refine lv_aload_n hx hb dC_firstFree_17 rfl (lv_at hl 2 rfl) ?_ | refine lv_aload_nN hx hb dC_firstFree_17 rfl (lv_at hl 2 rfl) ?_
      refine lv_iload hx hb dC_firstFree_18 (lv_at hl 4 rfl) ?_
      by_cases hi : i < nW x
      · refine aC_W hC hH hi hv dC_firstFree_20 ?_
        have hti := ((cG.ok hH).2.1 i hi).1
        first | refine lv_astore hx hb dC_firstFree_21 hl (by decide) rfl (fun ls hl => ?_) | refine lv_astoreN hx hb dC_firstFree_21 hl (by decide) rfl (fun ls hl => ?_)
        have hl : lv_has ls 6 [(5, _), (0, _), (1, _), (2, _), (3, _), (4, _)] := hl
        first | refine lv_aload hx hb dC_firstFree_23 (lv_at hl 0 rfl) ?_ | refine lv_aloadN hx hb dC_firstFree_23 (lv_at hl 0 rfl) ?_
        first | refine lv_ifnull hx hb dC_firstFree_25 ?_ | refine lv_ifnullN (tgt := 48) hx hb dC_firstFree_25 (by decide) ?_
        first | refine lv_aload hx hb dC_firstFree_28 (lv_at hl 0 rfl) ?_ | refine lv_aloadN hx hb dC_firstFree_28 (lv_at hl 0 rfl) ?_
        refine gC_W_tool hC hH (by assumption) dC_firstFree_30 ?_
        first | refine lv_aload_n hx hb dC_firstFree_33 rfl (lv_at hl 2 rfl) ?_ | refine lv_aload_nN hx hb dC_firstFree_33 rfl (lv_at hl 2 rfl) ?_
        refine lv_acmp_ne (rx := some (aTo d (wTo (gW x i)))) (ry := some (aTo d t)) (tgt := 48) hx hb dC_firstFree_34 (by decide) (fun h1 => ?_) (fun h1 => ?_)
        · refine lv_iinc hx hb dC_firstFree_48 hl (k := 5) rfl rfl (by decide) rfl (fun ls hl => ?_)
          have hl : lv_has ls 6 [(4, _), (5, _), (0, _), (1, _), (2, _), (3, _)] := hl
          refine lv_goto (tgt := 11) hx hb dC_firstFree_51 (by decide) ?_
          exact ih (i + 1) _ ls (by omega) (by rw [hv]; exact nI_1 i) (hff.trans (if_neg (fun q => h1 (by rw [q.2.1])))) (lv_sub hl [2, 3, 4, 5, 0] rfl)
        · have h2 : wTo (gW x i) = t := cG.injT hH hti ht (Option.some.inj h1)
          first | refine lv_aload hx hb dC_firstFree_37 (lv_at hl 0 rfl) ?_ | refine lv_aloadN hx hb dC_firstFree_37 (lv_at hl 0 rfl) ?_
          refine gcSi hC hl.1 hH (fun LL f sz hI => c_stateOf hI hi) kC_146 ⟨Nat.le_of_ble_eq_true rfl, Nat.le_of_ble_eq_true rfl⟩ dC_firstFree_39 ⟨Nat.le_of_ble_eq_true rfl, Nat.le_of_ble_eq_true rfl⟩ rfl (Nat.le_of_ble_eq_true rfl) (fun r hr1 => ?_)
          refine lv_if_ne  (tgt := 48) hx hb dC_firstFree_42 (by decide) (fun h3 => ?_) (fun h3 => ?_)
          · refine lv_iinc hx hb dC_firstFree_48 hl (k := 5) rfl rfl (by decide) rfl (fun ls hl => ?_)
            have hl : lv_has ls 6 [(4, _), (5, _), (0, _), (1, _), (2, _), (3, _)] := hl
            refine lv_goto (tgt := 11) hx hb dC_firstFree_51 (by decide) ?_
            exact ih (i + 1) _ ls (by omega) (by rw [hv]; exact nI_1 i) (hff.trans (if_neg (fun q => h3 (by rw [hr1]; exact q.2.2)))) (lv_sub hl [2, 3, 4, 5, 0] rfl)
          · first | refine lv_aload hx hb dC_firstFree_45 (lv_at hl 0 rfl) ?_ | refine lv_aloadN hx hb dC_firstFree_45 (lv_at hl 0 rfl) ?_
            exact grSq (v := some (aWo d i)) hC hr hlk (by rw [hff, show ffr x t (n + 1) i = some i from if_pos ⟨hi, h2, by rw [← hr1]; exact h3⟩]; rfl) dC_firstFree_47
      · refine aC_WN hC hH hi (by omega) hv dC_firstFree_20 ?_
        first | refine lv_astore hx hb dC_firstFree_21 hl (by decide) rfl (fun ls hl => ?_) | refine lv_astoreN hx hb dC_firstFree_21 hl (by decide) rfl (fun ls hl => ?_)
        have hl : lv_has ls 6 [(5, _), (0, _), (1, _), (2, _), (3, _), (4, _)] := hl
        first | refine lv_aload hx hb dC_firstFree_23 (lv_at hl 0 rfl) ?_ | refine lv_aloadN hx hb dC_firstFree_23 (lv_at hl 0 rfl) ?_
        first | refine lv_ifnull hx hb dC_firstFree_25 ?_ | refine lv_ifnullN (tgt := 48) hx hb dC_firstFree_25 (by decide) ?_
        refine lv_iinc hx hb dC_firstFree_48 hl (k := 5) rfl rfl (by decide) rfl (fun ls hl => ?_)
        have hl : lv_has ls 6 [(4, _), (5, _), (0, _), (1, _), (2, _), (3, _)] := hl
        refine lv_goto (tgt := 11) hx hb dC_firstFree_51 (by decide) ?_
        exact ih (i + 1) _ ls (by omega) (by rw [hv]; exact nI_1 i) (hff.trans (if_neg (fun q => hi q.1))) (lv_sub hl [2, 3, 4, 5, 0] rfl)
set_option maxHeartbeats 4000000 in
set_option maxRecDepth 100000 in
theorem c_countStaying (hI : cJ k (d, x) LL f) {t : Nat} (ht : t < nT x) : Met l yC_countStaying (wz yC_countStaying bC_countStaying 7 (some .int)) (rmL 1 0 0) (gP D (ck_tys k) LL f sz [.ref (kO k), .ref (aTo d t)]) (vp_Si (fun r => r = cst x t 60)) 0 0 (fun _ => False) := by
  refine gMetR (own := RX3) (u := (d, x)) (by decide) rfl hI (Nat.le_of_ble_eq_true rfl) ?_
  intro p e s m below meth c ls hC hr hlk hH hl
  have hn := (cG.ok hH).1.2.1
  have hx := hC.1
  have hb := hC.2.1
  have hml := hC.2.2.2.2.2
  have hts := hC.2.2.1
  have hown := hC.2.2.2.1
  have hl : lv_has ls 7 [(0, _), (1, _)] := hl
  refine lv_iconst (v := 0) hx hb dC_countStaying_0 (by decide) ?_
  refine lv_istore_n hx hb dC_countStaying_1 rfl hl (by decide) rfl (fun ls hl => ?_)
  have hl : lv_has ls 7 [(2, _), (0, _), (1, _)] := hl
  first | refine lv_aload_n hx hb dC_countStaying_2 rfl (lv_at hl 1 rfl) ?_ | refine lv_aload_nN hx hb dC_countStaying_2 rfl (lv_at hl 1 rfl) ?_
  refine gC_C_workers hC hH dC_countStaying_3 ?_
  first | refine lv_astore_n hx hb dC_countStaying_6 rfl hl (by decide) rfl (fun ls hl => ?_) | refine lv_astore_nN hx hb dC_countStaying_6 rfl hl (by decide) rfl (fun ls hl => ?_)
  have hl : lv_has ls 7 [(3, _), (2, _), (0, _), (1, _)] := hl
  first | refine lv_aload_n hx hb dC_countStaying_7 rfl (lv_at hl 0 rfl) ?_ | refine lv_aload_nN hx hb dC_countStaying_7 rfl (lv_at hl 0 rfl) ?_
  first | refine lC_T hC hH dC_countStaying_8 ?_ | refine lC_W hC hH dC_countStaying_8 ?_ | refine lC_R hC hH dC_countStaying_8 ?_
  refine lv_istore hx hb dC_countStaying_9 hl (by decide) rfl (fun ls hl => ?_)
  have hl : lv_has ls 7 [(4, _), (3, _), (2, _), (0, _), (1, _)] := hl
  refine lv_iconst (v := 0) hx hb dC_countStaying_11 (by decide) ?_
  refine lv_istore hx hb dC_countStaying_12 hl (by decide) rfl (fun ls hl => ?_)
  have hl : lv_has ls 7 [(5, _), (4, _), (3, _), (2, _), (0, _), (1, _)] := hl
  refine (?_ : ∀ (n i : Nat) (v w : Int32) (ls : Array Slot), i + n = 60 → v = nI i → w = cst x t i → lv_has ls 7 [(0, .ref (kO k)), (1, .ref (aTo d t)), (2, .int w), (3, .ref (kWs k)), (4, .int 60), (5, .int v)] → W p l e _ s m _ below meth c s.heap [] 0 0 _ (F0 m 14 ls [])) 60 0 0 0 ls rfl rfl rfl (lv_sub hl [4, 5, 3, 2, 1, 0] rfl)
  intro n
  induction n with
  | zero =>
    intro i v w ls hin hv hw hl
    refine lv_iload hx hb dC_countStaying_14 (lv_at hl 5 rfl) ?_
    refine lv_iload hx hb dC_countStaying_16 (lv_at hl 4 rfl) ?_
    refine lv_icmp_ge  (tgt := 58) hx hb dC_countStaying_18 (by decide) (fun h => ?_) (fun h => ?_)
    · refine lv_iload_n hx hb dC_countStaying_58 rfl (lv_at hl 2 rfl) ?_
      exact grSi hC hr hlk rfl (by rw [hw, show i = 60 by omega]) dC_countStaying_59
    · exact absurd (by rw [hv]; exact nI_le (a := 60) (by omega) (by omega)) h
  | succ n ih =>
    intro i v w ls hin hv hw hl
    refine lv_iload hx hb dC_countStaying_14 (lv_at hl 5 rfl) ?_
    refine lv_iload hx hb dC_countStaying_16 (lv_at hl 4 rfl) ?_
    refine lv_icmp_ge  (tgt := 58) hx hb dC_countStaying_18 (by decide) (fun h => ?_) (fun h => ?_)
    · exact absurd h (by rw [hv]; exact nI_ge (b := 60) (by omega) (by decide))
    · first | refine lv_aload_n hx hb dC_countStaying_21 rfl (lv_at hl 3 rfl) ?_ | refine lv_aload_nN hx hb dC_countStaying_21 rfl (lv_at hl 3 rfl) ?_
      refine lv_iload hx hb dC_countStaying_22 (lv_at hl 5 rfl) ?_
      by_cases hi : i < nW x
      · refine aC_W hC hH hi hv dC_countStaying_24 ?_
        have hti := ((cG.ok hH).2.1 i hi).1
        first | refine lv_astore hx hb dC_countStaying_25 hl (by decide) rfl (fun ls hl => ?_) | refine lv_astoreN hx hb dC_countStaying_25 hl (by decide) rfl (fun ls hl => ?_)
        have hl : lv_has ls 7 [(6, _), (0, _), (1, _), (2, _), (3, _), (4, _), (5, _)] := hl
        first | refine lv_aload hx hb dC_countStaying_27 (lv_at hl 0 rfl) ?_ | refine lv_aloadN hx hb dC_countStaying_27 (lv_at hl 0 rfl) ?_
        first | refine lv_ifnull hx hb dC_countStaying_29 ?_ | refine lv_ifnullN (tgt := 52) hx hb dC_countStaying_29 (by decide) ?_
        first | refine lv_aload hx hb dC_countStaying_32 (lv_at hl 0 rfl) ?_ | refine lv_aloadN hx hb dC_countStaying_32 (lv_at hl 0 rfl) ?_
        refine gC_W_tool hC hH (by assumption) dC_countStaying_34 ?_
        first | refine lv_aload_n hx hb dC_countStaying_37 rfl (lv_at hl 2 rfl) ?_ | refine lv_aload_nN hx hb dC_countStaying_37 rfl (lv_at hl 2 rfl) ?_
        refine lv_acmp_ne (rx := some (aTo d (wTo (gW x i)))) (ry := some (aTo d t)) (tgt := 52) hx hb dC_countStaying_38 (by decide) (fun h1 => ?_) (fun h1 => ?_)
        · refine lv_iinc hx hb dC_countStaying_52 hl (k := 6) rfl rfl (by decide) rfl (fun ls hl => ?_)
          have hl : lv_has ls 7 [(5, _), (6, _), (0, _), (1, _), (2, _), (3, _), (4, _)] := hl
          refine lv_goto (tgt := 14) hx hb dC_countStaying_55 (by decide) ?_
          exact ih (i + 1) _ _ ls (by omega) (by rw [hv]; exact nI_1 i) (hw.trans (if_neg (fun q => h1 (by rw [q.2.1]))).symm) (lv_sub hl [2, 3, 4, 5, 6, 0] rfl)
        · have h2 : wTo (gW x i) = t := cG.injT hH hti ht (Option.some.inj h1)
          first | refine lv_aload hx hb dC_countStaying_41 (lv_at hl 0 rfl) ?_ | refine lv_aloadN hx hb dC_countStaying_41 (lv_at hl 0 rfl) ?_
          refine gcSi hC hl.1 hH (fun LL f sz hI => c_isEnded hI hi) kC_63 ⟨Nat.le_of_ble_eq_true rfl, Nat.le_of_ble_eq_true rfl⟩ dC_countStaying_43 ⟨Nat.le_of_ble_eq_true rfl, Nat.le_of_ble_eq_true rfl⟩ rfl (Nat.le_of_ble_eq_true rfl) (fun r hr1 => ?_)
          refine lv_if_ne  (tgt := 52) hx hb dC_countStaying_46 (by decide) (fun h3 => ?_) (fun h3 => ?_)
          · refine lv_iinc hx hb dC_countStaying_52 hl (k := 6) rfl rfl (by decide) rfl (fun ls hl => ?_)
            have hl : lv_has ls 7 [(5, _), (6, _), (0, _), (1, _), (2, _), (3, _), (4, _)] := hl
            refine lv_goto (tgt := 14) hx hb dC_countStaying_55 (by decide) ?_
            exact ih (i + 1) _ _ ls (by omega) (by rw [hv]; exact nI_1 i) (hw.trans (if_neg (fun q => h3 (by rw [hr1]; exact if_pos q.2.2))).symm) (lv_sub hl [2, 3, 4, 5, 6, 0] rfl)
          · have h4 : wEn (gW x i) = 0 := Classical.byContradiction (fun q => by
              rw [hr1, zEnd, if_neg q] at h3
              exact absurd h3 (by decide))
            refine lv_iinc hx hb dC_countStaying_49 hl (k := 3) rfl rfl (by decide) rfl (fun ls hl => ?_)
            have hl : lv_has ls 7 [(2, _), (6, _), (0, _), (1, _), (3, _), (4, _), (5, _)] := hl
            refine lv_iinc hx hb dC_countStaying_52 hl (k := 6) rfl rfl (by decide) rfl (fun ls hl => ?_)
            have hl : lv_has ls 7 [(5, _), (2, _), (6, _), (0, _), (1, _), (3, _), (4, _)] := hl
            refine lv_goto (tgt := 14) hx hb dC_countStaying_55 (by decide) ?_
            exact ih (i + 1) _ _ ls (by omega) (by rw [hv]; exact nI_1 i) (by rw [hw]; exact (if_pos (c := i < nW x ∧ wTo (gW x i) = t ∧ wEn (gW x i) = 0) ⟨hi, h2, h4⟩).symm) (lv_sub hl [3, 4, 1, 5, 6, 0] rfl)
      · refine aC_WN hC hH hi (by omega) hv dC_countStaying_24 ?_
        first | refine lv_astore hx hb dC_countStaying_25 hl (by decide) rfl (fun ls hl => ?_) | refine lv_astoreN hx hb dC_countStaying_25 hl (by decide) rfl (fun ls hl => ?_)
        have hl : lv_has ls 7 [(6, _), (0, _), (1, _), (2, _), (3, _), (4, _), (5, _)] := hl
        first | refine lv_aload hx hb dC_countStaying_27 (lv_at hl 0 rfl) ?_ | refine lv_aloadN hx hb dC_countStaying_27 (lv_at hl 0 rfl) ?_
        first | refine lv_ifnull hx hb dC_countStaying_29 ?_ | refine lv_ifnullN (tgt := 52) hx hb dC_countStaying_29 (by decide) ?_
        refine lv_iinc hx hb dC_countStaying_52 hl (k := 6) rfl rfl (by decide) rfl (fun ls hl => ?_)
        have hl : lv_has ls 7 [(5, _), (6, _), (0, _), (1, _), (2, _), (3, _), (4, _)] := hl
        refine lv_goto (tgt := 14) hx hb dC_countStaying_55 (by decide) ?_
        exact ih (i + 1) _ _ ls (by omega) (by rw [hv]; exact nI_1 i) (hw.trans (if_neg (fun q => hi q.1)).symm) (lv_sub hl [2, 3, 4, 5, 6, 0] rfl)
end C3
