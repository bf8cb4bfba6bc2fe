section C6
variable {l : Launch} {D : va_G} {k : ck_F} {d : ck_A} {x : cs_S} {LL : List Nat} {f : Nat → va_E} {sz : Nat}
def zEdF (y : cs_S) (t : Nat) : Nat → cs_S × Int32
  | 0 => (y, 0)
  | i + 1 => if i < nW (zEdF y t i).1 ∧ wTo (gW (zEdF y t i).1 i) = t ∧ wEn (gW (zEdF y t i).1 i) = 0 then (zEndRe (zEdF y t i).1 i 1, (zEdF y t i).2 + 1) else zEdF y t i
def zEdi (x : cs_S) (v : Int32) (ed : Int64) : cs_S × Int32 := match lk (nT x) v with
  | none => (x, -1)
  | some t => zEdF (sT x t (tEd_ (gT x t) ed)) t 60
def zQui (x : cs_S) (v q : Int32) : cs_S × Int32 := match lk (nT x) v with
  | none => (x, 0)
  | some t => (sT x t (tQu_ (gT x t) q), 1)
def zCan (x : cs_S) (v : Int32) : cs_S × Int32 := match lk (nR x) v with
  | none => (x, -1)
  | some j => if rSt (gR x j) = 0 then (sR x j (qCan (gR x j)), 1) else if rSt (gR x j) = 1 then (sR x j (rUn_ (gR x j) true), 2) else (x, 0)
def zFinW (x : cs_S) (i j : Nat) : cs_W := wMe_ (wFi_ (wRq_ (gW x i) none) (wFi (gW x i) + 1)) (wMe (gW x i) + rSz (gR x j))
def zFinR (x : cs_S) (i j : Nat) : cs_R := qDone (rPl_ (gR x j) (wFi (gW x i) + 1)) (some i) (zGive x i j)
def zFin (x : cs_S) (v : Int32) : cs_S × Int32 := match lk (nW x) v with
  | none => (x, -1)
  | some i => match wRq (gW x i) with
    | none => (x, -1)
    | some j => if wMe (zFinW x i j) ≤ cBo x then (sR (sW x i (wFr_ (zFinW x i j) (cCl x))) j (zFinR x i j), nI j) else (sR (sW x i (wEn_ (zFinW x i j) 2)) j (zFinR x i j), nI j)
def zCra (x : cs_S) (v : Int32) : cs_S × Int32 := match lk (nW x) v with
  | none => (x, -1)
  | some i => if wEn (gW x i) = 0 then (match wRq (gW x i) with
    | none => sW x i (wEn_ (wRq_ (gW x i) none) 3)
    | some j => sR (sW x i (wEn_ (wRq_ (gW x i) none) 3)) j (qDone (gR x j) none (os (wEd (gW x i)) (rIn (gR x j)))), 1) else (x, -1)
def zTkF (y : cs_S) : Nat → cs_S × Int32
  | 0 => (y, 0)
  | i + 1 => if i < nW (zTkF y i).1 ∧ zSt (gW (zTkF y i).1 i) = 0 ∧ ¬ cCl (zTkF y i).1 - wFr (gW (zTkF y i).1 i) < cId (zTkF y i).1 then (sW (zTkF y i).1 i (wEn_ (gW (zTkF y i).1 i) 4), (zTkF y i).2 + 1) else zTkF y i
def zTick (x : cs_S) (n : Int32) : cs_S × Int32 := if n < 0 ∨ 10000 < n ∨ ¬ cCl x ≤ 1000000000 - n then (x, -1) else zTkF (sCl x (cCl x + n)) 60
def zRdF (x : cs_S) (j i : Nat) : Nat → cs_S × Int32
  | 0 => (x, 0)
  | a + 1 => if a < nR (zRdF x j i a).1 ∧ rSt (gR (zRdF x j i a).1 a) = 2 ∧ rWk (gR (zRdF x j i a).1 a) = some i ∧ (a = j ∨ ¬ rPl (gR (zRdF x j i a).1 a) ≤ wTr (gW (zRdF x j i a).1 i)) then (sR (zRdF x j i a).1 a (rRe_ (rWk_ (rRs_ (gR (zRdF x j i a).1 a) (os (wEd (gW (zRdF x j i a).1 i)) (rIn (gR (zRdF x j i a).1 a)))) none) true), (zRdF x j i a).2 + 1) else zRdF x j i a
def zBar (x : cs_S) (i : Nat) : cs_S := sT x (wTo (gW x i)) (tBa_ (gT x (wTo (gW x i))) (tBa (gT x (wTo (gW x i))) + 1))
def zSam (x : cs_S) (v : Int32) : cs_S × Int32 := match lk (nR x) v with
  | none => (x, -1)
  | some j => if rSt (gR x j) = 2 then (match rWk (gR x j) with
    | none => (x, -1)
    | some i => if rRs (gR x j) = os (wEd (gW x i)) (rIn (gR x j)) then (sW x i (wTr_ (gW x i) (if wTr (gW x i) < rPl (gR x j) then rPl (gR x j) else wTr (gW x i))), 0) else (zBar (if wEn (gW (zRdF x j i 100).1 i) = 0 then zEndRe (zRdF x j i 100).1 i 5 else (zRdF x j i 100).1) i, (zRdF x j i 100).2)) else (x, -1)
def zAbo (x : cs_S) (v w : Int32) : Int32 := match lk (nR x) v with
  | none => -1
  | some j => if w = 0 then rSt (gR x j) else if w = 1 then (match rWk (gR x j) with | none => -1 | some i => nI i) else if w = 2 then rBe (gR x j) else if w = 3 then bI (rUn (gR x j)) else if w = 4 then bI (rRe (gR x j)) else -1
def zRes (x : cs_S) (v : Int32) : Int64 := match lk (nR x) v with
  | none => 0
  | some j => if rSt (gR x j) = 2 then rRs (gR x j) else 0
def zWor (x : cs_S) (v w : Int32) : Int32 := match lk (nW x) v with
  | none => -1
  | some i => if w = 0 then nI (wTo (gW x i)) else if w = 1 then zSt (gW x i) else if w = 2 then wFi (gW x i) else if w = 3 then wMe (gW x i) else if w = 4 then (match wRq (gW x i) with | none => -1 | some j => nI j) else if w = 5 then wEn (gW x i) else if w = 6 then wTr (gW x i) else -1
def zBars (x : cs_S) (v : Int32) : Int32 := match lk (nT x) v with
  | none => -1
  | some t => tBa (gT x t)
theorem nW_zEndRe (x : cs_S) (i : Nat) (y : Int32) : nW (zEndRe x i y) = nW x ∧ nT (zEndRe x i y) = nT x ∧ nR (zEndRe x i y) = nR x := by
  unfold zEndRe
  split <;> exact ⟨rfl, rfl, rfl⟩
theorem zEdF_n (y : cs_S) (t : Nat) : ∀ i, nT (zEdF y t i).1 = nT y
  | 0 => rfl
  | i + 1 => by
    unfold zEdF
    split
    · rw [(nW_zEndRe _ _ _).2.1]
      exact zEdF_n y t i
    · exact zEdF_n y t i
theorem zRdF_n (x : cs_S) (j i : Nat) : ∀ a, nW (zRdF x j i a).1 = nW x ∧ gW (zRdF x j i a).1 = gW x ∧ nR (zRdF x j i a).1 = nR x
  | 0 => ⟨rfl, rfl, rfl⟩
  | a + 1 => by
    unfold zRdF
    split
    · exact zRdF_n x j i a
    · exact zRdF_n x j i a
set_option maxHeartbeats 4000000 in
set_option maxRecDepth 100000 in
theorem c_edition (hI : cJ k (d, x) LL f) (v : Int32) (ed : Int64) : Met l yC_edition (wz yC_edition bC_edition 10 (some .int)) (rmL 3 0 0) (gP D (ck_tys k) LL f sz [.ref (kO k), .int v, .long ed]) (va_Qi (fun (r : Int32) (u : ck_A × cs_S) => (u.2, r) = zEdi x v ed) (gB D (ck_tys k) (cJ k) (va_A (va_pl LL f) sz)) (va_A (va_pl LL f) sz)) 0 0 (va_A (va_pl LL f) sz) := by
  refine gMet (own := RX3) (u := (d, x)) (Qc := fun A => va_Qi (fun (r : Int32) (u : ck_A × cs_S) => (u.2, r) = zEdi x v ed) (gB D (ck_tys k) (cJ k) A) A) (by decide) rfl hI (Nat.le_of_ble_eq_true rfl) ?_
  intro p e s m below meth c ls A hC hr hlk hnm hA hH hl
  have hx := hC.1
  have hb := hC.2.1
  have hml := hC.2.2.2.2.2
  have hts := hC.2.2.1
  have hown := hC.2.2.2.1
  have hl : lv_has ls 10 [(0, _), (1, _), (2, _)] := hl
  have hn6 := (cG.ok hH).1.1
  first | refine lv_aload_n hx hb dC_edition_0 rfl (lv_at hl 0 rfl) ?_ | refine lv_aload_nN hx hb dC_edition_0 rfl (lv_at hl 0 rfl) ?_
  refine lv_iload_n hx hb dC_edition_1 rfl (lv_at hl 1 rfl) ?_
  refine gcVq hC hl.1 hH (fun LL f sz hI => c_toolAt hI v) cJ.o rfl rfl kC_51 ⟨Nat.le_of_ble_eq_true rfl, Nat.le_of_ble_eq_true rfl⟩ dC_edition_2 ⟨Nat.le_of_ble_eq_true rfl, Nat.le_of_ble_eq_true rfl⟩ rfl (Nat.le_of_ble_eq_true rfl) (fun o ho => ?_)
  rcases ho with ⟨t, ht, hv, rfl⟩ | ⟨hv, rfl⟩
  · have hkk : lk (nT x) v = some t := by rw [hv]; exact lk_in ht (by omega)
    first | refine lv_astore hx hb dC_edition_5 hl (by decide) rfl (fun ls hl => ?_) | refine lv_astoreN hx hb dC_edition_5 hl (by decide) rfl (fun ls hl => ?_)
    have hl : lv_has ls 10 [(4, _), (0, _), (1, _), (2, _)] := hl
    first | refine lv_aload hx hb dC_edition_7 (lv_at hl 0 rfl) ?_ | refine lv_aloadN hx hb dC_edition_7 (lv_at hl 0 rfl) ?_
    first | refine lv_ifnonnullN hx hb dC_edition_9 ?_ | refine lv_ifnonnull (tgt := 14) hx hb dC_edition_9 (by decide) ?_
    first | refine lv_aload hx hb dC_edition_14 (lv_at hl 0 rfl) ?_ | refine lv_aloadN hx hb dC_edition_14 (lv_at hl 0 rfl) ?_
    refine lv_lload_n hx hb dC_edition_16 rfl (lv_at hl 3 rfl) ?_
    refine pC_T_edition hC hH (by assumption) dC_edition_17 (fun H locs hH => ?_)
    refine lv_iconst (v := 0) hx hb dC_edition_20 (by decide) ?_
    refine lv_istore hx hb dC_edition_21 hl (by decide) rfl (fun ls hl => ?_)
    have hl : lv_has ls 10 [(5, _), (4, _), (0, _), (1, _), (2, _)] := hl
    first | refine lv_aload_n hx hb dC_edition_23 rfl (lv_at hl 2 rfl) ?_ | refine lv_aload_nN hx hb dC_edition_23 rfl (lv_at hl 2 rfl) ?_
    refine gC_C_workers hC hH dC_edition_24 ?_
    first | refine lv_astore hx hb dC_edition_27 hl (by decide) rfl (fun ls hl => ?_) | refine lv_astoreN hx hb dC_edition_27 hl (by decide) rfl (fun ls hl => ?_)
    have hl : lv_has ls 10 [(6, _), (5, _), (4, _), (0, _), (1, _), (2, _)] := hl
    first | refine lv_aload hx hb dC_edition_29 (lv_at hl 0 rfl) ?_ | refine lv_aloadN hx hb dC_edition_29 (lv_at hl 0 rfl) ?_
    first | refine lC_T hC hH dC_edition_31 ?_ | refine lC_W hC hH dC_edition_31 ?_ | refine lC_R hC hH dC_edition_31 ?_
    refine lv_istore hx hb dC_edition_32 hl (by decide) rfl (fun ls hl => ?_)
    have hl : lv_has ls 10 [(7, _), (6, _), (5, _), (4, _), (0, _), (1, _), (2, _)] := hl
    refine lv_iconst (v := 0) hx hb dC_edition_34 (by decide) ?_
    refine lv_istore hx hb dC_edition_35 hl (by decide) rfl (fun ls hl => ?_)
    have hl : lv_has ls 10 [(8, _), (7, _), (6, _), (5, _), (4, _), (0, _), (1, _), (2, _)] := hl
    generalize hy : sT x t (tEd_ (gT x t) ed) = y at hH
    have ht2 : t < nT y := by rw [← hy]; exact ht
    refine (?_ : ∀ (n i : Nat) (b w : Int32) (ls : Array Slot) (H : Heap) (locs : List Loc), i + n = 60 → b = nI i → w = (zEdF y t i).2 → cG D k d (zEdF y t i).1 A s.heap H locs → lv_has ls 10 [(0, .ref (kO k)), (4, .ref (aTo d t)), (5, .int w), (6, .ref (kWs k)), (7, .int 60), (8, .int b)] → W p l e _ s m _ below meth c H locs 0 0 _ (F0 m 37 ls [])) 60 0 0 0 ls _ _ rfl rfl rfl hH (lv_sub hl [5, 4, 3, 2, 1, 0] rfl)
    intro n
    induction n with
    | zero =>
      intro i b w ls H locs hin hb2 hw hH hl
      obtain rfl : i = 60 := by omega
      refine lv_iload hx hb dC_edition_37 (lv_at hl 5 rfl) ?_
      refine lv_iload hx hb dC_edition_39 (lv_at hl 4 rfl) ?_
      refine lv_icmp_ge  (tgt := 89) hx hb dC_edition_41 (by decide) (fun h => ?_) (fun h => ?_)
      · refine lv_iload hx hb dC_edition_89 (lv_at hl 2 rfl) ?_
        exact grWi hC hr hlk rfl hH (by rw [hw]; simp only [zEdi, hkk, hy]) dC_edition_91
      · exact absurd (by rw [hb2]; exact nI_le (a := 60) (by omega) (by omega)) h
    | succ n ih =>
      intro i b w ls H locs hin hb2 hw hH hl
      have hn := (cG.ok hH).1.2.1
      have ht3 : t < nT (zEdF y t i).1 := by rw [zEdF_n]; exact ht2
      refine lv_iload hx hb dC_edition_37 (lv_at hl 5 rfl) ?_
      refine lv_iload hx hb dC_edition_39 (lv_at hl 4 rfl) ?_
      refine lv_icmp_ge  (tgt := 89) hx hb dC_edition_41 (by decide) (fun h => ?_) (fun h => ?_)
      · exact absurd h (by rw [hb2]; exact nI_ge (b := 60) (by omega) (by decide))
      · first | refine lv_aload hx hb dC_edition_44 (lv_at hl 3 rfl) ?_ | refine lv_aloadN hx hb dC_edition_44 (lv_at hl 3 rfl) ?_
        refine lv_iload hx hb dC_edition_46 (lv_at hl 5 rfl) ?_
        by_cases hi : i < nW (zEdF y t i).1
        · refine aC_W hC hH hi hb2 dC_edition_48 ?_
          have hti := ((cG.ok hH).2.1 i hi).1
          first | refine lv_astore hx hb dC_edition_49 hl (by decide) rfl (fun ls hl => ?_) | refine lv_astoreN hx hb dC_edition_49 hl (by decide) rfl (fun ls hl => ?_)
          have hl : lv_has ls 10 [(9, _), (0, _), (4, _), (5, _), (6, _), (7, _), (8, _)] := hl
          first | refine lv_aload hx hb dC_edition_51 (lv_at hl 0 rfl) ?_ | refine lv_aloadN hx hb dC_edition_51 (lv_at hl 0 rfl) ?_
          first | refine lv_ifnull hx hb dC_edition_53 ?_ | refine lv_ifnullN (tgt := 83) hx hb dC_edition_53 (by decide) ?_
          first | refine lv_aload hx hb dC_edition_56 (lv_at hl 0 rfl) ?_ | refine lv_aloadN hx hb dC_edition_56 (lv_at hl 0 rfl) ?_
          refine gC_W_tool hC hH (by assumption) dC_edition_58 ?_
          first | refine lv_aload hx hb dC_edition_61 (lv_at hl 2 rfl) ?_ | refine lv_aloadN hx hb dC_edition_61 (lv_at hl 2 rfl) ?_
          refine lv_acmp_ne (rx := some (aTo d (wTo (gW (zEdF y t i).1 i)))) (ry := some (aTo d t)) (tgt := 83) hx hb dC_edition_63 (by decide) (fun h1 => ?_) (fun h1 => ?_)
          · refine lv_iinc hx hb dC_edition_83 hl (k := 6) rfl rfl (by decide) rfl (fun ls hl => ?_)
            have hl : lv_has ls 10 [(8, _), (9, _), (0, _), (4, _), (5, _), (6, _), (7, _)] := hl
            refine lv_goto (tgt := 37) hx hb dC_edition_86 (by decide) ?_
            have hs : zEdF y t (i + 1) = zEdF y t i := if_neg (fun q => h1 (by rw [q.2.1]))
            exact ih (i + 1) _ _ ls H locs (by omega) (by rw [hb2]; exact nI_1 i) (by rw [hs]; exact hw) (by rw [hs]; exact hH) (lv_sub hl [2, 3, 4, 5, 6, 0] rfl)
          · have h2 : wTo (gW (zEdF y t i).1 i) = t := cG.injT hH hti ht3 (Option.some.inj h1)
            first | refine lv_aload hx hb dC_edition_66 (lv_at hl 0 rfl) ?_ | refine lv_aloadN hx hb dC_edition_66 (lv_at hl 0 rfl) ?_
            refine gcSi hC hl.1 hH (fun LL f sz hI => c_isEnded hI hi) kC_63 ⟨Nat.le_of_ble_eq_true rfl, Nat.le_of_ble_eq_true rfl⟩ dC_edition_68 ⟨Nat.le_of_ble_eq_true rfl, Nat.le_of_ble_eq_true rfl⟩ rfl (Nat.le_of_ble_eq_true rfl) (fun r hr1 => ?_)
            refine lv_if_ne  (tgt := 83) hx hb dC_edition_71 (by decide) (fun h3 => ?_) (fun h3 => ?_)
            · refine lv_iinc hx hb dC_edition_83 hl (k := 6) rfl rfl (by decide) rfl (fun ls hl => ?_)
              have hl : lv_has ls 10 [(8, _), (9, _), (0, _), (4, _), (5, _), (6, _), (7, _)] := hl
              refine lv_goto (tgt := 37) hx hb dC_edition_86 (by decide) ?_
              have hs : zEdF y t (i + 1) = zEdF y t i := if_neg (fun q => h3 (by rw [hr1]; exact if_pos q.2.2))
              exact ih (i + 1) _ _ ls H locs (by omega) (by rw [hb2]; exact nI_1 i) (by rw [hs]; exact hw) (by rw [hs]; exact hH) (lv_sub hl [2, 3, 4, 5, 6, 0] rfl)
            · have h4 : wEn (gW (zEdF y t i).1 i) = 0 := Classical.byContradiction (fun q => by
                rw [hr1, zEnd, if_neg q] at h3
                exact absurd h3 (by decide))
              have hs : zEdF y t (i + 1) = (zEndRe (zEdF y t i).1 i 1, (zEdF y t i).2 + 1) := if_pos ⟨hi, h2, h4⟩
              first | refine lv_aload hx hb dC_edition_74 (lv_at hl 0 rfl) ?_ | refine lv_aloadN hx hb dC_edition_74 (lv_at hl 0 rfl) ?_
              refine lv_iconst (v := 1) hx hb dC_edition_76 (by decide) ?_
              refine gcWSv hC hl.1 hA hH (fun LL f sz hI => c_endAndRequeue hI hi 1) kC_67 ⟨Nat.le_of_ble_eq_true rfl, Nat.le_of_ble_eq_true rfl⟩ dC_edition_77 ⟨Nat.le_of_ble_eq_true rfl, Nat.le_of_ble_eq_true rfl⟩ rfl (Nat.le_of_ble_eq_true rfl) (fun u H locs hp hH => ?_)
              subst hp
              refine lv_iinc hx hb dC_edition_80 hl (k := 3) rfl rfl (by decide) rfl (fun ls hl => ?_)
              have hl : lv_has ls 10 [(5, _), (9, _), (0, _), (4, _), (6, _), (7, _), (8, _)] := hl
              refine lv_iinc hx hb dC_edition_83 hl (k := 6) rfl rfl (by decide) rfl (fun ls hl => ?_)
              have hl : lv_has ls 10 [(8, _), (5, _), (9, _), (0, _), (4, _), (6, _), (7, _)] := hl
              refine lv_goto (tgt := 37) hx hb dC_edition_86 (by decide) ?_
              exact ih (i + 1) _ _ ls H locs (by omega) (by rw [hb2]; exact nI_1 i) (by rw [hs, hw]; rfl) (by rw [hs]; exact hH) (lv_sub hl [3, 4, 1, 5, 6, 0] rfl)
        · refine aC_WN hC hH hi (by omega) hb2 dC_edition_48 ?_
          first | refine lv_astore hx hb dC_edition_49 hl (by decide) rfl (fun ls hl => ?_) | refine lv_astoreN hx hb dC_edition_49 hl (by decide) rfl (fun ls hl => ?_)
          have hl : lv_has ls 10 [(9, _), (0, _), (4, _), (5, _), (6, _), (7, _), (8, _)] := hl
          first | refine lv_aload hx hb dC_edition_51 (lv_at hl 0 rfl) ?_ | refine lv_aloadN hx hb dC_edition_51 (lv_at hl 0 rfl) ?_
          first | refine lv_ifnull hx hb dC_edition_53 ?_ | refine lv_ifnullN (tgt := 83) hx hb dC_edition_53 (by decide) ?_
          refine lv_iinc hx hb dC_edition_83 hl (k := 6) rfl rfl (by decide) rfl (fun ls hl => ?_)
          have hl : lv_has ls 10 [(8, _), (9, _), (0, _), (4, _), (5, _), (6, _), (7, _)] := hl
          refine lv_goto (tgt := 37) hx hb dC_edition_86 (by decide) ?_
          have hs : zEdF y t (i + 1) = zEdF y t i := if_neg (fun q => hi q.1)
          exact ih (i + 1) _ _ ls H locs (by omega) (by rw [hb2]; exact nI_1 i) (by rw [hs]; exact hw) (by rw [hs]; exact hH) (lv_sub hl [2, 3, 4, 5, 6, 0] rfl)
  · have hkk : lk (nT x) v = none := lk_out hv
    first | refine lv_astore hx hb dC_edition_5 hl (by decide) rfl (fun ls hl => ?_) | refine lv_astoreN hx hb dC_edition_5 hl (by decide) rfl (fun ls hl => ?_)
    have hl : lv_has ls 10 [(4, _), (0, _), (1, _), (2, _)] := hl
    first | refine lv_aload hx hb dC_edition_7 (lv_at hl 0 rfl) ?_ | refine lv_aloadN hx hb dC_edition_7 (lv_at hl 0 rfl) ?_
    first | refine lv_ifnonnullN hx hb dC_edition_9 ?_ | refine lv_ifnonnull (tgt := 14) hx hb dC_edition_9 (by decide) ?_
    refine lv_iconst (v := -1) hx hb dC_edition_12 (by decide) ?_
    exact grWi hC hr hlk rfl hH (by simp only [zEdi, hkk]) dC_edition_13
set_option maxHeartbeats 4000000 in
set_option maxRecDepth 100000 in
theorem c_quirk (hI : cJ k (d, x) LL f) (v q : Int32) : Met l yC_quirk (wz yC_quirk bC_quirk 4 (some .boolean)) (rmL 1 0 0) (gP D (ck_tys k) LL f sz [.ref (kO k), .int v, .int q]) (va_Qi (fun (r : Int32) (u : ck_A × cs_S) => (u.2, r) = zQui x v q) (gB D (ck_tys k) (cJ k) (va_A (va_pl LL f) sz)) (va_A (va_pl LL f) sz)) 0 0 (va_A (va_pl LL f) sz) := by
  refine gMet (own := RX3) (u := (d, x)) (Qc := fun A => va_Qi (fun (r : Int32) (u : ck_A × cs_S) => (u.2, r) = zQui x v q) (gB D (ck_tys k) (cJ k) A) A) (by decide) rfl hI (Nat.le_of_ble_eq_true rfl) ?_
  intro p e s m below meth c ls A hC hr hlk hnm hA hH hl
  have hx := hC.1
  have hb := hC.2.1
  have hml := hC.2.2.2.2.2
  have hts := hC.2.2.1
  have hown := hC.2.2.2.1
  have hl : lv_has ls 4 [(0, _), (1, _), (2, _)] := hl
  have hn6 := (cG.ok hH).1.1
  first | refine lv_aload_n hx hb dC_quirk_0 rfl (lv_at hl 0 rfl) ?_ | refine lv_aload_nN hx hb dC_quirk_0 rfl (lv_at hl 0 rfl) ?_
  refine lv_iload_n hx hb dC_quirk_1 rfl (lv_at hl 1 rfl) ?_
  refine gcVq hC hl.1 hH (fun LL f sz hI => c_toolAt hI v) cJ.o rfl rfl kC_51 ⟨Nat.le_of_ble_eq_true rfl, Nat.le_of_ble_eq_true rfl⟩ dC_quirk_2 ⟨Nat.le_of_ble_eq_true rfl, Nat.le_of_ble_eq_true rfl⟩ rfl (Nat.le_of_ble_eq_true rfl) (fun o ho => ?_)
  rcases ho with ⟨t, ht, hv, rfl⟩ | ⟨hv, rfl⟩
  · have hkk : lk (nT x) v = some t := by rw [hv]; exact lk_in ht (by omega)
    first | refine lv_astore_n hx hb dC_quirk_5 rfl hl (by decide) rfl (fun ls hl => ?_) | refine lv_astore_nN hx hb dC_quirk_5 rfl hl (by decide) rfl (fun ls hl => ?_)
    have hl : lv_has ls 4 [(3, _), (0, _), (1, _), (2, _)] := hl
    first | refine lv_aload_n hx hb dC_quirk_6 rfl (lv_at hl 0 rfl) ?_ | refine lv_aload_nN hx hb dC_quirk_6 rfl (lv_at hl 0 rfl) ?_
    first | refine lv_ifnonnullN hx hb dC_quirk_7 ?_ | refine lv_ifnonnull (tgt := 12) hx hb dC_quirk_7 (by decide) ?_
    first | refine lv_aload_n hx hb dC_quirk_12 rfl (lv_at hl 0 rfl) ?_ | refine lv_aload_nN hx hb dC_quirk_12 rfl (lv_at hl 0 rfl) ?_
    refine lv_iload_n hx hb dC_quirk_13 rfl (lv_at hl 3 rfl) ?_
    refine pC_T_quirk hC hH (by assumption) dC_quirk_14 (fun H locs hH => ?_)
    refine lv_iconst (v := 1) hx hb dC_quirk_17 (by decide) ?_
    exact grWi hC hr hlk rfl hH (by simp only [zQui, hkk]) dC_quirk_18
  · have hkk : lk (nT x) v = none := lk_out hv
    first | refine lv_astore_n hx hb dC_quirk_5 rfl hl (by decide) rfl (fun ls hl => ?_) | refine lv_astore_nN hx hb dC_quirk_5 rfl hl (by decide) rfl (fun ls hl => ?_)
    have hl : lv_has ls 4 [(3, _), (0, _), (1, _), (2, _)] := hl
    first | refine lv_aload_n hx hb dC_quirk_6 rfl (lv_at hl 0 rfl) ?_ | refine lv_aload_nN hx hb dC_quirk_6 rfl (lv_at hl 0 rfl) ?_
    first | refine lv_ifnonnullN hx hb dC_quirk_7 ?_ | refine lv_ifnonnull (tgt := 12) hx hb dC_quirk_7 (by decide) ?_
    refine lv_iconst (v := 0) hx hb dC_quirk_10 (by decide) ?_
    exact grWi hC hr hlk rfl hH (by simp only [zQui, hkk]) dC_quirk_11
set_option maxHeartbeats 4000000 in
set_option maxRecDepth 100000 in
theorem c_cancel (hI : cJ k (d, x) LL f) (v : Int32) : Met l yC_cancel (wz yC_cancel bC_cancel 3 (some .int)) (rmL 1 0 0) (gP D (ck_tys k) LL f sz [.ref (kO k), .int v]) (va_Qi (fun (r : Int32) (u : ck_A × cs_S) => (u.2, r) = zCan x v) (gB D (ck_tys k) (cJ k) (va_A (va_pl LL f) sz)) (va_A (va_pl LL f) sz)) 0 0 (va_A (va_pl LL f) sz) := by
  refine gMet (own := RX3) (u := (d, x)) (Qc := fun A => va_Qi (fun (r : Int32) (u : ck_A × cs_S) => (u.2, r) = zCan x v) (gB D (ck_tys k) (cJ k) A) A) (by decide) rfl hI (Nat.le_of_ble_eq_true rfl) ?_
  intro p e s m below meth c ls A hC hr hlk hnm hA hH hl
  have hx := hC.1
  have hb := hC.2.1
  have hml := hC.2.2.2.2.2
  have hts := hC.2.2.1
  have hown := hC.2.2.2.1
  have hl : lv_has ls 3 [(0, _), (1, _)] := hl
  have hn6 := (cG.ok hH).1.2.2
  first | refine lv_aload_n hx hb dC_cancel_0 rfl (lv_at hl 0 rfl) ?_ | refine lv_aload_nN hx hb dC_cancel_0 rfl (lv_at hl 0 rfl) ?_
  refine lv_iload_n hx hb dC_cancel_1 rfl (lv_at hl 1 rfl) ?_
  refine gcVq hC hl.1 hH (fun LL f sz hI => c_requestAt hI v) cJ.o rfl rfl kC_81 ⟨Nat.le_of_ble_eq_true rfl, Nat.le_of_ble_eq_true rfl⟩ dC_cancel_2 ⟨Nat.le_of_ble_eq_true rfl, Nat.le_of_ble_eq_true rfl⟩ rfl (Nat.le_of_ble_eq_true rfl) (fun o ho => ?_)
  rcases ho with ⟨j, hj, hv, rfl⟩ | ⟨hv, rfl⟩
  · have hkk : lk (nR x) v = some j := by rw [hv]; exact lk_in hj (by omega)
    first | refine lv_astore_n hx hb dC_cancel_5 rfl hl (by decide) rfl (fun ls hl => ?_) | refine lv_astore_nN hx hb dC_cancel_5 rfl hl (by decide) rfl (fun ls hl => ?_)
    have hl : lv_has ls 3 [(2, _), (0, _), (1, _)] := hl
    first | refine lv_aload_n hx hb dC_cancel_6 rfl (lv_at hl 0 rfl) ?_ | refine lv_aload_nN hx hb dC_cancel_6 rfl (lv_at hl 0 rfl) ?_
    first | refine lv_ifnonnullN hx hb dC_cancel_7 ?_ | refine lv_ifnonnull (tgt := 12) hx hb dC_cancel_7 (by decide) ?_
    first | refine lv_aload_n hx hb dC_cancel_12 rfl (lv_at hl 0 rfl) ?_ | refine lv_aload_nN hx hb dC_cancel_12 rfl (lv_at hl 0 rfl) ?_
    refine gC_R_state hC hH (by assumption) dC_cancel_13 ?_
    refine lv_if_ne  (tgt := 25) hx hb dC_cancel_16 (by decide) (fun h => ?_) (fun h => ?_)
    · first | refine lv_aload_n hx hb dC_cancel_25 rfl (lv_at hl 0 rfl) ?_ | refine lv_aload_nN hx hb dC_cancel_25 rfl (lv_at hl 0 rfl) ?_
      refine gC_R_state hC hH (by assumption) dC_cancel_26 ?_
      refine lv_iconst (v := 1) hx hb dC_cancel_29 (by decide) ?_
      refine lv_icmp_ne  (tgt := 40) hx hb dC_cancel_30 (by decide) (fun h2 => ?_) (fun h2 => ?_)
      · refine lv_iconst (v := 0) hx hb dC_cancel_40 (by decide) ?_
        exact grWi hC hr hlk rfl hH (by simp only [zCan, hkk]; rw [if_neg h, if_neg h2]) dC_cancel_41
      · first | refine lv_aload_n hx hb dC_cancel_33 rfl (lv_at hl 0 rfl) ?_ | refine lv_aload_nN hx hb dC_cancel_33 rfl (lv_at hl 0 rfl) ?_
        refine lv_iconst (v := 1) hx hb dC_cancel_34 (by decide) ?_
        first | refine pC_R_unwanted0 hC hH (by assumption) dC_cancel_35 (fun H locs hH => ?_) | refine pC_R_unwanted1 hC hH (by assumption) dC_cancel_35 (fun H locs hH => ?_)
        refine lv_iconst (v := 2) hx hb dC_cancel_38 (by decide) ?_
        exact grWi hC hr hlk rfl hH (by simp only [zCan, hkk]; rw [if_neg h, if_pos h2]) dC_cancel_39
    · first | refine lv_aload_n hx hb dC_cancel_19 rfl (lv_at hl 0 rfl) ?_ | refine lv_aload_nN hx hb dC_cancel_19 rfl (lv_at hl 0 rfl) ?_
      refine gcWSv hC hl.1 hA hH (fun LL f sz hI => c_becomeCancelled hI hj) kC_88 ⟨Nat.le_of_ble_eq_true rfl, Nat.le_of_ble_eq_true rfl⟩ dC_cancel_20 ⟨Nat.le_of_ble_eq_true rfl, Nat.le_of_ble_eq_true rfl⟩ rfl (Nat.le_of_ble_eq_true rfl) (fun u H locs hp hH => ?_)
      subst hp
      refine lv_iconst (v := 1) hx hb dC_cancel_23 (by decide) ?_
      exact grWi hC hr hlk rfl hH (by simp only [zCan, hkk]; rw [if_pos h]) dC_cancel_24
  · have hkk : lk (nR x) v = none := lk_out hv
    first | refine lv_astore_n hx hb dC_cancel_5 rfl hl (by decide) rfl (fun ls hl => ?_) | refine lv_astore_nN hx hb dC_cancel_5 rfl hl (by decide) rfl (fun ls hl => ?_)
    have hl : lv_has ls 3 [(2, _), (0, _), (1, _)] := hl
    first | refine lv_aload_n hx hb dC_cancel_6 rfl (lv_at hl 0 rfl) ?_ | refine lv_aload_nN hx hb dC_cancel_6 rfl (lv_at hl 0 rfl) ?_
    first | refine lv_ifnonnullN hx hb dC_cancel_7 ?_ | refine lv_ifnonnull (tgt := 12) hx hb dC_cancel_7 (by decide) ?_
    refine lv_iconst (v := -1) hx hb dC_cancel_10 (by decide) ?_
    exact grWi hC hr hlk rfl hH (by simp only [zCan, hkk]) dC_cancel_11
set_option maxHeartbeats 4000000 in
set_option maxRecDepth 100000 in
theorem c_finish (hI : cJ k (d, x) LL f) (v : Int32) : Met l yC_finish (wz yC_finish bC_finish 6 (some .int)) (rmL 2 0 0) (gP D (ck_tys k) LL f sz [.ref (kO k), .int v]) (va_Qi (fun (r : Int32) (u : ck_A × cs_S) => (u.2, r) = zFin x v) (gB D (ck_tys k) (cJ k) (va_A (va_pl LL f) sz)) (va_A (va_pl LL f) sz)) 0 0 (va_A (va_pl LL f) sz) := by
  refine gMet (own := RX3) (u := (d, x)) (Qc := fun A => va_Qi (fun (r : Int32) (u : ck_A × cs_S) => (u.2, r) = zFin x v) (gB D (ck_tys k) (cJ k) A) A) (by decide) rfl hI (Nat.le_of_ble_eq_true rfl) ?_
  intro p e s m below meth c ls A hC hr hlk hnm hA hH hl
  have hx := hC.1
  have hb := hC.2.1
  have hml := hC.2.2.2.2.2
  have hts := hC.2.2.1
  have hown := hC.2.2.2.1
  have hl : lv_has ls 6 [(0, _), (1, _)] := hl
  have hn6 := (cG.ok hH).1.2.1
  first | refine lv_aload_n hx hb dC_finish_0 rfl (lv_at hl 0 rfl) ?_ | refine lv_aload_nN hx hb dC_finish_0 rfl (lv_at hl 0 rfl) ?_
  refine lv_iload_n hx hb dC_finish_1 rfl (lv_at hl 1 rfl) ?_
  refine gcVq hC hl.1 hH (fun LL f sz hI => c_workerAt hI v) cJ.o rfl rfl kC_100 ⟨Nat.le_of_ble_eq_true rfl, Nat.le_of_ble_eq_true rfl⟩ dC_finish_2 ⟨Nat.le_of_ble_eq_true rfl, Nat.le_of_ble_eq_true rfl⟩ rfl (Nat.le_of_ble_eq_true rfl) (fun o ho => ?_)
  rcases ho with ⟨i, hi, hv, rfl⟩ | ⟨hv, rfl⟩
  · have hkk : lk (nW x) v = some i := by rw [hv]; exact lk_in hi (by omega)
    first | refine lv_astore_n hx hb dC_finish_5 rfl hl (by decide) rfl (fun ls hl => ?_) | refine lv_astore_nN hx hb dC_finish_5 rfl hl (by decide) rfl (fun ls hl => ?_)
    have hl : lv_has ls 6 [(2, _), (0, _), (1, _)] := hl
    first | refine lv_aload_n hx hb dC_finish_6 rfl (lv_at hl 0 rfl) ?_ | refine lv_aload_nN hx hb dC_finish_6 rfl (lv_at hl 0 rfl) ?_
    first | refine lv_ifnull hx hb dC_finish_7 ?_ | refine lv_ifnullN (tgt := 17) hx hb dC_finish_7 (by decide) ?_
    first | refine lv_aload_n hx hb dC_finish_10 rfl (lv_at hl 0 rfl) ?_ | refine lv_aload_nN hx hb dC_finish_10 rfl (lv_at hl 0 rfl) ?_
    refine gC_W_request hC hH (by assumption) dC_finish_11 ?_
    rcases hq : wRq (gW x i) with _ | j
    · first | refine lv_ifnonnullN hx hb dC_finish_14 ?_ | refine lv_ifnonnull (tgt := 19) hx hb dC_finish_14 (by decide) ?_
      refine lv_iconst (v := -1) hx hb dC_finish_17 (by decide) ?_
      exact grWi hC hr hlk rfl hH (by simp only [zFin, hkk, hq]) dC_finish_18
    · have hj := ((cG.ok hH).2.1 i hi).2 j hq
      first | refine lv_ifnonnullN hx hb dC_finish_14 ?_ | refine lv_ifnonnull (tgt := 19) hx hb dC_finish_14 (by decide) ?_
      first | refine lv_aload_n hx hb dC_finish_19 rfl (lv_at hl 0 rfl) ?_ | refine lv_aload_nN hx hb dC_finish_19 rfl (lv_at hl 0 rfl) ?_
      refine gC_W_request hC hH (by assumption) dC_finish_20 ?_
      rw [hq]
      first | refine lv_astore_n hx hb dC_finish_23 rfl hl (by decide) rfl (fun ls hl => ?_) | refine lv_astore_nN hx hb dC_finish_23 rfl hl (by decide) rfl (fun ls hl => ?_)
      have hl : lv_has ls 6 [(3, _), (2, _), (0, _), (1, _)] := hl
      first | refine lv_aload_n hx hb dC_finish_24 rfl (lv_at hl 1 rfl) ?_ | refine lv_aload_nN hx hb dC_finish_24 rfl (lv_at hl 1 rfl) ?_
      first | refine lv_aload_n hx hb dC_finish_25 rfl (lv_at hl 0 rfl) ?_ | refine lv_aload_nN hx hb dC_finish_25 rfl (lv_at hl 0 rfl) ?_
      refine gcSl hC hl.1 hH (fun LL f sz hI => c_whatItGives hI hi hj) kC_108 ⟨Nat.le_of_ble_eq_true rfl, Nat.le_of_ble_eq_true rfl⟩ dC_finish_26 ⟨Nat.le_of_ble_eq_true rfl, Nat.le_of_ble_eq_true rfl⟩ rfl (Nat.le_of_ble_eq_true rfl) (fun g hg => ?_)
      subst hg
      refine lv_lstore hx hb dC_finish_29 hl (by decide) rfl (fun ls hl => ?_)
      have hl : lv_has ls 6 [(4, _), (3, _), (2, _), (0, _), (1, _)] := hl
      first | refine lv_aload_n hx hb dC_finish_31 rfl (lv_at hl 2 rfl) ?_ | refine lv_aload_nN hx hb dC_finish_31 rfl (lv_at hl 2 rfl) ?_
      refine lv_null hx hb dC_finish_32 ?_
      first | refine pC_W_requestN hC hH (by assumption) dC_finish_33 (fun H locs hH => ?_) | refine pC_W_requestR hC hH (by assumption) (by assumption) dC_finish_33 (fun H locs hH => ?_)
      first | refine lv_aload_n hx hb dC_finish_36 rfl (lv_at hl 2 rfl) ?_ | refine lv_aload_nN hx hb dC_finish_36 rfl (lv_at hl 2 rfl) ?_
      refine lv_dup hx hb dC_finish_37 rfl ?_
      refine gC_W_finished hC hH (by assumption) dC_finish_38 ?_
      refine lv_iconst (v := 1) hx hb dC_finish_41 (by decide) ?_
      refine lv_iadd hx hb dC_finish_42 ?_
      refine pC_W_finished hC hH (by assumption) dC_finish_43 (fun H locs hH => ?_)
      first | refine lv_aload_n hx hb dC_finish_46 rfl (lv_at hl 2 rfl) ?_ | refine lv_aload_nN hx hb dC_finish_46 rfl (lv_at hl 2 rfl) ?_
      refine lv_dup hx hb dC_finish_47 rfl ?_
      refine gC_W_memory hC hH (by assumption) dC_finish_48 ?_
      first | refine lv_aload_n hx hb dC_finish_51 rfl (lv_at hl 1 rfl) ?_ | refine lv_aload_nN hx hb dC_finish_51 rfl (lv_at hl 1 rfl) ?_
      refine gC_R_size hC hH (by assumption) dC_finish_52 ?_
      refine lv_iadd hx hb dC_finish_55 ?_
      refine pC_W_memory hC hH (by assumption) dC_finish_56 (fun H locs hH => ?_)
      first | refine lv_aload_n hx hb dC_finish_59 rfl (lv_at hl 1 rfl) ?_ | refine lv_aload_nN hx hb dC_finish_59 rfl (lv_at hl 1 rfl) ?_
      first | refine lv_aload_n hx hb dC_finish_60 rfl (lv_at hl 2 rfl) ?_ | refine lv_aload_nN hx hb dC_finish_60 rfl (lv_at hl 2 rfl) ?_
      refine gC_W_finished hC hH (by assumption) dC_finish_61 ?_
      refine pC_R_place hC hH (by assumption) dC_finish_64 (fun H locs hH => ?_)
      first | refine lv_aload_n hx hb dC_finish_67 rfl (lv_at hl 1 rfl) ?_ | refine lv_aload_nN hx hb dC_finish_67 rfl (lv_at hl 1 rfl) ?_
      first | refine lv_aload_n hx hb dC_finish_68 rfl (lv_at hl 2 rfl) ?_ | refine lv_aload_nN hx hb dC_finish_68 rfl (lv_at hl 2 rfl) ?_
      refine lv_lload hx hb dC_finish_69 (lv_at hl 0 rfl) ?_
      refine gcWSv hC hl.1 hA hH (fun LL f sz hI => c_leaveDoneR (i := i) (j := j) hI hi hj _) kC_124 ⟨Nat.le_of_ble_eq_true rfl, Nat.le_of_ble_eq_true rfl⟩ dC_finish_71 ⟨Nat.le_of_ble_eq_true rfl, Nat.le_of_ble_eq_true rfl⟩ rfl (Nat.le_of_ble_eq_true rfl) (fun u H locs hp hH => ?_)
      subst hp
      simp only [sR_sR, sW_sW, gR_self, gW_self, gR_sW, gW_sR] at hH
      first | refine lv_aload_n hx hb dC_finish_74 rfl (lv_at hl 2 rfl) ?_ | refine lv_aload_nN hx hb dC_finish_74 rfl (lv_at hl 2 rfl) ?_
      refine gC_W_memory hC hH (by assumption) dC_finish_75 ?_
      first | refine lv_aload_n hx hb dC_finish_78 rfl (lv_at hl 3 rfl) ?_ | refine lv_aload_nN hx hb dC_finish_78 rfl (lv_at hl 3 rfl) ?_
      refine gC_C_bound hC hH dC_finish_79 ?_
      refine lv_icmp_le  (tgt := 93) hx hb dC_finish_82 (by decide) (fun h => ?_) (fun h => ?_)
      · first | refine lv_aload_n hx hb dC_finish_93 rfl (lv_at hl 2 rfl) ?_ | refine lv_aload_nN hx hb dC_finish_93 rfl (lv_at hl 2 rfl) ?_
        first | refine lv_aload_n hx hb dC_finish_94 rfl (lv_at hl 3 rfl) ?_ | refine lv_aload_nN hx hb dC_finish_94 rfl (lv_at hl 3 rfl) ?_
        refine gC_C_clock hC hH dC_finish_95 ?_
        refine pC_W_freeSince hC hH hi dC_finish_98 (fun H locs hH => ?_)
        simp only [sW_sR, sW_sW, gW_self, gW_sR] at hH
        first | refine lv_aload_n hx hb dC_finish_101 rfl (lv_at hl 1 rfl) ?_ | refine lv_aload_nN hx hb dC_finish_101 rfl (lv_at hl 1 rfl) ?_
        refine gC_R_number hC hH (by assumption) dC_finish_102 ?_
        exact grWi hC hr hlk rfl hH (by simp only [zFin, hkk, hq]; rw [if_pos (by simp only [gW_self, gW_sR] at h; exact h)]; rfl) dC_finish_105
      · first | refine lv_aload_n hx hb dC_finish_85 rfl (lv_at hl 2 rfl) ?_ | refine lv_aload_nN hx hb dC_finish_85 rfl (lv_at hl 2 rfl) ?_
        refine lv_iconst (v := 2) hx hb dC_finish_86 (by decide) ?_
        refine pC_W_endedBy hC hH (by assumption) dC_finish_87 (fun H locs hH => ?_)
        simp only [sW_sR, sW_sW, gW_self, gW_sR] at hH
        refine lv_goto (tgt := 101) hx hb dC_finish_90 (by decide) ?_
        first | refine lv_aload_n hx hb dC_finish_101 rfl (lv_at hl 1 rfl) ?_ | refine lv_aload_nN hx hb dC_finish_101 rfl (lv_at hl 1 rfl) ?_
        refine gC_R_number hC hH (by assumption) dC_finish_102 ?_
        exact grWi hC hr hlk rfl hH (by simp only [zFin, hkk, hq]; rw [if_neg (by simp only [gW_self, gW_sR] at h; exact h)]; rfl) dC_finish_105
  · have hkk : lk (nW x) v = none := lk_out hv
    first | refine lv_astore_n hx hb dC_finish_5 rfl hl (by decide) rfl (fun ls hl => ?_) | refine lv_astore_nN hx hb dC_finish_5 rfl hl (by decide) rfl (fun ls hl => ?_)
    have hl : lv_has ls 6 [(2, _), (0, _), (1, _)] := hl
    first | refine lv_aload_n hx hb dC_finish_6 rfl (lv_at hl 0 rfl) ?_ | refine lv_aload_nN hx hb dC_finish_6 rfl (lv_at hl 0 rfl) ?_
    first | refine lv_ifnull hx hb dC_finish_7 ?_ | refine lv_ifnullN (tgt := 17) hx hb dC_finish_7 (by decide) ?_
    refine lv_iconst (v := -1) hx hb dC_finish_17 (by decide) ?_
    exact grWi hC hr hlk rfl hH (by simp only [zFin, hkk]) dC_finish_18
end C6
