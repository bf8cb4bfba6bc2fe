theorem i_m1 (a : Int32) : a + Int32.ofInt (-1) = a - 1 := by
  rw [Int32.sub_eq_add_neg]
  exact congrArg (fun z => a + z) (by decide)
section M1
variable {l : Launch} {D : va_G} {k : mk_F} {y : ms_S} {LL : List Nat} {f : Nat → va_E} {sz : Nat}
def yAns (y : ms_S) (j : Nat) (v : Int64) : ms_S := sML (sMI y 21 j 2) 28 j v
def yLet (y : ms_S) (j : Nat) : ms_S := if MI y 25 j = 0 then sMI y 22 j (-1) else sMI (sMI (sMI y 22 j (-1)) 25 j 0) 21 j 3
def yWai (y : ms_S) (j : Nat) : ms_S := if MI y 25 j = 0 then sMI (sMI y 22 j (-1)) 21 j 0 else yLet y j
def yEnd (y : ms_S) (i : Nat) (r : Int32) : ms_S := sMI (sMI (sMI y 11 i 2) 15 i r) 14 i (-1)
def yNew (y : ms_S) (t : Nat) : ms_S := sYW (sML (sMI y 10 (yW y) (nI t)) 18 (yW y) (ML y 7 t)) (yW y + 1)
def yFr (y : ms_S) (v : Int32) : Nat → Int32 → Int32
  | 0, a => a
  | n + 1, a => yFr y v n (if MI y 10 n = v ∧ MI y 11 n = 0 then nI n else a)
def yAl (y : ms_S) (v : Int32) : Nat → Int32
  | 0 => 0
  | n + 1 => if MI y 10 n = v ∧ ¬ MI y 11 n = 2 then yAl y v n + 1 else yAl y v n
def zBtw (v lo hi : Int32) : Int32 := if lo ≤ v then (if v ≤ hi then v else hi) else lo
set_option maxHeartbeats 600000 in
set_option maxRecDepth 100000 in
theorem m_between (v lo hi : Int32) : Met l yM_between (wz yM_between bM_between 3 (some .int)) (rmL 0 0 0) (fun q _ => q = ([.int v, .int lo, .int hi] : List Value).toArray) (vp_Si (fun r => r = zBtw v lo hi)) 0 0 (fun _ => False) := by
  refine gMetS (own := RX4) (by decide) rfl (Nat.le_of_ble_eq_true rfl) ?_
  intro p e s m below meth c ls hx hb hts hown hml hr hlk hl
  have hl : lv_has ls 3 [(0, _), (1, _), (2, _)] := hl
  refine lv_iload_n hx hb dM_between_0 rfl (lv_at hl 0 rfl) ?_
  refine lv_iload_n hx hb dM_between_1 rfl (lv_at hl 1 rfl) ?_
  refine lv_icmp_ge  (tgt := 9) hx hb dM_between_2 (by decide) (fun h => ?_) (fun h => ?_)
  · refine lv_iload_n hx hb dM_between_9 rfl (lv_at hl 0 rfl) ?_
    refine lv_iload_n hx hb dM_between_10 rfl (lv_at hl 2 rfl) ?_
    refine lv_icmp_le  (tgt := 18) hx hb dM_between_11 (by decide) (fun h2 => ?_) (fun h2 => ?_)
    · refine lv_iload_n hx hb dM_between_18 rfl (lv_at hl 0 rfl) ?_
      exact W.zret hx hb hr rfl (fun t ht hW => ⟨_, rfl, by simp only [zBtw]; rw [if_pos h, if_pos h2], ht⟩) (fun q h => by cases h) dM_between_19
    · refine lv_iload_n hx hb dM_between_14 rfl (lv_at hl 2 rfl) ?_
      refine lv_goto (tgt := 19) hx hb dM_between_15 (by decide) ?_
      exact W.zret hx hb hr rfl (fun t ht hW => ⟨_, rfl, by simp only [zBtw]; rw [if_pos h, if_neg h2], ht⟩) (fun q h => by cases h) dM_between_19
  · refine lv_iload_n hx hb dM_between_5 rfl (lv_at hl 1 rfl) ?_
    refine lv_goto (tgt := 19) hx hb dM_between_6 (by decide) ?_
    exact W.zret hx hb hr rfl (fun t ht hW => ⟨_, rfl, by simp only [zBtw]; rw [if_neg h], ht⟩) (fun q h => by cases h) dM_between_19
set_option maxHeartbeats 600000 in
set_option maxRecDepth 100000 in
theorem m_in (v : Int32) (n : Nat) (hn : n ≤ 100) : Met l yM_in (wz yM_in bM_in 2 (some .boolean)) (rmL 0 0 0) (fun q _ => q = ([.int v, .int (nI n)] : List Value).toArray) (vp_Si (fun r => (∃ i : Nat, i < n ∧ v = nI i ∧ r = 1) ∨ ((∀ i : Nat, i < n → v ≠ nI i) ∧ r = 0))) 0 0 (fun _ => False) := by
  refine gMetS (own := RX4) (by decide) rfl (Nat.le_of_ble_eq_true rfl) ?_
  intro p e s m below meth c ls hx hb hts hown hml hr hlk hl
  have hl : lv_has ls 2 [(0, _), (1, _)] := hl
  refine lv_iload_n hx hb dM_in_0 rfl (lv_at hl 0 rfl) ?_
  refine lv_if_lt  (tgt := 13) hx hb dM_in_1 (by decide) (fun h => ?_) (fun h => ?_)
  · refine lv_iconst (v := 0) hx hb dM_in_13 (by decide) ?_
    exact W.zret hx hb hr rfl (fun t ht hW => ⟨_, rfl, Or.inr ⟨fun i hi q => nI_pos (n := i) (by omega) (q ▸ h), rfl⟩, ht⟩) (fun q h => by cases h) dM_in_14
  · refine lv_iload_n hx hb dM_in_4 rfl (lv_at hl 0 rfl) ?_
    refine lv_iload_n hx hb dM_in_5 rfl (lv_at hl 1 rfl) ?_
    refine lv_icmp_ge  (tgt := 13) hx hb dM_in_6 (by decide) (fun h2 => ?_) (fun h2 => ?_)
    · refine lv_iconst (v := 0) hx hb dM_in_13 (by decide) ?_
      exact W.zret hx hb hr rfl (fun t ht hW => ⟨_, rfl, Or.inr ⟨fun i hi q => nI_ge hi (by omega) (q ▸ h2), rfl⟩, ht⟩) (fun q h => by cases h) dM_in_14
    · obtain ⟨i, hi, hv⟩ : ∃ i : Nat, i < n ∧ v = nI i := by
        rcases pk_ix v (n := n) (by omega) with q | q | q
        · exact absurd q h
        · exact absurd q h2
        · exact q
      refine lv_iconst (v := 1) hx hb dM_in_9 (by decide) ?_
      refine lv_goto (tgt := 14) hx hb dM_in_10 (by decide) ?_
      exact W.zret hx hb hr rfl (fun t ht hW => ⟨_, rfl, Or.inl ⟨i, hi, hv, rfl⟩, ht⟩) (fun q h => by cases h) dM_in_14
set_option maxHeartbeats 600000 in
set_option maxRecDepth 100000 in
theorem m_oneShot (hI : mJ k y LL f) (a b : Int64) : Met l yM_oneShot (wz yM_oneShot bM_oneShot 8 (some .long)) (rmL 0 0 0) (gP D (mk_tys k) LL f sz [.ref (mO k), .long a, .long b]) (vp_Sl (fun r => r = os a b)) 0 0 (fun _ => False) := by
  refine gMetR (own := RX4) (u := y) (by decide) rfl hI (Nat.le_of_ble_eq_true rfl) ?_
  intro p e s m below meth c ls hC hr hlk hH hl
  have hx := hC.1
  have hb := hC.2.1
  have hml := hC.2.2.2.2.2
  have hts := hC.2.2.1
  have hown := hC.2.2.2.1
  have hl : lv_has ls 8 [(0, _), (1, _), (3, _)] := hl
  refine lv_lload_n hx hb dM_oneShot_0 rfl (lv_at hl 1 rfl) ?_
  refine lv_lload_n hx hb dM_oneShot_1 rfl (lv_at hl 2 rfl) ?_
  refine lv_lxor hx hb dM_oneShot_2 ?_
  refine lv_lstore hx hb dM_oneShot_3 hl (by decide) rfl (fun ls hl => ?_)
  have hl : lv_has ls 8 [(5, _), (0, _), (1, _), (3, _)] := hl
  refine lv_iconst (v := 0) hx hb dM_oneShot_5 (by decide) ?_
  refine lv_istore hx hb dM_oneShot_6 hl (by decide) rfl (fun ls hl => ?_)
  have hl : lv_has ls 8 [(7, _), (5, _), (0, _), (1, _), (3, _)] := hl
  refine lv_iload hx hb dM_oneShot_8 (lv_at hl 0 rfl) ?_
  refine lv_iconst (v := 2) hx hb dM_oneShot_10 (by decide) ?_
  refine lv_icmp_ge  (tgt := 34) hx hb dM_oneShot_11 (by decide) (fun h => ?_) (fun h => ?_)
  · exact absurd h (by decide)
  refine lv_lload hx hb dM_oneShot_14 (lv_at hl 1 rfl) ?_
  refine lv_lload hx hb dM_oneShot_16 (lv_at hl 1 rfl) ?_
  refine lv_bipush (v := 31) hx hb dM_oneShot_18 (by decide) ?_
  refine lv_lushr hx hb dM_oneShot_20 rfl ?_
  refine lv_lxor hx hb dM_oneShot_21 ?_
  refine lv_ldc2 hx hb hown (hts _ wq_M_149) dM_oneShot_22 ?_
  refine lv_lmul hx hb dM_oneShot_25 ?_
  refine lv_lstore hx hb dM_oneShot_26 hl (by decide) rfl (fun ls hl => ?_)
  have hl : lv_has ls 8 [(5, _), (7, _), (0, _), (1, _), (3, _)] := hl
  refine lv_iinc hx hb dM_oneShot_28 hl (k := 1) rfl rfl (by decide) rfl (fun ls hl => ?_)
  have hl : lv_has ls 8 [(7, _), (5, _), (0, _), (1, _), (3, _)] := hl
  refine lv_goto (tgt := 8) hx hb dM_oneShot_31 (by decide) ?_
  refine lv_iload hx hb dM_oneShot_8 (lv_at hl 0 rfl) ?_
  refine lv_iconst (v := 2) hx hb dM_oneShot_10 (by decide) ?_
  refine lv_icmp_ge  (tgt := 34) hx hb dM_oneShot_11 (by decide) (fun h => ?_) (fun h => ?_)
  · exact absurd h (by decide)
  refine lv_lload hx hb dM_oneShot_14 (lv_at hl 1 rfl) ?_
  refine lv_lload hx hb dM_oneShot_16 (lv_at hl 1 rfl) ?_
  refine lv_bipush (v := 31) hx hb dM_oneShot_18 (by decide) ?_
  refine lv_lushr hx hb dM_oneShot_20 rfl ?_
  refine lv_lxor hx hb dM_oneShot_21 ?_
  refine lv_ldc2 hx hb hown (hts _ wq_M_149) dM_oneShot_22 ?_
  refine lv_lmul hx hb dM_oneShot_25 ?_
  refine lv_lstore hx hb dM_oneShot_26 hl (by decide) rfl (fun ls hl => ?_)
  have hl : lv_has ls 8 [(5, _), (7, _), (0, _), (1, _), (3, _)] := hl
  refine lv_iinc hx hb dM_oneShot_28 hl (k := 1) rfl rfl (by decide) rfl (fun ls hl => ?_)
  have hl : lv_has ls 8 [(7, _), (5, _), (0, _), (1, _), (3, _)] := hl
  refine lv_goto (tgt := 8) hx hb dM_oneShot_31 (by decide) ?_
  refine lv_iload hx hb dM_oneShot_8 (lv_at hl 0 rfl) ?_
  refine lv_iconst (v := 2) hx hb dM_oneShot_10 (by decide) ?_
  refine lv_icmp_ge  (tgt := 34) hx hb dM_oneShot_11 (by decide) (fun h => ?_) (fun h => ?_)
  · refine lv_lload hx hb dM_oneShot_34 (lv_at hl 1 rfl) ?_
    refine lv_lload_n hx hb dM_oneShot_36 rfl (lv_at hl 4 rfl) ?_
    refine lv_ladd hx hb dM_oneShot_37 ?_
    exact grSl hC hr hlk rfl dM_oneShot_38
  · exact absurd h (by decide)
set_option maxHeartbeats 600000 in
set_option maxRecDepth 100000 in
theorem m_answers (hI : mJ k y LL f) {j : Nat} (hj : j < 100) (v : Int64) : Met l yM_answers (wz yM_answers bM_answers 4 none) (rmL 0 0 0) (gP D (mk_tys k) LL f sz [.ref (mO k), .int (nI j), .long v]) (va_Qv (fun u => u = yAns y j v) (gB D (mk_tys k) (mJ k) (va_A (va_pl LL f) sz)) (va_A (va_pl LL f) sz)) 0 0 (va_A (va_pl LL f) sz) := by
  refine gMet (own := RX4) (u := y) (Qc := fun A => va_Qv (fun u => u = yAns y j v) (gB D (mk_tys k) (mJ k) A) A) (by decide) rfl hI (Nat.le_of_ble_eq_true rfl) ?_
  intro p e s m below meth c ls A hC hr hlk hnm hA hH hl
  have hx := hC.1
  have hb := hC.2.1
  have hml := hC.2.2.2.2.2
  have hts := hC.2.2.1
  have hown := hC.2.2.2.1
  have hl : lv_has ls 4 [(0, _), (1, _), (2, _)] := hl
  first | refine lv_aload_n hx hb dM_answers_0 rfl (lv_at hl 0 rfl) ?_ | refine lv_aload_nN hx hb dM_answers_0 rfl (lv_at hl 0 rfl) ?_
  refine gM_kind hC hH dM_answers_1 ?_
  refine lv_iload_n hx hb dM_answers_4 rfl (lv_at hl 1 rfl) ?_
  refine lv_iconst (v := 2) hx hb dM_answers_5 (by decide) ?_
  refine sM_i hC hH (by decide) (by assumption) dM_answers_6 (fun H locs hH => ?_)
  first | refine lv_aload_n hx hb dM_answers_7 rfl (lv_at hl 0 rfl) ?_ | refine lv_aload_nN hx hb dM_answers_7 rfl (lv_at hl 0 rfl) ?_
  refine gM_gave hC hH dM_answers_8 ?_
  refine lv_iload_n hx hb dM_answers_11 rfl (lv_at hl 1 rfl) ?_
  refine lv_lload_n hx hb dM_answers_12 rfl (lv_at hl 2 rfl) ?_
  refine sM_l hC hH (by decide) (by assumption) dM_answers_13 (fun H locs hH => ?_)
  exact grWv hC hr hlk hH rfl dM_answers_14
set_option maxHeartbeats 600000 in
set_option maxRecDepth 100000 in
theorem m_lets (hI : mJ k y LL f) {j : Nat} (hj : j < 100) : Met l yM_lets (wz yM_lets bM_lets 2 (some .boolean)) (rmL 0 0 0) (gP D (mk_tys k) LL f sz [.ref (mO k), .int (nI j)]) (va_Qi (fun (r : Int32) (u : ms_S) => u = yLet y j ∧ r = if MI y 25 j = 0 then 0 else 1) (gB D (mk_tys k) (mJ k) (va_A (va_pl LL f) sz)) (va_A (va_pl LL f) sz)) 0 0 (va_A (va_pl LL f) sz) := by
  refine gMet (own := RX4) (u := y) (Qc := fun A => va_Qi (fun (r : Int32) (u : ms_S) => u = yLet y j ∧ r = if MI y 25 j = 0 then 0 else 1) (gB D (mk_tys k) (mJ k) A) A) (by decide) rfl hI (Nat.le_of_ble_eq_true rfl) ?_
  intro p e s m below meth c ls A hC hr hlk hnm hA hH hl
  have hx := hC.1
  have hb := hC.2.1
  have hml := hC.2.2.2.2.2
  have hts := hC.2.2.1
  have hown := hC.2.2.2.1
  have hl : lv_has ls 2 [(0, _), (1, _)] := hl
  first | refine lv_aload_n hx hb dM_lets_0 rfl (lv_at hl 0 rfl) ?_ | refine lv_aload_nN hx hb dM_lets_0 rfl (lv_at hl 0 rfl) ?_
  refine gM_by hC hH dM_lets_1 ?_
  refine lv_iload_n hx hb dM_lets_4 rfl (lv_at hl 1 rfl) ?_
  refine lv_iconst (v := -1) hx hb dM_lets_5 (by decide) ?_
  refine sM_i hC hH (by decide) (by assumption) dM_lets_6 (fun H locs hH => ?_)
  first | refine lv_aload_n hx hb dM_lets_7 rfl (lv_at hl 0 rfl) ?_ | refine lv_aload_nN hx hb dM_lets_7 rfl (lv_at hl 0 rfl) ?_
  refine gM_isUnwanted hC hH dM_lets_8 ?_
  refine lv_iload_n hx hb dM_lets_11 rfl (lv_at hl 1 rfl) ?_
  refine aM_z hC hH (by decide) (by assumption) dM_lets_12 ?_
  have e1 : MI (sMI y 22 j (-1)) 25 j = MI y 25 j := by rw [MI_sMI]; exact if_neg (fun q => absurd q.1 (by decide))
  refine lv_if_ne  (tgt := 18) hx hb dM_lets_13 (by decide) (fun h => ?_) (fun h => ?_)
  · rw [e1] at h
    first | refine lv_aload_n hx hb dM_lets_18 rfl (lv_at hl 0 rfl) ?_ | refine lv_aload_nN hx hb dM_lets_18 rfl (lv_at hl 0 rfl) ?_
    refine gM_isUnwanted hC hH dM_lets_19 ?_
    refine lv_iload_n hx hb dM_lets_22 rfl (lv_at hl 1 rfl) ?_
    refine lv_iconst (v := 0) hx hb dM_lets_23 (by decide) ?_
    refine sM_z hC hH rfl (by decide) (by assumption) dM_lets_24 (fun H locs hH => ?_)
    first | refine lv_aload_n hx hb dM_lets_25 rfl (lv_at hl 0 rfl) ?_ | refine lv_aload_nN hx hb dM_lets_25 rfl (lv_at hl 0 rfl) ?_
    refine gM_kind hC hH dM_lets_26 ?_
    refine lv_iload_n hx hb dM_lets_29 rfl (lv_at hl 1 rfl) ?_
    refine lv_iconst (v := 3) hx hb dM_lets_30 (by decide) ?_
    refine sM_i hC hH (by decide) (by assumption) dM_lets_31 (fun H locs hH => ?_)
    refine lv_iconst (v := 1) hx hb dM_lets_32 (by decide) ?_
    exact grWi hC hr hlk rfl hH ⟨by rw [yLet, if_neg h], (if_neg h).symm⟩ dM_lets_33
  · rw [e1] at h
    refine lv_iconst (v := 0) hx hb dM_lets_16 (by decide) ?_
    exact grWi hC hr hlk rfl hH ⟨by rw [yLet, if_pos h], (if_pos h).symm⟩ dM_lets_17
set_option maxHeartbeats 600000 in
set_option maxRecDepth 100000 in
theorem m_waitsAgain (hI : mJ k y LL f) {j : Nat} (hj : j < 100) : Met l yM_waitsAgain (wz yM_waitsAgain bM_waitsAgain 2 none) (rmL 1 0 0) (gP D (mk_tys k) LL f sz [.ref (mO k), .int (nI j)]) (va_Qv (fun u => u = yWai y j) (gB D (mk_tys k) (mJ k) (va_A (va_pl LL f) sz)) (va_A (va_pl LL f) sz)) 0 0 (va_A (va_pl LL f) sz) := by
  refine gMet (own := RX4) (u := y) (Qc := fun A => va_Qv (fun u => u = yWai y j) (gB D (mk_tys k) (mJ k) A) A) (by decide) rfl hI (Nat.le_of_ble_eq_true rfl) ?_
  intro p e s m below meth c ls A hC hr hlk hnm hA hH hl
  have hx := hC.1
  have hb := hC.2.1
  have hml := hC.2.2.2.2.2
  have hts := hC.2.2.1
  have hown := hC.2.2.2.1
  have hl : lv_has ls 2 [(0, _), (1, _)] := hl
  first | refine lv_aload_n hx hb dM_waitsAgain_0 rfl (lv_at hl 0 rfl) ?_ | refine lv_aload_nN hx hb dM_waitsAgain_0 rfl (lv_at hl 0 rfl) ?_
  refine lv_iload_n hx hb dM_waitsAgain_1 rfl (lv_at hl 1 rfl) ?_
  refine gcWVi hC hl.1 hA hH (fun LL f sz hI => m_lets hI hj) mJ.o rfl rfl kM_103 ⟨Nat.le_of_ble_eq_true rfl, Nat.le_of_ble_eq_true rfl⟩ dM_waitsAgain_2 ⟨Nat.le_of_ble_eq_true rfl, Nat.le_of_ble_eq_true rfl⟩ rfl (Nat.le_of_ble_eq_true rfl) (fun r u H locs hp hH => ?_)
  obtain ⟨hp1, hp2⟩ := hp
  refine lv_if_ne  (tgt := 15) hx hb dM_waitsAgain_5 (by decide) (fun h => ?_) (fun h => ?_)
  · have h2 : ¬ MI y 25 j = 0 := fun q => h (by rw [hp2, if_pos q])
    exact grWv hC hr hlk hH (by rw [hp1, yWai, if_neg h2]) dM_waitsAgain_15
  · have h2 : MI y 25 j = 0 := Classical.byContradiction (fun q => by rw [hp2, if_neg q] at h; exact absurd h (by decide))
    first | refine lv_aload_n hx hb dM_waitsAgain_8 rfl (lv_at hl 0 rfl) ?_ | refine lv_aload_nN hx hb dM_waitsAgain_8 rfl (lv_at hl 0 rfl) ?_
    refine gM_kind hC hH dM_waitsAgain_9 ?_
    refine lv_iload_n hx hb dM_waitsAgain_12 rfl (lv_at hl 1 rfl) ?_
    refine lv_iconst (v := 0) hx hb dM_waitsAgain_13 (by decide) ?_
    refine sM_i hC hH (by decide) (by assumption) dM_waitsAgain_14 (fun H locs hH => ?_)
    exact grWv hC hr hlk hH (by rw [hp1, yWai, if_pos h2, yLet, if_pos h2]) dM_waitsAgain_15
set_option maxHeartbeats 600000 in
set_option maxRecDepth 100000 in
theorem m_ends (hI : mJ k y LL f) {i : Nat} (hi : i < 60) (r0 : Int32) : Met l yM_ends (wz yM_ends bM_ends 4 (some .int)) (rmL 0 0 0) (gP D (mk_tys k) LL f sz [.ref (mO k), .int (nI i), .int r0]) (va_Qi (fun (r : Int32) (u : ms_S) => u = yEnd y i r0 ∧ r = MI y 14 i) (gB D (mk_tys k) (mJ k) (va_A (va_pl LL f) sz)) (va_A (va_pl LL f) sz)) 0 0 (va_A (va_pl LL f) sz) := by
  refine gMet (own := RX4) (u := y) (Qc := fun A => va_Qi (fun (r : Int32) (u : ms_S) => u = yEnd y i r0 ∧ r = MI y 14 i) (gB D (mk_tys k) (mJ k) A) A) (by decide) rfl hI (Nat.le_of_ble_eq_true rfl) ?_
  intro p e s m below meth c ls A hC hr hlk hnm hA hH hl
  have hx := hC.1
  have hb := hC.2.1
  have hml := hC.2.2.2.2.2
  have hts := hC.2.2.1
  have hown := hC.2.2.2.1
  have hl : lv_has ls 4 [(0, _), (1, _), (2, _)] := hl
  first | refine lv_aload_n hx hb dM_ends_0 rfl (lv_at hl 0 rfl) ?_ | refine lv_aload_nN hx hb dM_ends_0 rfl (lv_at hl 0 rfl) ?_
  refine gM_busyWith hC hH dM_ends_1 ?_
  refine lv_iload_n hx hb dM_ends_4 rfl (lv_at hl 1 rfl) ?_
  refine aM_i hC hH (by decide) (by assumption) dM_ends_5 ?_
  refine lv_istore_n hx hb dM_ends_6 rfl hl (by decide) rfl (fun ls hl => ?_)
  have hl : lv_has ls 4 [(3, _), (0, _), (1, _), (2, _)] := hl
  first | refine lv_aload_n hx hb dM_ends_7 rfl (lv_at hl 1 rfl) ?_ | refine lv_aload_nN hx hb dM_ends_7 rfl (lv_at hl 1 rfl) ?_
  refine gM_state hC hH dM_ends_8 ?_
  refine lv_iload_n hx hb dM_ends_11 rfl (lv_at hl 2 rfl) ?_
  refine lv_iconst (v := 2) hx hb dM_ends_12 (by decide) ?_
  refine sM_i hC hH (by decide) (by assumption) dM_ends_13 (fun H locs hH => ?_)
  first | refine lv_aload_n hx hb dM_ends_14 rfl (lv_at hl 1 rfl) ?_ | refine lv_aload_nN hx hb dM_ends_14 rfl (lv_at hl 1 rfl) ?_
  refine gM_why hC hH dM_ends_15 ?_
  refine lv_iload_n hx hb dM_ends_18 rfl (lv_at hl 2 rfl) ?_
  refine lv_iload_n hx hb dM_ends_19 rfl (lv_at hl 3 rfl) ?_
  refine sM_i hC hH (by decide) (by assumption) dM_ends_20 (fun H locs hH => ?_)
  first | refine lv_aload_n hx hb dM_ends_21 rfl (lv_at hl 1 rfl) ?_ | refine lv_aload_nN hx hb dM_ends_21 rfl (lv_at hl 1 rfl) ?_
  refine gM_busyWith hC hH dM_ends_22 ?_
  refine lv_iload_n hx hb dM_ends_25 rfl (lv_at hl 2 rfl) ?_
  refine lv_iconst (v := -1) hx hb dM_ends_26 (by decide) ?_
  refine sM_i hC hH (by decide) (by assumption) dM_ends_27 (fun H locs hH => ?_)
  refine lv_iload_n hx hb dM_ends_28 rfl (lv_at hl 0 rfl) ?_
  exact grWi hC hr hlk rfl hH ⟨rfl, rfl⟩ dM_ends_29
set_option maxHeartbeats 600000 in
set_option maxRecDepth 100000 in
theorem m_newOne (hI : mJ k y LL f) {t : Nat} (ht : t < 6) (hw : yW y < 60) : Met l yM_newOne (wz yM_newOne bM_newOne 3 (some .int)) (rmL 0 0 0) (gP D (mk_tys k) LL f sz [.ref (mO k), .int (nI t)]) (va_Qi (fun (r : Int32) (u : ms_S) => u = yNew y t ∧ r = nI (yW y)) (gB D (mk_tys k) (mJ k) (va_A (va_pl LL f) sz)) (va_A (va_pl LL f) sz)) 0 0 (va_A (va_pl LL f) sz) := by
  refine gMet (own := RX4) (u := y) (Qc := fun A => va_Qi (fun (r : Int32) (u : ms_S) => u = yNew y t ∧ r = nI (yW y)) (gB D (mk_tys k) (mJ k) A) A) (by decide) rfl hI (Nat.le_of_ble_eq_true rfl) ?_
  intro p e s m below meth c ls A hC hr hlk hnm hA hH hl
  have hx := hC.1
  have hb := hC.2.1
  have hml := hC.2.2.2.2.2
  have hts := hC.2.2.1
  have hown := hC.2.2.2.1
  have hl : lv_has ls 3 [(0, _), (1, _)] := hl
  first | refine lv_aload_n hx hb dM_newOne_0 rfl (lv_at hl 0 rfl) ?_ | refine lv_aload_nN hx hb dM_newOne_0 rfl (lv_at hl 0 rfl) ?_
  refine gM_workers hC hH dM_newOne_1 ?_
  refine lv_istore_n hx hb dM_newOne_4 rfl hl (by decide) rfl (fun ls hl => ?_)
  have hl : lv_has ls 3 [(2, _), (0, _), (1, _)] := hl
  first | refine lv_aload_n hx hb dM_newOne_5 rfl (lv_at hl 1 rfl) ?_ | refine lv_aload_nN hx hb dM_newOne_5 rfl (lv_at hl 1 rfl) ?_
  refine gM_toolOf hC hH dM_newOne_6 ?_
  refine lv_iload_n hx hb dM_newOne_9 rfl (lv_at hl 0 rfl) ?_
  refine lv_iload_n hx hb dM_newOne_10 rfl (lv_at hl 2 rfl) ?_
  refine sM_i hC hH (by decide) (by assumption) dM_newOne_11 (fun H locs hH => ?_)
  first | refine lv_aload_n hx hb dM_newOne_12 rfl (lv_at hl 1 rfl) ?_ | refine lv_aload_nN hx hb dM_newOne_12 rfl (lv_at hl 1 rfl) ?_
  refine gM_startedWith hC hH dM_newOne_13 ?_
  refine lv_iload_n hx hb dM_newOne_16 rfl (lv_at hl 0 rfl) ?_
  first | refine lv_aload_n hx hb dM_newOne_17 rfl (lv_at hl 1 rfl) ?_ | refine lv_aload_nN hx hb dM_newOne_17 rfl (lv_at hl 1 rfl) ?_
  refine gM_editionOf hC hH dM_newOne_18 ?_
  refine lv_iload_n hx hb dM_newOne_21 rfl (lv_at hl 2 rfl) ?_
  refine aM_l hC hH (by decide) (by assumption) dM_newOne_22 ?_
  refine sM_l hC hH (by decide) (by assumption) dM_newOne_23 (fun H locs hH => ?_)
  first | refine lv_aload_n hx hb dM_newOne_24 rfl (lv_at hl 1 rfl) ?_ | refine lv_aload_nN hx hb dM_newOne_24 rfl (lv_at hl 1 rfl) ?_
  refine lv_dup hx hb dM_newOne_25 rfl ?_
  refine gM_workers hC hH dM_newOne_26 ?_
  refine lv_iconst (v := 1) hx hb dM_newOne_29 (by decide) ?_
  refine lv_iadd hx hb dM_newOne_30 ?_
  rw [nI_1]
  refine pM_workers hC hH dM_newOne_31 (fun H locs hH => ?_)
  refine lv_iload_n hx hb dM_newOne_34 rfl (lv_at hl 0 rfl) ?_
  exact grWi hC hr hlk rfl hH ⟨rfl, rfl⟩ dM_newOne_35
set_option maxHeartbeats 600000 in
set_option maxRecDepth 100000 in
theorem m_isDoneBy (hI : mJ k y LL f) {j : Nat} (hj : j < 100) (v : Int32) : Met l yM_isDoneBy (wz yM_isDoneBy bM_isDoneBy 3 (some .boolean)) (rmL 0 0 0) (gP D (mk_tys k) LL f sz [.ref (mO k), .int (nI j), .int v]) (vp_Si (fun r => r = if MI y 21 j = 2 ∧ MI y 22 j = v then 1 else 0)) 0 0 (fun _ => False) := by
  refine gMetR (own := RX4) (u := y) (by decide) rfl hI (Nat.le_of_ble_eq_true rfl) ?_
  intro p e s m below meth c ls hC hr hlk hH hl
  have hx := hC.1
  have hb := hC.2.1
  have hml := hC.2.2.2.2.2
  have hts := hC.2.2.1
  have hown := hC.2.2.2.1
  have hl : lv_has ls 3 [(0, _), (1, _), (2, _)] := hl
  first | refine lv_aload_n hx hb dM_isDoneBy_0 rfl (lv_at hl 0 rfl) ?_ | refine lv_aload_nN hx hb dM_isDoneBy_0 rfl (lv_at hl 0 rfl) ?_
  refine gM_kind hC hH dM_isDoneBy_1 ?_
  refine lv_iload_n hx hb dM_isDoneBy_4 rfl (lv_at hl 1 rfl) ?_
  refine aM_i hC hH (by decide) (by assumption) dM_isDoneBy_5 ?_
  refine lv_iconst (v := 2) hx hb dM_isDoneBy_6 (by decide) ?_
  refine lv_icmp_ne  (tgt := 24) hx hb dM_isDoneBy_7 (by decide) (fun h => ?_) (fun h => ?_)
  · refine lv_iconst (v := 0) hx hb dM_isDoneBy_24 (by decide) ?_
    exact grSi hC hr hlk rfl (if_neg (fun q => h q.1)).symm dM_isDoneBy_25
  · first | refine lv_aload_n hx hb dM_isDoneBy_10 rfl (lv_at hl 0 rfl) ?_ | refine lv_aload_nN hx hb dM_isDoneBy_10 rfl (lv_at hl 0 rfl) ?_
    refine gM_by hC hH dM_isDoneBy_11 ?_
    refine lv_iload_n hx hb dM_isDoneBy_14 rfl (lv_at hl 1 rfl) ?_
    refine aM_i hC hH (by decide) (by assumption) dM_isDoneBy_15 ?_
    refine lv_iload_n hx hb dM_isDoneBy_16 rfl (lv_at hl 2 rfl) ?_
    refine lv_icmp_ne  (tgt := 24) hx hb dM_isDoneBy_17 (by decide) (fun h2 => ?_) (fun h2 => ?_)
    · refine lv_iconst (v := 0) hx hb dM_isDoneBy_24 (by decide) ?_
      exact grSi hC hr hlk rfl (if_neg (fun q => h2 q.2)).symm dM_isDoneBy_25
    · refine lv_iconst (v := 1) hx hb dM_isDoneBy_20 (by decide) ?_
      refine lv_goto (tgt := 25) hx hb dM_isDoneBy_21 (by decide) ?_
      exact grSi hC hr hlk rfl (if_pos ⟨h, h2⟩).symm dM_isDoneBy_25
set_option maxHeartbeats 600000 in
set_option maxRecDepth 100000 in
theorem m_freeOne (hI : mJ k y LL f) (v : Int32) (hw : yW y ≤ 60) : Met l yM_freeOne (wz yM_freeOne bM_freeOne 4 (some .int)) (rmL 0 0 0) (gP D (mk_tys k) LL f sz [.ref (mO k), .int v]) (vp_Si (fun r => r = yFr y v (yW y) (-1))) 0 0 (fun _ => False) := by
  refine gMetR (own := RX4) (u := y) (by decide) rfl hI (Nat.le_of_ble_eq_true rfl) ?_
  intro p e s m below meth c ls hC hr hlk hH hl
  have hx := hC.1
  have hb := hC.2.1
  have hml := hC.2.2.2.2.2
  have hts := hC.2.2.1
  have hown := hC.2.2.2.1
  have hl : lv_has ls 4 [(0, _), (1, _)] := hl
  refine lv_iconst (v := -1) hx hb dM_freeOne_0 (by decide) ?_
  refine lv_istore_n hx hb dM_freeOne_1 rfl hl (by decide) rfl (fun ls hl => ?_)
  have hl : lv_has ls 4 [(2, _), (0, _), (1, _)] := hl
  first | refine lv_aload_n hx hb dM_freeOne_2 rfl (lv_at hl 1 rfl) ?_ | refine lv_aload_nN hx hb dM_freeOne_2 rfl (lv_at hl 1 rfl) ?_
  refine gM_workers hC hH dM_freeOne_3 ?_
  refine lv_iconst (v := 1) hx hb dM_freeOne_6 (by decide) ?_
  refine lv_isub hx hb dM_freeOne_7 ?_
  refine lv_istore_n hx hb dM_freeOne_8 rfl hl (by decide) rfl (fun ls hl => ?_)
  have hl : lv_has ls 4 [(3, _), (2, _), (0, _), (1, _)] := hl
  refine (?_ : ∀ (n : Nat) (a b : Int32) (ls : Array Slot), n ≤ 60 → yFr y v (yW y) (-1) = yFr y v n a → b = nI n - 1 → lv_has ls 4 [(0, .ref (mO k)), (1, .int v), (2, .int a), (3, .int b)] → W p l e _ s m _ below meth c s.heap [] 0 0 _ (F0 m 9 ls [])) (yW y) (-1) _ ls hw rfl rfl (lv_sub hl [2, 3, 1, 0] rfl)
  intro n
  induction n with
  | zero =>
    intro a b ls hn hf hb2 hl
    refine lv_iload_n hx hb dM_freeOne_9 rfl (lv_at hl 3 rfl) ?_
    refine lv_if_lt  (tgt := 40) hx hb dM_freeOne_10 (by decide) (fun h => ?_) (fun h => ?_)
    · refine lv_iload_n hx hb dM_freeOne_40 rfl (lv_at hl 2 rfl) ?_
      exact grSi hC hr hlk rfl hf.symm dM_freeOne_41
    · exact absurd (by rw [hb2]; decide) h
  | succ n ih =>
    intro a b ls hn hf hb2 hl
    obtain rfl : b = nI n := by rw [hb2]; exact nI_pred n
    have hn2 : n < 60 := hn
    refine lv_iload_n hx hb dM_freeOne_9 rfl (lv_at hl 3 rfl) ?_
    refine lv_if_lt  (tgt := 40) hx hb dM_freeOne_10 (by decide) (fun h => ?_) (fun h => ?_)
    · exact absurd h (nI_pos (by omega))
    · first | refine lv_aload_n hx hb dM_freeOne_13 rfl (lv_at hl 0 rfl) ?_ | refine lv_aload_nN hx hb dM_freeOne_13 rfl (lv_at hl 0 rfl) ?_
      refine gM_toolOf hC hH dM_freeOne_14 ?_
      refine lv_iload_n hx hb dM_freeOne_17 rfl (lv_at hl 3 rfl) ?_
      refine aM_i hC hH (by decide) (by assumption) dM_freeOne_18 ?_
      refine lv_iload_n hx hb dM_freeOne_19 rfl (lv_at hl 1 rfl) ?_
      refine lv_icmp_ne  (tgt := 34) hx hb dM_freeOne_20 (by decide) (fun h1 => ?_) (fun h1 => ?_)
      · refine lv_iinc hx hb dM_freeOne_34 hl (k := 3) rfl rfl (by decide) rfl (fun ls hl => ?_)
        have hl : lv_has ls 4 [(3, _), (0, _), (1, _), (2, _)] := hl
        refine lv_goto (tgt := 9) hx hb dM_freeOne_37 (by decide) ?_
        exact ih _ _ ls (by omega) (hf.trans (by show yFr y v n _ = _; rw [if_neg (fun q => h1 q.1)])) (i_m1 _) (lv_sub hl [1, 2, 3, 0] rfl)
      · first | refine lv_aload_n hx hb dM_freeOne_23 rfl (lv_at hl 0 rfl) ?_ | refine lv_aload_nN hx hb dM_freeOne_23 rfl (lv_at hl 0 rfl) ?_
        refine gM_state hC hH dM_freeOne_24 ?_
        refine lv_iload_n hx hb dM_freeOne_27 rfl (lv_at hl 3 rfl) ?_
        refine aM_i hC hH (by decide) (by assumption) dM_freeOne_28 ?_
        refine lv_if_ne  (tgt := 34) hx hb dM_freeOne_29 (by decide) (fun h2 => ?_) (fun h2 => ?_)
        · refine lv_iinc hx hb dM_freeOne_34 hl (k := 3) rfl rfl (by decide) rfl (fun ls hl => ?_)
          have hl : lv_has ls 4 [(3, _), (0, _), (1, _), (2, _)] := hl
          refine lv_goto (tgt := 9) hx hb dM_freeOne_37 (by decide) ?_
          exact ih _ _ ls (by omega) (hf.trans (by show yFr y v n _ = _; rw [if_neg (fun q => h2 q.2)])) (i_m1 _) (lv_sub hl [1, 2, 3, 0] rfl)
        · refine lv_iload_n hx hb dM_freeOne_32 rfl (lv_at hl 3 rfl) ?_
          refine lv_istore_n hx hb dM_freeOne_33 rfl hl (by decide) rfl (fun ls hl => ?_)
          have hl : lv_has ls 4 [(2, _), (0, _), (1, _), (3, _)] := hl
          refine lv_iinc hx hb dM_freeOne_34 hl (k := 3) rfl rfl (by decide) rfl (fun ls hl => ?_)
          have hl : lv_has ls 4 [(3, _), (2, _), (0, _), (1, _)] := hl
          refine lv_goto (tgt := 9) hx hb dM_freeOne_37 (by decide) ?_
          exact ih _ _ ls (by omega) (hf.trans (by show yFr y v n _ = _; rw [if_pos ⟨h1, h2⟩])) (i_m1 _) (lv_sub hl [2, 3, 1, 0] rfl)
set_option maxHeartbeats 600000 in
set_option maxRecDepth 100000 in
theorem m_alive (hI : mJ k y LL f) (v : Int32) (hw : yW y ≤ 60) : Met l yM_alive (wz yM_alive bM_alive 4 (some .int)) (rmL 0 0 0) (gP D (mk_tys k) LL f sz [.ref (mO k), .int v]) (vp_Si (fun r => r = yAl y v (yW y))) 0 0 (fun _ => False) := by
  refine gMetR (own := RX4) (u := y) (by decide) rfl hI (Nat.le_of_ble_eq_true rfl) ?_
  intro p e s m below meth c ls hC hr hlk hH hl
  have hx := hC.1
  have hb := hC.2.1
  have hml := hC.2.2.2.2.2
  have hts := hC.2.2.1
  have hown := hC.2.2.2.1
  have hl : lv_has ls 4 [(0, _), (1, _)] := hl
  refine lv_iconst (v := 0) hx hb dM_alive_0 (by decide) ?_
  refine lv_istore_n hx hb dM_alive_1 rfl hl (by decide) rfl (fun ls hl => ?_)
  have hl : lv_has ls 4 [(2, _), (0, _), (1, _)] := hl
  refine lv_iconst (v := 0) hx hb dM_alive_2 (by decide) ?_
  refine lv_istore_n hx hb dM_alive_3 rfl hl (by decide) rfl (fun ls hl => ?_)
  have hl : lv_has ls 4 [(3, _), (2, _), (0, _), (1, _)] := hl
  refine (?_ : ∀ (n i : Nat) (a : Int32) (ls : Array Slot), i + n = yW y → a = yAl y v i → lv_has ls 4 [(0, .ref (mO k)), (1, .int v), (2, .int a), (3, .int (nI i))] → W p l e _ s m _ below meth c s.heap [] 0 0 _ (F0 m 4 ls [])) (yW y) 0 0 ls (Nat.zero_add _) rfl (lv_sub hl [2, 3, 1, 0] rfl)
  intro n
  induction n with
  | zero =>
    intro i a ls hin ha hl
    refine lv_iload_n hx hb dM_alive_4 rfl (lv_at hl 3 rfl) ?_
    first | refine lv_aload_n hx hb dM_alive_5 rfl (lv_at hl 0 rfl) ?_ | refine lv_aload_nN hx hb dM_alive_5 rfl (lv_at hl 0 rfl) ?_
    refine gM_workers hC hH dM_alive_6 ?_
    refine lv_icmp_ge  (tgt := 41) hx hb dM_alive_9 (by decide) (fun h => ?_) (fun h => ?_)
    · refine lv_iload_n hx hb dM_alive_41 rfl (lv_at hl 2 rfl) ?_
      exact grSi hC hr hlk rfl (by rw [ha, show i = yW y by omega]) dM_alive_42
    · exact absurd (nI_le (by omega) (by omega)) h
  | succ n ih =>
    intro i a ls hin ha hl
    have hi2 : i < 60 := by omega
    refine lv_iload_n hx hb dM_alive_4 rfl (lv_at hl 3 rfl) ?_
    first | refine lv_aload_n hx hb dM_alive_5 rfl (lv_at hl 0 rfl) ?_ | refine lv_aload_nN hx hb dM_alive_5 rfl (lv_at hl 0 rfl) ?_
    refine gM_workers hC hH dM_alive_6 ?_
    refine lv_icmp_ge  (tgt := 41) hx hb dM_alive_9 (by decide) (fun h => ?_) (fun h => ?_)
    · exact absurd h (nI_ge (by omega) (by omega))
    · first | refine lv_aload_n hx hb dM_alive_12 rfl (lv_at hl 0 rfl) ?_ | refine lv_aload_nN hx hb dM_alive_12 rfl (lv_at hl 0 rfl) ?_
      refine gM_toolOf hC hH dM_alive_13 ?_
      refine lv_iload_n hx hb dM_alive_16 rfl (lv_at hl 3 rfl) ?_
      refine aM_i hC hH (by decide) (by assumption) dM_alive_17 ?_
      refine lv_iload_n hx hb dM_alive_18 rfl (lv_at hl 1 rfl) ?_
      refine lv_icmp_ne  (tgt := 35) hx hb dM_alive_19 (by decide) (fun h1 => ?_) (fun h1 => ?_)
      · refine lv_iinc hx hb dM_alive_35 hl (k := 3) rfl rfl (by decide) rfl (fun ls hl => ?_)
        have hl : lv_has ls 4 [(3, _), (0, _), (1, _), (2, _)] := hl
        refine lv_goto (tgt := 4) hx hb dM_alive_38 (by decide) ?_
        exact ih (i + 1) _ ls (by omega) (ha.trans (if_neg (fun q => h1 q.1)).symm) (by rw [← nI_1 i]; exact lv_sub hl [1, 2, 3, 0] rfl)
      · first | refine lv_aload_n hx hb dM_alive_22 rfl (lv_at hl 0 rfl) ?_ | refine lv_aload_nN hx hb dM_alive_22 rfl (lv_at hl 0 rfl) ?_
        refine gM_state hC hH dM_alive_23 ?_
        refine lv_iload_n hx hb dM_alive_26 rfl (lv_at hl 3 rfl) ?_
        refine aM_i hC hH (by decide) (by assumption) dM_alive_27 ?_
        refine lv_iconst (v := 2) hx hb dM_alive_28 (by decide) ?_
        refine lv_icmp_eq  (tgt := 35) hx hb dM_alive_29 (by decide) (fun h2 => ?_) (fun h2 => ?_)
        · refine lv_iinc hx hb dM_alive_35 hl (k := 3) rfl rfl (by decide) rfl (fun ls hl => ?_)
          have hl : lv_has ls 4 [(3, _), (0, _), (1, _), (2, _)] := hl
          refine lv_goto (tgt := 4) hx hb dM_alive_38 (by decide) ?_
          exact ih (i + 1) _ ls (by omega) (ha.trans (if_neg (fun q => q.2 h2)).symm) (by rw [← nI_1 i]; exact lv_sub hl [1, 2, 3, 0] rfl)
        · refine lv_iinc hx hb dM_alive_32 hl (k := 2) rfl rfl (by decide) rfl (fun ls hl => ?_)
          have hl : lv_has ls 4 [(2, _), (0, _), (1, _), (3, _)] := hl
          refine lv_iinc hx hb dM_alive_35 hl (k := 3) rfl rfl (by decide) rfl (fun ls hl => ?_)
          have hl : lv_has ls 4 [(3, _), (2, _), (0, _), (1, _)] := hl
          refine lv_goto (tgt := 4) hx hb dM_alive_38 (by decide) ?_
          have hs : yAl y v (i + 1) = a + 1 := by rw [ha]; exact if_pos ⟨h1, h2⟩
          exact ih (i + 1) (a + Int32.ofInt 1) ls (by omega) hs.symm (by rw [← nI_1 i]; exact lv_sub hl [2, 3, 1, 0] rfl)
end M1
