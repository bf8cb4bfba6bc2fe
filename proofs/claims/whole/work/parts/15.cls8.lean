section C8
variable {l : Launch} {D : va_G} {k : ck_F} {d : ck_A} {x : cs_S} {LL : List Nat} {f : Nat → va_E} {sz : Nat}
theorem bI_1 {b : Bool} (h : ¬ bI b = 0) : bI b = 1 := by
  cases b
  · exact absurd rfl h
  · rfl
theorem sw_ne {w k : Int32} {n : Int} (hk : k.toInt = n) (h : ¬ w.toInt = n) : ¬ w = k := fun q => h (by rw [q]; exact hk)
theorem sw_eq {w k : Int32} {n : Int} (hk : k.toInt = n) (h : w.toInt = n) : w = k := Int32.toInt_inj.mp (by rw [h, hk])
theorem sw5 (w : Int32) : (w.toInt = 0 ∧ w = 0) ∨ (w.toInt = 1 ∧ w = 1) ∨ (w.toInt = 2 ∧ w = 2) ∨ (w.toInt = 3 ∧ w = 3) ∨ (w.toInt = 4 ∧ w = 4) ∨ ((w.toInt < 0 ∨ 4 < w.toInt) ∧ ¬ w = 0 ∧ ¬ w = 1 ∧ ¬ w = 2 ∧ ¬ w = 3 ∧ ¬ w = 4) := by
  by_cases h0 : w.toInt = 0
  · exact Or.inl ⟨h0, sw_eq (by decide) h0⟩
  by_cases h1 : w.toInt = 1
  · exact Or.inr (Or.inl ⟨h1, sw_eq (by decide) h1⟩)
  by_cases h2 : w.toInt = 2
  · exact Or.inr (Or.inr (Or.inl ⟨h2, sw_eq (by decide) h2⟩))
  by_cases h3 : w.toInt = 3
  · exact Or.inr (Or.inr (Or.inr (Or.inl ⟨h3, sw_eq (by decide) h3⟩)))
  by_cases h4 : w.toInt = 4
  · exact Or.inr (Or.inr (Or.inr (Or.inr (Or.inl ⟨h4, sw_eq (by decide) h4⟩))))
  exact Or.inr (Or.inr (Or.inr (Or.inr (Or.inr ⟨by omega, sw_ne (by decide) h0, sw_ne (by decide) h1, sw_ne (by decide) h2, sw_ne (by decide) h3, sw_ne (by decide) h4⟩))))
theorem sw7 (w : Int32) : (w.toInt = 0 ∧ w = 0) ∨ (w.toInt = 1 ∧ w = 1) ∨ (w.toInt = 2 ∧ w = 2) ∨ (w.toInt = 3 ∧ w = 3) ∨ (w.toInt = 4 ∧ w = 4) ∨ (w.toInt = 5 ∧ w = 5) ∨ (w.toInt = 6 ∧ w = 6) ∨ ((w.toInt < 0 ∨ 6 < w.toInt) ∧ ¬ w = 0 ∧ ¬ w = 1 ∧ ¬ w = 2 ∧ ¬ w = 3 ∧ ¬ w = 4 ∧ ¬ w = 5 ∧ ¬ w = 6) := by
  by_cases h5 : w.toInt = 5
  · exact Or.inr (Or.inr (Or.inr (Or.inr (Or.inr (Or.inl ⟨h5, sw_eq (by decide) h5⟩)))))
  by_cases h6 : w.toInt = 6
  · exact Or.inr (Or.inr (Or.inr (Or.inr (Or.inr (Or.inr (Or.inl ⟨h6, sw_eq (by decide) h6⟩))))))
  rcases sw5 w with h | h | h | h | h | ⟨h, h0, h1, h2, h3, h4⟩
  · exact Or.inl h
  · exact Or.inr (Or.inl h)
  · exact Or.inr (Or.inr (Or.inl h))
  · exact Or.inr (Or.inr (Or.inr (Or.inl h)))
  · exact Or.inr (Or.inr (Or.inr (Or.inr (Or.inl h))))
  · exact Or.inr (Or.inr (Or.inr (Or.inr (Or.inr (Or.inr (Or.inr ⟨by omega, h0, h1, h2, h3, h4, sw_ne (by decide) h5, sw_ne (by decide) h6⟩))))))
set_option maxHeartbeats 600000 in
set_option maxRecDepth 100000 in
theorem c_about (hI : cJ k (d, x) LL f) (v w : Int32) : Met l yC_about (wz yC_about bC_about 4 (some .int)) (rmL 1 0 0) (gP D (ck_tys k) LL f sz [.ref (kO k), .int v, .int w]) (vp_Si (fun r => r = zAbo x v w)) 0 0 (fun _ => False) := by
  refine gMetR (own := RX3) (u := (d, x)) (by decide) rfl hI (Nat.le_of_ble_eq_true rfl) ?_
  intro p e s m below meth c ls hC hr hlk hH hl
  have hx := hC.1
  have hb := hC.2.1
  have hml := hC.2.2.2.2.2
  have hts := hC.2.2.1
  have hown := hC.2.2.2.1
  have hl : lv_has ls 4 [(0, _), (1, _), (2, _)] := hl
  have hn6 := (cG.ok hH).1.2.2
  first | refine lv_aload_n hx hb dC_about_0 rfl (lv_at hl 0 rfl) ?_ | refine lv_aload_nN hx hb dC_about_0 rfl (lv_at hl 0 rfl) ?_
  refine lv_iload_n hx hb dC_about_1 rfl (lv_at hl 1 rfl) ?_
  refine gcVq hC hl.1 hH (fun LL f sz hI => c_requestAt hI v) cJ.o rfl rfl kC_81 ⟨Nat.le_of_ble_eq_true rfl, Nat.le_of_ble_eq_true rfl⟩ dC_about_2 ⟨Nat.le_of_ble_eq_true rfl, Nat.le_of_ble_eq_true rfl⟩ rfl (Nat.le_of_ble_eq_true rfl) (fun o ho => ?_)
  rcases ho with ⟨j, hj, hv, rfl⟩ | ⟨hv, rfl⟩
  · have hkk : lk (nR x) v = some j := by rw [hv]; exact lk_in hj (by omega)
    first | refine lv_astore_n hx hb dC_about_5 rfl hl (by decide) rfl (fun ls hl => ?_) | refine lv_astore_nN hx hb dC_about_5 rfl hl (by decide) rfl (fun ls hl => ?_)
    have hl : lv_has ls 4 [(3, _), (0, _), (1, _), (2, _)] := hl
    first | refine lv_aload_n hx hb dC_about_6 rfl (lv_at hl 0 rfl) ?_ | refine lv_aload_nN hx hb dC_about_6 rfl (lv_at hl 0 rfl) ?_
    first | refine lv_ifnonnullN hx hb dC_about_7 ?_ | refine lv_ifnonnull (tgt := 12) hx hb dC_about_7 (by decide) ?_
    refine lv_iload_n hx hb dC_about_12 rfl (lv_at hl 3 rfl) ?_
    rcases sw5 w with ⟨hw, rfl⟩ | ⟨hw, rfl⟩ | ⟨hw, rfl⟩ | ⟨hw, rfl⟩ | ⟨hw, rfl⟩ | ⟨hw, h0, h1, h2, h3, h4⟩
    · refine lv_tableIn (tgt := 48) hx hb dC_about_13 (by decide) (by decide) rfl (by decide) ?_
      first | refine lv_aload_n hx hb dC_about_48 rfl (lv_at hl 0 rfl) ?_ | refine lv_aload_nN hx hb dC_about_48 rfl (lv_at hl 0 rfl) ?_
      refine gC_R_state hC hH (by assumption) dC_about_49 ?_
      exact grSi hC hr hlk rfl (by simp only [zAbo, hkk]; rfl) dC_about_52
    · refine lv_tableIn (tgt := 53) hx hb dC_about_13 (by decide) (by decide) rfl (by decide) ?_
      first | refine lv_aload_n hx hb dC_about_53 rfl (lv_at hl 0 rfl) ?_ | refine lv_aload_nN hx hb dC_about_53 rfl (lv_at hl 0 rfl) ?_
      refine gC_R_worker hC hH (by assumption) dC_about_54 ?_
      rcases hq : rWk (gR x j) with _ | i
      · first | refine lv_ifnonnullN hx hb dC_about_57 ?_ | refine lv_ifnonnull (tgt := 64) hx hb dC_about_57 (by decide) ?_
        refine lv_iconst (v := -1) hx hb dC_about_60 (by decide) ?_
        refine lv_goto (tgt := 71) hx hb dC_about_61 (by decide) ?_
        exact grSi hC hr hlk rfl (by simp only [zAbo, hkk, hq]; rfl) dC_about_71
      · have hi := ((cG.ok hH).2.2 j hj).2 i hq
        first | refine lv_ifnonnullN hx hb dC_about_57 ?_ | refine lv_ifnonnull (tgt := 64) hx hb dC_about_57 (by decide) ?_
        first | refine lv_aload_n hx hb dC_about_64 rfl (lv_at hl 0 rfl) ?_ | refine lv_aload_nN hx hb dC_about_64 rfl (lv_at hl 0 rfl) ?_
        refine gC_R_worker hC hH (by assumption) dC_about_65 ?_
        rw [hq]
        refine gC_W_number hC hH (by assumption) dC_about_68 ?_
        exact grSi hC hr hlk rfl (by simp only [zAbo, hkk, hq]; rfl) dC_about_71
    · refine lv_tableIn (tgt := 72) hx hb dC_about_13 (by decide) (by decide) rfl (by decide) ?_
      first | refine lv_aload_n hx hb dC_about_72 rfl (lv_at hl 0 rfl) ?_ | refine lv_aload_nN hx hb dC_about_72 rfl (lv_at hl 0 rfl) ?_
      refine gC_R_begun hC hH (by assumption) dC_about_73 ?_
      exact grSi hC hr hlk rfl (by simp only [zAbo, hkk]; rfl) dC_about_76
    · refine lv_tableIn (tgt := 77) hx hb dC_about_13 (by decide) (by decide) rfl (by decide) ?_
      first | refine lv_aload_n hx hb dC_about_77 rfl (lv_at hl 0 rfl) ?_ | refine lv_aload_nN hx hb dC_about_77 rfl (lv_at hl 0 rfl) ?_
      refine gC_R_unwanted hC hH (by assumption) dC_about_78 ?_
      refine lv_if_eq  (tgt := 88) hx hb dC_about_81 (by decide) (fun h => ?_) (fun h => ?_)
      · refine lv_iconst (v := 0) hx hb dC_about_88 (by decide) ?_
        exact grSi hC hr hlk rfl (by simp only [zAbo, hkk]; exact h.symm) dC_about_89
      · refine lv_iconst (v := 1) hx hb dC_about_84 (by decide) ?_
        refine lv_goto (tgt := 89) hx hb dC_about_85 (by decide) ?_
        exact grSi hC hr hlk rfl (by simp only [zAbo, hkk]; exact (bI_1 h).symm) dC_about_89
    · refine lv_tableIn (tgt := 90) hx hb dC_about_13 (by decide) (by decide) rfl (by decide) ?_
      first | refine lv_aload_n hx hb dC_about_90 rfl (lv_at hl 0 rfl) ?_ | refine lv_aload_nN hx hb dC_about_90 rfl (lv_at hl 0 rfl) ?_
      refine gC_R_redone hC hH (by assumption) dC_about_91 ?_
      refine lv_if_eq  (tgt := 101) hx hb dC_about_94 (by decide) (fun h => ?_) (fun h => ?_)
      · refine lv_iconst (v := 0) hx hb dC_about_101 (by decide) ?_
        exact grSi hC hr hlk rfl (by simp only [zAbo, hkk]; exact h.symm) dC_about_102
      · refine lv_iconst (v := 1) hx hb dC_about_97 (by decide) ?_
        refine lv_goto (tgt := 102) hx hb dC_about_98 (by decide) ?_
        exact grSi hC hr hlk rfl (by simp only [zAbo, hkk]; exact (bI_1 h).symm) dC_about_102
    · refine lv_tableOut (tgt := 103) hx hb dC_about_13 hw (by decide) ?_
      refine lv_iconst (v := -1) hx hb dC_about_103 (by decide) ?_
      exact grSi hC hr hlk rfl (by simp only [zAbo, hkk]; rw [if_neg h0, if_neg h1, if_neg h2, if_neg h3, if_neg h4]) dC_about_104
  · have hkk : lk (nR x) v = none := lk_out hv
    first | refine lv_astore_n hx hb dC_about_5 rfl hl (by decide) rfl (fun ls hl => ?_) | refine lv_astore_nN hx hb dC_about_5 rfl hl (by decide) rfl (fun ls hl => ?_)
    have hl : lv_has ls 4 [(3, _), (0, _), (1, _), (2, _)] := hl
    first | refine lv_aload_n hx hb dC_about_6 rfl (lv_at hl 0 rfl) ?_ | refine lv_aload_nN hx hb dC_about_6 rfl (lv_at hl 0 rfl) ?_
    first | refine lv_ifnonnullN hx hb dC_about_7 ?_ | refine lv_ifnonnull (tgt := 12) hx hb dC_about_7 (by decide) ?_
    refine lv_iconst (v := -1) hx hb dC_about_10 (by decide) ?_
    exact grSi hC hr hlk rfl (by simp only [zAbo, hkk]) dC_about_11
set_option maxHeartbeats 600000 in
set_option maxRecDepth 100000 in
theorem c_result (hI : cJ k (d, x) LL f) (v : Int32) : Met l yC_result (wz yC_result bC_result 3 (some .long)) (rmL 1 0 0) (gP D (ck_tys k) LL f sz [.ref (kO k), .int v]) (vp_Sl (fun r => r = zRes x v)) 0 0 (fun _ => False) := by
  refine gMetR (own := RX3) (u := (d, x)) (by decide) rfl hI (Nat.le_of_ble_eq_true rfl) ?_
  intro p e s m below meth c ls hC hr hlk hH hl
  have hx := hC.1
  have hb := hC.2.1
  have hml := hC.2.2.2.2.2
  have hts := hC.2.2.1
  have hown := hC.2.2.2.1
  have hl : lv_has ls 3 [(0, _), (1, _)] := hl
  have hn6 := (cG.ok hH).1.2.2
  first | refine lv_aload_n hx hb dC_result_0 rfl (lv_at hl 0 rfl) ?_ | refine lv_aload_nN hx hb dC_result_0 rfl (lv_at hl 0 rfl) ?_
  refine lv_iload_n hx hb dC_result_1 rfl (lv_at hl 1 rfl) ?_
  refine gcVq hC hl.1 hH (fun LL f sz hI => c_requestAt hI v) cJ.o rfl rfl kC_81 ⟨Nat.le_of_ble_eq_true rfl, Nat.le_of_ble_eq_true rfl⟩ dC_result_2 ⟨Nat.le_of_ble_eq_true rfl, Nat.le_of_ble_eq_true rfl⟩ rfl (Nat.le_of_ble_eq_true rfl) (fun o ho => ?_)
  rcases ho with ⟨j, hj, hv, rfl⟩ | ⟨hv, rfl⟩
  · have hkk : lk (nR x) v = some j := by rw [hv]; exact lk_in hj (by omega)
    first | refine lv_astore_n hx hb dC_result_5 rfl hl (by decide) rfl (fun ls hl => ?_) | refine lv_astore_nN hx hb dC_result_5 rfl hl (by decide) rfl (fun ls hl => ?_)
    have hl : lv_has ls 3 [(2, _), (0, _), (1, _)] := hl
    first | refine lv_aload_n hx hb dC_result_6 rfl (lv_at hl 0 rfl) ?_ | refine lv_aload_nN hx hb dC_result_6 rfl (lv_at hl 0 rfl) ?_
    first | refine lv_ifnull hx hb dC_result_7 ?_ | refine lv_ifnullN (tgt := 18) hx hb dC_result_7 (by decide) ?_
    first | refine lv_aload_n hx hb dC_result_10 rfl (lv_at hl 0 rfl) ?_ | refine lv_aload_nN hx hb dC_result_10 rfl (lv_at hl 0 rfl) ?_
    refine gC_R_state hC hH (by assumption) dC_result_11 ?_
    refine lv_iconst (v := 2) hx hb dC_result_14 (by decide) ?_
    refine lv_icmp_eq  (tgt := 20) hx hb dC_result_15 (by decide) (fun h => ?_) (fun h => ?_)
    · first | refine lv_aload_n hx hb dC_result_20 rfl (lv_at hl 0 rfl) ?_ | refine lv_aload_nN hx hb dC_result_20 rfl (lv_at hl 0 rfl) ?_
      refine gC_R_result hC hH (by assumption) dC_result_21 ?_
      exact grSl hC hr hlk (by simp only [zRes, hkk]; rw [if_pos h]) dC_result_24
    · refine lv_lconst (v := 0) hx hb dC_result_18 (by decide) ?_
      exact grSl hC hr hlk (by simp only [zRes, hkk]; rw [if_neg h]) dC_result_19
  · have hkk : lk (nR x) v = none := lk_out hv
    first | refine lv_astore_n hx hb dC_result_5 rfl hl (by decide) rfl (fun ls hl => ?_) | refine lv_astore_nN hx hb dC_result_5 rfl hl (by decide) rfl (fun ls hl => ?_)
    have hl : lv_has ls 3 [(2, _), (0, _), (1, _)] := hl
    first | refine lv_aload_n hx hb dC_result_6 rfl (lv_at hl 0 rfl) ?_ | refine lv_aload_nN hx hb dC_result_6 rfl (lv_at hl 0 rfl) ?_
    first | refine lv_ifnull hx hb dC_result_7 ?_ | refine lv_ifnullN (tgt := 18) hx hb dC_result_7 (by decide) ?_
    refine lv_lconst (v := 0) hx hb dC_result_18 (by decide) ?_
    exact grSl hC hr hlk (by simp only [zRes, hkk]) dC_result_19
set_option maxHeartbeats 600000 in
set_option maxRecDepth 100000 in
theorem c_worker (hI : cJ k (d, x) LL f) (v w : Int32) : Met l yC_worker (wz yC_worker bC_worker 4 (some .int)) (rmL 2 0 0) (gP D (ck_tys k) LL f sz [.ref (kO k), .int v, .int w]) (vp_Si (fun r => r = zWor x v w)) 0 0 (fun _ => False) := by
  refine gMetR (own := RX3) (u := (d, x)) (by decide) rfl hI (Nat.le_of_ble_eq_true rfl) ?_
  intro p e s m below meth c ls hC hr hlk hH hl
  have hx := hC.1
  have hb := hC.2.1
  have hml := hC.2.2.2.2.2
  have hts := hC.2.2.1
  have hown := hC.2.2.2.1
  have hl : lv_has ls 4 [(0, _), (1, _), (2, _)] := hl
  have hn6 := (cG.ok hH).1.2.1
  first | refine lv_aload_n hx hb dC_worker_0 rfl (lv_at hl 0 rfl) ?_ | refine lv_aload_nN hx hb dC_worker_0 rfl (lv_at hl 0 rfl) ?_
  refine lv_iload_n hx hb dC_worker_1 rfl (lv_at hl 1 rfl) ?_
  refine gcVq hC hl.1 hH (fun LL f sz hI => c_workerAt hI v) cJ.o rfl rfl kC_100 ⟨Nat.le_of_ble_eq_true rfl, Nat.le_of_ble_eq_true rfl⟩ dC_worker_2 ⟨Nat.le_of_ble_eq_true rfl, Nat.le_of_ble_eq_true rfl⟩ rfl (Nat.le_of_ble_eq_true rfl) (fun o ho => ?_)
  rcases ho with ⟨i, hi, hv, rfl⟩ | ⟨hv, rfl⟩
  · have hkk : lk (nW x) v = some i := by rw [hv]; exact lk_in hi (by omega)
    have hti := ((cG.ok hH).2.1 i hi).1
    first | refine lv_astore_n hx hb dC_worker_5 rfl hl (by decide) rfl (fun ls hl => ?_) | refine lv_astore_nN hx hb dC_worker_5 rfl hl (by decide) rfl (fun ls hl => ?_)
    have hl : lv_has ls 4 [(3, _), (0, _), (1, _), (2, _)] := hl
    first | refine lv_aload_n hx hb dC_worker_6 rfl (lv_at hl 0 rfl) ?_ | refine lv_aload_nN hx hb dC_worker_6 rfl (lv_at hl 0 rfl) ?_
    first | refine lv_ifnonnullN hx hb dC_worker_7 ?_ | refine lv_ifnonnull (tgt := 12) hx hb dC_worker_7 (by decide) ?_
    refine lv_iload_n hx hb dC_worker_12 rfl (lv_at hl 3 rfl) ?_
    rcases sw7 w with ⟨hw, rfl⟩ | ⟨hw, rfl⟩ | ⟨hw, rfl⟩ | ⟨hw, rfl⟩ | ⟨hw, rfl⟩ | ⟨hw, rfl⟩ | ⟨hw, rfl⟩ | ⟨hw, h0, h1, h2, h3, h4, h5, h6⟩
    · refine lv_tableIn (tgt := 56) hx hb dC_worker_13 (by decide) (by decide) rfl (by decide) ?_
      first | refine lv_aload_n hx hb dC_worker_56 rfl (lv_at hl 0 rfl) ?_ | refine lv_aload_nN hx hb dC_worker_56 rfl (lv_at hl 0 rfl) ?_
      refine gC_W_tool hC hH (by assumption) dC_worker_57 ?_
      refine gC_T_number hC hH (by assumption) dC_worker_60 ?_
      exact grSi hC hr hlk rfl (by simp only [zWor, hkk]; rfl) dC_worker_63
    · refine lv_tableIn (tgt := 64) hx hb dC_worker_13 (by decide) (by decide) rfl (by decide) ?_
      first | refine lv_aload_n hx hb dC_worker_64 rfl (lv_at hl 0 rfl) ?_ | refine lv_aload_nN hx hb dC_worker_64 rfl (lv_at hl 0 rfl) ?_
      refine gcSi hC hl.1 hH (fun LL f sz hI => c_stateOf hI hi) kC_146 ⟨Nat.le_of_ble_eq_true rfl, Nat.le_of_ble_eq_true rfl⟩ dC_worker_65 ⟨Nat.le_of_ble_eq_true rfl, Nat.le_of_ble_eq_true rfl⟩ rfl (Nat.le_of_ble_eq_true rfl) (fun r hr1 => ?_)
      exact grSi hC hr hlk rfl (by simp only [zWor, hkk]; exact hr1) dC_worker_68
    · refine lv_tableIn (tgt := 69) hx hb dC_worker_13 (by decide) (by decide) rfl (by decide) ?_
      first | refine lv_aload_n hx hb dC_worker_69 rfl (lv_at hl 0 rfl) ?_ | refine lv_aload_nN hx hb dC_worker_69 rfl (lv_at hl 0 rfl) ?_
      refine gC_W_finished hC hH (by assumption) dC_worker_70 ?_
      exact grSi hC hr hlk rfl (by simp only [zWor, hkk]; rfl) dC_worker_73
    · refine lv_tableIn (tgt := 74) hx hb dC_worker_13 (by decide) (by decide) rfl (by decide) ?_
      first | refine lv_aload_n hx hb dC_worker_74 rfl (lv_at hl 0 rfl) ?_ | refine lv_aload_nN hx hb dC_worker_74 rfl (lv_at hl 0 rfl) ?_
      refine gC_W_memory hC hH (by assumption) dC_worker_75 ?_
      exact grSi hC hr hlk rfl (by simp only [zWor, hkk]; rfl) dC_worker_78
    · refine lv_tableIn (tgt := 79) hx hb dC_worker_13 (by decide) (by decide) rfl (by decide) ?_
      first | refine lv_aload_n hx hb dC_worker_79 rfl (lv_at hl 0 rfl) ?_ | refine lv_aload_nN hx hb dC_worker_79 rfl (lv_at hl 0 rfl) ?_
      refine gC_W_request hC hH (by assumption) dC_worker_80 ?_
      rcases hq : wRq (gW x i) with _ | j
      · first | refine lv_ifnonnullN hx hb dC_worker_83 ?_ | refine lv_ifnonnull (tgt := 90) hx hb dC_worker_83 (by decide) ?_
        refine lv_iconst (v := -1) hx hb dC_worker_86 (by decide) ?_
        refine lv_goto (tgt := 97) hx hb dC_worker_87 (by decide) ?_
        exact grSi hC hr hlk rfl (by simp only [zWor, hkk, hq]; rfl) dC_worker_97
      · have hj := ((cG.ok hH).2.1 i hi).2 j hq
        first | refine lv_ifnonnullN hx hb dC_worker_83 ?_ | refine lv_ifnonnull (tgt := 90) hx hb dC_worker_83 (by decide) ?_
        first | refine lv_aload_n hx hb dC_worker_90 rfl (lv_at hl 0 rfl) ?_ | refine lv_aload_nN hx hb dC_worker_90 rfl (lv_at hl 0 rfl) ?_
        refine gC_W_request hC hH (by assumption) dC_worker_91 ?_
        rw [hq]
        refine gC_R_number hC hH (by assumption) dC_worker_94 ?_
        exact grSi hC hr hlk rfl (by simp only [zWor, hkk, hq]; rfl) dC_worker_97
    · refine lv_tableIn (tgt := 98) hx hb dC_worker_13 (by decide) (by decide) rfl (by decide) ?_
      first | refine lv_aload_n hx hb dC_worker_98 rfl (lv_at hl 0 rfl) ?_ | refine lv_aload_nN hx hb dC_worker_98 rfl (lv_at hl 0 rfl) ?_
      refine gC_W_endedBy hC hH (by assumption) dC_worker_99 ?_
      exact grSi hC hr hlk rfl (by simp only [zWor, hkk]; rfl) dC_worker_102
    · refine lv_tableIn (tgt := 103) hx hb dC_worker_13 (by decide) (by decide) rfl (by decide) ?_
      first | refine lv_aload_n hx hb dC_worker_103 rfl (lv_at hl 0 rfl) ?_ | refine lv_aload_nN hx hb dC_worker_103 rfl (lv_at hl 0 rfl) ?_
      refine gC_W_trusted hC hH (by assumption) dC_worker_104 ?_
      exact grSi hC hr hlk rfl (by simp only [zWor, hkk]; rfl) dC_worker_107
    · refine lv_tableOut (tgt := 108) hx hb dC_worker_13 hw (by decide) ?_
      refine lv_iconst (v := -1) hx hb dC_worker_108 (by decide) ?_
      exact grSi hC hr hlk rfl (by simp only [zWor, hkk]; rw [if_neg h0, if_neg h1, if_neg h2, if_neg h3, if_neg h4, if_neg h5, if_neg h6]) dC_worker_109
  · have hkk : lk (nW x) v = none := lk_out hv
    first | refine lv_astore_n hx hb dC_worker_5 rfl hl (by decide) rfl (fun ls hl => ?_) | refine lv_astore_nN hx hb dC_worker_5 rfl hl (by decide) rfl (fun ls hl => ?_)
    have hl : lv_has ls 4 [(3, _), (0, _), (1, _), (2, _)] := hl
    first | refine lv_aload_n hx hb dC_worker_6 rfl (lv_at hl 0 rfl) ?_ | refine lv_aload_nN hx hb dC_worker_6 rfl (lv_at hl 0 rfl) ?_
    first | refine lv_ifnonnullN hx hb dC_worker_7 ?_ | refine lv_ifnonnull (tgt := 12) hx hb dC_worker_7 (by decide) ?_
    refine lv_iconst (v := -1) hx hb dC_worker_10 (by decide) ?_
    exact grSi hC hr hlk rfl (by simp only [zWor, hkk]) dC_worker_11
set_option maxHeartbeats 600000 in
set_option maxRecDepth 100000 in
theorem c_bars (hI : cJ k (d, x) LL f) (v : Int32) : Met l yC_bars (wz yC_bars bC_bars 3 (some .int)) (rmL 1 0 0) (gP D (ck_tys k) LL f sz [.ref (kO k), .int v]) (vp_Si (fun r => r = zBars x v)) 0 0 (fun _ => False) := by
  refine gMetR (own := RX3) (u := (d, x)) (by decide) rfl hI (Nat.le_of_ble_eq_true rfl) ?_
  intro p e s m below meth c ls hC hr hlk hH hl
  have hx := hC.1
  have hb := hC.2.1
  have hml := hC.2.2.2.2.2
  have hts := hC.2.2.1
  have hown := hC.2.2.2.1
  have hl : lv_has ls 3 [(0, _), (1, _)] := hl
  have hn6 := (cG.ok hH).1.1
  first | refine lv_aload_n hx hb dC_bars_0 rfl (lv_at hl 0 rfl) ?_ | refine lv_aload_nN hx hb dC_bars_0 rfl (lv_at hl 0 rfl) ?_
  refine lv_iload_n hx hb dC_bars_1 rfl (lv_at hl 1 rfl) ?_
  refine gcVq hC hl.1 hH (fun LL f sz hI => c_toolAt hI v) cJ.o rfl rfl kC_51 ⟨Nat.le_of_ble_eq_true rfl, Nat.le_of_ble_eq_true rfl⟩ dC_bars_2 ⟨Nat.le_of_ble_eq_true rfl, Nat.le_of_ble_eq_true rfl⟩ rfl (Nat.le_of_ble_eq_true rfl) (fun o ho => ?_)
  rcases ho with ⟨t, ht, hv, rfl⟩ | ⟨hv, rfl⟩
  · have hkk : lk (nT x) v = some t := by rw [hv]; exact lk_in ht (by omega)
    first | refine lv_astore_n hx hb dC_bars_5 rfl hl (by decide) rfl (fun ls hl => ?_) | refine lv_astore_nN hx hb dC_bars_5 rfl hl (by decide) rfl (fun ls hl => ?_)
    have hl : lv_has ls 3 [(2, _), (0, _), (1, _)] := hl
    first | refine lv_aload_n hx hb dC_bars_6 rfl (lv_at hl 0 rfl) ?_ | refine lv_aload_nN hx hb dC_bars_6 rfl (lv_at hl 0 rfl) ?_
    first | refine lv_ifnonnullN hx hb dC_bars_7 ?_ | refine lv_ifnonnull (tgt := 14) hx hb dC_bars_7 (by decide) ?_
    first | refine lv_aload_n hx hb dC_bars_14 rfl (lv_at hl 0 rfl) ?_ | refine lv_aload_nN hx hb dC_bars_14 rfl (lv_at hl 0 rfl) ?_
    refine gC_T_bars hC hH (by assumption) dC_bars_15 ?_
    exact grSi hC hr hlk rfl (by simp only [zBars, hkk]) dC_bars_18
  · have hkk : lk (nT x) v = none := lk_out hv
    first | refine lv_astore_n hx hb dC_bars_5 rfl hl (by decide) rfl (fun ls hl => ?_) | refine lv_astore_nN hx hb dC_bars_5 rfl hl (by decide) rfl (fun ls hl => ?_)
    have hl : lv_has ls 3 [(2, _), (0, _), (1, _)] := hl
    first | refine lv_aload_n hx hb dC_bars_6 rfl (lv_at hl 0 rfl) ?_ | refine lv_aload_nN hx hb dC_bars_6 rfl (lv_at hl 0 rfl) ?_
    first | refine lv_ifnonnullN hx hb dC_bars_7 ?_ | refine lv_ifnonnull (tgt := 14) hx hb dC_bars_7 (by decide) ?_
    refine lv_iconst (v := -1) hx hb dC_bars_10 (by decide) ?_
    refine lv_goto (tgt := 18) hx hb dC_bars_11 (by decide) ?_
    exact grSi hC hr hlk rfl (by simp only [zBars, hkk]) dC_bars_18
set_option maxHeartbeats 600000 in
set_option maxRecDepth 100000 in
theorem c_oneShot (hI : cJ k (d, x) LL f) (a b : Int64) : Met l yC_oneShot (wz yC_oneShot bC_oneShot 5 (some .long)) (rmL 1 0 0) (gP D (ck_tys k) LL f sz [.ref (kO k), .long a, .long b]) (vp_Sl (fun r => r = os a b)) 0 0 (fun _ => False) := by
  refine gMetR (own := RX3) (u := (d, x)) (by decide) rfl hI (Nat.le_of_ble_eq_true rfl) ?_
  intro p e s m below meth c ls hC hr hlk hH hl
  have hx := hC.1
  have hb := hC.2.1
  have hml := hC.2.2.2.2.2
  have hts := hC.2.2.1
  have hown := hC.2.2.2.1
  have hl : lv_has ls 5 [(0, _), (1, _), (3, _)] := hl
  refine lv_lload_n hx hb dC_oneShot_0 rfl (lv_at hl 1 rfl) ?_
  refine lv_lload_n hx hb dC_oneShot_1 rfl (lv_at hl 2 rfl) ?_
  refine gcTl hC.fix hl.1 (c_freshRun _ _) kC_141 ⟨Nat.le_of_ble_eq_true rfl, Nat.le_of_ble_eq_true rfl⟩ dC_oneShot_2 ⟨Nat.le_of_ble_eq_true rfl, Nat.le_of_ble_eq_true rfl⟩ rfl (Nat.le_of_ble_eq_true rfl) (fun r hr1 => ?_)
  exact grSl hC hr hlk hr1 dC_oneShot_5
end C8
