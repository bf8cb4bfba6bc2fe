/-! THE REFERENCE'S METHODS, by the class's state -/
def mR (k : mk_F) : cs_S → List Nat → (Nat → va_E) → Prop := fun x LL f => ∃ y, Rel x y ∧ mJ k y LL f
theorem mR.out {D : va_G} {k : mk_F} {x : cs_S} {A : Nat → Prop} {H0 H : Heap} {locs : List Loc} (hH : gH D (mR k) x A H0 H locs) : ∃ y, Rel x y ∧ mG D k y A H0 H locs := by
  obtain ⟨LL, f, ⟨y, h1, h2⟩, h3⟩ := hH
  exact ⟨y, h1, LL, f, h2, h3⟩
theorem mR.in {D : va_G} {k : mk_F} {x : cs_S} {y : ms_S} {A : Nat → Prop} {H0 H : Heap} {locs : List Loc} (hR : Rel x y) (hH : mG D k y A H0 H locs) : gH D (mR k) x A H0 H locs := by
  obtain ⟨LL, f, h2, h3⟩ := hH
  exact ⟨LL, f, ⟨y, hR, h2⟩, h3⟩
theorem Rel.upT {x : cs_S} {y y' : ms_S} {i : Nat} (h : Rel x y) (hi : i < nT x) (hs : y'.1 = y.1 ∧ y'.2.1 = y.2.1 ∧ y'.2.2.1 = y.2.2.1) (hf : ∀ a b, (10 ≤ a ∨ b ≠ i) → MI y' a b = MI y a b ∧ ML y' a b = ML y a b) {t : cs_T} (ht : RT t y' i) : Rel (sT x i t) y' := by
  obtain ⟨h1, h2, h3, h4, h5, h6, h7, h8, h9⟩ := id h
  have e1 : ∀ a b, 10 ≤ a → MI y' a b = MI y a b := fun a b ha => (hf a b (Or.inl ha)).1
  have e2 : ∀ a b, 10 ≤ a → ML y' a b = ML y a b := fun a b ha => (hf a b (Or.inl ha)).2
  refine ⟨⟨hs.1.trans h1.1, hs.2.1.trans h1.2.1, hs.2.2.trans h1.2.2⟩, h2, h3, fun a ha => ?_, fun a ha => ?_, fun a ha => ?_, h7, fun a q1 q2 => ?_, fun a q1 q2 => ?_⟩
  · by_cases e : a = i
    · subst e
      rw [gT_self]
      exact ht
    · rw [gT_ne _ _ e]
      have q := h4 a ha
      exact ⟨by rw [(hf 7 a (Or.inr e)).2]; exact q.1, by rw [(hf 8 a (Or.inr e)).1]; exact q.2.1, by rw [(hf 9 a (Or.inr e)).1]; exact q.2.2⟩
  · have q := h5 a ha
    unfold RW at q ⊢
    simpa only [e1 _ a (by decide : 10 ≤ 10), e1 _ a (by decide : 10 ≤ 11), e1 _ a (by decide : 10 ≤ 12), e1 _ a (by decide : 10 ≤ 13), e1 _ a (by decide : 10 ≤ 14), e1 _ a (by decide : 10 ≤ 15), e1 _ a (by decide : 10 ≤ 16), e1 _ a (by decide : 10 ≤ 17), e2 _ a (by decide : 10 ≤ 18)] using q
  · have q := h6 a ha
    unfold RR at q ⊢
    simpa only [e1 _ a (by decide : 10 ≤ 19), e1 _ a (by decide : 10 ≤ 20), e1 _ a (by decide : 10 ≤ 21), e1 _ a (by decide : 10 ≤ 22), e1 _ a (by decide : 10 ≤ 23), e1 _ a (by decide : 10 ≤ 24), e1 _ a (by decide : 10 ≤ 25), e1 _ a (by decide : 10 ≤ 26), e2 _ a (by decide : 10 ≤ 27), e2 _ a (by decide : 10 ≤ 28)] using q
  · simpa only [e1 _ a (by decide : 10 ≤ 11), e1 _ a (by decide : 10 ≤ 12), e1 _ a (by decide : 10 ≤ 13), e1 _ a (by decide : 10 ≤ 15), e1 _ a (by decide : 10 ≤ 16), e1 _ a (by decide : 10 ≤ 17)] using h8 a q1 q2
  · simpa only [e1 _ a (by decide : 10 ≤ 24), e1 _ a (by decide : 10 ≤ 25), e1 _ a (by decide : 10 ≤ 26), e2 _ a (by decide : 10 ≤ 28)] using h9 a q1 q2
theorem oI_neg (o : Option Nat) (h : ∀ i, o = some i → i < 100) : oI o = -1 ↔ o = none := by
  cases o with
  | none => exact ⟨fun _ => rfl, fun _ => rfl⟩
  | some i => exact ⟨fun q => absurd q (fun q => nI_pos (n := i) (by have := h i rfl; omega) (by rw [show nI i = -1 from q]; decide)), fun q => by cases q⟩
section M2
variable {l : Launch} {D : va_G} {k : mk_F} {x : cs_S} {LL : List Nat} {f : Nat → va_E} {sz : Nat}
set_option maxHeartbeats 600000 in
set_option maxRecDepth 100000 in
theorem m_bars (hI : mR k x LL f) (v : Int32) : Met l yM_bars (wz yM_bars bM_bars 2 (some .int)) (rmL 1 0 0) (gP D (mk_tys k) LL f sz [.ref (mO k), .int v]) (vp_Si (fun r => r = zBars x v)) 0 0 (fun _ => False) := by
  refine gMetR (own := RX4) (u := x) (by decide) rfl hI (Nat.le_of_ble_eq_true rfl) ?_
  intro p e s m below meth c ls hC hr hlk hH hl
  obtain ⟨y, hR, hH⟩ := mR.out hH
  obtain ⟨hnT, hnW, hnR⟩ := hR.n
  have hok := hR.2.1
  have hb6 := hok.1.1
  have hb60 := hok.1.2.1
  have hb100 := hok.1.2.2
  have hx := hC.1
  have hb := hC.2.1
  have hml := hC.2.2.2.2.2
  have hts := hC.2.2.1
  have hown := hC.2.2.2.1
  have hl : lv_has ls 2 [(0, _), (1, _)] := hl
  refine lv_iload_n hx hb dM_bars_0 rfl (lv_at hl 1 rfl) ?_
  first | refine lv_aload_n hx hb dM_bars_1 rfl (lv_at hl 0 rfl) ?_ | refine lv_aload_nN hx hb dM_bars_1 rfl (lv_at hl 0 rfl) ?_
  refine gM_tools hC hH dM_bars_2 ?_
  refine gcTi hC.fix hl.1 (m_in v (yT y) (by omega)) kM_96 ⟨Nat.le_of_ble_eq_true rfl, Nat.le_of_ble_eq_true rfl⟩ dM_bars_5 ⟨Nat.le_of_ble_eq_true rfl, Nat.le_of_ble_eq_true rfl⟩ rfl (Nat.le_of_ble_eq_true rfl) (fun r hr1 => ?_)
  rcases hr1 with ⟨t, ht, hv, rfl⟩ | ⟨hv, rfl⟩
  · have ht2 : t < nT x := by rw [← hnT]; exact ht
    have ht3 : t < 6 := by omega
    have hkk : lk (nT x) v = some t := by rw [hv]; exact lk_in ht2 (by omega)
    subst hv
    refine lv_if_eq  (tgt := 20) hx hb dM_bars_8 (by decide) (fun h => ?_) (fun h => ?_)
    · exact absurd h (by decide)
    · first | refine lv_aload_n hx hb dM_bars_11 rfl (lv_at hl 0 rfl) ?_ | refine lv_aload_nN hx hb dM_bars_11 rfl (lv_at hl 0 rfl) ?_
      refine gM_barsOf hC hH dM_bars_12 ?_
      refine lv_iload_n hx hb dM_bars_15 rfl (lv_at hl 1 rfl) ?_
      refine aM_i hC hH (by decide) (by assumption) dM_bars_16 ?_
      refine lv_goto (tgt := 21) hx hb dM_bars_17 (by decide) ?_
      exact grSi hC hr hlk rfl (by simp only [zBars, hkk]; exact (hR.2.2.2.1 t ht2).2.2) dM_bars_21
  · have hkk : lk (nT x) v = none := lk_out (fun i hi => hv i (by rw [hnT]; exact hi))
    refine lv_if_eq  (tgt := 20) hx hb dM_bars_8 (by decide) (fun h => ?_) (fun h => ?_)
    · refine lv_iconst (v := -1) hx hb dM_bars_20 (by decide) ?_
      exact grSi hC hr hlk rfl (by simp only [zBars, hkk]) dM_bars_21
    · exact absurd rfl h
set_option maxHeartbeats 600000 in
set_option maxRecDepth 100000 in
theorem m_result (hI : mR k x LL f) (v : Int32) : Met l yM_result (wz yM_result bM_result 2 (some .long)) (rmL 1 0 0) (gP D (mk_tys k) LL f sz [.ref (mO k), .int v]) (vp_Sl (fun r => r = zRes x v)) 0 0 (fun _ => False) := by
  refine gMetR (own := RX4) (u := x) (by decide) rfl hI (Nat.le_of_ble_eq_true rfl) ?_
  intro p e s m below meth c ls hC hr hlk hH hl
  obtain ⟨y, hR, hH⟩ := mR.out hH
  obtain ⟨hnT, hnW, hnR⟩ := hR.n
  have hok := hR.2.1
  have hb6 := hok.1.1
  have hb60 := hok.1.2.1
  have hb100 := hok.1.2.2
  have hx := hC.1
  have hb := hC.2.1
  have hml := hC.2.2.2.2.2
  have hts := hC.2.2.1
  have hown := hC.2.2.2.1
  have hl : lv_has ls 2 [(0, _), (1, _)] := hl
  refine lv_iload_n hx hb dM_result_0 rfl (lv_at hl 1 rfl) ?_
  first | refine lv_aload_n hx hb dM_result_1 rfl (lv_at hl 0 rfl) ?_ | refine lv_aload_nN hx hb dM_result_1 rfl (lv_at hl 0 rfl) ?_
  refine gM_requests hC hH dM_result_2 ?_
  refine gcTi hC.fix hl.1 (m_in v (yR y) (by omega)) kM_96 ⟨Nat.le_of_ble_eq_true rfl, Nat.le_of_ble_eq_true rfl⟩ dM_result_5 ⟨Nat.le_of_ble_eq_true rfl, Nat.le_of_ble_eq_true rfl⟩ rfl (Nat.le_of_ble_eq_true rfl) (fun r hr1 => ?_)
  rcases hr1 with ⟨j, hj, hv, rfl⟩ | ⟨hv, rfl⟩
  · have hj2 : j < nR x := by rw [← hnR]; exact hj
    have hj3 : j < 100 := by omega
    have hkk : lk (nR x) v = some j := by rw [hv]; exact lk_in hj2 (by omega)
    subst hv
    have q := hR.2.2.2.2.2.1 j hj2
    refine lv_if_eq  (tgt := 30) hx hb dM_result_8 (by decide) (fun h => ?_) (fun h => ?_)
    · exact absurd h (by decide)
    · first | refine lv_aload_n hx hb dM_result_11 rfl (lv_at hl 0 rfl) ?_ | refine lv_aload_nN hx hb dM_result_11 rfl (lv_at hl 0 rfl) ?_
      refine gM_kind hC hH dM_result_12 ?_
      refine lv_iload_n hx hb dM_result_15 rfl (lv_at hl 1 rfl) ?_
      refine aM_i hC hH (by decide) (by assumption) dM_result_16 ?_
      refine lv_iconst (v := 2) hx hb dM_result_17 (by decide) ?_
      refine lv_icmp_ne  (tgt := 30) hx hb dM_result_18 (by decide) (fun h2 => ?_) (fun h2 => ?_)
      · refine lv_lconst (v := 0) hx hb dM_result_30 (by decide) ?_
        exact grSl hC hr hlk (by simp only [zRes, hkk]; rw [if_neg (by rw [← q.2.2.1]; exact h2)]) dM_result_31
      · first | refine lv_aload_n hx hb dM_result_21 rfl (lv_at hl 0 rfl) ?_ | refine lv_aload_nN hx hb dM_result_21 rfl (lv_at hl 0 rfl) ?_
        refine gM_gave hC hH dM_result_22 ?_
        refine lv_iload_n hx hb dM_result_25 rfl (lv_at hl 1 rfl) ?_
        refine aM_l hC hH (by decide) (by assumption) dM_result_26 ?_
        refine lv_goto (tgt := 31) hx hb dM_result_27 (by decide) ?_
        exact grSl hC hr hlk (by simp only [zRes, hkk]; rw [if_pos (by rw [← q.2.2.1]; exact h2)]; exact q.2.2.2.2.2.2.2.2.2.1) dM_result_31
  · have hkk : lk (nR x) v = none := lk_out (fun i hi => hv i (by rw [hnR]; exact hi))
    refine lv_if_eq  (tgt := 30) hx hb dM_result_8 (by decide) (fun h => ?_) (fun h => ?_)
    · refine lv_lconst (v := 0) hx hb dM_result_30 (by decide) ?_
      exact grSl hC hr hlk (by simp only [zRes, hkk]) dM_result_31
    · exact absurd rfl h
set_option maxHeartbeats 600000 in
set_option maxRecDepth 100000 in
theorem m_about (hI : mR k x LL f) (v w : Int32) : Met l yM_about (wz yM_about bM_about 3 (some .int)) (rmL 1 0 0) (gP D (mk_tys k) LL f sz [.ref (mO k), .int v, .int w]) (vp_Si (fun r => r = zAbo x v w)) 0 0 (fun _ => False) := by
  refine gMetR (own := RX4) (u := x) (by decide) rfl hI (Nat.le_of_ble_eq_true rfl) ?_
  intro p e s m below meth c ls hC hr hlk hH hl
  obtain ⟨y, hR, hH⟩ := mR.out hH
  obtain ⟨hnT, hnW, hnR⟩ := hR.n
  have hok := hR.2.1
  have hb6 := hok.1.1
  have hb60 := hok.1.2.1
  have hb100 := hok.1.2.2
  have hx := hC.1
  have hb := hC.2.1
  have hml := hC.2.2.2.2.2
  have hts := hC.2.2.1
  have hown := hC.2.2.2.1
  have hl : lv_has ls 3 [(0, _), (1, _), (2, _)] := hl
  refine lv_iload_n hx hb dM_about_0 rfl (lv_at hl 1 rfl) ?_
  first | refine lv_aload_n hx hb dM_about_1 rfl (lv_at hl 0 rfl) ?_ | refine lv_aload_nN hx hb dM_about_1 rfl (lv_at hl 0 rfl) ?_
  refine gM_requests hC hH dM_about_2 ?_
  refine gcTi hC.fix hl.1 (m_in v (yR y) (by omega)) kM_96 ⟨Nat.le_of_ble_eq_true rfl, Nat.le_of_ble_eq_true rfl⟩ dM_about_5 ⟨Nat.le_of_ble_eq_true rfl, Nat.le_of_ble_eq_true rfl⟩ rfl (Nat.le_of_ble_eq_true rfl) (fun r hr1 => ?_)
  rcases hr1 with ⟨j, hj, hv, rfl⟩ | ⟨hv, rfl⟩
  · have hj2 : j < nR x := by rw [← hnR]; exact hj
    have hj3 : j < 100 := by omega
    have hkk : lk (nR x) v = some j := by rw [hv]; exact lk_in hj2 (by omega)
    subst hv
    have q := hR.2.2.2.2.2.1 j hj2
    refine lv_if_ne  (tgt := 13) hx hb dM_about_8 (by decide) (fun h => ?_) (fun h => ?_)
    · refine lv_iload_n hx hb dM_about_13 rfl (lv_at hl 2 rfl) ?_
      rcases sw5 w with ⟨hw, rfl⟩ | ⟨hw, rfl⟩ | ⟨hw, rfl⟩ | ⟨hw, rfl⟩ | ⟨hw, rfl⟩ | ⟨hw, h0, h1, h2, h3, h4⟩
      · refine lv_tableIn (tgt := 48) hx hb dM_about_14 (by decide) (by decide) rfl (by decide) ?_
        first | refine lv_aload_n hx hb dM_about_48 rfl (lv_at hl 0 rfl) ?_ | refine lv_aload_nN hx hb dM_about_48 rfl (lv_at hl 0 rfl) ?_
        refine gM_kind hC hH dM_about_49 ?_
        refine lv_iload_n hx hb dM_about_52 rfl (lv_at hl 1 rfl) ?_
        refine aM_i hC hH (by decide) (by assumption) dM_about_53 ?_
        exact grSi hC hr hlk rfl (by simp only [zAbo, hkk]; exact q.2.2.1) dM_about_54
      · refine lv_tableIn (tgt := 55) hx hb dM_about_14 (by decide) (by decide) rfl (by decide) ?_
        first | refine lv_aload_n hx hb dM_about_55 rfl (lv_at hl 0 rfl) ?_ | refine lv_aload_nN hx hb dM_about_55 rfl (lv_at hl 0 rfl) ?_
        refine gM_by hC hH dM_about_56 ?_
        refine lv_iload_n hx hb dM_about_59 rfl (lv_at hl 1 rfl) ?_
        refine aM_i hC hH (by decide) (by assumption) dM_about_60 ?_
        exact grSi hC hr hlk rfl (by simp only [zAbo, hkk]; refine q.2.2.2.1.trans ?_; rcases rWk (gR x j) with _ | i <;> rfl) dM_about_61
      · refine lv_tableIn (tgt := 62) hx hb dM_about_14 (by decide) (by decide) rfl (by decide) ?_
        first | refine lv_aload_n hx hb dM_about_62 rfl (lv_at hl 0 rfl) ?_ | refine lv_aload_nN hx hb dM_about_62 rfl (lv_at hl 0 rfl) ?_
        refine gM_begun hC hH dM_about_63 ?_
        refine lv_iload_n hx hb dM_about_66 rfl (lv_at hl 1 rfl) ?_
        refine aM_i hC hH (by decide) (by assumption) dM_about_67 ?_
        exact grSi hC hr hlk rfl (by simp only [zAbo, hkk]; exact q.2.2.2.2.2.1) dM_about_68
      · refine lv_tableIn (tgt := 69) hx hb dM_about_14 (by decide) (by decide) rfl (by decide) ?_
        first | refine lv_aload_n hx hb dM_about_69 rfl (lv_at hl 0 rfl) ?_ | refine lv_aload_nN hx hb dM_about_69 rfl (lv_at hl 0 rfl) ?_
        refine gM_isUnwanted hC hH dM_about_70 ?_
        refine lv_iload_n hx hb dM_about_73 rfl (lv_at hl 1 rfl) ?_
        refine aM_z hC hH (by decide) (by assumption) dM_about_74 ?_
        rw [q.2.2.2.2.2.2.1]
        refine lv_if_eq  (tgt := 82) hx hb dM_about_75 (by decide) (fun h9 => ?_) (fun h9 => ?_)
        · refine lv_iconst (v := 0) hx hb dM_about_82 (by decide) ?_
          exact grSi hC hr hlk rfl (by simp only [zAbo, hkk]; exact h9.symm) dM_about_83
        · refine lv_iconst (v := 1) hx hb dM_about_78 (by decide) ?_
          refine lv_goto (tgt := 83) hx hb dM_about_79 (by decide) ?_
          exact grSi hC hr hlk rfl (by simp only [zAbo, hkk]; exact (bI_1 h9).symm) dM_about_83
      · refine lv_tableIn (tgt := 84) hx hb dM_about_14 (by decide) (by decide) rfl (by decide) ?_
        first | refine lv_aload_n hx hb dM_about_84 rfl (lv_at hl 0 rfl) ?_ | refine lv_aload_nN hx hb dM_about_84 rfl (lv_at hl 0 rfl) ?_
        refine gM_isRedone hC hH dM_about_85 ?_
        refine lv_iload_n hx hb dM_about_88 rfl (lv_at hl 1 rfl) ?_
        refine aM_z hC hH (by decide) (by assumption) dM_about_89 ?_
        rw [q.2.2.2.2.2.2.2.1]
        refine lv_if_eq  (tgt := 97) hx hb dM_about_90 (by decide) (fun h9 => ?_) (fun h9 => ?_)
        · refine lv_iconst (v := 0) hx hb dM_about_97 (by decide) ?_
          exact grSi hC hr hlk rfl (by simp only [zAbo, hkk]; exact h9.symm) dM_about_98
        · refine lv_iconst (v := 1) hx hb dM_about_93 (by decide) ?_
          refine lv_goto (tgt := 98) hx hb dM_about_94 (by decide) ?_
          exact grSi hC hr hlk rfl (by simp only [zAbo, hkk]; exact (bI_1 h9).symm) dM_about_98
      · refine lv_tableOut (tgt := 99) hx hb dM_about_14 hw (by decide) ?_
        refine lv_iconst (v := -1) hx hb dM_about_99 (by decide) ?_
        exact grSi hC hr hlk rfl (by simp only [zAbo, hkk]; rw [if_neg h0, if_neg h1, if_neg h2, if_neg h3, if_neg h4]) dM_about_100
    · exact absurd h (by decide)
  · have hkk : lk (nR x) v = none := lk_out (fun i hi => hv i (by rw [hnR]; exact hi))
    refine lv_if_ne  (tgt := 13) hx hb dM_about_8 (by decide) (fun h => ?_) (fun h => ?_)
    · exact absurd rfl h
    · refine lv_iconst (v := -1) hx hb dM_about_11 (by decide) ?_
      exact grSi hC hr hlk rfl (by simp only [zAbo, hkk]) dM_about_12
set_option maxHeartbeats 600000 in
set_option maxRecDepth 100000 in
theorem m_worker (hI : mR k x LL f) (v w : Int32) : Met l yM_worker (wz yM_worker bM_worker 3 (some .int)) (rmL 1 0 0) (gP D (mk_tys k) LL f sz [.ref (mO k), .int v, .int w]) (vp_Si (fun r => r = zWor x v w)) 0 0 (fun _ => False) := by
  refine gMetR (own := RX4) (u := x) (by decide) rfl hI (Nat.le_of_ble_eq_true rfl) ?_
  intro p e s m below meth c ls hC hr hlk hH hl
  obtain ⟨y, hR, hH⟩ := mR.out hH
  obtain ⟨hnT, hnW, hnR⟩ := hR.n
  have hok := hR.2.1
  have hb6 := hok.1.1
  have hb60 := hok.1.2.1
  have hb100 := hok.1.2.2
  have hx := hC.1
  have hb := hC.2.1
  have hml := hC.2.2.2.2.2
  have hts := hC.2.2.1
  have hown := hC.2.2.2.1
  have hl : lv_has ls 3 [(0, _), (1, _), (2, _)] := hl
  refine lv_iload_n hx hb dM_worker_0 rfl (lv_at hl 1 rfl) ?_
  first | refine lv_aload_n hx hb dM_worker_1 rfl (lv_at hl 0 rfl) ?_ | refine lv_aload_nN hx hb dM_worker_1 rfl (lv_at hl 0 rfl) ?_
  refine gM_workers hC hH dM_worker_2 ?_
  refine gcTi hC.fix hl.1 (m_in v (yW y) (by omega)) kM_96 ⟨Nat.le_of_ble_eq_true rfl, Nat.le_of_ble_eq_true rfl⟩ dM_worker_5 ⟨Nat.le_of_ble_eq_true rfl, Nat.le_of_ble_eq_true rfl⟩ rfl (Nat.le_of_ble_eq_true rfl) (fun r hr1 => ?_)
  rcases hr1 with ⟨i, hi, hv, rfl⟩ | ⟨hv, rfl⟩
  · have hi2 : i < nW x := by rw [← hnW]; exact hi
    have hi3 : i < 60 := by omega
    have hkk : lk (nW x) v = some i := by rw [hv]; exact lk_in hi2 (by omega)
    subst hv
    obtain ⟨q1, q2, q3, q4, q5, q6, q7, q8, q9, q10⟩ := hR.2.2.2.2.1 i hi2
    refine lv_if_ne  (tgt := 13) hx hb dM_worker_8 (by decide) (fun h => ?_) (fun h => ?_)
    · refine lv_iload_n hx hb dM_worker_13 rfl (lv_at hl 2 rfl) ?_
      rcases sw7 w with ⟨hw, rfl⟩ | ⟨hw, rfl⟩ | ⟨hw, rfl⟩ | ⟨hw, rfl⟩ | ⟨hw, rfl⟩ | ⟨hw, rfl⟩ | ⟨hw, rfl⟩ | ⟨hw, h0, h1, h2, h3, h4, h5, h6⟩
      · refine lv_tableIn (tgt := 56) hx hb dM_worker_14 (by decide) (by decide) rfl (by decide) ?_
        first | refine lv_aload_n hx hb dM_worker_56 rfl (lv_at hl 0 rfl) ?_ | refine lv_aload_nN hx hb dM_worker_56 rfl (lv_at hl 0 rfl) ?_
        refine gM_toolOf hC hH dM_worker_57 ?_
        refine lv_iload_n hx hb dM_worker_60 rfl (lv_at hl 1 rfl) ?_
        refine aM_i hC hH (by decide) (by assumption) dM_worker_61 ?_
        exact grSi hC hr hlk rfl (by simp only [zWor, hkk]; exact q1) dM_worker_62
      · refine lv_tableIn (tgt := 63) hx hb dM_worker_14 (by decide) (by decide) rfl (by decide) ?_
        first | refine lv_aload_n hx hb dM_worker_63 rfl (lv_at hl 0 rfl) ?_ | refine lv_aload_nN hx hb dM_worker_63 rfl (lv_at hl 0 rfl) ?_
        refine gM_state hC hH dM_worker_64 ?_
        refine lv_iload_n hx hb dM_worker_67 rfl (lv_at hl 1 rfl) ?_
        refine aM_i hC hH (by decide) (by assumption) dM_worker_68 ?_
        exact grSi hC hr hlk rfl (by simp only [zWor, hkk]; exact q2) dM_worker_69
      · refine lv_tableIn (tgt := 70) hx hb dM_worker_14 (by decide) (by decide) rfl (by decide) ?_
        first | refine lv_aload_n hx hb dM_worker_70 rfl (lv_at hl 0 rfl) ?_ | refine lv_aload_nN hx hb dM_worker_70 rfl (lv_at hl 0 rfl) ?_
        refine gM_finished hC hH dM_worker_71 ?_
        refine lv_iload_n hx hb dM_worker_74 rfl (lv_at hl 1 rfl) ?_
        refine aM_i hC hH (by decide) (by assumption) dM_worker_75 ?_
        exact grSi hC hr hlk rfl (by simp only [zWor, hkk]; exact q3) dM_worker_76
      · refine lv_tableIn (tgt := 77) hx hb dM_worker_14 (by decide) (by decide) rfl (by decide) ?_
        first | refine lv_aload_n hx hb dM_worker_77 rfl (lv_at hl 0 rfl) ?_ | refine lv_aload_nN hx hb dM_worker_77 rfl (lv_at hl 0 rfl) ?_
        refine gM_memory hC hH dM_worker_78 ?_
        refine lv_iload_n hx hb dM_worker_81 rfl (lv_at hl 1 rfl) ?_
        refine aM_i hC hH (by decide) (by assumption) dM_worker_82 ?_
        exact grSi hC hr hlk rfl (by simp only [zWor, hkk]; exact q4) dM_worker_83
      · refine lv_tableIn (tgt := 84) hx hb dM_worker_14 (by decide) (by decide) rfl (by decide) ?_
        first | refine lv_aload_n hx hb dM_worker_84 rfl (lv_at hl 0 rfl) ?_ | refine lv_aload_nN hx hb dM_worker_84 rfl (lv_at hl 0 rfl) ?_
        refine gM_state hC hH dM_worker_85 ?_
        refine lv_iload_n hx hb dM_worker_88 rfl (lv_at hl 1 rfl) ?_
        refine aM_i hC hH (by decide) (by assumption) dM_worker_89 ?_
        refine lv_iconst (v := 1) hx hb dM_worker_90 (by decide) ?_
        rw [q2]
        refine lv_icmp_ne  (tgt := 103) hx hb dM_worker_91 (by decide) (fun h9 => ?_) (fun h9 => ?_)
        · refine lv_iconst (v := -1) hx hb dM_worker_103 (by decide) ?_
          have hn : wRq (gW x i) = none := Classical.byContradiction (fun z => h9 (zSt_1.mpr ⟨Classical.byContradiction (fun z2 => z (q10 z2)), z⟩))
          exact grSi hC hr hlk rfl (by simp only [zWor, hkk, hn]; rfl) dM_worker_104
        · first | refine lv_aload_n hx hb dM_worker_94 rfl (lv_at hl 0 rfl) ?_ | refine lv_aload_nN hx hb dM_worker_94 rfl (lv_at hl 0 rfl) ?_
          refine gM_busyWith hC hH dM_worker_95 ?_
          refine lv_iload_n hx hb dM_worker_98 rfl (lv_at hl 1 rfl) ?_
          refine aM_i hC hH (by decide) (by assumption) dM_worker_99 ?_
          refine lv_goto (tgt := 104) hx hb dM_worker_100 (by decide) ?_
          rcases hn : wRq (gW x i) with _ | j
          · exact absurd hn (zSt_1.mp h9).2
          · exact grSi hC hr hlk rfl (by simp only [zWor, hkk, hn]; exact q5 j hn) dM_worker_104
      · refine lv_tableIn (tgt := 105) hx hb dM_worker_14 (by decide) (by decide) rfl (by decide) ?_
        first | refine lv_aload_n hx hb dM_worker_105 rfl (lv_at hl 0 rfl) ?_ | refine lv_aload_nN hx hb dM_worker_105 rfl (lv_at hl 0 rfl) ?_
        refine gM_why hC hH dM_worker_106 ?_
        refine lv_iload_n hx hb dM_worker_109 rfl (lv_at hl 1 rfl) ?_
        refine aM_i hC hH (by decide) (by assumption) dM_worker_110 ?_
        exact grSi hC hr hlk rfl (by simp only [zWor, hkk]; exact q6) dM_worker_111
      · refine lv_tableIn (tgt := 112) hx hb dM_worker_14 (by decide) (by decide) rfl (by decide) ?_
        first | refine lv_aload_n hx hb dM_worker_112 rfl (lv_at hl 0 rfl) ?_ | refine lv_aload_nN hx hb dM_worker_112 rfl (lv_at hl 0 rfl) ?_
        refine gM_trusted hC hH dM_worker_113 ?_
        refine lv_iload_n hx hb dM_worker_116 rfl (lv_at hl 1 rfl) ?_
        refine aM_i hC hH (by decide) (by assumption) dM_worker_117 ?_
        exact grSi hC hr hlk rfl (by simp only [zWor, hkk]; exact q7) dM_worker_118
      · refine lv_tableOut (tgt := 119) hx hb dM_worker_14 hw (by decide) ?_
        refine lv_iconst (v := -1) hx hb dM_worker_119 (by decide) ?_
        exact grSi hC hr hlk rfl (by simp only [zWor, hkk]; rw [if_neg h0, if_neg h1, if_neg h2, if_neg h3, if_neg h4, if_neg h5, if_neg h6]) dM_worker_120
    · exact absurd h (by decide)
  · have hkk : lk (nW x) v = none := lk_out (fun i hi => hv i (by rw [hnW]; exact hi))
    refine lv_if_ne  (tgt := 13) hx hb dM_worker_8 (by decide) (fun h => ?_) (fun h => ?_)
    · exact absurd rfl h
    · refine lv_iconst (v := -1) hx hb dM_worker_11 (by decide) ?_
      exact grSi hC hr hlk rfl (by simp only [zWor, hkk]) dM_worker_12
set_option maxHeartbeats 600000 in
set_option maxRecDepth 100000 in
theorem m_quirk (hI : mR k x LL f) (v w : Int32) : Met l yM_quirk (wz yM_quirk bM_quirk 3 (some .boolean)) (rmL 1 0 0) (gP D (mk_tys k) LL f sz [.ref (mO k), .int v, .int w]) (va_Qi (fun (r : Int32) (u : cs_S) => (u, r) = zQui x v w) (gB D (mk_tys k) (mR k) (va_A (va_pl LL f) sz)) (va_A (va_pl LL f) sz)) 0 0 (va_A (va_pl LL f) sz) := by
  refine gMet (own := RX4) (u := x) (Qc := fun A => va_Qi (fun (r : Int32) (u : cs_S) => (u, r) = zQui x v w) (gB D (mk_tys k) (mR k) A) A) (by decide) rfl hI (Nat.le_of_ble_eq_true rfl) ?_
  intro p e s m below meth c ls A hC hr hlk hnm hA hH hl
  obtain ⟨y, hR, hH⟩ := mR.out hH
  obtain ⟨hnT, hnW, hnR⟩ := hR.n
  have hok := hR.2.1
  have hb6 := hok.1.1
  have hb60 := hok.1.2.1
  have hb100 := hok.1.2.2
  have hx := hC.1
  have hb := hC.2.1
  have hml := hC.2.2.2.2.2
  have hts := hC.2.2.1
  have hown := hC.2.2.2.1
  have hl : lv_has ls 3 [(0, _), (1, _), (2, _)] := hl
  refine lv_iload_n hx hb dM_quirk_0 rfl (lv_at hl 1 rfl) ?_
  first | refine lv_aload_n hx hb dM_quirk_1 rfl (lv_at hl 0 rfl) ?_ | refine lv_aload_nN hx hb dM_quirk_1 rfl (lv_at hl 0 rfl) ?_
  refine gM_tools hC hH dM_quirk_2 ?_
  refine gcTi hC.fix hl.1 (m_in v (yT y) (by omega)) kM_96 ⟨Nat.le_of_ble_eq_true rfl, Nat.le_of_ble_eq_true rfl⟩ dM_quirk_5 ⟨Nat.le_of_ble_eq_true rfl, Nat.le_of_ble_eq_true rfl⟩ rfl (Nat.le_of_ble_eq_true rfl) (fun r hr1 => ?_)
  rcases hr1 with ⟨t, ht, hv, rfl⟩ | ⟨hv, rfl⟩
  · have ht2 : t < nT x := by rw [← hnT]; exact ht
    have ht3 : t < 6 := by omega
    have hkk : lk (nT x) v = some t := by rw [hv]; exact lk_in ht2 (by omega)
    subst hv
    refine lv_if_ne  (tgt := 13) hx hb dM_quirk_8 (by decide) (fun h => ?_) (fun h => ?_)
    · first | refine lv_aload_n hx hb dM_quirk_13 rfl (lv_at hl 0 rfl) ?_ | refine lv_aload_nN hx hb dM_quirk_13 rfl (lv_at hl 0 rfl) ?_
      refine gM_quirkOf hC hH dM_quirk_14 ?_
      refine lv_iload_n hx hb dM_quirk_17 rfl (lv_at hl 1 rfl) ?_
      refine lv_iload_n hx hb dM_quirk_18 rfl (lv_at hl 2 rfl) ?_
      refine sM_i hC hH (by decide) (by assumption) dM_quirk_19 (fun H locs hH => ?_)
      refine lv_iconst (v := 1) hx hb dM_quirk_20 (by decide) ?_
      have q := hR.2.2.2.1 t ht2
      have hR2 : Rel (sT x t (tQu_ (gT x t) w)) (sMI y 8 t w) := hR.upT (y' := sMI y 8 t w) (t := tQu_ (gT x t) w) ht2 ⟨rfl, rfl, rfl⟩ (fun a b hab => ⟨by rw [MI_sMI, if_neg (by omega)], rfl⟩) ⟨q.1, by simp [MI_sMI], (show MI (sMI y 8 t w) 9 t = MI y 9 t from by simp [MI_sMI]).trans q.2.2⟩
      exact grWi hC hr hlk rfl (mR.in hR2 hH) (by simp only [zQui, hkk]) dM_quirk_21
    · exact absurd h (by decide)
  · have hkk : lk (nT x) v = none := lk_out (fun i hi => hv i (by rw [hnT]; exact hi))
    refine lv_if_ne  (tgt := 13) hx hb dM_quirk_8 (by decide) (fun h => ?_) (fun h => ?_)
    · exact absurd rfl h
    · refine lv_iconst (v := 0) hx hb dM_quirk_11 (by decide) ?_
      exact grWi hC hr hlk rfl (mR.in hR hH) (by simp only [zQui, hkk]) dM_quirk_12
set_option maxHeartbeats 600000 in
set_option maxRecDepth 100000 in
theorem m_cancel (hI : mR k x LL f) (v : Int32) : Met l yM_cancel (wz yM_cancel bM_cancel 2 (some .int)) (rmL 1 0 0) (gP D (mk_tys k) LL f sz [.ref (mO k), .int v]) (va_Qi (fun (r : Int32) (u : cs_S) => (u, r) = zCan x v) (gB D (mk_tys k) (mR k) (va_A (va_pl LL f) sz)) (va_A (va_pl LL f) sz)) 0 0 (va_A (va_pl LL f) sz) := by
  refine gMet (own := RX4) (u := x) (Qc := fun A => va_Qi (fun (r : Int32) (u : cs_S) => (u, r) = zCan x v) (gB D (mk_tys k) (mR k) A) A) (by decide) rfl hI (Nat.le_of_ble_eq_true rfl) ?_
  intro p e s m below meth c ls A hC hr hlk hnm hA hH hl
  obtain ⟨y, hR, hH⟩ := mR.out hH
  obtain ⟨hnT, hnW, hnR⟩ := hR.n
  have hok := hR.2.1
  have hb6 := hok.1.1
  have hb60 := hok.1.2.1
  have hb100 := hok.1.2.2
  have hx := hC.1
  have hb := hC.2.1
  have hml := hC.2.2.2.2.2
  have hts := hC.2.2.1
  have hown := hC.2.2.2.1
  have hl : lv_has ls 2 [(0, _), (1, _)] := hl
  refine lv_iload_n hx hb dM_cancel_0 rfl (lv_at hl 1 rfl) ?_
  first | refine lv_aload_n hx hb dM_cancel_1 rfl (lv_at hl 0 rfl) ?_ | refine lv_aload_nN hx hb dM_cancel_1 rfl (lv_at hl 0 rfl) ?_
  refine gM_requests hC hH dM_cancel_2 ?_
  refine gcTi hC.fix hl.1 (m_in v (yR y) (by omega)) kM_96 ⟨Nat.le_of_ble_eq_true rfl, Nat.le_of_ble_eq_true rfl⟩ dM_cancel_5 ⟨Nat.le_of_ble_eq_true rfl, Nat.le_of_ble_eq_true rfl⟩ rfl (Nat.le_of_ble_eq_true rfl) (fun r hr1 => ?_)
  rcases hr1 with ⟨j, hj, hv, rfl⟩ | ⟨hv, rfl⟩
  · have hj2 : j < nR x := by rw [← hnR]; exact hj
    have hj3 : j < 100 := by omega
    have hkk : lk (nR x) v = some j := by rw [hv]; exact lk_in hj2 (by omega)
    subst hv
    have q := hR.2.2.2.2.2.1 j hj2
    have okj := hok.2.2 j hj2
    refine lv_if_ne  (tgt := 13) hx hb dM_cancel_8 (by decide) (fun h => ?_) (fun h => ?_)
    · first | refine lv_aload_n hx hb dM_cancel_13 rfl (lv_at hl 0 rfl) ?_ | refine lv_aload_nN hx hb dM_cancel_13 rfl (lv_at hl 0 rfl) ?_
      refine gM_kind hC hH dM_cancel_14 ?_
      refine lv_iload_n hx hb dM_cancel_17 rfl (lv_at hl 1 rfl) ?_
      refine aM_i hC hH (by decide) (by assumption) dM_cancel_18 ?_
      rw [q.2.2.1]
      refine lv_if_ne  (tgt := 31) hx hb dM_cancel_19 (by decide) (fun h2 => ?_) (fun h2 => ?_)
      · first | refine lv_aload_n hx hb dM_cancel_31 rfl (lv_at hl 0 rfl) ?_ | refine lv_aload_nN hx hb dM_cancel_31 rfl (lv_at hl 0 rfl) ?_
        refine gM_kind hC hH dM_cancel_32 ?_
        refine lv_iload_n hx hb dM_cancel_35 rfl (lv_at hl 1 rfl) ?_
        refine aM_i hC hH (by decide) (by assumption) dM_cancel_36 ?_
        refine lv_iconst (v := 1) hx hb dM_cancel_37 (by decide) ?_
        rw [q.2.2.1]
        refine lv_icmp_eq  (tgt := 43) hx hb dM_cancel_38 (by decide) (fun h3 => ?_) (fun h3 => ?_)
        · first | refine lv_aload_n hx hb dM_cancel_43 rfl (lv_at hl 0 rfl) ?_ | refine lv_aload_nN hx hb dM_cancel_43 rfl (lv_at hl 0 rfl) ?_
          refine gM_isUnwanted hC hH dM_cancel_44 ?_
          refine lv_iload_n hx hb dM_cancel_47 rfl (lv_at hl 1 rfl) ?_
          refine lv_iconst (v := 1) hx hb dM_cancel_48 (by decide) ?_
          refine sM_z hC hH rfl (by decide) (by assumption) dM_cancel_49 (fun H locs hH => ?_)
          refine lv_iconst (v := 2) hx hb dM_cancel_50 (by decide) ?_
          obtain ⟨q1, q2, q3, q4, q5, q6, q7, q8, q9, q10, q11⟩ := q
          have hR2 : Rel (sR x j (rUn_ (gR x j) true)) (sMI y 25 j 1) := hR.upR hj2 (fr.rf.iR 25 1 (by decide)) ⟨(show MI (sMI y 25 j 1) 19 j = MI y 19 j from by simp [MI_sMI, ML_sML, MI_sML, ML_sMI]).trans q1, (show MI (sMI y 25 j 1) 20 j = MI y 20 j from by simp [MI_sMI, ML_sML, MI_sML, ML_sMI]).trans q2, (show MI (sMI y 25 j 1) 21 j = MI y 21 j from by simp [MI_sMI, ML_sML, MI_sML, ML_sMI]).trans q3, (show MI (sMI y 25 j 1) 22 j = MI y 22 j from by simp [MI_sMI, ML_sML, MI_sML, ML_sMI]).trans q4, fun z1 z2 => (show MI (sMI y 25 j 1) 23 j = MI y 23 j from by simp [MI_sMI, ML_sML, MI_sML, ML_sMI]).trans (q5 z1 z2), (show MI (sMI y 25 j 1) 24 j = MI y 24 j from by simp [MI_sMI, ML_sML, MI_sML, ML_sMI]).trans q6, by simp [MI_sMI, bI], (show MI (sMI y 25 j 1) 26 j = MI y 26 j from by simp [MI_sMI, ML_sML, MI_sML, ML_sMI]).trans q8, (show ML (sMI y 25 j 1) 27 j = ML y 27 j from by simp [MI_sMI, ML_sML, MI_sML, ML_sMI]).trans q9, (show ML (sMI y 25 j 1) 28 j = ML y 28 j from by simp [MI_sMI, ML_sML, MI_sML, ML_sMI]).trans q10, fun z => absurd z h2⟩ okj (Or.inl ⟨rfl, rfl⟩)
          exact grWi hC hr hlk rfl (mR.in hR2 hH) (by simp only [zCan, hkk]; rw [if_neg h2, if_pos h3]) dM_cancel_51
        · refine lv_iconst (v := 0) hx hb dM_cancel_41 (by decide) ?_
          exact grWi hC hr hlk rfl (mR.in hR hH) (by simp only [zCan, hkk]; rw [if_neg h2, if_neg h3]) dM_cancel_42
      · first | refine lv_aload_n hx hb dM_cancel_22 rfl (lv_at hl 0 rfl) ?_ | refine lv_aload_nN hx hb dM_cancel_22 rfl (lv_at hl 0 rfl) ?_
        refine gM_kind hC hH dM_cancel_23 ?_
        refine lv_iload_n hx hb dM_cancel_26 rfl (lv_at hl 1 rfl) ?_
        refine lv_iconst (v := 3) hx hb dM_cancel_27 (by decide) ?_
        refine sM_i hC hH (by decide) (by assumption) dM_cancel_28 (fun H locs hH => ?_)
        refine lv_iconst (v := 1) hx hb dM_cancel_29 (by decide) ?_
        obtain ⟨q1, q2, q3, q4, q5, q6, q7, q8, q9, q10, q11⟩ := q
        have q12 := q11 h2
        have hR2 : Rel (sR x j (qCan (gR x j))) (sMI y 21 j 3) := hR.upR hj2 (fr.rf.iR 21 3 (by decide)) ⟨(show MI (sMI y 21 j 3) 19 j = MI y 19 j from by simp [MI_sMI, ML_sML, MI_sML, ML_sMI]).trans q1, (show MI (sMI y 21 j 3) 20 j = MI y 20 j from by simp [MI_sMI, ML_sML, MI_sML, ML_sMI]).trans q2, by simp [MI_sMI]; rfl, (show MI (sMI y 21 j 3) 22 j = MI y 22 j from by simp [MI_sMI]).trans (q4.trans (by rw [q12.1]; rfl)), fun z => absurd (show (3 : Int32) = 2 from z) (by decide), (show MI (sMI y 21 j 3) 24 j = MI y 24 j from by simp [MI_sMI, ML_sML, MI_sML, ML_sMI]).trans q6, (show MI (sMI y 21 j 3) 25 j = MI y 25 j from by simp [MI_sMI]).trans (q7.trans (by rw [q12.2]; rfl)), (show MI (sMI y 21 j 3) 26 j = MI y 26 j from by simp [MI_sMI, ML_sML, MI_sML, ML_sMI]).trans q8, (show ML (sMI y 21 j 3) 27 j = ML y 27 j from by simp [MI_sMI, ML_sML, MI_sML, ML_sMI]).trans q9, (show ML (sMI y 21 j 3) 28 j = ML y 28 j from by simp [MI_sMI, ML_sML, MI_sML, ML_sMI]).trans q10, fun z => absurd (show (3 : Int32) = 0 from z) (by decide)⟩ ⟨okj.1, fun a z => by cases z⟩ (Or.inr (hR.noW (by rw [h2]; decide)))
        exact grWi hC hr hlk rfl (mR.in hR2 hH) (by simp only [zCan, hkk]; rw [if_pos h2]) dM_cancel_30
    · exact absurd h (by decide)
  · have hkk : lk (nR x) v = none := lk_out (fun i hi => hv i (by rw [hnR]; exact hi))
    refine lv_if_ne  (tgt := 13) hx hb dM_cancel_8 (by decide) (fun h => ?_) (fun h => ?_)
    · exact absurd rfl h
    · refine lv_iconst (v := -1) hx hb dM_cancel_11 (by decide) ?_
      exact grWi hC hr hlk rfl (mR.in hR hH) (by simp only [zCan, hkk]) dM_cancel_12
end M2
