section M7
theorem oI_some {o : Option Nat} {i : Nat} (hi : i < 100) (h : ∀ b, o = some b → b < 100) : oI o = nI i ↔ o = some i := by
  cases o with
  | none => exact ⟨fun q => absurd q (fun q => nI_pos (n := i) (by omega) (by rw [← show (-1 : Int32) = nI i from q]; decide)), fun q => by cases q⟩
  | some b =>
    have := h b rfl
    exact ⟨fun q => by rw [(nI_eq (by omega) (by omega)).mp (show nI b = nI i from q)], fun q => by cases q; rfl⟩
theorem zRdF_100 (x : cs_S) (j i : Nat) : ∀ m, zRdF x j i (nR x + m) = zRdF x j i (nR x)
  | 0 => rfl
  | m + 1 => by
    rw [← zRdF_100 x j i m]
    exact if_neg (fun q => absurd q.1 (by rw [(zRdF_n x j i _).2.2]; exact Nat.not_lt.mpr (Nat.le_add_right _ _)))
theorem Rel.redo {x : cs_S} {y : ms_S} {a : Nat} (h : Rel x y) (ha : a < nR x) (hs : rSt (gR x a) = 2) (ov : Int64) : Rel (sR x a (rRe_ (rWk_ (rRs_ (gR x a) ov) none) true)) (sMI (sMI (sML y 28 a ov) 22 a (-1)) 26 a 1) := by
  obtain ⟨q1, q2, q3, q4, q5, q6, q7, q8, q9, q10, q11⟩ := h.2.2.2.2.2.1 a ha
  exact h.upR ha (((fr.rf.lR 28 ov (by decide)).iR 22 _ (by decide)).iR 26 _ (by decide)) ⟨(show MI (sMI (sMI (sML y 28 a ov) 22 a (-1)) 26 a 1) 19 a = MI y 19 a from by simp [MI_sMI, ML_sML, MI_sML, ML_sMI]).trans q1, (show MI (sMI (sMI (sML y 28 a ov) 22 a (-1)) 26 a 1) 20 a = MI y 20 a from by simp [MI_sMI, ML_sML, MI_sML, ML_sMI]).trans q2, (show MI (sMI (sMI (sML y 28 a ov) 22 a (-1)) 26 a 1) 21 a = MI y 21 a from by simp [MI_sMI, ML_sML, MI_sML, ML_sMI]).trans q3, by simp [MI_sMI]; rfl, fun _ z => absurd rfl z, (show MI (sMI (sMI (sML y 28 a ov) 22 a (-1)) 26 a 1) 24 a = MI y 24 a from by simp [MI_sMI, ML_sML, MI_sML, ML_sMI]).trans q6, (show MI (sMI (sMI (sML y 28 a ov) 22 a (-1)) 26 a 1) 25 a = MI y 25 a from by simp [MI_sMI, ML_sML, MI_sML, ML_sMI]).trans q7, by simp [MI_sMI]; rfl, (show ML (sMI (sMI (sML y 28 a ov) 22 a (-1)) 26 a 1) 27 a = ML y 27 a from by simp [MI_sMI, ML_sML, MI_sML, ML_sMI]).trans q9, by simp [ML_sMI, ML_sML], fun z => absurd (hs.symm.trans z) (by decide)⟩ ⟨(h.2.1.2.2 a ha).1, fun b z => by cases z⟩ (Or.inr (h.noW (by rw [hs]; decide)))
theorem Rel.bar1 {x : cs_S} {y : ms_S} {i : Nat} (h : Rel x y) (hi : i < nW x) : Rel (zBar x i) (sMI y 9 (wTo (gW x i)) (tBa (gT x (wTo (gW x i))) + 1)) := by
  have ht := (h.2.1.2.1 i hi).1
  have q := h.2.2.2.1 _ ht
  exact h.upT (y' := sMI y 9 (wTo (gW x i)) (tBa (gT x (wTo (gW x i))) + 1)) ht ⟨rfl, rfl, rfl⟩ (fun a b hab => ⟨by rw [MI_sMI, if_neg (by omega)], rfl⟩) ⟨q.1, (show MI (sMI y 9 (wTo (gW x i)) (tBa (gT x (wTo (gW x i))) + 1)) 8 (wTo (gW x i)) = MI y 8 (wTo (gW x i)) from by simp [MI_sMI]).trans q.2.1, by simp [MI_sMI]⟩
theorem Rel.tru {x : cs_S} {y : ms_S} {i : Nat} (h : Rel x y) (hi : i < nW x) (v : Int32) : Rel (sW x i (wTr_ (gW x i) v)) (sMI y 16 i v) := by
  obtain ⟨q1, q2, q3, q4, q5, q6, q7, q8, q9, q10⟩ := h.2.2.2.2.1 i hi
  exact h.upW hi (fr.rf.iW 16 v (by decide)) ⟨(show MI (sMI y 16 i v) 10 i = MI y 10 i from by simp [MI_sMI, ML_sML, MI_sML, ML_sMI]).trans q1, (show MI (sMI y 16 i v) 11 i = MI y 11 i from by simp [MI_sMI, ML_sML, MI_sML, ML_sMI]).trans q2, (show MI (sMI y 16 i v) 12 i = MI y 12 i from by simp [MI_sMI, ML_sML, MI_sML, ML_sMI]).trans q3, (show MI (sMI y 16 i v) 13 i = MI y 13 i from by simp [MI_sMI, ML_sML, MI_sML, ML_sMI]).trans q4, fun a z => (show MI (sMI y 16 i v) 14 i = MI y 14 i from by simp [MI_sMI, ML_sML, MI_sML, ML_sMI]).trans (q5 a z), (show MI (sMI y 16 i v) 15 i = MI y 15 i from by simp [MI_sMI, ML_sML, MI_sML, ML_sMI]).trans q6, by simp [MI_sMI], fun z => (show MI (sMI y 16 i v) 17 i = MI y 17 i from by simp [MI_sMI, ML_sML, MI_sML, ML_sMI]).trans (q8 z), (show ML (sMI y 16 i v) 18 i = ML y 18 i from by simp [MI_sMI, ML_sML, MI_sML, ML_sMI]).trans q9, q10⟩ (h.2.1.2.1 i hi).1 (fun a z => z)
variable {l : Launch} {D : va_G} {k : mk_F} {x : cs_S} {LL : List Nat} {f : Nat → va_E} {sz : Nat}
set_option maxHeartbeats 600000 in
set_option maxRecDepth 100000 in
theorem sam_tail {p : Program} {e : Env} {R : Room} {s : State} {m : MethodId} {args : Array Value} {below : List Frame} {meth : Method} {c : Code} {H : Heap} {locs : List Loc} {Q : State → Prop} {ls : Array Slot} {A : Nat → Prop} {i : Nat} {w : Int32} (hC : mX D k p s m args c bM_sample 6) (hRR : 3 ≤ R.frames ∧ 102 ≤ R.locals) (hA : ∀ q : Nat, s.heap.size ≤ q → A q) (hi : i < nW x) (hG : gH D (mR k) x A s.heap H locs) (hl : lv_has ls 6 [(0, .ref (mO k)), (2, .int (nI i)), (3, .int w)]) (kk : ∀ (ls : Array Slot) (H1 : Heap) (locs1 : List Loc) (x' : cs_S), x' = zBar (if wEn (gW x i) = 0 then zEndRe x i 5 else x) i → gH D (mR k) x' A s.heap H1 locs1 → W p l e R s m args below meth c H1 locs1 0 0 Q (F0 m 261 ls [.int w])) : W p l e R s m args below meth c H locs 0 0 Q (F0 m 199 ls []) := by
  have bars : ∀ (x' : cs_S) (ls : Array Slot) (H : Heap) (locs : List Loc), i < nW x' → x' = (if wEn (gW x i) = 0 then zEndRe x i 5 else x) → gH D (mR k) x' A s.heap H locs → lv_has ls 6 [(0, .ref (mO k)), (2, .int (nI i)), (3, .int w)] → W p l e R s m args below meth c H locs 0 0 Q (F0 m 245 ls []) := by
    intro x' ls H locs hi2 hx' hG hl
    obtain ⟨y, hR, hH⟩ := mR.out hG
    have hi60 : i < 60 := Nat.lt_of_lt_of_le hi2 hR.2.1.1.2.1
    have ht := (hR.2.1.2.1 i hi2).1
    have ht6 : wTo (gW x' i) < 6 := Nat.lt_of_lt_of_le ht hR.2.1.1.1
    have hR2 := hR.bar1 hi2
    have hx := hC.1
    have hb := hC.2.1
    have hml := hC.2.2.2.2.2
    have hts := hC.2.2.1
    have hown := hC.2.2.2.1
    have hl : lv_has ls 6 [(0, _), (2, _), (3, _)] := hl
    first | refine lv_aload_n hx hb dM_sample_245 rfl (lv_at hl 0 rfl) ?_ | refine lv_aload_nN hx hb dM_sample_245 rfl (lv_at hl 0 rfl) ?_
    refine gM_barsOf hC hH dM_sample_246 ?_
    first | refine lv_aload_n hx hb dM_sample_249 rfl (lv_at hl 0 rfl) ?_ | refine lv_aload_nN hx hb dM_sample_249 rfl (lv_at hl 0 rfl) ?_
    refine gM_toolOf hC hH dM_sample_250 ?_
    refine lv_iload_n hx hb dM_sample_253 rfl (lv_at hl 1 rfl) ?_
    refine aM_i hC hH (by decide) (by assumption) dM_sample_254 ?_
    rw [(hR.2.2.2.2.1 i hi2).1]
    refine lv_dup2_11 hx hb dM_sample_255 rfl rfl ?_
    refine aM_i hC hH (by decide) (by assumption) dM_sample_256 ?_
    rw [(hR.2.2.2.1 _ ht).2.2]
    refine lv_iconst (v := 1) hx hb dM_sample_257 (by decide) ?_
    refine lv_iadd hx hb dM_sample_258 ?_
    refine sM_i hC hH (by decide) (by assumption) dM_sample_259 (fun H locs hH => ?_)
    refine lv_iload_n hx hb dM_sample_260 rfl (lv_at hl 2 rfl) ?_
    exact kk ls H locs _ (by rw [hx']) (mR.in hR2 hH)
  obtain ⟨y, hR, hH⟩ := mR.out hG
  have hok := hR.2.1
  have hi60 : i < 60 := Nat.lt_of_lt_of_le hi hok.1.2.1
  have q0 := hR.2.2.2.2.1 i hi
  have hx := hC.1
  have hb := hC.2.1
  have hml := hC.2.2.2.2.2
  have hts := hC.2.2.1
  have hown := hC.2.2.2.1
  have hl : lv_has ls 6 [(0, _), (2, _), (3, _)] := hl
  first | refine lv_aload_n hx hb dM_sample_199 rfl (lv_at hl 0 rfl) ?_ | refine lv_aload_nN hx hb dM_sample_199 rfl (lv_at hl 0 rfl) ?_
  refine gM_state hC hH dM_sample_200 ?_
  refine lv_iload_n hx hb dM_sample_203 rfl (lv_at hl 1 rfl) ?_
  refine aM_i hC hH (by decide) (by assumption) dM_sample_204 ?_
  refine lv_iconst (v := 2) hx hb dM_sample_205 (by decide) ?_
  rw [q0.2.1]
  refine lv_icmp_eq  (tgt := 245) hx hb dM_sample_206 (by decide) (fun h2 => ?_) (fun h2 => ?_)
  · exact bars x ls H locs hi (if_neg (zSt_2.mp h2)).symm hG (lv_sub hl [0, 1, 2] rfl)
  · have h0 : wEn (gW x i) = 0 := Classical.byContradiction (fun z => h2 (zSt_2.mpr z))
    have hi5 : i < nW (zEndRe x i 5) := by rw [(nW_zEndRe _ _ _).1]; exact hi
    first | refine lv_aload_n hx hb dM_sample_209 rfl (lv_at hl 0 rfl) ?_ | refine lv_aload_nN hx hb dM_sample_209 rfl (lv_at hl 0 rfl) ?_
    refine gM_state hC hH dM_sample_210 ?_
    refine lv_iload_n hx hb dM_sample_213 rfl (lv_at hl 1 rfl) ?_
    refine aM_i hC hH (by decide) (by assumption) dM_sample_214 ?_
    refine lv_iconst (v := 1) hx hb dM_sample_215 (by decide) ?_
    rw [q0.2.1]
    refine lv_icmp_ne  (tgt := 223) hx hb dM_sample_216 (by decide) (fun h3 => ?_) (fun h3 => ?_)
    · have hq : wRq (gW x i) = none := Classical.byContradiction (fun z => h3 (zSt_1.mpr ⟨h0, z⟩))
      have hR3 := (hR.endRe0 hi (r := 5) (by decide) hq).2
      refine lv_iconst (v := 0) hx hb dM_sample_223 (by decide) ?_
      refine lv_istore hx hb dM_sample_224 hl (by decide) rfl (fun ls hl => ?_)
      have hl : lv_has ls 6 [(4, _), (0, _), (2, _), (3, _)] := hl
      first | refine lv_aload_n hx hb dM_sample_226 rfl (lv_at hl 1 rfl) ?_ | refine lv_aload_nN hx hb dM_sample_226 rfl (lv_at hl 1 rfl) ?_
      refine lv_iload_n hx hb dM_sample_227 rfl (lv_at hl 2 rfl) ?_
      refine lv_iconst (v := 5) hx hb dM_sample_228 (by decide) ?_
      refine gcWVi hC hl.1 hA hH (fun LL f sz hI => m_ends hI hi60 5) mJ.o rfl rfl kM_137 ⟨by omega, by omega⟩ dM_sample_229 ⟨Nat.zero_le _, Nat.zero_le _⟩ rfl (Nat.le_of_ble_eq_true rfl) (fun r u H locs hp hH => ?_)
      obtain ⟨hp1, hp2⟩ := hp
      subst hp1
      refine lv_istore hx hb dM_sample_232 hl (by decide) rfl (fun ls hl => ?_)
      have hl : lv_has ls 6 [(5, _), (4, _), (0, _), (2, _), (3, _)] := hl
      refine lv_iload hx hb dM_sample_234 (lv_at hl 1 rfl) ?_
      refine lv_if_eq  (tgt := 245) hx hb dM_sample_236 (by decide) (fun h4 => ?_) (fun h4 => ?_)
      · exact bars _ ls H locs hi5 (if_pos h0).symm (mR.in hR3 hH) (lv_sub hl [2, 3, 4] rfl)
      · exact absurd rfl h4
    · rcases hq : wRq (gW x i) with _ | j
      · exact absurd hq (zSt_1.mp h3).2
      · have hj := (hok.2.1 i hi).2 j hq
        have hj3 : j < 100 := Nat.lt_of_lt_of_le hj hok.1.2.2
        have hR3 := hR.endRe1 hi (r := 5) (by decide) hq
        refine lv_iconst (v := 1) hx hb dM_sample_219 (by decide) ?_
        refine lv_goto (tgt := 224) hx hb dM_sample_220 (by decide) ?_
        refine lv_istore hx hb dM_sample_224 hl (by decide) rfl (fun ls hl => ?_)
        have hl : lv_has ls 6 [(4, _), (0, _), (2, _), (3, _)] := hl
        first | refine lv_aload_n hx hb dM_sample_226 rfl (lv_at hl 1 rfl) ?_ | refine lv_aload_nN hx hb dM_sample_226 rfl (lv_at hl 1 rfl) ?_
        refine lv_iload_n hx hb dM_sample_227 rfl (lv_at hl 2 rfl) ?_
        refine lv_iconst (v := 5) hx hb dM_sample_228 (by decide) ?_
        refine gcWVi hC hl.1 hA hH (fun LL f sz hI => m_ends hI hi60 5) mJ.o rfl rfl kM_137 ⟨by omega, by omega⟩ dM_sample_229 ⟨Nat.zero_le _, Nat.zero_le _⟩ rfl (Nat.le_of_ble_eq_true rfl) (fun r u H locs hp hH => ?_)
        obtain ⟨hp1, hp2⟩ := hp
        subst hp1
        obtain rfl : r = nI j := by rw [hp2]; exact q0.2.2.2.2.1 j hq
        refine lv_istore hx hb dM_sample_232 hl (by decide) rfl (fun ls hl => ?_)
        have hl : lv_has ls 6 [(5, _), (4, _), (0, _), (2, _), (3, _)] := hl
        refine lv_iload hx hb dM_sample_234 (lv_at hl 1 rfl) ?_
        refine lv_if_eq  (tgt := 245) hx hb dM_sample_236 (by decide) (fun h4 => ?_) (fun h4 => ?_)
        · exact absurd h4 (by decide)
        · first | refine lv_aload_n hx hb dM_sample_239 rfl (lv_at hl 2 rfl) ?_ | refine lv_aload_nN hx hb dM_sample_239 rfl (lv_at hl 2 rfl) ?_
          refine lv_iload hx hb dM_sample_240 (lv_at hl 0 rfl) ?_
          refine gcWVv hC hl.1 hA hH (fun LL f sz hI => m_waitsAgain hI hj3) mJ.o rfl rfl kM_141 ⟨by omega, by omega⟩ dM_sample_242 ⟨Nat.zero_le _, Nat.zero_le _⟩ rfl (Nat.le_of_ble_eq_true rfl) (fun u H locs hp hH => ?_)
          subst hp
          exact bars _ ls H locs hi5 (if_pos h0).symm (mR.in hR3 hH) (lv_sub hl [2, 3, 4] rfl)
set_option maxHeartbeats 600000 in
set_option maxRecDepth 100000 in
theorem m_sample (hI : mR k x LL f) (v : Int32) : Met l yM_sample (wz yM_sample bM_sample 6 (some .int)) (rmL 3 0 0) (gP D (mk_tys k) LL f sz [.ref (mO k), .int v]) (va_Qi (fun (r : Int32) (u : cs_S) => (u, r) = zSam x v) (gB D (mk_tys k) (mR k) (va_A (va_pl LL f) sz)) (va_A (va_pl LL f) sz)) 0 0 (va_A (va_pl LL f) sz) := by
  refine gMet (own := RX4) (u := x) (Qc := fun A => va_Qi (fun (r : Int32) (u : cs_S) => (u, r) = zSam x v) (gB D (mk_tys k) (mR k) A) A) (by decide) rfl hI (Nat.le_of_ble_eq_true rfl) ?_
  intro p e s m below meth c ls A hC hr hlk hnm hA hH hl
  obtain ⟨y, hR, hH⟩ := mR.out hH
  obtain ⟨hnT, hnW, hnR⟩ := hR.n
  have hok := hR.2.1
  have hb6 := hok.1.1
  have hb60 := hok.1.2.1
  have hb100 := hok.1.2.2
  have hx := hC.1
  have hb := hC.2.1
  have hml := hC.2.2.2.2.2
  have hts := hC.2.2.1
  have hown := hC.2.2.2.1
  have hl : lv_has ls 6 [(0, _), (1, _)] := hl
  refine lv_iload_n hx hb dM_sample_0 rfl (lv_at hl 1 rfl) ?_
  first | refine lv_aload_n hx hb dM_sample_1 rfl (lv_at hl 0 rfl) ?_ | refine lv_aload_nN hx hb dM_sample_1 rfl (lv_at hl 0 rfl) ?_
  refine gM_requests hC hH dM_sample_2 ?_
  refine gcTi hC.fix hl.1 (m_in v (yR y) (by omega)) kM_96 ⟨Nat.le_of_ble_eq_true rfl, Nat.le_of_ble_eq_true rfl⟩ dM_sample_5 ⟨Nat.le_of_ble_eq_true rfl, Nat.le_of_ble_eq_true rfl⟩ rfl (Nat.le_of_ble_eq_true rfl) (fun r hr1 => ?_)
  rcases hr1 with ⟨j, hj, hv, rfl⟩ | ⟨hv, rfl⟩
  · have hj2 : j < nR x := by rw [← hnR]; exact hj
    have hj3 : j < 100 := by omega
    have hkk : lk (nR x) v = some j := by rw [hv]; exact lk_in hj2 (by omega)
    subst hv
    have qr := hR.2.2.2.2.2.1 j hj2
    have okj := hok.2.2 j hj2
    refine lv_if_eq  (tgt := 31) hx hb dM_sample_8 (by decide) (fun h => ?_) (fun h => ?_)
    · exact absurd h (by decide)
    · first | refine lv_aload_n hx hb dM_sample_11 rfl (lv_at hl 0 rfl) ?_ | refine lv_aload_nN hx hb dM_sample_11 rfl (lv_at hl 0 rfl) ?_
      refine gM_kind hC hH dM_sample_12 ?_
      refine lv_iload_n hx hb dM_sample_15 rfl (lv_at hl 1 rfl) ?_
      refine aM_i hC hH (by decide) (by assumption) dM_sample_16 ?_
      refine lv_iconst (v := 2) hx hb dM_sample_17 (by decide) ?_
      rw [qr.2.2.1]
      refine lv_icmp_ne  (tgt := 31) hx hb dM_sample_18 (by decide) (fun h1 => ?_) (fun h1 => ?_)
      · refine lv_iconst (v := -1) hx hb dM_sample_31 (by decide) ?_
        exact grWi hC hr hlk rfl (mR.in hR hH) (by simp only [zSam, hkk]; rw [if_neg h1]) dM_sample_32
      · first | refine lv_aload_n hx hb dM_sample_21 rfl (lv_at hl 0 rfl) ?_ | refine lv_aload_nN hx hb dM_sample_21 rfl (lv_at hl 0 rfl) ?_
        refine gM_by hC hH dM_sample_22 ?_
        refine lv_iload_n hx hb dM_sample_25 rfl (lv_at hl 1 rfl) ?_
        refine aM_i hC hH (by decide) (by assumption) dM_sample_26 ?_
        refine lv_iconst (v := -1) hx hb dM_sample_27 (by decide) ?_
        rw [qr.2.2.2.1]
        refine lv_icmp_ne  (tgt := 33) hx hb dM_sample_28 (by decide) (fun h2 => ?_) (fun h2 => ?_)
        · rcases hq : rWk (gR x j) with _ | i
          · exact absurd (by rw [hq]; rfl) h2
          · have hi := okj.2 i hq
            have hi60 : i < 60 := by omega
            have qw := hR.2.2.2.2.1 i hi
            obtain ⟨ov, hov⟩ : ∃ ov, ov = os (wEd (gW x i)) (rIn (gR x j)) := ⟨_, rfl⟩
            first | refine lv_aload_n hx hb dM_sample_33 rfl (lv_at hl 0 rfl) ?_ | refine lv_aload_nN hx hb dM_sample_33 rfl (lv_at hl 0 rfl) ?_
            refine gM_by hC hH dM_sample_34 ?_
            refine lv_iload_n hx hb dM_sample_37 rfl (lv_at hl 1 rfl) ?_
            refine aM_i hC hH (by decide) (by assumption) dM_sample_38 ?_
            rw [qr.2.2.2.1, hq]
            refine W.eq (g2 := F0 m 39 ls [.int (nI i)]) rfl ?_
            refine lv_istore_n hx hb dM_sample_39 rfl hl (by decide) rfl (fun ls hl => ?_)
            have hl : lv_has ls 6 [(2, _), (0, _), (1, _)] := hl
            first | refine lv_aload_n hx hb dM_sample_40 rfl (lv_at hl 1 rfl) ?_ | refine lv_aload_nN hx hb dM_sample_40 rfl (lv_at hl 1 rfl) ?_
            refine gM_gave hC hH dM_sample_41 ?_
            refine lv_iload_n hx hb dM_sample_44 rfl (lv_at hl 2 rfl) ?_
            refine aM_l hC hH (by decide) (by assumption) dM_sample_45 ?_
            rw [qr.2.2.2.2.2.2.2.2.2.1]
            first | refine lv_aload_n hx hb dM_sample_46 rfl (lv_at hl 1 rfl) ?_ | refine lv_aload_nN hx hb dM_sample_46 rfl (lv_at hl 1 rfl) ?_
            first | refine lv_aload_n hx hb dM_sample_47 rfl (lv_at hl 1 rfl) ?_ | refine lv_aload_nN hx hb dM_sample_47 rfl (lv_at hl 1 rfl) ?_
            refine gM_startedWith hC hH dM_sample_48 ?_
            refine lv_iload_n hx hb dM_sample_51 rfl (lv_at hl 0 rfl) ?_
            refine aM_l hC hH (by decide) (by assumption) dM_sample_52 ?_
            first | refine lv_aload_n hx hb dM_sample_53 rfl (lv_at hl 1 rfl) ?_ | refine lv_aload_nN hx hb dM_sample_53 rfl (lv_at hl 1 rfl) ?_
            refine gM_input hC hH dM_sample_54 ?_
            refine lv_iload_n hx hb dM_sample_57 rfl (lv_at hl 2 rfl) ?_
            refine aM_l hC hH (by decide) (by assumption) dM_sample_58 ?_
            refine gcVl hC hl.1 hH (fun LL f sz hI => m_oneShot hI _ _) mJ.o rfl rfl kM_110 ⟨Nat.le_of_ble_eq_true rfl, Nat.le_of_ble_eq_true rfl⟩ dM_sample_59 ⟨Nat.le_of_ble_eq_true rfl, Nat.le_of_ble_eq_true rfl⟩ rfl (Nat.le_of_ble_eq_true rfl) (fun ov2 hov2 => ?_)
            have hov3 : ov2 = ov := by rw [hov2, hov, qw.2.2.2.2.2.2.2.2.1, qr.2.2.2.2.2.2.2.2.1]
            clear hov2
            subst hov3
            refine W.lcmp hx hb dM_sample_62 ?_
            refine lv_if_ne  (tgt := 104) hx hb dM_sample_63 (by decide) (fun h3 => ?_) (fun h3 => ?_)
            · have h4 : ¬ rRs (gR x j) = ov2 := fun z => h3 ((lg_cmp_eq _ _).mpr z)
              refine lv_iconst (v := 0) hx hb dM_sample_104 (by decide) ?_
              refine lv_istore_n hx hb dM_sample_105 rfl hl (by decide) rfl (fun ls hl => ?_)
              have hl : lv_has ls 6 [(3, _), (2, _), (0, _), (1, _)] := hl
              refine lv_iconst (v := 0) hx hb dM_sample_106 (by decide) ?_
              refine lv_istore hx hb dM_sample_107 hl (by decide) rfl (fun ls hl => ?_)
              have hl : lv_has ls 6 [(4, _), (3, _), (2, _), (0, _), (1, _)] := hl
              have hG := mR.in hR hH
              refine (?_ : ∀ (n a : Nat) (w : Int32) (ls : Array Slot) (H : Heap) (locs : List Loc), a + n = nR x → w = (zRdF x j i a).2 → gH D (mR k) (zRdF x j i a).1 A s.heap H locs → lv_has ls 6 [(0, .ref (mO k)), (1, .int (nI j)), (2, .int (nI i)), (3, .int w), (4, .int (nI a))] → W p l e _ s m _ below meth c H locs 0 0 _ (F0 m 109 ls [])) (nR x) 0 0 ls _ _ (Nat.zero_add _) rfl hG (lv_sub hl [3, 4, 2, 1, 0] rfl)
              intro n
              induction n with
              | zero =>
                intro a w ls H locs hin hw hG hl
                obtain ⟨y, hR, hH⟩ := mR.out hG
                have hnR := hR.n.2.2
                rw [(zRdF_n x j i a).2.2] at hnR
                refine lv_iload hx hb dM_sample_109 (lv_at hl 4 rfl) ?_
                first | refine lv_aload_n hx hb dM_sample_111 rfl (lv_at hl 0 rfl) ?_ | refine lv_aload_nN hx hb dM_sample_111 rfl (lv_at hl 0 rfl) ?_
                refine gM_requests hC hH dM_sample_112 ?_
                refine lv_icmp_ge  (tgt := 199) hx hb dM_sample_115 (by decide) (fun h9 => ?_) (fun h9 => ?_)
                · obtain rfl : a = nR x := by omega
                  have e := zRdF_100 x j i (100 - nR x)
                  rw [show nR x + (100 - nR x) = 100 by omega] at e
                  have hzn := (zRdF_n x j i (nR x)).1
                  generalize hz : zRdF x j i (nR x) = z at e hw hG hzn
                  refine sam_tail hC ⟨Nat.le_of_ble_eq_true rfl, Nat.le_of_ble_eq_true rfl⟩ hA (by rw [hzn]; exact hi) hG (lv_sub hl [0, 2, 3] rfl) (fun ls H locs x' hx' hG => ?_)
                  exact grWi hC hr hlk rfl hG (by simp only [zSam, hkk, hq]; rw [if_pos h1, ← hov, if_neg h4, e, hx', hw]) dM_sample_261
                · exact absurd (by rw [hnR]; exact nI_le (by omega) (by omega)) h9
              | succ n ih =>
                intro a w ls H locs hin hw hG hl
                obtain ⟨y, hR, hH⟩ := mR.out hG
                have hnR := hR.n.2.2
                rw [(zRdF_n x j i a).2.2] at hnR
                have ha2 : a < nR (zRdF x j i a).1 := by rw [(zRdF_n x j i a).2.2]; omega
                have ha3 : a < 100 := by omega
                have hi9 : i < nW (zRdF x j i a).1 := by rw [(zRdF_n x j i a).1]; exact hi
                have q1 := hR.2.2.2.2.2.1 a ha2
                have q2 := hR.2.2.2.2.1 i hi9
                have hoa := oI_some (o := rWk (gR (zRdF x j i a).1 a)) (i := i) (by omega) (fun b hb => by have := (hR.2.1.2.2 a ha2).2 b hb; have := hR.2.1.1.2.1; omega)
                refine lv_iload hx hb dM_sample_109 (lv_at hl 4 rfl) ?_
                first | refine lv_aload_n hx hb dM_sample_111 rfl (lv_at hl 0 rfl) ?_ | refine lv_aload_nN hx hb dM_sample_111 rfl (lv_at hl 0 rfl) ?_
                refine gM_requests hC hH dM_sample_112 ?_
                refine lv_icmp_ge  (tgt := 199) hx hb dM_sample_115 (by decide) (fun h9 => ?_) (fun h9 => ?_)
                · exact absurd h9 (by rw [hnR]; exact nI_ge (by omega) (by omega))
                · first | refine lv_aload_n hx hb dM_sample_118 rfl (lv_at hl 0 rfl) ?_ | refine lv_aload_nN hx hb dM_sample_118 rfl (lv_at hl 0 rfl) ?_
                  refine lv_iload hx hb dM_sample_119 (lv_at hl 4 rfl) ?_
                  refine lv_iload_n hx hb dM_sample_121 rfl (lv_at hl 2 rfl) ?_
                  refine gcVi hC hl.1 hH (fun LL f sz hI => m_isDoneBy hI ha3 (nI i)) mJ.o rfl rfl kM_146 ⟨Nat.le_of_ble_eq_true rfl, Nat.le_of_ble_eq_true rfl⟩ dM_sample_122 ⟨Nat.le_of_ble_eq_true rfl, Nat.le_of_ble_eq_true rfl⟩ rfl (Nat.le_of_ble_eq_true rfl) (fun r hr1 => ?_)
                  rw [q1.2.2.1, q1.2.2.2.1] at hr1
                  refine lv_if_eq  (tgt := 193) hx hb dM_sample_125 (by decide) (fun h5 => ?_) (fun h5 => ?_)
                  · refine lv_iinc hx hb dM_sample_193 hl (k := 4) rfl rfl (by decide) rfl (fun ls hl => ?_)
                    have hl : lv_has ls 6 [(4, _), (0, _), (1, _), (2, _), (3, _)] := hl
                    refine lv_goto (tgt := 109) hx hb dM_sample_196 (by decide) ?_
                    have hs : zRdF x j i (a + 1) = zRdF x j i a := if_neg (fun q => by rw [hr1, if_pos ⟨q.2.1, hoa.mpr q.2.2.1⟩] at h5; exact absurd h5 (by decide))
                    exact ih (a + 1) w ls H locs (by omega) (by rw [hs]; exact hw) (by rw [hs]; exact hG) (by rw [← nI_1 a]; exact lv_sub hl [1, 2, 3, 4, 0] rfl)
                  · have h6 : rSt (gR (zRdF x j i a).1 a) = 2 ∧ rWk (gR (zRdF x j i a).1 a) = some i := Classical.byContradiction (fun q => h5 (by rw [hr1, if_neg (fun z => q ⟨z.1, hoa.mp z.2⟩)]))
                    obtain ⟨ow, how⟩ : ∃ ow, ow = os (wEd (gW (zRdF x j i a).1 i)) (rIn (gR (zRdF x j i a).1 a)) := ⟨_, rfl⟩
                    have hR3 := hR.redo ha2 h6.1 ow
                    have hgo : (a = j ∨ ¬ rPl (gR (zRdF x j i a).1 a) ≤ wTr (gW (zRdF x j i a).1 i)) → ∀ (ls : Array Slot), lv_has ls 6 [(0, .ref (mO k)), (1, .int (nI j)), (2, .int (nI i)), (3, .int w), (4, .int (nI a))] → W p l e (rmL 3 0 0) s m ([.ref (mO k), .int (nI j)] : List Value).toArray below meth c H locs 0 0 (MQ below (va_Qi (fun (r : Int32) (u : cs_S) => (u, r) = zSam x (nI j)) (gB D (mk_tys k) (mR k) A) A) ([.ref (mO k), .int (nI j)] : List Value).toArray s 0 0 A) (F0 m 150 ls []) := by
                      intro hor ls hl
                      have hs : zRdF x j i (a + 1) = (sR (zRdF x j i a).1 a (rRe_ (rWk_ (rRs_ (gR (zRdF x j i a).1 a) ow) none) true), (zRdF x j i a).2 + 1) := by
                        rw [how]
                        exact if_pos ⟨ha2, h6.1, h6.2, hor⟩
                      first | refine lv_aload_n hx hb dM_sample_150 rfl (lv_at hl 0 rfl) ?_ | refine lv_aload_nN hx hb dM_sample_150 rfl (lv_at hl 0 rfl) ?_
                      refine gM_gave hC hH dM_sample_151 ?_
                      refine lv_iload hx hb dM_sample_154 (lv_at hl 4 rfl) ?_
                      first | refine lv_aload_n hx hb dM_sample_156 rfl (lv_at hl 0 rfl) ?_ | refine lv_aload_nN hx hb dM_sample_156 rfl (lv_at hl 0 rfl) ?_
                      first | refine lv_aload_n hx hb dM_sample_157 rfl (lv_at hl 0 rfl) ?_ | refine lv_aload_nN hx hb dM_sample_157 rfl (lv_at hl 0 rfl) ?_
                      refine gM_startedWith hC hH dM_sample_158 ?_
                      refine lv_iload_n hx hb dM_sample_161 rfl (lv_at hl 2 rfl) ?_
                      refine aM_l hC hH (by decide) (by assumption) dM_sample_162 ?_
                      first | refine lv_aload_n hx hb dM_sample_163 rfl (lv_at hl 0 rfl) ?_ | refine lv_aload_nN hx hb dM_sample_163 rfl (lv_at hl 0 rfl) ?_
                      refine gM_input hC hH dM_sample_164 ?_
                      refine lv_iload hx hb dM_sample_167 (lv_at hl 4 rfl) ?_
                      refine aM_l hC hH (by decide) (by assumption) dM_sample_169 ?_
                      refine gcVl hC hl.1 hH (fun LL f sz hI => m_oneShot hI _ _) mJ.o rfl rfl kM_110 ⟨Nat.le_of_ble_eq_true rfl, Nat.le_of_ble_eq_true rfl⟩ dM_sample_170 ⟨Nat.le_of_ble_eq_true rfl, Nat.le_of_ble_eq_true rfl⟩ rfl (Nat.le_of_ble_eq_true rfl) (fun ov3 hov3 => ?_)
                      have hov4 : ov3 = ow := by rw [hov3, how, q2.2.2.2.2.2.2.2.2.1, q1.2.2.2.2.2.2.2.2.1]
                      clear hov3
                      subst hov4
                      refine sM_l hC hH (by decide) (by assumption) dM_sample_173 (fun H locs hH => ?_)
                      first | refine lv_aload_n hx hb dM_sample_174 rfl (lv_at hl 0 rfl) ?_ | refine lv_aload_nN hx hb dM_sample_174 rfl (lv_at hl 0 rfl) ?_
                      refine gM_by hC hH dM_sample_175 ?_
                      refine lv_iload hx hb dM_sample_178 (lv_at hl 4 rfl) ?_
                      refine lv_iconst (v := -1) hx hb dM_sample_180 (by decide) ?_
                      refine sM_i hC hH (by decide) (by assumption) dM_sample_181 (fun H locs hH => ?_)
                      first | refine lv_aload_n hx hb dM_sample_182 rfl (lv_at hl 0 rfl) ?_ | refine lv_aload_nN hx hb dM_sample_182 rfl (lv_at hl 0 rfl) ?_
                      refine gM_isRedone hC hH dM_sample_183 ?_
                      refine lv_iload hx hb dM_sample_186 (lv_at hl 4 rfl) ?_
                      refine lv_iconst (v := 1) hx hb dM_sample_188 (by decide) ?_
                      refine sM_z hC hH rfl (by decide) (by assumption) dM_sample_189 (fun H locs hH => ?_)
                      refine lv_iinc hx hb dM_sample_190 hl (k := 3) rfl rfl (by decide) rfl (fun ls hl => ?_)
                      have hl : lv_has ls 6 [(3, _), (0, _), (1, _), (2, _), (4, _)] := hl
                      refine lv_iinc hx hb dM_sample_193 hl (k := 4) rfl rfl (by decide) rfl (fun ls hl => ?_)
                      have hl : lv_has ls 6 [(4, _), (3, _), (0, _), (1, _), (2, _)] := hl
                      refine lv_goto (tgt := 109) hx hb dM_sample_196 (by decide) ?_
                      exact ih (a + 1) (w + Int32.ofInt 1) ls H locs (by omega) (by rw [hs, hw]; rfl) (by rw [hs]; exact mR.in hR3 hH) (by rw [← nI_1 a]; exact lv_sub hl [2, 3, 4, 1, 0] rfl)
                    refine lv_iload hx hb dM_sample_128 (lv_at hl 4 rfl) ?_
                    refine lv_iload_n hx hb dM_sample_130 rfl (lv_at hl 1 rfl) ?_
                    refine lv_icmp_eq  (tgt := 150) hx hb dM_sample_131 (by decide) (fun h7 => ?_) (fun h7 => ?_)
                    · exact hgo (Or.inl ((nI_eq (by omega) (by omega)).mp h7)) ls (lv_sub hl [0, 1, 2, 3, 4] rfl)
                    · have h8 : ¬ a = j := fun z => h7 (by rw [z])
                      first | refine lv_aload_n hx hb dM_sample_134 rfl (lv_at hl 0 rfl) ?_ | refine lv_aload_nN hx hb dM_sample_134 rfl (lv_at hl 0 rfl) ?_
                      refine gM_place hC hH dM_sample_135 ?_
                      refine lv_iload hx hb dM_sample_138 (lv_at hl 4 rfl) ?_
                      refine aM_i hC hH (by decide) (by assumption) dM_sample_140 ?_
                      first | refine lv_aload_n hx hb dM_sample_141 rfl (lv_at hl 0 rfl) ?_ | refine lv_aload_nN hx hb dM_sample_141 rfl (lv_at hl 0 rfl) ?_
                      refine gM_trusted hC hH dM_sample_142 ?_
                      refine lv_iload_n hx hb dM_sample_145 rfl (lv_at hl 2 rfl) ?_
                      refine aM_i hC hH (by decide) (by assumption) dM_sample_146 ?_
                      rw [q1.2.2.2.2.1 h6.1 (by rw [h6.2]; simp), q2.2.2.2.2.2.2.1]
                      refine lv_icmp_le  (tgt := 193) hx hb dM_sample_147 (by decide) (fun h10 => ?_) (fun h10 => ?_)
                      · refine lv_iinc hx hb dM_sample_193 hl (k := 4) rfl rfl (by decide) rfl (fun ls hl => ?_)
                        have hl : lv_has ls 6 [(4, _), (0, _), (1, _), (2, _), (3, _)] := hl
                        refine lv_goto (tgt := 109) hx hb dM_sample_196 (by decide) ?_
                        have hs : zRdF x j i (a + 1) = zRdF x j i a := if_neg (fun q => by rcases q.2.2.2 with z | z; exact h8 z; exact z h10)
                        exact ih (a + 1) w ls H locs (by omega) (by rw [hs]; exact hw) (by rw [hs]; exact hG) (by rw [← nI_1 a]; exact lv_sub hl [1, 2, 3, 4, 0] rfl)
                      · exact hgo (Or.inr h10) ls (lv_sub hl [0, 1, 2, 3, 4] rfl)
            · have h4 : rRs (gR x j) = ov2 := (lg_cmp_eq _ _).mp h3
              have hpl := qr.2.2.2.2.1 h1 (by rw [hq]; simp)
              have hR2 := hR.tru hi (if wTr (gW x i) < rPl (gR x j) then rPl (gR x j) else wTr (gW x i))
              first | refine lv_aload_n hx hb dM_sample_66 rfl (lv_at hl 1 rfl) ?_ | refine lv_aload_nN hx hb dM_sample_66 rfl (lv_at hl 1 rfl) ?_
              refine gM_trusted hC hH dM_sample_67 ?_
              refine lv_iload_n hx hb dM_sample_70 rfl (lv_at hl 0 rfl) ?_
              first | refine lv_aload_n hx hb dM_sample_71 rfl (lv_at hl 1 rfl) ?_ | refine lv_aload_nN hx hb dM_sample_71 rfl (lv_at hl 1 rfl) ?_
              refine gM_place hC hH dM_sample_72 ?_
              refine lv_iload_n hx hb dM_sample_75 rfl (lv_at hl 2 rfl) ?_
              refine aM_i hC hH (by decide) (by assumption) dM_sample_76 ?_
              first | refine lv_aload_n hx hb dM_sample_77 rfl (lv_at hl 1 rfl) ?_ | refine lv_aload_nN hx hb dM_sample_77 rfl (lv_at hl 1 rfl) ?_
              refine gM_trusted hC hH dM_sample_78 ?_
              refine lv_iload_n hx hb dM_sample_81 rfl (lv_at hl 0 rfl) ?_
              refine aM_i hC hH (by decide) (by assumption) dM_sample_82 ?_
              rw [hpl, qw.2.2.2.2.2.2.1]
              refine lv_icmp_le  (tgt := 95) hx hb dM_sample_83 (by decide) (fun h5 => ?_) (fun h5 => ?_)
              · first | refine lv_aload_n hx hb dM_sample_95 rfl (lv_at hl 1 rfl) ?_ | refine lv_aload_nN hx hb dM_sample_95 rfl (lv_at hl 1 rfl) ?_
                refine gM_trusted hC hH dM_sample_96 ?_
                refine lv_iload_n hx hb dM_sample_99 rfl (lv_at hl 0 rfl) ?_
                refine aM_i hC hH (by decide) (by assumption) dM_sample_100 ?_
                rw [qw.2.2.2.2.2.2.1]
                refine sM_i hC hH (by decide) (by assumption) dM_sample_101 (fun H locs hH => ?_)
                refine lv_iconst (v := 0) hx hb dM_sample_102 (by decide) ?_
                rw [if_neg (Int32.not_lt.mpr h5)] at hR2
                exact grWi hC hr hlk rfl (mR.in hR2 hH) (by simp only [zSam, hkk, hq]; rw [if_pos h1, ← hov, if_pos h4, if_neg (Int32.not_lt.mpr h5)]) dM_sample_103
              · first | refine lv_aload_n hx hb dM_sample_86 rfl (lv_at hl 1 rfl) ?_ | refine lv_aload_nN hx hb dM_sample_86 rfl (lv_at hl 1 rfl) ?_
                refine gM_place hC hH dM_sample_87 ?_
                refine lv_iload_n hx hb dM_sample_90 rfl (lv_at hl 2 rfl) ?_
                refine aM_i hC hH (by decide) (by assumption) dM_sample_91 ?_
                rw [hpl]
                refine lv_goto (tgt := 101) hx hb dM_sample_92 (by decide) ?_
                refine sM_i hC hH (by decide) (by assumption) dM_sample_101 (fun H locs hH => ?_)
                refine lv_iconst (v := 0) hx hb dM_sample_102 (by decide) ?_
                rw [if_pos (Int32.not_le.mp h5)] at hR2
                exact grWi hC hr hlk rfl (mR.in hR2 hH) (by simp only [zSam, hkk, hq]; rw [if_pos h1, ← hov, if_pos h4, if_pos (Int32.not_le.mp h5)]) dM_sample_103
        · have hq : rWk (gR x j) = none := (oI_neg _ (fun b hb => by have := okj.2 b hb; omega)).mp h2
          refine lv_iconst (v := -1) hx hb dM_sample_31 (by decide) ?_
          exact grWi hC hr hlk rfl (mR.in hR hH) (by simp only [zSam, hkk, hq]; rw [if_pos h1]) dM_sample_32
  · have hkk : lk (nR x) v = none := lk_out (fun i hi => hv i (by rw [hnR]; exact hi))
    refine lv_if_eq  (tgt := 31) hx hb dM_sample_8 (by decide) (fun h => ?_) (fun h => ?_)
    · refine lv_iconst (v := -1) hx hb dM_sample_31 (by decide) ?_
      exact grWi hC hr hlk rfl (mR.in hR hH) (by simp only [zSam, hkk]) dM_sample_32
    · exact absurd rfl h
end M7
