/-! TWO POOLS side by side: what one method does to its own leaves the other as it is -/
def g2 {σ τ : Type} (D : va_G) (I : σ → List Nat → (Nat → va_E) → Prop) (u : σ) (J : τ → List Nat → (Nat → va_E) → Prop) (w : τ) (A : Nat → Prop) (H0 H : Heap) (locs : List Loc) : Prop := ∃ (L1 : List Nat) (f1 : Nat → va_E) (L2 : List Nat) (f2 : Nat → va_E), I u L1 f1 ∧ J w L2 f2 ∧ va_P D vwCl (va_pl L1 f1) H ∧ va_D A (va_pl L1 f1) ∧ va_P D vwCl (va_pl L2 f2) H ∧ va_D A (va_pl L2 f2) ∧ (∀ q, q ∈ L1 → q ∉ L2) ∧ va_S A H0 H locs
section TW
variable {p : Program} {l : Launch} {e : Env} {R : Room} {s : State} {m : MethodId} {args : Array Value} {below : List Frame} {meth : Method} {c : Code} {H : Heap} {locs : List Loc} {cells slots : Nat} {Q : State → Prop}
variable {cc : ByteArray} {pc : Nat} {ls : Array Slot} {rest st : List Value} {D : va_G} {A : Nat → Prop} {tys : List (ClassId × FieldType)} {H0 : Heap} {own : String} {nL : Nat} {σ τ : Type} {I : σ → List Nat → (Nat → va_E) → Prop} {u : σ} {J : τ → List Nat → (Nat → va_E) → Prop} {w : τ} {y : MethodName} {b : ByteArray} {n dp idx mc ms : Nat} {r : Option FieldType} {av : List Value} {a ci : Nat} {q : vw_C}
theorem g2.swap (h : g2 D I u J w A H0 H locs) : g2 D J w I u A H0 H locs := by
  obtain ⟨L1, f1, L2, f2, h1, h2, h3, h4, h5, h6, h7, h8⟩ := h
  exact ⟨L2, f2, L1, f1, h2, h1, h5, h6, h3, h4, fun q hq hq2 => h7 q hq2 hq, h8⟩
theorem g2.fst (h : g2 D I u J w A H0 H locs) : gH D I u A H0 H locs := by
  obtain ⟨L1, f1, L2, f2, h1, h2, h3, h4, h5, h6, h7, h8⟩ := h
  exact ⟨L1, f1, h1, h3, h4, h8⟩
/-- reads only -/
theorem g2Ri {post : Int32 → Prop} (hC : gX own tys D p s m args c cc nL) (hls : ls.size = nL) (hH : g2 D I u J w A H0 H locs) (M : ∀ LL f sz, I u LL f → Met l y (wz y b n r) (rmL dp 0 0) (gP D tys LL f sz (.ref a :: av)) (vp_Si post) 0 0 (fun _ => False)) (ha : ∀ LL f, I u LL f → ∃ fs, a ∈ LL ∧ f a = .inr (ci, fs)) (hc : vwCl[ci]? = some q) (hq : q.1 = y.cls) (hk : gKV own idx y b n r av.length) (hR : dp + 1 ≤ R.frames ∧ 8 + (n + 11) + 34 * dp ≤ R.locals) (hdg : decode cc pc = .ok (.invokevirtual idx, 3)) (hcs : cells ≤ R.cells ∧ slots ≤ R.slots) (hst : st = av.reverse ++ .ref a :: rest) (hcat : (rest.map fun v => v.category).sum ≤ 8) (kk : ∀ v : Int32, post v → W p l e R s m args below meth c H locs cells slots Q (F0 m (pc + 3) ls (.int v :: rest))) : W p l e R s m args below meth c H locs cells slots Q (F0 m pc ls st) := by
  obtain ⟨LL, f, hI, hP, hD, hS⟩ := hH.fst
  obtain ⟨fs, ha1, ha2⟩ := ha LL f hI
  have hr := pw_recv hC.2.2.2.2.1 hP ha1 ha2 hc
  rw [hq] at hr
  exact vp_callSi (W.runV (C := y.cls) (As := av) hC.fix (M LL f H.size hI) ⟨hk.1.B hC.2.2.1 hR, hC.2.2.1 _ hk.2.1, hC.2.2.1 _ hk.2.2⟩ ⟨gP_blind, hr, fun U hU hW => gP_pre hC.2.2.2.2.1 hP hD hU hW⟩ rfl rfl hls hst (lv_room hcat) hdg hcs) kk
theorem g2Rl {post : Int64 → Prop} (hC : gX own tys D p s m args c cc nL) (hls : ls.size = nL) (hH : g2 D I u J w A H0 H locs) (M : ∀ LL f sz, I u LL f → Met l y (wz y b n r) (rmL dp 0 0) (gP D tys LL f sz (.ref a :: av)) (vp_Sl post) 0 0 (fun _ => False)) (ha : ∀ LL f, I u LL f → ∃ fs, a ∈ LL ∧ f a = .inr (ci, fs)) (hc : vwCl[ci]? = some q) (hq : q.1 = y.cls) (hk : gKV own idx y b n r av.length) (hR : dp + 1 ≤ R.frames ∧ 8 + (n + 11) + 34 * dp ≤ R.locals) (hdg : decode cc pc = .ok (.invokevirtual idx, 3)) (hcs : cells ≤ R.cells ∧ slots ≤ R.slots) (hst : st = av.reverse ++ .ref a :: rest) (hcat : (rest.map fun v => v.category).sum ≤ 8) (kk : ∀ v : Int64, post v → W p l e R s m args below meth c H locs cells slots Q (F0 m (pc + 3) ls (.long v :: rest))) : W p l e R s m args below meth c H locs cells slots Q (F0 m pc ls st) := by
  obtain ⟨LL, f, hI, hP, hD, hS⟩ := hH.fst
  obtain ⟨fs, ha1, ha2⟩ := ha LL f hI
  have hr := pw_recv hC.2.2.2.2.1 hP ha1 ha2 hc
  rw [hq] at hr
  exact vp_callSl (W.runV (C := y.cls) (As := av) hC.fix (M LL f H.size hI) ⟨hk.1.B hC.2.2.1 hR, hC.2.2.1 _ hk.2.1, hC.2.2.1 _ hk.2.2⟩ ⟨gP_blind, hr, fun U hU hW => gP_pre hC.2.2.2.2.1 hP hD hU hW⟩ rfl rfl hls hst (lv_room hcat) hdg hcs) kk
/-- behind a call that wrote the first pool -/
theorem g2.back {L1 : List Nat} {f1 : Nat → va_E} {L2 : List Nat} {f2 : Nat → va_E} {u' : σ} {t : State} {H1 : Heap} {locs1 : List Loc} (hP1 : va_P D vwCl (va_pl L1 f1) H) (hw : J w L2 f2) (hP2 : va_P D vwCl (va_pl L2 f2) H) (hD2 : va_D A (va_pl L2 f2)) (hdis : ∀ q, q ∈ L1 → q ∉ L2) (hB : gB D tys I (va_A (va_pl L1 f1) H.size) u' t) (ht : t.heap = H1) (hk : ∀ q : Nat, q < H.size → ¬ va_A (va_pl L1 f1) H.size q → H1[q]? = H[q]?) (hF : ∀ q, va_A (va_pl L1 f1) H.size q → A q) (hS : va_S A H0 H1 locs1) : g2 D I u' J w A H0 H1 locs1 := by
  obtain ⟨L3, f3, h1, h2, h3, h4⟩ := hB
  have lt2 : ∀ q, q ∈ L2 → q < H.size := fun q hq => va_pl_lt (X := []) hP2 hq
  refine ⟨L3, f3, L2, f2, h1, hw, by rw [← ht]; exact h2, h4.weaken (fun _ q _ h => hF q.1 h), hP2.kept (fun k z hz => ?_), hD2, fun z hz hz2 => ?_, hS⟩
  · obtain ⟨b2, hb2, eb⟩ := List.mem_map.mp (List.mem_of_getElem? hz)
    cases eb
    refine hk b2 (lt2 b2 hb2) (fun hA2 => ?_)
    rcases pw_A.mp hA2 with h | h
    · exact hdis b2 h hb2
    · have := lt2 b2 hb2
      omega
  · obtain ⟨k9, hk9⟩ := pw_at (f := f3) hz rfl
    rcases pw_A.mp (h4.2 k9 _ hk9) with h | h
    · exact hdis z h hz2
    · have := lt2 z hz2
      have h : H.size ≤ z := h
      omega
theorem g2Wi {post : Int32 → σ → Prop} (hC : gX own tys D p s m args c cc nL) (hls : ls.size = nL) (hA : ∀ q, H0.size ≤ q → A q) (hH : g2 D I u J w A H0 H locs) (M : ∀ LL f sz, I u LL f → Met l y (wz y b n r) (rmL dp mc ms) (gP D tys LL f sz (.ref a :: av)) (va_Qi post (gB D tys I (va_A (va_pl LL f) sz)) (va_A (va_pl LL f) sz)) mc ms (va_A (va_pl LL f) sz)) (ha : ∀ LL f, I u LL f → ∃ fs, a ∈ LL ∧ f a = .inr (ci, fs)) (hc : vwCl[ci]? = some q) (hq : q.1 = y.cls) (hk : gKV own idx y b n r av.length) (hR : dp + 1 ≤ R.frames ∧ 8 + (n + 11) + 34 * dp ≤ R.locals) (hdg : decode cc pc = .ok (.invokevirtual idx, 3)) (hcs : cells + mc ≤ R.cells ∧ slots + ms ≤ R.slots) (hst : st = av.reverse ++ .ref a :: rest) (hcat : (rest.map fun v => v.category).sum ≤ 8) (kk : ∀ (v : Int32) (u' : σ) (H1 : Heap) (locs1 : List Loc), post v u' → g2 D I u' J w A H0 H1 locs1 → W p l e R s m args below meth c H1 locs1 (cells + mc) (slots + ms) Q (F0 m (pc + 3) ls (.int v :: rest))) : W p l e R s m args below meth c H locs cells slots Q (F0 m pc ls st) := by
  obtain ⟨L1, f1, L2, f2, hI, hw, hP, hD, hP2, hD2, hdis, hS⟩ := hH
  have hF := gH.free hD hS hA
  obtain ⟨fs, ha1, ha2⟩ := ha L1 f1 hI
  have hr := pw_recv hC.2.2.2.2.1 hP ha1 ha2 hc
  rw [hq] at hr
  exact va_calli (va_runV (C := y.cls) (As := av) hC.fix (M L1 f1 H.size hI) ⟨hk.1.B hC.2.2.1 hR, hC.2.2.1 _ hk.2.1, hC.2.2.1 _ hk.2.2⟩ ⟨gP_blind, hr, fun U hU hW => gP_pre hC.2.2.2.2.1 hP hD hU hW⟩ rfl rfl hls hst (lv_room hcat) hdg hcs) hS (fun q _ h => hF q h) hF (fun v u' t H1 locs1 ht hvm hp hB hz hk1 hS1 => kk v u' H1 locs1 hp (g2.back hP hw hP2 hD2 hdis hB ht hk1 hF hS1))
end TW
