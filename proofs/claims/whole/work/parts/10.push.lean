/-! ONE MORE tool, worker, request -/
theorem up3 {f : Nat → va_E} {q a o b : Nat} {e1 e2 e3 v : va_E} (hq : b ≠ q) (ha : f a ≠ v) (ho : f o ≠ v) (hb : f b = v) : va_up (va_up (va_up f q e1) a e2) o e3 b = v := by
  rw [va_up_ne _ _ (fun h => ho (by rw [← h]; exact hb)), va_up_ne _ _ (fun h => ha (by rw [← h]; exact hb)), va_up_ne _ _ hq]
  exact hb
theorem up3q {f : Nat → va_E} {q a o : Nat} {e1 e2 e3 : va_E} (ha : q ≠ a) (ho : q ≠ o) : va_up (va_up (va_up f q e1) a e2) o e3 q = e1 := by
  rw [va_up_ne _ _ ho, va_up_ne _ _ ha, va_up_self]
theorem up3a {f : Nat → va_E} {q a o : Nat} {e1 e2 e3 : va_E} (ho : a ≠ o) : va_up (va_up (va_up f q e1) a e2) o e3 a = e2 := by
  rw [va_up_ne _ _ ho, va_up_self]
theorem eA_push (n : Nat) (ad : Nat → Nat) (q : Nat) : va_up (eA n ad) n (some q) = eA (n + 1) (va_up ad n q) := by
  funext i
  by_cases h : i = n
  · subst h
    rw [va_up_self, eA_in (Nat.lt_succ_self _), va_up_self]
  · rw [va_up_ne _ _ h]
    by_cases h2 : i < n
    · rw [eA_in h2, eA_in (by omega), va_up_ne _ _ h]
    · rw [eA_out h2, eA_out (by omega)]
theorem eW_congr {ta ta' ra ra' : Nat → Nat} {i : Nat} {w : cs_W} (h1 : ta' (wTo w) = ta (wTo w)) (h2 : ∀ j, wRq w = some j → ra' j = ra j) : eW ta' ra' i w = eW ta ra i w := by
  unfold eW
  rw [h1]
  cases hq : wRq w with
  | none => rfl
  | some j => simp only [Option.map, h2 j hq]
theorem eR_congr {ta ta' wa wa' : Nat → Nat} {i : Nat} {r : cs_R} (h1 : ta' (rTo r) = ta (rTo r)) (h2 : ∀ j, rWk r = some j → wa' j = wa j) : eR ta' wa' i r = eR ta wa i r := by
  unfold eR
  rw [h1]
  cases hq : rWk r with
  | none => rfl
  | some j => simp only [Option.map, h2 j hq]
theorem gT_new (x : cs_S) (t : cs_T) : gT (aT x t) (nT x) = t := va_up_self _ _ _
theorem gW_new (x : cs_S) (w : cs_W) : gW (aW x w) (nW x) = w := va_up_self _ _ _
theorem gR_new (x : cs_S) (r : cs_R) : gR (aR x r) (nR x) = r := va_up_self _ _ _
theorem gT_old (x : cs_S) (t : cs_T) {i : Nat} (h : i ≠ nT x) : gT (aT x t) i = gT x i := va_up_ne _ _ h
theorem gW_old (x : cs_S) (w : cs_W) {i : Nat} (h : i ≠ nW x) : gW (aW x w) i = gW x i := va_up_ne _ _ h
theorem gR_old (x : cs_S) (r : cs_R) {i : Nat} (h : i ≠ nR x) : gR (aR x r) i = gR x i := va_up_ne _ _ h
section PU
variable {k : ck_F} {d : ck_A} {x : cs_S} {LL : List Nat} {f : Nat → va_E} {q : Nat}
theorem cI.ext (h : cI k d x LL f) (hq : q ∉ LL) (e : va_E) : cI k d x (LL ++ [q]) (va_up f q e) := by
  obtain ⟨h0, h1, h2, h3, h4, h5, h6, h7⟩ := h
  have up : ∀ {b : Nat} {v : va_E}, (b ∈ LL ∧ f b = v) → (b ∈ LL ++ [q] ∧ va_up f q e b = v) := fun {b v} hb => ⟨List.mem_append_left _ hb.1, by
    have z : b ≠ q := fun z => hq (z ▸ hb.1)
    rw [va_up_ne _ _ z]
    exact hb.2⟩
  exact ⟨h0, up h1, up h2, up h3, up h4, fun i hi => up (h5 i hi), fun i hi => up (h6 i hi), fun i hi => up (h7 i hi)⟩
theorem cI.pushT (h : cI k d x LL f) (hq : q ∉ LL) (hn : nT x < 6) (t : cs_T) : cI k (va_up (aTo d) (nT x) q, aWo d, aRq d) (aT x t) (LL ++ [q]) (va_up (va_up (va_up f q (.inr (1, eT (nT x) t))) (kTs k) (rowE k.2.1 6 (va_up (eA (nT x) (aTo d)) (nT x) (some q)))) (kO k) (.inr (3, eO k (aT x t)))) := by
  obtain ⟨h0, h1, h2, h3, h4, h5, h6, h7⟩ := h
  have ne : ∀ {b : Nat}, b ∈ LL → b ≠ q := fun hb z => hq (z ▸ hb)
  have hTO : kTs k ≠ kO k := fun z => by rw [z, h1.2] at h2; cases h2.2
  have in1 : ∀ {b : Nat}, b ∈ LL → b ∈ LL ++ [q] := fun hb => List.mem_append_left _ hb
  refine ⟨⟨⟨hn, h0.1.2⟩, fun i hi => ⟨Nat.lt_succ_of_lt (h0.2.1 i hi).1, (h0.2.1 i hi).2⟩, fun i hi => ⟨Nat.lt_succ_of_lt (h0.2.2 i hi).1, (h0.2.2 i hi).2⟩⟩, ⟨in1 h1.1, va_up_self _ _ _⟩, ⟨in1 h2.1, ?_⟩, ⟨in1 h3.1, up3 (ne h3.1) (by rw [h2.2]; simp) (by rw [h1.2]; simp) h3.2⟩, ⟨in1 h4.1, up3 (ne h4.1) (by rw [h2.2]; simp) (by rw [h1.2]; simp) h4.2⟩, fun i hi => ?_, fun i hi => ⟨in1 (h6 i hi).1, ?_⟩, fun i hi => ⟨in1 (h7 i hi).1, ?_⟩⟩
  · rw [up3a hTO, eA_push]
  · by_cases e : i = nT x
    · subst e
      have ha : aTo (va_up (aTo d) (nT x) q, aWo d, aRq d) (nT x) = q := va_up_self _ _ _
      rw [ha, gT_new]
      exact ⟨List.mem_append_right _ (List.mem_singleton.mpr rfl), up3q (fun z => hq (z ▸ h2.1)) (fun z => hq (z ▸ h1.1))⟩
    · have hi2 : i < nT x := by have : i < nT x + 1 := hi; omega
      have ha : aTo (va_up (aTo d) (nT x) q, aWo d, aRq d) i = aTo d i := va_up_ne _ _ e
      rw [ha, gT_old _ _ e]
      exact ⟨in1 (h5 i hi2).1, up3 (ne (h5 i hi2).1) (by rw [h2.2]; simp) (by rw [h1.2]; simp) (h5 i hi2).2⟩
  · refine up3 (ne (h6 i hi).1) (by rw [h2.2]; simp) (by rw [h1.2]; simp) ((h6 i hi).2.trans ?_)
    exact congrArg (fun z => Sum.inr (2, z)) (eW_congr (va_up_ne _ _ (Nat.ne_of_lt (h0.2.1 i hi).1)) (fun _ _ => rfl)).symm
  · refine up3 (ne (h7 i hi).1) (by rw [h2.2]; simp) (by rw [h1.2]; simp) ((h7 i hi).2.trans ?_)
    exact congrArg (fun z => Sum.inr (0, z)) (eR_congr (va_up_ne _ _ (Nat.ne_of_lt (h0.2.2 i hi).1)) (fun _ _ => rfl)).symm
theorem cI.pushW (h : cI k d x LL f) (hq : q ∉ LL) (hn : nW x < 60) (w : cs_W) (hw : wTo w < nT x) (hw2 : wRq w = none) : cI k (aTo d, va_up (aWo d) (nW x) q, aRq d) (aW x w) (LL ++ [q]) (va_up (va_up (va_up f q (.inr (2, eW (aTo d) (aRq d) (nW x) w))) (kWs k) (rowE k.2.2.1 60 (va_up (eA (nW x) (aWo d)) (nW x) (some q)))) (kO k) (.inr (3, eO k (aW x w)))) := by
  obtain ⟨h0, h1, h2, h3, h4, h5, h6, h7⟩ := h
  have ne : ∀ {b : Nat}, b ∈ LL → b ≠ q := fun hb z => hq (z ▸ hb)
  have hTO : kWs k ≠ kO k := fun z => by rw [z, h1.2] at h3; cases h3.2
  have in1 : ∀ {b : Nat}, b ∈ LL → b ∈ LL ++ [q] := fun hb => List.mem_append_left _ hb
  refine ⟨⟨⟨h0.1.1, hn, h0.1.2.2⟩, fun i hi => ?_, fun i hi => ⟨(h0.2.2 i hi).1, fun j hj => Nat.lt_succ_of_lt ((h0.2.2 i hi).2 j hj)⟩⟩, ⟨in1 h1.1, va_up_self _ _ _⟩, ⟨in1 h2.1, up3 (ne h2.1) (by rw [h3.2]; simp) (by rw [h1.2]; simp) h2.2⟩, ⟨in1 h3.1, ?_⟩, ⟨in1 h4.1, up3 (ne h4.1) (by rw [h3.2]; simp) (by rw [h1.2]; simp) h4.2⟩, fun i hi => ⟨in1 (h5 i hi).1, up3 (ne (h5 i hi).1) (by rw [h3.2]; simp) (by rw [h1.2]; simp) (h5 i hi).2⟩, fun i hi => ?_, fun i hi => ⟨in1 (h7 i hi).1, ?_⟩⟩
  · by_cases e : i = nW x
    · subst e
      rw [gW_new]
      exact ⟨hw, fun j hj => by rw [hw2] at hj; cases hj⟩
    · rw [gW_old _ _ e]
      exact h0.2.1 i (by have : i < nW x + 1 := hi; omega)
  · rw [up3a hTO, eA_push]
  · by_cases e : i = nW x
    · subst e
      have ha : aWo (aTo d, va_up (aWo d) (nW x) q, aRq d) (nW x) = q := va_up_self _ _ _
      rw [ha, gW_new]
      exact ⟨List.mem_append_right _ (List.mem_singleton.mpr rfl), up3q (fun z => hq (z ▸ h3.1)) (fun z => hq (z ▸ h1.1))⟩
    · have hi2 : i < nW x := by have : i < nW x + 1 := hi; omega
      have ha : aWo (aTo d, va_up (aWo d) (nW x) q, aRq d) i = aWo d i := va_up_ne _ _ e
      rw [ha, gW_old _ _ e]
      exact ⟨in1 (h6 i hi2).1, up3 (ne (h6 i hi2).1) (by rw [h3.2]; simp) (by rw [h1.2]; simp) (h6 i hi2).2⟩
  · refine up3 (ne (h7 i hi).1) (by rw [h3.2]; simp) (by rw [h1.2]; simp) ((h7 i hi).2.trans ?_)
    exact congrArg (fun z => Sum.inr (0, z)) (eR_congr rfl (fun j hj => va_up_ne _ _ (Nat.ne_of_lt ((h0.2.2 i hi).2 j hj)))).symm
theorem cI.pushR (h : cI k d x LL f) (hq : q ∉ LL) (hn : nR x < 100) (r : cs_R) (hr : rTo r < nT x) (hr2 : rWk r = none) : cI k (aTo d, aWo d, va_up (aRq d) (nR x) q) (aR x r) (LL ++ [q]) (va_up (va_up (va_up f q (.inr (0, eR (aTo d) (aWo d) (nR x) r))) (kRs k) (rowE k.2.2.2 100 (va_up (eA (nR x) (aRq d)) (nR x) (some q)))) (kO k) (.inr (3, eO k (aR x r)))) := by
  obtain ⟨h0, h1, h2, h3, h4, h5, h6, h7⟩ := h
  have ne : ∀ {b : Nat}, b ∈ LL → b ≠ q := fun hb z => hq (z ▸ hb)
  have hTO : kRs k ≠ kO k := fun z => by rw [z, h1.2] at h4; cases h4.2
  have in1 : ∀ {b : Nat}, b ∈ LL → b ∈ LL ++ [q] := fun hb => List.mem_append_left _ hb
  refine ⟨⟨⟨h0.1.1, h0.1.2.1, hn⟩, fun i hi => ⟨(h0.2.1 i hi).1, fun j hj => Nat.lt_succ_of_lt ((h0.2.1 i hi).2 j hj)⟩, fun i hi => ?_⟩, ⟨in1 h1.1, va_up_self _ _ _⟩, ⟨in1 h2.1, up3 (ne h2.1) (by rw [h4.2]; simp) (by rw [h1.2]; simp) h2.2⟩, ⟨in1 h3.1, up3 (ne h3.1) (by rw [h4.2]; simp) (by rw [h1.2]; simp) h3.2⟩, ⟨in1 h4.1, ?_⟩, fun i hi => ⟨in1 (h5 i hi).1, up3 (ne (h5 i hi).1) (by rw [h4.2]; simp) (by rw [h1.2]; simp) (h5 i hi).2⟩, fun i hi => ⟨in1 (h6 i hi).1, ?_⟩, fun i hi => ?_⟩
  · by_cases e : i = nR x
    · subst e
      rw [gR_new]
      exact ⟨hr, fun j hj => by rw [hr2] at hj; cases hj⟩
    · rw [gR_old _ _ e]
      exact h0.2.2 i (by have : i < nR x + 1 := hi; omega)
  · rw [up3a hTO, eA_push]
  · refine up3 (ne (h6 i hi).1) (by rw [h4.2]; simp) (by rw [h1.2]; simp) ((h6 i hi).2.trans ?_)
    exact congrArg (fun z => Sum.inr (2, z)) (eW_congr rfl (fun j hj => va_up_ne _ _ (Nat.ne_of_lt ((h0.2.1 i hi).2 j hj)))).symm
  · by_cases e : i = nR x
    · subst e
      have ha : aRq (aTo d, aWo d, va_up (aRq d) (nR x) q) (nR x) = q := va_up_self _ _ _
      rw [ha, gR_new]
      exact ⟨List.mem_append_right _ (List.mem_singleton.mpr rfl), up3q (fun z => hq (z ▸ h4.1)) (fun z => hq (z ▸ h1.1))⟩
    · have hi2 : i < nR x := by have : i < nR x + 1 := hi; omega
      have ha : aRq (aTo d, aWo d, va_up (aRq d) (nR x) q) i = aRq d i := va_up_ne _ _ e
      rw [ha, gR_old _ _ e]
      exact ⟨in1 (h7 i hi2).1, up3 (ne (h7 i hi2).1) (by rw [h4.2]; simp) (by rw [h1.2]; simp) (h7 i hi2).2⟩
end PU
/-- the place that a number names -/
def lk (n : Nat) (v : Int32) : Option Nat := if 0 ≤ v.toInt ∧ v.toInt < n then some v.toInt.toNat else none
theorem lk_in {n i : Nat} (h : i < n) (hn : n ≤ 100) : lk n (nI i) = some i := by
  have h1 := nI_toInt (n := i) (by omega)
  unfold lk
  rw [h1, if_pos ⟨by omega, by omega⟩]
  rfl
theorem lk_out {n : Nat} {v : Int32} (h : ∀ i : Nat, i < n → v ≠ nI i) : lk n v = none := by
  unfold lk
  refine if_neg (fun q => ?_)
  refine h v.toInt.toNat (by omega) ?_
  apply Int32.toInt_inj.mp
  have h3 : v.toInt < 2 ^ 31 := Int32.toInt_lt v
  rw [nI_toInt (by omega)]
  omega
theorem lk_some {n i : Nat} {v : Int32} (h : lk n v = some i) (hn : n ≤ 100) : i < n ∧ v = nI i := by
  unfold lk at h
  split at h
  · next q =>
    cases h
    refine ⟨by omega, Int32.toInt_inj.mp ?_⟩
    rw [nI_toInt (by omega)]
    omega
  · cases h
