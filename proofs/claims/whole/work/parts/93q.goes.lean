/-! goes, on both sides of the theory -/
section S93q
set_option linter.unusedVariables false
set_option linter.unusedSimpArgs false
theorem why0 {K : Int → Int32} {x p : Int} (h : whyZ K x p = 0) : (0 ≤ x ∧ x < tI (K 3)) ∧ (0 ≤ p ∧ p < tI (K 1)) ∧ wayZ K (tI (K (38 + 2 * x))) p ≠ -1 := by
  unfold whyZ at h
  by_cases h1 : 0 ≤ x ∧ x < tI (K 3)
  · rw [if_neg (fun z => z h1)] at h
    by_cases h2 : 0 ≤ p ∧ p < tI (K 1)
    · by_cases h3 : wayZ K (tI (K (38 + 2 * x))) p = -1
      · rw [if_pos (Or.inr h3)] at h; omega
      · exact ⟨h1, h2, h3⟩
    · rw [if_pos (Or.inl h2)] at h; omega
  · rw [if_pos h1] at h; omega
theorem why0_of {K : Int → Int32} {x p : Int} (h1 : 0 ≤ x ∧ x < tI (K 3)) (h2 : 0 ≤ p ∧ p < tI (K 1)) (h3 : wayZ K (tI (K (38 + 2 * x))) p ≠ -1) : whyZ K x p = 0 := by
  unfold whyZ
  rw [if_neg (fun z => z h1), if_neg (fun z => z.elim (fun q => q h2) h3)]
theorem sumN_one {f g : Nat → Int} {n k : Nat} (hk : k < n) (h1 : g k = f k + 1) (h2 : ∀ j, j < n → j ≠ k → g j = f j) : sumN g n = sumN f n + 1 := by
  induction n with
  | zero => omega
  | succ n ih =>
    unfold sumN
    by_cases e : k = n
    · subst e
      rw [h1, sumN_congr (f := g) (g := f) (n := k) (fun j hj => h2 j (by omega) (by omega))]; omega
    · rw [ih (by omega) (fun j hj => h2 j (by omega)), h2 n (by omega) (by omega)]; omega
theorem sumN_le {f : Nat → Int} {n k : Nat} (hk : k < n) (h : ∀ j, j < n → 0 ≤ f j) : f k ≤ sumN f n ∧ 0 ≤ sumN f n := by
  induction n with
  | zero => omega
  | succ n ih =>
    unfold sumN
    have hn := h n (by omega)
    by_cases e : k = n
    · subst e
      have : ∀ m, m ≤ k → 0 ≤ sumN f m := by
        intro m
        induction m with
        | zero => intro _; exact Int.le_refl _
        | succ m im => intro hm; unfold sumN; have := im (by omega); have := h m (by omega); omega
      have := this k (Nat.le_refl _)
      omega
    · have := ih (by omega) (fun j hj => h j (by omega))
      omega
theorem sumN_nn {f : Nat → Int} {n : Nat} (h : ∀ j, j < n → 0 ≤ f j) : 0 ≤ sumN f n := by
  induction n with
  | zero => exact Int.le_refl _
  | succ n ih => unfold sumN; have := ih (fun j hj => h j (by omega)); have := h n (by omega); omega
theorem steps_nn {K : Int → Int32} (hI : InvK K) : 0 ≤ stepsZ K := by
  have b3 := hI.1.2.2.2.1
  exact sumN_nn fun j hj => (hI.2.2.1 (j : Int) (by omega) (by omega)).2.2.2.2.1
theorem made_le {K : Int → Int32} (hI : InvK K) {x : Int} (hx : 0 ≤ x ∧ x < tI (K 3)) : 0 ≤ tI (K (39 + 2 * x)) ∧ tI (K (39 + 2 * x)) ≤ stepsZ K := by
  have b3 := hI.1.2.2.2.1
  obtain ⟨n, rfl⟩ : ∃ n : Nat, x = (n : Int) := ⟨x.toNat, by omega⟩
  have h := sumN_le (f := fun x : Nat => tI (K (39 + 2 * x))) (n := (tI (K 3)).toNat) (k := n) (by omega) (fun j hj => (hI.2.2.1 (j : Int) (by omega) (by omega)).2.2.2.2.1)
  exact ⟨(hI.2.2.1 (n : Int) (by omega) (by omega)).2.2.2.2.1, h.1⟩
theorem steps_congr {K K' : Int → Int32} (h3 : K' 3 = K 3) (h : ∀ y, 0 ≤ y → y < tI (K 3) → K' (39 + 2 * y) = K (39 + 2 * y)) : stepsZ K' = stepsZ K := by
  unfold stepsZ; rw [h3]
  exact sumN_congr fun j hj => by rw [h (j : Int) (by omega) (by omega)]
/-- the row ahead of a print's coming -/
theorem pre_lo {K : Int → Int32} (hI : InvK K) {v x j : Int} (hj : j ≠ 5 ∧ (j < 46 ∨ (166 ≤ j ∧ j < 169) ∨ (169 < j ∧ j < 210))) : fulK (remK K v x) j = K j := by
  obtain ⟨⟨b0, b1, b2, b3, b4, b5, b6, b7, b8, b9⟩, -⟩ := hI
  have lo : ∀ {j : Int}, (j < 169 ∨ (169 < j ∧ j < 210)) → remK K v x j = K j := fun h => remK_lo h ⟨b9.1, b8.1⟩
  unfold fulK
  by_cases e : tI (remK K v x 5) = tI (remK K v x 4)
  · rw [if_pos e, losK_lo (by omega) (by omega), lo (by omega)]
  · rw [if_neg e, lo (by omega)]
theorem pre_inv {K : Int → Int32} (hI : InvK K) {v x : Int} (hv : 0 ≤ v ∧ v < 2 * tI (K 2)) (hx : 0 ≤ x ∧ x < tI (K 3)) : InvK (fulK (remK K v x)) ∧ tI (fulK (remK K v x) 5) < tI (K 4) ∧ tI (fulK (remK K v x) 5) = if tI (K 5) = tI (K 4) then tI (K 5) - 1 else tI (K 5) := by
  have hI2 := InvK_rem hI hv hx
  obtain ⟨⟨b0, b1, b2, b3, b4, b5, b6, b7, b8, b9⟩, -⟩ := hI
  have e5 : remK K v x 5 = K 5 := remK_lo (by omega) ⟨b9.1, b8.1⟩
  have e4 : remK K v x 4 = K 4 := remK_lo (by omega) ⟨b9.1, b8.1⟩
  unfold fulK
  rw [e5, e4]
  by_cases e : tI (K 5) = tI (K 4)
  · rw [if_pos e, if_pos e]
    have hn : 0 ≤ (1 : Int) ∧ 1 ≤ tI (remK K v x 5) := by rw [e5]; omega
    refine ⟨InvK_los hI2 hn, ?_, ?_⟩
    · rw [losK_5 hn, e5]; omega
    · rw [losK_5 hn, e5]
  · rw [if_neg e, if_neg e]
    exact ⟨hI2, by rw [e5]; omega, by rw [e5]⟩
theorem stp_inv {K : Int → Int32} (hI : InvK K) {x p : Int} (hw : whyZ K x p = 0) (hst : stepsZ K < 2000000000) : InvK (stpK K x p) ∧ stepsZ (stpK K x p) = stepsZ K + 1 := by
  obtain ⟨h1, h2, h3⟩ := why0 hw
  obtain ⟨hv, hf, ht⟩ := wayZ_ends hI h3
  have hA := hI.1
  obtain ⟨b0, b1, b2, b3, b4, b5, b6, b7, b8, b9⟩ := hI.1
  obtain ⟨p1, p2, p3⟩ := pre_inv hI hv h1
  have lo : ∀ {j : Int}, (j ≠ 5 ∧ (j < 46 ∨ (166 ≤ j ∧ j < 169) ∨ (169 < j ∧ j < 210))) → fulK (remK K (wayZ K (tI (K (38 + 2 * x))) p) x) j = K j := fun h => pre_lo hI h
  have hm := made_le hI h1
  have hcg : ∀ j, j = 2 ∨ (6 ≤ j ∧ j < 38) → fulK (remK K (wayZ K (tI (K (38 + 2 * x))) p) x) j = K j := fun j h => lo (by omega)
  have q5 : 0 ≤ tI (fulK (remK K (wayZ K (tI (K (38 + 2 * x))) p) x) 5) := p1.1.2.2.2.2.2.1.1
  refine ⟨InvK_adm (K := fulK (remK K (wayZ K (tI (K (38 + 2 * x))) p) x)) p1 (by rw [lo (j := 4) (by omega)]; exact p2) (by rw [lo (j := 2) (by omega)]; exact hv) (by rw [lo (j := 3) (by omega)]; exact h1) (by rw [lo (j := 1) (by omega)]; exact h2)
    (by rw [fromZ_congr hcg (by omega), lo (by omega)]; exact hf) (by rw [toZ_congr hcg (by omega)]; exact ht) (by rw [lo (by omega)]; omega), ?_⟩
  have hx4 : 0 ≤ x ∧ x < 4 := by omega
  have e3 : stpK K x p 3 = K 3 := (admK_lo (by omega) hx4 q5 (by omega)).trans (lo (by omega))
  show sumN _ _ = _
  rw [e3]
  obtain ⟨n, hn⟩ : ∃ n : Nat, x = (n : Int) := ⟨x.toNat, by omega⟩
  refine sumN_one (k := n) (by omega) ?_ (fun j hj0 hj => ?_)
  · show tI (stpK K x p (39 + 2 * (n : Int))) = tI (K (39 + 2 * (n : Int))) + 1
    rw [← hn]
    refine (congrArg tI (admK_s hx4 q5)).trans ?_
    rw [lo (by omega), tI_zI (by omega)]
  · show tI (stpK K x p (39 + 2 * (j : Int))) = tI (K (39 + 2 * (j : Int)))
    refine congrArg tI ?_
    exact (admK_lo (by omega) hx4 q5 (by omega)).trans (lo (by omega))
theorem go_inv {K : Int → Int32} (hI : InvK K) {c : Bool} {x p : Int} (hw : whyZ K x p = 0) (hst : stepsZ K < 2000000000) : InvK (goK c K x p) ∧ stepsZ (goK c K x p) = stepsZ K + 1 := by
  obtain ⟨h1, h2⟩ := stp_inv hI hw hst
  have b5 := h1.1.2.2.2.2.2.1
  have b7 := hI.1.2.2.2.2.2.2.2.1
  unfold goK
  by_cases e : c = false ∧ 0 < tI (K 166) ∧ stepsZ (stpK K x p) % tI (K 166) = 0
  · rw [if_pos e]
    refine ⟨InvK_los h1 (by split <;> omega), ?_⟩
    rw [← h2]
    exact steps_congr (losK_lo (by omega) (by omega)) (fun y y0 y1 => by have := h1.1.2.2.2.1; exact losK_lo (by omega) (by omega))
  · rw [if_neg e]; exact ⟨h1, h2⟩
/-- what a step leaves as it was -/
theorem go_lo {K : Int → Int32} (hI : InvK K) {c : Bool} {x p j : Int} (hx : 0 ≤ x ∧ x < 4) (hw : whyZ K x p = 0) (hj : j < 38 ∧ j ≠ 5 ∨ (166 ≤ j ∧ j < 169) ∨ (169 < j ∧ j < 210) ∨ (38 ≤ j ∧ j < 46 ∧ j ≠ 38 + 2 * x ∧ j ≠ 39 + 2 * x)) : goK c K x p j = K j := by
  obtain ⟨h1, h2, h3⟩ := why0 hw
  obtain ⟨hv, hf, ht⟩ := wayZ_ends hI h3
  obtain ⟨p1, p2, p3⟩ := pre_inv hI hv h1
  have b4 := hI.1.2.2.2.2.1
  have b5 := hI.1.2.2.2.2.2.1
  have q5 : 0 ≤ tI (fulK (remK K (wayZ K (tI (K (38 + 2 * x))) p) x) 5) := p1.1.2.2.2.2.2.1.1
  have q6 : tI (fulK (remK K (wayZ K (tI (K (38 + 2 * x))) p) x) 5) < 60 := by omega
  have e : stpK K x p j = K j := (admK_lo (by omega) hx q5 (by omega)).trans (pre_lo hI (by omega))
  unfold goK
  by_cases g : c = false ∧ 0 < tI (K 166) ∧ stepsZ (stpK K x p) % tI (K 166) = 0
  · rw [if_pos g, losK_lo (by omega) (by omega)]; exact e
  · rw [if_neg g]; exact e
end S93q
