/-! theory of turns, of keep -/
section S93w
set_option linter.unusedVariables false
set_option linter.unusedSimpArgs false
theorem remK_set {K : Int → Int32} {v x j : Int} {z : Int32} (hj : 170 ≤ j ∧ j < 210) (h9 : 0 ≤ tI (K 169) ∧ 1 ≤ tI (K 168)) : remK (uC K j z) v x = uC (remK K v x) j z := by
  have e1 : uC K j z 169 = K 169 := uC_ne (by omega)
  have e2 : uC K j z 168 = K 168 := uC_ne (by omega)
  funext i
  by_cases e : i = j
  · rw [e, uC_at, remK_lo (by omega) (by rw [e1, e2]; exact h9), uC_at]
  · rw [uC_ne e]
    unfold remK
    rw [e1, e2]
    by_cases g : tI (K 169) = tI (K 168)
    · rw [if_pos g, if_pos g]; (try dsimp only)
      by_cases g1 : 210 ≤ i ∧ i < 208 + 2 * tI (K 169)
      · rw [if_pos g1, if_pos g1, uC_ne (by omega)]
      · rw [if_neg g1, if_neg g1, uC_ne e]
    · rw [if_neg g, if_neg g]; (try dsimp only); rw [uC_ne e]
theorem losK_set {K : Int → Int32} {n j : Int} {z : Int32} (hj : 170 ≤ j ∧ j < 210) (h5 : tI (K 5) ≤ 60) (hn : 0 ≤ n) : losK (uC K j z) n = uC (losK K n) j z := by
  have e1 : uC K j z 5 = K 5 := uC_ne (by omega)
  funext i
  by_cases e : i = j
  · rw [e, uC_at, losK_lo (by omega) (by omega), uC_at]
  · rw [uC_ne e]
    unfold losK
    rw [e1]
    by_cases g : i = 5
    · rw [if_pos g, if_pos g]
    · rw [if_neg g, if_neg g]
      by_cases g1 : 46 ≤ i ∧ i < 166
      · rw [if_pos g1, if_pos g1]
        by_cases g2 : i < 46 + 2 * (tI (K 5) - n)
        · rw [if_pos g2, if_pos g2, uC_ne (by omega)]
        · rw [if_neg g2, if_neg g2]
      · rw [if_neg g1, if_neg g1, uC_ne e]
theorem admK_set {K : Int → Int32} {v x p j : Int} {z : Int32} (hj : 170 ≤ j ∧ j < 210) (hx : 0 ≤ x ∧ x < 4) (h5 : 0 ≤ tI (K 5) ∧ tI (K 5) ≤ 60) : admK (uC K j z) v x p = uC (admK K v x p) j z := by
  have e1 : uC K j z 5 = K 5 := uC_ne (by omega)
  funext i
  by_cases e : i = j
  · rw [e, uC_at, admK_lo (by omega) hx (by rw [e1]; exact h5.1) (by rw [e1]; omega), uC_at]
  · rw [uC_ne e]
    unfold admK movK addK
    rw [e1]
    by_cases g1 : i = 39 + 2 * x
    · rw [g1, uC_at, uC_at]; (try dsimp only)
      rw [uC_ne (show 39 + 2 * x ≠ j by omega)]
    · rw [uC_ne g1, uC_ne g1]
      by_cases g2 : i = 38 + 2 * x
      · rw [g2, uC_at, uC_at]
      · rw [uC_ne g2, uC_ne g2]; (try dsimp only); rw [uC_ne e]
theorem pathZ_set {K : Int → Int32} {j a b : Int} {z : Int32} (h2 : 0 ≤ tI (K 2) ∧ tI (K 2) ≤ 16) (hj : 170 ≤ j) : wayZ (uC K j z) a b = wayZ K a b := wayZ_congr h2 (fun i hi => uC_ne (by omega)) a b
theorem why_set {K : Int → Int32} {j x p : Int} {z : Int32} (h2 : 0 ≤ tI (K 2) ∧ tI (K 2) ≤ 16) (h3 : tI (K 3) ≤ 4) (hj : 170 ≤ j) : whyZ (uC K j z) x p = whyZ K x p := by
  unfold whyZ
  rw [uC_ne (show (3 : Int) ≠ j by omega), uC_ne (show (1 : Int) ≠ j by omega)]
  by_cases h1 : 0 ≤ x ∧ x < tI (K 3)
  · rw [uC_ne (show 38 + 2 * x ≠ j by omega), pathZ_set h2 hj]
  · rw [if_pos h1, if_pos h1]
theorem steps_set {K : Int → Int32} {j : Int} {z : Int32} (h3 : tI (K 3) ≤ 4) (hj : 170 ≤ j) : stepsZ (uC K j z) = stepsZ K := steps_congr (uC_ne (by omega)) (fun y y0 y1 => uC_ne (by omega))
theorem stp_set {K : Int → Int32} (hI : InvK K) {j x p : Int} {z : Int32} (hj : 170 ≤ j ∧ j < 210) (hw : whyZ K x p = 0) : stpK (uC K j z) x p = uC (stpK K x p) j z := by
  obtain ⟨h1, h2, h3⟩ := why0 hw
  obtain ⟨hv, hf, ht⟩ := wayZ_ends hI h3
  obtain ⟨p1, p2, p3⟩ := pre_inv hI hv h1
  obtain ⟨b0, b1, b2, b3, b4, b5, b6, b7, b8, b9⟩ := hI.1
  have q5 := p1.1.2.2.2.2.2.1.1
  have e5 : remK K (wayZ K (tI (K (38 + 2 * x))) p) x 5 = K 5 := remK_lo (by omega) ⟨b9.1, b8.1⟩
  have ef : fulK (remK (uC K j z) (wayZ K (tI (K (38 + 2 * x))) p) x) = uC (fulK (remK K (wayZ K (tI (K (38 + 2 * x))) p) x)) j z := by
    rw [remK_set hj ⟨b9.1, b8.1⟩]
    unfold fulK
    rw [uC_ne (show (5 : Int) ≠ j by omega), uC_ne (show (4 : Int) ≠ j by omega)]
    by_cases e : tI (remK K (wayZ K (tI (K (38 + 2 * x))) p) x 5) = tI (remK K (wayZ K (tI (K (38 + 2 * x))) p) x 4)
    · rw [if_pos e, if_pos e]; exact losK_set hj (by rw [e5]; omega) (by omega)
    · rw [if_neg e, if_neg e]
  show admK _ _ _ _ = uC (admK _ _ _ _) j z
  rw [uC_ne (show 38 + 2 * x ≠ j by omega), pathZ_set b2 (by omega), ef]
  exact admK_set hj (by omega) (by omega)
theorem go_set {K : Int → Int32} (hI : InvK K) {c : Bool} {j x p : Int} {z : Int32} (hj : 170 ≤ j ∧ j < 210) (hw : whyZ K x p = 0) (hst : stepsZ K < 2000000000) : goK c (uC K j z) x p = uC (goK c K x p) j z := by
  obtain ⟨g1, g2⟩ := stp_inv hI hw hst
  obtain ⟨b0, b1, b2, b3, b4, b5, b6, b7, b8, b9⟩ := hI.1
  have s5 := g1.1.2.2.2.2.2.1
  have s4 := g1.1.2.2.2.2.1
  unfold goK
  rw [stp_set hI hj hw, uC_ne (show (166 : Int) ≠ j by omega), uC_ne (show (167 : Int) ≠ j by omega), uC_ne (show (5 : Int) ≠ j by omega), steps_set g1.1.2.2.2.1.2 (by omega)]
  by_cases e : c = false ∧ 0 < tI (K 166) ∧ stepsZ (stpK K x p) % tI (K 166) = 0
  · rw [if_pos e, if_pos e]; exact losK_set hj (by omega) (by split <;> omega)
  · rw [if_neg e, if_neg e]
/-- the next of a beat -/
theorem InvK_next {K : Int → Int32} (hI : InvK K) {x z : Int} (hx : 0 ≤ x ∧ x < 4) (hz : 0 ≤ z ∧ z < tI (K (170 + 9 * x))) : InvK (uC K (206 + x) (zI z)) := by
  obtain ⟨⟨b0, b1, b2, b3, b4, b5, b6, b7, b8, b9⟩, hP, hB, r1, r2, r3, r4⟩ := hI
  have hBx := (hB x hx.1 hx.2).1
  have lo : ∀ {j : Int}, (j < 206 ∨ 210 ≤ j) → uC K (206 + x) (zI z) j = K j := fun h => uC_ne (by omega)
  have hcg : ∀ j, j = 2 ∨ (6 ≤ j ∧ j < 38) → uC K (206 + x) (zI z) j = K j := fun j h => lo (by omega)
  have eW : ∀ i : Int, 0 ≤ i → i < tI (K 5) → prW (uC K (206 + x) (zI z)) i = prW K i := fun i h0 h1 => by unfold prW; rw [lo (by omega)]
  have eO : ∀ i : Int, 0 ≤ i → i < tI (K 5) → prO (uC K (206 + x) (zI z)) i = prO K i := fun i h0 h1 => by unfold prO; rw [lo (by omega)]
  refine ⟨⟨?_, ?_, ?_, ?_, ?_, ?_, ?_, ?_, ?_, ?_⟩, InvP_congr b2 (lo (by omega)) hcg hP, ?_, ?_, ?_, ?_, ?_⟩
  · rw [lo (by omega)]; exact b0
  · rw [lo (by omega)]; exact b1
  · rw [lo (by omega)]; exact b2
  · rw [lo (by omega)]; exact b3
  · rw [lo (by omega)]; exact b4
  · rw [lo (by omega), lo (by omega)]; exact b5
  · rw [lo (by omega)]; exact b6
  · rw [lo (by omega)]; exact b7
  · rw [lo (by omega)]; exact b8
  · rw [lo (by omega), lo (by omega)]; exact b9
  · intro y hy0 hy4
    obtain ⟨g1, g2, g3, g4, g5, g6⟩ := hB y hy0 hy4
    rw [lo (j := 170 + 9 * y) (by omega), lo (j := 39 + 2 * y) (by omega), lo (j := 38 + 2 * y) (by omega), lo (j := 1) (by omega), lo (j := 3) (by omega)]
    refine ⟨g1, fun k k0 k1 => ?_, ?_, ?_, g5, g6⟩
    · rw [lo (by omega)]; exact g2 k k0 k1
    · by_cases e : y = x
      · rw [e, uC_at, tI_zI (by omega)]; exact hz.1
      · rw [uC_ne (by omega)]; exact g3
    · by_cases e : y = x
      · rw [e, uC_at, tI_zI (by omega)]; exact Or.inl hz.2
      · rw [uC_ne (by omega)]; exact g4
  · intro i i0 i1
    rw [lo (by omega)] at i1
    rw [eW i i0 i1, eO i i0 i1, lo (j := 2) (by omega), lo (j := 3) (by omega)]; exact r1 i i0 i1
  · intro i i0 i1
    rw [lo (by omega)] at i1
    have a1 : woW (uC K (206 + x) (zI z)) i = woW K i := by unfold woW; rw [lo (by omega)]
    have a2 : woO (uC K (206 + x) (zI z)) i = woO K i := by unfold woO; rw [lo (by omega)]
    rw [a1, a2, lo (j := 2) (by omega), lo (j := 3) (by omega)]; exact r2 i i0 i1
  · intro i i0 i1 hno
    rw [lo (by omega)] at i1 hno
    have hr := r1 i i0 i1
    rw [eW i i0 i1, eO i i0 i1, toZ_congr hcg (by omega), lo (by omega)]
    refine r3 i i0 i1 (fun j h1 h2 => ?_)
    have := hno j h1 h2
    rw [eO j (by omega) h2, eO i i0 i1] at this
    exact this
  · intro i j i0 hij j1 he hno
    rw [lo (by omega)] at j1
    have hr := r1 i i0 (by omega)
    have hr2 := r1 j (by omega) j1
    rw [eO i i0 (by omega), eO j (by omega) j1] at he
    rw [eW i i0 (by omega), eW j (by omega) j1, toZ_congr hcg (by omega), fromZ_congr hcg (by omega)]
    refine r4 i j i0 hij j1 he (fun k h1 h2 => ?_)
    have := hno k h1 h2
    rw [eO k (by omega) (by omega), eO i i0 (by omega)] at this
    exact this
/-! turns -/
def nxtZ (K : Int → Int32) (x : Int) : Int := (tI (K (206 + x)) + 1) % tI (K (170 + 9 * x))
def btP (K : Int → Int32) (x : Int) : Int := tI (K (171 + 9 * x + tI (K (206 + x))))
def trn1 (K : Int → Int32) (x : Int) : Int → Int32 := if tI (K (170 + 9 * x)) = 0 then K else if whyZ K x (btP K x) = 0 then goK false (uC K (206 + x) (zI (nxtZ K x))) x (btP K x) else uC K (206 + x) (zI (nxtZ K x))
def trnK (K : Int → Int32) : Nat → Int → Int32
  | 0 => K
  | n + 1 => trn1 (trnK K n) n
theorem nxt_rg {K : Int → Int32} (hI : InvK K) {x : Int} (hx : 0 ≤ x ∧ x < 4) (h : ¬ tI (K (170 + 9 * x)) = 0) : 0 ≤ nxtZ K x ∧ nxtZ K x < tI (K (170 + 9 * x)) := by
  have hB := hI.2.2.1 x hx.1 hx.2
  exact ⟨Int.emod_nonneg _ h, Int.emod_lt_of_pos _ (by omega)⟩
theorem trn1_inv {K : Int → Int32} (hI : InvK K) {x : Int} (hx : 0 ≤ x ∧ x < tI (K 3)) (hst : stepsZ K < 2000000000) : InvK (trn1 K x) ∧ stepsZ (trn1 K x) = stepsZ K + (if tI (K (170 + 9 * x)) ≠ 0 ∧ whyZ K x (btP K x) = 0 then 1 else 0) ∧ (∀ j, (j < 38 ∧ j ≠ 5) ∨ (166 ≤ j ∧ j < 169) ∨ (170 ≤ j ∧ j < 206) → trn1 K x j = K j) := by
  have b2 := hI.1.2.2.1
  have b3 := hI.1.2.2.2.1
  unfold trn1
  by_cases e : tI (K (170 + 9 * x)) = 0
  · rw [if_pos e, if_neg (fun z => z.1 e)]; exact ⟨hI, by omega, fun j _ => rfl⟩
  · rw [if_neg e]
    have hn := InvK_next hI (by omega) (nxt_rg hI (by omega) e)
    have hw := why_set (K := K) (j := 206 + x) (x := x) (p := btP K x) (z := zI (nxtZ K x)) b2 b3.2 (by omega)
    have hs := steps_set (K := K) (j := 206 + x) (z := zI (nxtZ K x)) b3.2 (by omega)
    by_cases g : whyZ K x (btP K x) = 0
    · rw [if_pos g, if_pos ⟨e, g⟩]
      have := go_inv hn (c := false) (x := x) (p := btP K x) (by rw [hw]; exact g) (by rw [hs]; exact hst)
      refine ⟨this.1, by rw [this.2, hs], fun j hj => ?_⟩
      rw [go_lo hn (by omega) (by rw [hw]; exact g) (by omega), uC_ne (by omega)]
    · rw [if_neg g, if_neg (fun z => g z.2)]
      exact ⟨hn, by rw [hs]; omega, fun j hj => uC_ne (by omega)⟩
theorem trnK_inv {K : Int → Int32} (hI : InvK K) (hst : stepsZ K < 1999999000) : ∀ n : Nat, (n : Int) ≤ tI (K 3) → InvK (trnK K n) ∧ stepsZ K ≤ stepsZ (trnK K n) ∧ stepsZ (trnK K n) ≤ stepsZ K + n ∧ (∀ j, (j < 38 ∧ j ≠ 5) ∨ (166 ≤ j ∧ j < 169) ∨ (170 ≤ j ∧ j < 206) → trnK K n j = K j) := by
  have b3 := hI.1.2.2.2.1
  intro n
  induction n with
  | zero => intro _; exact ⟨hI, Int.le_refl _, by show stepsZ K ≤ stepsZ K + ((0 : Nat) : Int); omega, fun j _ => rfl⟩
  | succ n ih =>
    intro hn
    obtain ⟨i1, i2, i3, i4⟩ := ih (by omega)
    have e3 : trnK K n 3 = K 3 := i4 3 (by omega)
    obtain ⟨j1, j2, j3⟩ := trn1_inv i1 (x := (n : Int)) (by rw [e3]; omega) (by omega)
    show InvK (trn1 (trnK K n) n) ∧ _
    refine ⟨j1, ?_, ?_, fun j hj => (j3 j hj).trans (i4 j hj)⟩
    · show stepsZ K ≤ stepsZ (trn1 (trnK K n) n); rw [j2]; split <;> omega
    · show stepsZ (trn1 (trnK K n) n) ≤ _; rw [j2]; split <;> omega
end S93w
