/-! what a step leaves, from the newest on -/
section S93t
set_option linter.unusedVariables false
set_option linter.unusedSimpArgs false
theorem pre_hi {K : Int → Int32} {v x j : Int} (hj : 166 ≤ j) : fulK (remK K v x) j = remK K v x j := by
  unfold fulK
  by_cases e : tI (remK K v x 5) = tI (remK K v x 4)
  · rw [if_pos e, losK_lo (by omega) (by omega)]
  · rw [if_neg e]
theorem pre_pr {K : Int → Int32} (hI : InvK K) {v x j s : Int} (hv : 0 ≤ v ∧ v < 2 * tI (K 2)) (hx : 0 ≤ x ∧ x < tI (K 3)) (hs : s = if tI (K 5) = tI (K 4) then 1 else 0) (hj : 46 ≤ j ∧ j < 46 + 2 * (tI (K 5) - s)) : fulK (remK K v x) j = K (j + 2 * s) := by
  obtain ⟨⟨b0, b1, b2, b3, b4, b5, b6, b7, b8, b9⟩, -⟩ := hI
  have lo : ∀ {j : Int}, (j < 169 ∨ (169 < j ∧ j < 210)) → remK K v x j = K j := fun h => remK_lo h ⟨b9.1, b8.1⟩
  have e5 : remK K v x 5 = K 5 := lo (by omega)
  have e4 : remK K v x 4 = K 4 := lo (by omega)
  unfold fulK
  rw [e5, e4]
  by_cases e : tI (K 5) = tI (K 4)
  · rw [if_pos e] at hs ⊢
    subst hs
    rw [losK_pr (by rw [e5]; omega) (by rw [e5]; omega) (by omega), lo (by omega)]
  · rw [if_neg e] at hs ⊢
    subst hs
    rw [lo (by omega)]; exact congrArg K (by omega)
/-- how many prints a step of storms takes -/
def stmZ (K : Int → Int32) (c : Bool) (n1 : Int) : Int := if c = false ∧ 0 < tI (K 166) ∧ (stepsZ K + 1) % tI (K 166) = 0 then (if n1 ≤ tI (K 167) then n1 else tI (K 167)) else 0
def newN (K : Int → Int32) : Int := if tI (K 5) = tI (K 4) then tI (K 5) else tI (K 5) + 1
theorem go_top {K : Int → Int32} (hI : InvK K) {c : Bool} {x p : Int} (hw : whyZ K x p = 0) (hst : stepsZ K < 2000000000) :
    tI (goK c K x p 5) = newN K - stmZ K c (newN K) ∧ (0 ≤ stmZ K c (newN K) ∧ stmZ K c (newN K) ≤ newN K) ∧
    (∀ k, 0 ≤ k → k < tI (goK c K x p 5) → goK c K x p (46 + 2 * (tI (goK c K x p 5) - 1 - k)) = (if k = 0 then zI (wayZ K (tI (K (38 + 2 * x))) p) else K (46 + 2 * (tI (K 5) - k))) ∧ goK c K x p (47 + 2 * (tI (goK c K x p 5) - 1 - k)) = (if k = 0 then zI x else K (47 + 2 * (tI (K 5) - k)))) ∧
    tI (goK c K x p 169) = (if tI (K 169) = tI (K 168) then tI (K 169) else tI (K 169) + 1) ∧
    (∀ k, 0 ≤ k → k < tI (goK c K x p 169) → goK c K x p (210 + 2 * (tI (goK c K x p 169) - 1 - k)) = (if k = 0 then zI (wayZ K (tI (K (38 + 2 * x))) p) else K (210 + 2 * (tI (K 169) - k))) ∧ goK c K x p (211 + 2 * (tI (goK c K x p 169) - 1 - k)) = (if k = 0 then zI x else K (211 + 2 * (tI (K 169) - k)))) ∧
    goK c K x p (38 + 2 * x) = zI p ∧ goK c K x p (39 + 2 * x) = zI (tI (K (39 + 2 * x)) + 1) := by
  obtain ⟨h1, h2, h3⟩ := why0 hw
  obtain ⟨hv, hf, ht⟩ := wayZ_ends hI h3
  obtain ⟨p1, p2, p3⟩ := pre_inv hI hv h1
  obtain ⟨g1, g2⟩ := stp_inv hI hw hst
  obtain ⟨b0, b1, b2, b3, b4, b5, b6, b7, b8, b9⟩ := hI.1
  obtain ⟨v, hvv⟩ : ∃ v, v = wayZ K (tI (K (38 + 2 * x))) p := ⟨_, rfl⟩
  rw [← hvv] at hv hf ht p1 p2 p3 ⊢
  have hx : 0 ≤ x ∧ x < 4 := by omega
  obtain ⟨s, hs⟩ : ∃ s : Int, s = if tI (K 5) = tI (K 4) then 1 else 0 := ⟨_, rfl⟩
  have hs01 : (s = 0 ∧ tI (K 5) ≠ tI (K 4)) ∨ (s = 1 ∧ tI (K 5) = tI (K 4)) := by
    by_cases e : tI (K 5) = tI (K 4)
    · rw [if_pos e] at hs; exact Or.inr ⟨hs, e⟩
    · rw [if_neg e] at hs; exact Or.inl ⟨hs, e⟩
  have q5 : tI (fulK (remK K v x) 5) = tI (K 5) - s := by
    rw [p3, hs]; split <;> omega
  have hN : newN K = tI (K 5) - s + 1 := by
    unfold newN
    rcases hs01 with ⟨e1, e2⟩ | ⟨e1, e2⟩
    · rw [if_neg e2]; omega
    · rw [if_pos e2]; omega
  have hS : stpK K x p = admK (fulK (remK K v x)) v x p := by unfold stpK; rw [← hvv]; rfl
  have z5 : 0 ≤ tI (fulK (remK K v x) 5) := by omega
  have s5 : tI (stpK K x p 5) = newN K := by rw [hS, admK_5 hx (by omega), q5, hN]
  have sP : ∀ j, 46 ≤ j → j < 46 + 2 * (tI (K 5) - s) → stpK K x p j = K (j + 2 * s) := fun j j0 j1 => by
    rw [hS, admK_lo (by omega) hx z5 (by omega)]
    exact pre_pr hI hv h1 hs ⟨j0, j1⟩
  have sW : stpK K x p (46 + 2 * (tI (K 5) - s)) = zI v := by rw [hS, ← q5, admK_W hx z5]
  have sO : stpK K x p (47 + 2 * (tI (K 5) - s)) = zI x := by rw [hS, ← q5, admK_O hx z5]
  have sH : ∀ j, 169 ≤ j → stpK K x p j = remK K v x j := fun j j0 => by rw [hS, admK_lo (by omega) hx z5 (by omega), pre_hi (by omega)]
  have s38 : stpK K x p (38 + 2 * x) = zI p := by rw [hS]; exact admK_p
  have s39 : stpK K x p (39 + 2 * x) = zI (tI (K (39 + 2 * x)) + 1) := by rw [hS, admK_s hx z5, pre_lo hI (by omega)]
  have hm : 0 ≤ stmZ K c (newN K) ∧ stmZ K c (newN K) ≤ newN K := by
    unfold stmZ; split <;> (try split) <;> omega
  obtain ⟨m, hmm⟩ : ∃ m, m = stmZ K c (newN K) := ⟨_, rfl⟩
  have hgo : goK c K x p = losK (stpK K x p) m ∨ (m = 0 ∧ goK c K x p = stpK K x p) := by
    unfold goK
    rw [hmm]; unfold stmZ
    rw [g2, s5]
    by_cases e : c = false ∧ 0 < tI (K 166) ∧ (stepsZ K + 1) % tI (K 166) = 0
    · rw [if_pos e, if_pos e]; exact Or.inl rfl
    · rw [if_neg e, if_neg e]; exact Or.inr ⟨rfl, rfl⟩
  rw [← hmm] at hm ⊢
  have n60 : newN K ≤ 60 := by unfold newN; split <;> omega
  have gn : tI (goK c K x p 5) = newN K - m := by
    rcases hgo with e | ⟨e, e2⟩
    · rw [e, losK_5 (by omega), s5]
    · rw [e2, s5, e]; omega
  have gP : ∀ j, 46 ≤ j → j < 46 + 2 * (newN K - m) → goK c K x p j = stpK K x p (j + 2 * m) := fun j j0 j1 => by
    rcases hgo with e | ⟨e, e2⟩
    · rw [e, losK_pr (by omega) (by omega) hm.1]
    · rw [e2]; exact congrArg _ (by omega)
  have gL : ∀ j, j ≠ 5 → (j < 46 ∨ 166 ≤ j) → goK c K x p j = stpK K x p j := fun j j0 j1 => by
    rcases hgo with e | ⟨e, e2⟩
    · rw [e, losK_lo j0 j1]
    · rw [e2]
  have rn := remK_n (v := v) (x := x) (K := K) ⟨b9.1, b9.2, b8.1, b8.2⟩
  have gr : tI (goK c K x p 169) = if tI (K 169) = tI (K 168) then tI (K 169) else tI (K 169) + 1 := by rw [gL 169 (by omega) (by omega), sH 169 (by omega), rn]
  refine ⟨gn, hm, fun k k0 k1 => ?_, gr, fun k k0 k1 => ?_, by rw [gL _ (by omega) (by omega), s38], by rw [gL _ (by omega) (by omega), s39]⟩
  · rw [gn] at k1 ⊢
    rw [gP _ (by omega) (by omega), gP _ (by omega) (by omega)]
    by_cases e : k = 0
    · rw [if_pos e, if_pos e]
      refine ⟨?_, ?_⟩
      · rw [← sW]; exact congrArg _ (by omega)
      · rw [← sO]; exact congrArg _ (by omega)
    · rw [if_neg e, if_neg e]
      rw [sP _ (by omega) (by omega), sP _ (by omega) (by omega)]
      exact ⟨congrArg K (by omega), congrArg K (by omega)⟩
  · rw [gr] at k1 ⊢
    obtain ⟨t, htt⟩ : ∃ t : Int, t = if tI (K 169) = tI (K 168) then 1 else 0 := ⟨_, rfl⟩
    have e169 : (if tI (K 169) = tI (K 168) then tI (K 169) else tI (K 169) + 1) = tI (K 169) - t + 1 := by
      rw [htt]; split <;> omega
    have ht01 : t = 0 ∨ t = 1 := by rw [htt]; split <;> omega
    rw [e169] at k1 ⊢
    rw [gL _ (by omega) (by omega), gL _ (by omega) (by omega), sH _ (by omega), sH _ (by omega)]
    by_cases e : k = 0
    · rw [if_pos e, if_pos e]
      exact ⟨remK_newW b9 htt (by omega), remK_newO b9 htt (by omega)⟩
    · rw [if_neg e, if_neg e]
      rw [remK_old b9 htt (by omega), remK_old b9 htt (by omega)]
      exact ⟨congrArg K (by omega), congrArg K (by omega)⟩
end S93t
