/-! a step keeps what is known right -/
section S93p
set_option linter.unusedVariables false
set_option linter.unusedSimpArgs false
theorem remK_lo {K : Int → Int32} {v x j : Int} (h : j < 169 ∨ (169 < j ∧ j < 210)) (h9 : 0 ≤ tI (K 169) ∧ 1 ≤ tI (K 168)) : remK K v x j = K j := by
  unfold remK
  by_cases e : tI (K 169) = tI (K 168)
  · rw [if_pos e]; show (if _ then _ else _) = _; rw [if_neg (by omega), if_neg (by omega), if_neg (by omega)]
  · rw [if_neg e]; show (if _ then _ else _) = _; rw [if_neg (by omega), if_neg (by omega), if_neg (by omega)]
theorem remK_n {K : Int → Int32} {v x : Int} (h9 : 0 ≤ tI (K 169) ∧ tI (K 169) ≤ tI (K 168) ∧ 1 ≤ tI (K 168) ∧ tI (K 168) ≤ 99) : tI (remK K v x 169) = if tI (K 169) = tI (K 168) then tI (K 169) else tI (K 169) + 1 := by
  unfold remK
  by_cases e : tI (K 169) = tI (K 168)
  · rw [if_pos e, if_pos e]; show tI (if _ then _ else _) = _; rw [if_neg (by omega), if_neg (by omega), if_neg (by omega)]
  · rw [if_neg e, if_neg e]; show tI (if (169 : Int) = 169 then _ else _) = _; rw [if_pos rfl, tI_zI (by omega)]
/-- what wolves remember then: the old ones, moved on by s, and the new one -/
theorem remK_old {K : Int → Int32} {v x j s : Int} (h9 : 0 ≤ tI (K 169) ∧ tI (K 169) ≤ tI (K 168)) (hs : s = if tI (K 169) = tI (K 168) then 1 else 0) (hj : 210 ≤ j ∧ j < 210 + 2 * (tI (K 169) - s)) : remK K v x j = K (j + 2 * s) := by
  unfold remK
  by_cases e : tI (K 169) = tI (K 168)
  · rw [if_pos e] at hs ⊢; subst hs; show (if _ then _ else _) = _; rw [if_pos (by omega)]; rfl
  · rw [if_neg e] at hs ⊢; subst hs; show (if _ then _ else _) = _; rw [if_neg (by omega), if_neg (by omega), if_neg (by omega)]; exact congrArg K (by omega)
theorem remK_newW {K : Int → Int32} {v x j s : Int} (h9 : 0 ≤ tI (K 169) ∧ tI (K 169) ≤ tI (K 168)) (hs : s = if tI (K 169) = tI (K 168) then 1 else 0) (hj : j = 210 + 2 * (tI (K 169) - s)) : remK K v x j = zI v := by
  unfold remK
  by_cases e : tI (K 169) = tI (K 168)
  · rw [if_pos e] at hs ⊢; subst hs; show (if _ then _ else _) = _; rw [if_neg (by omega), if_pos (by omega)]
  · rw [if_neg e] at hs ⊢; subst hs; show (if _ then _ else _) = _; rw [if_neg (by omega), if_pos (by omega)]
theorem remK_newO {K : Int → Int32} {v x j s : Int} (h9 : 0 ≤ tI (K 169) ∧ tI (K 169) ≤ tI (K 168)) (hs : s = if tI (K 169) = tI (K 168) then 1 else 0) (hj : j = 211 + 2 * (tI (K 169) - s)) : remK K v x j = zI x := by
  unfold remK
  by_cases e : tI (K 169) = tI (K 168)
  · rw [if_pos e] at hs ⊢; subst hs; show (if _ then _ else _) = _; rw [if_neg (by omega), if_neg (by omega), if_pos (by omega)]
  · rw [if_neg e] at hs ⊢; subst hs; show (if _ then _ else _) = _; rw [if_neg (by omega), if_neg (by omega), if_pos (by omega)]
theorem InvK_rem {K : Int → Int32} (hI : InvK K) {v x : Int} (hv : 0 ≤ v ∧ v < 2 * tI (K 2)) (hx : 0 ≤ x ∧ x < tI (K 3)) : InvK (remK K v x) := by
  obtain ⟨⟨b0, b1, b2, b3, b4, b5, b6, b7, b8, b9⟩, hP, hB, r1, r2, r3, r4⟩ := hI
  have lo : ∀ {j : Int}, (j < 169 ∨ (169 < j ∧ j < 210)) → remK K v x j = K j := fun h => remK_lo h ⟨b9.1, b8.1⟩
  have hn := remK_n (v := v) (x := x) ⟨b9.1, b9.2, b8.1, b8.2⟩
  have hcg : ∀ j, j = 2 ∨ (6 ≤ j ∧ j < 38) → remK K v x j = K j := fun j h => lo (by omega)
  have eW : ∀ i : Int, 0 ≤ i → i < tI (K 5) → prW (remK K v x) i = prW K i := fun i h0 h1 => by unfold prW; rw [lo (by omega)]
  have eO : ∀ i : Int, 0 ≤ i → i < tI (K 5) → prO (remK K v x) i = prO K i := fun i h0 h1 => by unfold prO; rw [lo (by omega)]
  have e1 := lo (j := 1) (by omega)
  have e2 := lo (j := 2) (by omega)
  have e3 := lo (j := 3) (by omega)
  have e5 := lo (j := 5) (by omega)
  refine ⟨⟨?_, ?_, ?_, ?_, ?_, ?_, ?_, ?_, ?_, ?_⟩, InvP_congr b2 e1 hcg hP, InvB_congr e1 e3 (fun j h => lo (by omega)) hB, ?_, ?_, ?_, ?_⟩
  · rw [lo (by omega)]; exact b0
  · rw [e1]; exact b1
  · rw [e2]; exact b2
  · rw [e3]; exact b3
  · rw [lo (by omega)]; exact b4
  · rw [e5, lo (by omega)]; exact b5
  · rw [lo (by omega)]; exact b6
  · rw [lo (by omega)]; exact b7
  · rw [lo (by omega)]; exact b8
  · rw [hn, lo (j := 168) (by omega)]; split <;> omega
  · intro i i0 i1
    rw [e5] at i1
    rw [eW i i0 i1, eO i i0 i1, e2, e3]; exact r1 i i0 i1
  · intro i i0 i1
    rw [hn] at i1
    obtain ⟨s, hs⟩ : ∃ s : Int, s = if tI (K 169) = tI (K 168) then 1 else 0 := ⟨_, rfl⟩
    have hs01 : s = 0 ∨ s = 1 := by rw [hs]; split <;> omega
    have i2 : i < tI (K 169) - s + 1 := by
      rw [hs]
      by_cases e : tI (K 169) = tI (K 168)
      · rw [if_pos e] at i1 ⊢; omega
      · rw [if_neg e] at i1 ⊢; omega
    rw [e2, e3]
    by_cases e : i = tI (K 169) - s
    · have a1 : woW (remK K v x) i = v := by unfold woW; rw [remK_newW b9 hs (by omega), tI_zI (by omega)]
      have a2 : woO (remK K v x) i = x := by unfold woO; rw [remK_newO b9 hs (by omega), tI_zI (by omega)]
      rw [a1, a2]; exact ⟨hv, hx⟩
    · have a1 : woW (remK K v x) i = woW K (i + s) := by unfold woW; rw [remK_old b9 hs (by omega)]; exact congrArg (fun z => tI (K z)) (by omega)
      have a2 : woO (remK K v x) i = woO K (i + s) := by unfold woO; rw [remK_old b9 hs (by omega)]; exact congrArg (fun z => tI (K z)) (by omega)
      rw [a1, a2]; exact r2 (i + s) (by omega) (by omega)
  · intro i i0 i1 hno
    rw [e5] at i1 hno
    have hr := r1 i i0 i1
    rw [eW i i0 i1, eO i i0 i1, toZ_congr hcg (by omega), lo (by omega)]
    refine r3 i i0 i1 (fun j h1 h2 => ?_)
    have := hno j h1 h2
    rw [eO j (by omega) h2, eO i i0 i1] at this
    exact this
  · intro i j i0 hij j1 he hno
    rw [e5] at j1
    have hr := r1 i i0 (by omega)
    have hr2 := r1 j (by omega) j1
    rw [eO i i0 (by omega), eO j (by omega) j1] at he
    rw [eW i i0 (by omega), eW j (by omega) j1, toZ_congr hcg (by omega), fromZ_congr hcg (by omega)]
    refine r4 i j i0 hij j1 he (fun k h1 h2 => ?_)
    have := hno k h1 h2
    rw [eO k (by omega) (by omega), eO i i0 (by omega)] at this
    exact this
/-- a print more, and the walker moved -/
def admK (K : Int → Int32) (v x p : Int) : Int → Int32 := movK (addK K v x) x p
theorem admK_lo {K : Int → Int32} {v x p j : Int} (h5 : j ≠ 5) (hx : 0 ≤ x ∧ x < 4) (h0 : 0 ≤ tI (K 5)) (h : j < 38 ∨ 46 + 2 * tI (K 5) + 2 ≤ j ∨ (46 ≤ j ∧ j < 46 + 2 * tI (K 5)) ∨ (38 ≤ j ∧ j < 46 ∧ j ≠ 38 + 2 * x ∧ j ≠ 39 + 2 * x)) : admK K v x p j = K j := by
  unfold admK movK addK uC
  rw [if_neg (by omega), if_neg (by omega)]; dsimp only; rw [if_neg h5, if_neg (by omega), if_neg (by omega)]
theorem admK_5 {K : Int → Int32} {v x p : Int} (hx : 0 ≤ x ∧ x < 4) (h : 0 ≤ tI (K 5) ∧ tI (K 5) ≤ 60) : tI (admK K v x p 5) = tI (K 5) + 1 := by
  unfold admK movK addK uC
  rw [if_neg (by omega), if_neg (by omega)]; dsimp only; rw [if_pos rfl, tI_zI (by omega)]
theorem admK_W {K : Int → Int32} {v x p : Int} (hx : 0 ≤ x ∧ x < 4) (h : 0 ≤ tI (K 5)) : admK K v x p (46 + 2 * tI (K 5)) = zI v := by
  unfold admK movK addK uC
  rw [if_neg (by omega), if_neg (by omega)]; dsimp only; rw [if_neg (by omega), if_pos rfl]
theorem admK_O {K : Int → Int32} {v x p : Int} (hx : 0 ≤ x ∧ x < 4) (h : 0 ≤ tI (K 5)) : admK K v x p (47 + 2 * tI (K 5)) = zI x := by
  unfold admK movK addK uC
  rw [if_neg (by omega), if_neg (by omega)]; dsimp only; rw [if_neg (by omega), if_neg (by omega), if_pos rfl]
theorem admK_p {K : Int → Int32} {v x p : Int} : admK K v x p (38 + 2 * x) = zI p := by
  unfold admK movK uC
  rw [if_neg (by omega), if_pos rfl]
theorem admK_s {K : Int → Int32} {v x p : Int} (hx : 0 ≤ x ∧ x < 4) (h : 0 ≤ tI (K 5)) : admK K v x p (39 + 2 * x) = zI (tI (K (39 + 2 * x)) + 1) := by
  unfold admK movK addK uC
  rw [if_pos rfl, if_neg (by omega), if_neg (by omega), if_neg (by omega)]
theorem InvK_adm {K : Int → Int32} (hI : InvK K) {v x p : Int} (h5 : tI (K 5) < tI (K 4)) (hv : 0 ≤ v ∧ v < 2 * tI (K 2)) (hx : 0 ≤ x ∧ x < tI (K 3)) (hp : 0 ≤ p ∧ p < tI (K 1)) (hf : fromZ K v = tI (K (38 + 2 * x))) (ht : toZ K v = p) (hs : tI (K (39 + 2 * x)) < 2147483647) : InvK (admK K v x p) := by
  obtain ⟨⟨b0, b1, b2, b3, b4, b5, b6, b7, b8, b9⟩, hP, hB, r1, r2, r3, r4⟩ := hI
  have hx4 : 0 ≤ x ∧ x < 4 := by omega
  have lo : ∀ {j : Int}, j ≠ 5 → (j < 38 ∨ 46 + 2 * tI (K 5) + 2 ≤ j ∨ (46 ≤ j ∧ j < 46 + 2 * tI (K 5)) ∨ (38 ≤ j ∧ j < 46 ∧ j ≠ 38 + 2 * x ∧ j ≠ 39 + 2 * x)) → admK K v x p j = K j := fun h1 h2 => admK_lo h1 hx4 b5.1 h2
  have hcg : ∀ j, j = 2 ∨ (6 ≤ j ∧ j < 38) → admK K v x p j = K j := fun j h => lo (by omega) (by omega)
  have e1 := lo (j := 1) (by omega) (by omega)
  have e2 := lo (j := 2) (by omega) (by omega)
  have e3 := lo (j := 3) (by omega) (by omega)
  have e5 := admK_5 (v := v) (p := p) hx4 (K := K) (by omega)
  have eW : ∀ i : Int, 0 ≤ i → i < tI (K 5) → prW (admK K v x p) i = prW K i := fun i h0 h1 => by unfold prW; rw [lo (by omega) (by omega)]
  have eO : ∀ i : Int, 0 ≤ i → i < tI (K 5) → prO (admK K v x p) i = prO K i := fun i h0 h1 => by unfold prO; rw [lo (by omega) (by omega)]
  have nW : prW (admK K v x p) (tI (K 5)) = v := by unfold prW; rw [admK_W hx4 b5.1, tI_zI (by omega)]
  have nO : prO (admK K v x p) (tI (K 5)) = x := by unfold prO; rw [admK_O hx4 b5.1, tI_zI (by omega)]
  have pl : tI (admK K v x p (38 + 2 * x)) = p := by rw [admK_p, tI_zI (by omega)]
  refine ⟨⟨?_, ?_, ?_, ?_, ?_, ?_, ?_, ?_, ?_, ?_⟩, InvP_congr b2 e1 hcg hP, ?_, ?_, ?_, ?_, ?_⟩
  · rw [lo (by omega) (by omega)]; exact b0
  · rw [e1]; exact b1
  · rw [e2]; exact b2
  · rw [e3]; exact b3
  · rw [lo (by omega) (by omega)]; exact b4
  · rw [e5, lo (by omega) (by omega)]; omega
  · rw [lo (by omega) (by omega)]; exact b6
  · rw [lo (by omega) (by omega)]; exact b7
  · rw [lo (by omega) (by omega)]; exact b8
  · rw [lo (by omega) (by omega), lo (by omega) (by omega)]; exact b9
  · intro y hy0 hy4
    obtain ⟨g1, g2, g3, g4, g5, g6⟩ := hB y hy0 hy4
    rw [lo (j := 170 + 9 * y) (by omega) (by omega), lo (j := 206 + y) (by omega) (by omega), e1, e3]
    refine ⟨g1, fun k k0 k1 => ?_, g3, g4, ?_, ?_⟩
    · rw [lo (by omega) (by omega)]; exact g2 k k0 k1
    · by_cases e : y = x
      · rw [e, admK_s hx4 b5.1]
        rw [e] at g5
        rw [tI_zI (by omega)]; omega
      · rw [lo (by omega) (by omega)]; exact g5
    · intro hy
      by_cases e : y = x
      · rw [e, pl]; exact hp
      · rw [lo (by omega) (by omega)]; exact g6 hy
  · intro i i0 i1
    rw [e5] at i1
    rw [e2, e3]
    by_cases e : i = tI (K 5)
    · rw [e, nW, nO]; exact ⟨hv, hx⟩
    · rw [eW i i0 (by omega), eO i i0 (by omega)]; exact r1 i i0 (by omega)
  · intro i i0 i1
    rw [lo (by omega) (by omega)] at i1
    have a1 : woW (admK K v x p) i = woW K i := by unfold woW; rw [lo (by omega) (by omega)]
    have a2 : woO (admK K v x p) i = woO K i := by unfold woO; rw [lo (by omega) (by omega)]
    rw [a1, a2, e2, e3]; exact r2 i i0 i1
  · intro i i0 i1 hno
    rw [e5] at i1 hno
    by_cases e : i = tI (K 5)
    · rw [e, nW, nO, pl, toZ_congr hcg (by omega)]; exact ht
    · have hr := r1 i i0 (by omega)
      have hnx : prO K i ≠ x := fun z => hno (tI (K 5)) (by omega) (by omega) (by rw [nO, eO i i0 (by omega), z])
      rw [eW i i0 (by omega), eO i i0 (by omega), toZ_congr hcg (by omega), lo (by omega) (by omega)]
      refine r3 i i0 (by omega) (fun j h1 h2 => ?_)
      have := hno j h1 (by omega)
      rw [eO j (by omega) h2, eO i i0 (by omega)] at this
      exact this
  · intro i j i0 hij j1 he hno
    rw [e5] at j1
    have hr := r1 i i0 (by omega)
    rw [eO i i0 (by omega)] at he
    rw [eW i i0 (by omega), toZ_congr hcg (by omega)]
    by_cases e : j = tI (K 5)
    · rw [e, nO] at he
      rw [e, nW, fromZ_congr hcg (by omega), hf, ← he]
      refine r3 i i0 (by omega) (fun k h1 h2 => ?_)
      have := hno k h1 (by omega)
      rw [eO k (by omega) h2, eO i i0 (by omega)] at this
      exact this
    · have hr2 := r1 j (by omega) (by omega)
      rw [eO j (by omega) (by omega)] at he
      rw [eW j (by omega) (by omega), fromZ_congr hcg (by omega)]
      refine r4 i j i0 hij (by omega) he (fun k h1 h2 => ?_)
      have := hno k h1 h2
      rw [eO k (by omega) (by omega), eO i i0 (by omega)] at this
      exact this
end S93p
