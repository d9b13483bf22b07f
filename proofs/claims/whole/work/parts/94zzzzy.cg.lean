/-! TOP: what is known speaks of 408 cells only -/
section S94zzzzy
set_option linter.unusedVariables false
set_option linter.unusedSimpArgs false
/-- alike on the 408 cells -/
def AlK (K' K : Int → Int32) : Prop := ∀ j, 0 ≤ j → j < 408 → K' j = K j
theorem al_isP {K' K : Int → Int32} (h : AlK K' K) {a b : Int} {k : Nat} (hk : k < 16) : isP K' a b k = isP K a b k := by
  unfold isP
  rw [h (6 + 2 * (k : Int)) (by omega) (by omega), h (7 + 2 * (k : Int)) (by omega) (by omega)]
theorem al_path {K' K : Int → Int32} (h : AlK K' K) (hA : InvA K) {a b : Int} : pathZ K' a b = pathZ K a b := by
  have h2 := hA.2.2.1
  unfold pathZ
  rw [h 2 (by omega) (by omega)]
  exact fndN_congr (fun j _ hj => al_isP h (by omega))
theorem al_way {K' K : Int → Int32} (h : AlK K' K) (hA : InvA K) {a b : Int} : wayZ K' a b = wayZ K a b := by
  have h2 := hA.2.2.1
  have hr := fndN_rg (isP K a b) (tI (K 2)).toNat 0
  unfold wayZ
  rw [al_path h hA]
  by_cases e : pathZ K a b = -1
  · rw [if_pos e, if_pos e]
  · rw [if_neg e, if_neg e]
    have : 0 ≤ pathZ K a b ∧ pathZ K a b < 16 := by unfold pathZ at e ⊢; omega
    rw [h (6 + 2 * pathZ K a b) (by omega) (by omega)]
theorem al_steps {K' K : Int → Int32} (h : AlK K' K) (hA : InvA K) : stepsZ K' = stepsZ K := by
  have h3 := hA.2.2.2.1
  unfold stepsZ
  rw [h 3 (by omega) (by omega)]
  exact sumN_congr (fun j hj => by rw [h (39 + 2 * (j : Int)) (by omega) (by omega)])
theorem al_prW {K' K : Int → Int32} (h : AlK K' K) {i : Int} (hi : 0 ≤ i ∧ i < 60) : prW K' i = prW K i := by
  unfold prW; rw [h (46 + 2 * i) (by omega) (by omega)]
theorem al_prO {K' K : Int → Int32} (h : AlK K' K) {i : Int} (hi : 0 ≤ i ∧ i < 60) : prO K' i = prO K i := by
  unfold prO; rw [h (47 + 2 * i) (by omega) (by omega)]
theorem al_from {K' K : Int → Int32} (h : AlK K' K) {i : Int} (hi : 0 ≤ i ∧ i < 32) : fromZ K' i = fromZ K i := by
  unfold fromZ; rw [h (6 + i) (by omega) (by omega)]
theorem al_to {K' K : Int → Int32} (h : AlK K' K) {i : Int} (hi : 0 ≤ i ∧ i < 32) : toZ K' i = toZ K i := by
  have : 0 ≤ flipZ i ∧ flipZ i < 33 := by unfold flipZ; split <;> omega
  unfold toZ; rw [h (6 + flipZ i) (by omega) (by omega)]
theorem al_InvK {K' K : Int → Int32} (h : AlK K' K) (hI : InvK K) : InvK K' := by
  obtain ⟨hA, hP, hB, hR⟩ := hI
  obtain ⟨a0, a1, a2, a3, a4, a5, a6, a7, a8, a9⟩ := id hA
  have e0 := h 0 (by omega) (by omega)
  have e1 := h 1 (by omega) (by omega)
  have e2 := h 2 (by omega) (by omega)
  have e3 := h 3 (by omega) (by omega)
  have e4 := h 4 (by omega) (by omega)
  have e5 := h 5 (by omega) (by omega)
  have e6 := h 166 (by omega) (by omega)
  have e7 := h 167 (by omega) (by omega)
  have e8 := h 168 (by omega) (by omega)
  have e9 := h 169 (by omega) (by omega)
  refine ⟨?_, ?_, ?_, ?_⟩
  · unfold InvA; rw [e0, e1, e2, e3, e4, e5, e6, e7, e8, e9]; exact hA
  · obtain ⟨p1, p2, p3⟩ := hP
    unfold InvP
    rw [e1, e2]
    refine ⟨fun k k0 k1 => ?_, fun k k0 k1 => ?_, fun i j i1 j1 hh => ?_⟩
    · rw [h (6 + k) (by omega) (by omega)]; exact p1 k k0 k1
    · rw [h (6 + 2 * k) (by omega) (by omega), h (7 + 2 * k) (by omega) (by omega)]; exact p2 k k0 k1
    · rw [al_isP h (by omega), h (6 + 2 * (i : Int)) (by omega) (by omega), h (7 + 2 * (i : Int)) (by omega) (by omega)] at hh
      exact p3 i j i1 j1 hh
  · intro x x0 x1
    obtain ⟨b1, b2, b3, b4, b5, b6⟩ := hB x x0 x1
    rw [h (170 + 9 * x) (by omega) (by omega), h (206 + x) (by omega) (by omega), h (39 + 2 * x) (by omega) (by omega), h (38 + 2 * x) (by omega) (by omega), e1, e3]
    refine ⟨b1, fun k k0 k1 => ?_, b3, b4, b5, b6⟩
    rw [h (171 + 9 * x + k) (by omega) (by omega)]; exact b2 k k0 k1
  · obtain ⟨r1, r2, r3, r4⟩ := hR
    unfold InvR
    rw [e2, e3, e5, e9]
    refine ⟨fun i i0 i1 => ?_, fun i i0 i1 => ?_, fun i i0 i1 hj => ?_, fun i j i0 ij j1 ho hk => ?_⟩
    · rw [al_prW h (by omega), al_prO h (by omega)]; exact r1 i i0 i1
    · have := r2 i i0 i1
      unfold woW woO at this ⊢
      rw [h (210 + 2 * i) (by omega) (by omega), h (211 + 2 * i) (by omega) (by omega)]; exact this
    · obtain ⟨⟨s1, s2⟩, s3, s4⟩ := r1 i i0 i1
      rw [al_prW h (by omega), al_prO h (by omega), al_to h (by omega), h (38 + 2 * prO K i) (by omega) (by omega)]
      refine r3 i i0 i1 (fun j j0 j1 => ?_)
      have := hj j j0 j1
      rwa [al_prO h (by omega), al_prO h (by omega)] at this
    · obtain ⟨⟨s1, s2⟩, s3, s4⟩ := r1 i i0 (by omega)
      obtain ⟨⟨t1, t2⟩, t3, t4⟩ := r1 j (by omega) j1
      rw [al_prW h (by omega), al_prW h (by omega), al_to h (by omega), al_from h (by omega)]
      rw [al_prO h (by omega), al_prO h (by omega)] at ho
      refine r4 i j i0 ij j1 ho (fun k k0 k1 => ?_)
      have := hk k k0 k1
      rwa [al_prO h (by omega), al_prO h (by omega)] at this
theorem al_SnO {E : EnQ} {F : Nat → Int → Int32} {a : Nat} {K' K : Int → Int32} (h : AlK K' K) (hO : SnO E F a K) : SnO E F a K' := by
  obtain ⟨hS, hP, hR, hN, hI⟩ := hO
  have hA := hI.1
  obtain ⟨a0, a1, a2, a3, a4, a5, a6, a7, a8, a9⟩ := id hA
  refine ⟨hS, hP, ?_, ?_, al_InvK h hI⟩
  · obtain ⟨r0, r1, r2, r3, r4⟩ := hR
    unfold PlR
    rw [h 0 (by omega) (by omega), h 1 (by omega) (by omega), h 2 (by omega) (by omega), h 3 (by omega) (by omega), h 168 (by omega) (by omega), h 166 (by omega) (by omega), h 167 (by omega) (by omega)]
    refine ⟨r0, fun i i0 i1 => ?_, fun x y x0 x1 y0 y1 => ?_, fun x x0 x1 => ?_, fun x k x0 x1 k0 k1 => ?_⟩
    · rw [h (6 + i) (by omega) (by omega)]; exact r1 i i0 i1
    · rw [al_way h hA]; exact r2 x y x0 x1 y0 y1
    · rw [h (170 + 9 * x) (by omega) (by omega)]; exact r3 x x0 x1
    · rw [h (170 + 9 * x) (by omega) (by omega)] at k1
      have hb := (hI.2.2.1 x x0 x1).1
      rw [h (171 + 9 * x + k) (by omega) (by omega)]; exact r4 x k x0 x1 k0 k1
  · obtain ⟨r0, r1, r2, r3, r4⟩ := hN
    unfold SnR
    rw [h 4 (by omega) (by omega), h 5 (by omega) (by omega), h 168 (by omega) (by omega), h 169 (by omega) (by omega), al_steps h hA]
    refine ⟨r0, r1, fun i i0 i1 => ?_, fun i i0 i1 => ?_, fun x x0 x1 => ?_⟩
    · rw [h (46 + 2 * i) (by omega) (by omega), h (47 + 2 * i) (by omega) (by omega)]; exact r2 i i0 i1
    · rw [h (210 + 2 * i) (by omega) (by omega), h (211 + 2 * i) (by omega) (by omega)]; exact r3 i i0 i1
    · rw [h (38 + 2 * x) (by omega) (by omega), h (39 + 2 * x) (by omega) (by omega), h (206 + x) (by omega) (by omega)]; exact r4 x x0 x1
end S94zzzzy
