/-! what is known stays right -/
section S93o
set_option linter.unusedVariables false
set_option linter.unusedSimpArgs false
theorem wayZ_congr {K K' : Int → Int32} (h2 : 0 ≤ tI (K 2) ∧ tI (K 2) ≤ 16) (hc : ∀ j, j = 2 ∨ (6 ≤ j ∧ j < 38) → K' j = K j) (a b : Int) : wayZ K' a b = wayZ K a b := by
  have e2 : K' 2 = K 2 := hc 2 (Or.inl rfl)
  have ep : pathZ K' a b = pathZ K a b := by
    unfold pathZ; rw [e2]
    refine fndN_congr fun i _ hi => ?_
    unfold isP
    rw [hc (6 + 2 * (i : Int)) (by omega), hc (7 + 2 * (i : Int)) (by omega)]
  have hp := pathZ_rg K a b
  unfold wayZ
  rw [ep]
  by_cases e : pathZ K a b = -1
  · rw [if_pos e, if_pos e]
  · rw [if_neg e, if_neg e, hc (6 + 2 * pathZ K a b) (by omega)]
theorem fromZ_congr {K K' : Int → Int32} (hc : ∀ j, j = 2 ∨ (6 ≤ j ∧ j < 38) → K' j = K j) {v : Int} (hv : 0 ≤ v ∧ v < 32) : fromZ K' v = fromZ K v := by unfold fromZ; rw [hc _ (by omega)]
theorem toZ_congr {K K' : Int → Int32} (hc : ∀ j, j = 2 ∨ (6 ≤ j ∧ j < 38) → K' j = K j) {v : Int} (hv : 0 ≤ v ∧ v < 32) : toZ K' v = toZ K v := by
  have := flipZ_rg (i := v) (by omega)
  unfold toZ; rw [hc _ (by omega)]
theorem InvP_congr {K K' : Int → Int32} (h2 : 0 ≤ tI (K 2) ∧ tI (K 2) ≤ 16) (h1 : K' 1 = K 1) (hc : ∀ j, j = 2 ∨ (6 ≤ j ∧ j < 38) → K' j = K j) (h : InvP K) : InvP K' := by
  have e2 : K' 2 = K 2 := hc 2 (Or.inl rfl)
  obtain ⟨p1, p2, p3⟩ := h
  refine ⟨fun k k0 k1 => ?_, fun k k0 k1 => ?_, fun i j hi hj hp => ?_⟩
  · rw [e2] at k1
    rw [hc _ (by omega), h1]; exact p1 k k0 k1
  · rw [e2] at k1
    rw [hc _ (by omega), hc _ (by omega)]; exact p2 k k0 k1
  · rw [e2] at hi hj
    refine p3 i j hi hj ?_
    unfold isP at hp ⊢
    rw [hc (6 + 2 * (i : Int)) (by omega), hc (7 + 2 * (i : Int)) (by omega), hc (6 + 2 * (j : Int)) (by omega), hc (7 + 2 * (j : Int)) (by omega)] at hp
    exact hp
/-- the ends of a way -/
theorem wayZ_ends {K : Int → Int32} (hI : InvK K) {a b : Int} (h : wayZ K a b ≠ -1) : (0 ≤ wayZ K a b ∧ wayZ K a b < 2 * tI (K 2)) ∧ fromZ K (wayZ K a b) = a ∧ toZ K (wayZ K a b) = b := by
  have h2 := hI.1.2.2.1
  rcases fndN_is (isP K a b) (tI (K 2)).toNat 0 with ⟨e, -⟩ | ⟨k, -, hk, e, hp, -⟩
  · exfalso; apply h; unfold wayZ; exact if_pos e
  · have e' : pathZ K a b = (k : Int) := e
    have hp' := isP_iff.mp hp
    unfold wayZ at h ⊢
    rw [e', if_neg (by omega)] at h ⊢
    by_cases g : tI (K (6 + 2 * (k : Int))) = a
    · rw [if_pos g]
      refine ⟨by omega, ?_, ?_⟩
      · unfold fromZ; rw [show 6 + (2 * (k : Int) + 0) = 6 + 2 * k by omega]; exact g
      · unfold toZ flipZ; rw [if_pos (by omega), show 6 + (2 * (k : Int) + 0 + 1) = 7 + 2 * k by omega]
        rcases hp' with ⟨_, hb⟩ | ⟨ha, hb⟩
        · exact hb
        · have hne := hI.2.1.2.1 k (by omega) (by omega)
          omega
    · rw [if_neg g]
      rcases hp' with ⟨ha, _⟩ | ⟨ha, hb⟩
      · exact absurd ha g
      · refine ⟨by omega, ?_, ?_⟩
        · unfold fromZ; rw [show 6 + (2 * (k : Int) + 1) = 7 + 2 * k by omega]; exact hb
        · unfold toZ flipZ; rw [if_neg (by omega), show 6 + (2 * (k : Int) + 1 - 1) = 6 + 2 * k by omega]; exact ha
/-- a way is told by its ends -/
theorem wayZ_of {K : Int → Int32} (hI : InvK K) {v : Int} (hv : 0 ≤ v ∧ v < 2 * tI (K 2)) : wayZ K (fromZ K v) (toZ K v) = v := by
  have h2 := hI.1.2.2.1
  obtain ⟨k, hk⟩ : ∃ k : Nat, (k : Int) = v / 2 := ⟨(v / 2).toNat, by omega⟩
  have hne := hI.2.1.2.1 k (by omega) (by omega)
  have hpk : isP K (fromZ K v) (toZ K v) k = true := by
    rw [isP_iff]
    unfold fromZ toZ flipZ
    by_cases e : v % 2 = 0
    · left; rw [if_pos e]; exact ⟨congrArg (fun z => tI (K z)) (by omega), congrArg (fun z => tI (K z)) (by omega)⟩
    · right; rw [if_neg e]; exact ⟨congrArg (fun z => tI (K z)) (by omega), congrArg (fun z => tI (K z)) (by omega)⟩
  have hu : ∀ i : Nat, (i : Int) < tI (K 2) → isP K (fromZ K v) (toZ K v) i = true → i = k := by
    intro i hi hp
    refine hI.2.1.2.2 i k hi (by omega) ?_
    have a1 := isP_iff.mp hp
    have a2 := isP_iff.mp hpk
    rw [isP_iff]
    rcases a1 with ⟨x1, x2⟩ | ⟨x1, x2⟩ <;> rcases a2 with ⟨y1, y2⟩ | ⟨y1, y2⟩
    · exact Or.inl ⟨by omega, by omega⟩
    · exact Or.inr ⟨by omega, by omega⟩
    · exact Or.inr ⟨by omega, by omega⟩
    · exact Or.inl ⟨by omega, by omega⟩
  have e : pathZ K (fromZ K v) (toZ K v) = (k : Int) := by
    refine fndN_eq (by omega) (by omega) hpk (fun i _ hi => ?_)
    cases hp : isP K (fromZ K v) (toZ K v) i with
    | false => rfl
    | true => have := hu i (by omega) hp; omega
  unfold wayZ
  rw [e, if_neg (by omega)]
  by_cases g : v % 2 = 0
  · rw [if_pos (by unfold fromZ; exact congrArg (fun z => tI (K z)) (by omega))]; omega
  · rw [if_neg (by
      unfold fromZ
      rw [show 6 + v = 7 + 2 * (k : Int) by omega]
      exact hne)]
    omega
/-! prints go -/
theorem losK_5 {K : Int → Int32} {n : Int} (h : 0 ≤ n ∧ n ≤ tI (K 5)) : tI (losK K n 5) = tI (K 5) - n := by
  have := tI_rg (K 5)
  show tI (if (5 : Int) = 5 then _ else _) = _
  rw [if_pos rfl, tI_zI (by omega)]
theorem losK_lo {K : Int → Int32} {n j : Int} (h5 : j ≠ 5) (h : j < 46 ∨ 166 ≤ j) : losK K n j = K j := by
  unfold losK; rw [if_neg h5, if_neg (by omega)]
theorem losK_pr {K : Int → Int32} {n j : Int} (hj : 46 ≤ j ∧ j < 46 + 2 * (tI (K 5) - n)) (h60 : tI (K 5) ≤ 60) (hn : 0 ≤ n) : losK K n j = K (j + 2 * n) := by
  unfold losK; rw [if_neg (by omega), if_pos (by omega), if_pos hj.2]
theorem losK_W {K : Int → Int32} {n i : Int} (hi : 0 ≤ i ∧ i < tI (K 5) - n) (h60 : tI (K 5) ≤ 60) (hn : 0 ≤ n) : prW (losK K n) i = prW K (i + n) := by
  unfold prW; rw [losK_pr (by omega) h60 hn]; exact congrArg (fun z => tI (K z)) (by omega)
theorem losK_O {K : Int → Int32} {n i : Int} (hi : 0 ≤ i ∧ i < tI (K 5) - n) (h60 : tI (K 5) ≤ 60) (hn : 0 ≤ n) : prO (losK K n) i = prO K (i + n) := by
  unfold prO; rw [losK_pr (by omega) h60 hn]; exact congrArg (fun z => tI (K z)) (by omega)
theorem InvB_congr {K K' : Int → Int32} (h1 : K' 1 = K 1) (h3 : K' 3 = K 3) (hc : ∀ j, (38 ≤ j ∧ j < 46) ∨ (170 ≤ j ∧ j < 210) → K' j = K j) (h : InvB K) : InvB K' := by
  intro x hx0 hx4
  obtain ⟨g1, g2, g3, g4, g5, g6⟩ := h x hx0 hx4
  rw [hc (170 + 9 * x) (by omega), hc (206 + x) (by omega), hc (39 + 2 * x) (by omega), hc (38 + 2 * x) (by omega), h1, h3]
  refine ⟨g1, fun k k0 k1 => ?_, g3, g4, g5, g6⟩
  rw [hc (171 + 9 * x + k) (by omega)]; exact g2 k k0 k1
theorem los_cong {K : Int → Int32} {n : Int} : ∀ j, j = 2 ∨ (6 ≤ j ∧ j < 38) → losK K n j = K j := fun j h => losK_lo (by omega) (by omega)
theorem InvK_los {K : Int → Int32} (hI : InvK K) {n : Int} (hn : 0 ≤ n ∧ n ≤ tI (K 5)) : InvK (losK K n) := by
  obtain ⟨⟨b0, b1, b2, b3, b4, b5, b6, b7, b8, b9⟩, hP, hB, r1, r2, r3, r4⟩ := hI
  have lo : ∀ {j : Int}, j ≠ 5 → (j < 46 ∨ 166 ≤ j) → losK K n j = K j := fun h5 h => losK_lo h5 h
  have e5 := losK_5 hn
  have h60 : tI (K 5) ≤ 60 := by omega
  refine ⟨⟨?_, ?_, ?_, ?_, ?_, ?_, ?_, ?_, ?_, ?_⟩, InvP_congr b2 (lo (by omega) (by omega)) los_cong hP, InvB_congr (lo (by omega) (by omega)) (lo (by omega) (by omega)) (fun j h => lo (by omega) (by omega)) hB, ?_, ?_, ?_, ?_⟩
  · rw [lo (by omega) (by omega)]; exact b0
  · rw [lo (by omega) (by omega)]; exact b1
  · rw [lo (by omega) (by omega)]; exact b2
  · rw [lo (by omega) (by omega)]; exact b3
  · rw [lo (by omega) (by omega)]; exact b4
  · rw [e5, lo (by omega) (by omega)]; omega
  · rw [lo (by omega) (by omega)]; exact b6
  · rw [lo (by omega) (by omega)]; exact b7
  · rw [lo (by omega) (by omega)]; exact b8
  · rw [lo (by omega) (by omega), lo (by omega) (by omega)]; exact b9
  · intro i i0 i1
    rw [e5] at i1
    rw [losK_W ⟨i0, i1⟩ h60 hn.1, losK_O ⟨i0, i1⟩ h60 hn.1, lo (by omega) (by omega), lo (by omega) (by omega)]
    exact r1 (i + n) (by omega) (by omega)
  · intro i i0 i1
    rw [lo (by omega) (by omega)] at i1
    have eW : woW (losK K n) i = woW K i := by unfold woW; rw [lo (by omega) (by omega)]
    have eO : woO (losK K n) i = woO K i := by unfold woO; rw [lo (by omega) (by omega)]
    rw [eW, eO, lo (by omega) (by omega), lo (by omega) (by omega)]
    exact r2 i i0 i1
  · intro i i0 i1 hno
    rw [e5] at i1 hno
    have hr := r1 (i + n) (by omega) (by omega)
    have eO := losK_O (n := n) ⟨i0, i1⟩ h60 hn.1
    rw [losK_W ⟨i0, i1⟩ h60 hn.1, eO, toZ_congr los_cong (by omega), lo (by omega) (by omega)]
    refine r3 (i + n) (by omega) (by omega) (fun j h1 h2 => ?_)
    have := hno (j - n) (by omega) (by omega)
    rw [losK_O ⟨by omega, by omega⟩ h60 hn.1, eO, show j - n + n = j by omega] at this
    exact this
  · intro i j i0 hij j1 he hno
    rw [e5] at j1
    have hr := r1 (i + n) (by omega) (by omega)
    have hr2 := r1 (j + n) (by omega) (by omega)
    have eOi := losK_O (K := K) (n := n) (i := i) ⟨i0, by omega⟩ h60 hn.1
    have eOj := losK_O (K := K) (n := n) (i := j) ⟨by omega, j1⟩ h60 hn.1
    rw [losK_W ⟨i0, by omega⟩ h60 hn.1, losK_W ⟨by omega, j1⟩ h60 hn.1, toZ_congr los_cong (by omega), fromZ_congr los_cong (by omega)]
    refine r4 (i + n) (j + n) (by omega) (by omega) (by omega) (by rw [eOi, eOj] at he; exact he) (fun k h1 h2 => ?_)
    have := hno (k - n) (by omega) (by omega)
    rw [losK_O ⟨by omega, by omega⟩ h60 hn.1, eOi, show k - n + n = k by omega] at this
    exact this
end S93o
