/-! reading a plain, theory 2 -/
section S94zzi
set_option linter.unusedVariables false
set_option linter.unusedSimpArgs false
theorem PaJ_places {D : Int → Int32} {v : Int} (h : PaJ D 0) (h2 : tI (D 2) = 0) (h3 : tI (D 3) = 0) (hv : 1 ≤ v ∧ v ≤ 10) : PaJ (uC D 1 (zI v)) 0 := by
  obtain ⟨⟨hA, hP, hB, hR⟩, h5, h9, hz, hb⟩ := h
  obtain ⟨a0, a1, a2, a3, a4, a5, a6, a7, a8, a9⟩ := hA
  have nn : ∀ j, j ≠ 1 → uC D 1 (zI v) j = D j := fun j hj => uC_ne hj
  have e5 : uC D 1 (zI v) 5 = zI 0 := by rw [nn 5 (by omega), h5]
  have e9 : uC D 1 (zI v) 169 = zI 0 := by rw [nn 169 (by omega), h9]
  refine ⟨⟨?_, ?_, ?_, InvR_0 e5 e9⟩, e5, e9, fun x x1 x2 => ?_, fun x x0 x1 x2 => ?_⟩
  · unfold InvA
    rw [nn 0 (by omega), nn 2 (by omega), nn 3 (by omega), nn 4 (by omega), nn 5 (by omega), nn 166 (by omega), nn 167 (by omega), nn 168 (by omega), nn 169 (by omega), uC_at, tI_zI (by omega)]
    exact ⟨a0, by omega, a2, a3, a4, a5, a6, a7, a8, a9⟩
  · unfold InvP
    rw [nn 2 (by omega), h2]
    exact ⟨fun k k1 k2 => by omega, fun k k1 k2 => by omega, fun i j i1 j1 => by omega⟩
  · intro x x1 x2
    obtain ⟨a, b, c, e, f, g⟩ := hB x x1 x2
    have hb0 := hb x x1 x1 x2
    rw [nn (170 + 9 * x) (by omega), nn (206 + x) (by omega), nn (39 + 2 * x) (by omega), nn (38 + 2 * x) (by omega), nn 3 (by omega), h3]
    exact ⟨a, fun k k1 k2 => by rw [hb0, tz0] at k2; omega, c, e, f, fun z => by omega⟩
  · rw [nn _ (by omega), nn _ (by omega)]; exact hz x x1 x2
  · rw [nn _ (by omega)]; exact hb x x0 x1 x2
theorem ap_2 {D : Int → Int32} {a b : Int} : addPa D a b 2 = zI (tI (D 2) + 1) := uC_at
theorem ap_ne {D : Int → Int32} {a b j : Int} (h2 : j ≠ 2) (h6 : j ≠ 6 + 2 * tI (D 2)) (h7 : j ≠ 7 + 2 * tI (D 2)) : addPa D a b j = D j := by
  unfold addPa
  rw [uC_ne h2, uC_ne (by omega), uC_ne (by omega)]
theorem ap_a {D : Int → Int32} {a b : Int} (h : 0 ≤ tI (D 2)) : addPa D a b (6 + 2 * tI (D 2)) = zI a := by
  unfold addPa
  rw [uC_ne (by omega), uC_ne (by omega), uC_at]
theorem ap_b {D : Int → Int32} {a b : Int} (h : 0 ≤ tI (D 2)) : addPa D a b (7 + 2 * tI (D 2)) = zI b := by
  unfold addPa
  rw [uC_ne (by omega), show 7 + 2 * tI (D 2) = 6 + 2 * tI (D 2) + 1 by omega, uC_at]
theorem isP_none {D : Int → Int32} {a b : Int} (h : pathZ D a b = -1) {k : Nat} (hk : (k : Int) < tI (D 2)) : isP D a b k = false := by
  unfold pathZ at h
  rcases fndN_is (isP D a b) (tI (D 2)).toNat 0 with ⟨-, h2⟩ | ⟨k', -, -, h3, -, -⟩
  · exact h2 k (by omega) (by omega)
  · rw [h3] at h; omega
theorem isP_sym {D : Int → Int32} {a b : Int} {k : Nat} : isP D a b k = isP D b a k := by
  unfold isP; exact Bool.or_comm _ _
theorem pathZ_sym {D : Int → Int32} {a b : Int} : pathZ D a b = pathZ D b a := by
  unfold pathZ; exact fndN_congr (fun i _ _ => isP_sym)
theorem fndN_snoc {p : Nat → Bool} {m : Nat} : fndN p (m + 1) 0 = if fndN p m 0 = -1 then (if p m = true then (m : Int) else -1) else fndN p m 0 := by
  rcases fndN_is p m 0 with ⟨h1, h2⟩ | ⟨k, h1, h2, h3, h4, h5⟩
  · rw [if_pos h1]
    by_cases c : p m = true
    · rw [if_pos c]; exact fndN_eq (by omega) (by omega) c (fun i i1 i2 => h2 i i1 (by omega))
    · rw [if_neg c]
      refine fndN_none (fun i i1 i2 => ?_)
      by_cases e : i = m
      · rw [e]; cases hp : p m with
        | true => exact absurd hp c
        | false => rfl
      · exact h2 i i1 (by omega)
  · rw [if_neg (by rw [h3]; omega), h3]
    exact fndN_eq h1 (by omega) h4 (fun i i1 i2 => h5 i i1 i2)
theorem isP_lo {D : Int → Int32} {a b x y : Int} {k : Nat} (hm : 0 ≤ tI (D 2)) (hk : (k : Int) < tI (D 2)) : isP (addPa D a b) x y k = isP D x y k := by
  unfold isP
  rw [ap_ne (by omega) (by omega) (by omega), ap_ne (by omega) (by omega) (by omega)]
theorem isP_at {D : Int → Int32} {a b x y : Int} (ha : 0 ≤ a ∧ a < 10) (hb : 0 ≤ b ∧ b < 10) (hm : 0 ≤ tI (D 2)) : isP (addPa D a b) x y (tI (D 2)).toNat = true ↔ (a = x ∧ b = y) ∨ (a = y ∧ b = x) := by
  unfold isP
  rw [show (((tI (D 2)).toNat : Nat) : Int) = tI (D 2) by omega, ap_a hm, ap_b hm, tI_zI (by omega), tI_zI (by omega), Bool.or_eq_true, Bool.and_eq_true, Bool.and_eq_true, beq_iff_eq, beq_iff_eq, beq_iff_eq, beq_iff_eq]
theorem path_add {D : Int → Int32} {a b x y : Int} (ha : 0 ≤ a ∧ a < 10) (hb : 0 ≤ b ∧ b < 10) (hm : 0 ≤ tI (D 2) ∧ tI (D 2) < 16) : pathZ (addPa D a b) x y = if pathZ D x y = -1 then (if (a = x ∧ b = y) ∨ (a = y ∧ b = x) then tI (D 2) else -1) else pathZ D x y := by
  have e1 : tI (addPa D a b 2) = tI (D 2) + 1 := by rw [ap_2, tI_zI (by omega)]
  have e2 : pathZ (addPa D a b) x y = fndN (isP (addPa D a b) x y) ((tI (D 2)).toNat + 1) 0 := by
    unfold pathZ; rw [e1, show (tI (D 2) + 1).toNat = (tI (D 2)).toNat + 1 by omega]
  have e3 : fndN (isP (addPa D a b) x y) (tI (D 2)).toNat 0 = pathZ D x y := fndN_congr (fun i _ hi => isP_lo hm.1 (by omega))
  rw [e2, fndN_snoc, e3]
  by_cases c : pathZ D x y = -1
  · rw [if_pos c, if_pos c]
    by_cases g : (a = x ∧ b = y) ∨ (a = y ∧ b = x)
    · rw [if_pos g, if_pos ((isP_at ha hb hm.1).mpr g)]; omega
    · rw [if_neg g, if_neg (fun z => g ((isP_at ha hb hm.1).mp z))]
  · rw [if_neg c, if_neg c]
theorem way_add {D : Int → Int32} {a b x y : Int} (ha : 0 ≤ a ∧ a < 10) (hb : 0 ≤ b ∧ b < 10) (hm : 0 ≤ tI (D 2) ∧ tI (D 2) < 16) (hab : a ≠ b) (hn : pathZ D a b = -1) : wayZ (addPa D a b) x y = if x = a ∧ y = b then 2 * tI (D 2) else if x = b ∧ y = a then 2 * tI (D 2) + 1 else wayZ D x y := by
  have hp := path_add (x := x) (y := y) ha hb hm
  unfold wayZ
  by_cases c1 : x = a ∧ y = b
  · rw [if_pos c1]
    rw [c1.1, c1.2, if_pos hn, if_pos (Or.inl ⟨rfl, rfl⟩)] at hp
    rw [c1.1, c1.2, hp, if_neg (by omega), ap_a hm.1, tI_zI (by omega), if_pos rfl]; omega
  · rw [if_neg c1]
    by_cases c2 : x = b ∧ y = a
    · rw [if_pos c2]
      rw [c2.1, c2.2, pathZ_sym (D := D), if_pos hn, if_pos (Or.inr ⟨rfl, rfl⟩)] at hp
      rw [c2.1, c2.2, hp, if_neg (by omega), ap_a hm.1, tI_zI (by omega), if_neg hab]
    · rw [if_neg c2]
      by_cases c3 : pathZ D x y = -1
      · rw [if_pos c3, if_neg (by omega)] at hp
        rw [hp, if_pos rfl, if_pos c3]
      · rw [if_neg c3] at hp
        have hr := fndN_rg (isP D x y) (tI (D 2)).toNat 0
        have hp2 : pathZ D x y = fndN (isP D x y) (tI (D 2)).toNat 0 := rfl
        rw [hp, if_neg c3, if_neg c3, ap_ne (by omega) (by omega) (by omega)]
theorem PaJ_path {D : Int → Int32} {w a b : Int} (h : PaJ D w) (hm : tI (D 2) < 16) (ha : 0 ≤ a ∧ a < tI (D 1)) (hb : 0 ≤ b ∧ b < tI (D 1)) (hab : a ≠ b) (hn : pathZ D a b = -1) : PaJ (addPa D a b) w := by
  obtain ⟨⟨hA, hP, hB, hR⟩, h5, h9, hz, hbt⟩ := h
  obtain ⟨a0, a1, a2, a3, a4, a5, a6, a7, a8, a9⟩ := hA
  have e2 : tI (addPa D a b 2) = tI (D 2) + 1 := by rw [ap_2, tI_zI (by omega)]
  have nn : ∀ j, j ≠ 2 → (j < 6 ∨ 38 ≤ j) → addPa D a b j = D j := fun j h1 h2 => ap_ne h1 (by omega) (by omega)
  have e5 : addPa D a b 5 = zI 0 := by rw [nn 5 (by omega) (by omega), h5]
  have e9 : addPa D a b 169 = zI 0 := by rw [nn 169 (by omega) (by omega), h9]
  have ea : addPa D a b (6 + 2 * tI (D 2)) = zI a := ap_a a2.1
  have eb : addPa D a b (7 + 2 * tI (D 2)) = zI b := ap_b a2.1
  have ta : tI (zI a) = a := tI_zI (by omega)
  have tb : tI (zI b) = b := tI_zI (by omega)
  refine ⟨⟨?_, ⟨fun k k1 k2 => ?_, fun k k1 k2 => ?_, fun i j i1 j1 hi => ?_⟩, ?_, InvR_0 e5 e9⟩, e5, e9, fun x x1 x2 => ?_, fun x x0 x1 x2 => ?_⟩
  · unfold InvA
    rw [nn 0 (by omega) (by omega), nn 1 (by omega) (by omega), e2, nn 3 (by omega) (by omega), nn 4 (by omega) (by omega), nn 5 (by omega) (by omega), nn 166 (by omega) (by omega), nn 167 (by omega) (by omega), nn 168 (by omega) (by omega), nn 169 (by omega) (by omega)]
    exact ⟨a0, a1, by omega, a3, a4, a5, a6, a7, a8, a9⟩
  · rw [e2] at k2
    rw [nn 1 (by omega) (by omega)]
    by_cases z1 : k = 2 * tI (D 2)
    · rw [z1, ea, ta]; exact ha
    · by_cases z2 : k = 2 * tI (D 2) + 1
      · rw [z2, show 6 + (2 * tI (D 2) + 1) = 7 + 2 * tI (D 2) by omega, eb, tb]; exact hb
      · rw [ap_ne (by omega) (by omega) (by omega)]; exact hP.1 k k1 (by omega)
  · rw [e2] at k2
    by_cases z1 : k = tI (D 2)
    · rw [z1, ea, eb, ta, tb]; exact hab
    · rw [ap_ne (by omega) (by omega) (by omega), ap_ne (by omega) (by omega) (by omega)]; exact hP.2.1 k k1 (by omega)
  · rw [e2] at i1 j1
    have ha' : 0 ≤ a ∧ a < 10 := by omega
    have hb' : 0 ≤ b ∧ b < 10 := by omega
    by_cases zi : (i : Int) = tI (D 2)
    · by_cases zj : (j : Int) = tI (D 2)
      · omega
      · exfalso
        rw [isP_lo a2.1 (by omega), zi, ea, eb, ta, tb, isP_none hn (by omega)] at hi
        cases hi
    · rw [ap_ne (by omega) (by omega) (by omega), ap_ne (by omega) (by omega) (by omega)] at hi
      by_cases zj : (j : Int) = tI (D 2)
      · exfalso
        have ej : j = (tI (D 2)).toNat := by omega
        rw [ej, isP_at ha' hb' a2.1] at hi
        have hf := isP_none hn (k := i) (by omega)
        have ht : isP D a b i = true := by
          unfold isP
          rw [Bool.or_eq_true, Bool.and_eq_true, Bool.and_eq_true, beq_iff_eq, beq_iff_eq, beq_iff_eq, beq_iff_eq]
          rcases hi with ⟨g1, g2⟩ | ⟨g1, g2⟩
          · exact Or.inl ⟨g1.symm, g2.symm⟩
          · exact Or.inr ⟨g2.symm, g1.symm⟩
        rw [hf] at ht; cases ht
      · rw [isP_lo a2.1 (by omega)] at hi
        exact hP.2.2 i j (by omega) (by omega) hi
  · exact InvB_c (nn 1 (by omega) (by omega)) (nn 3 (by omega) (by omega)) (fun k k1 k2 => nn k (by omega) (by omega)) (fun k k1 k2 => nn k (by omega) (by omega)) hB
  · rw [nn _ (by omega) (by omega), nn _ (by omega) (by omega)]; exact hz x x1 x2
  · rw [nn _ (by omega) (by omega)]; exact hbt x x0 x1 x2
end S94zzi
