/-! CLASS: go -/
section S93u
set_option linter.unusedVariables false
set_option linter.unusedSimpArgs false
def SepP (E : EnQ) (a : Nat) : Prop := (a = 18 ∨ a = 30) ∧ (rfQ E a 0 = 19 ∨ 247 ≤ rfQ E a 0)
def OthS (a : Nat) (F F' : Nat → Int → Int32) : Prop := ∀ b, b ≠ a → b ≠ a + 7 → b ≠ a + 8 → b ≠ a + 9 → b ≠ a + 10 → b ≠ a + 11 → F' b = F b
theorem PlR_move {F F' : Nat → Int → Int32} {p : Nat} {K K' : Int → Int32} (hI : InvK K) (hf : ∀ b, p ≤ b → b ≤ p + 5 → F' b = F b) (hk : ∀ j, (0 ≤ j ∧ j < 38 ∧ j ≠ 4 ∧ j ≠ 5) ∨ (166 ≤ j ∧ j < 169) ∨ (170 ≤ j ∧ j < 206) → K' j = K j) (h : PlR F p K) : PlR F' p K' := by
  obtain ⟨⟨h0, h1, h2, h3, h5, h6, h7⟩, hb, hw, hl, ht⟩ := h
  obtain ⟨b0, b1, b2, b3, b4, b5, b6, b7, b8, b9⟩ := hI.1
  have e1 := hk 1 (by omega)
  have e2 := hk 2 (by omega)
  refine ⟨⟨?_, ?_, ?_, ?_, ?_, ?_, ?_⟩, fun i i0 i1 => ?_, fun x y x0 x1 y0 y1 => ?_, fun x x0 x1 => ?_, fun x k x0 x1 k0 k1 => ?_⟩
  · rw [hf p (by omega) (by omega), hk 0 (by omega)]; exact h0
  · rw [hf p (by omega) (by omega), e1]; exact h1
  · rw [hf p (by omega) (by omega), e2]; exact h2
  · rw [hf p (by omega) (by omega), hk 3 (by omega)]; exact h3
  · rw [hf p (by omega) (by omega), hk 168 (by omega)]; exact h5
  · rw [hf p (by omega) (by omega), hk 166 (by omega)]; exact h6
  · rw [hf p (by omega) (by omega), hk 167 (by omega)]; exact h7
  · rw [e2] at i1
    rw [hf (p + 1) (by omega) (by omega), hk (6 + i) (by omega)]; exact hb i i0 i1
  · rw [e1] at x1 y1
    rw [hf (p + 2) (by omega) (by omega), wayZ_congr b2 (fun j hj => hk j (by omega))]; exact hw x y x0 x1 y0 y1
  · rw [hf (p + 4) (by omega) (by omega), hk (170 + 9 * x) (by omega)]; exact hl x x0 x1
  · rw [hk (170 + 9 * x) (by omega)] at k1
    have hB := (hI.2.2.1 x x0 x1).1
    rw [hf (p + 5) (by omega) (by omega), hk (171 + 9 * x + k) (by omega)]; exact ht x k x0 x1 k0 k1
theorem go_fin {E : EnQ} {F F' : Nat → Int → Int32} {a : Nat} {K : Int → Int32} (hO : SnO E F a K) (hD : SepP E a) {c : Bool} {x p : Int} (hw : whyZ K x p = 0) (hst : stepsZ K < 2000000000) (hfr : OthS a F F')
    (f1 : F' a 1 = F a 1) (f2 : tI (F' a 2) = tI (goK c K x p 5)) (f3 : tI (F' a 3) = stepsZ K + 1) (f4 : tI (F' a 4) = if tI (F a 4) < 99 then tI (F a 4) + 1 else 99)
    (f7 : ∀ k, 0 ≤ k → k < tI (F' a 4) → F' (a + 7) (tI (F' a 4) - 1 - k) = if k = 0 then zI (wayZ K (tI (K (38 + 2 * x))) p) else F (a + 7) (tI (F a 4) - k))
    (f8 : ∀ k, 0 ≤ k → k < tI (F' a 4) → F' (a + 8) (tI (F' a 4) - 1 - k) = if k = 0 then zI x else F (a + 8) (tI (F a 4) - k))
    (f9 : F' (a + 9) = uC (F (a + 9)) x (zI p)) (f10 : F' (a + 10) = uC (F (a + 10)) x (zI (tI (K (39 + 2 * x)) + 1))) (f11 : F' (a + 11) = F (a + 11)) : SnO E F' a (goK c K x p) := by
  obtain ⟨hS, hP, hR, hN, hI⟩ := hO
  obtain ⟨h1, h2, h3⟩ := why0 hw
  obtain ⟨b0, b1, b2, b3, b4, b5, b6, b7, b8, b9⟩ := hI.1
  obtain ⟨g1, g2⟩ := go_inv hI (c := c) hw hst
  obtain ⟨t1, t2, t3, t4, t5, t6, t7⟩ := go_top hI (c := c) hw hst
  have hx : 0 ≤ x ∧ x < 4 := by omega
  have lo : ∀ {j : Int}, (j < 38 ∧ j ≠ 5 ∨ (166 ≤ j ∧ j < 169) ∨ (169 < j ∧ j < 210) ∨ (38 ≤ j ∧ j < 46 ∧ j ≠ 38 + 2 * x ∧ j ≠ 39 + 2 * x)) → goK c K x p j = K j := fun h => go_lo hI hx hw h
  obtain ⟨hD1, hD2⟩ := hD
  obtain ⟨n1, n2, n3, n4, n5⟩ := hN
  have hL := n2
  refine ⟨hS, hP, PlR_move hI (fun b hb1 hb2 => hfr b (by omega) (by omega) (by omega) (by omega) (by omega) (by omega)) (fun j hj => lo (by omega)) hR, ⟨⟨?_, ?_, ?_⟩, ?_, fun i i0 i1 => ?_, fun i i0 i1 => ?_, fun y y0 y1 => ?_⟩, g1⟩
  · rw [f1, lo (by omega)]; exact n1.1
  · exact tI_inj f2
  · rw [f3, g2]
  · have hn : newN K ≤ tI (K 5) + 1 := by unfold newN; split <;> omega
    have e8 := lo (j := 168) (by omega)
    refine ⟨by rw [f4]; split <;> omega, by rw [f4]; split <;> omega, ?_, ?_⟩
    · rw [f4, t1]; split <;> omega
    · rw [t4, e8, f4]
      obtain ⟨x1, x2, x3, x4⟩ := hL
      by_cases e : tI (F a 4) < 99
      · rw [if_pos e]
        by_cases e2 : tI (F a 4) < tI (K 168)
        · rw [if_pos e2] at x4; rw [if_neg (by omega)]; split <;> omega
        · rw [if_neg e2] at x4; rw [if_pos (by omega), if_neg (by omega)]; omega
      · rw [if_neg e]
        by_cases e2 : tI (F a 4) < tI (K 168)
        · omega
        · rw [if_neg e2] at x4; rw [if_pos (by omega), if_neg (by omega)]; omega
  · have hk0 : 0 ≤ tI (goK c K x p 5) - 1 - i := by omega
    have hn : newN K ≤ tI (K 5) + 1 := by unfold newN; split <;> omega
    have hl : tI (goK c K x p 5) - 1 - i < tI (F' a 4) := by rw [f4]; split <;> omega
    have a1 := t3 (tI (goK c K x p 5) - 1 - i) hk0 (by omega)
    rw [show tI (goK c K x p 5) - 1 - (tI (goK c K x p 5) - 1 - i) = i by omega] at a1
    have a7 := f7 (tI (goK c K x p 5) - 1 - i) hk0 hl
    have a8 := f8 (tI (goK c K x p 5) - 1 - i) hk0 hl
    rw [show tI (F' a 4) - 1 - (tI (goK c K x p 5) - 1 - i) = tI (F' a 4) - tI (goK c K x p 5) + i by omega] at a7 a8
    rw [a7, a8, a1.1, a1.2]
    by_cases e : tI (goK c K x p 5) - 1 - i = 0
    · rw [if_pos e, if_pos e, if_pos e, if_pos e]; exact ⟨rfl, rfl⟩
    · rw [if_neg e, if_neg e, if_neg e, if_neg e]
      have := n3 (tI (K 5) - (tI (goK c K x p 5) - 1 - i)) (by omega) (by omega)
      rw [show tI (F a 4) - tI (K 5) + (tI (K 5) - (tI (goK c K x p 5) - 1 - i)) = tI (F a 4) - (tI (goK c K x p 5) - 1 - i) by omega] at this
      exact this
  · have h9 : tI (goK c K x p 169) ≤ tI (K 169) + 1 := by rw [t4]; split <;> omega
    have hk0 : 0 ≤ tI (goK c K x p 169) - 1 - i := by omega
    have h9L : tI (K 169) ≤ tI (F a 4) := by rw [hL.2.2.2]; split <;> omega
    have h99 : tI (goK c K x p 169) ≤ 99 := by rw [t4]; split <;> omega
    have hl : tI (goK c K x p 169) - 1 - i < tI (F' a 4) := by rw [f4]; split <;> omega
    have a1 := t5 (tI (goK c K x p 169) - 1 - i) hk0 (by omega)
    rw [show tI (goK c K x p 169) - 1 - (tI (goK c K x p 169) - 1 - i) = i by omega] at a1
    have a7 := f7 (tI (goK c K x p 169) - 1 - i) hk0 hl
    have a8 := f8 (tI (goK c K x p 169) - 1 - i) hk0 hl
    rw [show tI (F' a 4) - 1 - (tI (goK c K x p 169) - 1 - i) = tI (F' a 4) - tI (goK c K x p 169) + i by omega] at a7 a8
    rw [a7, a8, a1.1, a1.2]
    by_cases e : tI (goK c K x p 169) - 1 - i = 0
    · rw [if_pos e, if_pos e, if_pos e, if_pos e]; exact ⟨rfl, rfl⟩
    · rw [if_neg e, if_neg e, if_neg e, if_neg e]
      have := n4 (tI (K 169) - (tI (goK c K x p 169) - 1 - i)) (by omega) (by omega)
      rw [show tI (F a 4) - tI (K 169) + (tI (K 169) - (tI (goK c K x p 169) - 1 - i)) = tI (F a 4) - (tI (goK c K x p 169) - 1 - i) by omega] at this
      exact this
  · obtain ⟨z1, z2, z3⟩ := n5 y y0 y1
    rw [f9, f10, f11, lo (j := 206 + y) (by omega)]
    by_cases e : y = x
    · rw [e, uC_at, uC_at, t6, t7]; rw [e] at z3; exact ⟨rfl, rfl, z3⟩
    · rw [uC_ne e, uC_ne e, lo (by omega), lo (by omega)]; exact ⟨z1, z2, z3⟩
theorem ct_61n {d : Nat} {E : EnQ} {F : Nat → Int → Int32} {G : Nat → Int → Int64} {a : Nat} {K : Int → Int32} (hO : SnO E F a K) {x p : Int} (hx : -2147483648 ≤ x ∧ x ≤ 2147483647) (hp : -2147483648 ≤ p ∧ p ≤ 2147483647) (hw : whyZ K x p ≠ 0) (hd : 4 ≤ d) : callP MP d 61 [.ref a, .int (zI x), .int (zI p)] (mk E F G) = some (Sum.inl (none), mk E F G) := by

  have hO' := hO
  obtain ⟨hS, hP, hR, hN, hI⟩ := hO
  have hs := hS.1
  have hwr : 0 ≤ whyZ K x p ∧ whyZ K x p ≤ 2 := by unfold whyZ; split <;> (try split) <;> omega
  refine into (D := 3) (by omega) hM_61 (rcv_mk hs (by decide)) rfl fun d hd => ?_
  show runP MP d 61 (0, [some (.ref a), some (.int (zI x)), some (.int (zI p))], [], _) = _
  rw [q_61_0]; (try simp only [↓n_rd, ↓n_al, ↓n_irem, ↓n_cI, li_0, li_1, li_2, li_3, li_5, li_6, li_7, li_8, li_60, li_121, zI_add, zI_sub, zI_mul, zI_neg, ↓Option.bind_some]); simp (disch := (first | assumption | exact tI_rg _ | omega | exact uR_at | exact row_ne hF (by decide) | exact row_ne (row_ne hF (by decide)) (by decide) | exact SnS_18 | exact SnS_30 | exact LdS_44 | exact LdS_46)) only [q_61_121, ↓cc_60 hO', ↓n_rd, ↓n_al, ↓n_irem, ↓n_cI, ↓b_irem, li_0, li_1, li_2, li_3, li_5, li_6, li_7, li_8, li_60, li_121, zI_add, zI_sub, zI_mul, zI_neg, ↓Option.bind_some, ↓g5_2, ↓g5_1, ↓g2_7, ↓g2_6, ↓g5_3, ↓g5_0, ↓g5_7, ↓SnS_l9, ↓SnS_s9, ↓g5_8, ↓SnS_l10, ↓SnS_s10, ↓p5_2, ↓p5_3, zIt2, uR_at, uR_ne, uR_uR, uC_uC, uC_at, ↓reduceIte, decide_eq_true_eq, leT, leF, ltT, ltF, eqT, eqF, ne_eq, not_true_eq_false, not_false_eq_true, Bool.false_eq_true, tI_zI]
theorem cc_61n {d : Nat} {E : EnQ} {F : Nat → Int → Int32} {G : Nat → Int → Int64} {kk : HeapP → ResP} {kx : Nat → HeapP → ResP} {a : Nat} {K : Int → Int32} (hO : SnO E F a K) {x p : Int} (hx : -2147483648 ≤ x ∧ x ≤ 2147483647) (hp : -2147483648 ≤ p ∧ p ≤ 2147483647) (hw : whyZ K x p ≠ 0) (hd : 4 ≤ d) : cV (callP MP d 61 [.ref a, .int (zI x), .int (zI p)] (mk E F G)) kk kx = kk (mk E F G) := cV_ret (by apply ct_61n <;> assumption)
end S93u
