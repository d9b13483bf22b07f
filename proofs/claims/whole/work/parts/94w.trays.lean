/-! trays again -/
section S94w
set_option linter.unusedVariables false
set_option linter.unusedSimpArgs false
theorem TrR_keep {E E1 : EnQ} {F F1 : Nat → Int → Int32} {G G1 : Nat → Int → Int64} (hT : TrR E F G) (he : ∀ t : Nat, t < 4 → E1.2.2.2 43 (t : Int) = E.2.2.2 43 (t : Int)) (h1 : ∀ q, 209 ≤ q → q ≤ 216 → F1 q = F q ∧ G1 q = G q) (h2 : F1 243 = F 243 ∧ F1 244 = F 244 ∧ G1 245 = G 245) : TrR E1 F1 G1 := by
  intro t ht
  obtain ⟨q1, q2, q3, q4, q5, q6⟩ := hT t ht
  obtain ⟨a1, a2, a3⟩ := h2
  rw [he t ht, (h1 (209 + 2 * t) (by omega) (by omega)).1, (h1 (209 + 2 * t + 1) (by omega) (by omega)).2, a1, a2, a3]
  exact ⟨q1, q2, q3, q4, q5, q6⟩
theorem TrR_write {E : EnQ} {F : Nat → Int → Int32} {G : Nat → Int → Int64} (hT : TrR E F G) {x y : Int} {v : Int64} (hx : 0 ≤ x ∧ x < 4) (hy : 0 ≤ y ∧ y < 30) : TrR E F (wmG F (wrG F G x y v) x y v) := by
  intro t ht
  obtain ⟨q1, q2, q3, q4, q5, q6⟩ := hT t ht
  refine ⟨q1, q2, q3, q4, q5, fun i i0 i1 => ?_⟩
  unfold wmG wrG
  have hX : trH x = 209 + 2 * x.toNat := rfl
  have e45 : ∀ r, uR G (trH x + 1) r 245 = G 245 := fun r => uR_ne (by omega)
  rw [uR_at, e45, uR_ne (show 209 + 2 * t + 1 ≠ 245 by omega)]
  by_cases e : t = x.toNat
  · rw [show 209 + 2 * t + 1 = trH x + 1 by omega, uR_at]
    by_cases g : i = y
    · rw [g, uC_at, uC_eq (by omega)]
    · rw [uC_ne g, uC_ne (by omega)]
      have := q6 i i0 i1
      rw [show 209 + 2 * t + 1 = trH x + 1 by omega] at this
      exact this
  · rw [uR_ne (show 209 + 2 * t + 1 ≠ trH x + 1 by omega), uC_ne (by omega)]
    exact q6 i i0 i1
theorem TrR_tray {E : EnQ} {F : Nat → Int → Int32} {G : Nat → Int → Int64} (hT : TrR E F G) {x y z : Int} (hx : 0 ≤ x ∧ x < 4) (hy : 0 ≤ y ∧ y ≤ 3) (hz : 0 ≤ z ∧ z ≤ 30) : TrR E (tmF (trF F x y z) x y z) (tmG (trG G x) x) := by
  intro t ht
  obtain ⟨q1, q2, q3, q4, q5, q6⟩ := hT t ht
  have hX : trH x = 209 + 2 * x.toNat := rfl
  have f43 : tmF (trF F x y z) x y z 243 = uC (F 243) x (zI y) := by unfold tmF trF; rw [uR_ne (by decide), uR_at, uR_ne (show 243 ≠ trH x by omega)]
  have f44 : tmF (trF F x y z) x y z 244 = uC (F 244) x (zI z) := by unfold tmF trF; rw [uR_at, uR_ne (show 244 ≠ trH x by omega)]
  have g45 : tmG (trG G x) x 245 = zrJ (G 245) (30 * x.toNat) 30 := by unfold tmG trG; rw [uR_at, uR_ne (show 245 ≠ trH x + 1 by omega)]
  have ft : tmF (trF F x y z) x y z (209 + 2 * t) = trF F x y z (209 + 2 * t) := by unfold tmF; rw [uR_ne (by omega), uR_ne (by omega), uR_ne (by omega)]
  have gt : tmG (trG G x) x (209 + 2 * t + 1) = trG G x (209 + 2 * t + 1) := by unfold tmG; rw [uR_ne (by omega)]
  rw [f43, f44, g45, ft, gt]
  unfold trF trG
  by_cases e : t = x.toNat
  · have ex : (t : Int) = x := by omega
    rw [ex, uC_at, uC_at, show 209 + 2 * t = trH x by omega, uR_at, uR_at, uC_ne (by decide), uC_at, uC_at, tI_zI (by omega), tI_zI (by omega), ← show (209 + 2 * t) = trH x by omega]
    rw [ex] at q1
    refine ⟨q1, rfl, rfl, by omega, hz, fun i i0 i1 => ?_⟩
    unfold zrJ
    rw [if_pos (by omega), if_pos (by omega)]
  · rw [uC_ne (by omega), uC_ne (by omega), uR_ne (by omega), uR_ne (by omega)]
    refine ⟨q1, q2, q3, q4, q5, fun i i0 i1 => ?_⟩
    rw [q6 i i0 i1]
    unfold zrJ
    rw [if_neg (by omega)]
theorem rd_same {w m : Nat} {s o : Int} {r r' : Int → Int64} (hm : m ≤ 30) (h : ∀ i, 0 ≤ i → i < 30 → r i = r' (o + i)) : ∀ n : Nat, ∀ i, 0 ≤ i → i < 30 → rdR w m s 0 r n i = rdR w m s o r' n (o + i) := by
  intro n
  induction n with
  | zero => exact h
  | succ n ih =>
    intro i i0 i1
    by_cases g : w.testBit n = true ∧ rdC w m n < m
    · rw [show rdR w m s 0 r (n + 1) = uC (rdR w m s 0 r n) (0 + rdC w m n) (cutJ s (zJ (n : Int))) from if_pos g, show rdR w m s o r' (n + 1) = uC (rdR w m s o r' n) (o + rdC w m n) (cutJ s (zJ (n : Int))) from if_pos g]
      by_cases e : i = rdC w m n
      · rw [uC_eq (by omega), uC_eq (by omega)]
      · rw [uC_ne (by omega), uC_ne (by omega)]; exact ih i i0 i1
    · rw [show rdR w m s 0 r (n + 1) = rdR w m s 0 r n from if_neg g, show rdR w m s o r' (n + 1) = rdR w m s o r' n from if_neg g]
      exact ih i i0 i1
theorem rd_out {w m : Nat} {s o j : Int} {r : Int → Int64} (h : j < o ∨ o + m ≤ j) : ∀ n : Nat, rdR w m s o r n j = r j := by
  intro n
  induction n with
  | zero => rfl
  | succ n ih =>
    by_cases g : w.testBit n = true ∧ rdC w m n < m
    · rw [show rdR w m s o r (n + 1) = uC (rdR w m s o r n) (o + rdC w m n) (cutJ s (zJ (n : Int))) from if_pos g, uC_ne (by omega)]; exact ih
    · rw [show rdR w m s o r (n + 1) = rdR w m s o r n from if_neg g]; exact ih
theorem TrR_reads {E : EnQ} {F : Nat → Int → Int32} {G : Nat → Int → Int64} {K : Int → Int32} (hT : TrR E F G) {x : Int} (hx : 0 ≤ x ∧ x < 4) : TrR E F (rmG F (rcG F G K x 32) K x 32) := by
  intro t ht
  obtain ⟨q1, q2, q3, q4, q5, q6⟩ := hT t ht
  obtain ⟨p1, p2, p3, p4, p5, p6⟩ := TrR_x hT hx
  have hm30 : tdM F x ≤ 30 := by unfold tdM; omega
  refine ⟨q1, q2, q3, q4, q5, fun i i0 i1 => ?_⟩
  unfold rmG rcG
  have hX : trH x = 209 + 2 * x.toNat := rfl
  have e45 : ∀ r, uR G (trH x + 1) r 245 = G 245 := fun r => uR_ne (by omega)
  rw [uR_at, e45, uR_ne (show 209 + 2 * t + 1 ≠ 245 by omega)]
  by_cases e : t = x.toNat
  · have ex : (t : Int) = x := by omega
    rw [ex, show 209 + 2 * t + 1 = trH x + 1 by omega, uR_at]
    exact rd_same hm30 p6 32 i i0 i1
  · rw [uR_ne (show 209 + 2 * t + 1 ≠ trH x + 1 by omega), rd_out (by omega)]
    exact q6 i i0 i1
end S94w
