/-! CLASS: reading a plain 2 -/
section S94zzu
set_option linter.unusedVariables false
set_option linter.unusedSimpArgs false
theorem go_30 {E : EnQ} {F : Nat → Int → Int32} {G : Nat → Int → Int64} {p : Nat} {D : Int → Int32} {x y : Int} (hP : PlS E p) (h : PlW F p D) (h1 : 0 ≤ tI (D 1) ∧ tI (D 1) ≤ 10) (hm : 0 ≤ tI (D 2) ∧ tI (D 2) < 16) (hx : 0 ≤ x ∧ x < tI (D 1)) (hy : 0 ≤ y ∧ y < tI (D 1)) (hxy : x ≠ y) (hn : pathZ D x y = -1) : ∃ F1, CtP MP 2 30 [.ref p, .int (zI x), .int (zI y)] (mk E F G) (Sum.inl none) (mk E F1 G) ∧ PlW F1 p (addPa D x y) ∧ ∀ q, ¬ (p ≤ q ∧ q ≤ p + 5) → F1 q = F q := by
  have hs2 := hP.1
  obtain ⟨⟨⟨a0, a1, a2, a3, a5, a6, a7⟩, b1, b2, b4, b5⟩, c4, c3, cw⟩ := h
  have e2 : tI (addPa D x y 2) = tI (D 2) + 1 := by rw [ap_2, tI_zI (by omega)]
  refine ⟨uR (uR (uR F (p + 1) (uC (uC (F (p + 1)) (2 * tI (D 2)) (zI x)) (2 * tI (D 2) + 1) (zI y))) (p + 2) (uC (uC (F (p + 2)) (10 * x + y) (zI (2 * tI (D 2)))) (10 * y + x) (zI (2 * tI (D 2) + 1)))) p (uC (F p) 2 (zI (tI (D 2) + 1))), fun d hd => ?_, ?_, fun q hq => ?_⟩
  · refine into (D := 1) (by omega) hM_30 (rcv_mk hs2 (by decide)) rfl fun d hd => ?_
    show runP MP d 30 (0, [some (.ref p), some (.int (zI x)), some (.int (zI y))], [], _) = _
    have c27 : ∀ {i : Int} {kk : Int → HeapP → ResP} {kx : Nat → HeapP → ResP}, 0 ≤ i → i < tI (D 1) → cT (callP MP d 27 [.ref p, .int (zI i)] (mk E F G)) kk kx = kk 1 (mk E F G) := fun {i kk kx} i1 i2 => by
      rw [cc_27 hP (by omega) (by omega), a1, if_pos ⟨i1, i2⟩]
    rw [q_30_0]; (try simp only [↓n_rd, ↓n_cI, li_0, li_1, li_2, li_8, li_9, li_10, li_16, li_30, li_97, zI_add, zI_sub, zI_mul, zI_neg, ↓Option.bind_some]); simp (disch := (first | assumption | exact tI_rg _ | omega | exact uR_at | exact row_ne hF (by decide) | exact row_ne (row_ne hF (by decide)) (by decide) | exact SnS_18 | exact SnS_30 | exact LdS_44 | exact LdS_46)) only [q_30_97, a2, ↓c27, ↓n_rd, ↓n_cI, li_0, li_1, li_2, li_8, li_9, li_10, li_16, li_30, li_97, zI_add, zI_sub, zI_mul, zI_neg, ↓Option.bind_some, ↓g2_2, ↓g2_8, ↓PlS_l1, ↓PlS_s1, ↓g2_9, ↓PlS_l2, ↓PlS_s2, ↓p2_2, zIt2, uR_at, uR_ne, uR_uR, uC_uC, uC_at, ↓reduceIte, decide_eq_true_eq, leT, leF, ltT, ltF, eqT, eqF, ne_eq, not_true_eq_false, not_false_eq_true, Bool.false_eq_true, tI_zI]
  · have lo : ∀ j, (j < 2 ∨ (2 < j ∧ j < 6) ∨ 38 ≤ j) → addPa D x y j = D j := fun j hj => ap_ne (by omega) (by omega) (by omega)
    have cw' : ∀ u v, 0 ≤ u → u < 10 → 0 ≤ v → v < 10 → uR (uR (uR F (p + 1) (uC (uC (F (p + 1)) (2 * tI (D 2)) (zI x)) (2 * tI (D 2) + 1) (zI y))) (p + 2) (uC (uC (F (p + 2)) (10 * x + y) (zI (2 * tI (D 2)))) (10 * y + x) (zI (2 * tI (D 2) + 1)))) p (uC (F p) 2 (zI (tI (D 2) + 1))) (p + 2) (10 * u + v) = zI (wayZ (addPa D x y) u v) := fun u v u1 u2 v1 v2 => by
      rw [uR_ne (by omega), uR_at, way_add (by omega) (by omega) hm hxy hn]
      by_cases g1 : u = x ∧ v = y
      · rw [if_pos g1, g1.1, g1.2, uC_ne (by omega), uC_at]
      · rw [if_neg g1]
        by_cases g2 : u = y ∧ v = x
        · rw [if_pos g2, g2.1, g2.2, uC_at]
        · rw [if_neg g2, uC_ne (by omega), uC_ne (by omega)]; exact cw u v u1 u2 v1 v2
    unfold PlW PlR
    refine ⟨⟨⟨?_, ?_, ?_, ?_, ?_, ?_, ?_⟩, fun j j1 j2 => ?_, fun u v u1 u2 v1 v2 => ?_, fun u u1 u2 => ?_, fun u j u1 u2 j1 j2 => ?_⟩, ?_, fun u u1 u2 => ?_, cw'⟩
    · rw [uR_at, uC_ne (by decide), lo 0 (by omega)]; exact a0
    · rw [uR_at, uC_ne (by decide), lo 1 (by omega)]; exact a1
    · rw [uR_at, uC_at, ap_2]
    · rw [uR_at, uC_ne (by decide), lo 3 (by omega)]; exact a3
    · rw [uR_at, uC_ne (by decide), lo 168 (by omega)]; exact a5
    · rw [uR_at, uC_ne (by decide), lo 166 (by omega)]; exact a6
    · rw [uR_at, uC_ne (by decide), lo 167 (by omega)]; exact a7
    · rw [e2] at j2
      rw [uR_ne (by omega), uR_ne (by omega), uR_at]
      by_cases g1 : j = 2 * tI (D 2) + 1
      · rw [g1, uC_at, show 6 + (2 * tI (D 2) + 1) = 7 + 2 * tI (D 2) by omega, ap_b hm.1]
      · rw [uC_ne g1]
        by_cases g2 : j = 2 * tI (D 2)
        · rw [g2, uC_at, ap_a hm.1]
        · rw [uC_ne g2, ap_ne (by omega) (by omega) (by omega)]; exact b1 j j1 (by omega)
    · rw [lo 1 (by omega)] at u2 v2
      exact cw' u v u1 (by omega) v1 (by omega)
    · rw [uR_ne (by omega), uR_ne (by omega), uR_ne (by omega), lo _ (by omega)]; exact b4 u u1 u2
    · rw [lo _ (by omega)] at j2
      rw [uR_ne (by omega), uR_ne (by omega), uR_ne (by omega), lo _ (by omega)]; exact b5 u j u1 u2 j1 j2
    · rw [uR_at, uC_ne (by decide), lo 4 (by omega)]; exact c4
    · rw [uR_ne (by omega), uR_ne (by omega), uR_ne (by omega), lo _ (by omega)]; exact c3 u u1 u2
  · rw [uR_ne (by omega), uR_ne (by omega), uR_ne (by omega)]
theorem go_31 {E : EnQ} {F : Nat → Int → Int32} {G : Nat → Int → Int64} {p : Nat} {D : Int → Int32} {x : Int} (hP : PlS E p) (h : PlW F p D) (h2 : 0 ≤ tI (D 2) ∧ tI (D 2) ≤ 16) (h3 : 0 ≤ tI (D 3) ∧ tI (D 3) < 4) (h1 : tI (D 1) ≤ 10) : ∃ F1, CtP MP 1 31 [.ref p, .int (zI x)] (mk E F G) (Sum.inl none) (mk E F1 G) ∧ PlW F1 p (addWk D x) ∧ ∀ q, ¬ (p ≤ q ∧ q ≤ p + 5) → F1 q = F q := by
  have hs2 := hP.1
  obtain ⟨⟨⟨a0, a1, a2, a3, a5, a6, a7⟩, b1, b2, b4, b5⟩, c4, c3, cw⟩ := h
  have nn : ∀ j, j ≠ 3 → j ≠ 38 + 2 * tI (D 3) → addWk D x j = D j := fun j j1 j2 => by
    unfold addWk; rw [uC_ne j1, uC_ne j2]
  have eh : addWk D x (38 + 2 * tI (D 3)) = zI x := by
    unfold addWk; rw [uC_ne (by omega), uC_at]
  have e3 : addWk D x 3 = zI (tI (D 3) + 1) := uC_at
  have hw : ∀ u v, wayZ (addWk D x) u v = wayZ D u v := wayZ_c h2 (nn 2 (by omega) (by omega)) (fun k k1 k2 => nn k (by omega) (by omega))
  refine ⟨uR (uR F (p + 3) (uC (F (p + 3)) (tI (D 3)) (zI x))) p (uC (F p) 3 (zI (tI (D 3) + 1))), fun d hd => ?_, ?_, fun q hq => ?_⟩
  · refine into (D := 0) (by omega) hM_31 (rcv_mk hs2 (by decide)) rfl fun d hd => ?_
    show runP MP d 31 (0, [some (.ref p), some (.int (zI x))], [], _) = _
    rw [q_31_0]; (try simp only [↓n_rd, li_0, li_1, li_2, li_3, li_4, li_10, li_31, zI_add, zI_sub, zI_mul, zI_neg, ↓Option.bind_some]); simp (disch := (first | assumption | exact tI_rg _ | omega | exact uR_at | exact row_ne hF (by decide) | exact row_ne (row_ne hF (by decide)) (by decide) | exact SnS_18 | exact SnS_30 | exact LdS_44 | exact LdS_46)) only [q_31_28, a3, ↓n_rd, li_0, li_1, li_2, li_3, li_4, li_10, li_31, zI_add, zI_sub, zI_mul, zI_neg, ↓Option.bind_some, ↓g2_10, ↓PlS_l3, ↓PlS_s3, ↓g2_3, ↓p2_3, zIt2, uR_at, uR_ne, uR_uR, uC_uC, uC_at, ↓reduceIte, decide_eq_true_eq, leT, leF, ltT, ltF, eqT, eqF, ne_eq, not_true_eq_false, not_false_eq_true, Bool.false_eq_true, tI_zI]
  · unfold PlW PlR
    refine ⟨⟨⟨?_, ?_, ?_, ?_, ?_, ?_, ?_⟩, fun j j1 j2 => ?_, fun u v u1 u2 v1 v2 => ?_, fun u u1 u2 => ?_, fun u j u1 u2 j1 j2 => ?_⟩, ?_, fun u u1 u2 => ?_, fun u v u1 u2 v1 v2 => ?_⟩
    · rw [uR_at, uC_ne (by decide), nn 0 (by omega) (by omega)]; exact a0
    · rw [uR_at, uC_ne (by decide), nn 1 (by omega) (by omega)]; exact a1
    · rw [uR_at, uC_ne (by decide), nn 2 (by omega) (by omega)]; exact a2
    · rw [uR_at, uC_at, e3]
    · rw [uR_at, uC_ne (by decide), nn 168 (by omega) (by omega)]; exact a5
    · rw [uR_at, uC_ne (by decide), nn 166 (by omega) (by omega)]; exact a6
    · rw [uR_at, uC_ne (by decide), nn 167 (by omega) (by omega)]; exact a7
    · rw [nn 2 (by omega) (by omega)] at j2
      rw [uR_ne (by omega), uR_ne (by omega), nn _ (by omega) (by omega)]; exact b1 j j1 j2
    · rw [nn 1 (by omega) (by omega)] at u2 v2
      rw [uR_ne (by omega), uR_ne (by omega), hw]; exact b2 u v u1 u2 v1 v2
    · rw [uR_ne (by omega), uR_ne (by omega), nn _ (by omega) (by omega)]; exact b4 u u1 u2
    · rw [nn _ (by omega) (by omega)] at j2
      rw [uR_ne (by omega), uR_ne (by omega), nn _ (by omega) (by omega)]; exact b5 u j u1 u2 j1 j2
    · rw [uR_at, uC_ne (by decide), nn 4 (by omega) (by omega)]; exact c4
    · rw [uR_ne (by omega), uR_at]
      by_cases g : u = tI (D 3)
      · rw [g, uC_at, eh]
      · rw [uC_ne g, nn _ (by omega) (by omega)]; exact c3 u u1 u2
    · rw [uR_ne (by omega), uR_ne (by omega), hw]; exact cw u v u1 u2 v1 v2
  · rw [uR_ne (by omega), uR_ne (by omega)]
theorem go_32 {E : EnQ} {F : Nat → Int → Int32} {G : Nat → Int → Int64} {p : Nat} {D D' : Int → Int32} {x v : Int} (hP : PlS E p) (h : PlW F p D) (h2 : 0 ≤ tI (D 2) ∧ tI (D 2) ≤ 16) (h3 : tI (D 3) = v + 1 ∧ 0 ≤ v ∧ v < 4) (hl : 0 ≤ tI (D (170 + 9 * v)) ∧ tI (D (170 + 9 * v)) < 8) (hb : ∀ u, 0 ≤ u → u < 4 → 0 ≤ tI (D (170 + 9 * u)) ∧ tI (D (170 + 9 * u)) ≤ 8) (hq : D' (170 + 9 * v) = zI (tI (D (170 + 9 * v)) + 1)) (hu : D' (171 + 9 * v + tI (D (170 + 9 * v))) = zI x) (hn : ∀ j, j ≠ 170 + 9 * v → j ≠ 171 + 9 * v + tI (D (170 + 9 * v)) → D' j = D j) : ∃ F1, CtP MP 1 32 [.ref p, .int (zI x)] (mk E F G) (Sum.inl none) (mk E F1 G) ∧ PlW F1 p D' ∧ ∀ q, ¬ (p ≤ q ∧ q ≤ p + 5) → F1 q = F q := by
  have hs2 := hP.1
  obtain ⟨⟨⟨a0, a1, a2, a3, a5, a6, a7⟩, b1, b2, b4, b5⟩, c4, c3, cw⟩ := h
  have a3' : tI (F p 3) = v + 1 := by rw [a3]; exact h3.1
  have bl : F (p + 4) v = D (170 + 9 * v) := b4 v h3.2.1 h3.2.2
  have hw : ∀ u z, wayZ D' u z = wayZ D u z := wayZ_c h2 (hn 2 (by omega) (by omega)) (fun k k1 k2 => hn k (by omega) (by omega))
  generalize hg : tI (D (170 + 9 * v)) = l at *
  refine ⟨uR (uR F (p + 5) (uC (F (p + 5)) (8 * v + l) (zI x))) (p + 4) (uC (F (p + 4)) v (zI (l + 1))), fun d hd => ?_, ?_, fun q hq => ?_⟩
  · refine into (D := 0) (by omega) hM_32 (rcv_mk hs2 (by decide)) rfl fun d hd => ?_
    show runP MP d 32 (0, [some (.ref p), some (.int (zI x)), none], [], _) = _
    have hv : v + 1 - 1 = v := by omega
    rw [q_32_0]; (try simp only [↓n_rd, ↓n_al, li_0, li_1, li_2, li_3, li_4, li_8, li_12, li_32, zI_add, zI_sub, zI_mul, zI_neg, ↓Option.bind_some]); simp (disch := (first | assumption | exact tI_rg _ | omega | exact uR_at | exact row_ne hF (by decide) | exact row_ne (row_ne hF (by decide)) (by decide) | exact SnS_18 | exact SnS_30 | exact LdS_44 | exact LdS_46)) only [q_32_54, a3', hv, bl, hg, ↓n_rd, ↓n_al, li_0, li_1, li_2, li_3, li_4, li_8, li_12, li_32, zI_add, zI_sub, zI_mul, zI_neg, ↓Option.bind_some, ↓g2_11, ↓PlS_l4, ↓PlS_s4, ↓g2_12, ↓PlS_l5, ↓PlS_s5, ↓g2_3, zIt2, uR_at, uR_ne, uR_uR, uC_uC, uC_at, ↓reduceIte, decide_eq_true_eq, leT, leF, ltT, ltF, eqT, eqF, ne_eq, not_true_eq_false, not_false_eq_true, Bool.false_eq_true, tI_zI]
  · unfold PlW PlR
    have lo : ∀ j, j < 170 → D' j = D j := fun j hj => hn j (by omega) (by omega)
    refine ⟨⟨⟨?_, ?_, ?_, ?_, ?_, ?_, ?_⟩, fun j j1 j2 => ?_, fun u z u1 u2 v1 v2 => ?_, fun u u1 u2 => ?_, fun u j u1 u2 j1 j2 => ?_⟩, ?_, fun u u1 u2 => ?_, fun u z u1 u2 v1 v2 => ?_⟩
    · rw [uR_ne (by omega), uR_ne (by omega), lo 0 (by omega)]; exact a0
    · rw [uR_ne (by omega), uR_ne (by omega), lo 1 (by omega)]; exact a1
    · rw [uR_ne (by omega), uR_ne (by omega), lo 2 (by omega)]; exact a2
    · rw [uR_ne (by omega), uR_ne (by omega), lo 3 (by omega)]; exact a3
    · rw [uR_ne (by omega), uR_ne (by omega), lo 168 (by omega)]; exact a5
    · rw [uR_ne (by omega), uR_ne (by omega), lo 166 (by omega)]; exact a6
    · rw [uR_ne (by omega), uR_ne (by omega), lo 167 (by omega)]; exact a7
    · rw [lo 2 (by omega)] at j2
      rw [uR_ne (by omega), uR_ne (by omega), lo _ (by omega)]; exact b1 j j1 j2
    · rw [lo 1 (by omega)] at u2 v2
      rw [uR_ne (by omega), uR_ne (by omega), hw]; exact b2 u z u1 u2 v1 v2
    · rw [uR_at]
      by_cases g : u = v
      · rw [g, uC_at, hq]
      · rw [uC_ne g, hn _ (by omega) (by omega)]; exact b4 u u1 u2
    · rw [uR_ne (by omega), uR_at]
      by_cases g : u = v
      · rw [g, hq, tI_zI (by omega)] at j2
        by_cases g2 : j = l
        · rw [g, g2, uC_at, hu]
        · rw [g, uC_ne (by omega), hn _ (by omega) (by omega)]; exact b5 v j h3.2.1 h3.2.2 j1 (by rw [hg]; omega)
      · rw [hn _ (by omega) (by omega)] at j2
        have := hb u u1 u2
        rw [uC_ne (by omega), hn _ (by omega) (by omega)]; exact b5 u j u1 u2 j1 j2
    · rw [uR_ne (by omega), uR_ne (by omega), lo 4 (by omega)]; exact c4
    · rw [uR_ne (by omega), uR_ne (by omega), lo _ (by omega)]; exact c3 u u1 u2
    · rw [uR_ne (by omega), uR_ne (by omega), hw]; exact cw u z u1 u2 v1 v2
  · rw [uR_ne (by omega), uR_ne (by omega)]
end S94zzu
