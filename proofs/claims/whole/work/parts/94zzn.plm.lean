/-! MODEL: reading a plain 3 -/
section S94zzn
set_option linter.unusedVariables false
set_option linter.unusedSimpArgs false
theorem go_204 {E : EnQ} {G : Nat → Int → Int64} {T : Nat → Int} {n : Nat} {q : Int} : ∀ (m : Nat) (D : Int → Int32) (t : TkS) (F : Nat → Int → Int32) (z2 : Option Value), MoR F T n D t → InP n D t (tI (D 3) + 1) → tI (D 3) < 4 → q = 170 + 9 * tI (D 3) → tI (D q) + m = 8 → (tI (D q) = 0 ∨ t.1 = 2) →
    ∃ F1, (∀ d, 5 ≤ d + 1 → runP MP d 204 (0, [some (.ref 217), some (.int (zI q)), z2], [], mk E F G) = some (Sum.inl none, mk E F1 G)) ∧ OuM F1 T n (pBt T n q m D t) ∧ KpM F F1 := by
  intro m
  induction m with
  | zero =>
    intro D t F z2 h hI h4 hq hl hg
    obtain ⟨hP, hN, h0, h6⟩ := hI
    have hA := hP.1.1.2.1
    have ht := hN.1
    have w0 := hP.1.1.2.2.2.1
    have g2 : t.1 = 2 := by omega
    by_cases c : nmZ t 0 (tI (D 1) - 1) = 0
    · obtain ⟨F1, c1, r1, p1, k1⟩ := go_196 (E := E) (G := G) h ht (y := 4) (by omega)
      have c2 := go_201b (E := E) (G := G) r1 p1 hA
      have e1 : pBt T n q 0 D t = .inl (flt t 4) := if_pos c
      rw [e1]
      refine ⟨F1, fun d hd => ?_, r1, k1⟩
      obtain ⟨h1, h2, ⟨m1, m2, m3, m4⟩, h4', h5⟩ := h
      obtain ⟨b1, b2, b3, b4⟩ := r1
      obtain ⟨n1, n2, n3⟩ := nm_0 c
      have m5 := m4 g2
      have tr := ht.2.2.2.2
      rw [q_204_0]; (try simp only [↓n_rd, ↓n_al, ↓n_cI, li_0, li_1, li_2, li_3, li_4, li_8, li_12, li_13, li_24, lj_0, lj_1, lj_2, lj_3, lj_4, lj_12, zJ_add, zJ_sub, zJ_mul, zJ_neg, zJ_l2i, zI_add, zI_sub, zI_mul, zI_neg, ↓Option.bind_some]); simp (disch := (first | assumption | exact tI_rg _ | omega | exact uR_at | exact row_ne hF (by decide) | exact row_ne (row_ne hF (by decide)) (by decide) | exact SnS_18 | exact SnS_30 | exact LdS_44 | exact LdS_46)) only [q_204_24, q_204_58, q_204_74, q_204_114, h4', h5, m1, m5, g2, ↓cc_188t, zI_i2l, ↓ctV c1, ↓ctT c2, b1, ↓n_rd, ↓n_al, ↓n_cI, li_0, li_1, li_2, li_3, li_4, li_8, li_12, li_13, li_24, lj_0, lj_1, lj_2, lj_3, lj_4, lj_12, zJ_add, zJ_sub, zJ_mul, zJ_neg, zJ_l2i, tJ_zJ, zI_add, zI_sub, zI_mul, zI_neg, ↓Option.bind_some, ↓g12_1, ↓g12_11, ↓g12_12, ↓g12_13, ↓al_219, ↓as_219, zIt2, uR_at, uR_ne, uR_uR, uC_uC, uC_at, ↓reduceIte, decide_eq_true_eq, leT, leF, ltT, ltF, eqT, eqF, ne_eq, not_true_eq_false, not_false_eq_true, Bool.false_eq_true, tI_zI]
    · have e3 : nmZ t 0 (tI (D 1) - 1) = 3 := by
        unfold nmZ at c ⊢
        rw [if_pos g2] at c ⊢
        by_cases g : 0 ≤ t.2.2.2 ∧ t.2.2.2 ≤ tI (D 1) - 1
        · rw [if_pos g] at c; exact absurd rfl c
        · rw [if_neg g]
      have g : ¬ (0 ≤ t.2.2.2 ∧ t.2.2.2 ≤ tI (D 1) - 1) := fun z => by
        unfold nmZ at c; rw [if_pos g2, if_pos z] at c; exact c rfl
      have e1 : pBt T n q 0 D t = .inl (flt t 3) := (if_neg c).trans (by rw [e3])
      rw [e1]
      obtain ⟨F1, c1, r1, p1, k1⟩ := go_196 (E := E) (G := G) h ht (y := 3) (by omega)
      have c2 := go_201b (E := E) (G := G) r1 p1 hA
      have c4 := go_196b (E := E) (G := G) r1 (y := 4)
      refine ⟨F1, fun d hd => ?_, r1, k1⟩
      obtain ⟨h1, h2, ⟨m1, m2, m3, m4⟩, h4', h5⟩ := h
      obtain ⟨b1, b2, b3, b4⟩ := r1
      have m5 := m4 g2
      have tr := ht.2.2.2.2
      rw [q_204_0]; (try simp only [↓n_rd, ↓n_al, ↓n_cI, li_0, li_1, li_2, li_3, li_4, li_8, li_12, li_13, li_24, lj_0, lj_1, lj_2, lj_3, lj_4, lj_12, zJ_add, zJ_sub, zJ_mul, zJ_neg, zJ_l2i, zI_add, zI_sub, zI_mul, zI_neg, ↓Option.bind_some]); simp (disch := (first | assumption | exact tI_rg _ | omega | exact uR_at | exact row_ne hF (by decide) | exact row_ne (row_ne hF (by decide)) (by decide) | exact SnS_18 | exact SnS_30 | exact LdS_44 | exact LdS_46)) only [q_204_24, q_204_58, q_204_74, q_204_114, h4', h5, p1, m1, m5, g2, ↓cc_188f, zI_i2l, ↓ctV c1, ↓ctV c4, ↓ctT c2, b1, ↓n_rd, ↓n_al, ↓n_cI, li_0, li_1, li_2, li_3, li_4, li_8, li_12, li_13, li_24, lj_0, lj_1, lj_2, lj_3, lj_4, lj_12, zJ_add, zJ_sub, zJ_mul, zJ_neg, zJ_l2i, tJ_zJ, zI_add, zI_sub, zI_mul, zI_neg, ↓Option.bind_some, ↓g12_1, ↓g12_11, ↓g12_12, ↓g12_13, ↓al_219, ↓as_219, zIt2, uR_at, uR_ne, uR_uR, uC_uC, uC_at, ↓reduceIte, decide_eq_true_eq, leT, leF, ltT, ltF, eqT, eqF, ne_eq, not_true_eq_false, not_false_eq_true, Bool.false_eq_true, tI_zI]
  | succ m ih =>
    intro D t F z2 h hI h4 hq hl hg
    have hI' := hI
    obtain ⟨hP, hN, h0, h6⟩ := hI
    have hA := hP.1.1.2.1
    have ht := hN.1
    have w0 := hP.1.1.2.2.2.1
    have l0 := (hP.1.2.2.1 (tI (D 3)) w0.1 h4).1
    rw [← hq] at l0
    by_cases c : nmZ t 0 (tI (D 1) - 1) = 0
    · obtain ⟨g2, n2, n3⟩ := nm_0 c
      obtain ⟨F1, c1, r1, k1⟩ := go_201t (E := E) (G := G) h ht hA c
      have hrun : ∀ d, 5 ≤ d + 1 → runP MP d 204 (0, [some (.ref 217), some (.int (zI q)), z2], [], mk E F G) = runP MP d 204 (0, [some (.ref 217), some (.int (zI q)), some (.int (zI t.2.2.2))], [], mk E (uR F1 219 (addBt D q t.2.2.2)) G) := fun d hd => by
        obtain ⟨h1, h2, ⟨m1, m2, m3, m4⟩, h4', h5⟩ := h
        have m5 := m4 g2
        have tr := ht.2.2.2.2
        have b4 := r1.2.2.2.1
        have b5 := r1.2.2.2.2
        unfold addBt
        by_cases z : tI (D q) = 0
        · rw [q_204_0]; (try simp only [↓n_rd, ↓n_al, ↓n_cI, li_0, li_1, li_2, li_3, li_4, li_8, li_12, li_13, li_24, lj_0, lj_1, lj_2, lj_3, lj_4, lj_12, zJ_add, zJ_sub, zJ_mul, zJ_neg, zJ_l2i, zI_add, zI_sub, zI_mul, zI_neg, ↓Option.bind_some]); simp (disch := (first | assumption | exact tI_rg _ | omega | exact uR_at | exact row_ne hF (by decide) | exact row_ne (row_ne hF (by decide)) (by decide) | exact SnS_18 | exact SnS_30 | exact LdS_44 | exact LdS_46)) only [q_204_24, q_204_58, q_204_74, q_204_114, h4', h5, z, m1, m5, g2, ↓cc_188t, zI_i2l, ↓ctT c1, b4, b5, ↓n_rd, ↓n_al, ↓n_cI, li_0, li_1, li_2, li_3, li_4, li_8, li_12, li_13, li_24, lj_0, lj_1, lj_2, lj_3, lj_4, lj_12, zJ_add, zJ_sub, zJ_mul, zJ_neg, zJ_l2i, tJ_zJ, zI_add, zI_sub, zI_mul, zI_neg, ↓Option.bind_some, ↓g12_1, ↓g12_11, ↓g12_12, ↓g12_13, ↓al_219, ↓as_219, zIt2, uR_at, uR_ne, uR_uR, uC_uC, uC_at, ↓reduceIte, decide_eq_true_eq, leT, leF, ltT, ltF, eqT, eqF, ne_eq, not_true_eq_false, not_false_eq_true, Bool.false_eq_true, tI_zI]
        · rw [q_204_0]; (try simp only [↓n_rd, ↓n_al, ↓n_cI, li_0, li_1, li_2, li_3, li_4, li_8, li_12, li_13, li_24, lj_0, lj_1, lj_2, lj_3, lj_4, lj_12, zJ_add, zJ_sub, zJ_mul, zJ_neg, zJ_l2i, zI_add, zI_sub, zI_mul, zI_neg, ↓Option.bind_some]); simp (disch := (first | assumption | exact tI_rg _ | omega | exact uR_at | exact row_ne hF (by decide) | exact row_ne (row_ne hF (by decide)) (by decide) | exact SnS_18 | exact SnS_30 | exact LdS_44 | exact LdS_46)) only [q_204_24, q_204_58, q_204_74, q_204_114, h4', h5, m1, m5, g2, ↓cc_188t, zI_i2l, ↓ctT c1, b4, b5, ↓n_rd, ↓n_al, ↓n_cI, li_0, li_1, li_2, li_3, li_4, li_8, li_12, li_13, li_24, lj_0, lj_1, lj_2, lj_3, lj_4, lj_12, zJ_add, zJ_sub, zJ_mul, zJ_neg, zJ_l2i, tJ_zJ, zI_add, zI_sub, zI_mul, zI_neg, ↓Option.bind_some, ↓g12_1, ↓g12_11, ↓g12_12, ↓g12_13, ↓al_219, ↓as_219, zIt2, uR_at, uR_ne, uR_uR, uC_uC, uC_at, ↓reduceIte, decide_eq_true_eq, leT, leF, ltT, ltF, eqT, eqF, ne_eq, not_true_eq_false, not_false_eq_true, Bool.false_eq_true, tI_zI]
      obtain ⟨e3, e1, e0⟩ := bt_3 (D := D) (v := t.2.2.2) w0.1 (by rw [← hq]; exact l0.1)
      rw [← hq] at e3 e1 e0
      have eq : tI (addBt D q t.2.2.2 q) = tI (D q) + 1 := by
        unfold addBt; rw [uC_ne (by omega), uC_at, tI_zI (by omega)]
      have hP2 := PaJ_bt hP h4 (by rw [← hq]; omega) (v := t.2.2.2) ⟨n2, by omega⟩
      rw [← hq] at hP2
      obtain ⟨a1, a2, -⟩ := av_st (T := T) hN
      have hM2 := MoR_9 (X := addBt D q t.2.2.2) r1
      by_cases c2 : (av T n t).1 = 2
      · have e : pBt T n q (m + 1) D t = pBt T n q m (addBt D q t.2.2.2) (av T n t) := (if_pos c).trans (if_pos c2)
        rw [e]
        obtain ⟨F2, q1, r2, k2⟩ := ih (addBt D q t.2.2.2) (av T n t) _ (some (.int (zI t.2.2.2))) hM2 (by rw [e3]; exact ⟨hP2, a1, by rw [e0]; omega, h6⟩) (by rw [e3]; exact h4) (by rw [e3]; exact hq) (by omega) (Or.inr c2)
        exact ⟨F2, fun d hd => (hrun d hd).trans (q1 d hd), r2, (k1.tr KpM_9).tr k2⟩
      · have e : pBt T n q (m + 1) D t = .inr (addBt D q t.2.2.2, av T n t) := (if_pos c).trans (if_neg c2)
        rw [e]
        refine ⟨uR F1 219 (addBt D q t.2.2.2), fun d hd => (hrun d hd).trans ?_, hM2, k1.tr KpM_9⟩
        obtain ⟨h1, h2, ⟨m1, m2, m3, m4⟩, h4', h5⟩ := hM2
        have tr := a1.1.1
        rw [q_204_0]; (try simp only [↓n_rd, ↓n_al, ↓n_cI, li_0, li_1, li_2, li_3, li_4, li_8, li_12, li_13, li_24, lj_0, lj_1, lj_2, lj_3, lj_4, lj_12, zJ_add, zJ_sub, zJ_mul, zJ_neg, zJ_l2i, zI_add, zI_sub, zI_mul, zI_neg, ↓Option.bind_some]); simp (disch := (first | assumption | exact tI_rg _ | omega | exact uR_at | exact row_ne hF (by decide) | exact row_ne (row_ne hF (by decide)) (by decide) | exact SnS_18 | exact SnS_30 | exact LdS_44 | exact LdS_46)) only [q_204_24, q_204_58, q_204_74, q_204_114, h4', h5, eq, m1, ↓n_rd, ↓n_al, ↓n_cI, li_0, li_1, li_2, li_3, li_4, li_8, li_12, li_13, li_24, lj_0, lj_1, lj_2, lj_3, lj_4, lj_12, zJ_add, zJ_sub, zJ_mul, zJ_neg, zJ_l2i, tJ_zJ, zI_add, zI_sub, zI_mul, zI_neg, ↓Option.bind_some, ↓g12_1, ↓g12_11, ↓g12_12, ↓g12_13, ↓al_219, ↓as_219, zIt2, uR_at, uR_ne, uR_uR, uC_uC, uC_at, ↓reduceIte, decide_eq_true_eq, leT, leF, ltT, ltF, eqT, eqF, ne_eq, not_true_eq_false, not_false_eq_true, Bool.false_eq_true, tI_zI]
    · have e1 : pBt T n q (m + 1) D t = .inl (flt t (nmZ t 0 (tI (D 1) - 1))) := if_neg c
      rw [e1]
      by_cases g2 : t.1 = 2
      · have e3 : nmZ t 0 (tI (D 1) - 1) = 3 := by
          unfold nmZ at c ⊢
          rw [if_pos g2] at c ⊢
          by_cases g : 0 ≤ t.2.2.2 ∧ t.2.2.2 ≤ tI (D 1) - 1
          · rw [if_pos g] at c; exact absurd rfl c
          · rw [if_neg g]
        have g : ¬ (0 ≤ t.2.2.2 ∧ t.2.2.2 ≤ tI (D 1) - 1) := fun z => by
          unfold nmZ at c; rw [if_pos g2, if_pos z] at c; exact c rfl
        rw [e3]
        obtain ⟨F1, c1, r1, p1, k1⟩ := go_196 (E := E) (G := G) h ht (y := 3) (by omega)
        have c2 := go_201b (E := E) (G := G) r1 p1 hA
        refine ⟨F1, fun d hd => ?_, r1, k1⟩
        obtain ⟨h1, h2, ⟨m1, m2, m3, m4⟩, h4', h5⟩ := h
        obtain ⟨b1, b2, b3, b4⟩ := r1
        have m5 := m4 g2
        have tr := ht.2.2.2.2
        by_cases z : tI (D q) = 0
        · rw [q_204_0]; (try simp only [↓n_rd, ↓n_al, ↓n_cI, li_0, li_1, li_2, li_3, li_4, li_8, li_12, li_13, li_24, lj_0, lj_1, lj_2, lj_3, lj_4, lj_12, zJ_add, zJ_sub, zJ_mul, zJ_neg, zJ_l2i, zI_add, zI_sub, zI_mul, zI_neg, ↓Option.bind_some]); simp (disch := (first | assumption | exact tI_rg _ | omega | exact uR_at | exact row_ne hF (by decide) | exact row_ne (row_ne hF (by decide)) (by decide) | exact SnS_18 | exact SnS_30 | exact LdS_44 | exact LdS_46)) only [q_204_24, q_204_58, q_204_74, q_204_114, h4', h5, p1, z, m1, m5, g2, ↓cc_188f, zI_i2l, ↓ctV c1, ↓ctT c2, b1, ↓n_rd, ↓n_al, ↓n_cI, li_0, li_1, li_2, li_3, li_4, li_8, li_12, li_13, li_24, lj_0, lj_1, lj_2, lj_3, lj_4, lj_12, zJ_add, zJ_sub, zJ_mul, zJ_neg, zJ_l2i, tJ_zJ, zI_add, zI_sub, zI_mul, zI_neg, ↓Option.bind_some, ↓g12_1, ↓g12_11, ↓g12_12, ↓g12_13, ↓al_219, ↓as_219, zIt2, uR_at, uR_ne, uR_uR, uC_uC, uC_at, ↓reduceIte, decide_eq_true_eq, leT, leF, ltT, ltF, eqT, eqF, ne_eq, not_true_eq_false, not_false_eq_true, Bool.false_eq_true, tI_zI]
        · rw [q_204_0]; (try simp only [↓n_rd, ↓n_al, ↓n_cI, li_0, li_1, li_2, li_3, li_4, li_8, li_12, li_13, li_24, lj_0, lj_1, lj_2, lj_3, lj_4, lj_12, zJ_add, zJ_sub, zJ_mul, zJ_neg, zJ_l2i, zI_add, zI_sub, zI_mul, zI_neg, ↓Option.bind_some]); simp (disch := (first | assumption | exact tI_rg _ | omega | exact uR_at | exact row_ne hF (by decide) | exact row_ne (row_ne hF (by decide)) (by decide) | exact SnS_18 | exact SnS_30 | exact LdS_44 | exact LdS_46)) only [q_204_24, q_204_58, q_204_74, q_204_114, h4', h5, p1, m1, m5, g2, ↓cc_188f, zI_i2l, ↓ctV c1, ↓ctT c2, b1, ↓n_rd, ↓n_al, ↓n_cI, li_0, li_1, li_2, li_3, li_4, li_8, li_12, li_13, li_24, lj_0, lj_1, lj_2, lj_3, lj_4, lj_12, zJ_add, zJ_sub, zJ_mul, zJ_neg, zJ_l2i, tJ_zJ, zI_add, zI_sub, zI_mul, zI_neg, ↓Option.bind_some, ↓g12_1, ↓g12_11, ↓g12_12, ↓g12_13, ↓al_219, ↓as_219, zIt2, uR_at, uR_ne, uR_uR, uC_uC, uC_at, ↓reduceIte, decide_eq_true_eq, leT, leF, ltT, ltF, eqT, eqF, ne_eq, not_true_eq_false, not_false_eq_true, Bool.false_eq_true, tI_zI]
      · have z : tI (D q) = 0 := by omega
        obtain ⟨F1, c1, r1, p1, k1⟩ := go_201f (E := E) (G := G) h ht hA c
        refine ⟨F1, fun d hd => ?_, r1, k1⟩
        obtain ⟨h1, h2, ⟨m1, m2, m3, m4⟩, h4', h5⟩ := h
        obtain ⟨b1, b2, b3, b4⟩ := r1
        have t1 := ht.1
        rw [q_204_0]; (try simp only [↓n_rd, ↓n_al, ↓n_cI, li_0, li_1, li_2, li_3, li_4, li_8, li_12, li_13, li_24, lj_0, lj_1, lj_2, lj_3, lj_4, lj_12, zJ_add, zJ_sub, zJ_mul, zJ_neg, zJ_l2i, zI_add, zI_sub, zI_mul, zI_neg, ↓Option.bind_some]); simp (disch := (first | assumption | exact tI_rg _ | omega | exact uR_at | exact row_ne hF (by decide) | exact row_ne (row_ne hF (by decide)) (by decide) | exact SnS_18 | exact SnS_30 | exact LdS_44 | exact LdS_46)) only [q_204_24, q_204_58, q_204_74, q_204_114, h4', h5, p1, z, m1, ↓ctT c1, b1, ↓n_rd, ↓n_al, ↓n_cI, li_0, li_1, li_2, li_3, li_4, li_8, li_12, li_13, li_24, lj_0, lj_1, lj_2, lj_3, lj_4, lj_12, zJ_add, zJ_sub, zJ_mul, zJ_neg, zJ_l2i, tJ_zJ, zI_add, zI_sub, zI_mul, zI_neg, ↓Option.bind_some, ↓g12_1, ↓g12_11, ↓g12_12, ↓g12_13, ↓al_219, ↓as_219, zIt2, uR_at, uR_ne, uR_uR, uC_uC, uC_at, ↓reduceIte, decide_eq_true_eq, leT, leF, ltT, ltF, eqT, eqF, ne_eq, not_true_eq_false, not_false_eq_true, Bool.false_eq_true, tI_zI]
end S94zzn
