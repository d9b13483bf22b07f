/-! CLASS: go, the run -/
section S93v
set_option linter.unusedVariables false
set_option linter.unusedSimpArgs false
theorem min_new {K : Int → Int32} (h : tI (K 5) ≤ tI (K 4)) : (if tI (K 4) < tI (K 5) + 1 then tI (K 4) else tI (K 5) + 1) = newN K := by
  unfold newN; split <;> split <;> omega
theorem stm_no {K : Int → Int32} {n : Int} (h : ¬ (0 < tI (K 166) ∧ (stepsZ K + 1) % tI (K 166) = 0)) : stmZ K false n = 0 := if_neg (fun z => h z.2)
theorem stm_yes {K : Int → Int32} {n : Int} (h : 0 < tI (K 166)) (h2 : (stepsZ K + 1) % tI (K 166) = 0) : (if tI (K 167) < n then tI (K 167) else n) = stmZ K false n := by
  have e : stmZ K false n = (if n ≤ tI (K 167) then n else tI (K 167)) := if_pos ⟨rfl, h, h2⟩
  rw [e]; split <;> split <;> omega

theorem ct_61 {d : Nat} {E : EnQ} {F : Nat → Int → Int32} {G : Nat → Int → Int64} {a : Nat} {K : Int → Int32} (hO : SnO E F a K) (hD : SepP E a) {x p : Int} (hx : -2147483648 ≤ x ∧ x ≤ 2147483647) (hp : -2147483648 ≤ p ∧ p ≤ 2147483647) (hw : whyZ K x p = 0) (hst : stepsZ K < 2000000000) (hd : 4 ≤ d) :
    ∃ F', callP MP d 61 [.ref a, .int (zI x), .int (zI p)] (mk E F G) = some (Sum.inl none, mk E F' G) ∧ SnO E F' a (goK false K x p) ∧ OthS a F F' := by
  have hO' := hO
  obtain ⟨hS, hP, hR, hN, hI⟩ := hO
  have hs := hS.1
  have hs2 := hP.1
  obtain ⟨h1, h2, h3⟩ := why0 hw
  obtain ⟨hv, hf, ht⟩ := wayZ_ends hI h3
  obtain ⟨b0, b1, b2, b3, b4, b5, b6, b7, b8, b9⟩ := hI.1
  obtain ⟨t1, t2, -, -, -, -, -⟩ := go_top hI (c := false) hw hst
  have hD' := hD
  obtain ⟨hD1, hD2⟩ := hD'
  have hB := hI.2.2.1 x h1.1 (by omega)
  have hq := hB.2.2.2.2.2 h1.2
  have hmd := hB.2.2.2.2.1
  have hml := made_le hI h1
  have hL := hN.2.1
  have e0 : tI (F a 1) = tI (K 4) := by rw [hN.1.1]
  have e1 : tI (F a 2) = tI (K 5) := by rw [hN.1.2.1]
  have e3 : tI (F a 3) = stepsZ K := hN.1.2.2
  have e6 : tI (F (rfQ E a 0) 6) = tI (K 166) := by rw [hR.1.2.2.2.2.2.1]
  have e7 : tI (F (rfQ E a 0) 7) = tI (K 167) := by rw [hR.1.2.2.2.2.2.2]
  have e9 : F (a + 9) x = K (38 + 2 * x) := (hN.2.2.2.2 x h1.1 (by omega)).1
  have e10 : F (a + 10) x = K (39 + 2 * x) := (hN.2.2.2.2 x h1.1 (by omega)).2.1
  have hsn := steps_nn hI
  have hmin := min_new b5.2
  have hnn : 0 ≤ newN K ∧ newN K ≤ 60 := by unfold newN; split <;> omega
  have hpq : (0 ≤ tI (K (38 + 2 * x)) ∧ tI (K (38 + 2 * x)) < tI (K 1)) ∧ (0 ≤ p ∧ p < tI (K 1)) := ⟨hq, h2⟩
  obtain ⟨e, rfl⟩ : ∃ e, d = e + 1 := ⟨d - 1, by omega⟩
  have hin : callP MP (e + 1) 61 [.ref a, .int (zI x), .int (zI p)] (mk E F G) = runP MP e 61 (0, [some (.ref a), some (.int (zI x)), some (.int (zI p))], [], mk E F G) := into_eq (by omega) hM_61 (rcv_mk hs (by decide)) rfl
  rw [hin]
  have hgm := fun (z : Int) (h : 0 < z) => (⟨Int.emod_nonneg (stepsZ K + 1) (by omega), Int.emod_lt_of_pos (stepsZ K + 1) h⟩ : 0 ≤ (stepsZ K + 1) % z ∧ (stepsZ K + 1) % z < z)
  by_cases hlg : tI (F a 4) < 99
  · by_cases hz : 0 < tI (K 166)
    · have hg := hgm _ hz
      by_cases hz2 : (stepsZ K + 1) % tI (K 166) = 0
      · have hsy := stm_yes (n := newN K) hz hz2
        have hrun : runP MP e 61 (0, [some (.ref a), some (.int (zI x)), some (.int (zI p))], [], mk E F G) = _ := q_61_0
        (try simp only [↓n_rd, ↓n_al, ↓n_irem, ↓n_cI, li_0, li_1, li_2, li_3, li_5, li_6, li_7, li_8, li_60, li_121, zI_add, zI_sub, zI_mul, zI_neg, ↓Option.bind_some] at hrun)
        simp (disch := (first | assumption | exact tI_rg _ | omega | exact uR_at | exact row_ne hF (by decide) | exact row_ne (row_ne hF (by decide)) (by decide) | exact SnS_18 | exact SnS_30 | exact LdS_44 | exact LdS_46)) only [q_61_121, ↓cc_60 hO', ↓cc_26 hR hI, if_pos hpq, e9, e10, ↓cc_62a hS, e1, e0, e3, e6, e7, minZ, uC_ne, hmin, hw, hz2, hsy, ↓n_rd, ↓n_al, ↓n_irem, ↓n_cI, ↓b_irem, li_0, li_1, li_2, li_3, li_5, li_6, li_7, li_8, li_60, li_121, zI_add, zI_sub, zI_mul, zI_neg, ↓Option.bind_some, ↓g5_2, ↓g5_1, ↓g2_7, ↓g2_6, ↓g5_3, ↓g5_0, ↓g5_7, ↓SnS_l9, ↓SnS_s9, ↓g5_8, ↓SnS_l10, ↓SnS_s10, ↓p5_2, ↓p5_3, zIt2, uR_at, uR_ne, uR_uR, uC_uC, uC_at, ↓reduceIte, decide_eq_true_eq, leT, leF, ltT, ltF, eqT, eqF, ne_eq, not_true_eq_false, not_false_eq_true, Bool.false_eq_true, tI_zI] at hrun
        refine ⟨_, hrun, ?_, fun b z1 z2 z3 z4 z5 z6 => by simp (disch := omega) only [uR_ne]⟩
        refine go_fin hO' hD hw hst (fun b z1 z2 z3 z4 z5 z6 => by simp (disch := omega) only [uR_ne]) ?_ ?_ ?_ ?_ ?_ ?_ ?_ ?_ ?_
        · simp (disch := omega) only [uR_at, uR_ne, uC_at, uC_ne]
        · simp (disch := omega) only [uR_at, uR_ne, uC_at, uC_ne, tI_zI]
          rw [t1]
        · simp (disch := omega) only [uR_at, uR_ne, uC_at, uC_ne, tI_zI]
        · simp (disch := omega) only [uR_at, uR_ne, uC_at, uC_ne, tI_zI]
          rw [if_pos (by omega)]
        · intro k k0 k1
          simp (disch := omega) only [uR_at, uR_ne, uC_at, uC_ne, tI_zI] at k1 ⊢
          by_cases e : k = 0
          · subst e
            rw [if_pos rfl, uC_eq (by omega)]
          · rw [if_neg e, uC_ne (by omega)]
            exact congrArg _ (by omega)
        · intro k k0 k1
          simp (disch := omega) only [uR_at, uR_ne, uC_at, uC_ne, tI_zI] at k1 ⊢
          by_cases e : k = 0
          · subst e
            rw [if_pos rfl, uC_eq (by omega)]
          · rw [if_neg e, uC_ne (by omega)]
            exact congrArg _ (by omega)
        · simp (disch := omega) only [uR_at, uR_ne, uC_at, uC_ne]
        · simp (disch := omega) only [uR_at, uR_ne, uC_at, uC_ne]
        · simp (disch := omega) only [uR_at, uR_ne, uC_at, uC_ne]
      · have hsn2 := stm_no (K := K) (n := newN K) (fun z => hz2 z.2)
        have hrun : runP MP e 61 (0, [some (.ref a), some (.int (zI x)), some (.int (zI p))], [], mk E F G) = _ := q_61_0
        (try simp only [↓n_rd, ↓n_al, ↓n_irem, ↓n_cI, li_0, li_1, li_2, li_3, li_5, li_6, li_7, li_8, li_60, li_121, zI_add, zI_sub, zI_mul, zI_neg, ↓Option.bind_some] at hrun)
        simp (disch := (first | assumption | exact tI_rg _ | omega | exact uR_at | exact row_ne hF (by decide) | exact row_ne (row_ne hF (by decide)) (by decide) | exact SnS_18 | exact SnS_30 | exact LdS_44 | exact LdS_46)) only [q_61_121, ↓cc_60 hO', ↓cc_26 hR hI, if_pos hpq, e9, e10, ↓cc_62a hS, e1, e0, e3, e6, e7, minZ, uC_ne, hmin, hw, ↓n_rd, ↓n_al, ↓n_irem, ↓n_cI, ↓b_irem, li_0, li_1, li_2, li_3, li_5, li_6, li_7, li_8, li_60, li_121, zI_add, zI_sub, zI_mul, zI_neg, ↓Option.bind_some, ↓g5_2, ↓g5_1, ↓g2_7, ↓g2_6, ↓g5_3, ↓g5_0, ↓g5_7, ↓SnS_l9, ↓SnS_s9, ↓g5_8, ↓SnS_l10, ↓SnS_s10, ↓p5_2, ↓p5_3, zIt2, uR_at, uR_ne, uR_uR, uC_uC, uC_at, ↓reduceIte, decide_eq_true_eq, leT, leF, ltT, ltF, eqT, eqF, ne_eq, not_true_eq_false, not_false_eq_true, Bool.false_eq_true, tI_zI] at hrun
        refine ⟨_, hrun, ?_, fun b z1 z2 z3 z4 z5 z6 => by simp (disch := omega) only [uR_ne]⟩
        refine go_fin hO' hD hw hst (fun b z1 z2 z3 z4 z5 z6 => by simp (disch := omega) only [uR_ne]) ?_ ?_ ?_ ?_ ?_ ?_ ?_ ?_ ?_
        · simp (disch := omega) only [uR_at, uR_ne, uC_at, uC_ne]
        · simp (disch := omega) only [uR_at, uR_ne, uC_at, uC_ne, tI_zI]
          rw [t1, hsn2, Int.sub_zero]
        · simp (disch := omega) only [uR_at, uR_ne, uC_at, uC_ne, tI_zI]
        · simp (disch := omega) only [uR_at, uR_ne, uC_at, uC_ne, tI_zI]
          rw [if_pos (by omega)]
        · intro k k0 k1
          simp (disch := omega) only [uR_at, uR_ne, uC_at, uC_ne, tI_zI] at k1 ⊢
          by_cases e : k = 0
          · subst e
            rw [if_pos rfl, uC_eq (by omega)]
          · rw [if_neg e, uC_ne (by omega)]
            exact congrArg _ (by omega)
        · intro k k0 k1
          simp (disch := omega) only [uR_at, uR_ne, uC_at, uC_ne, tI_zI] at k1 ⊢
          by_cases e : k = 0
          · subst e
            rw [if_pos rfl, uC_eq (by omega)]
          · rw [if_neg e, uC_ne (by omega)]
            exact congrArg _ (by omega)
        · simp (disch := omega) only [uR_at, uR_ne, uC_at, uC_ne]
        · simp (disch := omega) only [uR_at, uR_ne, uC_at, uC_ne]
        · simp (disch := omega) only [uR_at, uR_ne, uC_at, uC_ne]
    · have hsn2 := stm_no (K := K) (n := newN K) (fun z => hz z.1)
      have hrun : runP MP e 61 (0, [some (.ref a), some (.int (zI x)), some (.int (zI p))], [], mk E F G) = _ := q_61_0
      (try simp only [↓n_rd, ↓n_al, ↓n_irem, ↓n_cI, li_0, li_1, li_2, li_3, li_5, li_6, li_7, li_8, li_60, li_121, zI_add, zI_sub, zI_mul, zI_neg, ↓Option.bind_some] at hrun)
      simp (disch := (first | assumption | exact tI_rg _ | omega | exact uR_at | exact row_ne hF (by decide) | exact row_ne (row_ne hF (by decide)) (by decide) | exact SnS_18 | exact SnS_30 | exact LdS_44 | exact LdS_46)) only [q_61_121, ↓cc_60 hO', ↓cc_26 hR hI, if_pos hpq, e9, e10, ↓cc_62a hS, e1, e0, e3, e6, e7, minZ, uC_ne, hmin, hw, ↓n_rd, ↓n_al, ↓n_irem, ↓n_cI, ↓b_irem, li_0, li_1, li_2, li_3, li_5, li_6, li_7, li_8, li_60, li_121, zI_add, zI_sub, zI_mul, zI_neg, ↓Option.bind_some, ↓g5_2, ↓g5_1, ↓g2_7, ↓g2_6, ↓g5_3, ↓g5_0, ↓g5_7, ↓SnS_l9, ↓SnS_s9, ↓g5_8, ↓SnS_l10, ↓SnS_s10, ↓p5_2, ↓p5_3, zIt2, uR_at, uR_ne, uR_uR, uC_uC, uC_at, ↓reduceIte, decide_eq_true_eq, leT, leF, ltT, ltF, eqT, eqF, ne_eq, not_true_eq_false, not_false_eq_true, Bool.false_eq_true, tI_zI] at hrun
      refine ⟨_, hrun, ?_, fun b z1 z2 z3 z4 z5 z6 => by simp (disch := omega) only [uR_ne]⟩
      refine go_fin hO' hD hw hst (fun b z1 z2 z3 z4 z5 z6 => by simp (disch := omega) only [uR_ne]) ?_ ?_ ?_ ?_ ?_ ?_ ?_ ?_ ?_
      · simp (disch := omega) only [uR_at, uR_ne, uC_at, uC_ne]
      · simp (disch := omega) only [uR_at, uR_ne, uC_at, uC_ne, tI_zI]
        rw [t1, hsn2, Int.sub_zero]
      · simp (disch := omega) only [uR_at, uR_ne, uC_at, uC_ne, tI_zI]
      · simp (disch := omega) only [uR_at, uR_ne, uC_at, uC_ne, tI_zI]
        rw [if_pos (by omega)]
      · intro k k0 k1
        simp (disch := omega) only [uR_at, uR_ne, uC_at, uC_ne, tI_zI] at k1 ⊢
        by_cases e : k = 0
        · subst e
          rw [if_pos rfl, uC_eq (by omega)]
        · rw [if_neg e, uC_ne (by omega)]
          exact congrArg _ (by omega)
      · intro k k0 k1
        simp (disch := omega) only [uR_at, uR_ne, uC_at, uC_ne, tI_zI] at k1 ⊢
        by_cases e : k = 0
        · subst e
          rw [if_pos rfl, uC_eq (by omega)]
        · rw [if_neg e, uC_ne (by omega)]
          exact congrArg _ (by omega)
      · simp (disch := omega) only [uR_at, uR_ne, uC_at, uC_ne]
      · simp (disch := omega) only [uR_at, uR_ne, uC_at, uC_ne]
      · simp (disch := omega) only [uR_at, uR_ne, uC_at, uC_ne]
  · have hL9 : tI (F a 4) = 99 := by omega
    by_cases hz : 0 < tI (K 166)
    · have hg := hgm _ hz
      by_cases hz2 : (stepsZ K + 1) % tI (K 166) = 0
      · have hsy := stm_yes (n := newN K) hz hz2
        have hrun : runP MP e 61 (0, [some (.ref a), some (.int (zI x)), some (.int (zI p))], [], mk E F G) = _ := q_61_0
        (try simp only [↓n_rd, ↓n_al, ↓n_irem, ↓n_cI, li_0, li_1, li_2, li_3, li_5, li_6, li_7, li_8, li_60, li_121, zI_add, zI_sub, zI_mul, zI_neg, ↓Option.bind_some] at hrun)
        simp (disch := (first | assumption | exact tI_rg _ | omega | exact uR_at | exact row_ne hF (by decide) | exact row_ne (row_ne hF (by decide)) (by decide) | exact SnS_18 | exact SnS_30 | exact LdS_44 | exact LdS_46)) only [q_61_121, ↓cc_60 hO', ↓cc_26 hR hI, if_pos hpq, e9, e10, ↓cc_62b hS, e1, e0, e3, e6, e7, minZ, uC_ne, hmin, hw, hz2, hsy, ↓n_rd, ↓n_al, ↓n_irem, ↓n_cI, ↓b_irem, li_0, li_1, li_2, li_3, li_5, li_6, li_7, li_8, li_60, li_121, zI_add, zI_sub, zI_mul, zI_neg, ↓Option.bind_some, ↓g5_2, ↓g5_1, ↓g2_7, ↓g2_6, ↓g5_3, ↓g5_0, ↓g5_7, ↓SnS_l9, ↓SnS_s9, ↓g5_8, ↓SnS_l10, ↓SnS_s10, ↓p5_2, ↓p5_3, zIt2, uR_at, uR_ne, uR_uR, uC_uC, uC_at, ↓reduceIte, decide_eq_true_eq, leT, leF, ltT, ltF, eqT, eqF, ne_eq, not_true_eq_false, not_false_eq_true, Bool.false_eq_true, tI_zI] at hrun
        refine ⟨_, hrun, ?_, fun b z1 z2 z3 z4 z5 z6 => by simp (disch := omega) only [uR_ne]⟩
        refine go_fin hO' hD hw hst (fun b z1 z2 z3 z4 z5 z6 => by simp (disch := omega) only [uR_ne]) ?_ ?_ ?_ ?_ ?_ ?_ ?_ ?_ ?_
        · simp (disch := omega) only [uR_at, uR_ne, uC_at, uC_ne]
        · simp (disch := omega) only [uR_at, uR_ne, uC_at, uC_ne, tI_zI]
          rw [t1]
        · simp (disch := omega) only [uR_at, uR_ne, uC_at, uC_ne, tI_zI]
        · simp (disch := omega) only [uR_at, uR_ne, uC_at, uC_ne, tI_zI]
          rw [if_neg (by omega)]
        · intro k k0 k1
          simp (disch := omega) only [uR_at, uR_ne, uC_at, uC_ne, tI_zI] at k1 ⊢
          by_cases e : k = 0
          · subst e
            rw [if_pos rfl, uC_eq (by omega)]
          · rw [if_neg e, uC_ne (by omega)]
            unfold cpyZ
            rw [if_pos (by omega)]
            exact congrArg _ (by omega)
        · intro k k0 k1
          simp (disch := omega) only [uR_at, uR_ne, uC_at, uC_ne, tI_zI] at k1 ⊢
          by_cases e : k = 0
          · subst e
            rw [if_pos rfl, uC_eq (by omega)]
          · rw [if_neg e, uC_ne (by omega)]
            unfold cpyZ
            rw [if_pos (by omega)]
            exact congrArg _ (by omega)
        · simp (disch := omega) only [uR_at, uR_ne, uC_at, uC_ne]
        · simp (disch := omega) only [uR_at, uR_ne, uC_at, uC_ne]
        · simp (disch := omega) only [uR_at, uR_ne, uC_at, uC_ne]
      · have hsn2 := stm_no (K := K) (n := newN K) (fun z => hz2 z.2)
        have hrun : runP MP e 61 (0, [some (.ref a), some (.int (zI x)), some (.int (zI p))], [], mk E F G) = _ := q_61_0
        (try simp only [↓n_rd, ↓n_al, ↓n_irem, ↓n_cI, li_0, li_1, li_2, li_3, li_5, li_6, li_7, li_8, li_60, li_121, zI_add, zI_sub, zI_mul, zI_neg, ↓Option.bind_some] at hrun)
        simp (disch := (first | assumption | exact tI_rg _ | omega | exact uR_at | exact row_ne hF (by decide) | exact row_ne (row_ne hF (by decide)) (by decide) | exact SnS_18 | exact SnS_30 | exact LdS_44 | exact LdS_46)) only [q_61_121, ↓cc_60 hO', ↓cc_26 hR hI, if_pos hpq, e9, e10, ↓cc_62b hS, e1, e0, e3, e6, e7, minZ, uC_ne, hmin, hw, ↓n_rd, ↓n_al, ↓n_irem, ↓n_cI, ↓b_irem, li_0, li_1, li_2, li_3, li_5, li_6, li_7, li_8, li_60, li_121, zI_add, zI_sub, zI_mul, zI_neg, ↓Option.bind_some, ↓g5_2, ↓g5_1, ↓g2_7, ↓g2_6, ↓g5_3, ↓g5_0, ↓g5_7, ↓SnS_l9, ↓SnS_s9, ↓g5_8, ↓SnS_l10, ↓SnS_s10, ↓p5_2, ↓p5_3, zIt2, uR_at, uR_ne, uR_uR, uC_uC, uC_at, ↓reduceIte, decide_eq_true_eq, leT, leF, ltT, ltF, eqT, eqF, ne_eq, not_true_eq_false, not_false_eq_true, Bool.false_eq_true, tI_zI] at hrun
        refine ⟨_, hrun, ?_, fun b z1 z2 z3 z4 z5 z6 => by simp (disch := omega) only [uR_ne]⟩
        refine go_fin hO' hD hw hst (fun b z1 z2 z3 z4 z5 z6 => by simp (disch := omega) only [uR_ne]) ?_ ?_ ?_ ?_ ?_ ?_ ?_ ?_ ?_
        · simp (disch := omega) only [uR_at, uR_ne, uC_at, uC_ne]
        · simp (disch := omega) only [uR_at, uR_ne, uC_at, uC_ne, tI_zI]
          rw [t1, hsn2, Int.sub_zero]
        · simp (disch := omega) only [uR_at, uR_ne, uC_at, uC_ne, tI_zI]
        · simp (disch := omega) only [uR_at, uR_ne, uC_at, uC_ne, tI_zI]
          rw [if_neg (by omega)]
        · intro k k0 k1
          simp (disch := omega) only [uR_at, uR_ne, uC_at, uC_ne, tI_zI] at k1 ⊢
          by_cases e : k = 0
          · subst e
            rw [if_pos rfl, uC_eq (by omega)]
          · rw [if_neg e, uC_ne (by omega)]
            unfold cpyZ
            rw [if_pos (by omega)]
            exact congrArg _ (by omega)
        · intro k k0 k1
          simp (disch := omega) only [uR_at, uR_ne, uC_at, uC_ne, tI_zI] at k1 ⊢
          by_cases e : k = 0
          · subst e
            rw [if_pos rfl, uC_eq (by omega)]
          · rw [if_neg e, uC_ne (by omega)]
            unfold cpyZ
            rw [if_pos (by omega)]
            exact congrArg _ (by omega)
        · simp (disch := omega) only [uR_at, uR_ne, uC_at, uC_ne]
        · simp (disch := omega) only [uR_at, uR_ne, uC_at, uC_ne]
        · simp (disch := omega) only [uR_at, uR_ne, uC_at, uC_ne]
    · have hsn2 := stm_no (K := K) (n := newN K) (fun z => hz z.1)
      have hrun : runP MP e 61 (0, [some (.ref a), some (.int (zI x)), some (.int (zI p))], [], mk E F G) = _ := q_61_0
      (try simp only [↓n_rd, ↓n_al, ↓n_irem, ↓n_cI, li_0, li_1, li_2, li_3, li_5, li_6, li_7, li_8, li_60, li_121, zI_add, zI_sub, zI_mul, zI_neg, ↓Option.bind_some] at hrun)
      simp (disch := (first | assumption | exact tI_rg _ | omega | exact uR_at | exact row_ne hF (by decide) | exact row_ne (row_ne hF (by decide)) (by decide) | exact SnS_18 | exact SnS_30 | exact LdS_44 | exact LdS_46)) only [q_61_121, ↓cc_60 hO', ↓cc_26 hR hI, if_pos hpq, e9, e10, ↓cc_62b hS, e1, e0, e3, e6, e7, minZ, uC_ne, hmin, hw, ↓n_rd, ↓n_al, ↓n_irem, ↓n_cI, ↓b_irem, li_0, li_1, li_2, li_3, li_5, li_6, li_7, li_8, li_60, li_121, zI_add, zI_sub, zI_mul, zI_neg, ↓Option.bind_some, ↓g5_2, ↓g5_1, ↓g2_7, ↓g2_6, ↓g5_3, ↓g5_0, ↓g5_7, ↓SnS_l9, ↓SnS_s9, ↓g5_8, ↓SnS_l10, ↓SnS_s10, ↓p5_2, ↓p5_3, zIt2, uR_at, uR_ne, uR_uR, uC_uC, uC_at, ↓reduceIte, decide_eq_true_eq, leT, leF, ltT, ltF, eqT, eqF, ne_eq, not_true_eq_false, not_false_eq_true, Bool.false_eq_true, tI_zI] at hrun
      refine ⟨_, hrun, ?_, fun b z1 z2 z3 z4 z5 z6 => by simp (disch := omega) only [uR_ne]⟩
      refine go_fin hO' hD hw hst (fun b z1 z2 z3 z4 z5 z6 => by simp (disch := omega) only [uR_ne]) ?_ ?_ ?_ ?_ ?_ ?_ ?_ ?_ ?_
      · simp (disch := omega) only [uR_at, uR_ne, uC_at, uC_ne]
      · simp (disch := omega) only [uR_at, uR_ne, uC_at, uC_ne, tI_zI]
        rw [t1, hsn2, Int.sub_zero]
      · simp (disch := omega) only [uR_at, uR_ne, uC_at, uC_ne, tI_zI]
      · simp (disch := omega) only [uR_at, uR_ne, uC_at, uC_ne, tI_zI]
        rw [if_neg (by omega)]
      · intro k k0 k1
        simp (disch := omega) only [uR_at, uR_ne, uC_at, uC_ne, tI_zI] at k1 ⊢
        by_cases e : k = 0
        · subst e
          rw [if_pos rfl, uC_eq (by omega)]
        · rw [if_neg e, uC_ne (by omega)]
          unfold cpyZ
          rw [if_pos (by omega)]
          exact congrArg _ (by omega)
      · intro k k0 k1
        simp (disch := omega) only [uR_at, uR_ne, uC_at, uC_ne, tI_zI] at k1 ⊢
        by_cases e : k = 0
        · subst e
          rw [if_pos rfl, uC_eq (by omega)]
        · rw [if_neg e, uC_ne (by omega)]
          unfold cpyZ
          rw [if_pos (by omega)]
          exact congrArg _ (by omega)
      · simp (disch := omega) only [uR_at, uR_ne, uC_at, uC_ne]
      · simp (disch := omega) only [uR_at, uR_ne, uC_at, uC_ne]
      · simp (disch := omega) only [uR_at, uR_ne, uC_at, uC_ne]
end S93v
