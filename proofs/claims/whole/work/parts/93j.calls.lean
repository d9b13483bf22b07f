/-! CALLS that read, first -/
section S93j
set_option linter.unusedVariables false
set_option linter.unusedSimpArgs false
theorem cnt_none {K : Int → Int32} (hI : InvK K) : cntN (fun k : Nat => prW K k == -1) (tI (K 5)).toNat = 0 := by
  have : ∀ n : Nat, (n : Int) ≤ tI (K 5) → cntN (fun k : Nat => prW K k == -1) n = 0 := by
    intro n
    induction n with
    | zero => intro _; rfl
    | succ n ih =>
      intro h
      have hw := (pr_in hI (i := (n : Int)) (by omega) (by omega)).1
      rw [cntN_neg (fun z => by have := beq_iff_eq.mp z; omega)]
      exact ih (by omega)
  have h5 := hI.1.2.2.2.2.2.1
  exact this _ (by omega)
def a_prints (K : Int → Int32) (x y : Int) : Int × Int := if 0 ≤ x ∧ x < tI (K 1) then if 0 ≤ y ∧ y < tI (K 1) then (0, cntN (fun k : Nat => prW K k == wayZ K x y) (tI (K 5)).toNat) else (1, 0) else (1, 0)
theorem cl_prints {d : Nat} {E : EnQ} {F : Nat → Int → Int32} {G : Nat → Int → Int64} {K : Int → Int32} (hO : SnO E F 18 K) {x y : Int} (hx : -2147483648 ≤ x ∧ x ≤ 2147483647) (hy : -2147483648 ≤ y ∧ y ≤ 2147483647) (hd : 4 ≤ d) : ∃ E1, (E1 = E ∨ E1 = jE E) ∧ callP MP d 144 [.ref 16, .int (zI x), .int (zI y)] (mk E F G) = some (thrP [0] (a_prints K x y), mk E1 F G) := by
  have hO' := hO
  obtain ⟨hS, hP, hR, hN, hI⟩ := hO
  have hs := hS.1
  have hs2 := hP.1
  have hA := hI.1
  obtain ⟨b0, b1, b2, b3, b4, b5, b6, b7, b8, b9⟩ := hI.1
  have e18 := bO hN
  by_cases c1 : 0 ≤ x ∧ x < tI (K 1)
  · by_cases c2 : 0 ≤ y ∧ y < tI (K 1)
    · have ha : a_prints K x y = (0, cntN (fun k : Nat => prW K k == wayZ K x y) (tI (K 5)).toNat) := (if_pos c1).trans ((if_pos c2).trans (rfl))
      refine ⟨E, Or.inl rfl, ?_⟩
      rw [show thrP [0] (a_prints K x y) = Sum.inl (some (.int (zI (cntN (fun k : Nat => prW K k == wayZ K x y) (tI (K 5)).toNat)))) by rw [ha]; rfl]
      refine into (D := 3) (by omega) hM_144 (rcv_mk rfl (by decide)) rfl fun d hd => ?_
      show runP MP d 144 (0, [some (.ref 16), some (.int (zI x)), some (.int (zI y))], [], _) = _
      have hw := wayZ_lo hA.2.2.1 x y
      rw [q_144_0]; (try simp only [↓n_cI, li_0, li_4, li_5, zI_add, zI_sub, zI_mul, zI_neg, ↓Option.bind_some]); simp (disch := (first | assumption | exact tI_rg _ | omega | exact uR_at | exact row_ne hF (by decide) | exact row_ne (row_ne hF (by decide)) (by decide) | exact SnS_18 | exact SnS_30 | exact LdS_44 | exact LdS_46)) only [↓cc_127t hO', ↓cc_127f hO', ↓cc_129t hO', ↓cc_129f hO', ↓cc_124t, ↓cc_124f, thr_eq, ↓cc_26 hR hI, if_pos (⟨c1, c2⟩ : (0 ≤ x ∧ x < tI (K 1)) ∧ (0 ≤ y ∧ y < tI (K 1))), ↓cc_68 hO', ↓n_cI, li_0, li_4, li_5, zI_add, zI_sub, zI_mul, zI_neg, ↓Option.bind_some, ↓g5_0, ↓g11_4, zIt2, uR_at, uR_ne, uR_uR, uC_uC, uC_at, ↓reduceIte, decide_eq_true_eq, leT, leF, ltT, ltF, eqT, eqF, ne_eq, not_true_eq_false, not_false_eq_true, Bool.false_eq_true, tI_zI]
    · have ha : a_prints K x y = (1, 0) := (if_pos c1).trans (if_neg c2)
      refine ⟨jE E, Or.inr rfl, ?_⟩
      rw [show thrP [0] (a_prints K x y) = Sum.inr 0 by rw [ha]; rfl]
      refine into (D := 3) (by omega) hM_144 (rcv_mk rfl (by decide)) rfl fun d hd => ?_
      show runP MP d 144 (0, [some (.ref 16), some (.int (zI x)), some (.int (zI y))], [], _) = _
      rw [q_144_0]; (try simp only [↓n_cI, li_0, li_4, li_5, zI_add, zI_sub, zI_mul, zI_neg, ↓Option.bind_some]); simp (disch := (first | assumption | exact tI_rg _ | omega | exact uR_at | exact row_ne hF (by decide) | exact row_ne (row_ne hF (by decide)) (by decide) | exact SnS_18 | exact SnS_30 | exact LdS_44 | exact LdS_46)) only [↓cc_127t hO', ↓cc_127f hO', ↓cc_129t hO', ↓cc_129f hO', ↓cc_124t, ↓cc_124f, thr_eq, ↓n_cI, li_0, li_4, li_5, zI_add, zI_sub, zI_mul, zI_neg, ↓Option.bind_some, ↓g5_0, ↓g11_4, zIt2, uR_at, uR_ne, uR_uR, uC_uC, uC_at, ↓reduceIte, decide_eq_true_eq, leT, leF, ltT, ltF, eqT, eqF, ne_eq, not_true_eq_false, not_false_eq_true, Bool.false_eq_true, tI_zI]
  · have ha : a_prints K x y = (1, 0) := if_neg c1
    refine ⟨jE E, Or.inr rfl, ?_⟩
    rw [show thrP [0] (a_prints K x y) = Sum.inr 0 by rw [ha]; rfl]
    refine into (D := 3) (by omega) hM_144 (rcv_mk rfl (by decide)) rfl fun d hd => ?_
    show runP MP d 144 (0, [some (.ref 16), some (.int (zI x)), some (.int (zI y))], [], _) = _
    rw [q_144_0]; (try simp only [↓n_cI, li_0, li_4, li_5, zI_add, zI_sub, zI_mul, zI_neg, ↓Option.bind_some]); simp (disch := (first | assumption | exact tI_rg _ | omega | exact uR_at | exact row_ne hF (by decide) | exact row_ne (row_ne hF (by decide)) (by decide) | exact SnS_18 | exact SnS_30 | exact LdS_44 | exact LdS_46)) only [↓cc_127t hO', ↓cc_127f hO', ↓cc_129t hO', ↓cc_129f hO', ↓cc_124t, ↓cc_124f, thr_eq, ↓n_cI, li_0, li_4, li_5, zI_add, zI_sub, zI_mul, zI_neg, ↓Option.bind_some, ↓g5_0, ↓g11_4, zIt2, uR_at, uR_ne, uR_uR, uC_uC, uC_at, ↓reduceIte, decide_eq_true_eq, leT, leF, ltT, ltF, eqT, eqF, ne_eq, not_true_eq_false, not_false_eq_true, Bool.false_eq_true, tI_zI]
theorem ml_prints {d : Nat} {E : EnQ} {F : Nat → Int → Int32} {G : Nat → Int → Int64} {K : Int → Int32} (hI : InvK K) (hF : F 218 = K) {x y : Int} (hx : -2147483648 ≤ x ∧ x ≤ 2147483647) (hy : -2147483648 ≤ y ∧ y ≤ 2147483647) (hd : 4 ≤ d) : callP MP d 247 [.ref 217, .int (zI x), .int (zI y)] (mk E F G) = some (Sum.inl (some (.int (zI ((a_prints K x y).2)))), mk E (uR F 217 (uC (F 217) 5 (zI (a_prints K x y).1))) G) := by
  have hA := hI.1
  obtain ⟨b0, b1, b2, b3, b4, b5, b6, b7, b8, b9⟩ := hI.1
  by_cases c1 : 0 ≤ x ∧ x < tI (K 1)
  · by_cases c2 : 0 ≤ y ∧ y < tI (K 1)
    · have ha : a_prints K x y = (0, cntN (fun k : Nat => prW K k == wayZ K x y) (tI (K 5)).toNat) := (if_pos c1).trans ((if_pos c2).trans (rfl))
      rw [ha]
      show (_ : ResP) = some (Sum.inl (some (.int (zI (cntN (fun k : Nat => prW K k == wayZ K x y) (tI (K 5)).toNat)))), mk E (uR F 217 (uC (F 217) 5 (zI 0))) G)
      refine into (D := 3) (by omega) hM_247 (rcv_mk rfl (by decide)) rfl fun d hd => ?_
      show runP MP d 247 (0, [some (.ref 217), some (.int (zI x)), some (.int (zI y))], [], _) = _
      have hw := wayZ_lo hA.2.2.1 x y
      have hz : (if wayZ K x y = -1 then 0 else cntN (fun k : Nat => prW K k == wayZ K x y) (tI (K 5)).toNat) = cntN (fun k : Nat => prW K k == wayZ K x y) (tI (K 5)).toNat := by
        by_cases e : wayZ K x y = -1
        · rw [if_pos e, e, cnt_none hI]
        · rw [if_neg e]
      rw [q_247_0]; (try simp only [↓n_cI, li_0, li_1, li_5, li_12, li_32, lj_0, lj_1, lj_5, lj_12, zJ_add, zJ_sub, zJ_mul, zJ_neg, zJ_l2i, zI_add, zI_sub, zI_mul, zI_neg, ↓Option.bind_some]); simp (disch := (first | assumption | exact tI_rg _ | omega | exact uR_at | exact row_ne hF (by decide) | exact row_ne (row_ne hF (by decide)) (by decide) | exact SnS_18 | exact SnS_30 | exact LdS_44 | exact LdS_46)) only [q_247_32, q_247_37, ↓cc_213t hI, ↓cc_213f hI, ↓cc_219t hI, ↓cc_219f hI, ↓cc_188t, ↓cc_188f, ↓cc_189, zI_i2l, ↓cc_246 hI, hz, ↓n_cI, li_0, li_1, li_5, li_12, li_32, lj_0, lj_1, lj_5, lj_12, zJ_add, zJ_sub, zJ_mul, zJ_neg, zJ_l2i, tJ_zJ, zI_add, zI_sub, zI_mul, zI_neg, ↓Option.bind_some, ↓p12_5, zIt2, uR_at, uR_ne, uR_uR, uC_uC, uC_at, ↓reduceIte, decide_eq_true_eq, leT, leF, ltT, ltF, eqT, eqF, ne_eq, not_true_eq_false, not_false_eq_true, Bool.false_eq_true, tI_zI]
    · have ha : a_prints K x y = (1, 0) := (if_pos c1).trans (if_neg c2)
      rw [ha]
      show (_ : ResP) = some (Sum.inl (some (.int (zI (0)))), mk E (uR F 217 (uC (F 217) 5 (zI 1))) G)
      refine into (D := 3) (by omega) hM_247 (rcv_mk rfl (by decide)) rfl fun d hd => ?_
      show runP MP d 247 (0, [some (.ref 217), some (.int (zI x)), some (.int (zI y))], [], _) = _
      rw [q_247_0]; (try simp only [↓n_cI, li_0, li_1, li_5, li_12, li_32, lj_0, lj_1, lj_5, lj_12, zJ_add, zJ_sub, zJ_mul, zJ_neg, zJ_l2i, zI_add, zI_sub, zI_mul, zI_neg, ↓Option.bind_some]); simp (disch := (first | assumption | exact tI_rg _ | omega | exact uR_at | exact row_ne hF (by decide) | exact row_ne (row_ne hF (by decide)) (by decide) | exact SnS_18 | exact SnS_30 | exact LdS_44 | exact LdS_46)) only [q_247_32, q_247_37, ↓cc_213t hI, ↓cc_213f hI, ↓cc_219t hI, ↓cc_219f hI, ↓cc_188t, ↓cc_188f, ↓cc_189, zI_i2l, hF, ↓n_cI, li_0, li_1, li_5, li_12, li_32, lj_0, lj_1, lj_5, lj_12, zJ_add, zJ_sub, zJ_mul, zJ_neg, zJ_l2i, tJ_zJ, zI_add, zI_sub, zI_mul, zI_neg, ↓Option.bind_some, ↓p12_5, zIt2, uR_at, uR_ne, uR_uR, uC_uC, uC_at, ↓reduceIte, decide_eq_true_eq, leT, leF, ltT, ltF, eqT, eqF, ne_eq, not_true_eq_false, not_false_eq_true, Bool.false_eq_true, tI_zI]
  · have ha : a_prints K x y = (1, 0) := if_neg c1
    rw [ha]
    show (_ : ResP) = some (Sum.inl (some (.int (zI (0)))), mk E (uR F 217 (uC (F 217) 5 (zI 1))) G)
    refine into (D := 3) (by omega) hM_247 (rcv_mk rfl (by decide)) rfl fun d hd => ?_
    show runP MP d 247 (0, [some (.ref 217), some (.int (zI x)), some (.int (zI y))], [], _) = _
    rw [q_247_0]; (try simp only [↓n_cI, li_0, li_1, li_5, li_12, li_32, lj_0, lj_1, lj_5, lj_12, zJ_add, zJ_sub, zJ_mul, zJ_neg, zJ_l2i, zI_add, zI_sub, zI_mul, zI_neg, ↓Option.bind_some]); simp (disch := (first | assumption | exact tI_rg _ | omega | exact uR_at | exact row_ne hF (by decide) | exact row_ne (row_ne hF (by decide)) (by decide) | exact SnS_18 | exact SnS_30 | exact LdS_44 | exact LdS_46)) only [q_247_32, q_247_37, ↓cc_213t hI, ↓cc_213f hI, ↓cc_219t hI, ↓cc_219f hI, ↓cc_188t, ↓cc_188f, ↓cc_189, zI_i2l, hF, ↓n_cI, li_0, li_1, li_5, li_12, li_32, lj_0, lj_1, lj_5, lj_12, zJ_add, zJ_sub, zJ_mul, zJ_neg, zJ_l2i, tJ_zJ, zI_add, zI_sub, zI_mul, zI_neg, ↓Option.bind_some, ↓p12_5, zIt2, uR_at, uR_ne, uR_uR, uC_uC, uC_at, ↓reduceIte, decide_eq_true_eq, leT, leF, ltT, ltF, eqT, eqF, ne_eq, not_true_eq_false, not_false_eq_true, Bool.false_eq_true, tI_zI]
def a_path (K : Int → Int32) (x y : Int) : Int × Int := if 0 ≤ x ∧ x < tI (K 2) then if 0 ≤ y ∧ y ≤ 3 then (0, if y < 2 then tI (K (6 + 2 * x + y)) else cntN (fun k : Nat => prW K k == 2 * x + y - 2) (tI (K 5)).toNat) else (2, 0) else (1, 0)
theorem cl_path {d : Nat} {E : EnQ} {F : Nat → Int → Int32} {G : Nat → Int → Int64} {K : Int → Int32} (hO : SnO E F 18 K) {x y : Int} (hx : -2147483648 ≤ x ∧ x ≤ 2147483647) (hy : -2147483648 ≤ y ∧ y ≤ 2147483647) (hd : 4 ≤ d) : ∃ E1, (E1 = E ∨ E1 = jE E) ∧ callP MP d 125 [.ref 16, .int (zI x), .int (zI y)] (mk E F G) = some (thrP [0, 2] (a_path K x y), mk E1 F G) := by
  have hO' := hO
  obtain ⟨hS, hP, hR, hN, hI⟩ := hO
  have hs := hS.1
  have hs2 := hP.1
  have hA := hI.1
  obtain ⟨b0, b1, b2, b3, b4, b5, b6, b7, b8, b9⟩ := hI.1
  have e18 := bO hN
  by_cases c1 : 0 ≤ x ∧ x < tI (K 2)
  · by_cases c2 : 0 ≤ y ∧ y ≤ 3
    · have ha : a_path K x y = (0, if y < 2 then tI (K (6 + 2 * x + y)) else cntN (fun k : Nat => prW K k == 2 * x + y - 2) (tI (K 5)).toNat) := (if_pos c1).trans ((if_pos c2).trans (rfl))
      refine ⟨E, Or.inl rfl, ?_⟩
      rw [show thrP [0, 2] (a_path K x y) = Sum.inl (some (.int (zI (if y < 2 then tI (K (6 + 2 * x + y)) else cntN (fun k : Nat => prW K k == 2 * x + y - 2) (tI (K 5)).toNat)))) by rw [ha]; rfl]
      refine into (D := 3) (by omega) hM_125 (rcv_mk rfl (by decide)) rfl fun d hd => ?_
      show runP MP d 125 (0, [some (.ref 16), some (.int (zI x)), some (.int (zI y)), none], [], _) = _
      have hb := hA.2.2.1
      have e2 : tI (F (rfQ E 18 0) 2) = tI (K 2) := by rw [hR.1.2.2.1]
      have hf0 : fromZ K (2 * x) = tI (K (6 + 2 * x + 0)) := by unfold fromZ; rw [Int.add_zero]
      have hf1 : toZ K (2 * x) = tI (K (6 + 2 * x + 1)) := by unfold toZ flipZ; rw [if_pos (by omega), show 6 + (2 * x + 1) = 6 + 2 * x + 1 by omega]
      by_cases y0 : y = 0
      · subst y0; rw [if_pos (by omega)]; rw [q_125_0]; (try simp only [↓n_rd, ↓n_cI, li_0, li_1, li_2, li_3, li_4, li_5, li_6, li_124, li_125, zI_add, zI_sub, zI_mul, zI_neg, ↓Option.bind_some]); simp (disch := (first | assumption | exact tI_rg _ | omega | exact uR_at | exact row_ne hF (by decide) | exact row_ne (row_ne hF (by decide)) (by decide) | exact SnS_18 | exact SnS_30 | exact LdS_44 | exact LdS_46)) only [q_125_18, q_125_87, ↓cc_127t hO', ↓cc_127f hO', ↓cc_129t hO', ↓cc_129f hO', ↓cc_124t, ↓cc_124f, thr_eq, ↓cc_28 hR hI, hf0, ↓n_rd, ↓n_cI, jnk_mk, li_0, li_1, li_2, li_3, li_4, li_5, li_6, li_124, li_125, zI_add, zI_sub, zI_mul, zI_neg, ↓Option.bind_some, ↓g2_2, ↓g5_0, ↓g11_4, zIt2, uR_at, uR_ne, uR_uR, uC_uC, uC_at, ↓reduceIte, decide_eq_true_eq, leT, leF, ltT, ltF, eqT, eqF, ne_eq, not_true_eq_false, not_false_eq_true, Bool.false_eq_true, tI_zI]
      · by_cases y1 : y = 1
        · subst y1; rw [if_pos (by omega)]; rw [q_125_0]; (try simp only [↓n_rd, ↓n_cI, li_0, li_1, li_2, li_3, li_4, li_5, li_6, li_124, li_125, zI_add, zI_sub, zI_mul, zI_neg, ↓Option.bind_some]); simp (disch := (first | assumption | exact tI_rg _ | omega | exact uR_at | exact row_ne hF (by decide) | exact row_ne (row_ne hF (by decide)) (by decide) | exact SnS_18 | exact SnS_30 | exact LdS_44 | exact LdS_46)) only [q_125_18, q_125_87, ↓cc_127t hO', ↓cc_127f hO', ↓cc_129t hO', ↓cc_129f hO', ↓cc_124t, ↓cc_124f, thr_eq, ↓cc_29 hR hI, hf1, ↓n_rd, ↓n_cI, jnk_mk, li_0, li_1, li_2, li_3, li_4, li_5, li_6, li_124, li_125, zI_add, zI_sub, zI_mul, zI_neg, ↓Option.bind_some, ↓g2_2, ↓g5_0, ↓g11_4, zIt2, uR_at, uR_ne, uR_uR, uC_uC, uC_at, ↓reduceIte, decide_eq_true_eq, leT, leF, ltT, ltF, eqT, eqF, ne_eq, not_true_eq_false, not_false_eq_true, Bool.false_eq_true, tI_zI]
        · rw [if_neg (by omega)]
          have hc := cntN_rg (fun k : Nat => prW K k == 2 * x + y - 2) (tI (K 5)).toNat
          by_cases y2 : y = 2
          · subst y2; rw [show 2 * x + 2 - 2 = 2 * x by omega] at hc ⊢; rw [q_125_0]; (try simp only [↓n_rd, ↓n_cI, li_0, li_1, li_2, li_3, li_4, li_5, li_6, li_124, li_125, zI_add, zI_sub, zI_mul, zI_neg, ↓Option.bind_some]); simp (disch := (first | assumption | exact tI_rg _ | omega | exact uR_at | exact row_ne hF (by decide) | exact row_ne (row_ne hF (by decide)) (by decide) | exact SnS_18 | exact SnS_30 | exact LdS_44 | exact LdS_46)) only [q_125_18, q_125_87, ↓cc_127t hO', ↓cc_127f hO', ↓cc_129t hO', ↓cc_129f hO', ↓cc_124t, ↓cc_124f, thr_eq, ↓cc_68 hO', ↓n_rd, ↓n_cI, jnk_mk, li_0, li_1, li_2, li_3, li_4, li_5, li_6, li_124, li_125, zI_add, zI_sub, zI_mul, zI_neg, ↓Option.bind_some, ↓g2_2, ↓g5_0, ↓g11_4, zIt2, uR_at, uR_ne, uR_uR, uC_uC, uC_at, ↓reduceIte, decide_eq_true_eq, leT, leF, ltT, ltF, eqT, eqF, ne_eq, not_true_eq_false, not_false_eq_true, Bool.false_eq_true, tI_zI]
          · have y3 : y = 3 := by omega
            subst y3; rw [show 2 * x + 3 - 2 = 2 * x + 1 by omega] at hc ⊢; rw [q_125_0]; (try simp only [↓n_rd, ↓n_cI, li_0, li_1, li_2, li_3, li_4, li_5, li_6, li_124, li_125, zI_add, zI_sub, zI_mul, zI_neg, ↓Option.bind_some]); simp (disch := (first | assumption | exact tI_rg _ | omega | exact uR_at | exact row_ne hF (by decide) | exact row_ne (row_ne hF (by decide)) (by decide) | exact SnS_18 | exact SnS_30 | exact LdS_44 | exact LdS_46)) only [q_125_18, q_125_87, ↓cc_127t hO', ↓cc_127f hO', ↓cc_129t hO', ↓cc_129f hO', ↓cc_124t, ↓cc_124f, thr_eq, ↓cc_68 hO', ↓n_rd, ↓n_cI, jnk_mk, li_0, li_1, li_2, li_3, li_4, li_5, li_6, li_124, li_125, zI_add, zI_sub, zI_mul, zI_neg, ↓Option.bind_some, ↓g2_2, ↓g5_0, ↓g11_4, zIt2, uR_at, uR_ne, uR_uR, uC_uC, uC_at, ↓reduceIte, decide_eq_true_eq, leT, leF, ltT, ltF, eqT, eqF, ne_eq, not_true_eq_false, not_false_eq_true, Bool.false_eq_true, tI_zI]
    · have ha : a_path K x y = (2, 0) := (if_pos c1).trans (if_neg c2)
      refine ⟨jE E, Or.inr rfl, ?_⟩
      rw [show thrP [0, 2] (a_path K x y) = Sum.inr 2 by rw [ha]; rfl]
      refine into (D := 3) (by omega) hM_125 (rcv_mk rfl (by decide)) rfl fun d hd => ?_
      show runP MP d 125 (0, [some (.ref 16), some (.int (zI x)), some (.int (zI y)), none], [], _) = _
      have hb := hA.2.2.1
      have e2 : tI (F (rfQ E 18 0) 2) = tI (K 2) := by rw [hR.1.2.2.1]
      rw [q_125_0]; (try simp only [↓n_rd, ↓n_cI, li_0, li_1, li_2, li_3, li_4, li_5, li_6, li_124, li_125, zI_add, zI_sub, zI_mul, zI_neg, ↓Option.bind_some]); simp (disch := (first | assumption | exact tI_rg _ | omega | exact uR_at | exact row_ne hF (by decide) | exact row_ne (row_ne hF (by decide)) (by decide) | exact SnS_18 | exact SnS_30 | exact LdS_44 | exact LdS_46)) only [q_125_18, q_125_87, ↓cc_127t hO', ↓cc_127f hO', ↓cc_129t hO', ↓cc_129f hO', ↓cc_124t, ↓cc_124f, thr_eq, ↓n_rd, ↓n_cI, jnk_mk, li_0, li_1, li_2, li_3, li_4, li_5, li_6, li_124, li_125, zI_add, zI_sub, zI_mul, zI_neg, ↓Option.bind_some, ↓g2_2, ↓g5_0, ↓g11_4, zIt2, uR_at, uR_ne, uR_uR, uC_uC, uC_at, ↓reduceIte, decide_eq_true_eq, leT, leF, ltT, ltF, eqT, eqF, ne_eq, not_true_eq_false, not_false_eq_true, Bool.false_eq_true, tI_zI]
  · have ha : a_path K x y = (1, 0) := if_neg c1
    refine ⟨jE E, Or.inr rfl, ?_⟩
    rw [show thrP [0, 2] (a_path K x y) = Sum.inr 0 by rw [ha]; rfl]
    refine into (D := 3) (by omega) hM_125 (rcv_mk rfl (by decide)) rfl fun d hd => ?_
    show runP MP d 125 (0, [some (.ref 16), some (.int (zI x)), some (.int (zI y)), none], [], _) = _
    have hb := hA.2.2.1
    have e2 : tI (F (rfQ E 18 0) 2) = tI (K 2) := by rw [hR.1.2.2.1]
    by_cases hx0 : x < 0
    · rw [q_125_0]; (try simp only [↓n_rd, ↓n_cI, li_0, li_1, li_2, li_3, li_4, li_5, li_6, li_124, li_125, zI_add, zI_sub, zI_mul, zI_neg, ↓Option.bind_some]); simp (disch := (first | assumption | exact tI_rg _ | omega | exact uR_at | exact row_ne hF (by decide) | exact row_ne (row_ne hF (by decide)) (by decide) | exact SnS_18 | exact SnS_30 | exact LdS_44 | exact LdS_46)) only [q_125_18, q_125_87, ↓cc_127t hO', ↓cc_127f hO', ↓cc_129t hO', ↓cc_129f hO', ↓cc_124t, ↓cc_124f, thr_eq, ↓n_rd, ↓n_cI, jnk_mk, li_0, li_1, li_2, li_3, li_4, li_5, li_6, li_124, li_125, zI_add, zI_sub, zI_mul, zI_neg, ↓Option.bind_some, ↓g2_2, ↓g5_0, ↓g11_4, zIt2, uR_at, uR_ne, uR_uR, uC_uC, uC_at, ↓reduceIte, decide_eq_true_eq, leT, leF, ltT, ltF, eqT, eqF, ne_eq, not_true_eq_false, not_false_eq_true, Bool.false_eq_true, tI_zI]
    · rw [q_125_0]; (try simp only [↓n_rd, ↓n_cI, li_0, li_1, li_2, li_3, li_4, li_5, li_6, li_124, li_125, zI_add, zI_sub, zI_mul, zI_neg, ↓Option.bind_some]); simp (disch := (first | assumption | exact tI_rg _ | omega | exact uR_at | exact row_ne hF (by decide) | exact row_ne (row_ne hF (by decide)) (by decide) | exact SnS_18 | exact SnS_30 | exact LdS_44 | exact LdS_46)) only [q_125_18, q_125_87, ↓cc_127t hO', ↓cc_127f hO', ↓cc_129t hO', ↓cc_129f hO', ↓cc_124t, ↓cc_124f, thr_eq, ↓n_rd, ↓n_cI, jnk_mk, li_0, li_1, li_2, li_3, li_4, li_5, li_6, li_124, li_125, zI_add, zI_sub, zI_mul, zI_neg, ↓Option.bind_some, ↓g2_2, ↓g5_0, ↓g11_4, zIt2, uR_at, uR_ne, uR_uR, uC_uC, uC_at, ↓reduceIte, decide_eq_true_eq, leT, leF, ltT, ltF, eqT, eqF, ne_eq, not_true_eq_false, not_false_eq_true, Bool.false_eq_true, tI_zI]
theorem ml_path {d : Nat} {E : EnQ} {F : Nat → Int → Int32} {G : Nat → Int → Int64} {K : Int → Int32} (hI : InvK K) (hF : F 218 = K) {x y : Int} (hx : -2147483648 ≤ x ∧ x ≤ 2147483647) (hy : -2147483648 ≤ y ∧ y ≤ 2147483647) (hd : 3 ≤ d) : callP MP d 208 [.ref 217, .int (zI x), .int (zI y)] (mk E F G) = some (Sum.inl (some (.int (zI ((a_path K x y).2)))), mk E (uR F 217 (uC (F 217) 5 (zI (a_path K x y).1))) G) := by
  have hA := hI.1
  obtain ⟨b0, b1, b2, b3, b4, b5, b6, b7, b8, b9⟩ := hI.1
  by_cases c1 : 0 ≤ x ∧ x < tI (K 2)
  · by_cases c2 : 0 ≤ y ∧ y ≤ 3
    · have ha : a_path K x y = (0, if y < 2 then tI (K (6 + 2 * x + y)) else cntN (fun k : Nat => prW K k == 2 * x + y - 2) (tI (K 5)).toNat) := (if_pos c1).trans ((if_pos c2).trans (rfl))
      rw [ha]
      show (_ : ResP) = some (Sum.inl (some (.int (zI (if y < 2 then tI (K (6 + 2 * x + y)) else cntN (fun k : Nat => prW K k == 2 * x + y - 2) (tI (K 5)).toNat)))), mk E (uR F 217 (uC (F 217) 5 (zI 0))) G)
      refine into (D := 2) (by omega) hM_208 (rcv_mk rfl (by decide)) rfl fun d hd => ?_
      show runP MP d 208 (0, [some (.ref 217), some (.int (zI x)), some (.int (zI y))], [], _) = _
      have hb := hA.2.2.1
      by_cases y0 : y < 2
      · rw [if_pos y0]; rw [q_208_0]; (try simp only [↓n_rd, ↓n_al, ↓n_cI, li_0, li_1, li_2, li_3, li_5, li_6, li_12, lj_0, lj_1, lj_2, lj_3, lj_5, lj_6, lj_12, zJ_add, zJ_sub, zJ_mul, zJ_neg, zJ_l2i, zI_add, zI_sub, zI_mul, zI_neg, ↓Option.bind_some]); simp (disch := (first | assumption | exact tI_rg _ | omega | exact uR_at | exact row_ne hF (by decide) | exact row_ne (row_ne hF (by decide)) (by decide) | exact SnS_18 | exact SnS_30 | exact LdS_44 | exact LdS_46)) only [q_208_40, q_208_84, ↓cc_213t hI, ↓cc_213f hI, ↓cc_219t hI, ↓cc_219f hI, ↓cc_188t, ↓cc_188f, ↓cc_189, zI_i2l, hF, ↓n_rd, ↓n_al, ↓n_cI, li_0, li_1, li_2, li_3, li_5, li_6, li_12, lj_0, lj_1, lj_2, lj_3, lj_5, lj_6, lj_12, zJ_add, zJ_sub, zJ_mul, zJ_neg, zJ_l2i, tJ_zJ, zI_add, zI_sub, zI_mul, zI_neg, ↓Option.bind_some, ↓g12_5, ↓g12_0, ↓p12_5, ↓al_218, ↓as_218, zIt2, uR_at, uR_ne, uR_uR, uC_uC, uC_at, ↓reduceIte, decide_eq_true_eq, leT, leF, ltT, ltF, eqT, eqF, ne_eq, not_true_eq_false, not_false_eq_true, Bool.false_eq_true, tI_zI]
      · rw [if_neg y0]; rw [q_208_0]; (try simp only [↓n_rd, ↓n_al, ↓n_cI, li_0, li_1, li_2, li_3, li_5, li_6, li_12, lj_0, lj_1, lj_2, lj_3, lj_5, lj_6, lj_12, zJ_add, zJ_sub, zJ_mul, zJ_neg, zJ_l2i, zI_add, zI_sub, zI_mul, zI_neg, ↓Option.bind_some]); simp (disch := (first | assumption | exact tI_rg _ | omega | exact uR_at | exact row_ne hF (by decide) | exact row_ne (row_ne hF (by decide)) (by decide) | exact SnS_18 | exact SnS_30 | exact LdS_44 | exact LdS_46)) only [q_208_40, q_208_84, ↓cc_213t hI, ↓cc_213f hI, ↓cc_219t hI, ↓cc_219f hI, ↓cc_188t, ↓cc_188f, ↓cc_189, zI_i2l, hF, ↓cc_209 hI, ↓n_rd, ↓n_al, ↓n_cI, li_0, li_1, li_2, li_3, li_5, li_6, li_12, lj_0, lj_1, lj_2, lj_3, lj_5, lj_6, lj_12, zJ_add, zJ_sub, zJ_mul, zJ_neg, zJ_l2i, tJ_zJ, zI_add, zI_sub, zI_mul, zI_neg, ↓Option.bind_some, ↓g12_5, ↓g12_0, ↓p12_5, ↓al_218, ↓as_218, zIt2, uR_at, uR_ne, uR_uR, uC_uC, uC_at, ↓reduceIte, decide_eq_true_eq, leT, leF, ltT, ltF, eqT, eqF, ne_eq, not_true_eq_false, not_false_eq_true, Bool.false_eq_true, tI_zI]
    · have ha : a_path K x y = (2, 0) := (if_pos c1).trans (if_neg c2)
      rw [ha]
      show (_ : ResP) = some (Sum.inl (some (.int (zI (0)))), mk E (uR F 217 (uC (F 217) 5 (zI 2))) G)
      refine into (D := 2) (by omega) hM_208 (rcv_mk rfl (by decide)) rfl fun d hd => ?_
      show runP MP d 208 (0, [some (.ref 217), some (.int (zI x)), some (.int (zI y))], [], _) = _
      rw [q_208_0]; (try simp only [↓n_rd, ↓n_al, ↓n_cI, li_0, li_1, li_2, li_3, li_5, li_6, li_12, lj_0, lj_1, lj_2, lj_3, lj_5, lj_6, lj_12, zJ_add, zJ_sub, zJ_mul, zJ_neg, zJ_l2i, zI_add, zI_sub, zI_mul, zI_neg, ↓Option.bind_some]); simp (disch := (first | assumption | exact tI_rg _ | omega | exact uR_at | exact row_ne hF (by decide) | exact row_ne (row_ne hF (by decide)) (by decide) | exact SnS_18 | exact SnS_30 | exact LdS_44 | exact LdS_46)) only [q_208_40, q_208_84, ↓cc_213t hI, ↓cc_213f hI, ↓cc_219t hI, ↓cc_219f hI, ↓cc_188t, ↓cc_188f, ↓cc_189, zI_i2l, hF, ↓n_rd, ↓n_al, ↓n_cI, li_0, li_1, li_2, li_3, li_5, li_6, li_12, lj_0, lj_1, lj_2, lj_3, lj_5, lj_6, lj_12, zJ_add, zJ_sub, zJ_mul, zJ_neg, zJ_l2i, tJ_zJ, zI_add, zI_sub, zI_mul, zI_neg, ↓Option.bind_some, ↓g12_5, ↓g12_0, ↓p12_5, ↓al_218, ↓as_218, zIt2, uR_at, uR_ne, uR_uR, uC_uC, uC_at, ↓reduceIte, decide_eq_true_eq, leT, leF, ltT, ltF, eqT, eqF, ne_eq, not_true_eq_false, not_false_eq_true, Bool.false_eq_true, tI_zI]
  · have ha : a_path K x y = (1, 0) := if_neg c1
    rw [ha]
    show (_ : ResP) = some (Sum.inl (some (.int (zI (0)))), mk E (uR F 217 (uC (F 217) 5 (zI 1))) G)
    refine into (D := 2) (by omega) hM_208 (rcv_mk rfl (by decide)) rfl fun d hd => ?_
    show runP MP d 208 (0, [some (.ref 217), some (.int (zI x)), some (.int (zI y))], [], _) = _
    rw [q_208_0]; (try simp only [↓n_rd, ↓n_al, ↓n_cI, li_0, li_1, li_2, li_3, li_5, li_6, li_12, lj_0, lj_1, lj_2, lj_3, lj_5, lj_6, lj_12, zJ_add, zJ_sub, zJ_mul, zJ_neg, zJ_l2i, zI_add, zI_sub, zI_mul, zI_neg, ↓Option.bind_some]); simp (disch := (first | assumption | exact tI_rg _ | omega | exact uR_at | exact row_ne hF (by decide) | exact row_ne (row_ne hF (by decide)) (by decide) | exact SnS_18 | exact SnS_30 | exact LdS_44 | exact LdS_46)) only [q_208_40, q_208_84, ↓cc_213t hI, ↓cc_213f hI, ↓cc_219t hI, ↓cc_219f hI, ↓cc_188t, ↓cc_188f, ↓cc_189, zI_i2l, hF, ↓n_rd, ↓n_al, ↓n_cI, li_0, li_1, li_2, li_3, li_5, li_6, li_12, lj_0, lj_1, lj_2, lj_3, lj_5, lj_6, lj_12, zJ_add, zJ_sub, zJ_mul, zJ_neg, zJ_l2i, tJ_zJ, zI_add, zI_sub, zI_mul, zI_neg, ↓Option.bind_some, ↓g12_5, ↓g12_0, ↓p12_5, ↓al_218, ↓as_218, zIt2, uR_at, uR_ne, uR_uR, uC_uC, uC_at, ↓reduceIte, decide_eq_true_eq, leT, leF, ltT, ltF, eqT, eqF, ne_eq, not_true_eq_false, not_false_eq_true, Bool.false_eq_true, tI_zI]
theorem nxO_none {K : Int → Int32} {x : Int} (h : cntN (frO K x 0) (tI (K 5)).toNat = 0) : nxO K x 0 = -1 := by
  refine fndN_none fun i _ hi => ?_
  have : ∀ n : Nat, cntN (frO K x 0) n = 0 → ∀ j, j < n → (prO K (j : Int) == x) = false := by
    intro n
    induction n with
    | zero => intro _ j hj; omega
    | succ n ih =>
      intro hc j hj
      by_cases hp : frO K x 0 n = true
      · rw [cntN_pos hp] at hc
        have := cntN_rg (frO K x 0) n
        omega
      · rw [cntN_neg hp] at hc
        by_cases e : j = n
        · subst e
          unfold frO at hp
          cases hq : (prO K (j : Int) == x) with
          | false => rfl
          | true => exact absurd (by rw [hq, Bool.and_true]; exact decide_eq_true (by omega)) hp
        · exact ih hc j (by omega)
  exact this _ h i (by omega)
theorem nxO_some {K : Int → Int32} {x : Int} (h : ¬ cntN (frO K x 0) (tI (K 5)).toNat = 0) : ∃ k : Nat, nxO K x 0 = (k : Int) ∧ (k : Int) < tI (K 5) := by
  rcases fndN_is (fun j : Nat => prO K j == x) ((tI (K 5)).toNat - 0) 0 with ⟨h1, h2⟩ | ⟨k, h1, h2, h3, -⟩
  · exfalso
    apply h
    have : ∀ n : Nat, n ≤ (tI (K 5)).toNat → cntN (frO K x 0) n = 0 := by
      intro n
      induction n with
      | zero => intro _; rfl
      | succ n ih =>
        intro hn
        have h9 : (prO K (n : Int) == x) = false := h2 n (by omega) (by omega)
        rw [cntN_neg (fun z => by unfold frO at z; rw [h9, Bool.and_false] at z; cases z)]
        exact ih (by omega)
    exact this _ (Nat.le_refl _)
  · exact ⟨k, h3, by omega⟩
theorem frO_cnt {K : Int → Int32} {x : Int} (n : Nat) : cntN (fun k : Nat => prO K k == x) n = cntN (frO K x 0) n := cntN_congr fun j _ => by
  unfold frO
  rw [show decide ((0 : Int) ≤ (j : Int)) = true from decide_eq_true (by omega), Bool.true_and]
def a_walker (K : Int → Int32) (x y : Int) : Int × Int := if 0 ≤ x ∧ x < tI (K 3) then if 0 ≤ y ∧ y ≤ 3 then (0, if y = 0 then tI (K (38 + 2 * x)) else if y = 1 then tI (K (39 + 2 * x)) else if y = 2 then cntN (frO K x 0) (tI (K 5)).toNat else if cntN (frO K x 0) (tI (K 5)).toNat = 0 then -1 else fromZ K (prW K (nxO K x 0))) else (2, 0) else (1, 0)
theorem cl_walker {d : Nat} {E : EnQ} {F : Nat → Int → Int32} {G : Nat → Int → Int64} {K : Int → Int32} (hO : SnO E F 18 K) {x y : Int} (hx : -2147483648 ≤ x ∧ x ≤ 2147483647) (hy : -2147483648 ≤ y ∧ y ≤ 2147483647) (hd : 4 ≤ d) : ∃ E1, (E1 = E ∨ E1 = jE E) ∧ callP MP d 128 [.ref 16, .int (zI x), .int (zI y)] (mk E F G) = some (thrP [0, 2] (a_walker K x y), mk E1 F G) := by
  have hO' := hO
  obtain ⟨hS, hP, hR, hN, hI⟩ := hO
  have hs := hS.1
  have hs2 := hP.1
  have hA := hI.1
  obtain ⟨b0, b1, b2, b3, b4, b5, b6, b7, b8, b9⟩ := hI.1
  have e18 := bO hN
  by_cases c1 : 0 ≤ x ∧ x < tI (K 3)
  · by_cases c2 : 0 ≤ y ∧ y ≤ 3
    · have ha : a_walker K x y = (0, if y = 0 then tI (K (38 + 2 * x)) else if y = 1 then tI (K (39 + 2 * x)) else if y = 2 then cntN (frO K x 0) (tI (K 5)).toNat else if cntN (frO K x 0) (tI (K 5)).toNat = 0 then -1 else fromZ K (prW K (nxO K x 0))) := (if_pos c1).trans ((if_pos c2).trans (rfl))
      refine ⟨E, Or.inl rfl, ?_⟩
      rw [show thrP [0, 2] (a_walker K x y) = Sum.inl (some (.int (zI (if y = 0 then tI (K (38 + 2 * x)) else if y = 1 then tI (K (39 + 2 * x)) else if y = 2 then cntN (frO K x 0) (tI (K 5)).toNat else if cntN (frO K x 0) (tI (K 5)).toNat = 0 then -1 else fromZ K (prW K (nxO K x 0)))))) by rw [ha]; rfl]
      refine into (D := 3) (by omega) hM_128 (rcv_mk rfl (by decide)) rfl fun d hd => ?_
      show runP MP d 128 (0, [some (.ref 16), some (.int (zI x)), some (.int (zI y)), none], [], _) = _
      have hb := hA.2.2.2.1
      have hb5 := hA.2.2.2.2.2.1
      have e9 := (hN.2.2.2.2 x c1.1 (by omega)).1
      have e10 := (hN.2.2.2.2 x c1.1 (by omega)).2.1
      by_cases y0 : y = 0
      · rw [if_pos y0]; rw [q_128_0]; (try simp only [↓n_al, ↓n_cI, li_0, li_1, li_2, li_3, li_4, li_5, li_7, li_8, li_64, li_124, li_129, zI_add, zI_sub, zI_mul, zI_neg, ↓Option.bind_some]); simp (disch := (first | assumption | exact tI_rg _ | omega | exact uR_at | exact row_ne hF (by decide) | exact row_ne (row_ne hF (by decide)) (by decide) | exact SnS_18 | exact SnS_30 | exact LdS_44 | exact LdS_46)) only [q_128_91, ↓cc_127t hO', ↓cc_127f hO', ↓cc_129t hO', ↓cc_129f hO', ↓cc_124t, ↓cc_124f, thr_eq, e9, ↓n_al, ↓n_cI, li_0, li_1, li_2, li_3, li_4, li_5, li_7, li_8, li_64, li_124, li_129, zI_add, zI_sub, zI_mul, zI_neg, ↓Option.bind_some, ↓g5_8, ↓SnS_l10, ↓SnS_s10, ↓g5_0, ↓g5_7, ↓SnS_l9, ↓SnS_s9, ↓g11_4, zIt2, uR_at, uR_ne, uR_uR, uC_uC, uC_at, ↓reduceIte, decide_eq_true_eq, leT, leF, ltT, ltF, eqT, eqF, ne_eq, not_true_eq_false, not_false_eq_true, Bool.false_eq_true, tI_zI]
      · rw [if_neg y0]
        by_cases y1 : y = 1
        · rw [if_pos y1]; rw [q_128_0]; (try simp only [↓n_al, ↓n_cI, li_0, li_1, li_2, li_3, li_4, li_5, li_7, li_8, li_64, li_124, li_129, zI_add, zI_sub, zI_mul, zI_neg, ↓Option.bind_some]); simp (disch := (first | assumption | exact tI_rg _ | omega | exact uR_at | exact row_ne hF (by decide) | exact row_ne (row_ne hF (by decide)) (by decide) | exact SnS_18 | exact SnS_30 | exact LdS_44 | exact LdS_46)) only [q_128_91, ↓cc_127t hO', ↓cc_127f hO', ↓cc_129t hO', ↓cc_129f hO', ↓cc_124t, ↓cc_124f, thr_eq, e10, ↓n_al, ↓n_cI, li_0, li_1, li_2, li_3, li_4, li_5, li_7, li_8, li_64, li_124, li_129, zI_add, zI_sub, zI_mul, zI_neg, ↓Option.bind_some, ↓g5_8, ↓SnS_l10, ↓SnS_s10, ↓g5_0, ↓g5_7, ↓SnS_l9, ↓SnS_s9, ↓g11_4, zIt2, uR_at, uR_ne, uR_uR, uC_uC, uC_at, ↓reduceIte, decide_eq_true_eq, leT, leF, ltT, ltF, eqT, eqF, ne_eq, not_true_eq_false, not_false_eq_true, Bool.false_eq_true, tI_zI]
        · rw [if_neg y1]
          by_cases y2 : y = 2
          · rw [if_pos y2]; rw [q_128_0]; (try simp only [↓n_al, ↓n_cI, li_0, li_1, li_2, li_3, li_4, li_5, li_7, li_8, li_64, li_124, li_129, zI_add, zI_sub, zI_mul, zI_neg, ↓Option.bind_some]); simp (disch := (first | assumption | exact tI_rg _ | omega | exact uR_at | exact row_ne hF (by decide) | exact row_ne (row_ne hF (by decide)) (by decide) | exact SnS_18 | exact SnS_30 | exact LdS_44 | exact LdS_46)) only [q_128_91, ↓cc_127t hO', ↓cc_127f hO', ↓cc_129t hO', ↓cc_129f hO', ↓cc_124t, ↓cc_124f, thr_eq, ↓cc_69 hO', ↓n_al, ↓n_cI, li_0, li_1, li_2, li_3, li_4, li_5, li_7, li_8, li_64, li_124, li_129, zI_add, zI_sub, zI_mul, zI_neg, ↓Option.bind_some, ↓g5_8, ↓SnS_l10, ↓SnS_s10, ↓g5_0, ↓g5_7, ↓SnS_l9, ↓SnS_s9, ↓g11_4, zIt2, uR_at, uR_ne, uR_uR, uC_uC, uC_at, ↓reduceIte, decide_eq_true_eq, leT, leF, ltT, ltF, eqT, eqF, ne_eq, not_true_eq_false, not_false_eq_true, Bool.false_eq_true, tI_zI]
          · rw [if_neg y2]
            by_cases g : cntN (frO K x 0) (tI (K 5)).toNat = 0
            · have e := nxO_none g
              rw [if_pos g]; rw [q_128_0]; (try simp only [↓n_al, ↓n_cI, li_0, li_1, li_2, li_3, li_4, li_5, li_7, li_8, li_64, li_124, li_129, zI_add, zI_sub, zI_mul, zI_neg, ↓Option.bind_some]); simp (disch := (first | assumption | exact tI_rg _ | omega | exact uR_at | exact row_ne hF (by decide) | exact row_ne (row_ne hF (by decide)) (by decide) | exact SnS_18 | exact SnS_30 | exact LdS_44 | exact LdS_46)) only [q_128_91, ↓cc_127t hO', ↓cc_127f hO', ↓cc_129t hO', ↓cc_129f hO', ↓cc_124t, ↓cc_124f, thr_eq, ↓cc_71 hO', e, ↓n_al, ↓n_cI, li_0, li_1, li_2, li_3, li_4, li_5, li_7, li_8, li_64, li_124, li_129, zI_add, zI_sub, zI_mul, zI_neg, ↓Option.bind_some, ↓g5_8, ↓SnS_l10, ↓SnS_s10, ↓g5_0, ↓g5_7, ↓SnS_l9, ↓SnS_s9, ↓g11_4, zIt2, uR_at, uR_ne, uR_uR, uC_uC, uC_at, ↓reduceIte, decide_eq_true_eq, leT, leF, ltT, ltF, eqT, eqF, ne_eq, not_true_eq_false, not_false_eq_true, Bool.false_eq_true, tI_zI]
            · obtain ⟨k, e, hk⟩ := nxO_some g
              have hw := (pr_in hI (i := (k : Int)) (by omega) hk).1
              rw [if_neg g]; rw [q_128_0]; (try simp only [↓n_al, ↓n_cI, li_0, li_1, li_2, li_3, li_4, li_5, li_7, li_8, li_64, li_124, li_129, zI_add, zI_sub, zI_mul, zI_neg, ↓Option.bind_some]); simp (disch := (first | assumption | exact tI_rg _ | omega | exact uR_at | exact row_ne hF (by decide) | exact row_ne (row_ne hF (by decide)) (by decide) | exact SnS_18 | exact SnS_30 | exact LdS_44 | exact LdS_46)) only [q_128_91, ↓cc_127t hO', ↓cc_127f hO', ↓cc_129t hO', ↓cc_129f hO', ↓cc_124t, ↓cc_124f, thr_eq, ↓cc_71 hO', e, ↓cc_64 hO', ↓cc_28 hR hI, ↓n_al, ↓n_cI, li_0, li_1, li_2, li_3, li_4, li_5, li_7, li_8, li_64, li_124, li_129, zI_add, zI_sub, zI_mul, zI_neg, ↓Option.bind_some, ↓g5_8, ↓SnS_l10, ↓SnS_s10, ↓g5_0, ↓g5_7, ↓SnS_l9, ↓SnS_s9, ↓g11_4, zIt2, uR_at, uR_ne, uR_uR, uC_uC, uC_at, ↓reduceIte, decide_eq_true_eq, leT, leF, ltT, ltF, eqT, eqF, ne_eq, not_true_eq_false, not_false_eq_true, Bool.false_eq_true, tI_zI]
    · have ha : a_walker K x y = (2, 0) := (if_pos c1).trans (if_neg c2)
      refine ⟨jE E, Or.inr rfl, ?_⟩
      rw [show thrP [0, 2] (a_walker K x y) = Sum.inr 2 by rw [ha]; rfl]
      refine into (D := 3) (by omega) hM_128 (rcv_mk rfl (by decide)) rfl fun d hd => ?_
      show runP MP d 128 (0, [some (.ref 16), some (.int (zI x)), some (.int (zI y)), none], [], _) = _
      rw [q_128_0]; (try simp only [↓n_al, ↓n_cI, li_0, li_1, li_2, li_3, li_4, li_5, li_7, li_8, li_64, li_124, li_129, zI_add, zI_sub, zI_mul, zI_neg, ↓Option.bind_some]); simp (disch := (first | assumption | exact tI_rg _ | omega | exact uR_at | exact row_ne hF (by decide) | exact row_ne (row_ne hF (by decide)) (by decide) | exact SnS_18 | exact SnS_30 | exact LdS_44 | exact LdS_46)) only [q_128_91, ↓cc_127t hO', ↓cc_127f hO', ↓cc_129t hO', ↓cc_129f hO', ↓cc_124t, ↓cc_124f, thr_eq, ↓n_al, ↓n_cI, li_0, li_1, li_2, li_3, li_4, li_5, li_7, li_8, li_64, li_124, li_129, zI_add, zI_sub, zI_mul, zI_neg, ↓Option.bind_some, ↓g5_8, ↓SnS_l10, ↓SnS_s10, ↓g5_0, ↓g5_7, ↓SnS_l9, ↓SnS_s9, ↓g11_4, zIt2, uR_at, uR_ne, uR_uR, uC_uC, uC_at, ↓reduceIte, decide_eq_true_eq, leT, leF, ltT, ltF, eqT, eqF, ne_eq, not_true_eq_false, not_false_eq_true, Bool.false_eq_true, tI_zI]
  · have ha : a_walker K x y = (1, 0) := if_neg c1
    refine ⟨jE E, Or.inr rfl, ?_⟩
    rw [show thrP [0, 2] (a_walker K x y) = Sum.inr 0 by rw [ha]; rfl]
    refine into (D := 3) (by omega) hM_128 (rcv_mk rfl (by decide)) rfl fun d hd => ?_
    show runP MP d 128 (0, [some (.ref 16), some (.int (zI x)), some (.int (zI y)), none], [], _) = _
    rw [q_128_0]; (try simp only [↓n_al, ↓n_cI, li_0, li_1, li_2, li_3, li_4, li_5, li_7, li_8, li_64, li_124, li_129, zI_add, zI_sub, zI_mul, zI_neg, ↓Option.bind_some]); simp (disch := (first | assumption | exact tI_rg _ | omega | exact uR_at | exact row_ne hF (by decide) | exact row_ne (row_ne hF (by decide)) (by decide) | exact SnS_18 | exact SnS_30 | exact LdS_44 | exact LdS_46)) only [q_128_91, ↓cc_127t hO', ↓cc_127f hO', ↓cc_129t hO', ↓cc_129f hO', ↓cc_124t, ↓cc_124f, thr_eq, ↓n_al, ↓n_cI, li_0, li_1, li_2, li_3, li_4, li_5, li_7, li_8, li_64, li_124, li_129, zI_add, zI_sub, zI_mul, zI_neg, ↓Option.bind_some, ↓g5_8, ↓SnS_l10, ↓SnS_s10, ↓g5_0, ↓g5_7, ↓SnS_l9, ↓SnS_s9, ↓g11_4, zIt2, uR_at, uR_ne, uR_uR, uC_uC, uC_at, ↓reduceIte, decide_eq_true_eq, leT, leF, ltT, ltF, eqT, eqF, ne_eq, not_true_eq_false, not_false_eq_true, Bool.false_eq_true, tI_zI]
theorem ml_walker {d : Nat} {E : EnQ} {F : Nat → Int → Int32} {G : Nat → Int → Int64} {K : Int → Int32} (hI : InvK K) (hF : F 218 = K) {x y : Int} (hx : -2147483648 ≤ x ∧ x ≤ 2147483647) (hy : -2147483648 ≤ y ∧ y ≤ 2147483647) (hd : 3 ≤ d) : callP MP d 218 [.ref 217, .int (zI x), .int (zI y)] (mk E F G) = some (Sum.inl (some (.int (zI ((a_walker K x y).2)))), mk E (uR F 217 (uC (F 217) 5 (zI (a_walker K x y).1))) G) := by
  have hA := hI.1
  obtain ⟨b0, b1, b2, b3, b4, b5, b6, b7, b8, b9⟩ := hI.1
  by_cases c1 : 0 ≤ x ∧ x < tI (K 3)
  · by_cases c2 : 0 ≤ y ∧ y ≤ 3
    · have ha : a_walker K x y = (0, if y = 0 then tI (K (38 + 2 * x)) else if y = 1 then tI (K (39 + 2 * x)) else if y = 2 then cntN (frO K x 0) (tI (K 5)).toNat else if cntN (frO K x 0) (tI (K 5)).toNat = 0 then -1 else fromZ K (prW K (nxO K x 0))) := (if_pos c1).trans ((if_pos c2).trans (rfl))
      rw [ha]
      show (_ : ResP) = some (Sum.inl (some (.int (zI (if y = 0 then tI (K (38 + 2 * x)) else if y = 1 then tI (K (39 + 2 * x)) else if y = 2 then cntN (frO K x 0) (tI (K 5)).toNat else if cntN (frO K x 0) (tI (K 5)).toNat = 0 then -1 else fromZ K (prW K (nxO K x 0)))))), mk E (uR F 217 (uC (F 217) 5 (zI 0))) G)
      refine into (D := 2) (by omega) hM_218 (rcv_mk rfl (by decide)) rfl fun d hd => ?_
      show runP MP d 218 (0, [some (.ref 217), some (.int (zI x)), some (.int (zI y)), none, none], [], _) = _
      have hb := hA.2.2.2.1
      have hb5 := hA.2.2.2.2.2.1
      have hb4 := hA.2.2.2.2.1
      have e39 : 38 + 2 * x + 1 = 39 + 2 * x := by omega
      by_cases y0 : y = 0
      · rw [if_pos y0]; rw [q_218_0]; (try simp only [↓n_rd, ↓n_al, ↓n_cI, li_0, li_1, li_2, li_3, li_5, li_12, li_31, li_38, li_210, lj_0, lj_1, lj_2, lj_3, lj_5, lj_12, zJ_add, zJ_sub, zJ_mul, zJ_neg, zJ_l2i, zI_add, zI_sub, zI_mul, zI_neg, ↓Option.bind_some]); simp (disch := (first | assumption | exact tI_rg _ | omega | exact uR_at | exact row_ne hF (by decide) | exact row_ne (row_ne hF (by decide)) (by decide) | exact SnS_18 | exact SnS_30 | exact LdS_44 | exact LdS_46)) only [q_218_31, q_218_92, q_218_130, ↓cc_213t hI, ↓cc_213f hI, ↓cc_219t hI, ↓cc_219f hI, ↓cc_188t, ↓cc_188f, ↓cc_189, zI_i2l, hF, y0, Int.add_zero, ↓n_rd, ↓n_al, ↓n_cI, li_0, li_1, li_2, li_3, li_5, li_12, li_31, li_38, li_210, lj_0, lj_1, lj_2, lj_3, lj_5, lj_12, zJ_add, zJ_sub, zJ_mul, zJ_neg, zJ_l2i, tJ_zJ, zI_add, zI_sub, zI_mul, zI_neg, ↓Option.bind_some, ↓g12_5, ↓g12_0, ↓p12_5, ↓al_218, ↓as_218, zIt2, uR_at, uR_ne, uR_uR, uC_uC, uC_at, ↓reduceIte, decide_eq_true_eq, leT, leF, ltT, ltF, eqT, eqF, ne_eq, not_true_eq_false, not_false_eq_true, Bool.false_eq_true, tI_zI]
      · rw [if_neg y0]
        by_cases y1 : y = 1
        · rw [if_pos y1]; rw [q_218_0]; (try simp only [↓n_rd, ↓n_al, ↓n_cI, li_0, li_1, li_2, li_3, li_5, li_12, li_31, li_38, li_210, lj_0, lj_1, lj_2, lj_3, lj_5, lj_12, zJ_add, zJ_sub, zJ_mul, zJ_neg, zJ_l2i, zI_add, zI_sub, zI_mul, zI_neg, ↓Option.bind_some]); simp (disch := (first | assumption | exact tI_rg _ | omega | exact uR_at | exact row_ne hF (by decide) | exact row_ne (row_ne hF (by decide)) (by decide) | exact SnS_18 | exact SnS_30 | exact LdS_44 | exact LdS_46)) only [q_218_31, q_218_92, q_218_130, ↓cc_213t hI, ↓cc_213f hI, ↓cc_219t hI, ↓cc_219f hI, ↓cc_188t, ↓cc_188f, ↓cc_189, zI_i2l, hF, y1, e39, ↓n_rd, ↓n_al, ↓n_cI, li_0, li_1, li_2, li_3, li_5, li_12, li_31, li_38, li_210, lj_0, lj_1, lj_2, lj_3, lj_5, lj_12, zJ_add, zJ_sub, zJ_mul, zJ_neg, zJ_l2i, tJ_zJ, zI_add, zI_sub, zI_mul, zI_neg, ↓Option.bind_some, ↓g12_5, ↓g12_0, ↓p12_5, ↓al_218, ↓as_218, zIt2, uR_at, uR_ne, uR_uR, uC_uC, uC_at, ↓reduceIte, decide_eq_true_eq, leT, leF, ltT, ltF, eqT, eqF, ne_eq, not_true_eq_false, not_false_eq_true, Bool.false_eq_true, tI_zI]
        · rw [if_neg y1]
          have h67 : runP MP d 218 (67, [some (.ref 217), some (.int (zI x)), some (.int (zI y)), some (.int (zI 0)), some (.int (zI 0))], [], mk E (uR F 217 (uC (F 217) 5 (zI 0))) G) = runP MP d 218 (67, [some (.ref 217), some (.int (zI x)), some (.int (zI y)), some (.int (zI (cntN (frO K x 0) (tI (K 5)).toNat))), some (.int (zI ((tI (K 5)).toNat : Int)))], [], mk E (uR F 217 (uC (F 217) 5 (zI 0))) G) := by
            refine loopN (fun j : Nat => runP MP d 218 (67, [some (.ref 217), some (.int (zI x)), some (.int (zI y)), some (.int (zI (cntN (frO K x 0) j))), some (.int (zI (j : Int)))], [], mk E (uR F 217 (uC (F 217) 5 (zI 0))) G)) _ (fun j hj => ?_)
            show runP MP d 218 _ = runP MP d 218 _
            have hc := cntN_rg (frO K x 0) j
            have hr := tI_rg (K (47 + 2 * (j : Int)))
            have hr2 : -2147483648 ≤ prO K (j : Int) ∧ prO K (j : Int) ≤ 2147483647 := hr
            by_cases h : prO K (j : Int) = x
            · rw [cntN_pos (by unfold frO; rw [Bool.and_eq_true]; exact ⟨decide_eq_true (by omega), beq_iff_eq.mpr h⟩), nsucc]
              rw [q_218_67]; (try simp only [↓n_rd, ↓n_al, ↓n_cI, li_0, li_1, li_2, li_3, li_5, li_12, li_31, li_38, li_210, lj_0, lj_1, lj_2, lj_3, lj_5, lj_12, zJ_add, zJ_sub, zJ_mul, zJ_neg, zJ_l2i, zI_add, zI_sub, zI_mul, zI_neg, ↓Option.bind_some]); simp (disch := (first | assumption | exact tI_rg _ | omega | exact uR_at | exact row_ne hF (by decide) | exact row_ne (row_ne hF (by decide)) (by decide) | exact SnS_18 | exact SnS_30 | exact LdS_44 | exact LdS_46)) only [q_218_0, q_218_31, q_218_92, q_218_130, ↓cc_210 hI, ↓cc_221 hI, ↓n_rd, ↓n_al, ↓n_cI, li_0, li_1, li_2, li_3, li_5, li_12, li_31, li_38, li_210, lj_0, lj_1, lj_2, lj_3, lj_5, lj_12, zJ_add, zJ_sub, zJ_mul, zJ_neg, zJ_l2i, tJ_zJ, zI_add, zI_sub, zI_mul, zI_neg, ↓Option.bind_some, ↓g12_5, ↓g12_0, ↓p12_5, ↓al_218, ↓as_218, zIt2, uR_at, uR_ne, uR_uR, uC_uC, uC_at, ↓reduceIte, decide_eq_true_eq, leT, leF, ltT, ltF, eqT, eqF, ne_eq, not_true_eq_false, not_false_eq_true, Bool.false_eq_true, tI_zI]
            · rw [cntN_neg (by unfold frO; rw [Bool.and_eq_true]; exact fun z => h (beq_iff_eq.mp z.2)), nsucc]
              rw [q_218_67]; (try simp only [↓n_rd, ↓n_al, ↓n_cI, li_0, li_1, li_2, li_3, li_5, li_12, li_31, li_38, li_210, lj_0, lj_1, lj_2, lj_3, lj_5, lj_12, zJ_add, zJ_sub, zJ_mul, zJ_neg, zJ_l2i, zI_add, zI_sub, zI_mul, zI_neg, ↓Option.bind_some]); simp (disch := (first | assumption | exact tI_rg _ | omega | exact uR_at | exact row_ne hF (by decide) | exact row_ne (row_ne hF (by decide)) (by decide) | exact SnS_18 | exact SnS_30 | exact LdS_44 | exact LdS_46)) only [q_218_0, q_218_31, q_218_92, q_218_130, ↓cc_210 hI, ↓cc_221 hI, Int.add_zero, ↓n_rd, ↓n_al, ↓n_cI, li_0, li_1, li_2, li_3, li_5, li_12, li_31, li_38, li_210, lj_0, lj_1, lj_2, lj_3, lj_5, lj_12, zJ_add, zJ_sub, zJ_mul, zJ_neg, zJ_l2i, tJ_zJ, zI_add, zI_sub, zI_mul, zI_neg, ↓Option.bind_some, ↓g12_5, ↓g12_0, ↓p12_5, ↓al_218, ↓as_218, zIt2, uR_at, uR_ne, uR_uR, uC_uC, uC_at, ↓reduceIte, decide_eq_true_eq, leT, leF, ltT, ltF, eqT, eqF, ne_eq, not_true_eq_false, not_false_eq_true, Bool.false_eq_true, tI_zI]
          have hc := cntN_rg (frO K x 0) (tI (K 5)).toNat
          by_cases y2 : y = 2
          · rw [if_pos y2]
            rw [q_218_0]; (try simp only [↓n_rd, ↓n_al, ↓n_cI, li_0, li_1, li_2, li_3, li_5, li_12, li_31, li_38, li_210, lj_0, lj_1, lj_2, lj_3, lj_5, lj_12, zJ_add, zJ_sub, zJ_mul, zJ_neg, zJ_l2i, zI_add, zI_sub, zI_mul, zI_neg, ↓Option.bind_some]); simp (disch := (first | assumption | exact tI_rg _ | omega | exact uR_at | exact row_ne hF (by decide) | exact row_ne (row_ne hF (by decide)) (by decide) | exact SnS_18 | exact SnS_30 | exact LdS_44 | exact LdS_46)) only [q_218_31, q_218_92, q_218_130, ↓cc_213t hI, ↓cc_213f hI, ↓cc_219t hI, ↓cc_219f hI, ↓cc_188t, ↓cc_188f, ↓cc_189, zI_i2l, hF, h67, ↓n_rd, ↓n_al, ↓n_cI, li_0, li_1, li_2, li_3, li_5, li_12, li_31, li_38, li_210, lj_0, lj_1, lj_2, lj_3, lj_5, lj_12, zJ_add, zJ_sub, zJ_mul, zJ_neg, zJ_l2i, tJ_zJ, zI_add, zI_sub, zI_mul, zI_neg, ↓Option.bind_some, ↓g12_5, ↓g12_0, ↓p12_5, ↓al_218, ↓as_218, zIt2, uR_at, uR_ne, uR_uR, uC_uC, uC_at, ↓reduceIte, decide_eq_true_eq, leT, leF, ltT, ltF, eqT, eqF, ne_eq, not_true_eq_false, not_false_eq_true, Bool.false_eq_true, tI_zI]
            rw [q_218_67]; (try simp only [↓n_rd, ↓n_al, ↓n_cI, li_0, li_1, li_2, li_3, li_5, li_12, li_31, li_38, li_210, lj_0, lj_1, lj_2, lj_3, lj_5, lj_12, zJ_add, zJ_sub, zJ_mul, zJ_neg, zJ_l2i, zI_add, zI_sub, zI_mul, zI_neg, ↓Option.bind_some]); simp (disch := (first | assumption | exact tI_rg _ | omega | exact uR_at | exact row_ne hF (by decide) | exact row_ne (row_ne hF (by decide)) (by decide) | exact SnS_18 | exact SnS_30 | exact LdS_44 | exact LdS_46)) only [q_218_0, q_218_31, q_218_92, q_218_130, ↓cc_210 hI, ↓n_rd, ↓n_al, ↓n_cI, li_0, li_1, li_2, li_3, li_5, li_12, li_31, li_38, li_210, lj_0, lj_1, lj_2, lj_3, lj_5, lj_12, zJ_add, zJ_sub, zJ_mul, zJ_neg, zJ_l2i, tJ_zJ, zI_add, zI_sub, zI_mul, zI_neg, ↓Option.bind_some, ↓g12_5, ↓g12_0, ↓p12_5, ↓al_218, ↓as_218, zIt2, uR_at, uR_ne, uR_uR, uC_uC, uC_at, ↓reduceIte, decide_eq_true_eq, leT, leF, ltT, ltF, eqT, eqF, ne_eq, not_true_eq_false, not_false_eq_true, Bool.false_eq_true, tI_zI]
          · rw [if_neg y2]
            by_cases g : cntN (frO K x 0) (tI (K 5)).toNat = 0
            · rw [if_pos g]
              rw [q_218_0]; (try simp only [↓n_rd, ↓n_al, ↓n_cI, li_0, li_1, li_2, li_3, li_5, li_12, li_31, li_38, li_210, lj_0, lj_1, lj_2, lj_3, lj_5, lj_12, zJ_add, zJ_sub, zJ_mul, zJ_neg, zJ_l2i, zI_add, zI_sub, zI_mul, zI_neg, ↓Option.bind_some]); simp (disch := (first | assumption | exact tI_rg _ | omega | exact uR_at | exact row_ne hF (by decide) | exact row_ne (row_ne hF (by decide)) (by decide) | exact SnS_18 | exact SnS_30 | exact LdS_44 | exact LdS_46)) only [q_218_31, q_218_92, q_218_130, ↓cc_213t hI, ↓cc_213f hI, ↓cc_219t hI, ↓cc_219f hI, ↓cc_188t, ↓cc_188f, ↓cc_189, zI_i2l, hF, h67, ↓n_rd, ↓n_al, ↓n_cI, li_0, li_1, li_2, li_3, li_5, li_12, li_31, li_38, li_210, lj_0, lj_1, lj_2, lj_3, lj_5, lj_12, zJ_add, zJ_sub, zJ_mul, zJ_neg, zJ_l2i, tJ_zJ, zI_add, zI_sub, zI_mul, zI_neg, ↓Option.bind_some, ↓g12_5, ↓g12_0, ↓p12_5, ↓al_218, ↓as_218, zIt2, uR_at, uR_ne, uR_uR, uC_uC, uC_at, ↓reduceIte, decide_eq_true_eq, leT, leF, ltT, ltF, eqT, eqF, ne_eq, not_true_eq_false, not_false_eq_true, Bool.false_eq_true, tI_zI]
              rw [q_218_67]; (try simp only [↓n_rd, ↓n_al, ↓n_cI, li_0, li_1, li_2, li_3, li_5, li_12, li_31, li_38, li_210, lj_0, lj_1, lj_2, lj_3, lj_5, lj_12, zJ_add, zJ_sub, zJ_mul, zJ_neg, zJ_l2i, zI_add, zI_sub, zI_mul, zI_neg, ↓Option.bind_some]); simp (disch := (first | assumption | exact tI_rg _ | omega | exact uR_at | exact row_ne hF (by decide) | exact row_ne (row_ne hF (by decide)) (by decide) | exact SnS_18 | exact SnS_30 | exact LdS_44 | exact LdS_46)) only [q_218_0, q_218_31, q_218_92, q_218_130, ↓cc_210 hI, g, ↓n_rd, ↓n_al, ↓n_cI, li_0, li_1, li_2, li_3, li_5, li_12, li_31, li_38, li_210, lj_0, lj_1, lj_2, lj_3, lj_5, lj_12, zJ_add, zJ_sub, zJ_mul, zJ_neg, zJ_l2i, tJ_zJ, zI_add, zI_sub, zI_mul, zI_neg, ↓Option.bind_some, ↓g12_5, ↓g12_0, ↓p12_5, ↓al_218, ↓as_218, zIt2, uR_at, uR_ne, uR_uR, uC_uC, uC_at, ↓reduceIte, decide_eq_true_eq, leT, leF, ltT, ltF, eqT, eqF, ne_eq, not_true_eq_false, not_false_eq_true, Bool.false_eq_true, tI_zI]
            · obtain ⟨k, e, hk⟩ := nxO_some g
              have hw := (pr_in hI (i := (k : Int)) (by omega) hk).1
              rw [if_neg g]
              rw [q_218_0]; (try simp only [↓n_rd, ↓n_al, ↓n_cI, li_0, li_1, li_2, li_3, li_5, li_12, li_31, li_38, li_210, lj_0, lj_1, lj_2, lj_3, lj_5, lj_12, zJ_add, zJ_sub, zJ_mul, zJ_neg, zJ_l2i, zI_add, zI_sub, zI_mul, zI_neg, ↓Option.bind_some]); simp (disch := (first | assumption | exact tI_rg _ | omega | exact uR_at | exact row_ne hF (by decide) | exact row_ne (row_ne hF (by decide)) (by decide) | exact SnS_18 | exact SnS_30 | exact LdS_44 | exact LdS_46)) only [q_218_31, q_218_92, q_218_130, ↓cc_213t hI, ↓cc_213f hI, ↓cc_219t hI, ↓cc_219f hI, ↓cc_188t, ↓cc_188f, ↓cc_189, zI_i2l, hF, h67, ↓n_rd, ↓n_al, ↓n_cI, li_0, li_1, li_2, li_3, li_5, li_12, li_31, li_38, li_210, lj_0, lj_1, lj_2, lj_3, lj_5, lj_12, zJ_add, zJ_sub, zJ_mul, zJ_neg, zJ_l2i, tJ_zJ, zI_add, zI_sub, zI_mul, zI_neg, ↓Option.bind_some, ↓g12_5, ↓g12_0, ↓p12_5, ↓al_218, ↓as_218, zIt2, uR_at, uR_ne, uR_uR, uC_uC, uC_at, ↓reduceIte, decide_eq_true_eq, leT, leF, ltT, ltF, eqT, eqF, ne_eq, not_true_eq_false, not_false_eq_true, Bool.false_eq_true, tI_zI]
              rw [q_218_67]; (try simp only [↓n_rd, ↓n_al, ↓n_cI, li_0, li_1, li_2, li_3, li_5, li_12, li_31, li_38, li_210, lj_0, lj_1, lj_2, lj_3, lj_5, lj_12, zJ_add, zJ_sub, zJ_mul, zJ_neg, zJ_l2i, zI_add, zI_sub, zI_mul, zI_neg, ↓Option.bind_some]); simp (disch := (first | assumption | exact tI_rg _ | omega | exact uR_at | exact row_ne hF (by decide) | exact row_ne (row_ne hF (by decide)) (by decide) | exact SnS_18 | exact SnS_30 | exact LdS_44 | exact LdS_46)) only [q_218_0, q_218_31, q_218_92, q_218_130, ↓cc_210 hI, ↓cc_222 hI, e, ↓cc_211 hI, ↓cc_216 hI, ↓n_rd, ↓n_al, ↓n_cI, li_0, li_1, li_2, li_3, li_5, li_12, li_31, li_38, li_210, lj_0, lj_1, lj_2, lj_3, lj_5, lj_12, zJ_add, zJ_sub, zJ_mul, zJ_neg, zJ_l2i, tJ_zJ, zI_add, zI_sub, zI_mul, zI_neg, ↓Option.bind_some, ↓g12_5, ↓g12_0, ↓p12_5, ↓al_218, ↓as_218, zIt2, uR_at, uR_ne, uR_uR, uC_uC, uC_at, ↓reduceIte, decide_eq_true_eq, leT, leF, ltT, ltF, eqT, eqF, ne_eq, not_true_eq_false, not_false_eq_true, Bool.false_eq_true, tI_zI]
    · have ha : a_walker K x y = (2, 0) := (if_pos c1).trans (if_neg c2)
      rw [ha]
      show (_ : ResP) = some (Sum.inl (some (.int (zI (0)))), mk E (uR F 217 (uC (F 217) 5 (zI 2))) G)
      refine into (D := 2) (by omega) hM_218 (rcv_mk rfl (by decide)) rfl fun d hd => ?_
      show runP MP d 218 (0, [some (.ref 217), some (.int (zI x)), some (.int (zI y)), none, none], [], _) = _
      rw [q_218_0]; (try simp only [↓n_rd, ↓n_al, ↓n_cI, li_0, li_1, li_2, li_3, li_5, li_12, li_31, li_38, li_210, lj_0, lj_1, lj_2, lj_3, lj_5, lj_12, zJ_add, zJ_sub, zJ_mul, zJ_neg, zJ_l2i, zI_add, zI_sub, zI_mul, zI_neg, ↓Option.bind_some]); simp (disch := (first | assumption | exact tI_rg _ | omega | exact uR_at | exact row_ne hF (by decide) | exact row_ne (row_ne hF (by decide)) (by decide) | exact SnS_18 | exact SnS_30 | exact LdS_44 | exact LdS_46)) only [q_218_31, q_218_92, q_218_130, ↓cc_213t hI, ↓cc_213f hI, ↓cc_219t hI, ↓cc_219f hI, ↓cc_188t, ↓cc_188f, ↓cc_189, zI_i2l, hF, ↓n_rd, ↓n_al, ↓n_cI, li_0, li_1, li_2, li_3, li_5, li_12, li_31, li_38, li_210, lj_0, lj_1, lj_2, lj_3, lj_5, lj_12, zJ_add, zJ_sub, zJ_mul, zJ_neg, zJ_l2i, tJ_zJ, zI_add, zI_sub, zI_mul, zI_neg, ↓Option.bind_some, ↓g12_5, ↓g12_0, ↓p12_5, ↓al_218, ↓as_218, zIt2, uR_at, uR_ne, uR_uR, uC_uC, uC_at, ↓reduceIte, decide_eq_true_eq, leT, leF, ltT, ltF, eqT, eqF, ne_eq, not_true_eq_false, not_false_eq_true, Bool.false_eq_true, tI_zI]
  · have ha : a_walker K x y = (1, 0) := if_neg c1
    rw [ha]
    show (_ : ResP) = some (Sum.inl (some (.int (zI (0)))), mk E (uR F 217 (uC (F 217) 5 (zI 1))) G)
    refine into (D := 2) (by omega) hM_218 (rcv_mk rfl (by decide)) rfl fun d hd => ?_
    show runP MP d 218 (0, [some (.ref 217), some (.int (zI x)), some (.int (zI y)), none, none], [], _) = _
    rw [q_218_0]; (try simp only [↓n_rd, ↓n_al, ↓n_cI, li_0, li_1, li_2, li_3, li_5, li_12, li_31, li_38, li_210, lj_0, lj_1, lj_2, lj_3, lj_5, lj_12, zJ_add, zJ_sub, zJ_mul, zJ_neg, zJ_l2i, zI_add, zI_sub, zI_mul, zI_neg, ↓Option.bind_some]); simp (disch := (first | assumption | exact tI_rg _ | omega | exact uR_at | exact row_ne hF (by decide) | exact row_ne (row_ne hF (by decide)) (by decide) | exact SnS_18 | exact SnS_30 | exact LdS_44 | exact LdS_46)) only [q_218_31, q_218_92, q_218_130, ↓cc_213t hI, ↓cc_213f hI, ↓cc_219t hI, ↓cc_219f hI, ↓cc_188t, ↓cc_188f, ↓cc_189, zI_i2l, hF, ↓n_rd, ↓n_al, ↓n_cI, li_0, li_1, li_2, li_3, li_5, li_12, li_31, li_38, li_210, lj_0, lj_1, lj_2, lj_3, lj_5, lj_12, zJ_add, zJ_sub, zJ_mul, zJ_neg, zJ_l2i, tJ_zJ, zI_add, zI_sub, zI_mul, zI_neg, ↓Option.bind_some, ↓g12_5, ↓g12_0, ↓p12_5, ↓al_218, ↓as_218, zIt2, uR_at, uR_ne, uR_uR, uC_uC, uC_at, ↓reduceIte, decide_eq_true_eq, leT, leF, ltT, ltF, eqT, eqF, ne_eq, not_true_eq_false, not_false_eq_true, Bool.false_eq_true, tI_zI]
def a_print (K : Int → Int32) (x y : Int) : Int × Int := if 0 ≤ x ∧ x < tI (K 5) then if 0 ≤ y ∧ y ≤ 2 then (0, if y = 0 then fromZ K (prW K x) else if y = 1 then toZ K (prW K x) else prO K x) else (2, 0) else (1, 0)
theorem cl_print {d : Nat} {E : EnQ} {F : Nat → Int → Int32} {G : Nat → Int → Int64} {K : Int → Int32} (hO : SnO E F 18 K) {x y : Int} (hx : -2147483648 ≤ x ∧ x ≤ 2147483647) (hy : -2147483648 ≤ y ∧ y ≤ 2147483647) (hd : 3 ≤ d) : ∃ E1, (E1 = E ∨ E1 = jE E) ∧ callP MP d 130 [.ref 16, .int (zI x), .int (zI y)] (mk E F G) = some (thrP [0, 2] (a_print K x y), mk E1 F G) := by
  have hO' := hO
  obtain ⟨hS, hP, hR, hN, hI⟩ := hO
  have hs := hS.1
  have hs2 := hP.1
  have hA := hI.1
  obtain ⟨b0, b1, b2, b3, b4, b5, b6, b7, b8, b9⟩ := hI.1
  have e18 := bO hN
  by_cases c1 : 0 ≤ x ∧ x < tI (K 5)
  · by_cases c2 : 0 ≤ y ∧ y ≤ 2
    · have ha : a_print K x y = (0, if y = 0 then fromZ K (prW K x) else if y = 1 then toZ K (prW K x) else prO K x) := (if_pos c1).trans ((if_pos c2).trans (rfl))
      refine ⟨E, Or.inl rfl, ?_⟩
      rw [show thrP [0, 2] (a_print K x y) = Sum.inl (some (.int (zI (if y = 0 then fromZ K (prW K x) else if y = 1 then toZ K (prW K x) else prO K x)))) by rw [ha]; rfl]
      refine into (D := 2) (by omega) hM_130 (rcv_mk rfl (by decide)) rfl fun d hd => ?_
      show runP MP d 130 (0, [some (.ref 16), some (.int (zI x)), some (.int (zI y))], [], _) = _
      have hw := (pr_in hI c1.1 c1.2).1
      by_cases y0 : y = 0
      · rw [if_pos y0]; rw [q_130_0]; (try simp only [↓n_rd, ↓n_cI, li_0, li_1, li_2, li_4, li_5, li_6, li_15, li_64, li_70, li_124, zI_add, zI_sub, zI_mul, zI_neg, ↓Option.bind_some]); simp (disch := (first | assumption | exact tI_rg _ | omega | exact uR_at | exact row_ne hF (by decide) | exact row_ne (row_ne hF (by decide)) (by decide) | exact SnS_18 | exact SnS_30 | exact LdS_44 | exact LdS_46)) only [q_130_15, q_130_88, ↓cc_127t hO', ↓cc_127f hO', ↓cc_129t hO', ↓cc_129f hO', ↓cc_124t, ↓cc_124f, thr_eq, ↓cc_64 hO', ↓cc_28 hR hI, ↓n_rd, ↓n_cI, jnk_mk, li_0, li_1, li_2, li_4, li_5, li_6, li_15, li_64, li_70, li_124, zI_add, zI_sub, zI_mul, zI_neg, ↓Option.bind_some, ↓g5_2, ↓g5_0, ↓g11_4, zIt2, uR_at, uR_ne, uR_uR, uC_uC, uC_at, ↓reduceIte, decide_eq_true_eq, leT, leF, ltT, ltF, eqT, eqF, ne_eq, not_true_eq_false, not_false_eq_true, Bool.false_eq_true, tI_zI]
      · rw [if_neg y0]
        by_cases y1 : y = 1
        · rw [if_pos y1]; rw [q_130_0]; (try simp only [↓n_rd, ↓n_cI, li_0, li_1, li_2, li_4, li_5, li_6, li_15, li_64, li_70, li_124, zI_add, zI_sub, zI_mul, zI_neg, ↓Option.bind_some]); simp (disch := (first | assumption | exact tI_rg _ | omega | exact uR_at | exact row_ne hF (by decide) | exact row_ne (row_ne hF (by decide)) (by decide) | exact SnS_18 | exact SnS_30 | exact LdS_44 | exact LdS_46)) only [q_130_15, q_130_88, ↓cc_127t hO', ↓cc_127f hO', ↓cc_129t hO', ↓cc_129f hO', ↓cc_124t, ↓cc_124f, thr_eq, ↓cc_64 hO', ↓cc_29 hR hI, ↓n_rd, ↓n_cI, jnk_mk, li_0, li_1, li_2, li_4, li_5, li_6, li_15, li_64, li_70, li_124, zI_add, zI_sub, zI_mul, zI_neg, ↓Option.bind_some, ↓g5_2, ↓g5_0, ↓g11_4, zIt2, uR_at, uR_ne, uR_uR, uC_uC, uC_at, ↓reduceIte, decide_eq_true_eq, leT, leF, ltT, ltF, eqT, eqF, ne_eq, not_true_eq_false, not_false_eq_true, Bool.false_eq_true, tI_zI]
        · rw [if_neg y1]; rw [q_130_0]; (try simp only [↓n_rd, ↓n_cI, li_0, li_1, li_2, li_4, li_5, li_6, li_15, li_64, li_70, li_124, zI_add, zI_sub, zI_mul, zI_neg, ↓Option.bind_some]); simp (disch := (first | assumption | exact tI_rg _ | omega | exact uR_at | exact row_ne hF (by decide) | exact row_ne (row_ne hF (by decide)) (by decide) | exact SnS_18 | exact SnS_30 | exact LdS_44 | exact LdS_46)) only [q_130_15, q_130_88, ↓cc_127t hO', ↓cc_127f hO', ↓cc_129t hO', ↓cc_129f hO', ↓cc_124t, ↓cc_124f, thr_eq, ↓cc_70 hO', ↓n_rd, ↓n_cI, jnk_mk, li_0, li_1, li_2, li_4, li_5, li_6, li_15, li_64, li_70, li_124, zI_add, zI_sub, zI_mul, zI_neg, ↓Option.bind_some, ↓g5_2, ↓g5_0, ↓g11_4, zIt2, uR_at, uR_ne, uR_uR, uC_uC, uC_at, ↓reduceIte, decide_eq_true_eq, leT, leF, ltT, ltF, eqT, eqF, ne_eq, not_true_eq_false, not_false_eq_true, Bool.false_eq_true, tI_zI]
    · have ha : a_print K x y = (2, 0) := (if_pos c1).trans (if_neg c2)
      refine ⟨jE E, Or.inr rfl, ?_⟩
      rw [show thrP [0, 2] (a_print K x y) = Sum.inr 2 by rw [ha]; rfl]
      refine into (D := 2) (by omega) hM_130 (rcv_mk rfl (by decide)) rfl fun d hd => ?_
      show runP MP d 130 (0, [some (.ref 16), some (.int (zI x)), some (.int (zI y))], [], _) = _
      have hb5 := hA.2.2.2.2.2.1
      rw [q_130_0]; (try simp only [↓n_rd, ↓n_cI, li_0, li_1, li_2, li_4, li_5, li_6, li_15, li_64, li_70, li_124, zI_add, zI_sub, zI_mul, zI_neg, ↓Option.bind_some]); simp (disch := (first | assumption | exact tI_rg _ | omega | exact uR_at | exact row_ne hF (by decide) | exact row_ne (row_ne hF (by decide)) (by decide) | exact SnS_18 | exact SnS_30 | exact LdS_44 | exact LdS_46)) only [q_130_15, q_130_88, ↓cc_127t hO', ↓cc_127f hO', ↓cc_129t hO', ↓cc_129f hO', ↓cc_124t, ↓cc_124f, thr_eq, ↓n_rd, ↓n_cI, jnk_mk, li_0, li_1, li_2, li_4, li_5, li_6, li_15, li_64, li_70, li_124, zI_add, zI_sub, zI_mul, zI_neg, ↓Option.bind_some, ↓g5_2, ↓g5_0, ↓g11_4, zIt2, uR_at, uR_ne, uR_uR, uC_uC, uC_at, ↓reduceIte, decide_eq_true_eq, leT, leF, ltT, ltF, eqT, eqF, ne_eq, not_true_eq_false, not_false_eq_true, Bool.false_eq_true, tI_zI]
  · have ha : a_print K x y = (1, 0) := if_neg c1
    refine ⟨jE E, Or.inr rfl, ?_⟩
    rw [show thrP [0, 2] (a_print K x y) = Sum.inr 0 by rw [ha]; rfl]
    refine into (D := 2) (by omega) hM_130 (rcv_mk rfl (by decide)) rfl fun d hd => ?_
    show runP MP d 130 (0, [some (.ref 16), some (.int (zI x)), some (.int (zI y))], [], _) = _
    have hb5 := hA.2.2.2.2.2.1
    by_cases hx0 : x < 0
    · rw [q_130_0]; (try simp only [↓n_rd, ↓n_cI, li_0, li_1, li_2, li_4, li_5, li_6, li_15, li_64, li_70, li_124, zI_add, zI_sub, zI_mul, zI_neg, ↓Option.bind_some]); simp (disch := (first | assumption | exact tI_rg _ | omega | exact uR_at | exact row_ne hF (by decide) | exact row_ne (row_ne hF (by decide)) (by decide) | exact SnS_18 | exact SnS_30 | exact LdS_44 | exact LdS_46)) only [q_130_15, q_130_88, ↓cc_127t hO', ↓cc_127f hO', ↓cc_129t hO', ↓cc_129f hO', ↓cc_124t, ↓cc_124f, thr_eq, ↓n_rd, ↓n_cI, jnk_mk, li_0, li_1, li_2, li_4, li_5, li_6, li_15, li_64, li_70, li_124, zI_add, zI_sub, zI_mul, zI_neg, ↓Option.bind_some, ↓g5_2, ↓g5_0, ↓g11_4, zIt2, uR_at, uR_ne, uR_uR, uC_uC, uC_at, ↓reduceIte, decide_eq_true_eq, leT, leF, ltT, ltF, eqT, eqF, ne_eq, not_true_eq_false, not_false_eq_true, Bool.false_eq_true, tI_zI]
    · rw [q_130_0]; (try simp only [↓n_rd, ↓n_cI, li_0, li_1, li_2, li_4, li_5, li_6, li_15, li_64, li_70, li_124, zI_add, zI_sub, zI_mul, zI_neg, ↓Option.bind_some]); simp (disch := (first | assumption | exact tI_rg _ | omega | exact uR_at | exact row_ne hF (by decide) | exact row_ne (row_ne hF (by decide)) (by decide) | exact SnS_18 | exact SnS_30 | exact LdS_44 | exact LdS_46)) only [q_130_15, q_130_88, ↓cc_127t hO', ↓cc_127f hO', ↓cc_129t hO', ↓cc_129f hO', ↓cc_124t, ↓cc_124f, thr_eq, ↓n_rd, ↓n_cI, jnk_mk, li_0, li_1, li_2, li_4, li_5, li_6, li_15, li_64, li_70, li_124, zI_add, zI_sub, zI_mul, zI_neg, ↓Option.bind_some, ↓g5_2, ↓g5_0, ↓g11_4, zIt2, uR_at, uR_ne, uR_uR, uC_uC, uC_at, ↓reduceIte, decide_eq_true_eq, leT, leF, ltT, ltF, eqT, eqF, ne_eq, not_true_eq_false, not_false_eq_true, Bool.false_eq_true, tI_zI]
theorem ml_print {d : Nat} {E : EnQ} {F : Nat → Int → Int32} {G : Nat → Int → Int64} {K : Int → Int32} (hI : InvK K) (hF : F 218 = K) {x y : Int} (hx : -2147483648 ≤ x ∧ x ≤ 2147483647) (hy : -2147483648 ≤ y ∧ y ≤ 2147483647) (hd : 2 ≤ d) : callP MP d 223 [.ref 217, .int (zI x), .int (zI y)] (mk E F G) = some (Sum.inl (some (.int (zI ((a_print K x y).2)))), mk E (uR F 217 (uC (F 217) 5 (zI (a_print K x y).1))) G) := by
  have hA := hI.1
  obtain ⟨b0, b1, b2, b3, b4, b5, b6, b7, b8, b9⟩ := hI.1
  have hb5' := hA.2.2.2.2.2.1
  have hb4' := hA.2.2.2.2.1
  by_cases c1 : 0 ≤ x ∧ x < tI (K 5)
  · by_cases c2 : 0 ≤ y ∧ y ≤ 2
    · have ha : a_print K x y = (0, if y = 0 then fromZ K (prW K x) else if y = 1 then toZ K (prW K x) else prO K x) := (if_pos c1).trans ((if_pos c2).trans (rfl))
      rw [ha]
      show (_ : ResP) = some (Sum.inl (some (.int (zI (if y = 0 then fromZ K (prW K x) else if y = 1 then toZ K (prW K x) else prO K x)))), mk E (uR F 217 (uC (F 217) 5 (zI 0))) G)
      refine into (D := 1) (by omega) hM_223 (rcv_mk rfl (by decide)) rfl fun d hd => ?_
      show runP MP d 223 (0, [some (.ref 217), some (.int (zI x)), some (.int (zI y))], [], _) = _
      have hb5 := hA.2.2.2.2.2.1
      have hb4 := hA.2.2.2.2.1
      have hw := (pr_in hI c1.1 c1.2).1
      have hb2 := hA.2.2.1
      by_cases y0 : y = 0
      · rw [if_pos y0]; rw [q_223_0]; (try simp only [↓n_rd, ↓n_cI, li_0, li_1, li_2, li_5, li_12, li_38, li_210, lj_0, lj_1, lj_2, lj_5, lj_12, zJ_add, zJ_sub, zJ_mul, zJ_neg, zJ_l2i, zI_add, zI_sub, zI_mul, zI_neg, ↓Option.bind_some]); simp (disch := (first | assumption | exact tI_rg _ | omega | exact uR_at | exact row_ne hF (by decide) | exact row_ne (row_ne hF (by decide)) (by decide) | exact SnS_18 | exact SnS_30 | exact LdS_44 | exact LdS_46)) only [q_223_38, q_223_88, ↓cc_213t hI, ↓cc_213f hI, ↓cc_219t hI, ↓cc_219f hI, ↓cc_188t, ↓cc_188f, ↓cc_189, zI_i2l, ↓cc_210 hI, ↓cc_211 hI, ↓cc_216 hI, ↓n_rd, ↓n_cI, li_0, li_1, li_2, li_5, li_12, li_38, li_210, lj_0, lj_1, lj_2, lj_5, lj_12, zJ_add, zJ_sub, zJ_mul, zJ_neg, zJ_l2i, tJ_zJ, zI_add, zI_sub, zI_mul, zI_neg, ↓Option.bind_some, ↓g12_5, ↓p12_5, zIt2, uR_at, uR_ne, uR_uR, uC_uC, uC_at, ↓reduceIte, decide_eq_true_eq, leT, leF, ltT, ltF, eqT, eqF, ne_eq, not_true_eq_false, not_false_eq_true, Bool.false_eq_true, tI_zI]
      · rw [if_neg y0]
        by_cases y1 : y = 1
        · rw [if_pos y1]; rw [q_223_0]; (try simp only [↓n_rd, ↓n_cI, li_0, li_1, li_2, li_5, li_12, li_38, li_210, lj_0, lj_1, lj_2, lj_5, lj_12, zJ_add, zJ_sub, zJ_mul, zJ_neg, zJ_l2i, zI_add, zI_sub, zI_mul, zI_neg, ↓Option.bind_some]); simp (disch := (first | assumption | exact tI_rg _ | omega | exact uR_at | exact row_ne hF (by decide) | exact row_ne (row_ne hF (by decide)) (by decide) | exact SnS_18 | exact SnS_30 | exact LdS_44 | exact LdS_46)) only [q_223_38, q_223_88, ↓cc_213t hI, ↓cc_213f hI, ↓cc_219t hI, ↓cc_219f hI, ↓cc_188t, ↓cc_188f, ↓cc_189, zI_i2l, ↓cc_210 hI, ↓cc_211 hI, ↓cc_217 hI, ↓n_rd, ↓n_cI, li_0, li_1, li_2, li_5, li_12, li_38, li_210, lj_0, lj_1, lj_2, lj_5, lj_12, zJ_add, zJ_sub, zJ_mul, zJ_neg, zJ_l2i, tJ_zJ, zI_add, zI_sub, zI_mul, zI_neg, ↓Option.bind_some, ↓g12_5, ↓p12_5, zIt2, uR_at, uR_ne, uR_uR, uC_uC, uC_at, ↓reduceIte, decide_eq_true_eq, leT, leF, ltT, ltF, eqT, eqF, ne_eq, not_true_eq_false, not_false_eq_true, Bool.false_eq_true, tI_zI]
        · rw [if_neg y1]; rw [q_223_0]; (try simp only [↓n_rd, ↓n_cI, li_0, li_1, li_2, li_5, li_12, li_38, li_210, lj_0, lj_1, lj_2, lj_5, lj_12, zJ_add, zJ_sub, zJ_mul, zJ_neg, zJ_l2i, zI_add, zI_sub, zI_mul, zI_neg, ↓Option.bind_some]); simp (disch := (first | assumption | exact tI_rg _ | omega | exact uR_at | exact row_ne hF (by decide) | exact row_ne (row_ne hF (by decide)) (by decide) | exact SnS_18 | exact SnS_30 | exact LdS_44 | exact LdS_46)) only [q_223_38, q_223_88, ↓cc_213t hI, ↓cc_213f hI, ↓cc_219t hI, ↓cc_219f hI, ↓cc_188t, ↓cc_188f, ↓cc_189, zI_i2l, ↓cc_210 hI, ↓cc_221 hI, ↓n_rd, ↓n_cI, li_0, li_1, li_2, li_5, li_12, li_38, li_210, lj_0, lj_1, lj_2, lj_5, lj_12, zJ_add, zJ_sub, zJ_mul, zJ_neg, zJ_l2i, tJ_zJ, zI_add, zI_sub, zI_mul, zI_neg, ↓Option.bind_some, ↓g12_5, ↓p12_5, zIt2, uR_at, uR_ne, uR_uR, uC_uC, uC_at, ↓reduceIte, decide_eq_true_eq, leT, leF, ltT, ltF, eqT, eqF, ne_eq, not_true_eq_false, not_false_eq_true, Bool.false_eq_true, tI_zI]
    · have ha : a_print K x y = (2, 0) := (if_pos c1).trans (if_neg c2)
      rw [ha]
      show (_ : ResP) = some (Sum.inl (some (.int (zI (0)))), mk E (uR F 217 (uC (F 217) 5 (zI 2))) G)
      refine into (D := 1) (by omega) hM_223 (rcv_mk rfl (by decide)) rfl fun d hd => ?_
      show runP MP d 223 (0, [some (.ref 217), some (.int (zI x)), some (.int (zI y))], [], _) = _
      rw [q_223_0]; (try simp only [↓n_rd, ↓n_cI, li_0, li_1, li_2, li_5, li_12, li_38, li_210, lj_0, lj_1, lj_2, lj_5, lj_12, zJ_add, zJ_sub, zJ_mul, zJ_neg, zJ_l2i, zI_add, zI_sub, zI_mul, zI_neg, ↓Option.bind_some]); simp (disch := (first | assumption | exact tI_rg _ | omega | exact uR_at | exact row_ne hF (by decide) | exact row_ne (row_ne hF (by decide)) (by decide) | exact SnS_18 | exact SnS_30 | exact LdS_44 | exact LdS_46)) only [q_223_38, q_223_88, ↓cc_213t hI, ↓cc_213f hI, ↓cc_219t hI, ↓cc_219f hI, ↓cc_188t, ↓cc_188f, ↓cc_189, zI_i2l, hF, ↓cc_210 hI, ↓n_rd, ↓n_cI, li_0, li_1, li_2, li_5, li_12, li_38, li_210, lj_0, lj_1, lj_2, lj_5, lj_12, zJ_add, zJ_sub, zJ_mul, zJ_neg, zJ_l2i, tJ_zJ, zI_add, zI_sub, zI_mul, zI_neg, ↓Option.bind_some, ↓g12_5, ↓p12_5, zIt2, uR_at, uR_ne, uR_uR, uC_uC, uC_at, ↓reduceIte, decide_eq_true_eq, leT, leF, ltT, ltF, eqT, eqF, ne_eq, not_true_eq_false, not_false_eq_true, Bool.false_eq_true, tI_zI]
  · have ha : a_print K x y = (1, 0) := if_neg c1
    rw [ha]
    show (_ : ResP) = some (Sum.inl (some (.int (zI (0)))), mk E (uR F 217 (uC (F 217) 5 (zI 1))) G)
    refine into (D := 1) (by omega) hM_223 (rcv_mk rfl (by decide)) rfl fun d hd => ?_
    show runP MP d 223 (0, [some (.ref 217), some (.int (zI x)), some (.int (zI y))], [], _) = _
    rw [q_223_0]; (try simp only [↓n_rd, ↓n_cI, li_0, li_1, li_2, li_5, li_12, li_38, li_210, lj_0, lj_1, lj_2, lj_5, lj_12, zJ_add, zJ_sub, zJ_mul, zJ_neg, zJ_l2i, zI_add, zI_sub, zI_mul, zI_neg, ↓Option.bind_some]); simp (disch := (first | assumption | exact tI_rg _ | omega | exact uR_at | exact row_ne hF (by decide) | exact row_ne (row_ne hF (by decide)) (by decide) | exact SnS_18 | exact SnS_30 | exact LdS_44 | exact LdS_46)) only [q_223_38, q_223_88, ↓cc_213t hI, ↓cc_213f hI, ↓cc_219t hI, ↓cc_219f hI, ↓cc_188t, ↓cc_188f, ↓cc_189, zI_i2l, hF, ↓cc_210 hI, ↓n_rd, ↓n_cI, li_0, li_1, li_2, li_5, li_12, li_38, li_210, lj_0, lj_1, lj_2, lj_5, lj_12, zJ_add, zJ_sub, zJ_mul, zJ_neg, zJ_l2i, tJ_zJ, zI_add, zI_sub, zI_mul, zI_neg, ↓Option.bind_some, ↓g12_5, ↓p12_5, zIt2, uR_at, uR_ne, uR_uR, uC_uC, uC_at, ↓reduceIte, decide_eq_true_eq, leT, leF, ltT, ltF, eqT, eqF, ne_eq, not_true_eq_false, not_false_eq_true, Bool.false_eq_true, tI_zI]
def a_age (K : Int → Int32) (x y : Int) : Int × Int := if 0 ≤ x ∧ x < tI (K 1) then if 0 ≤ y ∧ y < tI (K 1) then (0, if lstN (fun k : Nat => prW K k == wayZ K x y) (tI (K 5)).toNat = -1 then -1 else tI (K 5) - 1 - lstN (fun k : Nat => prW K k == wayZ K x y) (tI (K 5)).toNat) else (1, 0) else (1, 0)
theorem cl_age {d : Nat} {E : EnQ} {F : Nat → Int → Int32} {G : Nat → Int → Int64} {K : Int → Int32} (hO : SnO E F 18 K) {x y : Int} (hx : -2147483648 ≤ x ∧ x ≤ 2147483647) (hy : -2147483648 ≤ y ∧ y ≤ 2147483647) (hd : 4 ≤ d) : ∃ E1, (E1 = E ∨ E1 = jE E) ∧ callP MP d 145 [.ref 16, .int (zI x), .int (zI y)] (mk E F G) = some (thrP [0] (a_age K x y), mk E1 F G) := by
  have hO' := hO
  obtain ⟨hS, hP, hR, hN, hI⟩ := hO
  have hs := hS.1
  have hs2 := hP.1
  have hA := hI.1
  obtain ⟨b0, b1, b2, b3, b4, b5, b6, b7, b8, b9⟩ := hI.1
  have e18 := bO hN
  by_cases c1 : 0 ≤ x ∧ x < tI (K 1)
  · by_cases c2 : 0 ≤ y ∧ y < tI (K 1)
    · have ha : a_age K x y = (0, if lstN (fun k : Nat => prW K k == wayZ K x y) (tI (K 5)).toNat = -1 then -1 else tI (K 5) - 1 - lstN (fun k : Nat => prW K k == wayZ K x y) (tI (K 5)).toNat) := (if_pos c1).trans ((if_pos c2).trans (rfl))
      refine ⟨E, Or.inl rfl, ?_⟩
      rw [show thrP [0] (a_age K x y) = Sum.inl (some (.int (zI (if lstN (fun k : Nat => prW K k == wayZ K x y) (tI (K 5)).toNat = -1 then -1 else tI (K 5) - 1 - lstN (fun k : Nat => prW K k == wayZ K x y) (tI (K 5)).toNat)))) by rw [ha]; rfl]
      refine into (D := 3) (by omega) hM_145 (rcv_mk rfl (by decide)) rfl fun d hd => ?_
      show runP MP d 145 (0, [some (.ref 16), some (.int (zI x)), some (.int (zI y)), none], [], _) = _
      have hw := wayZ_lo hA.2.2.1 x y
      have hl := lst_rg hI (fun k : Nat => prW K k == wayZ K x y)
      by_cases g : lstN (fun k : Nat => prW K k == wayZ K x y) (tI (K 5)).toNat = -1
      · rw [if_pos g]; rw [q_145_0]; (try simp only [↓n_rd, ↓n_cI, li_0, li_1, li_2, li_4, li_5, zI_add, zI_sub, zI_mul, zI_neg, ↓Option.bind_some]); simp (disch := (first | assumption | exact tI_rg _ | omega | exact uR_at | exact row_ne hF (by decide) | exact row_ne (row_ne hF (by decide)) (by decide) | exact SnS_18 | exact SnS_30 | exact LdS_44 | exact LdS_46)) only [q_145_50, ↓cc_127t hO', ↓cc_127f hO', ↓cc_129t hO', ↓cc_129f hO', ↓cc_124t, ↓cc_124f, thr_eq, ↓cc_26 hR hI, if_pos (⟨c1, c2⟩ : (0 ≤ x ∧ x < tI (K 1)) ∧ (0 ≤ y ∧ y < tI (K 1))), ↓cc_74 hO', g, ↓n_rd, ↓n_cI, li_0, li_1, li_2, li_4, li_5, zI_add, zI_sub, zI_mul, zI_neg, ↓Option.bind_some, ↓g5_2, ↓g5_0, ↓g11_4, zIt2, uR_at, uR_ne, uR_uR, uC_uC, uC_at, ↓reduceIte, decide_eq_true_eq, leT, leF, ltT, ltF, eqT, eqF, ne_eq, not_true_eq_false, not_false_eq_true, Bool.false_eq_true, tI_zI]
      · rw [if_neg g]; rw [q_145_0]; (try simp only [↓n_rd, ↓n_cI, li_0, li_1, li_2, li_4, li_5, zI_add, zI_sub, zI_mul, zI_neg, ↓Option.bind_some]); simp (disch := (first | assumption | exact tI_rg _ | omega | exact uR_at | exact row_ne hF (by decide) | exact row_ne (row_ne hF (by decide)) (by decide) | exact SnS_18 | exact SnS_30 | exact LdS_44 | exact LdS_46)) only [q_145_50, ↓cc_127t hO', ↓cc_127f hO', ↓cc_129t hO', ↓cc_129f hO', ↓cc_124t, ↓cc_124f, thr_eq, ↓cc_26 hR hI, if_pos (⟨c1, c2⟩ : (0 ≤ x ∧ x < tI (K 1)) ∧ (0 ≤ y ∧ y < tI (K 1))), ↓cc_74 hO', e18, ↓n_rd, ↓n_cI, li_0, li_1, li_2, li_4, li_5, zI_add, zI_sub, zI_mul, zI_neg, ↓Option.bind_some, ↓g5_2, ↓g5_0, ↓g11_4, zIt2, uR_at, uR_ne, uR_uR, uC_uC, uC_at, ↓reduceIte, decide_eq_true_eq, leT, leF, ltT, ltF, eqT, eqF, ne_eq, not_true_eq_false, not_false_eq_true, Bool.false_eq_true, tI_zI]
    · have ha : a_age K x y = (1, 0) := (if_pos c1).trans (if_neg c2)
      refine ⟨jE E, Or.inr rfl, ?_⟩
      rw [show thrP [0] (a_age K x y) = Sum.inr 0 by rw [ha]; rfl]
      refine into (D := 3) (by omega) hM_145 (rcv_mk rfl (by decide)) rfl fun d hd => ?_
      show runP MP d 145 (0, [some (.ref 16), some (.int (zI x)), some (.int (zI y)), none], [], _) = _
      rw [q_145_0]; (try simp only [↓n_rd, ↓n_cI, li_0, li_1, li_2, li_4, li_5, zI_add, zI_sub, zI_mul, zI_neg, ↓Option.bind_some]); simp (disch := (first | assumption | exact tI_rg _ | omega | exact uR_at | exact row_ne hF (by decide) | exact row_ne (row_ne hF (by decide)) (by decide) | exact SnS_18 | exact SnS_30 | exact LdS_44 | exact LdS_46)) only [q_145_50, ↓cc_127t hO', ↓cc_127f hO', ↓cc_129t hO', ↓cc_129f hO', ↓cc_124t, ↓cc_124f, thr_eq, ↓n_rd, ↓n_cI, li_0, li_1, li_2, li_4, li_5, zI_add, zI_sub, zI_mul, zI_neg, ↓Option.bind_some, ↓g5_2, ↓g5_0, ↓g11_4, zIt2, uR_at, uR_ne, uR_uR, uC_uC, uC_at, ↓reduceIte, decide_eq_true_eq, leT, leF, ltT, ltF, eqT, eqF, ne_eq, not_true_eq_false, not_false_eq_true, Bool.false_eq_true, tI_zI]
  · have ha : a_age K x y = (1, 0) := if_neg c1
    refine ⟨jE E, Or.inr rfl, ?_⟩
    rw [show thrP [0] (a_age K x y) = Sum.inr 0 by rw [ha]; rfl]
    refine into (D := 3) (by omega) hM_145 (rcv_mk rfl (by decide)) rfl fun d hd => ?_
    show runP MP d 145 (0, [some (.ref 16), some (.int (zI x)), some (.int (zI y)), none], [], _) = _
    rw [q_145_0]; (try simp only [↓n_rd, ↓n_cI, li_0, li_1, li_2, li_4, li_5, zI_add, zI_sub, zI_mul, zI_neg, ↓Option.bind_some]); simp (disch := (first | assumption | exact tI_rg _ | omega | exact uR_at | exact row_ne hF (by decide) | exact row_ne (row_ne hF (by decide)) (by decide) | exact SnS_18 | exact SnS_30 | exact LdS_44 | exact LdS_46)) only [q_145_50, ↓cc_127t hO', ↓cc_127f hO', ↓cc_129t hO', ↓cc_129f hO', ↓cc_124t, ↓cc_124f, thr_eq, ↓n_rd, ↓n_cI, li_0, li_1, li_2, li_4, li_5, zI_add, zI_sub, zI_mul, zI_neg, ↓Option.bind_some, ↓g5_2, ↓g5_0, ↓g11_4, zIt2, uR_at, uR_ne, uR_uR, uC_uC, uC_at, ↓reduceIte, decide_eq_true_eq, leT, leF, ltT, ltF, eqT, eqF, ne_eq, not_true_eq_false, not_false_eq_true, Bool.false_eq_true, tI_zI]
theorem ml_age {d : Nat} {E : EnQ} {F : Nat → Int → Int32} {G : Nat → Int → Int64} {K : Int → Int32} (hI : InvK K) (hF : F 218 = K) {x y : Int} (hx : -2147483648 ≤ x ∧ x ≤ 2147483647) (hy : -2147483648 ≤ y ∧ y ≤ 2147483647) (hd : 3 ≤ d) : callP MP d 248 [.ref 217, .int (zI x), .int (zI y)] (mk E F G) = some (Sum.inl (some (.int (zI ((a_age K x y).2)))), mk E (uR F 217 (uC (F 217) 5 (zI (a_age K x y).1))) G) := by
  have hA := hI.1
  obtain ⟨b0, b1, b2, b3, b4, b5, b6, b7, b8, b9⟩ := hI.1
  by_cases c1 : 0 ≤ x ∧ x < tI (K 1)
  · by_cases c2 : 0 ≤ y ∧ y < tI (K 1)
    · have ha : a_age K x y = (0, if lstN (fun k : Nat => prW K k == wayZ K x y) (tI (K 5)).toNat = -1 then -1 else tI (K 5) - 1 - lstN (fun k : Nat => prW K k == wayZ K x y) (tI (K 5)).toNat) := (if_pos c1).trans ((if_pos c2).trans (rfl))
      rw [ha]
      show (_ : ResP) = some (Sum.inl (some (.int (zI (if lstN (fun k : Nat => prW K k == wayZ K x y) (tI (K 5)).toNat = -1 then -1 else tI (K 5) - 1 - lstN (fun k : Nat => prW K k == wayZ K x y) (tI (K 5)).toNat)))), mk E (uR F 217 (uC (F 217) 5 (zI 0))) G)
      refine into (D := 2) (by omega) hM_248 (rcv_mk rfl (by decide)) rfl fun d hd => ?_
      show runP MP d 248 (0, [some (.ref 217), some (.int (zI x)), some (.int (zI y)), none], [], _) = _
      have hw := wayZ_lo hA.2.2.1 x y
      have hl := lst_rg hI (fun k : Nat => prW K k == wayZ K x y)
      have hb5 := hA.2.2.2.2.2.1
      by_cases g : lstN (fun k : Nat => prW K k == wayZ K x y) (tI (K 5)).toNat = -1
      · rw [if_pos g]; rw [q_248_0]; (try simp only [↓n_cI, li_0, li_1, li_5, li_12, li_57, li_210, lj_0, lj_1, lj_5, lj_12, zJ_add, zJ_sub, zJ_mul, zJ_neg, zJ_l2i, zI_add, zI_sub, zI_mul, zI_neg, ↓Option.bind_some]); simp (disch := (first | assumption | exact tI_rg _ | omega | exact uR_at | exact row_ne hF (by decide) | exact row_ne (row_ne hF (by decide)) (by decide) | exact SnS_18 | exact SnS_30 | exact LdS_44 | exact LdS_46)) only [q_248_23, q_248_57, ↓cc_213t hI, ↓cc_213f hI, ↓cc_219t hI, ↓cc_219f hI, ↓cc_188t, ↓cc_188f, ↓cc_189, zI_i2l, ↓cc_229 hI, ↓cc_249 hI, g, ↓n_cI, li_0, li_1, li_5, li_12, li_57, li_210, lj_0, lj_1, lj_5, lj_12, zJ_add, zJ_sub, zJ_mul, zJ_neg, zJ_l2i, tJ_zJ, zI_add, zI_sub, zI_mul, zI_neg, ↓Option.bind_some, ↓p12_5, zIt2, uR_at, uR_ne, uR_uR, uC_uC, uC_at, ↓reduceIte, decide_eq_true_eq, leT, leF, ltT, ltF, eqT, eqF, ne_eq, not_true_eq_false, not_false_eq_true, Bool.false_eq_true, tI_zI]
      · rw [if_neg g]; rw [q_248_0]; (try simp only [↓n_cI, li_0, li_1, li_5, li_12, li_57, li_210, lj_0, lj_1, lj_5, lj_12, zJ_add, zJ_sub, zJ_mul, zJ_neg, zJ_l2i, zI_add, zI_sub, zI_mul, zI_neg, ↓Option.bind_some]); simp (disch := (first | assumption | exact tI_rg _ | omega | exact uR_at | exact row_ne hF (by decide) | exact row_ne (row_ne hF (by decide)) (by decide) | exact SnS_18 | exact SnS_30 | exact LdS_44 | exact LdS_46)) only [q_248_23, q_248_57, ↓cc_213t hI, ↓cc_213f hI, ↓cc_219t hI, ↓cc_219f hI, ↓cc_188t, ↓cc_188f, ↓cc_189, zI_i2l, ↓cc_229 hI, ↓cc_249 hI, ↓cc_210 hI, ↓n_cI, li_0, li_1, li_5, li_12, li_57, li_210, lj_0, lj_1, lj_5, lj_12, zJ_add, zJ_sub, zJ_mul, zJ_neg, zJ_l2i, tJ_zJ, zI_add, zI_sub, zI_mul, zI_neg, ↓Option.bind_some, ↓p12_5, zIt2, uR_at, uR_ne, uR_uR, uC_uC, uC_at, ↓reduceIte, decide_eq_true_eq, leT, leF, ltT, ltF, eqT, eqF, ne_eq, not_true_eq_false, not_false_eq_true, Bool.false_eq_true, tI_zI]
    · have ha : a_age K x y = (1, 0) := (if_pos c1).trans (if_neg c2)
      rw [ha]
      show (_ : ResP) = some (Sum.inl (some (.int (zI (0)))), mk E (uR F 217 (uC (F 217) 5 (zI 1))) G)
      refine into (D := 2) (by omega) hM_248 (rcv_mk rfl (by decide)) rfl fun d hd => ?_
      show runP MP d 248 (0, [some (.ref 217), some (.int (zI x)), some (.int (zI y)), none], [], _) = _
      rw [q_248_0]; (try simp only [↓n_cI, li_0, li_1, li_5, li_12, li_57, li_210, lj_0, lj_1, lj_5, lj_12, zJ_add, zJ_sub, zJ_mul, zJ_neg, zJ_l2i, zI_add, zI_sub, zI_mul, zI_neg, ↓Option.bind_some]); simp (disch := (first | assumption | exact tI_rg _ | omega | exact uR_at | exact row_ne hF (by decide) | exact row_ne (row_ne hF (by decide)) (by decide) | exact SnS_18 | exact SnS_30 | exact LdS_44 | exact LdS_46)) only [q_248_23, q_248_57, ↓cc_213t hI, ↓cc_213f hI, ↓cc_219t hI, ↓cc_219f hI, ↓cc_188t, ↓cc_188f, ↓cc_189, zI_i2l, hF, ↓n_cI, li_0, li_1, li_5, li_12, li_57, li_210, lj_0, lj_1, lj_5, lj_12, zJ_add, zJ_sub, zJ_mul, zJ_neg, zJ_l2i, tJ_zJ, zI_add, zI_sub, zI_mul, zI_neg, ↓Option.bind_some, ↓p12_5, zIt2, uR_at, uR_ne, uR_uR, uC_uC, uC_at, ↓reduceIte, decide_eq_true_eq, leT, leF, ltT, ltF, eqT, eqF, ne_eq, not_true_eq_false, not_false_eq_true, Bool.false_eq_true, tI_zI]
  · have ha : a_age K x y = (1, 0) := if_neg c1
    rw [ha]
    show (_ : ResP) = some (Sum.inl (some (.int (zI (0)))), mk E (uR F 217 (uC (F 217) 5 (zI 1))) G)
    refine into (D := 2) (by omega) hM_248 (rcv_mk rfl (by decide)) rfl fun d hd => ?_
    show runP MP d 248 (0, [some (.ref 217), some (.int (zI x)), some (.int (zI y)), none], [], _) = _
    rw [q_248_0]; (try simp only [↓n_cI, li_0, li_1, li_5, li_12, li_57, li_210, lj_0, lj_1, lj_5, lj_12, zJ_add, zJ_sub, zJ_mul, zJ_neg, zJ_l2i, zI_add, zI_sub, zI_mul, zI_neg, ↓Option.bind_some]); simp (disch := (first | assumption | exact tI_rg _ | omega | exact uR_at | exact row_ne hF (by decide) | exact row_ne (row_ne hF (by decide)) (by decide) | exact SnS_18 | exact SnS_30 | exact LdS_44 | exact LdS_46)) only [q_248_23, q_248_57, ↓cc_213t hI, ↓cc_213f hI, ↓cc_219t hI, ↓cc_219f hI, ↓cc_188t, ↓cc_188f, ↓cc_189, zI_i2l, hF, ↓n_cI, li_0, li_1, li_5, li_12, li_57, li_210, lj_0, lj_1, lj_5, lj_12, zJ_add, zJ_sub, zJ_mul, zJ_neg, zJ_l2i, tJ_zJ, zI_add, zI_sub, zI_mul, zI_neg, ↓Option.bind_some, ↓p12_5, zIt2, uR_at, uR_ne, uR_uR, uC_uC, uC_at, ↓reduceIte, decide_eq_true_eq, leT, leF, ltT, ltF, eqT, eqF, ne_eq, not_true_eq_false, not_false_eq_true, Bool.false_eq_true, tI_zI]
end S93j
