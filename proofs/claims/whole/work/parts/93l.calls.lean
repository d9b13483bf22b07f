/-! CALLS that read, third -/
section S93l
set_option linter.unusedVariables false
set_option linter.unusedSimpArgs false
def a_wolves (K : Int → Int32) : Int × Int := (0, tI (K 169))
theorem cl_wolves {d : Nat} {E : EnQ} {F : Nat → Int → Int32} {G : Nat → Int → Int64} {K : Int → Int32} (hO : SnO E F 18 K)  (hd : 2 ≤ d) : ∃ E1, (E1 = E ∨ E1 = jE E) ∧ callP MP d 119 [.ref 16] (mk E F G) = some (thrP [] (a_wolves K), mk E1 F G) := by
  have hO' := hO
  obtain ⟨hS, hP, hR, hN, hI⟩ := hO
  have hs := hS.1
  have hs2 := hP.1
  have hA := hI.1
  obtain ⟨b0, b1, b2, b3, b4, b5, b6, b7, b8, b9⟩ := hI.1
  have e18 := bO hN
  have ha : a_wolves K = (0, tI (K 169)) := rfl
  refine ⟨E, Or.inl rfl, ?_⟩
  rw [show thrP [] (a_wolves K) = Sum.inl (some (.int (zI (tI (K 169))))) by rw [ha]; rfl]
  refine into (D := 1) (by omega) hM_119 (rcv_mk rfl (by decide)) rfl fun d hd => ?_
  show runP MP d 119 (0, [some (.ref 16)], [], _) = _
  rw [q_119_0]; (try simp only [↓n_cI, li_0, li_4, zI_add, zI_sub, zI_mul, zI_neg, ↓Option.bind_some]); simp (disch := (first | assumption | exact tI_rg _ | omega | exact uR_at | exact row_ne hF (by decide) | exact row_ne (row_ne hF (by decide)) (by decide) | exact SnS_18 | exact SnS_30 | exact LdS_44 | exact LdS_46)) only [↓cc_66 hO', thr_eq, ↓n_cI, li_0, li_4, zI_add, zI_sub, zI_mul, zI_neg, ↓Option.bind_some, ↓g11_4, zIt2, uR_at, uR_ne, uR_uR, uC_uC, uC_at, ↓reduceIte, decide_eq_true_eq, leT, leF, ltT, ltF, eqT, eqF, ne_eq, not_true_eq_false, not_false_eq_true, Bool.false_eq_true, tI_zI]
theorem ml_wolves {d : Nat} {E : EnQ} {F : Nat → Int → Int32} {G : Nat → Int → Int64} {K : Int → Int32} (hI : InvK K) (hF : F 218 = K)  (hd : 1 ≤ d) : callP MP d 274 [.ref 217] (mk E F G) = some (Sum.inl (some (.int (zI ((a_wolves K).2)))), mk E (uR F 217 (uC (F 217) 5 (zI (a_wolves K).1))) G) := by
  have hA := hI.1
  obtain ⟨b0, b1, b2, b3, b4, b5, b6, b7, b8, b9⟩ := hI.1
  have ha : a_wolves K = (0, tI (K 169)) := rfl
  rw [ha]
  show (_ : ResP) = some (Sum.inl (some (.int (zI (tI (K 169))))), mk E (uR F 217 (uC (F 217) 5 (zI 0))) G)
  refine into (D := 0) (by omega) hM_274 (rcv_mk rfl (by decide)) rfl fun d hd => ?_
  show runP MP d 274 (0, [some (.ref 217)], [], _) = _
  rw [q_274_0]; (try simp only [↓n_al, li_0, li_5, li_12, li_169, zI_add, zI_sub, zI_mul, zI_neg, ↓Option.bind_some]); simp (disch := (first | assumption | exact tI_rg _ | omega | exact uR_at | exact row_ne hF (by decide) | exact row_ne (row_ne hF (by decide)) (by decide) | exact SnS_18 | exact SnS_30 | exact LdS_44 | exact LdS_46)) only [↓cc_213t hI, ↓cc_213f hI, ↓cc_219t hI, ↓cc_219f hI, ↓cc_188t, ↓cc_188f, ↓cc_189, zI_i2l, hF, ↓n_al, li_0, li_5, li_12, li_169, zI_add, zI_sub, zI_mul, zI_neg, ↓Option.bind_some, ↓g12_0, ↓p12_5, ↓al_218, ↓as_218, zIt2, uR_at, uR_ne, uR_uR, uC_uC, uC_at, ↓reduceIte, decide_eq_true_eq, leT, leF, ltT, ltF, eqT, eqF, ne_eq, not_true_eq_false, not_false_eq_true, Bool.false_eq_true, tI_zI]
def a_wolf (K : Int → Int32) (x y : Int) : Int × Int := if 0 ≤ x ∧ x < tI (K 169) then if 0 ≤ y ∧ y ≤ 2 then (0, if y = 0 then fromZ K (woW K x) else if y = 1 then toZ K (woW K x) else woO K x) else (2, 0) else (1, 0)
theorem cl_wolf {d : Nat} {E : EnQ} {F : Nat → Int → Int32} {G : Nat → Int → Int64} {K : Int → Int32} (hO : SnO E F 18 K) {x y : Int} (hx : -2147483648 ≤ x ∧ x ≤ 2147483647) (hy : -2147483648 ≤ y ∧ y ≤ 2147483647) (hd : 3 ≤ d) : ∃ E1, (E1 = E ∨ E1 = jE E) ∧ callP MP d 152 [.ref 16, .int (zI x), .int (zI y)] (mk E F G) = some (thrP [0, 2] (a_wolf K x y), mk E1 F G) := by
  have hO' := hO
  obtain ⟨hS, hP, hR, hN, hI⟩ := hO
  have hs := hS.1
  have hs2 := hP.1
  have hA := hI.1
  obtain ⟨b0, b1, b2, b3, b4, b5, b6, b7, b8, b9⟩ := hI.1
  have e18 := bO hN
  by_cases c1 : 0 ≤ x ∧ x < tI (K 169)
  · by_cases c2 : 0 ≤ y ∧ y ≤ 2
    · have ha : a_wolf K x y = (0, if y = 0 then fromZ K (woW K x) else if y = 1 then toZ K (woW K x) else woO K x) := (if_pos c1).trans ((if_pos c2).trans (rfl))
      refine ⟨E, Or.inl rfl, ?_⟩
      rw [show thrP [0, 2] (a_wolf K x y) = Sum.inl (some (.int (zI (if y = 0 then fromZ K (woW K x) else if y = 1 then toZ K (woW K x) else woO K x)))) by rw [ha]; rfl]
      refine into (D := 2) (by omega) hM_152 (rcv_mk rfl (by decide)) rfl fun d hd => ?_
      show runP MP d 152 (0, [some (.ref 16), some (.int (zI x)), some (.int (zI y))], [], _) = _
      have hw := (wo_in hI c1.1 c1.2).1
      by_cases y0 : y = 0
      · rw [if_pos y0]; rw [q_152_0]; (try simp only [↓n_cI, li_0, li_1, li_2, li_4, li_5, li_6, li_15, li_124, zI_add, zI_sub, zI_mul, zI_neg, ↓Option.bind_some]); simp (disch := (first | assumption | exact tI_rg _ | omega | exact uR_at | exact row_ne hF (by decide) | exact row_ne (row_ne hF (by decide)) (by decide) | exact SnS_18 | exact SnS_30 | exact LdS_44 | exact LdS_46)) only [q_152_15, q_152_89, ↓cc_127t hO', ↓cc_127f hO', ↓cc_129t hO', ↓cc_129f hO', ↓cc_124t, ↓cc_124f, thr_eq, ↓cc_66 hO', ↓cc_78 hO', ↓cc_28 hR hI, ↓n_cI, jnk_mk, li_0, li_1, li_2, li_4, li_5, li_6, li_15, li_124, zI_add, zI_sub, zI_mul, zI_neg, ↓Option.bind_some, ↓g5_0, ↓g11_4, zIt2, uR_at, uR_ne, uR_uR, uC_uC, uC_at, ↓reduceIte, decide_eq_true_eq, leT, leF, ltT, ltF, eqT, eqF, ne_eq, not_true_eq_false, not_false_eq_true, Bool.false_eq_true, tI_zI]
      · rw [if_neg y0]
        by_cases y1 : y = 1
        · rw [if_pos y1]; rw [q_152_0]; (try simp only [↓n_cI, li_0, li_1, li_2, li_4, li_5, li_6, li_15, li_124, zI_add, zI_sub, zI_mul, zI_neg, ↓Option.bind_some]); simp (disch := (first | assumption | exact tI_rg _ | omega | exact uR_at | exact row_ne hF (by decide) | exact row_ne (row_ne hF (by decide)) (by decide) | exact SnS_18 | exact SnS_30 | exact LdS_44 | exact LdS_46)) only [q_152_15, q_152_89, ↓cc_127t hO', ↓cc_127f hO', ↓cc_129t hO', ↓cc_129f hO', ↓cc_124t, ↓cc_124f, thr_eq, ↓cc_66 hO', ↓cc_78 hO', ↓cc_29 hR hI, ↓n_cI, jnk_mk, li_0, li_1, li_2, li_4, li_5, li_6, li_15, li_124, zI_add, zI_sub, zI_mul, zI_neg, ↓Option.bind_some, ↓g5_0, ↓g11_4, zIt2, uR_at, uR_ne, uR_uR, uC_uC, uC_at, ↓reduceIte, decide_eq_true_eq, leT, leF, ltT, ltF, eqT, eqF, ne_eq, not_true_eq_false, not_false_eq_true, Bool.false_eq_true, tI_zI]
        · rw [if_neg y1]; rw [q_152_0]; (try simp only [↓n_cI, li_0, li_1, li_2, li_4, li_5, li_6, li_15, li_124, zI_add, zI_sub, zI_mul, zI_neg, ↓Option.bind_some]); simp (disch := (first | assumption | exact tI_rg _ | omega | exact uR_at | exact row_ne hF (by decide) | exact row_ne (row_ne hF (by decide)) (by decide) | exact SnS_18 | exact SnS_30 | exact LdS_44 | exact LdS_46)) only [q_152_15, q_152_89, ↓cc_127t hO', ↓cc_127f hO', ↓cc_129t hO', ↓cc_129f hO', ↓cc_124t, ↓cc_124f, thr_eq, ↓cc_66 hO', ↓cc_79 hO', ↓n_cI, jnk_mk, li_0, li_1, li_2, li_4, li_5, li_6, li_15, li_124, zI_add, zI_sub, zI_mul, zI_neg, ↓Option.bind_some, ↓g5_0, ↓g11_4, zIt2, uR_at, uR_ne, uR_uR, uC_uC, uC_at, ↓reduceIte, decide_eq_true_eq, leT, leF, ltT, ltF, eqT, eqF, ne_eq, not_true_eq_false, not_false_eq_true, Bool.false_eq_true, tI_zI]
    · have ha : a_wolf K x y = (2, 0) := (if_pos c1).trans (if_neg c2)
      refine ⟨jE E, Or.inr rfl, ?_⟩
      rw [show thrP [0, 2] (a_wolf K x y) = Sum.inr 2 by rw [ha]; rfl]
      refine into (D := 2) (by omega) hM_152 (rcv_mk rfl (by decide)) rfl fun d hd => ?_
      show runP MP d 152 (0, [some (.ref 16), some (.int (zI x)), some (.int (zI y))], [], _) = _
      rw [q_152_0]; (try simp only [↓n_cI, li_0, li_1, li_2, li_4, li_5, li_6, li_15, li_124, zI_add, zI_sub, zI_mul, zI_neg, ↓Option.bind_some]); simp (disch := (first | assumption | exact tI_rg _ | omega | exact uR_at | exact row_ne hF (by decide) | exact row_ne (row_ne hF (by decide)) (by decide) | exact SnS_18 | exact SnS_30 | exact LdS_44 | exact LdS_46)) only [q_152_15, q_152_89, ↓cc_127t hO', ↓cc_127f hO', ↓cc_129t hO', ↓cc_129f hO', ↓cc_124t, ↓cc_124f, thr_eq, ↓cc_66 hO', ↓n_cI, jnk_mk, li_0, li_1, li_2, li_4, li_5, li_6, li_15, li_124, zI_add, zI_sub, zI_mul, zI_neg, ↓Option.bind_some, ↓g5_0, ↓g11_4, zIt2, uR_at, uR_ne, uR_uR, uC_uC, uC_at, ↓reduceIte, decide_eq_true_eq, leT, leF, ltT, ltF, eqT, eqF, ne_eq, not_true_eq_false, not_false_eq_true, Bool.false_eq_true, tI_zI]
  · have ha : a_wolf K x y = (1, 0) := if_neg c1
    refine ⟨jE E, Or.inr rfl, ?_⟩
    rw [show thrP [0, 2] (a_wolf K x y) = Sum.inr 0 by rw [ha]; rfl]
    refine into (D := 2) (by omega) hM_152 (rcv_mk rfl (by decide)) rfl fun d hd => ?_
    show runP MP d 152 (0, [some (.ref 16), some (.int (zI x)), some (.int (zI y))], [], _) = _
    by_cases hx0 : x < 0
    · rw [q_152_0]; (try simp only [↓n_cI, li_0, li_1, li_2, li_4, li_5, li_6, li_15, li_124, zI_add, zI_sub, zI_mul, zI_neg, ↓Option.bind_some]); simp (disch := (first | assumption | exact tI_rg _ | omega | exact uR_at | exact row_ne hF (by decide) | exact row_ne (row_ne hF (by decide)) (by decide) | exact SnS_18 | exact SnS_30 | exact LdS_44 | exact LdS_46)) only [q_152_15, q_152_89, ↓cc_127t hO', ↓cc_127f hO', ↓cc_129t hO', ↓cc_129f hO', ↓cc_124t, ↓cc_124f, thr_eq, ↓n_cI, jnk_mk, li_0, li_1, li_2, li_4, li_5, li_6, li_15, li_124, zI_add, zI_sub, zI_mul, zI_neg, ↓Option.bind_some, ↓g5_0, ↓g11_4, zIt2, uR_at, uR_ne, uR_uR, uC_uC, uC_at, ↓reduceIte, decide_eq_true_eq, leT, leF, ltT, ltF, eqT, eqF, ne_eq, not_true_eq_false, not_false_eq_true, Bool.false_eq_true, tI_zI]
    · rw [q_152_0]; (try simp only [↓n_cI, li_0, li_1, li_2, li_4, li_5, li_6, li_15, li_124, zI_add, zI_sub, zI_mul, zI_neg, ↓Option.bind_some]); simp (disch := (first | assumption | exact tI_rg _ | omega | exact uR_at | exact row_ne hF (by decide) | exact row_ne (row_ne hF (by decide)) (by decide) | exact SnS_18 | exact SnS_30 | exact LdS_44 | exact LdS_46)) only [q_152_15, q_152_89, ↓cc_127t hO', ↓cc_127f hO', ↓cc_129t hO', ↓cc_129f hO', ↓cc_124t, ↓cc_124f, thr_eq, ↓cc_66 hO', ↓n_cI, jnk_mk, li_0, li_1, li_2, li_4, li_5, li_6, li_15, li_124, zI_add, zI_sub, zI_mul, zI_neg, ↓Option.bind_some, ↓g5_0, ↓g11_4, zIt2, uR_at, uR_ne, uR_uR, uC_uC, uC_at, ↓reduceIte, decide_eq_true_eq, leT, leF, ltT, ltF, eqT, eqF, ne_eq, not_true_eq_false, not_false_eq_true, Bool.false_eq_true, tI_zI]
theorem ml_wolf {d : Nat} {E : EnQ} {F : Nat → Int → Int32} {G : Nat → Int → Int64} {K : Int → Int32} (hI : InvK K) (hF : F 218 = K) {x y : Int} (hx : -2147483648 ≤ x ∧ x ≤ 2147483647) (hy : -2147483648 ≤ y ∧ y ≤ 2147483647) (hd : 2 ≤ d) : callP MP d 275 [.ref 217, .int (zI x), .int (zI y)] (mk E F G) = some (Sum.inl (some (.int (zI ((a_wolf K x y).2)))), mk E (uR F 217 (uC (F 217) 5 (zI (a_wolf K x y).1))) G) := by
  have hA := hI.1
  obtain ⟨b0, b1, b2, b3, b4, b5, b6, b7, b8, b9⟩ := hI.1
  by_cases c1 : 0 ≤ x ∧ x < tI (K 169)
  · by_cases c2 : 0 ≤ y ∧ y ≤ 2
    · have ha : a_wolf K x y = (0, if y = 0 then fromZ K (woW K x) else if y = 1 then toZ K (woW K x) else woO K x) := (if_pos c1).trans ((if_pos c2).trans (rfl))
      rw [ha]
      show (_ : ResP) = some (Sum.inl (some (.int (zI (if y = 0 then fromZ K (woW K x) else if y = 1 then toZ K (woW K x) else woO K x)))), mk E (uR F 217 (uC (F 217) 5 (zI 0))) G)
      refine into (D := 1) (by omega) hM_275 (rcv_mk rfl (by decide)) rfl fun d hd => ?_
      show runP MP d 275 (0, [some (.ref 217), some (.int (zI x)), some (.int (zI y))], [], _) = _
      have hw := (wo_in hI c1.1 c1.2).1
      have e211 : 210 + 2 * x + 1 = 211 + 2 * x := by omega
      by_cases y0 : y = 0
      · rw [if_pos y0]; rw [q_275_0]; (try simp only [↓n_rd, ↓n_al, ↓n_cI, li_0, li_1, li_2, li_5, li_12, li_169, li_210, lj_0, lj_1, lj_2, lj_5, lj_12, zJ_add, zJ_sub, zJ_mul, zJ_neg, zJ_l2i, zI_add, zI_sub, zI_mul, zI_neg, ↓Option.bind_some]); simp (disch := (first | assumption | exact tI_rg _ | omega | exact uR_at | exact row_ne hF (by decide) | exact row_ne (row_ne hF (by decide)) (by decide) | exact SnS_18 | exact SnS_30 | exact LdS_44 | exact LdS_46)) only [q_275_42, q_275_101, ↓cc_213t hI, ↓cc_213f hI, ↓cc_219t hI, ↓cc_219f hI, ↓cc_188t, ↓cc_188f, ↓cc_189, zI_i2l, hF, ↓cc_276 hI, ↓cc_216 hI, ↓n_rd, ↓n_al, ↓n_cI, li_0, li_1, li_2, li_5, li_12, li_169, li_210, lj_0, lj_1, lj_2, lj_5, lj_12, zJ_add, zJ_sub, zJ_mul, zJ_neg, zJ_l2i, tJ_zJ, zI_add, zI_sub, zI_mul, zI_neg, ↓Option.bind_some, ↓g12_5, ↓g12_0, ↓p12_5, ↓al_218, ↓as_218, zIt2, uR_at, uR_ne, uR_uR, uC_uC, uC_at, ↓reduceIte, decide_eq_true_eq, leT, leF, ltT, ltF, eqT, eqF, ne_eq, not_true_eq_false, not_false_eq_true, Bool.false_eq_true, tI_zI]
      · rw [if_neg y0]
        by_cases y1 : y = 1
        · rw [if_pos y1]; rw [q_275_0]; (try simp only [↓n_rd, ↓n_al, ↓n_cI, li_0, li_1, li_2, li_5, li_12, li_169, li_210, lj_0, lj_1, lj_2, lj_5, lj_12, zJ_add, zJ_sub, zJ_mul, zJ_neg, zJ_l2i, zI_add, zI_sub, zI_mul, zI_neg, ↓Option.bind_some]); simp (disch := (first | assumption | exact tI_rg _ | omega | exact uR_at | exact row_ne hF (by decide) | exact row_ne (row_ne hF (by decide)) (by decide) | exact SnS_18 | exact SnS_30 | exact LdS_44 | exact LdS_46)) only [q_275_42, q_275_101, ↓cc_213t hI, ↓cc_213f hI, ↓cc_219t hI, ↓cc_219f hI, ↓cc_188t, ↓cc_188f, ↓cc_189, zI_i2l, hF, ↓cc_276 hI, ↓cc_217 hI, ↓n_rd, ↓n_al, ↓n_cI, li_0, li_1, li_2, li_5, li_12, li_169, li_210, lj_0, lj_1, lj_2, lj_5, lj_12, zJ_add, zJ_sub, zJ_mul, zJ_neg, zJ_l2i, tJ_zJ, zI_add, zI_sub, zI_mul, zI_neg, ↓Option.bind_some, ↓g12_5, ↓g12_0, ↓p12_5, ↓al_218, ↓as_218, zIt2, uR_at, uR_ne, uR_uR, uC_uC, uC_at, ↓reduceIte, decide_eq_true_eq, leT, leF, ltT, ltF, eqT, eqF, ne_eq, not_true_eq_false, not_false_eq_true, Bool.false_eq_true, tI_zI]
        · rw [if_neg y1]; rw [q_275_0]; (try simp only [↓n_rd, ↓n_al, ↓n_cI, li_0, li_1, li_2, li_5, li_12, li_169, li_210, lj_0, lj_1, lj_2, lj_5, lj_12, zJ_add, zJ_sub, zJ_mul, zJ_neg, zJ_l2i, zI_add, zI_sub, zI_mul, zI_neg, ↓Option.bind_some]); simp (disch := (first | assumption | exact tI_rg _ | omega | exact uR_at | exact row_ne hF (by decide) | exact row_ne (row_ne hF (by decide)) (by decide) | exact SnS_18 | exact SnS_30 | exact LdS_44 | exact LdS_46)) only [q_275_42, q_275_101, ↓cc_213t hI, ↓cc_213f hI, ↓cc_219t hI, ↓cc_219f hI, ↓cc_188t, ↓cc_188f, ↓cc_189, zI_i2l, hF, e211, ↓n_rd, ↓n_al, ↓n_cI, li_0, li_1, li_2, li_5, li_12, li_169, li_210, lj_0, lj_1, lj_2, lj_5, lj_12, zJ_add, zJ_sub, zJ_mul, zJ_neg, zJ_l2i, tJ_zJ, zI_add, zI_sub, zI_mul, zI_neg, ↓Option.bind_some, ↓g12_5, ↓g12_0, ↓p12_5, ↓al_218, ↓as_218, zIt2, uR_at, uR_ne, uR_uR, uC_uC, uC_at, ↓reduceIte, decide_eq_true_eq, leT, leF, ltT, ltF, eqT, eqF, ne_eq, not_true_eq_false, not_false_eq_true, Bool.false_eq_true, tI_zI]
          rfl
    · have ha : a_wolf K x y = (2, 0) := (if_pos c1).trans (if_neg c2)
      rw [ha]
      show (_ : ResP) = some (Sum.inl (some (.int (zI (0)))), mk E (uR F 217 (uC (F 217) 5 (zI 2))) G)
      refine into (D := 1) (by omega) hM_275 (rcv_mk rfl (by decide)) rfl fun d hd => ?_
      show runP MP d 275 (0, [some (.ref 217), some (.int (zI x)), some (.int (zI y))], [], _) = _
      rw [q_275_0]; (try simp only [↓n_rd, ↓n_al, ↓n_cI, li_0, li_1, li_2, li_5, li_12, li_169, li_210, lj_0, lj_1, lj_2, lj_5, lj_12, zJ_add, zJ_sub, zJ_mul, zJ_neg, zJ_l2i, zI_add, zI_sub, zI_mul, zI_neg, ↓Option.bind_some]); simp (disch := (first | assumption | exact tI_rg _ | omega | exact uR_at | exact row_ne hF (by decide) | exact row_ne (row_ne hF (by decide)) (by decide) | exact SnS_18 | exact SnS_30 | exact LdS_44 | exact LdS_46)) only [q_275_42, q_275_101, ↓cc_213t hI, ↓cc_213f hI, ↓cc_219t hI, ↓cc_219f hI, ↓cc_188t, ↓cc_188f, ↓cc_189, zI_i2l, hF, ↓n_rd, ↓n_al, ↓n_cI, li_0, li_1, li_2, li_5, li_12, li_169, li_210, lj_0, lj_1, lj_2, lj_5, lj_12, zJ_add, zJ_sub, zJ_mul, zJ_neg, zJ_l2i, tJ_zJ, zI_add, zI_sub, zI_mul, zI_neg, ↓Option.bind_some, ↓g12_5, ↓g12_0, ↓p12_5, ↓al_218, ↓as_218, zIt2, uR_at, uR_ne, uR_uR, uC_uC, uC_at, ↓reduceIte, decide_eq_true_eq, leT, leF, ltT, ltF, eqT, eqF, ne_eq, not_true_eq_false, not_false_eq_true, Bool.false_eq_true, tI_zI]
  · have ha : a_wolf K x y = (1, 0) := if_neg c1
    rw [ha]
    show (_ : ResP) = some (Sum.inl (some (.int (zI (0)))), mk E (uR F 217 (uC (F 217) 5 (zI 1))) G)
    refine into (D := 1) (by omega) hM_275 (rcv_mk rfl (by decide)) rfl fun d hd => ?_
    show runP MP d 275 (0, [some (.ref 217), some (.int (zI x)), some (.int (zI y))], [], _) = _
    rw [q_275_0]; (try simp only [↓n_rd, ↓n_al, ↓n_cI, li_0, li_1, li_2, li_5, li_12, li_169, li_210, lj_0, lj_1, lj_2, lj_5, lj_12, zJ_add, zJ_sub, zJ_mul, zJ_neg, zJ_l2i, zI_add, zI_sub, zI_mul, zI_neg, ↓Option.bind_some]); simp (disch := (first | assumption | exact tI_rg _ | omega | exact uR_at | exact row_ne hF (by decide) | exact row_ne (row_ne hF (by decide)) (by decide) | exact SnS_18 | exact SnS_30 | exact LdS_44 | exact LdS_46)) only [q_275_42, q_275_101, ↓cc_213t hI, ↓cc_213f hI, ↓cc_219t hI, ↓cc_219f hI, ↓cc_188t, ↓cc_188f, ↓cc_189, zI_i2l, hF, ↓n_rd, ↓n_al, ↓n_cI, li_0, li_1, li_2, li_5, li_12, li_169, li_210, lj_0, lj_1, lj_2, lj_5, lj_12, zJ_add, zJ_sub, zJ_mul, zJ_neg, zJ_l2i, tJ_zJ, zI_add, zI_sub, zI_mul, zI_neg, ↓Option.bind_some, ↓g12_5, ↓g12_0, ↓p12_5, ↓al_218, ↓as_218, zIt2, uR_at, uR_ne, uR_uR, uC_uC, uC_at, ↓reduceIte, decide_eq_true_eq, leT, leF, ltT, ltF, eqT, eqF, ne_eq, not_true_eq_false, not_false_eq_true, Bool.false_eq_true, tI_zI]
def hndZ (K : Int → Int32) (x : Int) : Nat → Int × Int
  | 0 => (x, 0)
  | n + 1 => if fromZ K (prW K n) = (hndZ K x n).1 then (toZ K (prW K n), (hndZ K x n).2 + 1) else hndZ K x n
theorem hndZ_rg {K : Int → Int32} (hI : InvK K) {x : Int} (hx : 0 ≤ x ∧ x < tI (K 1)) : ∀ n : Nat, (n : Int) ≤ tI (K 5) → (0 ≤ (hndZ K x n).1 ∧ (hndZ K x n).1 < tI (K 1)) ∧ 0 ≤ (hndZ K x n).2 ∧ (hndZ K x n).2 ≤ n := by
  intro n
  induction n with
  | zero => intro _; exact ⟨hx, Int.le_refl _, Int.le_refl _⟩
  | succ n ih =>
    intro hn
    have h := ih (by omega)
    have hw := (pr_in hI (i := (n : Int)) (by omega) (by omega)).1
    have f2 := to_in hI hw
    show _ ∧ _
    rw [show hndZ K x (n + 1) = if fromZ K (prW K n) = (hndZ K x n).1 then (toZ K (prW K n), (hndZ K x n).2 + 1) else hndZ K x n from rfl]
    by_cases e : fromZ K (prW K n) = (hndZ K x n).1
    · rw [if_pos e]; exact ⟨f2, by show 0 ≤ (hndZ K x n).2 + 1; omega, by show (hndZ K x n).2 + 1 ≤ ((n + 1 : Nat) : Int); omega⟩
    · rw [if_neg e]; exact ⟨h.1, h.2.1, by omega⟩
theorem hndZ_pos {K : Int → Int32} {x : Int} {n : Nat} (h : fromZ K (prW K n) = (hndZ K x n).1) : hndZ K x (n + 1) = (toZ K (prW K n), (hndZ K x n).2 + 1) := if_pos h
theorem hndZ_neg {K : Int → Int32} {x : Int} {n : Nat} (h : ¬ fromZ K (prW K n) = (hndZ K x n).1) : hndZ K x (n + 1) = hndZ K x n := if_neg h
def a_hound (K : Int → Int32) (x y : Int) : Int × Int := if 0 ≤ x ∧ x < tI (K 1) then if 0 ≤ y ∧ y ≤ 1 then (0, if y = 0 then (hndZ K x (tI (K 5)).toNat).2 else (hndZ K x (tI (K 5)).toNat).1) else (2, 0) else (1, 0)
theorem cl_hound {d : Nat} {E : EnQ} {F : Nat → Int → Int32} {G : Nat → Int → Int64} {K : Int → Int32} (hO : SnO E F 18 K) {x y : Int} (hx : -2147483648 ≤ x ∧ x ≤ 2147483647) (hy : -2147483648 ≤ y ∧ y ≤ 2147483647) (hd : 3 ≤ d) : ∃ E1, (E1 = E ∨ E1 = jE E) ∧ callP MP d 153 [.ref 16, .int (zI x), .int (zI y)] (mk E F G) = some (thrP [0, 2] (a_hound K x y), mk E1 F G) := by
  have hO' := hO
  obtain ⟨hS, hP, hR, hN, hI⟩ := hO
  have hs := hS.1
  have hs2 := hP.1
  have hA := hI.1
  obtain ⟨b0, b1, b2, b3, b4, b5, b6, b7, b8, b9⟩ := hI.1
  have e18 := bO hN
  by_cases c1 : 0 ≤ x ∧ x < tI (K 1)
  · by_cases c2 : 0 ≤ y ∧ y ≤ 1
    · have ha : a_hound K x y = (0, if y = 0 then (hndZ K x (tI (K 5)).toNat).2 else (hndZ K x (tI (K 5)).toNat).1) := (if_pos c1).trans ((if_pos c2).trans (rfl))
      refine ⟨E, Or.inl rfl, ?_⟩
      rw [show thrP [0, 2] (a_hound K x y) = Sum.inl (some (.int (zI (if y = 0 then (hndZ K x (tI (K 5)).toNat).2 else (hndZ K x (tI (K 5)).toNat).1)))) by rw [ha]; rfl]
      refine into (D := 2) (by omega) hM_153 (rcv_mk rfl (by decide)) rfl fun d hd => ?_
      show runP MP d 153 (0, [some (.ref 16), some (.int (zI x)), some (.int (zI y)), none, none, none], [], _) = _
      have hl : runP MP d 153 (19, [some (.ref 16), some (.int (zI x)), some (.int (zI y)), some (.int (zI x)), some (.int (zI 0)), some (.int (zI 0))], [], mk E F G) = runP MP d 153 (19, [some (.ref 16), some (.int (zI x)), some (.int (zI y)), some (.int (zI (hndZ K x (tI (K 5)).toNat).1)), some (.int (zI (hndZ K x (tI (K 5)).toNat).2)), some (.int (zI ((tI (K 5)).toNat : Int)))], [], mk E F G) := by
        refine loopN (fun j : Nat => runP MP d 153 (19, [some (.ref 16), some (.int (zI x)), some (.int (zI y)), some (.int (zI (hndZ K x j).1)), some (.int (zI (hndZ K x j).2)), some (.int (zI (j : Int)))], [], mk E F G)) _ (fun j hj => ?_)
        show runP MP d 153 _ = runP MP d 153 _
        have hw := (pr_in hI (i := (j : Int)) (by omega) (by omega)).1
        have f1 := from_in hI hw
        have f2 := to_in hI hw
        have hh := hndZ_rg hI c1 j (by omega)
        rw [nsucc]
        by_cases g : fromZ K (prW K (j : Int)) = (hndZ K x j).1
        · rw [hndZ_pos g]
          rw [q_153_19]; (try simp only [↓n_rd, ↓n_cI, li_0, li_1, li_2, li_4, li_5, li_64, li_124, zI_add, zI_sub, zI_mul, zI_neg, ↓Option.bind_some]); simp (disch := (first | assumption | exact tI_rg _ | omega | exact uR_at | exact row_ne hF (by decide) | exact row_ne (row_ne hF (by decide)) (by decide) | exact SnS_18 | exact SnS_30 | exact LdS_44 | exact LdS_46)) only [q_153_0, q_153_77, q_153_93, e18, ↓cc_64 hO', ↓cc_28 hR hI, ↓cc_29 hR hI, ↓n_rd, ↓n_cI, li_0, li_1, li_2, li_4, li_5, li_64, li_124, zI_add, zI_sub, zI_mul, zI_neg, ↓Option.bind_some, ↓g5_2, ↓g5_0, ↓g11_4, zIt2, uR_at, uR_ne, uR_uR, uC_uC, uC_at, ↓reduceIte, decide_eq_true_eq, leT, leF, ltT, ltF, eqT, eqF, ne_eq, not_true_eq_false, not_false_eq_true, Bool.false_eq_true, tI_zI]
        · rw [hndZ_neg g]
          rw [q_153_19]; (try simp only [↓n_rd, ↓n_cI, li_0, li_1, li_2, li_4, li_5, li_64, li_124, zI_add, zI_sub, zI_mul, zI_neg, ↓Option.bind_some]); simp (disch := (first | assumption | exact tI_rg _ | omega | exact uR_at | exact row_ne hF (by decide) | exact row_ne (row_ne hF (by decide)) (by decide) | exact SnS_18 | exact SnS_30 | exact LdS_44 | exact LdS_46)) only [q_153_0, q_153_77, q_153_93, e18, ↓cc_64 hO', ↓cc_28 hR hI, ↓cc_29 hR hI, ↓n_rd, ↓n_cI, li_0, li_1, li_2, li_4, li_5, li_64, li_124, zI_add, zI_sub, zI_mul, zI_neg, ↓Option.bind_some, ↓g5_2, ↓g5_0, ↓g11_4, zIt2, uR_at, uR_ne, uR_uR, uC_uC, uC_at, ↓reduceIte, decide_eq_true_eq, leT, leF, ltT, ltF, eqT, eqF, ne_eq, not_true_eq_false, not_false_eq_true, Bool.false_eq_true, tI_zI]
      have hh := hndZ_rg hI c1 (tI (K 5)).toNat (by omega)
      
      by_cases y0 : y = 0
      · rw [if_pos y0]
        rw [q_153_0]; (try simp only [↓n_rd, ↓n_cI, li_0, li_1, li_2, li_4, li_5, li_64, li_124, zI_add, zI_sub, zI_mul, zI_neg, ↓Option.bind_some]); simp (disch := (first | assumption | exact tI_rg _ | omega | exact uR_at | exact row_ne hF (by decide) | exact row_ne (row_ne hF (by decide)) (by decide) | exact SnS_18 | exact SnS_30 | exact LdS_44 | exact LdS_46)) only [q_153_77, q_153_93, ↓cc_127t hO', ↓cc_127f hO', ↓cc_129t hO', ↓cc_129f hO', ↓cc_124t, ↓cc_124f, thr_eq, hl, ↓n_rd, ↓n_cI, li_0, li_1, li_2, li_4, li_5, li_64, li_124, zI_add, zI_sub, zI_mul, zI_neg, ↓Option.bind_some, ↓g5_2, ↓g5_0, ↓g11_4, zIt2, uR_at, uR_ne, uR_uR, uC_uC, uC_at, ↓reduceIte, decide_eq_true_eq, leT, leF, ltT, ltF, eqT, eqF, ne_eq, not_true_eq_false, not_false_eq_true, Bool.false_eq_true, tI_zI]
        rw [q_153_19]; (try simp only [↓n_rd, ↓n_cI, li_0, li_1, li_2, li_4, li_5, li_64, li_124, zI_add, zI_sub, zI_mul, zI_neg, ↓Option.bind_some]); simp (disch := (first | assumption | exact tI_rg _ | omega | exact uR_at | exact row_ne hF (by decide) | exact row_ne (row_ne hF (by decide)) (by decide) | exact SnS_18 | exact SnS_30 | exact LdS_44 | exact LdS_46)) only [q_153_0, q_153_77, q_153_93, e18, ↓n_rd, ↓n_cI, li_0, li_1, li_2, li_4, li_5, li_64, li_124, zI_add, zI_sub, zI_mul, zI_neg, ↓Option.bind_some, ↓g5_2, ↓g5_0, ↓g11_4, zIt2, uR_at, uR_ne, uR_uR, uC_uC, uC_at, ↓reduceIte, decide_eq_true_eq, leT, leF, ltT, ltF, eqT, eqF, ne_eq, not_true_eq_false, not_false_eq_true, Bool.false_eq_true, tI_zI]
      · rw [if_neg y0]
        rw [q_153_0]; (try simp only [↓n_rd, ↓n_cI, li_0, li_1, li_2, li_4, li_5, li_64, li_124, zI_add, zI_sub, zI_mul, zI_neg, ↓Option.bind_some]); simp (disch := (first | assumption | exact tI_rg _ | omega | exact uR_at | exact row_ne hF (by decide) | exact row_ne (row_ne hF (by decide)) (by decide) | exact SnS_18 | exact SnS_30 | exact LdS_44 | exact LdS_46)) only [q_153_77, q_153_93, ↓cc_127t hO', ↓cc_127f hO', ↓cc_129t hO', ↓cc_129f hO', ↓cc_124t, ↓cc_124f, thr_eq, hl, ↓n_rd, ↓n_cI, li_0, li_1, li_2, li_4, li_5, li_64, li_124, zI_add, zI_sub, zI_mul, zI_neg, ↓Option.bind_some, ↓g5_2, ↓g5_0, ↓g11_4, zIt2, uR_at, uR_ne, uR_uR, uC_uC, uC_at, ↓reduceIte, decide_eq_true_eq, leT, leF, ltT, ltF, eqT, eqF, ne_eq, not_true_eq_false, not_false_eq_true, Bool.false_eq_true, tI_zI]
        rw [q_153_19]; (try simp only [↓n_rd, ↓n_cI, li_0, li_1, li_2, li_4, li_5, li_64, li_124, zI_add, zI_sub, zI_mul, zI_neg, ↓Option.bind_some]); simp (disch := (first | assumption | exact tI_rg _ | omega | exact uR_at | exact row_ne hF (by decide) | exact row_ne (row_ne hF (by decide)) (by decide) | exact SnS_18 | exact SnS_30 | exact LdS_44 | exact LdS_46)) only [q_153_0, q_153_77, q_153_93, e18, ↓n_rd, ↓n_cI, li_0, li_1, li_2, li_4, li_5, li_64, li_124, zI_add, zI_sub, zI_mul, zI_neg, ↓Option.bind_some, ↓g5_2, ↓g5_0, ↓g11_4, zIt2, uR_at, uR_ne, uR_uR, uC_uC, uC_at, ↓reduceIte, decide_eq_true_eq, leT, leF, ltT, ltF, eqT, eqF, ne_eq, not_true_eq_false, not_false_eq_true, Bool.false_eq_true, tI_zI]
    · have ha : a_hound K x y = (2, 0) := (if_pos c1).trans (if_neg c2)
      refine ⟨jE E, Or.inr rfl, ?_⟩
      rw [show thrP [0, 2] (a_hound K x y) = Sum.inr 2 by rw [ha]; rfl]
      refine into (D := 2) (by omega) hM_153 (rcv_mk rfl (by decide)) rfl fun d hd => ?_
      show runP MP d 153 (0, [some (.ref 16), some (.int (zI x)), some (.int (zI y)), none, none, none], [], _) = _
      rw [q_153_0]; (try simp only [↓n_rd, ↓n_cI, li_0, li_1, li_2, li_4, li_5, li_64, li_124, zI_add, zI_sub, zI_mul, zI_neg, ↓Option.bind_some]); simp (disch := (first | assumption | exact tI_rg _ | omega | exact uR_at | exact row_ne hF (by decide) | exact row_ne (row_ne hF (by decide)) (by decide) | exact SnS_18 | exact SnS_30 | exact LdS_44 | exact LdS_46)) only [q_153_77, q_153_93, ↓cc_127t hO', ↓cc_127f hO', ↓cc_129t hO', ↓cc_129f hO', ↓cc_124t, ↓cc_124f, thr_eq, ↓n_rd, ↓n_cI, li_0, li_1, li_2, li_4, li_5, li_64, li_124, zI_add, zI_sub, zI_mul, zI_neg, ↓Option.bind_some, ↓g5_2, ↓g5_0, ↓g11_4, zIt2, uR_at, uR_ne, uR_uR, uC_uC, uC_at, ↓reduceIte, decide_eq_true_eq, leT, leF, ltT, ltF, eqT, eqF, ne_eq, not_true_eq_false, not_false_eq_true, Bool.false_eq_true, tI_zI]
  · have ha : a_hound K x y = (1, 0) := if_neg c1
    refine ⟨jE E, Or.inr rfl, ?_⟩
    rw [show thrP [0, 2] (a_hound K x y) = Sum.inr 0 by rw [ha]; rfl]
    refine into (D := 2) (by omega) hM_153 (rcv_mk rfl (by decide)) rfl fun d hd => ?_
    show runP MP d 153 (0, [some (.ref 16), some (.int (zI x)), some (.int (zI y)), none, none, none], [], _) = _
    rw [q_153_0]; (try simp only [↓n_rd, ↓n_cI, li_0, li_1, li_2, li_4, li_5, li_64, li_124, zI_add, zI_sub, zI_mul, zI_neg, ↓Option.bind_some]); simp (disch := (first | assumption | exact tI_rg _ | omega | exact uR_at | exact row_ne hF (by decide) | exact row_ne (row_ne hF (by decide)) (by decide) | exact SnS_18 | exact SnS_30 | exact LdS_44 | exact LdS_46)) only [q_153_77, q_153_93, ↓cc_127t hO', ↓cc_127f hO', ↓cc_129t hO', ↓cc_129f hO', ↓cc_124t, ↓cc_124f, thr_eq, ↓n_rd, ↓n_cI, li_0, li_1, li_2, li_4, li_5, li_64, li_124, zI_add, zI_sub, zI_mul, zI_neg, ↓Option.bind_some, ↓g5_2, ↓g5_0, ↓g11_4, zIt2, uR_at, uR_ne, uR_uR, uC_uC, uC_at, ↓reduceIte, decide_eq_true_eq, leT, leF, ltT, ltF, eqT, eqF, ne_eq, not_true_eq_false, not_false_eq_true, Bool.false_eq_true, tI_zI]
theorem ml_hound {d : Nat} {E : EnQ} {F : Nat → Int → Int32} {G : Nat → Int → Int64} {K : Int → Int32} (hI : InvK K) (hF : F 218 = K) {x y : Int} (hx : -2147483648 ≤ x ∧ x ≤ 2147483647) (hy : -2147483648 ≤ y ∧ y ≤ 2147483647) (hd : 3 ≤ d) : callP MP d 259 [.ref 217, .int (zI x), .int (zI y)] (mk E F G) = some (Sum.inl (some (.int (zI ((a_hound K x y).2)))), mk E (uR F 217 (uC (F 217) 5 (zI (a_hound K x y).1))) G) := by
  have hA := hI.1
  obtain ⟨b0, b1, b2, b3, b4, b5, b6, b7, b8, b9⟩ := hI.1
  by_cases c1 : 0 ≤ x ∧ x < tI (K 1)
  · by_cases c2 : 0 ≤ y ∧ y ≤ 1
    · have ha : a_hound K x y = (0, if y = 0 then (hndZ K x (tI (K 5)).toNat).2 else (hndZ K x (tI (K 5)).toNat).1) := (if_pos c1).trans ((if_pos c2).trans (rfl))
      rw [ha]
      show (_ : ResP) = some (Sum.inl (some (.int (zI (if y = 0 then (hndZ K x (tI (K 5)).toNat).2 else (hndZ K x (tI (K 5)).toNat).1)))), mk E (uR F 217 (uC (F 217) 5 (zI 0))) G)
      refine into (D := 2) (by omega) hM_259 (rcv_mk rfl (by decide)) rfl fun d hd => ?_
      show runP MP d 259 (0, [some (.ref 217), some (.int (zI x)), some (.int (zI y)), none, none, none], [], _) = _
      have hl : runP MP d 259 (49, [some (.ref 217), some (.int (zI x)), some (.int (zI y)), some (.int (zI x)), some (.int (zI 0)), some (.int (zI 0))], [], mk E (uR F 217 (uC (F 217) 5 (zI 0))) G) = runP MP d 259 (49, [some (.ref 217), some (.int (zI x)), some (.int (zI y)), some (.int (zI (hndZ K x (tI (K 5)).toNat).1)), some (.int (zI (hndZ K x (tI (K 5)).toNat).2)), some (.int (zI ((tI (K 5)).toNat : Int)))], [], mk E (uR F 217 (uC (F 217) 5 (zI 0))) G) := by
        refine loopN (fun j : Nat => runP MP d 259 (49, [some (.ref 217), some (.int (zI x)), some (.int (zI y)), some (.int (zI (hndZ K x j).1)), some (.int (zI (hndZ K x j).2)), some (.int (zI (j : Int)))], [], mk E (uR F 217 (uC (F 217) 5 (zI 0))) G)) _ (fun j hj => ?_)
        show runP MP d 259 _ = runP MP d 259 _
        have hw := (pr_in hI (i := (j : Int)) (by omega) (by omega)).1
        have f1 := from_in hI hw
        have f2 := to_in hI hw
        have hh := hndZ_rg hI c1 j (by omega)
        rw [nsucc]
        by_cases g : fromZ K (prW K (j : Int)) = (hndZ K x j).1
        · rw [hndZ_pos g]
          rw [q_259_49]; (try simp only [↓n_rd, ↓n_cI, li_0, li_1, li_2, li_5, li_12, li_210, lj_0, lj_1, lj_2, lj_5, lj_12, zJ_add, zJ_sub, zJ_mul, zJ_neg, zJ_l2i, zI_add, zI_sub, zI_mul, zI_neg, ↓Option.bind_some]); simp (disch := (first | assumption | exact tI_rg _ | omega | exact uR_at | exact row_ne hF (by decide) | exact row_ne (row_ne hF (by decide)) (by decide) | exact SnS_18 | exact SnS_30 | exact LdS_44 | exact LdS_46)) only [q_259_0, q_259_29, q_259_89, q_259_105, ↓cc_210 hI, ↓cc_211 hI, ↓cc_216 hI, ↓cc_217 hI, ↓n_rd, ↓n_cI, li_0, li_1, li_2, li_5, li_12, li_210, lj_0, lj_1, lj_2, lj_5, lj_12, zJ_add, zJ_sub, zJ_mul, zJ_neg, zJ_l2i, tJ_zJ, zI_add, zI_sub, zI_mul, zI_neg, ↓Option.bind_some, ↓g12_5, ↓p12_5, zIt2, uR_at, uR_ne, uR_uR, uC_uC, uC_at, ↓reduceIte, decide_eq_true_eq, leT, leF, ltT, ltF, eqT, eqF, ne_eq, not_true_eq_false, not_false_eq_true, Bool.false_eq_true, tI_zI]
        · rw [hndZ_neg g]
          rw [q_259_49]; (try simp only [↓n_rd, ↓n_cI, li_0, li_1, li_2, li_5, li_12, li_210, lj_0, lj_1, lj_2, lj_5, lj_12, zJ_add, zJ_sub, zJ_mul, zJ_neg, zJ_l2i, zI_add, zI_sub, zI_mul, zI_neg, ↓Option.bind_some]); simp (disch := (first | assumption | exact tI_rg _ | omega | exact uR_at | exact row_ne hF (by decide) | exact row_ne (row_ne hF (by decide)) (by decide) | exact SnS_18 | exact SnS_30 | exact LdS_44 | exact LdS_46)) only [q_259_0, q_259_29, q_259_89, q_259_105, ↓cc_210 hI, ↓cc_211 hI, ↓cc_216 hI, ↓cc_217 hI, ↓n_rd, ↓n_cI, li_0, li_1, li_2, li_5, li_12, li_210, lj_0, lj_1, lj_2, lj_5, lj_12, zJ_add, zJ_sub, zJ_mul, zJ_neg, zJ_l2i, tJ_zJ, zI_add, zI_sub, zI_mul, zI_neg, ↓Option.bind_some, ↓g12_5, ↓p12_5, zIt2, uR_at, uR_ne, uR_uR, uC_uC, uC_at, ↓reduceIte, decide_eq_true_eq, leT, leF, ltT, ltF, eqT, eqF, ne_eq, not_true_eq_false, not_false_eq_true, Bool.false_eq_true, tI_zI]
      have hh := hndZ_rg hI c1 (tI (K 5)).toNat (by omega)
      
      by_cases y0 : y = 0
      · rw [if_pos y0]
        rw [q_259_0]; (try simp only [↓n_rd, ↓n_cI, li_0, li_1, li_2, li_5, li_12, li_210, lj_0, lj_1, lj_2, lj_5, lj_12, zJ_add, zJ_sub, zJ_mul, zJ_neg, zJ_l2i, zI_add, zI_sub, zI_mul, zI_neg, ↓Option.bind_some]); simp (disch := (first | assumption | exact tI_rg _ | omega | exact uR_at | exact row_ne hF (by decide) | exact row_ne (row_ne hF (by decide)) (by decide) | exact SnS_18 | exact SnS_30 | exact LdS_44 | exact LdS_46)) only [q_259_29, q_259_89, q_259_105, ↓cc_213t hI, ↓cc_213f hI, ↓cc_219t hI, ↓cc_219f hI, ↓cc_188t, ↓cc_188f, ↓cc_189, zI_i2l, hl, ↓n_rd, ↓n_cI, li_0, li_1, li_2, li_5, li_12, li_210, lj_0, lj_1, lj_2, lj_5, lj_12, zJ_add, zJ_sub, zJ_mul, zJ_neg, zJ_l2i, tJ_zJ, zI_add, zI_sub, zI_mul, zI_neg, ↓Option.bind_some, ↓g12_5, ↓p12_5, zIt2, uR_at, uR_ne, uR_uR, uC_uC, uC_at, ↓reduceIte, decide_eq_true_eq, leT, leF, ltT, ltF, eqT, eqF, ne_eq, not_true_eq_false, not_false_eq_true, Bool.false_eq_true, tI_zI]
        rw [q_259_49]; (try simp only [↓n_rd, ↓n_cI, li_0, li_1, li_2, li_5, li_12, li_210, lj_0, lj_1, lj_2, lj_5, lj_12, zJ_add, zJ_sub, zJ_mul, zJ_neg, zJ_l2i, zI_add, zI_sub, zI_mul, zI_neg, ↓Option.bind_some]); simp (disch := (first | assumption | exact tI_rg _ | omega | exact uR_at | exact row_ne hF (by decide) | exact row_ne (row_ne hF (by decide)) (by decide) | exact SnS_18 | exact SnS_30 | exact LdS_44 | exact LdS_46)) only [q_259_0, q_259_29, q_259_89, q_259_105, ↓cc_210 hI, ↓n_rd, ↓n_cI, li_0, li_1, li_2, li_5, li_12, li_210, lj_0, lj_1, lj_2, lj_5, lj_12, zJ_add, zJ_sub, zJ_mul, zJ_neg, zJ_l2i, tJ_zJ, zI_add, zI_sub, zI_mul, zI_neg, ↓Option.bind_some, ↓g12_5, ↓p12_5, zIt2, uR_at, uR_ne, uR_uR, uC_uC, uC_at, ↓reduceIte, decide_eq_true_eq, leT, leF, ltT, ltF, eqT, eqF, ne_eq, not_true_eq_false, not_false_eq_true, Bool.false_eq_true, tI_zI]
      · rw [if_neg y0]
        rw [q_259_0]; (try simp only [↓n_rd, ↓n_cI, li_0, li_1, li_2, li_5, li_12, li_210, lj_0, lj_1, lj_2, lj_5, lj_12, zJ_add, zJ_sub, zJ_mul, zJ_neg, zJ_l2i, zI_add, zI_sub, zI_mul, zI_neg, ↓Option.bind_some]); simp (disch := (first | assumption | exact tI_rg _ | omega | exact uR_at | exact row_ne hF (by decide) | exact row_ne (row_ne hF (by decide)) (by decide) | exact SnS_18 | exact SnS_30 | exact LdS_44 | exact LdS_46)) only [q_259_29, q_259_89, q_259_105, ↓cc_213t hI, ↓cc_213f hI, ↓cc_219t hI, ↓cc_219f hI, ↓cc_188t, ↓cc_188f, ↓cc_189, zI_i2l, hl, ↓n_rd, ↓n_cI, li_0, li_1, li_2, li_5, li_12, li_210, lj_0, lj_1, lj_2, lj_5, lj_12, zJ_add, zJ_sub, zJ_mul, zJ_neg, zJ_l2i, tJ_zJ, zI_add, zI_sub, zI_mul, zI_neg, ↓Option.bind_some, ↓g12_5, ↓p12_5, zIt2, uR_at, uR_ne, uR_uR, uC_uC, uC_at, ↓reduceIte, decide_eq_true_eq, leT, leF, ltT, ltF, eqT, eqF, ne_eq, not_true_eq_false, not_false_eq_true, Bool.false_eq_true, tI_zI]
        rw [q_259_49]; (try simp only [↓n_rd, ↓n_cI, li_0, li_1, li_2, li_5, li_12, li_210, lj_0, lj_1, lj_2, lj_5, lj_12, zJ_add, zJ_sub, zJ_mul, zJ_neg, zJ_l2i, zI_add, zI_sub, zI_mul, zI_neg, ↓Option.bind_some]); simp (disch := (first | assumption | exact tI_rg _ | omega | exact uR_at | exact row_ne hF (by decide) | exact row_ne (row_ne hF (by decide)) (by decide) | exact SnS_18 | exact SnS_30 | exact LdS_44 | exact LdS_46)) only [q_259_0, q_259_29, q_259_89, q_259_105, ↓cc_210 hI, ↓n_rd, ↓n_cI, li_0, li_1, li_2, li_5, li_12, li_210, lj_0, lj_1, lj_2, lj_5, lj_12, zJ_add, zJ_sub, zJ_mul, zJ_neg, zJ_l2i, tJ_zJ, zI_add, zI_sub, zI_mul, zI_neg, ↓Option.bind_some, ↓g12_5, ↓p12_5, zIt2, uR_at, uR_ne, uR_uR, uC_uC, uC_at, ↓reduceIte, decide_eq_true_eq, leT, leF, ltT, ltF, eqT, eqF, ne_eq, not_true_eq_false, not_false_eq_true, Bool.false_eq_true, tI_zI]
    · have ha : a_hound K x y = (2, 0) := (if_pos c1).trans (if_neg c2)
      rw [ha]
      show (_ : ResP) = some (Sum.inl (some (.int (zI (0)))), mk E (uR F 217 (uC (F 217) 5 (zI 2))) G)
      refine into (D := 2) (by omega) hM_259 (rcv_mk rfl (by decide)) rfl fun d hd => ?_
      show runP MP d 259 (0, [some (.ref 217), some (.int (zI x)), some (.int (zI y)), none, none, none], [], _) = _
      rw [q_259_0]; (try simp only [↓n_rd, ↓n_cI, li_0, li_1, li_2, li_5, li_12, li_210, lj_0, lj_1, lj_2, lj_5, lj_12, zJ_add, zJ_sub, zJ_mul, zJ_neg, zJ_l2i, zI_add, zI_sub, zI_mul, zI_neg, ↓Option.bind_some]); simp (disch := (first | assumption | exact tI_rg _ | omega | exact uR_at | exact row_ne hF (by decide) | exact row_ne (row_ne hF (by decide)) (by decide) | exact SnS_18 | exact SnS_30 | exact LdS_44 | exact LdS_46)) only [q_259_29, q_259_89, q_259_105, ↓cc_213t hI, ↓cc_213f hI, ↓cc_219t hI, ↓cc_219f hI, ↓cc_188t, ↓cc_188f, ↓cc_189, zI_i2l, hF, ↓n_rd, ↓n_cI, li_0, li_1, li_2, li_5, li_12, li_210, lj_0, lj_1, lj_2, lj_5, lj_12, zJ_add, zJ_sub, zJ_mul, zJ_neg, zJ_l2i, tJ_zJ, zI_add, zI_sub, zI_mul, zI_neg, ↓Option.bind_some, ↓g12_5, ↓p12_5, zIt2, uR_at, uR_ne, uR_uR, uC_uC, uC_at, ↓reduceIte, decide_eq_true_eq, leT, leF, ltT, ltF, eqT, eqF, ne_eq, not_true_eq_false, not_false_eq_true, Bool.false_eq_true, tI_zI]
  · have ha : a_hound K x y = (1, 0) := if_neg c1
    rw [ha]
    show (_ : ResP) = some (Sum.inl (some (.int (zI (0)))), mk E (uR F 217 (uC (F 217) 5 (zI 1))) G)
    refine into (D := 2) (by omega) hM_259 (rcv_mk rfl (by decide)) rfl fun d hd => ?_
    show runP MP d 259 (0, [some (.ref 217), some (.int (zI x)), some (.int (zI y)), none, none, none], [], _) = _
    rw [q_259_0]; (try simp only [↓n_rd, ↓n_cI, li_0, li_1, li_2, li_5, li_12, li_210, lj_0, lj_1, lj_2, lj_5, lj_12, zJ_add, zJ_sub, zJ_mul, zJ_neg, zJ_l2i, zI_add, zI_sub, zI_mul, zI_neg, ↓Option.bind_some]); simp (disch := (first | assumption | exact tI_rg _ | omega | exact uR_at | exact row_ne hF (by decide) | exact row_ne (row_ne hF (by decide)) (by decide) | exact SnS_18 | exact SnS_30 | exact LdS_44 | exact LdS_46)) only [q_259_29, q_259_89, q_259_105, ↓cc_213t hI, ↓cc_213f hI, ↓cc_219t hI, ↓cc_219f hI, ↓cc_188t, ↓cc_188f, ↓cc_189, zI_i2l, hF, ↓n_rd, ↓n_cI, li_0, li_1, li_2, li_5, li_12, li_210, lj_0, lj_1, lj_2, lj_5, lj_12, zJ_add, zJ_sub, zJ_mul, zJ_neg, zJ_l2i, tJ_zJ, zI_add, zI_sub, zI_mul, zI_neg, ↓Option.bind_some, ↓g12_5, ↓p12_5, zIt2, uR_at, uR_ne, uR_uR, uC_uC, uC_at, ↓reduceIte, decide_eq_true_eq, leT, leF, ltT, ltF, eqT, eqF, ne_eq, not_true_eq_false, not_false_eq_true, Bool.false_eq_true, tI_zI]
def a_beat (K : Int → Int32) (x y : Int) : Int × Int := if 0 ≤ x ∧ x < tI (K 3) then if -1 ≤ y ∧ y ≤ tI (K (170 + 9 * x)) - 1 then (0, if y = -1 then tI (K (206 + x)) else tI (K (171 + 9 * x + y))) else (2, 0) else (1, 0)
theorem cl_beat {d : Nat} {E : EnQ} {F : Nat → Int → Int32} {G : Nat → Int → Int64} {K : Int → Int32} (hO : SnO E F 18 K) {x y : Int} (hx : -2147483648 ≤ x ∧ x ≤ 2147483647) (hy : -2147483648 ≤ y ∧ y ≤ 2147483647) (hd : 3 ≤ d) : ∃ E1, (E1 = E ∨ E1 = jE E) ∧ callP MP d 134 [.ref 16, .int (zI x), .int (zI y)] (mk E F G) = some (thrP [0, 2] (a_beat K x y), mk E1 F G) := by
  have hO' := hO
  obtain ⟨hS, hP, hR, hN, hI⟩ := hO
  have hs := hS.1
  have hs2 := hP.1
  have hA := hI.1
  obtain ⟨b0, b1, b2, b3, b4, b5, b6, b7, b8, b9⟩ := hI.1
  have e18 := bO hN
  by_cases c1 : 0 ≤ x ∧ x < tI (K 3)
  · by_cases c2 : -1 ≤ y ∧ y ≤ tI (K (170 + 9 * x)) - 1
    · have ha : a_beat K x y = (0, if y = -1 then tI (K (206 + x)) else tI (K (171 + 9 * x + y))) := (if_pos c1).trans ((if_pos c2).trans (rfl))
      refine ⟨E, Or.inl rfl, ?_⟩
      rw [show thrP [0, 2] (a_beat K x y) = Sum.inl (some (.int (zI (if y = -1 then tI (K (206 + x)) else tI (K (171 + 9 * x + y)))))) by rw [ha]; rfl]
      refine into (D := 2) (by omega) hM_134 (rcv_mk rfl (by decide)) rfl fun d hd => ?_
      show runP MP d 134 (0, [some (.ref 16), some (.int (zI x)), some (.int (zI y))], [], _) = _
      have hB := hI.2.2.1 x c1.1 (by omega)
      have e4 : F (rfQ E 18 0 + 4) x = K (170 + 9 * x) := hR.2.2.2.1 x c1.1 (by omega)
      have e11 : F (18 + 11) x = K (206 + x) := (hN.2.2.2.2 x c1.1 (by omega)).2.2
      obtain ⟨g1, g2, g3, g4, g5, g6⟩ := hB
      by_cases y0 : y = -1
      · rw [if_pos y0]; rw [q_134_0]; (try simp only [↓n_al, ↓n_cI, li_0, li_1, li_2, li_4, li_5, li_9, li_124, li_129, li_134, zI_add, zI_sub, zI_mul, zI_neg, ↓Option.bind_some]); simp (disch := (first | assumption | exact tI_rg _ | omega | exact uR_at | exact row_ne hF (by decide) | exact row_ne (row_ne hF (by decide)) (by decide) | exact SnS_18 | exact SnS_30 | exact LdS_44 | exact LdS_46)) only [↓cc_127t hO', ↓cc_127f hO', ↓cc_129t hO', ↓cc_129f hO', ↓cc_124t, ↓cc_124f, thr_eq, e11, ↓n_al, ↓n_cI, li_0, li_1, li_2, li_4, li_5, li_9, li_124, li_129, li_134, zI_add, zI_sub, zI_mul, zI_neg, ↓Option.bind_some, ↓g5_9, ↓SnS_l11, ↓SnS_s11, ↓g5_0, ↓g2_11, ↓PlS_l4, ↓PlS_s4, ↓g11_4, zIt2, uR_at, uR_ne, uR_uR, uC_uC, uC_at, ↓reduceIte, decide_eq_true_eq, leT, leF, ltT, ltF, eqT, eqF, ne_eq, not_true_eq_false, not_false_eq_true, Bool.false_eq_true, tI_zI]
      · rw [if_neg y0]; rw [q_134_0]; (try simp only [↓n_al, ↓n_cI, li_0, li_1, li_2, li_4, li_5, li_9, li_124, li_129, li_134, zI_add, zI_sub, zI_mul, zI_neg, ↓Option.bind_some]); simp (disch := (first | assumption | exact tI_rg _ | omega | exact uR_at | exact row_ne hF (by decide) | exact row_ne (row_ne hF (by decide)) (by decide) | exact SnS_18 | exact SnS_30 | exact LdS_44 | exact LdS_46)) only [↓cc_127t hO', ↓cc_127f hO', ↓cc_129t hO', ↓cc_129f hO', ↓cc_124t, ↓cc_124f, thr_eq, e4, ↓cc_33 hR hI, ↓n_al, ↓n_cI, li_0, li_1, li_2, li_4, li_5, li_9, li_124, li_129, li_134, zI_add, zI_sub, zI_mul, zI_neg, ↓Option.bind_some, ↓g5_9, ↓SnS_l11, ↓SnS_s11, ↓g5_0, ↓g2_11, ↓PlS_l4, ↓PlS_s4, ↓g11_4, zIt2, uR_at, uR_ne, uR_uR, uC_uC, uC_at, ↓reduceIte, decide_eq_true_eq, leT, leF, ltT, ltF, eqT, eqF, ne_eq, not_true_eq_false, not_false_eq_true, Bool.false_eq_true, tI_zI]
    · have ha : a_beat K x y = (2, 0) := (if_pos c1).trans (if_neg c2)
      refine ⟨jE E, Or.inr rfl, ?_⟩
      rw [show thrP [0, 2] (a_beat K x y) = Sum.inr 2 by rw [ha]; rfl]
      refine into (D := 2) (by omega) hM_134 (rcv_mk rfl (by decide)) rfl fun d hd => ?_
      show runP MP d 134 (0, [some (.ref 16), some (.int (zI x)), some (.int (zI y))], [], _) = _
      have hB := hI.2.2.1 x c1.1 (by omega)
      have e4 : F (rfQ E 18 0 + 4) x = K (170 + 9 * x) := hR.2.2.2.1 x c1.1 (by omega)
      obtain ⟨g1, g2, g3, g4, g5, g6⟩ := hB
      rw [q_134_0]; (try simp only [↓n_al, ↓n_cI, li_0, li_1, li_2, li_4, li_5, li_9, li_124, li_129, li_134, zI_add, zI_sub, zI_mul, zI_neg, ↓Option.bind_some]); simp (disch := (first | assumption | exact tI_rg _ | omega | exact uR_at | exact row_ne hF (by decide) | exact row_ne (row_ne hF (by decide)) (by decide) | exact SnS_18 | exact SnS_30 | exact LdS_44 | exact LdS_46)) only [↓cc_127t hO', ↓cc_127f hO', ↓cc_129t hO', ↓cc_129f hO', ↓cc_124t, ↓cc_124f, thr_eq, e4, ↓n_al, ↓n_cI, li_0, li_1, li_2, li_4, li_5, li_9, li_124, li_129, li_134, zI_add, zI_sub, zI_mul, zI_neg, ↓Option.bind_some, ↓g5_9, ↓SnS_l11, ↓SnS_s11, ↓g5_0, ↓g2_11, ↓PlS_l4, ↓PlS_s4, ↓g11_4, zIt2, uR_at, uR_ne, uR_uR, uC_uC, uC_at, ↓reduceIte, decide_eq_true_eq, leT, leF, ltT, ltF, eqT, eqF, ne_eq, not_true_eq_false, not_false_eq_true, Bool.false_eq_true, tI_zI]
  · have ha : a_beat K x y = (1, 0) := if_neg c1
    refine ⟨jE E, Or.inr rfl, ?_⟩
    rw [show thrP [0, 2] (a_beat K x y) = Sum.inr 0 by rw [ha]; rfl]
    refine into (D := 2) (by omega) hM_134 (rcv_mk rfl (by decide)) rfl fun d hd => ?_
    show runP MP d 134 (0, [some (.ref 16), some (.int (zI x)), some (.int (zI y))], [], _) = _
    rw [q_134_0]; (try simp only [↓n_al, ↓n_cI, li_0, li_1, li_2, li_4, li_5, li_9, li_124, li_129, li_134, zI_add, zI_sub, zI_mul, zI_neg, ↓Option.bind_some]); simp (disch := (first | assumption | exact tI_rg _ | omega | exact uR_at | exact row_ne hF (by decide) | exact row_ne (row_ne hF (by decide)) (by decide) | exact SnS_18 | exact SnS_30 | exact LdS_44 | exact LdS_46)) only [↓cc_127t hO', ↓cc_127f hO', ↓cc_129t hO', ↓cc_129f hO', ↓cc_124t, ↓cc_124f, thr_eq, ↓n_al, ↓n_cI, li_0, li_1, li_2, li_4, li_5, li_9, li_124, li_129, li_134, zI_add, zI_sub, zI_mul, zI_neg, ↓Option.bind_some, ↓g5_9, ↓SnS_l11, ↓SnS_s11, ↓g5_0, ↓g2_11, ↓PlS_l4, ↓PlS_s4, ↓g11_4, zIt2, uR_at, uR_ne, uR_uR, uC_uC, uC_at, ↓reduceIte, decide_eq_true_eq, leT, leF, ltT, ltF, eqT, eqF, ne_eq, not_true_eq_false, not_false_eq_true, Bool.false_eq_true, tI_zI]
theorem ml_beat {d : Nat} {E : EnQ} {F : Nat → Int → Int32} {G : Nat → Int → Int64} {K : Int → Int32} (hI : InvK K) (hF : F 218 = K) {x y : Int} (hx : -2147483648 ≤ x ∧ x ≤ 2147483647) (hy : -2147483648 ≤ y ∧ y ≤ 2147483647) (hd : 3 ≤ d) : callP MP d 269 [.ref 217, .int (zI x), .int (zI y)] (mk E F G) = some (Sum.inl (some (.int (zI ((a_beat K x y).2)))), mk E (uR F 217 (uC (F 217) 5 (zI (a_beat K x y).1))) G) := by
  have hA := hI.1
  obtain ⟨b0, b1, b2, b3, b4, b5, b6, b7, b8, b9⟩ := hI.1
  by_cases c1 : 0 ≤ x ∧ x < tI (K 3)
  · by_cases c2 : -1 ≤ y ∧ y ≤ tI (K (170 + 9 * x)) - 1
    · have ha : a_beat K x y = (0, if y = -1 then tI (K (206 + x)) else tI (K (171 + 9 * x + y))) := (if_pos c1).trans ((if_pos c2).trans (rfl))
      rw [ha]
      show (_ : ResP) = some (Sum.inl (some (.int (zI (if y = -1 then tI (K (206 + x)) else tI (K (171 + 9 * x + y)))))), mk E (uR F 217 (uC (F 217) 5 (zI 0))) G)
      refine into (D := 2) (by omega) hM_269 (rcv_mk rfl (by decide)) rfl fun d hd => ?_
      show runP MP d 269 (0, [some (.ref 217), some (.int (zI x)), some (.int (zI y))], [], _) = _
      have hB := hI.2.2.1 x c1.1 (by omega)
      obtain ⟨g1, g2, g3, g4, g5, g6⟩ := hB
      have e171 : 170 + 9 * x + 1 + y = 171 + 9 * x + y := by omega
      by_cases y0 : y = -1
      · rw [if_pos y0]; rw [q_269_0]; (try simp only [↓n_rd, ↓n_al, ↓n_cI, li_0, li_1, li_2, li_5, li_9, li_12, li_38, li_170, li_206, lj_0, lj_1, lj_2, lj_5, lj_9, lj_12, zJ_add, zJ_sub, zJ_mul, zJ_neg, zJ_l2i, zI_add, zI_sub, zI_mul, zI_neg, ↓Option.bind_some]); simp (disch := (first | assumption | exact tI_rg _ | omega | exact uR_at | exact row_ne hF (by decide) | exact row_ne (row_ne hF (by decide)) (by decide) | exact SnS_18 | exact SnS_30 | exact LdS_44 | exact LdS_46)) only [q_269_38, q_269_85, ↓cc_213t hI, ↓cc_213f hI, ↓cc_219t hI, ↓cc_219f hI, ↓cc_188t, ↓cc_188f, ↓cc_189, zI_i2l, hF, ↓cc_268 hI, ↓n_rd, ↓n_al, ↓n_cI, li_0, li_1, li_2, li_5, li_9, li_12, li_38, li_170, li_206, lj_0, lj_1, lj_2, lj_5, lj_9, lj_12, zJ_add, zJ_sub, zJ_mul, zJ_neg, zJ_l2i, tJ_zJ, zI_add, zI_sub, zI_mul, zI_neg, ↓Option.bind_some, ↓g12_5, ↓g12_0, ↓p12_5, ↓al_218, ↓as_218, zIt2, uR_at, uR_ne, uR_uR, uC_uC, uC_at, ↓reduceIte, decide_eq_true_eq, leT, leF, ltT, ltF, eqT, eqF, ne_eq, not_true_eq_false, not_false_eq_true, Bool.false_eq_true, tI_zI]
      · rw [if_neg y0]; rw [q_269_0]; (try simp only [↓n_rd, ↓n_al, ↓n_cI, li_0, li_1, li_2, li_5, li_9, li_12, li_38, li_170, li_206, lj_0, lj_1, lj_2, lj_5, lj_9, lj_12, zJ_add, zJ_sub, zJ_mul, zJ_neg, zJ_l2i, zI_add, zI_sub, zI_mul, zI_neg, ↓Option.bind_some]); simp (disch := (first | assumption | exact tI_rg _ | omega | exact uR_at | exact row_ne hF (by decide) | exact row_ne (row_ne hF (by decide)) (by decide) | exact SnS_18 | exact SnS_30 | exact LdS_44 | exact LdS_46)) only [q_269_38, q_269_85, ↓cc_213t hI, ↓cc_213f hI, ↓cc_219t hI, ↓cc_219f hI, ↓cc_188t, ↓cc_188f, ↓cc_189, zI_i2l, hF, ↓cc_268 hI, e171, ↓n_rd, ↓n_al, ↓n_cI, li_0, li_1, li_2, li_5, li_9, li_12, li_38, li_170, li_206, lj_0, lj_1, lj_2, lj_5, lj_9, lj_12, zJ_add, zJ_sub, zJ_mul, zJ_neg, zJ_l2i, tJ_zJ, zI_add, zI_sub, zI_mul, zI_neg, ↓Option.bind_some, ↓g12_5, ↓g12_0, ↓p12_5, ↓al_218, ↓as_218, zIt2, uR_at, uR_ne, uR_uR, uC_uC, uC_at, ↓reduceIte, decide_eq_true_eq, leT, leF, ltT, ltF, eqT, eqF, ne_eq, not_true_eq_false, not_false_eq_true, Bool.false_eq_true, tI_zI]
    · have ha : a_beat K x y = (2, 0) := (if_pos c1).trans (if_neg c2)
      rw [ha]
      show (_ : ResP) = some (Sum.inl (some (.int (zI (0)))), mk E (uR F 217 (uC (F 217) 5 (zI 2))) G)
      refine into (D := 2) (by omega) hM_269 (rcv_mk rfl (by decide)) rfl fun d hd => ?_
      show runP MP d 269 (0, [some (.ref 217), some (.int (zI x)), some (.int (zI y))], [], _) = _
      have hB := hI.2.2.1 x c1.1 (by omega)
      obtain ⟨g1, g2, g3, g4, g5, g6⟩ := hB
      rw [q_269_0]; (try simp only [↓n_rd, ↓n_al, ↓n_cI, li_0, li_1, li_2, li_5, li_9, li_12, li_38, li_170, li_206, lj_0, lj_1, lj_2, lj_5, lj_9, lj_12, zJ_add, zJ_sub, zJ_mul, zJ_neg, zJ_l2i, zI_add, zI_sub, zI_mul, zI_neg, ↓Option.bind_some]); simp (disch := (first | assumption | exact tI_rg _ | omega | exact uR_at | exact row_ne hF (by decide) | exact row_ne (row_ne hF (by decide)) (by decide) | exact SnS_18 | exact SnS_30 | exact LdS_44 | exact LdS_46)) only [q_269_38, q_269_85, ↓cc_213t hI, ↓cc_213f hI, ↓cc_219t hI, ↓cc_219f hI, ↓cc_188t, ↓cc_188f, ↓cc_189, zI_i2l, hF, ↓cc_268 hI, ↓n_rd, ↓n_al, ↓n_cI, li_0, li_1, li_2, li_5, li_9, li_12, li_38, li_170, li_206, lj_0, lj_1, lj_2, lj_5, lj_9, lj_12, zJ_add, zJ_sub, zJ_mul, zJ_neg, zJ_l2i, tJ_zJ, zI_add, zI_sub, zI_mul, zI_neg, ↓Option.bind_some, ↓g12_5, ↓g12_0, ↓p12_5, ↓al_218, ↓as_218, zIt2, uR_at, uR_ne, uR_uR, uC_uC, uC_at, ↓reduceIte, decide_eq_true_eq, leT, leF, ltT, ltF, eqT, eqF, ne_eq, not_true_eq_false, not_false_eq_true, Bool.false_eq_true, tI_zI]
  · have ha : a_beat K x y = (1, 0) := if_neg c1
    rw [ha]
    show (_ : ResP) = some (Sum.inl (some (.int (zI (0)))), mk E (uR F 217 (uC (F 217) 5 (zI 1))) G)
    refine into (D := 2) (by omega) hM_269 (rcv_mk rfl (by decide)) rfl fun d hd => ?_
    show runP MP d 269 (0, [some (.ref 217), some (.int (zI x)), some (.int (zI y))], [], _) = _
    rw [q_269_0]; (try simp only [↓n_rd, ↓n_al, ↓n_cI, li_0, li_1, li_2, li_5, li_9, li_12, li_38, li_170, li_206, lj_0, lj_1, lj_2, lj_5, lj_9, lj_12, zJ_add, zJ_sub, zJ_mul, zJ_neg, zJ_l2i, zI_add, zI_sub, zI_mul, zI_neg, ↓Option.bind_some]); simp (disch := (first | assumption | exact tI_rg _ | omega | exact uR_at | exact row_ne hF (by decide) | exact row_ne (row_ne hF (by decide)) (by decide) | exact SnS_18 | exact SnS_30 | exact LdS_44 | exact LdS_46)) only [q_269_38, q_269_85, ↓cc_213t hI, ↓cc_213f hI, ↓cc_219t hI, ↓cc_219f hI, ↓cc_188t, ↓cc_188f, ↓cc_189, zI_i2l, ↓n_rd, ↓n_al, ↓n_cI, li_0, li_1, li_2, li_5, li_9, li_12, li_38, li_170, li_206, lj_0, lj_1, lj_2, lj_5, lj_9, lj_12, zJ_add, zJ_sub, zJ_mul, zJ_neg, zJ_l2i, tJ_zJ, zI_add, zI_sub, zI_mul, zI_neg, ↓Option.bind_some, ↓g12_5, ↓g12_0, ↓p12_5, ↓al_218, ↓as_218, zIt2, uR_at, uR_ne, uR_uR, uC_uC, uC_at, ↓reduceIte, decide_eq_true_eq, leT, leF, ltT, ltF, eqT, eqF, ne_eq, not_true_eq_false, not_false_eq_true, Bool.false_eq_true, tI_zI]
theorem fr_same {K : Int → Int32} {x g f : Int} (h : ∀ k : Nat, (k : Int) < tI (K 5) → (f ≤ k ↔ g ≤ k)) : cntN (frO K x f) (tI (K 5)).toNat = cntN (frO K x g) (tI (K 5)).toNat := cntN_congr fun j hj => by
  unfold frO
  rw [show decide (f ≤ (j : Int)) = decide (g ≤ (j : Int)) from decide_eq_decide.mpr (h j (by omega))]
theorem minJ {a b : Int} (h : -9223372036854775808 ≤ a ∧ a ≤ 9223372036854775807 ∧ -9223372036854775808 ≤ b ∧ b ≤ 9223372036854775807) : (if zJ a < zJ b then zJ a else zJ b) = zJ (if a < b then a else b) := by
  have e : (zJ a < zJ b) = (a < b) := by
    rw [Int64.lt_iff_toInt_lt]; show (tJ (zJ a) < tJ (zJ b)) = _; rw [tJ_zJ (by omega), tJ_zJ (by omega)]
  by_cases g : a < b
  · rw [if_pos g, if_pos (by rw [e]; exact g)]
  · rw [if_neg g, if_neg (by rw [e]; exact g)]
theorem maxJ {a b : Int} (h : -9223372036854775808 ≤ a ∧ a ≤ 9223372036854775807 ∧ -9223372036854775808 ≤ b ∧ b ≤ 9223372036854775807) : (if zJ a < zJ b then zJ b else zJ a) = zJ (if a < b then b else a) := by
  have e : (zJ a < zJ b) = (a < b) := by
    rw [Int64.lt_iff_toInt_lt]; show (tJ (zJ a) < tJ (zJ b)) = _; rw [tJ_zJ (by omega), tJ_zJ (by omega)]
  by_cases g : a < b
  · rw [if_pos g, if_pos (by rw [e]; exact g)]
  · rw [if_neg g, if_neg (by rw [e]; exact g)]
theorem maxJ2 {a b : Int} (h : -9223372036854775808 ≤ a ∧ a ≤ 9223372036854775807 ∧ -9223372036854775808 ≤ b ∧ b ≤ 9223372036854775807) : (if zJ a < zJ b then zJ b else zJ a) = zJ (if a < b then b else a) := maxJ h
def a_remains (K : Int → Int32) (x y : Int) : Int × Int := if 0 ≤ x ∧ x < tI (K 3) then if 0 ≤ y then (0, cntN (frO K x (tI (K 5) + y - tI (K 4))) (tI (K 5)).toNat) else (2, 0) else (1, 0)
theorem cl_remains {d : Nat} {E : EnQ} {F : Nat → Int → Int32} {G : Nat → Int → Int64} {K : Int → Int32} (hO : SnO E F 18 K) {x y : Int} (hx : -2147483648 ≤ x ∧ x ≤ 2147483647) (hy : -2147483648 ≤ y ∧ y ≤ 2147483647) (hd : 4 ≤ d) : ∃ E1, (E1 = E ∨ E1 = jE E) ∧ callP MP d 150 [.ref 16, .int (zI x), .int (zI y)] (mk E F G) = some (thrP [0, 2] (a_remains K x y), mk E1 F G) := by
  have hO' := hO
  obtain ⟨hS, hP, hR, hN, hI⟩ := hO
  have hs := hS.1
  have hs2 := hP.1
  have hA := hI.1
  obtain ⟨b0, b1, b2, b3, b4, b5, b6, b7, b8, b9⟩ := hI.1
  have e18 := bO hN
  by_cases c1 : 0 ≤ x ∧ x < tI (K 3)
  · by_cases c2 : 0 ≤ y
    · have ha : a_remains K x y = (0, cntN (frO K x (tI (K 5) + y - tI (K 4))) (tI (K 5)).toNat) := (if_pos c1).trans ((if_pos c2).trans (rfl))
      refine ⟨E, Or.inl rfl, ?_⟩
      rw [show thrP [0, 2] (a_remains K x y) = Sum.inl (some (.int (zI (cntN (frO K x (tI (K 5) + y - tI (K 4))) (tI (K 5)).toNat)))) by rw [ha]; rfl]
      refine into (D := 3) (by omega) hM_150 (rcv_mk rfl (by decide)) rfl fun d hd => ?_
      show runP MP d 150 (0, [some (.ref 16), some (.int (zI x)), some (.int (zI y)), none, none], [], _) = _
      have e17 : tI (F 18 1) = tI (K 4) := by rw [hN.1.1]
      obtain ⟨g, hg⟩ : ∃ g : Int, g = (if (if tI (K 5) < tI (K 5) + y - tI (K 4) then tI (K 5) else tI (K 5) + y - tI (K 4)) < 0 then 0 else (if tI (K 5) < tI (K 5) + y - tI (K 4) then tI (K 5) else tI (K 5) + y - tI (K 4))) := ⟨_, rfl⟩
      have hgr : 0 ≤ g ∧ g ≤ tI (K 5) := by
        rw [hg]; split <;> split <;> (try split) <;> omega
      have hgs : ∀ k : Nat, (k : Int) < tI (K 5) → (g ≤ k ↔ tI (K 5) + y - tI (K 4) ≤ k) := by
        intro k hk
        rw [hg]; split <;> split <;> (try split) <;> omega
      rw [← fr_same hgs]
      have hm : (if zJ (tI (K 5)) < zJ (tI (K 5) + y - tI (K 4)) then zJ (tI (K 5)) else zJ (tI (K 5) + y - tI (K 4))) = zJ (if tI (K 5) < tI (K 5) + y - tI (K 4) then tI (K 5) else tI (K 5) + y - tI (K 4)) := minJ (by omega)
      have hM : (if zJ (if tI (K 5) < tI (K 5) + y - tI (K 4) then tI (K 5) else tI (K 5) + y - tI (K 4)) < zJ 0 then zJ 0 else zJ (if tI (K 5) < tI (K 5) + y - tI (K 4) then tI (K 5) else tI (K 5) + y - tI (K 4))) = zJ g := by
        rw [hg]; exact maxJ (by split <;> omega)
      rw [q_150_0]
      simp (disch := (first | assumption | exact tI_rg _ | omega)) only [↓n_rd, ↓n_cI, li_0, lj_0, zI_i2l, zJ_add, zJ_sub, zJ_l2i, ↓Option.bind_some, ↓cc_129t hO', ↓g11_4, ↓g5_1, ↓g5_2, ↓reduceIte, decide_eq_true_eq, leT, e17, e18, hm, hM]
      simp (disch := (first | assumption | exact tI_rg _ | omega)) only [zJ_l2i, hm, hM, ↓cc_69 hO', e17, e18, zI_i2l, zJ_add, zJ_sub, ↓Option.bind_some, ↓n_cI]
    · have ha : a_remains K x y = (2, 0) := (if_pos c1).trans (if_neg c2)
      refine ⟨jE E, Or.inr rfl, ?_⟩
      rw [show thrP [0, 2] (a_remains K x y) = Sum.inr 2 by rw [ha]; rfl]
      refine into (D := 3) (by omega) hM_150 (rcv_mk rfl (by decide)) rfl fun d hd => ?_
      show runP MP d 150 (0, [some (.ref 16), some (.int (zI x)), some (.int (zI y)), none, none], [], _) = _
      rw [q_150_0]; (try simp only [↓n_rd, ↓n_cI, li_0, li_1, li_2, li_4, li_5, li_6, li_129, lj_0, lj_1, lj_2, lj_4, lj_5, lj_6, zJ_add, zJ_sub, zJ_mul, zJ_neg, zJ_l2i, zI_add, zI_sub, zI_mul, zI_neg, ↓Option.bind_some]); simp (disch := (first | assumption | exact tI_rg _ | omega | exact uR_at | exact row_ne hF (by decide) | exact row_ne (row_ne hF (by decide)) (by decide) | exact SnS_18 | exact SnS_30 | exact LdS_44 | exact LdS_46)) only [↓cc_127t hO', ↓cc_127f hO', ↓cc_129t hO', ↓cc_129f hO', ↓cc_124t, ↓cc_124f, thr_eq, ↓n_rd, ↓n_cI, jnk_mk, li_0, li_1, li_2, li_4, li_5, li_6, li_129, lj_0, lj_1, lj_2, lj_4, lj_5, lj_6, zJ_add, zJ_sub, zJ_mul, zJ_neg, zJ_l2i, tJ_zJ, zI_add, zI_sub, zI_mul, zI_neg, ↓Option.bind_some, ↓g5_2, ↓g11_4, ↓g5_1, zIt2, uR_at, uR_ne, uR_uR, uC_uC, uC_at, ↓reduceIte, decide_eq_true_eq, leT, leF, ltT, ltF, eqT, eqF, ne_eq, not_true_eq_false, not_false_eq_true, Bool.false_eq_true, tI_zI]
  · have ha : a_remains K x y = (1, 0) := if_neg c1
    refine ⟨jE E, Or.inr rfl, ?_⟩
    rw [show thrP [0, 2] (a_remains K x y) = Sum.inr 0 by rw [ha]; rfl]
    refine into (D := 3) (by omega) hM_150 (rcv_mk rfl (by decide)) rfl fun d hd => ?_
    show runP MP d 150 (0, [some (.ref 16), some (.int (zI x)), some (.int (zI y)), none, none], [], _) = _
    rw [q_150_0]; (try simp only [↓n_rd, ↓n_cI, li_0, li_1, li_2, li_4, li_5, li_6, li_129, lj_0, lj_1, lj_2, lj_4, lj_5, lj_6, zJ_add, zJ_sub, zJ_mul, zJ_neg, zJ_l2i, zI_add, zI_sub, zI_mul, zI_neg, ↓Option.bind_some]); simp (disch := (first | assumption | exact tI_rg _ | omega | exact uR_at | exact row_ne hF (by decide) | exact row_ne (row_ne hF (by decide)) (by decide) | exact SnS_18 | exact SnS_30 | exact LdS_44 | exact LdS_46)) only [↓cc_127t hO', ↓cc_127f hO', ↓cc_129t hO', ↓cc_129f hO', ↓cc_124t, ↓cc_124f, thr_eq, ↓n_rd, ↓n_cI, jnk_mk, li_0, li_1, li_2, li_4, li_5, li_6, li_129, lj_0, lj_1, lj_2, lj_4, lj_5, lj_6, zJ_add, zJ_sub, zJ_mul, zJ_neg, zJ_l2i, tJ_zJ, zI_add, zI_sub, zI_mul, zI_neg, ↓Option.bind_some, ↓g5_2, ↓g11_4, ↓g5_1, zIt2, uR_at, uR_ne, uR_uR, uC_uC, uC_at, ↓reduceIte, decide_eq_true_eq, leT, leF, ltT, ltF, eqT, eqF, ne_eq, not_true_eq_false, not_false_eq_true, Bool.false_eq_true, tI_zI]
theorem ml_remains {d : Nat} {E : EnQ} {F : Nat → Int → Int32} {G : Nat → Int → Int64} {K : Int → Int32} (hI : InvK K) (hF : F 218 = K) {x y : Int} (hx : -2147483648 ≤ x ∧ x ≤ 2147483647) (hy : -2147483648 ≤ y ∧ y ≤ 2147483647) (hd : 3 ≤ d) : callP MP d 258 [.ref 217, .int (zI x), .int (zI y)] (mk E F G) = some (Sum.inl (some (.int (zI ((a_remains K x y).2)))), mk E (uR F 217 (uC (F 217) 5 (zI (a_remains K x y).1))) G) := by
  have hA := hI.1
  obtain ⟨b0, b1, b2, b3, b4, b5, b6, b7, b8, b9⟩ := hI.1
  by_cases c1 : 0 ≤ x ∧ x < tI (K 3)
  · by_cases c2 : 0 ≤ y
    · have ha : a_remains K x y = (0, cntN (frO K x (tI (K 5) + y - tI (K 4))) (tI (K 5)).toNat) := (if_pos c1).trans ((if_pos c2).trans (rfl))
      rw [ha]
      show (_ : ResP) = some (Sum.inl (some (.int (zI (cntN (frO K x (tI (K 5) + y - tI (K 4))) (tI (K 5)).toNat)))), mk E (uR F 217 (uC (F 217) 5 (zI 0))) G)
      refine into (D := 2) (by omega) hM_258 (rcv_mk rfl (by decide)) rfl fun d hd => ?_
      show runP MP d 258 (0, [some (.ref 217), some (.int (zI x)), some (.int (zI y)), none, none], [], _) = _
      have hl : runP MP d 258 (40, [some (.ref 217), some (.int (zI x)), some (.int (zI y)), some (.int (zI 0)), some (.int (zI 0))], [], mk E (uR F 217 (uC (F 217) 5 (zI 0))) G) = runP MP d 258 (40, [some (.ref 217), some (.int (zI x)), some (.int (zI y)), some (.int (zI (cntN (frO K x (tI (K 5) + y - tI (K 4))) (tI (K 5)).toNat))), some (.int (zI (((tI (K 5)).toNat : Nat) : Int)))], [], mk E (uR F 217 (uC (F 217) 5 (zI 0))) G) := loopN (fun j : Nat => runP MP d 258 (40, [some (.ref 217), some (.int (zI x)), some (.int (zI y)), some (.int (zI (cntN (frO K x (tI (K 5) + y - tI (K 4))) j))), some (.int (zI (j : Int)))], [], mk E (uR F 217 (uC (F 217) 5 (zI 0))) G)) (tI (K 5)).toNat (fun j hj => by
        show runP MP d 258 _ = runP MP d 258 _
        have hc := cntN_rg (frO K x (tI (K 5) + y - tI (K 4))) j
        have hr := tI_rg (K (47 + 2 * (j : Int)))
        have hr2 : -2147483648 ≤ prO K (j : Int) ∧ prO K (j : Int) ≤ 2147483647 := hr
        by_cases h : prO K (j : Int) = x
        · by_cases g : tI (K 5) + y - tI (K 4) ≤ (j : Int)
          · rw [cntN_pos (by unfold frO; rw [Bool.and_eq_true]; exact ⟨decide_eq_true g, beq_iff_eq.mpr h⟩), nsucc]
            have g2 : ¬ (j : Int) < tI (K 5) + y - tI (K 4) := by omega
            rw [q_258_40]; (try simp only [↓n_rd, ↓n_al, ↓n_cI, li_0, li_1, li_2, li_4, li_5, li_12, li_210, lj_0, lj_1, lj_2, lj_4, lj_5, lj_12, zJ_add, zJ_sub, zJ_mul, zJ_neg, zJ_l2i, zI_add, zI_sub, zI_mul, zI_neg, ↓Option.bind_some]); simp (disch := (first | assumption | exact tI_rg _ | omega | exact uR_at | exact row_ne hF (by decide) | exact row_ne (row_ne hF (by decide)) (by decide) | exact SnS_18 | exact SnS_30 | exact LdS_44 | exact LdS_46)) only [q_258_0, q_258_23, q_258_87, q_258_88, ↓cc_210 hI, ↓cc_221 hI, hF, zI_i2l, cmpJ_lt, g2, ↓n_rd, ↓n_al, ↓n_cI, li_0, li_1, li_2, li_4, li_5, li_12, li_210, lj_0, lj_1, lj_2, lj_4, lj_5, lj_12, zJ_add, zJ_sub, zJ_mul, zJ_neg, zJ_l2i, tJ_zJ, zI_add, zI_sub, zI_mul, zI_neg, ↓Option.bind_some, ↓g12_5, ↓g12_0, ↓p12_5, ↓al_218, ↓as_218, zIt2, uR_at, uR_ne, uR_uR, uC_uC, uC_at, ↓reduceIte, decide_eq_true_eq, leT, leF, ltT, ltF, eqT, eqF, ne_eq, not_true_eq_false, not_false_eq_true, Bool.false_eq_true, tI_zI]
          · rw [cntN_neg (by unfold frO; rw [Bool.and_eq_true]; exact fun z => g (of_decide_eq_true z.1)), nsucc]
            have g2 : (j : Int) < tI (K 5) + y - tI (K 4) := by omega
            rw [q_258_40]; (try simp only [↓n_rd, ↓n_al, ↓n_cI, li_0, li_1, li_2, li_4, li_5, li_12, li_210, lj_0, lj_1, lj_2, lj_4, lj_5, lj_12, zJ_add, zJ_sub, zJ_mul, zJ_neg, zJ_l2i, zI_add, zI_sub, zI_mul, zI_neg, ↓Option.bind_some]); simp (disch := (first | assumption | exact tI_rg _ | omega | exact uR_at | exact row_ne hF (by decide) | exact row_ne (row_ne hF (by decide)) (by decide) | exact SnS_18 | exact SnS_30 | exact LdS_44 | exact LdS_46)) only [q_258_0, q_258_23, q_258_87, q_258_88, ↓cc_210 hI, ↓cc_221 hI, hF, zI_i2l, cmpJ_lt, g2, Int.add_zero, ↓n_rd, ↓n_al, ↓n_cI, li_0, li_1, li_2, li_4, li_5, li_12, li_210, lj_0, lj_1, lj_2, lj_4, lj_5, lj_12, zJ_add, zJ_sub, zJ_mul, zJ_neg, zJ_l2i, tJ_zJ, zI_add, zI_sub, zI_mul, zI_neg, ↓Option.bind_some, ↓g12_5, ↓g12_0, ↓p12_5, ↓al_218, ↓as_218, zIt2, uR_at, uR_ne, uR_uR, uC_uC, uC_at, ↓reduceIte, decide_eq_true_eq, leT, leF, ltT, ltF, eqT, eqF, ne_eq, not_true_eq_false, not_false_eq_true, Bool.false_eq_true, tI_zI]
        · rw [cntN_neg (by unfold frO; rw [Bool.and_eq_true]; exact fun z => h (beq_iff_eq.mp z.2)), nsucc]
          rw [q_258_40]; (try simp only [↓n_rd, ↓n_al, ↓n_cI, li_0, li_1, li_2, li_4, li_5, li_12, li_210, lj_0, lj_1, lj_2, lj_4, lj_5, lj_12, zJ_add, zJ_sub, zJ_mul, zJ_neg, zJ_l2i, zI_add, zI_sub, zI_mul, zI_neg, ↓Option.bind_some]); simp (disch := (first | assumption | exact tI_rg _ | omega | exact uR_at | exact row_ne hF (by decide) | exact row_ne (row_ne hF (by decide)) (by decide) | exact SnS_18 | exact SnS_30 | exact LdS_44 | exact LdS_46)) only [q_258_0, q_258_23, q_258_87, q_258_88, ↓cc_210 hI, ↓cc_221 hI, Int.add_zero, ↓n_rd, ↓n_al, ↓n_cI, li_0, li_1, li_2, li_4, li_5, li_12, li_210, lj_0, lj_1, lj_2, lj_4, lj_5, lj_12, zJ_add, zJ_sub, zJ_mul, zJ_neg, zJ_l2i, tJ_zJ, zI_add, zI_sub, zI_mul, zI_neg, ↓Option.bind_some, ↓g12_5, ↓g12_0, ↓p12_5, ↓al_218, ↓as_218, zIt2, uR_at, uR_ne, uR_uR, uC_uC, uC_at, ↓reduceIte, decide_eq_true_eq, leT, leF, ltT, ltF, eqT, eqF, ne_eq, not_true_eq_false, not_false_eq_true, Bool.false_eq_true, tI_zI])
      rw [q_258_0]; (try simp only [↓n_rd, ↓n_al, ↓n_cI, li_0, li_1, li_2, li_4, li_5, li_12, li_210, lj_0, lj_1, lj_2, lj_4, lj_5, lj_12, zJ_add, zJ_sub, zJ_mul, zJ_neg, zJ_l2i, zI_add, zI_sub, zI_mul, zI_neg, ↓Option.bind_some]); simp (disch := (first | assumption | exact tI_rg _ | omega | exact uR_at | exact row_ne hF (by decide) | exact row_ne (row_ne hF (by decide)) (by decide) | exact SnS_18 | exact SnS_30 | exact LdS_44 | exact LdS_46)) only [q_258_23, q_258_87, q_258_88, ↓cc_213t hI, ↓cc_213f hI, ↓cc_219t hI, ↓cc_219f hI, ↓cc_188t, ↓cc_188f, ↓cc_189, zI_i2l, hl, ↓n_rd, ↓n_al, ↓n_cI, li_0, li_1, li_2, li_4, li_5, li_12, li_210, lj_0, lj_1, lj_2, lj_4, lj_5, lj_12, zJ_add, zJ_sub, zJ_mul, zJ_neg, zJ_l2i, tJ_zJ, zI_add, zI_sub, zI_mul, zI_neg, ↓Option.bind_some, ↓g12_5, ↓g12_0, ↓p12_5, ↓al_218, ↓as_218, zIt2, uR_at, uR_ne, uR_uR, uC_uC, uC_at, ↓reduceIte, decide_eq_true_eq, leT, leF, ltT, ltF, eqT, eqF, ne_eq, not_true_eq_false, not_false_eq_true, Bool.false_eq_true, tI_zI]
      rw [q_258_40]; (try simp only [↓n_rd, ↓n_al, ↓n_cI, li_0, li_1, li_2, li_4, li_5, li_12, li_210, lj_0, lj_1, lj_2, lj_4, lj_5, lj_12, zJ_add, zJ_sub, zJ_mul, zJ_neg, zJ_l2i, zI_add, zI_sub, zI_mul, zI_neg, ↓Option.bind_some]); simp (disch := (first | assumption | exact tI_rg _ | omega | exact uR_at | exact row_ne hF (by decide) | exact row_ne (row_ne hF (by decide)) (by decide) | exact SnS_18 | exact SnS_30 | exact LdS_44 | exact LdS_46)) only [q_258_0, q_258_23, q_258_87, q_258_88, ↓cc_210 hI, ↓n_rd, ↓n_al, ↓n_cI, li_0, li_1, li_2, li_4, li_5, li_12, li_210, lj_0, lj_1, lj_2, lj_4, lj_5, lj_12, zJ_add, zJ_sub, zJ_mul, zJ_neg, zJ_l2i, tJ_zJ, zI_add, zI_sub, zI_mul, zI_neg, ↓Option.bind_some, ↓g12_5, ↓g12_0, ↓p12_5, ↓al_218, ↓as_218, zIt2, uR_at, uR_ne, uR_uR, uC_uC, uC_at, ↓reduceIte, decide_eq_true_eq, leT, leF, ltT, ltF, eqT, eqF, ne_eq, not_true_eq_false, not_false_eq_true, Bool.false_eq_true, tI_zI]
    · have ha : a_remains K x y = (2, 0) := (if_pos c1).trans (if_neg c2)
      rw [ha]
      show (_ : ResP) = some (Sum.inl (some (.int (zI (0)))), mk E (uR F 217 (uC (F 217) 5 (zI 2))) G)
      refine into (D := 2) (by omega) hM_258 (rcv_mk rfl (by decide)) rfl fun d hd => ?_
      show runP MP d 258 (0, [some (.ref 217), some (.int (zI x)), some (.int (zI y)), none, none], [], _) = _
      rw [q_258_0]; (try simp only [↓n_rd, ↓n_al, ↓n_cI, li_0, li_1, li_2, li_4, li_5, li_12, li_210, lj_0, lj_1, lj_2, lj_4, lj_5, lj_12, zJ_add, zJ_sub, zJ_mul, zJ_neg, zJ_l2i, zI_add, zI_sub, zI_mul, zI_neg, ↓Option.bind_some]); simp (disch := (first | assumption | exact tI_rg _ | omega | exact uR_at | exact row_ne hF (by decide) | exact row_ne (row_ne hF (by decide)) (by decide) | exact SnS_18 | exact SnS_30 | exact LdS_44 | exact LdS_46)) only [q_258_23, q_258_87, q_258_88, ↓cc_213t hI, ↓cc_213f hI, ↓cc_219t hI, ↓cc_219f hI, ↓cc_188t, ↓cc_188f, ↓cc_189, zI_i2l, hF, ↓n_rd, ↓n_al, ↓n_cI, li_0, li_1, li_2, li_4, li_5, li_12, li_210, lj_0, lj_1, lj_2, lj_4, lj_5, lj_12, zJ_add, zJ_sub, zJ_mul, zJ_neg, zJ_l2i, tJ_zJ, zI_add, zI_sub, zI_mul, zI_neg, ↓Option.bind_some, ↓g12_5, ↓g12_0, ↓p12_5, ↓al_218, ↓as_218, zIt2, uR_at, uR_ne, uR_uR, uC_uC, uC_at, ↓reduceIte, decide_eq_true_eq, leT, leF, ltT, ltF, eqT, eqF, ne_eq, not_true_eq_false, not_false_eq_true, Bool.false_eq_true, tI_zI]
  · have ha : a_remains K x y = (1, 0) := if_neg c1
    rw [ha]
    show (_ : ResP) = some (Sum.inl (some (.int (zI (0)))), mk E (uR F 217 (uC (F 217) 5 (zI 1))) G)
    refine into (D := 2) (by omega) hM_258 (rcv_mk rfl (by decide)) rfl fun d hd => ?_
    show runP MP d 258 (0, [some (.ref 217), some (.int (zI x)), some (.int (zI y)), none, none], [], _) = _
    rw [q_258_0]; (try simp only [↓n_rd, ↓n_al, ↓n_cI, li_0, li_1, li_2, li_4, li_5, li_12, li_210, lj_0, lj_1, lj_2, lj_4, lj_5, lj_12, zJ_add, zJ_sub, zJ_mul, zJ_neg, zJ_l2i, zI_add, zI_sub, zI_mul, zI_neg, ↓Option.bind_some]); simp (disch := (first | assumption | exact tI_rg _ | omega | exact uR_at | exact row_ne hF (by decide) | exact row_ne (row_ne hF (by decide)) (by decide) | exact SnS_18 | exact SnS_30 | exact LdS_44 | exact LdS_46)) only [q_258_23, q_258_87, q_258_88, ↓cc_213t hI, ↓cc_213f hI, ↓cc_219t hI, ↓cc_219f hI, ↓cc_188t, ↓cc_188f, ↓cc_189, zI_i2l, hF, ↓n_rd, ↓n_al, ↓n_cI, li_0, li_1, li_2, li_4, li_5, li_12, li_210, lj_0, lj_1, lj_2, lj_4, lj_5, lj_12, zJ_add, zJ_sub, zJ_mul, zJ_neg, zJ_l2i, tJ_zJ, zI_add, zI_sub, zI_mul, zI_neg, ↓Option.bind_some, ↓g12_5, ↓g12_0, ↓p12_5, ↓al_218, ↓as_218, zIt2, uR_at, uR_ne, uR_uR, uC_uC, uC_at, ↓reduceIte, decide_eq_true_eq, leT, leF, ltT, ltF, eqT, eqF, ne_eq, not_true_eq_false, not_false_eq_true, Bool.false_eq_true, tI_zI]
end S93l
