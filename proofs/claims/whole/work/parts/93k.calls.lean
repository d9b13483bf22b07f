/-! CALLS that read, second -/
section S93k
set_option linter.unusedVariables false
set_option linter.unusedSimpArgs false
def tillZ (K : Int → Int32) (i : Int) : Int := if i = -1 then 0 else tI (K 4) - tI (K 5) + i + 1
def a_fades (K : Int → Int32) (x y : Int) : Int × Int := if 0 ≤ x ∧ x < tI (K 1) then if 0 ≤ y ∧ y < tI (K 1) then (0, tillZ K (lstN (fun k : Nat => prW K k == wayZ K x y) (tI (K 5)).toNat)) else (1, 0) else (1, 0)
theorem cl_fades {d : Nat} {E : EnQ} {F : Nat → Int → Int32} {G : Nat → Int → Int64} {K : Int → Int32} (hO : SnO E F 18 K) {x y : Int} (hx : -2147483648 ≤ x ∧ x ≤ 2147483647) (hy : -2147483648 ≤ y ∧ y ≤ 2147483647) (hd : 4 ≤ d) : ∃ E1, (E1 = E ∨ E1 = jE E) ∧ callP MP d 148 [.ref 16, .int (zI x), .int (zI y)] (mk E F G) = some (thrP [0] (a_fades K x y), mk E1 F G) := by
  have hO' := hO
  obtain ⟨hS, hP, hR, hN, hI⟩ := hO
  have hs := hS.1
  have hs2 := hP.1
  have hA := hI.1
  obtain ⟨b0, b1, b2, b3, b4, b5, b6, b7, b8, b9⟩ := hI.1
  have e18 := bO hN
  by_cases c1 : 0 ≤ x ∧ x < tI (K 1)
  · by_cases c2 : 0 ≤ y ∧ y < tI (K 1)
    · have ha : a_fades K x y = (0, tillZ K (lstN (fun k : Nat => prW K k == wayZ K x y) (tI (K 5)).toNat)) := (if_pos c1).trans ((if_pos c2).trans (rfl))
      refine ⟨E, Or.inl rfl, ?_⟩
      rw [show thrP [0] (a_fades K x y) = Sum.inl (some (.int (zI (tillZ K (lstN (fun k : Nat => prW K k == wayZ K x y) (tI (K 5)).toNat))))) by rw [ha]; rfl]
      refine into (D := 3) (by omega) hM_148 (rcv_mk rfl (by decide)) rfl fun d hd => ?_
      show runP MP d 148 (0, [some (.ref 16), some (.int (zI x)), some (.int (zI y))], [], _) = _
      have hw := wayZ_lo hA.2.2.1 x y
      have hl := lst_rg hI (fun k : Nat => prW K k == wayZ K x y)
      rw [q_148_0]; (try simp only [↓n_cI, li_0, li_4, li_5, zI_add, zI_sub, zI_mul, zI_neg, ↓Option.bind_some]); simp (disch := (first | assumption | exact tI_rg _ | omega | exact uR_at | exact row_ne hF (by decide) | exact row_ne (row_ne hF (by decide)) (by decide) | exact SnS_18 | exact SnS_30 | exact LdS_44 | exact LdS_46)) only [↓cc_127t hO', ↓cc_127f hO', ↓cc_129t hO', ↓cc_129f hO', ↓cc_124t, ↓cc_124f, thr_eq, ↓cc_26 hR hI, if_pos (⟨c1, c2⟩ : (0 ≤ x ∧ x < tI (K 1)) ∧ (0 ≤ y ∧ y < tI (K 1))), ↓cc_74 hO', ↓cc_76 hO', ↓n_cI, li_0, li_4, li_5, zI_add, zI_sub, zI_mul, zI_neg, ↓Option.bind_some, ↓g5_0, ↓g11_4, zIt2, uR_at, uR_ne, uR_uR, uC_uC, uC_at, ↓reduceIte, decide_eq_true_eq, leT, leF, ltT, ltF, eqT, eqF, ne_eq, not_true_eq_false, not_false_eq_true, Bool.false_eq_true, tI_zI]
      rfl
    · have ha : a_fades K x y = (1, 0) := (if_pos c1).trans (if_neg c2)
      refine ⟨jE E, Or.inr rfl, ?_⟩
      rw [show thrP [0] (a_fades K x y) = Sum.inr 0 by rw [ha]; rfl]
      refine into (D := 3) (by omega) hM_148 (rcv_mk rfl (by decide)) rfl fun d hd => ?_
      show runP MP d 148 (0, [some (.ref 16), some (.int (zI x)), some (.int (zI y))], [], _) = _
      rw [q_148_0]; (try simp only [↓n_cI, li_0, li_4, li_5, zI_add, zI_sub, zI_mul, zI_neg, ↓Option.bind_some]); simp (disch := (first | assumption | exact tI_rg _ | omega | exact uR_at | exact row_ne hF (by decide) | exact row_ne (row_ne hF (by decide)) (by decide) | exact SnS_18 | exact SnS_30 | exact LdS_44 | exact LdS_46)) only [↓cc_127t hO', ↓cc_127f hO', ↓cc_129t hO', ↓cc_129f hO', ↓cc_124t, ↓cc_124f, thr_eq, ↓n_cI, li_0, li_4, li_5, zI_add, zI_sub, zI_mul, zI_neg, ↓Option.bind_some, ↓g5_0, ↓g11_4, zIt2, uR_at, uR_ne, uR_uR, uC_uC, uC_at, ↓reduceIte, decide_eq_true_eq, leT, leF, ltT, ltF, eqT, eqF, ne_eq, not_true_eq_false, not_false_eq_true, Bool.false_eq_true, tI_zI]
  · have ha : a_fades K x y = (1, 0) := if_neg c1
    refine ⟨jE E, Or.inr rfl, ?_⟩
    rw [show thrP [0] (a_fades K x y) = Sum.inr 0 by rw [ha]; rfl]
    refine into (D := 3) (by omega) hM_148 (rcv_mk rfl (by decide)) rfl fun d hd => ?_
    show runP MP d 148 (0, [some (.ref 16), some (.int (zI x)), some (.int (zI y))], [], _) = _
    rw [q_148_0]; (try simp only [↓n_cI, li_0, li_4, li_5, zI_add, zI_sub, zI_mul, zI_neg, ↓Option.bind_some]); simp (disch := (first | assumption | exact tI_rg _ | omega | exact uR_at | exact row_ne hF (by decide) | exact row_ne (row_ne hF (by decide)) (by decide) | exact SnS_18 | exact SnS_30 | exact LdS_44 | exact LdS_46)) only [↓cc_127t hO', ↓cc_127f hO', ↓cc_129t hO', ↓cc_129f hO', ↓cc_124t, ↓cc_124f, thr_eq, ↓n_cI, li_0, li_4, li_5, zI_add, zI_sub, zI_mul, zI_neg, ↓Option.bind_some, ↓g5_0, ↓g11_4, zIt2, uR_at, uR_ne, uR_uR, uC_uC, uC_at, ↓reduceIte, decide_eq_true_eq, leT, leF, ltT, ltF, eqT, eqF, ne_eq, not_true_eq_false, not_false_eq_true, Bool.false_eq_true, tI_zI]
theorem ml_fades {d : Nat} {E : EnQ} {F : Nat → Int → Int32} {G : Nat → Int → Int64} {K : Int → Int32} (hI : InvK K) (hF : F 218 = K) {x y : Int} (hx : -2147483648 ≤ x ∧ x ≤ 2147483647) (hy : -2147483648 ≤ y ∧ y ≤ 2147483647) (hd : 3 ≤ d) : callP MP d 254 [.ref 217, .int (zI x), .int (zI y)] (mk E F G) = some (Sum.inl (some (.int (zI ((a_fades K x y).2)))), mk E (uR F 217 (uC (F 217) 5 (zI (a_fades K x y).1))) G) := by
  have hA := hI.1
  obtain ⟨b0, b1, b2, b3, b4, b5, b6, b7, b8, b9⟩ := hI.1
  by_cases c1 : 0 ≤ x ∧ x < tI (K 1)
  · by_cases c2 : 0 ≤ y ∧ y < tI (K 1)
    · have ha : a_fades K x y = (0, tillZ K (lstN (fun k : Nat => prW K k == wayZ K x y) (tI (K 5)).toNat)) := (if_pos c1).trans ((if_pos c2).trans (rfl))
      rw [ha]
      show (_ : ResP) = some (Sum.inl (some (.int (zI (tillZ K (lstN (fun k : Nat => prW K k == wayZ K x y) (tI (K 5)).toNat))))), mk E (uR F 217 (uC (F 217) 5 (zI 0))) G)
      refine into (D := 2) (by omega) hM_254 (rcv_mk rfl (by decide)) rfl fun d hd => ?_
      show runP MP d 254 (0, [some (.ref 217), some (.int (zI x)), some (.int (zI y))], [], _) = _
      have hw := wayZ_lo hA.2.2.1 x y
      have hl := lst_rg hI (fun k : Nat => prW K k == wayZ K x y)
      rw [q_254_0]; (try simp only [↓n_cI, li_0, li_1, li_5, li_12, li_255, lj_0, lj_1, lj_5, lj_12, zJ_add, zJ_sub, zJ_mul, zJ_neg, zJ_l2i, zI_add, zI_sub, zI_mul, zI_neg, ↓Option.bind_some]); simp (disch := (first | assumption | exact tI_rg _ | omega | exact uR_at | exact row_ne hF (by decide) | exact row_ne (row_ne hF (by decide)) (by decide) | exact SnS_18 | exact SnS_30 | exact LdS_44 | exact LdS_46)) only [q_254_40, q_254_45, ↓cc_213t hI, ↓cc_213f hI, ↓cc_219t hI, ↓cc_219f hI, ↓cc_188t, ↓cc_188f, ↓cc_189, zI_i2l, ↓cc_229 hI, ↓cc_249 hI, ↓cc_255 hI, ↓n_cI, li_0, li_1, li_5, li_12, li_255, lj_0, lj_1, lj_5, lj_12, zJ_add, zJ_sub, zJ_mul, zJ_neg, zJ_l2i, tJ_zJ, zI_add, zI_sub, zI_mul, zI_neg, ↓Option.bind_some, ↓p12_5, zIt2, uR_at, uR_ne, uR_uR, uC_uC, uC_at, ↓reduceIte, decide_eq_true_eq, leT, leF, ltT, ltF, eqT, eqF, ne_eq, not_true_eq_false, not_false_eq_true, Bool.false_eq_true, tI_zI]
      rfl
    · have ha : a_fades K x y = (1, 0) := (if_pos c1).trans (if_neg c2)
      rw [ha]
      show (_ : ResP) = some (Sum.inl (some (.int (zI (0)))), mk E (uR F 217 (uC (F 217) 5 (zI 1))) G)
      refine into (D := 2) (by omega) hM_254 (rcv_mk rfl (by decide)) rfl fun d hd => ?_
      show runP MP d 254 (0, [some (.ref 217), some (.int (zI x)), some (.int (zI y))], [], _) = _
      rw [q_254_0]; (try simp only [↓n_cI, li_0, li_1, li_5, li_12, li_255, lj_0, lj_1, lj_5, lj_12, zJ_add, zJ_sub, zJ_mul, zJ_neg, zJ_l2i, zI_add, zI_sub, zI_mul, zI_neg, ↓Option.bind_some]); simp (disch := (first | assumption | exact tI_rg _ | omega | exact uR_at | exact row_ne hF (by decide) | exact row_ne (row_ne hF (by decide)) (by decide) | exact SnS_18 | exact SnS_30 | exact LdS_44 | exact LdS_46)) only [q_254_40, q_254_45, ↓cc_213t hI, ↓cc_213f hI, ↓cc_219t hI, ↓cc_219f hI, ↓cc_188t, ↓cc_188f, ↓cc_189, zI_i2l, hF, ↓n_cI, li_0, li_1, li_5, li_12, li_255, lj_0, lj_1, lj_5, lj_12, zJ_add, zJ_sub, zJ_mul, zJ_neg, zJ_l2i, tJ_zJ, zI_add, zI_sub, zI_mul, zI_neg, ↓Option.bind_some, ↓p12_5, zIt2, uR_at, uR_ne, uR_uR, uC_uC, uC_at, ↓reduceIte, decide_eq_true_eq, leT, leF, ltT, ltF, eqT, eqF, ne_eq, not_true_eq_false, not_false_eq_true, Bool.false_eq_true, tI_zI]
  · have ha : a_fades K x y = (1, 0) := if_neg c1
    rw [ha]
    show (_ : ResP) = some (Sum.inl (some (.int (zI (0)))), mk E (uR F 217 (uC (F 217) 5 (zI 1))) G)
    refine into (D := 2) (by omega) hM_254 (rcv_mk rfl (by decide)) rfl fun d hd => ?_
    show runP MP d 254 (0, [some (.ref 217), some (.int (zI x)), some (.int (zI y))], [], _) = _
    rw [q_254_0]; (try simp only [↓n_cI, li_0, li_1, li_5, li_12, li_255, lj_0, lj_1, lj_5, lj_12, zJ_add, zJ_sub, zJ_mul, zJ_neg, zJ_l2i, zI_add, zI_sub, zI_mul, zI_neg, ↓Option.bind_some]); simp (disch := (first | assumption | exact tI_rg _ | omega | exact uR_at | exact row_ne hF (by decide) | exact row_ne (row_ne hF (by decide)) (by decide) | exact SnS_18 | exact SnS_30 | exact LdS_44 | exact LdS_46)) only [q_254_40, q_254_45, ↓cc_213t hI, ↓cc_213f hI, ↓cc_219t hI, ↓cc_219f hI, ↓cc_188t, ↓cc_188f, ↓cc_189, zI_i2l, hF, ↓n_cI, li_0, li_1, li_5, li_12, li_255, lj_0, lj_1, lj_5, lj_12, zJ_add, zJ_sub, zJ_mul, zJ_neg, zJ_l2i, tJ_zJ, zI_add, zI_sub, zI_mul, zI_neg, ↓Option.bind_some, ↓p12_5, zIt2, uR_at, uR_ne, uR_uR, uC_uC, uC_at, ↓reduceIte, decide_eq_true_eq, leT, leF, ltT, ltF, eqT, eqF, ne_eq, not_true_eq_false, not_false_eq_true, Bool.false_eq_true, tI_zI]
def a_hired (K : Int → Int32) (x : Int) : Int × Int := if 0 ≤ x ∧ x < tI (K 3) then (0, tillZ K (lstN (fun k : Nat => prO K k == x) (tI (K 5)).toNat)) else (1, 0)
theorem cl_hired {d : Nat} {E : EnQ} {F : Nat → Int → Int32} {G : Nat → Int → Int64} {K : Int → Int32} (hO : SnO E F 18 K) {x : Int} (hx : -2147483648 ≤ x ∧ x ≤ 2147483647) (hd : 4 ≤ d) : ∃ E1, (E1 = E ∨ E1 = jE E) ∧ callP MP d 149 [.ref 16, .int (zI x)] (mk E F G) = some (thrP [0] (a_hired K x), mk E1 F G) := by
  have hO' := hO
  obtain ⟨hS, hP, hR, hN, hI⟩ := hO
  have hs := hS.1
  have hs2 := hP.1
  have hA := hI.1
  obtain ⟨b0, b1, b2, b3, b4, b5, b6, b7, b8, b9⟩ := hI.1
  have e18 := bO hN
  by_cases c1 : 0 ≤ x ∧ x < tI (K 3)
  · have ha : a_hired K x = (0, tillZ K (lstN (fun k : Nat => prO K k == x) (tI (K 5)).toNat)) := (if_pos c1).trans (rfl)
    refine ⟨E, Or.inl rfl, ?_⟩
    rw [show thrP [0] (a_hired K x) = Sum.inl (some (.int (zI (tillZ K (lstN (fun k : Nat => prO K k == x) (tI (K 5)).toNat))))) by rw [ha]; rfl]
    refine into (D := 3) (by omega) hM_149 (rcv_mk rfl (by decide)) rfl fun d hd => ?_
    show runP MP d 149 (0, [some (.ref 16), some (.int (zI x))], [], _) = _
    have hl := lst_rg hI (fun k : Nat => prO K k == x)
    rw [q_149_0]; (try simp only [↓n_cI, li_0, li_4, li_129, zI_add, zI_sub, zI_mul, zI_neg, ↓Option.bind_some]); simp (disch := (first | assumption | exact tI_rg _ | omega | exact uR_at | exact row_ne hF (by decide) | exact row_ne (row_ne hF (by decide)) (by decide) | exact SnS_18 | exact SnS_30 | exact LdS_44 | exact LdS_46)) only [↓cc_127t hO', ↓cc_127f hO', ↓cc_129t hO', ↓cc_129f hO', ↓cc_124t, ↓cc_124f, thr_eq, ↓cc_77 hO', ↓cc_76 hO', ↓n_cI, li_0, li_4, li_129, zI_add, zI_sub, zI_mul, zI_neg, ↓Option.bind_some, ↓g11_4, zIt2, uR_at, uR_ne, uR_uR, uC_uC, uC_at, ↓reduceIte, decide_eq_true_eq, leT, leF, ltT, ltF, eqT, eqF, ne_eq, not_true_eq_false, not_false_eq_true, Bool.false_eq_true, tI_zI]
    rfl
  · have ha : a_hired K x = (1, 0) := if_neg c1
    refine ⟨jE E, Or.inr rfl, ?_⟩
    rw [show thrP [0] (a_hired K x) = Sum.inr 0 by rw [ha]; rfl]
    refine into (D := 3) (by omega) hM_149 (rcv_mk rfl (by decide)) rfl fun d hd => ?_
    show runP MP d 149 (0, [some (.ref 16), some (.int (zI x))], [], _) = _
    rw [q_149_0]; (try simp only [↓n_cI, li_0, li_4, li_129, zI_add, zI_sub, zI_mul, zI_neg, ↓Option.bind_some]); simp (disch := (first | assumption | exact tI_rg _ | omega | exact uR_at | exact row_ne hF (by decide) | exact row_ne (row_ne hF (by decide)) (by decide) | exact SnS_18 | exact SnS_30 | exact LdS_44 | exact LdS_46)) only [↓cc_127t hO', ↓cc_127f hO', ↓cc_129t hO', ↓cc_129f hO', ↓cc_124t, ↓cc_124f, thr_eq, ↓n_cI, li_0, li_4, li_129, zI_add, zI_sub, zI_mul, zI_neg, ↓Option.bind_some, ↓g11_4, zIt2, uR_at, uR_ne, uR_uR, uC_uC, uC_at, ↓reduceIte, decide_eq_true_eq, leT, leF, ltT, ltF, eqT, eqF, ne_eq, not_true_eq_false, not_false_eq_true, Bool.false_eq_true, tI_zI]
theorem ml_hired {d : Nat} {E : EnQ} {F : Nat → Int → Int32} {G : Nat → Int → Int64} {K : Int → Int32} (hI : InvK K) (hF : F 218 = K) {x : Int} (hx : -2147483648 ≤ x ∧ x ≤ 2147483647) (hd : 3 ≤ d) : callP MP d 256 [.ref 217, .int (zI x)] (mk E F G) = some (Sum.inl (some (.int (zI ((a_hired K x).2)))), mk E (uR F 217 (uC (F 217) 5 (zI (a_hired K x).1))) G) := by
  have hA := hI.1
  obtain ⟨b0, b1, b2, b3, b4, b5, b6, b7, b8, b9⟩ := hI.1
  by_cases c1 : 0 ≤ x ∧ x < tI (K 3)
  · have ha : a_hired K x = (0, tillZ K (lstN (fun k : Nat => prO K k == x) (tI (K 5)).toNat)) := (if_pos c1).trans (rfl)
    rw [ha]
    show (_ : ResP) = some (Sum.inl (some (.int (zI (tillZ K (lstN (fun k : Nat => prO K k == x) (tI (K 5)).toNat))))), mk E (uR F 217 (uC (F 217) 5 (zI 0))) G)
    refine into (D := 2) (by omega) hM_256 (rcv_mk rfl (by decide)) rfl fun d hd => ?_
    show runP MP d 256 (0, [some (.ref 217), some (.int (zI x))], [], _) = _
    have hl := lst_rg hI (fun k : Nat => prO K k == x)
    rw [q_256_0]; (try simp only [↓n_cI, li_0, li_1, li_5, li_12, li_31, li_255, li_256, lj_0, lj_1, lj_5, lj_12, zJ_add, zJ_sub, zJ_mul, zJ_neg, zJ_l2i, zI_add, zI_sub, zI_mul, zI_neg, ↓Option.bind_some]); simp (disch := (first | assumption | exact tI_rg _ | omega | exact uR_at | exact row_ne hF (by decide) | exact row_ne (row_ne hF (by decide)) (by decide) | exact SnS_18 | exact SnS_30 | exact LdS_44 | exact LdS_46)) only [q_256_31, ↓cc_213t hI, ↓cc_213f hI, ↓cc_219t hI, ↓cc_219f hI, ↓cc_188t, ↓cc_188f, ↓cc_189, zI_i2l, ↓cc_257 hI, ↓cc_255 hI, ↓n_cI, li_0, li_1, li_5, li_12, li_31, li_255, li_256, lj_0, lj_1, lj_5, lj_12, zJ_add, zJ_sub, zJ_mul, zJ_neg, zJ_l2i, tJ_zJ, zI_add, zI_sub, zI_mul, zI_neg, ↓Option.bind_some, ↓p12_5, zIt2, uR_at, uR_ne, uR_uR, uC_uC, uC_at, ↓reduceIte, decide_eq_true_eq, leT, leF, ltT, ltF, eqT, eqF, ne_eq, not_true_eq_false, not_false_eq_true, Bool.false_eq_true, tI_zI]
    rfl
  · have ha : a_hired K x = (1, 0) := if_neg c1
    rw [ha]
    show (_ : ResP) = some (Sum.inl (some (.int (zI (0)))), mk E (uR F 217 (uC (F 217) 5 (zI 1))) G)
    refine into (D := 2) (by omega) hM_256 (rcv_mk rfl (by decide)) rfl fun d hd => ?_
    show runP MP d 256 (0, [some (.ref 217), some (.int (zI x))], [], _) = _
    rw [q_256_0]; (try simp only [↓n_cI, li_0, li_1, li_5, li_12, li_31, li_255, li_256, lj_0, lj_1, lj_5, lj_12, zJ_add, zJ_sub, zJ_mul, zJ_neg, zJ_l2i, zI_add, zI_sub, zI_mul, zI_neg, ↓Option.bind_some]); simp (disch := (first | assumption | exact tI_rg _ | omega | exact uR_at | exact row_ne hF (by decide) | exact row_ne (row_ne hF (by decide)) (by decide) | exact SnS_18 | exact SnS_30 | exact LdS_44 | exact LdS_46)) only [q_256_31, ↓cc_213t hI, ↓cc_213f hI, ↓cc_219t hI, ↓cc_219f hI, ↓cc_188t, ↓cc_188f, ↓cc_189, zI_i2l, hF, ↓n_cI, li_0, li_1, li_5, li_12, li_31, li_255, li_256, lj_0, lj_1, lj_5, lj_12, zJ_add, zJ_sub, zJ_mul, zJ_neg, zJ_l2i, tJ_zJ, zI_add, zI_sub, zI_mul, zI_neg, ↓Option.bind_some, ↓p12_5, zIt2, uR_at, uR_ne, uR_uR, uC_uC, uC_at, ↓reduceIte, decide_eq_true_eq, leT, leF, ltT, ltF, eqT, eqF, ne_eq, not_true_eq_false, not_false_eq_true, Bool.false_eq_true, tI_zI]
theorem tillZ_rg {K : Int → Int32} (hI : InvK K) {i : Int} (h : -1 ≤ i ∧ i < tI (K 5)) : 0 ≤ tillZ K i ∧ tillZ K i ≤ 60 := by
  have := hI.1.2.2.2.2.2.1; have := hI.1.2.2.2.2.1
  unfold tillZ; split <;> omega
def a_hires (K : Int → Int32) (x y : Int) : Int × Int := if 0 ≤ x ∧ x < tI (K 3) then if 1 ≤ y ∧ y ≤ 30 then (0, (tillZ K (lstN (fun k : Nat => prO K k == x) (tI (K 5)).toNat) + y - 1) / y) else (2, 0) else (1, 0)
theorem cl_hires {d : Nat} {E : EnQ} {F : Nat → Int → Int32} {G : Nat → Int → Int64} {K : Int → Int32} (hO : SnO E F 18 K) {x y : Int} (hx : -2147483648 ≤ x ∧ x ≤ 2147483647) (hy : -2147483648 ≤ y ∧ y ≤ 2147483647) (hd : 4 ≤ d) : ∃ E1, (E1 = E ∨ E1 = jE E) ∧ callP MP d 151 [.ref 16, .int (zI x), .int (zI y)] (mk E F G) = some (thrP [0, 2] (a_hires K x y), mk E1 F G) := by
  have hO' := hO
  obtain ⟨hS, hP, hR, hN, hI⟩ := hO
  have hs := hS.1
  have hs2 := hP.1
  have hA := hI.1
  obtain ⟨b0, b1, b2, b3, b4, b5, b6, b7, b8, b9⟩ := hI.1
  have e18 := bO hN
  by_cases c1 : 0 ≤ x ∧ x < tI (K 3)
  · by_cases c2 : 1 ≤ y ∧ y ≤ 30
    · have ha : a_hires K x y = (0, (tillZ K (lstN (fun k : Nat => prO K k == x) (tI (K 5)).toNat) + y - 1) / y) := (if_pos c1).trans ((if_pos c2).trans (rfl))
      refine ⟨E, Or.inl rfl, ?_⟩
      rw [show thrP [0, 2] (a_hires K x y) = Sum.inl (some (.int (zI ((tillZ K (lstN (fun k : Nat => prO K k == x) (tI (K 5)).toNat) + y - 1) / y)))) by rw [ha]; rfl]
      refine into (D := 3) (by omega) hM_151 (rcv_mk rfl (by decide)) rfl fun d hd => ?_
      show runP MP d 151 (0, [some (.ref 16), some (.int (zI x)), some (.int (zI y))], [], _) = _
      have hl := lst_rg hI (fun k : Nat => prO K k == x)
      have ht := tillZ_rg hI (i := lstN (fun k : Nat => prO K k == x) (tI (K 5)).toNat) (by omega)
      have ht2 : (if lstN (fun k : Nat => prO K k == x) (tI (K 5)).toNat = -1 then 0 else tI (K 4) - tI (K 5) + lstN (fun k : Nat => prO K k == x) (tI (K 5)).toNat + 1) = tillZ K (lstN (fun k : Nat => prO K k == x) (tI (K 5)).toNat) := rfl
      rw [q_151_0]; (try simp only [↓n_idiv, ↓n_cI, li_0, li_1, li_2, li_4, li_6, li_16, li_30, li_129, zI_add, zI_sub, zI_mul, zI_neg, ↓Option.bind_some]); simp (disch := (first | assumption | exact tI_rg _ | omega | exact uR_at | exact row_ne hF (by decide) | exact row_ne (row_ne hF (by decide)) (by decide) | exact SnS_18 | exact SnS_30 | exact LdS_44 | exact LdS_46)) only [q_151_16, ↓cc_127t hO', ↓cc_127f hO', ↓cc_129t hO', ↓cc_129f hO', ↓cc_124t, ↓cc_124f, thr_eq, ↓cc_77 hO', ↓cc_76 hO', ht2, ↓n_idiv, ↓n_cI, ↓b_idiv, jnk_mk, li_0, li_1, li_2, li_4, li_6, li_16, li_30, li_129, zI_add, zI_sub, zI_mul, zI_neg, ↓Option.bind_some, ↓g11_4, zIt2, uR_at, uR_ne, uR_uR, uC_uC, uC_at, ↓reduceIte, decide_eq_true_eq, leT, leF, ltT, ltF, eqT, eqF, ne_eq, not_true_eq_false, not_false_eq_true, Bool.false_eq_true, tI_zI]
    · have ha : a_hires K x y = (2, 0) := (if_pos c1).trans (if_neg c2)
      refine ⟨jE E, Or.inr rfl, ?_⟩
      rw [show thrP [0, 2] (a_hires K x y) = Sum.inr 2 by rw [ha]; rfl]
      refine into (D := 3) (by omega) hM_151 (rcv_mk rfl (by decide)) rfl fun d hd => ?_
      show runP MP d 151 (0, [some (.ref 16), some (.int (zI x)), some (.int (zI y))], [], _) = _
      by_cases y1 : y < 1
      · rw [q_151_0]; (try simp only [↓n_idiv, ↓n_cI, li_0, li_1, li_2, li_4, li_6, li_16, li_30, li_129, zI_add, zI_sub, zI_mul, zI_neg, ↓Option.bind_some]); simp (disch := (first | assumption | exact tI_rg _ | omega | exact uR_at | exact row_ne hF (by decide) | exact row_ne (row_ne hF (by decide)) (by decide) | exact SnS_18 | exact SnS_30 | exact LdS_44 | exact LdS_46)) only [q_151_16, ↓cc_127t hO', ↓cc_127f hO', ↓cc_129t hO', ↓cc_129f hO', ↓cc_124t, ↓cc_124f, thr_eq, ↓n_idiv, ↓n_cI, ↓b_idiv, jnk_mk, li_0, li_1, li_2, li_4, li_6, li_16, li_30, li_129, zI_add, zI_sub, zI_mul, zI_neg, ↓Option.bind_some, ↓g11_4, zIt2, uR_at, uR_ne, uR_uR, uC_uC, uC_at, ↓reduceIte, decide_eq_true_eq, leT, leF, ltT, ltF, eqT, eqF, ne_eq, not_true_eq_false, not_false_eq_true, Bool.false_eq_true, tI_zI]
      · rw [q_151_0]; (try simp only [↓n_idiv, ↓n_cI, li_0, li_1, li_2, li_4, li_6, li_16, li_30, li_129, zI_add, zI_sub, zI_mul, zI_neg, ↓Option.bind_some]); simp (disch := (first | assumption | exact tI_rg _ | omega | exact uR_at | exact row_ne hF (by decide) | exact row_ne (row_ne hF (by decide)) (by decide) | exact SnS_18 | exact SnS_30 | exact LdS_44 | exact LdS_46)) only [q_151_16, ↓cc_127t hO', ↓cc_127f hO', ↓cc_129t hO', ↓cc_129f hO', ↓cc_124t, ↓cc_124f, thr_eq, ↓n_idiv, ↓n_cI, ↓b_idiv, jnk_mk, li_0, li_1, li_2, li_4, li_6, li_16, li_30, li_129, zI_add, zI_sub, zI_mul, zI_neg, ↓Option.bind_some, ↓g11_4, zIt2, uR_at, uR_ne, uR_uR, uC_uC, uC_at, ↓reduceIte, decide_eq_true_eq, leT, leF, ltT, ltF, eqT, eqF, ne_eq, not_true_eq_false, not_false_eq_true, Bool.false_eq_true, tI_zI]
  · have ha : a_hires K x y = (1, 0) := if_neg c1
    refine ⟨jE E, Or.inr rfl, ?_⟩
    rw [show thrP [0, 2] (a_hires K x y) = Sum.inr 0 by rw [ha]; rfl]
    refine into (D := 3) (by omega) hM_151 (rcv_mk rfl (by decide)) rfl fun d hd => ?_
    show runP MP d 151 (0, [some (.ref 16), some (.int (zI x)), some (.int (zI y))], [], _) = _
    rw [q_151_0]; (try simp only [↓n_idiv, ↓n_cI, li_0, li_1, li_2, li_4, li_6, li_16, li_30, li_129, zI_add, zI_sub, zI_mul, zI_neg, ↓Option.bind_some]); simp (disch := (first | assumption | exact tI_rg _ | omega | exact uR_at | exact row_ne hF (by decide) | exact row_ne (row_ne hF (by decide)) (by decide) | exact SnS_18 | exact SnS_30 | exact LdS_44 | exact LdS_46)) only [q_151_16, ↓cc_127t hO', ↓cc_127f hO', ↓cc_129t hO', ↓cc_129f hO', ↓cc_124t, ↓cc_124f, thr_eq, ↓n_idiv, ↓n_cI, ↓b_idiv, jnk_mk, li_0, li_1, li_2, li_4, li_6, li_16, li_30, li_129, zI_add, zI_sub, zI_mul, zI_neg, ↓Option.bind_some, ↓g11_4, zIt2, uR_at, uR_ne, uR_uR, uC_uC, uC_at, ↓reduceIte, decide_eq_true_eq, leT, leF, ltT, ltF, eqT, eqF, ne_eq, not_true_eq_false, not_false_eq_true, Bool.false_eq_true, tI_zI]
theorem ml_hires {d : Nat} {E : EnQ} {F : Nat → Int → Int32} {G : Nat → Int → Int64} {K : Int → Int32} (hI : InvK K) (hF : F 218 = K) {x y : Int} (hx : -2147483648 ≤ x ∧ x ≤ 2147483647) (hy : -2147483648 ≤ y ∧ y ≤ 2147483647) (hd : 3 ≤ d) : callP MP d 273 [.ref 217, .int (zI x), .int (zI y)] (mk E F G) = some (Sum.inl (some (.int (zI ((a_hires K x y).2)))), mk E (uR F 217 (uC (F 217) 5 (zI (a_hires K x y).1))) G) := by
  have hA := hI.1
  obtain ⟨b0, b1, b2, b3, b4, b5, b6, b7, b8, b9⟩ := hI.1
  by_cases c1 : 0 ≤ x ∧ x < tI (K 3)
  · by_cases c2 : 1 ≤ y ∧ y ≤ 30
    · have ha : a_hires K x y = (0, (tillZ K (lstN (fun k : Nat => prO K k == x) (tI (K 5)).toNat) + y - 1) / y) := (if_pos c1).trans ((if_pos c2).trans (rfl))
      rw [ha]
      show (_ : ResP) = some (Sum.inl (some (.int (zI ((tillZ K (lstN (fun k : Nat => prO K k == x) (tI (K 5)).toNat) + y - 1) / y)))), mk E (uR F 217 (uC (F 217) 5 (zI 0))) G)
      refine into (D := 2) (by omega) hM_273 (rcv_mk rfl (by decide)) rfl fun d hd => ?_
      show runP MP d 273 (0, [some (.ref 217), some (.int (zI x)), some (.int (zI y)), none], [], _) = _
      have hl := lst_rg hI (fun k : Nat => prO K k == x)
      have ht := tillZ_rg hI (i := lstN (fun k : Nat => prO K k == x) (tI (K 5)).toNat) (by omega)
      have ht2 : (if lstN (fun k : Nat => prO K k == x) (tI (K 5)).toNat = -1 then 0 else tI (K 4) - tI (K 5) + lstN (fun k : Nat => prO K k == x) (tI (K 5)).toNat + 1) = tillZ K (lstN (fun k : Nat => prO K k == x) (tI (K 5)).toNat) := rfl
      rw [q_273_0]; (try simp only [↓n_rd, ↓n_idiv, ↓n_cI, li_0, li_1, li_2, li_5, li_12, li_30, li_31, li_255, lj_0, lj_1, lj_2, lj_5, lj_12, lj_30, zJ_add, zJ_sub, zJ_mul, zJ_neg, zJ_l2i, zI_add, zI_sub, zI_mul, zI_neg, ↓Option.bind_some]); simp (disch := (first | assumption | exact tI_rg _ | omega | exact uR_at | exact row_ne hF (by decide) | exact row_ne (row_ne hF (by decide)) (by decide) | exact SnS_18 | exact SnS_30 | exact LdS_44 | exact LdS_46)) only [q_273_31, ↓cc_213t hI, ↓cc_213f hI, ↓cc_219t hI, ↓cc_219f hI, ↓cc_188t, ↓cc_188f, ↓cc_189, zI_i2l, ↓cc_257 hI, ↓cc_255 hI, ht2, ↓n_rd, ↓n_idiv, ↓n_cI, ↓b_idiv, li_0, li_1, li_2, li_5, li_12, li_30, li_31, li_255, lj_0, lj_1, lj_2, lj_5, lj_12, lj_30, zJ_add, zJ_sub, zJ_mul, zJ_neg, zJ_l2i, tJ_zJ, zI_add, zI_sub, zI_mul, zI_neg, ↓Option.bind_some, ↓g12_5, ↓p12_5, zIt2, uR_at, uR_ne, uR_uR, uC_uC, uC_at, ↓reduceIte, decide_eq_true_eq, leT, leF, ltT, ltF, eqT, eqF, ne_eq, not_true_eq_false, not_false_eq_true, Bool.false_eq_true, tI_zI]
    · have ha : a_hires K x y = (2, 0) := (if_pos c1).trans (if_neg c2)
      rw [ha]
      show (_ : ResP) = some (Sum.inl (some (.int (zI (0)))), mk E (uR F 217 (uC (F 217) 5 (zI 2))) G)
      refine into (D := 2) (by omega) hM_273 (rcv_mk rfl (by decide)) rfl fun d hd => ?_
      show runP MP d 273 (0, [some (.ref 217), some (.int (zI x)), some (.int (zI y)), none], [], _) = _
      rw [q_273_0]; (try simp only [↓n_rd, ↓n_idiv, ↓n_cI, li_0, li_1, li_2, li_5, li_12, li_30, li_31, li_255, lj_0, lj_1, lj_2, lj_5, lj_12, lj_30, zJ_add, zJ_sub, zJ_mul, zJ_neg, zJ_l2i, zI_add, zI_sub, zI_mul, zI_neg, ↓Option.bind_some]); simp (disch := (first | assumption | exact tI_rg _ | omega | exact uR_at | exact row_ne hF (by decide) | exact row_ne (row_ne hF (by decide)) (by decide) | exact SnS_18 | exact SnS_30 | exact LdS_44 | exact LdS_46)) only [q_273_31, ↓cc_213t hI, ↓cc_213f hI, ↓cc_219t hI, ↓cc_219f hI, ↓cc_188t, ↓cc_188f, ↓cc_189, zI_i2l, hF, ↓n_rd, ↓n_idiv, ↓n_cI, ↓b_idiv, li_0, li_1, li_2, li_5, li_12, li_30, li_31, li_255, lj_0, lj_1, lj_2, lj_5, lj_12, lj_30, zJ_add, zJ_sub, zJ_mul, zJ_neg, zJ_l2i, tJ_zJ, zI_add, zI_sub, zI_mul, zI_neg, ↓Option.bind_some, ↓g12_5, ↓p12_5, zIt2, uR_at, uR_ne, uR_uR, uC_uC, uC_at, ↓reduceIte, decide_eq_true_eq, leT, leF, ltT, ltF, eqT, eqF, ne_eq, not_true_eq_false, not_false_eq_true, Bool.false_eq_true, tI_zI]
  · have ha : a_hires K x y = (1, 0) := if_neg c1
    rw [ha]
    show (_ : ResP) = some (Sum.inl (some (.int (zI (0)))), mk E (uR F 217 (uC (F 217) 5 (zI 1))) G)
    refine into (D := 2) (by omega) hM_273 (rcv_mk rfl (by decide)) rfl fun d hd => ?_
    show runP MP d 273 (0, [some (.ref 217), some (.int (zI x)), some (.int (zI y)), none], [], _) = _
    rw [q_273_0]; (try simp only [↓n_rd, ↓n_idiv, ↓n_cI, li_0, li_1, li_2, li_5, li_12, li_30, li_31, li_255, lj_0, lj_1, lj_2, lj_5, lj_12, lj_30, zJ_add, zJ_sub, zJ_mul, zJ_neg, zJ_l2i, zI_add, zI_sub, zI_mul, zI_neg, ↓Option.bind_some]); simp (disch := (first | assumption | exact tI_rg _ | omega | exact uR_at | exact row_ne hF (by decide) | exact row_ne (row_ne hF (by decide)) (by decide) | exact SnS_18 | exact SnS_30 | exact LdS_44 | exact LdS_46)) only [q_273_31, ↓cc_213t hI, ↓cc_213f hI, ↓cc_219t hI, ↓cc_219f hI, ↓cc_188t, ↓cc_188f, ↓cc_189, zI_i2l, hF, ↓n_rd, ↓n_idiv, ↓n_cI, ↓b_idiv, li_0, li_1, li_2, li_5, li_12, li_30, li_31, li_255, lj_0, lj_1, lj_2, lj_5, lj_12, lj_30, zJ_add, zJ_sub, zJ_mul, zJ_neg, zJ_l2i, tJ_zJ, zI_add, zI_sub, zI_mul, zI_neg, ↓Option.bind_some, ↓g12_5, ↓p12_5, zIt2, uR_at, uR_ne, uR_uR, uC_uC, uC_at, ↓reduceIte, decide_eq_true_eq, leT, leF, ltT, ltF, eqT, eqF, ne_eq, not_true_eq_false, not_false_eq_true, Bool.false_eq_true, tI_zI]
theorem tchN_lt {K : Int → Int32} (hI : InvK K) (x : Int) : tchN K x < 1024 := by
  have h5 := hI.1.2.2.2.2.2.1
  have h1 := hI.1.2.1
  refine orN_lt (k := 10) fun j hj => ?_
  have hw := (pr_in hI (i := (j : Int)) (by omega) (by omega)).1
  have f1 := from_in hI hw
  have f2 := to_in hI hw
  by_cases e : prO K (j : Int) = x
  · rw [if_pos e]
    exact Nat.or_lt_two_pow (Nat.pow_lt_pow_right (by omega) (by omega)) (Nat.pow_lt_pow_right (by omega) (by omega))
  · rw [if_neg e]; exact Nat.two_pow_pos 10
def a_crossing (K : Int → Int32) (x y : Int) : Int × Int := if 0 ≤ x ∧ x < tI (K 3) then if 0 ≤ y ∧ y < tI (K 3) then (0, ((tchN K x &&& tchN K y : Nat) : Int)) else (1, 0) else (1, 0)
theorem cl_crossing {d : Nat} {E : EnQ} {F : Nat → Int → Int32} {G : Nat → Int → Int64} {K : Int → Int32} (hO : SnO E F 18 K) {x y : Int} (hx : -2147483648 ≤ x ∧ x ≤ 2147483647) (hy : -2147483648 ≤ y ∧ y ≤ 2147483647) (hd : 4 ≤ d) : ∃ E1, (E1 = E ∨ E1 = jE E) ∧ callP MP d 147 [.ref 16, .int (zI x), .int (zI y)] (mk E F G) = some (thrP [0] (a_crossing K x y), mk E1 F G) := by
  have hO' := hO
  obtain ⟨hS, hP, hR, hN, hI⟩ := hO
  have hs := hS.1
  have hs2 := hP.1
  have hA := hI.1
  obtain ⟨b0, b1, b2, b3, b4, b5, b6, b7, b8, b9⟩ := hI.1
  have e18 := bO hN
  by_cases c1 : 0 ≤ x ∧ x < tI (K 3)
  · by_cases c2 : 0 ≤ y ∧ y < tI (K 3)
    · have ha : a_crossing K x y = (0, ((tchN K x &&& tchN K y : Nat) : Int)) := (if_pos c1).trans ((if_pos c2).trans (rfl))
      refine ⟨E, Or.inl rfl, ?_⟩
      rw [show thrP [0] (a_crossing K x y) = Sum.inl (some (.int (zI (((tchN K x &&& tchN K y : Nat) : Int))))) by rw [ha]; rfl]
      refine into (D := 3) (by omega) hM_147 (rcv_mk rfl (by decide)) rfl fun d hd => ?_
      show runP MP d 147 (0, [some (.ref 16), some (.int (zI x)), some (.int (zI y))], [], _) = _
      have t1 := tchN_lt hI x
      have t2 := tchN_lt hI y
      rw [q_147_0]; (try simp only [↓n_cI, li_0, li_4, li_129, zI_add, zI_sub, zI_mul, zI_neg, ↓Option.bind_some]); simp (disch := (first | assumption | exact tI_rg _ | omega | exact uR_at | exact row_ne hF (by decide) | exact row_ne (row_ne hF (by decide)) (by decide) | exact SnS_18 | exact SnS_30 | exact LdS_44 | exact LdS_46)) only [↓cc_127t hO', ↓cc_127f hO', ↓cc_129t hO', ↓cc_129f hO', ↓cc_124t, ↓cc_124f, thr_eq, ↓cc_75 hO', andZ, ↓n_cI, li_0, li_4, li_129, zI_add, zI_sub, zI_mul, zI_neg, ↓Option.bind_some, ↓g11_4, zIt2, uR_at, uR_ne, uR_uR, uC_uC, uC_at, ↓reduceIte, decide_eq_true_eq, leT, leF, ltT, ltF, eqT, eqF, ne_eq, not_true_eq_false, not_false_eq_true, Bool.false_eq_true, tI_zI]
    · have ha : a_crossing K x y = (1, 0) := (if_pos c1).trans (if_neg c2)
      refine ⟨jE E, Or.inr rfl, ?_⟩
      rw [show thrP [0] (a_crossing K x y) = Sum.inr 0 by rw [ha]; rfl]
      refine into (D := 3) (by omega) hM_147 (rcv_mk rfl (by decide)) rfl fun d hd => ?_
      show runP MP d 147 (0, [some (.ref 16), some (.int (zI x)), some (.int (zI y))], [], _) = _
      rw [q_147_0]; (try simp only [↓n_cI, li_0, li_4, li_129, zI_add, zI_sub, zI_mul, zI_neg, ↓Option.bind_some]); simp (disch := (first | assumption | exact tI_rg _ | omega | exact uR_at | exact row_ne hF (by decide) | exact row_ne (row_ne hF (by decide)) (by decide) | exact SnS_18 | exact SnS_30 | exact LdS_44 | exact LdS_46)) only [↓cc_127t hO', ↓cc_127f hO', ↓cc_129t hO', ↓cc_129f hO', ↓cc_124t, ↓cc_124f, thr_eq, ↓n_cI, li_0, li_4, li_129, zI_add, zI_sub, zI_mul, zI_neg, ↓Option.bind_some, ↓g11_4, zIt2, uR_at, uR_ne, uR_uR, uC_uC, uC_at, ↓reduceIte, decide_eq_true_eq, leT, leF, ltT, ltF, eqT, eqF, ne_eq, not_true_eq_false, not_false_eq_true, Bool.false_eq_true, tI_zI]
  · have ha : a_crossing K x y = (1, 0) := if_neg c1
    refine ⟨jE E, Or.inr rfl, ?_⟩
    rw [show thrP [0] (a_crossing K x y) = Sum.inr 0 by rw [ha]; rfl]
    refine into (D := 3) (by omega) hM_147 (rcv_mk rfl (by decide)) rfl fun d hd => ?_
    show runP MP d 147 (0, [some (.ref 16), some (.int (zI x)), some (.int (zI y))], [], _) = _
    rw [q_147_0]; (try simp only [↓n_cI, li_0, li_4, li_129, zI_add, zI_sub, zI_mul, zI_neg, ↓Option.bind_some]); simp (disch := (first | assumption | exact tI_rg _ | omega | exact uR_at | exact row_ne hF (by decide) | exact row_ne (row_ne hF (by decide)) (by decide) | exact SnS_18 | exact SnS_30 | exact LdS_44 | exact LdS_46)) only [↓cc_127t hO', ↓cc_127f hO', ↓cc_129t hO', ↓cc_129f hO', ↓cc_124t, ↓cc_124f, thr_eq, ↓n_cI, li_0, li_4, li_129, zI_add, zI_sub, zI_mul, zI_neg, ↓Option.bind_some, ↓g11_4, zIt2, uR_at, uR_ne, uR_uR, uC_uC, uC_at, ↓reduceIte, decide_eq_true_eq, leT, leF, ltT, ltF, eqT, eqF, ne_eq, not_true_eq_false, not_false_eq_true, Bool.false_eq_true, tI_zI]
theorem ml_crossing {d : Nat} {E : EnQ} {F : Nat → Int → Int32} {G : Nat → Int → Int64} {K : Int → Int32} (hI : InvK K) (hF : F 218 = K) {x y : Int} (hx : -2147483648 ≤ x ∧ x ≤ 2147483647) (hy : -2147483648 ≤ y ∧ y ≤ 2147483647) (hd : 3 ≤ d) : callP MP d 252 [.ref 217, .int (zI x), .int (zI y)] (mk E F G) = some (Sum.inl (some (.int (zI ((a_crossing K x y).2)))), mk E (uR F 217 (uC (F 217) 5 (zI (a_crossing K x y).1))) G) := by
  have hA := hI.1
  obtain ⟨b0, b1, b2, b3, b4, b5, b6, b7, b8, b9⟩ := hI.1
  by_cases c1 : 0 ≤ x ∧ x < tI (K 3)
  · by_cases c2 : 0 ≤ y ∧ y < tI (K 3)
    · have ha : a_crossing K x y = (0, ((tchN K x &&& tchN K y : Nat) : Int)) := (if_pos c1).trans ((if_pos c2).trans (rfl))
      rw [ha]
      show (_ : ResP) = some (Sum.inl (some (.int (zI (((tchN K x &&& tchN K y : Nat) : Int))))), mk E (uR F 217 (uC (F 217) 5 (zI 0))) G)
      refine into (D := 2) (by omega) hM_252 (rcv_mk rfl (by decide)) rfl fun d hd => ?_
      show runP MP d 252 (0, [some (.ref 217), some (.int (zI x)), some (.int (zI y))], [], _) = _
      have t1 := tchN_lt hI x
      have t2 := tchN_lt hI y
      rw [q_252_0]; (try simp only [↓n_cI, li_0, li_1, li_5, li_12, lj_0, lj_1, lj_5, lj_12, zJ_add, zJ_sub, zJ_mul, zJ_neg, zJ_l2i, zI_add, zI_sub, zI_mul, zI_neg, ↓Option.bind_some]); simp (disch := (first | assumption | exact tI_rg _ | omega | exact uR_at | exact row_ne hF (by decide) | exact row_ne (row_ne hF (by decide)) (by decide) | exact SnS_18 | exact SnS_30 | exact LdS_44 | exact LdS_46)) only [q_252_37, q_252_42, ↓cc_213t hI, ↓cc_213f hI, ↓cc_219t hI, ↓cc_219f hI, ↓cc_188t, ↓cc_188f, ↓cc_189, zI_i2l, ↓cc_253 hI, andZ, ↓n_cI, li_0, li_1, li_5, li_12, lj_0, lj_1, lj_5, lj_12, zJ_add, zJ_sub, zJ_mul, zJ_neg, zJ_l2i, tJ_zJ, zI_add, zI_sub, zI_mul, zI_neg, ↓Option.bind_some, ↓p12_5, zIt2, uR_at, uR_ne, uR_uR, uC_uC, uC_at, ↓reduceIte, decide_eq_true_eq, leT, leF, ltT, ltF, eqT, eqF, ne_eq, not_true_eq_false, not_false_eq_true, Bool.false_eq_true, tI_zI]
    · have ha : a_crossing K x y = (1, 0) := (if_pos c1).trans (if_neg c2)
      rw [ha]
      show (_ : ResP) = some (Sum.inl (some (.int (zI (0)))), mk E (uR F 217 (uC (F 217) 5 (zI 1))) G)
      refine into (D := 2) (by omega) hM_252 (rcv_mk rfl (by decide)) rfl fun d hd => ?_
      show runP MP d 252 (0, [some (.ref 217), some (.int (zI x)), some (.int (zI y))], [], _) = _
      rw [q_252_0]; (try simp only [↓n_cI, li_0, li_1, li_5, li_12, lj_0, lj_1, lj_5, lj_12, zJ_add, zJ_sub, zJ_mul, zJ_neg, zJ_l2i, zI_add, zI_sub, zI_mul, zI_neg, ↓Option.bind_some]); simp (disch := (first | assumption | exact tI_rg _ | omega | exact uR_at | exact row_ne hF (by decide) | exact row_ne (row_ne hF (by decide)) (by decide) | exact SnS_18 | exact SnS_30 | exact LdS_44 | exact LdS_46)) only [q_252_37, q_252_42, ↓cc_213t hI, ↓cc_213f hI, ↓cc_219t hI, ↓cc_219f hI, ↓cc_188t, ↓cc_188f, ↓cc_189, zI_i2l, hF, ↓n_cI, li_0, li_1, li_5, li_12, lj_0, lj_1, lj_5, lj_12, zJ_add, zJ_sub, zJ_mul, zJ_neg, zJ_l2i, tJ_zJ, zI_add, zI_sub, zI_mul, zI_neg, ↓Option.bind_some, ↓p12_5, zIt2, uR_at, uR_ne, uR_uR, uC_uC, uC_at, ↓reduceIte, decide_eq_true_eq, leT, leF, ltT, ltF, eqT, eqF, ne_eq, not_true_eq_false, not_false_eq_true, Bool.false_eq_true, tI_zI]
  · have ha : a_crossing K x y = (1, 0) := if_neg c1
    rw [ha]
    show (_ : ResP) = some (Sum.inl (some (.int (zI (0)))), mk E (uR F 217 (uC (F 217) 5 (zI 1))) G)
    refine into (D := 2) (by omega) hM_252 (rcv_mk rfl (by decide)) rfl fun d hd => ?_
    show runP MP d 252 (0, [some (.ref 217), some (.int (zI x)), some (.int (zI y))], [], _) = _
    rw [q_252_0]; (try simp only [↓n_cI, li_0, li_1, li_5, li_12, lj_0, lj_1, lj_5, lj_12, zJ_add, zJ_sub, zJ_mul, zJ_neg, zJ_l2i, zI_add, zI_sub, zI_mul, zI_neg, ↓Option.bind_some]); simp (disch := (first | assumption | exact tI_rg _ | omega | exact uR_at | exact row_ne hF (by decide) | exact row_ne (row_ne hF (by decide)) (by decide) | exact SnS_18 | exact SnS_30 | exact LdS_44 | exact LdS_46)) only [q_252_37, q_252_42, ↓cc_213t hI, ↓cc_213f hI, ↓cc_219t hI, ↓cc_219f hI, ↓cc_188t, ↓cc_188f, ↓cc_189, zI_i2l, hF, ↓n_cI, li_0, li_1, li_5, li_12, lj_0, lj_1, lj_5, lj_12, zJ_add, zJ_sub, zJ_mul, zJ_neg, zJ_l2i, tJ_zJ, zI_add, zI_sub, zI_mul, zI_neg, ↓Option.bind_some, ↓p12_5, zIt2, uR_at, uR_ne, uR_uR, uC_uC, uC_at, ↓reduceIte, decide_eq_true_eq, leT, leF, ltT, ltF, eqT, eqF, ne_eq, not_true_eq_false, not_false_eq_true, Bool.false_eq_true, tI_zI]
def seeN (K : Int → Int32) (x y : Int) : Nat → Nat := fun k : Nat => if y = 0 then (if toZ K (prW K k) = x then bitN (fromZ K (prW K k)) else 0) else (if fromZ K (prW K k) = x then bitN (toZ K (prW K k)) else 0)
def a_seen (K : Int → Int32) (x y : Int) : Int × Int := if 0 ≤ x ∧ x < tI (K 1) then (0, ((orN (seeN K x y) (tI (K 5)).toNat : Nat) : Int)) else (1, 0)
theorem cl_seen {d : Nat} {E : EnQ} {F : Nat → Int → Int32} {G : Nat → Int → Int64} {K : Int → Int32} (hO : SnO E F 18 K) {x y : Int} (hx : -2147483648 ≤ x ∧ x ≤ 2147483647) (hy : y = 0 ∨ y = 1) (hd : 3 ≤ d) : ∃ E1, (E1 = E ∨ E1 = jE E) ∧ callP MP d 146 [.ref 16, .int (zI x), .int (zI y)] (mk E F G) = some (thrP [0] (a_seen K x y), mk E1 F G) := by
  have hO' := hO
  obtain ⟨hS, hP, hR, hN, hI⟩ := hO
  have hs := hS.1
  have hs2 := hP.1
  have hA := hI.1
  obtain ⟨b0, b1, b2, b3, b4, b5, b6, b7, b8, b9⟩ := hI.1
  have e18 := bO hN
  by_cases c1 : 0 ≤ x ∧ x < tI (K 1)
  · have ha : a_seen K x y = (0, ((orN (seeN K x y) (tI (K 5)).toNat : Nat) : Int)) := (if_pos c1).trans (rfl)
    refine ⟨E, Or.inl rfl, ?_⟩
    rw [show thrP [0] (a_seen K x y) = Sum.inl (some (.int (zI (((orN (seeN K x y) (tI (K 5)).toNat : Nat) : Int))))) by rw [ha]; rfl]
    refine into (D := 2) (by omega) hM_146 (rcv_mk rfl (by decide)) rfl fun d hd => ?_
    show runP MP d 146 (0, [some (.ref 16), some (.int (zI x)), some (.int (zI y)), none, none, none, none, none], [], _) = _
    have h10 : runP MP d 146 (10, [some (.ref 16), some (.int (zI x)), some (.int (zI y)), some (.int (zI 0)), some (.int (zI 0)), none, none, none], [], mk E F G) = some (Sum.inl (some (.int (zI (((orN (seeN K x y) (tI (K 5)).toNat : Nat) : Int))))), mk E F G) := by
      refine loopS (σ := Option Value × Option Value × Option Value) (Post := fun r => r = some (Sum.inl (some (.int (zI (((orN (seeN K x y) (tI (K 5)).toNat : Nat) : Int))))), mk E F G))
        (fun j s => runP MP d 146 (10, [some (.ref 16), some (.int (zI x)), some (.int (zI y)), some (.int (zI (((orN (seeN K x y) j : Nat) : Int)))), some (.int (zI (j : Int))), s.1, s.2.1, s.2.2], [], mk E F G))
        (fun j _ => True) (tI (K 5)).toNat (none, none, none) trivial (fun s _ => ?_) (fun j s hj _ => ?_)
      · show runP MP d 146 _ = _
        rw [q_146_10]; (try simp only [↓n_rd, ↓n_cI, li_0, li_1, li_2, li_4, li_5, li_10, li_64, zI_add, zI_sub, zI_mul, zI_neg, ↓Option.bind_some]); simp (disch := (first | assumption | exact tI_rg _ | omega | exact uR_at | exact row_ne hF (by decide) | exact row_ne (row_ne hF (by decide)) (by decide) | exact SnS_18 | exact SnS_30 | exact LdS_44 | exact LdS_46)) only [q_146_0, q_146_78, q_146_95, e18, ↓n_rd, ↓n_cI, li_0, li_1, li_2, li_4, li_5, li_10, li_64, zI_add, zI_sub, zI_mul, zI_neg, ↓Option.bind_some, ↓g5_2, ↓g5_0, ↓g11_4, zIt2, uR_at, uR_ne, uR_uR, uC_uC, uC_at, ↓reduceIte, decide_eq_true_eq, leT, leF, ltT, ltF, eqT, eqF, ne_eq, not_true_eq_false, not_false_eq_true, Bool.false_eq_true, tI_zI]
      · right
        have hw := (pr_in hI (i := (j : Int)) (by omega) (by omega)).1
        have f1 := from_in hI hw
        have f2 := to_in hI hw
        refine ⟨(some (.int (zI (prW K (j : Int)))), some (.int (zI (fromZ K (prW K (j : Int))))), some (.int (zI (toZ K (prW K (j : Int)))))), trivial, ?_⟩
        show runP MP d 146 _ = runP MP d 146 _
        rw [orN_succ, nsucc]
        unfold seeN
        by_cases y0 : y = 0
        · rw [if_pos y0]
          by_cases g : toZ K (prW K (j : Int)) = x
          · rw [if_pos g]
            rw [q_146_10]; (try simp only [↓n_rd, ↓n_cI, li_0, li_1, li_2, li_4, li_5, li_10, li_64, zI_add, zI_sub, zI_mul, zI_neg, ↓Option.bind_some]); simp (disch := (first | assumption | exact tI_rg _ | omega | exact uR_at | exact row_ne hF (by decide) | exact row_ne (row_ne hF (by decide)) (by decide) | exact SnS_18 | exact SnS_30 | exact LdS_44 | exact LdS_46)) only [q_146_0, q_146_78, q_146_95, e18, ↓cc_64 hO', ↓cc_28 hR hI, ↓cc_29 hR hI, shlB, orZ, ↓n_rd, ↓n_cI, li_0, li_1, li_2, li_4, li_5, li_10, li_64, zI_add, zI_sub, zI_mul, zI_neg, ↓Option.bind_some, ↓g5_2, ↓g5_0, ↓g11_4, zIt2, uR_at, uR_ne, uR_uR, uC_uC, uC_at, ↓reduceIte, decide_eq_true_eq, leT, leF, ltT, ltF, eqT, eqF, ne_eq, not_true_eq_false, not_false_eq_true, Bool.false_eq_true, tI_zI]
          · rw [if_neg g, or_zero']
            rw [q_146_10]; (try simp only [↓n_rd, ↓n_cI, li_0, li_1, li_2, li_4, li_5, li_10, li_64, zI_add, zI_sub, zI_mul, zI_neg, ↓Option.bind_some]); simp (disch := (first | assumption | exact tI_rg _ | omega | exact uR_at | exact row_ne hF (by decide) | exact row_ne (row_ne hF (by decide)) (by decide) | exact SnS_18 | exact SnS_30 | exact LdS_44 | exact LdS_46)) only [q_146_0, q_146_78, q_146_95, e18, ↓cc_64 hO', ↓cc_28 hR hI, ↓cc_29 hR hI, ↓n_rd, ↓n_cI, li_0, li_1, li_2, li_4, li_5, li_10, li_64, zI_add, zI_sub, zI_mul, zI_neg, ↓Option.bind_some, ↓g5_2, ↓g5_0, ↓g11_4, zIt2, uR_at, uR_ne, uR_uR, uC_uC, uC_at, ↓reduceIte, decide_eq_true_eq, leT, leF, ltT, ltF, eqT, eqF, ne_eq, not_true_eq_false, not_false_eq_true, Bool.false_eq_true, tI_zI]
        · rw [if_neg y0]
          by_cases g : fromZ K (prW K (j : Int)) = x
          · rw [if_pos g]
            rw [q_146_10]; (try simp only [↓n_rd, ↓n_cI, li_0, li_1, li_2, li_4, li_5, li_10, li_64, zI_add, zI_sub, zI_mul, zI_neg, ↓Option.bind_some]); simp (disch := (first | assumption | exact tI_rg _ | omega | exact uR_at | exact row_ne hF (by decide) | exact row_ne (row_ne hF (by decide)) (by decide) | exact SnS_18 | exact SnS_30 | exact LdS_44 | exact LdS_46)) only [q_146_0, q_146_78, q_146_95, e18, ↓cc_64 hO', ↓cc_28 hR hI, ↓cc_29 hR hI, shlB, orZ, ↓n_rd, ↓n_cI, li_0, li_1, li_2, li_4, li_5, li_10, li_64, zI_add, zI_sub, zI_mul, zI_neg, ↓Option.bind_some, ↓g5_2, ↓g5_0, ↓g11_4, zIt2, uR_at, uR_ne, uR_uR, uC_uC, uC_at, ↓reduceIte, decide_eq_true_eq, leT, leF, ltT, ltF, eqT, eqF, ne_eq, not_true_eq_false, not_false_eq_true, Bool.false_eq_true, tI_zI]
          · rw [if_neg g, or_zero']
            rw [q_146_10]; (try simp only [↓n_rd, ↓n_cI, li_0, li_1, li_2, li_4, li_5, li_10, li_64, zI_add, zI_sub, zI_mul, zI_neg, ↓Option.bind_some]); simp (disch := (first | assumption | exact tI_rg _ | omega | exact uR_at | exact row_ne hF (by decide) | exact row_ne (row_ne hF (by decide)) (by decide) | exact SnS_18 | exact SnS_30 | exact LdS_44 | exact LdS_46)) only [q_146_0, q_146_78, q_146_95, e18, ↓cc_64 hO', ↓cc_28 hR hI, ↓cc_29 hR hI, ↓n_rd, ↓n_cI, li_0, li_1, li_2, li_4, li_5, li_10, li_64, zI_add, zI_sub, zI_mul, zI_neg, ↓Option.bind_some, ↓g5_2, ↓g5_0, ↓g11_4, zIt2, uR_at, uR_ne, uR_uR, uC_uC, uC_at, ↓reduceIte, decide_eq_true_eq, leT, leF, ltT, ltF, eqT, eqF, ne_eq, not_true_eq_false, not_false_eq_true, Bool.false_eq_true, tI_zI]
    rw [q_146_0]; (try simp only [↓n_rd, ↓n_cI, li_0, li_1, li_2, li_4, li_5, li_10, li_64, zI_add, zI_sub, zI_mul, zI_neg, ↓Option.bind_some]); simp (disch := (first | assumption | exact tI_rg _ | omega | exact uR_at | exact row_ne hF (by decide) | exact row_ne (row_ne hF (by decide)) (by decide) | exact SnS_18 | exact SnS_30 | exact LdS_44 | exact LdS_46)) only [q_146_78, q_146_95, ↓cc_127t hO', ↓cc_127f hO', ↓cc_129t hO', ↓cc_129f hO', ↓cc_124t, ↓cc_124f, thr_eq, h10, ↓n_rd, ↓n_cI, li_0, li_1, li_2, li_4, li_5, li_10, li_64, zI_add, zI_sub, zI_mul, zI_neg, ↓Option.bind_some, ↓g5_2, ↓g5_0, ↓g11_4, zIt2, uR_at, uR_ne, uR_uR, uC_uC, uC_at, ↓reduceIte, decide_eq_true_eq, leT, leF, ltT, ltF, eqT, eqF, ne_eq, not_true_eq_false, not_false_eq_true, Bool.false_eq_true, tI_zI]
  · have ha : a_seen K x y = (1, 0) := if_neg c1
    refine ⟨jE E, Or.inr rfl, ?_⟩
    rw [show thrP [0] (a_seen K x y) = Sum.inr 0 by rw [ha]; rfl]
    refine into (D := 2) (by omega) hM_146 (rcv_mk rfl (by decide)) rfl fun d hd => ?_
    show runP MP d 146 (0, [some (.ref 16), some (.int (zI x)), some (.int (zI y)), none, none, none, none, none], [], _) = _
    rw [q_146_0]; (try simp only [↓n_rd, ↓n_cI, li_0, li_1, li_2, li_4, li_5, li_10, li_64, zI_add, zI_sub, zI_mul, zI_neg, ↓Option.bind_some]); simp (disch := (first | assumption | exact tI_rg _ | omega | exact uR_at | exact row_ne hF (by decide) | exact row_ne (row_ne hF (by decide)) (by decide) | exact SnS_18 | exact SnS_30 | exact LdS_44 | exact LdS_46)) only [q_146_78, q_146_95, ↓cc_127t hO', ↓cc_127f hO', ↓cc_129t hO', ↓cc_129f hO', ↓cc_124t, ↓cc_124f, thr_eq, ↓n_rd, ↓n_cI, li_0, li_1, li_2, li_4, li_5, li_10, li_64, zI_add, zI_sub, zI_mul, zI_neg, ↓Option.bind_some, ↓g5_2, ↓g5_0, ↓g11_4, zIt2, uR_at, uR_ne, uR_uR, uC_uC, uC_at, ↓reduceIte, decide_eq_true_eq, leT, leF, ltT, ltF, eqT, eqF, ne_eq, not_true_eq_false, not_false_eq_true, Bool.false_eq_true, tI_zI]
theorem ml_seen {d : Nat} {E : EnQ} {F : Nat → Int → Int32} {G : Nat → Int → Int64} {K : Int → Int32} (hI : InvK K) (hF : F 218 = K) {x y : Int} (hx : -2147483648 ≤ x ∧ x ≤ 2147483647) (hy : y = 0 ∨ y = 1) (hd : 3 ≤ d) : callP MP d 250 [.ref 217, .int (zI x), .int (zI y)] (mk E F G) = some (Sum.inl (some (.int (zI ((a_seen K x y).2)))), mk E (uR F 217 (uC (F 217) 5 (zI (a_seen K x y).1))) G) := by
  have hA := hI.1
  obtain ⟨b0, b1, b2, b3, b4, b5, b6, b7, b8, b9⟩ := hI.1
  by_cases c1 : 0 ≤ x ∧ x < tI (K 1)
  · have ha : a_seen K x y = (0, ((orN (seeN K x y) (tI (K 5)).toNat : Nat) : Int)) := (if_pos c1).trans (rfl)
    rw [ha]
    show (_ : ResP) = some (Sum.inl (some (.int (zI (((orN (seeN K x y) (tI (K 5)).toNat : Nat) : Int))))), mk E (uR F 217 (uC (F 217) 5 (zI 0))) G)
    refine into (D := 2) (by omega) hM_250 (rcv_mk rfl (by decide)) rfl fun d hd => ?_
    show runP MP d 250 (0, [some (.ref 217), some (.int (zI x)), some (.int (zI y)), none, none, none, none], [], _) = _
    have h10 : runP MP d 250 (25, [some (.ref 217), some (.int (zI x)), some (.int (zI y)), some (.int (zI 0)), some (.int (zI 0)), none, none], [], mk E (uR F 217 (uC (F 217) 5 (zI 0))) G) = some (Sum.inl (some (.int (zI (((orN (seeN K x y) (tI (K 5)).toNat : Nat) : Int))))), mk E (uR F 217 (uC (F 217) 5 (zI 0))) G) := by
      refine loopS (σ := Option Value × Option Value) (Post := fun r => r = some (Sum.inl (some (.int (zI (((orN (seeN K x y) (tI (K 5)).toNat : Nat) : Int))))), mk E (uR F 217 (uC (F 217) 5 (zI 0))) G))
        (fun j s => runP MP d 250 (25, [some (.ref 217), some (.int (zI x)), some (.int (zI y)), some (.int (zI (((orN (seeN K x y) j : Nat) : Int)))), some (.int (zI (j : Int))), s.1, s.2], [], mk E (uR F 217 (uC (F 217) 5 (zI 0))) G))
        (fun j _ => True) (tI (K 5)).toNat (none, none) trivial (fun s _ => ?_) (fun j s hj _ => ?_)
      · show runP MP d 250 _ = _
        rw [q_250_25]; (try simp only [↓n_cI, li_0, li_1, li_5, li_12, li_210, lj_0, lj_1, lj_5, lj_12, zJ_add, zJ_sub, zJ_mul, zJ_neg, zJ_l2i, zI_add, zI_sub, zI_mul, zI_neg, ↓Option.bind_some]); simp (disch := (first | assumption | exact tI_rg _ | omega | exact uR_at | exact row_ne hF (by decide) | exact row_ne (row_ne hF (by decide)) (by decide) | exact SnS_18 | exact SnS_30 | exact LdS_44 | exact LdS_46)) only [q_250_0, q_250_61, q_250_90, q_250_107, ↓cc_210 hI, ↓n_cI, li_0, li_1, li_5, li_12, li_210, lj_0, lj_1, lj_5, lj_12, zJ_add, zJ_sub, zJ_mul, zJ_neg, zJ_l2i, tJ_zJ, zI_add, zI_sub, zI_mul, zI_neg, ↓Option.bind_some, ↓p12_5, zIt2, uR_at, uR_ne, uR_uR, uC_uC, uC_at, ↓reduceIte, decide_eq_true_eq, leT, leF, ltT, ltF, eqT, eqF, ne_eq, not_true_eq_false, not_false_eq_true, Bool.false_eq_true, tI_zI]
      · right
        have hw := (pr_in hI (i := (j : Int)) (by omega) (by omega)).1
        have f1 := from_in hI hw
        have f2 := to_in hI hw
        refine ⟨(some (.int (zI (if y = 0 then toZ K (prW K (j : Int)) else fromZ K (prW K (j : Int))))), some (.int (zI (if y = 0 then fromZ K (prW K (j : Int)) else toZ K (prW K (j : Int)))))), trivial, ?_⟩
        show runP MP d 250 _ = runP MP d 250 _
        rw [orN_succ, nsucc]
        unfold seeN
        by_cases y0 : y = 0
        · rw [if_pos y0, if_pos y0, if_pos y0]
          by_cases g : toZ K (prW K (j : Int)) = x
          · rw [if_pos g]
            rw [q_250_25]; (try simp only [↓n_cI, li_0, li_1, li_5, li_12, li_210, lj_0, lj_1, lj_5, lj_12, zJ_add, zJ_sub, zJ_mul, zJ_neg, zJ_l2i, zI_add, zI_sub, zI_mul, zI_neg, ↓Option.bind_some]); simp (disch := (first | assumption | exact tI_rg _ | omega | exact uR_at | exact row_ne hF (by decide) | exact row_ne (row_ne hF (by decide)) (by decide) | exact SnS_18 | exact SnS_30 | exact LdS_44 | exact LdS_46)) only [q_250_0, q_250_61, q_250_90, q_250_107, ↓cc_210 hI, ↓cc_211 hI, ↓cc_216 hI, ↓cc_217 hI, shlB, orZ, ↓n_cI, li_0, li_1, li_5, li_12, li_210, lj_0, lj_1, lj_5, lj_12, zJ_add, zJ_sub, zJ_mul, zJ_neg, zJ_l2i, tJ_zJ, zI_add, zI_sub, zI_mul, zI_neg, ↓Option.bind_some, ↓p12_5, zIt2, uR_at, uR_ne, uR_uR, uC_uC, uC_at, ↓reduceIte, decide_eq_true_eq, leT, leF, ltT, ltF, eqT, eqF, ne_eq, not_true_eq_false, not_false_eq_true, Bool.false_eq_true, tI_zI]
          · rw [if_neg g]
            rw [q_250_25]; (try simp only [↓n_cI, li_0, li_1, li_5, li_12, li_210, lj_0, lj_1, lj_5, lj_12, zJ_add, zJ_sub, zJ_mul, zJ_neg, zJ_l2i, zI_add, zI_sub, zI_mul, zI_neg, ↓Option.bind_some]); simp (disch := (first | assumption | exact tI_rg _ | omega | exact uR_at | exact row_ne hF (by decide) | exact row_ne (row_ne hF (by decide)) (by decide) | exact SnS_18 | exact SnS_30 | exact LdS_44 | exact LdS_46)) only [q_250_0, q_250_61, q_250_90, q_250_107, ↓cc_210 hI, ↓cc_211 hI, ↓cc_216 hI, ↓cc_217 hI, or0, ↓n_cI, li_0, li_1, li_5, li_12, li_210, lj_0, lj_1, lj_5, lj_12, zJ_add, zJ_sub, zJ_mul, zJ_neg, zJ_l2i, tJ_zJ, zI_add, zI_sub, zI_mul, zI_neg, ↓Option.bind_some, ↓p12_5, zIt2, uR_at, uR_ne, uR_uR, uC_uC, uC_at, ↓reduceIte, decide_eq_true_eq, leT, leF, ltT, ltF, eqT, eqF, ne_eq, not_true_eq_false, not_false_eq_true, Bool.false_eq_true, tI_zI]
        · rw [if_neg y0, if_neg y0, if_neg y0]
          by_cases g : fromZ K (prW K (j : Int)) = x
          · rw [if_pos g]
            rw [q_250_25]; (try simp only [↓n_cI, li_0, li_1, li_5, li_12, li_210, lj_0, lj_1, lj_5, lj_12, zJ_add, zJ_sub, zJ_mul, zJ_neg, zJ_l2i, zI_add, zI_sub, zI_mul, zI_neg, ↓Option.bind_some]); simp (disch := (first | assumption | exact tI_rg _ | omega | exact uR_at | exact row_ne hF (by decide) | exact row_ne (row_ne hF (by decide)) (by decide) | exact SnS_18 | exact SnS_30 | exact LdS_44 | exact LdS_46)) only [q_250_0, q_250_61, q_250_90, q_250_107, ↓cc_210 hI, ↓cc_211 hI, ↓cc_216 hI, ↓cc_217 hI, shlB, orZ, ↓n_cI, li_0, li_1, li_5, li_12, li_210, lj_0, lj_1, lj_5, lj_12, zJ_add, zJ_sub, zJ_mul, zJ_neg, zJ_l2i, tJ_zJ, zI_add, zI_sub, zI_mul, zI_neg, ↓Option.bind_some, ↓p12_5, zIt2, uR_at, uR_ne, uR_uR, uC_uC, uC_at, ↓reduceIte, decide_eq_true_eq, leT, leF, ltT, ltF, eqT, eqF, ne_eq, not_true_eq_false, not_false_eq_true, Bool.false_eq_true, tI_zI]
          · rw [if_neg g]
            rw [q_250_25]; (try simp only [↓n_cI, li_0, li_1, li_5, li_12, li_210, lj_0, lj_1, lj_5, lj_12, zJ_add, zJ_sub, zJ_mul, zJ_neg, zJ_l2i, zI_add, zI_sub, zI_mul, zI_neg, ↓Option.bind_some]); simp (disch := (first | assumption | exact tI_rg _ | omega | exact uR_at | exact row_ne hF (by decide) | exact row_ne (row_ne hF (by decide)) (by decide) | exact SnS_18 | exact SnS_30 | exact LdS_44 | exact LdS_46)) only [q_250_0, q_250_61, q_250_90, q_250_107, ↓cc_210 hI, ↓cc_211 hI, ↓cc_216 hI, ↓cc_217 hI, or0, ↓n_cI, li_0, li_1, li_5, li_12, li_210, lj_0, lj_1, lj_5, lj_12, zJ_add, zJ_sub, zJ_mul, zJ_neg, zJ_l2i, tJ_zJ, zI_add, zI_sub, zI_mul, zI_neg, ↓Option.bind_some, ↓p12_5, zIt2, uR_at, uR_ne, uR_uR, uC_uC, uC_at, ↓reduceIte, decide_eq_true_eq, leT, leF, ltT, ltF, eqT, eqF, ne_eq, not_true_eq_false, not_false_eq_true, Bool.false_eq_true, tI_zI]
    rw [q_250_0]; (try simp only [↓n_cI, li_0, li_1, li_5, li_12, li_210, lj_0, lj_1, lj_5, lj_12, zJ_add, zJ_sub, zJ_mul, zJ_neg, zJ_l2i, zI_add, zI_sub, zI_mul, zI_neg, ↓Option.bind_some]); simp (disch := (first | assumption | exact tI_rg _ | omega | exact uR_at | exact row_ne hF (by decide) | exact row_ne (row_ne hF (by decide)) (by decide) | exact SnS_18 | exact SnS_30 | exact LdS_44 | exact LdS_46)) only [q_250_61, q_250_90, q_250_107, ↓cc_213t hI, ↓cc_213f hI, ↓cc_219t hI, ↓cc_219f hI, ↓cc_188t, ↓cc_188f, ↓cc_189, zI_i2l, h10, ↓n_cI, li_0, li_1, li_5, li_12, li_210, lj_0, lj_1, lj_5, lj_12, zJ_add, zJ_sub, zJ_mul, zJ_neg, zJ_l2i, tJ_zJ, zI_add, zI_sub, zI_mul, zI_neg, ↓Option.bind_some, ↓p12_5, zIt2, uR_at, uR_ne, uR_uR, uC_uC, uC_at, ↓reduceIte, decide_eq_true_eq, leT, leF, ltT, ltF, eqT, eqF, ne_eq, not_true_eq_false, not_false_eq_true, Bool.false_eq_true, tI_zI]
  · have ha : a_seen K x y = (1, 0) := if_neg c1
    rw [ha]
    show (_ : ResP) = some (Sum.inl (some (.int (zI (0)))), mk E (uR F 217 (uC (F 217) 5 (zI 1))) G)
    refine into (D := 2) (by omega) hM_250 (rcv_mk rfl (by decide)) rfl fun d hd => ?_
    show runP MP d 250 (0, [some (.ref 217), some (.int (zI x)), some (.int (zI y)), none, none, none, none], [], _) = _
    rw [q_250_0]; (try simp only [↓n_cI, li_0, li_1, li_5, li_12, li_210, lj_0, lj_1, lj_5, lj_12, zJ_add, zJ_sub, zJ_mul, zJ_neg, zJ_l2i, zI_add, zI_sub, zI_mul, zI_neg, ↓Option.bind_some]); simp (disch := (first | assumption | exact tI_rg _ | omega | exact uR_at | exact row_ne hF (by decide) | exact row_ne (row_ne hF (by decide)) (by decide) | exact SnS_18 | exact SnS_30 | exact LdS_44 | exact LdS_46)) only [q_250_61, q_250_90, q_250_107, ↓cc_213t hI, ↓cc_213f hI, ↓cc_219t hI, ↓cc_219f hI, ↓cc_188t, ↓cc_188f, ↓cc_189, zI_i2l, hF, ↓n_cI, li_0, li_1, li_5, li_12, li_210, lj_0, lj_1, lj_5, lj_12, zJ_add, zJ_sub, zJ_mul, zJ_neg, zJ_l2i, tJ_zJ, zI_add, zI_sub, zI_mul, zI_neg, ↓Option.bind_some, ↓p12_5, zIt2, uR_at, uR_ne, uR_uR, uC_uC, uC_at, ↓reduceIte, decide_eq_true_eq, leT, leF, ltT, ltF, eqT, eqF, ne_eq, not_true_eq_false, not_false_eq_true, Bool.false_eq_true, tI_zI]
end S93k
