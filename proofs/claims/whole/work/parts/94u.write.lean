/-! CALL: write -/
section S94u
set_option linter.unusedVariables false
set_option linter.unusedSimpArgs false
def a_write (F : Nat → Int → Int32) (x y : Int) : Int := if 0 ≤ x ∧ x < 4 then (if tI (F 243 x) = -1 then 2 else if 0 ≤ y ∧ y < tI (F 244 x) then 0 else 3) else 1
def wrG (F : Nat → Int → Int32) (G : Nat → Int → Int64) (x y : Int) (v : Int64) : Nat → Int → Int64 := uR G (trH x + 1) (uC (G (trH x + 1)) y (cutJ (tI (F 243 x)) v))
def wmG (F : Nat → Int → Int32) (G : Nat → Int → Int64) (x y : Int) (v : Int64) : Nat → Int → Int64 := uR G 245 (uC (G 245) (30 * x + y) (cutJ (tI (F 243 x)) v))
theorem cl_write {d : Nat} {E : EnQ} {F : Nat → Int → Int32} {G : Nat → Int → Int64} (hT : TrR E F G) {x y : Int} {v : Int64} (hx : -2147483648 ≤ x ∧ x ≤ 2147483647) (hy : -2147483648 ≤ y ∧ y ≤ 2147483647) (hd : 3 ≤ d) : ∃ E1, (E1 = E ∨ E1 = jE E) ∧ callP MP d 180 [.ref 16, .int (zI x), .int (zI y), .long v] (mk E F G) = some (if a_write F x y = 0 then Sum.inl (some (.long (cutJ (tI (F 243 x)) v))) else if a_write F x y = 1 then Sum.inr 0 else if a_write F x y = 2 then Sum.inr 1 else Sum.inr 3, mk E1 F (if a_write F x y = 0 then wrG F G x y v else G)) := by
  by_cases c1 : 0 ≤ x ∧ x < 4
  · obtain ⟨q1, q2, q3, q4, q5, q6⟩ := TrR_x hT c1
    have ht : TrS E (trH x) := TrS_x c1
    have hs := ht.1
    have q2' : tI (F (trH x) 0) = tI (F 243 x) := by rw [q2]
    have q3' : tI (F (trH x) 1) = tI (F 244 x) := by rw [q3]
    by_cases c2 : tI (F 243 x) = -1
    · have ha : a_write F x y = 2 := (if_pos c1).trans (if_pos c2)
      rw [ha]
      refine ⟨jE E, Or.inr rfl, ?_⟩
      show (_ : ResP) = some (Sum.inr 1, mk (jE E) F G)
      refine into (D := 2) (by omega) hM_180 (rcv_mk rfl (by decide)) rfl fun d hd => ?_
      show runP MP d 180 (0, [some (.ref 16), some (.int (zI x)), some (.int (zI y)), some (.long v), none, none], [], _) = _
      rw [q_180_0]; (try simp only [↓n_rd, ↓n_cJ, li_0, li_1, li_3, li_6, li_7, li_20, lj_0, lj_1, lj_3, lj_6, zJ_add, zJ_sub, zJ_mul, zJ_neg, zJ_l2i, zI_add, zI_sub, zI_mul, zI_neg, ↓Option.bind_some]); simp (disch := (first | assumption | exact tI_rg _ | omega | exact uR_at | exact row_ne hF (by decide) | exact row_ne (row_ne hF (by decide)) (by decide) | exact SnS_18 | exact SnS_30 | exact LdS_44 | exact LdS_46)) only [q_180_20, q_180_20_1, ↓cc_137m hT, thr_eq, ↓n_rd, ↓n_cJ, jnk_mk, li_0, li_1, li_3, li_6, li_7, li_20, lj_0, lj_1, lj_3, lj_6, zJ_add, zJ_sub, zJ_mul, zJ_neg, zJ_l2i, tJ_zJ, zI_add, zI_sub, zI_mul, zI_neg, ↓Option.bind_some, ↓g7_1, zIt2, uR_at, uR_ne, uR_uR, uC_uC, uC_at, ↓reduceIte, decide_eq_true_eq, leT, leF, ltT, ltF, eqT, eqF, ne_eq, not_true_eq_false, not_false_eq_true, Bool.false_eq_true, tI_zI]
    · by_cases c3 : 0 ≤ y ∧ y < tI (F 244 x)
      · have ha : a_write F x y = 0 := (if_pos c1).trans ((if_neg c2).trans (if_pos c3))
        rw [ha]
        refine ⟨E, Or.inl rfl, ?_⟩
        show (_ : ResP) = some (Sum.inl (some (.long (cutJ (tI (F 243 x)) v))), mk E F (wrG F G x y v))
        refine into (D := 2) (by omega) hM_180 (rcv_mk rfl (by decide)) rfl fun d hd => ?_
        show runP MP d 180 (0, [some (.ref 16), some (.int (zI x)), some (.int (zI y)), some (.long v), none, none], [], _) = _
        have r96 := ct_96 (d := d) (F := F) (G := G) ht (by omega) (by omega) (i := y) (by omega) (v := v) (by omega)
        rw [q2'] at r96
        have h96 : ∀ {kk : Int → HeapP → ResP} {kx : Nat → HeapP → ResP}, cJT (callP MP d 96 [.ref (trH x), .int (zI y), .long v] (mk E F G)) kk kx = kk (tJ (cutJ (tI (F 243 x)) v)) (mk E F (wrG F G x y v)) := fun {kk kx} => by
          unfold cJT; rw [cJ_ret r96]; rfl
        rw [q_180_0]; (try simp only [↓n_rd, ↓n_cJ, li_0, li_1, li_3, li_6, li_7, li_20, lj_0, lj_1, lj_3, lj_6, zJ_add, zJ_sub, zJ_mul, zJ_neg, zJ_l2i, zI_add, zI_sub, zI_mul, zI_neg, ↓Option.bind_some]); simp (disch := (first | assumption | exact tI_rg _ | omega | exact uR_at | exact row_ne hF (by decide) | exact row_ne (row_ne hF (by decide)) (by decide) | exact SnS_18 | exact SnS_30 | exact LdS_44 | exact LdS_46)) only [q_180_20, q_180_20_1, ↓cc_137t hT, q3', ↓n_cJ, ↓h96, zJ_tJ, ↓n_rd, ↓n_cJ, jnk_mk, li_0, li_1, li_3, li_6, li_7, li_20, lj_0, lj_1, lj_3, lj_6, zJ_add, zJ_sub, zJ_mul, zJ_neg, zJ_l2i, tJ_zJ, zI_add, zI_sub, zI_mul, zI_neg, ↓Option.bind_some, ↓g7_1, zIt2, uR_at, uR_ne, uR_uR, uC_uC, uC_at, ↓reduceIte, decide_eq_true_eq, leT, leF, ltT, ltF, eqT, eqF, ne_eq, not_true_eq_false, not_false_eq_true, Bool.false_eq_true, tI_zI]
      · have ha : a_write F x y = 3 := (if_pos c1).trans ((if_neg c2).trans (if_neg c3))
        rw [ha]
        refine ⟨jE E, Or.inr rfl, ?_⟩
        show (_ : ResP) = some (Sum.inr 3, mk (jE E) F G)
        refine into (D := 2) (by omega) hM_180 (rcv_mk rfl (by decide)) rfl fun d hd => ?_
        show runP MP d 180 (0, [some (.ref 16), some (.int (zI x)), some (.int (zI y)), some (.long v), none, none], [], _) = _
        by_cases g : y < 0
        · rw [q_180_0]; (try simp only [↓n_rd, ↓n_cJ, li_0, li_1, li_3, li_6, li_7, li_20, lj_0, lj_1, lj_3, lj_6, zJ_add, zJ_sub, zJ_mul, zJ_neg, zJ_l2i, zI_add, zI_sub, zI_mul, zI_neg, ↓Option.bind_some]); simp (disch := (first | assumption | exact tI_rg _ | omega | exact uR_at | exact row_ne hF (by decide) | exact row_ne (row_ne hF (by decide)) (by decide) | exact SnS_18 | exact SnS_30 | exact LdS_44 | exact LdS_46)) only [q_180_20, q_180_20_1, ↓cc_137t hT, q3', thr_eq, ↓n_rd, ↓n_cJ, jnk_mk, li_0, li_1, li_3, li_6, li_7, li_20, lj_0, lj_1, lj_3, lj_6, zJ_add, zJ_sub, zJ_mul, zJ_neg, zJ_l2i, tJ_zJ, zI_add, zI_sub, zI_mul, zI_neg, ↓Option.bind_some, ↓g7_1, zIt2, uR_at, uR_ne, uR_uR, uC_uC, uC_at, ↓reduceIte, decide_eq_true_eq, leT, leF, ltT, ltF, eqT, eqF, ne_eq, not_true_eq_false, not_false_eq_true, Bool.false_eq_true, tI_zI]
        · rw [q_180_0]; (try simp only [↓n_rd, ↓n_cJ, li_0, li_1, li_3, li_6, li_7, li_20, lj_0, lj_1, lj_3, lj_6, zJ_add, zJ_sub, zJ_mul, zJ_neg, zJ_l2i, zI_add, zI_sub, zI_mul, zI_neg, ↓Option.bind_some]); simp (disch := (first | assumption | exact tI_rg _ | omega | exact uR_at | exact row_ne hF (by decide) | exact row_ne (row_ne hF (by decide)) (by decide) | exact SnS_18 | exact SnS_30 | exact LdS_44 | exact LdS_46)) only [q_180_20, q_180_20_1, ↓cc_137t hT, q3', thr_eq, ↓n_rd, ↓n_cJ, jnk_mk, li_0, li_1, li_3, li_6, li_7, li_20, lj_0, lj_1, lj_3, lj_6, zJ_add, zJ_sub, zJ_mul, zJ_neg, zJ_l2i, tJ_zJ, zI_add, zI_sub, zI_mul, zI_neg, ↓Option.bind_some, ↓g7_1, zIt2, uR_at, uR_ne, uR_uR, uC_uC, uC_at, ↓reduceIte, decide_eq_true_eq, leT, leF, ltT, ltF, eqT, eqF, ne_eq, not_true_eq_false, not_false_eq_true, Bool.false_eq_true, tI_zI]
  · have ha : a_write F x y = 1 := if_neg c1
    rw [ha]
    refine ⟨jE E, Or.inr rfl, ?_⟩
    show (_ : ResP) = some (Sum.inr 0, mk (jE E) F G)
    refine into (D := 2) (by omega) hM_180 (rcv_mk rfl (by decide)) rfl fun d hd => ?_
    show runP MP d 180 (0, [some (.ref 16), some (.int (zI x)), some (.int (zI y)), some (.long v), none, none], [], _) = _
    rw [q_180_0]; (try simp only [↓n_rd, ↓n_cJ, li_0, li_1, li_3, li_6, li_7, li_20, lj_0, lj_1, lj_3, lj_6, zJ_add, zJ_sub, zJ_mul, zJ_neg, zJ_l2i, zI_add, zI_sub, zI_mul, zI_neg, ↓Option.bind_some]); simp (disch := (first | assumption | exact tI_rg _ | omega | exact uR_at | exact row_ne hF (by decide) | exact row_ne (row_ne hF (by decide)) (by decide) | exact SnS_18 | exact SnS_30 | exact LdS_44 | exact LdS_46)) only [q_180_20, q_180_20_1, ↓cc_137f, thr_eq, ↓n_rd, ↓n_cJ, jnk_mk, li_0, li_1, li_3, li_6, li_7, li_20, lj_0, lj_1, lj_3, lj_6, zJ_add, zJ_sub, zJ_mul, zJ_neg, zJ_l2i, tJ_zJ, zI_add, zI_sub, zI_mul, zI_neg, ↓Option.bind_some, ↓g7_1, zIt2, uR_at, uR_ne, uR_uR, uC_uC, uC_at, ↓reduceIte, decide_eq_true_eq, leT, leF, ltT, ltF, eqT, eqF, ne_eq, not_true_eq_false, not_false_eq_true, Bool.false_eq_true, tI_zI]
theorem ml_write {d : Nat} {E : EnQ} {F : Nat → Int → Int32} {G : Nat → Int → Int64} (hT : TrR E F G) {x y : Int} {v : Int64} (hx : -2147483648 ≤ x ∧ x ≤ 2147483647) (hy : -2147483648 ≤ y ∧ y ≤ 2147483647) (hd : 4 ≤ d) : callP MP d 315 [.ref 217, .int (zI x), .int (zI y), .long v] (mk E F G) = some (Sum.inl (some (.long (if a_write F x y = 0 then cutJ (tI (F 243 x)) v else zJ 0))), mk E (uR F 217 (uC (F 217) 5 (zI (a_write F x y)))) (if a_write F x y = 0 then wmG F G x y v else G)) := by
  by_cases c1 : 0 ≤ x ∧ x < 4
  · obtain ⟨q1, q2, q3, q4, q5, q6⟩ := TrR_x hT c1
    by_cases c2 : tI (F 243 x) = -1
    · have ha : a_write F x y = 2 := (if_pos c1).trans (if_pos c2)
      have ht : tfZ F x = 2 := (if_pos c1).trans (if_pos c2)
      rw [ha]
      show (_ : ResP) = some (Sum.inl (some (.long (zJ 0))), mk E (uR F 217 (uC (F 217) 5 (zI 2))) G)
      refine into (D := 3) (by omega) hM_315 (rcv_mk rfl (by decide)) rfl fun d hd => ?_
      show runP MP d 315 (0, [some (.ref 217), some (.int (zI x)), some (.int (zI y)), some (.long v), none], [], _) = _
      rw [q_315_0]; (try simp only [↓n_rd, ↓n_al, ↓n_cI, ↓n_cJ, li_0, li_1, li_3, li_5, li_12, lj_0, lj_1, lj_3, lj_5, lj_12, zJ_add, zJ_sub, zJ_mul, zJ_neg, zJ_l2i, zI_add, zI_sub, zI_mul, zI_neg, ↓Option.bind_some]); simp (disch := (first | assumption | exact tI_rg _ | omega | exact uR_at | exact row_ne hF (by decide) | exact row_ne (row_ne hF (by decide)) (by decide) | exact SnS_18 | exact SnS_30 | exact LdS_44 | exact LdS_46)) only [q_315_52, ↓cc_235, ht, zI_i2l, ↓n_rd, ↓n_al, ↓n_cI, ↓n_cJ, li_0, li_1, li_3, li_5, li_12, lj_0, lj_1, lj_3, lj_5, lj_12, zJ_add, zJ_sub, zJ_mul, zJ_neg, zJ_l2i, tJ_zJ, zI_add, zI_sub, zI_mul, zI_neg, ↓Option.bind_some, ↓g12_5, ↓g12_54, ↓p12_5, ↓al_244, ↓as_244, zIt2, uR_at, uR_ne, uR_uR, uC_uC, uC_at, ↓reduceIte, decide_eq_true_eq, leT, leF, ltT, ltF, eqT, eqF, ne_eq, not_true_eq_false, not_false_eq_true, Bool.false_eq_true, tI_zI]
    · have ht : tfZ F x = 0 := (if_pos c1).trans (if_neg c2)
      by_cases c3 : 0 ≤ y ∧ y < tI (F 244 x)
      · have ha : a_write F x y = 0 := (if_pos c1).trans ((if_neg c2).trans (if_pos c3))
        rw [ha]
        show (_ : ResP) = some (Sum.inl (some (.long (cutJ (tI (F 243 x)) v))), mk E (uR F 217 (uC (F 217) 5 (zI 0))) (wmG F G x y v))
        refine into (D := 3) (by omega) hM_315 (rcv_mk rfl (by decide)) rfl fun d hd => ?_
        show runP MP d 315 (0, [some (.ref 217), some (.int (zI x)), some (.int (zI y)), some (.long v), none], [], _) = _
        have e43 : uR F 217 (uC (F 217) 5 (zI 0)) 243 = F 243 := uR_ne (by decide)
        have r313 := ct_313 (d := d) (E := E) (F := uR F 217 (uC (F 217) 5 (zI 0))) (G := G) c1 (by rw [e43]; omega) (i := y) (by omega) (v := v) (by omega)
        rw [e43] at r313
        have h313 : ∀ {kk : Int → HeapP → ResP} {kx : Nat → HeapP → ResP}, cJT (callP MP d 313 [.ref 217, .int (zI x), .int (zI y), .long v] (mk E (uR F 217 (uC (F 217) 5 (zI 0))) G)) kk kx = kk (tJ (cutJ (tI (F 243 x)) v)) (mk E (uR F 217 (uC (F 217) 5 (zI 0))) (wmG F G x y v)) := fun {kk kx} => by
          unfold cJT; rw [cJ_ret r313]; rfl
        have c3' : 0 ≤ y ∧ y ≤ tI (F 244 x) - 1 := by omega
        rw [q_315_0]; (try simp only [↓n_rd, ↓n_al, ↓n_cI, ↓n_cJ, li_0, li_1, li_3, li_5, li_12, lj_0, lj_1, lj_3, lj_5, lj_12, zJ_add, zJ_sub, zJ_mul, zJ_neg, zJ_l2i, zI_add, zI_sub, zI_mul, zI_neg, ↓Option.bind_some]); simp (disch := (first | assumption | exact tI_rg _ | omega | exact uR_at | exact row_ne hF (by decide) | exact row_ne (row_ne hF (by decide)) (by decide) | exact SnS_18 | exact SnS_30 | exact LdS_44 | exact LdS_46)) only [q_315_52, ↓cc_235, ht, ↓cc_188t, zI_i2l, ↓n_cJ, ↓h313, zJ_tJ, ↓n_rd, ↓n_al, ↓n_cI, ↓n_cJ, li_0, li_1, li_3, li_5, li_12, lj_0, lj_1, lj_3, lj_5, lj_12, zJ_add, zJ_sub, zJ_mul, zJ_neg, zJ_l2i, tJ_zJ, zI_add, zI_sub, zI_mul, zI_neg, ↓Option.bind_some, ↓g12_5, ↓g12_54, ↓p12_5, ↓al_244, ↓as_244, zIt2, uR_at, uR_ne, uR_uR, uC_uC, uC_at, ↓reduceIte, decide_eq_true_eq, leT, leF, ltT, ltF, eqT, eqF, ne_eq, not_true_eq_false, not_false_eq_true, Bool.false_eq_true, tI_zI]
      · have ha : a_write F x y = 3 := (if_pos c1).trans ((if_neg c2).trans (if_neg c3))
        rw [ha]
        show (_ : ResP) = some (Sum.inl (some (.long (zJ 0))), mk E (uR F 217 (uC (F 217) 5 (zI 3))) G)
        have c3' : ¬ (0 ≤ y ∧ y ≤ tI (F 244 x) - 1) := by omega
        refine into (D := 3) (by omega) hM_315 (rcv_mk rfl (by decide)) rfl fun d hd => ?_
        show runP MP d 315 (0, [some (.ref 217), some (.int (zI x)), some (.int (zI y)), some (.long v), none], [], _) = _
        rw [q_315_0]; (try simp only [↓n_rd, ↓n_al, ↓n_cI, ↓n_cJ, li_0, li_1, li_3, li_5, li_12, lj_0, lj_1, lj_3, lj_5, lj_12, zJ_add, zJ_sub, zJ_mul, zJ_neg, zJ_l2i, zI_add, zI_sub, zI_mul, zI_neg, ↓Option.bind_some]); simp (disch := (first | assumption | exact tI_rg _ | omega | exact uR_at | exact row_ne hF (by decide) | exact row_ne (row_ne hF (by decide)) (by decide) | exact SnS_18 | exact SnS_30 | exact LdS_44 | exact LdS_46)) only [q_315_52, ↓cc_235, ht, ↓cc_188f, ↓cc_189, zI_i2l, ↓n_rd, ↓n_al, ↓n_cI, ↓n_cJ, li_0, li_1, li_3, li_5, li_12, lj_0, lj_1, lj_3, lj_5, lj_12, zJ_add, zJ_sub, zJ_mul, zJ_neg, zJ_l2i, tJ_zJ, zI_add, zI_sub, zI_mul, zI_neg, ↓Option.bind_some, ↓g12_5, ↓g12_54, ↓p12_5, ↓al_244, ↓as_244, zIt2, uR_at, uR_ne, uR_uR, uC_uC, uC_at, ↓reduceIte, decide_eq_true_eq, leT, leF, ltT, ltF, eqT, eqF, ne_eq, not_true_eq_false, not_false_eq_true, Bool.false_eq_true, tI_zI]
  · have ha : a_write F x y = 1 := if_neg c1
    have ht : tfZ F x = 1 := if_neg c1
    rw [ha]
    show (_ : ResP) = some (Sum.inl (some (.long (zJ 0))), mk E (uR F 217 (uC (F 217) 5 (zI 1))) G)
    refine into (D := 3) (by omega) hM_315 (rcv_mk rfl (by decide)) rfl fun d hd => ?_
    show runP MP d 315 (0, [some (.ref 217), some (.int (zI x)), some (.int (zI y)), some (.long v), none], [], _) = _
    rw [q_315_0]; (try simp only [↓n_rd, ↓n_al, ↓n_cI, ↓n_cJ, li_0, li_1, li_3, li_5, li_12, lj_0, lj_1, lj_3, lj_5, lj_12, zJ_add, zJ_sub, zJ_mul, zJ_neg, zJ_l2i, zI_add, zI_sub, zI_mul, zI_neg, ↓Option.bind_some]); simp (disch := (first | assumption | exact tI_rg _ | omega | exact uR_at | exact row_ne hF (by decide) | exact row_ne (row_ne hF (by decide)) (by decide) | exact SnS_18 | exact SnS_30 | exact LdS_44 | exact LdS_46)) only [q_315_52, ↓cc_235, ht, zI_i2l, ↓n_rd, ↓n_al, ↓n_cI, ↓n_cJ, li_0, li_1, li_3, li_5, li_12, lj_0, lj_1, lj_3, lj_5, lj_12, zJ_add, zJ_sub, zJ_mul, zJ_neg, zJ_l2i, tJ_zJ, zI_add, zI_sub, zI_mul, zI_neg, ↓Option.bind_some, ↓g12_5, ↓g12_54, ↓p12_5, ↓al_244, ↓as_244, zIt2, uR_at, uR_ne, uR_uR, uC_uC, uC_at, ↓reduceIte, decide_eq_true_eq, leT, leF, ltT, ltF, eqT, eqF, ne_eq, not_true_eq_false, not_false_eq_true, Bool.false_eq_true, tI_zI]
end S94u
