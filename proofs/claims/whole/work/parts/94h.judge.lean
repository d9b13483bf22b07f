/-! CALLS: judge, behind -/
section S94h
set_option linter.unusedVariables false
set_option linter.unusedSimpArgs false
theorem cl_judge {d : Nat} {E : EnQ} {F : Nat → Int → Int32} {G : Nat → Int → Int64} {K : Int → Int32} (hO : SnO E F 18 K) (hD : SepP E 18) (hst : stepsZ K < 1999000000) (hT : TrR E F G) {x y : Int} (hx : -2147483648 ≤ x ∧ x ≤ 2147483647) (hy : -2147483648 ≤ y ∧ y ≤ 2147483647) (hd : 6 ≤ d) : ∃ E1 F1 G1, callP MP d 136 [.ref 16, .int (zI x), .int (zI y)] (mk E F G) = some (thrP [0, 1, 2] (a_judge K F G x y), mk E1 F1 G1) ∧ KeepC E F G E1 F1 G1 := by
  by_cases c1 : 0 ≤ x ∧ x < 4
  · by_cases c2 : tI (F 243 x) = -1
    · have ha : a_judge K F G x y = (2, 0) := (if_pos c1).trans (if_pos c2)
      refine ⟨jE E, F, G, ?_, KeepC_j⟩
      rw [show thrP [0, 1, 2] (a_judge K F G x y) = Sum.inr 1 by rw [ha]; rfl]
      refine into (D := 5) (by omega) hM_136 (rcv_mk rfl (by decide)) rfl fun d hd => ?_
      show runP MP d 136 (0, [some (.ref 16), some (.int (zI x)), some (.int (zI y)), none, none, none], [], _) = _
      rw [q_136_0]; (try simp only [↓n_rd, ↓n_cI, ↓n_cJ, li_0, li_1, li_2, li_3, li_4, li_5, li_7, li_63, li_64, li_124, lj_0, lj_1, lj_2, lj_3, lj_4, lj_5, zJ_add, zJ_sub, zJ_mul, zJ_neg, zJ_l2i, zI_add, zI_sub, zI_mul, zI_neg, ↓Option.bind_some]); simp (disch := (first | assumption | exact tI_rg _ | omega | exact uR_at | exact row_ne hF (by decide) | exact row_ne (row_ne hF (by decide)) (by decide) | exact SnS_18 | exact SnS_30 | exact LdS_44 | exact LdS_46)) only [q_136_47, q_136_47_1, q_136_64, q_136_64_1, q_136_92, q_136_92_1, q_136_118, q_136_118_1, ↓cc_137m hT, thr_eq, ↓n_rd, ↓n_cI, ↓n_cJ, li_0, li_1, li_2, li_3, li_4, li_5, li_7, li_63, li_64, li_124, lj_0, lj_1, lj_2, lj_3, lj_4, lj_5, zJ_add, zJ_sub, zJ_mul, zJ_neg, zJ_l2i, tJ_zJ, zI_add, zI_sub, zI_mul, zI_neg, ↓Option.bind_some, ↓g5_2, ↓g11_5, ↓g11_4, ↓g7_1, zIt2, uR_at, uR_ne, uR_uR, uC_uC, uC_at, ↓reduceIte, decide_eq_true_eq, leT, leF, ltT, ltF, eqT, eqF, ne_eq, not_true_eq_false, not_false_eq_true, Bool.false_eq_true, tI_zI]
    · by_cases c3 : 0 ≤ y ∧ y ≤ 3
      · have ha : a_judge K F G x y = (0, v_judge K F G x y) := (if_pos c1).trans ((if_neg c2).trans (if_pos c3))
        obtain ⟨q1, q2, q3, q4, q5, q6⟩ := TrR_x hT c1
        have hTS : TrS (tE E) (trH x) := TrS_x (E := tE E) c1
        have hm30 : tdM F x ≤ 30 := by unfold tdM; omega
        have hmF : tI (F 244 x) = tdM F x := by unfold tdM; omega
        have hxn : trH x = 209 ∨ trH x = 211 ∨ trH x = 213 ∨ trH x = 215 := by unfold trH; omega
        have hmC : tI (tkF F 30 18 (trH x) 1) = tdM F x := by rw [tkF_ne (by omega), q3, hmF]
        have hA : ∀ i : Nat, i < tdM F x → tJ (G (trH x + 1) i) = tdA G x i := fun i hi => by rw [q6 i (by omega) (by omega)]; rfl
        have htr := tolC_rg K (tdA G x) (tdM F x)
        obtain ⟨o30, o18, d30, d18⟩ := SnO_tk hO hD
        obtain ⟨F1, r1, o1, t1⟩ := ct_139 (d := d - 1) (G := G) o30 d30 (by omega) hTS hmC hm30 hA (by omega) (by omega)
        obtain ⟨i1, i2, i3⟩ := tolK_inv hO.2.2.2.2 (by omega) (a := tdA G x) hm30
        have hkp : KeepC E F G (tE E) F1 G := (KeepD.tr KeepD_t (KeepD_oth t1)).c
        refine ⟨tE E, F1, G, ?_, hkp⟩
        rw [show thrP [0, 1, 2] (a_judge K F G x y) = Sum.inl (some (.int (zI (v_judge K F G x y)))) by rw [ha]; rfl]
        obtain ⟨e, rfl⟩ : ∃ e, d = e + 1 := ⟨d - 1, by omega⟩
        have hin : callP MP (e + 1) 136 [.ref 16, .int (zI x), .int (zI y)] (mk E F G) = runP MP e 136 (0, [some (.ref 16), some (.int (zI x)), some (.int (zI y)), none, none, none], [], mk E F G) := into_eq (by omega) hM_136 (rcv_mk rfl (by decide)) rfl
        have r1 : callP MP e 139 [.ref 30, .ref (trH x)] (mk (tE E) (tkF F 30 18) G) = some (Sum.inl (some (.int (zI (tolC K (tdA G x) (tdM F x))))), mk (tE E) F1 G) := r1
        have h139 : ∀ {kk : Int → HeapP → ResP} {kx : Nat → HeapP → ResP}, cT (callP MP e 139 [.ref 30, .ref (trH x)] (mk (tE E) (tkF F 30 18) G)) kk kx = kk (tolC K (tdA G x) (tdM F x)) (mk (tE E) F1 G) := fun {kk kx} => cT_ret r1 (by omega)
        have em : tI (F1 (trH x) 1) = tdM F x := by rw [t1 (trH x) (by omega) (by omega) (by omega) (by omega) (by omega) (by omega)]; exact hmC
        have e30 : tI (F1 30 2) = tI (tolK K (tdA G x) (tdM F x) 5) := bO o1.2.2.2.1
        have hsb : shx (tE E) (trH x) = (1, 7, 0) := hTS.1
        have hs30 : shx (tE E) 30 = (1, 5, 0) := rfl
        have hwl := wysN_lt i1
        have hz : ∀ {kk : Int → HeapP → ResP} {kx : Nat → HeapP → ResP}, cT (callP MP e 63 [.ref 30] (mk (tE E) F1 G)) kk kx = kk (tI (zI ((wysN (tolK K (tdA G x) (tdM F x)) : Nat) : Int))) (mk (tE E) F1 G) := fun {kk kx} => by
          unfold cT; rw [cI_ret (ct_63 o1 (by omega))]
        rw [hin]
        unfold v_judge
        by_cases y0 : y = 0
        · rw [if_pos y0]
          by_cases g : tolC K (tdA G x) (tdM F x) < tdM F x
          · rw [if_pos g]; rw [q_136_0]; (try simp only [↓n_rd, ↓n_cI, ↓n_cJ, li_0, li_1, li_2, li_3, li_4, li_5, li_7, li_63, li_64, li_124, lj_0, lj_1, lj_2, lj_3, lj_4, lj_5, zJ_add, zJ_sub, zJ_mul, zJ_neg, zJ_l2i, zI_add, zI_sub, zI_mul, zI_neg, ↓Option.bind_some]); simp (disch := (first | assumption | exact tI_rg _ | omega | exact uR_at | exact row_ne hF (by decide) | exact row_ne (row_ne hF (by decide)) (by decide) | exact SnS_18 | exact SnS_30 | exact LdS_44 | exact LdS_46)) only [q_136_47, q_136_47_1, q_136_64, q_136_64_1, q_136_92, q_136_92_1, q_136_118, q_136_118_1, ↓cc_137t hT, ↓cc_124t, ↓cc_73t, ↓h139, em, ↓n_rd, ↓n_cI, ↓n_cJ, li_0, li_1, li_2, li_3, li_4, li_5, li_7, li_63, li_64, li_124, lj_0, lj_1, lj_2, lj_3, lj_4, lj_5, zJ_add, zJ_sub, zJ_mul, zJ_neg, zJ_l2i, tJ_zJ, zI_add, zI_sub, zI_mul, zI_neg, ↓Option.bind_some, ↓g5_2, ↓g11_5, ↓g11_4, ↓g7_1, zIt2, uR_at, uR_ne, uR_uR, uC_uC, uC_at, ↓reduceIte, decide_eq_true_eq, leT, leF, ltT, ltF, eqT, eqF, ne_eq, not_true_eq_false, not_false_eq_true, Bool.false_eq_true, tI_zI]
          · rw [if_neg g]; rw [q_136_0]; (try simp only [↓n_rd, ↓n_cI, ↓n_cJ, li_0, li_1, li_2, li_3, li_4, li_5, li_7, li_63, li_64, li_124, lj_0, lj_1, lj_2, lj_3, lj_4, lj_5, zJ_add, zJ_sub, zJ_mul, zJ_neg, zJ_l2i, zI_add, zI_sub, zI_mul, zI_neg, ↓Option.bind_some]); simp (disch := (first | assumption | exact tI_rg _ | omega | exact uR_at | exact row_ne hF (by decide) | exact row_ne (row_ne hF (by decide)) (by decide) | exact SnS_18 | exact SnS_30 | exact LdS_44 | exact LdS_46)) only [q_136_47, q_136_47_1, q_136_64, q_136_64_1, q_136_92, q_136_92_1, q_136_118, q_136_118_1, ↓cc_137t hT, ↓cc_124t, ↓cc_73t, ↓h139, em, ↓n_rd, ↓n_cI, ↓n_cJ, li_0, li_1, li_2, li_3, li_4, li_5, li_7, li_63, li_64, li_124, lj_0, lj_1, lj_2, lj_3, lj_4, lj_5, zJ_add, zJ_sub, zJ_mul, zJ_neg, zJ_l2i, tJ_zJ, zI_add, zI_sub, zI_mul, zI_neg, ↓Option.bind_some, ↓g5_2, ↓g11_5, ↓g11_4, ↓g7_1, zIt2, uR_at, uR_ne, uR_uR, uC_uC, uC_at, ↓reduceIte, decide_eq_true_eq, leT, leF, ltT, ltF, eqT, eqF, ne_eq, not_true_eq_false, not_false_eq_true, Bool.false_eq_true, tI_zI]
        · rw [if_neg y0]
          by_cases y1 : y = 1
          · rw [if_pos y1]
            by_cases g : tolC K (tdA G x) (tdM F x) < tdM F x
            · have hAr := tJ_rg (G (trH x + 1) (tolC K (tdA G x) (tdM F x)))
              have hAc := hA (tolC K (tdA G x) (tdM F x)).toNat (by omega)
              rw [show (((tolC K (tdA G x) (tdM F x)).toNat : Nat) : Int) = tolC K (tdA G x) (tdM F x) by omega] at hAc
              have h95 : ∀ {kk : Int → HeapP → ResP} {kx : Nat → HeapP → ResP}, cJT (callP MP e 95 [.ref (trH x), .int (zI (tolC K (tdA G x) (tdM F x)))] (mk (tE E) F1 G)) kk kx = kk (tdA G x (tolC K (tdA G x) (tdM F x))) (mk (tE E) F1 G) := fun {kk kx} => by
                rw [cc_95 hTS (by omega) (by omega), hAc]
              rw [hAc] at hAr
              rw [if_pos g]; rw [q_136_0]; (try simp only [↓n_rd, ↓n_cI, ↓n_cJ, li_0, li_1, li_2, li_3, li_4, li_5, li_7, li_63, li_64, li_124, lj_0, lj_1, lj_2, lj_3, lj_4, lj_5, zJ_add, zJ_sub, zJ_mul, zJ_neg, zJ_l2i, zI_add, zI_sub, zI_mul, zI_neg, ↓Option.bind_some]); simp (disch := (first | assumption | exact tI_rg _ | omega | exact uR_at | exact row_ne hF (by decide) | exact row_ne (row_ne hF (by decide)) (by decide) | exact SnS_18 | exact SnS_30 | exact LdS_44 | exact LdS_46)) only [q_136_47, q_136_47_1, q_136_64, q_136_64_1, q_136_92, q_136_92_1, q_136_118, q_136_118_1, ↓cc_137t hT, ↓cc_124t, ↓cc_73t, ↓h139, em, ↓h95, ↓cc_140 o1, ↓n_rd, ↓n_cI, ↓n_cJ, li_0, li_1, li_2, li_3, li_4, li_5, li_7, li_63, li_64, li_124, lj_0, lj_1, lj_2, lj_3, lj_4, lj_5, zJ_add, zJ_sub, zJ_mul, zJ_neg, zJ_l2i, tJ_zJ, zI_add, zI_sub, zI_mul, zI_neg, ↓Option.bind_some, ↓g5_2, ↓g11_5, ↓g11_4, ↓g7_1, zIt2, uR_at, uR_ne, uR_uR, uC_uC, uC_at, ↓reduceIte, decide_eq_true_eq, leT, leF, ltT, ltF, eqT, eqF, ne_eq, not_true_eq_false, not_false_eq_true, Bool.false_eq_true, tI_zI]
            · rw [if_neg g]; rw [q_136_0]; (try simp only [↓n_rd, ↓n_cI, ↓n_cJ, li_0, li_1, li_2, li_3, li_4, li_5, li_7, li_63, li_64, li_124, lj_0, lj_1, lj_2, lj_3, lj_4, lj_5, zJ_add, zJ_sub, zJ_mul, zJ_neg, zJ_l2i, zI_add, zI_sub, zI_mul, zI_neg, ↓Option.bind_some]); simp (disch := (first | assumption | exact tI_rg _ | omega | exact uR_at | exact row_ne hF (by decide) | exact row_ne (row_ne hF (by decide)) (by decide) | exact SnS_18 | exact SnS_30 | exact LdS_44 | exact LdS_46)) only [q_136_47, q_136_47_1, q_136_64, q_136_64_1, q_136_92, q_136_92_1, q_136_118, q_136_118_1, ↓cc_137t hT, ↓cc_124t, ↓cc_73t, ↓h139, em, ↓n_rd, ↓n_cI, ↓n_cJ, li_0, li_1, li_2, li_3, li_4, li_5, li_7, li_63, li_64, li_124, lj_0, lj_1, lj_2, lj_3, lj_4, lj_5, zJ_add, zJ_sub, zJ_mul, zJ_neg, zJ_l2i, tJ_zJ, zI_add, zI_sub, zI_mul, zI_neg, ↓Option.bind_some, ↓g5_2, ↓g11_5, ↓g11_4, ↓g7_1, zIt2, uR_at, uR_ne, uR_uR, uC_uC, uC_at, ↓reduceIte, decide_eq_true_eq, leT, leF, ltT, ltF, eqT, eqF, ne_eq, not_true_eq_false, not_false_eq_true, Bool.false_eq_true, tI_zI]
          · rw [if_neg y1]
            by_cases y2 : y = 2
            · rw [if_pos y2]
              by_cases g : tolC K (tdA G x) (tdM F x) < tdM F x
              · rw [q_136_0]; (try simp only [↓n_rd, ↓n_cI, ↓n_cJ, li_0, li_1, li_2, li_3, li_4, li_5, li_7, li_63, li_64, li_124, lj_0, lj_1, lj_2, lj_3, lj_4, lj_5, zJ_add, zJ_sub, zJ_mul, zJ_neg, zJ_l2i, zI_add, zI_sub, zI_mul, zI_neg, ↓Option.bind_some]); simp (disch := (first | assumption | exact tI_rg _ | omega | exact uR_at | exact row_ne hF (by decide) | exact row_ne (row_ne hF (by decide)) (by decide) | exact SnS_18 | exact SnS_30 | exact LdS_44 | exact LdS_46)) only [q_136_47, q_136_47_1, q_136_64, q_136_64_1, q_136_92, q_136_92_1, q_136_118, q_136_118_1, ↓cc_137t hT, ↓cc_124t, ↓cc_73t, ↓h139, em, e30, ↓n_rd, ↓n_cI, ↓n_cJ, li_0, li_1, li_2, li_3, li_4, li_5, li_7, li_63, li_64, li_124, lj_0, lj_1, lj_2, lj_3, lj_4, lj_5, zJ_add, zJ_sub, zJ_mul, zJ_neg, zJ_l2i, tJ_zJ, zI_add, zI_sub, zI_mul, zI_neg, ↓Option.bind_some, ↓g5_2, ↓g11_5, ↓g11_4, ↓g7_1, zIt2, uR_at, uR_ne, uR_uR, uC_uC, uC_at, ↓reduceIte, decide_eq_true_eq, leT, leF, ltT, ltF, eqT, eqF, ne_eq, not_true_eq_false, not_false_eq_true, Bool.false_eq_true, tI_zI]
              · rw [q_136_0]; (try simp only [↓n_rd, ↓n_cI, ↓n_cJ, li_0, li_1, li_2, li_3, li_4, li_5, li_7, li_63, li_64, li_124, lj_0, lj_1, lj_2, lj_3, lj_4, lj_5, zJ_add, zJ_sub, zJ_mul, zJ_neg, zJ_l2i, zI_add, zI_sub, zI_mul, zI_neg, ↓Option.bind_some]); simp (disch := (first | assumption | exact tI_rg _ | omega | exact uR_at | exact row_ne hF (by decide) | exact row_ne (row_ne hF (by decide)) (by decide) | exact SnS_18 | exact SnS_30 | exact LdS_44 | exact LdS_46)) only [q_136_47, q_136_47_1, q_136_64, q_136_64_1, q_136_92, q_136_92_1, q_136_118, q_136_118_1, ↓cc_137t hT, ↓cc_124t, ↓cc_73t, ↓h139, em, e30, ↓n_rd, ↓n_cI, ↓n_cJ, li_0, li_1, li_2, li_3, li_4, li_5, li_7, li_63, li_64, li_124, lj_0, lj_1, lj_2, lj_3, lj_4, lj_5, zJ_add, zJ_sub, zJ_mul, zJ_neg, zJ_l2i, tJ_zJ, zI_add, zI_sub, zI_mul, zI_neg, ↓Option.bind_some, ↓g5_2, ↓g11_5, ↓g11_4, ↓g7_1, zIt2, uR_at, uR_ne, uR_uR, uC_uC, uC_at, ↓reduceIte, decide_eq_true_eq, leT, leF, ltT, ltF, eqT, eqF, ne_eq, not_true_eq_false, not_false_eq_true, Bool.false_eq_true, tI_zI]
            · rw [if_neg y2]
              by_cases g : tolC K (tdA G x) (tdM F x) < tdM F x
              · rw [q_136_0]; (try simp only [↓n_rd, ↓n_cI, ↓n_cJ, li_0, li_1, li_2, li_3, li_4, li_5, li_7, li_63, li_64, li_124, lj_0, lj_1, lj_2, lj_3, lj_4, lj_5, zJ_add, zJ_sub, zJ_mul, zJ_neg, zJ_l2i, zI_add, zI_sub, zI_mul, zI_neg, ↓Option.bind_some]); simp (disch := (first | assumption | exact tI_rg _ | omega | exact uR_at | exact row_ne hF (by decide) | exact row_ne (row_ne hF (by decide)) (by decide) | exact SnS_18 | exact SnS_30 | exact LdS_44 | exact LdS_46)) only [q_136_47, q_136_47_1, q_136_64, q_136_64_1, q_136_92, q_136_92_1, q_136_118, q_136_118_1, ↓cc_137t hT, ↓cc_124t, ↓cc_73t, ↓h139, em, ↓hz, zIt2, ↓cc_4, ↓n_rd, ↓n_cI, ↓n_cJ, li_0, li_1, li_2, li_3, li_4, li_5, li_7, li_63, li_64, li_124, lj_0, lj_1, lj_2, lj_3, lj_4, lj_5, zJ_add, zJ_sub, zJ_mul, zJ_neg, zJ_l2i, tJ_zJ, zI_add, zI_sub, zI_mul, zI_neg, ↓Option.bind_some, ↓g5_2, ↓g11_5, ↓g11_4, ↓g7_1, zIt2, uR_at, uR_ne, uR_uR, uC_uC, uC_at, ↓reduceIte, decide_eq_true_eq, leT, leF, ltT, ltF, eqT, eqF, ne_eq, not_true_eq_false, not_false_eq_true, Bool.false_eq_true, tI_zI]
              · rw [q_136_0]; (try simp only [↓n_rd, ↓n_cI, ↓n_cJ, li_0, li_1, li_2, li_3, li_4, li_5, li_7, li_63, li_64, li_124, lj_0, lj_1, lj_2, lj_3, lj_4, lj_5, zJ_add, zJ_sub, zJ_mul, zJ_neg, zJ_l2i, zI_add, zI_sub, zI_mul, zI_neg, ↓Option.bind_some]); simp (disch := (first | assumption | exact tI_rg _ | omega | exact uR_at | exact row_ne hF (by decide) | exact row_ne (row_ne hF (by decide)) (by decide) | exact SnS_18 | exact SnS_30 | exact LdS_44 | exact LdS_46)) only [q_136_47, q_136_47_1, q_136_64, q_136_64_1, q_136_92, q_136_92_1, q_136_118, q_136_118_1, ↓cc_137t hT, ↓cc_124t, ↓cc_73t, ↓h139, em, ↓hz, zIt2, ↓cc_4, ↓n_rd, ↓n_cI, ↓n_cJ, li_0, li_1, li_2, li_3, li_4, li_5, li_7, li_63, li_64, li_124, lj_0, lj_1, lj_2, lj_3, lj_4, lj_5, zJ_add, zJ_sub, zJ_mul, zJ_neg, zJ_l2i, tJ_zJ, zI_add, zI_sub, zI_mul, zI_neg, ↓Option.bind_some, ↓g5_2, ↓g11_5, ↓g11_4, ↓g7_1, zIt2, uR_at, uR_ne, uR_uR, uC_uC, uC_at, ↓reduceIte, decide_eq_true_eq, leT, leF, ltT, ltF, eqT, eqF, ne_eq, not_true_eq_false, not_false_eq_true, Bool.false_eq_true, tI_zI]
      · have ha : a_judge K F G x y = (3, 0) := (if_pos c1).trans ((if_neg c2).trans (if_neg c3))
        refine ⟨jE E, F, G, ?_, KeepC_j⟩
        rw [show thrP [0, 1, 2] (a_judge K F G x y) = Sum.inr 2 by rw [ha]; rfl]
        refine into (D := 5) (by omega) hM_136 (rcv_mk rfl (by decide)) rfl fun d hd => ?_
        show runP MP d 136 (0, [some (.ref 16), some (.int (zI x)), some (.int (zI y)), none, none, none], [], _) = _
        rw [q_136_0]; (try simp only [↓n_rd, ↓n_cI, ↓n_cJ, li_0, li_1, li_2, li_3, li_4, li_5, li_7, li_63, li_64, li_124, lj_0, lj_1, lj_2, lj_3, lj_4, lj_5, zJ_add, zJ_sub, zJ_mul, zJ_neg, zJ_l2i, zI_add, zI_sub, zI_mul, zI_neg, ↓Option.bind_some]); simp (disch := (first | assumption | exact tI_rg _ | omega | exact uR_at | exact row_ne hF (by decide) | exact row_ne (row_ne hF (by decide)) (by decide) | exact SnS_18 | exact SnS_30 | exact LdS_44 | exact LdS_46)) only [q_136_47, q_136_47_1, q_136_64, q_136_64_1, q_136_92, q_136_92_1, q_136_118, q_136_118_1, ↓cc_137t hT, ↓cc_124f, thr_eq, ↓n_rd, ↓n_cI, ↓n_cJ, li_0, li_1, li_2, li_3, li_4, li_5, li_7, li_63, li_64, li_124, lj_0, lj_1, lj_2, lj_3, lj_4, lj_5, zJ_add, zJ_sub, zJ_mul, zJ_neg, zJ_l2i, tJ_zJ, zI_add, zI_sub, zI_mul, zI_neg, ↓Option.bind_some, ↓g5_2, ↓g11_5, ↓g11_4, ↓g7_1, zIt2, uR_at, uR_ne, uR_uR, uC_uC, uC_at, ↓reduceIte, decide_eq_true_eq, leT, leF, ltT, ltF, eqT, eqF, ne_eq, not_true_eq_false, not_false_eq_true, Bool.false_eq_true, tI_zI]
  · have ha : a_judge K F G x y = (1, 0) := if_neg c1
    refine ⟨jE E, F, G, ?_, KeepC_j⟩
    rw [show thrP [0, 1, 2] (a_judge K F G x y) = Sum.inr 0 by rw [ha]; rfl]
    refine into (D := 5) (by omega) hM_136 (rcv_mk rfl (by decide)) rfl fun d hd => ?_
    show runP MP d 136 (0, [some (.ref 16), some (.int (zI x)), some (.int (zI y)), none, none, none], [], _) = _
    rw [q_136_0]; (try simp only [↓n_rd, ↓n_cI, ↓n_cJ, li_0, li_1, li_2, li_3, li_4, li_5, li_7, li_63, li_64, li_124, lj_0, lj_1, lj_2, lj_3, lj_4, lj_5, zJ_add, zJ_sub, zJ_mul, zJ_neg, zJ_l2i, zI_add, zI_sub, zI_mul, zI_neg, ↓Option.bind_some]); simp (disch := (first | assumption | exact tI_rg _ | omega | exact uR_at | exact row_ne hF (by decide) | exact row_ne (row_ne hF (by decide)) (by decide) | exact SnS_18 | exact SnS_30 | exact LdS_44 | exact LdS_46)) only [q_136_47, q_136_47_1, q_136_64, q_136_64_1, q_136_92, q_136_92_1, q_136_118, q_136_118_1, ↓cc_137f, thr_eq, ↓n_rd, ↓n_cI, ↓n_cJ, li_0, li_1, li_2, li_3, li_4, li_5, li_7, li_63, li_64, li_124, lj_0, lj_1, lj_2, lj_3, lj_4, lj_5, zJ_add, zJ_sub, zJ_mul, zJ_neg, zJ_l2i, tJ_zJ, zI_add, zI_sub, zI_mul, zI_neg, ↓Option.bind_some, ↓g5_2, ↓g11_5, ↓g11_4, ↓g7_1, zIt2, uR_at, uR_ne, uR_uR, uC_uC, uC_at, ↓reduceIte, decide_eq_true_eq, leT, leF, ltT, ltF, eqT, eqF, ne_eq, not_true_eq_false, not_false_eq_true, Bool.false_eq_true, tI_zI]
theorem tolS_lo {K : Int → Int32} (hI : InvK K) (hst : stepsZ K < 1999900000) {a : Int → Int} {j : Int} (hj : (j < 38 ∧ j ≠ 5) ∨ (166 ≤ j ∧ j < 169) ∨ (170 ≤ j ∧ j < 206)) : ∀ n : Nat, n ≤ 30 → (∀ i, i < n → whyT (tolS K a i) (a i) = 0) → tolS K a n j = K j := by
  intro n
  induction n with
  | zero => intro _ _; rfl
  | succ n ih =>
    intro hn h
    obtain ⟨i1, i2⟩ := tolS_inv hI hst (a := a) n (by omega) (fun i hi => h i (by omega))
    have hw := (whyT0 (h n (by omega))).2
    have hw3 := (why0 hw).1
    have b3 := i1.1.2.2.2.1
    exact (go_lo i1 (by omega) hw (by omega)).trans (ih (by omega) (fun i hi => h i (by omega)))
theorem tolK_lo {K : Int → Int32} (hI : InvK K) (hst : stepsZ K < 1999900000) {a : Int → Int} {m : Nat} (hm : m ≤ 30) {j : Int} (hj : (j < 38 ∧ j ≠ 5) ∨ (166 ≤ j ∧ j < 169) ∨ (170 ≤ j ∧ j < 206)) : tolK K a m j = K j := by
  have hr := tolC_rg K a m
  exact tolS_lo hI hst hj _ (by omega) tolC_ok
theorem cl_behind {d : Nat} {E : EnQ} {F : Nat → Int → Int32} {G : Nat → Int → Int64} {K : Int → Int32} (hO : SnO E F 18 K) (hD : SepP E 18) (hst : stepsZ K < 1999000000) (hT : TrR E F G) {x y z : Int} (hx : -2147483648 ≤ x ∧ x ≤ 2147483647) (hy : -2147483648 ≤ y ∧ y ≤ 2147483647) (hz : -2147483648 ≤ z ∧ z ≤ 2147483647) (hd : 6 ≤ d) : ∃ E1 F1 G1, callP MP d 143 [.ref 16, .int (zI x), .int (zI y), .int (zI z)] (mk E F G) = some (thrP [0, 1] (a_behind K F G x y z), mk E1 F1 G1) ∧ KeepC E F G E1 F1 G1 := by
  by_cases c1 : 0 ≤ y ∧ y < tI (K 1)
  · by_cases c2 : 0 ≤ z ∧ z < tI (K 1)
    · by_cases c3 : 0 ≤ x ∧ x < 4
      · have cc : (0 ≤ y ∧ y < tI (K 1)) ∧ (0 ≤ z ∧ z < tI (K 1)) ∧ 0 ≤ x ∧ x < 4 := ⟨c1, c2, c3⟩
        by_cases c4 : tI (F 243 x) = -1
        · have ha : a_behind K F G x y z = (2, 0) := (if_pos cc).trans (if_pos c4)
          refine ⟨jE E, F, G, ?_, KeepC_j⟩
          rw [show thrP [0, 1] (a_behind K F G x y z) = Sum.inr 1 by rw [ha]; rfl]
          refine into (D := 5) (by omega) hM_143 (rcv_mk rfl (by decide)) rfl fun d hd => ?_
          show runP MP d 143 (0, [some (.ref 16), some (.int (zI x)), some (.int (zI y)), some (.int (zI z)), none], [], _) = _
          rw [q_143_0]; (try simp only [↓n_cI, li_0, li_4, li_5, zI_add, zI_sub, zI_mul, zI_neg, ↓Option.bind_some]); simp (disch := (first | assumption | exact tI_rg _ | omega | exact uR_at | exact row_ne hF (by decide) | exact row_ne (row_ne hF (by decide)) (by decide) | exact SnS_18 | exact SnS_30 | exact LdS_44 | exact LdS_46)) only [↓cc_127t hO, ↓cc_137m hT, thr_eq, ↓n_cI, li_0, li_4, li_5, zI_add, zI_sub, zI_mul, zI_neg, ↓Option.bind_some, ↓g5_0, ↓g11_5, ↓g11_4, zIt2, uR_at, uR_ne, uR_uR, uC_uC, uC_at, ↓reduceIte, decide_eq_true_eq, leT, leF, ltT, ltF, eqT, eqF, ne_eq, not_true_eq_false, not_false_eq_true, Bool.false_eq_true, tI_zI]
        · have ha : a_behind K F G x y z = (0, cntN (fun k : Nat => prW (tolK K (tdA G x) (tdM F x)) k == wayZ K y z) (tI (tolK K (tdA G x) (tdM F x) 5)).toNat) := (if_pos cc).trans (if_neg c4)
          obtain ⟨q1, q2, q3, q4, q5, q6⟩ := TrR_x hT c3
          have hTS : TrS (tE E) (trH x) := TrS_x (E := tE E) c3
          have hm30 : tdM F x ≤ 30 := by unfold tdM; omega
          have hmF : tI (F 244 x) = tdM F x := by unfold tdM; omega
          have hxn : trH x = 209 ∨ trH x = 211 ∨ trH x = 213 ∨ trH x = 215 := by unfold trH; omega
          have hmC : tI (tkF F 30 18 (trH x) 1) = tdM F x := by rw [tkF_ne (by omega), q3, hmF]
          have hA : ∀ i : Nat, i < tdM F x → tJ (G (trH x + 1) i) = tdA G x i := fun i hi => by rw [q6 i (by omega) (by omega)]; rfl
          have htr := tolC_rg K (tdA G x) (tdM F x)
          obtain ⟨o30, o18, d30, d18⟩ := SnO_tk hO hD
          obtain ⟨F1, r1, o1, t1⟩ := ct_139 (d := d - 1) (G := G) o30 d30 (by omega) hTS hmC hm30 hA (by omega) (by omega)
          obtain ⟨i1, i2, i3⟩ := tolK_inv hO.2.2.2.2 (by omega) (a := tdA G x) hm30
          have hkp : KeepC E F G (tE E) F1 G := (KeepD.tr KeepD_t (KeepD_oth t1)).c
          have b2 := hO.2.2.2.2.1.2.2.1
          have eL : ∀ j, (j < 38 ∧ j ≠ 5) ∨ (166 ≤ j ∧ j < 169) ∨ (170 ≤ j ∧ j < 206) → tolK K (tdA G x) (tdM F x) j = K j := fun j hj => tolK_lo hO.2.2.2.2 (by omega) hm30 hj
          have eW : wayZ (tolK K (tdA G x) (tdM F x)) y z = wayZ K y z := wayZ_congr b2 (fun j hj => eL j (by omega)) y z
          have hw := wayZ_lo b2 y z
          refine ⟨tE E, F1, G, ?_, hkp⟩
          rw [show thrP [0, 1] (a_behind K F G x y z) = Sum.inl (some (.int (zI (cntN (fun k : Nat => prW (tolK K (tdA G x) (tdM F x)) k == wayZ K y z) (tI (tolK K (tdA G x) (tdM F x) 5)).toNat)))) by rw [ha]; rfl]
          obtain ⟨e, rfl⟩ : ∃ e, d = e + 1 := ⟨d - 1, by omega⟩
          have hin : callP MP (e + 1) 143 [.ref 16, .int (zI x), .int (zI y), .int (zI z)] (mk E F G) = runP MP e 143 (0, [some (.ref 16), some (.int (zI x)), some (.int (zI y)), some (.int (zI z)), none], [], mk E F G) := into_eq (by omega) hM_143 (rcv_mk rfl (by decide)) rfl
          have r1 : callP MP e 139 [.ref 30, .ref (trH x)] (mk (tE E) (tkF F 30 18) G) = some (Sum.inl (some (.int (zI (tolC K (tdA G x) (tdM F x))))), mk (tE E) F1 G) := r1
          have h139 : ∀ {kk : Int → HeapP → ResP} {kx : Nat → HeapP → ResP}, cT (callP MP e 139 [.ref 30, .ref (trH x)] (mk (tE E) (tkF F 30 18) G)) kk kx = kk (tolC K (tdA G x) (tdM F x)) (mk (tE E) F1 G) := fun {kk kx} => cT_ret r1 (by omega)
          have cc2 : (0 ≤ y ∧ y < tI (tolK K (tdA G x) (tdM F x) 1)) ∧ (0 ≤ z ∧ z < tI (tolK K (tdA G x) (tdM F x) 1)) := by rw [eL 1 (by omega)]; exact ⟨c1, c2⟩
          have hs30 : shx (tE E) 30 = (1, 5, 0) := rfl
          have hp30 := o1.2.1
          rw [hin]
          rw [q_143_0]; (try simp only [↓n_cI, li_0, li_4, li_5, zI_add, zI_sub, zI_mul, zI_neg, ↓Option.bind_some]); simp (disch := (first | assumption | exact tI_rg _ | omega | exact uR_at | exact row_ne hF (by decide) | exact row_ne (row_ne hF (by decide)) (by decide) | exact SnS_18 | exact SnS_30 | exact LdS_44 | exact LdS_46)) only [↓cc_127t hO, ↓cc_137t hT, ↓cc_73t, ↓h139, ↓cc_26 o1.2.2.1 i1, if_pos cc2, eW, ↓cc_68 o1, ↓n_cI, li_0, li_4, li_5, zI_add, zI_sub, zI_mul, zI_neg, ↓Option.bind_some, ↓g5_0, ↓g11_5, ↓g11_4, zIt2, uR_at, uR_ne, uR_uR, uC_uC, uC_at, ↓reduceIte, decide_eq_true_eq, leT, leF, ltT, ltF, eqT, eqF, ne_eq, not_true_eq_false, not_false_eq_true, Bool.false_eq_true, tI_zI]
      · have ha : a_behind K F G x y z = (1, 0) := if_neg (fun q => c3 q.2.2)
        refine ⟨jE E, F, G, ?_, KeepC_j⟩
        rw [show thrP [0, 1] (a_behind K F G x y z) = Sum.inr 0 by rw [ha]; rfl]
        refine into (D := 5) (by omega) hM_143 (rcv_mk rfl (by decide)) rfl fun d hd => ?_
        show runP MP d 143 (0, [some (.ref 16), some (.int (zI x)), some (.int (zI y)), some (.int (zI z)), none], [], _) = _
        rw [q_143_0]; (try simp only [↓n_cI, li_0, li_4, li_5, zI_add, zI_sub, zI_mul, zI_neg, ↓Option.bind_some]); simp (disch := (first | assumption | exact tI_rg _ | omega | exact uR_at | exact row_ne hF (by decide) | exact row_ne (row_ne hF (by decide)) (by decide) | exact SnS_18 | exact SnS_30 | exact LdS_44 | exact LdS_46)) only [↓cc_127t hO, ↓cc_137f, thr_eq, ↓n_cI, li_0, li_4, li_5, zI_add, zI_sub, zI_mul, zI_neg, ↓Option.bind_some, ↓g5_0, ↓g11_5, ↓g11_4, zIt2, uR_at, uR_ne, uR_uR, uC_uC, uC_at, ↓reduceIte, decide_eq_true_eq, leT, leF, ltT, ltF, eqT, eqF, ne_eq, not_true_eq_false, not_false_eq_true, Bool.false_eq_true, tI_zI]
    · have ha : a_behind K F G x y z = (1, 0) := if_neg (fun q => c2 q.2.1)
      refine ⟨jE E, F, G, ?_, KeepC_j⟩
      rw [show thrP [0, 1] (a_behind K F G x y z) = Sum.inr 0 by rw [ha]; rfl]
      refine into (D := 5) (by omega) hM_143 (rcv_mk rfl (by decide)) rfl fun d hd => ?_
      show runP MP d 143 (0, [some (.ref 16), some (.int (zI x)), some (.int (zI y)), some (.int (zI z)), none], [], _) = _
      rw [q_143_0]; (try simp only [↓n_cI, li_0, li_4, li_5, zI_add, zI_sub, zI_mul, zI_neg, ↓Option.bind_some]); simp (disch := (first | assumption | exact tI_rg _ | omega | exact uR_at | exact row_ne hF (by decide) | exact row_ne (row_ne hF (by decide)) (by decide) | exact SnS_18 | exact SnS_30 | exact LdS_44 | exact LdS_46)) only [↓cc_127t hO, ↓cc_127f hO, thr_eq, ↓n_cI, li_0, li_4, li_5, zI_add, zI_sub, zI_mul, zI_neg, ↓Option.bind_some, ↓g5_0, ↓g11_5, ↓g11_4, zIt2, uR_at, uR_ne, uR_uR, uC_uC, uC_at, ↓reduceIte, decide_eq_true_eq, leT, leF, ltT, ltF, eqT, eqF, ne_eq, not_true_eq_false, not_false_eq_true, Bool.false_eq_true, tI_zI]
  · have ha : a_behind K F G x y z = (1, 0) := if_neg (fun q => c1 q.1)
    refine ⟨jE E, F, G, ?_, KeepC_j⟩
    rw [show thrP [0, 1] (a_behind K F G x y z) = Sum.inr 0 by rw [ha]; rfl]
    refine into (D := 5) (by omega) hM_143 (rcv_mk rfl (by decide)) rfl fun d hd => ?_
    show runP MP d 143 (0, [some (.ref 16), some (.int (zI x)), some (.int (zI y)), some (.int (zI z)), none], [], _) = _
    rw [q_143_0]; (try simp only [↓n_cI, li_0, li_4, li_5, zI_add, zI_sub, zI_mul, zI_neg, ↓Option.bind_some]); simp (disch := (first | assumption | exact tI_rg _ | omega | exact uR_at | exact row_ne hF (by decide) | exact row_ne (row_ne hF (by decide)) (by decide) | exact SnS_18 | exact SnS_30 | exact LdS_44 | exact LdS_46)) only [↓cc_127f hO, thr_eq, ↓n_cI, li_0, li_4, li_5, zI_add, zI_sub, zI_mul, zI_neg, ↓Option.bind_some, ↓g5_0, ↓g11_5, ↓g11_4, zIt2, uR_at, uR_ne, uR_uR, uC_uC, uC_at, ↓reduceIte, decide_eq_true_eq, leT, leF, ltT, ltF, eqT, eqF, ne_eq, not_true_eq_false, not_false_eq_true, Bool.false_eq_true, tI_zI]
end S94h
