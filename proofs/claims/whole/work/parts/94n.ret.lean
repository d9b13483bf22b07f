/-! CALLS: going back -/
section S94n
set_option linter.unusedVariables false
set_option linter.unusedSimpArgs false
theorem retK_I {K : Int → Int32} (hI : InvK K) (hst : stepsZ K < 1999900000) {x : Int} : InvK (retK K x) ∧ (stepsZ K ≤ stepsZ (retK K x) ∧ stepsZ (retK K x) ≤ stepsZ K + 60) ∧ tI (retK K x 5) ≤ tI (K 5) + (stepsZ (retK K x) - stepsZ K) ∧ (∀ j, (j < 38 ∧ j ≠ 5) ∨ (166 ≤ j ∧ j < 169) ∨ (170 ≤ j ∧ j < 206) → retK K x j = K j) := by
  have hb5 := hI.1.2.2.2.2.2.1
  have hb4 := hI.1.2.2.2.2.1
  obtain ⟨i1, i2, i3, i4, i5, i6⟩ := retS_I hI hst (x := x) (tI (K 5)).toNat (by omega)
  exact ⟨i1, ⟨i2.1, by show stepsZ (retS K x _) ≤ _; omega⟩, i3, i6⟩
def a_tryb (K : Int → Int32) (x y : Int) : Int × Int := if 0 ≤ x ∧ x < tI (K 3) then (if 0 ≤ y ∧ y ≤ 1 then (0, if y = 0 then retN K x else tI (retK K x (38 + 2 * x))) else (2, 0)) else (1, 0)
def a_back (K : Int → Int32) (x : Int) : Int × Int := if 0 ≤ x ∧ x < tI (K 3) then (0, retN K x) else (1, 0)
def s_back (K : Int → Int32) (x : Int) : Int → Int32 := if 0 ≤ x ∧ x < tI (K 3) then retK K x else K
theorem cl_tryb {d : Nat} {E : EnQ} {F : Nat → Int → Int32} {G : Nat → Int → Int64} {K : Int → Int32} (hO : SnO E F 18 K) (hD : SepP E 18) (hcs : tI (K 5) ≤ stepsZ K) (hst : stepsZ K < 1999000000) {x y : Int} (hx : -2147483648 ≤ x ∧ x ≤ 2147483647) (hy : -2147483648 ≤ y ∧ y ≤ 2147483647) (hd : 6 ≤ d) : ∃ E1 F1, callP MP d 161 [.ref 16, .int (zI x), .int (zI y)] (mk E F G) = some (thrP [0, 2] (a_tryb K x y), mk E1 F1 G) ∧ KeepC E F G E1 F1 G := by
  have hb3 := hO.2.2.2.2.1.2.2.2.1
  by_cases c1 : 0 ≤ x ∧ x < tI (K 3)
  · by_cases c2 : 0 ≤ y ∧ y ≤ 1
    · have ha : a_tryb K x y = (0, if y = 0 then retN K x else tI (retK K x (38 + 2 * x))) := (if_pos c1).trans (if_pos c2)
      obtain ⟨o30, o18, d30, d18⟩ := SnO_tk hO hD
      obtain ⟨F1, r1, o1, t1⟩ := ct_80 (d := d - 1) (G := G) o30 d30 hcs (by omega) hx (by omega)
      have hkp : KeepC E F G (tE E) F1 G := (KeepD.tr KeepD_t (KeepD_oth t1)).c
      obtain ⟨i1, i2, i3, i4⟩ := retK_I hO.2.2.2.2 (show stepsZ K < 1999900000 by omega) (x := x)
      refine ⟨tE E, F1, ?_, hkp⟩
      rw [show thrP [0, 2] (a_tryb K x y) = Sum.inl (some (.int (zI (if y = 0 then retN K x else tI (retK K x (38 + 2 * x)))))) by rw [ha]; rfl]
      obtain ⟨e, rfl⟩ : ∃ e, d = e + 1 := ⟨d - 1, by omega⟩
      have hin : callP MP (e + 1) 161 [.ref 16, .int (zI x), .int (zI y)] (mk E F G) = runP MP e 161 (0, [some (.ref 16), some (.int (zI x)), some (.int (zI y)), none], [], mk E F G) := into_eq (by omega) hM_161 (rcv_mk rfl (by decide)) rfl
      have r1 : callP MP e 80 [.ref 30, .int (zI x)] (mk (tE E) (tkF F 30 18) G) = some (Sum.inl (some (.int (zI (retN K x)))), mk (tE E) F1 G) := r1
      have h80 : ∀ {kk : Int → HeapP → ResP} {kx : Nat → HeapP → ResP}, cT (callP MP e 80 [.ref 30, .int (zI x)] (mk (tE E) (tkF F 30 18) G)) kk kx = kk (retN K x) (mk (tE E) F1 G) := fun {kk kx} => cT_ret r1 (by unfold retN; omega)
      have hs30 : shx (tE E) 30 = (1, 5, 0) := rfl
      have e9 : F1 39 x = retK K x (38 + 2 * x) := (o1.2.2.2.1.2.2.2.2 x c1.1 (by omega)).1
      rw [hin]
      by_cases g : y = 0
      · rw [if_pos g]
        rw [q_161_0]; (try simp only [↓n_al, ↓n_cI, li_0, li_1, li_4, li_5, li_7, li_48, li_124, li_129, zI_add, zI_sub, zI_mul, zI_neg, ↓Option.bind_some]); simp (disch := (first | assumption | exact tI_rg _ | omega | exact uR_at | exact row_ne hF (by decide) | exact row_ne (row_ne hF (by decide)) (by decide) | exact SnS_18 | exact SnS_30 | exact LdS_44 | exact LdS_46)) only [q_161_48, ↓cc_129t hO, ↓cc_124t, ↓cc_73t, ↓h80, g, ↓n_al, ↓n_cI, li_0, li_1, li_4, li_5, li_7, li_48, li_124, li_129, zI_add, zI_sub, zI_mul, zI_neg, ↓Option.bind_some, ↓g5_7, ↓SnS_l9, ↓SnS_s9, ↓g11_5, ↓g11_4, zIt2, uR_at, uR_ne, uR_uR, uC_uC, uC_at, ↓reduceIte, decide_eq_true_eq, leT, leF, ltT, ltF, eqT, eqF, ne_eq, not_true_eq_false, not_false_eq_true, Bool.false_eq_true, tI_zI]
      · rw [if_neg g]
        rw [q_161_0]; (try simp only [↓n_al, ↓n_cI, li_0, li_1, li_4, li_5, li_7, li_48, li_124, li_129, zI_add, zI_sub, zI_mul, zI_neg, ↓Option.bind_some]); simp (disch := (first | assumption | exact tI_rg _ | omega | exact uR_at | exact row_ne hF (by decide) | exact row_ne (row_ne hF (by decide)) (by decide) | exact SnS_18 | exact SnS_30 | exact LdS_44 | exact LdS_46)) only [q_161_48, ↓cc_129t hO, ↓cc_124t, ↓cc_73t, ↓h80, e9, ↓n_al, ↓n_cI, li_0, li_1, li_4, li_5, li_7, li_48, li_124, li_129, zI_add, zI_sub, zI_mul, zI_neg, ↓Option.bind_some, ↓g5_7, ↓SnS_l9, ↓SnS_s9, ↓g11_5, ↓g11_4, zIt2, uR_at, uR_ne, uR_uR, uC_uC, uC_at, ↓reduceIte, decide_eq_true_eq, leT, leF, ltT, ltF, eqT, eqF, ne_eq, not_true_eq_false, not_false_eq_true, Bool.false_eq_true, tI_zI]
    · have ha : a_tryb K x y = (2, 0) := (if_pos c1).trans (if_neg c2)
      refine ⟨jE E, F, ?_, KeepC_j⟩
      rw [show thrP [0, 2] (a_tryb K x y) = Sum.inr 2 by rw [ha]; rfl]
      refine into (D := 5) (by omega) hM_161 (rcv_mk rfl (by decide)) rfl fun d hd => ?_
      show runP MP d 161 (0, [some (.ref 16), some (.int (zI x)), some (.int (zI y)), none], [], _) = _
      rw [q_161_0]; (try simp only [↓n_al, ↓n_cI, li_0, li_1, li_4, li_5, li_7, li_48, li_124, li_129, zI_add, zI_sub, zI_mul, zI_neg, ↓Option.bind_some]); simp (disch := (first | assumption | exact tI_rg _ | omega | exact uR_at | exact row_ne hF (by decide) | exact row_ne (row_ne hF (by decide)) (by decide) | exact SnS_18 | exact SnS_30 | exact LdS_44 | exact LdS_46)) only [q_161_48, ↓cc_129t hO, ↓cc_124f, thr_eq, ↓n_al, ↓n_cI, li_0, li_1, li_4, li_5, li_7, li_48, li_124, li_129, zI_add, zI_sub, zI_mul, zI_neg, ↓Option.bind_some, ↓g5_7, ↓SnS_l9, ↓SnS_s9, ↓g11_5, ↓g11_4, zIt2, uR_at, uR_ne, uR_uR, uC_uC, uC_at, ↓reduceIte, decide_eq_true_eq, leT, leF, ltT, ltF, eqT, eqF, ne_eq, not_true_eq_false, not_false_eq_true, Bool.false_eq_true, tI_zI]
  · have ha : a_tryb K x y = (1, 0) := if_neg c1
    refine ⟨jE E, F, ?_, KeepC_j⟩
    rw [show thrP [0, 2] (a_tryb K x y) = Sum.inr 0 by rw [ha]; rfl]
    refine into (D := 5) (by omega) hM_161 (rcv_mk rfl (by decide)) rfl fun d hd => ?_
    show runP MP d 161 (0, [some (.ref 16), some (.int (zI x)), some (.int (zI y)), none], [], _) = _
    rw [q_161_0]; (try simp only [↓n_al, ↓n_cI, li_0, li_1, li_4, li_5, li_7, li_48, li_124, li_129, zI_add, zI_sub, zI_mul, zI_neg, ↓Option.bind_some]); simp (disch := (first | assumption | exact tI_rg _ | omega | exact uR_at | exact row_ne hF (by decide) | exact row_ne (row_ne hF (by decide)) (by decide) | exact SnS_18 | exact SnS_30 | exact LdS_44 | exact LdS_46)) only [q_161_48, ↓cc_129f hO, thr_eq, ↓n_al, ↓n_cI, li_0, li_1, li_4, li_5, li_7, li_48, li_124, li_129, zI_add, zI_sub, zI_mul, zI_neg, ↓Option.bind_some, ↓g5_7, ↓SnS_l9, ↓SnS_s9, ↓g11_5, ↓g11_4, zIt2, uR_at, uR_ne, uR_uR, uC_uC, uC_at, ↓reduceIte, decide_eq_true_eq, leT, leF, ltT, ltF, eqT, eqF, ne_eq, not_true_eq_false, not_false_eq_true, Bool.false_eq_true, tI_zI]
theorem cl_back {d : Nat} {E : EnQ} {F : Nat → Int → Int32} {G : Nat → Int → Int64} {K : Int → Int32} (hO : SnO E F 18 K) (hD : SepP E 18) (hcs : tI (K 5) ≤ stepsZ K) (hst : stepsZ K < 1999000000) {x : Int} (hx : -2147483648 ≤ x ∧ x ≤ 2147483647) (hd : 6 ≤ d) : ∃ E1 F1, (E1 = E ∨ E1 = jE E) ∧ callP MP d 162 [.ref 16, .int (zI x)] (mk E F G) = some (thrP [0] (a_back K x), mk E1 F1 G) ∧ SnO E F1 18 (s_back K x) ∧ OthS 18 F F1 := by
  by_cases c1 : 0 ≤ x ∧ x < tI (K 3)
  · have ha : a_back K x = (0, retN K x) := if_pos c1
    have hk : s_back K x = retK K x := if_pos c1
    obtain ⟨F1, r1, o1, t1⟩ := ct_80 (d := d - 1) (G := G) hO hD hcs (by omega) hx (by omega)
    obtain ⟨i1, i2, i3, i4⟩ := retK_I hO.2.2.2.2 (show stepsZ K < 1999900000 by omega) (x := x)
    rw [hk]
    refine ⟨E, F1, Or.inl rfl, ?_, o1, t1⟩
    rw [show thrP [0] (a_back K x) = Sum.inl (some (.int (zI (retN K x)))) by rw [ha]; rfl]
    obtain ⟨e, rfl⟩ : ∃ e, d = e + 1 := ⟨d - 1, by omega⟩
    have hin : callP MP (e + 1) 162 [.ref 16, .int (zI x)] (mk E F G) = runP MP e 162 (0, [some (.ref 16), some (.int (zI x))], [], mk E F G) := into_eq (by omega) hM_162 (rcv_mk rfl (by decide)) rfl
    have r1 : callP MP e 80 [.ref 18, .int (zI x)] (mk E F G) = some (Sum.inl (some (.int (zI (retN K x)))), mk E F1 G) := r1
    have h80 : ∀ {kk : Int → HeapP → ResP} {kx : Nat → HeapP → ResP}, cT (callP MP e 80 [.ref 18, .int (zI x)] (mk E F G)) kk kx = kk (retN K x) (mk E F1 G) := fun {kk kx} => cT_ret r1 (by unfold retN; omega)
    rw [hin]
    rw [q_162_0]; (try simp only [↓n_cI, li_0, li_4, li_129, zI_add, zI_sub, zI_mul, zI_neg, ↓Option.bind_some]); simp (disch := (first | assumption | exact tI_rg _ | omega | exact uR_at | exact row_ne hF (by decide) | exact row_ne (row_ne hF (by decide)) (by decide) | exact SnS_18 | exact SnS_30 | exact LdS_44 | exact LdS_46)) only [↓cc_129t hO, ↓h80, ↓n_cI, li_0, li_4, li_129, zI_add, zI_sub, zI_mul, zI_neg, ↓Option.bind_some, ↓g11_4, zIt2, uR_at, uR_ne, uR_uR, uC_uC, uC_at, ↓reduceIte, decide_eq_true_eq, leT, leF, ltT, ltF, eqT, eqF, ne_eq, not_true_eq_false, not_false_eq_true, Bool.false_eq_true, tI_zI]
  · have ha : a_back K x = (1, 0) := if_neg c1
    have hk : s_back K x = K := if_neg c1
    rw [hk]
    refine ⟨jE E, F, Or.inr rfl, ?_, hO, OthS_rf⟩
    rw [show thrP [0] (a_back K x) = Sum.inr 0 by rw [ha]; rfl]
    refine into (D := 5) (by omega) hM_162 (rcv_mk rfl (by decide)) rfl fun d hd => ?_
    show runP MP d 162 (0, [some (.ref 16), some (.int (zI x))], [], _) = _
    rw [q_162_0]; (try simp only [↓n_cI, li_0, li_4, li_129, zI_add, zI_sub, zI_mul, zI_neg, ↓Option.bind_some]); simp (disch := (first | assumption | exact tI_rg _ | omega | exact uR_at | exact row_ne hF (by decide) | exact row_ne (row_ne hF (by decide)) (by decide) | exact SnS_18 | exact SnS_30 | exact LdS_44 | exact LdS_46)) only [↓cc_129f hO, thr_eq, ↓n_cI, li_0, li_4, li_129, zI_add, zI_sub, zI_mul, zI_neg, ↓Option.bind_some, ↓g11_4, zIt2, uR_at, uR_ne, uR_uR, uC_uC, uC_at, ↓reduceIte, decide_eq_true_eq, leT, leF, ltT, ltF, eqT, eqF, ne_eq, not_true_eq_false, not_false_eq_true, Bool.false_eq_true, tI_zI]
end S94n
