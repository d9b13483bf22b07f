/-! MODEL: distance -/
section S94za
set_option linter.unusedVariables false
set_option linter.unusedSimpArgs false
def a_dist (K : Int → Int32) (x y : Int) : Int × Int := if 0 ≤ x ∧ x < tI (K 1) then (if 0 ≤ y ∧ y < tI (K 1) then (0, farZ K 0 x (tI (K 1)).toNat y) else (1, 0)) else (1, 0)
theorem ml_dist {d : Nat} {E : EnQ} {F : Nat → Int → Int32} {G : Nat → Int → Int64} {K : Int → Int32} (hI : InvK K) (hF : F 218 = K) {x y : Int} (hx : -2147483648 ≤ x ∧ x ≤ 2147483647) (hy : -2147483648 ≤ y ∧ y ≤ 2147483647) (hd : 4 ≤ d) : ∃ F1, callP MP d 212 [.ref 217, .int (zI x), .int (zI y)] (mk E F G) = some (Sum.inl (some (.int (zI (a_dist K x y).2))), mk E F1 G) ∧ F1 217 5 = zI (a_dist K x y).1 ∧ KeepM F G F1 G := by
  have hb1 := hI.1.2.1
  by_cases c1 : 0 ≤ x ∧ x < tI (K 1)
  · by_cases c2 : 0 ≤ y ∧ y < tI (K 1)
    · have ha : a_dist K x y = (0, farZ K 0 x (tI (K 1)).toNat y) := (if_pos c1).trans (if_pos c2)
      rw [ha]
      obtain ⟨r, r1, r2⟩ := ct_215 (d := d - 1) (E := E) (F := uR F 217 (uC (F 217) 5 (zI 0))) (G := G) hI (row_ne hF (by decide)) c1 (Or.inl rfl) (by omega)
      have ey := r2 y c2.1 (by omega)
      have hr : farZ K 0 x (tI (K 1)).toNat y = -1 ∨ (0 ≤ farZ K 0 x (tI (K 1)).toNat y ∧ farZ K 0 x (tI (K 1)).toNat y ≤ (tI (K 1)).toNat) := far_rg _ _
      refine ⟨uR (uR F 217 (uC (F 217) 5 (zI 0))) 224 r, ?_, by rw [uR_ne (by decide), uR_at, uC_at], (KeepM_217 (k := 5) (by omega)).tr (KeepM_row (q := 224) (by omega))⟩
      show (_ : ResP) = some (Sum.inl (some (.int (zI (farZ K 0 x (tI (K 1)).toNat y)))), _)
      obtain ⟨e, rfl⟩ : ∃ e, d = e + 1 := ⟨d - 1, by omega⟩
      have hin : callP MP (e + 1) 212 [.ref 217, .int (zI x), .int (zI y)] (mk E F G) = runP MP e 212 (0, [some (.ref 217), some (.int (zI x)), some (.int (zI y))], [], mk E F G) := into_eq (by omega) hM_212 (rcv_mk rfl (by decide)) rfl
      have r1 : callP MP e 215 [.ref 217, .int (zI x), .int (zI 0)] (mk E (uR F 217 (uC (F 217) 5 (zI 0))) G) = some (Sum.inl none, mk E (uR (uR F 217 (uC (F 217) 5 (zI 0))) 224 r) G) := r1
      have h215 : ∀ {kk : HeapP → ResP} {kx : Nat → HeapP → ResP}, cV (callP MP e 215 [.ref 217, .int (zI x), .int (zI 0)] (mk E (uR F 217 (uC (F 217) 5 (zI 0))) G)) kk kx = kk (mk E (uR (uR F 217 (uC (F 217) 5 (zI 0))) 224 r) G) := fun {kk kx} => cV_ret r1
      rw [hin]
      rw [q_212_0]; (try simp only [↓n_al, ↓n_cI, li_0, li_1, li_5, li_12, lj_0, lj_1, lj_5, lj_12, zJ_add, zJ_sub, zJ_mul, zJ_neg, zJ_l2i, zI_add, zI_sub, zI_mul, zI_neg, ↓Option.bind_some]); simp (disch := (first | assumption | exact tI_rg _ | omega | exact uR_at | exact row_ne hF (by decide) | exact row_ne (row_ne hF (by decide)) (by decide) | exact SnS_18 | exact SnS_30 | exact LdS_44 | exact LdS_46)) only [q_212_23, ↓cc_213t hI, ↓h215, ey, zI_i2l, ↓n_al, ↓n_cI, li_0, li_1, li_5, li_12, lj_0, lj_1, lj_5, lj_12, zJ_add, zJ_sub, zJ_mul, zJ_neg, zJ_l2i, tJ_zJ, zI_add, zI_sub, zI_mul, zI_neg, ↓Option.bind_some, ↓g12_17, ↓p12_5, ↓al_224, ↓as_224, zIt2, uR_at, uR_ne, uR_uR, uC_uC, uC_at, ↓reduceIte, decide_eq_true_eq, leT, leF, ltT, ltF, eqT, eqF, ne_eq, not_true_eq_false, not_false_eq_true, Bool.false_eq_true, tI_zI]
    · have ha : a_dist K x y = (1, 0) := (if_pos c1).trans (if_neg c2)
      rw [ha]
      refine ⟨uR F 217 (uC (F 217) 5 (zI 1)), ?_, by rw [uR_at, uC_at], KeepM_c⟩
      show (_ : ResP) = some (Sum.inl (some (.int (zI 0))), _)
      refine into (D := 3) (by omega) hM_212 (rcv_mk rfl (by decide)) rfl fun d hd => ?_
      show runP MP d 212 (0, [some (.ref 217), some (.int (zI x)), some (.int (zI y))], [], _) = _
      rw [q_212_0]; (try simp only [↓n_al, ↓n_cI, li_0, li_1, li_5, li_12, lj_0, lj_1, lj_5, lj_12, zJ_add, zJ_sub, zJ_mul, zJ_neg, zJ_l2i, zI_add, zI_sub, zI_mul, zI_neg, ↓Option.bind_some]); simp (disch := (first | assumption | exact tI_rg _ | omega | exact uR_at | exact row_ne hF (by decide) | exact row_ne (row_ne hF (by decide)) (by decide) | exact SnS_18 | exact SnS_30 | exact LdS_44 | exact LdS_46)) only [q_212_23, ↓cc_213t hI, ↓cc_213f hI, ↓cc_189, zI_i2l, ↓n_al, ↓n_cI, li_0, li_1, li_5, li_12, lj_0, lj_1, lj_5, lj_12, zJ_add, zJ_sub, zJ_mul, zJ_neg, zJ_l2i, tJ_zJ, zI_add, zI_sub, zI_mul, zI_neg, ↓Option.bind_some, ↓g12_17, ↓p12_5, ↓al_224, ↓as_224, zIt2, uR_at, uR_ne, uR_uR, uC_uC, uC_at, ↓reduceIte, decide_eq_true_eq, leT, leF, ltT, ltF, eqT, eqF, ne_eq, not_true_eq_false, not_false_eq_true, Bool.false_eq_true, tI_zI]
  · have ha : a_dist K x y = (1, 0) := if_neg c1
    rw [ha]
    refine ⟨uR F 217 (uC (F 217) 5 (zI 1)), ?_, by rw [uR_at, uC_at], KeepM_c⟩
    show (_ : ResP) = some (Sum.inl (some (.int (zI 0))), _)
    refine into (D := 3) (by omega) hM_212 (rcv_mk rfl (by decide)) rfl fun d hd => ?_
    show runP MP d 212 (0, [some (.ref 217), some (.int (zI x)), some (.int (zI y))], [], _) = _
    rw [q_212_0]; (try simp only [↓n_al, ↓n_cI, li_0, li_1, li_5, li_12, lj_0, lj_1, lj_5, lj_12, zJ_add, zJ_sub, zJ_mul, zJ_neg, zJ_l2i, zI_add, zI_sub, zI_mul, zI_neg, ↓Option.bind_some]); simp (disch := (first | assumption | exact tI_rg _ | omega | exact uR_at | exact row_ne hF (by decide) | exact row_ne (row_ne hF (by decide)) (by decide) | exact SnS_18 | exact SnS_30 | exact LdS_44 | exact LdS_46)) only [q_212_23, ↓cc_213f hI, ↓cc_189, zI_i2l, ↓n_al, ↓n_cI, li_0, li_1, li_5, li_12, lj_0, lj_1, lj_5, lj_12, zJ_add, zJ_sub, zJ_mul, zJ_neg, zJ_l2i, tJ_zJ, zI_add, zI_sub, zI_mul, zI_neg, ↓Option.bind_some, ↓g12_17, ↓p12_5, ↓al_224, ↓as_224, zIt2, uR_at, uR_ne, uR_uR, uC_uC, uC_at, ↓reduceIte, decide_eq_true_eq, leT, leF, ltT, ltF, eqT, eqF, ne_eq, not_true_eq_false, not_false_eq_true, Bool.false_eq_true, tI_zI]
end S94za
