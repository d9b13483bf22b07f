/-! MODEL: going back, calls -/
section S94p
set_option linter.unusedVariables false
set_option linter.unusedSimpArgs false
theorem retS_out {K : Int → Int32} (hI : InvK K) (hst : stepsZ K < 1999900000) {x j : Int} (hj : j < 0 ∨ 408 ≤ j) : ∀ m : Nat, (m : Int) ≤ tI (K 5) → retS K x m j = K j := by
  intro m
  induction m with
  | zero => intro _; rfl
  | succ m ih =>
    intro hm
    have hi := retS_I hI hst (x := x) m (by omega)
    by_cases g : stepsZ (retS K x m) - stepsZ K + m < tI (retS K x m 5) ∧ rtO K m = x
    · rw [show retS K x (m + 1) = goK false (retS K x m) x (fromZ K (rtW K m)) from if_pos g, go_out hi.1 (RetI_can hI hi (by omega) g) hj]
      exact ih (by omega)
    · rw [show retS K x (m + 1) = retS K x m from if_neg g]
      exact ih (by omega)
theorem KeepM_22 {F F1 : Nat → Int → Int32} {G : Nat → Int → Int64} (h : ∀ b, b ≠ 225 → b ≠ 226 → F1 b = F b) : KeepM F G F1 G :=
  ⟨fun q h1 h2 h3 h4 => h q (by omega) (by omega), fun j _ => by rw [h 217 (by decide) (by decide)], fun _ _ => rfl⟩
theorem ml_back {d : Nat} {E : EnQ} {F : Nat → Int → Int32} {G : Nat → Int → Int64} {K : Int → Int32} (hI : InvK K) (hF : F 218 = K) (hc : tI (F 217 18) = 0) (hst : stepsZ K < 1999000000) {x : Int} (hx : -2147483648 ≤ x ∧ x ≤ 2147483647) (hd : 5 ≤ d) : ∃ F1, callP MP d 264 [.ref 217, .int (zI x)] (mk E F G) = some (Sum.inl (some (.int (zI (a_back K x).2))), mk E (uR F1 218 (s_back K x)) G) ∧ F1 217 5 = zI (a_back K x).1 ∧ KeepM F G F1 G := by
  have hb3 := hI.1.2.2.2.1
  have hK : ∀ {r}, uR (uR F 217 r) 218 K = uR F 217 r := fun {r} => by rw [← hF, ← (uR_ne (show (218 : Nat) ≠ 217 by decide) : uR F 217 r 218 = F 218), uR_self]
  by_cases c1 : 0 ≤ x ∧ x < tI (K 3)
  · have ha : a_back K x = (0, retN K x) := if_pos c1
    have hk : s_back K x = retK K x := if_pos c1
    obtain ⟨F1, r1, o1⟩ := ct_263 (d := d - 1) (E := E) (F := uR F 217 (uC (F 217) 5 (zI 0))) (G := G) hI (row_ne hF (by decide)) (by rw [uR_at, uC_ne (by omega)]; exact hc) (by omega) hx (by omega)
    obtain ⟨i1, i2, i3, i4⟩ := retK_I hI (show stepsZ K < 1999900000 by omega) (x := x)
    rw [ha, hk]
    refine ⟨F1, ?_, by rw [o1 217 (by decide) (by decide), uR_at, uC_at], (KeepM_217 (k := 5) (by omega)).tr (KeepM_22 o1)⟩
    show (_ : ResP) = some (Sum.inl (some (.int (zI (retN K x)))), mk E (uR F1 218 (retK K x)) G)
    obtain ⟨e, rfl⟩ : ∃ e, d = e + 1 := ⟨d - 1, by omega⟩
    have hin : callP MP (e + 1) 264 [.ref 217, .int (zI x)] (mk E F G) = runP MP e 264 (0, [some (.ref 217), some (.int (zI x))], [], mk E F G) := into_eq (by omega) hM_264 (rcv_mk rfl (by decide)) rfl
    have r1 : callP MP e 263 [.ref 217, .int (zI x)] (mk E (uR F 217 (uC (F 217) 5 (zI 0))) G) = some (Sum.inl (some (.int (zI (retN K x)))), mk E (uR F1 218 (retK K x)) G) := r1
    have h263 : ∀ {kk : Int → HeapP → ResP} {kx : Nat → HeapP → ResP}, cT (callP MP e 263 [.ref 217, .int (zI x)] (mk E (uR F 217 (uC (F 217) 5 (zI 0))) G)) kk kx = kk (retN K x) (mk E (uR F1 218 (retK K x)) G) := fun {kk kx} => cT_ret r1 (by unfold retN; omega)
    rw [hin]
    rw [q_264_0]; (try simp only [↓n_cI, li_0, li_1, li_5, li_12, lj_0, lj_1, lj_5, lj_12, zJ_add, zJ_sub, zJ_mul, zJ_neg, zJ_l2i, zI_add, zI_sub, zI_mul, zI_neg, ↓Option.bind_some]); simp (disch := (first | assumption | exact tI_rg _ | omega | exact uR_at | exact row_ne hF (by decide) | exact row_ne (row_ne hF (by decide)) (by decide) | exact SnS_18 | exact SnS_30 | exact LdS_44 | exact LdS_46)) only [q_264_27, ↓cc_219t hI, ↓h263, zI_i2l, ↓n_cI, li_0, li_1, li_5, li_12, lj_0, lj_1, lj_5, lj_12, zJ_add, zJ_sub, zJ_mul, zJ_neg, zJ_l2i, tJ_zJ, zI_add, zI_sub, zI_mul, zI_neg, ↓Option.bind_some, ↓p12_5, zIt2, uR_at, uR_ne, uR_uR, uC_uC, uC_at, ↓reduceIte, decide_eq_true_eq, leT, leF, ltT, ltF, eqT, eqF, ne_eq, not_true_eq_false, not_false_eq_true, Bool.false_eq_true, tI_zI]
  · have ha : a_back K x = (1, 0) := if_neg c1
    have hk : s_back K x = K := if_neg c1
    rw [ha, hk]
    refine ⟨uR F 217 (uC (F 217) 5 (zI 1)), ?_, by rw [uR_at, uC_at], KeepM_217 (k := 5) (by omega)⟩
    rw [hK]
    show (_ : ResP) = some (Sum.inl (some (.int (zI 0))), mk E (uR F 217 (uC (F 217) 5 (zI 1))) G)
    refine into (D := 4) (by omega) hM_264 (rcv_mk rfl (by decide)) rfl fun d hd => ?_
    show runP MP d 264 (0, [some (.ref 217), some (.int (zI x))], [], _) = _
    rw [q_264_0]; (try simp only [↓n_cI, li_0, li_1, li_5, li_12, lj_0, lj_1, lj_5, lj_12, zJ_add, zJ_sub, zJ_mul, zJ_neg, zJ_l2i, zI_add, zI_sub, zI_mul, zI_neg, ↓Option.bind_some]); simp (disch := (first | assumption | exact tI_rg _ | omega | exact uR_at | exact row_ne hF (by decide) | exact row_ne (row_ne hF (by decide)) (by decide) | exact SnS_18 | exact SnS_30 | exact LdS_44 | exact LdS_46)) only [q_264_27, ↓cc_219f hI, ↓cc_189, zI_i2l, ↓n_cI, li_0, li_1, li_5, li_12, lj_0, lj_1, lj_5, lj_12, zJ_add, zJ_sub, zJ_mul, zJ_neg, zJ_l2i, tJ_zJ, zI_add, zI_sub, zI_mul, zI_neg, ↓Option.bind_some, ↓p12_5, zIt2, uR_at, uR_ne, uR_uR, uC_uC, uC_at, ↓reduceIte, decide_eq_true_eq, leT, leF, ltT, ltF, eqT, eqF, ne_eq, not_true_eq_false, not_false_eq_true, Bool.false_eq_true, tI_zI]
theorem ml_tryb {d : Nat} {E : EnQ} {F : Nat → Int → Int32} {G : Nat → Int → Int64} {K : Int → Int32} (hI : InvK K) (hF : F 218 = K) (hc : tI (F 217 18) = 0) (hst : stepsZ K < 1999000000) {x y : Int} (hx : -2147483648 ≤ x ∧ x ≤ 2147483647) (hy : -2147483648 ≤ y ∧ y ≤ 2147483647) (hd : 5 ≤ d) : ∃ F1, callP MP d 262 [.ref 217, .int (zI x), .int (zI y)] (mk E F G) = some (Sum.inl (some (.int (zI (a_tryb K x y).2))), mk E F1 G) ∧ F1 217 5 = zI (a_tryb K x y).1 ∧ KeepM F G F1 G := by
  have hb3 := hI.1.2.2.2.1
  by_cases c1 : 0 ≤ x ∧ x < tI (K 3)
  · by_cases c2 : 0 ≤ y ∧ y ≤ 1
    · have ha : a_tryb K x y = (0, if y = 0 then retN K x else tI (retK K x (38 + 2 * x))) := (if_pos c1).trans (if_pos c2)
      have f218 : jdF F 0 218 = K := by unfold jdF; rw [uR_ne (by decide), uR_ne (by decide)]; exact hF
      have f217 : jdF F 0 217 = uC (F 217) 5 (zI 0) := by unfold jdF; rw [uR_ne (by decide), uR_at]
      have f220 : jdF F 0 220 = cpK K (F 220) := by unfold jdF; rw [uR_at, hF]
      obtain ⟨F1, r1, o1⟩ := ct_263 (d := d - 1) (E := E) (F := jdF F 0) (G := G) hI f218 (by rw [f217, uC_ne (by omega)]; exact hc) (by omega) hx (by omega)
      obtain ⟨i1, i2, i3, i4⟩ := retK_I hI (show stepsZ K < 1999900000 by omega) (x := x)
      have hb5 := hI.1.2.2.2.2.2.1
      have hout : ∀ j, (j < 0 ∨ 408 ≤ j) → retK K x j = K j := fun j hj => retS_out hI (by omega) hj _ (by omega)
      have g220 : F1 220 = cpK K (F 220) := (o1 220 (by decide) (by decide)).trans f220
      have g218 : F1 218 = K := (o1 218 (by decide) (by decide)).trans f218
      have g217 : F1 217 = uC (F 217) 5 (zI 0) := (o1 217 (by decide) (by decide)).trans f217
      rw [ha]
      have hend : uR (uR (uR F1 218 (retK K x)) 217 (uC (uC (F 217) 5 (zI 0)) 22 (retK K x (38 + 2 * x)))) 218 K = uR F1 217 (uC (uC (F 217) 5 (zI 0)) 22 (retK K x (38 + 2 * x))) := by
        rw [uR_comm (show (217 : Nat) ≠ 218 by decide), uR_uR, ← g218, uR_self]
      refine ⟨uR F1 217 (uC (uC (F 217) 5 (zI 0)) 22 (retK K x (38 + 2 * x))), ?_, by rw [uR_at, uC_ne (by omega), uC_at], ?_⟩
      · show (_ : ResP) = some (Sum.inl (some (.int (zI (if y = 0 then retN K x else tI (retK K x (38 + 2 * x)))))), _)
        obtain ⟨e, rfl⟩ : ∃ e, d = e + 1 := ⟨d - 1, by omega⟩
        have hin : callP MP (e + 1) 262 [.ref 217, .int (zI x), .int (zI y)] (mk E F G) = runP MP e 262 (0, [some (.ref 217), some (.int (zI x)), some (.int (zI y)), none], [], mk E F G) := into_eq (by omega) hM_262 (rcv_mk rfl (by decide)) rfl
        have r1 : callP MP e 263 [.ref 217, .int (zI x)] (mk E (jdF F 0) G) = some (Sum.inl (some (.int (zI (retN K x)))), mk E (uR F1 218 (retK K x)) G) := r1
        have h263 : ∀ {kk : Int → HeapP → ResP} {kx : Nat → HeapP → ResP}, cT (callP MP e 263 [.ref 217, .int (zI x)] (mk E (jdF F 0) G)) kk kx = kk (retN K x) (mk E (uR F1 218 (retK K x)) G) := fun {kk kx} => cT_ret r1 (by unfold retN; omega)
        have h206a : ∀ {kk : HeapP → ResP} {kx : Nat → HeapP → ResP}, cV (callP MP e 206 [.ref 218, .ref 220] (mk E (uR F 217 (uC (F 217) 5 (zI 0))) G)) kk kx = kk (mk E (jdF F 0) G) := fun {kk kx} => by
          rw [cc_206 (E := E) (a := 218) (b := 220) rfl rfl (by omega) (by omega), uR_ne (by decide), uR_ne (by decide)]
          rfl
        have h206b : ∀ {kk : HeapP → ResP} {kx : Nat → HeapP → ResP}, cV (callP MP e 206 [.ref 220, .ref 218] (mk E (uR (uR F1 218 (retK K x)) 217 (uC (uC (F 217) 5 (zI 0)) 22 (zI (tI (retK K x (38 + 2 * x)))))) G)) kk kx = kk (mk E (uR F1 217 (uC (uC (F 217) 5 (zI 0)) 22 (retK K x (38 + 2 * x)))) G) := fun {kk kx} => by
          rw [zI_tI, cc_206 (E := E) (a := 220) (b := 218) rfl rfl (by omega) (by omega), uR_ne (by decide), uR_ne (by decide), uR_ne (by decide), uR_at, g220, cp_back hout, hend]
        rw [hin]
        by_cases g : y = 0
        · rw [if_pos g]
          rw [q_262_0]; (try simp only [↓n_rd, ↓n_cI, li_0, li_1, li_2, li_5, li_12, li_206, lj_0, lj_1, lj_2, lj_5, lj_12, zJ_add, zJ_sub, zJ_mul, zJ_neg, zJ_l2i, zI_add, zI_sub, zI_mul, zI_neg, ↓Option.bind_some]); simp (disch := (first | assumption | exact tI_rg _ | omega | exact uR_at | exact row_ne hF (by decide) | exact row_ne (row_ne hF (by decide)) (by decide) | exact SnS_18 | exact SnS_30 | exact LdS_44 | exact LdS_46)) only [q_262_29, q_262_90, ↓cc_219t hI, ↓cc_188t, ↓h206a, ↓h263, ↓cc_228 i1, ↓h206b, zI_i2l, g217, g, ↓n_rd, ↓n_cI, li_0, li_1, li_2, li_5, li_12, li_206, lj_0, lj_1, lj_2, lj_5, lj_12, zJ_add, zJ_sub, zJ_mul, zJ_neg, zJ_l2i, tJ_zJ, zI_add, zI_sub, zI_mul, zI_neg, ↓Option.bind_some, ↓g12_5, ↓g12_22, ↓g12_2, ↓g12_0, ↓p12_5, ↓p12_22, ↓al_218, ↓as_218, ↓al_220, ↓as_220, zIt2, uR_at, uR_ne, uR_uR, uC_uC, uC_at, ↓reduceIte, decide_eq_true_eq, leT, leF, ltT, ltF, eqT, eqF, ne_eq, not_true_eq_false, not_false_eq_true, Bool.false_eq_true, tI_zI]
        · rw [if_neg g]
          rw [q_262_0]; (try simp only [↓n_rd, ↓n_cI, li_0, li_1, li_2, li_5, li_12, li_206, lj_0, lj_1, lj_2, lj_5, lj_12, zJ_add, zJ_sub, zJ_mul, zJ_neg, zJ_l2i, zI_add, zI_sub, zI_mul, zI_neg, ↓Option.bind_some]); simp (disch := (first | assumption | exact tI_rg _ | omega | exact uR_at | exact row_ne hF (by decide) | exact row_ne (row_ne hF (by decide)) (by decide) | exact SnS_18 | exact SnS_30 | exact LdS_44 | exact LdS_46)) only [q_262_29, q_262_90, ↓cc_219t hI, ↓cc_188t, ↓h206a, ↓h263, ↓cc_228 i1, ↓h206b, zI_i2l, g217, ↓n_rd, ↓n_cI, li_0, li_1, li_2, li_5, li_12, li_206, lj_0, lj_1, lj_2, lj_5, lj_12, zJ_add, zJ_sub, zJ_mul, zJ_neg, zJ_l2i, tJ_zJ, zI_add, zI_sub, zI_mul, zI_neg, ↓Option.bind_some, ↓g12_5, ↓g12_22, ↓g12_2, ↓g12_0, ↓p12_5, ↓p12_22, ↓al_218, ↓as_218, ↓al_220, ↓as_220, zIt2, uR_at, uR_ne, uR_uR, uC_uC, uC_at, ↓reduceIte, decide_eq_true_eq, leT, leF, ltT, ltF, eqT, eqF, ne_eq, not_true_eq_false, not_false_eq_true, Bool.false_eq_true, tI_zI]
      · refine KeepM.tr (KeepM_jd (c := 0)) (KeepM.tr (KeepM_22 o1) ?_)
        rw [← g217]
        exact KeepM_217 (k := 22) (by omega)
    · have ha : a_tryb K x y = (2, 0) := (if_pos c1).trans (if_neg c2)
      rw [ha]
      refine ⟨uR F 217 (uC (F 217) 5 (zI 2)), ?_, by rw [uR_at, uC_at], KeepM_c⟩
      show (_ : ResP) = some (Sum.inl (some (.int (zI 0))), _)
      refine into (D := 4) (by omega) hM_262 (rcv_mk rfl (by decide)) rfl fun d hd => ?_
      show runP MP d 262 (0, [some (.ref 217), some (.int (zI x)), some (.int (zI y)), none], [], _) = _
      rw [q_262_0]; (try simp only [↓n_rd, ↓n_cI, li_0, li_1, li_2, li_5, li_12, li_206, lj_0, lj_1, lj_2, lj_5, lj_12, zJ_add, zJ_sub, zJ_mul, zJ_neg, zJ_l2i, zI_add, zI_sub, zI_mul, zI_neg, ↓Option.bind_some]); simp (disch := (first | assumption | exact tI_rg _ | omega | exact uR_at | exact row_ne hF (by decide) | exact row_ne (row_ne hF (by decide)) (by decide) | exact SnS_18 | exact SnS_30 | exact LdS_44 | exact LdS_46)) only [q_262_29, q_262_90, ↓cc_219t hI, ↓cc_188f, zI_i2l, ↓n_rd, ↓n_cI, li_0, li_1, li_2, li_5, li_12, li_206, lj_0, lj_1, lj_2, lj_5, lj_12, zJ_add, zJ_sub, zJ_mul, zJ_neg, zJ_l2i, tJ_zJ, zI_add, zI_sub, zI_mul, zI_neg, ↓Option.bind_some, ↓g12_5, ↓g12_22, ↓g12_2, ↓g12_0, ↓p12_5, ↓p12_22, ↓al_218, ↓as_218, ↓al_220, ↓as_220, zIt2, uR_at, uR_ne, uR_uR, uC_uC, uC_at, ↓reduceIte, decide_eq_true_eq, leT, leF, ltT, ltF, eqT, eqF, ne_eq, not_true_eq_false, not_false_eq_true, Bool.false_eq_true, tI_zI]
  · have ha : a_tryb K x y = (1, 0) := if_neg c1
    rw [ha]
    refine ⟨uR F 217 (uC (F 217) 5 (zI 1)), ?_, by rw [uR_at, uC_at], KeepM_c⟩
    show (_ : ResP) = some (Sum.inl (some (.int (zI 0))), _)
    refine into (D := 4) (by omega) hM_262 (rcv_mk rfl (by decide)) rfl fun d hd => ?_
    show runP MP d 262 (0, [some (.ref 217), some (.int (zI x)), some (.int (zI y)), none], [], _) = _
    rw [q_262_0]; (try simp only [↓n_rd, ↓n_cI, li_0, li_1, li_2, li_5, li_12, li_206, lj_0, lj_1, lj_2, lj_5, lj_12, zJ_add, zJ_sub, zJ_mul, zJ_neg, zJ_l2i, zI_add, zI_sub, zI_mul, zI_neg, ↓Option.bind_some]); simp (disch := (first | assumption | exact tI_rg _ | omega | exact uR_at | exact row_ne hF (by decide) | exact row_ne (row_ne hF (by decide)) (by decide) | exact SnS_18 | exact SnS_30 | exact LdS_44 | exact LdS_46)) only [q_262_29, q_262_90, ↓cc_219f hI, zI_i2l, ↓n_rd, ↓n_cI, li_0, li_1, li_2, li_5, li_12, li_206, lj_0, lj_1, lj_2, lj_5, lj_12, zJ_add, zJ_sub, zJ_mul, zJ_neg, zJ_l2i, tJ_zJ, zI_add, zI_sub, zI_mul, zI_neg, ↓Option.bind_some, ↓g12_5, ↓g12_22, ↓g12_2, ↓g12_0, ↓p12_5, ↓p12_22, ↓al_218, ↓as_218, ↓al_220, ↓as_220, zIt2, uR_at, uR_ne, uR_uR, uC_uC, uC_at, ↓reduceIte, decide_eq_true_eq, leT, leF, ltT, ltF, eqT, eqF, ne_eq, not_true_eq_false, not_false_eq_true, Bool.false_eq_true, tI_zI]
end S94p
