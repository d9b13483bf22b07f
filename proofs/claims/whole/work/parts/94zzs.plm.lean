/-! MODEL: reading a plain 8 -/
section S94zzs
set_option linter.unusedVariables false
set_option linter.unusedSimpArgs false
theorem ml_plain_f {E : EnQ} {F : Nat → Int → Int32} {G : Nat → Int → Int64} {t x : Int} {f : Int × Int} (hT : TpR F t) (hx : 0 ≤ x ∧ x ≤ t) (h : a_plain F x = .inl f) : ∃ F1, CtP MP 8 187 [.ref 217, .int (zI x)] (mk E F G) (Sum.inl (some (.int (zI (-10 - f.1))))) (mk E F1 G) ∧ (F1 217 5 = zI 0 ∧ F1 217 7 = zI 0 ∧ F1 217 15 = zI f.1 ∧ F1 217 16 = zI f.2 ∧ F1 217 18 = F 217 18) ∧ (1 ≤ f.1 ∧ f.1 ≤ 4) ∧ ∀ q, q ≠ 217 → q ≠ 219 → F1 q = F q := by
  obtain ⟨F3, c3, r3, k3⟩ := plain_main (E := E) (G := G) hT hx
  rw [h] at r3
  obtain ⟨b1, b2, b3, b4⟩ := (show BaM F3 f from r3)
  obtain ⟨z5, z7, z8, z9, z13⟩ := r0_at (r := F 217) (x := x)
  refine ⟨uR F3 217 (uC (uC (F3 217) 15 (zI f.1)) 16 (zI f.2)), fun d hd => ?_, ⟨?_, ?_, ?_, ?_, ?_⟩, ⟨b3, b4⟩, fun q q1 q2 => ?_⟩
  · refine into (D := 7) (by omega) hM_187 (rcv_mk rfl (by decide)) rfl fun d hd => ?_
    show runP MP d 187 (0, [some (.ref 217), some (.int (zI x)), none], [], _) = _
    rw [c3 d (by omega)]
    rw [q_187_141]; (try simp only [↓n_rd, ↓n_al, ↓n_cI, li_0, li_1, li_2, li_4, li_5, li_7, li_8, li_9, li_10, li_12, li_13, li_14, li_15, li_16, li_20, li_120, li_168, li_206, li_408, lj_0, lj_1, lj_2, lj_4, lj_5, lj_9, lj_10, lj_12, zJ_add, zJ_sub, zJ_mul, zJ_neg, zJ_l2i, zI_add, zI_sub, zI_mul, zI_neg, ↓Option.bind_some]); simp (disch := (first | assumption | exact tI_rg _ | omega | exact uR_at | exact row_ne hF (by decide) | exact row_ne (row_ne hF (by decide)) (by decide) | exact SnS_18 | exact SnS_30 | exact LdS_44 | exact LdS_46)) only [q_187_0, q_187_103, q_187_165, b1, b2, uC_ne (show (13 : Int) ≠ 15 by decide), uC_ne (show (14 : Int) ≠ 15 by decide), uC_ne (show (13 : Int) ≠ 16 by decide), ↓n_rd, ↓n_al, ↓n_cI, li_0, li_1, li_2, li_4, li_5, li_7, li_8, li_9, li_10, li_12, li_13, li_14, li_15, li_16, li_20, li_120, li_168, li_206, li_408, lj_0, lj_1, lj_2, lj_4, lj_5, lj_9, lj_10, lj_12, zJ_add, zJ_sub, zJ_mul, zJ_neg, zJ_l2i, tJ_zJ, zI_add, zI_sub, zI_mul, zI_neg, ↓Option.bind_some, ↓g12_0, ↓g12_1, ↓g12_11, ↓g12_13, ↓g12_14, ↓g12_7, ↓p12_13, ↓p12_15, ↓p12_16, ↓p12_5, ↓p12_7, ↓p12_8, ↓p12_9, ↓al_218, ↓as_218, ↓al_219, ↓as_219, zIt2, uR_at, uR_ne, uR_uR, uC_uC, uC_at, ↓reduceIte, decide_eq_true_eq, leT, leF, ltT, ltF, eqT, eqF, ne_eq, not_true_eq_false, not_false_eq_true, Bool.false_eq_true, tI_zI]
  · rw [uR_at, uC_ne (by decide), uC_ne (by decide), k3.2 5 (by omega), uR_at, z5]
  · rw [uR_at, uC_ne (by decide), uC_ne (by decide), k3.2 7 (by omega), uR_at, z7]
  · rw [uR_at, uC_ne (by decide), uC_at]
  · rw [uR_at, uC_at]
  · rw [uR_at, uC_ne (by decide), uC_ne (by decide), k3.2 18 (by omega), uR_at, r0_ne (by decide) (by decide) (by decide) (by decide) (by decide)]
  · rw [uR_ne q1, k3.1 q q1 q2, uR_ne q1]
theorem ml_plain_s {E : EnQ} {F : Nat → Int → Int32} {G : Nat → Int → Int64} {t x : Int} {s : PrS} (hT : TpR F t) (hx : 0 ≤ x ∧ x ≤ t) (h : a_plain F x = .inr s) : ∃ F1, CtP MP 8 187 [.ref 217, .int (zI x)] (mk E F G) (Sum.inl (some (.int (zI (tI (s.1 0)))))) (mk E F1 G) ∧ (F1 217 5 = zI 0 ∧ F1 217 7 = zI 0 ∧ F1 217 15 = zI 0 ∧ F1 217 16 = zI (-1) ∧ F1 217 18 = F 217 18) ∧ F1 218 = cpK s.1 (F 218) ∧ ∀ q, q ≠ 217 → q ≠ 218 → q ≠ 219 → F1 q = F q := by
  have hm := tx_m hT hx
  obtain ⟨F3, c3, r3, k3⟩ := plain_main (E := E) (G := G) hT hx
  rw [h] at r3
  obtain ⟨i1, -⟩ := i_tell (r := F 219) (T := txT F) (n := x.toNat) (t := (0, 0, 0, 0)) rfl hm.1 h
  have i0 := i1.1.1.1.1
  obtain ⟨b1, b2, b3, b4, b5⟩ := (show MoR F3 (txT F) x.toNat s.1 s.2 from r3)
  obtain ⟨z5, z7, z8, z9, z13⟩ := r0_at (r := F 217) (x := x)
  have e8 : F3 218 = F 218 := by rw [k3.1 218 (by decide) (by decide), uR_ne (by decide)]
  have ec : cpK s.1 (F 218) 0 = s.1 0 := if_pos (by omega)
  refine ⟨uR (uR F3 217 (uC (uC (F3 217) 15 (zI 0)) 16 (zI (-1)))) 218 (cpK s.1 (F 218)), fun d hd => ?_, ⟨?_, ?_, ?_, ?_, ?_⟩, uR_at, fun q q1 q2 q3 => ?_⟩
  · refine into (D := 7) (by omega) hM_187 (rcv_mk rfl (by decide)) rfl fun d hd => ?_
    show runP MP d 187 (0, [some (.ref 217), some (.int (zI x)), none], [], _) = _
    rw [c3 d (by omega)]
    have c206 : ∀ {F' : Nat → Int → Int32} {kk : HeapP → ResP} {kx : Nat → HeapP → ResP}, cV (callP MP d 206 [.ref 219, .ref 218] (mk E F' G)) kk kx = kk (mk E (uR F' 218 (cpK (F' 219) (F' 218))) G) := fun {F' kk kx} => cc_206 rfl rfl (by decide) (by omega)
    rw [q_187_141]; (try simp only [↓n_rd, ↓n_al, ↓n_cI, li_0, li_1, li_2, li_4, li_5, li_7, li_8, li_9, li_10, li_12, li_13, li_14, li_15, li_16, li_20, li_120, li_168, li_206, li_408, lj_0, lj_1, lj_2, lj_4, lj_5, lj_9, lj_10, lj_12, zJ_add, zJ_sub, zJ_mul, zJ_neg, zJ_l2i, zI_add, zI_sub, zI_mul, zI_neg, ↓Option.bind_some]); simp (disch := (first | assumption | exact tI_rg _ | omega | exact uR_at | exact row_ne hF (by decide) | exact row_ne (row_ne hF (by decide)) (by decide) | exact SnS_18 | exact SnS_30 | exact LdS_44 | exact LdS_46)) only [q_187_0, q_187_103, q_187_165, b4, b5, e8, ec, ↓c206, uC_ne (show (13 : Int) ≠ 15 by decide), uC_ne (show (13 : Int) ≠ 16 by decide), ↓n_rd, ↓n_al, ↓n_cI, li_0, li_1, li_2, li_4, li_5, li_7, li_8, li_9, li_10, li_12, li_13, li_14, li_15, li_16, li_20, li_120, li_168, li_206, li_408, lj_0, lj_1, lj_2, lj_4, lj_5, lj_9, lj_10, lj_12, zJ_add, zJ_sub, zJ_mul, zJ_neg, zJ_l2i, tJ_zJ, zI_add, zI_sub, zI_mul, zI_neg, ↓Option.bind_some, ↓g12_0, ↓g12_1, ↓g12_11, ↓g12_13, ↓g12_14, ↓g12_7, ↓p12_13, ↓p12_15, ↓p12_16, ↓p12_5, ↓p12_7, ↓p12_8, ↓p12_9, ↓al_218, ↓as_218, ↓al_219, ↓as_219, zIt2, uR_at, uR_ne, uR_uR, uC_uC, uC_at, ↓reduceIte, decide_eq_true_eq, leT, leF, ltT, ltF, eqT, eqF, ne_eq, not_true_eq_false, not_false_eq_true, Bool.false_eq_true, tI_zI]
  · rw [uR_ne (by decide), uR_at, uC_ne (by decide), uC_ne (by decide), k3.2 5 (by omega), uR_at, z5]
  · rw [uR_ne (by decide), uR_at, uC_ne (by decide), uC_ne (by decide), k3.2 7 (by omega), uR_at, z7]
  · rw [uR_ne (by decide), uR_at, uC_ne (by decide), uC_at]
  · rw [uR_ne (by decide), uR_at, uC_at]
  · rw [uR_ne (by decide), uR_at, uC_ne (by decide), uC_ne (by decide), k3.2 18 (by omega), uR_at, r0_ne (by decide) (by decide) (by decide) (by decide) (by decide)]
  · rw [uR_ne q2, uR_ne q1, k3.1 q q1 q3, uR_ne q1]
end S94zzs
