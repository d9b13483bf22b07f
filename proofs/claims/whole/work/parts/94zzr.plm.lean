/-! MODEL: reading a plain 7 -/
section S94zzr
set_option linter.unusedVariables false
set_option linter.unusedSimpArgs false
/-- the row of the model when reading begins -/
def r0M (r : Int → Int32) (x : Int) : Int → Int32 := uC (uC (uC (uC (uC r 5 (zI 0)) 8 (zI x)) 7 (zI 0)) 9 (zI 0)) 13 (zI 0)
theorem r0_at {r : Int → Int32} {x : Int} : r0M r x 5 = zI 0 ∧ r0M r x 7 = zI 0 ∧ r0M r x 8 = zI x ∧ r0M r x 9 = zI 0 ∧ r0M r x 13 = zI 0 := by
  unfold r0M
  exact ⟨by rw [uC_ne (by decide), uC_ne (by decide), uC_ne (by decide), uC_ne (by decide), uC_at], by rw [uC_ne (by decide), uC_ne (by decide), uC_at], by rw [uC_ne (by decide), uC_ne (by decide), uC_ne (by decide), uC_at], by rw [uC_ne (by decide), uC_at], uC_at⟩
theorem r0_ne {r : Int → Int32} {x j : Int} (h5 : j ≠ 5) (h7 : j ≠ 7) (h8 : j ≠ 8) (h9 : j ≠ 9) (h13 : j ≠ 13) : r0M r x j = r j := by
  unfold r0M
  rw [uC_ne h13, uC_ne h9, uC_ne h7, uC_ne h8, uC_ne h5]
def txT (F : Nat → Int → Int32) (j : Nat) : Int := tI (F 223 (j : Int))
theorem tx_m {F : Nat → Int → Int32} {t x : Int} (h : TpR F t) (hx : 0 ≤ x ∧ x ≤ t) : TxM F (txT F) x.toNat := by
  obtain ⟨h1, -, -, h4⟩ := h
  refine ⟨by omega, fun j hj => ⟨?_, rfl⟩⟩
  have := (h4 (j : Int) (by omega) (by omega)).1
  unfold txT; omega
theorem tx_r {F : Nat → Int → Int32} {t x : Int} (h : TpR F t) (hx : 0 ≤ x ∧ x ≤ t) : TxR F (txT F) x.toNat := by
  obtain ⟨h1, -, -, h4⟩ := h
  refine ⟨by omega, fun j hj => ?_⟩
  have := h4 (j : Int) (by omega) (by omega)
  unfold byR at this
  unfold txT; exact ⟨by omega, this.2⟩
/-- what the plain told is -/
def a_plain (F : Nat → Int → Int32) (x : Int) : PrR := pTell (txT F) x.toNat (frD (F 219)) (0, 0, 0, 0)
theorem ml_plain_no {E : EnQ} {F : Nat → Int → Int32} {G : Nat → Int → Int64} {t x : Int} (hT : TpR F t) (hx : -2147483648 ≤ x ∧ x ≤ 2147483647) (h : ¬ (0 ≤ x ∧ x ≤ t)) : CtP MP 8 187 [.ref 217, .int (zI x)] (mk E F G) (Sum.inl (some (.int (zI 0)))) (mk E (uR F 217 (uC (F 217) 5 (zI 1))) G) := fun d hd => by
  obtain ⟨h1, -, h7, -⟩ := hT
  refine into (D := 7) (by omega) hM_187 (rcv_mk rfl (by decide)) rfl fun d hd => ?_
  show runP MP d 187 (0, [some (.ref 217), some (.int (zI x)), none], [], _) = _
  rw [q_187_0]; (try simp only [↓n_rd, ↓n_al, ↓n_cI, li_0, li_1, li_2, li_4, li_5, li_7, li_8, li_9, li_10, li_12, li_13, li_14, li_15, li_16, li_20, li_120, li_168, li_206, li_408, lj_0, lj_1, lj_2, lj_4, lj_5, lj_9, lj_10, lj_12, zJ_add, zJ_sub, zJ_mul, zJ_neg, zJ_l2i, zI_add, zI_sub, zI_mul, zI_neg, ↓Option.bind_some]); simp (disch := (first | assumption | exact tI_rg _ | omega | exact uR_at | exact row_ne hF (by decide) | exact row_ne (row_ne hF (by decide)) (by decide) | exact SnS_18 | exact SnS_30 | exact LdS_44 | exact LdS_46)) only [q_187_103, q_187_141, q_187_165, h7, uC_ne (show (7 : Int) ≠ 5 by decide), ↓cc_188f, zI_i2l, ↓cc_189, ↓n_rd, ↓n_al, ↓n_cI, li_0, li_1, li_2, li_4, li_5, li_7, li_8, li_9, li_10, li_12, li_13, li_14, li_15, li_16, li_20, li_120, li_168, li_206, li_408, lj_0, lj_1, lj_2, lj_4, lj_5, lj_9, lj_10, lj_12, zJ_add, zJ_sub, zJ_mul, zJ_neg, zJ_l2i, tJ_zJ, zI_add, zI_sub, zI_mul, zI_neg, ↓Option.bind_some, ↓g12_0, ↓g12_1, ↓g12_11, ↓g12_13, ↓g12_14, ↓g12_7, ↓p12_13, ↓p12_15, ↓p12_16, ↓p12_5, ↓p12_7, ↓p12_8, ↓p12_9, ↓al_218, ↓as_218, ↓al_219, ↓as_219, zIt2, uR_at, uR_ne, uR_uR, uC_uC, uC_at, ↓reduceIte, decide_eq_true_eq, leT, leF, ltT, ltF, eqT, eqF, ne_eq, not_true_eq_false, not_false_eq_true, Bool.false_eq_true, tI_zI]
theorem plain_main {E : EnQ} {F : Nat → Int → Int32} {G : Nat → Int → Int64} {t x : Int} (hT : TpR F t) (hx : 0 ≤ x ∧ x ≤ t) : ∃ F1, (∀ d, 8 ≤ d + 1 → runP MP d 187 (0, [some (.ref 217), some (.int (zI x)), none], [], mk E F G) = runP MP d 187 (141, [some (.ref 217), some (.int (zI x)), some (.int (zI 408))], [], mk E F1 G)) ∧ OuM F1 (txT F) x.toNat (a_plain F x) ∧ KpM (uR F 217 (r0M (F 217) x)) F1 := by
  have hT' := hT
  obtain ⟨h1, -, h7, -⟩ := hT
  have hm := tx_m hT' hx
  obtain ⟨z5, z7, z8, z9, z13⟩ := r0_at (r := F 217) (x := x)
  have hF0 : TxM (uR (uR F 217 (r0M (F 217) x)) 219 (frD (F 219))) (txT F) x.toNat := ⟨hm.1, fun j hj => by rw [uR_ne (by decide), uR_ne (by decide)]; exact hm.2 j hj⟩
  have e217 : uR (uR F 217 (r0M (F 217) x)) 219 (frD (F 219)) 217 = r0M (F 217) x := by rw [uR_ne (by decide), uR_at]
  obtain ⟨F2, c2, r2, k2⟩ := go_190s (E := E) (G := G) (F := uR (uR F 217 (r0M (F 217) x)) 219 (frD (F 219))) (t := (0, 0, 0, 0)) hF0 (by rw [e217, z8]; exact congrArg zI (by omega)) (by rw [e217, z9, tz0]; omega) (by rw [e217]; exact z13) (by rw [e217, z9, tz0])
  rw [uR_at] at r2
  have hin := fr_in (r := F 219) (T := txT F) (n := x.toNat) (t := (0, 0, 0, 0)) rfl hm.1
  have d2 : tI (frD (F 219) 2) = 0 := by rw [fr_0 (by omega) (by omega) (by omega), tz0]
  have d3 : tI (frD (F 219) 3) = 0 := by rw [fr_0 (by omega) (by omega) (by omega), tz0]
  obtain ⟨F3, c3, r3, k3⟩ := go_first (E := E) (G := G) (x := x) (y := 408) r2 hin ⟨d2, d3⟩
  have hrun : ∀ d, 8 ≤ d + 1 → runP MP d 187 (0, [some (.ref 217), some (.int (zI x)), none], [], mk E F G) = runP MP d 187 (120, [some (.ref 217), some (.int (zI x)), some (.int (zI 408))], [], mk E F3 G) := fun d hd => by
    have h47 : runP MP d 187 (0, [some (.ref 217), some (.int (zI x)), none], [], mk E F G) = runP MP d 187 (47, [some (.ref 217), some (.int (zI x)), some (.int (zI ((0 : Nat) : Int)))], [], mk E (uR (uR F 217 (r0M (F 217) x)) 219 (zrF (F 219) 0)) G) := by
      rw [zrF_0, show uR (uR F 217 (r0M (F 217) x)) 219 (F 219) = uR F 217 (r0M (F 217) x) by rw [show F 219 = uR F 217 (r0M (F 217) x) 219 from (uR_ne (by decide)).symm, uR_self]]
      unfold r0M
      rw [q_187_0]; (try simp only [↓n_rd, ↓n_al, ↓n_cI, li_0, li_1, li_2, li_4, li_5, li_7, li_8, li_9, li_10, li_12, li_13, li_14, li_15, li_16, li_20, li_120, li_168, li_206, li_408, lj_0, lj_1, lj_2, lj_4, lj_5, lj_9, lj_10, lj_12, zJ_add, zJ_sub, zJ_mul, zJ_neg, zJ_l2i, zI_add, zI_sub, zI_mul, zI_neg, ↓Option.bind_some]); simp (disch := (first | assumption | exact tI_rg _ | omega | exact uR_at | exact row_ne hF (by decide) | exact row_ne (row_ne hF (by decide)) (by decide) | exact SnS_18 | exact SnS_30 | exact LdS_44 | exact LdS_46)) only [q_187_103, q_187_141, q_187_165, h7, uC_ne (show (7 : Int) ≠ 5 by decide), ↓cc_188t, zI_i2l, ↓n_rd, ↓n_al, ↓n_cI, li_0, li_1, li_2, li_4, li_5, li_7, li_8, li_9, li_10, li_12, li_13, li_14, li_15, li_16, li_20, li_120, li_168, li_206, li_408, lj_0, lj_1, lj_2, lj_4, lj_5, lj_9, lj_10, lj_12, zJ_add, zJ_sub, zJ_mul, zJ_neg, zJ_l2i, tJ_zJ, zI_add, zI_sub, zI_mul, zI_neg, ↓Option.bind_some, ↓g12_0, ↓g12_1, ↓g12_11, ↓g12_13, ↓g12_14, ↓g12_7, ↓p12_13, ↓p12_15, ↓p12_16, ↓p12_5, ↓p12_7, ↓p12_8, ↓p12_9, ↓al_218, ↓as_218, ↓al_219, ↓as_219, zIt2, uR_at, uR_ne, uR_uR, uC_uC, uC_at, ↓reduceIte, decide_eq_true_eq, leT, leF, ltT, ltF, eqT, eqF, ne_eq, not_true_eq_false, not_false_eq_true, Bool.false_eq_true, tI_zI]
      rfl
    rw [h47]
    refine (loopN (fun j : Nat => runP MP d 187 (47, [some (.ref 217), some (.int (zI x)), some (.int (zI (j : Nat)))], [], mk E (uR (uR F 217 (r0M (F 217) x)) 219 (zrF (F 219) (j))) G)) (408) (fun j hj => ?_)).trans ?_
    · show runP MP d 187 (47, [some (.ref 217), some (.int (zI x)), some (.int (zI (j : Nat)))], [], mk E (uR (uR F 217 (r0M (F 217) x)) 219 (zrF (F 219) (j))) G) = runP MP d 187 (47, [some (.ref 217), some (.int (zI x)), some (.int (zI ((j + 1) : Nat)))], [], mk E (uR (uR F 217 (r0M (F 217) x)) 219 (zrF (F 219) ((j + 1)))) G)
      rw [← zrF_s]
      have e219 : uR (uR F 217 (r0M (F 217) x)) 219 (zrF (F 219) j) 219 = zrF (F 219) j := uR_at
      rw [nsucc]
      rw [q_187_47]; (try simp only [↓n_rd, ↓n_al, ↓n_cI, li_0, li_1, li_2, li_4, li_5, li_7, li_8, li_9, li_10, li_12, li_13, li_14, li_15, li_16, li_20, li_120, li_168, li_206, li_408, lj_0, lj_1, lj_2, lj_4, lj_5, lj_9, lj_10, lj_12, zJ_add, zJ_sub, zJ_mul, zJ_neg, zJ_l2i, zI_add, zI_sub, zI_mul, zI_neg, ↓Option.bind_some]); simp (disch := (first | assumption | exact tI_rg _ | omega | exact uR_at | exact row_ne hF (by decide) | exact row_ne (row_ne hF (by decide)) (by decide) | exact SnS_18 | exact SnS_30 | exact LdS_44 | exact LdS_46)) only [q_187_0, q_187_103, q_187_141, q_187_165, e219, ↓n_rd, ↓n_al, ↓n_cI, li_0, li_1, li_2, li_4, li_5, li_7, li_8, li_9, li_10, li_12, li_13, li_14, li_15, li_16, li_20, li_120, li_168, li_206, li_408, lj_0, lj_1, lj_2, lj_4, lj_5, lj_9, lj_10, lj_12, zJ_add, zJ_sub, zJ_mul, zJ_neg, zJ_l2i, tJ_zJ, zI_add, zI_sub, zI_mul, zI_neg, ↓Option.bind_some, ↓g12_0, ↓g12_1, ↓g12_11, ↓g12_13, ↓g12_14, ↓g12_7, ↓p12_13, ↓p12_15, ↓p12_16, ↓p12_5, ↓p12_7, ↓p12_8, ↓p12_9, ↓al_218, ↓as_218, ↓al_219, ↓as_219, zIt2, uR_at, uR_ne, uR_uR, uC_uC, uC_at, ↓reduceIte, decide_eq_true_eq, leT, leF, ltT, ltF, eqT, eqF, ne_eq, not_true_eq_false, not_false_eq_true, Bool.false_eq_true, tI_zI]
    · show runP MP d 187 (47, [some (.ref 217), some (.int (zI x)), some (.int (zI ((408) : Nat)))], [], mk E (uR (uR F 217 (r0M (F 217) x)) 219 (zrF (F 219) ((408)))) G) = _
      have e0 : ∀ {kk : HeapP → ResP} {kx : Nat → HeapP → ResP}, cV (callP MP d 190 [.ref 217] (mk E (uR (uR F 217 (r0M (F 217) x)) 219 (frD (F 219))) G)) kk kx = kk (mk E F2 G) := fun {kk kx} => ctV c2 (by omega)
      unfold frD at e0
      have c3' := c3 d hd (kk := fun h => runP MP d 187 (120, [some (.ref 217), some (.int (zI x)), some (.int (zI 408))], [], h)) (fun h => rfl)
      rw [q_187_47]
      rw [if_pos (by decide)]
      simp (disch := omega) only [g12_1, li_4, li_20, li_168, as_219, uR_at, uR_uR, uC_uC, Option.bind_some, e0]
      exact c3'
  cases hy : pFirst (txT F) x.toNat (frD (F 219)) (av (txT F) x.toNat (0, 0, 0, 0)) with
  | inl f =>
    rw [hy] at r3
    have e : a_plain F x = .inl f := by unfold a_plain pTell; rw [hy]; rfl
    rw [e]
    refine ⟨F3, fun d hd => (hrun d hd).trans ?_, r3, (KpM_9.tr k2).tr k3⟩
    obtain ⟨b1, b2, b3, b4⟩ := (show BaM F3 f from r3)
    rw [q_187_120]; (try simp only [↓n_rd, ↓n_al, ↓n_cI, li_0, li_1, li_2, li_4, li_5, li_7, li_8, li_9, li_10, li_12, li_13, li_14, li_15, li_16, li_20, li_120, li_168, li_206, li_408, lj_0, lj_1, lj_2, lj_4, lj_5, lj_9, lj_10, lj_12, zJ_add, zJ_sub, zJ_mul, zJ_neg, zJ_l2i, zI_add, zI_sub, zI_mul, zI_neg, ↓Option.bind_some]); simp (disch := (first | assumption | exact tI_rg _ | omega | exact uR_at | exact row_ne hF (by decide) | exact row_ne (row_ne hF (by decide)) (by decide) | exact SnS_18 | exact SnS_30 | exact LdS_44 | exact LdS_46)) only [q_187_0, q_187_103, q_187_165, b1, ↓n_rd, ↓n_al, ↓n_cI, li_0, li_1, li_2, li_4, li_5, li_7, li_8, li_9, li_10, li_12, li_13, li_14, li_15, li_16, li_20, li_120, li_168, li_206, li_408, lj_0, lj_1, lj_2, lj_4, lj_5, lj_9, lj_10, lj_12, zJ_add, zJ_sub, zJ_mul, zJ_neg, zJ_l2i, tJ_zJ, zI_add, zI_sub, zI_mul, zI_neg, ↓Option.bind_some, ↓g12_0, ↓g12_1, ↓g12_11, ↓g12_13, ↓g12_14, ↓g12_7, ↓p12_13, ↓p12_15, ↓p12_16, ↓p12_5, ↓p12_7, ↓p12_8, ↓p12_9, ↓al_218, ↓as_218, ↓al_219, ↓as_219, zIt2, uR_at, uR_ne, uR_uR, uC_uC, uC_at, ↓reduceIte, decide_eq_true_eq, leT, leF, ltT, ltF, eqT, eqF, ne_eq, not_true_eq_false, not_false_eq_true, Bool.false_eq_true, tI_zI]
  | inr s =>
    rw [hy] at r3
    have e : a_plain F x = pLines (txT F) x.toNat x.toNat s.1 s.2 := by unfold a_plain pTell; rw [hy]; rfl
    rw [e]
    obtain ⟨i1, i2⟩ := i_first hin d2 d3 hy
    have ib := i1.2.1.1.2.1
    obtain ⟨F4, c4, r4, k4⟩ := go_lines (E := E) (G := G) (x := x) (y := 408) x.toNat s.1 s.2 F3 r3 i1 (by omega)
    exact ⟨F4, fun d hd => (hrun d hd).trans (c4 d hd), r4, ((KpM_9.tr k2).tr k3).tr k4⟩
end S94zzr
