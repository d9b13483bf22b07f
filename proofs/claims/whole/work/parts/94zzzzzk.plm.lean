/-! TOP: the plain of the model behind the class -/
section S94zzzzzk
set_option linter.unusedVariables false
set_option linter.unusedSimpArgs false
/-- the text as the model has it -/
def TpM (F : Nat → Int → Int32) (t : Int) : Prop := (0 ≤ t ∧ t ≤ 600) ∧ F 217 7 = zI t ∧ ∀ i, 0 ≤ i → i < t → 0 ≤ tI (F 223 i) ∧ tI (F 223 i) < 256
theorem TpM_of {F F1 : Nat → Int → Int32} {t : Int} (h : TpR F t) (h1 : F1 217 7 = F 217 7) (h2 : F1 223 = F 223) : TpM F1 t := by
  obtain ⟨c1, -, c3, c4⟩ := h
  refine ⟨c1, by rw [h1]; exact c3, fun i i0 i1 => ?_⟩
  rw [h2]; exact (c4 i i0 i1).1
theorem tx_mB {F : Nat → Int → Int32} {t x : Int} (h : TpM F t) (hx : 0 ≤ x ∧ x ≤ t) : TxM F (txT F) x.toNat := by
  obtain ⟨h1, -, h4⟩ := h
  refine ⟨by omega, fun j hj => ⟨?_, rfl⟩⟩
  have := h4 (j : Int) (by omega) (by omega)
  unfold txT; omega
theorem pl_same {F F1 : Nat → Int → Int32} {x : Int} (h1 : F1 219 = F 219) (h2 : F1 223 = F 223) : a_plain F1 x = a_plain F x := by
  unfold a_plain
  rw [h1, show txT F1 = txT F from funext fun j => by unfold txT; rw [h2]]
theorem plain_mainB {E : EnQ} {F : Nat → Int → Int32} {G : Nat → Int → Int64} {t x : Int} (hT : TpM F t) (hx : 0 ≤ x ∧ x ≤ t) : ∃ F1, (∀ d, 8 ≤ d + 1 → runP MP d 187 (0, [some (.ref 217), some (.int (zI x)), none], [], mk E F G) = runP MP d 187 (141, [some (.ref 217), some (.int (zI x)), some (.int (zI 408))], [], mk E F1 G)) ∧ OuM F1 (txT F) x.toNat (a_plain F x) ∧ KpM (uR F 217 (r0M (F 217) x)) F1 := by
  have hT' := hT
  obtain ⟨h1, h7, -⟩ := hT
  have hm := tx_mB hT' hx
  obtain ⟨z5, z7, z8, z9, z13⟩ := r0_at (r := F 217) (x := x)
  have hF0 : TxM (uR (uR F 217 (r0M (F 217) x)) 219 (frD (F 219))) (txT F) x.toNat := ⟨hm.1, fun j hj => by rw [uR_ne (by decide), uR_ne (by decide)]; exact hm.2 j hj⟩
  have e217 : uR (uR F 217 (r0M (F 217) x)) 219 (frD (F 219)) 217 = r0M (F 217) x := by rw [uR_ne (by decide), uR_at]
  obtain ⟨F2, c2, r2, k2⟩ := go_190s (E := E) (G := G) (F := uR (uR F 217 (r0M (F 217) x)) 219 (frD (F 219))) (t := (0, 0, 0, 0)) hF0 (by rw [e217, z8]; exact congrArg zI (by omega)) (by rw [e217, z9, tz0]; omega) (by rw [e217]; exact z13) (by rw [e217, z9, tz0])
  rw [uR_at] at r2
  have hin := fr_in (r := F 219) (T := txT F) (n := x.toNat) (t := (0, 0, 0, 0)) rfl hm.1
  have d2 : tI (frD (F 219) 2) = 0 := by rw [fr_0 (by omega) (by omega) (by omega), tz0]
  have d3 : tI (frD (F 219) 3) = 0 := by rw [fr_0 (by omega) (by omega) (by omega), tz0]
  obtain ⟨F3, c3, r3, k3⟩ := go_first (E := E) (G := G) (x := x) (y := 408) r2 hin ⟨d2, d3⟩
  have hrun : ∀ d, 8 ≤ d + 1 → runP MP d 187 (0, [some (.ref 217), some (.int (zI x)), none], [], mk E F G) = runP MP d 187 (120, [some (.ref 217), some (.int (zI x)), some (.int (zI 408))], [], mk E F3 G) := fun d hd => by
    have h47 : runP MP d 187 (0, [some (.ref 217), some (.int (zI x)), none], [], mk E F G) = runP MP d 187 (47, [some (.ref 217), some (.int (zI x)), some (.int (zI ((0 : Nat) : Int)))], [], mk E (uR (uR F 217 (r0M (F 217) x)) 219 (zrF (F 219) 0)) G) := by
      rw [zrF_0, show uR (uR F 217 (r0M (F 217) x)) 219 (F 219) = uR F 217 (r0M (F 217) x) by rw [show F 219 = uR F 217 (r0M (F 217) x) 219 from (uR_ne (by decide)).symm, uR_self]]
      unfold r0M
      rw [q_187_0]; (try simp only [↓n_rd, ↓n_al, ↓n_cI, li_0, li_1, li_2, li_4, li_5, li_7, li_8, li_9, li_10, li_12, li_13, li_14, li_15, li_16, li_20, li_120, li_168, li_206, li_408, lj_0, lj_1, lj_2, lj_4, lj_5, lj_9, lj_10, lj_12, zJ_add, zJ_sub, zJ_mul, zJ_neg, zJ_l2i, zI_add, zI_sub, zI_mul, zI_neg, ↓Option.bind_some]); simp (disch := (first | assumption | exact tI_rg _ | omega | exact uR_at | exact row_ne hF (by decide) | exact row_ne (row_ne hF (by decide)) (by decide) | exact SnS_18 | exact SnS_30 | exact LdS_44 | exact LdS_46)) only [q_187_103, q_187_141, q_187_165, h7, uC_ne (show (7 : Int) ≠ 5 by decide), ↓cc_188t, zI_i2l, ↓n_rd, ↓n_al, ↓n_cI, li_0, li_1, li_2, li_4, li_5, li_7, li_8, li_9, li_10, li_12, li_13, li_14, li_15, li_16, li_20, li_120, li_168, li_206, li_408, lj_0, lj_1, lj_2, lj_4, lj_5, lj_9, lj_10, lj_12, zJ_add, zJ_sub, zJ_mul, zJ_neg, zJ_l2i, tJ_zJ, zI_add, zI_sub, zI_mul, zI_neg, ↓Option.bind_some, ↓g12_0, ↓g12_1, ↓g12_11, ↓g12_13, ↓g12_14, ↓g12_7, ↓p12_13, ↓p12_15, ↓p12_16, ↓p12_5, ↓p12_7, ↓p12_8, ↓p12_9, ↓al_218, ↓as_218, ↓al_219, ↓as_219, zIt2, uR_at, uR_ne, uR_uR, uC_uC, uC_at, ↓reduceIte, decide_eq_true_eq, leT, leF, ltT, ltF, eqT, eqF, ne_eq, not_true_eq_false, not_false_eq_true, Bool.false_eq_true, tI_zI]
      rfl
    rw [h47]
    refine (loopN (fun j : Nat => runP MP d 187 (47, [some (.ref 217), some (.int (zI x)), some (.int (zI (j : Nat)))], [], mk E (uR (uR F 217 (r0M (F 217) x)) 219 (zrF (F 219) (j))) G)) (408) (fun j hj => ?_)).trans ?_
    · show runP MP d 187 (47, [some (.ref 217), some (.int (zI x)), some (.int (zI (j : Nat)))], [], mk E (uR (uR F 217 (r0M (F 217) x)) 219 (zrF (F 219) (j))) G) = runP MP d 187 (47, [some (.ref 217), some (.int (zI x)), some (.int (zI ((j + 1) : Nat)))], [], mk E (uR (uR F 217 (r0M (F 217) x)) 219 (zrF (F 219) ((j + 1)))) G)
      rw [← zrF_s]
      have e219 : uR (uR F 217 (r0M (F 217) x)) 219 (zrF (F 219) j) 219 = zrF (F 219) j := uR_at
      rw [nsucc]
      rw [q_187_47]; (try simp only [↓n_rd, ↓n_al, ↓n_cI, li_0, li_1, li_2, li_4, li_5, li_7, li_8, li_9, li_10, li_12, li_13, li_14, li_15, li_16, li_20, li_120, li_168, li_206, li_408, lj_0, lj_1, lj_2, lj_4, lj_5, lj_9, lj_10, lj_12, zJ_add, zJ_sub, zJ_mul, zJ_neg, zJ_l2i, zI_add, zI_sub, zI_mul, zI_neg, ↓Option.bind_some]); simp (disch := (first | assumption | exact tI_rg _ | omega | exact uR_at | exact row_ne hF (by decide) | exact row_ne (row_ne hF (by decide)) (by decide) | exact SnS_18 | exact SnS_30 | exact LdS_44 | exact LdS_46)) only [q_187_0, q_187_103, q_187_141, q_187_165, e219, ↓n_rd, ↓n_al, ↓n_cI, li_0, li_1, li_2, li_4, li_5, li_7, li_8, li_9, li_10, li_12, li_13, li_14, li_15, li_16, li_20, li_120, li_168, li_206, li_408, lj_0, lj_1, lj_2, lj_4, lj_5, lj_9, lj_10, lj_12, zJ_add, zJ_sub, zJ_mul, zJ_neg, zJ_l2i, tJ_zJ, zI_add, zI_sub, zI_mul, zI_neg, ↓Option.bind_some, ↓g12_0, ↓g12_1, ↓g12_11, ↓g12_13, ↓g12_14, ↓g12_7, ↓p12_13, ↓p12_15, ↓p12_16, ↓p12_5, ↓p12_7, ↓p12_8, ↓p12_9, ↓al_218, ↓as_218, ↓al_219, ↓as_219, zIt2, uR_at, uR_ne, uR_uR, uC_uC, uC_at, ↓reduceIte, decide_eq_true_eq, leT, leF, ltT, ltF, eqT, eqF, ne_eq, not_true_eq_false, not_false_eq_true, Bool.false_eq_true, tI_zI]
    · show runP MP d 187 (47, [some (.ref 217), some (.int (zI x)), some (.int (zI ((408) : Nat)))], [], mk E (uR (uR F 217 (r0M (F 217) x)) 219 (zrF (F 219) ((408)))) G) = _
      have e0 : ∀ {kk : HeapP → ResP} {kx : Nat → HeapP → ResP}, cV (callP MP d 190 [.ref 217] (mk E (uR (uR F 217 (r0M (F 217) x)) 219 (frD (F 219))) G)) kk kx = kk (mk E F2 G) := fun {kk kx} => ctV c2 (by omega)
      unfold frD at e0
      have c3' := c3 d hd (kk := fun h => runP MP d 187 (120, [some (.ref 217), some (.int (zI x)), some (.int (zI 408))], [], h)) (fun h => rfl)
      rw [q_187_47]
      rw [if_pos (by decide)]
      simp (disch := omega) only [g12_1, li_4, li_20, li_168, as_219, uR_at, uR_uR, uC_uC, Option.bind_some, e0]
      exact c3'
  cases hy : pFirst (txT F) x.toNat (frD (F 219)) (av (txT F) x.toNat (0, 0, 0, 0)) with
  | inl f =>
    rw [hy] at r3
    have e : a_plain F x = .inl f := by unfold a_plain pTell; rw [hy]; rfl
    rw [e]
    refine ⟨F3, fun d hd => (hrun d hd).trans ?_, r3, (KpM_9.tr k2).tr k3⟩
    obtain ⟨b1, b2, b3, b4⟩ := (show BaM F3 f from r3)
    rw [q_187_120]; (try simp only [↓n_rd, ↓n_al, ↓n_cI, li_0, li_1, li_2, li_4, li_5, li_7, li_8, li_9, li_10, li_12, li_13, li_14, li_15, li_16, li_20, li_120, li_168, li_206, li_408, lj_0, lj_1, lj_2, lj_4, lj_5, lj_9, lj_10, lj_12, zJ_add, zJ_sub, zJ_mul, zJ_neg, zJ_l2i, zI_add, zI_sub, zI_mul, zI_neg, ↓Option.bind_some]); simp (disch := (first | assumption | exact tI_rg _ | omega | exact uR_at | exact row_ne hF (by decide) | exact row_ne (row_ne hF (by decide)) (by decide) | exact SnS_18 | exact SnS_30 | exact LdS_44 | exact LdS_46)) only [q_187_0, q_187_103, q_187_165, b1, ↓n_rd, ↓n_al, ↓n_cI, li_0, li_1, li_2, li_4, li_5, li_7, li_8, li_9, li_10, li_12, li_13, li_14, li_15, li_16, li_20, li_120, li_168, li_206, li_408, lj_0, lj_1, lj_2, lj_4, lj_5, lj_9, lj_10, lj_12, zJ_add, zJ_sub, zJ_mul, zJ_neg, zJ_l2i, tJ_zJ, zI_add, zI_sub, zI_mul, zI_neg, ↓Option.bind_some, ↓g12_0, ↓g12_1, ↓g12_11, ↓g12_13, ↓g12_14, ↓g12_7, ↓p12_13, ↓p12_15, ↓p12_16, ↓p12_5, ↓p12_7, ↓p12_8, ↓p12_9, ↓al_218, ↓as_218, ↓al_219, ↓as_219, zIt2, uR_at, uR_ne, uR_uR, uC_uC, uC_at, ↓reduceIte, decide_eq_true_eq, leT, leF, ltT, ltF, eqT, eqF, ne_eq, not_true_eq_false, not_false_eq_true, Bool.false_eq_true, tI_zI]
  | inr s =>
    rw [hy] at r3
    have e : a_plain F x = pLines (txT F) x.toNat x.toNat s.1 s.2 := by unfold a_plain pTell; rw [hy]; rfl
    rw [e]
    obtain ⟨i1, i2⟩ := i_first hin d2 d3 hy
    have ib := i1.2.1.1.2.1
    obtain ⟨F4, c4, r4, k4⟩ := go_lines (E := E) (G := G) (x := x) (y := 408) x.toNat s.1 s.2 F3 r3 i1 (by omega)
    exact ⟨F4, fun d hd => (hrun d hd).trans (c4 d hd), r4, ((KpM_9.tr k2).tr k3).tr k4⟩
theorem ml_plain_fB {E : EnQ} {F : Nat → Int → Int32} {G : Nat → Int → Int64} {t x : Int} {f : Int × Int} (hT : TpM F t) (hx : 0 ≤ x ∧ x ≤ t) (h : a_plain F x = .inl f) : ∃ F1, CtP MP 8 187 [.ref 217, .int (zI x)] (mk E F G) (Sum.inl (some (.int (zI (-10 - f.1))))) (mk E F1 G) ∧ (F1 217 5 = zI 0 ∧ F1 217 7 = zI 0 ∧ F1 217 15 = zI f.1 ∧ F1 217 16 = zI f.2 ∧ F1 217 18 = F 217 18) ∧ (1 ≤ f.1 ∧ f.1 ≤ 4) ∧ ∀ q, q ≠ 217 → q ≠ 219 → F1 q = F q := by
  obtain ⟨F3, c3, r3, k3⟩ := plain_mainB (E := E) (G := G) hT hx
  rw [h] at r3
  obtain ⟨b1, b2, b3, b4⟩ := (show BaM F3 f from r3)
  obtain ⟨z5, z7, z8, z9, z13⟩ := r0_at (r := F 217) (x := x)
  refine ⟨uR F3 217 (uC (uC (F3 217) 15 (zI f.1)) 16 (zI f.2)), fun d hd => ?_, ⟨?_, ?_, ?_, ?_, ?_⟩, ⟨b3, b4⟩, fun q q1 q2 => ?_⟩
  · refine into (D := 7) (by omega) hM_187 (rcv_mk rfl (by decide)) rfl fun d hd => ?_
    show runP MP d 187 (0, [some (.ref 217), some (.int (zI x)), none], [], _) = _
    rw [c3 d (by omega)]
    rw [q_187_141]; (try simp only [↓n_rd, ↓n_al, ↓n_cI, li_0, li_1, li_2, li_4, li_5, li_7, li_8, li_9, li_10, li_12, li_13, li_14, li_15, li_16, li_20, li_120, li_168, li_206, li_408, lj_0, lj_1, lj_2, lj_4, lj_5, lj_9, lj_10, lj_12, zJ_add, zJ_sub, zJ_mul, zJ_neg, zJ_l2i, zI_add, zI_sub, zI_mul, zI_neg, ↓Option.bind_some]); simp (disch := (first | assumption | exact tI_rg _ | omega | exact uR_at | exact row_ne hF (by decide) | exact row_ne (row_ne hF (by decide)) (by decide) | exact SnS_18 | exact SnS_30 | exact LdS_44 | exact LdS_46)) only [q_187_0, q_187_103, q_187_165, b1, b2, uC_ne (show (13 : Int) ≠ 15 by decide), uC_ne (show (14 : Int) ≠ 15 by decide), uC_ne (show (13 : Int) ≠ 16 by decide), ↓n_rd, ↓n_al, ↓n_cI, li_0, li_1, li_2, li_4, li_5, li_7, li_8, li_9, li_10, li_12, li_13, li_14, li_15, li_16, li_20, li_120, li_168, li_206, li_408, lj_0, lj_1, lj_2, lj_4, lj_5, lj_9, lj_10, lj_12, zJ_add, zJ_sub, zJ_mul, zJ_neg, zJ_l2i, tJ_zJ, zI_add, zI_sub, zI_mul, zI_neg, ↓Option.bind_some, ↓g12_0, ↓g12_1, ↓g12_11, ↓g12_13, ↓g12_14, ↓g12_7, ↓p12_13, ↓p12_15, ↓p12_16, ↓p12_5, ↓p12_7, ↓p12_8, ↓p12_9, ↓al_218, ↓as_218, ↓al_219, ↓as_219, zIt2, uR_at, uR_ne, uR_uR, uC_uC, uC_at, ↓reduceIte, decide_eq_true_eq, leT, leF, ltT, ltF, eqT, eqF, ne_eq, not_true_eq_false, not_false_eq_true, Bool.false_eq_true, tI_zI]
  · rw [uR_at, uC_ne (by decide), uC_ne (by decide), k3.2 5 (by omega), uR_at, z5]
  · rw [uR_at, uC_ne (by decide), uC_ne (by decide), k3.2 7 (by omega), uR_at, z7]
  · rw [uR_at, uC_ne (by decide), uC_at]
  · rw [uR_at, uC_at]
  · rw [uR_at, uC_ne (by decide), uC_ne (by decide), k3.2 18 (by omega), uR_at, r0_ne (by decide) (by decide) (by decide) (by decide) (by decide)]
  · rw [uR_ne q1, k3.1 q q1 q2, uR_ne q1]
theorem ml_plain_sB {E : EnQ} {F : Nat → Int → Int32} {G : Nat → Int → Int64} {t x : Int} {s : PrS} (hT : TpM F t) (hx : 0 ≤ x ∧ x ≤ t) (h : a_plain F x = .inr s) : ∃ F1, CtP MP 8 187 [.ref 217, .int (zI x)] (mk E F G) (Sum.inl (some (.int (zI (tI (s.1 0)))))) (mk E F1 G) ∧ (F1 217 5 = zI 0 ∧ F1 217 7 = zI 0 ∧ F1 217 15 = zI 0 ∧ F1 217 16 = zI (-1) ∧ F1 217 18 = F 217 18) ∧ F1 218 = cpK s.1 (F 218) ∧ ∀ q, q ≠ 217 → q ≠ 218 → q ≠ 219 → F1 q = F q := by
  have hm := tx_mB hT hx
  obtain ⟨F3, c3, r3, k3⟩ := plain_mainB (E := E) (G := G) hT hx
  rw [h] at r3
  obtain ⟨i1, -⟩ := i_tell (r := F 219) (T := txT F) (n := x.toNat) (t := (0, 0, 0, 0)) rfl hm.1 h
  have i0 := i1.1.1.1.1
  obtain ⟨b1, b2, b3, b4, b5⟩ := (show MoR F3 (txT F) x.toNat s.1 s.2 from r3)
  obtain ⟨z5, z7, z8, z9, z13⟩ := r0_at (r := F 217) (x := x)
  have e8 : F3 218 = F 218 := by rw [k3.1 218 (by decide) (by decide), uR_ne (by decide)]
  have ec : cpK s.1 (F 218) 0 = s.1 0 := if_pos (by omega)
  refine ⟨uR (uR F3 217 (uC (uC (F3 217) 15 (zI 0)) 16 (zI (-1)))) 218 (cpK s.1 (F 218)), fun d hd => ?_, ⟨?_, ?_, ?_, ?_, ?_⟩, uR_at, fun q q1 q2 q3 => ?_⟩
  · refine into (D := 7) (by omega) hM_187 (rcv_mk rfl (by decide)) rfl fun d hd => ?_
    show runP MP d 187 (0, [some (.ref 217), some (.int (zI x)), none], [], _) = _
    rw [c3 d (by omega)]
    have c206 : ∀ {F' : Nat → Int → Int32} {kk : HeapP → ResP} {kx : Nat → HeapP → ResP}, cV (callP MP d 206 [.ref 219, .ref 218] (mk E F' G)) kk kx = kk (mk E (uR F' 218 (cpK (F' 219) (F' 218))) G) := fun {F' kk kx} => cc_206 rfl rfl (by decide) (by omega)
    rw [q_187_141]; (try simp only [↓n_rd, ↓n_al, ↓n_cI, li_0, li_1, li_2, li_4, li_5, li_7, li_8, li_9, li_10, li_12, li_13, li_14, li_15, li_16, li_20, li_120, li_168, li_206, li_408, lj_0, lj_1, lj_2, lj_4, lj_5, lj_9, lj_10, lj_12, zJ_add, zJ_sub, zJ_mul, zJ_neg, zJ_l2i, zI_add, zI_sub, zI_mul, zI_neg, ↓Option.bind_some]); simp (disch := (first | assumption | exact tI_rg _ | omega | exact uR_at | exact row_ne hF (by decide) | exact row_ne (row_ne hF (by decide)) (by decide) | exact SnS_18 | exact SnS_30 | exact LdS_44 | exact LdS_46)) only [q_187_0, q_187_103, q_187_165, b4, b5, e8, ec, ↓c206, uC_ne (show (13 : Int) ≠ 15 by decide), uC_ne (show (13 : Int) ≠ 16 by decide), ↓n_rd, ↓n_al, ↓n_cI, li_0, li_1, li_2, li_4, li_5, li_7, li_8, li_9, li_10, li_12, li_13, li_14, li_15, li_16, li_20, li_120, li_168, li_206, li_408, lj_0, lj_1, lj_2, lj_4, lj_5, lj_9, lj_10, lj_12, zJ_add, zJ_sub, zJ_mul, zJ_neg, zJ_l2i, tJ_zJ, zI_add, zI_sub, zI_mul, zI_neg, ↓Option.bind_some, ↓g12_0, ↓g12_1, ↓g12_11, ↓g12_13, ↓g12_14, ↓g12_7, ↓p12_13, ↓p12_15, ↓p12_16, ↓p12_5, ↓p12_7, ↓p12_8, ↓p12_9, ↓al_218, ↓as_218, ↓al_219, ↓as_219, zIt2, uR_at, uR_ne, uR_uR, uC_uC, uC_at, ↓reduceIte, decide_eq_true_eq, leT, leF, ltT, ltF, eqT, eqF, ne_eq, not_true_eq_false, not_false_eq_true, Bool.false_eq_true, tI_zI]
  · rw [uR_ne (by decide), uR_at, uC_ne (by decide), uC_ne (by decide), k3.2 5 (by omega), uR_at, z5]
  · rw [uR_ne (by decide), uR_at, uC_ne (by decide), uC_ne (by decide), k3.2 7 (by omega), uR_at, z7]
  · rw [uR_ne (by decide), uR_at, uC_ne (by decide), uC_at]
  · rw [uR_ne (by decide), uR_at, uC_at]
  · rw [uR_ne (by decide), uR_at, uC_ne (by decide), uC_ne (by decide), k3.2 18 (by omega), uR_at, r0_ne (by decide) (by decide) (by decide) (by decide) (by decide)]
  · rw [uR_ne q2, uR_ne q1, k3.1 q q1 q3, uR_ne q1]
end S94zzzzzk
