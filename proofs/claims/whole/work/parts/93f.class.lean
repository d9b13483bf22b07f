/-! 93f_class -/
section S93f
set_option linter.unusedVariables false
set_option linter.unusedSimpArgs false
/-- a plain, a snow stand for what is known -/
def PlR (F : Nat → Int → Int32) (p : Nat) (K : Int → Int32) : Prop := (F p 0 = K 0 ∧ F p 1 = K 1 ∧ F p 2 = K 2 ∧ F p 3 = K 3 ∧ F p 5 = K 168 ∧ F p 6 = K 166 ∧ F p 7 = K 167) ∧ (∀ i, 0 ≤ i → i < 2 * tI (K 2) → F (p + 1) i = K (6 + i)) ∧
  (∀ a b, 0 ≤ a → a < tI (K 1) → 0 ≤ b → b < tI (K 1) → F (p + 2) (10 * a + b) = zI (wayZ K a b)) ∧ (∀ x, 0 ≤ x → x < 4 → F (p + 4) x = K (170 + 9 * x)) ∧
  (∀ x k, 0 ≤ x → x < 4 → 0 ≤ k → k < tI (K (170 + 9 * x)) → F (p + 5) (8 * x + k) = K (171 + 9 * x + k))
def SnR (F : Nat → Int → Int32) (a : Nat) (K : Int → Int32) : Prop := (F a 1 = K 4 ∧ F a 2 = K 5 ∧ tI (F a 3) = stepsZ K) ∧ (0 ≤ tI (F a 4) ∧ tI (F a 4) ≤ 99 ∧ tI (K 5) ≤ tI (F a 4) ∧ tI (K 169) = if tI (F a 4) < tI (K 168) then tI (F a 4) else tI (K 168)) ∧
  (∀ i, 0 ≤ i → i < tI (K 5) → F (a + 7) (tI (F a 4) - tI (K 5) + i) = K (46 + 2 * i) ∧ F (a + 8) (tI (F a 4) - tI (K 5) + i) = K (47 + 2 * i)) ∧
  (∀ i, 0 ≤ i → i < tI (K 169) → F (a + 7) (tI (F a 4) - tI (K 169) + i) = K (210 + 2 * i) ∧ F (a + 8) (tI (F a 4) - tI (K 169) + i) = K (211 + 2 * i)) ∧
  (∀ x, 0 ≤ x → x < 4 → F (a + 9) x = K (38 + 2 * x) ∧ F (a + 10) x = K (39 + 2 * x) ∧ F (a + 11) x = K (206 + x))
def SnO (E : EnQ) (F : Nat → Int → Int32) (a : Nat) (K : Int → Int32) : Prop := SnS E a ∧ PlS E (rfQ E a 0) ∧ PlR F (rfQ E a 0) K ∧ SnR F a K ∧ InvK K
theorem wayZ_rg {K : Int → Int32} (hK : 0 ≤ tI (K 2) ∧ tI (K 2) ≤ 16) (a b : Int) : -1 ≤ wayZ K a b ∧ wayZ K a b < 2 * tI (K 2) ∨ wayZ K a b = -1 := by
  have h := fndN_rg (isP K a b) (tI (K 2)).toNat 0
  unfold wayZ
  by_cases e : pathZ K a b = -1
  · rw [if_pos e]; exact Or.inr rfl
  · rw [if_neg e]; left
    unfold pathZ at e ⊢
    split <;> omega
theorem wayZ_lo {K : Int → Int32} (hK : 0 ≤ tI (K 2) ∧ tI (K 2) ≤ 16) (a b : Int) : -1 ≤ wayZ K a b ∧ wayZ K a b ≤ 31 := by
  rcases wayZ_rg hK a b with h | h <;> omega
theorem ct_25 {d : Nat} {E : EnQ} {F : Nat → Int → Int32} {G : Nat → Int → Int64} {p : Nat} {i : Int} (hP : PlS E p) (hi : -2147483648 ≤ i ∧ i ≤ 2147483647) (hd : 1 ≤ d) : callP MP d 25 [.ref p, .int (zI i)] (mk E F G) = some (Sum.inl (some (.int (zI (if 0 ≤ i ∧ i < tI (F p 3) then 1 else 0)))), mk E F G) := by

  have hs := hP.1
  refine into (D := 0) (by omega) hM_25 (rcv_mk hs (by decide)) rfl fun d hd => ?_
  show runP MP d 25 (0, [some (.ref p), some (.int (zI i))], [], _) = _
  have hr := tI_rg (F p 3)
  by_cases h1 : i < 0
  · rw [if_neg (by omega)]; rw [q_25_0]; (try simp only [↓n_rd, li_0, li_1, li_2, li_3, li_16, zI_add, zI_sub, zI_mul, zI_neg, ↓Option.bind_some]); simp (disch := (first | assumption | exact tI_rg _ | omega | exact uR_at | exact row_ne hF (by decide) | exact row_ne (row_ne hF (by decide)) (by decide) | exact SnS_18 | exact SnS_30 | exact LdS_44 | exact LdS_46)) only [q_25_16, q_25_17, ↓n_rd, retZ_z, li_0, li_1, li_2, li_3, li_16, zI_add, zI_sub, zI_mul, zI_neg, ↓Option.bind_some, ↓g2_3, zIt2, uR_at, uR_ne, uR_uR, uC_uC, uC_at, ↓reduceIte, decide_eq_true_eq, leT, leF, ltT, ltF, eqT, eqF, ne_eq, not_true_eq_false, not_false_eq_true, Bool.false_eq_true, tI_zI]
  · by_cases h2 : i < tI (F p 3)
    · rw [if_pos (by omega)]; rw [q_25_0]; (try simp only [↓n_rd, li_0, li_1, li_2, li_3, li_16, zI_add, zI_sub, zI_mul, zI_neg, ↓Option.bind_some]); simp (disch := (first | assumption | exact tI_rg _ | omega | exact uR_at | exact row_ne hF (by decide) | exact row_ne (row_ne hF (by decide)) (by decide) | exact SnS_18 | exact SnS_30 | exact LdS_44 | exact LdS_46)) only [q_25_16, q_25_17, ↓n_rd, retZ_z, li_0, li_1, li_2, li_3, li_16, zI_add, zI_sub, zI_mul, zI_neg, ↓Option.bind_some, ↓g2_3, zIt2, uR_at, uR_ne, uR_uR, uC_uC, uC_at, ↓reduceIte, decide_eq_true_eq, leT, leF, ltT, ltF, eqT, eqF, ne_eq, not_true_eq_false, not_false_eq_true, Bool.false_eq_true, tI_zI]
    · rw [if_neg (by omega)]; rw [q_25_0]; (try simp only [↓n_rd, li_0, li_1, li_2, li_3, li_16, zI_add, zI_sub, zI_mul, zI_neg, ↓Option.bind_some]); simp (disch := (first | assumption | exact tI_rg _ | omega | exact uR_at | exact row_ne hF (by decide) | exact row_ne (row_ne hF (by decide)) (by decide) | exact SnS_18 | exact SnS_30 | exact LdS_44 | exact LdS_46)) only [q_25_16, q_25_17, ↓n_rd, retZ_z, li_0, li_1, li_2, li_3, li_16, zI_add, zI_sub, zI_mul, zI_neg, ↓Option.bind_some, ↓g2_3, zIt2, uR_at, uR_ne, uR_uR, uC_uC, uC_at, ↓reduceIte, decide_eq_true_eq, leT, leF, ltT, ltF, eqT, eqF, ne_eq, not_true_eq_false, not_false_eq_true, Bool.false_eq_true, tI_zI]
theorem cc_25 {d : Nat} {E : EnQ} {F : Nat → Int → Int32} {G : Nat → Int → Int64} {kk : Int → HeapP → ResP} {kx : Nat → HeapP → ResP} {p : Nat} {i : Int} (hP : PlS E p) (hi : -2147483648 ≤ i ∧ i ≤ 2147483647) (hd : 1 ≤ d) : cT (callP MP d 25 [.ref p, .int (zI i)] (mk E F G)) kk kx = kk (if 0 ≤ i ∧ i < tI (F p 3) then 1 else 0) (mk E F G) := cT_ret (by apply ct_25 <;> assumption) (by split <;> omega)
theorem ct_27 {d : Nat} {E : EnQ} {F : Nat → Int → Int32} {G : Nat → Int → Int64} {p : Nat} {i : Int} (hP : PlS E p) (hi : -2147483648 ≤ i ∧ i ≤ 2147483647) (hd : 1 ≤ d) : callP MP d 27 [.ref p, .int (zI i)] (mk E F G) = some (Sum.inl (some (.int (zI (if 0 ≤ i ∧ i < tI (F p 1) then 1 else 0)))), mk E F G) := by

  have hs := hP.1
  refine into (D := 0) (by omega) hM_27 (rcv_mk hs (by decide)) rfl fun d hd => ?_
  show runP MP d 27 (0, [some (.ref p), some (.int (zI i))], [], _) = _
  have hr := tI_rg (F p 1)
  by_cases h1 : i < 0
  · rw [if_neg (by omega)]; rw [q_27_0]; (try simp only [↓n_rd, li_0, li_1, li_2, li_16, zI_add, zI_sub, zI_mul, zI_neg, ↓Option.bind_some]); simp (disch := (first | assumption | exact tI_rg _ | omega | exact uR_at | exact row_ne hF (by decide) | exact row_ne (row_ne hF (by decide)) (by decide) | exact SnS_18 | exact SnS_30 | exact LdS_44 | exact LdS_46)) only [q_27_16, q_27_17, ↓n_rd, retZ_z, li_0, li_1, li_2, li_16, zI_add, zI_sub, zI_mul, zI_neg, ↓Option.bind_some, ↓g2_1, zIt2, uR_at, uR_ne, uR_uR, uC_uC, uC_at, ↓reduceIte, decide_eq_true_eq, leT, leF, ltT, ltF, eqT, eqF, ne_eq, not_true_eq_false, not_false_eq_true, Bool.false_eq_true, tI_zI]
  · by_cases h2 : i < tI (F p 1)
    · rw [if_pos (by omega)]; rw [q_27_0]; (try simp only [↓n_rd, li_0, li_1, li_2, li_16, zI_add, zI_sub, zI_mul, zI_neg, ↓Option.bind_some]); simp (disch := (first | assumption | exact tI_rg _ | omega | exact uR_at | exact row_ne hF (by decide) | exact row_ne (row_ne hF (by decide)) (by decide) | exact SnS_18 | exact SnS_30 | exact LdS_44 | exact LdS_46)) only [q_27_16, q_27_17, ↓n_rd, retZ_z, li_0, li_1, li_2, li_16, zI_add, zI_sub, zI_mul, zI_neg, ↓Option.bind_some, ↓g2_1, zIt2, uR_at, uR_ne, uR_uR, uC_uC, uC_at, ↓reduceIte, decide_eq_true_eq, leT, leF, ltT, ltF, eqT, eqF, ne_eq, not_true_eq_false, not_false_eq_true, Bool.false_eq_true, tI_zI]
    · rw [if_neg (by omega)]; rw [q_27_0]; (try simp only [↓n_rd, li_0, li_1, li_2, li_16, zI_add, zI_sub, zI_mul, zI_neg, ↓Option.bind_some]); simp (disch := (first | assumption | exact tI_rg _ | omega | exact uR_at | exact row_ne hF (by decide) | exact row_ne (row_ne hF (by decide)) (by decide) | exact SnS_18 | exact SnS_30 | exact LdS_44 | exact LdS_46)) only [q_27_16, q_27_17, ↓n_rd, retZ_z, li_0, li_1, li_2, li_16, zI_add, zI_sub, zI_mul, zI_neg, ↓Option.bind_some, ↓g2_1, zIt2, uR_at, uR_ne, uR_uR, uC_uC, uC_at, ↓reduceIte, decide_eq_true_eq, leT, leF, ltT, ltF, eqT, eqF, ne_eq, not_true_eq_false, not_false_eq_true, Bool.false_eq_true, tI_zI]
theorem cc_27 {d : Nat} {E : EnQ} {F : Nat → Int → Int32} {G : Nat → Int → Int64} {kk : Int → HeapP → ResP} {kx : Nat → HeapP → ResP} {p : Nat} {i : Int} (hP : PlS E p) (hi : -2147483648 ≤ i ∧ i ≤ 2147483647) (hd : 1 ≤ d) : cT (callP MP d 27 [.ref p, .int (zI i)] (mk E F G)) kk kx = kk (if 0 ≤ i ∧ i < tI (F p 1) then 1 else 0) (mk E F G) := cT_ret (by apply ct_27 <;> assumption) (by split <;> omega)
theorem ct_26 {d : Nat} {E : EnQ} {F : Nat → Int → Int32} {G : Nat → Int → Int64} {p : Nat} {x y : Int} {K : Int → Int32} (hR : PlR F p K) (hI : InvK K) (hP : PlS E p) (hx : -2147483648 ≤ x ∧ x ≤ 2147483647) (hy : -2147483648 ≤ y ∧ y ≤ 2147483647) (hd : 2 ≤ d) : callP MP d 26 [.ref p, .int (zI x), .int (zI y)] (mk E F G) = some (Sum.inl (some (.int (zI (if (0 ≤ x ∧ x < tI (K 1)) ∧ (0 ≤ y ∧ y < tI (K 1)) then wayZ K x y else -1)))), mk E F G) := by

  have hs := hP.1
  have hb := hI.1.2.1
  have hw := wayZ_lo hI.1.2.2.1 x y
  refine into (D := 1) (by omega) hM_26 (rcv_mk hs (by decide)) rfl fun d hd => ?_
  show runP MP d 26 (0, [some (.ref p), some (.int (zI x)), some (.int (zI y))], [], _) = _
  have e1 : tI (F p 1) = tI (K 1) := by rw [hR.1.2.1]
  by_cases h1 : 0 ≤ x ∧ x < tI (K 1)
  · by_cases h2 : 0 ≤ y ∧ y < tI (K 1)
    · have e2 := hR.2.2.1 x y h1.1 h1.2 h2.1 h2.2
      rw [if_pos ⟨h1, h2⟩]
      rw [q_26_0]; (try simp only [↓n_al, ↓n_cI, li_0, li_1, li_2, li_9, li_10, li_30, li_31, zI_add, zI_sub, zI_mul, zI_neg, ↓Option.bind_some]); simp (disch := (first | assumption | exact tI_rg _ | omega | exact uR_at | exact row_ne hF (by decide) | exact row_ne (row_ne hF (by decide)) (by decide) | exact SnS_18 | exact SnS_30 | exact LdS_44 | exact LdS_46)) only [q_26_30, q_26_31, ↓cc_27, e1, h1, h2, e2, and_self, if_true, ↓n_al, ↓n_cI, li_0, li_1, li_2, li_9, li_10, li_30, li_31, zI_add, zI_sub, zI_mul, zI_neg, ↓Option.bind_some, ↓g2_9, ↓PlS_l2, ↓PlS_s2, zIt2, uR_at, uR_ne, uR_uR, uC_uC, uC_at, ↓reduceIte, decide_eq_true_eq, leT, leF, ltT, ltF, eqT, eqF, ne_eq, not_true_eq_false, not_false_eq_true, Bool.false_eq_true, tI_zI]
    · rw [if_neg (fun z => h2 z.2)]
      rw [q_26_0]; (try simp only [↓n_al, ↓n_cI, li_0, li_1, li_2, li_9, li_10, li_30, li_31, zI_add, zI_sub, zI_mul, zI_neg, ↓Option.bind_some]); simp (disch := (first | assumption | exact tI_rg _ | omega | exact uR_at | exact row_ne hF (by decide) | exact row_ne (row_ne hF (by decide)) (by decide) | exact SnS_18 | exact SnS_30 | exact LdS_44 | exact LdS_46)) only [q_26_30, q_26_31, ↓cc_27, e1, h1, if_neg h2, and_self, if_true, ↓n_al, ↓n_cI, li_0, li_1, li_2, li_9, li_10, li_30, li_31, zI_add, zI_sub, zI_mul, zI_neg, ↓Option.bind_some, ↓g2_9, ↓PlS_l2, ↓PlS_s2, zIt2, uR_at, uR_ne, uR_uR, uC_uC, uC_at, ↓reduceIte, decide_eq_true_eq, leT, leF, ltT, ltF, eqT, eqF, ne_eq, not_true_eq_false, not_false_eq_true, Bool.false_eq_true, tI_zI]
  · rw [if_neg (fun z => h1 z.1)]
    rw [q_26_0]; (try simp only [↓n_al, ↓n_cI, li_0, li_1, li_2, li_9, li_10, li_30, li_31, zI_add, zI_sub, zI_mul, zI_neg, ↓Option.bind_some]); simp (disch := (first | assumption | exact tI_rg _ | omega | exact uR_at | exact row_ne hF (by decide) | exact row_ne (row_ne hF (by decide)) (by decide) | exact SnS_18 | exact SnS_30 | exact LdS_44 | exact LdS_46)) only [q_26_30, q_26_31, ↓cc_27, e1, if_neg h1, ↓n_al, ↓n_cI, li_0, li_1, li_2, li_9, li_10, li_30, li_31, zI_add, zI_sub, zI_mul, zI_neg, ↓Option.bind_some, ↓g2_9, ↓PlS_l2, ↓PlS_s2, zIt2, uR_at, uR_ne, uR_uR, uC_uC, uC_at, ↓reduceIte, decide_eq_true_eq, leT, leF, ltT, ltF, eqT, eqF, ne_eq, not_true_eq_false, not_false_eq_true, Bool.false_eq_true, tI_zI]
theorem cc_26 {d : Nat} {E : EnQ} {F : Nat → Int → Int32} {G : Nat → Int → Int64} {kk : Int → HeapP → ResP} {kx : Nat → HeapP → ResP} {p : Nat} {x y : Int} {K : Int → Int32} (hR : PlR F p K) (hI : InvK K) (hP : PlS E p) (hx : -2147483648 ≤ x ∧ x ≤ 2147483647) (hy : -2147483648 ≤ y ∧ y ≤ 2147483647) (hd : 2 ≤ d) : cT (callP MP d 26 [.ref p, .int (zI x), .int (zI y)] (mk E F G)) kk kx = kk (if (0 ≤ x ∧ x < tI (K 1)) ∧ (0 ≤ y ∧ y < tI (K 1)) then wayZ K x y else -1) (mk E F G) := cT_ret (by apply ct_26 <;> assumption) (by have := wayZ_lo hI.1.2.2.1 x y; split <;> omega)
theorem ct_28 {d : Nat} {E : EnQ} {F : Nat → Int → Int32} {G : Nat → Int → Int64} {p : Nat} {x : Int} {K : Int → Int32} (hR : PlR F p K) (hI : InvK K) (hP : PlS E p) (hx : 0 ≤ x ∧ x < 2 * tI (K 2)) (hd : 1 ≤ d) : callP MP d 28 [.ref p, .int (zI x)] (mk E F G) = some (Sum.inl (some (.int (zI (fromZ K x)))), mk E F G) := by

  have hs := hP.1
  have hb := hI.1.2.2.1
  refine into (D := 0) (by omega) hM_28 (rcv_mk hs (by decide)) rfl fun d hd => ?_
  show runP MP d 28 (0, [some (.ref p), some (.int (zI x))], [], _) = _
  have e1 : tI (F p 2) = tI (K 2) := by rw [hR.1.2.2.1]
  have e2 : F (p + 1) x = K (6 + x) := hR.2.1 x (by omega) (by omega)
  rw [q_28_0]; (try simp only [↓n_rd, ↓n_al, li_0, li_1, li_2, li_8, li_24, zI_add, zI_sub, zI_mul, zI_neg, ↓Option.bind_some]); simp (disch := (first | assumption | exact tI_rg _ | omega | exact uR_at | exact row_ne hF (by decide) | exact row_ne (row_ne hF (by decide)) (by decide) | exact SnS_18 | exact SnS_30 | exact LdS_44 | exact LdS_46)) only [q_28_23, q_28_24, e2, ↓n_rd, ↓n_al, li_0, li_1, li_2, li_8, li_24, zI_add, zI_sub, zI_mul, zI_neg, ↓Option.bind_some, ↓g2_2, ↓g2_8, ↓PlS_l1, ↓PlS_s1, zIt2, uR_at, uR_ne, uR_uR, uC_uC, uC_at, ↓reduceIte, decide_eq_true_eq, leT, leF, ltT, ltF, eqT, eqF, ne_eq, not_true_eq_false, not_false_eq_true, Bool.false_eq_true, tI_zI]
  rfl
theorem cc_28 {d : Nat} {E : EnQ} {F : Nat → Int → Int32} {G : Nat → Int → Int64} {kk : Int → HeapP → ResP} {kx : Nat → HeapP → ResP} {p : Nat} {x : Int} {K : Int → Int32} (hR : PlR F p K) (hI : InvK K) (hP : PlS E p) (hx : 0 ≤ x ∧ x < 2 * tI (K 2)) (hd : 1 ≤ d) : cT (callP MP d 28 [.ref p, .int (zI x)] (mk E F G)) kk kx = kk (fromZ K x) (mk E F G) := cT_ret (by apply ct_28 <;> assumption) (tI_rg _)
theorem ct_29 {d : Nat} {E : EnQ} {F : Nat → Int → Int32} {G : Nat → Int → Int64} {p : Nat} {x : Int} {K : Int → Int32} (hR : PlR F p K) (hI : InvK K) (hP : PlS E p) (hx : 0 ≤ x ∧ x < 2 * tI (K 2)) (hd : 1 ≤ d) : callP MP d 29 [.ref p, .int (zI x)] (mk E F G) = some (Sum.inl (some (.int (zI (toZ K x)))), mk E F G) := by

  have hs := hP.1
  have hb := hI.1.2.2.1
  refine into (D := 0) (by omega) hM_29 (rcv_mk hs (by decide)) rfl fun d hd => ?_
  show runP MP d 29 (0, [some (.ref p), some (.int (zI x))], [], _) = _
  have e1 : tI (F p 2) = tI (K 2) := by rw [hR.1.2.2.1]
  have hf : 0 ≤ flipZ x ∧ flipZ x < 2 * tI (K 2) := by unfold flipZ; split <;> omega
  have e2 : F (p + 1) (flipZ x) = K (6 + flipZ x) := hR.2.1 _ (by omega) (by omega)
  rw [q_29_0]; (try simp only [↓n_rd, ↓n_al, li_0, li_1, li_2, li_8, zI_add, zI_sub, zI_mul, zI_neg, ↓Option.bind_some]); simp (disch := (first | assumption | exact tI_rg _ | omega | exact uR_at | exact row_ne hF (by decide) | exact row_ne (row_ne hF (by decide)) (by decide) | exact SnS_18 | exact SnS_30 | exact LdS_44 | exact LdS_46)) only [q_29_25, q_29_26, xorF, e2, ↓n_rd, ↓n_al, li_0, li_1, li_2, li_8, zI_add, zI_sub, zI_mul, zI_neg, ↓Option.bind_some, ↓g2_2, ↓g2_8, ↓PlS_l1, ↓PlS_s1, zIt2, uR_at, uR_ne, uR_uR, uC_uC, uC_at, ↓reduceIte, decide_eq_true_eq, leT, leF, ltT, ltF, eqT, eqF, ne_eq, not_true_eq_false, not_false_eq_true, Bool.false_eq_true, tI_zI]
  rfl
theorem cc_29 {d : Nat} {E : EnQ} {F : Nat → Int → Int32} {G : Nat → Int → Int64} {kk : Int → HeapP → ResP} {kx : Nat → HeapP → ResP} {p : Nat} {x : Int} {K : Int → Int32} (hR : PlR F p K) (hI : InvK K) (hP : PlS E p) (hx : 0 ≤ x ∧ x < 2 * tI (K 2)) (hd : 1 ≤ d) : cT (callP MP d 29 [.ref p, .int (zI x)] (mk E F G)) kk kx = kk (toZ K x) (mk E F G) := cT_ret (by apply ct_29 <;> assumption) (tI_rg _)
theorem ct_33 {d : Nat} {E : EnQ} {F : Nat → Int → Int32} {G : Nat → Int → Int64} {p : Nat} {x k : Int} {K : Int → Int32} (hR : PlR F p K) (hI : InvK K) (hP : PlS E p) (hx : 0 ≤ x ∧ x < tI (K 3)) (hk : 0 ≤ k ∧ k < tI (K (170 + 9 * x))) (hd : 2 ≤ d) : callP MP d 33 [.ref p, .int (zI x), .int (zI k)] (mk E F G) = some (Sum.inl (some (.int (zI (tI (K (171 + 9 * x + k)))))), mk E F G) := by

  have hs := hP.1
  have hb := hI.1.2.2.2.1
  have hB := (hI.2.2.1 x hx.1 (by omega)).1
  refine into (D := 1) (by omega) hM_33 (rcv_mk hs (by decide)) rfl fun d hd => ?_
  show runP MP d 33 (0, [some (.ref p), some (.int (zI x)), some (.int (zI k))], [], _) = _
  have e1 : tI (F p 3) = tI (K 3) := by rw [hR.1.2.2.2.1]
  have e2 : F (p + 4) x = K (170 + 9 * x) := hR.2.2.2.1 x hx.1 (by omega)
  have e3 : F (p + 5) (8 * x + k) = K (171 + 9 * x + k) := hR.2.2.2.2 x k hx.1 (by omega) hk.1 hk.2
  rw [q_33_0]; (try simp only [↓n_al, ↓n_cI, li_0, li_1, li_2, li_8, li_12, zI_add, zI_sub, zI_mul, zI_neg, ↓Option.bind_some]); simp (disch := (first | assumption | exact tI_rg _ | omega | exact uR_at | exact row_ne hF (by decide) | exact row_ne (row_ne hF (by decide)) (by decide) | exact SnS_18 | exact SnS_30 | exact LdS_44 | exact LdS_46)) only [q_33_36, q_33_37, ↓cc_25, e1, e2, e3, hx, and_self, if_true, ↓n_al, ↓n_cI, li_0, li_1, li_2, li_8, li_12, zI_add, zI_sub, zI_mul, zI_neg, ↓Option.bind_some, ↓g2_12, ↓PlS_l5, ↓PlS_s5, ↓g2_11, ↓PlS_l4, ↓PlS_s4, zIt2, uR_at, uR_ne, uR_uR, uC_uC, uC_at, ↓reduceIte, decide_eq_true_eq, leT, leF, ltT, ltF, eqT, eqF, ne_eq, not_true_eq_false, not_false_eq_true, Bool.false_eq_true, tI_zI]
theorem cc_33 {d : Nat} {E : EnQ} {F : Nat → Int → Int32} {G : Nat → Int → Int64} {kk : Int → HeapP → ResP} {kx : Nat → HeapP → ResP} {p : Nat} {x k : Int} {K : Int → Int32} (hR : PlR F p K) (hI : InvK K) (hP : PlS E p) (hx : 0 ≤ x ∧ x < tI (K 3)) (hk : 0 ≤ k ∧ k < tI (K (170 + 9 * x))) (hd : 2 ≤ d) : cT (callP MP d 33 [.ref p, .int (zI x), .int (zI k)] (mk E F G)) kk kx = kk (tI (K (171 + 9 * x + k))) (mk E F G) := cT_ret (by apply ct_33 <;> assumption) (tI_rg _)
theorem ct_65 {d : Nat} {E : EnQ} {F : Nat → Int → Int32} {G : Nat → Int → Int64} {a : Nat} {l : Nat} {n k : Int} (hS : SnS E a) (hl : l = a + 7 ∨ l = a + 8) (hk : 0 ≤ k ∧ k < n ∧ n ≤ tI (F a 4) ∧ tI (F a 4) ≤ 99) (hd : 1 ≤ d) : callP MP d 65 [.ref a, .ref l, .int (zI n), .int (zI k)] (mk E F G) = some (Sum.inl (some (.int (zI (tI (F l (tI (F a 4) - n + k)))))), mk E F G) := by

  have hs := hS.1
  refine into (D := 0) (by omega) hM_65 (rcv_mk hs (by decide)) rfl fun d hd => ?_
  show runP MP d 65 (0, [some (.ref a), some (.ref l), some (.int (zI n)), some (.int (zI k)), none], [], _) = _
  have hsl : shx E l = (2, 0, 99) := by
    rcases hl with e | e
    · rw [e]; exact hS.2.1
    · rw [e]; exact hS.2.2.1
  have hlen : ∀ {f : Int → ResP}, (lenT (mk E F G) l).bind f = f 99 := fun {f} => len_I hsl (by decide)
  have hal : ∀ {i : Int} {f : Int → ResP}, 0 ≤ i ∧ i < 99 → (alT (mk E F G) 0 l (zI i)).bind f = f (tI (F l i)) := fun {i f} hi => alT_b hsl hi (by decide)
  rw [q_65_0]; (try simp only [↓n_rd, ↓n_al, ↓n_len, li_0, li_1, li_4, li_5, li_38, zI_add, zI_sub, zI_mul, zI_neg, ↓Option.bind_some]); simp (disch := (first | assumption | exact tI_rg _ | omega | exact uR_at | exact row_ne hF (by decide) | exact row_ne (row_ne hF (by decide)) (by decide) | exact SnS_18 | exact SnS_30 | exact LdS_44 | exact LdS_46)) only [q_65_38, q_65_39, ↓hlen, ↓hal, ↓n_rd, ↓n_al, ↓n_len, li_0, li_1, li_4, li_5, li_38, zI_add, zI_sub, zI_mul, zI_neg, ↓Option.bind_some, ↓g5_4, zIt2, uR_at, uR_ne, uR_uR, uC_uC, uC_at, ↓reduceIte, decide_eq_true_eq, leT, leF, ltT, ltF, eqT, eqF, ne_eq, not_true_eq_false, not_false_eq_true, Bool.false_eq_true, tI_zI]
theorem cc_65 {d : Nat} {E : EnQ} {F : Nat → Int → Int32} {G : Nat → Int → Int64} {kk : Int → HeapP → ResP} {kx : Nat → HeapP → ResP} {a : Nat} {l : Nat} {n k : Int} (hS : SnS E a) (hl : l = a + 7 ∨ l = a + 8) (hk : 0 ≤ k ∧ k < n ∧ n ≤ tI (F a 4) ∧ tI (F a 4) ≤ 99) (hd : 1 ≤ d) : cT (callP MP d 65 [.ref a, .ref l, .int (zI n), .int (zI k)] (mk E F G)) kk kx = kk (tI (F l (tI (F a 4) - n + k))) (mk E F G) := cT_ret (by apply ct_65 <;> assumption) (tI_rg _)
theorem ct_64 {d : Nat} {E : EnQ} {F : Nat → Int → Int32} {G : Nat → Int → Int64} {a : Nat} {K : Int → Int32} (hO : SnO E F a K) {k : Int} (hk : 0 ≤ k ∧ k < tI (K 5)) (hd : 2 ≤ d) : callP MP d 64 [.ref a, .int (zI k)] (mk E F G) = some (Sum.inl (some (.int (zI (prW K k)))), mk E F G) := by

  obtain ⟨hS, hP, hR, hN, hI⟩ := hO
  have hs := hS.1
  refine into (D := 1) (by omega) hM_64 (rcv_mk hs (by decide)) rfl fun d hd => ?_
  show runP MP d 64 (0, [some (.ref a), some (.int (zI k))], [], _) = _
  have e1 : tI (F a 2) = tI (K 5) := by rw [hN.1.2.1]
  have h4 := hN.2.1
  have e2 := (hN.2.2.1 k hk.1 hk.2).1
  rw [q_64_0]; (try simp only [↓n_rd, ↓n_cI, li_0, li_2, li_5, li_64, zI_add, zI_sub, zI_mul, zI_neg, ↓Option.bind_some]); simp (disch := (first | assumption | exact tI_rg _ | omega | exact uR_at | exact row_ne hF (by decide) | exact row_ne (row_ne hF (by decide)) (by decide) | exact SnS_18 | exact SnS_30 | exact LdS_44 | exact LdS_46)) only [↓cc_65 hS (Or.inl rfl), e1, ↓n_rd, ↓n_cI, li_0, li_2, li_5, li_64, zI_add, zI_sub, zI_mul, zI_neg, ↓Option.bind_some, ↓g5_2, ↓g5_5, ↓SnS_l7, ↓SnS_s7, zIt2, uR_at, uR_ne, uR_uR, uC_uC, uC_at, ↓reduceIte, decide_eq_true_eq, leT, leF, ltT, ltF, eqT, eqF, ne_eq, not_true_eq_false, not_false_eq_true, Bool.false_eq_true, tI_zI]
  rw [e2]; rfl
theorem cc_64 {d : Nat} {E : EnQ} {F : Nat → Int → Int32} {G : Nat → Int → Int64} {kk : Int → HeapP → ResP} {kx : Nat → HeapP → ResP} {a : Nat} {K : Int → Int32} (hO : SnO E F a K) {k : Int} (hk : 0 ≤ k ∧ k < tI (K 5)) (hd : 2 ≤ d) : cT (callP MP d 64 [.ref a, .int (zI k)] (mk E F G)) kk kx = kk (prW K k) (mk E F G) := cT_ret (by apply ct_64 <;> assumption) (tI_rg _)
theorem ct_70 {d : Nat} {E : EnQ} {F : Nat → Int → Int32} {G : Nat → Int → Int64} {a : Nat} {K : Int → Int32} (hO : SnO E F a K) {k : Int} (hk : 0 ≤ k ∧ k < tI (K 5)) (hd : 2 ≤ d) : callP MP d 70 [.ref a, .int (zI k)] (mk E F G) = some (Sum.inl (some (.int (zI (prO K k)))), mk E F G) := by

  obtain ⟨hS, hP, hR, hN, hI⟩ := hO
  have hs := hS.1
  refine into (D := 1) (by omega) hM_70 (rcv_mk hs (by decide)) rfl fun d hd => ?_
  show runP MP d 70 (0, [some (.ref a), some (.int (zI k))], [], _) = _
  have e1 : tI (F a 2) = tI (K 5) := by rw [hN.1.2.1]
  have h4 := hN.2.1
  have e2 := (hN.2.2.1 k hk.1 hk.2).2
  rw [q_70_0]; (try simp only [↓n_rd, ↓n_cI, li_0, li_2, li_5, li_6, li_70, zI_add, zI_sub, zI_mul, zI_neg, ↓Option.bind_some]); simp (disch := (first | assumption | exact tI_rg _ | omega | exact uR_at | exact row_ne hF (by decide) | exact row_ne (row_ne hF (by decide)) (by decide) | exact SnS_18 | exact SnS_30 | exact LdS_44 | exact LdS_46)) only [↓cc_65 hS (Or.inr rfl), e1, ↓n_rd, ↓n_cI, li_0, li_2, li_5, li_6, li_70, zI_add, zI_sub, zI_mul, zI_neg, ↓Option.bind_some, ↓g5_2, ↓g5_6, ↓SnS_l8, ↓SnS_s8, zIt2, uR_at, uR_ne, uR_uR, uC_uC, uC_at, ↓reduceIte, decide_eq_true_eq, leT, leF, ltT, ltF, eqT, eqF, ne_eq, not_true_eq_false, not_false_eq_true, Bool.false_eq_true, tI_zI]
  rw [e2]; rfl
theorem cc_70 {d : Nat} {E : EnQ} {F : Nat → Int → Int32} {G : Nat → Int → Int64} {kk : Int → HeapP → ResP} {kx : Nat → HeapP → ResP} {a : Nat} {K : Int → Int32} (hO : SnO E F a K) {k : Int} (hk : 0 ≤ k ∧ k < tI (K 5)) (hd : 2 ≤ d) : cT (callP MP d 70 [.ref a, .int (zI k)] (mk E F G)) kk kx = kk (prO K k) (mk E F G) := cT_ret (by apply ct_70 <;> assumption) (tI_rg _)
theorem ct_66 {d : Nat} {E : EnQ} {F : Nat → Int → Int32} {G : Nat → Int → Int64} {a : Nat} {K : Int → Int32} (hO : SnO E F a K) (hd : 1 ≤ d) : callP MP d 66 [.ref a] (mk E F G) = some (Sum.inl (some (.int (zI (tI (K 169))))), mk E F G) := by

  obtain ⟨hS, hP, hR, hN, hI⟩ := hO
  have hs := hS.1
  have hs2 := hP.1
  refine into (D := 0) (by omega) hM_66 (rcv_mk hs (by decide)) rfl fun d hd => ?_
  show runP MP d 66 (0, [some (.ref a)], [], _) = _
  have h4 := hN.2.1
  have e5 : tI (F (rfQ E a 0) 5) = tI (K 168) := by rw [hR.1.2.2.2.2.1]
  have hb := hI.1.2.2.2.2.2.2.2.2.1
  rw [q_66_0]; (try simp only [↓n_rd, li_0, li_2, li_4, li_5, zI_add, zI_sub, zI_mul, zI_neg, ↓Option.bind_some]); simp (disch := (first | assumption | exact tI_rg _ | omega | exact uR_at | exact row_ne hF (by decide) | exact row_ne (row_ne hF (by decide)) (by decide) | exact SnS_18 | exact SnS_30 | exact LdS_44 | exact LdS_46)) only [e5, minZ, ↓n_rd, li_0, li_2, li_4, li_5, zI_add, zI_sub, zI_mul, zI_neg, ↓Option.bind_some, ↓g5_4, ↓g5_0, ↓g2_5, zIt2, uR_at, uR_ne, uR_uR, uC_uC, uC_at, ↓reduceIte, decide_eq_true_eq, leT, leF, ltT, ltF, eqT, eqF, ne_eq, not_true_eq_false, not_false_eq_true, Bool.false_eq_true, tI_zI]
  rw [h4.2.2.2]
  by_cases h : tI (F a 4) < tI (K 168)
  · rw [if_pos h, if_neg (by omega)]
  · rw [if_neg h]
    by_cases h2 : tI (K 168) < tI (F a 4)
    · rw [if_pos h2]
    · rw [if_neg h2, show tI (F a 4) = tI (K 168) by omega]
theorem cc_66 {d : Nat} {E : EnQ} {F : Nat → Int → Int32} {G : Nat → Int → Int64} {kk : Int → HeapP → ResP} {kx : Nat → HeapP → ResP} {a : Nat} {K : Int → Int32} (hO : SnO E F a K) (hd : 1 ≤ d) : cT (callP MP d 66 [.ref a] (mk E F G)) kk kx = kk (tI (K 169)) (mk E F G) := cT_ret (by apply ct_66 <;> assumption) (tI_rg _)
theorem ct_78 {d : Nat} {E : EnQ} {F : Nat → Int → Int32} {G : Nat → Int → Int64} {a : Nat} {K : Int → Int32} (hO : SnO E F a K) {k : Int} (hk : 0 ≤ k ∧ k < tI (K 169)) (hd : 2 ≤ d) : callP MP d 78 [.ref a, .int (zI k)] (mk E F G) = some (Sum.inl (some (.int (zI (woW K k)))), mk E F G) := by

  have hO' := hO
  obtain ⟨hS, hP, hR, hN, hI⟩ := hO
  have hs := hS.1
  refine into (D := 1) (by omega) hM_78 (rcv_mk hs (by decide)) rfl fun d hd => ?_
  show runP MP d 78 (0, [some (.ref a), some (.int (zI k))], [], _) = _
  have h4 := hN.2.1
  have hle : tI (K 169) ≤ tI (F a 4) := by
    rw [h4.2.2.2]; split <;> omega
  have e2 := (hN.2.2.2.1 k hk.1 hk.2).1
  rw [q_78_0]; (try simp only [↓n_cI, li_0, li_5, zI_add, zI_sub, zI_mul, zI_neg, ↓Option.bind_some]); simp (disch := (first | assumption | exact tI_rg _ | omega | exact uR_at | exact row_ne hF (by decide) | exact row_ne (row_ne hF (by decide)) (by decide) | exact SnS_18 | exact SnS_30 | exact LdS_44 | exact LdS_46)) only [↓cc_66 hO', ↓cc_65 hS (Or.inl rfl), ↓n_cI, li_0, li_5, zI_add, zI_sub, zI_mul, zI_neg, ↓Option.bind_some, ↓g5_5, ↓SnS_l7, ↓SnS_s7, zIt2, uR_at, uR_ne, uR_uR, uC_uC, uC_at, ↓reduceIte, decide_eq_true_eq, leT, leF, ltT, ltF, eqT, eqF, ne_eq, not_true_eq_false, not_false_eq_true, Bool.false_eq_true, tI_zI]
  rw [e2]; rfl
theorem cc_78 {d : Nat} {E : EnQ} {F : Nat → Int → Int32} {G : Nat → Int → Int64} {kk : Int → HeapP → ResP} {kx : Nat → HeapP → ResP} {a : Nat} {K : Int → Int32} (hO : SnO E F a K) {k : Int} (hk : 0 ≤ k ∧ k < tI (K 169)) (hd : 2 ≤ d) : cT (callP MP d 78 [.ref a, .int (zI k)] (mk E F G)) kk kx = kk (woW K k) (mk E F G) := cT_ret (by apply ct_78 <;> assumption) (tI_rg _)
theorem ct_79 {d : Nat} {E : EnQ} {F : Nat → Int → Int32} {G : Nat → Int → Int64} {a : Nat} {K : Int → Int32} (hO : SnO E F a K) {k : Int} (hk : 0 ≤ k ∧ k < tI (K 169)) (hd : 2 ≤ d) : callP MP d 79 [.ref a, .int (zI k)] (mk E F G) = some (Sum.inl (some (.int (zI (woO K k)))), mk E F G) := by

  have hO' := hO
  obtain ⟨hS, hP, hR, hN, hI⟩ := hO
  have hs := hS.1
  refine into (D := 1) (by omega) hM_79 (rcv_mk hs (by decide)) rfl fun d hd => ?_
  show runP MP d 79 (0, [some (.ref a), some (.int (zI k))], [], _) = _
  have h4 := hN.2.1
  have hle : tI (K 169) ≤ tI (F a 4) := by
    rw [h4.2.2.2]; split <;> omega
  have e2 := (hN.2.2.2.1 k hk.1 hk.2).2
  rw [q_79_0]; (try simp only [↓n_cI, li_0, li_5, li_6, zI_add, zI_sub, zI_mul, zI_neg, ↓Option.bind_some]); simp (disch := (first | assumption | exact tI_rg _ | omega | exact uR_at | exact row_ne hF (by decide) | exact row_ne (row_ne hF (by decide)) (by decide) | exact SnS_18 | exact SnS_30 | exact LdS_44 | exact LdS_46)) only [↓cc_66 hO', ↓cc_65 hS (Or.inr rfl), ↓n_cI, li_0, li_5, li_6, zI_add, zI_sub, zI_mul, zI_neg, ↓Option.bind_some, ↓g5_6, ↓SnS_l8, ↓SnS_s8, zIt2, uR_at, uR_ne, uR_uR, uC_uC, uC_at, ↓reduceIte, decide_eq_true_eq, leT, leF, ltT, ltF, eqT, eqF, ne_eq, not_true_eq_false, not_false_eq_true, Bool.false_eq_true, tI_zI]
  rw [e2]; rfl
theorem cc_79 {d : Nat} {E : EnQ} {F : Nat → Int → Int32} {G : Nat → Int → Int64} {kk : Int → HeapP → ResP} {kx : Nat → HeapP → ResP} {a : Nat} {K : Int → Int32} (hO : SnO E F a K) {k : Int} (hk : 0 ≤ k ∧ k < tI (K 169)) (hd : 2 ≤ d) : cT (callP MP d 79 [.ref a, .int (zI k)] (mk E F G)) kk kx = kk (woO K k) (mk E F G) := cT_ret (by apply ct_79 <;> assumption) (tI_rg _)
theorem ct_60 {d : Nat} {E : EnQ} {F : Nat → Int → Int32} {G : Nat → Int → Int64} {a : Nat} {K : Int → Int32} (hO : SnO E F a K) {x y : Int} (hx : -2147483648 ≤ x ∧ x ≤ 2147483647) (hy : -2147483648 ≤ y ∧ y ≤ 2147483647) (hd : 3 ≤ d) : callP MP d 60 [.ref a, .int (zI x), .int (zI y)] (mk E F G) = some (Sum.inl (some (.int (zI (whyZ K x y)))), mk E F G) := by

  obtain ⟨hS, hP, hR, hN, hI⟩ := hO
  have hs := hS.1
  have hb := hI.1.2.2.2.1
  refine into (D := 2) (by omega) hM_60 (rcv_mk hs (by decide)) rfl fun d hd => ?_
  show runP MP d 60 (0, [some (.ref a), some (.int (zI x)), some (.int (zI y))], [], _) = _
  have e3 : tI (F (rfQ E a 0) 3) = tI (K 3) := by rw [hR.1.2.2.2.1]
  unfold whyZ
  by_cases h1 : 0 ≤ x ∧ x < tI (K 3)
  · have hp := (hI.2.2.1 x h1.1 (by omega)).2.2.2.2.2 h1.2
    have e9 : F (a + 9) x = K (38 + 2 * x) := (hN.2.2.2.2 x h1.1 (by omega)).1
    have hw := wayZ_lo hI.1.2.2.1 (tI (K (38 + 2 * x))) y
    rw [if_neg (fun z => z h1)]
    by_cases h2 : 0 ≤ y ∧ y < tI (K 1)
    · by_cases h3 : wayZ K (tI (K (38 + 2 * x))) y = -1
      · rw [if_pos (Or.inr h3)]
        rw [q_60_0]; (try simp only [↓n_al, ↓n_cI, li_0, li_1, li_2, li_5, li_7, li_60, zI_add, zI_sub, zI_mul, zI_neg, ↓Option.bind_some]); simp (disch := (first | assumption | exact tI_rg _ | omega | exact uR_at | exact row_ne hF (by decide) | exact row_ne (row_ne hF (by decide)) (by decide) | exact SnS_18 | exact SnS_30 | exact LdS_44 | exact LdS_46)) only [q_60_36, ↓cc_25, ↓cc_26 hR hI, e3, e9, h1, h2, h3, hp, and_self, if_true, ↓n_al, ↓n_cI, li_0, li_1, li_2, li_5, li_7, li_60, zI_add, zI_sub, zI_mul, zI_neg, ↓Option.bind_some, ↓g5_0, ↓g5_7, ↓SnS_l9, ↓SnS_s9, zIt2, uR_at, uR_ne, uR_uR, uC_uC, uC_at, ↓reduceIte, decide_eq_true_eq, leT, leF, ltT, ltF, eqT, eqF, ne_eq, not_true_eq_false, not_false_eq_true, Bool.false_eq_true, tI_zI]
      · rw [if_neg (fun z => z.elim (fun q => q h2) h3)]
        rw [q_60_0]; (try simp only [↓n_al, ↓n_cI, li_0, li_1, li_2, li_5, li_7, li_60, zI_add, zI_sub, zI_mul, zI_neg, ↓Option.bind_some]); simp (disch := (first | assumption | exact tI_rg _ | omega | exact uR_at | exact row_ne hF (by decide) | exact row_ne (row_ne hF (by decide)) (by decide) | exact SnS_18 | exact SnS_30 | exact LdS_44 | exact LdS_46)) only [q_60_36, ↓cc_25, ↓cc_26 hR hI, e3, e9, h1, h2, hp, and_self, if_true, ↓n_al, ↓n_cI, li_0, li_1, li_2, li_5, li_7, li_60, zI_add, zI_sub, zI_mul, zI_neg, ↓Option.bind_some, ↓g5_0, ↓g5_7, ↓SnS_l9, ↓SnS_s9, zIt2, uR_at, uR_ne, uR_uR, uC_uC, uC_at, ↓reduceIte, decide_eq_true_eq, leT, leF, ltT, ltF, eqT, eqF, ne_eq, not_true_eq_false, not_false_eq_true, Bool.false_eq_true, tI_zI]
    · rw [if_pos (Or.inl h2)]
      rw [q_60_0]; (try simp only [↓n_al, ↓n_cI, li_0, li_1, li_2, li_5, li_7, li_60, zI_add, zI_sub, zI_mul, zI_neg, ↓Option.bind_some]); simp (disch := (first | assumption | exact tI_rg _ | omega | exact uR_at | exact row_ne hF (by decide) | exact row_ne (row_ne hF (by decide)) (by decide) | exact SnS_18 | exact SnS_30 | exact LdS_44 | exact LdS_46)) only [q_60_36, ↓cc_25, ↓cc_26 hR hI, e3, e9, h1, hp, if_neg (fun z : (0 ≤ tI (K (38 + 2 * x)) ∧ tI (K (38 + 2 * x)) < tI (K 1)) ∧ (0 ≤ y ∧ y < tI (K 1)) => h2 z.2), and_self, if_true, ↓n_al, ↓n_cI, li_0, li_1, li_2, li_5, li_7, li_60, zI_add, zI_sub, zI_mul, zI_neg, ↓Option.bind_some, ↓g5_0, ↓g5_7, ↓SnS_l9, ↓SnS_s9, zIt2, uR_at, uR_ne, uR_uR, uC_uC, uC_at, ↓reduceIte, decide_eq_true_eq, leT, leF, ltT, ltF, eqT, eqF, ne_eq, not_true_eq_false, not_false_eq_true, Bool.false_eq_true, tI_zI]
  · rw [if_pos h1]
    rw [q_60_0]; (try simp only [↓n_al, ↓n_cI, li_0, li_1, li_2, li_5, li_7, li_60, zI_add, zI_sub, zI_mul, zI_neg, ↓Option.bind_some]); simp (disch := (first | assumption | exact tI_rg _ | omega | exact uR_at | exact row_ne hF (by decide) | exact row_ne (row_ne hF (by decide)) (by decide) | exact SnS_18 | exact SnS_30 | exact LdS_44 | exact LdS_46)) only [q_60_36, ↓cc_25, e3, if_neg h1, ↓n_al, ↓n_cI, li_0, li_1, li_2, li_5, li_7, li_60, zI_add, zI_sub, zI_mul, zI_neg, ↓Option.bind_some, ↓g5_0, ↓g5_7, ↓SnS_l9, ↓SnS_s9, zIt2, uR_at, uR_ne, uR_uR, uC_uC, uC_at, ↓reduceIte, decide_eq_true_eq, leT, leF, ltT, ltF, eqT, eqF, ne_eq, not_true_eq_false, not_false_eq_true, Bool.false_eq_true, tI_zI]
theorem cc_60 {d : Nat} {E : EnQ} {F : Nat → Int → Int32} {G : Nat → Int → Int64} {kk : Int → HeapP → ResP} {kx : Nat → HeapP → ResP} {a : Nat} {K : Int → Int32} (hO : SnO E F a K) {x y : Int} (hx : -2147483648 ≤ x ∧ x ≤ 2147483647) (hy : -2147483648 ≤ y ∧ y ≤ 2147483647) (hd : 3 ≤ d) : cT (callP MP d 60 [.ref a, .int (zI x), .int (zI y)] (mk E F G)) kk kx = kk (whyZ K x y) (mk E F G) := cT_ret (by apply ct_60 <;> assumption) (by unfold whyZ; split <;> (try split) <;> omega)
theorem ct_68 {d : Nat} {E : EnQ} {F : Nat → Int → Int32} {G : Nat → Int → Int64} {a : Nat} {K : Int → Int32} (hO : SnO E F a K) {v : Int} (hv : -2147483648 ≤ v ∧ v ≤ 2147483647) (hd : 3 ≤ d) : callP MP d 68 [.ref a, .int (zI v)] (mk E F G) = some (Sum.inl (some (.int (zI (cntN (fun k : Nat => prW K k == v) (tI (K 5)).toNat)))), mk E F G) := by

  have hO' := hO
  obtain ⟨hS, hP, hR, hN, hI⟩ := hO
  have hs := hS.1
  have hb := hI.1.2.2.2.2
  refine into (D := 2) (by omega) hM_68 (rcv_mk hs (by decide)) rfl fun d hd => ?_
  show runP MP d 68 (0, [some (.ref a), some (.int (zI v)), none, none], [], _) = _
  have e1 : tI (F a 2) = tI (K 5) := by rw [hN.1.2.1]
  rw [q_68_0]
  refine (loopN (fun j : Nat => runP MP d 68 (4, [some (.ref a), some (.int (zI (v))), some (.int (zI (cntN (fun k : Nat => prW K k == v) j))), some (.int (zI ((j : Nat))))], [], mk E F G)) ((tI (K 5)).toNat) (fun j hj => ?_)).trans ?_
  · show runP MP d 68 (4, [some (.ref a), some (.int (zI (v))), some (.int (zI (cntN (fun k : Nat => prW K k == v) j))), some (.int (zI ((j : Nat))))], [], mk E F G) = runP MP d 68 (4, [some (.ref a), some (.int (zI (v))), some (.int (zI (cntN (fun k : Nat => prW K k == v) (j + 1)))), some (.int (zI (((j + 1) : Nat))))], [], mk E F G)
    have hc := cntN_rg (fun k : Nat => prW K k == v) j
    have hr := tI_rg (K (46 + 2 * (j : Int)))
    have hr2 : -2147483648 ≤ prW K (j : Int) ∧ prW K (j : Int) ≤ 2147483647 := hr
    by_cases h : prW K (j : Int) = v
    · rw [cntN_pos (by exact beq_iff_eq.mpr h), nsucc]
      rw [q_68_4]; (try simp only [↓n_rd, ↓n_cI, li_0, li_1, li_2, li_4, li_5, li_24, li_64, zI_add, zI_sub, zI_mul, zI_neg, ↓Option.bind_some]); simp (disch := (first | assumption | exact tI_rg _ | omega | exact uR_at | exact row_ne hF (by decide) | exact row_ne (row_ne hF (by decide)) (by decide) | exact SnS_18 | exact SnS_30 | exact LdS_44 | exact LdS_46)) only [q_68_0, q_68_24, ↓cc_64 hO', e1, ↓n_rd, ↓n_cI, li_0, li_1, li_2, li_4, li_5, li_24, li_64, zI_add, zI_sub, zI_mul, zI_neg, ↓Option.bind_some, ↓g5_2, zIt2, uR_at, uR_ne, uR_uR, uC_uC, uC_at, ↓reduceIte, decide_eq_true_eq, leT, leF, ltT, ltF, eqT, eqF, ne_eq, not_true_eq_false, not_false_eq_true, Bool.false_eq_true, tI_zI]
    · rw [cntN_neg (by exact fun z => h (beq_iff_eq.mp z)), nsucc]
      rw [q_68_4]; (try simp only [↓n_rd, ↓n_cI, li_0, li_1, li_2, li_4, li_5, li_24, li_64, zI_add, zI_sub, zI_mul, zI_neg, ↓Option.bind_some]); simp (disch := (first | assumption | exact tI_rg _ | omega | exact uR_at | exact row_ne hF (by decide) | exact row_ne (row_ne hF (by decide)) (by decide) | exact SnS_18 | exact SnS_30 | exact LdS_44 | exact LdS_46)) only [q_68_0, q_68_24, ↓cc_64 hO', e1, ↓n_rd, ↓n_cI, li_0, li_1, li_2, li_4, li_5, li_24, li_64, zI_add, zI_sub, zI_mul, zI_neg, ↓Option.bind_some, ↓g5_2, zIt2, uR_at, uR_ne, uR_uR, uC_uC, uC_at, ↓reduceIte, decide_eq_true_eq, leT, leF, ltT, ltF, eqT, eqF, ne_eq, not_true_eq_false, not_false_eq_true, Bool.false_eq_true, tI_zI]
  · show runP MP d 68 (4, [some (.ref a), some (.int (zI (v))), some (.int (zI (cntN (fun k : Nat => prW K k == v) ((tI (K 5)).toNat)))), some (.int (zI ((((tI (K 5)).toNat) : Nat))))], [], mk E F G) = _
    rw [q_68_4]; (try simp only [↓n_rd, ↓n_cI, li_0, li_1, li_2, li_4, li_5, li_24, li_64, zI_add, zI_sub, zI_mul, zI_neg, ↓Option.bind_some]); simp (disch := (first | assumption | exact tI_rg _ | omega | exact uR_at | exact row_ne hF (by decide) | exact row_ne (row_ne hF (by decide)) (by decide) | exact SnS_18 | exact SnS_30 | exact LdS_44 | exact LdS_46)) only [q_68_0, q_68_24, e1, ↓n_rd, ↓n_cI, li_0, li_1, li_2, li_4, li_5, li_24, li_64, zI_add, zI_sub, zI_mul, zI_neg, ↓Option.bind_some, ↓g5_2, zIt2, uR_at, uR_ne, uR_uR, uC_uC, uC_at, ↓reduceIte, decide_eq_true_eq, leT, leF, ltT, ltF, eqT, eqF, ne_eq, not_true_eq_false, not_false_eq_true, Bool.false_eq_true, tI_zI]
theorem cc_68 {d : Nat} {E : EnQ} {F : Nat → Int → Int32} {G : Nat → Int → Int64} {kk : Int → HeapP → ResP} {kx : Nat → HeapP → ResP} {a : Nat} {K : Int → Int32} (hO : SnO E F a K) {v : Int} (hv : -2147483648 ≤ v ∧ v ≤ 2147483647) (hd : 3 ≤ d) : cT (callP MP d 68 [.ref a, .int (zI v)] (mk E F G)) kk kx = kk (cntN (fun k : Nat => prW K k == v) (tI (K 5)).toNat) (mk E F G) := cT_ret (by apply ct_68 <;> assumption) (by have := cntN_rg (fun k : Nat => prW K k == v) (tI (K 5)).toNat; have := hO.2.2.2.2.1.2.2.2.2.2.1; have := hO.2.2.2.2.1.2.2.2.2.1; omega)
end S93f
