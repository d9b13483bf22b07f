/-! MODEL: clear, 2 -/
section S94zzzzu
set_option linter.unusedVariables false
set_option linter.unusedSimpArgs false
theorem ml_clear {d : Nat} {E : EnQ} {F : Nat → Int → Int32} {G : Nat → Int → Int64} {K : Int → Int32} (hI : InvK K) (hF : F 218 = K) {x z y : Int} (hx : -2147483648 ≤ x ∧ x ≤ 2147483647) (hz : -2147483648 ≤ z ∧ z ≤ 2147483647) (hy : y = 0 ∨ y = 1) (hd : 33 ≤ d) : ∃ F1 G1, callP MP d 309 [.ref 217, .int (zI x), .int (zI z), .int (zI y)] (mk E F G) = some (Sum.inl (some (.int (zI (a_clear K x z y).2))), mk E F1 G1) ∧ F1 217 5 = zI (a_clear K x z y).1 ∧ KeepM F G F1 G1 := by
  have hA := hI.1
  have h31 : ∀ {d : Nat} {c : Int}, 0 < c → c ≤ 3 → runP MP d 309 (31, [some (.ref 217), some (.int (zI x)), some (.int (zI z)), some (.int (zI y)), none], [.int (zI c), .ref 217], mk E F G) = some (Sum.inl (some (.int (zI 0))), mk E (uR F 217 (uC (F 217) 5 (zI c))) G) := fun {d c} h1 h2 => by
    rw [q_309_31]; (try simp only [↓n_rd, ↓n_rdJ, ↓n_cI, li_0, li_1, li_2, li_5, li_12, li_31, li_32, li_46, lj_0, lj_1, lj_2, lj_5, lj_12, zJ_add, zJ_sub, zJ_mul, zJ_neg, zJ_l2i, zI_add, zI_sub, zI_mul, zI_neg, ↓Option.bind_some]); simp (disch := (first | assumption | exact tI_rg _ | omega | exact uR_at | exact row_ne hF (by decide) | exact row_ne (row_ne hF (by decide)) (by decide) | exact SnS_18 | exact SnS_30 | exact LdS_44 | exact LdS_46)) only [q_309_0, ↓n_rd, ↓n_rdJ, ↓n_cI, li_0, li_1, li_2, li_5, li_12, li_31, li_32, li_46, lj_0, lj_1, lj_2, lj_5, lj_12, zJ_add, zJ_sub, zJ_mul, zJ_neg, zJ_l2i, tJ_zJ, zI_add, zI_sub, zI_mul, zI_neg, ↓Option.bind_some, ↓g12_5, ↓g12_50, ↓g12_51, ↓p12_5, ↓p12_50, ↓p12_52, ↓al_242, ↓as_242, zIt2, uR_at, uR_ne, uR_uR, uC_uC, uC_at, ↓reduceIte, decide_eq_true_eq, leT, leF, ltT, ltF, eqT, eqF, ne_eq, not_true_eq_false, not_false_eq_true, Bool.false_eq_true, tI_zI]
  by_cases c1 : 0 ≤ x ∧ x < tI (K 1)
  · by_cases c2 : 0 ≤ z ∧ z ≤ 5
    · have ha : a_clear K x z y = (0, clN K x z.toNat y) := (if_pos c1).trans (if_pos c2)
      obtain ⟨W, hW⟩ : ∃ W : Nat, W = 32 := ⟨_, rfl⟩
      obtain ⟨F0, hF0⟩ : ∃ F0, F0 = uR (uR F 217 (uC (F 217) 5 (zI 0))) 242 (zrI (F 242) W 0) := ⟨_, rfl⟩
      obtain ⟨F2, hF2⟩ : ∃ F2, F2 = uR F0 217 (uC (F0 217) 52 (zI 0)) := ⟨_, rfl⟩
      have o217 : F2 217 = uC (uC (F 217) 5 (zI 0)) 52 (zI 0) := by rw [hF2, uR_at, hF0, uR_ne (by decide), uR_at]
      have oq : ∀ q, q ≠ 217 → q ≠ 242 → F2 q = F q := fun q h1 h2 => by rw [hF2, uR_ne h1, hF0, uR_ne h2, uR_ne h1]
      have o242 : F2 242 = zrI (F 242) W 0 := by rw [hF2, uR_ne (by decide), hF0, uR_at]
      have hv0 : VaP K [x] := ⟨c1, fun z => absurd rfl z, trivial⟩
      obtain ⟨F1, G1, r1, r2, r3⟩ := go_310 (E := E) (n := z.toNat) hI c1 hy (by omega) z.toNat (d - 1) [x] F2 (uR G 217 (uC (G 217) 50 (zJ 0))) 0 x z (by intro z; cases z) (by show 1 + z.toNat = z.toNat + 1; omega) (by omega) rfl hv0 plZ_one (by rw [oq 218 (by decide) (by decide)]; exact hF)
        (fun v h1 h2 => by rw [o242]; show (if 0 ≤ v ∧ v < W then zI 0 else F 242 v) = zI 0; rw [if_pos (by omega)]) (by rw [o217, uC_at]; exact tI_zI (by omega)) (by rw [uR_at, uC_at]) (by omega)
      have r3 : G1 217 50 = zJ (clN K x z.toNat y) := r3
      refine ⟨F1, G1, ?_, ?_, fun q a1 a2 a3 a4 => ?_, fun j hj => ?_, fun q a1 => (r2.2.2.2.2 q a1).trans (uR_ne a1)⟩
      · rw [ha]
        show (_ : ResP) = some (Sum.inl (some (.int (zI (clN K x z.toNat y)))), mk E F1 G1)
        obtain ⟨e, rfl⟩ : ∃ e, d = e + 1 := ⟨d - 1, by omega⟩
        have hin : callP MP (e + 1) 309 [.ref 217, .int (zI x), .int (zI z), .int (zI y)] (mk E F G) = runP MP e 309 (0, [some (.ref 217), some (.int (zI x)), some (.int (zI z)), some (.int (zI y)), none], [], mk E F G) := into_eq (by omega) hM_309 (rcv_mk rfl (by decide)) rfl
        have c310 : ∀ {kk : HeapP → ResP} {kx : Nat → HeapP → ResP}, cV (callP MP e 310 [.ref 217, .int (zI x), .int (zI x), .int (zI z), .int (zI y)] (mk E (uR F0 217 (uC (F0 217) 52 (zI 0))) (uR G 217 (uC (G 217) 50 (zJ 0))))) kk kx = kk (mk E F1 G1) := fun {kk kx} => by rw [← hF2]; exact cV_ret r1
        have e50 : tJ (G1 217 50) = tJ (zJ (clN K x z.toNat y)) := by rw [r3]
        have h31s : runP MP e 309 (31, [some (.ref 217), some (.int (zI x)), some (.int (zI z)), some (.int (zI y)), none], [.int (zI 0), .ref 217], mk E F G) = runP MP e 309 (46, [some (.ref 217), some (.int (zI x)), some (.int (zI z)), some (.int (zI y)), some (.int (zI 0))], [], mk E (uR F 217 (uC (F 217) 5 (zI 0))) G) := by
          rw [q_309_31]; (try simp only [↓n_rd, ↓n_rdJ, ↓n_cI, li_0, li_1, li_2, li_5, li_12, li_31, li_32, li_46, lj_0, lj_1, lj_2, lj_5, lj_12, zJ_add, zJ_sub, zJ_mul, zJ_neg, zJ_l2i, zI_add, zI_sub, zI_mul, zI_neg, ↓Option.bind_some]); simp (disch := (first | assumption | exact tI_rg _ | omega | exact uR_at | exact row_ne hF (by decide) | exact row_ne (row_ne hF (by decide)) (by decide) | exact SnS_18 | exact SnS_30 | exact LdS_44 | exact LdS_46)) only [q_309_0, ↓n_rd, ↓n_rdJ, ↓n_cI, li_0, li_1, li_2, li_5, li_12, li_31, li_32, li_46, lj_0, lj_1, lj_2, lj_5, lj_12, zJ_add, zJ_sub, zJ_mul, zJ_neg, zJ_l2i, tJ_zJ, zI_add, zI_sub, zI_mul, zI_neg, ↓Option.bind_some, ↓g12_5, ↓g12_50, ↓g12_51, ↓p12_5, ↓p12_50, ↓p12_52, ↓al_242, ↓as_242, zIt2, uR_at, uR_ne, uR_uR, uC_uC, uC_at, ↓reduceIte, decide_eq_true_eq, leT, leF, ltT, ltF, eqT, eqF, ne_eq, not_true_eq_false, not_false_eq_true, Bool.false_eq_true, tI_zI]
        have hlp : runP MP e 309 (46, [some (.ref 217), some (.int (zI x)), some (.int (zI z)), some (.int (zI y)), some (.int (zI 0))], [], mk E (uR F 217 (uC (F 217) 5 (zI 0))) G) = runP MP e 309 (46, [some (.ref 217), some (.int (zI x)), some (.int (zI z)), some (.int (zI y)), some (.int (zI (W : Int)))], [], mk E F0 G) := by
          have h0 : runP MP e 309 (46, [some (.ref 217), some (.int (zI x)), some (.int (zI z)), some (.int (zI y)), some (.int (zI 0))], [], mk E (uR F 217 (uC (F 217) 5 (zI 0))) G) = runP MP e 309 (46, [some (.ref 217), some (.int (zI x)), some (.int (zI z)), some (.int (zI y)), some (.int (zI ((0 : Nat) : Int)))], [], mk E (uR (uR F 217 (uC (F 217) 5 (zI 0))) 242 (zrI (F 242) 0 0)) G) := by
            rw [zrI_0, show F 242 = (uR F 217 (uC (F 217) 5 (zI 0))) 242 from (uR_ne (by decide)).symm, uR_self]; rfl
          rw [h0, hF0]
          refine (loopN (fun j : Nat => runP MP e 309 (46, [some (.ref 217), some (.int (zI x)), some (.int (zI z)), some (.int (zI y)), some (.int (zI (j : Nat)))], [], mk E (uR (uR F 217 (uC (F 217) 5 (zI 0))) 242 (zrI (F 242) j 0)) G)) (W) (fun j hj => ?_)).trans ?_
          · show runP MP e 309 (46, [some (.ref 217), some (.int (zI x)), some (.int (zI z)), some (.int (zI y)), some (.int (zI (j : Nat)))], [], mk E (uR (uR F 217 (uC (F 217) 5 (zI 0))) 242 (zrI (F 242) j 0)) G) = runP MP e 309 (46, [some (.ref 217), some (.int (zI x)), some (.int (zI z)), some (.int (zI y)), some (.int (zI ((j + 1) : Nat)))], [], mk E (uR (uR F 217 (uC (F 217) 5 (zI 0))) 242 (zrI (F 242) (j + 1) 0)) G)
            rw [nsucc, zrI_s]
            rw [q_309_46]; (try simp only [↓n_rd, ↓n_rdJ, ↓n_cI, li_0, li_1, li_2, li_5, li_12, li_31, li_32, li_46, lj_0, lj_1, lj_2, lj_5, lj_12, zJ_add, zJ_sub, zJ_mul, zJ_neg, zJ_l2i, zI_add, zI_sub, zI_mul, zI_neg, ↓Option.bind_some]); simp (disch := (first | assumption | exact tI_rg _ | omega | exact uR_at | exact row_ne hF (by decide) | exact row_ne (row_ne hF (by decide)) (by decide) | exact SnS_18 | exact SnS_30 | exact LdS_44 | exact LdS_46)) only [q_309_0, q_309_31, ↓as_242, ↓n_rd, ↓n_rdJ, ↓n_cI, li_0, li_1, li_2, li_5, li_12, li_31, li_32, li_46, lj_0, lj_1, lj_2, lj_5, lj_12, zJ_add, zJ_sub, zJ_mul, zJ_neg, zJ_l2i, tJ_zJ, zI_add, zI_sub, zI_mul, zI_neg, ↓Option.bind_some, ↓g12_5, ↓g12_50, ↓g12_51, ↓p12_5, ↓p12_50, ↓p12_52, ↓al_242, ↓as_242, zIt2, uR_at, uR_ne, uR_uR, uC_uC, uC_at, ↓reduceIte, decide_eq_true_eq, leT, leF, ltT, ltF, eqT, eqF, ne_eq, not_true_eq_false, not_false_eq_true, Bool.false_eq_true, tI_zI]
          · show runP MP e 309 (46, [some (.ref 217), some (.int (zI x)), some (.int (zI z)), some (.int (zI y)), some (.int (zI ((W) : Nat)))], [], mk E (uR (uR F 217 (uC (F 217) 5 (zI 0))) 242 (zrI (F 242) (W) 0)) G) = _
            rfl

        have h46 : runP MP e 309 (46, [some (.ref 217), some (.int (zI x)), some (.int (zI z)), some (.int (zI y)), some (.int (zI (W : Int)))], [], mk E F0 G) = some (Sum.inl (some (.int (zI (clN K x z.toNat y)))), mk E F1 G1) := by
          have e51 : zI (tJ (zJ (clN K x z.toNat y))) = zI (clN K x z.toNat y) := by rw [← zJ_l2i, zJ_tJ, zJ_l2i]
          rw [q_309_46]; (try simp only [↓n_rd, ↓n_rdJ, ↓n_cI, li_0, li_1, li_2, li_5, li_12, li_31, li_32, li_46, lj_0, lj_1, lj_2, lj_5, lj_12, zJ_add, zJ_sub, zJ_mul, zJ_neg, zJ_l2i, zI_add, zI_sub, zI_mul, zI_neg, ↓Option.bind_some]); simp (disch := (first | assumption | exact tI_rg _ | omega | exact uR_at | exact row_ne hF (by decide) | exact row_ne (row_ne hF (by decide)) (by decide) | exact SnS_18 | exact SnS_30 | exact LdS_44 | exact LdS_46)) only [q_309_0, q_309_31, ↓c310, e50, e51, zJ_l2i, ↓n_rd, ↓n_rdJ, ↓n_cI, li_0, li_1, li_2, li_5, li_12, li_31, li_32, li_46, lj_0, lj_1, lj_2, lj_5, lj_12, zJ_add, zJ_sub, zJ_mul, zJ_neg, zJ_l2i, tJ_zJ, zI_add, zI_sub, zI_mul, zI_neg, ↓Option.bind_some, ↓g12_5, ↓g12_50, ↓g12_51, ↓p12_5, ↓p12_50, ↓p12_52, ↓al_242, ↓as_242, zIt2, uR_at, uR_ne, uR_uR, uC_uC, uC_at, ↓reduceIte, decide_eq_true_eq, leT, leF, ltT, ltF, eqT, eqF, ne_eq, not_true_eq_false, not_false_eq_true, Bool.false_eq_true, tI_zI]
        rw [hin, ← h46, ← hlp, ← h31s]
        rw [q_309_0]; (try simp only [↓n_rd, ↓n_rdJ, ↓n_cI, li_0, li_1, li_2, li_5, li_12, li_31, li_32, li_46, lj_0, lj_1, lj_2, lj_5, lj_12, zJ_add, zJ_sub, zJ_mul, zJ_neg, zJ_l2i, zI_add, zI_sub, zI_mul, zI_neg, ↓Option.bind_some]); simp (disch := (first | assumption | exact tI_rg _ | omega | exact uR_at | exact row_ne hF (by decide) | exact row_ne (row_ne hF (by decide)) (by decide) | exact SnS_18 | exact SnS_30 | exact LdS_44 | exact LdS_46)) only [↓cc_213t hI, ↓cc_213f hI, ↓cc_219t hI, ↓cc_219f hI, ↓cc_188t, ↓cc_188f, ↓cc_189, zI_i2l, hF, ↓n_rd, ↓n_rdJ, ↓n_cI, li_0, li_1, li_2, li_5, li_12, li_31, li_32, li_46, lj_0, lj_1, lj_2, lj_5, lj_12, zJ_add, zJ_sub, zJ_mul, zJ_neg, zJ_l2i, tJ_zJ, zI_add, zI_sub, zI_mul, zI_neg, ↓Option.bind_some, ↓g12_5, ↓g12_50, ↓g12_51, ↓p12_5, ↓p12_50, ↓p12_52, ↓al_242, ↓as_242, zIt2, uR_at, uR_ne, uR_uR, uC_uC, uC_at, ↓reduceIte, decide_eq_true_eq, leT, leF, ltT, ltF, eqT, eqF, ne_eq, not_true_eq_false, not_false_eq_true, Bool.false_eq_true, tI_zI]
      · rw [r2.2.2.1 5 (by omega) (by omega) (by omega), o217, uC_ne (by decide), uC_at, ha]
      · by_cases g : q = 242
        · exfalso; omega
        · rw [r2.1 q a1 (by omega) (by omega) g, oq q a1 g]
      · rw [r2.2.2.1 j (by omega) (by omega) (by omega), o217, uC_ne (by omega), uC_ne (by omega)]
    · have ha : a_clear K x z y = (2, 0) := (if_pos c1).trans (if_neg c2)
      refine ⟨uR F 217 (uC (F 217) 5 (zI 2)), G, ?_, ?_, KeepM_c⟩
      · rw [ha]
        show (_ : ResP) = some (Sum.inl (some (.int (zI 0))), mk E (uR F 217 (uC (F 217) 5 (zI 2))) G)
        obtain ⟨e, rfl⟩ : ∃ e, d = e + 1 := ⟨d - 1, by omega⟩
        have hin : callP MP (e + 1) 309 [.ref 217, .int (zI x), .int (zI z), .int (zI y)] (mk E F G) = runP MP e 309 (0, [some (.ref 217), some (.int (zI x)), some (.int (zI z)), some (.int (zI y)), none], [], mk E F G) := into_eq (by omega) hM_309 (rcv_mk rfl (by decide)) rfl
        have h31' := h31 (d := e) (c := 2) (by omega) (by omega)
        rw [hin, ← h31']
        rw [q_309_0]; (try simp only [↓n_rd, ↓n_rdJ, ↓n_cI, li_0, li_1, li_2, li_5, li_12, li_31, li_32, li_46, lj_0, lj_1, lj_2, lj_5, lj_12, zJ_add, zJ_sub, zJ_mul, zJ_neg, zJ_l2i, zI_add, zI_sub, zI_mul, zI_neg, ↓Option.bind_some]); simp (disch := (first | assumption | exact tI_rg _ | omega | exact uR_at | exact row_ne hF (by decide) | exact row_ne (row_ne hF (by decide)) (by decide) | exact SnS_18 | exact SnS_30 | exact LdS_44 | exact LdS_46)) only [↓cc_213t hI, ↓cc_213f hI, ↓cc_219t hI, ↓cc_219f hI, ↓cc_188t, ↓cc_188f, ↓cc_189, zI_i2l, hF, ↓n_rd, ↓n_rdJ, ↓n_cI, li_0, li_1, li_2, li_5, li_12, li_31, li_32, li_46, lj_0, lj_1, lj_2, lj_5, lj_12, zJ_add, zJ_sub, zJ_mul, zJ_neg, zJ_l2i, tJ_zJ, zI_add, zI_sub, zI_mul, zI_neg, ↓Option.bind_some, ↓g12_5, ↓g12_50, ↓g12_51, ↓p12_5, ↓p12_50, ↓p12_52, ↓al_242, ↓as_242, zIt2, uR_at, uR_ne, uR_uR, uC_uC, uC_at, ↓reduceIte, decide_eq_true_eq, leT, leF, ltT, ltF, eqT, eqF, ne_eq, not_true_eq_false, not_false_eq_true, Bool.false_eq_true, tI_zI]
      · rw [uR_at, uC_at, ha]
  · have ha : a_clear K x z y = (1, 0) := if_neg c1
    refine ⟨uR F 217 (uC (F 217) 5 (zI 1)), G, ?_, ?_, KeepM_c⟩
    · rw [ha]
      show (_ : ResP) = some (Sum.inl (some (.int (zI 0))), mk E (uR F 217 (uC (F 217) 5 (zI 1))) G)
      obtain ⟨e, rfl⟩ : ∃ e, d = e + 1 := ⟨d - 1, by omega⟩
      have hin : callP MP (e + 1) 309 [.ref 217, .int (zI x), .int (zI z), .int (zI y)] (mk E F G) = runP MP e 309 (0, [some (.ref 217), some (.int (zI x)), some (.int (zI z)), some (.int (zI y)), none], [], mk E F G) := into_eq (by omega) hM_309 (rcv_mk rfl (by decide)) rfl
      have h31' := h31 (d := e) (c := 1) (by omega) (by omega)
      rw [hin, ← h31']
      rw [q_309_0]; (try simp only [↓n_rd, ↓n_rdJ, ↓n_cI, li_0, li_1, li_2, li_5, li_12, li_31, li_32, li_46, lj_0, lj_1, lj_2, lj_5, lj_12, zJ_add, zJ_sub, zJ_mul, zJ_neg, zJ_l2i, zI_add, zI_sub, zI_mul, zI_neg, ↓Option.bind_some]); simp (disch := (first | assumption | exact tI_rg _ | omega | exact uR_at | exact row_ne hF (by decide) | exact row_ne (row_ne hF (by decide)) (by decide) | exact SnS_18 | exact SnS_30 | exact LdS_44 | exact LdS_46)) only [↓cc_213t hI, ↓cc_213f hI, ↓cc_219t hI, ↓cc_219f hI, ↓cc_188t, ↓cc_188f, ↓cc_189, zI_i2l, hF, ↓n_rd, ↓n_rdJ, ↓n_cI, li_0, li_1, li_2, li_5, li_12, li_31, li_32, li_46, lj_0, lj_1, lj_2, lj_5, lj_12, zJ_add, zJ_sub, zJ_mul, zJ_neg, zJ_l2i, tJ_zJ, zI_add, zI_sub, zI_mul, zI_neg, ↓Option.bind_some, ↓g12_5, ↓g12_50, ↓g12_51, ↓p12_5, ↓p12_50, ↓p12_52, ↓al_242, ↓as_242, zIt2, uR_at, uR_ne, uR_uR, uC_uC, uC_at, ↓reduceIte, decide_eq_true_eq, leT, leF, ltT, ltF, eqT, eqF, ne_eq, not_true_eq_false, not_false_eq_true, Bool.false_eq_true, tI_zI]
    · rw [uR_at, uC_at, ha]
end S94zzzzu
