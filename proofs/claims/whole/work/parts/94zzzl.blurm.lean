/-! MODEL: blur, 3 -/
section S94zzzl
set_option linter.unusedVariables false
set_option linter.unusedSimpArgs false
theorem ml_blur {d : Nat} {E : EnQ} {F : Nat → Int → Int32} {G : Nat → Int → Int64} {K : Int → Int32} (hI : InvK K) (hF : F 218 = K) (hst : stepsZ K < 1999000000) (h18 : tI (F 217 18) = 0) {x y z : Int} (hx : -2147483648 ≤ x ∧ x ≤ 2147483647) (hy : -2147483648 ≤ y ∧ y ≤ 2147483647) (hz : -2147483648 ≤ z ∧ z ≤ 2147483647) (hd : 11 ≤ d) : ∃ F1, callP MP d 279 [.ref 217, .int (zI x), .int (zI y), .int (zI z)] (mk E F G) = some (Sum.inl (some (.int (zI (a_blur K x y z).2))), mk E F1 G) ∧ F1 217 5 = zI (a_blur K x y z).1 ∧ KeepM F G F1 G := by
  have hA := hI.1
  have hb1 := hI.1.2.1
  have hb3 := hI.1.2.2.2.1
  have h55 : ∀ {d : Nat} {c : Int}, 0 < c → c ≤ 3 → runP MP d 279 (55, [some (.ref 217), some (.int (zI x)), some (.int (zI y)), some (.int (zI z))], [.int (zI c), .ref 217], mk E F G) = some (Sum.inl (some (.int (zI 0))), mk E (uR F 217 (uC (F 217) 5 (zI c))) G) := fun {d c} h1 h2 => by
    rw [q_279_55]; (try simp only [↓n_rd, ↓n_al, ↓n_cI, li_0, li_1, li_2, li_3, li_5, li_10, li_12, lj_0, lj_1, lj_2, lj_3, lj_5, lj_10, lj_12, zJ_add, zJ_sub, zJ_mul, zJ_neg, zJ_l2i, zI_add, zI_sub, zI_mul, zI_neg, ↓Option.bind_some]); simp (disch := (first | assumption | exact tI_rg _ | omega | exact uR_at | exact row_ne hF (by decide) | exact row_ne (row_ne hF (by decide)) (by decide) | exact SnS_18 | exact SnS_30 | exact LdS_44 | exact LdS_46)) only [q_279_0, q_279_50, q_279_54, q_279_150, ↓n_rd, ↓n_al, ↓n_cI, li_0, li_1, li_2, li_3, li_5, li_10, li_12, lj_0, lj_1, lj_2, lj_3, lj_5, lj_10, lj_12, zJ_add, zJ_sub, zJ_mul, zJ_neg, zJ_l2i, tJ_zJ, zI_add, zI_sub, zI_mul, zI_neg, ↓Option.bind_some, ↓g12_25, ↓g12_28, ↓g12_29, ↓g12_5, ↓p12_27, ↓p12_28, ↓p12_29, ↓p12_5, ↓pz12_18, ↓al_229, ↓as_229, zIt2, uR_at, uR_ne, uR_uR, uC_uC, uC_at, ↓reduceIte, decide_eq_true_eq, leT, leF, ltT, ltF, eqT, eqF, ne_eq, not_true_eq_false, not_false_eq_true, Bool.false_eq_true, tI_zI]
  by_cases c1 : 0 ≤ x ∧ x < tI (K 3)
  · by_cases c2 : (0 ≤ y ∧ y ≤ 3) ∧ (z = 0 ∨ z = 1 ∨ (10 ≤ z ∧ z ≤ 12))
    · have ha : a_blur K x y z = (0, if z = 0 then (bB K x y.toNat).1 else if z = 1 then (bB K x y.toNat).2.length - 1 else if z - 10 < (bB K x y.toNat).2.length - 1 then plZ (bB K x y.toNat).2 (z - 9) else -1) := (if_pos c1).trans (if_pos c2)
      obtain ⟨c2, c3⟩ := c2
      have hst0 := (hI.2.2.1 x c1.1 (by omega)).2.2.2.2.2 c1.2
      obtain ⟨s0, hs0⟩ : ∃ s0, s0 = tI (K (38 + 2 * x)) := ⟨_, rfl⟩
      obtain ⟨F0, hF0⟩ : ∃ F0, F0 = uR F 217 (uC (uC (uC (uC (uC (F 217) 5 (zI 0)) 27 (zI s0)) 28 (zI (-1))) 29 (zI 0)) 18 (zI 1)) := ⟨_, rfl⟩
      have o0 : ∀ q, q ≠ 217 → F0 q = F q := fun q h => by rw [hF0, uR_ne h]
      have o217 : F0 217 = uC (uC (uC (uC (uC (F 217) 5 (zI 0)) 27 (zI s0)) 28 (zI (-1))) 29 (zI 0)) 18 (zI 1) := by rw [hF0, uR_at]
      have hv0 : VaP K [s0] := ⟨by omega, fun z => absurd rfl z, trivial⟩
      have hr0 : plZ [s0] 0 = tI (K (38 + 2 * x)) := plZ_one.trans hs0
      have M0 : MbR F0 K x [s0] (-1, [s0]) := by
        refine ⟨?_, ?_, ?_, ?_, ?_, fun j h1 h2 => ?_, fun j h1 h2 => ?_⟩
        · rw [o0 218 (by decide)]; exact hF
        · rw [o217, uC_at]; exact tI_zI (by omega)
        · rw [o217, uC_ne (by decide), uC_ne (by decide), uC_ne (by decide), uC_at, tI_zI (by omega), hs0]
        · rw [o217, uC_ne (by decide), uC_ne (by decide), uC_at]; exact tI_zI (by omega)
        · rw [o217, uC_ne (by decide), uC_at]; exact tI_zI (by omega)
        · exfalso; have h2 : j + 1 < 1 := h2; omega
        · exfalso; have h2 : j + 1 < 1 := h2; omega
      obtain ⟨F1, r1, r2, r3, r4⟩ := go_280 (E := E) (G := G) (x := x) (n := y.toNat) hI hst c1 (by omega) y.toNat (d - 1) [s0] F0 (-1, [s0]) 0 (by intro z; cases z) (by show 1 + y.toNat = y.toNat + 1; omega) rfl hv0 hr0 ⟨⟨by show (-1 : Int) ≤ -1; omega, by show (-1 : Int) ≤ 32; omega⟩, ⟨by show 0 < 1; omega, by show 1 ≤ y.toNat + 1; omega⟩, hv0⟩ M0 (by omega)
      have eB : wkF K (vB K x y.toNat) y.toNat [s0] (-1, [s0]) = bB K x y.toNat := by unfold bB; rw [hs0]
      rw [eB] at r2 r3
      rw [show ((y.toNat : Nat) : Int) = y by omega] at r1
      refine ⟨uR F1 217 (uC (F1 217) 18 (zI 0)), ?_, ?_, fun q a1 a2 a3 a4 => ?_, fun j hj => ?_, fun _ _ => rfl⟩
      · rw [ha]
        show (_ : ResP) = some (Sum.inl (some (.int (zI (if z = 0 then (bB K x y.toNat).1 else if z = 1 then (bB K x y.toNat).2.length - 1 else if z - 10 < (bB K x y.toNat).2.length - 1 then plZ (bB K x y.toNat).2 (z - 9) else -1)))), mk E (uR F1 217 (uC (F1 217) 18 (zI 0))) G)
        obtain ⟨e, rfl⟩ : ∃ e, d = e + 1 := ⟨d - 1, by omega⟩
        have hin : callP MP (e + 1) 279 [.ref 217, .int (zI x), .int (zI y), .int (zI z)] (mk E F G) = runP MP e 279 (0, [some (.ref 217), some (.int (zI x)), some (.int (zI y)), some (.int (zI z))], [], mk E F G) := into_eq (by omega) hM_279 (rcv_mk rfl (by decide)) rfl
        have r1 : callP MP e 280 [.ref 217, .int (zI x), .int (zI 0), .int (zI y)] (mk E F0 G) = some (Sum.inl none, mk E F1 G) := r1
        have c280 : ∀ {kk : HeapP → ResP} {kx : Nat → HeapP → ResP}, cV (callP MP e 280 [.ref 217, .int (zI x), .int (zI 0), .int (zI y)] (mk E F0 G)) kk kx = kk (mk E F1 G) := fun {kk kx} => cV_ret r1
        have f218 : uR F 217 (uC (F 217) 5 (zI 0)) 218 = K := (uR_ne (by decide)).trans hF
        have c228 : ∀ {kk : Int → HeapP → ResP} {kx : Nat → HeapP → ResP}, cT (callP MP e 228 [.ref 217, .int (zI x)] (mk E (uR F 217 (uC (F 217) 5 (zI 0))) G)) kk kx = kk s0 (mk E (uR F 217 (uC (F 217) 5 (zI 0))) G) := fun {kk kx} => by rw [cc_228 hI f218 (by omega) (by omega), hs0]
        have e28 := r2.2.2.2.1
        have e29 := r2.2.2.2.2.1
        have hlen := r3.2.1
        have hr1 := r3.1
        have h55s : runP MP e 279 (55, [some (.ref 217), some (.int (zI x)), some (.int (zI y)), some (.int (zI z))], [.int (zI 0), .ref 217], mk E F G) = some (Sum.inl (some (.int (zI (if z = 0 then (bB K x y.toNat).1 else if z = 1 then (bB K x y.toNat).2.length - 1 else if z - 10 < (bB K x y.toNat).2.length - 1 then plZ (bB K x y.toNat).2 (z - 9) else -1)))), mk E (uR F1 217 (uC (F1 217) 18 (zI 0))) G) := by
          have c280' : ∀ {kk : HeapP → ResP} {kx : Nat → HeapP → ResP}, cV (callP MP e 280 [.ref 217, .int (zI x), .int (zI 0), .int (zI y)] (mk E (uR F 217 (uC (uC (uC (uC (uC (F 217) 5 (zI 0)) 27 (zI s0)) 28 (zI (-1))) 29 (zI 0)) 18 (zI 1))) G)) kk kx = kk (mk E F1 G) := fun {kk kx} => by rw [← hF0]; exact c280
          rcases c3 with c3 | c3 | c3
          · rw [if_pos c3]
            rw [q_279_55]; (try simp only [↓n_rd, ↓n_al, ↓n_cI, li_0, li_1, li_2, li_3, li_5, li_10, li_12, lj_0, lj_1, lj_2, lj_3, lj_5, lj_10, lj_12, zJ_add, zJ_sub, zJ_mul, zJ_neg, zJ_l2i, zI_add, zI_sub, zI_mul, zI_neg, ↓Option.bind_some]); simp (disch := (first | assumption | exact tI_rg _ | omega | exact uR_at | exact row_ne hF (by decide) | exact row_ne (row_ne hF (by decide)) (by decide) | exact SnS_18 | exact SnS_30 | exact LdS_44 | exact LdS_46)) only [q_279_0, q_279_50, q_279_54, q_279_150, ↓c228, ↓c280', c3, e28, uC_ne, ↓n_rd, ↓n_al, ↓n_cI, li_0, li_1, li_2, li_3, li_5, li_10, li_12, lj_0, lj_1, lj_2, lj_3, lj_5, lj_10, lj_12, zJ_add, zJ_sub, zJ_mul, zJ_neg, zJ_l2i, tJ_zJ, zI_add, zI_sub, zI_mul, zI_neg, ↓Option.bind_some, ↓g12_25, ↓g12_28, ↓g12_29, ↓g12_5, ↓p12_27, ↓p12_28, ↓p12_29, ↓p12_5, ↓pz12_18, ↓al_229, ↓as_229, zIt2, uR_at, uR_ne, uR_uR, uC_uC, uC_at, ↓reduceIte, decide_eq_true_eq, leT, leF, ltT, ltF, eqT, eqF, ne_eq, not_true_eq_false, not_false_eq_true, Bool.false_eq_true, tI_zI]
          · rw [if_neg (by omega), if_pos c3]
            rw [q_279_55]; (try simp only [↓n_rd, ↓n_al, ↓n_cI, li_0, li_1, li_2, li_3, li_5, li_10, li_12, lj_0, lj_1, lj_2, lj_3, lj_5, lj_10, lj_12, zJ_add, zJ_sub, zJ_mul, zJ_neg, zJ_l2i, zI_add, zI_sub, zI_mul, zI_neg, ↓Option.bind_some]); simp (disch := (first | assumption | exact tI_rg _ | omega | exact uR_at | exact row_ne hF (by decide) | exact row_ne (row_ne hF (by decide)) (by decide) | exact SnS_18 | exact SnS_30 | exact LdS_44 | exact LdS_46)) only [q_279_0, q_279_50, q_279_54, q_279_150, ↓c228, ↓c280', c3, e29, uC_ne, ↓n_rd, ↓n_al, ↓n_cI, li_0, li_1, li_2, li_3, li_5, li_10, li_12, lj_0, lj_1, lj_2, lj_3, lj_5, lj_10, lj_12, zJ_add, zJ_sub, zJ_mul, zJ_neg, zJ_l2i, tJ_zJ, zI_add, zI_sub, zI_mul, zI_neg, ↓Option.bind_some, ↓g12_25, ↓g12_28, ↓g12_29, ↓g12_5, ↓p12_27, ↓p12_28, ↓p12_29, ↓p12_5, ↓pz12_18, ↓al_229, ↓as_229, zIt2, uR_at, uR_ne, uR_uR, uC_uC, uC_at, ↓reduceIte, decide_eq_true_eq, leT, leF, ltT, ltF, eqT, eqF, ne_eq, not_true_eq_false, not_false_eq_true, Bool.false_eq_true, tI_zI]
          · rw [if_neg (by omega), if_neg (by omega)]
            by_cases c4 : z - 10 < (bB K x y.toNat).2.length - 1
            · rw [if_pos c4]
              have r7 := r2.2.2.2.2.2.2 (z - 10) (by omega) (by omega)
              rw [show z - 10 + 1 = z - 9 by omega] at r7
              have hal : ∀ {f : Int → ResP}, (alT (mk E (uR F1 217 (uC (F1 217) 18 (zI 0))) G) 0 229 (zI (z - 10))).bind f = f (plZ (bB K x y.toNat).2 (z - 9)) := fun {f} => by
                rw [al_229 (by omega), uR_ne (by decide), r7]
              rw [q_279_55]; (try simp only [↓n_rd, ↓n_al, ↓n_cI, li_0, li_1, li_2, li_3, li_5, li_10, li_12, lj_0, lj_1, lj_2, lj_3, lj_5, lj_10, lj_12, zJ_add, zJ_sub, zJ_mul, zJ_neg, zJ_l2i, zI_add, zI_sub, zI_mul, zI_neg, ↓Option.bind_some]); simp (disch := (first | assumption | exact tI_rg _ | omega | exact uR_at | exact row_ne hF (by decide) | exact row_ne (row_ne hF (by decide)) (by decide) | exact SnS_18 | exact SnS_30 | exact LdS_44 | exact LdS_46)) only [q_279_0, q_279_50, q_279_54, q_279_150, ↓c228, ↓c280', e29, ↓hal, uC_ne, ↓n_rd, ↓n_al, ↓n_cI, li_0, li_1, li_2, li_3, li_5, li_10, li_12, lj_0, lj_1, lj_2, lj_3, lj_5, lj_10, lj_12, zJ_add, zJ_sub, zJ_mul, zJ_neg, zJ_l2i, tJ_zJ, zI_add, zI_sub, zI_mul, zI_neg, ↓Option.bind_some, ↓g12_25, ↓g12_28, ↓g12_29, ↓g12_5, ↓p12_27, ↓p12_28, ↓p12_29, ↓p12_5, ↓pz12_18, ↓al_229, ↓as_229, zIt2, uR_at, uR_ne, uR_uR, uC_uC, uC_at, ↓reduceIte, decide_eq_true_eq, leT, leF, ltT, ltF, eqT, eqF, ne_eq, not_true_eq_false, not_false_eq_true, Bool.false_eq_true, tI_zI]
            · rw [if_neg c4]
              rw [q_279_55]; (try simp only [↓n_rd, ↓n_al, ↓n_cI, li_0, li_1, li_2, li_3, li_5, li_10, li_12, lj_0, lj_1, lj_2, lj_3, lj_5, lj_10, lj_12, zJ_add, zJ_sub, zJ_mul, zJ_neg, zJ_l2i, zI_add, zI_sub, zI_mul, zI_neg, ↓Option.bind_some]); simp (disch := (first | assumption | exact tI_rg _ | omega | exact uR_at | exact row_ne hF (by decide) | exact row_ne (row_ne hF (by decide)) (by decide) | exact SnS_18 | exact SnS_30 | exact LdS_44 | exact LdS_46)) only [q_279_0, q_279_50, q_279_54, q_279_150, ↓c228, ↓c280', e29, uC_ne, ↓n_rd, ↓n_al, ↓n_cI, li_0, li_1, li_2, li_3, li_5, li_10, li_12, lj_0, lj_1, lj_2, lj_3, lj_5, lj_10, lj_12, zJ_add, zJ_sub, zJ_mul, zJ_neg, zJ_l2i, tJ_zJ, zI_add, zI_sub, zI_mul, zI_neg, ↓Option.bind_some, ↓g12_25, ↓g12_28, ↓g12_29, ↓g12_5, ↓p12_27, ↓p12_28, ↓p12_29, ↓p12_5, ↓pz12_18, ↓al_229, ↓as_229, zIt2, uR_at, uR_ne, uR_uR, uC_uC, uC_at, ↓reduceIte, decide_eq_true_eq, leT, leF, ltT, ltF, eqT, eqF, ne_eq, not_true_eq_false, not_false_eq_true, Bool.false_eq_true, tI_zI]
        rw [hin, ← h55s]
        rcases c3 with c3 | c3 | c3
        · rw [q_279_0]; (try simp only [↓n_rd, ↓n_al, ↓n_cI, li_0, li_1, li_2, li_3, li_5, li_10, li_12, lj_0, lj_1, lj_2, lj_3, lj_5, lj_10, lj_12, zJ_add, zJ_sub, zJ_mul, zJ_neg, zJ_l2i, zI_add, zI_sub, zI_mul, zI_neg, ↓Option.bind_some]); simp (disch := (first | assumption | exact tI_rg _ | omega | exact uR_at | exact row_ne hF (by decide) | exact row_ne (row_ne hF (by decide)) (by decide) | exact SnS_18 | exact SnS_30 | exact LdS_44 | exact LdS_46)) only [q_279_50, q_279_54, q_279_150, ↓cc_213t hI, ↓cc_213f hI, ↓cc_219t hI, ↓cc_219f hI, ↓cc_188t, ↓cc_188f, ↓cc_189, zI_i2l, hF, c3, ↓n_rd, ↓n_al, ↓n_cI, li_0, li_1, li_2, li_3, li_5, li_10, li_12, lj_0, lj_1, lj_2, lj_3, lj_5, lj_10, lj_12, zJ_add, zJ_sub, zJ_mul, zJ_neg, zJ_l2i, tJ_zJ, zI_add, zI_sub, zI_mul, zI_neg, ↓Option.bind_some, ↓g12_25, ↓g12_28, ↓g12_29, ↓g12_5, ↓p12_27, ↓p12_28, ↓p12_29, ↓p12_5, ↓pz12_18, ↓al_229, ↓as_229, zIt2, uR_at, uR_ne, uR_uR, uC_uC, uC_at, ↓reduceIte, decide_eq_true_eq, leT, leF, ltT, ltF, eqT, eqF, ne_eq, not_true_eq_false, not_false_eq_true, Bool.false_eq_true, tI_zI]
        · rw [q_279_0]; (try simp only [↓n_rd, ↓n_al, ↓n_cI, li_0, li_1, li_2, li_3, li_5, li_10, li_12, lj_0, lj_1, lj_2, lj_3, lj_5, lj_10, lj_12, zJ_add, zJ_sub, zJ_mul, zJ_neg, zJ_l2i, zI_add, zI_sub, zI_mul, zI_neg, ↓Option.bind_some]); simp (disch := (first | assumption | exact tI_rg _ | omega | exact uR_at | exact row_ne hF (by decide) | exact row_ne (row_ne hF (by decide)) (by decide) | exact SnS_18 | exact SnS_30 | exact LdS_44 | exact LdS_46)) only [q_279_50, q_279_54, q_279_150, ↓cc_213t hI, ↓cc_213f hI, ↓cc_219t hI, ↓cc_219f hI, ↓cc_188t, ↓cc_188f, ↓cc_189, zI_i2l, hF, c3, ↓n_rd, ↓n_al, ↓n_cI, li_0, li_1, li_2, li_3, li_5, li_10, li_12, lj_0, lj_1, lj_2, lj_3, lj_5, lj_10, lj_12, zJ_add, zJ_sub, zJ_mul, zJ_neg, zJ_l2i, tJ_zJ, zI_add, zI_sub, zI_mul, zI_neg, ↓Option.bind_some, ↓g12_25, ↓g12_28, ↓g12_29, ↓g12_5, ↓p12_27, ↓p12_28, ↓p12_29, ↓p12_5, ↓pz12_18, ↓al_229, ↓as_229, zIt2, uR_at, uR_ne, uR_uR, uC_uC, uC_at, ↓reduceIte, decide_eq_true_eq, leT, leF, ltT, ltF, eqT, eqF, ne_eq, not_true_eq_false, not_false_eq_true, Bool.false_eq_true, tI_zI]
        · rw [q_279_0]; (try simp only [↓n_rd, ↓n_al, ↓n_cI, li_0, li_1, li_2, li_3, li_5, li_10, li_12, lj_0, lj_1, lj_2, lj_3, lj_5, lj_10, lj_12, zJ_add, zJ_sub, zJ_mul, zJ_neg, zJ_l2i, zI_add, zI_sub, zI_mul, zI_neg, ↓Option.bind_some]); simp (disch := (first | assumption | exact tI_rg _ | omega | exact uR_at | exact row_ne hF (by decide) | exact row_ne (row_ne hF (by decide)) (by decide) | exact SnS_18 | exact SnS_30 | exact LdS_44 | exact LdS_46)) only [q_279_50, q_279_54, q_279_150, ↓cc_213t hI, ↓cc_213f hI, ↓cc_219t hI, ↓cc_219f hI, ↓cc_188t, ↓cc_188f, ↓cc_189, zI_i2l, hF, ↓n_rd, ↓n_al, ↓n_cI, li_0, li_1, li_2, li_3, li_5, li_10, li_12, lj_0, lj_1, lj_2, lj_3, lj_5, lj_10, lj_12, zJ_add, zJ_sub, zJ_mul, zJ_neg, zJ_l2i, tJ_zJ, zI_add, zI_sub, zI_mul, zI_neg, ↓Option.bind_some, ↓g12_25, ↓g12_28, ↓g12_29, ↓g12_5, ↓p12_27, ↓p12_28, ↓p12_29, ↓p12_5, ↓pz12_18, ↓al_229, ↓as_229, zIt2, uR_at, uR_ne, uR_uR, uC_uC, uC_at, ↓reduceIte, decide_eq_true_eq, leT, leF, ltT, ltF, eqT, eqF, ne_eq, not_true_eq_false, not_false_eq_true, Bool.false_eq_true, tI_zI]
      · rw [uR_at, uC_ne (by decide), r4.2.1 5 (by decide) (by decide), o217, uC_ne (by decide), uC_ne (by decide), uC_ne (by decide), uC_ne (by decide), uC_at, ha]
      · rw [uR_ne a1]
        by_cases g : q = 218
        · rw [g, r2.1, hF]; rfl
        · rw [r4.1 q a1 g (by omega) (by omega) (by omega), o0 q a1]
      · rw [uR_at]
        by_cases g : j = 18
        · rw [g, uC_at, ← h18, zI_tI]
        · rw [uC_ne g, r4.2.1 j (by omega) (by omega), o217, uC_ne g, uC_ne (by omega), uC_ne (by omega), uC_ne (by omega), uC_ne (by omega)]
    · have ha : a_blur K x y z = (2, 0) := (if_pos c1).trans (if_neg c2)
      refine ⟨uR F 217 (uC (F 217) 5 (zI 2)), ?_, ?_, KeepM_c⟩
      · rw [ha]
        show (_ : ResP) = some (Sum.inl (some (.int (zI 0))), mk E (uR F 217 (uC (F 217) 5 (zI 2))) G)
        obtain ⟨e, rfl⟩ : ∃ e, d = e + 1 := ⟨d - 1, by omega⟩
        have hin : callP MP (e + 1) 279 [.ref 217, .int (zI x), .int (zI y), .int (zI z)] (mk E F G) = runP MP e 279 (0, [some (.ref 217), some (.int (zI x)), some (.int (zI y)), some (.int (zI z))], [], mk E F G) := into_eq (by omega) hM_279 (rcv_mk rfl (by decide)) rfl
        have h55' := h55 (d := e) (c := 2) (by omega) (by omega)
        rw [hin, ← h55']
        by_cases d1 : 0 ≤ y ∧ y ≤ 3
        · have d2 : ¬ (0 ≤ z ∧ z ≤ 1) := by omega
          have d3 : ¬ (10 ≤ z ∧ z ≤ 12) := by omega
          rw [q_279_0]; (try simp only [↓n_rd, ↓n_al, ↓n_cI, li_0, li_1, li_2, li_3, li_5, li_10, li_12, lj_0, lj_1, lj_2, lj_3, lj_5, lj_10, lj_12, zJ_add, zJ_sub, zJ_mul, zJ_neg, zJ_l2i, zI_add, zI_sub, zI_mul, zI_neg, ↓Option.bind_some]); simp (disch := (first | assumption | exact tI_rg _ | omega | exact uR_at | exact row_ne hF (by decide) | exact row_ne (row_ne hF (by decide)) (by decide) | exact SnS_18 | exact SnS_30 | exact LdS_44 | exact LdS_46)) only [q_279_50, q_279_54, q_279_150, ↓cc_213t hI, ↓cc_213f hI, ↓cc_219t hI, ↓cc_219f hI, ↓cc_188t, ↓cc_188f, ↓cc_189, zI_i2l, hF, ↓n_rd, ↓n_al, ↓n_cI, li_0, li_1, li_2, li_3, li_5, li_10, li_12, lj_0, lj_1, lj_2, lj_3, lj_5, lj_10, lj_12, zJ_add, zJ_sub, zJ_mul, zJ_neg, zJ_l2i, tJ_zJ, zI_add, zI_sub, zI_mul, zI_neg, ↓Option.bind_some, ↓g12_25, ↓g12_28, ↓g12_29, ↓g12_5, ↓p12_27, ↓p12_28, ↓p12_29, ↓p12_5, ↓pz12_18, ↓al_229, ↓as_229, zIt2, uR_at, uR_ne, uR_uR, uC_uC, uC_at, ↓reduceIte, decide_eq_true_eq, leT, leF, ltT, ltF, eqT, eqF, ne_eq, not_true_eq_false, not_false_eq_true, Bool.false_eq_true, tI_zI]
        · rw [q_279_0]; (try simp only [↓n_rd, ↓n_al, ↓n_cI, li_0, li_1, li_2, li_3, li_5, li_10, li_12, lj_0, lj_1, lj_2, lj_3, lj_5, lj_10, lj_12, zJ_add, zJ_sub, zJ_mul, zJ_neg, zJ_l2i, zI_add, zI_sub, zI_mul, zI_neg, ↓Option.bind_some]); simp (disch := (first | assumption | exact tI_rg _ | omega | exact uR_at | exact row_ne hF (by decide) | exact row_ne (row_ne hF (by decide)) (by decide) | exact SnS_18 | exact SnS_30 | exact LdS_44 | exact LdS_46)) only [q_279_50, q_279_54, q_279_150, ↓cc_213t hI, ↓cc_213f hI, ↓cc_219t hI, ↓cc_219f hI, ↓cc_188t, ↓cc_188f, ↓cc_189, zI_i2l, hF, ↓n_rd, ↓n_al, ↓n_cI, li_0, li_1, li_2, li_3, li_5, li_10, li_12, lj_0, lj_1, lj_2, lj_3, lj_5, lj_10, lj_12, zJ_add, zJ_sub, zJ_mul, zJ_neg, zJ_l2i, tJ_zJ, zI_add, zI_sub, zI_mul, zI_neg, ↓Option.bind_some, ↓g12_25, ↓g12_28, ↓g12_29, ↓g12_5, ↓p12_27, ↓p12_28, ↓p12_29, ↓p12_5, ↓pz12_18, ↓al_229, ↓as_229, zIt2, uR_at, uR_ne, uR_uR, uC_uC, uC_at, ↓reduceIte, decide_eq_true_eq, leT, leF, ltT, ltF, eqT, eqF, ne_eq, not_true_eq_false, not_false_eq_true, Bool.false_eq_true, tI_zI]
      · rw [uR_at, uC_at, ha]
  · have ha : a_blur K x y z = (1, 0) := if_neg c1
    refine ⟨uR F 217 (uC (F 217) 5 (zI 1)), ?_, ?_, KeepM_c⟩
    · rw [ha]
      show (_ : ResP) = some (Sum.inl (some (.int (zI 0))), mk E (uR F 217 (uC (F 217) 5 (zI 1))) G)
      obtain ⟨e, rfl⟩ : ∃ e, d = e + 1 := ⟨d - 1, by omega⟩
      have hin : callP MP (e + 1) 279 [.ref 217, .int (zI x), .int (zI y), .int (zI z)] (mk E F G) = runP MP e 279 (0, [some (.ref 217), some (.int (zI x)), some (.int (zI y)), some (.int (zI z))], [], mk E F G) := into_eq (by omega) hM_279 (rcv_mk rfl (by decide)) rfl
      have h55' := h55 (d := e) (c := 1) (by omega) (by omega)
      rw [hin, ← h55']
      rw [q_279_0]; (try simp only [↓n_rd, ↓n_al, ↓n_cI, li_0, li_1, li_2, li_3, li_5, li_10, li_12, lj_0, lj_1, lj_2, lj_3, lj_5, lj_10, lj_12, zJ_add, zJ_sub, zJ_mul, zJ_neg, zJ_l2i, zI_add, zI_sub, zI_mul, zI_neg, ↓Option.bind_some]); simp (disch := (first | assumption | exact tI_rg _ | omega | exact uR_at | exact row_ne hF (by decide) | exact row_ne (row_ne hF (by decide)) (by decide) | exact SnS_18 | exact SnS_30 | exact LdS_44 | exact LdS_46)) only [q_279_50, q_279_54, q_279_150, ↓cc_213t hI, ↓cc_213f hI, ↓cc_219t hI, ↓cc_219f hI, ↓cc_188t, ↓cc_188f, ↓cc_189, zI_i2l, hF, ↓n_rd, ↓n_al, ↓n_cI, li_0, li_1, li_2, li_3, li_5, li_10, li_12, lj_0, lj_1, lj_2, lj_3, lj_5, lj_10, lj_12, zJ_add, zJ_sub, zJ_mul, zJ_neg, zJ_l2i, tJ_zJ, zI_add, zI_sub, zI_mul, zI_neg, ↓Option.bind_some, ↓g12_25, ↓g12_28, ↓g12_29, ↓g12_5, ↓p12_27, ↓p12_28, ↓p12_29, ↓p12_5, ↓pz12_18, ↓al_229, ↓as_229, zIt2, uR_at, uR_ne, uR_uR, uC_uC, uC_at, ↓reduceIte, decide_eq_true_eq, leT, leF, ltT, ltF, eqT, eqF, ne_eq, not_true_eq_false, not_false_eq_true, Bool.false_eq_true, tI_zI]
    · rw [uR_at, uC_at, ha]
end S94zzzl
