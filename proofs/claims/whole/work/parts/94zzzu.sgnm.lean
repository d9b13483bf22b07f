/-! MODEL: signs, 2 -/
section S94zzzu
set_option linter.unusedVariables false
set_option linter.unusedSimpArgs false
theorem ml_signs {d : Nat} {E : EnQ} {F : Nat → Int → Int32} {G : Nat → Int → Int64} {K : Int → Int32} (hI : InvK K) (hF : F 218 = K) {x y : Int} (hx : -2147483648 ≤ x ∧ x ≤ 2147483647) (hy : -2147483648 ≤ y ∧ y ≤ 2147483647) (hd : 13 ≤ d) : ∃ F1, callP MP d 295 [.ref 217, .int (zI x), .int (zI y)] (mk E F G) = some (Sum.inl (some (.int (zI (a_signs K x y).2))), mk E F1 G) ∧ F1 217 5 = zI (a_signs K x y).1 ∧ KeepM F G F1 G := by
  have hA := hI.1
  have hb1 := hI.1.2.1
  have h31 : ∀ {d : Nat} {c : Int}, 0 < c → c ≤ 3 → runP MP d 295 (31, [some (.ref 217), some (.int (zI x)), some (.int (zI y)), none], [.int (zI c), .ref 217], mk E F G) = some (Sum.inl (some (.int (zI 0))), mk E (uR F 217 (uC (F 217) 5 (zI c))) G) := fun {d c} h1 h2 => by
    rw [q_295_31]; (try simp only [↓n_rd, ↓n_cI, li_0, li_1, li_2, li_5, li_6, li_12, li_31, li_97, li_1000, li_2000, li_8192, lj_0, lj_1, lj_2, lj_5, lj_6, lj_12, lj_1000, zJ_add, zJ_sub, zJ_mul, zJ_neg, zJ_l2i, zI_add, zI_sub, zI_mul, zI_neg, ↓Option.bind_some]); simp (disch := (first | assumption | exact tI_rg _ | omega | exact uR_at | exact row_ne hF (by decide) | exact row_ne (row_ne hF (by decide)) (by decide) | exact SnS_18 | exact SnS_30 | exact LdS_44 | exact LdS_46)) only [q_295_0, q_295_97, ↓n_rd, ↓n_cI, li_0, li_1, li_2, li_5, li_6, li_12, li_31, li_97, li_1000, li_2000, li_8192, lj_0, lj_1, lj_2, lj_5, lj_6, lj_12, lj_1000, zJ_add, zJ_sub, zJ_mul, zJ_neg, zJ_l2i, tJ_zJ, zI_add, zI_sub, zI_mul, zI_neg, ↓Option.bind_some, ↓g12_44, ↓g12_45, ↓g12_5, ↓p12_45, ↓p12_5, ↓al_238, ↓as_238, zIt2, uR_at, uR_ne, uR_uR, uC_uC, uC_at, ↓reduceIte, decide_eq_true_eq, leT, leF, ltT, ltF, eqT, eqF, ne_eq, not_true_eq_false, not_false_eq_true, Bool.false_eq_true, tI_zI]
  by_cases c1 : 0 ≤ x ∧ x < tI (K 1)
  · by_cases c2 : 0 ≤ y ∧ y ≤ 6
    · have ha : a_signs K x y = (0, if 2000 < (slS K x y.toNat).length then -1000 else ((slS K x y.toNat).length : Int)) := (if_pos c1).trans (if_pos c2)
      obtain ⟨M, hM⟩ : ∃ M : Nat, M = 8192 := ⟨_, rfl⟩
      obtain ⟨F0, hF0⟩ : ∃ F0, F0 = uR (uR F 217 (uC (uC (F 217) 5 (zI 0)) 45 (zI 0))) 238 (zrI (F 238) M 0) := ⟨_, rfl⟩
      have o217 : F0 217 = uC (uC (F 217) 5 (zI 0)) 45 (zI 0) := by rw [hF0, uR_ne (by decide), uR_at]
      have o238 : F0 238 = zrI (F 238) M 0 := by rw [hF0, uR_at]
      have oq : ∀ q, q ≠ 217 → q ≠ 238 → F0 q = F q := fun q h1 h2 => by rw [hF0, uR_ne h2, uR_ne h1]
      have hz : ∀ j : Nat, j < M → tI (F0 238 (j : Int)) = 0 := fun j hj => by
        rw [o238]
        show tI (if 0 ≤ (j : Int) ∧ (j : Int) < M then zI 0 else F 238 j) = 0
        rw [if_pos (by omega), tI_zI (by omega)]
      have hv0 : VaP K [x] := ⟨c1, fun z => absurd rfl z, trivial⟩
      have W0 : MwR M F0 K [x] [] := by
        refine ⟨?_, ⟨?_, ⟨fun j hj hjo => ?_, fun s hs => ?_, ?_⟩, fun s hs => ?_⟩, fun j h1 h2 => ?_⟩
        · rw [oq 218 (by decide) (by decide)]; exact hF
        · rw [o217, uC_at]; exact tI_zI (by omega)
        · exact absurd (hz j hj) (of_decide_eq_true hjo)
        · cases hs
        · have : ∀ n : Nat, n ≤ M → cntN (fun j : Nat => decide (tI (F0 238 (j : Int)) ≠ 0)) n = 0 := by
            intro n
            induction n with
            | zero => intro _; rfl
            | succ n ih =>
              intro h
              have e2 : ¬ (decide (tI (F0 238 (n : Int)) ≠ 0) = true) := fun z => of_decide_eq_true z (hz n (by omega))
              exact (cntN_neg (p := fun j : Nat => decide (tI (F0 238 (j : Int)) ≠ 0)) (j := n) e2).trans (ih (by omega))
          exact this M (Nat.le_refl _)
        · cases hs
        · exfalso; have h2 : j + 1 < 1 := h2; omega
      obtain ⟨F1, r1, r2, r3, r4⟩ := go_296 (E := E) (G := G) (n := y.toNat) hI hM (by omega) y.toNat (d - 1) [x] F0 [] 0 x (by intro z; cases z) (by show 1 + y.toNat = y.toNat + 1; omega) rfl rfl hv0 (by show 0 ≤ 2001; omega) W0 (by omega)
      rw [show ((y.toNat : Nat) : Int) = y by omega] at r1
      have eB : wkF K (vS K) y.toNat [x] [] = slS K x y.toNat := rfl
      rw [eB] at r2 r3
      refine ⟨F1, ?_, ?_, fun q a1 a2 a3 a4 => ?_, fun j hj => ?_, fun _ _ => rfl⟩
      · rw [ha]
        show (_ : ResP) = some (Sum.inl (some (.int (zI (if 2000 < (slS K x y.toNat).length then -1000 else ((slS K x y.toNat).length : Int))))), mk E F1 G)
        obtain ⟨e, rfl⟩ : ∃ e, d = e + 1 := ⟨d - 1, by omega⟩
        have hin : callP MP (e + 1) 295 [.ref 217, .int (zI x), .int (zI y)] (mk E F G) = runP MP e 295 (0, [some (.ref 217), some (.int (zI x)), some (.int (zI y)), none], [], mk E F G) := into_eq (by omega) hM_295 (rcv_mk rfl (by decide)) rfl
        have r1 : callP MP e 296 [.ref 217, .int (zI x), .int (zI 0), .int (zI y)] (mk E F0 G) = some (Sum.inl none, mk E F1 G) := r1
        have c296 : ∀ {kk : HeapP → ResP} {kx : Nat → HeapP → ResP}, cV (callP MP e 296 [.ref 217, .int (zI x), .int (zI 0), .int (zI y)] (mk E F0 G)) kk kx = kk (mk E F1 G) := fun {kk kx} => cV_ret r1
        have e45 := r2.2.1.1
        have h31s : runP MP e 295 (31, [some (.ref 217), some (.int (zI x)), some (.int (zI y)), none], [.int (zI 0), .ref 217], mk E F G) = runP MP e 295 (45, [some (.ref 217), some (.int (zI x)), some (.int (zI y)), some (.int (zI 0))], [], mk E (uR F 217 (uC (F 217) 5 (zI 0))) G) := by
          rw [q_295_31]; (try simp only [↓n_rd, ↓n_cI, li_0, li_1, li_2, li_5, li_6, li_12, li_31, li_97, li_1000, li_2000, li_8192, lj_0, lj_1, lj_2, lj_5, lj_6, lj_12, lj_1000, zJ_add, zJ_sub, zJ_mul, zJ_neg, zJ_l2i, zI_add, zI_sub, zI_mul, zI_neg, ↓Option.bind_some]); simp (disch := (first | assumption | exact tI_rg _ | omega | exact uR_at | exact row_ne hF (by decide) | exact row_ne (row_ne hF (by decide)) (by decide) | exact SnS_18 | exact SnS_30 | exact LdS_44 | exact LdS_46)) only [q_295_0, q_295_97, ↓n_rd, ↓n_cI, li_0, li_1, li_2, li_5, li_6, li_12, li_31, li_97, li_1000, li_2000, li_8192, lj_0, lj_1, lj_2, lj_5, lj_6, lj_12, lj_1000, zJ_add, zJ_sub, zJ_mul, zJ_neg, zJ_l2i, tJ_zJ, zI_add, zI_sub, zI_mul, zI_neg, ↓Option.bind_some, ↓g12_44, ↓g12_45, ↓g12_5, ↓p12_45, ↓p12_5, ↓al_238, ↓as_238, zIt2, uR_at, uR_ne, uR_uR, uC_uC, uC_at, ↓reduceIte, decide_eq_true_eq, leT, leF, ltT, ltF, eqT, eqF, ne_eq, not_true_eq_false, not_false_eq_true, Bool.false_eq_true, tI_zI]
        have hlp : runP MP e 295 (45, [some (.ref 217), some (.int (zI x)), some (.int (zI y)), some (.int (zI 0))], [], mk E (uR F 217 (uC (F 217) 5 (zI 0))) G) = runP MP e 295 (45, [some (.ref 217), some (.int (zI x)), some (.int (zI y)), some (.int (zI (M : Int)))], [], mk E (uR (uR F 217 (uC (F 217) 5 (zI 0))) 238 (zrI (F 238) M 0)) G) := by
          have h0 : runP MP e 295 (45, [some (.ref 217), some (.int (zI x)), some (.int (zI y)), some (.int (zI 0))], [], mk E (uR F 217 (uC (F 217) 5 (zI 0))) G) = runP MP e 295 (45, [some (.ref 217), some (.int (zI x)), some (.int (zI y)), some (.int (zI ((0 : Nat) : Int)))], [], mk E (uR (uR F 217 (uC (F 217) 5 (zI 0))) 238 (zrI (F 238) 0 0)) G) := by
            rw [zrI_0, show F 238 = uR F 217 (uC (F 217) 5 (zI 0)) 238 from (uR_ne (by decide)).symm, uR_self]; rfl
          rw [h0]
          refine (loopN (fun j : Nat => runP MP e 295 (45, [some (.ref 217), some (.int (zI x)), some (.int (zI y)), some (.int (zI (j : Nat)))], [], mk E (uR (uR F 217 (uC (F 217) 5 (zI 0))) 238 (zrI (F 238) j 0)) G)) (M) (fun j hj => ?_)).trans ?_
          · show runP MP e 295 (45, [some (.ref 217), some (.int (zI x)), some (.int (zI y)), some (.int (zI (j : Nat)))], [], mk E (uR (uR F 217 (uC (F 217) 5 (zI 0))) 238 (zrI (F 238) j 0)) G) = runP MP e 295 (45, [some (.ref 217), some (.int (zI x)), some (.int (zI y)), some (.int (zI ((j + 1) : Nat)))], [], mk E (uR (uR F 217 (uC (F 217) 5 (zI 0))) 238 (zrI (F 238) (j + 1) 0)) G)
            rw [nsucc, zrI_s]
            rw [q_295_45]; (try simp only [↓n_rd, ↓n_cI, li_0, li_1, li_2, li_5, li_6, li_12, li_31, li_97, li_1000, li_2000, li_8192, lj_0, lj_1, lj_2, lj_5, lj_6, lj_12, lj_1000, zJ_add, zJ_sub, zJ_mul, zJ_neg, zJ_l2i, zI_add, zI_sub, zI_mul, zI_neg, ↓Option.bind_some]); simp (disch := (first | assumption | exact tI_rg _ | omega | exact uR_at | exact row_ne hF (by decide) | exact row_ne (row_ne hF (by decide)) (by decide) | exact SnS_18 | exact SnS_30 | exact LdS_44 | exact LdS_46)) only [q_295_0, q_295_31, q_295_97, ↓as_238, vpn0, ↓n_rd, ↓n_cI, li_0, li_1, li_2, li_5, li_6, li_12, li_31, li_97, li_1000, li_2000, li_8192, lj_0, lj_1, lj_2, lj_5, lj_6, lj_12, lj_1000, zJ_add, zJ_sub, zJ_mul, zJ_neg, zJ_l2i, tJ_zJ, zI_add, zI_sub, zI_mul, zI_neg, ↓Option.bind_some, ↓g12_44, ↓g12_45, ↓g12_5, ↓p12_45, ↓p12_5, ↓al_238, ↓as_238, zIt2, uR_at, uR_ne, uR_uR, uC_uC, uC_at, ↓reduceIte, decide_eq_true_eq, leT, leF, ltT, ltF, eqT, eqF, ne_eq, not_true_eq_false, not_false_eq_true, Bool.false_eq_true, tI_zI]
          · show runP MP e 295 (45, [some (.ref 217), some (.int (zI x)), some (.int (zI y)), some (.int (zI ((M) : Nat)))], [], mk E (uR (uR F 217 (uC (F 217) 5 (zI 0))) 238 (zrI (F 238) (M) 0)) G) = _
            rfl

        have h45 : runP MP e 295 (45, [some (.ref 217), some (.int (zI x)), some (.int (zI y)), some (.int (zI (M : Int)))], [], mk E (uR (uR F 217 (uC (F 217) 5 (zI 0))) 238 (zrI (F 238) M 0)) G) = some (Sum.inl (some (.int (zI (if 2000 < (slS K x y.toNat).length then -1000 else ((slS K x y.toNat).length : Int))))), mk E F1 G) := by
          have hw : ∀ {f : HeapP → ResP}, (wrV (mk E (uR (uR F 217 (uC (F 217) 5 (zI 0))) 238 (zrI (F 238) M 0)) G) 12 217 45 (.int (zI 0))).bind f = f (mk E F0 G) := fun {f} => by
            rw [p12_45, hF0, uR_ne (by decide), uR_at, uR_comm (a := 238) (b := 217) (by decide), uR_uR]
          by_cases c : 2000 < (slS K x y.toNat).length
          · rw [if_pos c]
            rw [q_295_45]; (try simp only [↓n_rd, ↓n_cI, li_0, li_1, li_2, li_5, li_6, li_12, li_31, li_97, li_1000, li_2000, li_8192, lj_0, lj_1, lj_2, lj_5, lj_6, lj_12, lj_1000, zJ_add, zJ_sub, zJ_mul, zJ_neg, zJ_l2i, zI_add, zI_sub, zI_mul, zI_neg, ↓Option.bind_some]); simp (disch := (first | assumption | exact tI_rg _ | omega | exact uR_at | exact row_ne hF (by decide) | exact row_ne (row_ne hF (by decide)) (by decide) | exact SnS_18 | exact SnS_30 | exact LdS_44 | exact LdS_46)) only [q_295_0, q_295_31, q_295_97, ↓hw, ↓c296, e45, ↓n_rd, ↓n_cI, li_0, li_1, li_2, li_5, li_6, li_12, li_31, li_97, li_1000, li_2000, li_8192, lj_0, lj_1, lj_2, lj_5, lj_6, lj_12, lj_1000, zJ_add, zJ_sub, zJ_mul, zJ_neg, zJ_l2i, tJ_zJ, zI_add, zI_sub, zI_mul, zI_neg, ↓Option.bind_some, ↓g12_44, ↓g12_45, ↓g12_5, ↓p12_45, ↓p12_5, ↓al_238, ↓as_238, zIt2, uR_at, uR_ne, uR_uR, uC_uC, uC_at, ↓reduceIte, decide_eq_true_eq, leT, leF, ltT, ltF, eqT, eqF, ne_eq, not_true_eq_false, not_false_eq_true, Bool.false_eq_true, tI_zI]
          · rw [if_neg c]
            rw [q_295_45]; (try simp only [↓n_rd, ↓n_cI, li_0, li_1, li_2, li_5, li_6, li_12, li_31, li_97, li_1000, li_2000, li_8192, lj_0, lj_1, lj_2, lj_5, lj_6, lj_12, lj_1000, zJ_add, zJ_sub, zJ_mul, zJ_neg, zJ_l2i, zI_add, zI_sub, zI_mul, zI_neg, ↓Option.bind_some]); simp (disch := (first | assumption | exact tI_rg _ | omega | exact uR_at | exact row_ne hF (by decide) | exact row_ne (row_ne hF (by decide)) (by decide) | exact SnS_18 | exact SnS_30 | exact LdS_44 | exact LdS_46)) only [q_295_0, q_295_31, q_295_97, ↓hw, ↓c296, e45, ↓n_rd, ↓n_cI, li_0, li_1, li_2, li_5, li_6, li_12, li_31, li_97, li_1000, li_2000, li_8192, lj_0, lj_1, lj_2, lj_5, lj_6, lj_12, lj_1000, zJ_add, zJ_sub, zJ_mul, zJ_neg, zJ_l2i, tJ_zJ, zI_add, zI_sub, zI_mul, zI_neg, ↓Option.bind_some, ↓g12_44, ↓g12_45, ↓g12_5, ↓p12_45, ↓p12_5, ↓al_238, ↓as_238, zIt2, uR_at, uR_ne, uR_uR, uC_uC, uC_at, ↓reduceIte, decide_eq_true_eq, leT, leF, ltT, ltF, eqT, eqF, ne_eq, not_true_eq_false, not_false_eq_true, Bool.false_eq_true, tI_zI]
        rw [hin, ← h45, ← hlp, ← h31s]
        rw [q_295_0]; (try simp only [↓n_rd, ↓n_cI, li_0, li_1, li_2, li_5, li_6, li_12, li_31, li_97, li_1000, li_2000, li_8192, lj_0, lj_1, lj_2, lj_5, lj_6, lj_12, lj_1000, zJ_add, zJ_sub, zJ_mul, zJ_neg, zJ_l2i, zI_add, zI_sub, zI_mul, zI_neg, ↓Option.bind_some]); simp (disch := (first | assumption | exact tI_rg _ | omega | exact uR_at | exact row_ne hF (by decide) | exact row_ne (row_ne hF (by decide)) (by decide) | exact SnS_18 | exact SnS_30 | exact LdS_44 | exact LdS_46)) only [q_295_97, ↓cc_213t hI, ↓cc_213f hI, ↓cc_219t hI, ↓cc_219f hI, ↓cc_188t, ↓cc_188f, ↓cc_189, zI_i2l, hF, ↓n_rd, ↓n_cI, li_0, li_1, li_2, li_5, li_6, li_12, li_31, li_97, li_1000, li_2000, li_8192, lj_0, lj_1, lj_2, lj_5, lj_6, lj_12, lj_1000, zJ_add, zJ_sub, zJ_mul, zJ_neg, zJ_l2i, tJ_zJ, zI_add, zI_sub, zI_mul, zI_neg, ↓Option.bind_some, ↓g12_44, ↓g12_45, ↓g12_5, ↓p12_45, ↓p12_5, ↓al_238, ↓as_238, zIt2, uR_at, uR_ne, uR_uR, uC_uC, uC_at, ↓reduceIte, decide_eq_true_eq, leT, leF, ltT, ltF, eqT, eqF, ne_eq, not_true_eq_false, not_false_eq_true, Bool.false_eq_true, tI_zI]
      · rw [r4.2.1 5 (by decide), o217, uC_ne (by decide), uC_at, ha]
      · by_cases g : q = 238
        · exfalso; omega
        · rw [r4.1 q a1 (by omega) (by omega) g, oq q a1 g]
      · rw [r4.2.1 j (by omega), o217, uC_ne (by omega), uC_ne (by omega)]
    · have ha : a_signs K x y = (2, 0) := (if_pos c1).trans (if_neg c2)
      refine ⟨uR F 217 (uC (F 217) 5 (zI 2)), ?_, ?_, KeepM_c⟩
      · rw [ha]
        show (_ : ResP) = some (Sum.inl (some (.int (zI 0))), mk E (uR F 217 (uC (F 217) 5 (zI 2))) G)
        obtain ⟨e, rfl⟩ : ∃ e, d = e + 1 := ⟨d - 1, by omega⟩
        have hin : callP MP (e + 1) 295 [.ref 217, .int (zI x), .int (zI y)] (mk E F G) = runP MP e 295 (0, [some (.ref 217), some (.int (zI x)), some (.int (zI y)), none], [], mk E F G) := into_eq (by omega) hM_295 (rcv_mk rfl (by decide)) rfl
        have h31' := h31 (d := e) (c := 2) (by omega) (by omega)
        rw [hin, ← h31']
        rw [q_295_0]; (try simp only [↓n_rd, ↓n_cI, li_0, li_1, li_2, li_5, li_6, li_12, li_31, li_97, li_1000, li_2000, li_8192, lj_0, lj_1, lj_2, lj_5, lj_6, lj_12, lj_1000, zJ_add, zJ_sub, zJ_mul, zJ_neg, zJ_l2i, zI_add, zI_sub, zI_mul, zI_neg, ↓Option.bind_some]); simp (disch := (first | assumption | exact tI_rg _ | omega | exact uR_at | exact row_ne hF (by decide) | exact row_ne (row_ne hF (by decide)) (by decide) | exact SnS_18 | exact SnS_30 | exact LdS_44 | exact LdS_46)) only [q_295_97, ↓cc_213t hI, ↓cc_213f hI, ↓cc_219t hI, ↓cc_219f hI, ↓cc_188t, ↓cc_188f, ↓cc_189, zI_i2l, hF, ↓n_rd, ↓n_cI, li_0, li_1, li_2, li_5, li_6, li_12, li_31, li_97, li_1000, li_2000, li_8192, lj_0, lj_1, lj_2, lj_5, lj_6, lj_12, lj_1000, zJ_add, zJ_sub, zJ_mul, zJ_neg, zJ_l2i, tJ_zJ, zI_add, zI_sub, zI_mul, zI_neg, ↓Option.bind_some, ↓g12_44, ↓g12_45, ↓g12_5, ↓p12_45, ↓p12_5, ↓al_238, ↓as_238, zIt2, uR_at, uR_ne, uR_uR, uC_uC, uC_at, ↓reduceIte, decide_eq_true_eq, leT, leF, ltT, ltF, eqT, eqF, ne_eq, not_true_eq_false, not_false_eq_true, Bool.false_eq_true, tI_zI]
      · rw [uR_at, uC_at, ha]
  · have ha : a_signs K x y = (1, 0) := if_neg c1
    refine ⟨uR F 217 (uC (F 217) 5 (zI 1)), ?_, ?_, KeepM_c⟩
    · rw [ha]
      show (_ : ResP) = some (Sum.inl (some (.int (zI 0))), mk E (uR F 217 (uC (F 217) 5 (zI 1))) G)
      obtain ⟨e, rfl⟩ : ∃ e, d = e + 1 := ⟨d - 1, by omega⟩
      have hin : callP MP (e + 1) 295 [.ref 217, .int (zI x), .int (zI y)] (mk E F G) = runP MP e 295 (0, [some (.ref 217), some (.int (zI x)), some (.int (zI y)), none], [], mk E F G) := into_eq (by omega) hM_295 (rcv_mk rfl (by decide)) rfl
      have h31' := h31 (d := e) (c := 1) (by omega) (by omega)
      rw [hin, ← h31']
      rw [q_295_0]; (try simp only [↓n_rd, ↓n_cI, li_0, li_1, li_2, li_5, li_6, li_12, li_31, li_97, li_1000, li_2000, li_8192, lj_0, lj_1, lj_2, lj_5, lj_6, lj_12, lj_1000, zJ_add, zJ_sub, zJ_mul, zJ_neg, zJ_l2i, zI_add, zI_sub, zI_mul, zI_neg, ↓Option.bind_some]); simp (disch := (first | assumption | exact tI_rg _ | omega | exact uR_at | exact row_ne hF (by decide) | exact row_ne (row_ne hF (by decide)) (by decide) | exact SnS_18 | exact SnS_30 | exact LdS_44 | exact LdS_46)) only [q_295_97, ↓cc_213t hI, ↓cc_213f hI, ↓cc_219t hI, ↓cc_219f hI, ↓cc_188t, ↓cc_188f, ↓cc_189, zI_i2l, hF, ↓n_rd, ↓n_cI, li_0, li_1, li_2, li_5, li_6, li_12, li_31, li_97, li_1000, li_2000, li_8192, lj_0, lj_1, lj_2, lj_5, lj_6, lj_12, lj_1000, zJ_add, zJ_sub, zJ_mul, zJ_neg, zJ_l2i, tJ_zJ, zI_add, zI_sub, zI_mul, zI_neg, ↓Option.bind_some, ↓g12_44, ↓g12_45, ↓g12_5, ↓p12_45, ↓p12_5, ↓al_238, ↓as_238, zIt2, uR_at, uR_ne, uR_uR, uC_uC, uC_at, ↓reduceIte, decide_eq_true_eq, leT, leF, ltT, ltF, eqT, eqF, ne_eq, not_true_eq_false, not_false_eq_true, Bool.false_eq_true, tI_zI]
    · rw [uR_at, uC_at, ha]
end S94zzzu
