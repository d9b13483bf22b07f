/-! MODEL: row, starts, sure -/
section S94zzzzp
set_option linter.unusedVariables false
set_option linter.unusedSimpArgs false
theorem ll_218 {F : Nat → Int → Int32} {K : Int → Int32} (h : F 218 = K) : llF F K 218 = K := by
  unfold llF
  rw [uR_ne (by decide), uR_ne (by decide)]; exact h
theorem ml_row {d : Nat} {E : EnQ} {F : Nat → Int → Int32} {G : Nat → Int → Int64} {K : Int → Int32} (hI : InvK K) (hF : F 218 = K) {x k y : Int} (hx : -2147483648 ≤ x ∧ x ≤ 2147483647) (hk : -9223372036854775808 ≤ k ∧ k ≤ 9223372036854775807) (hy : -2147483648 ≤ y ∧ y ≤ 2147483647) (hd : 23 ≤ d) : ∃ F1 G1, callP MP d 289 [.ref 217, .int (zI x), .long (zJ k), .int (zI y)] (mk E F G) = some (Sum.inl (some (.int (zI (a_row K x k y).2))), mk E F1 G1) ∧ F1 217 5 = zI (a_row K x k y).1 ∧ KeepM F G F1 G1 := by
  have hA := hI.1
  have h5 := hI.1.2.2.2.2.2.1
  have h4 := hI.1.2.2.2.2.1
  have f218 : (uR F 217 (uC (F 217) 5 (zI 0))) 218 = K := (uR_ne (by decide)).trans hF
  by_cases c1 : 0 ≤ x ∧ x < tI (K 1)
  · by_cases c2 : tI (K 5) ≤ 14
    · by_cases c3 : 0 ≤ k ∧ 0 ≤ y ∧ y ≤ tI (K 5)
      · have ha : a_row K x k y = (0, plT K (tI (K 5)).toNat x (lfK K) k y.toNat) := (if_pos c1).trans (by rw [if_pos ⟨c3.1, c3.2.1, c2⟩])
        obtain ⟨F1, G1, r1, r2, r3, r4, r5⟩ := ct_287 (d := d - 1) (E := E) (F := llF (uR F 217 (uC (F 217) 5 (zI 0))) K) (G := G) (lf := lfK K) (k := (tI (K 5)).toNat) (u := x) (wt := k) hI (ll_218 f218) llF_233 (llF_35 hI) (lfK_rg hI) (by omega) c1 hk (by omega)
        have hkw := (llF_w (F := (uR F 217 (uC (F 217) 5 (zI 0)))) (G := G) (K := K)).tr r2
        refine ⟨F1, G1, ?_, ?_, (KeepM_c (c := 0)).tr hkw.m⟩
        · rw [ha]
          show (_ : ResP) = some (Sum.inl (some (.int (zI (plT K (tI (K 5)).toNat x (lfK K) k y.toNat)))), mk E F1 G1)
          obtain ⟨e, rfl⟩ : ∃ e, d = e + 1 := ⟨d - 1, by omega⟩
          have hin : callP MP (e + 1) 289 [.ref 217, .int (zI x), .long (zJ k), .int (zI y)] (mk E F G) = runP MP e 289 (0, [some (.ref 217), some (.int (zI x)), some (.long (zJ k)), none, some (.int (zI y))], [], mk E F G) := into_eq (by omega) hM_289 (rcv_mk rfl (by decide)) rfl
          have hbd : 0 ≤ NMz K (tI (K 5)).toNat x (lfK K) ∧ NMz K (tI (K 5)).toNat x (lfK K) ≤ 100000000000000 := rw_bd hI (k := (tI (K 5)).toNat) (by omega) (u := x) (lf := lfK K)
          obtain ⟨V, hV⟩ : ∃ V, V = if 0 ≤ k ∧ k < NMz K (tI (K 5)).toNat x (lfK K) then k + 1 else NMz K (tI (K 5)).toNat x (lfK K) := ⟨_, rfl⟩
          rw [← hV] at r1
          have c287 : ∀ {kk : Int → HeapP → ResP} {kx : Nat → HeapP → ResP}, cJT (callP MP e 287 [.ref 217, .int (zI x), .long (zJ k)] (mk E (llF (uR F 217 (uC (F 217) 5 (zI 0))) K) G)) kk kx = kk V (mk E F1 G1) := fun {kk kx} => cJT_ret r1 (by rw [hV]; split <;> omega)
          have c286 : ∀ {kk : HeapP → ResP} {kx : Nat → HeapP → ResP}, cV (callP MP e 286 [.ref 217] (mk E (uR F 217 (uC (F 217) 5 (zI 0))) G)) kk kx = kk (mk E (llF (uR F 217 (uC (F 217) 5 (zI 0))) K) G) := fun {kk kx} => cc_286 hI f218 (by omega)
          have c285 : ∀ {kk : Int → HeapP → ResP} {kx : Nat → HeapP → ResP}, cT (callP MP e 285 [.ref 217] (mk E (uR F 217 (uC (F 217) 5 (zI 0))) G)) kk kx = kk 0 (mk E (uR F 217 (uC (F 217) 5 (zI 0))) G) := fun {kk kx} => by rw [cc_285 hI f218 (by omega), if_pos c2]
          have hk0 : ¬ k < 0 := by omega
          rw [hin]
          by_cases c4 : k < NMz K (tI (K 5)).toNat x (lfK K)
          · obtain ⟨s1, s2⟩ := r5 ⟨c3.1, c4⟩
            have s3 := s2 y.toNat (by omega)
            rw [show ((y.toNat : Nat) : Int) = y by omega] at s3
            have ep : plT K (tI (K 5)).toNat x (lfK K) k y.toNat = RMz K (tI (K 5)).toNat x (lfK K) k y.toNat := if_pos ⟨c4, by omega⟩
            have hyi : 0 ≤ y ∧ y < 64 := by omega
            rw [ep, ← s3]
            rw [q_289_0]; (try simp only [↓n_rd, ↓n_al, ↓n_cI, ↓n_cJ, li_0, li_1, li_5, li_12, li_48, li_210, lj_0, lj_1, lj_5, lj_12, zJ_add, zJ_sub, zJ_mul, zJ_neg, zJ_l2i, zI_add, zI_sub, zI_mul, zI_neg, ↓Option.bind_some]); simp (disch := (first | assumption | exact tI_rg _ | omega | exact uR_at | exact row_ne hF (by decide) | exact row_ne (row_ne hF (by decide)) (by decide) | exact SnS_18 | exact SnS_30 | exact LdS_44 | exact LdS_46)) only [q_289_48, q_289_79, ↓cc_213t hI, ↓cc_213f hI, ↓cc_219t hI, ↓cc_219f hI, ↓cc_188t, ↓cc_188f, ↓cc_189, zI_i2l, hF, ↓c285, ↓c286, cmpJ_lt, hk0, ↓cc_210 hI, ↓cc_188, ↓n_cJ, ↓c287, s1, ↓al_235 hyi, ↓n_rd, ↓n_al, ↓n_cI, ↓n_cJ, li_0, li_1, li_5, li_12, li_48, li_210, lj_0, lj_1, lj_5, lj_12, zJ_add, zJ_sub, zJ_mul, zJ_neg, zJ_l2i, tJ_zJ, zI_add, zI_sub, zI_mul, zI_neg, ↓Option.bind_some, ↓g12_34, ↓g12_41, ↓p12_5, ↓al_235, ↓as_235, zIt2, uR_at, uR_ne, uR_uR, uC_uC, uC_at, ↓reduceIte, decide_eq_true_eq, leT, leF, ltT, ltF, eqT, eqF, ne_eq, not_true_eq_false, not_false_eq_true, Bool.false_eq_true, tI_zI]
          · have s1 := (r4 (fun z => c4 z.2)).1
            have ep : plT K (tI (K 5)).toNat x (lfK K) k y.toNat = -1 := if_neg (fun z => c4 z.1)
            rw [ep]
            rw [q_289_0]; (try simp only [↓n_rd, ↓n_al, ↓n_cI, ↓n_cJ, li_0, li_1, li_5, li_12, li_48, li_210, lj_0, lj_1, lj_5, lj_12, zJ_add, zJ_sub, zJ_mul, zJ_neg, zJ_l2i, zI_add, zI_sub, zI_mul, zI_neg, ↓Option.bind_some]); simp (disch := (first | assumption | exact tI_rg _ | omega | exact uR_at | exact row_ne hF (by decide) | exact row_ne (row_ne hF (by decide)) (by decide) | exact SnS_18 | exact SnS_30 | exact LdS_44 | exact LdS_46)) only [q_289_48, q_289_79, ↓cc_213t hI, ↓cc_213f hI, ↓cc_219t hI, ↓cc_219f hI, ↓cc_188t, ↓cc_188f, ↓cc_189, zI_i2l, hF, ↓c285, ↓c286, cmpJ_lt, hk0, ↓cc_210 hI, ↓cc_188, ↓n_cJ, ↓c287, s1, ↓n_rd, ↓n_al, ↓n_cI, ↓n_cJ, li_0, li_1, li_5, li_12, li_48, li_210, lj_0, lj_1, lj_5, lj_12, zJ_add, zJ_sub, zJ_mul, zJ_neg, zJ_l2i, tJ_zJ, zI_add, zI_sub, zI_mul, zI_neg, ↓Option.bind_some, ↓g12_34, ↓g12_41, ↓p12_5, ↓al_235, ↓as_235, zIt2, uR_at, uR_ne, uR_uR, uC_uC, uC_at, ↓reduceIte, decide_eq_true_eq, leT, leF, ltT, ltF, eqT, eqF, ne_eq, not_true_eq_false, not_false_eq_true, Bool.false_eq_true, tI_zI]
        · rw [hkw.2.1 5 (by omega) (by omega), uR_at, uC_at, ha]
      · have ha : a_row K x k y = (0, -1) := (if_pos c1).trans (by
          by_cases c4 : 0 ≤ k ∧ 0 ≤ y ∧ tI (K 5) ≤ 14
          · rw [if_pos c4, show plT K (tI (K 5)).toNat x (lfK K) k y.toNat = -1 from if_neg (fun z => c3 ⟨c4.1, c4.2.1, by have := z.2; omega⟩)]
          · rw [if_neg c4])
        refine ⟨(uR F 217 (uC (F 217) 5 (zI 0))), G, ?_, by rw [uR_at, uC_at, ha], KeepM_c⟩
        rw [ha]
        show (_ : ResP) = some (Sum.inl (some (.int (zI (-1)))), mk E (uR F 217 (uC (F 217) 5 (zI 0))) G)
        obtain ⟨e, rfl⟩ : ∃ e, d = e + 1 := ⟨d - 1, by omega⟩
        have hin : callP MP (e + 1) 289 [.ref 217, .int (zI x), .long (zJ k), .int (zI y)] (mk E F G) = runP MP e 289 (0, [some (.ref 217), some (.int (zI x)), some (.long (zJ k)), none, some (.int (zI y))], [], mk E F G) := into_eq (by omega) hM_289 (rcv_mk rfl (by decide)) rfl
        have c285 : ∀ {kk : Int → HeapP → ResP} {kx : Nat → HeapP → ResP}, cT (callP MP e 285 [.ref 217] (mk E (uR F 217 (uC (F 217) 5 (zI 0))) G)) kk kx = kk 0 (mk E (uR F 217 (uC (F 217) 5 (zI 0))) G) := fun {kk kx} => by rw [cc_285 hI f218 (by omega), if_pos c2]
        rw [hin]
        by_cases c4 : k < 0
        · rw [q_289_0]; (try simp only [↓n_rd, ↓n_al, ↓n_cI, ↓n_cJ, li_0, li_1, li_5, li_12, li_48, li_210, lj_0, lj_1, lj_5, lj_12, zJ_add, zJ_sub, zJ_mul, zJ_neg, zJ_l2i, zI_add, zI_sub, zI_mul, zI_neg, ↓Option.bind_some]); simp (disch := (first | assumption | exact tI_rg _ | omega | exact uR_at | exact row_ne hF (by decide) | exact row_ne (row_ne hF (by decide)) (by decide) | exact SnS_18 | exact SnS_30 | exact LdS_44 | exact LdS_46)) only [q_289_48, q_289_79, ↓cc_213t hI, ↓cc_213f hI, ↓cc_219t hI, ↓cc_219f hI, ↓cc_188t, ↓cc_188f, ↓cc_189, zI_i2l, hF, ↓c285, cmpJ_lt, c4, ↓n_rd, ↓n_al, ↓n_cI, ↓n_cJ, li_0, li_1, li_5, li_12, li_48, li_210, lj_0, lj_1, lj_5, lj_12, zJ_add, zJ_sub, zJ_mul, zJ_neg, zJ_l2i, tJ_zJ, zI_add, zI_sub, zI_mul, zI_neg, ↓Option.bind_some, ↓g12_34, ↓g12_41, ↓p12_5, ↓al_235, ↓as_235, zIt2, uR_at, uR_ne, uR_uR, uC_uC, uC_at, ↓reduceIte, decide_eq_true_eq, leT, leF, ltT, ltF, eqT, eqF, ne_eq, not_true_eq_false, not_false_eq_true, Bool.false_eq_true, tI_zI]
        · have c5 : ¬ (0 ≤ y ∧ y ≤ tI (K 5)) := fun z => c3 ⟨by omega, z⟩
          rw [q_289_0]; (try simp only [↓n_rd, ↓n_al, ↓n_cI, ↓n_cJ, li_0, li_1, li_5, li_12, li_48, li_210, lj_0, lj_1, lj_5, lj_12, zJ_add, zJ_sub, zJ_mul, zJ_neg, zJ_l2i, zI_add, zI_sub, zI_mul, zI_neg, ↓Option.bind_some]); simp (disch := (first | assumption | exact tI_rg _ | omega | exact uR_at | exact row_ne hF (by decide) | exact row_ne (row_ne hF (by decide)) (by decide) | exact SnS_18 | exact SnS_30 | exact LdS_44 | exact LdS_46)) only [q_289_48, q_289_79, ↓cc_213t hI, ↓cc_213f hI, ↓cc_219t hI, ↓cc_219f hI, ↓cc_188t, ↓cc_188f, ↓cc_189, zI_i2l, hF, ↓c285, cmpJ_lt, c4, ↓cc_210 hI, ↓cc_188, ↓n_rd, ↓n_al, ↓n_cI, ↓n_cJ, li_0, li_1, li_5, li_12, li_48, li_210, lj_0, lj_1, lj_5, lj_12, zJ_add, zJ_sub, zJ_mul, zJ_neg, zJ_l2i, tJ_zJ, zI_add, zI_sub, zI_mul, zI_neg, ↓Option.bind_some, ↓g12_34, ↓g12_41, ↓p12_5, ↓al_235, ↓as_235, zIt2, uR_at, uR_ne, uR_uR, uC_uC, uC_at, ↓reduceIte, decide_eq_true_eq, leT, leF, ltT, ltF, eqT, eqF, ne_eq, not_true_eq_false, not_false_eq_true, Bool.false_eq_true, tI_zI]
    · have ha : a_row K x k y = (0, -1) := (if_pos c1).trans (by rw [if_neg (fun z => c2 z.2.2)])
      refine ⟨(uR F 217 (uC (F 217) 5 (zI 0))), G, ?_, by rw [uR_at, uC_at, ha], KeepM_c⟩
      rw [ha]
      show (_ : ResP) = some (Sum.inl (some (.int (zI (-1)))), mk E (uR F 217 (uC (F 217) 5 (zI 0))) G)
      obtain ⟨e, rfl⟩ : ∃ e, d = e + 1 := ⟨d - 1, by omega⟩
      have hin : callP MP (e + 1) 289 [.ref 217, .int (zI x), .long (zJ k), .int (zI y)] (mk E F G) = runP MP e 289 (0, [some (.ref 217), some (.int (zI x)), some (.long (zJ k)), none, some (.int (zI y))], [], mk E F G) := into_eq (by omega) hM_289 (rcv_mk rfl (by decide)) rfl
      have c285 : ∀ {kk : Int → HeapP → ResP} {kx : Nat → HeapP → ResP}, cT (callP MP e 285 [.ref 217] (mk E (uR F 217 (uC (F 217) 5 (zI 0))) G)) kk kx = kk 1 (mk E (uR F 217 (uC (F 217) 5 (zI 0))) G) := fun {kk kx} => by rw [cc_285 hI f218 (by omega), if_neg c2]
      rw [hin]
      rw [q_289_0]; (try simp only [↓n_rd, ↓n_al, ↓n_cI, ↓n_cJ, li_0, li_1, li_5, li_12, li_48, li_210, lj_0, lj_1, lj_5, lj_12, zJ_add, zJ_sub, zJ_mul, zJ_neg, zJ_l2i, zI_add, zI_sub, zI_mul, zI_neg, ↓Option.bind_some]); simp (disch := (first | assumption | exact tI_rg _ | omega | exact uR_at | exact row_ne hF (by decide) | exact row_ne (row_ne hF (by decide)) (by decide) | exact SnS_18 | exact SnS_30 | exact LdS_44 | exact LdS_46)) only [q_289_48, q_289_79, ↓cc_213t hI, ↓cc_213f hI, ↓cc_219t hI, ↓cc_219f hI, ↓cc_188t, ↓cc_188f, ↓cc_189, zI_i2l, hF, ↓c285, ↓n_rd, ↓n_al, ↓n_cI, ↓n_cJ, li_0, li_1, li_5, li_12, li_48, li_210, lj_0, lj_1, lj_5, lj_12, zJ_add, zJ_sub, zJ_mul, zJ_neg, zJ_l2i, tJ_zJ, zI_add, zI_sub, zI_mul, zI_neg, ↓Option.bind_some, ↓g12_34, ↓g12_41, ↓p12_5, ↓al_235, ↓as_235, zIt2, uR_at, uR_ne, uR_uR, uC_uC, uC_at, ↓reduceIte, decide_eq_true_eq, leT, leF, ltT, ltF, eqT, eqF, ne_eq, not_true_eq_false, not_false_eq_true, Bool.false_eq_true, tI_zI]
  · have ha : a_row K x k y = (1, 0) := if_neg c1
    refine ⟨uR F 217 (uC (F 217) 5 (zI 1)), G, ?_, by rw [uR_at, uC_at, ha], KeepM_c⟩
    rw [ha]
    show (_ : ResP) = some (Sum.inl (some (.int (zI 0))), mk E (uR F 217 (uC (F 217) 5 (zI 1))) G)
    refine into (D := 22) (by omega) hM_289 (rcv_mk rfl (by decide)) rfl fun d hd => ?_
    show runP MP d 289 (0, [some (.ref 217), some (.int (zI x)), some (.long (zJ k)), none, some (.int (zI y))], [], _) = _
    rw [q_289_0]; (try simp only [↓n_rd, ↓n_al, ↓n_cI, ↓n_cJ, li_0, li_1, li_5, li_12, li_48, li_210, lj_0, lj_1, lj_5, lj_12, zJ_add, zJ_sub, zJ_mul, zJ_neg, zJ_l2i, zI_add, zI_sub, zI_mul, zI_neg, ↓Option.bind_some]); simp (disch := (first | assumption | exact tI_rg _ | omega | exact uR_at | exact row_ne hF (by decide) | exact row_ne (row_ne hF (by decide)) (by decide) | exact SnS_18 | exact SnS_30 | exact LdS_44 | exact LdS_46)) only [q_289_48, q_289_79, ↓cc_213t hI, ↓cc_213f hI, ↓cc_219t hI, ↓cc_219f hI, ↓cc_188t, ↓cc_188f, ↓cc_189, zI_i2l, hF, ↓n_rd, ↓n_al, ↓n_cI, ↓n_cJ, li_0, li_1, li_5, li_12, li_48, li_210, lj_0, lj_1, lj_5, lj_12, zJ_add, zJ_sub, zJ_mul, zJ_neg, zJ_l2i, tJ_zJ, zI_add, zI_sub, zI_mul, zI_neg, ↓Option.bind_some, ↓g12_34, ↓g12_41, ↓p12_5, ↓al_235, ↓as_235, zIt2, uR_at, uR_ne, uR_uR, uC_uC, uC_at, ↓reduceIte, decide_eq_true_eq, leT, leF, ltT, ltF, eqT, eqF, ne_eq, not_true_eq_false, not_false_eq_true, Bool.false_eq_true, tI_zI]
theorem ml_sure {d : Nat} {E : EnQ} {F : Nat → Int → Int32} {G : Nat → Int → Int64} {K : Int → Int32} (hI : InvK K) (hF : F 218 = K) {x y : Int} (hx : -2147483648 ≤ x ∧ x ≤ 2147483647) (hy : y = 0 ∨ y = 1) (hd : 23 ≤ d) : ∃ F1 G1, callP MP d 291 [.ref 217, .int (zI x), .int (zI y)] (mk E F G) = some (Sum.inl (some (.int (zI (a_sure K x y).2))), mk E F1 G1) ∧ F1 217 5 = zI (a_sure K x y).1 ∧ KeepM F G F1 G1 := by
  have hA := hI.1
  have h5 := hI.1.2.2.2.2.2.1
  have h4 := hI.1.2.2.2.2.1
  have f218 : (uR F 217 (uC (F 217) 5 (zI 0))) 218 = K := (uR_ne (by decide)).trans hF
  by_cases c1 : 0 ≤ x ∧ x < tI (K 1)
  · by_cases c2 : tI (K 5) ≤ 14
    · obtain ⟨F1, G1, r1, r2, r3, r4, -⟩ := ct_287 (d := d - 1) (E := E) (F := llF (uR F 217 (uC (F 217) 5 (zI 0))) K) (G := G) (lf := lfK K) (k := (tI (K 5)).toNat) (u := x) (wt := -1) hI (ll_218 f218) llF_233 (llF_35 hI) (lfK_rg hI) (by omega) c1 (by omega) (by omega)
      have hkw := (llF_w (F := (uR F 217 (uC (F 217) 5 (zI 0)))) (G := G) (K := K)).tr r2
      rw [if_neg (by omega)] at r1
      obtain ⟨s1, s2, s3, s4, s5, s6⟩ := r4 (by omega)
      have ha : a_sure K x y = (0, if y = 0 then suZ (hL1 K x) (rwN K x) else suZ (hF1 K x) (rwN K x)) := (if_pos c1).trans (by rw [if_pos c2])
      refine ⟨F1, G1, ?_, ?_, (KeepM_c (c := 0)).tr hkw.m⟩
      · rw [ha]
        show (_ : ResP) = some (Sum.inl (some (.int (zI (if y = 0 then suZ (hL1 K x) (rwN K x) else suZ (hF1 K x) (rwN K x))))), mk E F1 G1)
        obtain ⟨e, rfl⟩ : ∃ e, d = e + 1 := ⟨d - 1, by omega⟩
        have hin : callP MP (e + 1) 291 [.ref 217, .int (zI x), .int (zI y)] (mk E F G) = runP MP e 291 (0, [some (.ref 217), some (.int (zI x)), some (.int (zI y))], [], mk E F G) := into_eq (by omega) hM_291 (rcv_mk rfl (by decide)) rfl
        have hbd : 0 ≤ rwN K x ∧ rwN K x ≤ 100000000000000 := rw_bd hI (k := (tI (K 5)).toNat) (by omega) (u := x) (lf := lfK K)
        have s4 : tJ (G1 217 39) = rwN K x := s4
        have c287 : ∀ {kk : Int → HeapP → ResP} {kx : Nat → HeapP → ResP}, cJT (callP MP e 287 [.ref 217, .int (zI x), .long (zJ (-1))] (mk E (llF (uR F 217 (uC (F 217) 5 (zI 0))) K) G)) kk kx = kk (rwN K x) (mk E F1 G1) := fun {kk kx} => cJT_ret r1 (by omega)
        have c286 : ∀ {kk : HeapP → ResP} {kx : Nat → HeapP → ResP}, cV (callP MP e 286 [.ref 217] (mk E (uR F 217 (uC (F 217) 5 (zI 0))) G)) kk kx = kk (mk E (llF (uR F 217 (uC (F 217) 5 (zI 0))) K) G) := fun {kk kx} => cc_286 hI f218 (by omega)
        have c285 : ∀ {kk : Int → HeapP → ResP} {kx : Nat → HeapP → ResP}, cT (callP MP e 285 [.ref 217] (mk E (uR F 217 (uC (F 217) 5 (zI 0))) G)) kk kx = kk 0 (mk E (uR F 217 (uC (F 217) 5 (zI 0))) G) := fun {kk kx} => by rw [cc_285 hI f218 (by omega), if_pos c2]
        have hin2 := hist_in hI (k := (tI (K 5)).toNat) (u := x) (lf := lfK K) (lfK_in hI)
        rw [hin]
        by_cases c3 : rwN K x = 0
        · rw [show suZ (hL1 K x) (rwN K x) = -1 from if_pos c3, show suZ (hF1 K x) (rwN K x) = -1 from if_pos c3, show (if y = 0 then (-1 : Int) else -1) = -1 by split <;> rfl]
          rw [q_291_0]; (try simp only [↓n_rd, ↓n_rdJ, ↓n_cI, ↓n_cJ, li_0, li_1, li_5, li_12, li_38, li_70, lj_0, lj_1, lj_5, lj_12, zJ_add, zJ_sub, zJ_mul, zJ_neg, zJ_l2i, zI_add, zI_sub, zI_mul, zI_neg, ↓Option.bind_some]); simp (disch := (first | assumption | exact tI_rg _ | omega | exact uR_at | exact row_ne hF (by decide) | exact row_ne (row_ne hF (by decide)) (by decide) | exact SnS_18 | exact SnS_30 | exact LdS_44 | exact LdS_46)) only [q_291_70, ↓cc_213t hI, ↓cc_213f hI, ↓cc_219t hI, ↓cc_219f hI, ↓cc_188t, ↓cc_188f, ↓cc_189, zI_i2l, hF, ↓c285, ↓c286, lj_m1, ↓n_cJ, ↓c287, s4, cmpJ_eq, c3, ↓n_rd, ↓n_rdJ, ↓n_cI, ↓n_cJ, li_0, li_1, li_5, li_12, li_38, li_70, lj_0, lj_1, lj_5, lj_12, zJ_add, zJ_sub, zJ_mul, zJ_neg, zJ_l2i, tJ_zJ, zI_add, zI_sub, zI_mul, zI_neg, ↓Option.bind_some, ↓g12_37, ↓g12_38, ↓g12_39, ↓p12_5, zIt2, uR_at, uR_ne, uR_uR, uC_uC, uC_at, ↓reduceIte, decide_eq_true_eq, leT, leF, ltT, ltF, eqT, eqF, ne_eq, not_true_eq_false, not_false_eq_true, Bool.false_eq_true, tI_zI]
        · by_cases c4 : y = 0
          · have e1 : suZ (hL1 K x) (rwN K x) = tI (F1 217 38) := su_eq c3 hbd.1 s6 hin2.2
            rw [if_pos c4, e1]
            rw [q_291_0]; (try simp only [↓n_rd, ↓n_rdJ, ↓n_cI, ↓n_cJ, li_0, li_1, li_5, li_12, li_38, li_70, lj_0, lj_1, lj_5, lj_12, zJ_add, zJ_sub, zJ_mul, zJ_neg, zJ_l2i, zI_add, zI_sub, zI_mul, zI_neg, ↓Option.bind_some]); simp (disch := (first | assumption | exact tI_rg _ | omega | exact uR_at | exact row_ne hF (by decide) | exact row_ne (row_ne hF (by decide)) (by decide) | exact SnS_18 | exact SnS_30 | exact LdS_44 | exact LdS_46)) only [q_291_70, ↓cc_213t hI, ↓cc_213f hI, ↓cc_219t hI, ↓cc_219f hI, ↓cc_188t, ↓cc_188f, ↓cc_189, zI_i2l, hF, ↓c285, ↓c286, lj_m1, ↓n_cJ, ↓c287, s4, cmpJ_eq, c3, c4, ↓n_rd, ↓n_rdJ, ↓n_cI, ↓n_cJ, li_0, li_1, li_5, li_12, li_38, li_70, lj_0, lj_1, lj_5, lj_12, zJ_add, zJ_sub, zJ_mul, zJ_neg, zJ_l2i, tJ_zJ, zI_add, zI_sub, zI_mul, zI_neg, ↓Option.bind_some, ↓g12_37, ↓g12_38, ↓g12_39, ↓p12_5, zIt2, uR_at, uR_ne, uR_uR, uC_uC, uC_at, ↓reduceIte, decide_eq_true_eq, leT, leF, ltT, ltF, eqT, eqF, ne_eq, not_true_eq_false, not_false_eq_true, Bool.false_eq_true, tI_zI]
          · have e1 : suZ (hF1 K x) (rwN K x) = tI (F1 217 37) := su_eq c3 hbd.1 s5 hin2.1
            rw [if_neg c4, e1]
            rw [q_291_0]; (try simp only [↓n_rd, ↓n_rdJ, ↓n_cI, ↓n_cJ, li_0, li_1, li_5, li_12, li_38, li_70, lj_0, lj_1, lj_5, lj_12, zJ_add, zJ_sub, zJ_mul, zJ_neg, zJ_l2i, zI_add, zI_sub, zI_mul, zI_neg, ↓Option.bind_some]); simp (disch := (first | assumption | exact tI_rg _ | omega | exact uR_at | exact row_ne hF (by decide) | exact row_ne (row_ne hF (by decide)) (by decide) | exact SnS_18 | exact SnS_30 | exact LdS_44 | exact LdS_46)) only [q_291_70, ↓cc_213t hI, ↓cc_213f hI, ↓cc_219t hI, ↓cc_219f hI, ↓cc_188t, ↓cc_188f, ↓cc_189, zI_i2l, hF, ↓c285, ↓c286, lj_m1, ↓n_cJ, ↓c287, s4, cmpJ_eq, c3, ↓n_rd, ↓n_rdJ, ↓n_cI, ↓n_cJ, li_0, li_1, li_5, li_12, li_38, li_70, lj_0, lj_1, lj_5, lj_12, zJ_add, zJ_sub, zJ_mul, zJ_neg, zJ_l2i, tJ_zJ, zI_add, zI_sub, zI_mul, zI_neg, ↓Option.bind_some, ↓g12_37, ↓g12_38, ↓g12_39, ↓p12_5, zIt2, uR_at, uR_ne, uR_uR, uC_uC, uC_at, ↓reduceIte, decide_eq_true_eq, leT, leF, ltT, ltF, eqT, eqF, ne_eq, not_true_eq_false, not_false_eq_true, Bool.false_eq_true, tI_zI]
      · rw [hkw.2.1 5 (by omega) (by omega), uR_at, uC_at, ha]
    · have ha : a_sure K x y = (0, -1) := (if_pos c1).trans (by rw [if_neg c2])
      refine ⟨(uR F 217 (uC (F 217) 5 (zI 0))), G, ?_, by rw [uR_at, uC_at, ha], KeepM_c⟩
      rw [ha]
      show (_ : ResP) = some (Sum.inl (some (.int (zI (-1)))), mk E (uR F 217 (uC (F 217) 5 (zI 0))) G)
      obtain ⟨e, rfl⟩ : ∃ e, d = e + 1 := ⟨d - 1, by omega⟩
      have hin : callP MP (e + 1) 291 [.ref 217, .int (zI x), .int (zI y)] (mk E F G) = runP MP e 291 (0, [some (.ref 217), some (.int (zI x)), some (.int (zI y))], [], mk E F G) := into_eq (by omega) hM_291 (rcv_mk rfl (by decide)) rfl
      have c285 : ∀ {kk : Int → HeapP → ResP} {kx : Nat → HeapP → ResP}, cT (callP MP e 285 [.ref 217] (mk E (uR F 217 (uC (F 217) 5 (zI 0))) G)) kk kx = kk 1 (mk E (uR F 217 (uC (F 217) 5 (zI 0))) G) := fun {kk kx} => by rw [cc_285 hI f218 (by omega), if_neg c2]
      rw [hin]
      rw [q_291_0]; (try simp only [↓n_rd, ↓n_rdJ, ↓n_cI, ↓n_cJ, li_0, li_1, li_5, li_12, li_38, li_70, lj_0, lj_1, lj_5, lj_12, zJ_add, zJ_sub, zJ_mul, zJ_neg, zJ_l2i, zI_add, zI_sub, zI_mul, zI_neg, ↓Option.bind_some]); simp (disch := (first | assumption | exact tI_rg _ | omega | exact uR_at | exact row_ne hF (by decide) | exact row_ne (row_ne hF (by decide)) (by decide) | exact SnS_18 | exact SnS_30 | exact LdS_44 | exact LdS_46)) only [q_291_70, ↓cc_213t hI, ↓cc_213f hI, ↓cc_219t hI, ↓cc_219f hI, ↓cc_188t, ↓cc_188f, ↓cc_189, zI_i2l, hF, ↓c285, ↓n_rd, ↓n_rdJ, ↓n_cI, ↓n_cJ, li_0, li_1, li_5, li_12, li_38, li_70, lj_0, lj_1, lj_5, lj_12, zJ_add, zJ_sub, zJ_mul, zJ_neg, zJ_l2i, tJ_zJ, zI_add, zI_sub, zI_mul, zI_neg, ↓Option.bind_some, ↓g12_37, ↓g12_38, ↓g12_39, ↓p12_5, zIt2, uR_at, uR_ne, uR_uR, uC_uC, uC_at, ↓reduceIte, decide_eq_true_eq, leT, leF, ltT, ltF, eqT, eqF, ne_eq, not_true_eq_false, not_false_eq_true, Bool.false_eq_true, tI_zI]
  · have ha : a_sure K x y = (1, 0) := if_neg c1
    refine ⟨uR F 217 (uC (F 217) 5 (zI 1)), G, ?_, by rw [uR_at, uC_at, ha], KeepM_c⟩
    rw [ha]
    show (_ : ResP) = some (Sum.inl (some (.int (zI 0))), mk E (uR F 217 (uC (F 217) 5 (zI 1))) G)
    refine into (D := 22) (by omega) hM_291 (rcv_mk rfl (by decide)) rfl fun d hd => ?_
    show runP MP d 291 (0, [some (.ref 217), some (.int (zI x)), some (.int (zI y))], [], _) = _
    rw [q_291_0]; (try simp only [↓n_rd, ↓n_rdJ, ↓n_cI, ↓n_cJ, li_0, li_1, li_5, li_12, li_38, li_70, lj_0, lj_1, lj_5, lj_12, zJ_add, zJ_sub, zJ_mul, zJ_neg, zJ_l2i, zI_add, zI_sub, zI_mul, zI_neg, ↓Option.bind_some]); simp (disch := (first | assumption | exact tI_rg _ | omega | exact uR_at | exact row_ne hF (by decide) | exact row_ne (row_ne hF (by decide)) (by decide) | exact SnS_18 | exact SnS_30 | exact LdS_44 | exact LdS_46)) only [q_291_70, ↓cc_213t hI, ↓cc_213f hI, ↓cc_219t hI, ↓cc_219f hI, ↓cc_188t, ↓cc_188f, ↓cc_189, zI_i2l, hF, ↓n_rd, ↓n_rdJ, ↓n_cI, ↓n_cJ, li_0, li_1, li_5, li_12, li_38, li_70, lj_0, lj_1, lj_5, lj_12, zJ_add, zJ_sub, zJ_mul, zJ_neg, zJ_l2i, tJ_zJ, zI_add, zI_sub, zI_mul, zI_neg, ↓Option.bind_some, ↓g12_37, ↓g12_38, ↓g12_39, ↓p12_5, zIt2, uR_at, uR_ne, uR_uR, uC_uC, uC_at, ↓reduceIte, decide_eq_true_eq, leT, leF, ltT, ltF, eqT, eqF, ne_eq, not_true_eq_false, not_false_eq_true, Bool.false_eq_true, tI_zI]
theorem ml_starts {d : Nat} {E : EnQ} {F : Nat → Int → Int32} {G : Nat → Int → Int64} {K : Int → Int32} (hI : InvK K) (hF : F 218 = K) (hd : 23 ≤ d) : ∃ F1 G1, callP MP d 290 [.ref 217] (mk E F G) = some (Sum.inl (some (.int (zI (a_starts K)))), mk E F1 G1) ∧ F1 217 5 = zI 0 ∧ KeepM F G F1 G1 := by
  have hb1 := hI.1.2.1
  have h5 := hI.1.2.2.2.2.2.1
  have h4 := hI.1.2.2.2.2.1
  have f218 : (uR F 217 (uC (F 217) 5 (zI 0))) 218 = K := (uR_ne (by decide)).trans hF
  by_cases c2 : tI (K 5) ≤ 14
  · have ha : a_starts K = ((orN (stB K) (tI (K 1)).toNat : Nat) : Int) := if_pos c2
    obtain ⟨e, rfl⟩ : ∃ e, d = e + 1 := ⟨d - 1, by omega⟩
    have hin : callP MP (e + 1) 290 [.ref 217] (mk E F G) = runP MP e 290 (0, [some (.ref 217), none, none], [], mk E F G) := into_eq (by omega) hM_290 (rcv_mk rfl (by decide)) rfl
    have c285 : ∀ {kk : Int → HeapP → ResP} {kx : Nat → HeapP → ResP}, cT (callP MP e 285 [.ref 217] (mk E (uR F 217 (uC (F 217) 5 (zI 0))) G)) kk kx = kk 0 (mk E (uR F 217 (uC (F 217) 5 (zI 0))) G) := fun {kk kx} => by rw [cc_285 hI f218 (by omega), if_pos c2]
    have h0 : runP MP e 290 (0, [some (.ref 217), none, none], [], mk E F G) = runP MP e 290 (20, [some (.ref 217), some (.int (zI ((orN (stB K) 0 : Nat) : Int))), some (.int (zI ((0 : Nat) : Int)))], [], mk E (uR F 217 (uC (F 217) 5 (zI 0))) G) := by
      rw [show ((orN (stB K) 0 : Nat) : Int) = 0 from rfl, show ((0 : Nat) : Int) = 0 from rfl]
      rw [q_290_0]; (try simp only [↓n_rd, ↓n_cI, ↓n_cJ, li_0, li_1, li_5, li_12, li_20, li_1000, lj_0, lj_1, lj_5, lj_12, lj_1000, zJ_add, zJ_sub, zJ_mul, zJ_neg, zJ_l2i, zI_add, zI_sub, zI_mul, zI_neg, ↓Option.bind_some]); simp (disch := (first | assumption | exact tI_rg _ | omega | exact uR_at | exact row_ne hF (by decide) | exact row_ne (row_ne hF (by decide)) (by decide) | exact SnS_18 | exact SnS_30 | exact LdS_44 | exact LdS_46)) only [q_290_54, ↓c285, ↓n_rd, ↓n_cI, ↓n_cJ, li_0, li_1, li_5, li_12, li_20, li_1000, lj_0, lj_1, lj_5, lj_12, lj_1000, zJ_add, zJ_sub, zJ_mul, zJ_neg, zJ_l2i, tJ_zJ, zI_add, zI_sub, zI_mul, zI_neg, ↓Option.bind_some, ↓g12_41, ↓p12_5, zIt2, uR_at, uR_ne, uR_uR, uC_uC, uC_at, ↓reduceIte, decide_eq_true_eq, leT, leF, ltT, ltF, eqT, eqF, ne_eq, not_true_eq_false, not_false_eq_true, Bool.false_eq_true, tI_zI]
    have hlt : ∀ m, m ≤ (tI (K 1)).toNat → orN (stB K) m < 1024 := fun m hm => orN_lt (k := 10) (fun j hj => by
      unfold stB
      split
      · exact Nat.pow_lt_pow_right (by omega) (by omega)
      · omega)
    have hmain : ∃ F1 G1, runP MP e 290 (20, [some (.ref 217), some (.int (zI ((orN (stB K) 0 : Nat) : Int))), some (.int (zI ((0 : Nat) : Int)))], [], mk E (uR F 217 (uC (F 217) 5 (zI 0))) G) = some (Sum.inl (some (.int (zI (a_starts K)))), mk E F1 G1) ∧ KpW (uR F 217 (uC (F 217) 5 (zI 0))) G F1 G1 := by
      refine loopS (σ := (Nat → Int → Int32) × (Nat → Int → Int64)) (Post := fun rr => ∃ F1 G1, rr = some (Sum.inl (some (.int (zI (a_starts K)))), mk E F1 G1) ∧ KpW (uR F 217 (uC (F 217) 5 (zI 0))) G F1 G1)
        (fun j s => runP MP e 290 (20, [some (.ref 217), some (.int (zI ((orN (stB K) j : Nat) : Int))), some (.int (zI (j : Int)))], [], mk E s.1 s.2))
        (fun j s => KpW (uR F 217 (uC (F 217) 5 (zI 0))) G s.1 s.2) (tI (K 1)).toNat ((uR F 217 (uC (F 217) 5 (zI 0))), G) KpW_rf (fun s hs => ?_) (fun j s hj hs => ?_)
      · have g218 : s.1 218 = K := (hs.1 218 (by decide) (by decide) (by decide)).trans f218
        refine ⟨s.1, s.2, ?_, hs⟩
        rw [ha]
        have hle : tI (K 1) ≤ (((tI (K 1)).toNat : Nat) : Int) := by omega
        have c214 : ∀ {kk : Int → HeapP → ResP} {kx : Nat → HeapP → ResP}, cT (callP MP e 214 [.ref 217] (mk E s.1 s.2)) kk kx = kk (tI (K 1)) (mk E s.1 s.2) := fun {kk kx} => by rw [cc_214 hI g218 (by omega)]
        show runP MP e 290 _ = _
        rw [q_290_20]; (try simp only [↓n_rd, ↓n_cI, ↓n_cJ, li_0, li_1, li_5, li_12, li_20, li_1000, lj_0, lj_1, lj_5, lj_12, lj_1000, zJ_add, zJ_sub, zJ_mul, zJ_neg, zJ_l2i, zI_add, zI_sub, zI_mul, zI_neg, ↓Option.bind_some]); simp (disch := (first | assumption | exact tI_rg _ | omega | exact uR_at | exact row_ne hF (by decide) | exact row_ne (row_ne hF (by decide)) (by decide) | exact SnS_18 | exact SnS_30 | exact LdS_44 | exact LdS_46)) only [q_290_0, q_290_54, ↓c214, ↓n_rd, ↓n_cI, ↓n_cJ, li_0, li_1, li_5, li_12, li_20, li_1000, lj_0, lj_1, lj_5, lj_12, lj_1000, zJ_add, zJ_sub, zJ_mul, zJ_neg, zJ_l2i, tJ_zJ, zI_add, zI_sub, zI_mul, zI_neg, ↓Option.bind_some, ↓g12_41, ↓p12_5, zIt2, uR_at, uR_ne, uR_uR, uC_uC, uC_at, ↓reduceIte, decide_eq_true_eq, leT, leF, ltT, ltF, eqT, eqF, ne_eq, not_true_eq_false, not_false_eq_true, Bool.false_eq_true, tI_zI]
      · right
        have g218 : s.1 218 = K := (hs.1 218 (by decide) (by decide) (by decide)).trans f218
        obtain ⟨F1, G1, r1, r2, r3, r4, r5⟩ := ct_287 (d := e) (E := E) (F := llF s.1 K) (G := s.2) (lf := lfK K) (k := (tI (K 5)).toNat) (u := (j : Int)) (wt := 0) hI (ll_218 g218) llF_233 (llF_35 hI) (lfK_rg hI) (by omega) (by omega) (by omega) (by omega)
        have hkw := hs.tr ((llF_w (F := s.1) (G := s.2) (K := K)).tr r2)
        have hbd : 0 ≤ NMz K (tI (K 5)).toNat (j : Int) (lfK K) ∧ NMz K (tI (K 5)).toNat (j : Int) (lfK K) ≤ 100000000000000 := rw_bd hI (k := (tI (K 5)).toNat) (by omega) (u := (j : Int)) (lf := lfK K)
        obtain ⟨V, hV⟩ : ∃ V, V = if 0 ≤ (0 : Int) ∧ 0 < NMz K (tI (K 5)).toNat (j : Int) (lfK K) then (0 : Int) + 1 else NMz K (tI (K 5)).toNat (j : Int) (lfK K) := ⟨_, rfl⟩
        rw [← hV] at r1
        have c214 : ∀ {kk : Int → HeapP → ResP} {kx : Nat → HeapP → ResP}, cT (callP MP e 214 [.ref 217] (mk E s.1 s.2)) kk kx = kk (tI (K 1)) (mk E s.1 s.2) := fun {kk kx} => by rw [cc_214 hI g218 (by omega)]
        have c286 : ∀ {kk : HeapP → ResP} {kx : Nat → HeapP → ResP}, cV (callP MP e 286 [.ref 217] (mk E s.1 s.2)) kk kx = kk (mk E (llF s.1 K) s.2) := fun {kk kx} => cc_286 hI g218 (by omega)
        have c287 : ∀ {kk : Int → HeapP → ResP} {kx : Nat → HeapP → ResP}, cJT (callP MP e 287 [.ref 217, .int (zI (j : Int)), .long (zJ 0)] (mk E (llF s.1 K) s.2)) kk kx = kk V (mk E F1 G1) := fun {kk kx} => cJT_ret r1 (by rw [hV]; split <;> omega)
        have hlj := hlt j (by omega)
        have hj2 : (j : Int) < tI (K 1) := by omega
        refine ⟨(F1, G1), hkw, ?_⟩
        show runP MP e 290 _ = runP MP e 290 _
        rw [nsucc, orN_succ]
        by_cases c : 0 < rwN K j
        · have s1 := (r5 ⟨by omega, c⟩).1
          have hor := orZ (orN (stB K) j) (bitN (j : Int))
          rw [show stB K j = bitN (j : Int) from if_pos c]
          rw [q_290_20]; (try simp only [↓n_rd, ↓n_cI, ↓n_cJ, li_0, li_1, li_5, li_12, li_20, li_1000, lj_0, lj_1, lj_5, lj_12, lj_1000, zJ_add, zJ_sub, zJ_mul, zJ_neg, zJ_l2i, zI_add, zI_sub, zI_mul, zI_neg, ↓Option.bind_some]); simp (disch := (first | assumption | exact tI_rg _ | omega | exact uR_at | exact row_ne hF (by decide) | exact row_ne (row_ne hF (by decide)) (by decide) | exact SnS_18 | exact SnS_30 | exact LdS_44 | exact LdS_46)) only [q_290_0, q_290_54, ↓c214, ↓c286, ↓n_cJ, ↓c287, s1, shlB, hor, ↓n_rd, ↓n_cI, ↓n_cJ, li_0, li_1, li_5, li_12, li_20, li_1000, lj_0, lj_1, lj_5, lj_12, lj_1000, zJ_add, zJ_sub, zJ_mul, zJ_neg, zJ_l2i, tJ_zJ, zI_add, zI_sub, zI_mul, zI_neg, ↓Option.bind_some, ↓g12_41, ↓p12_5, zIt2, uR_at, uR_ne, uR_uR, uC_uC, uC_at, ↓reduceIte, decide_eq_true_eq, leT, leF, ltT, ltF, eqT, eqF, ne_eq, not_true_eq_false, not_false_eq_true, Bool.false_eq_true, tI_zI]
        · have s1 := (r4 (fun z => c z.2)).1
          have hor := orZ (orN (stB K) j) 0
          rw [Nat.or_zero] at hor
          have hor : zI ((orN (stB K) j : Nat) : Int) ||| zI 0 = zI ((orN (stB K) j : Nat) : Int) := hor
          rw [show stB K j = 0 from if_neg c, Nat.or_zero]
          rw [q_290_20]; (try simp only [↓n_rd, ↓n_cI, ↓n_cJ, li_0, li_1, li_5, li_12, li_20, li_1000, lj_0, lj_1, lj_5, lj_12, lj_1000, zJ_add, zJ_sub, zJ_mul, zJ_neg, zJ_l2i, zI_add, zI_sub, zI_mul, zI_neg, ↓Option.bind_some]); simp (disch := (first | assumption | exact tI_rg _ | omega | exact uR_at | exact row_ne hF (by decide) | exact row_ne (row_ne hF (by decide)) (by decide) | exact SnS_18 | exact SnS_30 | exact LdS_44 | exact LdS_46)) only [q_290_0, q_290_54, ↓c214, ↓c286, ↓n_cJ, ↓c287, s1, hor, ↓n_rd, ↓n_cI, ↓n_cJ, li_0, li_1, li_5, li_12, li_20, li_1000, lj_0, lj_1, lj_5, lj_12, lj_1000, zJ_add, zJ_sub, zJ_mul, zJ_neg, zJ_l2i, tJ_zJ, zI_add, zI_sub, zI_mul, zI_neg, ↓Option.bind_some, ↓g12_41, ↓p12_5, zIt2, uR_at, uR_ne, uR_uR, uC_uC, uC_at, ↓reduceIte, decide_eq_true_eq, leT, leF, ltT, ltF, eqT, eqF, ne_eq, not_true_eq_false, not_false_eq_true, Bool.false_eq_true, tI_zI]
    obtain ⟨F1, G1, r1, r2⟩ := hmain
    exact ⟨F1, G1, by rw [hin, h0, r1], by rw [r2.2.1 5 (by omega) (by omega), uR_at, uC_at], (KeepM_c (c := 0)).tr r2.m⟩
  · have ha : a_starts K = -1000 := if_neg c2
    refine ⟨(uR F 217 (uC (F 217) 5 (zI 0))), G, ?_, by rw [uR_at, uC_at], KeepM_c⟩
    rw [ha]
    obtain ⟨e, rfl⟩ : ∃ e, d = e + 1 := ⟨d - 1, by omega⟩
    have hin : callP MP (e + 1) 290 [.ref 217] (mk E F G) = runP MP e 290 (0, [some (.ref 217), none, none], [], mk E F G) := into_eq (by omega) hM_290 (rcv_mk rfl (by decide)) rfl
    have c285 : ∀ {kk : Int → HeapP → ResP} {kx : Nat → HeapP → ResP}, cT (callP MP e 285 [.ref 217] (mk E (uR F 217 (uC (F 217) 5 (zI 0))) G)) kk kx = kk 1 (mk E (uR F 217 (uC (F 217) 5 (zI 0))) G) := fun {kk kx} => by rw [cc_285 hI f218 (by omega), if_neg c2]
    rw [hin]
    rw [q_290_0]; (try simp only [↓n_rd, ↓n_cI, ↓n_cJ, li_0, li_1, li_5, li_12, li_20, li_1000, lj_0, lj_1, lj_5, lj_12, lj_1000, zJ_add, zJ_sub, zJ_mul, zJ_neg, zJ_l2i, zI_add, zI_sub, zI_mul, zI_neg, ↓Option.bind_some]); simp (disch := (first | assumption | exact tI_rg _ | omega | exact uR_at | exact row_ne hF (by decide) | exact row_ne (row_ne hF (by decide)) (by decide) | exact SnS_18 | exact SnS_30 | exact LdS_44 | exact LdS_46)) only [q_290_54, ↓c285, ↓n_rd, ↓n_cI, ↓n_cJ, li_0, li_1, li_5, li_12, li_20, li_1000, lj_0, lj_1, lj_5, lj_12, lj_1000, zJ_add, zJ_sub, zJ_mul, zJ_neg, zJ_l2i, tJ_zJ, zI_add, zI_sub, zI_mul, zI_neg, ↓Option.bind_some, ↓g12_41, ↓p12_5, zIt2, uR_at, uR_ne, uR_uR, uC_uC, uC_at, ↓reduceIte, decide_eq_true_eq, leT, leF, ltT, ltF, eqT, eqF, ne_eq, not_true_eq_false, not_false_eq_true, Bool.false_eq_true, tI_zI]
end S94zzzzp
