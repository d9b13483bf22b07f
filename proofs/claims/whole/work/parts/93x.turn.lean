/-! turns, on both sides -/
section S93x
set_option linter.unusedVariables false
set_option linter.unusedSimpArgs false
theorem mt_step {d : Nat} {E : EnQ} {F : Nat → Int → Int32} {G : Nat → Int → Int64} {K : Int → Int32} (hI : InvK K) (hF : F 218 = K) (hc : tI (F 217 18) = 0) {n : Int} {x : Nat} (hx : (x : Int) < tI (K 3)) (hn : 0 ≤ n ∧ n ≤ 100) (hst : stepsZ K < 2000000000) (hd : 3 ≤ d) (z : Option Value) :
    ∃ z', runP MP d 267 (4, [some (.ref 217), some (.int (zI n)), some (.int (zI (x : Int))), z], [], mk E F G) = runP MP d 267 (4, [some (.ref 217), some (.int (zI (n + (stepsZ (trn1 K x) - stepsZ K)))), some (.int (zI ((x : Int) + 1))), z'], [], mk E (uR F 218 (trn1 K x)) G) := by
  have hxx : 0 ≤ (x : Int) ∧ (x : Int) < tI (K 3) := ⟨by omega, hx⟩
  obtain ⟨i1, i2, i3⟩ := trn1_inv hI hxx hst
  obtain ⟨b0, b1, b2, b3, b4, b5, b6, b7, b8, b9⟩ := hI.1
  obtain ⟨g1, g2, g3, g4, g5, g6⟩ := hI.2.2.1 (x : Int) (by omega) (by omega)
  rw [i2]
  by_cases e : tI (K (170 + 9 * (x : Int))) = 0
  · refine ⟨z, ?_⟩
    have et : trn1 K (x : Int) = K := if_pos e
    have h0 : mk E (uR F 218 K) G = mk E F G := by rw [← hF, uR_self]
    rw [et, if_neg (fun q => q.1 e), h0, show n + (stepsZ K + 0 - stepsZ K) = n by omega]
    rw [q_267_4]; (try simp only [↓n_al, ↓n_irem, ↓n_cI, li_0, li_1, li_4, li_9, li_12, li_170, li_206, lj_0, lj_1, lj_4, lj_9, lj_12, zJ_add, zJ_sub, zJ_mul, zJ_neg, zJ_l2i, zI_add, zI_sub, zI_mul, zI_neg, ↓Option.bind_some]); simp (disch := (first | assumption | exact tI_rg _ | omega | exact uR_at | exact row_ne hF (by decide) | exact row_ne (row_ne hF (by decide)) (by decide) | exact SnS_18 | exact SnS_30 | exact LdS_44 | exact LdS_46)) only [q_267_0, q_267_101, ↓cc_220 hI, ↓cc_268 hI, Int.add_zero, ↓n_al, ↓n_irem, ↓n_cI, ↓b_irem, li_0, li_1, li_4, li_9, li_12, li_170, li_206, lj_0, lj_1, lj_4, lj_9, lj_12, zJ_add, zJ_sub, zJ_mul, zJ_neg, zJ_l2i, tJ_zJ, zI_add, zI_sub, zI_mul, zI_neg, ↓Option.bind_some, ↓g12_0, ↓al_218, ↓as_218, zIt2, uR_at, uR_ne, uR_uR, uC_uC, uC_at, ↓reduceIte, decide_eq_true_eq, leT, leF, ltT, ltF, eqT, eqF, ne_eq, not_true_eq_false, not_false_eq_true, Bool.false_eq_true, tI_zI]
  · have hn2 := nxt_rg hI (x := (x : Int)) (by omega) e
    have hnI := InvK_next hI (by omega) hn2
    have hw := why_set (K := K) (j := 206 + (x : Int)) (x := (x : Int)) (p := btP K x) (z := zI (nxtZ K x)) b2 b3.2 (by omega)
    have hs := steps_set (K := K) (j := 206 + (x : Int)) (z := zI (nxtZ K x)) b3.2 (by omega)
    have hp := g2 (tI (K (206 + (x : Int)))) (by omega) (by omega)
    have e171 : 170 + 9 * (x : Int) + 1 + tI (K (206 + (x : Int))) = 171 + 9 * (x : Int) + tI (K (206 + (x : Int))) := by omega
    have ebt : tI (K (171 + 9 * (x : Int) + tI (K (206 + (x : Int))))) = btP K x := rfl
    have enx : (tI (K (206 + (x : Int))) + 1) % tI (K (170 + 9 * (x : Int))) = nxtZ K x := rfl
    rw [ebt] at hp
    refine ⟨some (.int (zI (btP K x))), ?_⟩
    have h227 : ∀ {kk : Int → HeapP → ResP} {kx : Nat → HeapP → ResP}, cT (callP MP d 227 [.ref 217, .long (zJ (x : Int)), .long (zJ (btP K x))] (mk E (uR F 218 (uC K (206 + (x : Int)) (zI (nxtZ K x)))) G)) kk kx = kk (whyZ K x (btP K x)) (mk E (uR F 218 (uC K (206 + (x : Int)) (zI (nxtZ K x)))) G) := fun {kk kx} => by
      rw [cc_227 hnI uR_at (by omega) (by omega) (by omega), hw]
    by_cases g : whyZ K x (btP K x) = 0
    · have h230 : ∀ {kk : HeapP → ResP} {kx : Nat → HeapP → ResP}, cV (callP MP d 230 [.ref 217, .int (zI (x : Int)), .int (zI (btP K x))] (mk E (uR F 218 (uC K (206 + (x : Int)) (zI (nxtZ K x)))) G)) kk kx = kk (mk E (uR F 218 (trn1 K x)) G) := fun {kk kx} => by
        rw [cc_230 hnI uR_at (c := false) (by rw [uR_ne (by decide)]; exact hc) (by rw [hw]; exact g) (by rw [hs]; exact hst) (by omega), uR_uR]
        have et : trn1 K (x : Int) = goK false (uC K (206 + (x : Int)) (zI (nxtZ K x))) x (btP K x) := by unfold trn1; rw [if_neg e, if_pos g]
        rw [et]
      rw [if_pos ⟨e, g⟩, show n + (stepsZ K + 1 - stepsZ K) = n + 1 by omega]
      rw [q_267_4]; (try simp only [↓n_al, ↓n_irem, ↓n_cI, li_0, li_1, li_4, li_9, li_12, li_170, li_206, lj_0, lj_1, lj_4, lj_9, lj_12, zJ_add, zJ_sub, zJ_mul, zJ_neg, zJ_l2i, zI_add, zI_sub, zI_mul, zI_neg, ↓Option.bind_some]); simp (disch := (first | assumption | exact tI_rg _ | omega | exact uR_at | exact row_ne hF (by decide) | exact row_ne (row_ne hF (by decide)) (by decide) | exact SnS_18 | exact SnS_30 | exact LdS_44 | exact LdS_46)) only [q_267_0, q_267_101, ↓cc_220 hI, ↓cc_268 hI, hF, e171, ebt, enx, zI_i2l, ↓h227, g, ↓h230, ↓n_al, ↓n_irem, ↓n_cI, ↓b_irem, li_0, li_1, li_4, li_9, li_12, li_170, li_206, lj_0, lj_1, lj_4, lj_9, lj_12, zJ_add, zJ_sub, zJ_mul, zJ_neg, zJ_l2i, tJ_zJ, zI_add, zI_sub, zI_mul, zI_neg, ↓Option.bind_some, ↓g12_0, ↓al_218, ↓as_218, zIt2, uR_at, uR_ne, uR_uR, uC_uC, uC_at, ↓reduceIte, decide_eq_true_eq, leT, leF, ltT, ltF, eqT, eqF, ne_eq, not_true_eq_false, not_false_eq_true, Bool.false_eq_true, tI_zI]
    · have et : trn1 K (x : Int) = uC K (206 + (x : Int)) (zI (nxtZ K x)) := by unfold trn1; rw [if_neg e, if_neg g]
      have hwr : 0 ≤ whyZ K x (btP K x) ∧ whyZ K x (btP K x) ≤ 2 := by unfold whyZ; split <;> (try split) <;> omega
      rw [if_neg (fun q => g q.2), show n + (stepsZ K + 0 - stepsZ K) = n by omega, et]
      rw [q_267_4]; (try simp only [↓n_al, ↓n_irem, ↓n_cI, li_0, li_1, li_4, li_9, li_12, li_170, li_206, lj_0, lj_1, lj_4, lj_9, lj_12, zJ_add, zJ_sub, zJ_mul, zJ_neg, zJ_l2i, zI_add, zI_sub, zI_mul, zI_neg, ↓Option.bind_some]); simp (disch := (first | assumption | exact tI_rg _ | omega | exact uR_at | exact row_ne hF (by decide) | exact row_ne (row_ne hF (by decide)) (by decide) | exact SnS_18 | exact SnS_30 | exact LdS_44 | exact LdS_46)) only [q_267_0, q_267_101, ↓cc_220 hI, ↓cc_268 hI, hF, e171, ebt, enx, zI_i2l, ↓h227, ↓n_al, ↓n_irem, ↓n_cI, ↓b_irem, li_0, li_1, li_4, li_9, li_12, li_170, li_206, lj_0, lj_1, lj_4, lj_9, lj_12, zJ_add, zJ_sub, zJ_mul, zJ_neg, zJ_l2i, tJ_zJ, zI_add, zI_sub, zI_mul, zI_neg, ↓Option.bind_some, ↓g12_0, ↓al_218, ↓as_218, zIt2, uR_at, uR_ne, uR_uR, uC_uC, uC_at, ↓reduceIte, decide_eq_true_eq, leT, leF, ltT, ltF, eqT, eqF, ne_eq, not_true_eq_false, not_false_eq_true, Bool.false_eq_true, tI_zI]
theorem ct_267 {d : Nat} {E : EnQ} {F : Nat → Int → Int32} {G : Nat → Int → Int64} {K : Int → Int32} (hI : InvK K) (hF : F 218 = K) (hc : tI (F 217 18) = 0) (hst : stepsZ K < 1999999000) (hd : 4 ≤ d) : callP MP d 267 [.ref 217] (mk E F G) = some (Sum.inl (some (.int (zI (stepsZ (trnK K (tI (K 3)).toNat) - stepsZ K)))), mk E (uR F 218 (trnK K (tI (K 3)).toNat)) G) := by

  obtain ⟨b0, b1, b2, b3, b4, b5, b6, b7, b8, b9⟩ := hI.1

  refine into (D := 3) (by omega) hM_267 (rcv_mk rfl (by decide)) rfl fun d hd => ?_
  show runP MP d 267 (0, [some (.ref 217), none, none, none], [], _) = _
  rw [q_267_0]
  have h0 : mk E F G = mk E (uR F 218 (trnK K 0)) G := by show _ = mk E (uR F 218 K) G; rw [← hF, uR_self]
  rw [h0]
  refine loopS (σ := Option Value) (Post := fun r => r = some (Sum.inl (some (.int (zI (stepsZ (trnK K (tI (K 3)).toNat) - stepsZ K)))), mk E (uR F 218 (trnK K (tI (K 3)).toNat)) G))
    (fun j s => runP MP d 267 (4, [some (.ref 217), some (.int (zI (stepsZ (trnK K j) - stepsZ K))), some (.int (zI (j : Int))), s], [], mk E (uR F 218 (trnK K j)) G))
    (fun j _ => True) (tI (K 3)).toNat none trivial (fun s _ => ?_) (fun j s hj _ => ?_) |> fun h => (Eq.trans (congrArg (fun q => runP MP d 267 (4, [some (.ref 217), some (.int q), some (.int (zI 0)), none], [], mk E (uR F 218 (trnK K 0)) G)) (show zI 0 = zI (stepsZ (trnK K 0) - stepsZ K) by rw [show stepsZ (trnK K 0) - stepsZ K = 0 by show stepsZ K - stepsZ K = 0; omega])) h)
  · show runP MP d 267 _ = _
    obtain ⟨i1, i2, i3, i4⟩ := trnK_inv hI hst (tI (K 3)).toNat (by omega)
    have e3 : trnK K (tI (K 3)).toNat 3 = K 3 := i4 3 (by omega)
    rw [q_267_4]; (try simp only [↓n_al, ↓n_irem, ↓n_cI, li_0, li_1, li_4, li_9, li_12, li_170, li_206, lj_0, lj_1, lj_4, lj_9, lj_12, zJ_add, zJ_sub, zJ_mul, zJ_neg, zJ_l2i, zI_add, zI_sub, zI_mul, zI_neg, ↓Option.bind_some]); simp (disch := (first | assumption | exact tI_rg _ | omega | exact uR_at | exact row_ne hF (by decide) | exact row_ne (row_ne hF (by decide)) (by decide) | exact SnS_18 | exact SnS_30 | exact LdS_44 | exact LdS_46)) only [q_267_0, q_267_101, ↓cc_220 i1, e3, ↓n_al, ↓n_irem, ↓n_cI, ↓b_irem, li_0, li_1, li_4, li_9, li_12, li_170, li_206, lj_0, lj_1, lj_4, lj_9, lj_12, zJ_add, zJ_sub, zJ_mul, zJ_neg, zJ_l2i, tJ_zJ, zI_add, zI_sub, zI_mul, zI_neg, ↓Option.bind_some, ↓g12_0, ↓al_218, ↓as_218, zIt2, uR_at, uR_ne, uR_uR, uC_uC, uC_at, ↓reduceIte, decide_eq_true_eq, leT, leF, ltT, ltF, eqT, eqF, ne_eq, not_true_eq_false, not_false_eq_true, Bool.false_eq_true, tI_zI]
  · right
    obtain ⟨i1, i2, i3, i4⟩ := trnK_inv hI hst j (by omega)
    have e3 : trnK K j 3 = K 3 := i4 3 (by omega)
    obtain ⟨z', hz⟩ := mt_step (d := d) (E := E) (F := uR F 218 (trnK K j)) (G := G) i1 uR_at (by rw [uR_ne (by decide)]; exact hc) (n := stepsZ (trnK K j) - stepsZ K) (x := j) (by rw [e3]; omega) (by omega) (by omega) (by omega) s
    refine ⟨z', trivial, ?_⟩
    show runP MP d 267 _ = runP MP d 267 _
    rw [hz, uR_uR, nsucc, show stepsZ (trnK K j) - stepsZ K + (stepsZ (trn1 (trnK K j) j) - stepsZ (trnK K j)) = stepsZ (trnK K (j + 1)) - stepsZ K by show _ = stepsZ (trn1 (trnK K j) j) - stepsZ K; omega]
    rfl
theorem cc_267 {d : Nat} {E : EnQ} {F : Nat → Int → Int32} {G : Nat → Int → Int64} {kk : Int → HeapP → ResP} {kx : Nat → HeapP → ResP} {K : Int → Int32} (hI : InvK K) (hF : F 218 = K) (hc : tI (F 217 18) = 0) (hst : stepsZ K < 1999999000) (hd : 4 ≤ d) : cT (callP MP d 267 [.ref 217] (mk E F G)) kk kx = kk (stepsZ (trnK K (tI (K 3)).toNat) - stepsZ K) (mk E (uR F 218 (trnK K (tI (K 3)).toNat)) G) := cT_ret (by apply ct_267 <;> assumption) (by have h := trnK_inv hI hst (tI (K 3)).toNat (by have := hI.1.2.2.2.1; omega); have := hI.1.2.2.2.1; omega)
end S93x
