/-! CLASS: turn -/
section S93y
set_option linter.unusedVariables false
set_option linter.unusedSimpArgs false
theorem SnO_next {E : EnQ} {F : Nat → Int → Int32} {a : Nat} {K : Int → Int32} (hO : SnO E F a K) (hD : SepP E a) {x z : Int} (hx : 0 ≤ x ∧ x < 4) (hz : 0 ≤ z ∧ z < tI (K (170 + 9 * x))) : SnO E (uR F (a + 11) (uC (F (a + 11)) x (zI z))) a (uC K (206 + x) (zI z)) := by
  obtain ⟨hS, hP, hR, hN, hI⟩ := hO
  have lo : ∀ {j : Int}, (j < 206 ∨ 210 ≤ j) → uC K (206 + x) (zI z) j = K j := fun h => uC_ne (by omega)
  have b3 := hI.1.2.2.2.1
  obtain ⟨hD1, hD2⟩ := hD
  have fa : ∀ {b : Nat}, b ≠ a + 11 → uR F (a + 11) (uC (F (a + 11)) x (zI z)) b = F b := fun h => uR_ne h
  obtain ⟨⟨n1, n2, n3⟩, n4, n5, n6, n7⟩ := hN
  refine ⟨hS, hP, PlR_move hI (fun b hb1 hb2 => fa (by omega)) (fun j hj => lo (by omega)) hR, ⟨⟨?_, ?_, ?_⟩, ?_, ?_, ?_, ?_⟩, InvK_next hI hx hz⟩
  · rw [fa (by omega), lo (by omega)]; exact n1
  · rw [fa (by omega), lo (by omega)]; exact n2
  · rw [fa (by omega), steps_set b3.2 (by omega)]; exact n3
  · rw [fa (by omega), lo (by omega), lo (by omega), lo (by omega)]; exact n4
  · intro i i0 i1
    rw [lo (by omega)] at i1 ⊢
    have b4 := hI.1.2.2.2.2.1
    have b5 := hI.1.2.2.2.2.2.1
    rw [fa (by omega), fa (by omega), fa (by omega), lo (by omega), lo (by omega)]; exact n5 i i0 i1
  · intro i i0 i1
    rw [lo (by omega)] at i1 ⊢
    rw [fa (by omega), fa (by omega), fa (by omega), lo (by omega), lo (by omega)]; exact n6 i i0 i1
  · intro y y0 y1
    obtain ⟨z1, z2, z3⟩ := n7 y y0 y1
    rw [fa (by omega), fa (by omega), uR_at, lo (by omega), lo (by omega)]
    refine ⟨z1, z2, ?_⟩
    by_cases e : y = x
    · rw [e, uC_at, uC_at]
    · rw [uC_ne e, uC_ne (by omega)]; exact z3
theorem OthS_tr {a : Nat} {F F1 F2 : Nat → Int → Int32} (h1 : OthS a F F1) (h2 : OthS a F1 F2) : OthS a F F2 := fun b z1 z2 z3 z4 z5 z6 => (h2 b z1 z2 z3 z4 z5 z6).trans (h1 b z1 z2 z3 z4 z5 z6)
theorem OthS_rf {a : Nat} {F : Nat → Int → Int32} : OthS a F F := fun _ _ _ _ _ _ _ => rfl
theorem OthS_11 {a : Nat} {F : Nat → Int → Int32} {r : Int → Int32} : OthS a F (uR F (a + 11) r) := fun b _ _ _ _ _ z6 => uR_ne z6
theorem ct_step {d : Nat} {E : EnQ} {F : Nat → Int → Int32} {G : Nat → Int → Int64} {a : Nat} {K : Int → Int32} (hO : SnO E F a K) (hD : SepP E a) {n : Int} {x : Nat} (hx : (x : Int) < tI (K 3)) (hst : stepsZ K < 2000000000) (hd : 4 ≤ d) (z : Option Value) :
    ∃ z' F', runP MP d 72 (7, [some (.ref a), some (.int (zI n)), some (.int (zI (x : Int))), z], [], mk E F G) = runP MP d 72 (7, [some (.ref a), some (.int (zI n)), some (.int (zI ((x : Int) + 1))), z'], [], mk E F' G) ∧ SnO E F' a (trn1 K x) ∧ OthS a F F' := by
  have hO' := hO
  obtain ⟨hS, hP, hR, hN, hI⟩ := hO
  have hs := hS.1
  have hs2 := hP.1
  obtain ⟨b0, b1, b2, b3, b4, b5, b6, b7, b8, b9⟩ := hI.1
  obtain ⟨g1, g2, g3, g4, g5, g6⟩ := hI.2.2.1 (x : Int) (by omega) (by omega)
  have e3 : tI (F (rfQ E a 0) 3) = tI (K 3) := by rw [hR.1.2.2.2.1]
  have e4 : F (rfQ E a 0 + 4) (x : Int) = K (170 + 9 * (x : Int)) := hR.2.2.2.1 x (by omega) (by omega)
  have e11 : F (a + 11) (x : Int) = K (206 + (x : Int)) := (hN.2.2.2.2 x (by omega) (by omega)).2.2
  by_cases e : tI (K (170 + 9 * (x : Int))) = 0
  · have et : trn1 K (x : Int) = K := if_pos e
    refine ⟨some (.int (zI (tI (K (170 + 9 * (x : Int)))))), F, ?_, by rw [et]; exact hO', OthS_rf⟩
    rw [q_72_7]; (try simp only [↓n_rd, ↓n_al, ↓n_irem, ↓n_cI, li_0, li_1, li_2, li_3, li_5, li_7, li_9, zI_add, zI_sub, zI_mul, zI_neg, ↓Option.bind_some]); simp (disch := (first | assumption | exact tI_rg _ | omega | exact uR_at | exact row_ne hF (by decide) | exact row_ne (row_ne hF (by decide)) (by decide) | exact SnS_18 | exact SnS_30 | exact LdS_44 | exact LdS_46)) only [q_72_0, q_72_67, e3, e4, ↓n_rd, ↓n_al, ↓n_irem, ↓n_cI, ↓b_irem, li_0, li_1, li_2, li_3, li_5, li_7, li_9, zI_add, zI_sub, zI_mul, zI_neg, ↓Option.bind_some, ↓g2_3, ↓g5_3, ↓g5_9, ↓SnS_l11, ↓SnS_s11, ↓g5_0, ↓g2_11, ↓PlS_l4, ↓PlS_s4, zIt2, uR_at, uR_ne, uR_uR, uC_uC, uC_at, ↓reduceIte, decide_eq_true_eq, leT, leF, ltT, ltF, eqT, eqF, ne_eq, not_true_eq_false, not_false_eq_true, Bool.false_eq_true, tI_zI]
  · have hn2 := nxt_rg hI (x := (x : Int)) (by omega) e
    have hp := g2 (tI (K (206 + (x : Int)))) (by omega) (by omega)
    have ebt : tI (K (171 + 9 * (x : Int) + tI (K (206 + (x : Int))))) = btP K x := rfl
    have enx : (tI (K (206 + (x : Int))) + 1) % tI (K (170 + 9 * (x : Int))) = nxtZ K x := rfl
    rw [ebt] at hp
    have b33 : cT (callP MP d 33 [.ref (rfQ E a 0), .int (zI (x : Int)), .int (zI (tI (K (206 + (x : Int)))))] (mk E F G)) = fun kk kx => kk (btP K x) (mk E F G) := by
      funext kk kx
      rw [cc_33 hR hI hP (by omega) (by omega) (by omega), ebt]
    have h33 : ∀ {kk : Int → HeapP → ResP} {kx : Nat → HeapP → ResP}, cT (callP MP d 33 [.ref (rfQ E a 0), .int (zI (x : Int)), .int (zI (tI (K (206 + (x : Int)))))] (mk E F G)) kk kx = kk (btP K x) (mk E F G) := fun {kk kx} => by rw [b33]
    by_cases g : whyZ K x (btP K x) = 0
    · obtain ⟨F1, r1, o1, t1⟩ := ct_61 (d := d) (G := G) hO' hD (x := (x : Int)) (p := btP K x) (by omega) (by omega) g hst (by omega)
      have h61 : ∀ {kk : HeapP → ResP} {kx : Nat → HeapP → ResP}, cV (callP MP d 61 [.ref a, .int (zI (x : Int)), .int (zI (btP K x))] (mk E F G)) kk kx = kk (mk E F1 G) := fun {kk kx} => cV_ret r1
      have lo : ∀ {j : Int}, (169 < j ∧ j < 210) → goK false K x (btP K x) j = K j := fun h => go_lo hI (by omega) g (by omega)
      have e11' : F1 (a + 11) (x : Int) = K (206 + (x : Int)) := ((o1.2.2.2.1.2.2.2.2 x (by omega) (by omega)).2.2).trans (lo (by omega))
      have et : trn1 K (x : Int) = uC (goK false K x (btP K x)) (206 + (x : Int)) (zI (nxtZ K x)) := by unfold trn1; rw [if_neg e, if_pos g, go_set hI (by omega) g hst]
      refine ⟨some (.int (zI (tI (K (170 + 9 * (x : Int)))))), uR F1 (a + 11) (uC (F1 (a + 11)) (x : Int) (zI (nxtZ K x))), ?_, ?_, OthS_tr t1 OthS_11⟩
      · rw [q_72_7]; (try simp only [↓n_rd, ↓n_al, ↓n_irem, ↓n_cI, li_0, li_1, li_2, li_3, li_5, li_7, li_9, zI_add, zI_sub, zI_mul, zI_neg, ↓Option.bind_some]); simp (disch := (first | assumption | exact tI_rg _ | omega | exact uR_at | exact row_ne hF (by decide) | exact row_ne (row_ne hF (by decide)) (by decide) | exact SnS_18 | exact SnS_30 | exact LdS_44 | exact LdS_46)) only [q_72_0, q_72_67, e3, e4, e11, ↓h33, ↓h61, e11', enx, ↓n_rd, ↓n_al, ↓n_irem, ↓n_cI, ↓b_irem, li_0, li_1, li_2, li_3, li_5, li_7, li_9, zI_add, zI_sub, zI_mul, zI_neg, ↓Option.bind_some, ↓g2_3, ↓g5_3, ↓g5_9, ↓SnS_l11, ↓SnS_s11, ↓g5_0, ↓g2_11, ↓PlS_l4, ↓PlS_s4, zIt2, uR_at, uR_ne, uR_uR, uC_uC, uC_at, ↓reduceIte, decide_eq_true_eq, leT, leF, ltT, ltF, eqT, eqF, ne_eq, not_true_eq_false, not_false_eq_true, Bool.false_eq_true, tI_zI]
      · rw [et]; exact SnO_next o1 hD (by omega) (by rw [lo (by omega)]; exact hn2)
    · have et : trn1 K (x : Int) = uC K (206 + (x : Int)) (zI (nxtZ K x)) := by unfold trn1; rw [if_neg e, if_neg g]
      refine ⟨some (.int (zI (tI (K (170 + 9 * (x : Int)))))), uR F (a + 11) (uC (F (a + 11)) (x : Int) (zI (nxtZ K x))), ?_, ?_, OthS_11⟩
      · rw [q_72_7]; (try simp only [↓n_rd, ↓n_al, ↓n_irem, ↓n_cI, li_0, li_1, li_2, li_3, li_5, li_7, li_9, zI_add, zI_sub, zI_mul, zI_neg, ↓Option.bind_some]); simp (disch := (first | assumption | exact tI_rg _ | omega | exact uR_at | exact row_ne hF (by decide) | exact row_ne (row_ne hF (by decide)) (by decide) | exact SnS_18 | exact SnS_30 | exact LdS_44 | exact LdS_46)) only [q_72_0, q_72_67, e3, e4, e11, ↓h33, ↓cc_61n hO', enx, ↓n_rd, ↓n_al, ↓n_irem, ↓n_cI, ↓b_irem, li_0, li_1, li_2, li_3, li_5, li_7, li_9, zI_add, zI_sub, zI_mul, zI_neg, ↓Option.bind_some, ↓g2_3, ↓g5_3, ↓g5_9, ↓SnS_l11, ↓SnS_s11, ↓g5_0, ↓g2_11, ↓PlS_l4, ↓PlS_s4, zIt2, uR_at, uR_ne, uR_uR, uC_uC, uC_at, ↓reduceIte, decide_eq_true_eq, leT, leF, ltT, ltF, eqT, eqF, ne_eq, not_true_eq_false, not_false_eq_true, Bool.false_eq_true, tI_zI]
      · rw [et]; exact SnO_next hO' hD (by omega) hn2
theorem ct_72 {d : Nat} {E : EnQ} {F : Nat → Int → Int32} {G : Nat → Int → Int64} {a : Nat} {K : Int → Int32} (hO : SnO E F a K) (hD : SepP E a) (hst : stepsZ K < 1999999000) (hd : 5 ≤ d) :
    ∃ F', callP MP d 72 [.ref a] (mk E F G) = some (Sum.inl (some (.int (zI (stepsZ (trnK K (tI (K 3)).toNat) - stepsZ K)))), mk E F' G) ∧ SnO E F' a (trnK K (tI (K 3)).toNat) ∧ OthS a F F' := by
  have hO' := hO
  obtain ⟨hS, hP, hR, hN, hI⟩ := hO
  have hs := hS.1
  obtain ⟨b0, b1, b2, b3, b4, b5, b6, b7, b8, b9⟩ := hI.1
  have hsn := steps_nn hI
  have es : tI (F a 3) = stepsZ K := hN.1.2.2
  obtain ⟨e, rfl⟩ : ∃ e, d = e + 1 := ⟨d - 1, by omega⟩
  have hin : callP MP (e + 1) 72 [.ref a] (mk E F G) = runP MP e 72 (0, [some (.ref a), none, none, none], [], mk E F G) := into_eq (by omega) hM_72 (rcv_mk hs (by decide)) rfl
  rw [hin, q_72_0]
  have hq : runP MP e 72 (7, [some (.ref a), some (.int (zI (stepsZ K))), some (.int (zI 0)), none], [], mk E F G) = runP MP e 72 (7, [some (.ref a), some (.int (zI (stepsZ K))), some (.int (zI ((0 : Nat) : Int))), none], [], mk E F G) := rfl
  have hrd : ((rdI (mk E F G) 5 a 3).bind fun q1 => runP MP e 72 (7, [some (.ref a), some (.int q1), some (.int 0), none], [], mk E F G)) = runP MP e 72 (7, [some (.ref a), some (.int (zI (stepsZ K))), some (.int (zI 0)), none], [], mk E F G) := by
    simp (disch := (first | assumption | omega)) only [↓n_rd, ↓g5_3, es, li_0]
  rw [hrd, hq]
  refine loopS (σ := Option Value × (Nat → Int → Int32)) (Post := fun r => ∃ F', r = some (Sum.inl (some (.int (zI (stepsZ (trnK K (tI (K 3)).toNat) - stepsZ K)))), mk E F' G) ∧ SnO E F' a (trnK K (tI (K 3)).toNat) ∧ OthS a F F')
    (fun j s => runP MP e 72 (7, [some (.ref a), some (.int (zI (stepsZ K))), some (.int (zI (j : Int))), s.1], [], mk E s.2 G))
    (fun j s => SnO E s.2 a (trnK K j) ∧ OthS a F s.2) (tI (K 3)).toNat (none, F) ⟨hO', OthS_rf⟩ (fun s hI2 => ?_) (fun j s hj hI2 => ?_)
  · obtain ⟨o1, o2⟩ := hI2
    refine ⟨s.2, ?_, o1, o2⟩
    have o1' := o1
    obtain ⟨hS1, hP1, hR1, hN1, hI1⟩ := o1
    have hs2 := hP1.1
    obtain ⟨i1, i2, i3, i4⟩ := trnK_inv hI hst (tI (K 3)).toNat (by omega)
    have e3 : tI (s.2 (rfQ E a 0) 3) = tI (K 3) := by rw [hR1.1.2.2.2.1, i4 3 (by omega)]
    have es1 : tI (s.2 a 3) = stepsZ (trnK K (tI (K 3)).toNat) := hN1.1.2.2
    show runP MP e 72 _ = _
    rw [q_72_7]; (try simp only [↓n_rd, ↓n_al, ↓n_irem, ↓n_cI, li_0, li_1, li_2, li_3, li_5, li_7, li_9, zI_add, zI_sub, zI_mul, zI_neg, ↓Option.bind_some]); simp (disch := (first | assumption | exact tI_rg _ | omega | exact uR_at | exact row_ne hF (by decide) | exact row_ne (row_ne hF (by decide)) (by decide) | exact SnS_18 | exact SnS_30 | exact LdS_44 | exact LdS_46)) only [q_72_0, q_72_67, e3, es1, ↓n_rd, ↓n_al, ↓n_irem, ↓n_cI, ↓b_irem, li_0, li_1, li_2, li_3, li_5, li_7, li_9, zI_add, zI_sub, zI_mul, zI_neg, ↓Option.bind_some, ↓g2_3, ↓g5_3, ↓g5_9, ↓SnS_l11, ↓SnS_s11, ↓g5_0, ↓g2_11, ↓PlS_l4, ↓PlS_s4, zIt2, uR_at, uR_ne, uR_uR, uC_uC, uC_at, ↓reduceIte, decide_eq_true_eq, leT, leF, ltT, ltF, eqT, eqF, ne_eq, not_true_eq_false, not_false_eq_true, Bool.false_eq_true, tI_zI]
  · right
    obtain ⟨o1, o2⟩ := hI2
    obtain ⟨i1, i2, i3, i4⟩ := trnK_inv hI hst j (by omega)
    obtain ⟨z', F', r1, s1, t1⟩ := ct_step (d := e) (G := G) o1 hD (n := stepsZ K) (x := j) (by rw [i4 3 (by omega)]; omega) (by omega) (by omega) s.1
    exact ⟨(z', F'), ⟨s1, OthS_tr o2 t1⟩, r1⟩
end S93y
