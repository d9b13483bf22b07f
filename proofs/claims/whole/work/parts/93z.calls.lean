/-! CALLS: step, keep, storm, noon, rounds -/
section S93z
set_option linter.unusedVariables false
set_option linter.unusedSimpArgs false
theorem SnO_los {E : EnQ} {F : Nat → Int → Int32} {a : Nat} {K : Int → Int32} (hO : SnO E F a K) (hD : SepP E a) {n : Int} (hn : 0 ≤ n ∧ n ≤ tI (K 5)) : SnO E (uR F a (uC (F a) 2 (zI (tI (K 5) - n)))) a (losK K n) := by
  obtain ⟨hS, hP, hR, hN, hI⟩ := hO
  obtain ⟨b0, b1, b2, b3, b4, b5, b6, b7, b8, b9⟩ := hI.1
  have lo : ∀ {j : Int}, j ≠ 5 → (j < 46 ∨ 166 ≤ j) → losK K n j = K j := fun h5 h => losK_lo h5 h
  obtain ⟨hD1, hD2⟩ := hD
  have fa : ∀ {b : Nat}, b ≠ a → uR F a (uC (F a) 2 (zI (tI (K 5) - n))) b = F b := fun h => uR_ne h
  have e5 := losK_5 hn
  obtain ⟨⟨n1, n2, n3⟩, n4, n5, n6, n7⟩ := hN
  refine ⟨hS, hP, PlR_move hI (fun b hb1 hb2 => fa (by omega)) (fun j hj => lo (by omega) (by omega)) hR, ⟨⟨?_, ?_, ?_⟩, ?_, ?_, ?_, ?_⟩, InvK_los hI hn⟩
  · rw [uR_at, uC_ne (by omega), lo (by omega) (by omega)]; exact n1
  · rw [uR_at, uC_at]; exact tI_inj (by rw [e5, tI_zI (by omega)])
  · rw [uR_at, uC_ne (by omega), n3]; exact (steps_congr (lo (by omega) (by omega)) (fun y y0 y1 => lo (by omega) (by omega))).symm
  · rw [uR_at, uC_ne (by omega), e5, lo (by omega) (by omega), lo (by omega) (by omega)]
    exact ⟨n4.1, n4.2.1, by omega, n4.2.2.2⟩
  · intro i i0 i1
    rw [e5] at i1 ⊢
    rw [uR_at, uC_ne (by omega), fa (by omega), fa (by omega), losK_pr (by omega) (by omega) hn.1, losK_pr (by omega) (by omega) hn.1]
    have := n5 (i + n) (by omega) (by omega)
    rw [show tI (F a 4) - tI (K 5) + (i + n) = tI (F a 4) - (tI (K 5) - n) + i by omega] at this
    exact ⟨this.1.trans (congrArg K (by omega)), this.2.trans (congrArg K (by omega))⟩
  · intro i i0 i1
    rw [lo (by omega) (by omega)] at i1 ⊢
    rw [uR_at, uC_ne (by omega), fa (by omega), fa (by omega), lo (by omega) (by omega), lo (by omega) (by omega)]; exact n6 i i0 i1
  · intro y y0 y1
    obtain ⟨z1, z2, z3⟩ := n7 y y0 y1
    rw [fa (by omega), fa (by omega), fa (by omega), lo (by omega) (by omega), lo (by omega) (by omega), lo (by omega) (by omega)]
    exact ⟨z1, z2, z3⟩
theorem OthS_0 {a : Nat} {F : Nat → Int → Int32} {r : Int → Int32} : OthS a F (uR F a r) := fun b z1 _ _ _ _ _ => uR_ne z1
theorem losK_set4 {K : Int → Int32} {n : Int} {z : Int32} (hn : 0 ≤ n) : losK (uC K 4 z) n = uC (losK K n) 4 z := by
  have e1 : uC K 4 z 5 = K 5 := uC_ne (by omega)
  funext i
  by_cases e : i = 4
  · rw [e, uC_at, losK_lo (by omega) (by omega), uC_at]
  · rw [uC_ne e]
    unfold losK
    rw [e1]
    by_cases g : i = 5
    · rw [if_pos g, if_pos g]
    · rw [if_neg g, if_neg g]
      by_cases g1 : 46 ≤ i ∧ i < 166
      · rw [if_pos g1, if_pos g1]
        by_cases g2 : i < 46 + 2 * (tI (K 5) - n)
        · rw [if_pos g2, if_pos g2]
          rw [uC_ne (by omega)]
        · rw [if_neg g2, if_neg g2]
      · rw [if_neg g1, if_neg g1, uC_ne e]
theorem InvK_set4 {K : Int → Int32} (hI : InvK K) {n : Int} (hn : 1 ≤ n ∧ n ≤ 60 ∧ tI (K 5) ≤ n) : InvK (uC K 4 (zI n)) := by
  obtain ⟨⟨b0, b1, b2, b3, b4, b5, b6, b7, b8, b9⟩, hP, hB, r1, r2, r3, r4⟩ := hI
  have lo : ∀ {j : Int}, j ≠ 4 → uC K 4 (zI n) j = K j := fun h => uC_ne h
  have hcg : ∀ j, j = 2 ∨ (6 ≤ j ∧ j < 38) → uC K 4 (zI n) j = K j := fun j h => lo (by omega)
  have eW : ∀ i : Int, 0 ≤ i → prW (uC K 4 (zI n)) i = prW K i := fun i h0 => by unfold prW; rw [lo (by omega)]
  have eO : ∀ i : Int, 0 ≤ i → prO (uC K 4 (zI n)) i = prO K i := fun i h0 => by unfold prO; rw [lo (by omega)]
  have e4 : tI (uC K 4 (zI n) 4) = n := by rw [uC_at, tI_zI (by omega)]
  refine ⟨⟨?_, ?_, ?_, ?_, ?_, ?_, ?_, ?_, ?_, ?_⟩, InvP_congr b2 (lo (by omega)) hcg hP, InvB_congr (lo (by omega)) (lo (by omega)) (fun j h => lo (by omega)) hB, ?_, ?_, ?_, ?_⟩
  · rw [lo (by omega)]; exact b0
  · rw [lo (by omega)]; exact b1
  · rw [lo (by omega)]; exact b2
  · rw [lo (by omega)]; exact b3
  · rw [e4]; omega
  · rw [e4, lo (by omega)]; omega
  · rw [lo (by omega)]; exact b6
  · rw [lo (by omega)]; exact b7
  · rw [lo (by omega)]; exact b8
  · rw [lo (by omega), lo (by omega)]; exact b9
  · intro i i0 i1
    rw [lo (by omega)] at i1
    rw [eW i i0, eO i i0, lo (j := 2) (by omega), lo (j := 3) (by omega)]; exact r1 i i0 i1
  · intro i i0 i1
    rw [lo (by omega)] at i1
    have a1 : woW (uC K 4 (zI n)) i = woW K i := by unfold woW; rw [lo (by omega)]
    have a2 : woO (uC K 4 (zI n)) i = woO K i := by unfold woO; rw [lo (by omega)]
    rw [a1, a2, lo (j := 2) (by omega), lo (j := 3) (by omega)]; exact r2 i i0 i1
  · intro i i0 i1 hno
    rw [lo (by omega)] at i1 hno
    have hr := r1 i i0 i1
    rw [eW i i0, eO i i0, toZ_congr hcg (by omega), lo (by omega)]
    refine r3 i i0 i1 (fun j h1 h2 => ?_)
    have := hno j h1 h2
    rw [eO j (by omega), eO i i0] at this
    exact this
  · intro i j i0 hij j1 he hno
    rw [lo (by omega)] at j1
    have hr := r1 i i0 (by omega)
    have hr2 := r1 j (by omega) j1
    rw [eO i i0, eO j (by omega)] at he
    rw [eW i i0, eW j (by omega), toZ_congr hcg (by omega), fromZ_congr hcg (by omega)]
    refine r4 i j i0 hij j1 he (fun k h1 h2 => ?_)
    have := hno k h1 h2
    rw [eO k (by omega), eO i i0] at this
    exact this
theorem SnO_set4 {E : EnQ} {F : Nat → Int → Int32} {a : Nat} {K : Int → Int32} (hO : SnO E F a K) (hD : SepP E a) {n : Int} (hn : 1 ≤ n ∧ n ≤ 60 ∧ tI (K 5) ≤ n) : SnO E (uR F a (uC (F a) 1 (zI n))) a (uC K 4 (zI n)) := by
  obtain ⟨hS, hP, hR, hN, hI⟩ := hO
  have lo : ∀ {j : Int}, j ≠ 4 → uC K 4 (zI n) j = K j := fun h => uC_ne h
  obtain ⟨hD1, hD2⟩ := hD
  have fa : ∀ {b : Nat}, b ≠ a → uR F a (uC (F a) 1 (zI n)) b = F b := fun h => uR_ne h
  obtain ⟨⟨n1, n2, n3⟩, n4, n5, n6, n7⟩ := hN
  have b5 := hI.1.2.2.2.2.2.1
  refine ⟨hS, hP, PlR_move hI (fun b hb1 hb2 => fa (by omega)) (fun j hj => lo (by omega)) hR, ⟨⟨?_, ?_, ?_⟩, ?_, ?_, ?_, ?_⟩, InvK_set4 hI hn⟩
  · rw [uR_at, uC_at, uC_at]
  · rw [uR_at, uC_ne (by omega), lo (by omega)]; exact n2
  · rw [uR_at, uC_ne (by omega), n3]; exact (steps_congr (lo (by omega)) (fun y y0 y1 => lo (by omega))).symm
  · rw [uR_at, uC_ne (by omega), lo (by omega), lo (by omega), lo (by omega)]; exact n4
  · intro i i0 i1
    rw [lo (by omega)] at i1 ⊢
    rw [uR_at, uC_ne (by omega), fa (by omega), fa (by omega), lo (by omega), lo (by omega)]; exact n5 i i0 i1
  · intro i i0 i1
    rw [lo (by omega)] at i1 ⊢
    rw [uR_at, uC_ne (by omega), fa (by omega), fa (by omega), lo (by omega), lo (by omega)]; exact n6 i i0 i1
  · intro y y0 y1
    obtain ⟨z1, z2, z3⟩ := n7 y y0 y1
    rw [fa (by omega), fa (by omega), fa (by omega), lo (by omega), lo (by omega), lo (by omega)]
    exact ⟨z1, z2, z3⟩
def keepK (K : Int → Int32) (n : Int) : Int → Int32 := uC (losK K (if 0 < tI (K 5) - n then tI (K 5) - n else 0)) 4 (zI n)
theorem losK_0 {K : Int → Int32} (hI : InvK K) : tI (losK K 0 5) = tI (K 5) := by have := hI.1.2.2.2.2.2.1; rw [losK_5 (by omega)]; omega
def a_step (K : Int → Int32) (x y : Int) : Int × Int := (0, if whyZ K x y = 0 then tI (goK false K x y 5) else -(whyZ K x y))
def s_step (K : Int → Int32) (x y : Int) : Int → Int32 := if whyZ K x y = 0 then goK false K x y else K
theorem cl_step {d : Nat} {E : EnQ} {F : Nat → Int → Int32} {G : Nat → Int → Int64} {K : Int → Int32} (hO : SnO E F 18 K) (hD : SepP E 18) (hst : stepsZ K < 1999000000) {x y : Int} (hx : -2147483648 ≤ x ∧ x ≤ 2147483647) (hy : -2147483648 ≤ y ∧ y ≤ 2147483647) (hd : 5 ≤ d) : ∃ E1 F1, (E1 = E ∨ E1 = jE E) ∧ callP MP d 116 [.ref 16, .int (zI x), .int (zI y)] (mk E F G) = some (thrP [] (a_step K x y), mk E1 F1 G) ∧ SnO E F1 18 (s_step K x y) ∧ OthS 18 F F1 := by
  have hO' := hO
  obtain ⟨hS, hP, hR, hN, hI⟩ := hO
  have hs := hS.1
  have hs2 := hP.1
  obtain ⟨b0, b1, b2, b3, b4, b5, b6, b7, b8, b9⟩ := hI.1
  have e18 := bO hN
  have ha : a_step K x y = (0, if whyZ K x y = 0 then tI (goK false K x y 5) else -(whyZ K x y)) := rfl
  have hk : s_step K x y = if whyZ K x y = 0 then goK false K x y else K := rfl
  rw [show thrP [] (a_step K x y) = Sum.inl (some (.int (zI (if whyZ K x y = 0 then tI (goK false K x y 5) else -(whyZ K x y))))) by rw [ha]; rfl, hk]
  have hwr : 0 ≤ whyZ K x y ∧ whyZ K x y ≤ 2 := by unfold whyZ; split <;> (try split) <;> omega
  by_cases g : whyZ K x y = 0
  · obtain ⟨F1, r1, o1, t1⟩ := ct_61 (d := d - 1) (G := G) hO' hD hx hy g (by omega) (by omega)
    have e5 : tI (F1 18 2) = tI (goK false K x y 5) := bO o1.2.2.2.1
    rw [if_pos g, if_pos g]
    refine ⟨E, F1, Or.inl rfl, ?_, o1, t1⟩
    obtain ⟨e, rfl⟩ : ∃ e, d = e + 1 := ⟨d - 1, by omega⟩
    have r1 : callP MP e 61 [.ref 18, .int (zI x), .int (zI y)] (mk E F G) = some (Sum.inl none, mk E F1 G) := r1
    have h61 : ∀ {kk : HeapP → ResP} {kx : Nat → HeapP → ResP}, cV (callP MP e 61 [.ref 18, .int (zI x), .int (zI y)] (mk E F G)) kk kx = kk (mk E F1 G) := fun {kk kx} => cV_ret r1
    rw [into_eq (by omega) hM_116 (rcv_mk rfl (by decide)) rfl]
    show runP MP e 116 (0, [some (.ref 16), some (.int (zI x)), some (.int (zI y)), none], [], mk E F G) = _
    rw [q_116_0]; (try simp only [↓n_rd, ↓n_cI, li_0, li_2, li_4, li_5, li_60, zI_add, zI_sub, zI_mul, zI_neg, ↓Option.bind_some]); simp (disch := (first | assumption | exact tI_rg _ | omega | exact uR_at | exact row_ne hF (by decide) | exact row_ne (row_ne hF (by decide)) (by decide) | exact SnS_18 | exact SnS_30 | exact LdS_44 | exact LdS_46)) only [↓cc_60 hO', ↓h61, e5, g, ↓n_rd, ↓n_cI, li_0, li_2, li_4, li_5, li_60, zI_add, zI_sub, zI_mul, zI_neg, ↓Option.bind_some, ↓g5_2, ↓g11_4, zIt2, uR_at, uR_ne, uR_uR, uC_uC, uC_at, ↓reduceIte, decide_eq_true_eq, leT, leF, ltT, ltF, eqT, eqF, ne_eq, not_true_eq_false, not_false_eq_true, Bool.false_eq_true, tI_zI]
  · rw [if_neg g, if_neg g]
    refine ⟨E, F, Or.inl rfl, ?_, hO', OthS_rf⟩
    refine into (D := 4) (by omega) hM_116 (rcv_mk rfl (by decide)) rfl fun d hd => ?_
    show runP MP d 116 (0, [some (.ref 16), some (.int (zI x)), some (.int (zI y)), none], [], _) = _
    rw [q_116_0]; (try simp only [↓n_rd, ↓n_cI, li_0, li_2, li_4, li_5, li_60, zI_add, zI_sub, zI_mul, zI_neg, ↓Option.bind_some]); simp (disch := (first | assumption | exact tI_rg _ | omega | exact uR_at | exact row_ne hF (by decide) | exact row_ne (row_ne hF (by decide)) (by decide) | exact SnS_18 | exact SnS_30 | exact LdS_44 | exact LdS_46)) only [↓cc_60 hO', ↓n_rd, ↓n_cI, li_0, li_2, li_4, li_5, li_60, zI_add, zI_sub, zI_mul, zI_neg, ↓Option.bind_some, ↓g5_2, ↓g11_4, zIt2, uR_at, uR_ne, uR_uR, uC_uC, uC_at, ↓reduceIte, decide_eq_true_eq, leT, leF, ltT, ltF, eqT, eqF, ne_eq, not_true_eq_false, not_false_eq_true, Bool.false_eq_true, tI_zI]
theorem ml_step {d : Nat} {E : EnQ} {F : Nat → Int → Int32} {G : Nat → Int → Int64} {K : Int → Int32} (hI : InvK K) (hF : F 218 = K) (hc : tI (F 217 18) = 0) (hst : stepsZ K < 1999000000) {x y : Int} (hx : -2147483648 ≤ x ∧ x ≤ 2147483647) (hy : -2147483648 ≤ y ∧ y ≤ 2147483647) (hd : 4 ≤ d) : callP MP d 226 [.ref 217, .int (zI x), .int (zI y)] (mk E F G) = some (Sum.inl (some (.int (zI (a_step K x y).2))), mk E (uR (uR F 217 (uC (F 217) 5 (zI (a_step K x y).1))) 218 (s_step K x y)) G) := by
  obtain ⟨b0, b1, b2, b3, b4, b5, b6, b7, b8, b9⟩ := hI.1
  have hc' : ∀ r, uR F 217 (uC (F 217) 5 r) 217 18 = F 217 18 := fun r => by rw [uR_at, uC_ne (by omega)]
  have hK : ∀ {r}, uR (uR F 217 r) 218 K = uR F 217 r := fun {r} => by rw [← hF, ← (uR_ne (show (218 : Nat) ≠ 217 by decide) : uR F 217 r 218 = F 218), uR_self]
  have ha : a_step K x y = (0, if whyZ K x y = 0 then tI (goK false K x y 5) else -(whyZ K x y)) := rfl
  have hk : s_step K x y = if whyZ K x y = 0 then goK false K x y else K := rfl
  rw [ha, hk]
  show (_ : ResP) = some (Sum.inl (some (.int (zI (if whyZ K x y = 0 then tI (goK false K x y 5) else -(whyZ K x y))))), mk E (uR (uR F 217 (uC (F 217) 5 (zI 0))) 218 (if whyZ K x y = 0 then goK false K x y else K)) G)
  refine into (D := 3) (by omega) hM_226 (rcv_mk rfl (by decide)) rfl fun d hd => ?_
  show runP MP d 226 (0, [some (.ref 217), some (.int (zI x)), some (.int (zI y)), none], [], _) = _
  have hwr : 0 ≤ whyZ K x y ∧ whyZ K x y ≤ 2 := by unfold whyZ; split <;> (try split) <;> omega
  by_cases g : whyZ K x y = 0
  · rw [if_pos g, if_pos g]
    have h230 : ∀ {kk : HeapP → ResP} {kx : Nat → HeapP → ResP}, cV (callP MP d 230 [.ref 217, .int (zI x), .int (zI y)] (mk E (uR F 217 (uC (F 217) 5 (zI 0))) G)) kk kx = kk (mk E (uR (uR F 217 (uC (F 217) 5 (zI 0))) 218 (goK false K x y)) G) := fun {kk kx} => by
      rw [cc_230 hI (row_ne hF (by decide)) (c := false) (by rw [hc']; exact hc) g (by omega) (by omega)]
    rw [q_226_0]; (try simp only [↓n_cI, li_0, li_5, li_12, li_210, lj_0, lj_5, lj_12, zJ_add, zJ_sub, zJ_mul, zJ_neg, zJ_l2i, zI_add, zI_sub, zI_mul, zI_neg, ↓Option.bind_some]); simp (disch := (first | assumption | exact tI_rg _ | omega | exact uR_at | exact row_ne hF (by decide) | exact row_ne (row_ne hF (by decide)) (by decide) | exact SnS_18 | exact SnS_30 | exact LdS_44 | exact LdS_46)) only [↓cc_213t hI, ↓cc_213f hI, ↓cc_219t hI, ↓cc_219f hI, ↓cc_188t, ↓cc_188f, ↓cc_189, zI_i2l, ↓cc_227 hI, g, ↓h230, ↓cc_u210, ↓n_cI, li_0, li_5, li_12, li_210, lj_0, lj_5, lj_12, zJ_add, zJ_sub, zJ_mul, zJ_neg, zJ_l2i, tJ_zJ, zI_add, zI_sub, zI_mul, zI_neg, ↓Option.bind_some, ↓p12_5, zIt2, uR_at, uR_ne, uR_uR, uC_uC, uC_at, ↓reduceIte, decide_eq_true_eq, leT, leF, ltT, ltF, eqT, eqF, ne_eq, not_true_eq_false, not_false_eq_true, Bool.false_eq_true, tI_zI]
  · rw [if_neg g, if_neg g, hK]
    rw [q_226_0]; (try simp only [↓n_cI, li_0, li_5, li_12, li_210, lj_0, lj_5, lj_12, zJ_add, zJ_sub, zJ_mul, zJ_neg, zJ_l2i, zI_add, zI_sub, zI_mul, zI_neg, ↓Option.bind_some]); simp (disch := (first | assumption | exact tI_rg _ | omega | exact uR_at | exact row_ne hF (by decide) | exact row_ne (row_ne hF (by decide)) (by decide) | exact SnS_18 | exact SnS_30 | exact LdS_44 | exact LdS_46)) only [↓cc_213t hI, ↓cc_213f hI, ↓cc_219t hI, ↓cc_219f hI, ↓cc_188t, ↓cc_188f, ↓cc_189, zI_i2l, ↓cc_227 hI, ↓n_cI, li_0, li_5, li_12, li_210, lj_0, lj_5, lj_12, zJ_add, zJ_sub, zJ_mul, zJ_neg, zJ_l2i, tJ_zJ, zI_add, zI_sub, zI_mul, zI_neg, ↓Option.bind_some, ↓p12_5, zIt2, uR_at, uR_ne, uR_uR, uC_uC, uC_at, ↓reduceIte, decide_eq_true_eq, leT, leF, ltT, ltF, eqT, eqF, ne_eq, not_true_eq_false, not_false_eq_true, Bool.false_eq_true, tI_zI]
def a_storm (K : Int → Int32) (x : Int) : Int × Int := if 0 ≤ x ∧ x ≤ tI (K 5) then (0, tI (K 5) - x) else (1, 0)
def s_storm (K : Int → Int32) (x : Int) : Int → Int32 := if 0 ≤ x ∧ x ≤ tI (K 5) then losK K x else K
theorem cl_storm {d : Nat} {E : EnQ} {F : Nat → Int → Int32} {G : Nat → Int → Int64} {K : Int → Int32} (hO : SnO E F 18 K) (hD : SepP E 18) (hst : stepsZ K < 1999000000) {x : Int} (hx : -2147483648 ≤ x ∧ x ≤ 2147483647) (hd : 2 ≤ d) : ∃ E1 F1, (E1 = E ∨ E1 = jE E) ∧ callP MP d 132 [.ref 16, .int (zI x)] (mk E F G) = some (thrP [2] (a_storm K x), mk E1 F1 G) ∧ SnO E F1 18 (s_storm K x) ∧ OthS 18 F F1 := by
  have hO' := hO
  obtain ⟨hS, hP, hR, hN, hI⟩ := hO
  have hs := hS.1
  have hs2 := hP.1
  obtain ⟨b0, b1, b2, b3, b4, b5, b6, b7, b8, b9⟩ := hI.1
  have e18 := bO hN
  by_cases c1 : 0 ≤ x ∧ x ≤ tI (K 5)
  · have ha : a_storm K x = (0, tI (K 5) - x) := (if_pos c1).trans (rfl)
    have hk : s_storm K x = losK K x := (if_pos c1).trans (rfl)
    rw [show thrP [2] (a_storm K x) = Sum.inl (some (.int (zI (tI (K 5) - x)))) by rw [ha]; rfl, hk]
    refine ⟨E, _, Or.inl rfl, ?_, SnO_los hO' hD c1, OthS_0⟩
    refine into (D := 1) (by omega) hM_132 (rcv_mk rfl (by decide)) rfl fun d hd => ?_
    show runP MP d 132 (0, [some (.ref 16), some (.int (zI x))], [], _) = _
    rw [q_132_0]; (try simp only [↓n_rd, li_0, li_2, li_4, li_5, li_124, zI_add, zI_sub, zI_mul, zI_neg, ↓Option.bind_some]); simp (disch := (first | assumption | exact tI_rg _ | omega | exact uR_at | exact row_ne hF (by decide) | exact row_ne (row_ne hF (by decide)) (by decide) | exact SnS_18 | exact SnS_30 | exact LdS_44 | exact LdS_46)) only [↓cc_127t hO', ↓cc_127f hO', ↓cc_129t hO', ↓cc_129f hO', ↓cc_124t, ↓cc_124f, thr_eq, e18, ↓n_rd, li_0, li_2, li_4, li_5, li_124, zI_add, zI_sub, zI_mul, zI_neg, ↓Option.bind_some, ↓g5_2, ↓g11_4, ↓p5_2, zIt2, uR_at, uR_ne, uR_uR, uC_uC, uC_at, ↓reduceIte, decide_eq_true_eq, leT, leF, ltT, ltF, eqT, eqF, ne_eq, not_true_eq_false, not_false_eq_true, Bool.false_eq_true, tI_zI]
  · have ha : a_storm K x = (1, 0) := if_neg c1
    have hk : s_storm K x = K := if_neg c1
    refine ⟨jE E, F, Or.inr rfl, ?_, by rw [hk]; exact hO', OthS_rf⟩
    rw [show thrP [2] (a_storm K x) = Sum.inr 2 by rw [ha]; rfl]
    refine into (D := 1) (by omega) hM_132 (rcv_mk rfl (by decide)) rfl fun d hd => ?_
    show runP MP d 132 (0, [some (.ref 16), some (.int (zI x))], [], _) = _
    rw [q_132_0]; (try simp only [↓n_rd, li_0, li_2, li_4, li_5, li_124, zI_add, zI_sub, zI_mul, zI_neg, ↓Option.bind_some]); simp (disch := (first | assumption | exact tI_rg _ | omega | exact uR_at | exact row_ne hF (by decide) | exact row_ne (row_ne hF (by decide)) (by decide) | exact SnS_18 | exact SnS_30 | exact LdS_44 | exact LdS_46)) only [↓cc_127t hO', ↓cc_127f hO', ↓cc_129t hO', ↓cc_129f hO', ↓cc_124t, ↓cc_124f, thr_eq, e18, ↓n_rd, li_0, li_2, li_4, li_5, li_124, zI_add, zI_sub, zI_mul, zI_neg, ↓Option.bind_some, ↓g5_2, ↓g11_4, ↓p5_2, zIt2, uR_at, uR_ne, uR_uR, uC_uC, uC_at, ↓reduceIte, decide_eq_true_eq, leT, leF, ltT, ltF, eqT, eqF, ne_eq, not_true_eq_false, not_false_eq_true, Bool.false_eq_true, tI_zI]
theorem ml_storm {d : Nat} {E : EnQ} {F : Nat → Int → Int32} {G : Nat → Int → Int64} {K : Int → Int32} (hI : InvK K) (hF : F 218 = K) (hc : tI (F 217 18) = 0) (hst : stepsZ K < 1999000000) {x : Int} (hx : -2147483648 ≤ x ∧ x ≤ 2147483647) (hd : 3 ≤ d) : callP MP d 233 [.ref 217, .int (zI x)] (mk E F G) = some (Sum.inl (some (.int (zI (a_storm K x).2))), mk E (uR (uR F 217 (uC (F 217) 5 (zI (a_storm K x).1))) 218 (s_storm K x)) G) := by
  obtain ⟨b0, b1, b2, b3, b4, b5, b6, b7, b8, b9⟩ := hI.1
  have hc' : ∀ r, uR F 217 (uC (F 217) 5 r) 217 18 = F 217 18 := fun r => by rw [uR_at, uC_ne (by omega)]
  have hK : ∀ {r}, uR (uR F 217 r) 218 K = uR F 217 r := fun {r} => by rw [← hF, ← (uR_ne (show (218 : Nat) ≠ 217 by decide) : uR F 217 r 218 = F 218), uR_self]
  by_cases c1 : 0 ≤ x ∧ x ≤ tI (K 5)
  · have ha : a_storm K x = (0, tI (K 5) - x) := (if_pos c1).trans (rfl)
    have hk : s_storm K x = losK K x := (if_pos c1).trans (rfl)
    rw [ha, hk]
    show (_ : ResP) = some (Sum.inl (some (.int (zI (tI (K 5) - x)))), mk E (uR (uR F 217 (uC (F 217) 5 (zI 0))) 218 (losK K x)) G)
    refine into (D := 2) (by omega) hM_233 (rcv_mk rfl (by decide)) rfl fun d hd => ?_
    show runP MP d 233 (0, [some (.ref 217), some (.int (zI x))], [], _) = _
    have h225 : ∀ {F2 : Nat → Int → Int32} {K2 : Int → Int32} {kk : HeapP → ResP} {kx : Nat → HeapP → ResP} {n : Int}, F2 218 = K2 → 0 ≤ n ∧ n ≤ tI (K2 5) ∧ tI (K2 5) ≤ 60 → cV (callP MP d 225 [.ref 217, .int (zI n)] (mk E F2 G)) kk kx = kk (mk E (uR F2 218 (losK K2 n)) G) := fun {F2 K2 kk kx n} hF2 hn => by
      rw [cc_225 (by rw [hF2]; exact hn) (by omega), hF2]
    
    have e5 := losK_5 c1
    rw [q_233_0]; (try simp only [↓n_cI, li_0, li_1, li_5, li_12, li_210, lj_0, lj_1, lj_5, lj_12, zJ_add, zJ_sub, zJ_mul, zJ_neg, zJ_l2i, zI_add, zI_sub, zI_mul, zI_neg, ↓Option.bind_some]); simp (disch := (first | assumption | exact tI_rg _ | omega | exact uR_at | exact row_ne hF (by decide) | exact row_ne (row_ne hF (by decide)) (by decide) | exact SnS_18 | exact SnS_30 | exact LdS_44 | exact LdS_46)) only [↓cc_213t hI, ↓cc_213f hI, ↓cc_219t hI, ↓cc_219f hI, ↓cc_188t, ↓cc_188f, ↓cc_189, zI_i2l, ↓cc_210 hI, ↓h225, ↓cc_u210, e5, ↓n_cI, li_0, li_1, li_5, li_12, li_210, lj_0, lj_1, lj_5, lj_12, zJ_add, zJ_sub, zJ_mul, zJ_neg, zJ_l2i, tJ_zJ, zI_add, zI_sub, zI_mul, zI_neg, ↓Option.bind_some, ↓p12_5, zIt2, uR_at, uR_ne, uR_uR, uC_uC, uC_at, ↓reduceIte, decide_eq_true_eq, leT, leF, ltT, ltF, eqT, eqF, ne_eq, not_true_eq_false, not_false_eq_true, Bool.false_eq_true, tI_zI]
  · have ha : a_storm K x = (1, 0) := if_neg c1
    have hk : s_storm K x = K := if_neg c1
    rw [ha, hk, hK]
    show (_ : ResP) = some (Sum.inl (some (.int (zI 0))), mk E (uR F 217 (uC (F 217) 5 (zI 1))) G)
    refine into (D := 2) (by omega) hM_233 (rcv_mk rfl (by decide)) rfl fun d hd => ?_
    show runP MP d 233 (0, [some (.ref 217), some (.int (zI x))], [], _) = _
    rw [q_233_0]; (try simp only [↓n_cI, li_0, li_1, li_5, li_12, li_210, lj_0, lj_1, lj_5, lj_12, zJ_add, zJ_sub, zJ_mul, zJ_neg, zJ_l2i, zI_add, zI_sub, zI_mul, zI_neg, ↓Option.bind_some]); simp (disch := (first | assumption | exact tI_rg _ | omega | exact uR_at | exact row_ne hF (by decide) | exact row_ne (row_ne hF (by decide)) (by decide) | exact SnS_18 | exact SnS_30 | exact LdS_44 | exact LdS_46)) only [↓cc_213t hI, ↓cc_213f hI, ↓cc_219t hI, ↓cc_219f hI, ↓cc_188t, ↓cc_188f, ↓cc_189, zI_i2l, ↓cc_210 hI, ↓n_cI, li_0, li_1, li_5, li_12, li_210, lj_0, lj_1, lj_5, lj_12, zJ_add, zJ_sub, zJ_mul, zJ_neg, zJ_l2i, tJ_zJ, zI_add, zI_sub, zI_mul, zI_neg, ↓Option.bind_some, ↓p12_5, zIt2, uR_at, uR_ne, uR_uR, uC_uC, uC_at, ↓reduceIte, decide_eq_true_eq, leT, leF, ltT, ltF, eqT, eqF, ne_eq, not_true_eq_false, not_false_eq_true, Bool.false_eq_true, tI_zI]
def a_noon (K : Int → Int32) : Int × Int := (0, tI (K 5))
def s_noon (K : Int → Int32) : Int → Int32 := losK K (tI (K 5))
theorem cl_noon {d : Nat} {E : EnQ} {F : Nat → Int → Int32} {G : Nat → Int → Int64} {K : Int → Int32} (hO : SnO E F 18 K) (hD : SepP E 18) (hst : stepsZ K < 1999000000)  (hd : 1 ≤ d) : ∃ E1 F1, (E1 = E ∨ E1 = jE E) ∧ callP MP d 117 [.ref 16] (mk E F G) = some (thrP [] (a_noon K), mk E1 F1 G) ∧ SnO E F1 18 (s_noon K) ∧ OthS 18 F F1 := by
  have hO' := hO
  obtain ⟨hS, hP, hR, hN, hI⟩ := hO
  have hs := hS.1
  have hs2 := hP.1
  obtain ⟨b0, b1, b2, b3, b4, b5, b6, b7, b8, b9⟩ := hI.1
  have e18 := bO hN
  have ha : a_noon K = (0, tI (K 5)) := rfl
  have hk : s_noon K = losK K (tI (K 5)) := rfl
  rw [show thrP [] (a_noon K) = Sum.inl (some (.int (zI (tI (K 5))))) by rw [ha]; rfl, hk]
  refine ⟨E, _, Or.inl rfl, ?_, SnO_los hO' hD (n := tI (K 5)) ⟨by omega, by omega⟩, OthS_0⟩
  refine into (D := 0) (by omega) hM_117 (rcv_mk rfl (by decide)) rfl fun d hd => ?_
  show runP MP d 117 (0, [some (.ref 16), none], [], _) = _
  rw [Int.sub_self]
  rw [q_117_0]; (try simp only [↓n_rd, li_0, li_2, li_4, li_5, zI_add, zI_sub, zI_mul, zI_neg, ↓Option.bind_some]); simp (disch := (first | assumption | exact tI_rg _ | omega | exact uR_at | exact row_ne hF (by decide) | exact row_ne (row_ne hF (by decide)) (by decide) | exact SnS_18 | exact SnS_30 | exact LdS_44 | exact LdS_46)) only [e18, ↓n_rd, li_0, li_2, li_4, li_5, zI_add, zI_sub, zI_mul, zI_neg, ↓Option.bind_some, ↓g5_2, ↓g11_4, ↓p5_2, zIt2, uR_at, uR_ne, uR_uR, uC_uC, uC_at, ↓reduceIte, decide_eq_true_eq, leT, leF, ltT, ltF, eqT, eqF, ne_eq, not_true_eq_false, not_false_eq_true, Bool.false_eq_true, tI_zI]
theorem ml_noon {d : Nat} {E : EnQ} {F : Nat → Int → Int32} {G : Nat → Int → Int64} {K : Int → Int32} (hI : InvK K) (hF : F 218 = K) (hc : tI (F 217 18) = 0) (hst : stepsZ K < 1999000000)  (hd : 3 ≤ d) : callP MP d 265 [.ref 217] (mk E F G) = some (Sum.inl (some (.int (zI (a_noon K).2))), mk E (uR (uR F 217 (uC (F 217) 5 (zI (a_noon K).1))) 218 (s_noon K)) G) := by
  obtain ⟨b0, b1, b2, b3, b4, b5, b6, b7, b8, b9⟩ := hI.1
  have hc' : ∀ r, uR F 217 (uC (F 217) 5 r) 217 18 = F 217 18 := fun r => by rw [uR_at, uC_ne (by omega)]
  have hK : ∀ {r}, uR (uR F 217 r) 218 K = uR F 217 r := fun {r} => by rw [← hF, ← (uR_ne (show (218 : Nat) ≠ 217 by decide) : uR F 217 r 218 = F 218), uR_self]
  have ha : a_noon K = (0, tI (K 5)) := rfl
  have hk : s_noon K = losK K (tI (K 5)) := rfl
  rw [ha, hk]
  show (_ : ResP) = some (Sum.inl (some (.int (zI (tI (K 5))))), mk E (uR (uR F 217 (uC (F 217) 5 (zI 0))) 218 (losK K (tI (K 5)))) G)
  refine into (D := 2) (by omega) hM_265 (rcv_mk rfl (by decide)) rfl fun d hd => ?_
  show runP MP d 265 (0, [some (.ref 217), none], [], _) = _
  have h225 : ∀ {F2 : Nat → Int → Int32} {K2 : Int → Int32} {kk : HeapP → ResP} {kx : Nat → HeapP → ResP} {n : Int}, F2 218 = K2 → 0 ≤ n ∧ n ≤ tI (K2 5) ∧ tI (K2 5) ≤ 60 → cV (callP MP d 225 [.ref 217, .int (zI n)] (mk E F2 G)) kk kx = kk (mk E (uR F2 218 (losK K2 n)) G) := fun {F2 K2 kk kx n} hF2 hn => by
    rw [cc_225 (by rw [hF2]; exact hn) (by omega), hF2]
  
  rw [q_265_0]; (try simp only [↓n_cI, li_0, li_5, li_12, li_210, zI_add, zI_sub, zI_mul, zI_neg, ↓Option.bind_some]); simp (disch := (first | assumption | exact tI_rg _ | omega | exact uR_at | exact row_ne hF (by decide) | exact row_ne (row_ne hF (by decide)) (by decide) | exact SnS_18 | exact SnS_30 | exact LdS_44 | exact LdS_46)) only [↓cc_213t hI, ↓cc_213f hI, ↓cc_219t hI, ↓cc_219f hI, ↓cc_188t, ↓cc_188f, ↓cc_189, zI_i2l, ↓cc_210 hI, ↓h225, ↓n_cI, li_0, li_5, li_12, li_210, zI_add, zI_sub, zI_mul, zI_neg, ↓Option.bind_some, ↓p12_5, zIt2, uR_at, uR_ne, uR_uR, uC_uC, uC_at, ↓reduceIte, decide_eq_true_eq, leT, leF, ltT, ltF, eqT, eqF, ne_eq, not_true_eq_false, not_false_eq_true, Bool.false_eq_true, tI_zI]
def a_keep (K : Int → Int32) (x : Int) : Int × Int := if 1 ≤ x ∧ x ≤ 60 then (0, if x < tI (K 5) then x else tI (K 5)) else (1, 0)
def s_keep (K : Int → Int32) (x : Int) : Int → Int32 := if 1 ≤ x ∧ x ≤ 60 then keepK K x else K
theorem cl_keep {d : Nat} {E : EnQ} {F : Nat → Int → Int32} {G : Nat → Int → Int64} {K : Int → Int32} (hO : SnO E F 18 K) (hD : SepP E 18) (hst : stepsZ K < 1999000000) {x : Int} (hx : -2147483648 ≤ x ∧ x ≤ 2147483647) (hd : 2 ≤ d) : ∃ E1 F1, (E1 = E ∨ E1 = jE E) ∧ callP MP d 131 [.ref 16, .int (zI x)] (mk E F G) = some (thrP [2] (a_keep K x), mk E1 F1 G) ∧ SnO E F1 18 (s_keep K x) ∧ OthS 18 F F1 := by
  have hO' := hO
  obtain ⟨hS, hP, hR, hN, hI⟩ := hO
  have hs := hS.1
  have hs2 := hP.1
  obtain ⟨b0, b1, b2, b3, b4, b5, b6, b7, b8, b9⟩ := hI.1
  have e18 := bO hN
  by_cases c1 : 1 ≤ x ∧ x ≤ 60
  · have ha : a_keep K x = (0, if x < tI (K 5) then x else tI (K 5)) := (if_pos c1).trans (rfl)
    have hk : s_keep K x = keepK K x := (if_pos c1).trans (rfl)
    rw [show thrP [2] (a_keep K x) = Sum.inl (some (.int (zI (if x < tI (K 5) then x else tI (K 5))))) by rw [ha]; rfl, hk]
    have hm : 0 ≤ (if 0 < tI (K 5) - x then tI (K 5) - x else 0) ∧ (if 0 < tI (K 5) - x then tI (K 5) - x else 0) ≤ tI (K 5) := by split <;> omega
    have h1 := SnO_los hO' hD hm
    have h5 := losK_5 hm
    have hv : tI (K 5) - (if 0 < tI (K 5) - x then tI (K 5) - x else 0) = if x < tI (K 5) then x else tI (K 5) := by split <;> split <;> omega
    have h2 := SnO_set4 h1 hD (n := x) ⟨c1.1, c1.2, by rw [h5]; split <;> omega⟩
    rw [uR_at, uR_uR, hv] at h2
    refine ⟨E, _, Or.inl rfl, ?_, h2, OthS_0⟩
    refine into (D := 1) (by omega) hM_131 (rcv_mk rfl (by decide)) rfl fun d hd => ?_
    show runP MP d 131 (0, [some (.ref 16), some (.int (zI x))], [], _) = _
    have hr : 0 ≤ (if x < tI (K 5) then x else tI (K 5)) ∧ (if x < tI (K 5) then x else tI (K 5)) ≤ 60 := by split <;> omega
    have hcm : uC (uC (F 18) 1 (zI x)) 2 (zI (if x < tI (K 5) then x else tI (K 5))) = uC (uC (F 18) 2 (zI (if x < tI (K 5) then x else tI (K 5)))) 1 (zI x) := uC_comm (by omega)
    rw [q_131_0]; (try simp only [↓n_rd, li_0, li_1, li_2, li_4, li_5, li_60, li_124, zI_add, zI_sub, zI_mul, zI_neg, ↓Option.bind_some]); simp (disch := (first | assumption | exact tI_rg _ | omega | exact uR_at | exact row_ne hF (by decide) | exact row_ne (row_ne hF (by decide)) (by decide) | exact SnS_18 | exact SnS_30 | exact LdS_44 | exact LdS_46)) only [↓cc_127t hO', ↓cc_127f hO', ↓cc_129t hO', ↓cc_129f hO', ↓cc_124t, ↓cc_124f, thr_eq, uC_ne, e18, minZ, ↓n_rd, li_0, li_1, li_2, li_4, li_5, li_60, li_124, zI_add, zI_sub, zI_mul, zI_neg, ↓Option.bind_some, ↓g5_2, ↓g11_4, ↓p5_2, ↓p5_1, zIt2, uR_at, uR_ne, uR_uR, uC_uC, uC_at, ↓reduceIte, decide_eq_true_eq, leT, leF, ltT, ltF, eqT, eqF, ne_eq, not_true_eq_false, not_false_eq_true, Bool.false_eq_true, tI_zI]
    rw [hcm]
  · have ha : a_keep K x = (1, 0) := if_neg c1
    have hk : s_keep K x = K := if_neg c1
    refine ⟨jE E, F, Or.inr rfl, ?_, by rw [hk]; exact hO', OthS_rf⟩
    rw [show thrP [2] (a_keep K x) = Sum.inr 2 by rw [ha]; rfl]
    refine into (D := 1) (by omega) hM_131 (rcv_mk rfl (by decide)) rfl fun d hd => ?_
    show runP MP d 131 (0, [some (.ref 16), some (.int (zI x))], [], _) = _
    rw [q_131_0]; (try simp only [↓n_rd, li_0, li_1, li_2, li_4, li_5, li_60, li_124, zI_add, zI_sub, zI_mul, zI_neg, ↓Option.bind_some]); simp (disch := (first | assumption | exact tI_rg _ | omega | exact uR_at | exact row_ne hF (by decide) | exact row_ne (row_ne hF (by decide)) (by decide) | exact SnS_18 | exact SnS_30 | exact LdS_44 | exact LdS_46)) only [↓cc_127t hO', ↓cc_127f hO', ↓cc_129t hO', ↓cc_129f hO', ↓cc_124t, ↓cc_124f, thr_eq, ↓n_rd, li_0, li_1, li_2, li_4, li_5, li_60, li_124, zI_add, zI_sub, zI_mul, zI_neg, ↓Option.bind_some, ↓g5_2, ↓g11_4, ↓p5_2, ↓p5_1, zIt2, uR_at, uR_ne, uR_uR, uC_uC, uC_at, ↓reduceIte, decide_eq_true_eq, leT, leF, ltT, ltF, eqT, eqF, ne_eq, not_true_eq_false, not_false_eq_true, Bool.false_eq_true, tI_zI]
theorem ml_keep {d : Nat} {E : EnQ} {F : Nat → Int → Int32} {G : Nat → Int → Int64} {K : Int → Int32} (hI : InvK K) (hF : F 218 = K) (hc : tI (F 217 18) = 0) (hst : stepsZ K < 1999000000) {x : Int} (hx : -2147483648 ≤ x ∧ x ≤ 2147483647) (hd : 3 ≤ d) : callP MP d 224 [.ref 217, .int (zI x)] (mk E F G) = some (Sum.inl (some (.int (zI (a_keep K x).2))), mk E (uR (uR F 217 (uC (F 217) 5 (zI (a_keep K x).1))) 218 (s_keep K x)) G) := by
  obtain ⟨b0, b1, b2, b3, b4, b5, b6, b7, b8, b9⟩ := hI.1
  have hc' : ∀ r, uR F 217 (uC (F 217) 5 r) 217 18 = F 217 18 := fun r => by rw [uR_at, uC_ne (by omega)]
  have hK : ∀ {r}, uR (uR F 217 r) 218 K = uR F 217 r := fun {r} => by rw [← hF, ← (uR_ne (show (218 : Nat) ≠ 217 by decide) : uR F 217 r 218 = F 218), uR_self]
  by_cases c1 : 1 ≤ x ∧ x ≤ 60
  · have ha : a_keep K x = (0, if x < tI (K 5) then x else tI (K 5)) := (if_pos c1).trans (rfl)
    have hk : s_keep K x = keepK K x := (if_pos c1).trans (rfl)
    rw [ha, hk]
    show (_ : ResP) = some (Sum.inl (some (.int (zI (if x < tI (K 5) then x else tI (K 5))))), mk E (uR (uR F 217 (uC (F 217) 5 (zI 0))) 218 (keepK K x)) G)
    refine into (D := 2) (by omega) hM_224 (rcv_mk rfl (by decide)) rfl fun d hd => ?_
    show runP MP d 224 (0, [some (.ref 217), some (.int (zI x))], [], _) = _
    have h225 : ∀ {F2 : Nat → Int → Int32} {K2 : Int → Int32} {kk : HeapP → ResP} {kx : Nat → HeapP → ResP} {n : Int}, F2 218 = K2 → 0 ≤ n ∧ n ≤ tI (K2 5) ∧ tI (K2 5) ≤ 60 → cV (callP MP d 225 [.ref 217, .int (zI n)] (mk E F2 G)) kk kx = kk (mk E (uR F2 218 (losK K2 n)) G) := fun {F2 K2 kk kx n} hF2 hn => by
      rw [cc_225 (by rw [hF2]; exact hn) (by omega), hF2]
    
    have e4 : uC K 4 (zI x) 5 = K 5 := uC_ne (by omega)
    have hm : 0 ≤ (if 0 < tI (K 5) - x then tI (K 5) - x else 0) ∧ (if 0 < tI (K 5) - x then tI (K 5) - x else 0) ≤ tI (K 5) := by split <;> omega
    have hl : losK (uC K 4 (zI x)) (if 0 < tI (K 5) - x then tI (K 5) - x else 0) = keepK K x := losK_set4 hm.1
    have hn : 0 ≤ (if 0 < tI (K 5) - x then tI (K 5) - x else 0) ∧ (if 0 < tI (K 5) - x then tI (K 5) - x else 0) ≤ tI (uC K 4 (zI x) 5) ∧ tI (uC K 4 (zI x) 5) ≤ 60 := by rw [e4]; split <;> omega
    have h5 : tI (keepK K x 5) = if x < tI (K 5) then x else tI (K 5) := by
      unfold keepK
      rw [uC_ne (by omega), losK_5 hm]; split <;> split <;> omega
    have h225' := fun {kk : HeapP → ResP} {kx : Nat → HeapP → ResP} => h225 (F2 := uR (uR F 217 (uC (F 217) 5 (zI 0))) 218 (uC K 4 (zI x))) (K2 := uC K 4 (zI x)) (kk := kk) (kx := kx) uR_at hn
    rw [q_224_0]; (try simp only [↓n_cI, li_0, li_1, li_4, li_5, li_12, li_60, li_210, lj_0, lj_1, lj_4, lj_5, lj_12, lj_60, zJ_add, zJ_sub, zJ_mul, zJ_neg, zJ_l2i, zI_add, zI_sub, zI_mul, zI_neg, ↓Option.bind_some]); simp (disch := (first | assumption | exact tI_rg _ | omega | exact uR_at | exact row_ne hF (by decide) | exact row_ne (row_ne hF (by decide)) (by decide) | exact SnS_18 | exact SnS_30 | exact LdS_44 | exact LdS_46)) only [↓cc_213t hI, ↓cc_213f hI, ↓cc_219t hI, ↓cc_219f hI, ↓cc_188t, ↓cc_188f, ↓cc_189, zI_i2l, hF, ↓cc_u210, e4, maxZ, ↓h225', hl, h5, ↓n_cI, li_0, li_1, li_4, li_5, li_12, li_60, li_210, lj_0, lj_1, lj_4, lj_5, lj_12, lj_60, zJ_add, zJ_sub, zJ_mul, zJ_neg, zJ_l2i, tJ_zJ, zI_add, zI_sub, zI_mul, zI_neg, ↓Option.bind_some, ↓g12_0, ↓p12_5, ↓al_218, ↓as_218, zIt2, uR_at, uR_ne, uR_uR, uC_uC, uC_at, ↓reduceIte, decide_eq_true_eq, leT, leF, ltT, ltF, eqT, eqF, ne_eq, not_true_eq_false, not_false_eq_true, Bool.false_eq_true, tI_zI]
  · have ha : a_keep K x = (1, 0) := if_neg c1
    have hk : s_keep K x = K := if_neg c1
    rw [ha, hk, hK]
    show (_ : ResP) = some (Sum.inl (some (.int (zI 0))), mk E (uR F 217 (uC (F 217) 5 (zI 1))) G)
    refine into (D := 2) (by omega) hM_224 (rcv_mk rfl (by decide)) rfl fun d hd => ?_
    show runP MP d 224 (0, [some (.ref 217), some (.int (zI x))], [], _) = _
    rw [q_224_0]; (try simp only [↓n_cI, li_0, li_1, li_4, li_5, li_12, li_60, li_210, lj_0, lj_1, lj_4, lj_5, lj_12, lj_60, zJ_add, zJ_sub, zJ_mul, zJ_neg, zJ_l2i, zI_add, zI_sub, zI_mul, zI_neg, ↓Option.bind_some]); simp (disch := (first | assumption | exact tI_rg _ | omega | exact uR_at | exact row_ne hF (by decide) | exact row_ne (row_ne hF (by decide)) (by decide) | exact SnS_18 | exact SnS_30 | exact LdS_44 | exact LdS_46)) only [↓cc_213t hI, ↓cc_213f hI, ↓cc_219t hI, ↓cc_219f hI, ↓cc_188t, ↓cc_188f, ↓cc_189, zI_i2l, ↓n_cI, li_0, li_1, li_4, li_5, li_12, li_60, li_210, lj_0, lj_1, lj_4, lj_5, lj_12, lj_60, zJ_add, zJ_sub, zJ_mul, zJ_neg, zJ_l2i, tJ_zJ, zI_add, zI_sub, zI_mul, zI_neg, ↓Option.bind_some, ↓g12_0, ↓p12_5, ↓al_218, ↓as_218, zIt2, uR_at, uR_ne, uR_uR, uC_uC, uC_at, ↓reduceIte, decide_eq_true_eq, leT, leF, ltT, ltF, eqT, eqF, ne_eq, not_true_eq_false, not_false_eq_true, Bool.false_eq_true, tI_zI]
end S93z
