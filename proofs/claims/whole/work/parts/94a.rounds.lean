/-! CALL: rounds -/
section S94a
set_option linter.unusedVariables false
set_option linter.unusedSimpArgs false
def turK (K : Int → Int32) : Int → Int32 := trnK K (tI (K 3)).toNat
def rndK (K : Int → Int32) : Nat → Int → Int32
  | 0 => K
  | n + 1 => turK (rndK K n)
theorem turK_inv {K : Int → Int32} (hI : InvK K) (hst : stepsZ K < 1999999000) : InvK (turK K) ∧ stepsZ K ≤ stepsZ (turK K) ∧ stepsZ (turK K) ≤ stepsZ K + 4 ∧ (∀ j, (j < 38 ∧ j ≠ 5) ∨ (166 ≤ j ∧ j < 169) ∨ (170 ≤ j ∧ j < 206) → turK K j = K j) := by
  have b3 := hI.1.2.2.2.1
  obtain ⟨i1, i2, i3, i4⟩ := trnK_inv hI hst (tI (K 3)).toNat (by omega)
  exact ⟨i1, i2, by show stepsZ (trnK K (tI (K 3)).toNat) ≤ _; omega, i4⟩
theorem rndK_inv {K : Int → Int32} (hI : InvK K) (hst : stepsZ K < 1999900000) : ∀ n : Nat, n ≤ 200 → InvK (rndK K n) ∧ stepsZ K ≤ stepsZ (rndK K n) ∧ stepsZ (rndK K n) ≤ stepsZ K + 4 * n ∧ (∀ j, (j < 38 ∧ j ≠ 5) ∨ (166 ≤ j ∧ j < 169) ∨ (170 ≤ j ∧ j < 206) → rndK K n j = K j) := by
  intro n
  induction n with
  | zero => intro _; exact ⟨hI, Int.le_refl _, by show stepsZ K ≤ stepsZ K + 4 * ((0 : Nat) : Int); omega, fun j _ => rfl⟩
  | succ n ih =>
    intro hn
    obtain ⟨i1, i2, i3, i4⟩ := ih (by omega)
    obtain ⟨j1, j2, j3, j4⟩ := turK_inv i1 (by omega)
    exact ⟨j1, by show stepsZ K ≤ stepsZ (turK (rndK K n)); omega, by show stepsZ (turK (rndK K n)) ≤ _; omega, fun j hj => (j4 j hj).trans (i4 j hj)⟩
def a_rounds (K : Int → Int32) (x : Int) : Int × Int := if 1 ≤ x ∧ x ≤ 60 then (0, stepsZ (rndK K x.toNat) - stepsZ K) else (1, 0)
def s_rounds (K : Int → Int32) (x : Int) : Int → Int32 := if 1 ≤ x ∧ x ≤ 60 then rndK K x.toNat else K
theorem cl_rounds {d : Nat} {E : EnQ} {F : Nat → Int → Int32} {G : Nat → Int → Int64} {K : Int → Int32} (hO : SnO E F 18 K) (hD : SepP E 18) (hst : stepsZ K < 1999000000) {x : Int} (hx : -2147483648 ≤ x ∧ x ≤ 2147483647) (hd : 6 ≤ d) : ∃ E1 F1, (E1 = E ∨ E1 = jE E) ∧ callP MP d 133 [.ref 16, .int (zI x)] (mk E F G) = some (thrP [2] (a_rounds K x), mk E1 F1 G) ∧ SnO E F1 18 (s_rounds K x) ∧ OthS 18 F F1 := by
  have hO' := hO
  obtain ⟨hS, hP, hR, hN, hI⟩ := hO
  have hs := hS.1
  by_cases c1 : 1 ≤ x ∧ x ≤ 60
  · have ha : a_rounds K x = (0, stepsZ (rndK K x.toNat) - stepsZ K) := if_pos c1
    have hk : s_rounds K x = rndK K x.toNat := if_pos c1
    rw [show thrP [2] (a_rounds K x) = Sum.inl (some (.int (zI (stepsZ (rndK K x.toNat) - stepsZ K)))) by rw [ha]; rfl, hk]
    obtain ⟨e, rfl⟩ : ∃ e, d = e + 1 := ⟨d - 1, by omega⟩
    have hin : callP MP (e + 1) 133 [.ref 16, .int (zI x)] (mk E F G) = runP MP e 133 (0, [some (.ref 16), some (.int (zI x)), none, none], [], mk E F G) := into_eq (by omega) hM_133 (rcv_mk rfl (by decide)) rfl
    have h0 : runP MP e 133 (0, [some (.ref 16), some (.int (zI x)), none, none], [], mk E F G) = runP MP e 133 (11, [some (.ref 16), some (.int (zI x)), some (.int (zI (stepsZ (rndK K 0) - stepsZ K))), some (.int (zI ((0 : Nat) : Int)))], [], mk E F G) := by
      rw [show stepsZ (rndK K 0) - stepsZ K = 0 by show stepsZ K - stepsZ K = 0; omega, show ((0 : Nat) : Int) = 0 from rfl]
      rw [q_133_0]; (try simp only [↓n_cI, li_0, li_1, li_4, li_60, li_124, zI_add, zI_sub, zI_mul, zI_neg, ↓Option.bind_some]); simp (disch := (first | assumption | exact tI_rg _ | omega | exact uR_at | exact row_ne hF (by decide) | exact row_ne (row_ne hF (by decide)) (by decide) | exact SnS_18 | exact SnS_30 | exact LdS_44 | exact LdS_46)) only [↓cc_124t, ↓n_cI, li_0, li_1, li_4, li_60, li_124, zI_add, zI_sub, zI_mul, zI_neg, ↓Option.bind_some, ↓g11_4, zIt2, uR_at, uR_ne, uR_uR, uC_uC, uC_at, ↓reduceIte, decide_eq_true_eq, leT, leF, ltT, ltF, eqT, eqF, ne_eq, not_true_eq_false, not_false_eq_true, Bool.false_eq_true, tI_zI]
    rw [hin, h0]
    refine loopS (σ := Nat → Int → Int32) (Post := fun r => ∃ E1 F1, (E1 = E ∨ E1 = jE E) ∧ r = some (Sum.inl (some (.int (zI (stepsZ (rndK K x.toNat) - stepsZ K)))), mk E1 F1 G) ∧ SnO E F1 18 (rndK K x.toNat) ∧ OthS 18 F F1)
      (fun j s => runP MP e 133 (11, [some (.ref 16), some (.int (zI x)), some (.int (zI (stepsZ (rndK K j) - stepsZ K))), some (.int (zI (j : Int)))], [], mk E s G))
      (fun j s => SnO E s 18 (rndK K j) ∧ OthS 18 F s) x.toNat F ⟨hO', OthS_rf⟩ (fun s hI2 => ?_) (fun j s hj hI2 => ?_)
    · refine ⟨E, s, Or.inl rfl, ?_, hI2.1, hI2.2⟩
      show runP MP e 133 _ = _
      rw [q_133_11]; (try simp only [↓n_cI, li_0, li_1, li_4, li_60, li_124, zI_add, zI_sub, zI_mul, zI_neg, ↓Option.bind_some]); simp (disch := (first | assumption | exact tI_rg _ | omega | exact uR_at | exact row_ne hF (by decide) | exact row_ne (row_ne hF (by decide)) (by decide) | exact SnS_18 | exact SnS_30 | exact LdS_44 | exact LdS_46)) only [q_133_0, ↓n_cI, li_0, li_1, li_4, li_60, li_124, zI_add, zI_sub, zI_mul, zI_neg, ↓Option.bind_some, ↓g11_4, zIt2, uR_at, uR_ne, uR_uR, uC_uC, uC_at, ↓reduceIte, decide_eq_true_eq, leT, leF, ltT, ltF, eqT, eqF, ne_eq, not_true_eq_false, not_false_eq_true, Bool.false_eq_true, tI_zI]
    · right
      obtain ⟨o1, o2⟩ := hI2
      obtain ⟨i1, i2, i3, i4⟩ := rndK_inv hI (by omega) j (by omega)
      obtain ⟨F', r1, s1, t1⟩ := ct_72 (d := e) (G := G) o1 hD (by omega) (by omega)
      obtain ⟨j1, j2, j3, j4⟩ := turK_inv i1 (by omega)
      refine ⟨F', ⟨s1, OthS_tr o2 t1⟩, ?_⟩
      have h72 : ∀ {kk : Int → HeapP → ResP} {kx : Nat → HeapP → ResP}, cT (callP MP e 72 [.ref 18] (mk E s G)) kk kx = kk (stepsZ (turK (rndK K j)) - stepsZ (rndK K j)) (mk E F' G) := fun {kk kx} => cT_ret r1 (by show -2147483648 ≤ stepsZ (turK (rndK K j)) - stepsZ (rndK K j) ∧ stepsZ (turK (rndK K j)) - stepsZ (rndK K j) ≤ 2147483647; omega)
      show runP MP e 133 _ = runP MP e 133 _
      rw [nsucc, show stepsZ (rndK K (j + 1)) - stepsZ K = stepsZ (rndK K j) - stepsZ K + (stepsZ (turK (rndK K j)) - stepsZ (rndK K j)) by show stepsZ (turK (rndK K j)) - stepsZ K = _; omega]
      rw [q_133_11]; (try simp only [↓n_cI, li_0, li_1, li_4, li_60, li_124, zI_add, zI_sub, zI_mul, zI_neg, ↓Option.bind_some]); simp (disch := (first | assumption | exact tI_rg _ | omega | exact uR_at | exact row_ne hF (by decide) | exact row_ne (row_ne hF (by decide)) (by decide) | exact SnS_18 | exact SnS_30 | exact LdS_44 | exact LdS_46)) only [q_133_0, ↓h72, ↓n_cI, li_0, li_1, li_4, li_60, li_124, zI_add, zI_sub, zI_mul, zI_neg, ↓Option.bind_some, ↓g11_4, zIt2, uR_at, uR_ne, uR_uR, uC_uC, uC_at, ↓reduceIte, decide_eq_true_eq, leT, leF, ltT, ltF, eqT, eqF, ne_eq, not_true_eq_false, not_false_eq_true, Bool.false_eq_true, tI_zI]
  · have ha : a_rounds K x = (1, 0) := if_neg c1
    have hk : s_rounds K x = K := if_neg c1
    refine ⟨jE E, F, Or.inr rfl, ?_, by rw [hk]; exact hO', OthS_rf⟩
    rw [show thrP [2] (a_rounds K x) = Sum.inr 2 by rw [ha]; rfl]
    refine into (D := 5) (by omega) hM_133 (rcv_mk rfl (by decide)) rfl fun d hd => ?_
    show runP MP d 133 (0, [some (.ref 16), some (.int (zI x)), none, none], [], _) = _
    rw [q_133_0]; (try simp only [↓n_cI, li_0, li_1, li_4, li_60, li_124, zI_add, zI_sub, zI_mul, zI_neg, ↓Option.bind_some]); simp (disch := (first | assumption | exact tI_rg _ | omega | exact uR_at | exact row_ne hF (by decide) | exact row_ne (row_ne hF (by decide)) (by decide) | exact SnS_18 | exact SnS_30 | exact LdS_44 | exact LdS_46)) only [↓cc_124f, thr_eq, ↓n_cI, li_0, li_1, li_4, li_60, li_124, zI_add, zI_sub, zI_mul, zI_neg, ↓Option.bind_some, ↓g11_4, zIt2, uR_at, uR_ne, uR_uR, uC_uC, uC_at, ↓reduceIte, decide_eq_true_eq, leT, leF, ltT, ltF, eqT, eqF, ne_eq, not_true_eq_false, not_false_eq_true, Bool.false_eq_true, tI_zI]
theorem ml_rounds {d : Nat} {E : EnQ} {F : Nat → Int → Int32} {G : Nat → Int → Int64} {K : Int → Int32} (hI : InvK K) (hF : F 218 = K) (hc : tI (F 217 18) = 0) (hst : stepsZ K < 1999000000) {x : Int} (hx : -2147483648 ≤ x ∧ x ≤ 2147483647) (hd : 5 ≤ d) : callP MP d 266 [.ref 217, .int (zI x)] (mk E F G) = some (Sum.inl (some (.int (zI (a_rounds K x).2))), mk E (uR (uR F 217 (uC (F 217) 5 (zI (a_rounds K x).1))) 218 (s_rounds K x)) G) := by
  have hc' : ∀ r, uR F 217 (uC (F 217) 5 r) 217 18 = F 217 18 := fun r => by rw [uR_at, uC_ne (by omega)]
  have hK : ∀ {r}, uR (uR F 217 r) 218 K = uR F 217 r := fun {r} => by rw [← hF, ← (uR_ne (show (218 : Nat) ≠ 217 by decide) : uR F 217 r 218 = F 218), uR_self]
  by_cases c1 : 1 ≤ x ∧ x ≤ 60
  · have ha : a_rounds K x = (0, stepsZ (rndK K x.toNat) - stepsZ K) := if_pos c1
    have hk : s_rounds K x = rndK K x.toNat := if_pos c1
    rw [ha, hk]
    show (_ : ResP) = some (Sum.inl (some (.int (zI (stepsZ (rndK K x.toNat) - stepsZ K)))), mk E (uR (uR F 217 (uC (F 217) 5 (zI 0))) 218 (rndK K x.toNat)) G)
    refine into (D := 4) (by omega) hM_266 (rcv_mk rfl (by decide)) rfl fun d hd => ?_
    show runP MP d 266 (0, [some (.ref 217), some (.int (zI x)), none, none], [], _) = _
    have hl : runP MP d 266 (27, [some (.ref 217), some (.int (zI x)), some (.int (zI 0)), some (.int (zI 0))], [], mk E (uR F 217 (uC (F 217) 5 (zI 0))) G) = runP MP d 266 (27, [some (.ref 217), some (.int (zI x)), some (.int (zI (stepsZ (rndK K x.toNat) - stepsZ K))), some (.int (zI ((x.toNat : Nat) : Int)))], [], mk E (uR (uR F 217 (uC (F 217) 5 (zI 0))) 218 (rndK K x.toNat)) G) := by
      have h0 : mk E (uR F 217 (uC (F 217) 5 (zI 0))) G = mk E (uR (uR F 217 (uC (F 217) 5 (zI 0))) 218 (rndK K 0)) G := by show _ = mk E (uR (uR F 217 (uC (F 217) 5 (zI 0))) 218 K) G; rw [hK]
      rw [h0]
      refine Eq.trans ?_ (loopN (fun j : Nat => runP MP d 266 (27, [some (.ref 217), some (.int (zI x)), some (.int (zI (stepsZ (rndK K j) - stepsZ K))), some (.int (zI (j : Int)))], [], mk E (uR (uR F 217 (uC (F 217) 5 (zI 0))) 218 (rndK K j)) G)) x.toNat (fun j hj => ?_))
      · show _ = runP MP d 266 (27, [some (.ref 217), some (.int (zI x)), some (.int (zI (stepsZ (rndK K 0) - stepsZ K))), some (.int (zI ((0 : Nat) : Int)))], [], mk E (uR (uR F 217 (uC (F 217) 5 (zI 0))) 218 (rndK K 0)) G)
        rw [show stepsZ (rndK K 0) - stepsZ K = 0 by show stepsZ K - stepsZ K = 0; omega]; rfl
      · show runP MP d 266 _ = runP MP d 266 _
        obtain ⟨i1, i2, i3, i4⟩ := rndK_inv hI (by omega) j (by omega)
        obtain ⟨j1, j2, j3, j4⟩ := turK_inv i1 (by omega)
        have h267 : ∀ {kk : Int → HeapP → ResP} {kx : Nat → HeapP → ResP}, cT (callP MP d 267 [.ref 217] (mk E (uR (uR F 217 (uC (F 217) 5 (zI 0))) 218 (rndK K j)) G)) kk kx = kk (stepsZ (turK (rndK K j)) - stepsZ (rndK K j)) (mk E (uR (uR F 217 (uC (F 217) 5 (zI 0))) 218 (rndK K (j + 1))) G) := fun {kk kx} => by
          rw [cc_267 i1 uR_at (by rw [uR_ne (by decide), hc']; exact hc) (by omega) (by omega), uR_uR]
          rfl
        rw [nsucc, show stepsZ (rndK K (j + 1)) - stepsZ K = stepsZ (rndK K j) - stepsZ K + (stepsZ (turK (rndK K j)) - stepsZ (rndK K j)) by show stepsZ (turK (rndK K j)) - stepsZ K = _; omega]
        rw [q_266_27]; (try simp only [↓n_cI, li_0, li_1, li_5, li_12, li_60, lj_0, lj_1, lj_5, lj_12, lj_60, zJ_add, zJ_sub, zJ_mul, zJ_neg, zJ_l2i, zI_add, zI_sub, zI_mul, zI_neg, ↓Option.bind_some]); simp (disch := (first | assumption | exact tI_rg _ | omega | exact uR_at | exact row_ne hF (by decide) | exact row_ne (row_ne hF (by decide)) (by decide) | exact SnS_18 | exact SnS_30 | exact LdS_44 | exact LdS_46)) only [q_266_0, ↓h267, ↓n_cI, li_0, li_1, li_5, li_12, li_60, lj_0, lj_1, lj_5, lj_12, lj_60, zJ_add, zJ_sub, zJ_mul, zJ_neg, zJ_l2i, tJ_zJ, zI_add, zI_sub, zI_mul, zI_neg, ↓Option.bind_some, ↓p12_5, zIt2, uR_at, uR_ne, uR_uR, uC_uC, uC_at, ↓reduceIte, decide_eq_true_eq, leT, leF, ltT, ltF, eqT, eqF, ne_eq, not_true_eq_false, not_false_eq_true, Bool.false_eq_true, tI_zI]
    rw [q_266_0]; (try simp only [↓n_cI, li_0, li_1, li_5, li_12, li_60, lj_0, lj_1, lj_5, lj_12, lj_60, zJ_add, zJ_sub, zJ_mul, zJ_neg, zJ_l2i, zI_add, zI_sub, zI_mul, zI_neg, ↓Option.bind_some]); simp (disch := (first | assumption | exact tI_rg _ | omega | exact uR_at | exact row_ne hF (by decide) | exact row_ne (row_ne hF (by decide)) (by decide) | exact SnS_18 | exact SnS_30 | exact LdS_44 | exact LdS_46)) only [↓cc_188t, zI_i2l, hl, ↓n_cI, li_0, li_1, li_5, li_12, li_60, lj_0, lj_1, lj_5, lj_12, lj_60, zJ_add, zJ_sub, zJ_mul, zJ_neg, zJ_l2i, tJ_zJ, zI_add, zI_sub, zI_mul, zI_neg, ↓Option.bind_some, ↓p12_5, zIt2, uR_at, uR_ne, uR_uR, uC_uC, uC_at, ↓reduceIte, decide_eq_true_eq, leT, leF, ltT, ltF, eqT, eqF, ne_eq, not_true_eq_false, not_false_eq_true, Bool.false_eq_true, tI_zI]
    rw [q_266_27]; (try simp only [↓n_cI, li_0, li_1, li_5, li_12, li_60, lj_0, lj_1, lj_5, lj_12, lj_60, zJ_add, zJ_sub, zJ_mul, zJ_neg, zJ_l2i, zI_add, zI_sub, zI_mul, zI_neg, ↓Option.bind_some]); simp (disch := (first | assumption | exact tI_rg _ | omega | exact uR_at | exact row_ne hF (by decide) | exact row_ne (row_ne hF (by decide)) (by decide) | exact SnS_18 | exact SnS_30 | exact LdS_44 | exact LdS_46)) only [q_266_0, ↓n_cI, li_0, li_1, li_5, li_12, li_60, lj_0, lj_1, lj_5, lj_12, lj_60, zJ_add, zJ_sub, zJ_mul, zJ_neg, zJ_l2i, tJ_zJ, zI_add, zI_sub, zI_mul, zI_neg, ↓Option.bind_some, ↓p12_5, zIt2, uR_at, uR_ne, uR_uR, uC_uC, uC_at, ↓reduceIte, decide_eq_true_eq, leT, leF, ltT, ltF, eqT, eqF, ne_eq, not_true_eq_false, not_false_eq_true, Bool.false_eq_true, tI_zI]
  · have ha : a_rounds K x = (1, 0) := if_neg c1
    have hk : s_rounds K x = K := if_neg c1
    rw [ha, hk, hK]
    show (_ : ResP) = some (Sum.inl (some (.int (zI 0))), mk E (uR F 217 (uC (F 217) 5 (zI 1))) G)
    refine into (D := 4) (by omega) hM_266 (rcv_mk rfl (by decide)) rfl fun d hd => ?_
    show runP MP d 266 (0, [some (.ref 217), some (.int (zI x)), none, none], [], _) = _
    rw [q_266_0]; (try simp only [↓n_cI, li_0, li_1, li_5, li_12, li_60, lj_0, lj_1, lj_5, lj_12, lj_60, zJ_add, zJ_sub, zJ_mul, zJ_neg, zJ_l2i, zI_add, zI_sub, zI_mul, zI_neg, ↓Option.bind_some]); simp (disch := (first | assumption | exact tI_rg _ | omega | exact uR_at | exact row_ne hF (by decide) | exact row_ne (row_ne hF (by decide)) (by decide) | exact SnS_18 | exact SnS_30 | exact LdS_44 | exact LdS_46)) only [↓cc_188f, ↓cc_189, zI_i2l, ↓n_cI, li_0, li_1, li_5, li_12, li_60, lj_0, lj_1, lj_5, lj_12, lj_60, zJ_add, zJ_sub, zJ_mul, zJ_neg, zJ_l2i, tJ_zJ, zI_add, zI_sub, zI_mul, zI_neg, ↓Option.bind_some, ↓p12_5, zIt2, uR_at, uR_ne, uR_uR, uC_uC, uC_at, ↓reduceIte, decide_eq_true_eq, leT, leF, ltT, ltF, eqT, eqF, ne_eq, not_true_eq_false, not_false_eq_true, Bool.false_eq_true, tI_zI]
end S94a
