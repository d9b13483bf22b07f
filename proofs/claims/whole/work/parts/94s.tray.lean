/-! CALL: tray -/
section S94s
set_option linter.unusedVariables false
set_option linter.unusedSimpArgs false
def zrJ (r : Int → Int64) (b n : Nat) : Int → Int64 := fun i => if (b : Int) ≤ i ∧ i < b + n then zJ 0 else r i
theorem zrJ_0 {r : Int → Int64} {b : Nat} : zrJ r b 0 = r := by funext i; exact if_neg (by omega)
theorem zrJ_s {r : Int → Int64} {b n : Nat} : zrJ r b (n + 1) = uC (zrJ r b n) ((b : Int) + n) (zJ 0) := by
  funext i
  by_cases e : i = (b : Int) + n
  · rw [e, uC_at]; exact if_pos (by omega)
  · rw [uC_ne e]
    unfold zrJ
    by_cases g : (b : Int) ≤ i ∧ i < b + n
    · rw [if_pos g, if_pos (by omega)]
    · rw [if_neg g, if_neg (by omega)]
theorem ct_1t {d : Nat} {E : EnQ} {F : Nat → Int → Int32} {G : Nat → Int → Int64} {a : Nat} (hs : TrS E a) (hd : 1 ≤ d) : callP MP d 1 [.ref (a + 1), .long (zJ 0)] (mk E F G) = some (Sum.inl none, mk E F (uR G (a + 1) (zrJ (G (a + 1)) 0 30))) := by
  have hs2 := hs.2
  have hlen : ∀ {f : Int → ResP}, (lenT (mk E F G) (a + 1)).bind f = f 30 := fun {f} => len_J (E := E) (a := a + 1) (z := 0) (n := 30) hs.2 (by decide)
  refine into (D := 0) (by omega) hM_1 rfl rfl fun d hd => ?_
  show runP MP d 1 (0, [some (.ref (a + 1)), some (.long (zJ 0)), none, none, none], [], _) = _
  have h0 : mk E F G = mk E F (uR G (a + 1) (zrJ (G (a + 1)) 0 0)) := by rw [zrJ_0, uR_self]
  have h1 : runP MP d 1 (0, [some (.ref (a + 1)), some (.long (zJ 0)), none, none, none], [], mk E F G) = runP MP d 1 (6, [some (.ref (a + 1)), some (.long (zJ 0)), none, some (.int (zI ((0 : Nat) : Int))), some (.int (zI 30))], [], mk E F (uR G (a + 1) (zrJ (G (a + 1)) 0 0))) := by
    rw [← h0, show ((0 : Nat) : Int) = 0 from rfl]
    rw [q_1_0]; (try simp only [↓n_len, li_0, li_1, li_6, lj_0, lj_1, lj_6, zJ_add, zJ_sub, zJ_mul, zJ_neg, zJ_l2i, zI_add, zI_sub, zI_mul, zI_neg, ↓Option.bind_some]); simp (disch := (first | assumption | exact tI_rg _ | omega | exact uR_at | exact row_ne hF (by decide) | exact row_ne (row_ne hF (by decide)) (by decide) | exact SnS_18 | exact SnS_30 | exact LdS_44 | exact LdS_46)) only [↓hlen, ↓n_len, li_0, li_1, li_6, lj_0, lj_1, lj_6, zJ_add, zJ_sub, zJ_mul, zJ_neg, zJ_l2i, tJ_zJ, zI_add, zI_sub, zI_mul, zI_neg, ↓Option.bind_some, zIt2, uR_at, uR_ne, uR_uR, uC_uC, uC_at, ↓reduceIte, decide_eq_true_eq, leT, leF, ltT, ltF, eqT, eqF, ne_eq, not_true_eq_false, not_false_eq_true, Bool.false_eq_true, tI_zI]
  rw [h1]
  refine (loopN (fun j : Nat => runP MP d 1 (6, [some (.ref (a + 1)), some (.long (zJ 0)), none, some (.int (zI (j : Int))), some (.int (zI 30))], [], mk E F (uR G (a + 1) (zrJ (G (a + 1)) 0 j)))) 30 (fun j hj => ?_)).trans ?_
  · show runP MP d 1 _ = runP MP d 1 _
    have e : zrJ (G (a + 1)) 0 (j + 1) = uC (zrJ (G (a + 1)) 0 j) j (zJ 0) := by rw [zrJ_s]; exact congrArg (fun z => uC _ z _) (by omega)
    rw [e, nsucc]
    rw [q_1_6]; (try simp only [↓n_len, li_0, li_1, li_6, lj_0, lj_1, lj_6, zJ_add, zJ_sub, zJ_mul, zJ_neg, zJ_l2i, zI_add, zI_sub, zI_mul, zI_neg, ↓Option.bind_some]); simp (disch := (first | assumption | exact tI_rg _ | omega | exact uR_at | exact row_ne hF (by decide) | exact row_ne (row_ne hF (by decide)) (by decide) | exact SnS_18 | exact SnS_30 | exact LdS_44 | exact LdS_46)) only [q_1_0, ↓TrS_s1 hs, ↓n_len, li_0, li_1, li_6, lj_0, lj_1, lj_6, zJ_add, zJ_sub, zJ_mul, zJ_neg, zJ_l2i, tJ_zJ, zI_add, zI_sub, zI_mul, zI_neg, ↓Option.bind_some, zIt2, uR_at, uR_ne, uR_uR, uC_uC, uC_at, ↓reduceIte, decide_eq_true_eq, leT, leF, ltT, ltF, eqT, eqF, ne_eq, not_true_eq_false, not_false_eq_true, Bool.false_eq_true, tI_zI]
  · show runP MP d 1 (6, [some (.ref (a + 1)), some (.long (zJ 0)), none, some (.int (zI 30)), some (.int (zI 30))], [], mk E F (uR G (a + 1) (zrJ (G (a + 1)) 0 30))) = _
    rw [q_1_6]; (try simp only [↓n_len, li_0, li_1, li_6, lj_0, lj_1, lj_6, zJ_add, zJ_sub, zJ_mul, zJ_neg, zJ_l2i, zI_add, zI_sub, zI_mul, zI_neg, ↓Option.bind_some]); simp (disch := (first | assumption | exact tI_rg _ | omega | exact uR_at | exact row_ne hF (by decide) | exact row_ne (row_ne hF (by decide)) (by decide) | exact SnS_18 | exact SnS_30 | exact LdS_44 | exact LdS_46)) only [q_1_0, ↓n_len, li_0, li_1, li_6, lj_0, lj_1, lj_6, zJ_add, zJ_sub, zJ_mul, zJ_neg, zJ_l2i, tJ_zJ, zI_add, zI_sub, zI_mul, zI_neg, ↓Option.bind_some, zIt2, uR_at, uR_ne, uR_uR, uC_uC, uC_at, ↓reduceIte, decide_eq_true_eq, leT, leF, ltT, ltF, eqT, eqF, ne_eq, not_true_eq_false, not_false_eq_true, Bool.false_eq_true, tI_zI]
def trF (F : Nat → Int → Int32) (x y z : Int) : Nat → Int → Int32 := uR F (trH x) (uC (uC (F (trH x)) 0 (zI y)) 1 (zI z))
def trG (G : Nat → Int → Int64) (x : Int) : Nat → Int → Int64 := uR G (trH x + 1) (zrJ (G (trH x + 1)) 0 30)
theorem ct_98 {d : Nat} {E : EnQ} {F : Nat → Int → Int32} {G : Nat → Int → Int64} {x y z : Int} (hx : 0 ≤ x ∧ x < 4) (hd : 2 ≤ d) : callP MP d 98 [.ref (trH x), .int (zI y), .int (zI z)] (mk E F G) = some (Sum.inl none, mk E (trF F x y z) (trG G x)) := by
  have ht : TrS E (trH x) := TrS_x hx
  have hs := ht.1
  refine into (D := 1) (by omega) hM_98 (rcv_mk hs (by decide)) rfl fun d hd => ?_
  show runP MP d 98 (0, [some (.ref (trH x)), some (.int (zI y)), some (.int (zI z))], [], _) = _
  have h1 : ∀ {F1 : Nat → Int → Int32} {kk : HeapP → ResP} {kx : Nat → HeapP → ResP}, cV (callP MP d 1 [.ref (trH x + 1), .long 0] (mk E F1 G)) kk kx = kk (mk E F1 (trG G x)) := fun {F1 kk kx} => by
    rw [lj_0]; exact cV_ret (ct_1t ht (by omega))
  unfold trF
  rw [q_98_0]; (try simp only [li_0, li_1, li_2, li_7, li_98, zI_add, zI_sub, zI_mul, zI_neg, ↓Option.bind_some]); simp (disch := (first | assumption | exact tI_rg _ | omega | exact uR_at | exact row_ne hF (by decide) | exact row_ne (row_ne hF (by decide)) (by decide) | exact SnS_18 | exact SnS_30 | exact LdS_44 | exact LdS_46)) only [↓h1, li_0, li_1, li_2, li_7, li_98, zI_add, zI_sub, zI_mul, zI_neg, ↓Option.bind_some, ↓g7_2, ↓TrS_l1, ↓TrS_s1, ↓p7_0, ↓p7_1, zIt2, uR_at, uR_ne, uR_uR, uC_uC, uC_at, ↓reduceIte, decide_eq_true_eq, leT, leF, ltT, ltF, eqT, eqF, ne_eq, not_true_eq_false, not_false_eq_true, Bool.false_eq_true, tI_zI]
/-- the code of tray -/
def a_tray (x y z : Int) : Int := if 0 ≤ x ∧ x < 4 then (if 0 ≤ y ∧ y ≤ 3 then (if 0 ≤ z ∧ z ≤ 30 then 0 else 2) else 2) else 1
theorem cl_tray {d : Nat} {E : EnQ} {F : Nat → Int → Int32} {G : Nat → Int → Int64} (hT : TrR E F G) {x y z : Int} (hx : -2147483648 ≤ x ∧ x ≤ 2147483647) (hy : -2147483648 ≤ y ∧ y ≤ 2147483647) (hz : -2147483648 ≤ z ∧ z ≤ 2147483647) (hd : 3 ≤ d) : ∃ E1, (E1 = E ∨ E1 = jE E) ∧ callP MP d 179 [.ref 16, .int (zI x), .int (zI y), .int (zI z)] (mk E F G) = some (if a_tray x y z = 0 then Sum.inl none else if a_tray x y z = 1 then Sum.inr 0 else Sum.inr 2, mk E1 (if a_tray x y z = 0 then trF F x y z else F) (if a_tray x y z = 0 then trG G x else G)) := by
  by_cases c1 : 0 ≤ x ∧ x < 4
  · have h138 : ∀ {kn : HeapP → ResP} {ka : Nat → HeapP → ResP} {kx : Nat → HeapP → ResP}, ∀ {d : Nat}, 1 ≤ d → cR (callP MP d 138 [.ref 16, .int (zI x)] (mk E F G)) kn ka kx = ka (trH x) (mk E F G) := fun {kn ka kx d} hd => cR_ref (ct_138t hT c1 hd)
    by_cases c2 : 0 ≤ y ∧ y ≤ 3
    · by_cases c3 : 0 ≤ z ∧ z ≤ 30
      · have ha : a_tray x y z = 0 := (if_pos c1).trans ((if_pos c2).trans (if_pos c3))
        rw [ha]
        refine ⟨E, Or.inl rfl, ?_⟩
        show (_ : ResP) = some (Sum.inl none, mk E (trF F x y z) (trG G x))
        have h98 : ∀ {d : Nat} {kk : HeapP → ResP} {kx : Nat → HeapP → ResP}, 2 ≤ d → cV (callP MP d 98 [.ref (trH x), .int (zI y), .int (zI z)] (mk E F G)) kk kx = kk (mk E (trF F x y z) (trG G x)) := fun {d kk kx} hd => cV_ret (ct_98 c1 hd)
        refine into (D := 2) (by omega) hM_179 (rcv_mk rfl (by decide)) rfl fun d hd => ?_
        show runP MP d 179 (0, [some (.ref 16), some (.int (zI x)), some (.int (zI y)), some (.int (zI z)), none], [], _) = _
        rw [q_179_0]; (try simp only [li_0, li_3, li_30, li_98, li_124, zI_add, zI_sub, zI_mul, zI_neg, ↓Option.bind_some]); simp (disch := (first | assumption | exact tI_rg _ | omega | exact uR_at | exact row_ne hF (by decide) | exact row_ne (row_ne hF (by decide)) (by decide) | exact SnS_18 | exact SnS_30 | exact LdS_44 | exact LdS_46)) only [↓h138, ↓cc_124t, ↓h98, li_0, li_3, li_30, li_98, li_124, zI_add, zI_sub, zI_mul, zI_neg, ↓Option.bind_some, zIt2, uR_at, uR_ne, uR_uR, uC_uC, uC_at, ↓reduceIte, decide_eq_true_eq, leT, leF, ltT, ltF, eqT, eqF, ne_eq, not_true_eq_false, not_false_eq_true, Bool.false_eq_true, tI_zI]
      · have ha : a_tray x y z = 2 := (if_pos c1).trans ((if_pos c2).trans (if_neg c3))
        rw [ha]
        refine ⟨jE E, Or.inr rfl, ?_⟩
        show (_ : ResP) = some (Sum.inr 2, mk (jE E) F G)
        refine into (D := 2) (by omega) hM_179 (rcv_mk rfl (by decide)) rfl fun d hd => ?_
        show runP MP d 179 (0, [some (.ref 16), some (.int (zI x)), some (.int (zI y)), some (.int (zI z)), none], [], _) = _
        rw [q_179_0]; (try simp only [li_0, li_3, li_30, li_98, li_124, zI_add, zI_sub, zI_mul, zI_neg, ↓Option.bind_some]); simp (disch := (first | assumption | exact tI_rg _ | omega | exact uR_at | exact row_ne hF (by decide) | exact row_ne (row_ne hF (by decide)) (by decide) | exact SnS_18 | exact SnS_30 | exact LdS_44 | exact LdS_46)) only [↓h138, ↓cc_124t, ↓cc_124f, thr_eq, li_0, li_3, li_30, li_98, li_124, zI_add, zI_sub, zI_mul, zI_neg, ↓Option.bind_some, zIt2, uR_at, uR_ne, uR_uR, uC_uC, uC_at, ↓reduceIte, decide_eq_true_eq, leT, leF, ltT, ltF, eqT, eqF, ne_eq, not_true_eq_false, not_false_eq_true, Bool.false_eq_true, tI_zI]
    · have ha : a_tray x y z = 2 := (if_pos c1).trans (if_neg c2)
      rw [ha]
      refine ⟨jE E, Or.inr rfl, ?_⟩
      show (_ : ResP) = some (Sum.inr 2, mk (jE E) F G)
      refine into (D := 2) (by omega) hM_179 (rcv_mk rfl (by decide)) rfl fun d hd => ?_
      show runP MP d 179 (0, [some (.ref 16), some (.int (zI x)), some (.int (zI y)), some (.int (zI z)), none], [], _) = _
      rw [q_179_0]; (try simp only [li_0, li_3, li_30, li_98, li_124, zI_add, zI_sub, zI_mul, zI_neg, ↓Option.bind_some]); simp (disch := (first | assumption | exact tI_rg _ | omega | exact uR_at | exact row_ne hF (by decide) | exact row_ne (row_ne hF (by decide)) (by decide) | exact SnS_18 | exact SnS_30 | exact LdS_44 | exact LdS_46)) only [↓h138, ↓cc_124f, thr_eq, li_0, li_3, li_30, li_98, li_124, zI_add, zI_sub, zI_mul, zI_neg, ↓Option.bind_some, zIt2, uR_at, uR_ne, uR_uR, uC_uC, uC_at, ↓reduceIte, decide_eq_true_eq, leT, leF, ltT, ltF, eqT, eqF, ne_eq, not_true_eq_false, not_false_eq_true, Bool.false_eq_true, tI_zI]
  · have ha : a_tray x y z = 1 := if_neg c1
    rw [ha]
    refine ⟨jE E, Or.inr rfl, ?_⟩
    show (_ : ResP) = some (Sum.inr 0, mk (jE E) F G)
    have h138 : ∀ {kn : HeapP → ResP} {ka : Nat → HeapP → ResP} {kx : Nat → HeapP → ResP}, ∀ {d : Nat}, 1 ≤ d → cR (callP MP d 138 [.ref 16, .int (zI x)] (mk E F G)) kn ka kx = kx 0 (mk (jE E) F G) := fun {kn ka kx d} hd => cR_thr (ct_138f hx c1 hd)
    refine into (D := 2) (by omega) hM_179 (rcv_mk rfl (by decide)) rfl fun d hd => ?_
    show runP MP d 179 (0, [some (.ref 16), some (.int (zI x)), some (.int (zI y)), some (.int (zI z)), none], [], _) = _
    rw [q_179_0]; (try simp only [li_0, li_3, li_30, li_98, li_124, zI_add, zI_sub, zI_mul, zI_neg, ↓Option.bind_some]); simp (disch := (first | assumption | exact tI_rg _ | omega | exact uR_at | exact row_ne hF (by decide) | exact row_ne (row_ne hF (by decide)) (by decide) | exact SnS_18 | exact SnS_30 | exact LdS_44 | exact LdS_46)) only [↓h138, thr_eq, li_0, li_3, li_30, li_98, li_124, zI_add, zI_sub, zI_mul, zI_neg, ↓Option.bind_some, zIt2, uR_at, uR_ne, uR_uR, uC_uC, uC_at, ↓reduceIte, decide_eq_true_eq, leT, leF, ltT, ltF, eqT, eqF, ne_eq, not_true_eq_false, not_false_eq_true, Bool.false_eq_true, tI_zI]
def tmF (F : Nat → Int → Int32) (x y z : Int) : Nat → Int → Int32 := uR (uR (uR F 217 (uC (F 217) 5 (zI 0))) 243 (uC (F 243) x (zI y))) 244 (uC (F 244) x (zI z))
def tmG (G : Nat → Int → Int64) (x : Int) : Nat → Int → Int64 := uR G 245 (zrJ (G 245) (30 * x.toNat) 30)
theorem ml_tray {d : Nat} {E : EnQ} {F : Nat → Int → Int32} {G : Nat → Int → Int64} {x y z : Int} (hx : -2147483648 ≤ x ∧ x ≤ 2147483647) (hy : -2147483648 ≤ y ∧ y ≤ 2147483647) (hz : -2147483648 ≤ z ∧ z ≤ 2147483647) (hd : 3 ≤ d) : callP MP d 314 [.ref 217, .int (zI x), .int (zI y), .int (zI z)] (mk E F G) = some (Sum.inl none, mk E (if a_tray x y z = 0 then tmF F x y z else uR F 217 (uC (F 217) 5 (zI (a_tray x y z)))) (if a_tray x y z = 0 then tmG G x else G)) := by
  by_cases c1 : 0 ≤ x ∧ x < 4
  · by_cases c2 : 0 ≤ y ∧ y ≤ 3
    · by_cases c3 : 0 ≤ z ∧ z ≤ 30
      · have ha : a_tray x y z = 0 := (if_pos c1).trans ((if_pos c2).trans (if_pos c3))
        rw [ha]
        show (_ : ResP) = some (Sum.inl none, mk E (tmF F x y z) (tmG G x))
        have c1' : (if 0 ≤ x ∧ x < 4 then (1 : Int) else 0) = 1 := if_pos c1
        refine into (D := 2) (by omega) hM_314 (rcv_mk rfl (by decide)) rfl fun d hd => ?_
        show runP MP d 314 (0, [some (.ref 217), some (.int (zI x)), some (.int (zI y)), some (.int (zI z)), none], [], _) = _
        have hl : runP MP d 314 (69, [some (.ref 217), some (.int (zI x)), some (.int (zI y)), some (.int (zI z)), some (.int (zI 0))], [], mk E (tmF F x y z) G) = some (Sum.inl none, mk E (tmF F x y z) (tmG G x)) := by
          have h0 : mk E (tmF F x y z) G = mk E (tmF F x y z) (uR G 245 (zrJ (G 245) (30 * x.toNat) 0)) := by rw [zrJ_0, uR_self]
          rw [h0]
          refine (loopN (fun j : Nat => runP MP d 314 (69, [some (.ref 217), some (.int (zI x)), some (.int (zI y)), some (.int (zI z)), some (.int (zI (j : Int)))], [], mk E (tmF F x y z) (uR G 245 (zrJ (G 245) (30 * x.toNat) j)))) 30 (fun j hj => ?_)).trans ?_
          · show runP MP d 314 _ = runP MP d 314 _
            have e : zrJ (G 245) (30 * x.toNat) (j + 1) = uC (zrJ (G 245) (30 * x.toNat) j) (30 * x + j) (zJ 0) := by rw [zrJ_s]; exact congrArg (fun z => uC _ z _) (by omega)
            rw [e, nsucc]
            rw [q_314_69]; (try simp only [↓n_rd, ↓n_cI, li_0, li_1, li_2, li_3, li_5, li_12, li_30, lj_0, lj_1, lj_2, lj_3, lj_5, lj_12, lj_30, zJ_add, zJ_sub, zJ_mul, zJ_neg, zJ_l2i, zI_add, zI_sub, zI_mul, zI_neg, ↓Option.bind_some]); simp (disch := (first | assumption | exact tI_rg _ | omega | exact uR_at | exact row_ne hF (by decide) | exact row_ne (row_ne hF (by decide)) (by decide) | exact SnS_18 | exact SnS_30 | exact LdS_44 | exact LdS_46)) only [q_314_0, q_314_36, q_314_41, ↓n_rd, ↓n_cI, li_0, li_1, li_2, li_3, li_5, li_12, li_30, lj_0, lj_1, lj_2, lj_3, lj_5, lj_12, lj_30, zJ_add, zJ_sub, zJ_mul, zJ_neg, zJ_l2i, tJ_zJ, zI_add, zI_sub, zI_mul, zI_neg, ↓Option.bind_some, ↓g12_5, ↓g12_55, ↓g12_54, ↓g12_53, ↓p12_5, ↓al_243, ↓as_243, ↓al_244, ↓as_244, ↓al_245, ↓as_245, zIt2, uR_at, uR_ne, uR_uR, uC_uC, uC_at, ↓reduceIte, decide_eq_true_eq, leT, leF, ltT, ltF, eqT, eqF, ne_eq, not_true_eq_false, not_false_eq_true, Bool.false_eq_true, tI_zI]
          · show runP MP d 314 (69, [some (.ref 217), some (.int (zI x)), some (.int (zI y)), some (.int (zI z)), some (.int (zI 30))], [], mk E (tmF F x y z) (uR G 245 (zrJ (G 245) (30 * x.toNat) 30))) = _
            rw [q_314_69]; (try simp only [↓n_rd, ↓n_cI, li_0, li_1, li_2, li_3, li_5, li_12, li_30, lj_0, lj_1, lj_2, lj_3, lj_5, lj_12, lj_30, zJ_add, zJ_sub, zJ_mul, zJ_neg, zJ_l2i, zI_add, zI_sub, zI_mul, zI_neg, ↓Option.bind_some]); simp (disch := (first | assumption | exact tI_rg _ | omega | exact uR_at | exact row_ne hF (by decide) | exact row_ne (row_ne hF (by decide)) (by decide) | exact SnS_18 | exact SnS_30 | exact LdS_44 | exact LdS_46)) only [q_314_0, q_314_36, q_314_41, ↓n_rd, ↓n_cI, li_0, li_1, li_2, li_3, li_5, li_12, li_30, lj_0, lj_1, lj_2, lj_3, lj_5, lj_12, lj_30, zJ_add, zJ_sub, zJ_mul, zJ_neg, zJ_l2i, tJ_zJ, zI_add, zI_sub, zI_mul, zI_neg, ↓Option.bind_some, ↓g12_5, ↓g12_55, ↓g12_54, ↓g12_53, ↓p12_5, ↓al_243, ↓as_243, ↓al_244, ↓as_244, ↓al_245, ↓as_245, zIt2, uR_at, uR_ne, uR_uR, uC_uC, uC_at, ↓reduceIte, decide_eq_true_eq, leT, leF, ltT, ltF, eqT, eqF, ne_eq, not_true_eq_false, not_false_eq_true, Bool.false_eq_true, tI_zI]
            rfl
        unfold tmF at hl ⊢
        rw [q_314_0]; (try simp only [↓n_rd, ↓n_cI, li_0, li_1, li_2, li_3, li_5, li_12, li_30, lj_0, lj_1, lj_2, lj_3, lj_5, lj_12, lj_30, zJ_add, zJ_sub, zJ_mul, zJ_neg, zJ_l2i, zI_add, zI_sub, zI_mul, zI_neg, ↓Option.bind_some]); simp (disch := (first | assumption | exact tI_rg _ | omega | exact uR_at | exact row_ne hF (by decide) | exact row_ne (row_ne hF (by decide)) (by decide) | exact SnS_18 | exact SnS_30 | exact LdS_44 | exact LdS_46)) only [q_314_36, q_314_41, ↓cc_236, c1', ↓cc_188t, zI_i2l, ↓hl, ↓n_rd, ↓n_cI, li_0, li_1, li_2, li_3, li_5, li_12, li_30, lj_0, lj_1, lj_2, lj_3, lj_5, lj_12, lj_30, zJ_add, zJ_sub, zJ_mul, zJ_neg, zJ_l2i, tJ_zJ, zI_add, zI_sub, zI_mul, zI_neg, ↓Option.bind_some, ↓g12_5, ↓g12_55, ↓g12_54, ↓g12_53, ↓p12_5, ↓al_243, ↓as_243, ↓al_244, ↓as_244, ↓al_245, ↓as_245, zIt2, uR_at, uR_ne, uR_uR, uC_uC, uC_at, ↓reduceIte, decide_eq_true_eq, leT, leF, ltT, ltF, eqT, eqF, ne_eq, not_true_eq_false, not_false_eq_true, Bool.false_eq_true, tI_zI]
      · have ha : a_tray x y z = 2 := (if_pos c1).trans ((if_pos c2).trans (if_neg c3))
        have c1' : (if 0 ≤ x ∧ x < 4 then (1 : Int) else 0) = 1 := if_pos c1
        rw [ha]
        show (_ : ResP) = some (Sum.inl none, mk E (uR F 217 (uC (F 217) 5 (zI 2))) G)
        refine into (D := 2) (by omega) hM_314 (rcv_mk rfl (by decide)) rfl fun d hd => ?_
        show runP MP d 314 (0, [some (.ref 217), some (.int (zI x)), some (.int (zI y)), some (.int (zI z)), none], [], _) = _
        rw [q_314_0]; (try simp only [↓n_rd, ↓n_cI, li_0, li_1, li_2, li_3, li_5, li_12, li_30, lj_0, lj_1, lj_2, lj_3, lj_5, lj_12, lj_30, zJ_add, zJ_sub, zJ_mul, zJ_neg, zJ_l2i, zI_add, zI_sub, zI_mul, zI_neg, ↓Option.bind_some]); simp (disch := (first | assumption | exact tI_rg _ | omega | exact uR_at | exact row_ne hF (by decide) | exact row_ne (row_ne hF (by decide)) (by decide) | exact SnS_18 | exact SnS_30 | exact LdS_44 | exact LdS_46)) only [q_314_36, q_314_41, ↓cc_236, c1', ↓cc_188t, ↓cc_188f, zI_i2l, ↓n_rd, ↓n_cI, li_0, li_1, li_2, li_3, li_5, li_12, li_30, lj_0, lj_1, lj_2, lj_3, lj_5, lj_12, lj_30, zJ_add, zJ_sub, zJ_mul, zJ_neg, zJ_l2i, tJ_zJ, zI_add, zI_sub, zI_mul, zI_neg, ↓Option.bind_some, ↓g12_5, ↓g12_55, ↓g12_54, ↓g12_53, ↓p12_5, ↓al_243, ↓as_243, ↓al_244, ↓as_244, ↓al_245, ↓as_245, zIt2, uR_at, uR_ne, uR_uR, uC_uC, uC_at, ↓reduceIte, decide_eq_true_eq, leT, leF, ltT, ltF, eqT, eqF, ne_eq, not_true_eq_false, not_false_eq_true, Bool.false_eq_true, tI_zI]
    · have ha : a_tray x y z = 2 := (if_pos c1).trans (if_neg c2)
      have c1' : (if 0 ≤ x ∧ x < 4 then (1 : Int) else 0) = 1 := if_pos c1
      rw [ha]
      show (_ : ResP) = some (Sum.inl none, mk E (uR F 217 (uC (F 217) 5 (zI 2))) G)
      refine into (D := 2) (by omega) hM_314 (rcv_mk rfl (by decide)) rfl fun d hd => ?_
      show runP MP d 314 (0, [some (.ref 217), some (.int (zI x)), some (.int (zI y)), some (.int (zI z)), none], [], _) = _
      rw [q_314_0]; (try simp only [↓n_rd, ↓n_cI, li_0, li_1, li_2, li_3, li_5, li_12, li_30, lj_0, lj_1, lj_2, lj_3, lj_5, lj_12, lj_30, zJ_add, zJ_sub, zJ_mul, zJ_neg, zJ_l2i, zI_add, zI_sub, zI_mul, zI_neg, ↓Option.bind_some]); simp (disch := (first | assumption | exact tI_rg _ | omega | exact uR_at | exact row_ne hF (by decide) | exact row_ne (row_ne hF (by decide)) (by decide) | exact SnS_18 | exact SnS_30 | exact LdS_44 | exact LdS_46)) only [q_314_36, q_314_41, ↓cc_236, c1', ↓cc_188f, zI_i2l, ↓n_rd, ↓n_cI, li_0, li_1, li_2, li_3, li_5, li_12, li_30, lj_0, lj_1, lj_2, lj_3, lj_5, lj_12, lj_30, zJ_add, zJ_sub, zJ_mul, zJ_neg, zJ_l2i, tJ_zJ, zI_add, zI_sub, zI_mul, zI_neg, ↓Option.bind_some, ↓g12_5, ↓g12_55, ↓g12_54, ↓g12_53, ↓p12_5, ↓al_243, ↓as_243, ↓al_244, ↓as_244, ↓al_245, ↓as_245, zIt2, uR_at, uR_ne, uR_uR, uC_uC, uC_at, ↓reduceIte, decide_eq_true_eq, leT, leF, ltT, ltF, eqT, eqF, ne_eq, not_true_eq_false, not_false_eq_true, Bool.false_eq_true, tI_zI]
  · have ha : a_tray x y z = 1 := if_neg c1
    have c1' : (if 0 ≤ x ∧ x < 4 then (1 : Int) else 0) = 0 := if_neg c1
    rw [ha]
    show (_ : ResP) = some (Sum.inl none, mk E (uR F 217 (uC (F 217) 5 (zI 1))) G)
    refine into (D := 2) (by omega) hM_314 (rcv_mk rfl (by decide)) rfl fun d hd => ?_
    show runP MP d 314 (0, [some (.ref 217), some (.int (zI x)), some (.int (zI y)), some (.int (zI z)), none], [], _) = _
    rw [q_314_0]; (try simp only [↓n_rd, ↓n_cI, li_0, li_1, li_2, li_3, li_5, li_12, li_30, lj_0, lj_1, lj_2, lj_3, lj_5, lj_12, lj_30, zJ_add, zJ_sub, zJ_mul, zJ_neg, zJ_l2i, zI_add, zI_sub, zI_mul, zI_neg, ↓Option.bind_some]); simp (disch := (first | assumption | exact tI_rg _ | omega | exact uR_at | exact row_ne hF (by decide) | exact row_ne (row_ne hF (by decide)) (by decide) | exact SnS_18 | exact SnS_30 | exact LdS_44 | exact LdS_46)) only [q_314_36, q_314_41, ↓cc_236, c1', zI_i2l, ↓n_rd, ↓n_cI, li_0, li_1, li_2, li_3, li_5, li_12, li_30, lj_0, lj_1, lj_2, lj_3, lj_5, lj_12, lj_30, zJ_add, zJ_sub, zJ_mul, zJ_neg, zJ_l2i, tJ_zJ, zI_add, zI_sub, zI_mul, zI_neg, ↓Option.bind_some, ↓g12_5, ↓g12_55, ↓g12_54, ↓g12_53, ↓p12_5, ↓al_243, ↓as_243, ↓al_244, ↓as_244, ↓al_245, ↓as_245, zIt2, uR_at, uR_ne, uR_uR, uC_uC, uC_at, ↓reduceIte, decide_eq_true_eq, leT, leF, ltT, ltF, eqT, eqF, ne_eq, not_true_eq_false, not_false_eq_true, Bool.false_eq_true, tI_zI]
end S94s
