/-! CALLS: perform, judge, behind -/
section S94g
set_option linter.unusedVariables false
set_option linter.unusedSimpArgs false
def tdA (G : Nat → Int → Int64) (x : Int) : Int → Int := fun i => tJ (G 245 (30 * x + i))
def tdM (F : Nat → Int → Int32) (x : Int) : Nat := (tI (F 244 x)).toNat
theorem wysN_lt {K : Int → Int32} (hI : InvK K) : wysN K < 4294967296 := by
  have b2 := hI.1.2.2.1
  have b5 := hI.1.2.2.2.2.2.1
  refine orN_lt (k := 32) fun j hj => ?_
  have hw := (pr_in hI (i := (j : Int)) (by omega) (by omega)).1
  exact Nat.pow_lt_pow_right (by omega) (by omega)
theorem tolC_no {K : Int → Int32} {a : Int → Int} {m : Nat} (h : tolC K a m < m) : whyT (tolK K a m) (a (tolC K a m)) ≠ 0 := by
  rcases fndN_is (fun i => decide (whyT (tolS K a i) (a i) ≠ 0)) m 0 with ⟨e, -⟩ | ⟨k, -, hk, e, hp, -⟩
  · have e2 : tolC K a m = m := by unfold tolC; rw [if_pos e]
    omega
  · have e2 : tolC K a m = (k : Int) := by unfold tolC; rw [e, if_neg (by omega)]
    unfold tolK
    rw [e2, show ((k : Int)).toNat = k by omega]
    exact of_decide_eq_true hp
def a_perform (K : Int → Int32) (F : Nat → Int → Int32) (G : Nat → Int → Int64) (x : Int) : Int × Int := if 0 ≤ x ∧ x < 4 then (if tI (F 243 x) = -1 then (2, 0) else (0, tolC K (tdA G x) (tdM F x))) else (1, 0)
def s_perform (K : Int → Int32) (F : Nat → Int → Int32) (G : Nat → Int → Int64) (x : Int) : Int → Int32 := if 0 ≤ x ∧ x < 4 then (if tI (F 243 x) = -1 then K else tolK K (tdA G x) (tdM F x)) else K
def v_judge (K : Int → Int32) (F : Nat → Int → Int32) (G : Nat → Int → Int64) (x y : Int) : Int := if y = 0 then (if tolC K (tdA G x) (tdM F x) < tdM F x then tolC K (tdA G x) (tdM F x) else -1) else if y = 1 then (if tolC K (tdA G x) (tdM F x) < tdM F x then whyT (tolK K (tdA G x) (tdM F x)) (tdA G x (tolC K (tdA G x) (tdM F x))) else 0) else if y = 2 then tI (tolK K (tdA G x) (tdM F x) 5) else popZ (wysN (tolK K (tdA G x) (tdM F x)))
def a_judge (K : Int → Int32) (F : Nat → Int → Int32) (G : Nat → Int → Int64) (x y : Int) : Int × Int := if 0 ≤ x ∧ x < 4 then (if tI (F 243 x) = -1 then (2, 0) else if 0 ≤ y ∧ y ≤ 3 then (0, v_judge K F G x y) else (3, 0)) else (1, 0)
def a_behind (K : Int → Int32) (F : Nat → Int → Int32) (G : Nat → Int → Int64) (x y z : Int) : Int × Int := if (0 ≤ y ∧ y < tI (K 1)) ∧ (0 ≤ z ∧ z < tI (K 1)) ∧ 0 ≤ x ∧ x < 4 then (if tI (F 243 x) = -1 then (2, 0) else (0, cntN (fun k : Nat => prW (tolK K (tdA G x) (tdM F x)) k == wayZ K y z) (tI (tolK K (tdA G x) (tdM F x) 5)).toNat)) else (1, 0)
theorem cl_perform {d : Nat} {E : EnQ} {F : Nat → Int → Int32} {G : Nat → Int → Int64} {K : Int → Int32} (hO : SnO E F 18 K) (hD : SepP E 18) (hst : stepsZ K < 1999000000) (hT : TrR E F G) {x : Int} (hx : -2147483648 ≤ x ∧ x ≤ 2147483647) (hd : 6 ≤ d) : ∃ E1 F1, (E1 = E ∨ E1 = jE E) ∧ callP MP d 141 [.ref 16, .int (zI x)] (mk E F G) = some (thrP [0, 1] (a_perform K F G x), mk E1 F1 G) ∧ SnO E F1 18 (s_perform K F G x) ∧ OthS 18 F F1 := by
  by_cases c1 : 0 ≤ x ∧ x < 4
  · by_cases c2 : tI (F 243 x) = -1
    · have ha : a_perform K F G x = (2, 0) := (if_pos c1).trans (if_pos c2)
      have hk : s_perform K F G x = K := (if_pos c1).trans (if_pos c2)
      refine ⟨jE E, F, Or.inr rfl, ?_, by rw [hk]; exact hO, OthS_rf⟩
      rw [show thrP [0, 1] (a_perform K F G x) = Sum.inr 1 by rw [ha]; rfl]
      refine into (D := 5) (by omega) hM_141 (rcv_mk rfl (by decide)) rfl fun d hd => ?_
      show runP MP d 141 (0, [some (.ref 16), some (.int (zI x))], [], _) = _
      rw [q_141_0]; (try simp only [↓n_cI, li_0, li_4, zI_add, zI_sub, zI_mul, zI_neg, ↓Option.bind_some]); simp (disch := (first | assumption | exact tI_rg _ | omega | exact uR_at | exact row_ne hF (by decide) | exact row_ne (row_ne hF (by decide)) (by decide) | exact SnS_18 | exact SnS_30 | exact LdS_44 | exact LdS_46)) only [↓cc_137m hT, thr_eq, ↓n_cI, li_0, li_4, zI_add, zI_sub, zI_mul, zI_neg, ↓Option.bind_some, ↓g11_4, zIt2, uR_at, uR_ne, uR_uR, uC_uC, uC_at, ↓reduceIte, decide_eq_true_eq, leT, leF, ltT, ltF, eqT, eqF, ne_eq, not_true_eq_false, not_false_eq_true, Bool.false_eq_true, tI_zI]
    · have ha : a_perform K F G x = (0, tolC K (tdA G x) (tdM F x)) := (if_pos c1).trans (if_neg c2)
      have hk : s_perform K F G x = tolK K (tdA G x) (tdM F x) := (if_pos c1).trans (if_neg c2)
      obtain ⟨q1, q2, q3, q4, q5, q6⟩ := TrR_x hT c1
      have hTS := TrS_x (E := E) c1
      have hm30 : tdM F x ≤ 30 := by unfold tdM; omega
      have hmF : tI (F 244 x) = tdM F x := by unfold tdM; omega
      have hmC : tI (F (trH x) 1) = tdM F x := by rw [q3, hmF]
      have hA : ∀ i : Nat, i < tdM F x → tJ (G (trH x + 1) i) = tdA G x i := fun i hi => by rw [q6 i (by omega) (by omega)]; rfl
      have hxn : trH x = 209 ∨ trH x = 211 ∨ trH x = 213 ∨ trH x = 215 := by unfold trH; omega
      have htr := tolC_rg K (tdA G x) (tdM F x)
      obtain ⟨F1, r1, o1, t1⟩ := ct_139 (d := d - 1) (G := G) hO hD (by omega) hTS hmC hm30 hA (by omega) (by omega)
      refine ⟨E, F1, Or.inl rfl, ?_, by rw [hk]; exact o1, t1⟩
      rw [show thrP [0, 1] (a_perform K F G x) = Sum.inl (some (.int (zI (tolC K (tdA G x) (tdM F x))))) by rw [ha]; rfl]
      obtain ⟨e, rfl⟩ : ∃ e, d = e + 1 := ⟨d - 1, by omega⟩
      have hin : callP MP (e + 1) 141 [.ref 16, .int (zI x)] (mk E F G) = runP MP e 141 (0, [some (.ref 16), some (.int (zI x))], [], mk E F G) := into_eq (by omega) hM_141 (rcv_mk rfl (by decide)) rfl
      have r1 : callP MP e 139 [.ref 18, .ref (trH x)] (mk E F G) = some (Sum.inl (some (.int (zI (tolC K (tdA G x) (tdM F x))))), mk E F1 G) := r1
      have h139 : ∀ {kk : Int → HeapP → ResP} {kx : Nat → HeapP → ResP}, cT (callP MP e 139 [.ref 18, .ref (trH x)] (mk E F G)) kk kx = kk (tolC K (tdA G x) (tdM F x)) (mk E F1 G) := fun {kk kx} => cT_ret r1 (by omega)
      rw [hin]
      rw [q_141_0]; (try simp only [↓n_cI, li_0, li_4, zI_add, zI_sub, zI_mul, zI_neg, ↓Option.bind_some]); simp (disch := (first | assumption | exact tI_rg _ | omega | exact uR_at | exact row_ne hF (by decide) | exact row_ne (row_ne hF (by decide)) (by decide) | exact SnS_18 | exact SnS_30 | exact LdS_44 | exact LdS_46)) only [↓cc_137t hT, ↓h139, ↓n_cI, li_0, li_4, zI_add, zI_sub, zI_mul, zI_neg, ↓Option.bind_some, ↓g11_4, zIt2, uR_at, uR_ne, uR_uR, uC_uC, uC_at, ↓reduceIte, decide_eq_true_eq, leT, leF, ltT, ltF, eqT, eqF, ne_eq, not_true_eq_false, not_false_eq_true, Bool.false_eq_true, tI_zI]
  · have ha : a_perform K F G x = (1, 0) := if_neg c1
    have hk : s_perform K F G x = K := if_neg c1
    refine ⟨jE E, F, Or.inr rfl, ?_, by rw [hk]; exact hO, OthS_rf⟩
    rw [show thrP [0, 1] (a_perform K F G x) = Sum.inr 0 by rw [ha]; rfl]
    refine into (D := 5) (by omega) hM_141 (rcv_mk rfl (by decide)) rfl fun d hd => ?_
    show runP MP d 141 (0, [some (.ref 16), some (.int (zI x))], [], _) = _
    rw [q_141_0]; (try simp only [↓n_cI, li_0, li_4, zI_add, zI_sub, zI_mul, zI_neg, ↓Option.bind_some]); simp (disch := (first | assumption | exact tI_rg _ | omega | exact uR_at | exact row_ne hF (by decide) | exact row_ne (row_ne hF (by decide)) (by decide) | exact SnS_18 | exact SnS_30 | exact LdS_44 | exact LdS_46)) only [↓cc_137f, thr_eq, ↓n_cI, li_0, li_4, zI_add, zI_sub, zI_mul, zI_neg, ↓Option.bind_some, ↓g11_4, zIt2, uR_at, uR_ne, uR_uR, uC_uC, uC_at, ↓reduceIte, decide_eq_true_eq, leT, leF, ltT, ltF, eqT, eqF, ne_eq, not_true_eq_false, not_false_eq_true, Bool.false_eq_true, tI_zI]
theorem ml_perform {d : Nat} {E : EnQ} {F : Nat → Int → Int32} {G : Nat → Int → Int64} {K : Int → Int32} (hI : InvK K) (hF : F 218 = K) (hc : tI (F 217 18) = 0) (hst : stepsZ K < 1999000000) (h44 : ∀ x, 0 ≤ x → x < 4 → 0 ≤ tI (F 244 x) ∧ tI (F 244 x) ≤ 30) {x : Int} (hx : -2147483648 ≤ x ∧ x ≤ 2147483647) (hd : 6 ≤ d) : callP MP d 241 [.ref 217, .int (zI x)] (mk E F G) = some (Sum.inl (some (.int (zI (a_perform K F G x).2))), mk E (uR (uR F 217 (uC (F 217) 5 (zI (a_perform K F G x).1))) 218 (s_perform K F G x)) G) := by
  have hc' : ∀ r, uR F 217 (uC (F 217) 5 r) 217 18 = F 217 18 := fun r => by rw [uR_at, uC_ne (by omega)]
  have hK : ∀ {r}, uR (uR F 217 r) 218 K = uR F 217 r := fun {r} => by rw [← hF, ← (uR_ne (show (218 : Nat) ≠ 217 by decide) : uR F 217 r 218 = F 218), uR_self]
  by_cases c1 : 0 ≤ x ∧ x < 4
  · have q5 := h44 x c1.1 c1.2
    by_cases c2 : tI (F 243 x) = -1
    · have ha : a_perform K F G x = (2, 0) := (if_pos c1).trans (if_pos c2)
      have hk : s_perform K F G x = K := (if_pos c1).trans (if_pos c2)
      have ht : tfZ F x = 2 := (if_pos c1).trans (if_pos c2)
      rw [ha, hk, hK]
      show (_ : ResP) = some (Sum.inl (some (.int (zI 0))), mk E (uR F 217 (uC (F 217) 5 (zI 2))) G)
      refine into (D := 5) (by omega) hM_241 (rcv_mk rfl (by decide)) rfl fun d hd => ?_
      show runP MP d 241 (0, [some (.ref 217), some (.int (zI x))], [], _) = _
      rw [q_241_0]; (try simp only [↓n_rd, ↓n_cI, li_0, li_5, li_12, zI_add, zI_sub, zI_mul, zI_neg, ↓Option.bind_some]); simp (disch := (first | assumption | exact tI_rg _ | omega | exact uR_at | exact row_ne hF (by decide) | exact row_ne (row_ne hF (by decide)) (by decide) | exact SnS_18 | exact SnS_30 | exact LdS_44 | exact LdS_46)) only [q_241_25, ↓cc_235, ht, ↓n_rd, ↓n_cI, li_0, li_5, li_12, zI_add, zI_sub, zI_mul, zI_neg, ↓Option.bind_some, ↓g12_5, ↓p12_5, zIt2, uR_at, uR_ne, uR_uR, uC_uC, uC_at, ↓reduceIte, decide_eq_true_eq, leT, leF, ltT, ltF, eqT, eqF, ne_eq, not_true_eq_false, not_false_eq_true, Bool.false_eq_true, tI_zI]
    · have ha : a_perform K F G x = (0, tolC K (tdA G x) (tdM F x)) := (if_pos c1).trans (if_neg c2)
      have hk : s_perform K F G x = tolK K (tdA G x) (tdM F x) := (if_pos c1).trans (if_neg c2)
      have ht : tfZ F x = 0 := (if_pos c1).trans (if_neg c2)
      have hm30 : tdM F x ≤ 30 := by unfold tdM; omega
      have hmF : tI (F 244 x) = tdM F x := by unfold tdM; omega
      have htr := tolC_rg K (tdA G x) (tdM F x)
      rw [ha, hk]
      show (_ : ResP) = some (Sum.inl (some (.int (zI (tolC K (tdA G x) (tdM F x))))), mk E (uR (uR F 217 (uC (F 217) 5 (zI 0))) 218 (tolK K (tdA G x) (tdM F x))) G)
      refine into (D := 5) (by omega) hM_241 (rcv_mk rfl (by decide)) rfl fun d hd => ?_
      show runP MP d 241 (0, [some (.ref 217), some (.int (zI x))], [], _) = _
      have h237 : ∀ {kk : Int → HeapP → ResP} {kx : Nat → HeapP → ResP}, cT (callP MP d 237 [.ref 217, .int (zI x)] (mk E (uR F 217 (uC (F 217) 5 (zI 0))) G)) kk kx = kk (tolC K (tdA G x) (tdM F x)) (mk E (uR (uR F 217 (uC (F 217) 5 (zI 0))) 218 (tolK K (tdA G x) (tdM F x))) G) := fun {kk kx} => by
        rw [cc_237 hI (row_ne hF (by decide)) (by rw [hc']; exact hc) (by omega) c1 (A := tdA G x) (m := tdM F x) (by rw [uR_ne (by decide)]; exact hmF) hm30 (fun i hi => rfl) (by omega)]
      rw [q_241_0]; (try simp only [↓n_rd, ↓n_cI, li_0, li_5, li_12, zI_add, zI_sub, zI_mul, zI_neg, ↓Option.bind_some]); simp (disch := (first | assumption | exact tI_rg _ | omega | exact uR_at | exact row_ne hF (by decide) | exact row_ne (row_ne hF (by decide)) (by decide) | exact SnS_18 | exact SnS_30 | exact LdS_44 | exact LdS_46)) only [q_241_25, ↓cc_235, ht, ↓h237, ↓n_rd, ↓n_cI, li_0, li_5, li_12, zI_add, zI_sub, zI_mul, zI_neg, ↓Option.bind_some, ↓g12_5, ↓p12_5, zIt2, uR_at, uR_ne, uR_uR, uC_uC, uC_at, ↓reduceIte, decide_eq_true_eq, leT, leF, ltT, ltF, eqT, eqF, ne_eq, not_true_eq_false, not_false_eq_true, Bool.false_eq_true, tI_zI]
  · have ha : a_perform K F G x = (1, 0) := if_neg c1
    have hk : s_perform K F G x = K := if_neg c1
    have ht : tfZ F x = 1 := if_neg c1
    rw [ha, hk, hK]
    show (_ : ResP) = some (Sum.inl (some (.int (zI 0))), mk E (uR F 217 (uC (F 217) 5 (zI 1))) G)
    refine into (D := 5) (by omega) hM_241 (rcv_mk rfl (by decide)) rfl fun d hd => ?_
    show runP MP d 241 (0, [some (.ref 217), some (.int (zI x))], [], _) = _
    rw [q_241_0]; (try simp only [↓n_rd, ↓n_cI, li_0, li_5, li_12, zI_add, zI_sub, zI_mul, zI_neg, ↓Option.bind_some]); simp (disch := (first | assumption | exact tI_rg _ | omega | exact uR_at | exact row_ne hF (by decide) | exact row_ne (row_ne hF (by decide)) (by decide) | exact SnS_18 | exact SnS_30 | exact LdS_44 | exact LdS_46)) only [q_241_25, ↓cc_235, ht, ↓n_rd, ↓n_cI, li_0, li_5, li_12, zI_add, zI_sub, zI_mul, zI_neg, ↓Option.bind_some, ↓g12_5, ↓p12_5, zIt2, uR_at, uR_ne, uR_uR, uC_uC, uC_at, ↓reduceIte, decide_eq_true_eq, leT, leF, ltT, ltF, eqT, eqF, ne_eq, not_true_eq_false, not_false_eq_true, Bool.false_eq_true, tI_zI]
end S94g
