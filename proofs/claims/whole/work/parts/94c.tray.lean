/-! trays -/
section S94c
set_option linter.unusedVariables false
set_option linter.unusedSimpArgs false
/-- trays on both sides -/
def TrR (E : EnQ) (F : Nat → Int → Int32) (G : Nat → Int → Int64) : Prop := ∀ t : Nat, t < 4 → E.2.2.2 43 (t : Int) = 209 + 2 * t ∧ F (209 + 2 * t) 0 = F 243 (t : Int) ∧ F (209 + 2 * t) 1 = F 244 (t : Int) ∧ (-1 ≤ tI (F 243 (t : Int)) ∧ tI (F 243 (t : Int)) ≤ 3) ∧ (0 ≤ tI (F 244 (t : Int)) ∧ tI (F 244 (t : Int)) ≤ 30) ∧ (∀ i, 0 ≤ i → i < 30 → G (209 + 2 * t + 1) i = G 245 (30 * (t : Int) + i))
def trH (x : Int) : Nat := 209 + 2 * x.toNat
theorem TrS_all {E : EnQ} {t : Nat} (h : t < 4) : TrS E (209 + 2 * t) := by
  match t, h with
  | 0, _ => exact TrS_209
  | 1, _ => exact TrS_211
  | 2, _ => exact TrS_213
  | 3, _ => exact TrS_215
theorem TrS_x {E : EnQ} {x : Int} (h : 0 ≤ x ∧ x < 4) : TrS E (trH x) := TrS_all (by omega)
theorem TrR_x {E : EnQ} {F : Nat → Int → Int32} {G : Nat → Int → Int64} (h : TrR E F G) {x : Int} (hx : 0 ≤ x ∧ x < 4) : E.2.2.2 43 x = trH x ∧ F (trH x) 0 = F 243 x ∧ F (trH x) 1 = F 244 x ∧ (-1 ≤ tI (F 243 x) ∧ tI (F 243 x) ≤ 3) ∧ (0 ≤ tI (F 244 x) ∧ tI (F 244 x) ≤ 30) ∧ (∀ i, 0 ≤ i → i < 30 → G (trH x + 1) i = G 245 (30 * x + i)) := by
  have := h x.toNat (by omega)
  rw [show ((x.toNat : Nat) : Int) = x by omega] at this
  exact this
theorem ct_138t {d : Nat} {E : EnQ} {F : Nat → Int → Int32} {G : Nat → Int → Int64} (hT : TrR E F G) {x : Int} (hx : 0 ≤ x ∧ x < 4) (hd : 1 ≤ d) : callP MP d 138 [.ref 16, .int (zI x)] (mk E F G) = some (Sum.inl (some (.ref (trH x))), mk E F G) := by
  obtain ⟨t1, -⟩ := TrR_x hT hx
  refine into (D := 0) (by omega) hM_138 (rcv_mk rfl (by decide)) rfl fun d hd => ?_
  show runP MP d 138 (0, [some (.ref 16), some (.int (zI x))], [], _) = _
  have hlen : ∀ {f : Int → ResP}, (lenT (mk E F G) 43).bind f = f 4 := fun {f} => len_R (E := E) (a := 43) (ty := 5) (n := 4) rfl (by decide)
  have hn : E.2.2.2 43 x ≠ 0 := by rw [t1]; unfold trH; omega
  have hr : ∀ {kn : ResP} {ka : Nat → ResP}, dR (aldR (mk E F G) 5 43 (zI x)) kn ka = ka (trH x) := fun {kn ka} => by
    rw [alR_b (E := E) (a := 43) (ty := 5) (n := 4) rfl (by omega) (by decide) hn]
    exact congrArg ka t1
  rw [q_138_0]; (try simp only [↓n_len, li_0, li_1, li_5, li_6, li_7, zI_add, zI_sub, zI_mul, zI_neg, ↓Option.bind_some]); simp (disch := (first | assumption | exact tI_rg _ | omega | exact uR_at | exact row_ne hF (by decide) | exact row_ne (row_ne hF (by decide)) (by decide) | exact SnS_18 | exact SnS_30 | exact LdS_44 | exact LdS_46)) only [q_138_22, ↓hlen, ↓hr, ↓n_len, jnk_mk, li_0, li_1, li_5, li_6, li_7, zI_add, zI_sub, zI_mul, zI_neg, ↓Option.bind_some, ↓g11_7, zIt2, uR_at, uR_ne, uR_uR, uC_uC, uC_at, ↓reduceIte, decide_eq_true_eq, leT, leF, ltT, ltF, eqT, eqF, ne_eq, not_true_eq_false, not_false_eq_true, Bool.false_eq_true, tI_zI]
theorem ct_138f {d : Nat} {E : EnQ} {F : Nat → Int → Int32} {G : Nat → Int → Int64} {x : Int} (hxr : -2147483648 ≤ x ∧ x ≤ 2147483647) (hx : ¬ (0 ≤ x ∧ x < 4)) (hd : 1 ≤ d) : callP MP d 138 [.ref 16, .int (zI x)] (mk E F G) = some (Sum.inr 0, mk (jE E) F G) := by
  refine into (D := 0) (by omega) hM_138 (rcv_mk rfl (by decide)) rfl fun d hd => ?_
  show runP MP d 138 (0, [some (.ref 16), some (.int (zI x))], [], _) = _
  have hlen : ∀ {f : Int → ResP}, (lenT (mk E F G) 43).bind f = f 4 := fun {f} => len_R (E := E) (a := 43) (ty := 5) (n := 4) rfl (by decide)
  by_cases h : x < 0
  · rw [q_138_0]; (try simp only [↓n_len, li_0, li_1, li_5, li_6, li_7, zI_add, zI_sub, zI_mul, zI_neg, ↓Option.bind_some]); simp (disch := (first | assumption | exact tI_rg _ | omega | exact uR_at | exact row_ne hF (by decide) | exact row_ne (row_ne hF (by decide)) (by decide) | exact SnS_18 | exact SnS_30 | exact LdS_44 | exact LdS_46)) only [q_138_22, ↓hlen, ↓n_len, jnk_mk, li_0, li_1, li_5, li_6, li_7, zI_add, zI_sub, zI_mul, zI_neg, ↓Option.bind_some, ↓g11_7, zIt2, uR_at, uR_ne, uR_uR, uC_uC, uC_at, ↓reduceIte, decide_eq_true_eq, leT, leF, ltT, ltF, eqT, eqF, ne_eq, not_true_eq_false, not_false_eq_true, Bool.false_eq_true, tI_zI]
  · rw [q_138_0]; (try simp only [↓n_len, li_0, li_1, li_5, li_6, li_7, zI_add, zI_sub, zI_mul, zI_neg, ↓Option.bind_some]); simp (disch := (first | assumption | exact tI_rg _ | omega | exact uR_at | exact row_ne hF (by decide) | exact row_ne (row_ne hF (by decide)) (by decide) | exact SnS_18 | exact SnS_30 | exact LdS_44 | exact LdS_46)) only [q_138_22, ↓hlen, ↓n_len, jnk_mk, li_0, li_1, li_5, li_6, li_7, zI_add, zI_sub, zI_mul, zI_neg, ↓Option.bind_some, ↓g11_7, zIt2, uR_at, uR_ne, uR_uR, uC_uC, uC_at, ↓reduceIte, decide_eq_true_eq, leT, leF, ltT, ltF, eqT, eqF, ne_eq, not_true_eq_false, not_false_eq_true, Bool.false_eq_true, tI_zI]
theorem ct_94 {d : Nat} {E : EnQ} {F : Nat → Int → Int32} {G : Nat → Int → Int64} {a : Nat} (hS : TrS E a) (hd : 1 ≤ d) : callP MP d 94 [.ref a] (mk E F G) = some (Sum.inl (some (.int (zI (if tI (F a 0) = -1 then 1 else 0)))), mk E F G) := by

  have hs := hS.1
  have hr := tI_rg (F a 0)
  refine into (D := 0) (by omega) hM_94 (rcv_mk hs (by decide)) rfl fun d hd => ?_
  show runP MP d 94 (0, [some (.ref a)], [], _) = _
  by_cases h : tI (F a 0) = -1
  · rw [if_pos h]; rw [q_94_0]; (try simp only [↓n_rd, li_0, li_1, li_7, li_13, zI_add, zI_sub, zI_mul, zI_neg, ↓Option.bind_some]); simp (disch := (first | assumption | exact tI_rg _ | omega | exact uR_at | exact row_ne hF (by decide) | exact row_ne (row_ne hF (by decide)) (by decide) | exact SnS_18 | exact SnS_30 | exact LdS_44 | exact LdS_46)) only [q_94_13, ↓n_rd, retZ_z, li_0, li_1, li_7, li_13, zI_add, zI_sub, zI_mul, zI_neg, ↓Option.bind_some, ↓g7_0, zIt2, uR_at, uR_ne, uR_uR, uC_uC, uC_at, ↓reduceIte, decide_eq_true_eq, leT, leF, ltT, ltF, eqT, eqF, ne_eq, not_true_eq_false, not_false_eq_true, Bool.false_eq_true, tI_zI]
  · rw [if_neg h]; rw [q_94_0]; (try simp only [↓n_rd, li_0, li_1, li_7, li_13, zI_add, zI_sub, zI_mul, zI_neg, ↓Option.bind_some]); simp (disch := (first | assumption | exact tI_rg _ | omega | exact uR_at | exact row_ne hF (by decide) | exact row_ne (row_ne hF (by decide)) (by decide) | exact SnS_18 | exact SnS_30 | exact LdS_44 | exact LdS_46)) only [q_94_13, ↓n_rd, retZ_z, li_0, li_1, li_7, li_13, zI_add, zI_sub, zI_mul, zI_neg, ↓Option.bind_some, ↓g7_0, zIt2, uR_at, uR_ne, uR_uR, uC_uC, uC_at, ↓reduceIte, decide_eq_true_eq, leT, leF, ltT, ltF, eqT, eqF, ne_eq, not_true_eq_false, not_false_eq_true, Bool.false_eq_true, tI_zI]
theorem cc_94 {d : Nat} {E : EnQ} {F : Nat → Int → Int32} {G : Nat → Int → Int64} {kk : Int → HeapP → ResP} {kx : Nat → HeapP → ResP} {a : Nat} (hS : TrS E a) (hd : 1 ≤ d) : cT (callP MP d 94 [.ref a] (mk E F G)) kk kx = kk (if tI (F a 0) = -1 then 1 else 0) (mk E F G) := cT_ret (by apply ct_94 <;> assumption) (by split <;> omega)
theorem ct_137t {d : Nat} {E : EnQ} {F : Nat → Int → Int32} {G : Nat → Int → Int64} (hT : TrR E F G) {x : Int} (hx : 0 ≤ x ∧ x < 4) (hm : tI (F 243 x) ≠ -1) (hd : 2 ≤ d) : callP MP d 137 [.ref 16, .int (zI x)] (mk E F G) = some (Sum.inl (some (.ref (trH x))), mk E F G) := by
  obtain ⟨t1, t2, -⟩ := TrR_x hT hx
  have hS := TrS_x (E := E) hx
  refine into (D := 1) (by omega) hM_137 (rcv_mk rfl (by decide)) rfl fun d hd => ?_
  show runP MP d 137 (0, [some (.ref 16), some (.int (zI x)), none], [], _) = _
  have h138 : ∀ {kn : HeapP → ResP} {ka : Nat → HeapP → ResP} {kx : Nat → HeapP → ResP}, cR (callP MP d 138 [.ref 16, .int (zI x)] (mk E F G)) kn ka kx = ka (trH x) (mk E F G) := fun {kn ka kx} => cR_ref (ct_138t hT hx (by omega))
  have hm' : ¬ tI (F (trH x) 0) = -1 := by rw [t2]; exact hm
  rw [q_137_0]; (try simp only [↓n_cI, li_0, li_1, li_6, zI_add, zI_sub, zI_mul, zI_neg, ↓Option.bind_some]); simp (disch := (first | assumption | exact tI_rg _ | omega | exact uR_at | exact row_ne hF (by decide) | exact row_ne (row_ne hF (by decide)) (by decide) | exact SnS_18 | exact SnS_30 | exact LdS_44 | exact LdS_46)) only [↓h138, ↓cc_94, if_neg hm', ↓n_cI, jnk_mk, li_0, li_1, li_6, zI_add, zI_sub, zI_mul, zI_neg, ↓Option.bind_some, zIt2, uR_at, uR_ne, uR_uR, uC_uC, uC_at, ↓reduceIte, decide_eq_true_eq, leT, leF, ltT, ltF, eqT, eqF, ne_eq, not_true_eq_false, not_false_eq_true, Bool.false_eq_true, tI_zI]
theorem ct_137m {d : Nat} {E : EnQ} {F : Nat → Int → Int32} {G : Nat → Int → Int64} (hT : TrR E F G) {x : Int} (hx : 0 ≤ x ∧ x < 4) (hm : tI (F 243 x) = -1) (hd : 2 ≤ d) : callP MP d 137 [.ref 16, .int (zI x)] (mk E F G) = some (Sum.inr 1, mk (jE E) F G) := by
  obtain ⟨t1, t2, -⟩ := TrR_x hT hx
  have hS := TrS_x (E := E) hx
  refine into (D := 1) (by omega) hM_137 (rcv_mk rfl (by decide)) rfl fun d hd => ?_
  show runP MP d 137 (0, [some (.ref 16), some (.int (zI x)), none], [], _) = _
  have h138 : ∀ {kn : HeapP → ResP} {ka : Nat → HeapP → ResP} {kx : Nat → HeapP → ResP}, cR (callP MP d 138 [.ref 16, .int (zI x)] (mk E F G)) kn ka kx = ka (trH x) (mk E F G) := fun {kn ka kx} => cR_ref (ct_138t hT hx (by omega))
  have hm' : tI (F (trH x) 0) = -1 := by rw [t2]; exact hm
  rw [q_137_0]; (try simp only [↓n_cI, li_0, li_1, li_6, zI_add, zI_sub, zI_mul, zI_neg, ↓Option.bind_some]); simp (disch := (first | assumption | exact tI_rg _ | omega | exact uR_at | exact row_ne hF (by decide) | exact row_ne (row_ne hF (by decide)) (by decide) | exact SnS_18 | exact SnS_30 | exact LdS_44 | exact LdS_46)) only [↓h138, ↓cc_94, if_pos hm', ↓n_cI, jnk_mk, li_0, li_1, li_6, zI_add, zI_sub, zI_mul, zI_neg, ↓Option.bind_some, zIt2, uR_at, uR_ne, uR_uR, uC_uC, uC_at, ↓reduceIte, decide_eq_true_eq, leT, leF, ltT, ltF, eqT, eqF, ne_eq, not_true_eq_false, not_false_eq_true, Bool.false_eq_true, tI_zI]
theorem ct_137f {d : Nat} {E : EnQ} {F : Nat → Int → Int32} {G : Nat → Int → Int64} {x : Int} (hxr : -2147483648 ≤ x ∧ x ≤ 2147483647) (hx : ¬ (0 ≤ x ∧ x < 4)) (hd : 2 ≤ d) : callP MP d 137 [.ref 16, .int (zI x)] (mk E F G) = some (Sum.inr 0, mk (jE E) F G) := by
  refine into (D := 1) (by omega) hM_137 (rcv_mk rfl (by decide)) rfl fun d hd => ?_
  show runP MP d 137 (0, [some (.ref 16), some (.int (zI x)), none], [], _) = _
  have h138 : ∀ {kn : HeapP → ResP} {ka : Nat → HeapP → ResP} {kx : Nat → HeapP → ResP}, cR (callP MP d 138 [.ref 16, .int (zI x)] (mk E F G)) kn ka kx = kx 0 (mk (jE E) F G) := fun {kn ka kx} => cR_thr (ct_138f hxr hx (by omega))
  rw [q_137_0]; (try simp only [↓n_cI, li_0, li_1, li_6, zI_add, zI_sub, zI_mul, zI_neg, ↓Option.bind_some]); simp (disch := (first | assumption | exact tI_rg _ | omega | exact uR_at | exact row_ne hF (by decide) | exact row_ne (row_ne hF (by decide)) (by decide) | exact SnS_18 | exact SnS_30 | exact LdS_44 | exact LdS_46)) only [↓h138, thr_eq, ↓n_cI, jnk_mk, li_0, li_1, li_6, zI_add, zI_sub, zI_mul, zI_neg, ↓Option.bind_some, zIt2, uR_at, uR_ne, uR_uR, uC_uC, uC_at, ↓reduceIte, decide_eq_true_eq, leT, leF, ltT, ltF, eqT, eqF, ne_eq, not_true_eq_false, not_false_eq_true, Bool.false_eq_true, tI_zI]
theorem cc_137t {d : Nat} {E : EnQ} {F : Nat → Int → Int32} {G : Nat → Int → Int64} {kn : HeapP → ResP} {ka : Nat → HeapP → ResP} {kx : Nat → HeapP → ResP} (hT : TrR E F G) {x : Int} (hx : 0 ≤ x ∧ x < 4) (hm : tI (F 243 x) ≠ -1) (hd : 2 ≤ d) : cR (callP MP d 137 [.ref 16, .int (zI x)] (mk E F G)) kn ka kx = ka (trH x) (mk E F G) := cR_ref (ct_137t hT hx hm hd)
theorem cc_137m {d : Nat} {E : EnQ} {F : Nat → Int → Int32} {G : Nat → Int → Int64} {kn : HeapP → ResP} {ka : Nat → HeapP → ResP} {kx : Nat → HeapP → ResP} (hT : TrR E F G) {x : Int} (hx : 0 ≤ x ∧ x < 4) (hm : tI (F 243 x) = -1) (hd : 2 ≤ d) : cR (callP MP d 137 [.ref 16, .int (zI x)] (mk E F G)) kn ka kx = kx 1 (mk (jE E) F G) := cR_thr (ct_137m hT hx hm hd)
theorem cc_137f {d : Nat} {E : EnQ} {F : Nat → Int → Int32} {G : Nat → Int → Int64} {kn : HeapP → ResP} {ka : Nat → HeapP → ResP} {kx : Nat → HeapP → ResP} {x : Int} (hxr : -2147483648 ≤ x ∧ x ≤ 2147483647) (hx : ¬ (0 ≤ x ∧ x < 4)) (hd : 2 ≤ d) : cR (callP MP d 137 [.ref 16, .int (zI x)] (mk E F G)) kn ka kx = kx 0 (mk (jE E) F G) := cR_thr (ct_137f hxr hx hd)
theorem ct_95 {d : Nat} {E : EnQ} {F : Nat → Int → Int32} {G : Nat → Int → Int64} {a : Nat} {i : Int} (hS : TrS E a) (hi : 0 ≤ i ∧ i < tI (F a 1) ∧ tI (F a 1) ≤ 30) (hd : 1 ≤ d) : callP MP d 95 [.ref a, .int (zI i)] (mk E F G) = some (Sum.inl (some (.long (zJ (tJ (G (a + 1) i))))), mk E F G) := by

  have hs := hS.1
  refine into (D := 0) (by omega) hM_95 (rcv_mk hs (by decide)) rfl fun d hd => ?_
  show runP MP d 95 (0, [some (.ref a), some (.int (zI i))], [], _) = _
  have hlen : ∀ {f : Int → ResP}, (lenT (mk E F G) (a + 1)).bind f = f 30 := fun {f} => len_J (n := 30) hS.2 (by decide)
  rw [q_95_0]; (try simp only [↓n_rd, ↓n_alJ, ↓n_len, li_0, li_1, li_2, li_7, li_30, li_31, lj_0, lj_1, lj_2, lj_30, zJ_add, zJ_sub, zJ_mul, zJ_neg, zJ_l2i, zI_add, zI_sub, zI_mul, zI_neg, ↓Option.bind_some]); simp (disch := (first | assumption | exact tI_rg _ | omega | exact uR_at | exact row_ne hF (by decide) | exact row_ne (row_ne hF (by decide)) (by decide) | exact SnS_18 | exact SnS_30 | exact LdS_44 | exact LdS_46)) only [q_95_30, q_95_31, ↓hlen, ↓n_rd, ↓n_alJ, ↓n_len, li_0, li_1, li_2, li_7, li_30, li_31, lj_0, lj_1, lj_2, lj_30, zJ_add, zJ_sub, zJ_mul, zJ_neg, zJ_l2i, tJ_zJ, zI_add, zI_sub, zI_mul, zI_neg, ↓Option.bind_some, ↓g7_2, ↓TrS_l1, ↓TrS_s1, ↓g7_1, zIt2, uR_at, uR_ne, uR_uR, uC_uC, uC_at, ↓reduceIte, decide_eq_true_eq, leT, leF, ltT, ltF, eqT, eqF, ne_eq, not_true_eq_false, not_false_eq_true, Bool.false_eq_true, tI_zI]
theorem cc_95 {d : Nat} {E : EnQ} {F : Nat → Int → Int32} {G : Nat → Int → Int64} {kk : Int → HeapP → ResP} {kx : Nat → HeapP → ResP} {a : Nat} {i : Int} (hS : TrS E a) (hi : 0 ≤ i ∧ i < tI (F a 1) ∧ tI (F a 1) ≤ 30) (hd : 1 ≤ d) : cJT (callP MP d 95 [.ref a, .int (zI i)] (mk E F G)) kk kx = kk (tJ (G (a + 1) i)) (mk E F G) := cJT_ret (by apply ct_95 <;> assumption) (tJ_rg _)
theorem ct_236 {d : Nat} {E : EnQ} {F : Nat → Int → Int32} {G : Nat → Int → Int64} {x : Int} (hx : -2147483648 ≤ x ∧ x ≤ 2147483647) (hd : 2 ≤ d) : callP MP d 236 [.int (zI x)] (mk E F G) = some (Sum.inl (some (.int (zI (if 0 ≤ x ∧ x < 4 then 1 else 0)))), mk E F G) := by

  refine into (D := 1) (by omega) hM_236 rfl rfl fun d hd => ?_
  show runP MP d 236 (0, [some (.int (zI x))], [], _) = _
  by_cases h : 0 ≤ x ∧ x < 4
  · rw [if_pos h]; rw [q_236_0]; (try simp only [↓n_cI, li_0, li_3, lj_0, lj_3, zJ_add, zJ_sub, zJ_mul, zJ_neg, zJ_l2i, zI_add, zI_sub, zI_mul, zI_neg, ↓Option.bind_some]); simp (disch := (first | assumption | exact tI_rg _ | omega | exact uR_at | exact row_ne hF (by decide) | exact row_ne (row_ne hF (by decide)) (by decide) | exact SnS_18 | exact SnS_30 | exact LdS_44 | exact LdS_46)) only [↓cc_188t, zI_i2l, ↓n_cI, retZ_z, li_0, li_3, lj_0, lj_3, zJ_add, zJ_sub, zJ_mul, zJ_neg, zJ_l2i, tJ_zJ, zI_add, zI_sub, zI_mul, zI_neg, ↓Option.bind_some, zIt2, uR_at, uR_ne, uR_uR, uC_uC, uC_at, ↓reduceIte, decide_eq_true_eq, leT, leF, ltT, ltF, eqT, eqF, ne_eq, not_true_eq_false, not_false_eq_true, Bool.false_eq_true, tI_zI]
  · rw [if_neg h]; rw [q_236_0]; (try simp only [↓n_cI, li_0, li_3, lj_0, lj_3, zJ_add, zJ_sub, zJ_mul, zJ_neg, zJ_l2i, zI_add, zI_sub, zI_mul, zI_neg, ↓Option.bind_some]); simp (disch := (first | assumption | exact tI_rg _ | omega | exact uR_at | exact row_ne hF (by decide) | exact row_ne (row_ne hF (by decide)) (by decide) | exact SnS_18 | exact SnS_30 | exact LdS_44 | exact LdS_46)) only [↓cc_188f, zI_i2l, ↓n_cI, retZ_z, li_0, li_3, lj_0, lj_3, zJ_add, zJ_sub, zJ_mul, zJ_neg, zJ_l2i, tJ_zJ, zI_add, zI_sub, zI_mul, zI_neg, ↓Option.bind_some, zIt2, uR_at, uR_ne, uR_uR, uC_uC, uC_at, ↓reduceIte, decide_eq_true_eq, leT, leF, ltT, ltF, eqT, eqF, ne_eq, not_true_eq_false, not_false_eq_true, Bool.false_eq_true, tI_zI]
theorem cc_236 {d : Nat} {E : EnQ} {F : Nat → Int → Int32} {G : Nat → Int → Int64} {kk : Int → HeapP → ResP} {kx : Nat → HeapP → ResP} {x : Int} (hx : -2147483648 ≤ x ∧ x ≤ 2147483647) (hd : 2 ≤ d) : cT (callP MP d 236 [.int (zI x)] (mk E F G)) kk kx = kk (if 0 ≤ x ∧ x < 4 then 1 else 0) (mk E F G) := cT_ret (by apply ct_236 <;> assumption) (by split <;> omega)
def tfZ (F : Nat → Int → Int32) (x : Int) : Int := if 0 ≤ x ∧ x < 4 then (if tI (F 243 x) = -1 then 2 else 0) else 1
theorem ct_235 {d : Nat} {E : EnQ} {F : Nat → Int → Int32} {G : Nat → Int → Int64} {x : Int} (hx : -2147483648 ≤ x ∧ x ≤ 2147483647) (hd : 3 ≤ d) : callP MP d 235 [.ref 217, .int (zI x)] (mk E F G) = some (Sum.inl (some (.int (zI (tfZ F x)))), mk E F G) := by

  refine into (D := 2) (by omega) hM_235 (rcv_mk rfl (by decide)) rfl fun d hd => ?_
  show runP MP d 235 (0, [some (.ref 217), some (.int (zI x))], [], _) = _
  unfold tfZ
  by_cases h : 0 ≤ x ∧ x < 4
  · have hr := tI_rg (F 243 x)
    rw [if_pos h]
    by_cases g : tI (F 243 x) = -1
    · rw [if_pos g]; rw [q_235_0]; (try simp only [↓n_al, ↓n_cI, li_0, li_1, li_2, li_12, zI_add, zI_sub, zI_mul, zI_neg, ↓Option.bind_some]); simp (disch := (first | assumption | exact tI_rg _ | omega | exact uR_at | exact row_ne hF (by decide) | exact row_ne (row_ne hF (by decide)) (by decide) | exact SnS_18 | exact SnS_30 | exact LdS_44 | exact LdS_46)) only [q_235_26, ↓cc_236, if_pos h, ↓n_al, ↓n_cI, li_0, li_1, li_2, li_12, zI_add, zI_sub, zI_mul, zI_neg, ↓Option.bind_some, ↓g12_53, ↓al_243, ↓as_243, zIt2, uR_at, uR_ne, uR_uR, uC_uC, uC_at, ↓reduceIte, decide_eq_true_eq, leT, leF, ltT, ltF, eqT, eqF, ne_eq, not_true_eq_false, not_false_eq_true, Bool.false_eq_true, tI_zI]
    · rw [if_neg g]; rw [q_235_0]; (try simp only [↓n_al, ↓n_cI, li_0, li_1, li_2, li_12, zI_add, zI_sub, zI_mul, zI_neg, ↓Option.bind_some]); simp (disch := (first | assumption | exact tI_rg _ | omega | exact uR_at | exact row_ne hF (by decide) | exact row_ne (row_ne hF (by decide)) (by decide) | exact SnS_18 | exact SnS_30 | exact LdS_44 | exact LdS_46)) only [q_235_26, ↓cc_236, if_pos h, ↓n_al, ↓n_cI, li_0, li_1, li_2, li_12, zI_add, zI_sub, zI_mul, zI_neg, ↓Option.bind_some, ↓g12_53, ↓al_243, ↓as_243, zIt2, uR_at, uR_ne, uR_uR, uC_uC, uC_at, ↓reduceIte, decide_eq_true_eq, leT, leF, ltT, ltF, eqT, eqF, ne_eq, not_true_eq_false, not_false_eq_true, Bool.false_eq_true, tI_zI]
  · rw [if_neg h]; rw [q_235_0]; (try simp only [↓n_al, ↓n_cI, li_0, li_1, li_2, li_12, zI_add, zI_sub, zI_mul, zI_neg, ↓Option.bind_some]); simp (disch := (first | assumption | exact tI_rg _ | omega | exact uR_at | exact row_ne hF (by decide) | exact row_ne (row_ne hF (by decide)) (by decide) | exact SnS_18 | exact SnS_30 | exact LdS_44 | exact LdS_46)) only [q_235_26, ↓cc_236, if_neg h, ↓n_al, ↓n_cI, li_0, li_1, li_2, li_12, zI_add, zI_sub, zI_mul, zI_neg, ↓Option.bind_some, ↓g12_53, ↓al_243, ↓as_243, zIt2, uR_at, uR_ne, uR_uR, uC_uC, uC_at, ↓reduceIte, decide_eq_true_eq, leT, leF, ltT, ltF, eqT, eqF, ne_eq, not_true_eq_false, not_false_eq_true, Bool.false_eq_true, tI_zI]
theorem cc_235 {d : Nat} {E : EnQ} {F : Nat → Int → Int32} {G : Nat → Int → Int64} {kk : Int → HeapP → ResP} {kx : Nat → HeapP → ResP} {x : Int} (hx : -2147483648 ≤ x ∧ x ≤ 2147483647) (hd : 3 ≤ d) : cT (callP MP d 235 [.ref 217, .int (zI x)] (mk E F G)) kk kx = kk (tfZ F x) (mk E F G) := cT_ret (by apply ct_235 <;> assumption) (by unfold tfZ; split <;> (try split) <;> omega)
end S94c
