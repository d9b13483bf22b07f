/-! MODEL: judge, behind -/
section S94i
set_option linter.unusedVariables false
set_option linter.unusedSimpArgs false
/-- the row 217 with the code, then the copy in 220, then the row 218 back -/
def jdF (F : Nat → Int → Int32) (c : Int) : Nat → Int → Int32 := uR (uR F 217 (uC (F 217) 5 (zI c))) 220 (cpK (F 218) (F 220))
theorem KeepM_jd {F : Nat → Int → Int32} {G : Nat → Int → Int64} {c : Int} : KeepM F G (jdF F c) G := KeepM.tr (KeepM_217 (k := 5) (by omega)) (KeepM_row (q := 220) (by omega))
theorem KeepM_c {F : Nat → Int → Int32} {G : Nat → Int → Int64} {c : Int} : KeepM F G (uR F 217 (uC (F 217) 5 (zI c))) G := KeepM_217 (k := 5) (by omega)
theorem ml_judge {d : Nat} {E : EnQ} {F : Nat → Int → Int32} {G : Nat → Int → Int64} {K : Int → Int32} (hI : InvK K) (hF : F 218 = K) (hc : tI (F 217 18) = 0) (hst : stepsZ K < 1999000000) (h44 : ∀ x, 0 ≤ x → x < 4 → 0 ≤ tI (F 244 x) ∧ tI (F 244 x) ≤ 30) {x y : Int} (hx : -2147483648 ≤ x ∧ x ≤ 2147483647) (hy : -2147483648 ≤ y ∧ y ≤ 2147483647) (hd : 6 ≤ d) : ∃ F1 G1, callP MP d 234 [.ref 217, .int (zI x), .int (zI y)] (mk E F G) = some (Sum.inl (some (.int (zI (a_judge K F G x y).2))), mk E F1 G1) ∧ F1 217 5 = zI (a_judge K F G x y).1 ∧ KeepM F G F1 G1 := by
  have hc' : ∀ r, uR F 217 (uC (F 217) 5 r) 217 18 = F 217 18 := fun r => by rw [uR_at, uC_ne (by omega)]
  by_cases c1 : 0 ≤ x ∧ x < 4
  · by_cases c2 : tI (F 243 x) = -1
    · have ha : a_judge K F G x y = (2, 0) := (if_pos c1).trans (if_pos c2)
      have ht : tfZ F x = 2 := (if_pos c1).trans (if_pos c2)
      rw [ha]
      refine ⟨uR F 217 (uC (F 217) 5 (zI 2)), G, ?_, by rw [uR_at, uC_at], KeepM_c⟩
      refine into (D := 5) (by omega) hM_234 (rcv_mk rfl (by decide)) rfl fun d hd => ?_
      show runP MP d 234 (0, [some (.ref 217), some (.int (zI x)), some (.int (zI y)), none, none, none, none], [], _) = _
      rw [q_234_0]; (try simp only [↓n_rd, ↓n_al, ↓n_alJ, ↓n_cI, li_0, li_1, li_2, li_3, li_5, li_12, li_30, li_206, li_210, lj_0, lj_1, lj_2, lj_3, lj_5, lj_12, lj_30, zJ_add, zJ_sub, zJ_mul, zJ_neg, zJ_l2i, zI_add, zI_sub, zI_mul, zI_neg, ↓Option.bind_some]); simp (disch := (first | assumption | exact tI_rg _ | omega | exact uR_at | exact row_ne hF (by decide) | exact row_ne (row_ne hF (by decide)) (by decide) | exact SnS_18 | exact SnS_30 | exact LdS_44 | exact LdS_46)) only [q_234_33, q_234_88, q_234_155, ↓cc_235, ht, zI_i2l, ↓n_rd, ↓n_al, ↓n_alJ, ↓n_cI, li_0, li_1, li_2, li_3, li_5, li_12, li_30, li_206, li_210, lj_0, lj_1, lj_2, lj_3, lj_5, lj_12, lj_30, zJ_add, zJ_sub, zJ_mul, zJ_neg, zJ_l2i, tJ_zJ, zI_add, zI_sub, zI_mul, zI_neg, ↓Option.bind_some, ↓g12_0, ↓g12_54, ↓g12_2, ↓g12_55, ↓g12_5, ↓p12_5, ↓al_218, ↓as_218, ↓al_220, ↓as_220, ↓al_244, ↓as_244, ↓al_245, ↓as_245, zIt2, uR_at, uR_ne, uR_uR, uC_uC, uC_at, ↓reduceIte, decide_eq_true_eq, leT, leF, ltT, ltF, eqT, eqF, ne_eq, not_true_eq_false, not_false_eq_true, Bool.false_eq_true, tI_zI]
    · by_cases c3 : 0 ≤ y ∧ y ≤ 3
      · have ha : a_judge K F G x y = (0, v_judge K F G x y) := (if_pos c1).trans ((if_neg c2).trans (if_pos c3))
        have q5 := h44 x c1.1 c1.2
        have ht : tfZ F x = 0 := (if_pos c1).trans (if_neg c2)
        have hm30 : tdM F x ≤ 30 := by unfold tdM; omega
        have hmF : tI (F 244 x) = tdM F x := by unfold tdM; omega
        have htr := tolC_rg K (tdA G x) (tdM F x)
        obtain ⟨i1, i2, i3⟩ := tolK_inv hI (by omega) (a := tdA G x) hm30
        have hb5 := i1.1.2.2.2.2.2.1
        have hwl := wysN_lt i1
        have h206a : ∀ {kk : HeapP → ResP} {kx : Nat → HeapP → ResP}, cV (callP MP d 206 [.ref 218, .ref 220] (mk E (uR F 217 (uC (F 217) 5 (zI 0))) G)) kk kx = kk (mk E (jdF F 0) G) := fun {kk kx} => by
          rw [cc_206 (E := E) (a := 218) (b := 220) rfl rfl (by omega) (by omega), uR_ne (by decide), uR_ne (by decide)]
          rfl
        have f218 : jdF F 0 218 = K := by unfold jdF; rw [uR_ne (by decide), uR_ne (by decide)]; exact hF
        have f217 : jdF F 0 217 = uC (F 217) 5 (zI 0) := by unfold jdF; rw [uR_ne (by decide), uR_at]
        have f220 : jdF F 0 220 = cpK K (F 220) := by unfold jdF; rw [uR_at, hF]
        have f244 : jdF F 0 244 = F 244 := by unfold jdF; rw [uR_ne (by decide), uR_ne (by decide)]
        have h237 : ∀ {kk : Int → HeapP → ResP} {kx : Nat → HeapP → ResP}, cT (callP MP d 237 [.ref 217, .int (zI x)] (mk E (jdF F 0) G)) kk kx = kk (tolC K (tdA G x) (tdM F x)) (mk E (uR (jdF F 0) 218 (tolK K (tdA G x) (tdM F x))) G) := fun {kk kx} => by
          rw [cc_237 hI f218 (by rw [f217, uC_ne (by omega)]; exact hc) (by omega) c1 (A := tdA G x) (m := tdM F x) (by rw [f244]; exact hmF) hm30 (fun i hi => rfl) (by omega)]
        have h206b : ∀ {kk : HeapP → ResP} {kx : Nat → HeapP → ResP}, cV (callP MP d 206 [.ref 220, .ref 218] (mk E (uR (jdF F 0) 218 (tolK K (tdA G x) (tdM F x))) G)) kk kx = kk (mk E (jdF F 0) G) := fun {kk kx} => by
          rw [cc_206 (E := E) (a := 220) (b := 218) rfl rfl (by omega) (by omega), uR_uR, uR_ne (by decide), uR_at, f220, cp_back (fun j hj => tolK_out hI (by omega) hm30 hj), ← f218, uR_self]
        rw [ha]
        refine ⟨jdF F 0, G, ?_, by rw [f217, uC_at], KeepM_jd⟩
        have hkr : uR (jdF F 0) 218 (tolK K (tdA G x) (tdM F x)) 218 = tolK K (tdA G x) (tdM F x) := uR_at
        have h88 : ∀ f : Int, -1 ≤ f → f ≤ 2 → runP MP (d - 1) 234 (88, [some (.ref 217), some (.int (zI x)), some (.int (zI y)), some (.int (zI (tolC K (tdA G x) (tdM F x)))), none, none, none], [.int (zI f)], mk E (uR (jdF F 0) 218 (tolK K (tdA G x) (tdM F x))) G) = some (Sum.inl (some (.int (zI (if y = 0 then (if f = 0 then -1 else tolC K (tdA G x) (tdM F x)) else if y = 1 then f else if y = 2 then tI (tolK K (tdA G x) (tdM F x) 5) else popZ (wysN (tolK K (tdA G x) (tdM F x))))))), mk E (jdF F 0) G) := by
          intro f hf1 hf2
          obtain ⟨e, rfl⟩ : ∃ e, d = e + 1 := ⟨d - 1, by omega⟩
          have h206b : ∀ {kk : HeapP → ResP} {kx : Nat → HeapP → ResP}, cV (callP MP e 206 [.ref 220, .ref 218] (mk E (uR (jdF F 0) 218 (tolK K (tdA G x) (tdM F x))) G)) kk kx = kk (mk E (jdF F 0) G) := fun {kk kx} => by
            rw [cc_206 (E := E) (a := 220) (b := 218) rfl rfl (by omega) (by omega), uR_uR, uR_ne (by decide), uR_at, f220, cp_back (fun j hj => tolK_out hI (by omega) hm30 hj), ← f218, uR_self]
          have hz : ∀ {kk : Int → HeapP → ResP} {kx : Nat → HeapP → ResP}, cT (callP MP e 239 [.ref 217] (mk E (uR (jdF F 0) 218 (tolK K (tdA G x) (tdM F x))) G)) kk kx = kk (tI (zI ((wysN (tolK K (tdA G x) (tdM F x)) : Nat) : Int))) (mk E (uR (jdF F 0) 218 (tolK K (tdA G x) (tdM F x))) G) := fun {kk kx} => by
            unfold cT; rw [cI_ret (ct_239 i1 uR_at (by omega))]
          show runP MP e 234 _ = _
          by_cases y0 : y = 0
          · rw [if_pos y0]
            by_cases g : f = 0
            · rw [if_pos g]; rw [q_234_88]; (try simp only [↓n_rd, ↓n_al, ↓n_alJ, ↓n_cI, li_0, li_1, li_2, li_3, li_5, li_12, li_30, li_206, li_210, lj_0, lj_1, lj_2, lj_3, lj_5, lj_12, lj_30, zJ_add, zJ_sub, zJ_mul, zJ_neg, zJ_l2i, zI_add, zI_sub, zI_mul, zI_neg, ↓Option.bind_some]); simp (disch := (first | assumption | exact tI_rg _ | omega | exact uR_at | exact row_ne hF (by decide) | exact row_ne (row_ne hF (by decide)) (by decide) | exact SnS_18 | exact SnS_30 | exact LdS_44 | exact LdS_46)) only [q_234_0, q_234_33, q_234_155, ↓cc_210 i1, ↓hz, zIt2, ↓cc_240, ↓h206b, ↓n_rd, ↓n_al, ↓n_alJ, ↓n_cI, li_0, li_1, li_2, li_3, li_5, li_12, li_30, li_206, li_210, lj_0, lj_1, lj_2, lj_3, lj_5, lj_12, lj_30, zJ_add, zJ_sub, zJ_mul, zJ_neg, zJ_l2i, tJ_zJ, zI_add, zI_sub, zI_mul, zI_neg, ↓Option.bind_some, ↓g12_0, ↓g12_54, ↓g12_2, ↓g12_55, ↓g12_5, ↓p12_5, ↓al_218, ↓as_218, ↓al_220, ↓as_220, ↓al_244, ↓as_244, ↓al_245, ↓as_245, zIt2, uR_at, uR_ne, uR_uR, uC_uC, uC_at, ↓reduceIte, decide_eq_true_eq, leT, leF, ltT, ltF, eqT, eqF, ne_eq, not_true_eq_false, not_false_eq_true, Bool.false_eq_true, tI_zI]
            · rw [if_neg g]; rw [q_234_88]; (try simp only [↓n_rd, ↓n_al, ↓n_alJ, ↓n_cI, li_0, li_1, li_2, li_3, li_5, li_12, li_30, li_206, li_210, lj_0, lj_1, lj_2, lj_3, lj_5, lj_12, lj_30, zJ_add, zJ_sub, zJ_mul, zJ_neg, zJ_l2i, zI_add, zI_sub, zI_mul, zI_neg, ↓Option.bind_some]); simp (disch := (first | assumption | exact tI_rg _ | omega | exact uR_at | exact row_ne hF (by decide) | exact row_ne (row_ne hF (by decide)) (by decide) | exact SnS_18 | exact SnS_30 | exact LdS_44 | exact LdS_46)) only [q_234_0, q_234_33, q_234_155, ↓cc_210 i1, ↓hz, zIt2, ↓cc_240, ↓h206b, ↓n_rd, ↓n_al, ↓n_alJ, ↓n_cI, li_0, li_1, li_2, li_3, li_5, li_12, li_30, li_206, li_210, lj_0, lj_1, lj_2, lj_3, lj_5, lj_12, lj_30, zJ_add, zJ_sub, zJ_mul, zJ_neg, zJ_l2i, tJ_zJ, zI_add, zI_sub, zI_mul, zI_neg, ↓Option.bind_some, ↓g12_0, ↓g12_54, ↓g12_2, ↓g12_55, ↓g12_5, ↓p12_5, ↓al_218, ↓as_218, ↓al_220, ↓as_220, ↓al_244, ↓as_244, ↓al_245, ↓as_245, zIt2, uR_at, uR_ne, uR_uR, uC_uC, uC_at, ↓reduceIte, decide_eq_true_eq, leT, leF, ltT, ltF, eqT, eqF, ne_eq, not_true_eq_false, not_false_eq_true, Bool.false_eq_true, tI_zI]
          · rw [if_neg y0]
            by_cases y1 : y = 1
            · rw [if_pos y1]; rw [q_234_88]; (try simp only [↓n_rd, ↓n_al, ↓n_alJ, ↓n_cI, li_0, li_1, li_2, li_3, li_5, li_12, li_30, li_206, li_210, lj_0, lj_1, lj_2, lj_3, lj_5, lj_12, lj_30, zJ_add, zJ_sub, zJ_mul, zJ_neg, zJ_l2i, zI_add, zI_sub, zI_mul, zI_neg, ↓Option.bind_some]); simp (disch := (first | assumption | exact tI_rg _ | omega | exact uR_at | exact row_ne hF (by decide) | exact row_ne (row_ne hF (by decide)) (by decide) | exact SnS_18 | exact SnS_30 | exact LdS_44 | exact LdS_46)) only [q_234_0, q_234_33, q_234_155, ↓cc_210 i1, ↓hz, zIt2, ↓cc_240, ↓h206b, ↓n_rd, ↓n_al, ↓n_alJ, ↓n_cI, li_0, li_1, li_2, li_3, li_5, li_12, li_30, li_206, li_210, lj_0, lj_1, lj_2, lj_3, lj_5, lj_12, lj_30, zJ_add, zJ_sub, zJ_mul, zJ_neg, zJ_l2i, tJ_zJ, zI_add, zI_sub, zI_mul, zI_neg, ↓Option.bind_some, ↓g12_0, ↓g12_54, ↓g12_2, ↓g12_55, ↓g12_5, ↓p12_5, ↓al_218, ↓as_218, ↓al_220, ↓as_220, ↓al_244, ↓as_244, ↓al_245, ↓as_245, zIt2, uR_at, uR_ne, uR_uR, uC_uC, uC_at, ↓reduceIte, decide_eq_true_eq, leT, leF, ltT, ltF, eqT, eqF, ne_eq, not_true_eq_false, not_false_eq_true, Bool.false_eq_true, tI_zI]
            · rw [if_neg y1]
              by_cases y2 : y = 2
              · rw [if_pos y2]; rw [q_234_88]; (try simp only [↓n_rd, ↓n_al, ↓n_alJ, ↓n_cI, li_0, li_1, li_2, li_3, li_5, li_12, li_30, li_206, li_210, lj_0, lj_1, lj_2, lj_3, lj_5, lj_12, lj_30, zJ_add, zJ_sub, zJ_mul, zJ_neg, zJ_l2i, zI_add, zI_sub, zI_mul, zI_neg, ↓Option.bind_some]); simp (disch := (first | assumption | exact tI_rg _ | omega | exact uR_at | exact row_ne hF (by decide) | exact row_ne (row_ne hF (by decide)) (by decide) | exact SnS_18 | exact SnS_30 | exact LdS_44 | exact LdS_46)) only [q_234_0, q_234_33, q_234_155, ↓cc_210 i1, ↓hz, zIt2, ↓cc_240, ↓h206b, ↓n_rd, ↓n_al, ↓n_alJ, ↓n_cI, li_0, li_1, li_2, li_3, li_5, li_12, li_30, li_206, li_210, lj_0, lj_1, lj_2, lj_3, lj_5, lj_12, lj_30, zJ_add, zJ_sub, zJ_mul, zJ_neg, zJ_l2i, tJ_zJ, zI_add, zI_sub, zI_mul, zI_neg, ↓Option.bind_some, ↓g12_0, ↓g12_54, ↓g12_2, ↓g12_55, ↓g12_5, ↓p12_5, ↓al_218, ↓as_218, ↓al_220, ↓as_220, ↓al_244, ↓as_244, ↓al_245, ↓as_245, zIt2, uR_at, uR_ne, uR_uR, uC_uC, uC_at, ↓reduceIte, decide_eq_true_eq, leT, leF, ltT, ltF, eqT, eqF, ne_eq, not_true_eq_false, not_false_eq_true, Bool.false_eq_true, tI_zI]
              · rw [if_neg y2]; rw [q_234_88]; (try simp only [↓n_rd, ↓n_al, ↓n_alJ, ↓n_cI, li_0, li_1, li_2, li_3, li_5, li_12, li_30, li_206, li_210, lj_0, lj_1, lj_2, lj_3, lj_5, lj_12, lj_30, zJ_add, zJ_sub, zJ_mul, zJ_neg, zJ_l2i, zI_add, zI_sub, zI_mul, zI_neg, ↓Option.bind_some]); simp (disch := (first | assumption | exact tI_rg _ | omega | exact uR_at | exact row_ne hF (by decide) | exact row_ne (row_ne hF (by decide)) (by decide) | exact SnS_18 | exact SnS_30 | exact LdS_44 | exact LdS_46)) only [q_234_0, q_234_33, q_234_155, ↓cc_210 i1, ↓hz, zIt2, ↓cc_240, ↓h206b, ↓n_rd, ↓n_al, ↓n_alJ, ↓n_cI, li_0, li_1, li_2, li_3, li_5, li_12, li_30, li_206, li_210, lj_0, lj_1, lj_2, lj_3, lj_5, lj_12, lj_30, zJ_add, zJ_sub, zJ_mul, zJ_neg, zJ_l2i, tJ_zJ, zI_add, zI_sub, zI_mul, zI_neg, ↓Option.bind_some, ↓g12_0, ↓g12_54, ↓g12_2, ↓g12_55, ↓g12_5, ↓p12_5, ↓al_218, ↓as_218, ↓al_220, ↓as_220, ↓al_244, ↓as_244, ↓al_245, ↓as_245, zIt2, uR_at, uR_ne, uR_uR, uC_uC, uC_at, ↓reduceIte, decide_eq_true_eq, leT, leF, ltT, ltF, eqT, eqF, ne_eq, not_true_eq_false, not_false_eq_true, Bool.false_eq_true, tI_zI]
        have hval : ∀ f : Int, f = (if tolC K (tdA G x) (tdM F x) < tdM F x then whyT (tolK K (tdA G x) (tdM F x)) (tdA G x (tolC K (tdA G x) (tdM F x))) else 0) → (if y = 0 then (if f = 0 then -1 else tolC K (tdA G x) (tdM F x)) else if y = 1 then f else if y = 2 then tI (tolK K (tdA G x) (tdM F x) 5) else popZ (wysN (tolK K (tdA G x) (tdM F x)))) = v_judge K F G x y := by
          intro f hf
          unfold v_judge
          by_cases g : tolC K (tdA G x) (tdM F x) < tdM F x
          · rw [if_pos g] at hf
            have hno := tolC_no g
            have hfn : ¬ f = 0 := by rw [hf]; exact hno
            simp only [if_pos g, if_neg hfn, ← hf]
          · rw [if_neg g] at hf
            simp only [if_neg g, if_pos hf, hf, if_true]
        obtain ⟨e, rfl⟩ : ∃ e, d = e + 1 := ⟨d - 1, by omega⟩
        rw [into_eq (by omega) hM_234 (rcv_mk rfl (by decide)) rfl]
        show runP MP e 234 (0, [some (.ref 217), some (.int (zI x)), some (.int (zI y)), none, none, none, none], [], mk E F G) = _
        have h88 : ∀ f : Int, -1 ≤ f → f ≤ 2 → runP MP e 234 (88, [some (.ref 217), some (.int (zI x)), some (.int (zI y)), some (.int (zI (tolC K (tdA G x) (tdM F x)))), none, none, none], [.int (zI f)], mk E (uR (jdF F 0) 218 (tolK K (tdA G x) (tdM F x))) G) = some (Sum.inl (some (.int (zI (if y = 0 then (if f = 0 then -1 else tolC K (tdA G x) (tdM F x)) else if y = 1 then f else if y = 2 then tI (tolK K (tdA G x) (tdM F x) 5) else popZ (wysN (tolK K (tdA G x) (tdM F x))))))), mk E (jdF F 0) G) := h88
        have h206a : ∀ {kk : HeapP → ResP} {kx : Nat → HeapP → ResP}, cV (callP MP e 206 [.ref 218, .ref 220] (mk E (uR F 217 (uC (F 217) 5 (zI 0))) G)) kk kx = kk (mk E (jdF F 0) G) := fun {kk kx} => by
          rw [cc_206 (E := E) (a := 218) (b := 220) rfl rfl (by omega) (by omega), uR_ne (by decide), uR_ne (by decide)]
          rfl
        have h237 : ∀ {kk : Int → HeapP → ResP} {kx : Nat → HeapP → ResP}, cT (callP MP e 237 [.ref 217, .int (zI x)] (mk E (jdF F 0) G)) kk kx = kk (tolC K (tdA G x) (tdM F x)) (mk E (uR (jdF F 0) 218 (tolK K (tdA G x) (tdM F x))) G) := fun {kk kx} => by
          rw [cc_237 hI f218 (by rw [f217, uC_ne (by omega)]; exact hc) (by omega) c1 (A := tdA G x) (m := tdM F x) (by rw [f244]; exact hmF) hm30 (fun i hi => rfl) (by omega)]
        have e244 : tI (jdF F 0 244 x) = tdM F x := by rw [f244]; exact hmF
        have eA : tJ (G 245 (30 * x + tolC K (tdA G x) (tdM F x))) = tdA G x (tolC K (tdA G x) (tdM F x)) := rfl
        by_cases g : tolC K (tdA G x) (tdM F x) < tdM F x
        · have hAr := tJ_rg (G 245 (30 * x + tolC K (tdA G x) (tdM F x)))
          rw [eA] at hAr
          have hwr := whyT_rg (tolK K (tdA G x) (tdM F x)) (tdA G x (tolC K (tdA G x) (tdM F x)))
          have h8 := h88 _ (by omega) hwr.2
          rw [hval _ (if_pos g).symm] at h8
          rw [q_234_0]; (try simp only [↓n_rd, ↓n_al, ↓n_alJ, ↓n_cI, li_0, li_1, li_2, li_3, li_5, li_12, li_30, li_206, li_210, lj_0, lj_1, lj_2, lj_3, lj_5, lj_12, lj_30, zJ_add, zJ_sub, zJ_mul, zJ_neg, zJ_l2i, zI_add, zI_sub, zI_mul, zI_neg, ↓Option.bind_some]); simp (disch := (first | assumption | exact tI_rg _ | omega | exact uR_at | exact row_ne hF (by decide) | exact row_ne (row_ne hF (by decide)) (by decide) | exact SnS_18 | exact SnS_30 | exact LdS_44 | exact LdS_46)) only [q_234_33, q_234_155, ↓cc_235, ht, zI_i2l, ↓cc_188t, ↓h206a, ↓h237, e244, eA, ↓cc_238 i1, h8, ↓n_rd, ↓n_al, ↓n_alJ, ↓n_cI, li_0, li_1, li_2, li_3, li_5, li_12, li_30, li_206, li_210, lj_0, lj_1, lj_2, lj_3, lj_5, lj_12, lj_30, zJ_add, zJ_sub, zJ_mul, zJ_neg, zJ_l2i, tJ_zJ, zI_add, zI_sub, zI_mul, zI_neg, ↓Option.bind_some, ↓g12_0, ↓g12_54, ↓g12_2, ↓g12_55, ↓g12_5, ↓p12_5, ↓al_218, ↓as_218, ↓al_220, ↓as_220, ↓al_244, ↓as_244, ↓al_245, ↓as_245, zIt2, uR_at, uR_ne, uR_uR, uC_uC, uC_at, ↓reduceIte, decide_eq_true_eq, leT, leF, ltT, ltF, eqT, eqF, ne_eq, not_true_eq_false, not_false_eq_true, Bool.false_eq_true, tI_zI]
        · have h8 := h88 0 (by omega) (by omega)
          rw [hval _ (if_neg g).symm] at h8
          rw [q_234_0]; (try simp only [↓n_rd, ↓n_al, ↓n_alJ, ↓n_cI, li_0, li_1, li_2, li_3, li_5, li_12, li_30, li_206, li_210, lj_0, lj_1, lj_2, lj_3, lj_5, lj_12, lj_30, zJ_add, zJ_sub, zJ_mul, zJ_neg, zJ_l2i, zI_add, zI_sub, zI_mul, zI_neg, ↓Option.bind_some]); simp (disch := (first | assumption | exact tI_rg _ | omega | exact uR_at | exact row_ne hF (by decide) | exact row_ne (row_ne hF (by decide)) (by decide) | exact SnS_18 | exact SnS_30 | exact LdS_44 | exact LdS_46)) only [q_234_33, q_234_155, ↓cc_235, ht, zI_i2l, ↓cc_188t, ↓h206a, ↓h237, e244, h8, ↓n_rd, ↓n_al, ↓n_alJ, ↓n_cI, li_0, li_1, li_2, li_3, li_5, li_12, li_30, li_206, li_210, lj_0, lj_1, lj_2, lj_3, lj_5, lj_12, lj_30, zJ_add, zJ_sub, zJ_mul, zJ_neg, zJ_l2i, tJ_zJ, zI_add, zI_sub, zI_mul, zI_neg, ↓Option.bind_some, ↓g12_0, ↓g12_54, ↓g12_2, ↓g12_55, ↓g12_5, ↓p12_5, ↓al_218, ↓as_218, ↓al_220, ↓as_220, ↓al_244, ↓as_244, ↓al_245, ↓as_245, zIt2, uR_at, uR_ne, uR_uR, uC_uC, uC_at, ↓reduceIte, decide_eq_true_eq, leT, leF, ltT, ltF, eqT, eqF, ne_eq, not_true_eq_false, not_false_eq_true, Bool.false_eq_true, tI_zI]
      · have ha : a_judge K F G x y = (3, 0) := (if_pos c1).trans ((if_neg c2).trans (if_neg c3))
        have ht : tfZ F x = 0 := (if_pos c1).trans (if_neg c2)
        rw [ha]
        refine ⟨uR F 217 (uC (F 217) 5 (zI 3)), G, ?_, by rw [uR_at, uC_at], KeepM_c⟩
        refine into (D := 5) (by omega) hM_234 (rcv_mk rfl (by decide)) rfl fun d hd => ?_
        show runP MP d 234 (0, [some (.ref 217), some (.int (zI x)), some (.int (zI y)), none, none, none, none], [], _) = _
        rw [q_234_0]; (try simp only [↓n_rd, ↓n_al, ↓n_alJ, ↓n_cI, li_0, li_1, li_2, li_3, li_5, li_12, li_30, li_206, li_210, lj_0, lj_1, lj_2, lj_3, lj_5, lj_12, lj_30, zJ_add, zJ_sub, zJ_mul, zJ_neg, zJ_l2i, zI_add, zI_sub, zI_mul, zI_neg, ↓Option.bind_some]); simp (disch := (first | assumption | exact tI_rg _ | omega | exact uR_at | exact row_ne hF (by decide) | exact row_ne (row_ne hF (by decide)) (by decide) | exact SnS_18 | exact SnS_30 | exact LdS_44 | exact LdS_46)) only [q_234_33, q_234_88, q_234_155, ↓cc_235, ht, zI_i2l, ↓cc_188f, ↓n_rd, ↓n_al, ↓n_alJ, ↓n_cI, li_0, li_1, li_2, li_3, li_5, li_12, li_30, li_206, li_210, lj_0, lj_1, lj_2, lj_3, lj_5, lj_12, lj_30, zJ_add, zJ_sub, zJ_mul, zJ_neg, zJ_l2i, tJ_zJ, zI_add, zI_sub, zI_mul, zI_neg, ↓Option.bind_some, ↓g12_0, ↓g12_54, ↓g12_2, ↓g12_55, ↓g12_5, ↓p12_5, ↓al_218, ↓as_218, ↓al_220, ↓as_220, ↓al_244, ↓as_244, ↓al_245, ↓as_245, zIt2, uR_at, uR_ne, uR_uR, uC_uC, uC_at, ↓reduceIte, decide_eq_true_eq, leT, leF, ltT, ltF, eqT, eqF, ne_eq, not_true_eq_false, not_false_eq_true, Bool.false_eq_true, tI_zI]
  · have ha : a_judge K F G x y = (1, 0) := if_neg c1
    have ht : tfZ F x = 1 := if_neg c1
    rw [ha]
    refine ⟨uR F 217 (uC (F 217) 5 (zI 1)), G, ?_, by rw [uR_at, uC_at], KeepM_c⟩
    refine into (D := 5) (by omega) hM_234 (rcv_mk rfl (by decide)) rfl fun d hd => ?_
    show runP MP d 234 (0, [some (.ref 217), some (.int (zI x)), some (.int (zI y)), none, none, none, none], [], _) = _
    rw [q_234_0]; (try simp only [↓n_rd, ↓n_al, ↓n_alJ, ↓n_cI, li_0, li_1, li_2, li_3, li_5, li_12, li_30, li_206, li_210, lj_0, lj_1, lj_2, lj_3, lj_5, lj_12, lj_30, zJ_add, zJ_sub, zJ_mul, zJ_neg, zJ_l2i, zI_add, zI_sub, zI_mul, zI_neg, ↓Option.bind_some]); simp (disch := (first | assumption | exact tI_rg _ | omega | exact uR_at | exact row_ne hF (by decide) | exact row_ne (row_ne hF (by decide)) (by decide) | exact SnS_18 | exact SnS_30 | exact LdS_44 | exact LdS_46)) only [q_234_33, q_234_88, q_234_155, ↓cc_235, ht, zI_i2l, ↓n_rd, ↓n_al, ↓n_alJ, ↓n_cI, li_0, li_1, li_2, li_3, li_5, li_12, li_30, li_206, li_210, lj_0, lj_1, lj_2, lj_3, lj_5, lj_12, lj_30, zJ_add, zJ_sub, zJ_mul, zJ_neg, zJ_l2i, tJ_zJ, zI_add, zI_sub, zI_mul, zI_neg, ↓Option.bind_some, ↓g12_0, ↓g12_54, ↓g12_2, ↓g12_55, ↓g12_5, ↓p12_5, ↓al_218, ↓as_218, ↓al_220, ↓as_220, ↓al_244, ↓as_244, ↓al_245, ↓as_245, zIt2, uR_at, uR_ne, uR_uR, uC_uC, uC_at, ↓reduceIte, decide_eq_true_eq, leT, leF, ltT, ltF, eqT, eqF, ne_eq, not_true_eq_false, not_false_eq_true, Bool.false_eq_true, tI_zI]
theorem ml_behind {d : Nat} {E : EnQ} {F : Nat → Int → Int32} {G : Nat → Int → Int64} {K : Int → Int32} (hI : InvK K) (hF : F 218 = K) (hc : tI (F 217 18) = 0) (hst : stepsZ K < 1999000000) (h44 : ∀ x, 0 ≤ x → x < 4 → 0 ≤ tI (F 244 x) ∧ tI (F 244 x) ≤ 30) {x y z : Int} (hx : -2147483648 ≤ x ∧ x ≤ 2147483647) (hy : -2147483648 ≤ y ∧ y ≤ 2147483647) (hz : -2147483648 ≤ z ∧ z ≤ 2147483647) (hd : 6 ≤ d) : ∃ F1 G1, callP MP d 245 [.ref 217, .int (zI x), .int (zI y), .int (zI z)] (mk E F G) = some (Sum.inl (some (.int (zI (a_behind K F G x y z).2))), mk E F1 G1) ∧ F1 217 5 = zI (a_behind K F G x y z).1 ∧ KeepM F G F1 G1 := by
  have hc' : ∀ r, uR F 217 (uC (F 217) 5 r) 217 18 = F 217 18 := fun r => by rw [uR_at, uC_ne (by omega)]
  by_cases c1 : 0 ≤ x ∧ x < 4
  · by_cases c3 : 0 ≤ y ∧ y < tI (K 1)
    · by_cases c4 : 0 ≤ z ∧ z < tI (K 1)
      · have cc : (0 ≤ y ∧ y < tI (K 1)) ∧ (0 ≤ z ∧ z < tI (K 1)) ∧ 0 ≤ x ∧ x < 4 := ⟨c3, c4, c1⟩
        have hr3 := tI_rg (F 243 x)
        by_cases c2 : tI (F 243 x) = -1
        · have ha : a_behind K F G x y z = (2, 0) := (if_pos cc).trans (if_pos c2)
          rw [ha]
          refine ⟨uR F 217 (uC (F 217) 5 (zI 2)), G, ?_, by rw [uR_at, uC_at], KeepM_c⟩
          refine into (D := 5) (by omega) hM_245 (rcv_mk rfl (by decide)) rfl fun d hd => ?_
          show runP MP d 245 (0, [some (.ref 217), some (.int (zI x)), some (.int (zI y)), some (.int (zI z)), none], [], _) = _
          rw [q_245_0]; (try simp only [↓n_rd, ↓n_al, ↓n_cI, li_0, li_1, li_2, li_5, li_12, li_206, lj_0, lj_1, lj_2, lj_5, lj_12, zJ_add, zJ_sub, zJ_mul, zJ_neg, zJ_l2i, zI_add, zI_sub, zI_mul, zI_neg, ↓Option.bind_some]); simp (disch := (first | assumption | exact tI_rg _ | omega | exact uR_at | exact row_ne hF (by decide) | exact row_ne (row_ne hF (by decide)) (by decide) | exact SnS_18 | exact SnS_30 | exact LdS_44 | exact LdS_46)) only [q_245_26, q_245_45, ↓cc_236, if_pos c1, ↓cc_213t hI, zI_i2l, ↓n_rd, ↓n_al, ↓n_cI, li_0, li_1, li_2, li_5, li_12, li_206, lj_0, lj_1, lj_2, lj_5, lj_12, zJ_add, zJ_sub, zJ_mul, zJ_neg, zJ_l2i, tJ_zJ, zI_add, zI_sub, zI_mul, zI_neg, ↓Option.bind_some, ↓g12_5, ↓g12_2, ↓g12_0, ↓g12_53, ↓p12_5, ↓al_218, ↓as_218, ↓al_220, ↓as_220, ↓al_243, ↓as_243, zIt2, uR_at, uR_ne, uR_uR, uC_uC, uC_at, ↓reduceIte, decide_eq_true_eq, leT, leF, ltT, ltF, eqT, eqF, ne_eq, not_true_eq_false, not_false_eq_true, Bool.false_eq_true, tI_zI]
        · have ha : a_behind K F G x y z = (0, cntN (fun k : Nat => prW (tolK K (tdA G x) (tdM F x)) k == wayZ K y z) (tI (tolK K (tdA G x) (tdM F x) 5)).toNat) := (if_pos cc).trans (if_neg c2)
          rw [ha]
          have f217' : jdF F 0 217 5 = zI 0 := by unfold jdF; rw [uR_ne (by decide), uR_at, uC_at]
          refine ⟨jdF F 0, G, ?_, f217', KeepM_jd⟩
          obtain ⟨e, rfl⟩ : ∃ e, d = e + 1 := ⟨d - 1, by omega⟩
          rw [into_eq (by omega) hM_245 (rcv_mk rfl (by decide)) rfl]
          show runP MP e 245 (0, [some (.ref 217), some (.int (zI x)), some (.int (zI y)), some (.int (zI z)), none], [], mk E F G) = _
          have q5 := h44 x c1.1 c1.2
          have ht : tfZ F x = 0 := (if_pos c1).trans (if_neg c2)
          have hm30 : tdM F x ≤ 30 := by unfold tdM; omega
          have hmF : tI (F 244 x) = tdM F x := by unfold tdM; omega
          have htr := tolC_rg K (tdA G x) (tdM F x)
          obtain ⟨i1, i2, i3⟩ := tolK_inv hI (by omega) (a := tdA G x) hm30
          have hb5 := i1.1.2.2.2.2.2.1
          have hwl := wysN_lt i1
          have h206a : ∀ {kk : HeapP → ResP} {kx : Nat → HeapP → ResP}, cV (callP MP e 206 [.ref 218, .ref 220] (mk E (uR F 217 (uC (F 217) 5 (zI 0))) G)) kk kx = kk (mk E (jdF F 0) G) := fun {kk kx} => by
            rw [cc_206 (E := E) (a := 218) (b := 220) rfl rfl (by omega) (by omega), uR_ne (by decide), uR_ne (by decide)]
            rfl
          have f218 : jdF F 0 218 = K := by unfold jdF; rw [uR_ne (by decide), uR_ne (by decide)]; exact hF
          have f217 : jdF F 0 217 = uC (F 217) 5 (zI 0) := by unfold jdF; rw [uR_ne (by decide), uR_at]
          have f220 : jdF F 0 220 = cpK K (F 220) := by unfold jdF; rw [uR_at, hF]
          have f244 : jdF F 0 244 = F 244 := by unfold jdF; rw [uR_ne (by decide), uR_ne (by decide)]
          have h237 : ∀ {kk : Int → HeapP → ResP} {kx : Nat → HeapP → ResP}, cT (callP MP e 237 [.ref 217, .int (zI x)] (mk E (jdF F 0) G)) kk kx = kk (tolC K (tdA G x) (tdM F x)) (mk E (uR (jdF F 0) 218 (tolK K (tdA G x) (tdM F x))) G) := fun {kk kx} => by
            rw [cc_237 hI f218 (by rw [f217, uC_ne (by omega)]; exact hc) (by omega) c1 (A := tdA G x) (m := tdM F x) (by rw [f244]; exact hmF) hm30 (fun i hi => rfl) (by omega)]
          have h206b : ∀ {kk : HeapP → ResP} {kx : Nat → HeapP → ResP}, cV (callP MP e 206 [.ref 220, .ref 218] (mk E (uR (jdF F 0) 218 (tolK K (tdA G x) (tdM F x))) G)) kk kx = kk (mk E (jdF F 0) G) := fun {kk kx} => by
            rw [cc_206 (E := E) (a := 220) (b := 218) rfl rfl (by omega) (by omega), uR_uR, uR_ne (by decide), uR_at, f220, cp_back (fun j hj => tolK_out hI (by omega) hm30 hj), ← f218, uR_self]
          have eL : ∀ j, (j < 38 ∧ j ≠ 5) ∨ (166 ≤ j ∧ j < 169) ∨ (170 ≤ j ∧ j < 206) → tolK K (tdA G x) (tdM F x) j = K j := fun j hj => tolK_lo hI (by omega) hm30 hj
          have eW : wayZ (tolK K (tdA G x) (tdM F x)) y z = wayZ K y z := wayZ_congr hI.1.2.2.1 (fun j hj => eL j (by omega)) y z
          have hv : (if wayZ (tolK K (tdA G x) (tdM F x)) y z = -1 then 0 else cntN (fun k : Nat => prW (tolK K (tdA G x) (tdM F x)) k == wayZ (tolK K (tdA G x) (tdM F x)) y z) (tI (tolK K (tdA G x) (tdM F x) 5)).toNat) = cntN (fun k : Nat => prW (tolK K (tdA G x) (tdM F x)) k == wayZ K y z) (tI (tolK K (tdA G x) (tdM F x) 5)).toNat := by
            rw [eW]
            by_cases g : wayZ K y z = -1
            · rw [if_pos g, g, cnt_none i1]
            · rw [if_neg g]
          rw [q_245_0]; (try simp only [↓n_rd, ↓n_al, ↓n_cI, li_0, li_1, li_2, li_5, li_12, li_206, lj_0, lj_1, lj_2, lj_5, lj_12, zJ_add, zJ_sub, zJ_mul, zJ_neg, zJ_l2i, zI_add, zI_sub, zI_mul, zI_neg, ↓Option.bind_some]); simp (disch := (first | assumption | exact tI_rg _ | omega | exact uR_at | exact row_ne hF (by decide) | exact row_ne (row_ne hF (by decide)) (by decide) | exact SnS_18 | exact SnS_30 | exact LdS_44 | exact LdS_46)) only [q_245_26, q_245_45, ↓cc_236, if_pos c1, ↓cc_213t hI, zI_i2l, ↓h206a, ↓h237, ↓cc_246 i1, ↓h206b, hv, ↓n_rd, ↓n_al, ↓n_cI, li_0, li_1, li_2, li_5, li_12, li_206, lj_0, lj_1, lj_2, lj_5, lj_12, zJ_add, zJ_sub, zJ_mul, zJ_neg, zJ_l2i, tJ_zJ, zI_add, zI_sub, zI_mul, zI_neg, ↓Option.bind_some, ↓g12_5, ↓g12_2, ↓g12_0, ↓g12_53, ↓p12_5, ↓al_218, ↓as_218, ↓al_220, ↓as_220, ↓al_243, ↓as_243, zIt2, uR_at, uR_ne, uR_uR, uC_uC, uC_at, ↓reduceIte, decide_eq_true_eq, leT, leF, ltT, ltF, eqT, eqF, ne_eq, not_true_eq_false, not_false_eq_true, Bool.false_eq_true, tI_zI]
      · have ha : a_behind K F G x y z = (1, 0) := if_neg (fun q => c4 q.2.1)
        rw [ha]
        refine ⟨uR F 217 (uC (F 217) 5 (zI 1)), G, ?_, by rw [uR_at, uC_at], KeepM_c⟩
        refine into (D := 5) (by omega) hM_245 (rcv_mk rfl (by decide)) rfl fun d hd => ?_
        show runP MP d 245 (0, [some (.ref 217), some (.int (zI x)), some (.int (zI y)), some (.int (zI z)), none], [], _) = _
        rw [q_245_0]; (try simp only [↓n_rd, ↓n_al, ↓n_cI, li_0, li_1, li_2, li_5, li_12, li_206, lj_0, lj_1, lj_2, lj_5, lj_12, zJ_add, zJ_sub, zJ_mul, zJ_neg, zJ_l2i, zI_add, zI_sub, zI_mul, zI_neg, ↓Option.bind_some]); simp (disch := (first | assumption | exact tI_rg _ | omega | exact uR_at | exact row_ne hF (by decide) | exact row_ne (row_ne hF (by decide)) (by decide) | exact SnS_18 | exact SnS_30 | exact LdS_44 | exact LdS_46)) only [q_245_26, q_245_45, ↓cc_236, if_pos c1, ↓cc_213t hI, ↓cc_213f hI, zI_i2l, ↓n_rd, ↓n_al, ↓n_cI, li_0, li_1, li_2, li_5, li_12, li_206, lj_0, lj_1, lj_2, lj_5, lj_12, zJ_add, zJ_sub, zJ_mul, zJ_neg, zJ_l2i, tJ_zJ, zI_add, zI_sub, zI_mul, zI_neg, ↓Option.bind_some, ↓g12_5, ↓g12_2, ↓g12_0, ↓g12_53, ↓p12_5, ↓al_218, ↓as_218, ↓al_220, ↓as_220, ↓al_243, ↓as_243, zIt2, uR_at, uR_ne, uR_uR, uC_uC, uC_at, ↓reduceIte, decide_eq_true_eq, leT, leF, ltT, ltF, eqT, eqF, ne_eq, not_true_eq_false, not_false_eq_true, Bool.false_eq_true, tI_zI]
    · have ha : a_behind K F G x y z = (1, 0) := if_neg (fun q => c3 q.1)
      rw [ha]
      refine ⟨uR F 217 (uC (F 217) 5 (zI 1)), G, ?_, by rw [uR_at, uC_at], KeepM_c⟩
      refine into (D := 5) (by omega) hM_245 (rcv_mk rfl (by decide)) rfl fun d hd => ?_
      show runP MP d 245 (0, [some (.ref 217), some (.int (zI x)), some (.int (zI y)), some (.int (zI z)), none], [], _) = _
      rw [q_245_0]; (try simp only [↓n_rd, ↓n_al, ↓n_cI, li_0, li_1, li_2, li_5, li_12, li_206, lj_0, lj_1, lj_2, lj_5, lj_12, zJ_add, zJ_sub, zJ_mul, zJ_neg, zJ_l2i, zI_add, zI_sub, zI_mul, zI_neg, ↓Option.bind_some]); simp (disch := (first | assumption | exact tI_rg _ | omega | exact uR_at | exact row_ne hF (by decide) | exact row_ne (row_ne hF (by decide)) (by decide) | exact SnS_18 | exact SnS_30 | exact LdS_44 | exact LdS_46)) only [q_245_26, q_245_45, ↓cc_236, if_pos c1, ↓cc_213f hI, zI_i2l, ↓n_rd, ↓n_al, ↓n_cI, li_0, li_1, li_2, li_5, li_12, li_206, lj_0, lj_1, lj_2, lj_5, lj_12, zJ_add, zJ_sub, zJ_mul, zJ_neg, zJ_l2i, tJ_zJ, zI_add, zI_sub, zI_mul, zI_neg, ↓Option.bind_some, ↓g12_5, ↓g12_2, ↓g12_0, ↓g12_53, ↓p12_5, ↓al_218, ↓as_218, ↓al_220, ↓as_220, ↓al_243, ↓as_243, zIt2, uR_at, uR_ne, uR_uR, uC_uC, uC_at, ↓reduceIte, decide_eq_true_eq, leT, leF, ltT, ltF, eqT, eqF, ne_eq, not_true_eq_false, not_false_eq_true, Bool.false_eq_true, tI_zI]
  · have ha : a_behind K F G x y z = (1, 0) := if_neg (fun q => c1 q.2.2)
    rw [ha]
    refine ⟨uR F 217 (uC (F 217) 5 (zI 1)), G, ?_, by rw [uR_at, uC_at], KeepM_c⟩
    refine into (D := 5) (by omega) hM_245 (rcv_mk rfl (by decide)) rfl fun d hd => ?_
    show runP MP d 245 (0, [some (.ref 217), some (.int (zI x)), some (.int (zI y)), some (.int (zI z)), none], [], _) = _
    rw [q_245_0]; (try simp only [↓n_rd, ↓n_al, ↓n_cI, li_0, li_1, li_2, li_5, li_12, li_206, lj_0, lj_1, lj_2, lj_5, lj_12, zJ_add, zJ_sub, zJ_mul, zJ_neg, zJ_l2i, zI_add, zI_sub, zI_mul, zI_neg, ↓Option.bind_some]); simp (disch := (first | assumption | exact tI_rg _ | omega | exact uR_at | exact row_ne hF (by decide) | exact row_ne (row_ne hF (by decide)) (by decide) | exact SnS_18 | exact SnS_30 | exact LdS_44 | exact LdS_46)) only [q_245_26, q_245_45, ↓cc_236, if_neg c1, ↓n_rd, ↓n_al, ↓n_cI, li_0, li_1, li_2, li_5, li_12, li_206, lj_0, lj_1, lj_2, lj_5, lj_12, zJ_add, zJ_sub, zJ_mul, zJ_neg, zJ_l2i, tJ_zJ, zI_add, zI_sub, zI_mul, zI_neg, ↓Option.bind_some, ↓g12_5, ↓g12_2, ↓g12_0, ↓g12_53, ↓p12_5, ↓al_218, ↓as_218, ↓al_220, ↓as_220, ↓al_243, ↓as_243, zIt2, uR_at, uR_ne, uR_uR, uC_uC, uC_at, ↓reduceIte, decide_eq_true_eq, leT, leF, ltT, ltF, eqT, eqF, ne_eq, not_true_eq_false, not_false_eq_true, Bool.false_eq_true, tI_zI]
end S94i
