/-! CLASS: reading a plain 5 -/
section S94zzx
set_option linter.unusedVariables false
set_option linter.unusedSimpArgs false
theorem rt_rg (x : PrR) : -2147483648 ≤ rtZ x ∧ rtZ x ≤ 2147483647 := by
  cases x with
  | inl f => show (-2147483648 : Int) ≤ 0 ∧ (0 : Int) ≤ 2147483647; omega
  | inr s => show (-2147483648 : Int) ≤ 1 ∧ (1 : Int) ≤ 2147483647; omega
theorem fin_47 {E : EnQ} {F : Nat → Int → Int32} {G : Nat → Int → Int64} {T : Nat → Int} {n a p : Nat} {y : PrR} (hE : RdE E a p) (h : OuR F T n a p y) (hy : ∀ s, y = .inr s → ∃ w, InP n s.1 s.2 w) : ∃ F1, (∀ d, 6 ≤ d + 1 → runP MP d 47 (96, [some (.ref a), some (.ref p), some (.int (zI (rtZ y)))], [], mk E F G) = some (Sum.inl (some (.int (zI (rtZ (bnd y (pEnd T n)))))), mk E F1 G)) ∧ OuR F1 T n a p (bnd y (pEnd T n)) ∧ KpR a p F F1 := by
  cases y with
  | inl f =>
    refine ⟨F, fun d hd => ?_, h, KpR.refl⟩
    show (_ : ResP) = some (Sum.inl (some (.int (zI 0))), mk E F G)
    show runP MP d 47 (96, [some (.ref a), some (.ref p), some (.int (zI 0))], [], mk E F G) = _
    rw [q_47_96]; (try simp only [↓n_cI, li_0, li_1, li_2, li_3, li_4, li_5, li_46, li_48, zI_add, zI_sub, zI_mul, zI_neg, ↓Option.bind_some]); simp (disch := (first | assumption | exact tI_rg _ | omega | exact uR_at | exact row_ne hF (by decide) | exact row_ne (row_ne hF (by decide)) (by decide) | exact SnS_18 | exact SnS_30 | exact LdS_44 | exact LdS_46)) only [q_47_0, q_47_112, q_47_113, ↓n_cI, retZ_z, li_0, li_1, li_2, li_3, li_4, li_5, li_46, li_48, zI_add, zI_sub, zI_mul, zI_neg, ↓Option.bind_some, zIt2, uR_at, uR_ne, uR_uR, uC_uC, uC_at, ↓reduceIte, decide_eq_true_eq, leT, leF, ltT, ltF, eqT, eqF, ne_eq, not_true_eq_false, not_false_eq_true, Bool.false_eq_true, tI_zI]
  | inr s =>
    obtain ⟨w, i1, i2, i3, i4⟩ := hy s rfl
    obtain ⟨F1, c1, r1, k1⟩ := go_46 (G := G) hE (show RdR F T n a p s.1 s.2 from h) i2.1 i1.1.1.2.2.1 i1.1.1.1
    refine ⟨F1, fun d hd => ?_, r1, k1⟩
    show runP MP d 47 (96, [some (.ref a), some (.ref p), some (.int (zI 1))], [], mk E F G) = some (Sum.inl (some (.int (zI (rtZ (pEnd T n s))))), mk E F1 G)
    have c1' : CtP MP 4 46 [.ref a, .ref p] (mk E F G) (Sum.inl (some (.int (zI (rtZ (pEnd T n s)))))) (mk E F1 G) := c1
    cases hx : pEnd T n s with
    | inl f =>
      rw [hx] at c1'
      have c2 : CtP MP 4 46 [.ref a, .ref p] (mk E F G) (Sum.inl (some (.int (zI 0)))) (mk E F1 G) := c1'
      show (_ : ResP) = some (Sum.inl (some (.int (zI 0))), mk E F1 G)
      rw [q_47_96]; (try simp only [↓n_cI, li_0, li_1, li_2, li_3, li_4, li_5, li_46, li_48, zI_add, zI_sub, zI_mul, zI_neg, ↓Option.bind_some]); simp (disch := (first | assumption | exact tI_rg _ | omega | exact uR_at | exact row_ne hF (by decide) | exact row_ne (row_ne hF (by decide)) (by decide) | exact SnS_18 | exact SnS_30 | exact LdS_44 | exact LdS_46)) only [q_47_0, q_47_112, q_47_113, ↓ctT c2, ↓n_cI, retZ_z, li_0, li_1, li_2, li_3, li_4, li_5, li_46, li_48, zI_add, zI_sub, zI_mul, zI_neg, ↓Option.bind_some, zIt2, uR_at, uR_ne, uR_uR, uC_uC, uC_at, ↓reduceIte, decide_eq_true_eq, leT, leF, ltT, ltF, eqT, eqF, ne_eq, not_true_eq_false, not_false_eq_true, Bool.false_eq_true, tI_zI]
    | inr u =>
      rw [hx] at c1'
      have c2 : CtP MP 4 46 [.ref a, .ref p] (mk E F G) (Sum.inl (some (.int (zI 1)))) (mk E F1 G) := c1'
      show (_ : ResP) = some (Sum.inl (some (.int (zI 1))), mk E F1 G)
      rw [q_47_96]; (try simp only [↓n_cI, li_0, li_1, li_2, li_3, li_4, li_5, li_46, li_48, zI_add, zI_sub, zI_mul, zI_neg, ↓Option.bind_some]); simp (disch := (first | assumption | exact tI_rg _ | omega | exact uR_at | exact row_ne hF (by decide) | exact row_ne (row_ne hF (by decide)) (by decide) | exact SnS_18 | exact SnS_30 | exact LdS_44 | exact LdS_46)) only [q_47_0, q_47_112, q_47_113, ↓ctT c2, ↓n_cI, retZ_z, li_0, li_1, li_2, li_3, li_4, li_5, li_46, li_48, zI_add, zI_sub, zI_mul, zI_neg, ↓Option.bind_some, zIt2, uR_at, uR_ne, uR_uR, uC_uC, uC_at, ↓reduceIte, decide_eq_true_eq, leT, leF, ltT, ltF, eqT, eqF, ne_eq, not_true_eq_false, not_false_eq_true, Bool.false_eq_true, tI_zI]
theorem go_47 {E : EnQ} {F : Nat → Int → Int32} {G : Nat → Int → Int64} {T : Nat → Int} {n a p : Nat} {D : Int → Int32} {t : TkS} (hE : RdE E a p) (h : RdR F T n a p D t) (hI : InP n D t (tI (D 3))) : ∃ F1, CtP MP 6 47 [.ref a, .ref p] (mk E F G) (Sum.inl (some (.int (zI (rtZ (pLine T n D t)))))) (mk E F1 G) ∧ OuR F1 T n a p (pLine T n D t) ∧ KpR a p F F1 := by
  have hs := hE.1
  have ht := hI.2.1.1
  have fx : ∀ s, pKind T n D t = .inr s → ∃ w, InP n s.1 s.2 w := fun s hs => ⟨_, (i_kind hI hs).1⟩
  have rr := rt_rg (pKind T n D t)
  unfold pLine
  by_cases w1 : isW T 1 t = true
  · have e : pKind T n D t = pPath T n D t := if_pos w1
    have g1 := go_43t (G := G) hE h ht (k := 1) (by omega) w1
    obtain ⟨F1, c1, r1, k1⟩ := go_48 (G := G) hE h hI
    rw [← e] at r1 c1
    obtain ⟨F2, c2, r2, k2⟩ := fin_47 (G := G) hE r1 fx
    refine ⟨F2, fun d hd => ?_, r2, k1.tr k2⟩
    refine into (D := 5) (by omega) hM_47 (rcv_mk hs (by decide)) rfl fun d hd => ?_
    show runP MP d 47 (0, [some (.ref a), some (.ref p), none], [], _) = _
    rw [← c2 d (by omega)]
    rw [q_47_0]; (try simp only [↓n_cI, li_0, li_1, li_2, li_3, li_4, li_5, li_46, li_48, zI_add, zI_sub, zI_mul, zI_neg, ↓Option.bind_some]); simp (disch := (first | assumption | exact tI_rg _ | omega | exact uR_at | exact row_ne hF (by decide) | exact row_ne (row_ne hF (by decide)) (by decide) | exact SnS_18 | exact SnS_30 | exact LdS_44 | exact LdS_46)) only [q_47_112, q_47_113, ↓ctT g1, ↓ctT c1, ↓n_cI, retZ_z, li_0, li_1, li_2, li_3, li_4, li_5, li_46, li_48, zI_add, zI_sub, zI_mul, zI_neg, ↓Option.bind_some, zIt2, uR_at, uR_ne, uR_uR, uC_uC, uC_at, ↓reduceIte, decide_eq_true_eq, leT, leF, ltT, ltF, eqT, eqF, ne_eq, not_true_eq_false, not_false_eq_true, Bool.false_eq_true, tI_zI]
  · have g1 := go_43f (G := G) hE h ht (k := 1) (by omega) w1
    by_cases w2 : isW T 2 t = true
    · have e : pKind T n D t = pWalk T n D t := (if_neg w1).trans (if_pos w2)
      have g2 := go_43t (G := G) hE h ht (k := 2) (by omega) w2
      obtain ⟨F1, c1, r1, k1⟩ := go_49 (G := G) hE h hI
      rw [← e] at r1 c1
      obtain ⟨F2, c2, r2, k2⟩ := fin_47 (G := G) hE r1 fx
      refine ⟨F2, fun d hd => ?_, r2, k1.tr k2⟩
      refine into (D := 5) (by omega) hM_47 (rcv_mk hs (by decide)) rfl fun d hd => ?_
      show runP MP d 47 (0, [some (.ref a), some (.ref p), none], [], _) = _
      rw [← c2 d (by omega)]
      rw [q_47_0]; (try simp only [↓n_cI, li_0, li_1, li_2, li_3, li_4, li_5, li_46, li_48, zI_add, zI_sub, zI_mul, zI_neg, ↓Option.bind_some]); simp (disch := (first | assumption | exact tI_rg _ | omega | exact uR_at | exact row_ne hF (by decide) | exact row_ne (row_ne hF (by decide)) (by decide) | exact SnS_18 | exact SnS_30 | exact LdS_44 | exact LdS_46)) only [q_47_112, q_47_113, ↓ctT g1, ↓ctT g2, ↓ctT c1, ↓n_cI, retZ_z, li_0, li_1, li_2, li_3, li_4, li_5, li_46, li_48, zI_add, zI_sub, zI_mul, zI_neg, ↓Option.bind_some, zIt2, uR_at, uR_ne, uR_uR, uC_uC, uC_at, ↓reduceIte, decide_eq_true_eq, leT, leF, ltT, ltF, eqT, eqF, ne_eq, not_true_eq_false, not_false_eq_true, Bool.false_eq_true, tI_zI]
    · have g2 := go_43f (G := G) hE h ht (k := 2) (by omega) w2
      by_cases w3 : isW T 3 t = true
      · have e : pKind T n D t = pOne T n 4 1 60 (D, av T n t) := (if_neg w1).trans ((if_neg w2).trans (if_pos w3))
        have g3 := go_43t (G := G) hE h ht (k := 3) (by omega) w3
        obtain ⟨F1, c1, r1, k1⟩ := go_51 (G := G) hE h hI
        rw [← e] at r1 c1
        obtain ⟨F2, c2, r2, k2⟩ := fin_47 (G := G) hE r1 fx
        refine ⟨F2, fun d hd => ?_, r2, k1.tr k2⟩
        refine into (D := 5) (by omega) hM_47 (rcv_mk hs (by decide)) rfl fun d hd => ?_
        show runP MP d 47 (0, [some (.ref a), some (.ref p), none], [], _) = _
        rw [← c2 d (by omega)]
        rw [q_47_0]; (try simp only [↓n_cI, li_0, li_1, li_2, li_3, li_4, li_5, li_46, li_48, zI_add, zI_sub, zI_mul, zI_neg, ↓Option.bind_some]); simp (disch := (first | assumption | exact tI_rg _ | omega | exact uR_at | exact row_ne hF (by decide) | exact row_ne (row_ne hF (by decide)) (by decide) | exact SnS_18 | exact SnS_30 | exact LdS_44 | exact LdS_46)) only [q_47_112, q_47_113, ↓ctT g1, ↓ctT g2, ↓ctT g3, ↓ctT c1, ↓n_cI, retZ_z, li_0, li_1, li_2, li_3, li_4, li_5, li_46, li_48, zI_add, zI_sub, zI_mul, zI_neg, ↓Option.bind_some, zIt2, uR_at, uR_ne, uR_uR, uC_uC, uC_at, ↓reduceIte, decide_eq_true_eq, leT, leF, ltT, ltF, eqT, eqF, ne_eq, not_true_eq_false, not_false_eq_true, Bool.false_eq_true, tI_zI]
      · have g3 := go_43f (G := G) hE h ht (k := 3) (by omega) w3
        by_cases w4 : isW T 4 t = true
        · have e : pKind T n D t = pStorm T n (D, av T n t) := (if_neg w1).trans ((if_neg w2).trans ((if_neg w3).trans (if_pos w4)))
          have g4 := go_43t (G := G) hE h ht (k := 4) (by omega) w4
          obtain ⟨F1, c1, r1, k1⟩ := go_52 (G := G) hE h hI
          rw [← e] at r1 c1
          obtain ⟨F2, c2, r2, k2⟩ := fin_47 (G := G) hE r1 fx
          refine ⟨F2, fun d hd => ?_, r2, k1.tr k2⟩
          refine into (D := 5) (by omega) hM_47 (rcv_mk hs (by decide)) rfl fun d hd => ?_
          show runP MP d 47 (0, [some (.ref a), some (.ref p), none], [], _) = _
          rw [← c2 d (by omega)]
          rw [q_47_0]; (try simp only [↓n_cI, li_0, li_1, li_2, li_3, li_4, li_5, li_46, li_48, zI_add, zI_sub, zI_mul, zI_neg, ↓Option.bind_some]); simp (disch := (first | assumption | exact tI_rg _ | omega | exact uR_at | exact row_ne hF (by decide) | exact row_ne (row_ne hF (by decide)) (by decide) | exact SnS_18 | exact SnS_30 | exact LdS_44 | exact LdS_46)) only [q_47_112, q_47_113, ↓ctT g1, ↓ctT g2, ↓ctT g3, ↓ctT g4, ↓ctT c1, ↓n_cI, retZ_z, li_0, li_1, li_2, li_3, li_4, li_5, li_46, li_48, zI_add, zI_sub, zI_mul, zI_neg, ↓Option.bind_some, zIt2, uR_at, uR_ne, uR_uR, uC_uC, uC_at, ↓reduceIte, decide_eq_true_eq, leT, leF, ltT, ltF, eqT, eqF, ne_eq, not_true_eq_false, not_false_eq_true, Bool.false_eq_true, tI_zI]
        · have g4 := go_43f (G := G) hE h ht (k := 4) (by omega) w4
          by_cases w5 : isW T 5 t = true
          · have e : pKind T n D t = pOne T n 168 1 99 (D, av T n t) := (if_neg w1).trans ((if_neg w2).trans ((if_neg w3).trans ((if_neg w4).trans (if_pos w5))))
            have g5 := go_43t (G := G) hE h ht (k := 5) (by omega) w5
            obtain ⟨F1, c1, r1, k1⟩ := go_53 (G := G) hE h hI
            rw [← e] at r1 c1
            obtain ⟨F2, c2, r2, k2⟩ := fin_47 (G := G) hE r1 fx
            refine ⟨F2, fun d hd => ?_, r2, k1.tr k2⟩
            refine into (D := 5) (by omega) hM_47 (rcv_mk hs (by decide)) rfl fun d hd => ?_
            show runP MP d 47 (0, [some (.ref a), some (.ref p), none], [], _) = _
            rw [← c2 d (by omega)]
            rw [q_47_0]; (try simp only [↓n_cI, li_0, li_1, li_2, li_3, li_4, li_5, li_46, li_48, zI_add, zI_sub, zI_mul, zI_neg, ↓Option.bind_some]); simp (disch := (first | assumption | exact tI_rg _ | omega | exact uR_at | exact row_ne hF (by decide) | exact row_ne (row_ne hF (by decide)) (by decide) | exact SnS_18 | exact SnS_30 | exact LdS_44 | exact LdS_46)) only [q_47_112, q_47_113, ↓ctT g1, ↓ctT g2, ↓ctT g3, ↓ctT g4, ↓ctT g5, ↓ctT c1, ↓n_cI, retZ_z, li_0, li_1, li_2, li_3, li_4, li_5, li_46, li_48, zI_add, zI_sub, zI_mul, zI_neg, ↓Option.bind_some, zIt2, uR_at, uR_ne, uR_uR, uC_uC, uC_at, ↓reduceIte, decide_eq_true_eq, leT, leF, ltT, ltF, eqT, eqF, ne_eq, not_true_eq_false, not_false_eq_true, Bool.false_eq_true, tI_zI]
          · have g5 := go_43f (G := G) hE h ht (k := 5) (by omega) w5
            have e : pKind T n D t = .inl (flt t 2) := (if_neg w1).trans ((if_neg w2).trans ((if_neg w3).trans ((if_neg w4).trans (if_neg w5))))
            obtain ⟨F1, c1, r1, k1⟩ := go_44 (G := G) hE h ht (y := 2) (by omega)
            have r1' : OuR F1 T n a p (.inl (flt t 2)) := r1
            have c1' : CtP MP 1 44 [.ref a, .int (zI 2)] (mk E F G) (Sum.inl (some (.int (zI (rtZ (.inl (flt t 2))))))) (mk E F1 G) := c1
            rw [← e] at r1' c1'
            obtain ⟨F2, c2, r2, k2⟩ := fin_47 (G := G) hE r1' fx
            refine ⟨F2, fun d hd => ?_, r2, k1.tr k2⟩
            refine into (D := 5) (by omega) hM_47 (rcv_mk hs (by decide)) rfl fun d hd => ?_
            show runP MP d 47 (0, [some (.ref a), some (.ref p), none], [], _) = _
            rw [← c2 d (by omega)]
            rw [q_47_0]; (try simp only [↓n_cI, li_0, li_1, li_2, li_3, li_4, li_5, li_46, li_48, zI_add, zI_sub, zI_mul, zI_neg, ↓Option.bind_some]); simp (disch := (first | assumption | exact tI_rg _ | omega | exact uR_at | exact row_ne hF (by decide) | exact row_ne (row_ne hF (by decide)) (by decide) | exact SnS_18 | exact SnS_30 | exact LdS_44 | exact LdS_46)) only [q_47_112, q_47_113, ↓ctT g1, ↓ctT g2, ↓ctT g3, ↓ctT g4, ↓ctT g5, ↓ctT c1', ↓n_cI, retZ_z, li_0, li_1, li_2, li_3, li_4, li_5, li_46, li_48, zI_add, zI_sub, zI_mul, zI_neg, ↓Option.bind_some, zIt2, uR_at, uR_ne, uR_uR, uC_uC, uC_at, ↓reduceIte, decide_eq_true_eq, leT, leF, ltT, ltF, eqT, eqF, ne_eq, not_true_eq_false, not_false_eq_true, Bool.false_eq_true, tI_zI]
theorem go_42 {E : EnQ} {F : Nat → Int → Int32} {G : Nat → Int → Int64} {T : Nat → Int} {n a p : Nat} {D : Int → Int32} {t : TkS} (hE : RdE E a p) (h : RdR F T n a p D t) (hI : InP n D t 0) (hD : tI (D 2) = 0 ∧ tI (D 3) = 0) : ∃ F1, CtP MP 5 42 [.ref a, .ref p] (mk E F G) (Sum.inl (some (.int (zI (rtZ (pFirst T n D t)))))) (mk E F1 G) ∧ OuR F1 T n a p (pFirst T n D t) ∧ KpR a p F F1 := by
  have hs := hE.1
  have hs2 := hE.2.2.1.1
  have g6 := hE.2.2.2.2.2
  have g17 := hE.2.2.2.1
  have gp17 := hE.2.2.2.2.1
  obtain ⟨hP, hN, h0, h6⟩ := hI
  have p0 := hP.1.1.2.2.1
  obtain ⟨a1, a2, -⟩ := av_st (T := T) hN
  by_cases w1 : isW T 0 t = true
  · have g0 := go_43t (G := G) hE h hN.1 (k := 0) (by omega) w1
    obtain ⟨F1, c1, r1, k1⟩ := go_38 (G := G) hE h hN.1
    by_cases c : nmZ (av T n t) 1 10 = 0
    · obtain ⟨n1, n2, n3⟩ := nm_0 c
      obtain ⟨a3, a4, -⟩ := av_st (T := T) a1
      have e : pFirst T n D t = pEnd T n (uC D 1 (zI (av T n t).2.2.2), av T n (av T n t)) := by
        unfold pFirst; rw [if_pos w1, show pOne T n 1 1 10 (D, av T n t) = .inr (uC D 1 (zI (av T n t).2.2.2), av T n (av T n t)) from if_pos c]; rfl
      rw [e]
      have g1 := go_45t (G := G) hE r1 a1.1 (lo := 1) (up := 10) (by omega) (by omega) c
      have u5 := r1.2.2.1.2.2.2 n1
      have r2 : RdR (uR F1 p (uC (F1 p) 1 (zI (av T n t).2.2.2))) T n a p (uC D 1 (zI (av T n t).2.2.2)) (av T n t) := RdR_p r1 (uR_ne (by omega)) (uR_ne (by omega)) (PlW_one r1.2.2.2 p0 (by omega))
      obtain ⟨F2, c2, r3, k2⟩ := go_38 (G := G) hE r2 a1.1
      have z0 := hP.1.1.1
      obtain ⟨F3, c3, r4, k3⟩ := go_46 (G := G) hE r3 a3.1 (by rw [uC_ne (by decide)]; exact p0) (by rw [uC_ne (by decide)]; exact z0)
      refine ⟨F3, fun d hd => ?_, r4, ((k1.tr (KpR_p (k := 0) (by omega))).tr k2).tr k3⟩
      cases hx : pEnd T n (uC D 1 (zI (av T n t).2.2.2), av T n (av T n t)) with
      | inl f =>
        rw [hx] at c3
        have c4 : CtP MP 4 46 [.ref a, .ref p] (mk E F2 G) (Sum.inl (some (.int (zI 0)))) (mk E F3 G) := c3
        show (_ : ResP) = some (Sum.inl (some (.int (zI 0))), mk E F3 G)
        refine into (D := 4) (by omega) hM_42 (rcv_mk hs (by decide)) rfl fun d hd => ?_
        show runP MP d 42 (0, [some (.ref a), some (.ref p)], [], _) = _
        rw [q_42_0]; (try simp only [↓n_rd, ↓n_cI, li_0, li_1, li_2, li_3, li_5, li_10, li_38, li_46, zI_add, zI_sub, zI_mul, zI_neg, ↓Option.bind_some]); simp (disch := (first | assumption | exact tI_rg _ | omega | exact uR_at | exact row_ne hF (by decide) | exact row_ne (row_ne hF (by decide)) (by decide) | exact SnS_18 | exact SnS_30 | exact LdS_44 | exact LdS_46)) only [u5, ↓ctT g0, ↓ctV c1, ↓ctT g1, ↓ctV c2, ↓ctT c4, ↓n_rd, ↓n_cI, retZ_z, li_0, li_1, li_2, li_3, li_5, li_10, li_38, li_46, zI_add, zI_sub, zI_mul, zI_neg, ↓Option.bind_some, ↓g3_5, ↓p2_1, zIt2, uR_at, uR_ne, uR_uR, uC_uC, uC_at, ↓reduceIte, decide_eq_true_eq, leT, leF, ltT, ltF, eqT, eqF, ne_eq, not_true_eq_false, not_false_eq_true, Bool.false_eq_true, tI_zI]
      | inr s =>
        rw [hx] at c3
        have c4 : CtP MP 4 46 [.ref a, .ref p] (mk E F2 G) (Sum.inl (some (.int (zI 1)))) (mk E F3 G) := c3
        show (_ : ResP) = some (Sum.inl (some (.int (zI 1))), mk E F3 G)
        refine into (D := 4) (by omega) hM_42 (rcv_mk hs (by decide)) rfl fun d hd => ?_
        show runP MP d 42 (0, [some (.ref a), some (.ref p)], [], _) = _
        rw [q_42_0]; (try simp only [↓n_rd, ↓n_cI, li_0, li_1, li_2, li_3, li_5, li_10, li_38, li_46, zI_add, zI_sub, zI_mul, zI_neg, ↓Option.bind_some]); simp (disch := (first | assumption | exact tI_rg _ | omega | exact uR_at | exact row_ne hF (by decide) | exact row_ne (row_ne hF (by decide)) (by decide) | exact SnS_18 | exact SnS_30 | exact LdS_44 | exact LdS_46)) only [u5, ↓ctT g0, ↓ctV c1, ↓ctT g1, ↓ctV c2, ↓ctT c4, ↓n_rd, ↓n_cI, retZ_z, li_0, li_1, li_2, li_3, li_5, li_10, li_38, li_46, zI_add, zI_sub, zI_mul, zI_neg, ↓Option.bind_some, ↓g3_5, ↓p2_1, zIt2, uR_at, uR_ne, uR_uR, uC_uC, uC_at, ↓reduceIte, decide_eq_true_eq, leT, leF, ltT, ltF, eqT, eqF, ne_eq, not_true_eq_false, not_false_eq_true, Bool.false_eq_true, tI_zI]
    · have e : pFirst T n D t = .inl (flt (av T n t) (nmZ (av T n t) 1 10)) := by
        unfold pFirst; rw [if_pos w1, show pOne T n 1 1 10 (D, av T n t) = .inl (flt (av T n t) (nmZ (av T n t) 1 10)) from if_neg c]; rfl
      rw [e]
      obtain ⟨F2, c2, r2, k2⟩ := go_45f (G := G) hE r1 a1.1 (lo := 1) (up := 10) (by omega) (by omega) c
      refine ⟨F2, fun d hd => ?_, r2, k1.tr k2⟩
      show (_ : ResP) = some (Sum.inl (some (.int (zI 0))), mk E F2 G)
      refine into (D := 4) (by omega) hM_42 (rcv_mk hs (by decide)) rfl fun d hd => ?_
      show runP MP d 42 (0, [some (.ref a), some (.ref p)], [], _) = _
      rw [q_42_0]; (try simp only [↓n_rd, ↓n_cI, li_0, li_1, li_2, li_3, li_5, li_10, li_38, li_46, zI_add, zI_sub, zI_mul, zI_neg, ↓Option.bind_some]); simp (disch := (first | assumption | exact tI_rg _ | omega | exact uR_at | exact row_ne hF (by decide) | exact row_ne (row_ne hF (by decide)) (by decide) | exact SnS_18 | exact SnS_30 | exact LdS_44 | exact LdS_46)) only [↓ctT g0, ↓ctV c1, ↓ctT c2, ↓n_rd, ↓n_cI, retZ_z, li_0, li_1, li_2, li_3, li_5, li_10, li_38, li_46, zI_add, zI_sub, zI_mul, zI_neg, ↓Option.bind_some, ↓g3_5, ↓p2_1, zIt2, uR_at, uR_ne, uR_uR, uC_uC, uC_at, ↓reduceIte, decide_eq_true_eq, leT, leF, ltT, ltF, eqT, eqF, ne_eq, not_true_eq_false, not_false_eq_true, Bool.false_eq_true, tI_zI]
  · have g0 := go_43f (G := G) hE h hN.1 (k := 0) (by omega) w1
    have e : pFirst T n D t = .inl (flt t 2) := by unfold pFirst; rw [if_neg w1]; rfl
    rw [e]
    obtain ⟨F1, c1, r1, k1⟩ := go_44 (G := G) hE h hN.1 (y := 2) (by omega)
    refine ⟨F1, fun d hd => ?_, r1, k1⟩
    show (_ : ResP) = some (Sum.inl (some (.int (zI 0))), mk E F1 G)
    refine into (D := 4) (by omega) hM_42 (rcv_mk hs (by decide)) rfl fun d hd => ?_
    show runP MP d 42 (0, [some (.ref a), some (.ref p)], [], _) = _
    rw [q_42_0]; (try simp only [↓n_rd, ↓n_cI, li_0, li_1, li_2, li_3, li_5, li_10, li_38, li_46, zI_add, zI_sub, zI_mul, zI_neg, ↓Option.bind_some]); simp (disch := (first | assumption | exact tI_rg _ | omega | exact uR_at | exact row_ne hF (by decide) | exact row_ne (row_ne hF (by decide)) (by decide) | exact SnS_18 | exact SnS_30 | exact LdS_44 | exact LdS_46)) only [↓ctT g0, ↓ctT c1, ↓n_rd, ↓n_cI, retZ_z, li_0, li_1, li_2, li_3, li_5, li_10, li_38, li_46, zI_add, zI_sub, zI_mul, zI_neg, ↓Option.bind_some, ↓g3_5, ↓p2_1, zIt2, uR_at, uR_ne, uR_uR, uC_uC, uC_at, ↓reduceIte, decide_eq_true_eq, leT, leF, ltT, ltF, eqT, eqF, ne_eq, not_true_eq_false, not_false_eq_true, Bool.false_eq_true, tI_zI]
def rfV (p : Nat) (x : PrR) : Value := match x with
  | .inl _ => .null
  | .inr _ => .ref p
theorem go_37l {E : EnQ} {G : Nat → Int → Int64} {T : Nat → Int} {n a p : Nat} (hE : RdE E a p) : ∀ (m j : Nat) (D : Int → Int32) (t : TkS) (F : Nat → Int → Int32), j + m = n → RdR F T n a p D t → InP n D t (tI (D 3)) →
    ∃ F1, (∀ d, 7 ≤ d + 1 → runP MP d 37 (24, [some (.ref a), some (.ref p), some (.int (zI (j : Int)))], [], mk E F G) = some (Sum.inl (some (rfV p (pLines T n m D t))), mk E F1 G)) ∧ OuR F1 T n a p (pLines T n m D t) ∧ KpR a p F F1 := by
  have hs := hE.1
  intro m
  induction m with
  | zero =>
    intro j D t F hj h hI
    have h6 := hI.2.2.2
    have hn := h.2.1.1
    refine ⟨F, fun d hd => ?_, h, KpR.refl⟩
    show (_ : ResP) = some (Sum.inl (some (.ref p)), mk E F G)
    rw [q_37_24]; (try simp only [↓n_rd, ↓n_cI, li_0, li_1, li_2, li_3, li_13, li_24, li_38, zI_add, zI_sub, zI_mul, zI_neg, ↓Option.bind_some]); simp (disch := (first | assumption | exact tI_rg _ | omega | exact uR_at | exact row_ne hF (by decide) | exact row_ne (row_ne hF (by decide)) (by decide) | exact SnS_18 | exact SnS_30 | exact LdS_44 | exact LdS_46)) only [q_37_0, q_37_55, hn, ↓n_rd, ↓n_cI, li_0, li_1, li_2, li_3, li_13, li_24, li_38, zI_add, zI_sub, zI_mul, zI_neg, ↓Option.bind_some, ↓g3_1, ↓g3_2, zIt2, uR_at, uR_ne, uR_uR, uC_uC, uC_at, ↓reduceIte, decide_eq_true_eq, leT, leF, ltT, ltF, eqT, eqF, ne_eq, not_true_eq_false, not_false_eq_true, Bool.false_eq_true, tI_zI]
  | succ m ih =>
    intro j D t F hj h hI
    have h6 := hI.2.2.2
    have hn := h.2.1.1
    have m1 := h.2.2.1.1
    have t1 := hI.2.1.1.1
    by_cases c : t.1 = 0
    · have e : pLines T n (m + 1) D t = .inr (D, t) := if_pos c
      rw [e]
      refine ⟨F, fun d hd => ?_, h, KpR.refl⟩
      show (_ : ResP) = some (Sum.inl (some (.ref p)), mk E F G)
      rw [q_37_24]; (try simp only [↓n_rd, ↓n_cI, li_0, li_1, li_2, li_3, li_13, li_24, li_38, zI_add, zI_sub, zI_mul, zI_neg, ↓Option.bind_some]); simp (disch := (first | assumption | exact tI_rg _ | omega | exact uR_at | exact row_ne hF (by decide) | exact row_ne (row_ne hF (by decide)) (by decide) | exact SnS_18 | exact SnS_30 | exact LdS_44 | exact LdS_46)) only [q_37_0, q_37_55, hn, m1, c, ↓n_rd, ↓n_cI, li_0, li_1, li_2, li_3, li_13, li_24, li_38, zI_add, zI_sub, zI_mul, zI_neg, ↓Option.bind_some, ↓g3_1, ↓g3_2, zIt2, uR_at, uR_ne, uR_uR, uC_uC, uC_at, ↓reduceIte, decide_eq_true_eq, leT, leF, ltT, ltF, eqT, eqF, ne_eq, not_true_eq_false, not_false_eq_true, Bool.false_eq_true, tI_zI]
    · have e : pLines T n (m + 1) D t = bnd (pLine T n D t) (fun s => pLines T n m s.1 s.2) := if_neg c
      rw [e]
      obtain ⟨F1, c1, r1, k1⟩ := go_47 (G := G) hE h hI
      cases hx : pLine T n D t with
      | inl f =>
        rw [hx] at c1 r1
        have c2 : CtP MP 6 47 [.ref a, .ref p] (mk E F G) (Sum.inl (some (.int (zI 0)))) (mk E F1 G) := c1
        refine ⟨F1, fun d hd => ?_, r1, k1⟩
        show (_ : ResP) = some (Sum.inl (some .null), mk E F1 G)
        rw [q_37_24]; (try simp only [↓n_rd, ↓n_cI, li_0, li_1, li_2, li_3, li_13, li_24, li_38, zI_add, zI_sub, zI_mul, zI_neg, ↓Option.bind_some]); simp (disch := (first | assumption | exact tI_rg _ | omega | exact uR_at | exact row_ne hF (by decide) | exact row_ne (row_ne hF (by decide)) (by decide) | exact SnS_18 | exact SnS_30 | exact LdS_44 | exact LdS_46)) only [q_37_0, q_37_55, hn, m1, ↓ctT c2, ↓n_rd, ↓n_cI, li_0, li_1, li_2, li_3, li_13, li_24, li_38, zI_add, zI_sub, zI_mul, zI_neg, ↓Option.bind_some, ↓g3_1, ↓g3_2, zIt2, uR_at, uR_ne, uR_uR, uC_uC, uC_at, ↓reduceIte, decide_eq_true_eq, leT, leF, ltT, ltF, eqT, eqF, ne_eq, not_true_eq_false, not_false_eq_true, Bool.false_eq_true, tI_zI]
      | inr s =>
        rw [hx] at c1 r1
        have c2 : CtP MP 6 47 [.ref a, .ref p] (mk E F G) (Sum.inl (some (.int (zI 1)))) (mk E F1 G) := c1
        obtain ⟨i1, i2⟩ := i_line hI hx
        obtain ⟨F2, q2, r2, k2⟩ := ih (j + 1) s.1 s.2 F1 (by omega) r1 i1
        refine ⟨F2, fun d hd => ?_, r2, k1.tr k2⟩
        refine Eq.trans ?_ (q2 d hd)
        rw [nsucc]
        rw [q_37_24]; (try simp only [↓n_rd, ↓n_cI, li_0, li_1, li_2, li_3, li_13, li_24, li_38, zI_add, zI_sub, zI_mul, zI_neg, ↓Option.bind_some]); simp (disch := (first | assumption | exact tI_rg _ | omega | exact uR_at | exact row_ne hF (by decide) | exact row_ne (row_ne hF (by decide)) (by decide) | exact SnS_18 | exact SnS_30 | exact LdS_44 | exact LdS_46)) only [q_37_0, q_37_55, hn, m1, ↓ctT c2, ↓n_rd, ↓n_cI, li_0, li_1, li_2, li_3, li_13, li_24, li_38, zI_add, zI_sub, zI_mul, zI_neg, ↓Option.bind_some, ↓g3_1, ↓g3_2, zIt2, uR_at, uR_ne, uR_uR, uC_uC, uC_at, ↓reduceIte, decide_eq_true_eq, leT, leF, ltT, ltF, eqT, eqF, ne_eq, not_true_eq_false, not_false_eq_true, Bool.false_eq_true, tI_zI]
end S94zzx
