/-! CLASS: reading a plain 3 -/
section S94zzv
set_option linter.unusedVariables false
set_option linter.unusedSimpArgs false
theorem way_m1 {D : Int → Int32} {x y : Int} : wayZ D x y = -1 ↔ pathZ D x y = -1 := by
  have hr := fndN_rg (isP D x y) (tI (D 2)).toNat 0
  have he : pathZ D x y = fndN (isP D x y) (tI (D 2)).toNat 0 := rfl
  unfold wayZ
  by_cases c : pathZ D x y = -1
  · rw [if_pos c]; exact ⟨fun _ => c, fun _ => rfl⟩
  · rw [if_neg c]
    refine ⟨fun z => ?_, fun z => absurd z c⟩
    exfalso
    split at z <;> omega
theorem go_48 {E : EnQ} {F : Nat → Int → Int32} {G : Nat → Int → Int64} {T : Nat → Int} {n a p : Nat} {D : Int → Int32} {t : TkS} (hE : RdE E a p) (h : RdR F T n a p D t) (hI : InP n D t (tI (D 3))) : ∃ F1, CtP MP 4 48 [.ref a, .ref p] (mk E F G) (Sum.inl (some (.int (zI (rtZ (pPath T n D t)))))) (mk E F1 G) ∧ OuR F1 T n a p (pPath T n D t) ∧ KpR a p F F1 := by
  have hs := hE.1
  have hs2 := hE.2.2.1.1
  have hPl := hE.2.2.1
  have g6 := hE.2.2.2.2.2
  have g17 := hE.2.2.2.1
  have gp17 := hE.2.2.2.2.1
  obtain ⟨hP, hN, h0, h6⟩ := hI
  have hA := hP.1.1.2.1
  have p0 := hP.1.1.2.2.1
  have ht := hN.1
  obtain ⟨a1, a2, -⟩ := av_st (T := T) hN
  obtain ⟨a3, a4, -⟩ := av_st (T := T) a1
  have y2 := h.2.2.2.1.1.2.2.1
  by_cases c0 : tI (D 2) = 16
  · have e : pPath T n D t = .inl (flt t 4) := if_pos c0
    rw [e]
    obtain ⟨F1, c1, r1, k1⟩ := go_44 (G := G) hE h ht (y := 4) (by omega)
    refine ⟨F1, fun d hd => ?_, r1, k1⟩
    show (_ : ResP) = some (Sum.inl (some (.int (zI 0))), mk E F1 G)
    refine into (D := 3) (by omega) hM_48 (rcv_mk hs (by decide)) rfl fun d hd => ?_
    show runP MP d 48 (0, [some (.ref a), some (.ref p), none], [], _) = _
    rw [q_48_0]; (try simp only [↓n_rd, ↓n_cI, li_0, li_1, li_2, li_3, li_4, li_5, li_16, li_30, li_38, li_48, zI_add, zI_sub, zI_mul, zI_neg, ↓Option.bind_some]); simp (disch := (first | assumption | exact tI_rg _ | omega | exact uR_at | exact row_ne hF (by decide) | exact row_ne (row_ne hF (by decide)) (by decide) | exact SnS_18 | exact SnS_30 | exact LdS_44 | exact LdS_46)) only [q_48_81, y2, c0, ↓ctT c1, ↓n_rd, ↓n_cI, retZ_z, li_0, li_1, li_2, li_3, li_4, li_5, li_16, li_30, li_38, li_48, zI_add, zI_sub, zI_mul, zI_neg, ↓Option.bind_some, ↓g2_1, ↓g2_2, ↓g3_5, zIt2, uR_at, uR_ne, uR_uR, uC_uC, uC_at, ↓reduceIte, decide_eq_true_eq, leT, leF, ltT, ltF, eqT, eqF, ne_eq, not_true_eq_false, not_false_eq_true, Bool.false_eq_true, tI_zI]
  · obtain ⟨F1, c1, r1, k1⟩ := go_38 (G := G) hE h ht
    have y1 := r1.2.2.2.1.1.2.1
    by_cases c : nmZ (av T n t) 0 (tI (D 1) - 1) = 0
    · obtain ⟨n1, n2, n3⟩ := nm_0 c
      have g1 := go_45t (G := G) hE r1 a1.1 (lo := 0) (up := tI (D 1) - 1) (by omega) (by omega) c
      have u5 := r1.2.2.1.2.2.2 n1
      obtain ⟨F2, c2, r2, k2⟩ := go_38 (G := G) hE r1 a1.1
      have z1 := r2.2.2.2.1.1.2.1
      by_cases d1 : nmZ (av T n (av T n t)) 0 (tI (D 1) - 1) = 0
      · obtain ⟨m1, m2, m3⟩ := nm_0 d1
        have g2 := go_45t (G := G) hE r2 a3.1 (lo := 0) (up := tI (D 1) - 1) (by omega) (by omega) d1
        have v5 := r2.2.2.1.2.2.2 m1
        have hlo := wayZ_lo p0 (av T n t).2.2.2 (av T n (av T n t)).2.2.2
        have hpl2 := r2.2.2.2.1
        by_cases e1 : (av T n (av T n t)).2.2.2 = (av T n t).2.2.2 ∨ pathZ D (av T n t).2.2.2 (av T n (av T n t)).2.2.2 ≠ -1
        · have e : pPath T n D t = .inl (flt (av T n (av T n t)) 3) := (if_neg c0).trans ((if_pos c).trans ((if_pos d1).trans (if_pos e1)))
          rw [e]
          obtain ⟨F3, c3, r3, k3⟩ := go_44 (G := G) hE r2 a3.1 (y := 3) (by omega)
          refine ⟨F3, fun d hd => ?_, r3, (k1.tr k2).tr k3⟩
          show (_ : ResP) = some (Sum.inl (some (.int (zI 0))), mk E F3 G)
          refine into (D := 3) (by omega) hM_48 (rcv_mk hs (by decide)) rfl fun d hd => ?_
          show runP MP d 48 (0, [some (.ref a), some (.ref p), none], [], _) = _
          by_cases z : (av T n (av T n t)).2.2.2 = (av T n t).2.2.2
          · rw [q_48_0]; (try simp only [↓n_rd, ↓n_cI, li_0, li_1, li_2, li_3, li_4, li_5, li_16, li_30, li_38, li_48, zI_add, zI_sub, zI_mul, zI_neg, ↓Option.bind_some]); simp (disch := (first | assumption | exact tI_rg _ | omega | exact uR_at | exact row_ne hF (by decide) | exact row_ne (row_ne hF (by decide)) (by decide) | exact SnS_18 | exact SnS_30 | exact LdS_44 | exact LdS_46)) only [q_48_81, y2, y1, z1, u5, v5, z, ↓ctV c1, ↓ctT g1, ↓ctV c2, ↓ctT g2, ↓ctT c3, ↓n_rd, ↓n_cI, retZ_z, li_0, li_1, li_2, li_3, li_4, li_5, li_16, li_30, li_38, li_48, zI_add, zI_sub, zI_mul, zI_neg, ↓Option.bind_some, ↓g2_1, ↓g2_2, ↓g3_5, zIt2, uR_at, uR_ne, uR_uR, uC_uC, uC_at, ↓reduceIte, decide_eq_true_eq, leT, leF, ltT, ltF, eqT, eqF, ne_eq, not_true_eq_false, not_false_eq_true, Bool.false_eq_true, tI_zI]
          · have zz : pathZ D (av T n t).2.2.2 (av T n (av T n t)).2.2.2 ≠ -1 := e1.resolve_left z
            have zw : wayZ D (av T n t).2.2.2 (av T n (av T n t)).2.2.2 ≠ -1 := fun q => zz (way_m1.mp q)
            have c26 : ∀ {kk : Int → HeapP → ResP} {kx : Nat → HeapP → ResP}, cT (callP MP d 26 [.ref p, .int (zI (av T n t).2.2.2), .int (zI (av T n (av T n t)).2.2.2)] (mk E F2 G)) kk kx = kk (wayZ D (av T n t).2.2.2 (av T n (av T n t)).2.2.2) (mk E F2 G) := fun {kk kx} => by
              rw [cc_26 hpl2 hP.1 hPl (by omega) (by omega) (by omega), if_pos ⟨⟨n2, by omega⟩, m2, by omega⟩]
            rw [q_48_0]; (try simp only [↓n_rd, ↓n_cI, li_0, li_1, li_2, li_3, li_4, li_5, li_16, li_30, li_38, li_48, zI_add, zI_sub, zI_mul, zI_neg, ↓Option.bind_some]); simp (disch := (first | assumption | exact tI_rg _ | omega | exact uR_at | exact row_ne hF (by decide) | exact row_ne (row_ne hF (by decide)) (by decide) | exact SnS_18 | exact SnS_30 | exact LdS_44 | exact LdS_46)) only [q_48_81, y2, y1, z1, u5, v5, ↓ctV c1, ↓ctT g1, ↓ctV c2, ↓ctT g2, ↓c26, ↓ctT c3, ↓n_rd, ↓n_cI, retZ_z, li_0, li_1, li_2, li_3, li_4, li_5, li_16, li_30, li_38, li_48, zI_add, zI_sub, zI_mul, zI_neg, ↓Option.bind_some, ↓g2_1, ↓g2_2, ↓g3_5, zIt2, uR_at, uR_ne, uR_uR, uC_uC, uC_at, ↓reduceIte, decide_eq_true_eq, leT, leF, ltT, ltF, eqT, eqF, ne_eq, not_true_eq_false, not_false_eq_true, Bool.false_eq_true, tI_zI]
        · have e : pPath T n D t = .inr (addPa D (av T n t).2.2.2 (av T n (av T n t)).2.2.2, av T n (av T n (av T n t))) := (if_neg c0).trans ((if_pos c).trans ((if_pos d1).trans (if_neg e1)))
          rw [e]
          have z : ¬ (av T n (av T n t)).2.2.2 = (av T n t).2.2.2 := fun z => e1 (Or.inl z)
          have zz : pathZ D (av T n t).2.2.2 (av T n (av T n t)).2.2.2 = -1 := Decidable.byContradiction fun z => e1 (Or.inr z)
          have zw : wayZ D (av T n t).2.2.2 (av T n (av T n t)).2.2.2 = -1 := way_m1.mpr zz
          obtain ⟨F3, c3, q3, k3⟩ := go_30 (G := G) hPl r2.2.2.2 hA ⟨p0.1, by omega⟩ ⟨n2, by omega⟩ ⟨m2, by omega⟩ (fun y => z y.symm) zz
          have r3 := RdR_p r2 (k3 17 (by omega)) (k3 a (by omega)) q3
          obtain ⟨F4, c4, r4, k4⟩ := go_38 (G := G) hE r3 a3.1
          refine ⟨F4, fun d hd => ?_, r4, ((k1.tr k2).tr (fun q _ hq => k3 q hq)).tr k4⟩
          show (_ : ResP) = some (Sum.inl (some (.int (zI 1))), mk E F4 G)
          refine into (D := 3) (by omega) hM_48 (rcv_mk hs (by decide)) rfl fun d hd => ?_
          show runP MP d 48 (0, [some (.ref a), some (.ref p), none], [], _) = _
          have c26 : ∀ {kk : Int → HeapP → ResP} {kx : Nat → HeapP → ResP}, cT (callP MP d 26 [.ref p, .int (zI (av T n t).2.2.2), .int (zI (av T n (av T n t)).2.2.2)] (mk E F2 G)) kk kx = kk (-1) (mk E F2 G) := fun {kk kx} => by
            rw [cc_26 hpl2 hP.1 hPl (by omega) (by omega) (by omega), if_pos ⟨⟨n2, by omega⟩, m2, by omega⟩, zw]
          rw [q_48_0]; (try simp only [↓n_rd, ↓n_cI, li_0, li_1, li_2, li_3, li_4, li_5, li_16, li_30, li_38, li_48, zI_add, zI_sub, zI_mul, zI_neg, ↓Option.bind_some]); simp (disch := (first | assumption | exact tI_rg _ | omega | exact uR_at | exact row_ne hF (by decide) | exact row_ne (row_ne hF (by decide)) (by decide) | exact SnS_18 | exact SnS_30 | exact LdS_44 | exact LdS_46)) only [q_48_81, y2, y1, z1, u5, v5, ↓ctV c1, ↓ctT g1, ↓ctV c2, ↓ctT g2, ↓c26, ↓ctV c3, ↓ctV c4, ↓n_rd, ↓n_cI, retZ_z, li_0, li_1, li_2, li_3, li_4, li_5, li_16, li_30, li_38, li_48, zI_add, zI_sub, zI_mul, zI_neg, ↓Option.bind_some, ↓g2_1, ↓g2_2, ↓g3_5, zIt2, uR_at, uR_ne, uR_uR, uC_uC, uC_at, ↓reduceIte, decide_eq_true_eq, leT, leF, ltT, ltF, eqT, eqF, ne_eq, not_true_eq_false, not_false_eq_true, Bool.false_eq_true, tI_zI]
      · have e : pPath T n D t = .inl (flt (av T n (av T n t)) (nmZ (av T n (av T n t)) 0 (tI (D 1) - 1))) := (if_neg c0).trans ((if_pos c).trans (if_neg d1))
        rw [e]
        obtain ⟨F3, c3, r3, k3⟩ := go_45f (G := G) hE r2 a3.1 (lo := 0) (up := tI (D 1) - 1) (by omega) (by omega) d1
        refine ⟨F3, fun d hd => ?_, r3, (k1.tr k2).tr k3⟩
        show (_ : ResP) = some (Sum.inl (some (.int (zI 0))), mk E F3 G)
        refine into (D := 3) (by omega) hM_48 (rcv_mk hs (by decide)) rfl fun d hd => ?_
        show runP MP d 48 (0, [some (.ref a), some (.ref p), none], [], _) = _
        have n4 := a1.1.2.2.2.2
        rw [q_48_0]; (try simp only [↓n_rd, ↓n_cI, li_0, li_1, li_2, li_3, li_4, li_5, li_16, li_30, li_38, li_48, zI_add, zI_sub, zI_mul, zI_neg, ↓Option.bind_some]); simp (disch := (first | assumption | exact tI_rg _ | omega | exact uR_at | exact row_ne hF (by decide) | exact row_ne (row_ne hF (by decide)) (by decide) | exact SnS_18 | exact SnS_30 | exact LdS_44 | exact LdS_46)) only [q_48_81, y2, y1, z1, u5, ↓ctV c1, ↓ctT g1, ↓ctV c2, ↓ctT c3, ↓n_rd, ↓n_cI, retZ_z, li_0, li_1, li_2, li_3, li_4, li_5, li_16, li_30, li_38, li_48, zI_add, zI_sub, zI_mul, zI_neg, ↓Option.bind_some, ↓g2_1, ↓g2_2, ↓g3_5, zIt2, uR_at, uR_ne, uR_uR, uC_uC, uC_at, ↓reduceIte, decide_eq_true_eq, leT, leF, ltT, ltF, eqT, eqF, ne_eq, not_true_eq_false, not_false_eq_true, Bool.false_eq_true, tI_zI]
    · have e : pPath T n D t = .inl (flt (av T n t) (nmZ (av T n t) 0 (tI (D 1) - 1))) := (if_neg c0).trans (if_neg c)
      rw [e]
      obtain ⟨F2, c2, r2, k2⟩ := go_45f (G := G) hE r1 a1.1 (lo := 0) (up := tI (D 1) - 1) (by omega) (by omega) c
      refine ⟨F2, fun d hd => ?_, r2, k1.tr k2⟩
      show (_ : ResP) = some (Sum.inl (some (.int (zI 0))), mk E F2 G)
      refine into (D := 3) (by omega) hM_48 (rcv_mk hs (by decide)) rfl fun d hd => ?_
      show runP MP d 48 (0, [some (.ref a), some (.ref p), none], [], _) = _
      rw [q_48_0]; (try simp only [↓n_rd, ↓n_cI, li_0, li_1, li_2, li_3, li_4, li_5, li_16, li_30, li_38, li_48, zI_add, zI_sub, zI_mul, zI_neg, ↓Option.bind_some]); simp (disch := (first | assumption | exact tI_rg _ | omega | exact uR_at | exact row_ne hF (by decide) | exact row_ne (row_ne hF (by decide)) (by decide) | exact SnS_18 | exact SnS_30 | exact LdS_44 | exact LdS_46)) only [q_48_81, y2, y1, ↓ctV c1, ↓ctT c2, ↓n_rd, ↓n_cI, retZ_z, li_0, li_1, li_2, li_3, li_4, li_5, li_16, li_30, li_38, li_48, zI_add, zI_sub, zI_mul, zI_neg, ↓Option.bind_some, ↓g2_1, ↓g2_2, ↓g3_5, zIt2, uR_at, uR_ne, uR_uR, uC_uC, uC_at, ↓reduceIte, decide_eq_true_eq, leT, leF, ltT, ltF, eqT, eqF, ne_eq, not_true_eq_false, not_false_eq_true, Bool.false_eq_true, tI_zI]
theorem go_51 {E : EnQ} {F : Nat → Int → Int32} {G : Nat → Int → Int64} {T : Nat → Int} {n a p : Nat} {D : Int → Int32} {t : TkS} (hE : RdE E a p) (h : RdR F T n a p D t) (hI : InP n D t (tI (D 3))) : ∃ F1, CtP MP 4 51 [.ref a, .ref p] (mk E F G) (Sum.inl (some (.int (zI (rtZ (pOne T n 4 1 60 (D, av T n t))))))) (mk E F1 G) ∧ OuR F1 T n a p (pOne T n 4 1 60 (D, av T n t)) ∧ KpR a p F F1 := by
  have hs := hE.1
  have hs2 := hE.2.2.1.1
  have g6 := hE.2.2.2.2.2
  have g17 := hE.2.2.2.1
  have gp17 := hE.2.2.2.2.1
  obtain ⟨hP, hN, h0, h6⟩ := hI
  have p0 := hP.1.1.2.2.1
  obtain ⟨a1, a2, -⟩ := av_st (T := T) hN
  obtain ⟨F1, c1, r1, k1⟩ := go_38 (G := G) hE h hN.1
  by_cases c : nmZ (av T n t) 1 60 = 0
  · obtain ⟨n1, n2, n3⟩ := nm_0 c
    have e : pOne T n 4 1 60 (D, av T n t) = .inr (uC D 4 (zI (av T n t).2.2.2), av T n (av T n t)) := if_pos c
    rw [e]
    have g1 := go_45t (G := G) hE r1 a1.1 (lo := 1) (up := 60) (by omega) (by omega) c
    have u5 := r1.2.2.1.2.2.2 n1
    have r2 : RdR (uR F1 p (uC (F1 p) 4 (zI (av T n t).2.2.2))) T n a p (uC D 4 (zI (av T n t).2.2.2)) (av T n t) := RdR_p r1 (uR_ne (by omega)) (uR_ne (by omega)) (PlW_one r1.2.2.2 p0 (by omega))
    obtain ⟨F2, c2, r3, k2⟩ := go_38 (G := G) hE r2 a1.1
    refine ⟨F2, fun d hd => ?_, r3, (k1.tr (KpR_p (k := 0) (by omega))).tr k2⟩
    show (_ : ResP) = some (Sum.inl (some (.int (zI 1))), mk E F2 G)
    refine into (D := 3) (by omega) hM_51 (rcv_mk hs (by decide)) rfl fun d hd => ?_
    show runP MP d 51 (0, [some (.ref a), some (.ref p)], [], _) = _
    rw [q_51_0]; (try simp only [↓n_rd, ↓n_cI, li_0, li_1, li_2, li_3, li_4, li_5, li_38, li_60, zI_add, zI_sub, zI_mul, zI_neg, ↓Option.bind_some]); simp (disch := (first | assumption | exact tI_rg _ | omega | exact uR_at | exact row_ne hF (by decide) | exact row_ne (row_ne hF (by decide)) (by decide) | exact SnS_18 | exact SnS_30 | exact LdS_44 | exact LdS_46)) only [u5, ↓ctV c1, ↓ctT g1, ↓ctV c2, ↓n_rd, ↓n_cI, retZ_z, li_0, li_1, li_2, li_3, li_4, li_5, li_38, li_60, zI_add, zI_sub, zI_mul, zI_neg, ↓Option.bind_some, ↓g3_5, ↓p2_4, zIt2, uR_at, uR_ne, uR_uR, uC_uC, uC_at, ↓reduceIte, decide_eq_true_eq, leT, leF, ltT, ltF, eqT, eqF, ne_eq, not_true_eq_false, not_false_eq_true, Bool.false_eq_true, tI_zI]
  · have e : pOne T n 4 1 60 (D, av T n t) = .inl (flt (av T n t) (nmZ (av T n t) 1 60)) := if_neg c
    rw [e]
    obtain ⟨F2, c2, r2, k2⟩ := go_45f (G := G) hE r1 a1.1 (lo := 1) (up := 60) (by omega) (by omega) c
    refine ⟨F2, fun d hd => ?_, r2, k1.tr k2⟩
    show (_ : ResP) = some (Sum.inl (some (.int (zI 0))), mk E F2 G)
    refine into (D := 3) (by omega) hM_51 (rcv_mk hs (by decide)) rfl fun d hd => ?_
    show runP MP d 51 (0, [some (.ref a), some (.ref p)], [], _) = _
    rw [q_51_0]; (try simp only [↓n_rd, ↓n_cI, li_0, li_1, li_2, li_3, li_4, li_5, li_38, li_60, zI_add, zI_sub, zI_mul, zI_neg, ↓Option.bind_some]); simp (disch := (first | assumption | exact tI_rg _ | omega | exact uR_at | exact row_ne hF (by decide) | exact row_ne (row_ne hF (by decide)) (by decide) | exact SnS_18 | exact SnS_30 | exact LdS_44 | exact LdS_46)) only [↓ctV c1, ↓ctT c2, ↓n_rd, ↓n_cI, retZ_z, li_0, li_1, li_2, li_3, li_4, li_5, li_38, li_60, zI_add, zI_sub, zI_mul, zI_neg, ↓Option.bind_some, ↓g3_5, ↓p2_4, zIt2, uR_at, uR_ne, uR_uR, uC_uC, uC_at, ↓reduceIte, decide_eq_true_eq, leT, leF, ltT, ltF, eqT, eqF, ne_eq, not_true_eq_false, not_false_eq_true, Bool.false_eq_true, tI_zI]
theorem go_53 {E : EnQ} {F : Nat → Int → Int32} {G : Nat → Int → Int64} {T : Nat → Int} {n a p : Nat} {D : Int → Int32} {t : TkS} (hE : RdE E a p) (h : RdR F T n a p D t) (hI : InP n D t (tI (D 3))) : ∃ F1, CtP MP 4 53 [.ref a, .ref p] (mk E F G) (Sum.inl (some (.int (zI (rtZ (pOne T n 168 1 99 (D, av T n t))))))) (mk E F1 G) ∧ OuR F1 T n a p (pOne T n 168 1 99 (D, av T n t)) ∧ KpR a p F F1 := by
  have hs := hE.1
  have hs2 := hE.2.2.1.1
  have g6 := hE.2.2.2.2.2
  have g17 := hE.2.2.2.1
  have gp17 := hE.2.2.2.2.1
  obtain ⟨hP, hN, h0, h6⟩ := hI
  have p0 := hP.1.1.2.2.1
  obtain ⟨a1, a2, -⟩ := av_st (T := T) hN
  obtain ⟨F1, c1, r1, k1⟩ := go_38 (G := G) hE h hN.1
  by_cases c : nmZ (av T n t) 1 99 = 0
  · obtain ⟨n1, n2, n3⟩ := nm_0 c
    have e : pOne T n 168 1 99 (D, av T n t) = .inr (uC D 168 (zI (av T n t).2.2.2), av T n (av T n t)) := if_pos c
    rw [e]
    have g1 := go_45t (G := G) hE r1 a1.1 (lo := 1) (up := 99) (by omega) (by omega) c
    have u5 := r1.2.2.1.2.2.2 n1
    have r2 : RdR (uR F1 p (uC (F1 p) 5 (zI (av T n t).2.2.2))) T n a p (uC D 168 (zI (av T n t).2.2.2)) (av T n t) := RdR_p r1 (uR_ne (by omega)) (uR_ne (by omega)) (PlW_one r1.2.2.2 p0 (by omega))
    obtain ⟨F2, c2, r3, k2⟩ := go_38 (G := G) hE r2 a1.1
    refine ⟨F2, fun d hd => ?_, r3, (k1.tr (KpR_p (k := 0) (by omega))).tr k2⟩
    show (_ : ResP) = some (Sum.inl (some (.int (zI 1))), mk E F2 G)
    refine into (D := 3) (by omega) hM_53 (rcv_mk hs (by decide)) rfl fun d hd => ?_
    show runP MP d 53 (0, [some (.ref a), some (.ref p)], [], _) = _
    rw [q_53_0]; (try simp only [↓n_rd, ↓n_cI, li_0, li_1, li_2, li_3, li_5, li_38, li_99, zI_add, zI_sub, zI_mul, zI_neg, ↓Option.bind_some]); simp (disch := (first | assumption | exact tI_rg _ | omega | exact uR_at | exact row_ne hF (by decide) | exact row_ne (row_ne hF (by decide)) (by decide) | exact SnS_18 | exact SnS_30 | exact LdS_44 | exact LdS_46)) only [u5, ↓ctV c1, ↓ctT g1, ↓ctV c2, ↓n_rd, ↓n_cI, retZ_z, li_0, li_1, li_2, li_3, li_5, li_38, li_99, zI_add, zI_sub, zI_mul, zI_neg, ↓Option.bind_some, ↓g3_5, ↓p2_5, zIt2, uR_at, uR_ne, uR_uR, uC_uC, uC_at, ↓reduceIte, decide_eq_true_eq, leT, leF, ltT, ltF, eqT, eqF, ne_eq, not_true_eq_false, not_false_eq_true, Bool.false_eq_true, tI_zI]
  · have e : pOne T n 168 1 99 (D, av T n t) = .inl (flt (av T n t) (nmZ (av T n t) 1 99)) := if_neg c
    rw [e]
    obtain ⟨F2, c2, r2, k2⟩ := go_45f (G := G) hE r1 a1.1 (lo := 1) (up := 99) (by omega) (by omega) c
    refine ⟨F2, fun d hd => ?_, r2, k1.tr k2⟩
    show (_ : ResP) = some (Sum.inl (some (.int (zI 0))), mk E F2 G)
    refine into (D := 3) (by omega) hM_53 (rcv_mk hs (by decide)) rfl fun d hd => ?_
    show runP MP d 53 (0, [some (.ref a), some (.ref p)], [], _) = _
    rw [q_53_0]; (try simp only [↓n_rd, ↓n_cI, li_0, li_1, li_2, li_3, li_5, li_38, li_99, zI_add, zI_sub, zI_mul, zI_neg, ↓Option.bind_some]); simp (disch := (first | assumption | exact tI_rg _ | omega | exact uR_at | exact row_ne hF (by decide) | exact row_ne (row_ne hF (by decide)) (by decide) | exact SnS_18 | exact SnS_30 | exact LdS_44 | exact LdS_46)) only [↓ctV c1, ↓ctT c2, ↓n_rd, ↓n_cI, retZ_z, li_0, li_1, li_2, li_3, li_5, li_38, li_99, zI_add, zI_sub, zI_mul, zI_neg, ↓Option.bind_some, ↓g3_5, ↓p2_5, zIt2, uR_at, uR_ne, uR_uR, uC_uC, uC_at, ↓reduceIte, decide_eq_true_eq, leT, leF, ltT, ltF, eqT, eqF, ne_eq, not_true_eq_false, not_false_eq_true, Bool.false_eq_true, tI_zI]
theorem go_52 {E : EnQ} {F : Nat → Int → Int32} {G : Nat → Int → Int64} {T : Nat → Int} {n a p : Nat} {D : Int → Int32} {t : TkS} (hE : RdE E a p) (h : RdR F T n a p D t) (hI : InP n D t (tI (D 3))) : ∃ F1, CtP MP 4 52 [.ref a, .ref p] (mk E F G) (Sum.inl (some (.int (zI (rtZ (pStorm T n (D, av T n t))))))) (mk E F1 G) ∧ OuR F1 T n a p (pStorm T n (D, av T n t)) ∧ KpR a p F F1 := by
  have hs := hE.1
  have hs2 := hE.2.2.1.1
  have g6 := hE.2.2.2.2.2
  have g17 := hE.2.2.2.1
  have gp17 := hE.2.2.2.2.1
  obtain ⟨hP, hN, h0, h6⟩ := hI
  have p0 := hP.1.1.2.2.1
  obtain ⟨a1, a2, -⟩ := av_st (T := T) hN
  obtain ⟨a3, a4, -⟩ := av_st (T := T) a1
  obtain ⟨F1, c1, r1, k1⟩ := go_38 (G := G) hE h hN.1
  by_cases c : nmZ (av T n t) 1 99 = 0
  · obtain ⟨n1, n2, n3⟩ := nm_0 c
    have e1 : pOne T n 166 1 99 (D, av T n t) = .inr (uC D 166 (zI (av T n t).2.2.2), av T n (av T n t)) := if_pos c
    have g1 := go_45t (G := G) hE r1 a1.1 (lo := 1) (up := 99) (by omega) (by omega) c
    have u5 := r1.2.2.1.2.2.2 n1
    have r2 : RdR (uR F1 p (uC (F1 p) 6 (zI (av T n t).2.2.2))) T n a p (uC D 166 (zI (av T n t).2.2.2)) (av T n t) := RdR_p r1 (uR_ne (by omega)) (uR_ne (by omega)) (PlW_one r1.2.2.2 p0 (by omega))
    obtain ⟨F2, c2, r3, k2⟩ := go_38 (G := G) hE r2 a1.1
    have p2 : 0 ≤ tI (uC D 166 (zI (av T n t).2.2.2) 2) ∧ tI (uC D 166 (zI (av T n t).2.2.2) 2) ≤ 16 := by rw [uC_ne (by decide)]; exact p0
    by_cases d1 : nmZ (av T n (av T n t)) 0 60 = 0
    · obtain ⟨m1, m2, m3⟩ := nm_0 d1
      have e : pStorm T n (D, av T n t) = .inr (uC (uC D 166 (zI (av T n t).2.2.2)) 167 (zI (av T n (av T n t)).2.2.2), av T n (av T n (av T n t))) := by
        unfold pStorm; rw [e1]; exact if_pos d1
      rw [e]
      have g2 := go_45t (G := G) hE r3 a3.1 (lo := 0) (up := 60) (by omega) (by omega) d1
      have v5 := r3.2.2.1.2.2.2 m1
      have r4 : RdR (uR F2 p (uC (F2 p) 7 (zI (av T n (av T n t)).2.2.2))) T n a p (uC (uC D 166 (zI (av T n t).2.2.2)) 167 (zI (av T n (av T n t)).2.2.2)) (av T n (av T n t)) := RdR_p r3 (uR_ne (by omega)) (uR_ne (by omega)) (PlW_one r3.2.2.2 p2 (by omega))
      obtain ⟨F3, c3, r5, k3⟩ := go_38 (G := G) hE r4 a3.1
      refine ⟨F3, fun d hd => ?_, r5, (((k1.tr (KpR_p (k := 0) (by omega))).tr k2).tr (KpR_p (k := 0) (by omega))).tr k3⟩
      show (_ : ResP) = some (Sum.inl (some (.int (zI 1))), mk E F3 G)
      refine into (D := 3) (by omega) hM_52 (rcv_mk hs (by decide)) rfl fun d hd => ?_
      show runP MP d 52 (0, [some (.ref a), some (.ref p)], [], _) = _
      rw [q_52_0]; (try simp only [↓n_rd, ↓n_cI, li_0, li_1, li_2, li_3, li_5, li_6, li_7, li_38, li_60, li_99, zI_add, zI_sub, zI_mul, zI_neg, ↓Option.bind_some]); simp (disch := (first | assumption | exact tI_rg _ | omega | exact uR_at | exact row_ne hF (by decide) | exact row_ne (row_ne hF (by decide)) (by decide) | exact SnS_18 | exact SnS_30 | exact LdS_44 | exact LdS_46)) only [u5, v5, ↓ctV c1, ↓ctT g1, ↓ctV c2, ↓ctT g2, ↓ctV c3, ↓n_rd, ↓n_cI, retZ_z, li_0, li_1, li_2, li_3, li_5, li_6, li_7, li_38, li_60, li_99, zI_add, zI_sub, zI_mul, zI_neg, ↓Option.bind_some, ↓g3_5, ↓p2_6, ↓p2_7, zIt2, uR_at, uR_ne, uR_uR, uC_uC, uC_at, ↓reduceIte, decide_eq_true_eq, leT, leF, ltT, ltF, eqT, eqF, ne_eq, not_true_eq_false, not_false_eq_true, Bool.false_eq_true, tI_zI]
    · have e : pStorm T n (D, av T n t) = .inl (flt (av T n (av T n t)) (nmZ (av T n (av T n t)) 0 60)) := by
        unfold pStorm; rw [e1]; exact if_neg d1
      rw [e]
      obtain ⟨F3, c3, r5, k3⟩ := go_45f (G := G) hE r3 a3.1 (lo := 0) (up := 60) (by omega) (by omega) d1
      refine ⟨F3, fun d hd => ?_, r5, ((k1.tr (KpR_p (k := 0) (by omega))).tr k2).tr k3⟩
      show (_ : ResP) = some (Sum.inl (some (.int (zI 0))), mk E F3 G)
      refine into (D := 3) (by omega) hM_52 (rcv_mk hs (by decide)) rfl fun d hd => ?_
      show runP MP d 52 (0, [some (.ref a), some (.ref p)], [], _) = _
      rw [q_52_0]; (try simp only [↓n_rd, ↓n_cI, li_0, li_1, li_2, li_3, li_5, li_6, li_7, li_38, li_60, li_99, zI_add, zI_sub, zI_mul, zI_neg, ↓Option.bind_some]); simp (disch := (first | assumption | exact tI_rg _ | omega | exact uR_at | exact row_ne hF (by decide) | exact row_ne (row_ne hF (by decide)) (by decide) | exact SnS_18 | exact SnS_30 | exact LdS_44 | exact LdS_46)) only [u5, ↓ctV c1, ↓ctT g1, ↓ctV c2, ↓ctT c3, ↓n_rd, ↓n_cI, retZ_z, li_0, li_1, li_2, li_3, li_5, li_6, li_7, li_38, li_60, li_99, zI_add, zI_sub, zI_mul, zI_neg, ↓Option.bind_some, ↓g3_5, ↓p2_6, ↓p2_7, zIt2, uR_at, uR_ne, uR_uR, uC_uC, uC_at, ↓reduceIte, decide_eq_true_eq, leT, leF, ltT, ltF, eqT, eqF, ne_eq, not_true_eq_false, not_false_eq_true, Bool.false_eq_true, tI_zI]
  · have e : pStorm T n (D, av T n t) = .inl (flt (av T n t) (nmZ (av T n t) 1 99)) := by
      unfold pStorm; rw [show pOne T n 166 1 99 (D, av T n t) = .inl (flt (av T n t) (nmZ (av T n t) 1 99)) from if_neg c]; rfl
    rw [e]
    obtain ⟨F2, c2, r2, k2⟩ := go_45f (G := G) hE r1 a1.1 (lo := 1) (up := 99) (by omega) (by omega) c
    refine ⟨F2, fun d hd => ?_, r2, k1.tr k2⟩
    show (_ : ResP) = some (Sum.inl (some (.int (zI 0))), mk E F2 G)
    refine into (D := 3) (by omega) hM_52 (rcv_mk hs (by decide)) rfl fun d hd => ?_
    show runP MP d 52 (0, [some (.ref a), some (.ref p)], [], _) = _
    rw [q_52_0]; (try simp only [↓n_rd, ↓n_cI, li_0, li_1, li_2, li_3, li_5, li_6, li_7, li_38, li_60, li_99, zI_add, zI_sub, zI_mul, zI_neg, ↓Option.bind_some]); simp (disch := (first | assumption | exact tI_rg _ | omega | exact uR_at | exact row_ne hF (by decide) | exact row_ne (row_ne hF (by decide)) (by decide) | exact SnS_18 | exact SnS_30 | exact LdS_44 | exact LdS_46)) only [↓ctV c1, ↓ctT c2, ↓n_rd, ↓n_cI, retZ_z, li_0, li_1, li_2, li_3, li_5, li_6, li_7, li_38, li_60, li_99, zI_add, zI_sub, zI_mul, zI_neg, ↓Option.bind_some, ↓g3_5, ↓p2_6, ↓p2_7, zIt2, uR_at, uR_ne, uR_uR, uC_uC, uC_at, ↓reduceIte, decide_eq_true_eq, leT, leF, ltT, ltF, eqT, eqF, ne_eq, not_true_eq_false, not_false_eq_true, Bool.false_eq_true, tI_zI]
end S94zzv
