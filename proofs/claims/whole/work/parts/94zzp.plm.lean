/-! MODEL: reading a plain 5 -/
section S94zzp
set_option linter.unusedVariables false
set_option linter.unusedSimpArgs false
theorem go_200 {E : EnQ} {F : Nat → Int → Int32} {G : Nat → Int → Int64} {T : Nat → Int} {n : Nat} {D : Int → Int32} {t : TkS} (h : MoR F T n D t) (hI : InP n D t (tI (D 3))) : ∃ F1, CtP MP 5 200 [.ref 217] (mk E F G) (Sum.inl none) (mk E F1 G) ∧ OuM F1 T n (pPath T n D t) ∧ KpM F F1 := by
  obtain ⟨hP, hN, h0, h6⟩ := hI
  have hA := hP.1.1.2.1
  have p0 := hP.1.1.2.2.1
  have ht := hN.1
  obtain ⟨a1, a2, -⟩ := av_st (T := T) hN
  obtain ⟨a3, a4, -⟩ := av_st (T := T) a1
  have h4' := h.2.2.2.1
  have h5 := h.2.2.2.2
  by_cases c0 : tI (D 2) = 16
  · have e : pPath T n D t = .inl (flt t 4) := if_pos c0
    rw [e]
    obtain ⟨F1, c1, r1, p1, k1⟩ := go_196 (E := E) (G := G) h ht (y := 4) (by omega)
    refine ⟨F1, fun d hd => ?_, r1, k1⟩
    obtain ⟨b1, b2, b3, b4⟩ := r1
    refine into (D := 4) (by omega) hM_200 (rcv_mk rfl (by decide)) rfl fun d hd => ?_
    show runP MP d 200 (0, [some (.ref 217), none, none], [], _) = _
    rw [q_200_0]; (try simp only [↓n_rd, ↓n_al, ↓n_cI, li_0, li_1, li_2, li_3, li_4, li_6, li_12, li_13, li_16, zI_add, zI_sub, zI_mul, zI_neg, ↓Option.bind_some]); simp (disch := (first | assumption | exact tI_rg _ | omega | exact uR_at | exact row_ne hF (by decide) | exact row_ne (row_ne hF (by decide)) (by decide) | exact SnS_18 | exact SnS_30 | exact LdS_44 | exact LdS_46)) only [q_200_16, q_200_72, q_200_77, h4', h5, c0, ↓ctV c1, b1, ↓n_rd, ↓n_al, ↓n_cI, li_0, li_1, li_2, li_3, li_4, li_6, li_12, li_13, li_16, zI_add, zI_sub, zI_mul, zI_neg, ↓Option.bind_some, ↓g12_1, ↓g12_11, ↓g12_12, ↓g12_13, ↓al_219, ↓as_219, zIt2, uR_at, uR_ne, uR_uR, uC_uC, uC_at, ↓reduceIte, decide_eq_true_eq, leT, leF, ltT, ltF, eqT, eqF, ne_eq, not_true_eq_false, not_false_eq_true, Bool.false_eq_true, tI_zI]
  · obtain ⟨F1, c1, r1, k1⟩ := go_190 (E := E) (G := G) h ht
    by_cases c : nmZ (av T n t) 0 (tI (D 1) - 1) = 0
    · obtain ⟨n1, n2, n3⟩ := nm_0 c
      obtain ⟨F2, c2, r2, k2⟩ := go_201t (E := E) (G := G) r1 a1.1 hA c
      have y4 := r2.2.2.2.1
      have y5 := r2.2.2.2.2
      obtain ⟨u1, u2, u3, u4⟩ := r2.2.2.1
      have tr := a3.1.2.2.2.2
      have t1 := a3.1.1
      by_cases d1 : nmZ (av T n (av T n t)) 0 (tI (D 1) - 1) = 0
      · obtain ⟨m1, m2, m3⟩ := nm_0 d1
        have u5 := u4 m1
        have hpr := fndN_rg (isP D (av T n t).2.2.2 (av T n (av T n t)).2.2.2) (tI (D 2)).toNat 0
        have hpe : pathZ D (av T n t).2.2.2 (av T n (av T n t)).2.2.2 = fndN (isP D (av T n t).2.2.2 (av T n (av T n t)).2.2.2) (tI (D 2)).toNat 0 := rfl
        by_cases e1 : (av T n (av T n t)).2.2.2 = (av T n t).2.2.2 ∨ pathZ D (av T n t).2.2.2 (av T n (av T n t)).2.2.2 ≠ -1
        · have e : pPath T n D t = .inl (flt (av T n (av T n t)) 3) := (if_neg c0).trans ((if_pos c).trans ((if_pos d1).trans (if_pos e1)))
          rw [e]
          obtain ⟨F3, c3, r3, p3, k3⟩ := go_196 (E := E) (G := G) r2 a3.1 (y := 3) (by omega)
          have c4 := go_201b (E := E) (G := G) r3 p3 hA
          refine ⟨F3, fun d hd => ?_, r3, (k1.tr k2).tr k3⟩
          obtain ⟨b1, b2, b3, b4⟩ := r3
          refine into (D := 4) (by omega) hM_200 (rcv_mk rfl (by decide)) rfl fun d hd => ?_
          show runP MP d 200 (0, [some (.ref 217), none, none], [], _) = _
          by_cases z : (av T n (av T n t)).2.2.2 = (av T n t).2.2.2
          · rw [q_200_0]; (try simp only [↓n_rd, ↓n_al, ↓n_cI, li_0, li_1, li_2, li_3, li_4, li_6, li_12, li_13, li_16, zI_add, zI_sub, zI_mul, zI_neg, ↓Option.bind_some]); simp (disch := (first | assumption | exact tI_rg _ | omega | exact uR_at | exact row_ne hF (by decide) | exact row_ne (row_ne hF (by decide)) (by decide) | exact SnS_18 | exact SnS_30 | exact LdS_44 | exact LdS_46)) only [q_200_16, q_200_72, q_200_77, h4', h5, ↓ctV c1, ↓ctT c2, y4, y5, u1, u5, m1, z, ↓ctV c3, ↓ctT c4, b1, ↓n_rd, ↓n_al, ↓n_cI, li_0, li_1, li_2, li_3, li_4, li_6, li_12, li_13, li_16, zI_add, zI_sub, zI_mul, zI_neg, ↓Option.bind_some, ↓g12_1, ↓g12_11, ↓g12_12, ↓g12_13, ↓al_219, ↓as_219, zIt2, uR_at, uR_ne, uR_uR, uC_uC, uC_at, ↓reduceIte, decide_eq_true_eq, leT, leF, ltT, ltF, eqT, eqF, ne_eq, not_true_eq_false, not_false_eq_true, Bool.false_eq_true, tI_zI]
          · have zz : pathZ D (av T n t).2.2.2 (av T n (av T n t)).2.2.2 ≠ -1 := e1.resolve_left z
            have c202 := fun {kk : Int → HeapP → ResP} {kx : Nat → HeapP → ResP} => cc_202 (d := d) (E := E) (F := F2) (G := G) (kk := kk) (kx := kx) (a := 219) (x := (av T n t).2.2.2) (y := (av T n (av T n t)).2.2.2) rfl (by omega) (by omega) (by rw [y5]; exact p0) (by omega)
            simp only [y5] at c202
            rw [q_200_0]; (try simp only [↓n_rd, ↓n_al, ↓n_cI, li_0, li_1, li_2, li_3, li_4, li_6, li_12, li_13, li_16, zI_add, zI_sub, zI_mul, zI_neg, ↓Option.bind_some]); simp (disch := (first | assumption | exact tI_rg _ | omega | exact uR_at | exact row_ne hF (by decide) | exact row_ne (row_ne hF (by decide)) (by decide) | exact SnS_18 | exact SnS_30 | exact LdS_44 | exact LdS_46)) only [q_200_16, q_200_72, q_200_77, h4', h5, ↓ctV c1, ↓ctT c2, y4, y5, u1, u5, m1, ↓c202, ↓ctV c3, ↓ctT c4, b1, ↓n_rd, ↓n_al, ↓n_cI, li_0, li_1, li_2, li_3, li_4, li_6, li_12, li_13, li_16, zI_add, zI_sub, zI_mul, zI_neg, ↓Option.bind_some, ↓g12_1, ↓g12_11, ↓g12_12, ↓g12_13, ↓al_219, ↓as_219, zIt2, uR_at, uR_ne, uR_uR, uC_uC, uC_at, ↓reduceIte, decide_eq_true_eq, leT, leF, ltT, ltF, eqT, eqF, ne_eq, not_true_eq_false, not_false_eq_true, Bool.false_eq_true, tI_zI]
        · have e : pPath T n D t = .inr (addPa D (av T n t).2.2.2 (av T n (av T n t)).2.2.2, av T n (av T n (av T n t))) := (if_neg c0).trans ((if_pos c).trans ((if_pos d1).trans (if_neg e1)))
          rw [e]
          have z : ¬ (av T n (av T n t)).2.2.2 = (av T n t).2.2.2 := fun z => e1 (Or.inl z)
          have zz : pathZ D (av T n t).2.2.2 (av T n (av T n t)).2.2.2 = -1 := Decidable.byContradiction fun z => e1 (Or.inr z)
          obtain ⟨F3, c3, r3, k3⟩ := go_201t (E := E) (G := G) r2 a3.1 hA d1
          have x4 := r3.2.2.2.1
          have x5 := r3.2.2.2.2
          refine ⟨uR F3 219 (addPa D (av T n t).2.2.2 (av T n (av T n t)).2.2.2), fun d hd => ?_, MoR_9 r3, ((k1.tr k2).tr k3).tr KpM_9⟩
          refine into (D := 4) (by omega) hM_200 (rcv_mk rfl (by decide)) rfl fun d hd => ?_
          show runP MP d 200 (0, [some (.ref 217), none, none], [], _) = _
          have c202 := fun {kk : Int → HeapP → ResP} {kx : Nat → HeapP → ResP} => cc_202 (d := d) (E := E) (F := F2) (G := G) (kk := kk) (kx := kx) (a := 219) (x := (av T n t).2.2.2) (y := (av T n (av T n t)).2.2.2) rfl (by omega) (by omega) (by rw [y5]; exact p0) (by omega)
          simp only [y5, zz] at c202
          unfold addPa
          rw [q_200_0]; (try simp only [↓n_rd, ↓n_al, ↓n_cI, li_0, li_1, li_2, li_3, li_4, li_6, li_12, li_13, li_16, zI_add, zI_sub, zI_mul, zI_neg, ↓Option.bind_some]); simp (disch := (first | assumption | exact tI_rg _ | omega | exact uR_at | exact row_ne hF (by decide) | exact row_ne (row_ne hF (by decide)) (by decide) | exact SnS_18 | exact SnS_30 | exact LdS_44 | exact LdS_46)) only [q_200_16, q_200_72, q_200_77, h4', h5, ↓ctV c1, ↓ctT c2, y4, y5, u1, u5, m1, ↓c202, ↓ctT c3, x4, x5, uC_ne (show (2 : Int) ≠ 6 + 2 * tI (D 2) by omega), uC_ne (show (2 : Int) ≠ 6 + 2 * tI (D 2) + 1 by omega), ↓n_rd, ↓n_al, ↓n_cI, li_0, li_1, li_2, li_3, li_4, li_6, li_12, li_13, li_16, zI_add, zI_sub, zI_mul, zI_neg, ↓Option.bind_some, ↓g12_1, ↓g12_11, ↓g12_12, ↓g12_13, ↓al_219, ↓as_219, zIt2, uR_at, uR_ne, uR_uR, uC_uC, uC_at, ↓reduceIte, decide_eq_true_eq, leT, leF, ltT, ltF, eqT, eqF, ne_eq, not_true_eq_false, not_false_eq_true, Bool.false_eq_true, tI_zI]
      · have e : pPath T n D t = .inl (flt (av T n (av T n t)) (nmZ (av T n (av T n t)) 0 (tI (D 1) - 1))) := (if_neg c0).trans ((if_pos c).trans (if_neg d1))
        rw [e]
        obtain ⟨F3, c3, r3, p3, k3⟩ := go_201f (E := E) (G := G) r2 a3.1 hA d1
        refine ⟨F3, fun d hd => ?_, r3, (k1.tr k2).tr k3⟩
        obtain ⟨b1, b2, b3, b4⟩ := r3
        refine into (D := 4) (by omega) hM_200 (rcv_mk rfl (by decide)) rfl fun d hd => ?_
        show runP MP d 200 (0, [some (.ref 217), none, none], [], _) = _
        by_cases m1 : (av T n (av T n t)).1 = 2
        · have u5 := u4 m1
          have g : ¬ (0 ≤ (av T n (av T n t)).2.2.2 ∧ (av T n (av T n t)).2.2.2 ≤ tI (D 1) - 1) := fun z => by
            unfold nmZ at d1; rw [if_pos m1, if_pos z] at d1; exact d1 rfl
          have z : ¬ (av T n (av T n t)).2.2.2 = (av T n t).2.2.2 := fun z => by omega
          have zz : pathZ D (av T n t).2.2.2 (av T n (av T n t)).2.2.2 = -1 := Decidable.byContradiction fun z => by
            have := path_in hP.1.2.1 p0.1 z; omega
          have c202 := fun {kk : Int → HeapP → ResP} {kx : Nat → HeapP → ResP} => cc_202 (d := d) (E := E) (F := F2) (G := G) (kk := kk) (kx := kx) (a := 219) (x := (av T n t).2.2.2) (y := (av T n (av T n t)).2.2.2) rfl (by omega) (by omega) (by rw [y5]; exact p0) (by omega)
          simp only [y5, zz] at c202
          rw [q_200_0]; (try simp only [↓n_rd, ↓n_al, ↓n_cI, li_0, li_1, li_2, li_3, li_4, li_6, li_12, li_13, li_16, zI_add, zI_sub, zI_mul, zI_neg, ↓Option.bind_some]); simp (disch := (first | assumption | exact tI_rg _ | omega | exact uR_at | exact row_ne hF (by decide) | exact row_ne (row_ne hF (by decide)) (by decide) | exact SnS_18 | exact SnS_30 | exact LdS_44 | exact LdS_46)) only [q_200_16, q_200_72, q_200_77, h4', h5, ↓ctV c1, ↓ctT c2, y4, y5, u1, u5, m1, ↓c202, ↓ctT c3, b1, ↓n_rd, ↓n_al, ↓n_cI, li_0, li_1, li_2, li_3, li_4, li_6, li_12, li_13, li_16, zI_add, zI_sub, zI_mul, zI_neg, ↓Option.bind_some, ↓g12_1, ↓g12_11, ↓g12_12, ↓g12_13, ↓al_219, ↓as_219, zIt2, uR_at, uR_ne, uR_uR, uC_uC, uC_at, ↓reduceIte, decide_eq_true_eq, leT, leF, ltT, ltF, eqT, eqF, ne_eq, not_true_eq_false, not_false_eq_true, Bool.false_eq_true, tI_zI]
        · rw [q_200_0]; (try simp only [↓n_rd, ↓n_al, ↓n_cI, li_0, li_1, li_2, li_3, li_4, li_6, li_12, li_13, li_16, zI_add, zI_sub, zI_mul, zI_neg, ↓Option.bind_some]); simp (disch := (first | assumption | exact tI_rg _ | omega | exact uR_at | exact row_ne hF (by decide) | exact row_ne (row_ne hF (by decide)) (by decide) | exact SnS_18 | exact SnS_30 | exact LdS_44 | exact LdS_46)) only [q_200_16, q_200_72, q_200_77, h4', h5, ↓ctV c1, ↓ctT c2, y4, y5, u1, m1, ↓ctT c3, b1, ↓n_rd, ↓n_al, ↓n_cI, li_0, li_1, li_2, li_3, li_4, li_6, li_12, li_13, li_16, zI_add, zI_sub, zI_mul, zI_neg, ↓Option.bind_some, ↓g12_1, ↓g12_11, ↓g12_12, ↓g12_13, ↓al_219, ↓as_219, zIt2, uR_at, uR_ne, uR_uR, uC_uC, uC_at, ↓reduceIte, decide_eq_true_eq, leT, leF, ltT, ltF, eqT, eqF, ne_eq, not_true_eq_false, not_false_eq_true, Bool.false_eq_true, tI_zI]
    · have e : pPath T n D t = .inl (flt (av T n t) (nmZ (av T n t) 0 (tI (D 1) - 1))) := (if_neg c0).trans (if_neg c)
      rw [e]
      obtain ⟨F2, c2, r2, p2, k2⟩ := go_201f (E := E) (G := G) r1 a1.1 hA c
      have c4 := go_201b (E := E) (G := G) r2 p2 hA
      refine ⟨F2, fun d hd => ?_, r2, k1.tr k2⟩
      obtain ⟨b1, b2, b3, b4⟩ := r2
      refine into (D := 4) (by omega) hM_200 (rcv_mk rfl (by decide)) rfl fun d hd => ?_
      show runP MP d 200 (0, [some (.ref 217), none, none], [], _) = _
      rw [q_200_0]; (try simp only [↓n_rd, ↓n_al, ↓n_cI, li_0, li_1, li_2, li_3, li_4, li_6, li_12, li_13, li_16, zI_add, zI_sub, zI_mul, zI_neg, ↓Option.bind_some]); simp (disch := (first | assumption | exact tI_rg _ | omega | exact uR_at | exact row_ne hF (by decide) | exact row_ne (row_ne hF (by decide)) (by decide) | exact SnS_18 | exact SnS_30 | exact LdS_44 | exact LdS_46)) only [q_200_16, q_200_72, q_200_77, h4', h5, ↓ctV c1, ↓ctT c2, ↓ctT c4, b1, ↓n_rd, ↓n_al, ↓n_cI, li_0, li_1, li_2, li_3, li_4, li_6, li_12, li_13, li_16, zI_add, zI_sub, zI_mul, zI_neg, ↓Option.bind_some, ↓g12_1, ↓g12_11, ↓g12_12, ↓g12_13, ↓al_219, ↓as_219, zIt2, uR_at, uR_ne, uR_uR, uC_uC, uC_at, ↓reduceIte, decide_eq_true_eq, leT, leF, ltT, ltF, eqT, eqF, ne_eq, not_true_eq_false, not_false_eq_true, Bool.false_eq_true, tI_zI]
theorem fin_198 {E : EnQ} {F : Nat → Int → Int32} {G : Nat → Int → Int64} {T : Nat → Int} {n : Nat} {x : PrR} (h : OuM F T n x) (hx : ∀ s, x = .inr s → ∃ w, InP n s.1 s.2 w) : ∃ F1, CtP MP 3 198 [.ref 217] (mk E F G) (Sum.inl none) (mk E F1 G) ∧ OuM F1 T n (bnd x (pEnd T n)) ∧ KpM F F1 := by
  cases x with
  | inl f => exact ⟨F, go_198b h, h, KpM.refl⟩
  | inr s =>
    obtain ⟨w, i1, i2, i3, i4⟩ := hx s rfl
    obtain ⟨F1, c1, r1, k1⟩ := go_198 (E := E) (G := G) (show MoR F T n s.1 s.2 from h) i2.1 (by have := i1.1.1.1; exact this)
    exact ⟨F1, c1, r1, k1⟩
theorem go_one {E : EnQ} {F : Nat → Int → Int32} {G : Nat → Int → Int64} {T : Nat → Int} {n : Nat} {D : Int → Int32} {t : TkS} {i lo up : Int} (h : MoR F T n D t) (ht : TkI n t) (hl : -2147483648 ≤ lo ∧ lo ≤ 2147483647) (hu : -2147483648 ≤ up ∧ up ≤ 2147483647) : ∃ F1 v, CtP MP 3 197 [.ref 217, .int (zI lo), .int (zI up)] (mk E F G) (Sum.inl (some (.int (zI v)))) (mk E F1 G) ∧ (-2147483648 ≤ v ∧ v ≤ 2147483647) ∧ F1 219 = D ∧ OuM (uR F1 219 (uC D i (zI v))) T n (pOne T n i lo up (D, t)) ∧ KpM F F1 := by
  have tr := ht.2.2.2.2
  by_cases c : nmZ t lo up = 0
  · obtain ⟨F1, c1, r1, k1⟩ := go_197t (E := E) (G := G) h ht hl hu c
    have e : pOne T n i lo up (D, t) = .inr (uC D i (zI t.2.2.2), av T n t) := if_pos c
    rw [e]
    exact ⟨F1, _, c1, by omega, r1.2.2.2.2, MoR_9 r1, k1⟩
  · obtain ⟨F1, c1, r1, p1, k1⟩ := go_197f (E := E) (G := G) h ht hl hu c
    have e : pOne T n i lo up (D, t) = .inl (flt t (nmZ t lo up)) := if_neg c
    rw [e]
    exact ⟨F1, lo, c1, hl, p1, BaM_9 r1, k1⟩
theorem go_199 {E : EnQ} {F : Nat → Int → Int32} {G : Nat → Int → Int64} {T : Nat → Int} {n : Nat} {D : Int → Int32} {t : TkS} (h : MoR F T n D t) (hI : InP n D t (tI (D 3))) : ∃ F1, CtP MP 7 199 [.ref 217] (mk E F G) (Sum.inl none) (mk E F1 G) ∧ OuM F1 T n (pLine T n D t) ∧ KpM F F1 := by
  have ht := hI.2.1.1
  have ht2 := (av_inv (T := T) ht).1.1
  have fx : ∀ s, pKind T n D t = .inr s → ∃ w, InP n s.1 s.2 w := fun s hs => ⟨_, (i_kind hI hs).1⟩
  unfold pLine
  by_cases w1 : isW T 1 t = true
  · have e : pKind T n D t = pPath T n D t := if_pos w1
    have g1 := go_195t (E := E) (G := G) h ht (k := 1) (by omega) w1
    obtain ⟨F1, c1, r1, k1⟩ := go_200 (E := E) (G := G) h hI
    rw [← e] at r1
    obtain ⟨F2, c2, r2, k2⟩ := fin_198 (E := E) (G := G) r1 fx
    refine ⟨F2, fun d hd => ?_, r2, k1.tr k2⟩
    refine into (D := 6) (by omega) hM_199 (rcv_mk rfl (by decide)) rfl fun d hd => ?_
    show runP MP d 199 (0, [some (.ref 217)], [], _) = _
    rw [q_199_0]; (try simp only [↓n_cI, li_0, li_1, li_2, li_3, li_4, li_5, li_12, li_60, li_99, li_168, zI_add, zI_sub, zI_mul, zI_neg, ↓Option.bind_some]); simp (disch := (first | assumption | exact tI_rg _ | omega | exact uR_at | exact row_ne hF (by decide) | exact row_ne (row_ne hF (by decide)) (by decide) | exact SnS_18 | exact SnS_30 | exact LdS_44 | exact LdS_46)) only [q_199_105, ↓ctT g1, ↓ctV c1, ↓ctV c2, ↓n_cI, li_0, li_1, li_2, li_3, li_4, li_5, li_12, li_60, li_99, li_168, zI_add, zI_sub, zI_mul, zI_neg, ↓Option.bind_some, ↓g12_1, ↓al_219, ↓as_219, zIt2, uR_at, uR_ne, uR_uR, uC_uC, uC_at, ↓reduceIte, decide_eq_true_eq, leT, leF, ltT, ltF, eqT, eqF, ne_eq, not_true_eq_false, not_false_eq_true, Bool.false_eq_true, tI_zI]
  · have g1 := go_195f (E := E) (G := G) h ht (k := 1) (by omega) w1
    by_cases w2 : isW T 2 t = true
    · have e : pKind T n D t = pWalk T n D t := (if_neg w1).trans (if_pos w2)
      have g2 := go_195t (E := E) (G := G) h ht (k := 2) (by omega) w2
      obtain ⟨F1, c1, r1, k1⟩ := go_203 (E := E) (G := G) h hI
      rw [← e] at r1
      obtain ⟨F2, c2, r2, k2⟩ := fin_198 (E := E) (G := G) r1 fx
      refine ⟨F2, fun d hd => ?_, r2, k1.tr k2⟩
      refine into (D := 6) (by omega) hM_199 (rcv_mk rfl (by decide)) rfl fun d hd => ?_
      show runP MP d 199 (0, [some (.ref 217)], [], _) = _
      rw [q_199_0]; (try simp only [↓n_cI, li_0, li_1, li_2, li_3, li_4, li_5, li_12, li_60, li_99, li_168, zI_add, zI_sub, zI_mul, zI_neg, ↓Option.bind_some]); simp (disch := (first | assumption | exact tI_rg _ | omega | exact uR_at | exact row_ne hF (by decide) | exact row_ne (row_ne hF (by decide)) (by decide) | exact SnS_18 | exact SnS_30 | exact LdS_44 | exact LdS_46)) only [q_199_105, ↓ctT g1, ↓ctT g2, ↓ctV c1, ↓ctV c2, ↓n_cI, li_0, li_1, li_2, li_3, li_4, li_5, li_12, li_60, li_99, li_168, zI_add, zI_sub, zI_mul, zI_neg, ↓Option.bind_some, ↓g12_1, ↓al_219, ↓as_219, zIt2, uR_at, uR_ne, uR_uR, uC_uC, uC_at, ↓reduceIte, decide_eq_true_eq, leT, leF, ltT, ltF, eqT, eqF, ne_eq, not_true_eq_false, not_false_eq_true, Bool.false_eq_true, tI_zI]
    · have g2 := go_195f (E := E) (G := G) h ht (k := 2) (by omega) w2
      by_cases w3 : isW T 3 t = true
      · have e : pKind T n D t = pOne T n 4 1 60 (D, av T n t) := (if_neg w1).trans ((if_neg w2).trans (if_pos w3))
        obtain ⟨F0, g3, q0, k0⟩ := go_194t (E := E) (G := G) h ht (k := 3) (by omega) w3
        obtain ⟨F1, v, c1, v1, p1, r1, k1⟩ := go_one (E := E) (G := G) (i := 4) (lo := 1) (up := 60) q0 ht2 (by omega) (by omega)
        rw [← e] at r1
        obtain ⟨F2, c2, r2, k2⟩ := fin_198 (E := E) (G := G) r1 fx
        refine ⟨F2, fun d hd => ?_, r2, (k0.tr k1).tr (KpM_9.tr k2)⟩
        refine into (D := 6) (by omega) hM_199 (rcv_mk rfl (by decide)) rfl fun d hd => ?_
        show runP MP d 199 (0, [some (.ref 217)], [], _) = _
        rw [q_199_0]; (try simp only [↓n_cI, li_0, li_1, li_2, li_3, li_4, li_5, li_12, li_60, li_99, li_168, zI_add, zI_sub, zI_mul, zI_neg, ↓Option.bind_some]); simp (disch := (first | assumption | exact tI_rg _ | omega | exact uR_at | exact row_ne hF (by decide) | exact row_ne (row_ne hF (by decide)) (by decide) | exact SnS_18 | exact SnS_30 | exact LdS_44 | exact LdS_46)) only [q_199_105, ↓ctT g1, ↓ctT g2, ↓ctT g3, ↓ctT c1, p1, ↓ctV c2, ↓n_cI, li_0, li_1, li_2, li_3, li_4, li_5, li_12, li_60, li_99, li_168, zI_add, zI_sub, zI_mul, zI_neg, ↓Option.bind_some, ↓g12_1, ↓al_219, ↓as_219, zIt2, uR_at, uR_ne, uR_uR, uC_uC, uC_at, ↓reduceIte, decide_eq_true_eq, leT, leF, ltT, ltF, eqT, eqF, ne_eq, not_true_eq_false, not_false_eq_true, Bool.false_eq_true, tI_zI]
      · have g3 := go_194f (E := E) (G := G) h ht (k := 3) (by omega) w3
        by_cases w4 : isW T 4 t = true
        · have e : pKind T n D t = pStorm T n (D, av T n t) := (if_neg w1).trans ((if_neg w2).trans ((if_neg w3).trans (if_pos w4)))
          obtain ⟨F0, g4, q0, k0⟩ := go_194t (E := E) (G := G) h ht (k := 4) (by omega) w4
          obtain ⟨F1, c1, r1, k1⟩ := go_205 (E := E) (G := G) q0 ht2
          rw [← e] at r1
          obtain ⟨F2, c2, r2, k2⟩ := fin_198 (E := E) (G := G) r1 fx
          refine ⟨F2, fun d hd => ?_, r2, (k0.tr k1).tr k2⟩
          refine into (D := 6) (by omega) hM_199 (rcv_mk rfl (by decide)) rfl fun d hd => ?_
          show runP MP d 199 (0, [some (.ref 217)], [], _) = _
          rw [q_199_0]; (try simp only [↓n_cI, li_0, li_1, li_2, li_3, li_4, li_5, li_12, li_60, li_99, li_168, zI_add, zI_sub, zI_mul, zI_neg, ↓Option.bind_some]); simp (disch := (first | assumption | exact tI_rg _ | omega | exact uR_at | exact row_ne hF (by decide) | exact row_ne (row_ne hF (by decide)) (by decide) | exact SnS_18 | exact SnS_30 | exact LdS_44 | exact LdS_46)) only [q_199_105, ↓ctT g1, ↓ctT g2, ↓ctT g3, ↓ctT g4, ↓ctV c1, ↓ctV c2, ↓n_cI, li_0, li_1, li_2, li_3, li_4, li_5, li_12, li_60, li_99, li_168, zI_add, zI_sub, zI_mul, zI_neg, ↓Option.bind_some, ↓g12_1, ↓al_219, ↓as_219, zIt2, uR_at, uR_ne, uR_uR, uC_uC, uC_at, ↓reduceIte, decide_eq_true_eq, leT, leF, ltT, ltF, eqT, eqF, ne_eq, not_true_eq_false, not_false_eq_true, Bool.false_eq_true, tI_zI]
        · have g4 := go_194f (E := E) (G := G) h ht (k := 4) (by omega) w4
          by_cases w5 : isW T 5 t = true
          · have e : pKind T n D t = pOne T n 168 1 99 (D, av T n t) := (if_neg w1).trans ((if_neg w2).trans ((if_neg w3).trans ((if_neg w4).trans (if_pos w5))))
            obtain ⟨F0, g5, q0, k0⟩ := go_194t (E := E) (G := G) h ht (k := 5) (by omega) w5
            obtain ⟨F1, v, c1, v1, p1, r1, k1⟩ := go_one (E := E) (G := G) (i := 168) (lo := 1) (up := 99) q0 ht2 (by omega) (by omega)
            rw [← e] at r1
            obtain ⟨F2, c2, r2, k2⟩ := fin_198 (E := E) (G := G) r1 fx
            refine ⟨F2, fun d hd => ?_, r2, (k0.tr k1).tr (KpM_9.tr k2)⟩
            refine into (D := 6) (by omega) hM_199 (rcv_mk rfl (by decide)) rfl fun d hd => ?_
            show runP MP d 199 (0, [some (.ref 217)], [], _) = _
            rw [q_199_0]; (try simp only [↓n_cI, li_0, li_1, li_2, li_3, li_4, li_5, li_12, li_60, li_99, li_168, zI_add, zI_sub, zI_mul, zI_neg, ↓Option.bind_some]); simp (disch := (first | assumption | exact tI_rg _ | omega | exact uR_at | exact row_ne hF (by decide) | exact row_ne (row_ne hF (by decide)) (by decide) | exact SnS_18 | exact SnS_30 | exact LdS_44 | exact LdS_46)) only [q_199_105, ↓ctT g1, ↓ctT g2, ↓ctT g3, ↓ctT g4, ↓ctT g5, ↓ctT c1, p1, ↓ctV c2, ↓n_cI, li_0, li_1, li_2, li_3, li_4, li_5, li_12, li_60, li_99, li_168, zI_add, zI_sub, zI_mul, zI_neg, ↓Option.bind_some, ↓g12_1, ↓al_219, ↓as_219, zIt2, uR_at, uR_ne, uR_uR, uC_uC, uC_at, ↓reduceIte, decide_eq_true_eq, leT, leF, ltT, ltF, eqT, eqF, ne_eq, not_true_eq_false, not_false_eq_true, Bool.false_eq_true, tI_zI]
          · have g5 := go_194f (E := E) (G := G) h ht (k := 5) (by omega) w5
            have e : pKind T n D t = .inl (flt t 2) := (if_neg w1).trans ((if_neg w2).trans ((if_neg w3).trans ((if_neg w4).trans (if_neg w5))))
            obtain ⟨F1, c1, r1, -, k1⟩ := go_196 (E := E) (G := G) h ht (y := 2) (by omega)
            have r1' : OuM F1 T n (.inl (flt t 2)) := r1
            rw [← e] at r1'
            obtain ⟨F2, c2, r2, k2⟩ := fin_198 (E := E) (G := G) r1' fx
            refine ⟨F2, fun d hd => ?_, r2, k1.tr k2⟩
            refine into (D := 6) (by omega) hM_199 (rcv_mk rfl (by decide)) rfl fun d hd => ?_
            show runP MP d 199 (0, [some (.ref 217)], [], _) = _
            rw [q_199_0]; (try simp only [↓n_cI, li_0, li_1, li_2, li_3, li_4, li_5, li_12, li_60, li_99, li_168, zI_add, zI_sub, zI_mul, zI_neg, ↓Option.bind_some]); simp (disch := (first | assumption | exact tI_rg _ | omega | exact uR_at | exact row_ne hF (by decide) | exact row_ne (row_ne hF (by decide)) (by decide) | exact SnS_18 | exact SnS_30 | exact LdS_44 | exact LdS_46)) only [q_199_105, ↓ctT g1, ↓ctT g2, ↓ctT g3, ↓ctT g4, ↓ctT g5, ↓ctV c1, ↓ctV c2, ↓n_cI, li_0, li_1, li_2, li_3, li_4, li_5, li_12, li_60, li_99, li_168, zI_add, zI_sub, zI_mul, zI_neg, ↓Option.bind_some, ↓g12_1, ↓al_219, ↓as_219, zIt2, uR_at, uR_ne, uR_uR, uC_uC, uC_at, ↓reduceIte, decide_eq_true_eq, leT, leF, ltT, ltF, eqT, eqF, ne_eq, not_true_eq_false, not_false_eq_true, Bool.false_eq_true, tI_zI]
end S94zzp
