/-! MODEL: reading a plain 4 -/
section S94zzo
set_option linter.unusedVariables false
set_option linter.unusedSimpArgs false
theorem go_204c {E : EnQ} {G : Nat → Int → Int64} {T : Nat → Int} {n : Nat} {q : Int} {D : Int → Int32} {t : TkS} {F : Nat → Int → Int32} (h : MoR F T n D t) (hI : InP n D t (tI (D 3) + 1)) (h4 : tI (D 3) < 4) (hq : q = 170 + 9 * tI (D 3)) (hl : tI (D q) = 0) : ∃ F1, CtP MP 5 204 [.ref 217, .int (zI q)] (mk E F G) (Sum.inl none) (mk E F1 G) ∧ OuM F1 T n (pBt T n q 8 D t) ∧ KpM F F1 := by
  obtain ⟨F1, c1, r1, k1⟩ := go_204 (E := E) (G := G) 8 D t F none h hI h4 hq (by omega) (Or.inl hl)
  refine ⟨F1, fun d hd => ?_, r1, k1⟩
  obtain ⟨e, rfl⟩ : ∃ e, d = e + 1 := ⟨d - 1, by omega⟩
  exact (into_eq (by omega) hM_204 rfl rfl).trans (c1 e hd)
theorem go_203 {E : EnQ} {F : Nat → Int → Int32} {G : Nat → Int → Int64} {T : Nat → Int} {n : Nat} {D : Int → Int32} {t : TkS} (h : MoR F T n D t) (hI : InP n D t (tI (D 3))) : ∃ F1, CtP MP 6 203 [.ref 217] (mk E F G) (Sum.inl none) (mk E F1 G) ∧ OuM F1 T n (pWalk T n D t) ∧ KpM F F1 := by
  obtain ⟨hP, hN, h0, h6⟩ := hI
  have hA := hP.1.1.2.1
  have w0 := hP.1.1.2.2.2.1
  have ht := hN.1
  obtain ⟨a1, a2, -⟩ := av_st (T := T) hN
  obtain ⟨a3, a4, -⟩ := av_st (T := T) a1
  obtain ⟨a5, a6, -⟩ := av_st (T := T) a3
  by_cases c0 : tI (D 3) = 4
  · have e : pWalk T n D t = .inl (flt t 4) := if_pos c0
    rw [e]
    obtain ⟨F1, c1, r1, p1, k1⟩ := go_196 (E := E) (G := G) h ht (y := 4) (by omega)
    refine ⟨F1, fun d hd => ?_, r1, k1⟩
    obtain ⟨h1, h2, h3, h4', h5⟩ := h
    obtain ⟨b1, b2, b3, b4⟩ := r1
    refine into (D := 5) (by omega) hM_203 (rcv_mk rfl (by decide)) rfl fun d hd => ?_
    show runP MP d 203 (0, [some (.ref 217), none, none], [], _) = _
    rw [q_203_0]; (try simp only [↓n_rd, ↓n_al, ↓n_cI, li_0, li_1, li_2, li_3, li_4, li_6, li_9, li_12, li_13, li_15, li_38, li_170, zI_add, zI_sub, zI_mul, zI_neg, ↓Option.bind_some]); simp (disch := (first | assumption | exact tI_rg _ | omega | exact uR_at | exact row_ne hF (by decide) | exact row_ne (row_ne hF (by decide)) (by decide) | exact SnS_18 | exact SnS_30 | exact LdS_44 | exact LdS_46)) only [q_203_15, q_203_75, h4', h5, c0, ↓ctV c1, b1, ↓n_rd, ↓n_al, ↓n_cI, li_0, li_1, li_2, li_3, li_4, li_6, li_9, li_12, li_13, li_15, li_38, li_170, zI_add, zI_sub, zI_mul, zI_neg, ↓Option.bind_some, ↓g12_1, ↓g12_13, ↓al_219, ↓as_219, zIt2, uR_at, uR_ne, uR_uR, uC_uC, uC_at, ↓reduceIte, decide_eq_true_eq, leT, leF, ltT, ltF, eqT, eqF, ne_eq, not_true_eq_false, not_false_eq_true, Bool.false_eq_true, tI_zI]
  · have w4 : tI (D 3) < 4 := by omega
    have e : pWalk T n D t = if nmZ (av T n t) 0 (tI (D 1) - 1) = 0 then
        (if isW T 6 (av T n (av T n t)) = true then bnd (pBt T n (170 + 9 * tI (D 3)) 8 D (av T n (av T n (av T n t)))) (fun s => .inr (addWk s.1 (av T n t).2.2.2, s.2))
        else .inr (addWk D (av T n t).2.2.2, av T n (av T n t))) else .inl (flt (av T n t) (nmZ (av T n t) 0 (tI (D 1) - 1))) := by
      unfold pWalk; rw [if_neg c0, beg_id hP w4]
    rw [e]
    have hbeg : uC D (170 + 9 * tI (D 3)) (zI 0) = D := beg_id hP w4
    obtain ⟨F1, c1, r1, k1⟩ := go_190 (E := E) (G := G) h ht
    have h4' := h.2.2.2.1
    have h5 := h.2.2.2.2
    by_cases c : nmZ (av T n t) 0 (tI (D 1) - 1) = 0
    · rw [if_pos c]
      obtain ⟨n1, n2, n3⟩ := nm_0 c
      obtain ⟨F2, c2, r2, k2⟩ := go_201t (E := E) (G := G) r1 a1.1 hA c
      have r3 := MoR_9 (X := D) r2
      have k3 := (k1.tr k2).tr (KpM_9 (X := D))
      have y4 := r2.2.2.2.1
      have y5 := r2.2.2.2.2
      have hz := hP.2.2.2.2 (tI (D 3)) w0.1 (Int.le_refl _) w4
      by_cases cw : isW T 6 (av T n (av T n t)) = true
      · rw [if_pos cw]
        obtain ⟨F3, c3, q3, k4⟩ := go_194t (E := E) (G := G) r3 a3.1 (k := 6) (by omega) cw
        obtain ⟨F4, c4, q4, k5⟩ := go_204c (E := E) (G := G) q3 ⟨PaJ_mono hP (by omega), a5, by omega, h6⟩ w4 rfl (by rw [hz, tz0])
        cases hx : pBt T n (170 + 9 * tI (D 3)) 8 D (av T n (av T n (av T n t))) with
        | inl f =>
          rw [hx] at q4
          refine ⟨F4, fun d hd => ?_, q4, (k3.tr k4).tr k5⟩
          obtain ⟨b1, b2, b3, b4⟩ := (show BaM F4 f from q4)
          refine into (D := 5) (by omega) hM_203 (rcv_mk rfl (by decide)) rfl fun d hd => ?_
          show runP MP d 203 (0, [some (.ref 217), none, none], [], _) = _
          rw [q_203_0]; (try simp only [↓n_rd, ↓n_al, ↓n_cI, li_0, li_1, li_2, li_3, li_4, li_6, li_9, li_12, li_13, li_15, li_38, li_170, zI_add, zI_sub, zI_mul, zI_neg, ↓Option.bind_some]); simp (disch := (first | assumption | exact tI_rg _ | omega | exact uR_at | exact row_ne hF (by decide) | exact row_ne (row_ne hF (by decide)) (by decide) | exact SnS_18 | exact SnS_30 | exact LdS_44 | exact LdS_46)) only [q_203_15, q_203_75, h4', h5, hbeg, ↓ctV c1, ↓ctT c2, ↓ctT c3, ↓ctV c4, y4, y5, b1, ↓n_rd, ↓n_al, ↓n_cI, li_0, li_1, li_2, li_3, li_4, li_6, li_9, li_12, li_13, li_15, li_38, li_170, zI_add, zI_sub, zI_mul, zI_neg, ↓Option.bind_some, ↓g12_1, ↓g12_13, ↓al_219, ↓as_219, zIt2, uR_at, uR_ne, uR_uR, uC_uC, uC_at, ↓reduceIte, decide_eq_true_eq, leT, leF, ltT, ltF, eqT, eqF, ne_eq, not_true_eq_false, not_false_eq_true, Bool.false_eq_true, tI_zI]
        | inr s =>
          rw [hx] at q4
          obtain ⟨i1, i2, i3, i4⟩ := i_bt 8 D (av T n (av T n (av T n t))) ⟨PaJ_mono hP (by omega), a5, by omega, h6⟩ w4 (by rw [hz, tz0]; rfl) hx
          have q4' : MoR F4 T n s.1 s.2 := q4
          refine ⟨uR F4 219 (addWk s.1 (av T n t).2.2.2), fun d hd => ?_, MoR_9 q4', ((k3.tr k4).tr k5).tr KpM_9⟩
          have z4 := q4'.2.2.2.1
          have z5 := q4'.2.2.2.2
          have i5 : tI (s.1 3) = tI (D 3) := by rw [i3]
          unfold addWk
          refine into (D := 5) (by omega) hM_203 (rcv_mk rfl (by decide)) rfl fun d hd => ?_
          show runP MP d 203 (0, [some (.ref 217), none, none], [], _) = _
          rw [q_203_0]; (try simp only [↓n_rd, ↓n_al, ↓n_cI, li_0, li_1, li_2, li_3, li_4, li_6, li_9, li_12, li_13, li_15, li_38, li_170, zI_add, zI_sub, zI_mul, zI_neg, ↓Option.bind_some]); simp (disch := (first | assumption | exact tI_rg _ | omega | exact uR_at | exact row_ne hF (by decide) | exact row_ne (row_ne hF (by decide)) (by decide) | exact SnS_18 | exact SnS_30 | exact LdS_44 | exact LdS_46)) only [q_203_15, q_203_75, h4', h5, hbeg, ↓ctV c1, ↓ctT c2, ↓ctT c3, ↓ctV c4, y4, y5, z4, z5, uC_ne (show (3 : Int) ≠ 38 + 2 * tI (s.1 3) by omega), ↓n_rd, ↓n_al, ↓n_cI, li_0, li_1, li_2, li_3, li_4, li_6, li_9, li_12, li_13, li_15, li_38, li_170, zI_add, zI_sub, zI_mul, zI_neg, ↓Option.bind_some, ↓g12_1, ↓g12_13, ↓al_219, ↓as_219, zIt2, uR_at, uR_ne, uR_uR, uC_uC, uC_at, ↓reduceIte, decide_eq_true_eq, leT, leF, ltT, ltF, eqT, eqF, ne_eq, not_true_eq_false, not_false_eq_true, Bool.false_eq_true, tI_zI]
      · rw [if_neg cw]
        have c3 := go_194f (E := E) (G := G) r3 a3.1 (k := 6) (by omega) cw
        refine ⟨uR (uR F2 219 D) 219 (addWk D (av T n t).2.2.2), fun d hd => ?_, MoR_9 r3, k3.tr KpM_9⟩
        unfold addWk
        refine into (D := 5) (by omega) hM_203 (rcv_mk rfl (by decide)) rfl fun d hd => ?_
        show runP MP d 203 (0, [some (.ref 217), none, none], [], _) = _
        rw [q_203_0]; (try simp only [↓n_rd, ↓n_al, ↓n_cI, li_0, li_1, li_2, li_3, li_4, li_6, li_9, li_12, li_13, li_15, li_38, li_170, zI_add, zI_sub, zI_mul, zI_neg, ↓Option.bind_some]); simp (disch := (first | assumption | exact tI_rg _ | omega | exact uR_at | exact row_ne hF (by decide) | exact row_ne (row_ne hF (by decide)) (by decide) | exact SnS_18 | exact SnS_30 | exact LdS_44 | exact LdS_46)) only [q_203_15, q_203_75, h4', h5, hbeg, ↓ctV c1, ↓ctT c2, ↓ctT c3, y4, y5, uC_ne (show (3 : Int) ≠ 38 + 2 * tI (D 3) by omega), ↓n_rd, ↓n_al, ↓n_cI, li_0, li_1, li_2, li_3, li_4, li_6, li_9, li_12, li_13, li_15, li_38, li_170, zI_add, zI_sub, zI_mul, zI_neg, ↓Option.bind_some, ↓g12_1, ↓g12_13, ↓al_219, ↓as_219, zIt2, uR_at, uR_ne, uR_uR, uC_uC, uC_at, ↓reduceIte, decide_eq_true_eq, leT, leF, ltT, ltF, eqT, eqF, ne_eq, not_true_eq_false, not_false_eq_true, Bool.false_eq_true, tI_zI]
    · rw [if_neg c]
      obtain ⟨F2, c2, r2, p2, k2⟩ := go_201f (E := E) (G := G) r1 a1.1 hA c
      refine ⟨F2, fun d hd => ?_, r2, k1.tr k2⟩
      obtain ⟨b1, b2, b3, b4⟩ := r2
      refine into (D := 5) (by omega) hM_203 (rcv_mk rfl (by decide)) rfl fun d hd => ?_
      show runP MP d 203 (0, [some (.ref 217), none, none], [], _) = _
      rw [q_203_0]; (try simp only [↓n_rd, ↓n_al, ↓n_cI, li_0, li_1, li_2, li_3, li_4, li_6, li_9, li_12, li_13, li_15, li_38, li_170, zI_add, zI_sub, zI_mul, zI_neg, ↓Option.bind_some]); simp (disch := (first | assumption | exact tI_rg _ | omega | exact uR_at | exact row_ne hF (by decide) | exact row_ne (row_ne hF (by decide)) (by decide) | exact SnS_18 | exact SnS_30 | exact LdS_44 | exact LdS_46)) only [q_203_15, q_203_75, h4', h5, ↓ctV c1, ↓ctT c2, b1, ↓n_rd, ↓n_al, ↓n_cI, li_0, li_1, li_2, li_3, li_4, li_6, li_9, li_12, li_13, li_15, li_38, li_170, zI_add, zI_sub, zI_mul, zI_neg, ↓Option.bind_some, ↓g12_1, ↓g12_13, ↓al_219, ↓as_219, zIt2, uR_at, uR_ne, uR_uR, uC_uC, uC_at, ↓reduceIte, decide_eq_true_eq, leT, leF, ltT, ltF, eqT, eqF, ne_eq, not_true_eq_false, not_false_eq_true, Bool.false_eq_true, tI_zI]
theorem path_in {D : Int → Int32} {a b : Int} (hP : InvP D) (hm : 0 ≤ tI (D 2)) (h : pathZ D a b ≠ -1) : 0 ≤ b ∧ b < tI (D 1) := by
  unfold pathZ at h
  rcases fndN_is (isP D a b) (tI (D 2)).toNat 0 with ⟨h1, -⟩ | ⟨k, -, h2, -, h4, -⟩
  · exact absurd h1 h
  · unfold isP at h4
    rw [Bool.or_eq_true, Bool.and_eq_true, Bool.and_eq_true, beq_iff_eq, beq_iff_eq, beq_iff_eq, beq_iff_eq] at h4
    have g1 := hP.1 (2 * (k : Int)) (by omega) (by omega)
    have g2 := hP.1 (2 * (k : Int) + 1) (by omega) (by omega)
    rw [show 6 + (2 * (k : Int) + 1) = 7 + 2 * (k : Int) by omega] at g2
    rcases h4 with ⟨-, e⟩ | ⟨e, -⟩
    · rw [← e]; exact g2
    · rw [← e]; exact g1
end S94zzo
