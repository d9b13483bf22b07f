/-! CLASS: reading a plain 4 -/
section S94zzw
set_option linter.unusedVariables false
set_option linter.unusedSimpArgs false
theorem wk_at {X : Int → Int32} {v j : Int} (h3 : j ≠ 3) (h : j ≠ 38 + 2 * tI (X 3)) : addWk X v j = X j := by
  unfold addWk; rw [uC_ne h3, uC_ne h]
/-- the beat told, the walker then -/
def pBw (T : Nat → Int) (n : Nat) (q : Int) (m : Nat) (X : Int → Int32) (t : TkS) (v : Int) : PrR := bnd (pBt T n q m X t) (fun s => .inr (addWk s.1 v, s.2))
theorem go_50l {E : EnQ} {G : Nat → Int → Int64} {T : Nat → Int} {n a p : Nat} {q v : Int} (hE : RdE E a p) : ∀ (m : Nat) (X : Int → Int32) (t : TkS) (F : Nat → Int → Int32), RdR F T n a p (addWk X v) t → InP n X t (tI (X 3) + 1) → tI (X 3) < 4 → q = 170 + 9 * tI (X 3) → tI (X q) + m = 8 →
    ∃ F1, (∀ d, 4 ≤ d + 1 → runP MP d 50 (6, [some (.ref a), some (.ref p), some (.int (zI (tI (X q))))], [], mk E F G) = some (Sum.inl (some (.int (zI (rtZ (pBw T n q m X t v))))), mk E F1 G)) ∧ OuR F1 T n a p (pBw T n q m X t v) ∧ KpR a p F F1 := by
  have hs := hE.1
  have hs2 := hE.2.2.1.1
  have hPl := hE.2.2.1
  have g6 := hE.2.2.2.2.2
  have g17 := hE.2.2.2.1
  have gp17 := hE.2.2.2.2.1
  intro m
  induction m with
  | zero =>
    intro X t F h hI h4 hq hl
    obtain ⟨hP, hN, h0, h6⟩ := hI
    have hA := hP.1.1.2.1
    have w0 := hP.1.1.2.2.2.1
    have ht := hN.1
    have y1 : F p 1 = X 1 := by rw [h.2.2.2.1.1.2.1, wk_at (by omega) (by omega)]
    by_cases c : nmZ t 0 (tI (X 1) - 1) = 0
    · have e : pBw T n q 0 X t v = .inl (flt t 4) := by unfold pBw pBt; rw [if_pos c]; rfl
      rw [e]
      have g1 := go_45t (G := G) hE h ht (lo := 0) (up := tI (X 1) - 1) (by omega) (by omega) c
      obtain ⟨F1, c1, r1, k1⟩ := go_44 (G := G) hE h ht (y := 4) (by omega)
      refine ⟨F1, fun d hd => ?_, r1, k1⟩
      show (_ : ResP) = some (Sum.inl (some (.int (zI 0))), mk E F1 G)
      have e8 : tI (X q) = 8 := by omega
      rw [e8]
      rw [q_50_6]; (try simp only [↓n_rd, ↓n_cI, li_0, li_1, li_2, li_3, li_4, li_5, li_6, li_8, li_32, li_38, zI_add, zI_sub, zI_mul, zI_neg, ↓Option.bind_some]); simp (disch := (first | assumption | exact tI_rg _ | omega | exact uR_at | exact row_ne hF (by decide) | exact row_ne (row_ne hF (by decide)) (by decide) | exact SnS_18 | exact SnS_30 | exact LdS_44 | exact LdS_46)) only [q_50_0, y1, ↓ctT g1, ↓ctT c1, ↓n_rd, ↓n_cI, retZ_z, li_0, li_1, li_2, li_3, li_4, li_5, li_6, li_8, li_32, li_38, zI_add, zI_sub, zI_mul, zI_neg, ↓Option.bind_some, ↓g2_1, ↓g3_2, ↓g3_5, zIt2, uR_at, uR_ne, uR_uR, uC_uC, uC_at, ↓reduceIte, decide_eq_true_eq, leT, leF, ltT, ltF, eqT, eqF, ne_eq, not_true_eq_false, not_false_eq_true, Bool.false_eq_true, tI_zI]
    · have e : pBw T n q 0 X t v = .inl (flt t (nmZ t 0 (tI (X 1) - 1))) := by unfold pBw pBt; rw [if_neg c]; rfl
      rw [e]
      obtain ⟨F1, c1, r1, k1⟩ := go_45f (G := G) hE h ht (lo := 0) (up := tI (X 1) - 1) (by omega) (by omega) c
      refine ⟨F1, fun d hd => ?_, r1, k1⟩
      show (_ : ResP) = some (Sum.inl (some (.int (zI 0))), mk E F1 G)
      have e8 : tI (X q) = 8 := by omega
      rw [e8]
      rw [q_50_6]; (try simp only [↓n_rd, ↓n_cI, li_0, li_1, li_2, li_3, li_4, li_5, li_6, li_8, li_32, li_38, zI_add, zI_sub, zI_mul, zI_neg, ↓Option.bind_some]); simp (disch := (first | assumption | exact tI_rg _ | omega | exact uR_at | exact row_ne hF (by decide) | exact row_ne (row_ne hF (by decide)) (by decide) | exact SnS_18 | exact SnS_30 | exact LdS_44 | exact LdS_46)) only [q_50_0, y1, ↓ctT c1, ↓n_rd, ↓n_cI, retZ_z, li_0, li_1, li_2, li_3, li_4, li_5, li_6, li_8, li_32, li_38, zI_add, zI_sub, zI_mul, zI_neg, ↓Option.bind_some, ↓g2_1, ↓g3_2, ↓g3_5, zIt2, uR_at, uR_ne, uR_uR, uC_uC, uC_at, ↓reduceIte, decide_eq_true_eq, leT, leF, ltT, ltF, eqT, eqF, ne_eq, not_true_eq_false, not_false_eq_true, Bool.false_eq_true, tI_zI]
  | succ m ih =>
    intro X t F h hI h4 hq hl
    obtain ⟨hP, hN, h0, h6⟩ := hI
    have hA := hP.1.1.2.1
    have p0 := hP.1.1.2.2.1
    have w0 := hP.1.1.2.2.2.1
    have ht := hN.1
    have hBs := hP.1.2.2.1
    have l0 := (hBs (tI (X 3)) w0.1 h4).1
    rw [← hq] at l0
    have y1 : F p 1 = X 1 := by rw [h.2.2.2.1.1.2.1, wk_at (by omega) (by omega)]
    by_cases c : nmZ t 0 (tI (X 1) - 1) = 0
    · obtain ⟨n1, n2, n3⟩ := nm_0 c
      have g1 := go_45t (G := G) hE h ht (lo := 0) (up := tI (X 1) - 1) (by omega) (by omega) c
      have u5 := h.2.2.1.2.2.2 n1
      obtain ⟨e3, e1, e0⟩ := bt_3 (D := X) (v := t.2.2.2) w0.1 (by rw [← hq]; exact l0.1)
      rw [← hq] at e3 e1 e0
      have eq : addBt X q t.2.2.2 q = zI (tI (X q) + 1) := by
        unfold addBt; rw [uC_ne (by omega), uC_at]
      have ev : addBt X q t.2.2.2 (q + (tI (X q) + 1)) = zI t.2.2.2 := uC_at
      have en : ∀ j, j ≠ q → j ≠ q + (tI (X q) + 1) → addBt X q t.2.2.2 j = X j := fun j j1 j2 => by
        unfold addBt; rw [uC_ne j2, uC_ne j1]
      have kq : addWk X v q = X q := wk_at (by omega) (by omega)
      have k3 : tI (addWk X v 3) = tI (X 3) + 1 := by
        rw [show addWk X v 3 = zI (tI (X 3) + 1) from uC_at, tI_zI (by omega)]
      have kw : ∀ j, addWk (addBt X q t.2.2.2) v j = if j = 3 then zI (tI (X 3) + 1) else if j = 38 + 2 * tI (X 3) then zI v else addBt X q t.2.2.2 j := fun j => by
        unfold addWk
        rw [e3]
        by_cases z3 : j = 3
        · rw [if_pos z3, z3, uC_at]
        · rw [if_neg z3, uC_ne z3]
          by_cases z4 : j = 38 + 2 * tI (X 3)
          · rw [if_pos z4, z4, uC_at]
          · rw [if_neg z4, uC_ne z4]
      have kx : ∀ j, addWk X v j = if j = 3 then zI (tI (X 3) + 1) else if j = 38 + 2 * tI (X 3) then zI v else X j := fun j => by
        unfold addWk
        by_cases z3 : j = 3
        · rw [if_pos z3, z3, uC_at]
        · rw [if_neg z3, uC_ne z3]
          by_cases z4 : j = 38 + 2 * tI (X 3)
          · rw [if_pos z4, z4, uC_at]
          · rw [if_neg z4, uC_ne z4]
      have kl : tI (addWk X v (170 + 9 * tI (X 3))) = tI (X q) := by rw [← hq, kq]
      obtain ⟨F1, c1, q1, j1⟩ := go_32 (E := E) (G := G) (D := addWk X v) (D' := addWk (addBt X q t.2.2.2) v) (x := t.2.2.2) (v := tI (X 3)) hPl h.2.2.2 (by rw [wk_at (by omega) (by omega)]; exact p0) ⟨k3, w0.1, h4⟩ (by rw [kl]; omega) (fun u u1 u2 => by rw [wk_at (by omega) (by omega)]; exact (hBs u u1 u2).1)
        (by rw [kl, ← hq, kw, if_neg (by omega), if_neg (by omega), eq]) (by rw [kl, kw, if_neg (by omega), if_neg (by omega), show 171 + 9 * tI (X 3) + tI (X q) = q + (tI (X q) + 1) by omega, ev])
        (fun j z1 z2 => by rw [kl] at z2; rw [kw, kx]; by_cases z3 : j = 3; (rw [if_pos z3, if_pos z3]); (rw [if_neg z3, if_neg z3]; by_cases z4 : j = 38 + 2 * tI (X 3); (rw [if_pos z4, if_pos z4]); (rw [if_neg z4, if_neg z4]; exact en j (by omega) (by omega))))
      have r1 := RdR_p h (j1 17 (by omega)) (j1 a (by omega)) q1
      obtain ⟨F2, c2, r2, k2⟩ := go_38 (G := G) hE r1 ht
      have m1 := r2.2.2.1.1
      have hP2 := PaJ_bt hP h4 (by rw [← hq]; omega) (v := t.2.2.2) ⟨n2, by omega⟩
      rw [← hq] at hP2
      obtain ⟨a1, a2, -⟩ := av_st (T := T) hN
      have eqt : tI (addBt X q t.2.2.2 q) = tI (X q) + 1 := by rw [eq, tI_zI (by omega)]
      have t1 := a1.1.1
      by_cases d1 : (av T n t).1 = 2
      · have e : pBw T n q (m + 1) X t v = pBw T n q m (addBt X q t.2.2.2) (av T n t) v := by
          unfold pBw; rw [show pBt T n q (m + 1) X t = pBt T n q m (addBt X q t.2.2.2) (av T n t) from (if_pos c).trans (if_pos d1)]
        rw [e]
        obtain ⟨F3, c3, r3, k3'⟩ := ih (addBt X q t.2.2.2) (av T n t) F2 r2 (by rw [e3]; exact ⟨hP2, a1, by rw [e0]; omega, h6⟩) (by rw [e3]; exact h4) (by rw [e3]; exact hq) (by omega)
        refine ⟨F3, fun d hd => ?_, r3, (KpR.tr (fun q _ hq => j1 q hq) k2).tr k3'⟩
        rw [← c3 d hd, eqt]
        rw [q_50_6]; (try simp only [↓n_rd, ↓n_cI, li_0, li_1, li_2, li_3, li_4, li_5, li_6, li_8, li_32, li_38, zI_add, zI_sub, zI_mul, zI_neg, ↓Option.bind_some]); simp (disch := (first | assumption | exact tI_rg _ | omega | exact uR_at | exact row_ne hF (by decide) | exact row_ne (row_ne hF (by decide)) (by decide) | exact SnS_18 | exact SnS_30 | exact LdS_44 | exact LdS_46)) only [q_50_0, y1, u5, ↓ctT g1, ↓ctV c1, ↓ctV c2, m1, d1, ↓n_rd, ↓n_cI, retZ_z, li_0, li_1, li_2, li_3, li_4, li_5, li_6, li_8, li_32, li_38, zI_add, zI_sub, zI_mul, zI_neg, ↓Option.bind_some, ↓g2_1, ↓g3_2, ↓g3_5, zIt2, uR_at, uR_ne, uR_uR, uC_uC, uC_at, ↓reduceIte, decide_eq_true_eq, leT, leF, ltT, ltF, eqT, eqF, ne_eq, not_true_eq_false, not_false_eq_true, Bool.false_eq_true, tI_zI]
      · have e : pBw T n q (m + 1) X t v = .inr (addWk (addBt X q t.2.2.2) v, av T n t) := by
          unfold pBw; rw [show pBt T n q (m + 1) X t = .inr (addBt X q t.2.2.2, av T n t) from (if_pos c).trans (if_neg d1)]; rfl
        rw [e]
        refine ⟨F2, fun d hd => ?_, r2, KpR.tr (fun q _ hq => j1 q hq) k2⟩
        show (_ : ResP) = some (Sum.inl (some (.int (zI 1))), mk E F2 G)
        rw [q_50_6]; (try simp only [↓n_rd, ↓n_cI, li_0, li_1, li_2, li_3, li_4, li_5, li_6, li_8, li_32, li_38, zI_add, zI_sub, zI_mul, zI_neg, ↓Option.bind_some]); simp (disch := (first | assumption | exact tI_rg _ | omega | exact uR_at | exact row_ne hF (by decide) | exact row_ne (row_ne hF (by decide)) (by decide) | exact SnS_18 | exact SnS_30 | exact LdS_44 | exact LdS_46)) only [q_50_0, y1, u5, ↓ctT g1, ↓ctV c1, ↓ctV c2, m1, ↓n_rd, ↓n_cI, retZ_z, li_0, li_1, li_2, li_3, li_4, li_5, li_6, li_8, li_32, li_38, zI_add, zI_sub, zI_mul, zI_neg, ↓Option.bind_some, ↓g2_1, ↓g3_2, ↓g3_5, zIt2, uR_at, uR_ne, uR_uR, uC_uC, uC_at, ↓reduceIte, decide_eq_true_eq, leT, leF, ltT, ltF, eqT, eqF, ne_eq, not_true_eq_false, not_false_eq_true, Bool.false_eq_true, tI_zI]
    · have e : pBw T n q (m + 1) X t v = .inl (flt t (nmZ t 0 (tI (X 1) - 1))) := by unfold pBw pBt; rw [if_neg c]; rfl
      rw [e]
      obtain ⟨F1, c1, r1, k1⟩ := go_45f (G := G) hE h ht (lo := 0) (up := tI (X 1) - 1) (by omega) (by omega) c
      refine ⟨F1, fun d hd => ?_, r1, k1⟩
      show (_ : ResP) = some (Sum.inl (some (.int (zI 0))), mk E F1 G)
      rw [q_50_6]; (try simp only [↓n_rd, ↓n_cI, li_0, li_1, li_2, li_3, li_4, li_5, li_6, li_8, li_32, li_38, zI_add, zI_sub, zI_mul, zI_neg, ↓Option.bind_some]); simp (disch := (first | assumption | exact tI_rg _ | omega | exact uR_at | exact row_ne hF (by decide) | exact row_ne (row_ne hF (by decide)) (by decide) | exact SnS_18 | exact SnS_30 | exact LdS_44 | exact LdS_46)) only [q_50_0, y1, ↓ctT c1, ↓n_rd, ↓n_cI, retZ_z, li_0, li_1, li_2, li_3, li_4, li_5, li_6, li_8, li_32, li_38, zI_add, zI_sub, zI_mul, zI_neg, ↓Option.bind_some, ↓g2_1, ↓g3_2, ↓g3_5, zIt2, uR_at, uR_ne, uR_uR, uC_uC, uC_at, ↓reduceIte, decide_eq_true_eq, leT, leF, ltT, ltF, eqT, eqF, ne_eq, not_true_eq_false, not_false_eq_true, Bool.false_eq_true, tI_zI]
theorem go_49 {E : EnQ} {F : Nat → Int → Int32} {G : Nat → Int → Int64} {T : Nat → Int} {n a p : Nat} {D : Int → Int32} {t : TkS} (hE : RdE E a p) (h : RdR F T n a p D t) (hI : InP n D t (tI (D 3))) : ∃ F1, CtP MP 5 49 [.ref a, .ref p] (mk E F G) (Sum.inl (some (.int (zI (rtZ (pWalk T n D t)))))) (mk E F1 G) ∧ OuR F1 T n a p (pWalk T n D t) ∧ KpR a p F F1 := by
  have hs := hE.1
  have hs2 := hE.2.2.1.1
  have hPl := hE.2.2.1
  have g6 := hE.2.2.2.2.2
  have g17 := hE.2.2.2.1
  have gp17 := hE.2.2.2.2.1
  obtain ⟨hP, hN, h0, h6⟩ := hI
  have hA := hP.1.1.2.1
  have p0 := hP.1.1.2.2.1
  have w0 := hP.1.1.2.2.2.1
  have ht := hN.1
  obtain ⟨a1, a2, -⟩ := av_st (T := T) hN
  obtain ⟨a3, a4, -⟩ := av_st (T := T) a1
  obtain ⟨a5, a6, -⟩ := av_st (T := T) a3
  have y3 := h.2.2.2.1.1.2.2.2.1
  by_cases c0 : tI (D 3) = 4
  · have e : pWalk T n D t = .inl (flt t 4) := if_pos c0
    rw [e]
    obtain ⟨F1, c1, r1, k1⟩ := go_44 (G := G) hE h ht (y := 4) (by omega)
    refine ⟨F1, fun d hd => ?_, r1, k1⟩
    show (_ : ResP) = some (Sum.inl (some (.int (zI 0))), mk E F1 G)
    refine into (D := 4) (by omega) hM_49 (rcv_mk hs (by decide)) rfl fun d hd => ?_
    show runP MP d 49 (0, [some (.ref a), some (.ref p)], [], _) = _
    rw [q_49_0]; (try simp only [↓n_rd, ↓n_cI, li_0, li_1, li_2, li_3, li_4, li_5, li_6, li_31, li_38, li_63, zI_add, zI_sub, zI_mul, zI_neg, ↓Option.bind_some]); simp (disch := (first | assumption | exact tI_rg _ | omega | exact uR_at | exact row_ne hF (by decide) | exact row_ne (row_ne hF (by decide)) (by decide) | exact SnS_18 | exact SnS_30 | exact LdS_44 | exact LdS_46)) only [q_49_63, q_49_68, y3, c0, ↓ctT c1, ↓n_rd, ↓n_cI, retZ_z, li_0, li_1, li_2, li_3, li_4, li_5, li_6, li_31, li_38, li_63, zI_add, zI_sub, zI_mul, zI_neg, ↓Option.bind_some, ↓g2_1, ↓g2_3, ↓g3_5, zIt2, uR_at, uR_ne, uR_uR, uC_uC, uC_at, ↓reduceIte, decide_eq_true_eq, leT, leF, ltT, ltF, eqT, eqF, ne_eq, not_true_eq_false, not_false_eq_true, Bool.false_eq_true, tI_zI]
  · have w4 : tI (D 3) < 4 := by omega
    have e : pWalk T n D t = if nmZ (av T n t) 0 (tI (D 1) - 1) = 0 then
        (if isW T 6 (av T n (av T n t)) = true then pBw T n (170 + 9 * tI (D 3)) 8 D (av T n (av T n (av T n t))) (av T n t).2.2.2
        else .inr (addWk D (av T n t).2.2.2, av T n (av T n t))) else .inl (flt (av T n t) (nmZ (av T n t) 0 (tI (D 1) - 1))) := by
      unfold pWalk; rw [if_neg c0, beg_id hP w4]; rfl
    rw [e]
    obtain ⟨F1, c1, r1, k1⟩ := go_38 (G := G) hE h ht
    have y1 := r1.2.2.2.1.1.2.1
    by_cases c : nmZ (av T n t) 0 (tI (D 1) - 1) = 0
    · rw [if_pos c]
      obtain ⟨n1, n2, n3⟩ := nm_0 c
      have g1 := go_45t (G := G) hE r1 a1.1 (lo := 0) (up := tI (D 1) - 1) (by omega) (by omega) c
      have u5 := r1.2.2.1.2.2.2 n1
      obtain ⟨F2, c2, q2, j2⟩ := go_31 (E := E) (G := G) (x := (av T n t).2.2.2) hPl r1.2.2.2 p0 ⟨w0.1, w4⟩ hA.2
      have r2 := RdR_p r1 (j2 17 (by omega)) (j2 a (by omega)) q2
      obtain ⟨F3, c3, r3, k3⟩ := go_38 (G := G) hE r2 a1.1
      have kk3 := (k1.tr (fun q _ hq => j2 q hq)).tr k3
      by_cases cw : isW T 6 (av T n (av T n t)) = true
      · rw [if_pos cw]
        have g2 := go_43t (G := G) hE r3 a3.1 (k := 6) (by omega) cw
        obtain ⟨F4, c4, r4, k4⟩ := go_38 (G := G) hE r3 a3.1
        have hz := hP.2.2.2.2 (tI (D 3)) w0.1 (Int.le_refl _) w4
        have hz0 : tI (D (170 + 9 * tI (D 3))) = 0 := by rw [hz, tz0]
        obtain ⟨F5, c5, r5, k5⟩ := go_50l (E := E) (G := G) hE 8 D (av T n (av T n (av T n t))) F4 r4 ⟨PaJ_mono hP (by omega), a5, by omega, h6⟩ w4 rfl (by rw [hz0]; rfl)
        have c50 : CtP MP 4 50 [.ref a, .ref p] (mk E F3 G) (Sum.inl (some (.int (zI (rtZ (pBw T n (170 + 9 * tI (D 3)) 8 D (av T n (av T n (av T n t))) (av T n t).2.2.2))))) ) (mk E F5 G) := fun d hd => by
          refine into (D := 3) (by omega) hM_50 (rcv_mk hs (by decide)) rfl fun d hd => ?_
          show runP MP d 50 (0, [some (.ref a), some (.ref p), none], [], _) = _
          rw [← c5 d (by omega), hz0]
          rw [q_50_0]; (try simp only [↓n_rd, ↓n_cI, li_0, li_1, li_2, li_3, li_4, li_5, li_6, li_8, li_32, li_38, zI_add, zI_sub, zI_mul, zI_neg, ↓Option.bind_some]); simp (disch := (first | assumption | exact tI_rg _ | omega | exact uR_at | exact row_ne hF (by decide) | exact row_ne (row_ne hF (by decide)) (by decide) | exact SnS_18 | exact SnS_30 | exact LdS_44 | exact LdS_46)) only [↓ctV c4, ↓n_rd, ↓n_cI, retZ_z, li_0, li_1, li_2, li_3, li_4, li_5, li_6, li_8, li_32, li_38, zI_add, zI_sub, zI_mul, zI_neg, ↓Option.bind_some, ↓g2_1, ↓g3_2, ↓g3_5, zIt2, uR_at, uR_ne, uR_uR, uC_uC, uC_at, ↓reduceIte, decide_eq_true_eq, leT, leF, ltT, ltF, eqT, eqF, ne_eq, not_true_eq_false, not_false_eq_true, Bool.false_eq_true, tI_zI]
        refine ⟨F5, fun d hd => ?_, r5, (kk3.tr k4).tr k5⟩
        cases hx : pBw T n (170 + 9 * tI (D 3)) 8 D (av T n (av T n (av T n t))) (av T n t).2.2.2 with
        | inl f =>
          rw [hx] at c50
          have c51 : CtP MP 4 50 [.ref a, .ref p] (mk E F3 G) (Sum.inl (some (.int (zI 0)))) (mk E F5 G) := c50
          show (_ : ResP) = some (Sum.inl (some (.int (zI 0))), mk E F5 G)
          refine into (D := 4) (by omega) hM_49 (rcv_mk hs (by decide)) rfl fun d hd => ?_
          show runP MP d 49 (0, [some (.ref a), some (.ref p)], [], _) = _
          rw [q_49_0]; (try simp only [↓n_rd, ↓n_cI, li_0, li_1, li_2, li_3, li_4, li_5, li_6, li_31, li_38, li_63, zI_add, zI_sub, zI_mul, zI_neg, ↓Option.bind_some]); simp (disch := (first | assumption | exact tI_rg _ | omega | exact uR_at | exact row_ne hF (by decide) | exact row_ne (row_ne hF (by decide)) (by decide) | exact SnS_18 | exact SnS_30 | exact LdS_44 | exact LdS_46)) only [q_49_63, q_49_68, y3, y1, u5, ↓ctV c1, ↓ctT g1, ↓ctV c2, ↓ctV c3, ↓ctT g2, ↓ctT c51, ↓n_rd, ↓n_cI, retZ_z, li_0, li_1, li_2, li_3, li_4, li_5, li_6, li_31, li_38, li_63, zI_add, zI_sub, zI_mul, zI_neg, ↓Option.bind_some, ↓g2_1, ↓g2_3, ↓g3_5, zIt2, uR_at, uR_ne, uR_uR, uC_uC, uC_at, ↓reduceIte, decide_eq_true_eq, leT, leF, ltT, ltF, eqT, eqF, ne_eq, not_true_eq_false, not_false_eq_true, Bool.false_eq_true, tI_zI]
        | inr s =>
          rw [hx] at c50
          have c51 : CtP MP 4 50 [.ref a, .ref p] (mk E F3 G) (Sum.inl (some (.int (zI 1)))) (mk E F5 G) := c50
          show (_ : ResP) = some (Sum.inl (some (.int (zI 1))), mk E F5 G)
          refine into (D := 4) (by omega) hM_49 (rcv_mk hs (by decide)) rfl fun d hd => ?_
          show runP MP d 49 (0, [some (.ref a), some (.ref p)], [], _) = _
          rw [q_49_0]; (try simp only [↓n_rd, ↓n_cI, li_0, li_1, li_2, li_3, li_4, li_5, li_6, li_31, li_38, li_63, zI_add, zI_sub, zI_mul, zI_neg, ↓Option.bind_some]); simp (disch := (first | assumption | exact tI_rg _ | omega | exact uR_at | exact row_ne hF (by decide) | exact row_ne (row_ne hF (by decide)) (by decide) | exact SnS_18 | exact SnS_30 | exact LdS_44 | exact LdS_46)) only [q_49_63, q_49_68, y3, y1, u5, ↓ctV c1, ↓ctT g1, ↓ctV c2, ↓ctV c3, ↓ctT g2, ↓ctT c51, ↓n_rd, ↓n_cI, retZ_z, li_0, li_1, li_2, li_3, li_4, li_5, li_6, li_31, li_38, li_63, zI_add, zI_sub, zI_mul, zI_neg, ↓Option.bind_some, ↓g2_1, ↓g2_3, ↓g3_5, zIt2, uR_at, uR_ne, uR_uR, uC_uC, uC_at, ↓reduceIte, decide_eq_true_eq, leT, leF, ltT, ltF, eqT, eqF, ne_eq, not_true_eq_false, not_false_eq_true, Bool.false_eq_true, tI_zI]
      · rw [if_neg cw]
        have g2 := go_43f (G := G) hE r3 a3.1 (k := 6) (by omega) cw
        refine ⟨F3, fun d hd => ?_, r3, kk3⟩
        show (_ : ResP) = some (Sum.inl (some (.int (zI 1))), mk E F3 G)
        refine into (D := 4) (by omega) hM_49 (rcv_mk hs (by decide)) rfl fun d hd => ?_
        show runP MP d 49 (0, [some (.ref a), some (.ref p)], [], _) = _
        rw [q_49_0]; (try simp only [↓n_rd, ↓n_cI, li_0, li_1, li_2, li_3, li_4, li_5, li_6, li_31, li_38, li_63, zI_add, zI_sub, zI_mul, zI_neg, ↓Option.bind_some]); simp (disch := (first | assumption | exact tI_rg _ | omega | exact uR_at | exact row_ne hF (by decide) | exact row_ne (row_ne hF (by decide)) (by decide) | exact SnS_18 | exact SnS_30 | exact LdS_44 | exact LdS_46)) only [q_49_63, q_49_68, y3, y1, u5, ↓ctV c1, ↓ctT g1, ↓ctV c2, ↓ctV c3, ↓ctT g2, ↓n_rd, ↓n_cI, retZ_z, li_0, li_1, li_2, li_3, li_4, li_5, li_6, li_31, li_38, li_63, zI_add, zI_sub, zI_mul, zI_neg, ↓Option.bind_some, ↓g2_1, ↓g2_3, ↓g3_5, zIt2, uR_at, uR_ne, uR_uR, uC_uC, uC_at, ↓reduceIte, decide_eq_true_eq, leT, leF, ltT, ltF, eqT, eqF, ne_eq, not_true_eq_false, not_false_eq_true, Bool.false_eq_true, tI_zI]
    · rw [if_neg c]
      obtain ⟨F2, c2, r2, k2⟩ := go_45f (G := G) hE r1 a1.1 (lo := 0) (up := tI (D 1) - 1) (by omega) (by omega) c
      refine ⟨F2, fun d hd => ?_, r2, k1.tr k2⟩
      show (_ : ResP) = some (Sum.inl (some (.int (zI 0))), mk E F2 G)
      refine into (D := 4) (by omega) hM_49 (rcv_mk hs (by decide)) rfl fun d hd => ?_
      show runP MP d 49 (0, [some (.ref a), some (.ref p)], [], _) = _
      rw [q_49_0]; (try simp only [↓n_rd, ↓n_cI, li_0, li_1, li_2, li_3, li_4, li_5, li_6, li_31, li_38, li_63, zI_add, zI_sub, zI_mul, zI_neg, ↓Option.bind_some]); simp (disch := (first | assumption | exact tI_rg _ | omega | exact uR_at | exact row_ne hF (by decide) | exact row_ne (row_ne hF (by decide)) (by decide) | exact SnS_18 | exact SnS_30 | exact LdS_44 | exact LdS_46)) only [q_49_63, q_49_68, y3, y1, ↓ctV c1, ↓ctT c2, ↓n_rd, ↓n_cI, retZ_z, li_0, li_1, li_2, li_3, li_4, li_5, li_6, li_31, li_38, li_63, zI_add, zI_sub, zI_mul, zI_neg, ↓Option.bind_some, ↓g2_1, ↓g2_3, ↓g3_5, zIt2, uR_at, uR_ne, uR_uR, uC_uC, uC_at, ↓reduceIte, decide_eq_true_eq, leT, leF, ltT, ltF, eqT, eqF, ne_eq, not_true_eq_false, not_false_eq_true, Bool.false_eq_true, tI_zI]
end S94zzw
