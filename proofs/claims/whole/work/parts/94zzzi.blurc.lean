/-! CLASS: blur, 3 -/
section S94zzzi
set_option linter.unusedVariables false
set_option linter.unusedSimpArgs false
def bB (K : Int → Int32) (x : Int) (n : Nat) : Int × List Int := wkF K (vB K x n) n [tI (K (38 + 2 * x))] (-1, [tI (K (38 + 2 * x))])
def GdB (K : Int → Int32) (x : Int) (n : Nat) (a : Int × List Int) : Prop := (-1 ≤ a.1 ∧ a.1 ≤ 32) ∧ (0 < a.2.length ∧ a.2.length ≤ n + 1) ∧ VaP K a.2
theorem GdB_v {K : Int → Int32} (hI : InvK K) (hst : stepsZ K < 1999000000) {x : Int} (hx : 0 ≤ x ∧ x < tI (K 3)) {n : Nat} {p : List Int} {a : Int × List Int} (hp : p ≠ []) (hl : p.length ≤ n + 1) (hn : n ≤ 50) (hv : VaP K p) (hs : plZ p 0 = tI (K (38 + 2 * x))) (h : GdB K x n a) : GdB K x n (vB K x n p a) := by
  have hz := szB_rg hI hst (n := (n : Int)) hx hp (by omega) hv hs
  have hl0 : 0 < p.length := len_pos hp
  unfold vB
  split
  · exact ⟨⟨by show -1 ≤ szB K x n p; omega, by show szB K x n p ≤ 32; omega⟩, ⟨hl0, hl⟩, hv⟩
  · exact h
theorem ct_158 {d : Nat} {E : EnQ} {F : Nat → Int → Int32} {G : Nat → Int → Int64} {K : Int → Int32} {x : Int} {n : Nat} (hO : SnO E F 18 K) (hD : SepP E 18) (hst : stepsZ K < 1999000000) (hx : 0 ≤ x ∧ x < tI (K 3)) (hn : n ≤ 3) (hd : 5 ≤ d) :
    ∃ F1, callP MP d 158 [.ref 16, .int (zI x), .int (zI (n : Int))] (mk E F G) = some (Sum.inl none, mk (uE E 192 0 (rfQ E 18 0)) F1 G) ∧ KeepD E F G (uE E 192 0 (rfQ E 18 0)) F1 G ∧ GdB K x n (bB K x n) ∧ tI (F1 16 19) = (bB K x n).1 ∧ tI (F1 16 18) = (bB K x n).2.length - 1 ∧ (∀ j : Int, 0 ≤ j → j + 1 < (bB K x n).2.length → tI (F1 208 j) = plZ (bB K x n).2 (j + 1)) := by
  have hO' := hO
  obtain ⟨hS, hP, hR, hN, hI⟩ := hO
  have hs := hS.1
  obtain ⟨b0, b1, b2, b3, b4, b5, b6, b7, b8, b9⟩ := hI.1
  have e9 : F 27 x = K (38 + 2 * x) := (hN.2.2.2.2 x hx.1 (by omega)).1
  have hst0 := (hI.2.2.1 x hx.1 (by omega)).2.2.2.2.2 hx.2
  obtain ⟨s0, hs0⟩ : ∃ s0, s0 = tI (K (38 + 2 * x)) := ⟨_, rfl⟩
  obtain ⟨E1, hE1⟩ : ∃ E1, E1 = uE E 192 0 (rfQ E 18 0) := ⟨_, rfl⟩
  obtain ⟨F0, hF0⟩ : ∃ F0, F0 = bgW (uR F 16 (uC (uC (F 16) 19 (zI (-1))) 18 (zI 0))) s0 n := ⟨_, rfl⟩
  have k1 : KeepD E F G E1 F0 G := by
    rw [hF0, hE1]
    have a1 := KeepD_16 (E := E) (F := F) (G := G) (k := 19) (x := zI (-1)) (Or.inr rfl)
    have a2 := KeepD_16 (E := E) (F := uR F 16 (uC (F 16) 19 (zI (-1)))) (G := G) (k := 18) (x := zI 0) (Or.inl rfl)
    rw [uR_uR, uR_at] at a2
    exact ((a1.tr a2).tr (KeepD_E (q := 192) (k := 0) (x := rfQ E 18 0) (by omega))).tr (KeepD_kp3 kp3_bg)
  obtain ⟨hO1, hD1⟩ := SnO_keep hO' hD k1.c
  have hpl1 : rfQ E1 18 0 = rfQ E 18 0 := by rw [hE1]; show uR E.2.2.2 192 (uC (E.2.2.2 192) 0 (rfQ E 18 0)) 18 0 = E.2.2.2 18 0; rw [uR_ne (by decide)]
  have g16 : F0 16 = uC (uC (F 16) 19 (zI (-1))) 18 (zI 0) := by rw [hF0, kp3_bg 16 (by decide) (by decide) (by decide), uR_at]
  have hW0 : WaR E1 F0 K (rfQ E 18 0) n [s0] := by rw [hF0, hE1]; exact WaR_bg (by omega) (by omega)
  have hv0 : VaP K [s0] := ⟨by omega, fun z => absurd rfl z, trivial⟩
  have hr0 : plZ [s0] 0 = tI (K (38 + 2 * x)) := plZ_one.trans hs0
  have hloop := wk_run (K := K) (ρ := ResP) (by omega) (wy_self hI) (V := vB K x n) (most := n) (B := 1000000)
    (fun i (s : (Nat → Int → Int32) × Option Value × Option Value × Option Value) (b : Bool) => runP MP (d - 1) 158 (41, [some (.ref 16), some (.int (zI x)), some (.int (zI (n : Int))), some (.int (zI (tI (K (38 + 2 * x))))), some (.int (zI (if b = true then 1 else 0))), some (.int (zI (i : Int))), s.2.1, s.2.2.1, s.2.2.2], [], mk E1 s.1 G))
    (fun s a o => KeepD E F G E1 s.1 G ∧ GdB K x n a ∧ tI (s.1 16 19) = a.1 ∧ tI (s.1 16 18) = a.2.length - 1 ∧ (∀ j : Int, 0 ≤ j → j + 1 < a.2.length → tI (s.1 208 j) = plZ a.2 (j + 1)) ∧ ∀ p, o = some p → WaR E1 s.1 K (rfQ E 18 0) n p ∧ plZ p 0 = tI (K (38 + 2 * x)))
    (fun i s a p hi hp hl hv ⟨j1, j2, j3, j4, j5, j6⟩ => by
      obtain ⟨hw, hr⟩ := j6 p rfl
      obtain ⟨oo, dd⟩ := SnO_keep hO' hD j1.c
      obtain ⟨F1, y6, y7, y8, q1, q2, q3, q4, q5, q6⟩ := bl_step (d := d - 1) (G := G) (x := x) (i := (i : Int)) (z6 := s.2.1) (z7 := s.2.2.1) (z8 := s.2.2.2) (a := a) oo dd hpl1 hst hx hn (by omega) hp hl hv hr hw j2.1 (by have := j2.2.1; omega) j3 j4 j5 (by omega)
      exact ⟨(F1, y6, y7, y8), ⟨j1.tr q2, GdB_v hI hst hx hp hl (by omega) hv hr j2, q4, q5, q6, fun p' hp' => ⟨q3 p' hp', (fth_root hp').trans hr⟩⟩, q1⟩)
    n [s0] 0 (F0, none, none, none) (-1, [s0]) (by intro z; cases z) (by show 1 + n = n + 1; omega) hv0 (by
      have h3 : bkN n ≤ 1000000 := by
        have : n = 0 ∨ n = 1 ∨ n = 2 ∨ n = 3 := by omega
        rcases this with rfl | rfl | rfl | rfl <;> decide
      omega) ⟨k1, ⟨⟨by show (-1 : Int) ≤ -1; omega, by show (-1 : Int) ≤ 32; omega⟩, ⟨by show 0 < 1; omega, by show 1 ≤ n + 1; omega⟩, hv0⟩, by show tI (F0 16 19) = -1; rw [g16, uC_ne (by decide), uC_at]; exact tI_zI (by omega), by show tI (F0 16 18) = 1 - 1; rw [g16, uC_at]; exact tI_zI (by omega), fun j h1 h2 => by exfalso; have h2 : j + 1 < 1 := h2; omega, fun p hp => by injection hp with hp; rw [← hp]; exact ⟨hW0, hr0⟩⟩
  obtain ⟨s', j, l1, l2, ⟨i1, i2, i3, i4, i5, -⟩, hrun⟩ := hloop
  have eB : wkF K (vB K x n) n [s0] (-1, [s0]) = bB K x n := by unfold bB; rw [hs0]
  rw [eB] at i2 i3 i4 i5
  have ec : clmZ K [s0] = none := rfl
  rw [ec] at hrun
  refine ⟨s'.1, ?_, ?_, i2, i3, i4, i5⟩
  · rw [← hE1]
    obtain ⟨e, rfl⟩ : ∃ e, d = e + 1 := ⟨d - 1, by omega⟩
    have hin : callP MP (e + 1) 158 [.ref 16, .int (zI x), .int (zI (n : Int))] (mk E F G) = runP MP e 158 (0, [some (.ref 16), some (.int (zI x)), some (.int (zI (n : Int))), none, none, none, none, none, none], [], mk E F G) := into_eq (by omega) hM_158 (rcv_mk rfl (by decide)) rfl
    rw [hin]
    have c107 : ∀ {kk : Int → HeapP → ResP} {kx : Nat → HeapP → ResP}, cT (callP MP e 107 [.ref 192, .ref (rfQ E 18 0), .int (zI (tI (K (38 + 2 * x)))), .int (zI (n : Int))] (mk E (uR F 16 (uC (uC (F 16) 19 (zI (-1))) 18 (zI 0))) G)) kk kx = kk 1 (mk E1 F0 G) := fun {kk kx} => by
      rw [cc_107 (by omega) (by omega), hF0, hE1, hs0]
    have hbk : bkN n ≤ 820 := by
      have : n = 0 ∨ n = 1 ∨ n = 2 ∨ n = 3 := by omega
      rcases this with rfl | rfl | rfl | rfl <;> decide
    have hrun : runP MP e 158 (41, [some (.ref 16), some (.int (zI x)), some (.int (zI (n : Int))), some (.int (zI (tI (K (38 + 2 * x))))), some (.int (zI 1)), some (.int (zI 0)), none, none, none], [], mk E1 F0 G) = runP MP e 158 (41, [some (.ref 16), some (.int (zI x)), some (.int (zI (n : Int))), some (.int (zI (tI (K (38 + 2 * x))))), some (.int (zI 0)), some (.int (zI (j : Int))), s'.2.1, s'.2.2.1, s'.2.2.2], [], mk E1 s'.1 G) := hrun
    have hend : runP MP e 158 (41, [some (.ref 16), some (.int (zI x)), some (.int (zI (n : Int))), some (.int (zI (tI (K (38 + 2 * x))))), some (.int (zI 0)), some (.int (zI (j : Int))), s'.2.1, s'.2.2.1, s'.2.2.2], [], mk E1 s'.1 G) = some (Sum.inl none, mk E1 s'.1 G) := by
      rw [q_158_41]; (try simp only [↓n_rd, ↓n_al, ↓n_cI, li_0, li_1, li_2, li_4, li_5, li_7, li_8, li_10, li_13, li_20, li_1000000, zI_add, zI_sub, zI_mul, zI_neg, ↓Option.bind_some]); simp (disch := (first | assumption | exact tI_rg _ | omega | exact uR_at | exact row_ne hF (by decide) | exact row_ne (row_ne hF (by decide)) (by decide) | exact SnS_18 | exact SnS_30 | exact LdS_44 | exact LdS_46)) only [q_158_0, q_158_164, q_158_187, q_158_202, ↓n_rd, ↓n_al, ↓n_cI, li_0, li_1, li_2, li_4, li_5, li_7, li_8, li_10, li_13, li_20, li_1000000, zI_add, zI_sub, zI_mul, zI_neg, ↓Option.bind_some, ↓g10_2, ↓g11_13, ↓g11_17, ↓g11_18, ↓g11_19, ↓g11_4, ↓g11_8, ↓g5_0, ↓g5_1, ↓g5_2, ↓g5_7, ↓SnS_l9, ↓SnS_s9, ↓p11_18, ↓p11_19, ↓al_208, ↓as_208, zIt2, uR_at, uR_ne, uR_uR, uC_uC, uC_at, ↓reduceIte, decide_eq_true_eq, leT, leF, ltT, ltF, eqT, eqF, ne_eq, not_true_eq_false, not_false_eq_true, Bool.false_eq_true, tI_zI]
    rw [← hend, ← hrun]
    rw [q_158_0]; (try simp only [↓n_rd, ↓n_al, ↓n_cI, li_0, li_1, li_2, li_4, li_5, li_7, li_8, li_10, li_13, li_20, li_1000000, zI_add, zI_sub, zI_mul, zI_neg, ↓Option.bind_some]); simp (disch := (first | assumption | exact tI_rg _ | omega | exact uR_at | exact row_ne hF (by decide) | exact row_ne (row_ne hF (by decide)) (by decide) | exact SnS_18 | exact SnS_30 | exact LdS_44 | exact LdS_46)) only [q_158_164, q_158_187, q_158_202, e9, ↓c107, ↓n_rd, ↓n_al, ↓n_cI, li_0, li_1, li_2, li_4, li_5, li_7, li_8, li_10, li_13, li_20, li_1000000, zI_add, zI_sub, zI_mul, zI_neg, ↓Option.bind_some, ↓g10_2, ↓g11_13, ↓g11_17, ↓g11_18, ↓g11_19, ↓g11_4, ↓g11_8, ↓g5_0, ↓g5_1, ↓g5_2, ↓g5_7, ↓SnS_l9, ↓SnS_s9, ↓p11_18, ↓p11_19, ↓al_208, ↓as_208, zIt2, uR_at, uR_ne, uR_uR, uC_uC, uC_at, ↓reduceIte, decide_eq_true_eq, leT, leF, ltT, ltF, eqT, eqF, ne_eq, not_true_eq_false, not_false_eq_true, Bool.false_eq_true, tI_zI]
  · rw [← hE1]; exact i1
def a_blur (K : Int → Int32) (x y z : Int) : Int × Int := if 0 ≤ x ∧ x < tI (K 3) then (if (0 ≤ y ∧ y ≤ 3) ∧ (z = 0 ∨ z = 1 ∨ (10 ≤ z ∧ z ≤ 12)) then (0, if z = 0 then (bB K x y.toNat).1 else if z = 1 then (bB K x y.toNat).2.length - 1 else if z - 10 < (bB K x y.toNat).2.length - 1 then plZ (bB K x y.toNat).2 (z - 9) else -1) else (2, 0)) else (1, 0)
theorem cl_blur {d : Nat} {E : EnQ} {F : Nat → Int → Int32} {G : Nat → Int → Int64} {K : Int → Int32} (hO : SnO E F 18 K) (hD : SepP E 18) (hst : stepsZ K < 1999000000) {x y z : Int} (hx : -2147483648 ≤ x ∧ x ≤ 2147483647) (hy : -2147483648 ≤ y ∧ y ≤ 2147483647) (hz : -2147483648 ≤ z ∧ z ≤ 2147483647) (hd : 6 ≤ d) : ∃ E1 F1, callP MP d 157 [.ref 16, .int (zI x), .int (zI y), .int (zI z)] (mk E F G) = some (thrP [0, 2] (a_blur K x y z), mk E1 F1 G) ∧ KeepC E F G E1 F1 G := by
  by_cases c1 : 0 ≤ x ∧ x < tI (K 3)
  · by_cases c2 : 0 ≤ y ∧ y ≤ 3
    · by_cases c3 : z = 0 ∨ z = 1 ∨ (10 ≤ z ∧ z ≤ 12)
      · obtain ⟨F1, r1, r2, r3, r4, r5, r6⟩ := ct_158 (d := d - 1) (G := G) (n := y.toNat) hO hD hst c1 (by omega) (by omega)
        rw [show ((y.toNat : Nat) : Int) = y by omega] at r1
        refine ⟨uE E 192 0 (rfQ E 18 0), F1, ?_, r2.c⟩
        have hb := hO.2.2.2.2.1.2.1
        have ha : a_blur K x y z = (0, if z = 0 then (bB K x y.toNat).1 else if z = 1 then (bB K x y.toNat).2.length - 1 else if z - 10 < (bB K x y.toNat).2.length - 1 then plZ (bB K x y.toNat).2 (z - 9) else -1) := (if_pos c1).trans (if_pos ⟨c2, c3⟩)
        rw [show thrP [0, 2] (a_blur K x y z) = Sum.inl (some (.int (zI (if z = 0 then (bB K x y.toNat).1 else if z = 1 then (bB K x y.toNat).2.length - 1 else if z - 10 < (bB K x y.toNat).2.length - 1 then plZ (bB K x y.toNat).2 (z - 9) else -1)))) by rw [ha]; rfl]
        obtain ⟨e, rfl⟩ : ∃ e, d = e + 1 := ⟨d - 1, by omega⟩
        have hin : callP MP (e + 1) 157 [.ref 16, .int (zI x), .int (zI y), .int (zI z)] (mk E F G) = runP MP e 157 (0, [some (.ref 16), some (.int (zI x)), some (.int (zI y)), some (.int (zI z))], [], mk E F G) := into_eq (by omega) hM_157 (rcv_mk rfl (by decide)) rfl
        have r1 : callP MP e 158 [.ref 16, .int (zI x), .int (zI y)] (mk E F G) = some (Sum.inl none, mk (uE E 192 0 (rfQ E 18 0)) F1 G) := r1
        have c158 : ∀ {kk : HeapP → ResP} {kx : Nat → HeapP → ResP}, cV (callP MP e 158 [.ref 16, .int (zI x), .int (zI y)] (mk E F G)) kk kx = kk (mk (uE E 192 0 (rfQ E 18 0)) F1 G) := fun {kk kx} => cV_ret r1
        rw [hin]
        rcases c3 with c3 | c3 | c3
        · rw [if_pos c3]
          rw [q_157_0]; (try simp only [↓n_rd, ↓n_al, li_0, li_1, li_3, li_10, li_12, li_124, li_129, zI_add, zI_sub, zI_mul, zI_neg, ↓Option.bind_some]); simp (disch := (first | assumption | exact tI_rg _ | omega | exact uR_at | exact row_ne hF (by decide) | exact row_ne (row_ne hF (by decide)) (by decide) | exact SnS_18 | exact SnS_30 | exact LdS_44 | exact LdS_46)) only [q_157_28, q_157_77, ↓cc_129t hO, ↓cc_124t, ↓c158, c3, r4, ↓n_rd, ↓n_al, li_0, li_1, li_3, li_10, li_12, li_124, li_129, zI_add, zI_sub, zI_mul, zI_neg, ↓Option.bind_some, ↓g11_17, ↓g11_18, ↓g11_19, ↓al_208, ↓as_208, zIt2, uR_at, uR_ne, uR_uR, uC_uC, uC_at, ↓reduceIte, decide_eq_true_eq, leT, leF, ltT, ltF, eqT, eqF, ne_eq, not_true_eq_false, not_false_eq_true, Bool.false_eq_true, tI_zI]
        · rw [if_neg (by omega), if_pos c3]
          rw [q_157_0]; (try simp only [↓n_rd, ↓n_al, li_0, li_1, li_3, li_10, li_12, li_124, li_129, zI_add, zI_sub, zI_mul, zI_neg, ↓Option.bind_some]); simp (disch := (first | assumption | exact tI_rg _ | omega | exact uR_at | exact row_ne hF (by decide) | exact row_ne (row_ne hF (by decide)) (by decide) | exact SnS_18 | exact SnS_30 | exact LdS_44 | exact LdS_46)) only [q_157_28, q_157_77, ↓cc_129t hO, ↓cc_124t, ↓c158, c3, r5, ↓n_rd, ↓n_al, li_0, li_1, li_3, li_10, li_12, li_124, li_129, zI_add, zI_sub, zI_mul, zI_neg, ↓Option.bind_some, ↓g11_17, ↓g11_18, ↓g11_19, ↓al_208, ↓as_208, zIt2, uR_at, uR_ne, uR_uR, uC_uC, uC_at, ↓reduceIte, decide_eq_true_eq, leT, leF, ltT, ltF, eqT, eqF, ne_eq, not_true_eq_false, not_false_eq_true, Bool.false_eq_true, tI_zI]
        · rw [if_neg (by omega), if_neg (by omega)]
          have hlen := r3.2.1
          by_cases c4 : z - 10 < (bB K x y.toNat).2.length - 1
          · rw [if_pos c4]
            have r7 := r6 (z - 10) (by omega) (by omega)
            rw [show z - 10 + 1 = z - 9 by omega] at r7
            rw [q_157_0]; (try simp only [↓n_rd, ↓n_al, li_0, li_1, li_3, li_10, li_12, li_124, li_129, zI_add, zI_sub, zI_mul, zI_neg, ↓Option.bind_some]); simp (disch := (first | assumption | exact tI_rg _ | omega | exact uR_at | exact row_ne hF (by decide) | exact row_ne (row_ne hF (by decide)) (by decide) | exact SnS_18 | exact SnS_30 | exact LdS_44 | exact LdS_46)) only [q_157_28, q_157_77, ↓cc_129t hO, ↓cc_124t, ↓c158, r5, r7, ↓n_rd, ↓n_al, li_0, li_1, li_3, li_10, li_12, li_124, li_129, zI_add, zI_sub, zI_mul, zI_neg, ↓Option.bind_some, ↓g11_17, ↓g11_18, ↓g11_19, ↓al_208, ↓as_208, zIt2, uR_at, uR_ne, uR_uR, uC_uC, uC_at, ↓reduceIte, decide_eq_true_eq, leT, leF, ltT, ltF, eqT, eqF, ne_eq, not_true_eq_false, not_false_eq_true, Bool.false_eq_true, tI_zI]
          · rw [if_neg c4]
            rw [q_157_0]; (try simp only [↓n_rd, ↓n_al, li_0, li_1, li_3, li_10, li_12, li_124, li_129, zI_add, zI_sub, zI_mul, zI_neg, ↓Option.bind_some]); simp (disch := (first | assumption | exact tI_rg _ | omega | exact uR_at | exact row_ne hF (by decide) | exact row_ne (row_ne hF (by decide)) (by decide) | exact SnS_18 | exact SnS_30 | exact LdS_44 | exact LdS_46)) only [q_157_28, q_157_77, ↓cc_129t hO, ↓cc_124t, ↓c158, r5, ↓n_rd, ↓n_al, li_0, li_1, li_3, li_10, li_12, li_124, li_129, zI_add, zI_sub, zI_mul, zI_neg, ↓Option.bind_some, ↓g11_17, ↓g11_18, ↓g11_19, ↓al_208, ↓as_208, zIt2, uR_at, uR_ne, uR_uR, uC_uC, uC_at, ↓reduceIte, decide_eq_true_eq, leT, leF, ltT, ltF, eqT, eqF, ne_eq, not_true_eq_false, not_false_eq_true, Bool.false_eq_true, tI_zI]
      · have ha : a_blur K x y z = (2, 0) := (if_pos c1).trans (if_neg (fun h => c3 h.2))
        refine ⟨jE E, F, ?_, KeepC_j⟩
        rw [show thrP [0, 2] (a_blur K x y z) = Sum.inr 2 by rw [ha]; rfl]
        have d0 : z ≠ 0 := fun h => c3 (Or.inl h)
        have d1 : z ≠ 1 := fun h => c3 (Or.inr (Or.inl h))
        have d2 : ¬ (10 ≤ z ∧ z ≤ 12) := fun h => c3 (Or.inr (Or.inr h))
        refine into (D := 5) (by omega) hM_157 (rcv_mk rfl (by decide)) rfl fun d hd => ?_
        show runP MP d 157 (0, [some (.ref 16), some (.int (zI x)), some (.int (zI y)), some (.int (zI z))], [], _) = _
        rw [q_157_0]; (try simp only [↓n_rd, ↓n_al, li_0, li_1, li_3, li_10, li_12, li_124, li_129, zI_add, zI_sub, zI_mul, zI_neg, ↓Option.bind_some]); simp (disch := (first | assumption | exact tI_rg _ | omega | exact uR_at | exact row_ne hF (by decide) | exact row_ne (row_ne hF (by decide)) (by decide) | exact SnS_18 | exact SnS_30 | exact LdS_44 | exact LdS_46)) only [q_157_28, q_157_77, ↓cc_129t hO, ↓cc_124t, ↓cc_124f, thr_eq, ↓n_rd, ↓n_al, li_0, li_1, li_3, li_10, li_12, li_124, li_129, zI_add, zI_sub, zI_mul, zI_neg, ↓Option.bind_some, ↓g11_17, ↓g11_18, ↓g11_19, ↓al_208, ↓as_208, zIt2, uR_at, uR_ne, uR_uR, uC_uC, uC_at, ↓reduceIte, decide_eq_true_eq, leT, leF, ltT, ltF, eqT, eqF, ne_eq, not_true_eq_false, not_false_eq_true, Bool.false_eq_true, tI_zI]
    · have ha : a_blur K x y z = (2, 0) := (if_pos c1).trans (if_neg (fun h => c2 h.1))
      refine ⟨jE E, F, ?_, KeepC_j⟩
      rw [show thrP [0, 2] (a_blur K x y z) = Sum.inr 2 by rw [ha]; rfl]
      refine into (D := 5) (by omega) hM_157 (rcv_mk rfl (by decide)) rfl fun d hd => ?_
      show runP MP d 157 (0, [some (.ref 16), some (.int (zI x)), some (.int (zI y)), some (.int (zI z))], [], _) = _
      rw [q_157_0]; (try simp only [↓n_rd, ↓n_al, li_0, li_1, li_3, li_10, li_12, li_124, li_129, zI_add, zI_sub, zI_mul, zI_neg, ↓Option.bind_some]); simp (disch := (first | assumption | exact tI_rg _ | omega | exact uR_at | exact row_ne hF (by decide) | exact row_ne (row_ne hF (by decide)) (by decide) | exact SnS_18 | exact SnS_30 | exact LdS_44 | exact LdS_46)) only [q_157_28, q_157_77, ↓cc_129t hO, ↓cc_124f, thr_eq, ↓n_rd, ↓n_al, li_0, li_1, li_3, li_10, li_12, li_124, li_129, zI_add, zI_sub, zI_mul, zI_neg, ↓Option.bind_some, ↓g11_17, ↓g11_18, ↓g11_19, ↓al_208, ↓as_208, zIt2, uR_at, uR_ne, uR_uR, uC_uC, uC_at, ↓reduceIte, decide_eq_true_eq, leT, leF, ltT, ltF, eqT, eqF, ne_eq, not_true_eq_false, not_false_eq_true, Bool.false_eq_true, tI_zI]
  · have ha : a_blur K x y z = (1, 0) := if_neg c1
    refine ⟨jE E, F, ?_, KeepC_j⟩
    rw [show thrP [0, 2] (a_blur K x y z) = Sum.inr 0 by rw [ha]; rfl]
    refine into (D := 5) (by omega) hM_157 (rcv_mk rfl (by decide)) rfl fun d hd => ?_
    show runP MP d 157 (0, [some (.ref 16), some (.int (zI x)), some (.int (zI y)), some (.int (zI z))], [], _) = _
    rw [q_157_0]; (try simp only [↓n_rd, ↓n_al, li_0, li_1, li_3, li_10, li_12, li_124, li_129, zI_add, zI_sub, zI_mul, zI_neg, ↓Option.bind_some]); simp (disch := (first | assumption | exact tI_rg _ | omega | exact uR_at | exact row_ne hF (by decide) | exact row_ne (row_ne hF (by decide)) (by decide) | exact SnS_18 | exact SnS_30 | exact LdS_44 | exact LdS_46)) only [q_157_28, q_157_77, ↓cc_129f hO, thr_eq, ↓n_rd, ↓n_al, li_0, li_1, li_3, li_10, li_12, li_124, li_129, zI_add, zI_sub, zI_mul, zI_neg, ↓Option.bind_some, ↓g11_17, ↓g11_18, ↓g11_19, ↓al_208, ↓as_208, zIt2, uR_at, uR_ne, uR_uR, uC_uC, uC_at, ↓reduceIte, decide_eq_true_eq, leT, leF, ltT, ltF, eqT, eqF, ne_eq, not_true_eq_false, not_false_eq_true, Bool.false_eq_true, tI_zI]
end S94zzzi
