/-! CLASS: clear, 2 -/
section S94zzzzk
set_option linter.unusedVariables false
set_option linter.unusedSimpArgs false
theorem KeepD_kp8 {E : EnQ} {F F1 : Nat → Int → Int32} {G G1 : Nat → Int → Int64} (h : kp8 F F1) (hg : ∀ q, q ≠ 189 → G1 q = G q) : KeepD E F G E F1 G1 := KeepD_FG (p := fun q => q = 178 ∨ (185 ≤ q ∧ q ≤ 188) ∨ q = 191 ∨ q = 207) (fun q hq => by unfold scrC; omega) (fun q hq => h q (by omega) (by omega) (by omega) (by omega)) (fun q h1 _ _ => hg q h1)
theorem ck_step {d : Nat} {E : EnQ} {F : Nat → Int → Int32} {G : Nat → Int → Int64} {K : Int → Int32} {pl n : Nat} {x y i c : Int} {p : List Int} (hI : InvK K) (hO : SnO E F 18 K) (hpl2 : pl = 19 ∨ 247 ≤ pl) (hpl : rfQ E 18 0 = pl) (hp0 : p ≠ []) (hn : n ≤ 5) (hl : p.length ≤ n + 1) (hv : VaP K p) (hW : WaR E F K pl n p) (hx : 0 ≤ x ∧ x < 100) (hy : y = 0 ∨ y = 1) (hi : 0 ≤ i ∧ i < 1000000) (hd : 6 ≤ d) :
    ∃ E1 F1 G1, runP MP d 167 (35, [some (.ref 16), some (.int (zI x)), some (.int (zI (n : Int))), some (.int (zI y)), some (.int (zI c)), some (.int (zI 1)), some (.int (zI i))], [], mk E F G) = runP MP d 167 (35, [some (.ref 16), some (.int (zI x)), some (.int (zI (n : Int))), some (.int (zI y)), some (.int (zI (vC K x n y p c))), some (.int (zI (if (fthZ K n p).isSome = true then 1 else 0))), some (.int (zI (i + 1)))], [], mk E1 F1 G1) ∧ KeepD E F G E1 F1 G1 ∧ rfQ E1 18 0 = pl ∧ ∀ p', fthZ K n p = some p' → WaR E1 F1 K pl n p' := by
  have hs := hO.1.1
  have hP := hO.2.1
  have hR := hO.2.2.1
  rw [hpl] at hP hR
  have hl0 := len_pos hp0
  obtain ⟨m, hm⟩ : ∃ m : Nat, m = p.length - 1 := ⟨_, rfl⟩
  have ed : tI (F 192 2) = (m : Int) := by rw [hW.2.2.1]; omega
  have go : ∀ (E2 : EnQ) (F2 : Nat → Int → Int32) (G2 : Nat → Int → Int64) (c2 : Int), KeepD E F G E2 F2 G2 → PlR F2 pl K → PlS E2 pl → WaR E2 F2 K pl n p → rfQ E2 18 0 = pl → c2 = vC K x n y p c → runP MP d 167 (35, [some (.ref 16), some (.int (zI x)), some (.int (zI (n : Int))), some (.int (zI y)), some (.int (zI c)), some (.int (zI 1)), some (.int (zI i))], [], mk E F G) = runP MP d 167 (74, [some (.ref 16), some (.int (zI x)), some (.int (zI (n : Int))), some (.int (zI y)), some (.int (zI c2)), some (.int (zI 1)), some (.int (zI i))], [], mk E2 F2 G2) →
      ∃ E1 F1 G1, runP MP d 167 (35, [some (.ref 16), some (.int (zI x)), some (.int (zI (n : Int))), some (.int (zI y)), some (.int (zI c)), some (.int (zI 1)), some (.int (zI i))], [], mk E F G) = runP MP d 167 (35, [some (.ref 16), some (.int (zI x)), some (.int (zI (n : Int))), some (.int (zI y)), some (.int (zI (vC K x n y p c))), some (.int (zI (if (fthZ K n p).isSome = true then 1 else 0))), some (.int (zI (i + 1)))], [], mk E1 F1 G1) ∧ KeepD E F G E1 F1 G1 ∧ rfQ E1 18 0 = pl ∧ ∀ p', fthZ K n p = some p' → WaR E1 F1 K pl n p' := fun E2 F2 G2 c2 k2 hR2 hP2 hW2 hq2 ec hrun => by
    obtain ⟨F3, t1, t2, t3⟩ := ct_109 (d := d) (E := E2) (F := F2) (G := G2) (most := n) hI hpl2 hP2 hp0 hl (by omega) hv hW2 hR2 (by omega)
    have c109 : ∀ {kk : Int → HeapP → ResP} {kx : Nat → HeapP → ResP}, cT (callP MP d 109 [.ref 192] (mk E2 F2 G2)) kk kx = kk (if (fthZ K n p).isSome = true then 1 else 0) (mk E2 F3 G2) := fun {kk kx} => cT_ret t1 (by split <;> omega)
    refine ⟨E2, F3, G2, hrun.trans ?_, k2.tr (KeepD_kp3 t2), hq2, t3⟩
    rw [← ec]
    clear hrun
    rw [q_167_74]; (try simp only [↓n_rd, ↓n_cI, li_0, li_1, li_2, li_4, li_5, li_10, li_13, li_124, li_167, li_168, li_1000000, zI_add, zI_sub, zI_mul, zI_neg, ↓Option.bind_some]); simp (disch := (first | assumption | exact tI_rg _ | omega | exact uR_at | exact row_ne hF (by decide) | exact row_ne (row_ne hF (by decide)) (by decide) | exact SnS_18 | exact SnS_30 | exact LdS_44 | exact LdS_46)) only [q_167_0, q_167_71, q_167_89, ↓c109, ↓n_rd, ↓n_cI, li_0, li_1, li_2, li_4, li_5, li_10, li_13, li_124, li_167, li_168, li_1000000, zI_add, zI_sub, zI_mul, zI_neg, ↓Option.bind_some, ↓g10_2, ↓g11_13, ↓g11_4, ↓g5_0, zIt2, uR_at, uR_ne, uR_uR, uC_uC, uC_at, ↓reduceIte, decide_eq_true_eq, leT, leF, ltT, ltF, eqT, eqF, ne_eq, not_true_eq_false, not_false_eq_true, Bool.false_eq_true, tI_zI]
  by_cases c1 : p.length = n + 1
  · have em : (m : Int) = (n : Int) := by omega
    by_cases c2 : y = 0
    · refine go E F G (c + 1) KeepD_rf hR hP hW hpl (by unfold vC; rw [if_pos ⟨c1, Or.inl c2⟩]) ?_
      rw [q_167_35]; (try simp only [↓n_rd, ↓n_cI, li_0, li_1, li_2, li_4, li_5, li_10, li_13, li_124, li_167, li_168, li_1000000, zI_add, zI_sub, zI_mul, zI_neg, ↓Option.bind_some]); simp (disch := (first | assumption | exact tI_rg _ | omega | exact uR_at | exact row_ne hF (by decide) | exact row_ne (row_ne hF (by decide)) (by decide) | exact SnS_18 | exact SnS_30 | exact LdS_44 | exact LdS_46)) only [q_167_0, q_167_71, q_167_89, ed, em, c2, ↓n_rd, ↓n_cI, li_0, li_1, li_2, li_4, li_5, li_10, li_13, li_124, li_167, li_168, li_1000000, zI_add, zI_sub, zI_mul, zI_neg, ↓Option.bind_some, ↓g10_2, ↓g11_13, ↓g11_4, ↓g5_0, zIt2, uR_at, uR_ne, uR_uR, uC_uC, uC_at, ↓reduceIte, decide_eq_true_eq, leT, leF, ltT, ltF, eqT, eqF, ne_eq, not_true_eq_false, not_false_eq_true, Bool.false_eq_true, tI_zI]
    · obtain ⟨F2, G2, r1, r2, r3⟩ := ct_168 (d := d) (E := E) (F := F) (G := G) (x := x) hI hpl2 hP hR hpl hs hp0 (by omega) hv hW hx (by omega)
      have c168 : ∀ {kk : Int → HeapP → ResP} {kx : Nat → HeapP → ResP}, cT (callP MP d 168 [.ref 16, .int (zI x)] (mk E F G)) kk kx = kk (if onC K x p = 1 then 1 else 0) (mk (uE E 178 0 pl) F2 G2) := fun {kk kx} => cT_ret r1 (by split <;> omega)
      have k2 : KeepD E F G (uE E 178 0 pl) F2 G2 := (KeepD_E (by omega)).tr (KeepD_kp8 r2 r3)
      have hq2 : rfQ (uE E 178 0 pl) 18 0 = pl := by show uR E.2.2.2 178 (uC (E.2.2.2 178) 0 pl) 18 0 = pl; rw [uR_ne (by decide)]; exact hpl
      have hq3 : rfQ (uE E 178 0 pl) 192 0 = rfQ E 192 0 := by show uR E.2.2.2 178 (uC (E.2.2.2 178) 0 pl) 192 0 = E.2.2.2 192 0; rw [uR_ne (by decide)]
      have hW2 : WaR (uE E 178 0 pl) F2 K pl n p := by
        have := WaR_oth (F1 := F2) (r2 192 (by decide) (by omega) (by decide) (by decide)) (r2 199 (by decide) (by omega) (by decide) (by decide)) (r2 200 (by decide) (by omega) (by decide) (by decide)) hW
        unfold WaR at this ⊢
        rw [hq3]; exact this
      have hR2 : PlR F2 pl K := PlR_move hI (fun b h1 h2 => r2 b (by omega) (by omega) (by omega) (by omega)) (fun j _ => rfl) hR
      by_cases c3 : onC K x p = 1
      · rw [c3] at c168
        refine go (uE E 178 0 pl) F2 G2 (c + 1) k2 hR2 hP hW2 hq2 (by unfold vC; rw [if_pos ⟨c1, Or.inr c3⟩]) ?_
        have h11 : (if (1 : Int) = 1 then (1 : Int) else 0) = 1 := if_pos rfl
        rw [h11] at c168
        rw [q_167_35]; (try simp only [↓n_rd, ↓n_cI, li_0, li_1, li_2, li_4, li_5, li_10, li_13, li_124, li_167, li_168, li_1000000, zI_add, zI_sub, zI_mul, zI_neg, ↓Option.bind_some]); simp (disch := (first | assumption | exact tI_rg _ | omega | exact uR_at | exact row_ne hF (by decide) | exact row_ne (row_ne hF (by decide)) (by decide) | exact SnS_18 | exact SnS_30 | exact LdS_44 | exact LdS_46)) only [q_167_0, q_167_71, q_167_89, ed, em, c2, ↓c168, ↓n_rd, ↓n_cI, li_0, li_1, li_2, li_4, li_5, li_10, li_13, li_124, li_167, li_168, li_1000000, zI_add, zI_sub, zI_mul, zI_neg, ↓Option.bind_some, ↓g10_2, ↓g11_13, ↓g11_4, ↓g5_0, zIt2, uR_at, uR_ne, uR_uR, uC_uC, uC_at, ↓reduceIte, decide_eq_true_eq, leT, leF, ltT, ltF, eqT, eqF, ne_eq, not_true_eq_false, not_false_eq_true, Bool.false_eq_true, tI_zI]
      · rw [if_neg c3] at c168
        refine go (uE E 178 0 pl) F2 G2 c k2 hR2 hP hW2 hq2 (by unfold vC; rw [if_neg (fun z => by rcases z.2 with z | z; exact c2 z; exact c3 z)]) ?_
        rw [q_167_35]; (try simp only [↓n_rd, ↓n_cI, li_0, li_1, li_2, li_4, li_5, li_10, li_13, li_124, li_167, li_168, li_1000000, zI_add, zI_sub, zI_mul, zI_neg, ↓Option.bind_some]); simp (disch := (first | assumption | exact tI_rg _ | omega | exact uR_at | exact row_ne hF (by decide) | exact row_ne (row_ne hF (by decide)) (by decide) | exact SnS_18 | exact SnS_30 | exact LdS_44 | exact LdS_46)) only [q_167_0, q_167_71, q_167_89, ed, em, c2, ↓c168, ↓n_rd, ↓n_cI, li_0, li_1, li_2, li_4, li_5, li_10, li_13, li_124, li_167, li_168, li_1000000, zI_add, zI_sub, zI_mul, zI_neg, ↓Option.bind_some, ↓g10_2, ↓g11_13, ↓g11_4, ↓g5_0, zIt2, uR_at, uR_ne, uR_uR, uC_uC, uC_at, ↓reduceIte, decide_eq_true_eq, leT, leF, ltT, ltF, eqT, eqF, ne_eq, not_true_eq_false, not_false_eq_true, Bool.false_eq_true, tI_zI]
  · have em : ¬ (m : Int) = (n : Int) := by omega
    refine go E F G c KeepD_rf hR hP hW hpl (by unfold vC; rw [if_neg (fun z => c1 z.1)]) ?_
    rw [q_167_35]; (try simp only [↓n_rd, ↓n_cI, li_0, li_1, li_2, li_4, li_5, li_10, li_13, li_124, li_167, li_168, li_1000000, zI_add, zI_sub, zI_mul, zI_neg, ↓Option.bind_some]); simp (disch := (first | assumption | exact tI_rg _ | omega | exact uR_at | exact row_ne hF (by decide) | exact row_ne (row_ne hF (by decide)) (by decide) | exact SnS_18 | exact SnS_30 | exact LdS_44 | exact LdS_46)) only [q_167_0, q_167_71, q_167_89, ed, ↓n_rd, ↓n_cI, li_0, li_1, li_2, li_4, li_5, li_10, li_13, li_124, li_167, li_168, li_1000000, zI_add, zI_sub, zI_mul, zI_neg, ↓Option.bind_some, ↓g10_2, ↓g11_13, ↓g11_4, ↓g5_0, zIt2, uR_at, uR_ne, uR_uR, uC_uC, uC_at, ↓reduceIte, decide_eq_true_eq, leT, leF, ltT, ltF, eqT, eqF, ne_eq, not_true_eq_false, not_false_eq_true, Bool.false_eq_true, tI_zI]
theorem cl_clear {d : Nat} {E : EnQ} {F : Nat → Int → Int32} {G : Nat → Int → Int64} {K : Int → Int32} (hO : SnO E F 18 K) (hD : SepP E 18) {x z y : Int} (hx : -2147483648 ≤ x ∧ x ≤ 2147483647) (hz : -2147483648 ≤ z ∧ z ≤ 2147483647) (hy : y = 0 ∨ y = 1) (hd : 6 + 1 ≤ d) : ∃ E1 F1 G1, callP MP d 167 [.ref 16, .int (zI x), .int (zI z), .int (zI y)] (mk E F G) = some (thrP [0, 2] (a_clear K x z y), mk E1 F1 G1) ∧ KeepC E F G E1 F1 G1 := by
  have hI := hO.2.2.2.2
  obtain ⟨b0, b1, b2, b3, b4, b5, b6, b7, b8, b9⟩ := hI.1
  by_cases c1 : 0 ≤ x ∧ x < tI (K 1)
  · by_cases c2 : 0 ≤ z ∧ z ≤ 5
    · obtain ⟨n, hn⟩ : ∃ n : Nat, (n : Int) = z := ⟨z.toNat, by omega⟩
      subst hn
      have ha : a_clear K x n y = (0, clN K x n y) := (if_pos c1).trans ((if_pos c2).trans (by rw [show ((n : Nat) : Int).toNat = n by omega]))
      have hs := hO.1.1
      have hpl2 : rfQ E 18 0 = 19 ∨ 247 ≤ rfQ E 18 0 := hD.2
      obtain ⟨E1, hE1⟩ : ∃ E1, E1 = uE E 192 0 (rfQ E 18 0) := ⟨_, rfl⟩
      obtain ⟨F1, hF1⟩ : ∃ F1, F1 = bgW F x n := ⟨_, rfl⟩
      have k1 : KeepD E F G E1 F1 G := by
        rw [hF1, hE1]
        exact (KeepD_E (q := 192) (k := 0) (x := rfQ E 18 0) (by omega)).tr (KeepD_kp3 kp3_bg)
      have hW0 : WaR E1 F1 K (rfQ E 18 0) n [x] := by rw [hF1, hE1]; exact WaR_bg (by omega) (by omega)
      have hpl1 : rfQ E1 18 0 = rfQ E 18 0 := by rw [hE1]; show uR E.2.2.2 192 (uC (E.2.2.2 192) 0 (rfQ E 18 0)) 18 0 = E.2.2.2 18 0; rw [uR_ne (by decide)]
      have hv0 : VaP K [x] := ⟨c1, fun z => absurd rfl z, trivial⟩
      have hbk : bkN n ≤ 600000 := by
        have : n = 0 ∨ n = 1 ∨ n = 2 ∨ n = 3 ∨ n = 4 ∨ n = 5 := by omega
        rcases this with rfl | rfl | rfl | rfl | rfl | rfl <;> decide
      have hloop := wk_run (K := K) (ρ := ResP) (by omega) (wy_self hI) (V := vC K x n y) (most := n) (B := 1000000)
        (fun i (s : EnQ × (Nat → Int → Int32) × (Nat → Int → Int64) × Int) (b : Bool) => runP MP (d - 1) 167 (35, [some (.ref 16), some (.int (zI x)), some (.int (zI (n : Int))), some (.int (zI y)), some (.int (zI s.2.2.2)), some (.int (zI (if b = true then 1 else 0))), some (.int (zI (i : Int)))], [], mk s.1 s.2.1 s.2.2.1))
        (fun s a o => KeepD E F G s.1 s.2.1 s.2.2.1 ∧ rfQ s.1 18 0 = rfQ E 18 0 ∧ s.2.2.2 = a ∧ ∀ p, o = some p → WaR s.1 s.2.1 K (rfQ E 18 0) n p)
        (fun i s a p hi hp hl hv ⟨j1, j2, j3, j4⟩ => by
          have hw := j4 p rfl
          obtain ⟨oo, dd⟩ := SnO_keep hO hD j1.c
          obtain ⟨E2, F2, G2, t1, t2, t3, t4⟩ := ck_step (d := d - 1) (E := s.1) (F := s.2.1) (G := s.2.2.1) (x := x) (y := y) (i := (i : Int)) (c := s.2.2.2) hI oo hpl2 j2 hp (by omega) hl hv hw (by omega) hy (by omega) (by omega)
          exact ⟨(E2, F2, G2, vC K x n y p s.2.2.2), ⟨j1.tr t2, t3, by rw [j3], t4⟩, t1⟩)
        n [x] 0 (E1, F1, G, 0) 0 (by intro z; cases z) (by show 1 + n = n + 1; omega) hv0 (by omega) ⟨k1, hpl1, rfl, fun p hp => by injection hp with hp; rw [← hp]; exact hW0⟩
      obtain ⟨s', j, l1, l2, ⟨i1, i2, i3, -⟩, hrun⟩ := hloop
      refine ⟨s'.1, s'.2.1, s'.2.2.1, ?_, i1.c⟩
      rw [show thrP [0, 2] (a_clear K x n y) = Sum.inl (some (.int (zI (clN K x n y)))) by rw [ha]; rfl]
      obtain ⟨e, rfl⟩ : ∃ e, d = e + 1 := ⟨d - 1, by omega⟩
      have hin : callP MP (e + 1) 167 [.ref 16, .int (zI x), .int (zI (n : Int)), .int (zI y)] (mk E F G) = runP MP e 167 (0, [some (.ref 16), some (.int (zI x)), some (.int (zI (n : Int))), some (.int (zI y)), none, none, none], [], mk E F G) := into_eq (by omega) hM_167 (rcv_mk rfl (by decide)) rfl
      have c107 : ∀ {kk : Int → HeapP → ResP} {kx : Nat → HeapP → ResP}, cT (callP MP e 107 [.ref 192, .ref (rfQ E 18 0), .int (zI x), .int (zI (n : Int))] (mk E F G)) kk kx = kk 1 (mk E1 F1 G) := fun {kk kx} => by
        rw [cc_107 (by omega) (by omega), hF1, hE1]
      have h0 : runP MP e 167 (0, [some (.ref 16), some (.int (zI x)), some (.int (zI (n : Int))), some (.int (zI y)), none, none, none], [], mk E F G) = runP MP e 167 (35, [some (.ref 16), some (.int (zI x)), some (.int (zI (n : Int))), some (.int (zI y)), some (.int (zI 0)), some (.int (zI 1)), some (.int (zI 0))], [], mk E1 F1 G) := by
        rw [q_167_0]; (try simp only [↓n_rd, ↓n_cI, li_0, li_1, li_2, li_4, li_5, li_10, li_13, li_124, li_167, li_168, li_1000000, zI_add, zI_sub, zI_mul, zI_neg, ↓Option.bind_some]); simp (disch := (first | assumption | exact tI_rg _ | omega | exact uR_at | exact row_ne hF (by decide) | exact row_ne (row_ne hF (by decide)) (by decide) | exact SnS_18 | exact SnS_30 | exact LdS_44 | exact LdS_46)) only [q_167_71, q_167_74, q_167_89, ↓cc_127t hO, ↓cc_124t, ↓c107, ↓n_rd, ↓n_cI, li_0, li_1, li_2, li_4, li_5, li_10, li_13, li_124, li_167, li_168, li_1000000, zI_add, zI_sub, zI_mul, zI_neg, ↓Option.bind_some, ↓g10_2, ↓g11_13, ↓g11_4, ↓g5_0, zIt2, uR_at, uR_ne, uR_uR, uC_uC, uC_at, ↓reduceIte, decide_eq_true_eq, leT, leF, ltT, ltF, eqT, eqF, ne_eq, not_true_eq_false, not_false_eq_true, Bool.false_eq_true, tI_zI]
      have hrun : runP MP e 167 (35, [some (.ref 16), some (.int (zI x)), some (.int (zI (n : Int))), some (.int (zI y)), some (.int (zI 0)), some (.int (zI 1)), some (.int (zI 0))], [], mk E1 F1 G) = runP MP e 167 (35, [some (.ref 16), some (.int (zI x)), some (.int (zI (n : Int))), some (.int (zI y)), some (.int (zI s'.2.2.2)), some (.int (zI 0)), some (.int (zI (j : Int)))], [], mk s'.1 s'.2.1 s'.2.2.1) := hrun
      have i3 : s'.2.2.2 = clN K x n y := i3
      rw [hin, h0, hrun, i3]
      rw [q_167_35]; (try simp only [↓n_rd, ↓n_cI, li_0, li_1, li_2, li_4, li_5, li_10, li_13, li_124, li_167, li_168, li_1000000, zI_add, zI_sub, zI_mul, zI_neg, ↓Option.bind_some]); simp (disch := (first | assumption | exact tI_rg _ | omega | exact uR_at | exact row_ne hF (by decide) | exact row_ne (row_ne hF (by decide)) (by decide) | exact SnS_18 | exact SnS_30 | exact LdS_44 | exact LdS_46)) only [q_167_0, q_167_71, q_167_74, q_167_89, ↓n_rd, ↓n_cI, li_0, li_1, li_2, li_4, li_5, li_10, li_13, li_124, li_167, li_168, li_1000000, zI_add, zI_sub, zI_mul, zI_neg, ↓Option.bind_some, ↓g10_2, ↓g11_13, ↓g11_4, ↓g5_0, zIt2, uR_at, uR_ne, uR_uR, uC_uC, uC_at, ↓reduceIte, decide_eq_true_eq, leT, leF, ltT, ltF, eqT, eqF, ne_eq, not_true_eq_false, not_false_eq_true, Bool.false_eq_true, tI_zI]
    · have ha : a_clear K x z y = (2, 0) := (if_pos c1).trans (if_neg c2)
      refine ⟨jE E, F, G, ?_, KeepC_j⟩
      rw [show thrP [0, 2] (a_clear K x z y) = Sum.inr 2 by rw [ha]; rfl]
      refine into (D := 5) (by omega) hM_167 (rcv_mk rfl (by decide)) rfl fun d hd => ?_
      show runP MP d 167 (0, [some (.ref 16), some (.int (zI x)), some (.int (zI z)), some (.int (zI y)), none, none, none], [], _) = _
      rw [q_167_0]; (try simp only [↓n_rd, ↓n_cI, li_0, li_1, li_2, li_4, li_5, li_10, li_13, li_124, li_167, li_168, li_1000000, zI_add, zI_sub, zI_mul, zI_neg, ↓Option.bind_some]); simp (disch := (first | assumption | exact tI_rg _ | omega | exact uR_at | exact row_ne hF (by decide) | exact row_ne (row_ne hF (by decide)) (by decide) | exact SnS_18 | exact SnS_30 | exact LdS_44 | exact LdS_46)) only [q_167_71, q_167_74, q_167_89, ↓cc_127t hO, ↓cc_124f, thr_eq, ↓n_rd, ↓n_cI, li_0, li_1, li_2, li_4, li_5, li_10, li_13, li_124, li_167, li_168, li_1000000, zI_add, zI_sub, zI_mul, zI_neg, ↓Option.bind_some, ↓g10_2, ↓g11_13, ↓g11_4, ↓g5_0, zIt2, uR_at, uR_ne, uR_uR, uC_uC, uC_at, ↓reduceIte, decide_eq_true_eq, leT, leF, ltT, ltF, eqT, eqF, ne_eq, not_true_eq_false, not_false_eq_true, Bool.false_eq_true, tI_zI]
  · have ha : a_clear K x z y = (1, 0) := if_neg c1
    refine ⟨jE E, F, G, ?_, KeepC_j⟩
    rw [show thrP [0, 2] (a_clear K x z y) = Sum.inr 0 by rw [ha]; rfl]
    refine into (D := 5) (by omega) hM_167 (rcv_mk rfl (by decide)) rfl fun d hd => ?_
    show runP MP d 167 (0, [some (.ref 16), some (.int (zI x)), some (.int (zI z)), some (.int (zI y)), none, none, none], [], _) = _
    rw [q_167_0]; (try simp only [↓n_rd, ↓n_cI, li_0, li_1, li_2, li_4, li_5, li_10, li_13, li_124, li_167, li_168, li_1000000, zI_add, zI_sub, zI_mul, zI_neg, ↓Option.bind_some]); simp (disch := (first | assumption | exact tI_rg _ | omega | exact uR_at | exact row_ne hF (by decide) | exact row_ne (row_ne hF (by decide)) (by decide) | exact SnS_18 | exact SnS_30 | exact LdS_44 | exact LdS_46)) only [q_167_71, q_167_74, q_167_89, ↓cc_127f hO, thr_eq, ↓n_rd, ↓n_cI, li_0, li_1, li_2, li_4, li_5, li_10, li_13, li_124, li_167, li_168, li_1000000, zI_add, zI_sub, zI_mul, zI_neg, ↓Option.bind_some, ↓g10_2, ↓g11_13, ↓g11_4, ↓g5_0, zIt2, uR_at, uR_ne, uR_uR, uC_uC, uC_at, ↓reduceIte, decide_eq_true_eq, leT, leF, ltT, ltF, eqT, eqF, ne_eq, not_true_eq_false, not_false_eq_true, Bool.false_eq_true, tI_zI]
end S94zzzzk
