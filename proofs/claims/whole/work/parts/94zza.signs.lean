/-! CLASS: writes, pens, patrol, tends, crowd, lasts -/
section S94zza
set_option linter.unusedVariables false
set_option linter.unusedSimpArgs false
theorem KeepD_sc {E : EnQ} {F : Nat → Int → Int32} {G : Nat → Int → Int64} {r c : Int → Int32} : KeepD E F G E (scF F r c) G :=
  (KeepD_F (q := 202) (by unfold scrC; omega)).tr (KeepD_F (q := 201) (by unfold scrC; omega))
theorem KeepD_cc {E : EnQ} {F : Nat → Int → Int32} {G : Nat → Int → Int64} {q r : Int → Int32} : KeepD E F G E (ccF F q r) G :=
  (KeepD_F (q := 204) (by unfold scrC; omega)).tr (KeepD_F (q := 203) (by unfold scrC; omega))
theorem KeepD.j {E E1 : EnQ} {F F1 : Nat → Int → Int32} {G G1 : Nat → Int → Int64} (h : KeepD E F G E1 F1 G1) : KeepC E F G (jE E1) F1 G1 := by
  obtain ⟨a1, a2, a3, a4, a5, a6, a7⟩ := h
  exact ⟨a1, a2, a3, a4, a5, ⟨by show E.1 ≤ E1.1 + 1; omega, by show E1.1 + 1 ≤ E.1 + 1; omega⟩, ⟨by show E.2.1 ≤ E1.2.1 + 6; omega, by show E1.2.1 + 6 ≤ E.2.1 + 6; omega⟩⟩
theorem SgC_cc {F : Nat → Int → Int32} {S : SgS} {q r : Int → Int32} (h : SgC F S) : SgC (ccF F q r) S := by
  refine ⟨?_, ?_, fun w w0 w1 => ?_⟩
  · rw [ccF_ne (by decide) (by decide)]; exact h.1
  · rw [ccF_ne (by decide) (by decide)]; exact h.2.1
  · rw [ccF_ne (by decide) (by decide)]; exact h.2.2 w w0 w1
theorem ct_171 {d : Nat} {E : EnQ} {F : Nat → Int → Int32} {G : Nat → Int → Int64} {K : Int → Int32} (hO : SnO E F 18 K) (hD : SepP E 18) (hT : TrR E F G) {x : Int} (hx : 0 ≤ x ∧ x < 4) (hm : tI (F 243 x) ≠ -1) (hd : 3 ≤ d) :
    ∃ r c, (sgZ F G K x = 0 ∧ callP MP d 171 [.ref 16, .ref (trH x)] (mk E F G) = some (Sum.inl none, mk E (scF F r c) G) ∧ SgC (scF F r c) (toS F G x)) ∨ (sgZ F G K x = 3 ∧ callP MP d 171 [.ref 16, .ref (trH x)] (mk E F G) = some (Sum.inr 2, mk (jE E) (scF F r c) G)) := by
  obtain ⟨q1, q2, q3, q4, q5, q6⟩ := TrR_x hT hx
  have ht : TrS E (trH x) := TrS_x hx
  have q3' : tI (F (trH x) 1) = tdM F x := by rw [q3]; unfold tdM; omega
  have hm30 : tdM F x ≤ 30 := by unfold tdM; omega
  have htf : tfZ F x = 0 := (if_pos hx).trans (if_neg hm)
  have hI := hO.2.2.2.2
  have hs := hO.1.1
  obtain ⟨e, rfl⟩ : ∃ e, d = e + 1 := ⟨d - 1, by omega⟩
  have hin : callP MP (e + 1) 171 [.ref 16, .ref (trH x)] (mk E F G) = runP MP e 171 (0, [some (.ref 16), some (.ref (trH x))], [], mk E F G) := into_eq (by omega) hM_171 (rcv_mk rfl (by decide)) rfl
  have htr : trH x = 209 + 2 * x.toNat := rfl
  obtain ⟨r, c, r1, r2⟩ := ct_55 (d := e) (E := E) (F := F) (G := G) (A := tnZ G x) (m := tdM F x) hO.2.2.1 hI hO.2.1 (by have := hD.2; omega) ht (by omega) q3' hm30 (fun i hi => by rw [q6 (i : Int) (by omega) (by omega)]; rfl) (by omega)
  refine ⟨r, c, ?_⟩
  by_cases g : fndN (sgB (tnZ G x) (2 * tI (K 2))) (tdM F x) 0 = -1
  · rw [if_pos g] at r1
    left
    refine ⟨by unfold sgZ; rw [if_pos htf, if_pos g], ?_, r2 g⟩
    have c55 : ∀ {kk : Int → HeapP → ResP} {kx : Nat → HeapP → ResP}, cT (callP MP e 55 [.ref 201, .ref (rfQ E 18 0), .ref (trH x)] (mk E F G)) kk kx = kk 1 (mk E (scF F r c) G) := fun {kk kx} => cT_ret r1 (by omega)
    rw [hin]
    rw [q_171_0]; (try simp only [↓n_cI, li_0, li_1, li_2, li_4, li_5, li_6, li_14, zI_add, zI_sub, zI_mul, zI_neg, ↓Option.bind_some]); simp (disch := (first | assumption | exact tI_rg _ | omega | exact uR_at | exact row_ne hF (by decide) | exact row_ne (row_ne hF (by decide)) (by decide) | exact SnS_18 | exact SnS_30 | exact LdS_44 | exact LdS_46)) only [↓c55, ↓n_cI, jnk_mk, li_0, li_1, li_2, li_4, li_5, li_6, li_14, zI_add, zI_sub, zI_mul, zI_neg, ↓Option.bind_some, ↓g11_14, ↓g11_4, ↓g5_0, zIt2, uR_at, uR_ne, uR_uR, uC_uC, uC_at, ↓reduceIte, decide_eq_true_eq, leT, leF, ltT, ltF, eqT, eqF, ne_eq, not_true_eq_false, not_false_eq_true, Bool.false_eq_true, tI_zI]
  · rw [if_neg g] at r1
    right
    refine ⟨by unfold sgZ; rw [if_pos htf, if_neg g], ?_⟩
    have c55 : ∀ {kk : Int → HeapP → ResP} {kx : Nat → HeapP → ResP}, cT (callP MP e 55 [.ref 201, .ref (rfQ E 18 0), .ref (trH x)] (mk E F G)) kk kx = kk 0 (mk E (scF F r c) G) := fun {kk kx} => cT_ret r1 (by omega)
    rw [hin]
    rw [q_171_0]; (try simp only [↓n_cI, li_0, li_1, li_2, li_4, li_5, li_6, li_14, zI_add, zI_sub, zI_mul, zI_neg, ↓Option.bind_some]); simp (disch := (first | assumption | exact tI_rg _ | omega | exact uR_at | exact row_ne hF (by decide) | exact row_ne (row_ne hF (by decide)) (by decide) | exact SnS_18 | exact SnS_30 | exact LdS_44 | exact LdS_46)) only [↓c55, ↓n_cI, jnk_mk, li_0, li_1, li_2, li_4, li_5, li_6, li_14, zI_add, zI_sub, zI_mul, zI_neg, ↓Option.bind_some, ↓g11_14, ↓g11_4, ↓g5_0, zIt2, uR_at, uR_ne, uR_uR, uC_uC, uC_at, ↓reduceIte, decide_eq_true_eq, leT, leF, ltT, ltF, eqT, eqF, ne_eq, not_true_eq_false, not_false_eq_true, Bool.false_eq_true, tI_zI]
theorem ct_172 {d : Nat} {E : EnQ} {F : Nat → Int → Int32} {G : Nat → Int → Int64} {K : Int → Int32} {S : SgS} (hO : SnO E F 18 K) (hD : SepP E 18) (hC : SgC F S) (hS : SgI (2 * tI (K 2)) S) {p : Nat} (hp : (p : Int) < tI (K 1)) (hd : 5 ≤ d) : ∃ q r, callP MP d 172 [.ref 16, .int (zI (p : Int))] (mk E F G) = some (Sum.inl (some (.int (zI (wtZ K S p)))), mk E (ccF F q r) G) := by
  have hI := hO.2.2.2.2
  have hs := hO.1.1
  have hb1 := hI.1.2.1
  obtain ⟨e, rfl⟩ : ∃ e, d = e + 1 := ⟨d - 1, by omega⟩
  have hin : callP MP (e + 1) 172 [.ref 16, .int (zI (p : Int))] (mk E F G) = runP MP e 172 (0, [some (.ref 16), some (.int (zI (p : Int))), none], [], mk E F G) := into_eq (by omega) hM_172 (rcv_mk rfl (by decide)) rfl
  obtain ⟨e, rfl⟩ : ∃ e', e = e' + 1 := ⟨e - 1, by omega⟩
  obtain ⟨q, r, r1⟩ := ct_57 (d := e) (E := E) (G := G) hO.2.2.1 hI hO.2.1 (by have := hD.2; omega) hC hS hp (Or.inl rfl) (by omega)
  have hcr := cres_rg (wy := wyK K) (al := sgA S (1 - 0)) (bt := sgT S) (sgT_lt hS.1) (n := (tI (K 1)).toNat) (by omega) (show 256 * p < 2560 by omega) (goN S.1 p 0)
  have c57 : ∀ {kk : Int → HeapP → ResP} {kx : Nat → HeapP → ResP}, cT (callP MP e 57 [.ref 201, .ref (rfQ E 18 0), .int (zI (p : Int)), .int (zI 0)] (mk E F G)) kk kx = kk (cres (wyK K) (sgA S (1 - 0)) (sgT S) (tI (K 1)).toNat (256 * p) (goN S.1 p 0)) (mk E (ccF F q r) G) := fun {kk kx} => cT_ret r1 (by omega)
  have r56 : callP MP (e + 1) 56 [.ref 201, .ref (rfQ E 18 0), .int (zI (p : Int))] (mk E F G) = some (Sum.inl (some (.int (zI (cres (wyK K) (sgA S (1 - 0)) (sgT S) (tI (K 1)).toNat (256 * p) (goN S.1 p 0))))), mk E (ccF F q r) G) := by
    rw [into_eq (by omega) hM_56 (rcv_mk (show shx E 201 = (1, 4, 0) from rfl) (by decide)) rfl]
    show runP MP e 56 (0, [some (.ref 201), some (.ref (rfQ E 18 0)), some (.int (zI (p : Int)))], [], mk E F G) = _
    rw [q_56_0]; (try simp only [↓n_cI, li_0, li_57, zI_add, zI_sub, zI_mul, zI_neg, ↓Option.bind_some]); simp (disch := (first | assumption | exact tI_rg _ | omega | exact uR_at | exact row_ne hF (by decide) | exact row_ne (row_ne hF (by decide)) (by decide) | exact SnS_18 | exact SnS_30 | exact LdS_44 | exact LdS_46)) only [↓c57, ↓n_cI, li_0, li_57, zI_add, zI_sub, zI_mul, zI_neg, ↓Option.bind_some, zIt2, uR_at, uR_ne, uR_uR, uC_uC, uC_at, ↓reduceIte, decide_eq_true_eq, leT, leF, ltT, ltF, eqT, eqF, ne_eq, not_true_eq_false, not_false_eq_true, Bool.false_eq_true, tI_zI]
  have c56 : ∀ {kk : Int → HeapP → ResP} {kx : Nat → HeapP → ResP}, cT (callP MP (e + 1) 56 [.ref 201, .ref (rfQ E 18 0), .int (zI (p : Int))] (mk E F G)) kk kx = kk (cres (wyK K) (sgA S (1 - 0)) (sgT S) (tI (K 1)).toNat (256 * p) (goN S.1 p 0)) (mk E (ccF F q r) G) := fun {kk kx} => cT_ret r56 (by omega)
  have hO2 := (SnO_keep hO hD (KeepD_cc (E := E) (G := G) (q := q) (r := r)).c).1
  have e1 : tI (ccF F q r 18 1) = tI (K 4) := by rw [hO2.2.2.2.1.1.1]
  have e1b : tI (F 18 1) = tI (K 4) := by rw [hO.2.2.2.1.1.1]
  have hb4 := hI.1.2.2.2.2.1
  refine ⟨q, r, ?_⟩
  rw [hin]
  unfold wtZ
  have ez : (1 : Int) - 0 = 1 := rfl
  rw [ez] at c56 hcr
  generalize cres (wyK K) (sgA S 1) (sgT S) (tI (K 1)).toNat (256 * p) (goN S.1 p 0) = v9 at *
  by_cases g : v9 ≤ tI (K 4)
  · rw [if_pos g]
    rw [q_172_0]; (try simp only [↓n_rd, ↓n_cI, li_0, li_1, li_4, li_5, li_14, li_32, zI_add, zI_sub, zI_mul, zI_neg, ↓Option.bind_some]); simp (disch := (first | assumption | exact tI_rg _ | omega | exact uR_at | exact row_ne hF (by decide) | exact row_ne (row_ne hF (by decide)) (by decide) | exact SnS_18 | exact SnS_30 | exact LdS_44 | exact LdS_46)) only [q_172_32, ↓c56, e1, e1b, ↓n_rd, ↓n_cI, li_0, li_1, li_4, li_5, li_14, li_32, zI_add, zI_sub, zI_mul, zI_neg, ↓Option.bind_some, ↓g11_14, ↓g11_4, ↓g5_0, ↓g5_1, zIt2, uR_at, uR_ne, uR_uR, uC_uC, uC_at, ↓reduceIte, decide_eq_true_eq, leT, leF, ltT, ltF, eqT, eqF, ne_eq, not_true_eq_false, not_false_eq_true, Bool.false_eq_true, tI_zI]
  · rw [if_neg g]
    rw [q_172_0]; (try simp only [↓n_rd, ↓n_cI, li_0, li_1, li_4, li_5, li_14, li_32, zI_add, zI_sub, zI_mul, zI_neg, ↓Option.bind_some]); simp (disch := (first | assumption | exact tI_rg _ | omega | exact uR_at | exact row_ne hF (by decide) | exact row_ne (row_ne hF (by decide)) (by decide) | exact SnS_18 | exact SnS_30 | exact LdS_44 | exact LdS_46)) only [q_172_32, ↓c56, e1, e1b, ↓n_rd, ↓n_cI, li_0, li_1, li_4, li_5, li_14, li_32, zI_add, zI_sub, zI_mul, zI_neg, ↓Option.bind_some, ↓g11_14, ↓g11_4, ↓g5_0, ↓g5_1, zIt2, uR_at, uR_ne, uR_uR, uC_uC, uC_at, ↓reduceIte, decide_eq_true_eq, leT, leF, ltT, ltF, eqT, eqF, ne_eq, not_true_eq_false, not_false_eq_true, Bool.false_eq_true, tI_zI]
theorem ct_58 {d : Nat} {E : EnQ} {F : Nat → Int → Int32} {G : Nat → Int → Int64} {K : Int → Int32} {S : SgS} (hO : SnO E F 18 K) (hD : SepP E 18) (hC : SgC F S) (hS : SgI (2 * tI (K 2)) S) (hd : 4 ≤ d) : ∃ q r, callP MP d 58 [.ref 201, .ref (rfQ E 18 0)] (mk E F G) = some (Sum.inl (some (.int (zI (paZ K S)))), mk E (ccF F q r) G) := by
  have hI := hO.2.2.2.2
  have hb1 := hI.1.2.1
  have hb2 := hI.1.2.2.1
  obtain ⟨e, rfl⟩ : ∃ e, d = e + 1 := ⟨d - 1, by omega⟩
  have hin : callP MP (e + 1) 58 [.ref 201, .ref (rfQ E 18 0)] (mk E F G) = runP MP e 58 (0, [some (.ref 201), some (.ref (rfQ E 18 0))], [], mk E F G) := into_eq (by omega) hM_58 (rcv_mk rfl (by decide)) rfl
  by_cases g0 : S.1 = 0
  · refine ⟨F 204, F 203, ?_⟩
    have e2 : tI (F 201 2) = -1 := by rw [hC.2.1]; unfold sgF1; rw [if_pos g0]; exact tI_zI (by omega)
    rw [ccF_0, show paZ K S = 0 from if_pos g0, hin]
    rw [q_58_0]; (try simp only [↓n_rd, ↓n_cI, li_0, li_1, li_2, li_4, li_57, zI_add, zI_sub, zI_mul, zI_neg, ↓Option.bind_some]); simp (disch := (first | assumption | exact tI_rg _ | omega | exact uR_at | exact row_ne hF (by decide) | exact row_ne (row_ne hF (by decide)) (by decide) | exact SnS_18 | exact SnS_30 | exact LdS_44 | exact LdS_46)) only [q_58_26, e2, ↓n_rd, ↓n_cI, li_0, li_1, li_2, li_4, li_57, zI_add, zI_sub, zI_mul, zI_neg, ↓Option.bind_some, ↓g4_2, zIt2, uR_at, uR_ne, uR_uR, uC_uC, uC_at, ↓reduceIte, decide_eq_true_eq, leT, leF, ltT, ltF, eqT, eqF, ne_eq, not_true_eq_false, not_false_eq_true, Bool.false_eq_true, tI_zI]
  · have h20 := hS.2.1 0 (by omega)
    have hfr := from_in hI h20
    have e2 : tI (F 201 2) = S.2 0 := by rw [hC.2.1]; unfold sgF1; rw [if_neg g0]; exact tI_zI (by omega)
    have hfp : ((fpN K S : Nat) : Int) = fromZ K (S.2 0) := by unfold fpN; omega
    obtain ⟨q, r, r1⟩ := ct_57 (d := e) (E := E) (G := G) (p := fpN K S) hO.2.2.1 hI hO.2.1 (by have := hD.2; omega) hC hS (by omega) (Or.inr rfl) (by omega)
    have hpr := paZ_rg hI hS
    have epa : paZ K S = cres (wyK K) (sgA S (1 - 1)) (sgT S) (tI (K 1)).toNat (256 * fpN K S) (goN S.1 (fpN K S) 1) := if_neg g0
    rw [← epa, hfp] at r1
    have c57 : ∀ {kk : Int → HeapP → ResP} {kx : Nat → HeapP → ResP}, cT (callP MP e 57 [.ref 201, .ref (rfQ E 18 0), .int (zI (fromZ K (S.2 0))), .int (zI 1)] (mk E F G)) kk kx = kk (paZ K S) (mk E (ccF F q r) G) := fun {kk kx} => cT_ret r1 (by omega)
    have c28 : ∀ {kk : Int → HeapP → ResP} {kx : Nat → HeapP → ResP}, cT (callP MP e 28 [.ref (rfQ E 18 0), .int (zI (S.2 0))] (mk E F G)) kk kx = kk (fromZ K (S.2 0)) (mk E F G) := fun {kk kx} => cc_28 hO.2.2.1 hI hO.2.1 h20 (by omega)
    refine ⟨q, r, ?_⟩
    rw [hin]
    rw [q_58_0]; (try simp only [↓n_rd, ↓n_cI, li_0, li_1, li_2, li_4, li_57, zI_add, zI_sub, zI_mul, zI_neg, ↓Option.bind_some]); simp (disch := (first | assumption | exact tI_rg _ | omega | exact uR_at | exact row_ne hF (by decide) | exact row_ne (row_ne hF (by decide)) (by decide) | exact SnS_18 | exact SnS_30 | exact LdS_44 | exact LdS_46)) only [q_58_26, e2, ↓c28, ↓c57, ↓n_rd, ↓n_cI, li_0, li_1, li_2, li_4, li_57, zI_add, zI_sub, zI_mul, zI_neg, ↓Option.bind_some, ↓g4_2, zIt2, uR_at, uR_ne, uR_uR, uC_uC, uC_at, ↓reduceIte, decide_eq_true_eq, leT, leF, ltT, ltF, eqT, eqF, ne_eq, not_true_eq_false, not_false_eq_true, Bool.false_eq_true, tI_zI]
theorem cl_patrol {d : Nat} {E : EnQ} {F : Nat → Int → Int32} {G : Nat → Int → Int64} {K : Int → Int32} (hO : SnO E F 18 K) (hD : SepP E 18) (hT : TrR E F G) {x : Int} (hx : -2147483648 ≤ x ∧ x ≤ 2147483647) (hd : 5 ≤ d) : ∃ E1 F1, callP MP d 174 [.ref 16, .int (zI x)] (mk E F G) = some (thrP [0, 1, 2] (a_patrol F G K x), mk E1 F1 G) ∧ KeepC E F G E1 F1 G := by
  have hI := hO.2.2.2.2
  have hs := hO.1.1
  have hb1 := hI.1.2.1
  have hb2 := hI.1.2.2.1
  have hb4 := hI.1.2.2.2.2.1
  have hb5 := hI.1.2.2.2.2.2.1
  by_cases c1 : 0 ≤ x ∧ x < 4
  · by_cases c2 : tI (F 243 x) = -1
    · have hz : sgZ F G K x = 2 := by unfold sgZ; rw [show tfZ F x = 2 from (if_pos c1).trans (if_pos c2)]; rfl
      have ha : a_patrol F G K x = (2, 0) := by unfold a_patrol;  rw [sgC2_n (by omega), hz]
      rw [ha]
      refine ⟨jE E, F, ?_, KeepC_j⟩
      show (_ : ResP) = some (Sum.inr 1, mk (jE E) F G)
      refine into (D := 4) (by omega) hM_174 (rcv_mk rfl (by decide)) rfl fun d hd => ?_
      show runP MP d 174 (0, [some (.ref 16), some (.int (zI x))], [], _) = _
      rw [q_174_0]; (try simp only [↓n_cI, li_0, li_4, li_5, li_14, zI_add, zI_sub, zI_mul, zI_neg, ↓Option.bind_some]); simp (disch := (first | assumption | exact tI_rg _ | omega | exact uR_at | exact row_ne hF (by decide) | exact row_ne (row_ne hF (by decide)) (by decide) | exact SnS_18 | exact SnS_30 | exact LdS_44 | exact LdS_46)) only [↓cc_137m hT, thr_eq, ↓n_cI, li_0, li_4, li_5, li_14, zI_add, zI_sub, zI_mul, zI_neg, ↓Option.bind_some, ↓g11_14, ↓g11_4, ↓g5_0, zIt2, uR_at, uR_ne, uR_uR, uC_uC, uC_at, ↓reduceIte, decide_eq_true_eq, leT, leF, ltT, ltF, eqT, eqF, ne_eq, not_true_eq_false, not_false_eq_true, Bool.false_eq_true, tI_zI]
    · obtain ⟨e, rfl⟩ : ∃ e, d = e + 1 := ⟨d - 1, by omega⟩
      have hin : callP MP (e + 1) 174 [.ref 16, .int (zI x)] (mk E F G) = runP MP e 174 (0, [some (.ref 16), some (.int (zI x))], [], mk E F G) := into_eq (by omega) hM_174 (rcv_mk rfl (by decide)) rfl
      obtain ⟨r, c, hh⟩ := ct_171 (d := e) hO hD hT c1 c2 (by omega)
      rcases hh with ⟨h0, h1, h2⟩ | ⟨h0, h1⟩
      · obtain ⟨-, -, -, hS⟩ := sgZ_0 h0
        have hS : SgI (2 * tI (K 2)) (toS F G x) := hS
        obtain ⟨hO2, hD2⟩ := SnO_keep hO hD (KeepD_sc (E := E) (F := F) (G := G) (r := r) (c := c)).c
        have c171 : ∀ {kk : HeapP → ResP} {kx : Nat → HeapP → ResP}, cV (callP MP e 171 [.ref 16, .ref (trH x)] (mk E F G)) kk kx = kk (mk E (scF F r c) G) := fun {kk kx} => cV_ret h1
        obtain ⟨q, r', p1⟩ := ct_58 (d := e) (G := G) hO2 hD2 h2 hS (by omega)
        have hpr := paZ_rg hI hS
        have c58 : ∀ {kk : Int → HeapP → ResP} {kx : Nat → HeapP → ResP}, cT (callP MP e 58 [.ref 201, .ref (rfQ E 18 0)] (mk E (scF F r c) G)) kk kx = kk (paZ K (toS F G x)) (mk E (ccF (scF F r c) q r') G) := fun {kk kx} => cT_ret p1 (by omega)
        obtain ⟨hO3, hD3⟩ := SnO_keep hO2 hD2 (KeepD_cc (E := E) (F := scF F r c) (G := G) (q := q) (r := r')).c
        have e1 : tI (ccF (scF F r c) q r' 18 1) = tI (K 4) := by rw [hO3.2.2.2.1.1.1]
        have e1b : tI (F 18 1) = tI (K 4) := by rw [hO.2.2.2.1.1.1]
        have ha : a_patrol F G K x = (0, paZ K (toS F G x)) := sgC2_0 h0
        rw [ha]
        refine ⟨E, ccF (scF F r c) q r', ?_, (KeepD_sc.tr KeepD_cc).c⟩
        show (_ : ResP) = some (Sum.inl (some (.int (zI (paZ K (toS F G x))))), _)
        rw [hin]
        rw [q_174_0]; (try simp only [↓n_cI, li_0, li_4, li_5, li_14, zI_add, zI_sub, zI_mul, zI_neg, ↓Option.bind_some]); simp (disch := (first | assumption | exact tI_rg _ | omega | exact uR_at | exact row_ne hF (by decide) | exact row_ne (row_ne hF (by decide)) (by decide) | exact SnS_18 | exact SnS_30 | exact LdS_44 | exact LdS_46)) only [↓cc_137t hT, ↓c171, ↓c58, ↓n_cI, li_0, li_4, li_5, li_14, zI_add, zI_sub, zI_mul, zI_neg, ↓Option.bind_some, ↓g11_14, ↓g11_4, ↓g5_0, zIt2, uR_at, uR_ne, uR_uR, uC_uC, uC_at, ↓reduceIte, decide_eq_true_eq, leT, leF, ltT, ltF, eqT, eqF, ne_eq, not_true_eq_false, not_false_eq_true, Bool.false_eq_true, tI_zI]
      · have ha : a_patrol F G K x = (3, 0) := by unfold a_patrol;  rw [sgC2_n (by omega), h0]
        have c171 : ∀ {kk : HeapP → ResP} {kx : Nat → HeapP → ResP}, cV (callP MP e 171 [.ref 16, .ref (trH x)] (mk E F G)) kk kx = kx 2 (mk (jE E) (scF F r c) G) := fun {kk kx} => cV_thr h1
        rw [ha]
        refine ⟨jE E, scF F r c, ?_, KeepD_sc.j⟩
        show (_ : ResP) = some (Sum.inr 2, mk (jE E) (scF F r c) G)
        rw [hin]
        rw [q_174_0]; (try simp only [↓n_cI, li_0, li_4, li_5, li_14, zI_add, zI_sub, zI_mul, zI_neg, ↓Option.bind_some]); simp (disch := (first | assumption | exact tI_rg _ | omega | exact uR_at | exact row_ne hF (by decide) | exact row_ne (row_ne hF (by decide)) (by decide) | exact SnS_18 | exact SnS_30 | exact LdS_44 | exact LdS_46)) only [↓cc_137t hT, ↓c171, thr_eq, ↓n_cI, li_0, li_4, li_5, li_14, zI_add, zI_sub, zI_mul, zI_neg, ↓Option.bind_some, ↓g11_14, ↓g11_4, ↓g5_0, zIt2, uR_at, uR_ne, uR_uR, uC_uC, uC_at, ↓reduceIte, decide_eq_true_eq, leT, leF, ltT, ltF, eqT, eqF, ne_eq, not_true_eq_false, not_false_eq_true, Bool.false_eq_true, tI_zI]
  · have hz : sgZ F G K x = 1 := by unfold sgZ; rw [show tfZ F x = 1 from if_neg c1]; rfl
    have ha : a_patrol F G K x = (1, 0) := by unfold a_patrol;  rw [sgC2_n (by omega), hz]
    rw [ha]
    refine ⟨jE E, F, ?_, KeepC_j⟩
    show (_ : ResP) = some (Sum.inr 0, mk (jE E) F G)
    refine into (D := 4) (by omega) hM_174 (rcv_mk rfl (by decide)) rfl fun d hd => ?_
    show runP MP d 174 (0, [some (.ref 16), some (.int (zI x))], [], _) = _
    rw [q_174_0]; (try simp only [↓n_cI, li_0, li_4, li_5, li_14, zI_add, zI_sub, zI_mul, zI_neg, ↓Option.bind_some]); simp (disch := (first | assumption | exact tI_rg _ | omega | exact uR_at | exact row_ne hF (by decide) | exact row_ne (row_ne hF (by decide)) (by decide) | exact SnS_18 | exact SnS_30 | exact LdS_44 | exact LdS_46)) only [↓cc_137f, thr_eq, ↓n_cI, li_0, li_4, li_5, li_14, zI_add, zI_sub, zI_mul, zI_neg, ↓Option.bind_some, ↓g11_14, ↓g11_4, ↓g5_0, zIt2, uR_at, uR_ne, uR_uR, uC_uC, uC_at, ↓reduceIte, decide_eq_true_eq, leT, leF, ltT, ltF, eqT, eqF, ne_eq, not_true_eq_false, not_false_eq_true, Bool.false_eq_true, tI_zI]
theorem cl_tends {d : Nat} {E : EnQ} {F : Nat → Int → Int32} {G : Nat → Int → Int64} {K : Int → Int32} (hO : SnO E F 18 K) (hD : SepP E 18) (hT : TrR E F G) {x : Int} (hx : -2147483648 ≤ x ∧ x ≤ 2147483647) (hd : 5 ≤ d) : ∃ E1 F1, callP MP d 175 [.ref 16, .int (zI x)] (mk E F G) = some (thrP [0, 1, 2] (a_tends F G K x), mk E1 F1 G) ∧ KeepC E F G E1 F1 G := by
  have hI := hO.2.2.2.2
  have hs := hO.1.1
  have hb1 := hI.1.2.1
  have hb2 := hI.1.2.2.1
  have hb4 := hI.1.2.2.2.2.1
  have hb5 := hI.1.2.2.2.2.2.1
  by_cases c1 : 0 ≤ x ∧ x < 4
  · by_cases c2 : tI (F 243 x) = -1
    · have hz : sgZ F G K x = 2 := by unfold sgZ; rw [show tfZ F x = 2 from (if_pos c1).trans (if_pos c2)]; rfl
      have ha : a_tends F G K x = (2, 0) := by unfold a_tends;  rw [sgC2_n (by omega), hz]
      rw [ha]
      refine ⟨jE E, F, ?_, KeepC_j⟩
      show (_ : ResP) = some (Sum.inr 1, mk (jE E) F G)
      refine into (D := 4) (by omega) hM_175 (rcv_mk rfl (by decide)) rfl fun d hd => ?_
      show runP MP d 175 (0, [some (.ref 16), some (.int (zI x)), none], [], _) = _
      rw [q_175_0]; (try simp only [↓n_rd, ↓n_cI, li_0, li_1, li_4, li_5, li_14, zI_add, zI_sub, zI_mul, zI_neg, ↓Option.bind_some]); simp (disch := (first | assumption | exact tI_rg _ | omega | exact uR_at | exact row_ne hF (by decide) | exact row_ne (row_ne hF (by decide)) (by decide) | exact SnS_18 | exact SnS_30 | exact LdS_44 | exact LdS_46)) only [q_175_44, q_175_45, ↓cc_137m hT, thr_eq, ↓n_rd, ↓n_cI, retZ_z, li_0, li_1, li_4, li_5, li_14, zI_add, zI_sub, zI_mul, zI_neg, ↓Option.bind_some, ↓g11_14, ↓g11_4, ↓g5_0, ↓g5_1, zIt2, uR_at, uR_ne, uR_uR, uC_uC, uC_at, ↓reduceIte, decide_eq_true_eq, leT, leF, ltT, ltF, eqT, eqF, ne_eq, not_true_eq_false, not_false_eq_true, Bool.false_eq_true, tI_zI]
    · obtain ⟨e, rfl⟩ : ∃ e, d = e + 1 := ⟨d - 1, by omega⟩
      have hin : callP MP (e + 1) 175 [.ref 16, .int (zI x)] (mk E F G) = runP MP e 175 (0, [some (.ref 16), some (.int (zI x)), none], [], mk E F G) := into_eq (by omega) hM_175 (rcv_mk rfl (by decide)) rfl
      obtain ⟨r, c, hh⟩ := ct_171 (d := e) hO hD hT c1 c2 (by omega)
      rcases hh with ⟨h0, h1, h2⟩ | ⟨h0, h1⟩
      · obtain ⟨-, -, -, hS⟩ := sgZ_0 h0
        have hS : SgI (2 * tI (K 2)) (toS F G x) := hS
        obtain ⟨hO2, hD2⟩ := SnO_keep hO hD (KeepD_sc (E := E) (F := F) (G := G) (r := r) (c := c)).c
        have c171 : ∀ {kk : HeapP → ResP} {kx : Nat → HeapP → ResP}, cV (callP MP e 171 [.ref 16, .ref (trH x)] (mk E F G)) kk kx = kk (mk E (scF F r c) G) := fun {kk kx} => cV_ret h1
        obtain ⟨q, r', p1⟩ := ct_58 (d := e) (G := G) hO2 hD2 h2 hS (by omega)
        have hpr := paZ_rg hI hS
        have c58 : ∀ {kk : Int → HeapP → ResP} {kx : Nat → HeapP → ResP}, cT (callP MP e 58 [.ref 201, .ref (rfQ E 18 0)] (mk E (scF F r c) G)) kk kx = kk (paZ K (toS F G x)) (mk E (ccF (scF F r c) q r') G) := fun {kk kx} => cT_ret p1 (by omega)
        obtain ⟨hO3, hD3⟩ := SnO_keep hO2 hD2 (KeepD_cc (E := E) (F := scF F r c) (G := G) (q := q) (r := r')).c
        have e1 : tI (ccF (scF F r c) q r' 18 1) = tI (K 4) := by rw [hO3.2.2.2.1.1.1]
        have e1b : tI (F 18 1) = tI (K 4) := by rw [hO.2.2.2.1.1.1]
        have ha : a_tends F G K x = (0, tdZ K (toS F G x)) := sgC2_0 h0
        rw [ha]
        refine ⟨E, ccF (scF F r c) q r', ?_, (KeepD_sc.tr KeepD_cc).c⟩
        show (_ : ResP) = some (Sum.inl (some (.int (zI (tdZ K (toS F G x))))), _)
        rw [hin]
        unfold tdZ
        by_cases g1 : paZ K (toS F G x) = -1
        · rw [if_neg (fun z => z.1 g1)]
          rw [q_175_0]; (try simp only [↓n_rd, ↓n_cI, li_0, li_1, li_4, li_5, li_14, zI_add, zI_sub, zI_mul, zI_neg, ↓Option.bind_some]); simp (disch := (first | assumption | exact tI_rg _ | omega | exact uR_at | exact row_ne hF (by decide) | exact row_ne (row_ne hF (by decide)) (by decide) | exact SnS_18 | exact SnS_30 | exact LdS_44 | exact LdS_46)) only [q_175_44, q_175_45, ↓cc_137t hT, ↓c171, ↓c58, g1, ↓n_rd, ↓n_cI, retZ_z, li_0, li_1, li_4, li_5, li_14, zI_add, zI_sub, zI_mul, zI_neg, ↓Option.bind_some, ↓g11_14, ↓g11_4, ↓g5_0, ↓g5_1, zIt2, uR_at, uR_ne, uR_uR, uC_uC, uC_at, ↓reduceIte, decide_eq_true_eq, leT, leF, ltT, ltF, eqT, eqF, ne_eq, not_true_eq_false, not_false_eq_true, Bool.false_eq_true, tI_zI]
        · by_cases g2 : paZ K (toS F G x) ≤ tI (K 4)
          · rw [if_pos ⟨g1, g2⟩]
            rw [q_175_0]; (try simp only [↓n_rd, ↓n_cI, li_0, li_1, li_4, li_5, li_14, zI_add, zI_sub, zI_mul, zI_neg, ↓Option.bind_some]); simp (disch := (first | assumption | exact tI_rg _ | omega | exact uR_at | exact row_ne hF (by decide) | exact row_ne (row_ne hF (by decide)) (by decide) | exact SnS_18 | exact SnS_30 | exact LdS_44 | exact LdS_46)) only [q_175_44, q_175_45, ↓cc_137t hT, ↓c171, ↓c58, e1, e1b, ↓n_rd, ↓n_cI, retZ_z, li_0, li_1, li_4, li_5, li_14, zI_add, zI_sub, zI_mul, zI_neg, ↓Option.bind_some, ↓g11_14, ↓g11_4, ↓g5_0, ↓g5_1, zIt2, uR_at, uR_ne, uR_uR, uC_uC, uC_at, ↓reduceIte, decide_eq_true_eq, leT, leF, ltT, ltF, eqT, eqF, ne_eq, not_true_eq_false, not_false_eq_true, Bool.false_eq_true, tI_zI]
          · rw [if_neg (fun z => g2 z.2)]
            rw [q_175_0]; (try simp only [↓n_rd, ↓n_cI, li_0, li_1, li_4, li_5, li_14, zI_add, zI_sub, zI_mul, zI_neg, ↓Option.bind_some]); simp (disch := (first | assumption | exact tI_rg _ | omega | exact uR_at | exact row_ne hF (by decide) | exact row_ne (row_ne hF (by decide)) (by decide) | exact SnS_18 | exact SnS_30 | exact LdS_44 | exact LdS_46)) only [q_175_44, q_175_45, ↓cc_137t hT, ↓c171, ↓c58, e1, e1b, ↓n_rd, ↓n_cI, retZ_z, li_0, li_1, li_4, li_5, li_14, zI_add, zI_sub, zI_mul, zI_neg, ↓Option.bind_some, ↓g11_14, ↓g11_4, ↓g5_0, ↓g5_1, zIt2, uR_at, uR_ne, uR_uR, uC_uC, uC_at, ↓reduceIte, decide_eq_true_eq, leT, leF, ltT, ltF, eqT, eqF, ne_eq, not_true_eq_false, not_false_eq_true, Bool.false_eq_true, tI_zI]
      · have ha : a_tends F G K x = (3, 0) := by unfold a_tends;  rw [sgC2_n (by omega), h0]
        have c171 : ∀ {kk : HeapP → ResP} {kx : Nat → HeapP → ResP}, cV (callP MP e 171 [.ref 16, .ref (trH x)] (mk E F G)) kk kx = kx 2 (mk (jE E) (scF F r c) G) := fun {kk kx} => cV_thr h1
        rw [ha]
        refine ⟨jE E, scF F r c, ?_, KeepD_sc.j⟩
        show (_ : ResP) = some (Sum.inr 2, mk (jE E) (scF F r c) G)
        rw [hin]
        rw [q_175_0]; (try simp only [↓n_rd, ↓n_cI, li_0, li_1, li_4, li_5, li_14, zI_add, zI_sub, zI_mul, zI_neg, ↓Option.bind_some]); simp (disch := (first | assumption | exact tI_rg _ | omega | exact uR_at | exact row_ne hF (by decide) | exact row_ne (row_ne hF (by decide)) (by decide) | exact SnS_18 | exact SnS_30 | exact LdS_44 | exact LdS_46)) only [q_175_44, q_175_45, ↓cc_137t hT, ↓c171, thr_eq, ↓n_rd, ↓n_cI, retZ_z, li_0, li_1, li_4, li_5, li_14, zI_add, zI_sub, zI_mul, zI_neg, ↓Option.bind_some, ↓g11_14, ↓g11_4, ↓g5_0, ↓g5_1, zIt2, uR_at, uR_ne, uR_uR, uC_uC, uC_at, ↓reduceIte, decide_eq_true_eq, leT, leF, ltT, ltF, eqT, eqF, ne_eq, not_true_eq_false, not_false_eq_true, Bool.false_eq_true, tI_zI]
  · have hz : sgZ F G K x = 1 := by unfold sgZ; rw [show tfZ F x = 1 from if_neg c1]; rfl
    have ha : a_tends F G K x = (1, 0) := by unfold a_tends;  rw [sgC2_n (by omega), hz]
    rw [ha]
    refine ⟨jE E, F, ?_, KeepC_j⟩
    show (_ : ResP) = some (Sum.inr 0, mk (jE E) F G)
    refine into (D := 4) (by omega) hM_175 (rcv_mk rfl (by decide)) rfl fun d hd => ?_
    show runP MP d 175 (0, [some (.ref 16), some (.int (zI x)), none], [], _) = _
    rw [q_175_0]; (try simp only [↓n_rd, ↓n_cI, li_0, li_1, li_4, li_5, li_14, zI_add, zI_sub, zI_mul, zI_neg, ↓Option.bind_some]); simp (disch := (first | assumption | exact tI_rg _ | omega | exact uR_at | exact row_ne hF (by decide) | exact row_ne (row_ne hF (by decide)) (by decide) | exact SnS_18 | exact SnS_30 | exact LdS_44 | exact LdS_46)) only [q_175_44, q_175_45, ↓cc_137f, thr_eq, ↓n_rd, ↓n_cI, retZ_z, li_0, li_1, li_4, li_5, li_14, zI_add, zI_sub, zI_mul, zI_neg, ↓Option.bind_some, ↓g11_14, ↓g11_4, ↓g5_0, ↓g5_1, zIt2, uR_at, uR_ne, uR_uR, uC_uC, uC_at, ↓reduceIte, decide_eq_true_eq, leT, leF, ltT, ltF, eqT, eqF, ne_eq, not_true_eq_false, not_false_eq_true, Bool.false_eq_true, tI_zI]
theorem cl_crowd {d : Nat} {E : EnQ} {F : Nat → Int → Int32} {G : Nat → Int → Int64} {K : Int → Int32} (hO : SnO E F 18 K) (hD : SepP E 18) (hT : TrR E F G) {x : Int} (hx : -2147483648 ≤ x ∧ x ≤ 2147483647) (hd : 5 ≤ d) : ∃ E1 F1, callP MP d 176 [.ref 16, .int (zI x)] (mk E F G) = some (thrP [0, 1, 2] (a_crowd F G K x), mk E1 F1 G) ∧ KeepC E F G E1 F1 G := by
  have hI := hO.2.2.2.2
  have hs := hO.1.1
  have hb1 := hI.1.2.1
  have hb2 := hI.1.2.2.1
  have hb4 := hI.1.2.2.2.2.1
  have hb5 := hI.1.2.2.2.2.2.1
  by_cases c1 : 0 ≤ x ∧ x < 4
  · by_cases c2 : tI (F 243 x) = -1
    · have hz : sgZ F G K x = 2 := by unfold sgZ; rw [show tfZ F x = 2 from (if_pos c1).trans (if_pos c2)]; rfl
      have ha : a_crowd F G K x = (2, 0) := by unfold a_crowd;  rw [sgC2_n (by omega), hz]
      rw [ha]
      refine ⟨jE E, F, ?_, KeepC_j⟩
      show (_ : ResP) = some (Sum.inr 1, mk (jE E) F G)
      refine into (D := 4) (by omega) hM_176 (rcv_mk rfl (by decide)) rfl fun d hd => ?_
      show runP MP d 176 (0, [some (.ref 16), some (.int (zI x)), none], [], _) = _
      rw [q_176_0]; (try simp only [↓n_rd, ↓n_idiv, ↓n_cI, li_0, li_1, li_4, li_5, li_14, li_60, zI_add, zI_sub, zI_mul, zI_neg, ↓Option.bind_some]); simp (disch := (first | assumption | exact tI_rg _ | omega | exact uR_at | exact row_ne hF (by decide) | exact row_ne (row_ne hF (by decide)) (by decide) | exact SnS_18 | exact SnS_30 | exact LdS_44 | exact LdS_46)) only [q_176_40, ↓cc_137m hT, thr_eq, ↓n_rd, ↓n_idiv, ↓n_cI, ↓b_idiv, li_0, li_1, li_4, li_5, li_14, li_60, zI_add, zI_sub, zI_mul, zI_neg, ↓Option.bind_some, ↓g11_14, ↓g11_4, ↓g5_0, ↓g5_1, zIt2, uR_at, uR_ne, uR_uR, uC_uC, uC_at, ↓reduceIte, decide_eq_true_eq, leT, leF, ltT, ltF, eqT, eqF, ne_eq, not_true_eq_false, not_false_eq_true, Bool.false_eq_true, tI_zI]
    · obtain ⟨e, rfl⟩ : ∃ e, d = e + 1 := ⟨d - 1, by omega⟩
      have hin : callP MP (e + 1) 176 [.ref 16, .int (zI x)] (mk E F G) = runP MP e 176 (0, [some (.ref 16), some (.int (zI x)), none], [], mk E F G) := into_eq (by omega) hM_176 (rcv_mk rfl (by decide)) rfl
      obtain ⟨r, c, hh⟩ := ct_171 (d := e) hO hD hT c1 c2 (by omega)
      rcases hh with ⟨h0, h1, h2⟩ | ⟨h0, h1⟩
      · obtain ⟨-, -, -, hS⟩ := sgZ_0 h0
        have hS : SgI (2 * tI (K 2)) (toS F G x) := hS
        obtain ⟨hO2, hD2⟩ := SnO_keep hO hD (KeepD_sc (E := E) (F := F) (G := G) (r := r) (c := c)).c
        have c171 : ∀ {kk : HeapP → ResP} {kx : Nat → HeapP → ResP}, cV (callP MP e 171 [.ref 16, .ref (trH x)] (mk E F G)) kk kx = kk (mk E (scF F r c) G) := fun {kk kx} => cV_ret h1
        obtain ⟨q, r', p1⟩ := ct_58 (d := e) (G := G) hO2 hD2 h2 hS (by omega)
        have hpr := paZ_rg hI hS
        have c58 : ∀ {kk : Int → HeapP → ResP} {kx : Nat → HeapP → ResP}, cT (callP MP e 58 [.ref 201, .ref (rfQ E 18 0)] (mk E (scF F r c) G)) kk kx = kk (paZ K (toS F G x)) (mk E (ccF (scF F r c) q r') G) := fun {kk kx} => cT_ret p1 (by omega)
        obtain ⟨hO3, hD3⟩ := SnO_keep hO2 hD2 (KeepD_cc (E := E) (F := scF F r c) (G := G) (q := q) (r := r')).c
        have e1 : tI (ccF (scF F r c) q r' 18 1) = tI (K 4) := by rw [hO3.2.2.2.1.1.1]
        have e1b : tI (F 18 1) = tI (K 4) := by rw [hO.2.2.2.1.1.1]
        have ha : a_crowd F G K x = (0, crZ K (toS F G x)) := sgC2_0 h0
        rw [ha]
        refine ⟨E, ccF (scF F r c) q r', ?_, (KeepD_sc.tr KeepD_cc).c⟩
        show (_ : ResP) = some (Sum.inl (some (.int (zI (crZ K (toS F G x))))), _)
        rw [hin]
        unfold crZ
        generalize paZ K (toS F G x) = n9 at *
        by_cases g1 : n9 = -1
        · rw [if_pos (Or.inl g1)]
          rw [q_176_0]; (try simp only [↓n_rd, ↓n_idiv, ↓n_cI, li_0, li_1, li_4, li_5, li_14, li_60, zI_add, zI_sub, zI_mul, zI_neg, ↓Option.bind_some]); simp (disch := (first | assumption | exact tI_rg _ | omega | exact uR_at | exact row_ne hF (by decide) | exact row_ne (row_ne hF (by decide)) (by decide) | exact SnS_18 | exact SnS_30 | exact LdS_44 | exact LdS_46)) only [q_176_40, ↓cc_137t hT, ↓c171, ↓c58, g1, ↓n_rd, ↓n_idiv, ↓n_cI, ↓b_idiv, li_0, li_1, li_4, li_5, li_14, li_60, zI_add, zI_sub, zI_mul, zI_neg, ↓Option.bind_some, ↓g11_14, ↓g11_4, ↓g5_0, ↓g5_1, zIt2, uR_at, uR_ne, uR_uR, uC_uC, uC_at, ↓reduceIte, decide_eq_true_eq, leT, leF, ltT, ltF, eqT, eqF, ne_eq, not_true_eq_false, not_false_eq_true, Bool.false_eq_true, tI_zI]
        · by_cases g2 : n9 ≤ tI (K 4)
          · rw [if_neg (show ¬ (n9 = -1 ∨ tI (K 4) < n9) by omega)]
            by_cases g3 : n9 = 0
            · rw [if_pos g3]
              rw [q_176_0]; (try simp only [↓n_rd, ↓n_idiv, ↓n_cI, li_0, li_1, li_4, li_5, li_14, li_60, zI_add, zI_sub, zI_mul, zI_neg, ↓Option.bind_some]); simp (disch := (first | assumption | exact tI_rg _ | omega | exact uR_at | exact row_ne hF (by decide) | exact row_ne (row_ne hF (by decide)) (by decide) | exact SnS_18 | exact SnS_30 | exact LdS_44 | exact LdS_46)) only [q_176_40, ↓cc_137t hT, ↓c171, ↓c58, e1, e1b, g3, ↓n_rd, ↓n_idiv, ↓n_cI, ↓b_idiv, li_0, li_1, li_4, li_5, li_14, li_60, zI_add, zI_sub, zI_mul, zI_neg, ↓Option.bind_some, ↓g11_14, ↓g11_4, ↓g5_0, ↓g5_1, zIt2, uR_at, uR_ne, uR_uR, uC_uC, uC_at, ↓reduceIte, decide_eq_true_eq, leT, leF, ltT, ltF, eqT, eqF, ne_eq, not_true_eq_false, not_false_eq_true, Bool.false_eq_true, tI_zI]
            · rw [if_neg g3]
              have hq0 : 0 ≤ tI (K 4) / n9 := Int.ediv_nonneg (by omega) (by omega)
              have hq1 : tI (K 4) / n9 ≤ tI (K 4) := Int.ediv_le_self _ (by omega)
              have hmin := minZ (a := tI (K 4) / n9 - 1) (b := 60) (by omega)
              have hdv := fun {f : Int → ResP} => b_idiv (f := f) (a := tI (K 4)) (b := n9) (by omega)
              by_cases g4 : tI (K 4) / n9 - 1 < 60
              · rw [if_pos g4]
                rw [if_pos g4] at hmin
                rw [q_176_0]; (try simp only [↓n_rd, ↓n_idiv, ↓n_cI, li_0, li_1, li_4, li_5, li_14, li_60, zI_add, zI_sub, zI_mul, zI_neg, ↓Option.bind_some]); simp (disch := (first | assumption | exact tI_rg _ | omega | exact uR_at | exact row_ne hF (by decide) | exact row_ne (row_ne hF (by decide)) (by decide) | exact SnS_18 | exact SnS_30 | exact LdS_44 | exact LdS_46)) only [q_176_40, ↓cc_137t hT, ↓c171, ↓c58, e1, e1b, ↓hdv, hmin, ↓n_rd, ↓n_idiv, ↓n_cI, ↓b_idiv, li_0, li_1, li_4, li_5, li_14, li_60, zI_add, zI_sub, zI_mul, zI_neg, ↓Option.bind_some, ↓g11_14, ↓g11_4, ↓g5_0, ↓g5_1, zIt2, uR_at, uR_ne, uR_uR, uC_uC, uC_at, ↓reduceIte, decide_eq_true_eq, leT, leF, ltT, ltF, eqT, eqF, ne_eq, not_true_eq_false, not_false_eq_true, Bool.false_eq_true, tI_zI]
              · exfalso; omega
          · rw [if_pos (show (n9 = -1 ∨ tI (K 4) < n9) by omega)]
            rw [q_176_0]; (try simp only [↓n_rd, ↓n_idiv, ↓n_cI, li_0, li_1, li_4, li_5, li_14, li_60, zI_add, zI_sub, zI_mul, zI_neg, ↓Option.bind_some]); simp (disch := (first | assumption | exact tI_rg _ | omega | exact uR_at | exact row_ne hF (by decide) | exact row_ne (row_ne hF (by decide)) (by decide) | exact SnS_18 | exact SnS_30 | exact LdS_44 | exact LdS_46)) only [q_176_40, ↓cc_137t hT, ↓c171, ↓c58, e1, e1b, ↓n_rd, ↓n_idiv, ↓n_cI, ↓b_idiv, li_0, li_1, li_4, li_5, li_14, li_60, zI_add, zI_sub, zI_mul, zI_neg, ↓Option.bind_some, ↓g11_14, ↓g11_4, ↓g5_0, ↓g5_1, zIt2, uR_at, uR_ne, uR_uR, uC_uC, uC_at, ↓reduceIte, decide_eq_true_eq, leT, leF, ltT, ltF, eqT, eqF, ne_eq, not_true_eq_false, not_false_eq_true, Bool.false_eq_true, tI_zI]
      · have ha : a_crowd F G K x = (3, 0) := by unfold a_crowd;  rw [sgC2_n (by omega), h0]
        have c171 : ∀ {kk : HeapP → ResP} {kx : Nat → HeapP → ResP}, cV (callP MP e 171 [.ref 16, .ref (trH x)] (mk E F G)) kk kx = kx 2 (mk (jE E) (scF F r c) G) := fun {kk kx} => cV_thr h1
        rw [ha]
        refine ⟨jE E, scF F r c, ?_, KeepD_sc.j⟩
        show (_ : ResP) = some (Sum.inr 2, mk (jE E) (scF F r c) G)
        rw [hin]
        rw [q_176_0]; (try simp only [↓n_rd, ↓n_idiv, ↓n_cI, li_0, li_1, li_4, li_5, li_14, li_60, zI_add, zI_sub, zI_mul, zI_neg, ↓Option.bind_some]); simp (disch := (first | assumption | exact tI_rg _ | omega | exact uR_at | exact row_ne hF (by decide) | exact row_ne (row_ne hF (by decide)) (by decide) | exact SnS_18 | exact SnS_30 | exact LdS_44 | exact LdS_46)) only [q_176_40, ↓cc_137t hT, ↓c171, thr_eq, ↓n_rd, ↓n_idiv, ↓n_cI, ↓b_idiv, li_0, li_1, li_4, li_5, li_14, li_60, zI_add, zI_sub, zI_mul, zI_neg, ↓Option.bind_some, ↓g11_14, ↓g11_4, ↓g5_0, ↓g5_1, zIt2, uR_at, uR_ne, uR_uR, uC_uC, uC_at, ↓reduceIte, decide_eq_true_eq, leT, leF, ltT, ltF, eqT, eqF, ne_eq, not_true_eq_false, not_false_eq_true, Bool.false_eq_true, tI_zI]
  · have hz : sgZ F G K x = 1 := by unfold sgZ; rw [show tfZ F x = 1 from if_neg c1]; rfl
    have ha : a_crowd F G K x = (1, 0) := by unfold a_crowd;  rw [sgC2_n (by omega), hz]
    rw [ha]
    refine ⟨jE E, F, ?_, KeepC_j⟩
    show (_ : ResP) = some (Sum.inr 0, mk (jE E) F G)
    refine into (D := 4) (by omega) hM_176 (rcv_mk rfl (by decide)) rfl fun d hd => ?_
    show runP MP d 176 (0, [some (.ref 16), some (.int (zI x)), none], [], _) = _
    rw [q_176_0]; (try simp only [↓n_rd, ↓n_idiv, ↓n_cI, li_0, li_1, li_4, li_5, li_14, li_60, zI_add, zI_sub, zI_mul, zI_neg, ↓Option.bind_some]); simp (disch := (first | assumption | exact tI_rg _ | omega | exact uR_at | exact row_ne hF (by decide) | exact row_ne (row_ne hF (by decide)) (by decide) | exact SnS_18 | exact SnS_30 | exact LdS_44 | exact LdS_46)) only [q_176_40, ↓cc_137f, thr_eq, ↓n_rd, ↓n_idiv, ↓n_cI, ↓b_idiv, li_0, li_1, li_4, li_5, li_14, li_60, zI_add, zI_sub, zI_mul, zI_neg, ↓Option.bind_some, ↓g11_14, ↓g11_4, ↓g5_0, ↓g5_1, zIt2, uR_at, uR_ne, uR_uR, uC_uC, uC_at, ↓reduceIte, decide_eq_true_eq, leT, leF, ltT, ltF, eqT, eqF, ne_eq, not_true_eq_false, not_false_eq_true, Bool.false_eq_true, tI_zI]
theorem cl_pens {d : Nat} {E : EnQ} {F : Nat → Int → Int32} {G : Nat → Int → Int64} {K : Int → Int32} (hO : SnO E F 18 K) (hD : SepP E 18) (hT : TrR E F G) {x : Int} (hx : -2147483648 ≤ x ∧ x ≤ 2147483647) (hd : 6 ≤ d) : ∃ E1 F1, callP MP d 173 [.ref 16, .int (zI x)] (mk E F G) = some (thrP [0, 1, 2] (a_pens F G K x), mk E1 F1 G) ∧ KeepC E F G E1 F1 G := by
  have hI := hO.2.2.2.2
  have hs := hO.1.1
  have hb1 := hI.1.2.1
  have hb2 := hI.1.2.2.1
  have hb4 := hI.1.2.2.2.2.1
  have hb5 := hI.1.2.2.2.2.2.1
  by_cases c1 : 0 ≤ x ∧ x < 4
  · by_cases c2 : tI (F 243 x) = -1
    · have hz : sgZ F G K x = 2 := by unfold sgZ; rw [show tfZ F x = 2 from (if_pos c1).trans (if_pos c2)]; rfl
      have ha : a_pens F G K x = (2, 0) := by unfold a_pens;  rw [sgC2_n (by omega), hz]
      rw [ha]
      refine ⟨jE E, F, ?_, KeepC_j⟩
      show (_ : ResP) = some (Sum.inr 1, mk (jE E) F G)
      refine into (D := 5) (by omega) hM_173 (rcv_mk rfl (by decide)) rfl fun d hd => ?_
      show runP MP d 173 (0, [some (.ref 16), some (.int (zI x)), none, none], [], _) = _
      rw [q_173_0]; (try simp only [↓n_rd, ↓n_cI, li_0, li_1, li_2, li_4, li_5, li_13, zI_add, zI_sub, zI_mul, zI_neg, ↓Option.bind_some]); simp (disch := (first | assumption | exact tI_rg _ | omega | exact uR_at | exact row_ne hF (by decide) | exact row_ne (row_ne hF (by decide)) (by decide) | exact SnS_18 | exact SnS_30 | exact LdS_44 | exact LdS_46)) only [q_173_42, ↓cc_137m hT, thr_eq, ↓n_rd, ↓n_cI, li_0, li_1, li_2, li_4, li_5, li_13, zI_add, zI_sub, zI_mul, zI_neg, ↓Option.bind_some, ↓g11_4, ↓g2_1, ↓g5_0, zIt2, uR_at, uR_ne, uR_uR, uC_uC, uC_at, ↓reduceIte, decide_eq_true_eq, leT, leF, ltT, ltF, eqT, eqF, ne_eq, not_true_eq_false, not_false_eq_true, Bool.false_eq_true, tI_zI]
    · obtain ⟨e, rfl⟩ : ∃ e, d = e + 1 := ⟨d - 1, by omega⟩
      have hin : callP MP (e + 1) 173 [.ref 16, .int (zI x)] (mk E F G) = runP MP e 173 (0, [some (.ref 16), some (.int (zI x)), none, none], [], mk E F G) := into_eq (by omega) hM_173 (rcv_mk rfl (by decide)) rfl
      obtain ⟨r, c, hh⟩ := ct_171 (d := e) hO hD hT c1 c2 (by omega)
      rcases hh with ⟨h0, h1, h2⟩ | ⟨h0, h1⟩
      · obtain ⟨-, -, -, hS⟩ := sgZ_0 h0
        have hS : SgI (2 * tI (K 2)) (toS F G x) := hS
        obtain ⟨hO2, hD2⟩ := SnO_keep hO hD (KeepD_sc (E := E) (F := F) (G := G) (r := r) (c := c)).c
        have c171 : ∀ {kk : HeapP → ResP} {kx : Nat → HeapP → ResP}, cV (callP MP e 171 [.ref 16, .ref (trH x)] (mk E F G)) kk kx = kk (mk E (scF F r c) G) := fun {kk kx} => cV_ret h1
        have ha : a_pens F G K x = (0, ((penN K (toS F G x) (tI (K 1)).toNat : Nat) : Int)) := sgC2_0 h0
        rw [ha]
        have hpl : ∀ n, n ≤ 10 → penN K (toS F G x) n < 2 ^ 10 := fun n hn => orN_lt (fun j hj => by
          split
          · omega
          · exact Nat.pow_lt_pow_right (by omega) (by omega))
        have hl : ∃ F1, runP MP e 173 (13, [some (.ref 16), some (.int (zI x)), some (.int (zI 0)), some (.int (zI 0))], [], mk E (scF F r c) G) = some (Sum.inl (some (.int (zI ((penN K (toS F G x) (tI (K 1)).toNat : Nat) : Int)))), mk E F1 G) ∧ KeepD E F G E F1 G := by
          refine loopS (σ := Nat → Int → Int32) (Post := fun z => ∃ F1, z = some (Sum.inl (some (.int (zI ((penN K (toS F G x) (tI (K 1)).toNat : Nat) : Int)))), mk E F1 G) ∧ KeepD E F G E F1 G)
            (fun j s => runP MP e 173 (13, [some (.ref 16), some (.int (zI x)), some (.int (zI ((penN K (toS F G x) j : Nat) : Int))), some (.int (zI (j : Int)))], [], mk E s G))
            (fun j s => SgC s (toS F G x) ∧ KeepD E F G E s G) (tI (K 1)).toNat (scF F r c) ⟨h2, KeepD_sc⟩ (fun s hs => ⟨s, ?_, hs.2⟩) (fun j s hj hs => ?_)
          · obtain ⟨hO3, hD3⟩ := SnO_keep hO hD hs.2.c
            have e1 : tI (s (rfQ E 18 0) 1) = tI (K 1) := by rw [hO3.2.2.1.1.2.1]
            have hs5 := hO.2.1.1
            show runP MP e 173 _ = _
            rw [q_173_13]; (try simp only [↓n_rd, ↓n_cI, li_0, li_1, li_2, li_4, li_5, li_13, zI_add, zI_sub, zI_mul, zI_neg, ↓Option.bind_some]); simp (disch := (first | assumption | exact tI_rg _ | omega | exact uR_at | exact row_ne hF (by decide) | exact row_ne (row_ne hF (by decide)) (by decide) | exact SnS_18 | exact SnS_30 | exact LdS_44 | exact LdS_46)) only [q_173_0, q_173_42, e1, ↓n_rd, ↓n_cI, li_0, li_1, li_2, li_4, li_5, li_13, zI_add, zI_sub, zI_mul, zI_neg, ↓Option.bind_some, ↓g11_4, ↓g2_1, ↓g5_0, zIt2, uR_at, uR_ne, uR_uR, uC_uC, uC_at, ↓reduceIte, decide_eq_true_eq, leT, leF, ltT, ltF, eqT, eqF, ne_eq, not_true_eq_false, not_false_eq_true, Bool.false_eq_true, tI_zI]
          · right
            obtain ⟨s1, s2⟩ := hs
            obtain ⟨hO3, hD3⟩ := SnO_keep hO hD s2.c
            have e1 : tI (s (rfQ E 18 0) 1) = tI (K 1) := by rw [hO3.2.2.1.1.2.1]
            have hs5 := hO.2.1.1
            obtain ⟨q, r', p1⟩ := ct_172 (d := e) (G := G) hO3 hD3 s1 hS (p := j) (by omega) (by omega)
            have hwr := wtZ_rg hI hS (p := j) (by omega)
            have c172 : ∀ {kk : Int → HeapP → ResP} {kx : Nat → HeapP → ResP}, cT (callP MP e 172 [.ref 16, .int (zI (j : Int))] (mk E s G)) kk kx = kk (wtZ K (toS F G x) j) (mk E (ccF s q r') G) := fun {kk kx} => cT_ret p1 (by omega)
            refine ⟨ccF s q r', ⟨SgC_cc s1, s2.tr KeepD_cc⟩, ?_⟩
            show runP MP e 173 _ = runP MP e 173 _
            have e2 : penN K (toS F G x) (j + 1) = penN K (toS F G x) j ||| (if wtZ K (toS F G x) j = -1 then 0 else bitN (j : Int)) := rfl
            rw [e2, nsucc]
            by_cases g : wtZ K (toS F G x) j = -1
            · rw [if_pos g, or_zero']
              rw [q_173_13]; (try simp only [↓n_rd, ↓n_cI, li_0, li_1, li_2, li_4, li_5, li_13, zI_add, zI_sub, zI_mul, zI_neg, ↓Option.bind_some]); simp (disch := (first | assumption | exact tI_rg _ | omega | exact uR_at | exact row_ne hF (by decide) | exact row_ne (row_ne hF (by decide)) (by decide) | exact SnS_18 | exact SnS_30 | exact LdS_44 | exact LdS_46)) only [q_173_0, q_173_42, e1, ↓c172, g, ↓n_rd, ↓n_cI, li_0, li_1, li_2, li_4, li_5, li_13, zI_add, zI_sub, zI_mul, zI_neg, ↓Option.bind_some, ↓g11_4, ↓g2_1, ↓g5_0, zIt2, uR_at, uR_ne, uR_uR, uC_uC, uC_at, ↓reduceIte, decide_eq_true_eq, leT, leF, ltT, ltF, eqT, eqF, ne_eq, not_true_eq_false, not_false_eq_true, Bool.false_eq_true, tI_zI]
            · rw [if_neg g]
              rw [q_173_13]; (try simp only [↓n_rd, ↓n_cI, li_0, li_1, li_2, li_4, li_5, li_13, zI_add, zI_sub, zI_mul, zI_neg, ↓Option.bind_some]); simp (disch := (first | assumption | exact tI_rg _ | omega | exact uR_at | exact row_ne hF (by decide) | exact row_ne (row_ne hF (by decide)) (by decide) | exact SnS_18 | exact SnS_30 | exact LdS_44 | exact LdS_46)) only [q_173_0, q_173_42, e1, ↓c172, shlB, orZ, ↓n_rd, ↓n_cI, li_0, li_1, li_2, li_4, li_5, li_13, zI_add, zI_sub, zI_mul, zI_neg, ↓Option.bind_some, ↓g11_4, ↓g2_1, ↓g5_0, zIt2, uR_at, uR_ne, uR_uR, uC_uC, uC_at, ↓reduceIte, decide_eq_true_eq, leT, leF, ltT, ltF, eqT, eqF, ne_eq, not_true_eq_false, not_false_eq_true, Bool.false_eq_true, tI_zI]
        obtain ⟨F1, l1, l2⟩ := hl
        refine ⟨E, F1, ?_, l2.c⟩
        show (_ : ResP) = some (Sum.inl (some (.int (zI ((penN K (toS F G x) (tI (K 1)).toNat : Nat) : Int)))), _)
        rw [hin, ← l1]
        rw [q_173_0]; (try simp only [↓n_rd, ↓n_cI, li_0, li_1, li_2, li_4, li_5, li_13, zI_add, zI_sub, zI_mul, zI_neg, ↓Option.bind_some]); simp (disch := (first | assumption | exact tI_rg _ | omega | exact uR_at | exact row_ne hF (by decide) | exact row_ne (row_ne hF (by decide)) (by decide) | exact SnS_18 | exact SnS_30 | exact LdS_44 | exact LdS_46)) only [q_173_42, ↓cc_137t hT, ↓c171, ↓n_rd, ↓n_cI, li_0, li_1, li_2, li_4, li_5, li_13, zI_add, zI_sub, zI_mul, zI_neg, ↓Option.bind_some, ↓g11_4, ↓g2_1, ↓g5_0, zIt2, uR_at, uR_ne, uR_uR, uC_uC, uC_at, ↓reduceIte, decide_eq_true_eq, leT, leF, ltT, ltF, eqT, eqF, ne_eq, not_true_eq_false, not_false_eq_true, Bool.false_eq_true, tI_zI]
      · have ha : a_pens F G K x = (3, 0) := by unfold a_pens;  rw [sgC2_n (by omega), h0]
        have c171 : ∀ {kk : HeapP → ResP} {kx : Nat → HeapP → ResP}, cV (callP MP e 171 [.ref 16, .ref (trH x)] (mk E F G)) kk kx = kx 2 (mk (jE E) (scF F r c) G) := fun {kk kx} => cV_thr h1
        rw [ha]
        refine ⟨jE E, scF F r c, ?_, KeepD_sc.j⟩
        show (_ : ResP) = some (Sum.inr 2, mk (jE E) (scF F r c) G)
        rw [hin]
        rw [q_173_0]; (try simp only [↓n_rd, ↓n_cI, li_0, li_1, li_2, li_4, li_5, li_13, zI_add, zI_sub, zI_mul, zI_neg, ↓Option.bind_some]); simp (disch := (first | assumption | exact tI_rg _ | omega | exact uR_at | exact row_ne hF (by decide) | exact row_ne (row_ne hF (by decide)) (by decide) | exact SnS_18 | exact SnS_30 | exact LdS_44 | exact LdS_46)) only [q_173_42, ↓cc_137t hT, ↓c171, thr_eq, ↓n_rd, ↓n_cI, li_0, li_1, li_2, li_4, li_5, li_13, zI_add, zI_sub, zI_mul, zI_neg, ↓Option.bind_some, ↓g11_4, ↓g2_1, ↓g5_0, zIt2, uR_at, uR_ne, uR_uR, uC_uC, uC_at, ↓reduceIte, decide_eq_true_eq, leT, leF, ltT, ltF, eqT, eqF, ne_eq, not_true_eq_false, not_false_eq_true, Bool.false_eq_true, tI_zI]
  · have hz : sgZ F G K x = 1 := by unfold sgZ; rw [show tfZ F x = 1 from if_neg c1]; rfl
    have ha : a_pens F G K x = (1, 0) := by unfold a_pens;  rw [sgC2_n (by omega), hz]
    rw [ha]
    refine ⟨jE E, F, ?_, KeepC_j⟩
    show (_ : ResP) = some (Sum.inr 0, mk (jE E) F G)
    refine into (D := 5) (by omega) hM_173 (rcv_mk rfl (by decide)) rfl fun d hd => ?_
    show runP MP d 173 (0, [some (.ref 16), some (.int (zI x)), none, none], [], _) = _
    rw [q_173_0]; (try simp only [↓n_rd, ↓n_cI, li_0, li_1, li_2, li_4, li_5, li_13, zI_add, zI_sub, zI_mul, zI_neg, ↓Option.bind_some]); simp (disch := (first | assumption | exact tI_rg _ | omega | exact uR_at | exact row_ne hF (by decide) | exact row_ne (row_ne hF (by decide)) (by decide) | exact SnS_18 | exact SnS_30 | exact LdS_44 | exact LdS_46)) only [q_173_42, ↓cc_137f, thr_eq, ↓n_rd, ↓n_cI, li_0, li_1, li_2, li_4, li_5, li_13, zI_add, zI_sub, zI_mul, zI_neg, ↓Option.bind_some, ↓g11_4, ↓g2_1, ↓g5_0, zIt2, uR_at, uR_ne, uR_uR, uC_uC, uC_at, ↓reduceIte, decide_eq_true_eq, leT, leF, ltT, ltF, eqT, eqF, ne_eq, not_true_eq_false, not_false_eq_true, Bool.false_eq_true, tI_zI]
theorem cl_writes {d : Nat} {E : EnQ} {F : Nat → Int → Int32} {G : Nat → Int → Int64} {K : Int → Int32} (hO : SnO E F 18 K) (hD : SepP E 18) (hT : TrR E F G) {x y : Int} (hx : -2147483648 ≤ x ∧ x ≤ 2147483647) (hy : -2147483648 ≤ y ∧ y ≤ 2147483647) (hd : 6 ≤ d) : ∃ E1 F1, callP MP d 170 [.ref 16, .int (zI x), .int (zI y)] (mk E F G) = some (thrP [0, 1, 2] (a_writes F G K x y), mk E1 F1 G) ∧ KeepC E F G E1 F1 G := by
  have hI := hO.2.2.2.2
  have hs := hO.1.1
  have hb1 := hI.1.2.1
  have hb2 := hI.1.2.2.1
  have hb4 := hI.1.2.2.2.2.1
  have hb5 := hI.1.2.2.2.2.2.1
  by_cases c9 : 0 ≤ x ∧ x < tI (K 1)
  · by_cases c1 : 0 ≤ y ∧ y < 4
    · by_cases c2 : tI (F 243 y) = -1
      · have hz : sgZ F G K y = 2 := by unfold sgZ; rw [show tfZ F y = 2 from (if_pos c1).trans (if_pos c2)]; rfl
        have ha : a_writes F G K x y = (2, 0) := by unfold a_writes; rw [if_pos c9]; rw [sgC2_n (by omega), hz]
        rw [ha]
        refine ⟨jE E, F, ?_, KeepC_j⟩
        show (_ : ResP) = some (Sum.inr 1, mk (jE E) F G)
        refine into (D := 5) (by omega) hM_170 (rcv_mk rfl (by decide)) rfl fun d hd => ?_
        show runP MP d 170 (0, [some (.ref 16), some (.int (zI x)), some (.int (zI y))], [], _) = _
        rw [q_170_0]; (try simp only [↓n_cI, li_0, li_170, zI_add, zI_sub, zI_mul, zI_neg, ↓Option.bind_some]); simp (disch := (first | assumption | exact tI_rg _ | omega | exact uR_at | exact row_ne hF (by decide) | exact row_ne (row_ne hF (by decide)) (by decide) | exact SnS_18 | exact SnS_30 | exact LdS_44 | exact LdS_46)) only [↓cc_127t hO, ↓cc_137m hT, thr_eq, ↓n_cI, li_0, li_170, zI_add, zI_sub, zI_mul, zI_neg, ↓Option.bind_some, zIt2, uR_at, uR_ne, uR_uR, uC_uC, uC_at, ↓reduceIte, decide_eq_true_eq, leT, leF, ltT, ltF, eqT, eqF, ne_eq, not_true_eq_false, not_false_eq_true, Bool.false_eq_true, tI_zI]
      · obtain ⟨e, rfl⟩ : ∃ e, d = e + 1 := ⟨d - 1, by omega⟩
        have hin : callP MP (e + 1) 170 [.ref 16, .int (zI x), .int (zI y)] (mk E F G) = runP MP e 170 (0, [some (.ref 16), some (.int (zI x)), some (.int (zI y))], [], mk E F G) := into_eq (by omega) hM_170 (rcv_mk rfl (by decide)) rfl
        obtain ⟨r, c, hh⟩ := ct_171 (d := e) hO hD hT c1 c2 (by omega)
        rcases hh with ⟨h0, h1, h2⟩ | ⟨h0, h1⟩
        · obtain ⟨-, -, -, hS⟩ := sgZ_0 h0
          have hS : SgI (2 * tI (K 2)) (toS F G y) := hS
          obtain ⟨hO2, hD2⟩ := SnO_keep hO hD (KeepD_sc (E := E) (F := F) (G := G) (r := r) (c := c)).c
          have c171 : ∀ {kk : HeapP → ResP} {kx : Nat → HeapP → ResP}, cV (callP MP e 171 [.ref 16, .ref (trH y)] (mk E F G)) kk kx = kk (mk E (scF F r c) G) := fun {kk kx} => cV_ret h1
          have ha : a_writes F G K x y = (0, wtZ K (toS F G y) x.toNat) := (if_pos c9).trans (sgC2_0 h0)
          obtain ⟨q, r', p1⟩ := ct_172 (d := e) (G := G) hO2 hD2 h2 hS (p := x.toNat) (by omega) (by omega)
          rw [show ((x.toNat : Nat) : Int) = x by omega] at p1
          have hwr := wtZ_rg hI hS (p := x.toNat) (by omega)
          have c172 : ∀ {kk : Int → HeapP → ResP} {kx : Nat → HeapP → ResP}, cT (callP MP e 172 [.ref 16, .int (zI x)] (mk E (scF F r c) G)) kk kx = kk (wtZ K (toS F G y) x.toNat) (mk E (ccF (scF F r c) q r') G) := fun {kk kx} => cT_ret p1 (by omega)
          rw [ha]
          refine ⟨E, ccF (scF F r c) q r', ?_, (KeepD_sc.tr KeepD_cc).c⟩
          show (_ : ResP) = some (Sum.inl (some (.int (zI (wtZ K (toS F G y) x.toNat)))), _)
          rw [hin]
          rw [q_170_0]; (try simp only [↓n_cI, li_0, li_170, zI_add, zI_sub, zI_mul, zI_neg, ↓Option.bind_some]); simp (disch := (first | assumption | exact tI_rg _ | omega | exact uR_at | exact row_ne hF (by decide) | exact row_ne (row_ne hF (by decide)) (by decide) | exact SnS_18 | exact SnS_30 | exact LdS_44 | exact LdS_46)) only [↓cc_127t hO, ↓cc_137t hT, ↓c171, ↓c172, ↓n_cI, li_0, li_170, zI_add, zI_sub, zI_mul, zI_neg, ↓Option.bind_some, zIt2, uR_at, uR_ne, uR_uR, uC_uC, uC_at, ↓reduceIte, decide_eq_true_eq, leT, leF, ltT, ltF, eqT, eqF, ne_eq, not_true_eq_false, not_false_eq_true, Bool.false_eq_true, tI_zI]
        · have ha : a_writes F G K x y = (3, 0) := by unfold a_writes; rw [if_pos c9]; rw [sgC2_n (by omega), h0]
          have c171 : ∀ {kk : HeapP → ResP} {kx : Nat → HeapP → ResP}, cV (callP MP e 171 [.ref 16, .ref (trH y)] (mk E F G)) kk kx = kx 2 (mk (jE E) (scF F r c) G) := fun {kk kx} => cV_thr h1
          rw [ha]
          refine ⟨jE E, scF F r c, ?_, KeepD_sc.j⟩
          show (_ : ResP) = some (Sum.inr 2, mk (jE E) (scF F r c) G)
          rw [hin]
          rw [q_170_0]; (try simp only [↓n_cI, li_0, li_170, zI_add, zI_sub, zI_mul, zI_neg, ↓Option.bind_some]); simp (disch := (first | assumption | exact tI_rg _ | omega | exact uR_at | exact row_ne hF (by decide) | exact row_ne (row_ne hF (by decide)) (by decide) | exact SnS_18 | exact SnS_30 | exact LdS_44 | exact LdS_46)) only [↓cc_127t hO, ↓cc_137t hT, ↓c171, thr_eq, ↓n_cI, li_0, li_170, zI_add, zI_sub, zI_mul, zI_neg, ↓Option.bind_some, zIt2, uR_at, uR_ne, uR_uR, uC_uC, uC_at, ↓reduceIte, decide_eq_true_eq, leT, leF, ltT, ltF, eqT, eqF, ne_eq, not_true_eq_false, not_false_eq_true, Bool.false_eq_true, tI_zI]
    · have hz : sgZ F G K y = 1 := by unfold sgZ; rw [show tfZ F y = 1 from if_neg c1]; rfl
      have ha : a_writes F G K x y = (1, 0) := by unfold a_writes; rw [if_pos c9]; rw [sgC2_n (by omega), hz]
      rw [ha]
      refine ⟨jE E, F, ?_, KeepC_j⟩
      show (_ : ResP) = some (Sum.inr 0, mk (jE E) F G)
      refine into (D := 5) (by omega) hM_170 (rcv_mk rfl (by decide)) rfl fun d hd => ?_
      show runP MP d 170 (0, [some (.ref 16), some (.int (zI x)), some (.int (zI y))], [], _) = _
      rw [q_170_0]; (try simp only [↓n_cI, li_0, li_170, zI_add, zI_sub, zI_mul, zI_neg, ↓Option.bind_some]); simp (disch := (first | assumption | exact tI_rg _ | omega | exact uR_at | exact row_ne hF (by decide) | exact row_ne (row_ne hF (by decide)) (by decide) | exact SnS_18 | exact SnS_30 | exact LdS_44 | exact LdS_46)) only [↓cc_127t hO, ↓cc_137f, thr_eq, ↓n_cI, li_0, li_170, zI_add, zI_sub, zI_mul, zI_neg, ↓Option.bind_some, zIt2, uR_at, uR_ne, uR_uR, uC_uC, uC_at, ↓reduceIte, decide_eq_true_eq, leT, leF, ltT, ltF, eqT, eqF, ne_eq, not_true_eq_false, not_false_eq_true, Bool.false_eq_true, tI_zI]
  · have ha : a_writes F G K x y = (1, 0) := if_neg c9
    rw [ha]
    refine ⟨jE E, F, ?_, KeepC_j⟩
    show (_ : ResP) = some (Sum.inr 0, mk (jE E) F G)
    refine into (D := 5) (by omega) hM_170 (rcv_mk rfl (by decide)) rfl fun d hd => ?_
    show runP MP d 170 (0, [some (.ref 16), some (.int (zI x)), some (.int (zI y))], [], _) = _
    rw [q_170_0]; (try simp only [↓n_cI, li_0, li_170, zI_add, zI_sub, zI_mul, zI_neg, ↓Option.bind_some]); simp (disch := (first | assumption | exact tI_rg _ | omega | exact uR_at | exact row_ne hF (by decide) | exact row_ne (row_ne hF (by decide)) (by decide) | exact SnS_18 | exact SnS_30 | exact LdS_44 | exact LdS_46)) only [↓cc_127f hO, thr_eq, ↓n_cI, li_0, li_170, zI_add, zI_sub, zI_mul, zI_neg, ↓Option.bind_some, zIt2, uR_at, uR_ne, uR_uR, uC_uC, uC_at, ↓reduceIte, decide_eq_true_eq, leT, leF, ltT, ltF, eqT, eqF, ne_eq, not_true_eq_false, not_false_eq_true, Bool.false_eq_true, tI_zI]
theorem la_eq {K : Int → Int32} (hI : InvK K) {S : SgS} (hS : SgI (2 * tI (K 2)) S) : mnZ (fun v => if sgT S (v : Int) = 0 then -1 else tlZ K (v : Int)) (2 * tI (K 2)).toNat = laZ K S := by
  have hb2 := hI.1.2.2.1
  refine IsMn_eq (mnZ_mn _ _) ?_
  unfold laZ
  have hst : ∀ v : Int, sgT S v = 0 ↔ sgP S v = -1 := fun v => by
    unfold sgT
    by_cases y : sgP S v = -1
    · rw [if_pos y]; exact ⟨fun _ => y, fun _ => rfl⟩
    · rw [if_neg y]; exact ⟨fun z => absurd z (Nat.ne_of_gt (Nat.two_pow_pos _)), fun z => absurd z y⟩
  have hx : ∀ x, (∃ q, q < S.1 ∧ tlZ K (S.2 q) = x ∧ x ≠ -1) ↔ ∃ q, q < (2 * tI (K 2)).toNat ∧ (if sgT S (q : Int) = 0 then -1 else tlZ K (q : Int)) = x ∧ x ≠ -1 := fun x => by
    constructor
    · rintro ⟨q, h1, h2, h3⟩
      have hq := hS.2.1 q h1
      have hne : sgP S (S.2 q) ≠ -1 := fnd_some h1 (beq_iff_eq.mpr rfl)
      refine ⟨(S.2 q).toNat, by omega, ?_, h3⟩
      rw [show (((S.2 q).toNat : Nat) : Int) = S.2 q by omega, if_neg (fun z => hne ((hst _).mp z))]; exact h2
    · rintro ⟨q, h1, h2, h3⟩
      by_cases z : sgT S (q : Int) = 0
      · rw [if_pos z] at h2; exact absurd h2.symm h3
      · rw [if_neg z] at h2
        have hne : sgP S (q : Int) ≠ -1 := fun y => z ((hst _).mpr y)
        have hr := sgP_rg S (q : Int)
        exact ⟨(sgP S (q : Int)).toNat, by omega, by rw [sgP_at hne]; exact h2, h3⟩
  rcases mnZ_mn (fun k => tlZ K (S.2 k)) S.1 with ⟨h1, h2⟩ | ⟨h1, h2⟩
  · exact Or.inl ⟨h1, fun x hh => h2 x ((hx x).mpr hh)⟩
  · exact Or.inr ⟨(hx _).mp h1, fun x hh => h2 x ((hx x).mpr hh)⟩
theorem cl_lasts {d : Nat} {E : EnQ} {F : Nat → Int → Int32} {G : Nat → Int → Int64} {K : Int → Int32} (hO : SnO E F 18 K) (hD : SepP E 18) (hT : TrR E F G) {x : Int} (hx : -2147483648 ≤ x ∧ x ≤ 2147483647) (hd : 4 ≤ d) : ∃ E1 F1, callP MP d 177 [.ref 16, .int (zI x)] (mk E F G) = some (thrP [0, 1, 2] (a_lasts F G K x), mk E1 F1 G) ∧ KeepC E F G E1 F1 G := by
  have hI := hO.2.2.2.2
  have hs := hO.1.1
  have hb1 := hI.1.2.1
  have hb2 := hI.1.2.2.1
  have hb4 := hI.1.2.2.2.2.1
  have hb5 := hI.1.2.2.2.2.2.1
  by_cases c1 : 0 ≤ x ∧ x < 4
  · by_cases c2 : tI (F 243 x) = -1
    · have hz : sgZ F G K x = 2 := by unfold sgZ; rw [show tfZ F x = 2 from (if_pos c1).trans (if_pos c2)]; rfl
      have ha : a_lasts F G K x = (2, 0) := by unfold a_lasts;  rw [sgC2_n (by omega), hz]
      rw [ha]
      refine ⟨jE E, F, ?_, KeepC_j⟩
      show (_ : ResP) = some (Sum.inr 1, mk (jE E) F G)
      refine into (D := 3) (by omega) hM_177 (rcv_mk rfl (by decide)) rfl fun d hd => ?_
      show runP MP d 177 (0, [some (.ref 16), some (.int (zI x)), none, none, none], [], _) = _
      rw [q_177_0]; (try simp only [↓n_rd, ↓n_al, ↓n_cI, li_0, li_1, li_2, li_4, li_5, li_13, li_14, zI_add, zI_sub, zI_mul, zI_neg, ↓Option.bind_some]); simp (disch := (first | assumption | exact tI_rg _ | omega | exact uR_at | exact row_ne hF (by decide) | exact row_ne (row_ne hF (by decide)) (by decide) | exact SnS_18 | exact SnS_30 | exact LdS_44 | exact LdS_46)) only [q_177_74, q_177_75, ↓cc_137m hT, thr_eq, ↓n_rd, ↓n_al, ↓n_cI, li_0, li_1, li_2, li_4, li_5, li_13, li_14, zI_add, zI_sub, zI_mul, zI_neg, ↓Option.bind_some, ↓g11_14, ↓g11_4, ↓g2_2, ↓g4_0, ↓g5_0, ↓al_202, ↓as_202, zIt2, uR_at, uR_ne, uR_uR, uC_uC, uC_at, ↓reduceIte, decide_eq_true_eq, leT, leF, ltT, ltF, eqT, eqF, ne_eq, not_true_eq_false, not_false_eq_true, Bool.false_eq_true, tI_zI]
    · obtain ⟨e, rfl⟩ : ∃ e, d = e + 1 := ⟨d - 1, by omega⟩
      have hin : callP MP (e + 1) 177 [.ref 16, .int (zI x)] (mk E F G) = runP MP e 177 (0, [some (.ref 16), some (.int (zI x)), none, none, none], [], mk E F G) := into_eq (by omega) hM_177 (rcv_mk rfl (by decide)) rfl
      obtain ⟨r, c, hh⟩ := ct_171 (d := e) hO hD hT c1 c2 (by omega)
      rcases hh with ⟨h0, h1, h2⟩ | ⟨h0, h1⟩
      · obtain ⟨-, -, -, hS⟩ := sgZ_0 h0
        have hS : SgI (2 * tI (K 2)) (toS F G x) := hS
        obtain ⟨hO2, hD2⟩ := SnO_keep hO hD (KeepD_sc (E := E) (F := F) (G := G) (r := r) (c := c)).c
        have c171 : ∀ {kk : HeapP → ResP} {kx : Nat → HeapP → ResP}, cV (callP MP e 171 [.ref 16, .ref (trH x)] (mk E F G)) kk kx = kk (mk E (scF F r c) G) := fun {kk kx} => cV_ret h1
        have ha : a_lasts F G K x = (0, laZ K (toS F G x)) := sgC2_0 h0
        rw [ha]
        have hmr : ∀ j, -1 ≤ mnZ (fun v => if sgT (toS F G x) (v : Int) = 0 then -1 else tlZ K (v : Int)) j ∧ mnZ (fun v => if sgT (toS F G x) (v : Int) = 0 then -1 else tlZ K (v : Int)) j ≤ 60 := mn_rg (fun q => by have := tlZ_rg hI (q : Int); split <;> omega) (by omega)
        have e2 : tI (scF F r c (rfQ E 18 0) 2) = tI (K 2) := by rw [hO2.2.2.1.1.2.2.1]
        have hs5 := hO.2.1.1
        have hl : runP MP e 177 (13, [some (.ref 16), some (.int (zI x)), some (.int (zI (-1))), some (.int (zI 0)), none], [], mk E (scF F r c) G) = some (Sum.inl (some (.int (zI (laZ K (toS F G x))))), mk E (scF F r c) G) := by
          rw [← la_eq hI hS]
          refine loopS (σ := Option Value) (Post := fun z => z = some (Sum.inl (some (.int (zI (mnZ (fun v => if sgT (toS F G x) (v : Int) = 0 then -1 else tlZ K (v : Int)) (2 * tI (K 2)).toNat)))), mk E (scF F r c) G))
            (fun j s => runP MP e 177 (13, [some (.ref 16), some (.int (zI x)), some (.int (zI (mnZ (fun v => if sgT (toS F G x) (v : Int) = 0 then -1 else tlZ K (v : Int)) j))), some (.int (zI (j : Int))), s], [], mk E (scF F r c) G))
            (fun _ _ => True) (2 * tI (K 2)).toNat none trivial (fun s _ => ?_) (fun j s hj _ => ?_)
          · show runP MP e 177 _ = _
            rw [q_177_13]; (try simp only [↓n_rd, ↓n_al, ↓n_cI, li_0, li_1, li_2, li_4, li_5, li_13, li_14, zI_add, zI_sub, zI_mul, zI_neg, ↓Option.bind_some]); simp (disch := (first | assumption | exact tI_rg _ | omega | exact uR_at | exact row_ne hF (by decide) | exact row_ne (row_ne hF (by decide)) (by decide) | exact SnS_18 | exact SnS_30 | exact LdS_44 | exact LdS_46)) only [q_177_0, q_177_74, q_177_75, e2, ↓n_rd, ↓n_al, ↓n_cI, li_0, li_1, li_2, li_4, li_5, li_13, li_14, zI_add, zI_sub, zI_mul, zI_neg, ↓Option.bind_some, ↓g11_14, ↓g11_4, ↓g2_2, ↓g4_0, ↓g5_0, ↓al_202, ↓as_202, zIt2, uR_at, uR_ne, uR_uR, uC_uC, uC_at, ↓reduceIte, decide_eq_true_eq, leT, leF, ltT, ltF, eqT, eqF, ne_eq, not_true_eq_false, not_false_eq_true, Bool.false_eq_true, tI_zI]
          · right
            have e202 : tI (scF F r c 202 (j : Int)) = ((sgT (toS F G x) (j : Int) : Nat) : Int) := by
              have := sgT_lt hS.1 (j : Int)
              rw [h2.2.2 (j : Int) (by omega) (by omega), tI_zI (by omega)]
            have htl := sgT_lt hS.1 (j : Int)
            have htr := tlZ_rg hI (j : Int)
            have hlr := lstN_rg (fun k : Nat => prW K k == (j : Int)) (tI (K 5)).toNat
            have c76 : ∀ {kk : Int → HeapP → ResP} {kx : Nat → HeapP → ResP}, cT (callP MP e 76 [.ref 18, .int (zI (lstN (fun k : Nat => prW K k == (j : Int)) (tI (K 5)).toNat))] (mk E (scF F r c) G)) kk kx = kk (tlZ K (j : Int)) (mk E (scF F r c) G) := fun {kk kx} => cc_76 hO2 (by omega) (by omega)
            have e3 : mnZ (fun v => if sgT (toS F G x) (v : Int) = 0 then -1 else tlZ K (v : Int)) (j + 1) = if (if sgT (toS F G x) (j : Int) = 0 then -1 else tlZ K (j : Int)) = -1 then mnZ (fun v => if sgT (toS F G x) (v : Int) = 0 then -1 else tlZ K (v : Int)) j else if mnZ (fun v => if sgT (toS F G x) (v : Int) = 0 then -1 else tlZ K (v : Int)) j = -1 ∨ (if sgT (toS F G x) (j : Int) = 0 then -1 else tlZ K (j : Int)) < mnZ (fun v => if sgT (toS F G x) (v : Int) = 0 then -1 else tlZ K (v : Int)) j then (if sgT (toS F G x) (j : Int) = 0 then -1 else tlZ K (j : Int)) else mnZ (fun v => if sgT (toS F G x) (v : Int) = 0 then -1 else tlZ K (v : Int)) j := rfl
            have hm9 := hmr j
            rw [e3]
            generalize mnZ (fun v => if sgT (toS F G x) (v : Int) = 0 then -1 else tlZ K (v : Int)) j = m9 at *
            by_cases g0 : sgT (toS F G x) (j : Int) = 0
            · refine ⟨s, trivial, ?_⟩
              show runP MP e 177 _ = runP MP e 177 _
              rw [g0] at e202
              rw [nsucc, if_pos g0, if_pos rfl]
              rw [q_177_13]; (try simp only [↓n_rd, ↓n_al, ↓n_cI, li_0, li_1, li_2, li_4, li_5, li_13, li_14, zI_add, zI_sub, zI_mul, zI_neg, ↓Option.bind_some]); simp (disch := (first | assumption | exact tI_rg _ | omega | exact uR_at | exact row_ne hF (by decide) | exact row_ne (row_ne hF (by decide)) (by decide) | exact SnS_18 | exact SnS_30 | exact LdS_44 | exact LdS_46)) only [q_177_0, q_177_74, q_177_75, e2, e202, ↓n_rd, ↓n_al, ↓n_cI, li_0, li_1, li_2, li_4, li_5, li_13, li_14, zI_add, zI_sub, zI_mul, zI_neg, ↓Option.bind_some, ↓g11_14, ↓g11_4, ↓g2_2, ↓g4_0, ↓g5_0, ↓al_202, ↓as_202, zIt2, uR_at, uR_ne, uR_uR, uC_uC, uC_at, ↓reduceIte, decide_eq_true_eq, leT, leF, ltT, ltF, eqT, eqF, ne_eq, not_true_eq_false, not_false_eq_true, Bool.false_eq_true, tI_zI]
            · refine ⟨some (.int (zI (tlZ K (j : Int)))), trivial, ?_⟩
              show runP MP e 177 _ = runP MP e 177 _
              rw [nsucc, if_neg g0, if_neg (show ¬ tlZ K (j : Int) = -1 by omega)]
              generalize tlZ K (j : Int) = t9 at *
              by_cases g1 : m9 = -1
              · rw [if_pos (Or.inl g1)]
                rw [q_177_13]; (try simp only [↓n_rd, ↓n_al, ↓n_cI, li_0, li_1, li_2, li_4, li_5, li_13, li_14, zI_add, zI_sub, zI_mul, zI_neg, ↓Option.bind_some]); simp (disch := (first | assumption | exact tI_rg _ | omega | exact uR_at | exact row_ne hF (by decide) | exact row_ne (row_ne hF (by decide)) (by decide) | exact SnS_18 | exact SnS_30 | exact LdS_44 | exact LdS_46)) only [q_177_0, q_177_74, q_177_75, e2, e202, ↓cc_74 hO2, ↓c76, g1, ↓n_rd, ↓n_al, ↓n_cI, li_0, li_1, li_2, li_4, li_5, li_13, li_14, zI_add, zI_sub, zI_mul, zI_neg, ↓Option.bind_some, ↓g11_14, ↓g11_4, ↓g2_2, ↓g4_0, ↓g5_0, ↓al_202, ↓as_202, zIt2, uR_at, uR_ne, uR_uR, uC_uC, uC_at, ↓reduceIte, decide_eq_true_eq, leT, leF, ltT, ltF, eqT, eqF, ne_eq, not_true_eq_false, not_false_eq_true, Bool.false_eq_true, tI_zI]
              · have hmin := minZ (a := t9) (b := m9) (by omega)
                by_cases g2 : t9 < m9
                · rw [if_pos (Or.inr g2)]
                  rw [q_177_13]; (try simp only [↓n_rd, ↓n_al, ↓n_cI, li_0, li_1, li_2, li_4, li_5, li_13, li_14, zI_add, zI_sub, zI_mul, zI_neg, ↓Option.bind_some]); simp (disch := (first | assumption | exact tI_rg _ | omega | exact uR_at | exact row_ne hF (by decide) | exact row_ne (row_ne hF (by decide)) (by decide) | exact SnS_18 | exact SnS_30 | exact LdS_44 | exact LdS_46)) only [q_177_0, q_177_74, q_177_75, e2, e202, ↓cc_74 hO2, ↓c76, hmin, ↓n_rd, ↓n_al, ↓n_cI, li_0, li_1, li_2, li_4, li_5, li_13, li_14, zI_add, zI_sub, zI_mul, zI_neg, ↓Option.bind_some, ↓g11_14, ↓g11_4, ↓g2_2, ↓g4_0, ↓g5_0, ↓al_202, ↓as_202, zIt2, uR_at, uR_ne, uR_uR, uC_uC, uC_at, ↓reduceIte, decide_eq_true_eq, leT, leF, ltT, ltF, eqT, eqF, ne_eq, not_true_eq_false, not_false_eq_true, Bool.false_eq_true, tI_zI]
                · rw [if_neg (by omega)]
                  rw [q_177_13]; (try simp only [↓n_rd, ↓n_al, ↓n_cI, li_0, li_1, li_2, li_4, li_5, li_13, li_14, zI_add, zI_sub, zI_mul, zI_neg, ↓Option.bind_some]); simp (disch := (first | assumption | exact tI_rg _ | omega | exact uR_at | exact row_ne hF (by decide) | exact row_ne (row_ne hF (by decide)) (by decide) | exact SnS_18 | exact SnS_30 | exact LdS_44 | exact LdS_46)) only [q_177_0, q_177_74, q_177_75, e2, e202, ↓cc_74 hO2, ↓c76, hmin, ↓n_rd, ↓n_al, ↓n_cI, li_0, li_1, li_2, li_4, li_5, li_13, li_14, zI_add, zI_sub, zI_mul, zI_neg, ↓Option.bind_some, ↓g11_14, ↓g11_4, ↓g2_2, ↓g4_0, ↓g5_0, ↓al_202, ↓as_202, zIt2, uR_at, uR_ne, uR_uR, uC_uC, uC_at, ↓reduceIte, decide_eq_true_eq, leT, leF, ltT, ltF, eqT, eqF, ne_eq, not_true_eq_false, not_false_eq_true, Bool.false_eq_true, tI_zI]
        refine ⟨E, scF F r c, ?_, KeepD_sc.c⟩
        show (_ : ResP) = some (Sum.inl (some (.int (zI (laZ K (toS F G x))))), _)
        rw [hin, ← hl]
        rw [q_177_0]; (try simp only [↓n_rd, ↓n_al, ↓n_cI, li_0, li_1, li_2, li_4, li_5, li_13, li_14, zI_add, zI_sub, zI_mul, zI_neg, ↓Option.bind_some]); simp (disch := (first | assumption | exact tI_rg _ | omega | exact uR_at | exact row_ne hF (by decide) | exact row_ne (row_ne hF (by decide)) (by decide) | exact SnS_18 | exact SnS_30 | exact LdS_44 | exact LdS_46)) only [q_177_74, q_177_75, ↓cc_137t hT, ↓c171, ↓n_rd, ↓n_al, ↓n_cI, li_0, li_1, li_2, li_4, li_5, li_13, li_14, zI_add, zI_sub, zI_mul, zI_neg, ↓Option.bind_some, ↓g11_14, ↓g11_4, ↓g2_2, ↓g4_0, ↓g5_0, ↓al_202, ↓as_202, zIt2, uR_at, uR_ne, uR_uR, uC_uC, uC_at, ↓reduceIte, decide_eq_true_eq, leT, leF, ltT, ltF, eqT, eqF, ne_eq, not_true_eq_false, not_false_eq_true, Bool.false_eq_true, tI_zI]
      · have ha : a_lasts F G K x = (3, 0) := by unfold a_lasts;  rw [sgC2_n (by omega), h0]
        have c171 : ∀ {kk : HeapP → ResP} {kx : Nat → HeapP → ResP}, cV (callP MP e 171 [.ref 16, .ref (trH x)] (mk E F G)) kk kx = kx 2 (mk (jE E) (scF F r c) G) := fun {kk kx} => cV_thr h1
        rw [ha]
        refine ⟨jE E, scF F r c, ?_, KeepD_sc.j⟩
        show (_ : ResP) = some (Sum.inr 2, mk (jE E) (scF F r c) G)
        rw [hin]
        rw [q_177_0]; (try simp only [↓n_rd, ↓n_al, ↓n_cI, li_0, li_1, li_2, li_4, li_5, li_13, li_14, zI_add, zI_sub, zI_mul, zI_neg, ↓Option.bind_some]); simp (disch := (first | assumption | exact tI_rg _ | omega | exact uR_at | exact row_ne hF (by decide) | exact row_ne (row_ne hF (by decide)) (by decide) | exact SnS_18 | exact SnS_30 | exact LdS_44 | exact LdS_46)) only [q_177_74, q_177_75, ↓cc_137t hT, ↓c171, thr_eq, ↓n_rd, ↓n_al, ↓n_cI, li_0, li_1, li_2, li_4, li_5, li_13, li_14, zI_add, zI_sub, zI_mul, zI_neg, ↓Option.bind_some, ↓g11_14, ↓g11_4, ↓g2_2, ↓g4_0, ↓g5_0, ↓al_202, ↓as_202, zIt2, uR_at, uR_ne, uR_uR, uC_uC, uC_at, ↓reduceIte, decide_eq_true_eq, leT, leF, ltT, ltF, eqT, eqF, ne_eq, not_true_eq_false, not_false_eq_true, Bool.false_eq_true, tI_zI]
  · have hz : sgZ F G K x = 1 := by unfold sgZ; rw [show tfZ F x = 1 from if_neg c1]; rfl
    have ha : a_lasts F G K x = (1, 0) := by unfold a_lasts;  rw [sgC2_n (by omega), hz]
    rw [ha]
    refine ⟨jE E, F, ?_, KeepC_j⟩
    show (_ : ResP) = some (Sum.inr 0, mk (jE E) F G)
    refine into (D := 3) (by omega) hM_177 (rcv_mk rfl (by decide)) rfl fun d hd => ?_
    show runP MP d 177 (0, [some (.ref 16), some (.int (zI x)), none, none, none], [], _) = _
    rw [q_177_0]; (try simp only [↓n_rd, ↓n_al, ↓n_cI, li_0, li_1, li_2, li_4, li_5, li_13, li_14, zI_add, zI_sub, zI_mul, zI_neg, ↓Option.bind_some]); simp (disch := (first | assumption | exact tI_rg _ | omega | exact uR_at | exact row_ne hF (by decide) | exact row_ne (row_ne hF (by decide)) (by decide) | exact SnS_18 | exact SnS_30 | exact LdS_44 | exact LdS_46)) only [q_177_74, q_177_75, ↓cc_137f, thr_eq, ↓n_rd, ↓n_al, ↓n_cI, li_0, li_1, li_2, li_4, li_5, li_13, li_14, zI_add, zI_sub, zI_mul, zI_neg, ↓Option.bind_some, ↓g11_14, ↓g11_4, ↓g2_2, ↓g4_0, ↓g5_0, ↓al_202, ↓as_202, zIt2, uR_at, uR_ne, uR_uR, uC_uC, uC_at, ↓reduceIte, decide_eq_true_eq, leT, leF, ltT, ltF, eqT, eqF, ne_eq, not_true_eq_false, not_false_eq_true, Bool.false_eq_true, tI_zI]
end S94zza
