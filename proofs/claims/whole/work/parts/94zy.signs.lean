/-! MODEL: writes, pens, patrol, tends, crowd, lasts -/
section S94zy
set_option linter.unusedVariables false
set_option linter.unusedSimpArgs false
def toS (F : Nat → Int → Int32) (G : Nat → Int → Int64) (x : Int) : SgS := sgN (tnZ G x) (tdM F x)
noncomputable def penN (K : Int → Int32) (S : SgS) (n : Nat) : Nat := orN (fun p => if wtZ K S p = -1 then 0 else bitN (p : Int)) n
noncomputable def tdZ (K : Int → Int32) (S : SgS) : Int := if paZ K S ≠ -1 ∧ paZ K S ≤ tI (K 4) then 1 else 0
noncomputable def crZ (K : Int → Int32) (S : SgS) : Int := if paZ K S = -1 ∨ tI (K 4) < paZ K S then -1 else if paZ K S = 0 then 60 else if tI (K 4) / paZ K S - 1 < 60 then tI (K 4) / paZ K S - 1 else 60
def tlZ (K : Int → Int32) (v : Int) : Int := if lstN (fun k : Nat => prW K k == v) (tI (K 5)).toNat = -1 then 0 else tI (K 4) - tI (K 5) + lstN (fun k : Nat => prW K k == v) (tI (K 5)).toNat + 1
def laZ (K : Int → Int32) (S : SgS) : Int := mnZ (fun k => tlZ K (S.2 k)) S.1
noncomputable def sgC2 (F : Nat → Int → Int32) (G : Nat → Int → Int64) (K : Int → Int32) (x : Int) (v : Int) : Int × Int := (sgZ F G K x, if sgZ F G K x = 0 then v else 0)
noncomputable def a_writes (F : Nat → Int → Int32) (G : Nat → Int → Int64) (K : Int → Int32) (x y : Int) : Int × Int := if 0 ≤ x ∧ x < tI (K 1) then sgC2 F G K y (wtZ K (toS F G y) x.toNat) else (1, 0)
noncomputable def a_pens (F : Nat → Int → Int32) (G : Nat → Int → Int64) (K : Int → Int32) (x : Int) : Int × Int := sgC2 F G K x (penN K (toS F G x) (tI (K 1)).toNat : Nat)
noncomputable def a_patrol (F : Nat → Int → Int32) (G : Nat → Int → Int64) (K : Int → Int32) (x : Int) : Int × Int := sgC2 F G K x (paZ K (toS F G x))
noncomputable def a_tends (F : Nat → Int → Int32) (G : Nat → Int → Int64) (K : Int → Int32) (x : Int) : Int × Int := sgC2 F G K x (tdZ K (toS F G x))
noncomputable def a_crowd (F : Nat → Int → Int32) (G : Nat → Int → Int64) (K : Int → Int32) (x : Int) : Int × Int := sgC2 F G K x (crZ K (toS F G x))
noncomputable def a_lasts (F : Nat → Int → Int32) (G : Nat → Int → Int64) (K : Int → Int32) (x : Int) : Int × Int := sgC2 F G K x (laZ K (toS F G x))
theorem sgZ_rg {F : Nat → Int → Int32} {G : Nat → Int → Int64} {K : Int → Int32} {x : Int} : 0 ≤ sgZ F G K x ∧ sgZ F G K x ≤ 3 := by
  unfold sgZ tfZ
  split <;> (try split) <;> (try split) <;> (try split) <;> omega
theorem sgC2_0 {F : Nat → Int → Int32} {G : Nat → Int → Int64} {K : Int → Int32} {x v : Int} (h : sgZ F G K x = 0) : sgC2 F G K x v = (0, v) := by unfold sgC2; rw [h, if_pos rfl]
theorem sgC2_n {F : Nat → Int → Int32} {G : Nat → Int → Int64} {K : Int → Int32} {x v : Int} (h : ¬ sgZ F G K x = 0) : sgC2 F G K x v = (sgZ F G K x, 0) := by unfold sgC2; rw [if_neg h]
theorem wtZ_rg {K : Int → Int32} (hI : InvK K) {S : SgS} (hS : SgI (2 * tI (K 2)) S) {p : Nat} (hp : (p : Int) < tI (K 1)) : -1 ≤ wtZ K S p ∧ wtZ K S p ≤ 2560 := by
  have hb1 := hI.1.2.1
  have := cres_rg (wy := wyK K) (al := sgA S 1) (bt := sgT S) (sgT_lt hS.1) (n := (tI (K 1)).toNat) (by omega) (show 256 * p < 2560 by omega) (goN S.1 p 0)
  unfold wtZ; split <;> omega
theorem paZ_rg {K : Int → Int32} (hI : InvK K) {S : SgS} (hS : SgI (2 * tI (K 2)) S) : -1 ≤ paZ K S ∧ paZ K S ≤ 2560 := by
  have hb1 := hI.1.2.1
  by_cases h1 : S.1 = 0
  · unfold paZ; rw [if_pos h1]; omega
  · have h20 := hS.2.1 0 (by omega)
    have hfr := from_in hI h20
    have := cres_rg (wy := wyK K) (al := sgA S 0) (bt := sgT S) (sgT_lt hS.1) (n := (tI (K 1)).toNat) (by omega) (show 256 * fpN K S < 2560 by unfold fpN; omega) (goN S.1 (fpN K S) 1)
    unfold paZ; rw [if_neg h1]; exact this
theorem tlZ_rg {K : Int → Int32} (hI : InvK K) (v : Int) : 0 ≤ tlZ K v ∧ tlZ K v ≤ 60 := by
  have h1 := hI.1.2.2.2.2.1
  have h2 := hI.1.2.2.2.2.2.1
  have h3 := lstN_rg (fun k : Nat => prW K k == v) (tI (K 5)).toNat
  unfold tlZ; split <;> omega
theorem SgM_5 {F : Nat → Int → Int32} {S : SgS} {y : Int32} (h : SgM F S) : SgM (uR F 217 (uC (F 217) 5 y)) S :=
  ⟨by rw [uR_at, uC_ne (by decide)]; exact h.1, fun k hk => by rw [uR_ne (by decide)]; exact h.2 k hk⟩
theorem KeepM_sg {F : Nat → Int → Int32} {G : Nat → Int → Int64} {r : Int → Int32} {v : Int32} : KeepM F G (sgF F r v) G := by
  refine ⟨fun q h1 _ _ h4 => sgF_ne h1 (by omega), fun j hj => sgF_217 (by omega), fun _ _ => rfl⟩
theorem KeepM_bm {F : Nat → Int → Int32} {G : Nat → Int → Int64} {q r : Int → Int32} : KeepM F G (bmF F q r) G := by
  refine ⟨fun a _ _ _ h4 => bmF_ne (by omega) (by omega), fun j _ => by rw [bmF_ne (by decide) (by decide)], fun _ _ => rfl⟩
def s5F (F : Nat → Int → Int32) (r : Int → Int32) (v : Int32) (c : Int) : Nat → Int → Int32 := uR (sgF F r v) 217 (uC (sgF F r v 217) 5 (zI c))
theorem KeepM_s5 {F : Nat → Int → Int32} {G : Nat → Int → Int64} {r : Int → Int32} {v : Int32} {c : Int} : KeepM F G (s5F F r v c) G := KeepM_sg.tr (KeepM_217 (k := 5) (by omega))
theorem s5_5 {F : Nat → Int → Int32} {r : Int → Int32} {v : Int32} {c : Int} : s5F F r v c 217 5 = zI c := by unfold s5F; rw [uR_at, uC_at]
theorem bs_5 {F : Nat → Int → Int32} {q r' r : Int → Int32} {v : Int32} {c : Int} : bmF (s5F F r v c) q r' 217 5 = zI c := by rw [bmF_ne (by decide) (by decide)]; exact s5_5
theorem crZ_rg {K : Int → Int32} (hI : InvK K) {S : SgS} (hS : SgI (2 * tI (K 2)) S) : -1 ≤ crZ K S ∧ crZ K S ≤ 60 := by
  have hb4 := hI.1.2.2.2.2.1
  have hpr := paZ_rg hI hS
  unfold crZ
  split
  · omega
  · rename_i h
    split
    · omega
    · rename_i h0
      have h1 : 0 ≤ tI (K 4) / paZ K S := Int.ediv_nonneg (by omega) (by omega)
      split <;> omega
theorem ml_patrol {d : Nat} {E : EnQ} {F : Nat → Int → Int32} {G : Nat → Int → Int64} {K : Int → Int32} (hI : InvK K) (hF : F 218 = K) (h44 : ∀ x, 0 ≤ x → x < 4 → 0 ≤ tI (F 244 x) ∧ tI (F 244 x) ≤ 30) {x : Int} (hx : -2147483648 ≤ x ∧ x ≤ 2147483647) (hd : 5 ≤ d) : ∃ F1, callP MP d 304 [.ref 217, .int (zI x)] (mk E F G) = some (Sum.inl (some (.int (zI (a_patrol F G K x).2))), mk E F1 G) ∧ F1 217 5 = zI (a_patrol F G K x).1 ∧ KeepM F G F1 G := by
  have hzr := sgZ_rg (F := F) (G := G) (K := K) (x := x)
  have hb1 := hI.1.2.1
  have hb4 := hI.1.2.2.2.2.1
  obtain ⟨e, rfl⟩ : ∃ e, d = e + 1 := ⟨d - 1, by omega⟩
  have hin : callP MP (e + 1) 304 [.ref 217, .int (zI x)] (mk E F G) = runP MP e 304 (0, [some (.ref 217), some (.int (zI x))], [], mk E F G) := into_eq (by omega) hM_304 (rcv_mk rfl (by decide)) rfl
  obtain ⟨r, v, r1, r2⟩ := ct_299 (d := e) (E := E) (G := G) hI hF h44 hx (by omega)
  have c299 : ∀ {kk : Int → HeapP → ResP} {kx : Nat → HeapP → ResP}, cT (callP MP e 299 [.ref 217, .int (zI x)] (mk E F G)) kk kx = kk (sgZ F G K x) (mk E (sgF F r v) G) := fun {kk kx} => cT_ret r1 (by omega)
  have e5 : ∀ c : Int, uR (sgF F r v) 217 (uC (sgF F r v 217) 5 (zI c)) = s5F F r v c := fun c => rfl
  by_cases c0 : sgZ F G K x = 0
  · obtain ⟨c1, -, -, hS⟩ := sgZ_0 c0
    have ha : a_patrol F G K x = (0, paZ K (toS F G x)) := sgC2_0 c0
    have hM : SgM (s5F F r v 0) (toS F G x) := SgM_5 (r2 c0)
    have hS : SgI (2 * tI (K 2)) (toS F G x) := hS
    have hK : s5F F r v 0 218 = K := by unfold s5F; rw [uR_ne (by decide), sgF_ne (by decide) (by decide)]; exact hF
    rw [ha]
    obtain ⟨q, r', p1⟩ := ct_305 (d := e) (E := E) (G := G) hI hK hM hS (by omega)
    have hpr := paZ_rg hI hS
    have c305 : ∀ {kk : Int → HeapP → ResP} {kx : Nat → HeapP → ResP}, cT (callP MP e 305 [.ref 217] (mk E (s5F F r v 0) G)) kk kx = kk (paZ K (toS F G x)) (mk E (bmF (s5F F r v 0) q r') G) := fun {kk kx} => cT_ret p1 (by omega)
    have hK2 : bmF (s5F F r v 0) q r' 218 = K := (bmF_ne (by decide) (by decide)).trans hK
    refine ⟨bmF (s5F F r v 0) q r', ?_, bs_5, KeepM_s5.tr KeepM_bm⟩
    show (_ : ResP) = some (Sum.inl (some (.int (zI (paZ K (toS F G x))))), _)
    rw [hin]
    rw [q_304_0]; (try simp only [↓n_rd, ↓n_cI, li_0, li_5, li_12, li_24, zI_add, zI_sub, zI_mul, zI_neg, ↓Option.bind_some]); simp (disch := (first | assumption | exact tI_rg _ | omega | exact uR_at | exact row_ne hF (by decide) | exact row_ne (row_ne hF (by decide)) (by decide) | exact SnS_18 | exact SnS_30 | exact LdS_44 | exact LdS_46)) only [q_304_24, ↓c299, c0, e5, s5_5, zIt2, ↓c305, ↓n_rd, ↓n_cI, li_0, li_5, li_12, li_24, zI_add, zI_sub, zI_mul, zI_neg, ↓Option.bind_some, ↓g12_5, ↓p12_5, zIt2, uR_at, uR_ne, uR_uR, uC_uC, uC_at, ↓reduceIte, decide_eq_true_eq, leT, leF, ltT, ltF, eqT, eqF, ne_eq, not_true_eq_false, not_false_eq_true, Bool.false_eq_true, tI_zI]
  · have ha : a_patrol F G K x = (sgZ F G K x, 0) := sgC2_n c0
    rw [ha]
    refine ⟨s5F F r v (sgZ F G K x), ?_, s5_5, KeepM_s5⟩
    show (_ : ResP) = some (Sum.inl (some (.int (zI 0))), _)
    rw [hin]
    rw [q_304_0]; (try simp only [↓n_rd, ↓n_cI, li_0, li_5, li_12, li_24, zI_add, zI_sub, zI_mul, zI_neg, ↓Option.bind_some]); simp (disch := (first | assumption | exact tI_rg _ | omega | exact uR_at | exact row_ne hF (by decide) | exact row_ne (row_ne hF (by decide)) (by decide) | exact SnS_18 | exact SnS_30 | exact LdS_44 | exact LdS_46)) only [q_304_24, ↓c299, e5, s5_5, zIt2, ↓n_rd, ↓n_cI, li_0, li_5, li_12, li_24, zI_add, zI_sub, zI_mul, zI_neg, ↓Option.bind_some, ↓g12_5, ↓p12_5, zIt2, uR_at, uR_ne, uR_uR, uC_uC, uC_at, ↓reduceIte, decide_eq_true_eq, leT, leF, ltT, ltF, eqT, eqF, ne_eq, not_true_eq_false, not_false_eq_true, Bool.false_eq_true, tI_zI]
theorem ml_tends {d : Nat} {E : EnQ} {F : Nat → Int → Int32} {G : Nat → Int → Int64} {K : Int → Int32} (hI : InvK K) (hF : F 218 = K) (h44 : ∀ x, 0 ≤ x → x < 4 → 0 ≤ tI (F 244 x) ∧ tI (F 244 x) ≤ 30) {x : Int} (hx : -2147483648 ≤ x ∧ x ≤ 2147483647) (hd : 5 ≤ d) : ∃ F1, callP MP d 306 [.ref 217, .int (zI x)] (mk E F G) = some (Sum.inl (some (.int (zI (a_tends F G K x).2))), mk E F1 G) ∧ F1 217 5 = zI (a_tends F G K x).1 ∧ KeepM F G F1 G := by
  have hzr := sgZ_rg (F := F) (G := G) (K := K) (x := x)
  have hb1 := hI.1.2.1
  have hb4 := hI.1.2.2.2.2.1
  obtain ⟨e, rfl⟩ : ∃ e, d = e + 1 := ⟨d - 1, by omega⟩
  have hin : callP MP (e + 1) 306 [.ref 217, .int (zI x)] (mk E F G) = runP MP e 306 (0, [some (.ref 217), some (.int (zI x)), none], [], mk E F G) := into_eq (by omega) hM_306 (rcv_mk rfl (by decide)) rfl
  obtain ⟨r, v, r1, r2⟩ := ct_299 (d := e) (E := E) (G := G) hI hF h44 hx (by omega)
  have c299 : ∀ {kk : Int → HeapP → ResP} {kx : Nat → HeapP → ResP}, cT (callP MP e 299 [.ref 217, .int (zI x)] (mk E F G)) kk kx = kk (sgZ F G K x) (mk E (sgF F r v) G) := fun {kk kx} => cT_ret r1 (by omega)
  have e5 : ∀ c : Int, uR (sgF F r v) 217 (uC (sgF F r v 217) 5 (zI c)) = s5F F r v c := fun c => rfl
  by_cases c0 : sgZ F G K x = 0
  · obtain ⟨c1, -, -, hS⟩ := sgZ_0 c0
    have ha : a_tends F G K x = (0, tdZ K (toS F G x)) := sgC2_0 c0
    have hM : SgM (s5F F r v 0) (toS F G x) := SgM_5 (r2 c0)
    have hS : SgI (2 * tI (K 2)) (toS F G x) := hS
    have hK : s5F F r v 0 218 = K := by unfold s5F; rw [uR_ne (by decide), sgF_ne (by decide) (by decide)]; exact hF
    rw [ha]
    obtain ⟨q, r', p1⟩ := ct_305 (d := e) (E := E) (G := G) hI hK hM hS (by omega)
    have hpr := paZ_rg hI hS
    have c305 : ∀ {kk : Int → HeapP → ResP} {kx : Nat → HeapP → ResP}, cT (callP MP e 305 [.ref 217] (mk E (s5F F r v 0) G)) kk kx = kk (paZ K (toS F G x)) (mk E (bmF (s5F F r v 0) q r') G) := fun {kk kx} => cT_ret p1 (by omega)
    have hK2 : bmF (s5F F r v 0) q r' 218 = K := (bmF_ne (by decide) (by decide)).trans hK
    refine ⟨bmF (s5F F r v 0) q r', ?_, bs_5, KeepM_s5.tr KeepM_bm⟩
    show (_ : ResP) = some (Sum.inl (some (.int (zI (tdZ K (toS F G x))))), _)
    rw [hin]
    unfold tdZ
    by_cases g1 : paZ K (toS F G x) = -1
    · rw [if_neg (fun z => z.1 g1)]
      rw [q_306_0]; (try simp only [↓n_rd, ↓n_al, ↓n_cI, li_0, li_1, li_4, li_5, li_12, zI_add, zI_sub, zI_mul, zI_neg, ↓Option.bind_some]); simp (disch := (first | assumption | exact tI_rg _ | omega | exact uR_at | exact row_ne hF (by decide) | exact row_ne (row_ne hF (by decide)) (by decide) | exact SnS_18 | exact SnS_30 | exact LdS_44 | exact LdS_46)) only [q_306_42, q_306_43, ↓c299, c0, e5, s5_5, zIt2, ↓c305, g1, ↓n_rd, ↓n_al, ↓n_cI, retZ_z, li_0, li_1, li_4, li_5, li_12, zI_add, zI_sub, zI_mul, zI_neg, ↓Option.bind_some, ↓g12_0, ↓g12_5, ↓p12_5, ↓al_218, ↓as_218, zIt2, uR_at, uR_ne, uR_uR, uC_uC, uC_at, ↓reduceIte, decide_eq_true_eq, leT, leF, ltT, ltF, eqT, eqF, ne_eq, not_true_eq_false, not_false_eq_true, Bool.false_eq_true, tI_zI]
    · by_cases g2 : paZ K (toS F G x) ≤ tI (K 4)
      · rw [if_pos ⟨g1, g2⟩]
        rw [q_306_0]; (try simp only [↓n_rd, ↓n_al, ↓n_cI, li_0, li_1, li_4, li_5, li_12, zI_add, zI_sub, zI_mul, zI_neg, ↓Option.bind_some]); simp (disch := (first | assumption | exact tI_rg _ | omega | exact uR_at | exact row_ne hF (by decide) | exact row_ne (row_ne hF (by decide)) (by decide) | exact SnS_18 | exact SnS_30 | exact LdS_44 | exact LdS_46)) only [q_306_42, q_306_43, ↓c299, c0, e5, s5_5, zIt2, ↓c305, hK2, ↓n_rd, ↓n_al, ↓n_cI, retZ_z, li_0, li_1, li_4, li_5, li_12, zI_add, zI_sub, zI_mul, zI_neg, ↓Option.bind_some, ↓g12_0, ↓g12_5, ↓p12_5, ↓al_218, ↓as_218, zIt2, uR_at, uR_ne, uR_uR, uC_uC, uC_at, ↓reduceIte, decide_eq_true_eq, leT, leF, ltT, ltF, eqT, eqF, ne_eq, not_true_eq_false, not_false_eq_true, Bool.false_eq_true, tI_zI]
      · rw [if_neg (fun z => g2 z.2)]
        rw [q_306_0]; (try simp only [↓n_rd, ↓n_al, ↓n_cI, li_0, li_1, li_4, li_5, li_12, zI_add, zI_sub, zI_mul, zI_neg, ↓Option.bind_some]); simp (disch := (first | assumption | exact tI_rg _ | omega | exact uR_at | exact row_ne hF (by decide) | exact row_ne (row_ne hF (by decide)) (by decide) | exact SnS_18 | exact SnS_30 | exact LdS_44 | exact LdS_46)) only [q_306_42, q_306_43, ↓c299, c0, e5, s5_5, zIt2, ↓c305, hK2, ↓n_rd, ↓n_al, ↓n_cI, retZ_z, li_0, li_1, li_4, li_5, li_12, zI_add, zI_sub, zI_mul, zI_neg, ↓Option.bind_some, ↓g12_0, ↓g12_5, ↓p12_5, ↓al_218, ↓as_218, zIt2, uR_at, uR_ne, uR_uR, uC_uC, uC_at, ↓reduceIte, decide_eq_true_eq, leT, leF, ltT, ltF, eqT, eqF, ne_eq, not_true_eq_false, not_false_eq_true, Bool.false_eq_true, tI_zI]
  · have ha : a_tends F G K x = (sgZ F G K x, 0) := sgC2_n c0
    rw [ha]
    refine ⟨s5F F r v (sgZ F G K x), ?_, s5_5, KeepM_s5⟩
    show (_ : ResP) = some (Sum.inl (some (.int (zI 0))), _)
    rw [hin]
    rw [q_306_0]; (try simp only [↓n_rd, ↓n_al, ↓n_cI, li_0, li_1, li_4, li_5, li_12, zI_add, zI_sub, zI_mul, zI_neg, ↓Option.bind_some]); simp (disch := (first | assumption | exact tI_rg _ | omega | exact uR_at | exact row_ne hF (by decide) | exact row_ne (row_ne hF (by decide)) (by decide) | exact SnS_18 | exact SnS_30 | exact LdS_44 | exact LdS_46)) only [q_306_42, q_306_43, ↓c299, e5, s5_5, zIt2, ↓n_rd, ↓n_al, ↓n_cI, retZ_z, li_0, li_1, li_4, li_5, li_12, zI_add, zI_sub, zI_mul, zI_neg, ↓Option.bind_some, ↓g12_0, ↓g12_5, ↓p12_5, ↓al_218, ↓as_218, zIt2, uR_at, uR_ne, uR_uR, uC_uC, uC_at, ↓reduceIte, decide_eq_true_eq, leT, leF, ltT, ltF, eqT, eqF, ne_eq, not_true_eq_false, not_false_eq_true, Bool.false_eq_true, tI_zI]
theorem ml_crowd {d : Nat} {E : EnQ} {F : Nat → Int → Int32} {G : Nat → Int → Int64} {K : Int → Int32} (hI : InvK K) (hF : F 218 = K) (h44 : ∀ x, 0 ≤ x → x < 4 → 0 ≤ tI (F 244 x) ∧ tI (F 244 x) ≤ 30) {x : Int} (hx : -2147483648 ≤ x ∧ x ≤ 2147483647) (hd : 5 ≤ d) : ∃ F1, callP MP d 307 [.ref 217, .int (zI x)] (mk E F G) = some (Sum.inl (some (.int (zI (a_crowd F G K x).2))), mk E F1 G) ∧ F1 217 5 = zI (a_crowd F G K x).1 ∧ KeepM F G F1 G := by
  have hzr := sgZ_rg (F := F) (G := G) (K := K) (x := x)
  have hb1 := hI.1.2.1
  have hb4 := hI.1.2.2.2.2.1
  obtain ⟨e, rfl⟩ : ∃ e, d = e + 1 := ⟨d - 1, by omega⟩
  have hin : callP MP (e + 1) 307 [.ref 217, .int (zI x)] (mk E F G) = runP MP e 307 (0, [some (.ref 217), some (.int (zI x)), none, none], [], mk E F G) := into_eq (by omega) hM_307 (rcv_mk rfl (by decide)) rfl
  obtain ⟨r, v, r1, r2⟩ := ct_299 (d := e) (E := E) (G := G) hI hF h44 hx (by omega)
  have c299 : ∀ {kk : Int → HeapP → ResP} {kx : Nat → HeapP → ResP}, cT (callP MP e 299 [.ref 217, .int (zI x)] (mk E F G)) kk kx = kk (sgZ F G K x) (mk E (sgF F r v) G) := fun {kk kx} => cT_ret r1 (by omega)
  have e5 : ∀ c : Int, uR (sgF F r v) 217 (uC (sgF F r v 217) 5 (zI c)) = s5F F r v c := fun c => rfl
  by_cases c0 : sgZ F G K x = 0
  · obtain ⟨c1, -, -, hS⟩ := sgZ_0 c0
    have ha : a_crowd F G K x = (0, crZ K (toS F G x)) := sgC2_0 c0
    have hM : SgM (s5F F r v 0) (toS F G x) := SgM_5 (r2 c0)
    have hS : SgI (2 * tI (K 2)) (toS F G x) := hS
    have hK : s5F F r v 0 218 = K := by unfold s5F; rw [uR_ne (by decide), sgF_ne (by decide) (by decide)]; exact hF
    rw [ha]
    obtain ⟨q, r', p1⟩ := ct_305 (d := e) (E := E) (G := G) hI hK hM hS (by omega)
    have hpr := paZ_rg hI hS
    have c305 : ∀ {kk : Int → HeapP → ResP} {kx : Nat → HeapP → ResP}, cT (callP MP e 305 [.ref 217] (mk E (s5F F r v 0) G)) kk kx = kk (paZ K (toS F G x)) (mk E (bmF (s5F F r v 0) q r') G) := fun {kk kx} => cT_ret p1 (by omega)
    have hK2 : bmF (s5F F r v 0) q r' 218 = K := (bmF_ne (by decide) (by decide)).trans hK
    refine ⟨bmF (s5F F r v 0) q r', ?_, bs_5, KeepM_s5.tr KeepM_bm⟩
    show (_ : ResP) = some (Sum.inl (some (.int (zI (crZ K (toS F G x))))), _)
    rw [hin]
    unfold crZ
    generalize paZ K (toS F G x) = n9 at *
    by_cases g1 : n9 = -1
    · rw [if_pos (Or.inl g1)]
      rw [q_307_0]; (try simp only [↓n_rd, ↓n_al, ↓n_cI, li_0, li_1, li_2, li_4, li_5, li_12, li_38, li_60, zI_add, zI_sub, zI_mul, zI_neg, ↓Option.bind_some]); simp (disch := (first | assumption | exact tI_rg _ | omega | exact uR_at | exact row_ne hF (by decide) | exact row_ne (row_ne hF (by decide)) (by decide) | exact SnS_18 | exact SnS_30 | exact LdS_44 | exact LdS_46)) only [q_307_38, q_307_68, ↓c299, c0, e5, s5_5, zIt2, ↓c305, g1, ↓n_rd, ↓n_al, ↓n_cI, li_0, li_1, li_2, li_4, li_5, li_12, li_38, li_60, zI_add, zI_sub, zI_mul, zI_neg, ↓Option.bind_some, ↓g12_0, ↓g12_5, ↓p12_5, ↓al_218, ↓as_218, zIt2, uR_at, uR_ne, uR_uR, uC_uC, uC_at, ↓reduceIte, decide_eq_true_eq, leT, leF, ltT, ltF, eqT, eqF, ne_eq, not_true_eq_false, not_false_eq_true, Bool.false_eq_true, tI_zI]
    · by_cases g2 : n9 ≤ tI (K 4)
      · rw [if_neg (show ¬ (n9 = -1 ∨ tI (K 4) < n9) by omega)]
        generalize hv : (if n9 = 0 then 60 else if tI (K 4) / n9 - 1 < 60 then tI (K 4) / n9 - 1 else (60 : Int)) = v9
        have hlo : 0 ≤ v9 ∧ v9 ≤ 60 ∧ (∀ j : Int, 0 ≤ j → j < v9 → n9 * (j + 2) ≤ tI (K 4)) ∧ (v9 < 60 → tI (K 4) < n9 * (v9 + 2)) := by
          rw [← hv]
          by_cases z : n9 = 0
          · rw [if_pos z, z]
            refine ⟨by omega, by omega, fun j _ _ => by rw [Int.zero_mul]; omega, fun h => by omega⟩
          · rw [if_neg z]
            have h1 : 1 ≤ tI (K 4) / n9 := (Int.le_ediv_iff_mul_le (by omega)).mpr (by omega)
            have hle : ∀ j : Int, j + 2 ≤ tI (K 4) / n9 → n9 * (j + 2) ≤ tI (K 4) := fun j hj => by rw [Int.mul_comm]; exact (Int.le_ediv_iff_mul_le (by omega)).mp hj
            have hgt : ∀ j : Int, ¬ j + 2 ≤ tI (K 4) / n9 → tI (K 4) < n9 * (j + 2) := fun j hj => by
              have : ¬ (j + 2) * n9 ≤ tI (K 4) := fun y => hj ((Int.le_ediv_iff_mul_le (by omega)).mpr y)
              rw [Int.mul_comm]; omega
            split
            · exact ⟨by omega, by omega, fun j _ hj => hle j (by omega), fun _ => hgt _ (by omega)⟩
            · exact ⟨by omega, by omega, fun j _ hj => hle j (by omega), fun h => by omega⟩
        obtain ⟨v0, v60, va, vb⟩ := hlo
        have hpm : ∀ j : Nat, (j : Int) ≤ 60 → 0 ≤ n9 * ((j : Int) + 2) ∧ n9 * ((j : Int) + 2) ≤ 60 * ((j : Int) + 2) := fun j _ => ⟨Int.mul_nonneg (by omega) (by omega), Int.mul_le_mul_of_nonneg_right (by omega) (by omega)⟩
        have hl : runP MP e 307 (42, [some (.ref 217), some (.int (zI x)), some (.int (zI n9)), some (.int (zI 0))], [], mk E (bmF (s5F F r v 0) q r') G) = some (Sum.inl (some (.int (zI v9))), mk E (bmF (s5F F r v 0) q r') G) := by
          refine (loopN (fun j : Nat => runP MP e 307 (42, [some (.ref 217), some (.int (zI x)), some (.int (zI n9)), some (.int (zI (j : Int)))], [], mk E (bmF (s5F F r v 0) q r') G)) v9.toNat (fun j hj => ?_)).trans ?_
          · show runP MP e 307 _ = runP MP e 307 _
            have h1 := va j (by omega) (by omega)
            have h2 := hpm j (by omega)
            rw [nsucc]
            rw [q_307_42]; (try simp only [↓n_rd, ↓n_al, ↓n_cI, li_0, li_1, li_2, li_4, li_5, li_12, li_38, li_60, zI_add, zI_sub, zI_mul, zI_neg, ↓Option.bind_some]); simp (disch := (first | assumption | exact tI_rg _ | omega | exact uR_at | exact row_ne hF (by decide) | exact row_ne (row_ne hF (by decide)) (by decide) | exact SnS_18 | exact SnS_30 | exact LdS_44 | exact LdS_46)) only [q_307_0, q_307_38, q_307_68, hK2, ↓n_rd, ↓n_al, ↓n_cI, li_0, li_1, li_2, li_4, li_5, li_12, li_38, li_60, zI_add, zI_sub, zI_mul, zI_neg, ↓Option.bind_some, ↓g12_0, ↓g12_5, ↓p12_5, ↓al_218, ↓as_218, zIt2, uR_at, uR_ne, uR_uR, uC_uC, uC_at, ↓reduceIte, decide_eq_true_eq, leT, leF, ltT, ltF, eqT, eqF, ne_eq, not_true_eq_false, not_false_eq_true, Bool.false_eq_true, tI_zI]
          · show runP MP e 307 (42, [some (.ref 217), some (.int (zI x)), some (.int (zI n9)), some (.int (zI (v9.toNat : Int)))], [], mk E (bmF (s5F F r v 0) q r') G) = _
            rw [show ((v9.toNat : Nat) : Int) = v9 by omega]
            have h2 := hpm v9.toNat (by omega)
            rw [show ((v9.toNat : Nat) : Int) = v9 by omega] at h2
            by_cases z : v9 < 60
            · have h1 := vb z
              rw [q_307_42]; (try simp only [↓n_rd, ↓n_al, ↓n_cI, li_0, li_1, li_2, li_4, li_5, li_12, li_38, li_60, zI_add, zI_sub, zI_mul, zI_neg, ↓Option.bind_some]); simp (disch := (first | assumption | exact tI_rg _ | omega | exact uR_at | exact row_ne hF (by decide) | exact row_ne (row_ne hF (by decide)) (by decide) | exact SnS_18 | exact SnS_30 | exact LdS_44 | exact LdS_46)) only [q_307_0, q_307_38, q_307_68, hK2, ↓n_rd, ↓n_al, ↓n_cI, li_0, li_1, li_2, li_4, li_5, li_12, li_38, li_60, zI_add, zI_sub, zI_mul, zI_neg, ↓Option.bind_some, ↓g12_0, ↓g12_5, ↓p12_5, ↓al_218, ↓as_218, zIt2, uR_at, uR_ne, uR_uR, uC_uC, uC_at, ↓reduceIte, decide_eq_true_eq, leT, leF, ltT, ltF, eqT, eqF, ne_eq, not_true_eq_false, not_false_eq_true, Bool.false_eq_true, tI_zI]
            · rw [q_307_42]; (try simp only [↓n_rd, ↓n_al, ↓n_cI, li_0, li_1, li_2, li_4, li_5, li_12, li_38, li_60, zI_add, zI_sub, zI_mul, zI_neg, ↓Option.bind_some]); simp (disch := (first | assumption | exact tI_rg _ | omega | exact uR_at | exact row_ne hF (by decide) | exact row_ne (row_ne hF (by decide)) (by decide) | exact SnS_18 | exact SnS_30 | exact LdS_44 | exact LdS_46)) only [q_307_0, q_307_38, q_307_68, hK2, ↓n_rd, ↓n_al, ↓n_cI, li_0, li_1, li_2, li_4, li_5, li_12, li_38, li_60, zI_add, zI_sub, zI_mul, zI_neg, ↓Option.bind_some, ↓g12_0, ↓g12_5, ↓p12_5, ↓al_218, ↓as_218, zIt2, uR_at, uR_ne, uR_uR, uC_uC, uC_at, ↓reduceIte, decide_eq_true_eq, leT, leF, ltT, ltF, eqT, eqF, ne_eq, not_true_eq_false, not_false_eq_true, Bool.false_eq_true, tI_zI]
        rw [q_307_0]; (try simp only [↓n_rd, ↓n_al, ↓n_cI, li_0, li_1, li_2, li_4, li_5, li_12, li_38, li_60, zI_add, zI_sub, zI_mul, zI_neg, ↓Option.bind_some]); simp (disch := (first | assumption | exact tI_rg _ | omega | exact uR_at | exact row_ne hF (by decide) | exact row_ne (row_ne hF (by decide)) (by decide) | exact SnS_18 | exact SnS_30 | exact LdS_44 | exact LdS_46)) only [q_307_38, q_307_68, ↓c299, c0, e5, s5_5, zIt2, ↓c305, hK2, ↓hl, ↓n_rd, ↓n_al, ↓n_cI, li_0, li_1, li_2, li_4, li_5, li_12, li_38, li_60, zI_add, zI_sub, zI_mul, zI_neg, ↓Option.bind_some, ↓g12_0, ↓g12_5, ↓p12_5, ↓al_218, ↓as_218, zIt2, uR_at, uR_ne, uR_uR, uC_uC, uC_at, ↓reduceIte, decide_eq_true_eq, leT, leF, ltT, ltF, eqT, eqF, ne_eq, not_true_eq_false, not_false_eq_true, Bool.false_eq_true, tI_zI]
      · rw [if_pos (show (n9 = -1 ∨ tI (K 4) < n9) by omega)]
        rw [q_307_0]; (try simp only [↓n_rd, ↓n_al, ↓n_cI, li_0, li_1, li_2, li_4, li_5, li_12, li_38, li_60, zI_add, zI_sub, zI_mul, zI_neg, ↓Option.bind_some]); simp (disch := (first | assumption | exact tI_rg _ | omega | exact uR_at | exact row_ne hF (by decide) | exact row_ne (row_ne hF (by decide)) (by decide) | exact SnS_18 | exact SnS_30 | exact LdS_44 | exact LdS_46)) only [q_307_38, q_307_68, ↓c299, c0, e5, s5_5, zIt2, ↓c305, hK2, ↓n_rd, ↓n_al, ↓n_cI, li_0, li_1, li_2, li_4, li_5, li_12, li_38, li_60, zI_add, zI_sub, zI_mul, zI_neg, ↓Option.bind_some, ↓g12_0, ↓g12_5, ↓p12_5, ↓al_218, ↓as_218, zIt2, uR_at, uR_ne, uR_uR, uC_uC, uC_at, ↓reduceIte, decide_eq_true_eq, leT, leF, ltT, ltF, eqT, eqF, ne_eq, not_true_eq_false, not_false_eq_true, Bool.false_eq_true, tI_zI]
  · have ha : a_crowd F G K x = (sgZ F G K x, 0) := sgC2_n c0
    rw [ha]
    refine ⟨s5F F r v (sgZ F G K x), ?_, s5_5, KeepM_s5⟩
    show (_ : ResP) = some (Sum.inl (some (.int (zI 0))), _)
    rw [hin]
    rw [q_307_0]; (try simp only [↓n_rd, ↓n_al, ↓n_cI, li_0, li_1, li_2, li_4, li_5, li_12, li_38, li_60, zI_add, zI_sub, zI_mul, zI_neg, ↓Option.bind_some]); simp (disch := (first | assumption | exact tI_rg _ | omega | exact uR_at | exact row_ne hF (by decide) | exact row_ne (row_ne hF (by decide)) (by decide) | exact SnS_18 | exact SnS_30 | exact LdS_44 | exact LdS_46)) only [q_307_38, q_307_68, ↓c299, e5, s5_5, zIt2, ↓n_rd, ↓n_al, ↓n_cI, li_0, li_1, li_2, li_4, li_5, li_12, li_38, li_60, zI_add, zI_sub, zI_mul, zI_neg, ↓Option.bind_some, ↓g12_0, ↓g12_5, ↓p12_5, ↓al_218, ↓as_218, zIt2, uR_at, uR_ne, uR_uR, uC_uC, uC_at, ↓reduceIte, decide_eq_true_eq, leT, leF, ltT, ltF, eqT, eqF, ne_eq, not_true_eq_false, not_false_eq_true, Bool.false_eq_true, tI_zI]
theorem ml_pens {d : Nat} {E : EnQ} {F : Nat → Int → Int32} {G : Nat → Int → Int64} {K : Int → Int32} (hI : InvK K) (hF : F 218 = K) (h44 : ∀ x, 0 ≤ x → x < 4 → 0 ≤ tI (F 244 x) ∧ tI (F 244 x) ≤ 30) {x : Int} (hx : -2147483648 ≤ x ∧ x ≤ 2147483647) (hd : 5 ≤ d) : ∃ F1, callP MP d 303 [.ref 217, .int (zI x)] (mk E F G) = some (Sum.inl (some (.int (zI (a_pens F G K x).2))), mk E F1 G) ∧ F1 217 5 = zI (a_pens F G K x).1 ∧ KeepM F G F1 G := by
  have hzr := sgZ_rg (F := F) (G := G) (K := K) (x := x)
  have hb1 := hI.1.2.1
  have hb4 := hI.1.2.2.2.2.1
  obtain ⟨e, rfl⟩ : ∃ e, d = e + 1 := ⟨d - 1, by omega⟩
  have hin : callP MP (e + 1) 303 [.ref 217, .int (zI x)] (mk E F G) = runP MP e 303 (0, [some (.ref 217), some (.int (zI x)), none, none], [], mk E F G) := into_eq (by omega) hM_303 (rcv_mk rfl (by decide)) rfl
  obtain ⟨r, v, r1, r2⟩ := ct_299 (d := e) (E := E) (G := G) hI hF h44 hx (by omega)
  have c299 : ∀ {kk : Int → HeapP → ResP} {kx : Nat → HeapP → ResP}, cT (callP MP e 299 [.ref 217, .int (zI x)] (mk E F G)) kk kx = kk (sgZ F G K x) (mk E (sgF F r v) G) := fun {kk kx} => cT_ret r1 (by omega)
  have e5 : ∀ c : Int, uR (sgF F r v) 217 (uC (sgF F r v 217) 5 (zI c)) = s5F F r v c := fun c => rfl
  by_cases c0 : sgZ F G K x = 0
  · obtain ⟨c1, -, -, hS⟩ := sgZ_0 c0
    have ha : a_pens F G K x = (0, ((penN K (toS F G x) (tI (K 1)).toNat : Nat) : Int)) := sgC2_0 c0
    have hM : SgM (s5F F r v 0) (toS F G x) := SgM_5 (r2 c0)
    have hS : SgI (2 * tI (K 2)) (toS F G x) := hS
    have hK : s5F F r v 0 218 = K := by unfold s5F; rw [uR_ne (by decide), sgF_ne (by decide) (by decide)]; exact hF
    rw [ha]
    have hpl : ∀ n, n ≤ 10 → penN K (toS F G x) n < 2 ^ 10 := fun n hn => orN_lt (fun j hj => by
      split
      · omega
      · exact Nat.pow_lt_pow_right (by omega) (by omega))
    have hl : ∃ F1, runP MP e 303 (22, [some (.ref 217), some (.int (zI x)), some (.int (zI 0)), some (.int (zI 0))], [], mk E (s5F F r v 0) G) = some (Sum.inl (some (.int (zI ((penN K (toS F G x) (tI (K 1)).toNat : Nat) : Int)))), mk E F1 G) ∧ F1 217 5 = zI 0 ∧ KeepM F G F1 G := by
      refine loopS (σ := Nat → Int → Int32) (Post := fun z => ∃ F1, z = some (Sum.inl (some (.int (zI ((penN K (toS F G x) (tI (K 1)).toNat : Nat) : Int)))), mk E F1 G) ∧ F1 217 5 = zI 0 ∧ KeepM F G F1 G)
        (fun j s => runP MP e 303 (22, [some (.ref 217), some (.int (zI x)), some (.int (zI ((penN K (toS F G x) j : Nat) : Int))), some (.int (zI (j : Int)))], [], mk E s G))
        (fun j s => SgM s (toS F G x) ∧ s 218 = K ∧ s 217 5 = zI 0 ∧ KeepM F G s G) (tI (K 1)).toNat (s5F F r v 0) ⟨hM, hK, s5_5, KeepM_s5⟩ (fun s hs => ⟨s, ?_, hs.2.2.1, hs.2.2.2⟩) (fun j s hj hs => ?_)
      · obtain ⟨s1, s2, s3, s4⟩ := hs
        show runP MP e 303 _ = _
        rw [q_303_22]; (try simp only [↓n_rd, ↓n_cI, li_0, li_1, li_5, li_12, zI_add, zI_sub, zI_mul, zI_neg, ↓Option.bind_some]); simp (disch := (first | assumption | exact tI_rg _ | omega | exact uR_at | exact row_ne hF (by decide) | exact row_ne (row_ne hF (by decide)) (by decide) | exact SnS_18 | exact SnS_30 | exact LdS_44 | exact LdS_46)) only [q_303_0, q_303_47, ↓cc_214 hI, ↓n_rd, ↓n_cI, li_0, li_1, li_5, li_12, zI_add, zI_sub, zI_mul, zI_neg, ↓Option.bind_some, ↓g12_5, ↓p12_5, zIt2, uR_at, uR_ne, uR_uR, uC_uC, uC_at, ↓reduceIte, decide_eq_true_eq, leT, leF, ltT, ltF, eqT, eqF, ne_eq, not_true_eq_false, not_false_eq_true, Bool.false_eq_true, tI_zI]
      · right
        obtain ⟨s1, s2, s3, s4⟩ := hs
        obtain ⟨q, r', p1⟩ := ct_301 (d := e) (E := E) (G := G) hI s2 s1 hS (p := j) (by omega) (by omega)
        have hwr := wtZ_rg hI hS (p := j) (by omega)
        have c301 : ∀ {kk : Int → HeapP → ResP} {kx : Nat → HeapP → ResP}, cT (callP MP e 301 [.ref 217, .int (zI (j : Int))] (mk E s G)) kk kx = kk (wtZ K (toS F G x) j) (mk E (bmF s q r') G) := fun {kk kx} => cT_ret p1 (by omega)
        refine ⟨bmF s q r', ⟨⟨by rw [bmF_ne (by decide) (by decide)]; exact s1.1, fun k hk => by rw [bmF_ne (by decide) (by decide)]; exact s1.2 k hk⟩, (bmF_ne (by decide) (by decide)).trans s2, by rw [bmF_ne (by decide) (by decide)]; exact s3, s4.tr KeepM_bm⟩, ?_⟩
        show runP MP e 303 _ = runP MP e 303 _
        have e2 : penN K (toS F G x) (j + 1) = penN K (toS F G x) j ||| (if wtZ K (toS F G x) j = -1 then 0 else bitN (j : Int)) := rfl
        rw [e2, nsucc]
        by_cases g : wtZ K (toS F G x) j = -1
        · rw [if_pos g]
          have hz := or0 (penN K (toS F G x) j)
          rw [q_303_22]; (try simp only [↓n_rd, ↓n_cI, li_0, li_1, li_5, li_12, zI_add, zI_sub, zI_mul, zI_neg, ↓Option.bind_some]); simp (disch := (first | assumption | exact tI_rg _ | omega | exact uR_at | exact row_ne hF (by decide) | exact row_ne (row_ne hF (by decide)) (by decide) | exact SnS_18 | exact SnS_30 | exact LdS_44 | exact LdS_46)) only [q_303_0, q_303_47, ↓cc_214 hI, ↓c301, g, hz, ↓n_rd, ↓n_cI, li_0, li_1, li_5, li_12, zI_add, zI_sub, zI_mul, zI_neg, ↓Option.bind_some, ↓g12_5, ↓p12_5, zIt2, uR_at, uR_ne, uR_uR, uC_uC, uC_at, ↓reduceIte, decide_eq_true_eq, leT, leF, ltT, ltF, eqT, eqF, ne_eq, not_true_eq_false, not_false_eq_true, Bool.false_eq_true, tI_zI]
        · rw [if_neg g]
          rw [q_303_22]; (try simp only [↓n_rd, ↓n_cI, li_0, li_1, li_5, li_12, zI_add, zI_sub, zI_mul, zI_neg, ↓Option.bind_some]); simp (disch := (first | assumption | exact tI_rg _ | omega | exact uR_at | exact row_ne hF (by decide) | exact row_ne (row_ne hF (by decide)) (by decide) | exact SnS_18 | exact SnS_30 | exact LdS_44 | exact LdS_46)) only [q_303_0, q_303_47, ↓cc_214 hI, ↓c301, shlB, orZ, ↓n_rd, ↓n_cI, li_0, li_1, li_5, li_12, zI_add, zI_sub, zI_mul, zI_neg, ↓Option.bind_some, ↓g12_5, ↓p12_5, zIt2, uR_at, uR_ne, uR_uR, uC_uC, uC_at, ↓reduceIte, decide_eq_true_eq, leT, leF, ltT, ltF, eqT, eqF, ne_eq, not_true_eq_false, not_false_eq_true, Bool.false_eq_true, tI_zI]
    obtain ⟨F1, l1, l2, l3⟩ := hl
    refine ⟨F1, ?_, l2, l3⟩
    show (_ : ResP) = some (Sum.inl (some (.int (zI ((penN K (toS F G x) (tI (K 1)).toNat : Nat) : Int)))), _)
    rw [hin, ← l1]
    rw [q_303_0]; (try simp only [↓n_rd, ↓n_cI, li_0, li_1, li_5, li_12, zI_add, zI_sub, zI_mul, zI_neg, ↓Option.bind_some]); simp (disch := (first | assumption | exact tI_rg _ | omega | exact uR_at | exact row_ne hF (by decide) | exact row_ne (row_ne hF (by decide)) (by decide) | exact SnS_18 | exact SnS_30 | exact LdS_44 | exact LdS_46)) only [q_303_47, ↓c299, c0, e5, s5_5, zIt2, ↓n_rd, ↓n_cI, li_0, li_1, li_5, li_12, zI_add, zI_sub, zI_mul, zI_neg, ↓Option.bind_some, ↓g12_5, ↓p12_5, zIt2, uR_at, uR_ne, uR_uR, uC_uC, uC_at, ↓reduceIte, decide_eq_true_eq, leT, leF, ltT, ltF, eqT, eqF, ne_eq, not_true_eq_false, not_false_eq_true, Bool.false_eq_true, tI_zI]
  · have ha : a_pens F G K x = (sgZ F G K x, 0) := sgC2_n c0
    rw [ha]
    refine ⟨s5F F r v (sgZ F G K x), ?_, s5_5, KeepM_s5⟩
    show (_ : ResP) = some (Sum.inl (some (.int (zI 0))), _)
    rw [hin]
    rw [q_303_0]; (try simp only [↓n_rd, ↓n_cI, li_0, li_1, li_5, li_12, zI_add, zI_sub, zI_mul, zI_neg, ↓Option.bind_some]); simp (disch := (first | assumption | exact tI_rg _ | omega | exact uR_at | exact row_ne hF (by decide) | exact row_ne (row_ne hF (by decide)) (by decide) | exact SnS_18 | exact SnS_30 | exact LdS_44 | exact LdS_46)) only [q_303_47, ↓c299, e5, s5_5, zIt2, ↓n_rd, ↓n_cI, li_0, li_1, li_5, li_12, zI_add, zI_sub, zI_mul, zI_neg, ↓Option.bind_some, ↓g12_5, ↓p12_5, zIt2, uR_at, uR_ne, uR_uR, uC_uC, uC_at, ↓reduceIte, decide_eq_true_eq, leT, leF, ltT, ltF, eqT, eqF, ne_eq, not_true_eq_false, not_false_eq_true, Bool.false_eq_true, tI_zI]
theorem ml_lasts {d : Nat} {E : EnQ} {F : Nat → Int → Int32} {G : Nat → Int → Int64} {K : Int → Int32} (hI : InvK K) (hF : F 218 = K) (h44 : ∀ x, 0 ≤ x → x < 4 → 0 ≤ tI (F 244 x) ∧ tI (F 244 x) ≤ 30) {x : Int} (hx : -2147483648 ≤ x ∧ x ≤ 2147483647) (hd : 5 ≤ d) : ∃ F1, callP MP d 308 [.ref 217, .int (zI x)] (mk E F G) = some (Sum.inl (some (.int (zI (a_lasts F G K x).2))), mk E F1 G) ∧ F1 217 5 = zI (a_lasts F G K x).1 ∧ KeepM F G F1 G := by
  have hzr := sgZ_rg (F := F) (G := G) (K := K) (x := x)
  have hb1 := hI.1.2.1
  have hb4 := hI.1.2.2.2.2.1
  obtain ⟨e, rfl⟩ : ∃ e, d = e + 1 := ⟨d - 1, by omega⟩
  have hin : callP MP (e + 1) 308 [.ref 217, .int (zI x)] (mk E F G) = runP MP e 308 (0, [some (.ref 217), some (.int (zI x)), none, none, none], [], mk E F G) := into_eq (by omega) hM_308 (rcv_mk rfl (by decide)) rfl
  obtain ⟨r, v, r1, r2⟩ := ct_299 (d := e) (E := E) (G := G) hI hF h44 hx (by omega)
  have c299 : ∀ {kk : Int → HeapP → ResP} {kx : Nat → HeapP → ResP}, cT (callP MP e 299 [.ref 217, .int (zI x)] (mk E F G)) kk kx = kk (sgZ F G K x) (mk E (sgF F r v) G) := fun {kk kx} => cT_ret r1 (by omega)
  have e5 : ∀ c : Int, uR (sgF F r v) 217 (uC (sgF F r v 217) 5 (zI c)) = s5F F r v c := fun c => rfl
  by_cases c0 : sgZ F G K x = 0
  · obtain ⟨c1, -, -, hS⟩ := sgZ_0 c0
    have ha : a_lasts F G K x = (0, laZ K (toS F G x)) := sgC2_0 c0
    have hM : SgM (s5F F r v 0) (toS F G x) := SgM_5 (r2 c0)
    have hS : SgI (2 * tI (K 2)) (toS F G x) := hS
    have hK : s5F F r v 0 218 = K := by unfold s5F; rw [uR_ne (by decide), sgF_ne (by decide) (by decide)]; exact hF
    rw [ha]
    refine ⟨s5F F r v 0, ?_, s5_5, KeepM_s5⟩
    show (_ : ResP) = some (Sum.inl (some (.int (zI (laZ K (toS F G x))))), _)
    have h8 := hS.1
    have hb2 := hI.1.2.2.1
    have hb5 := hI.1.2.2.2.2.2.1
    have e49 : tI (s5F F r v 0 217 49) = ((toS F G x).1 : Int) := by rw [hM.1, tI_zI (by omega)]
    have hmr : ∀ j, -1 ≤ mnZ (fun k => tlZ K ((toS F G x).2 k)) j ∧ mnZ (fun k => tlZ K ((toS F G x).2 k)) j ≤ 60 := mn_rg (fun q => by have := tlZ_rg hI ((toS F G x).2 q); omega) (by omega)
    have hl : runP MP e 308 (22, [some (.ref 217), some (.int (zI x)), some (.int (zI (-1))), some (.int (zI 0)), none], [], mk E (s5F F r v 0) G) = some (Sum.inl (some (.int (zI (laZ K (toS F G x))))), mk E (s5F F r v 0) G) := by
      refine loopS (σ := Option Value) (Post := fun z => z = some (Sum.inl (some (.int (zI (laZ K (toS F G x))))), mk E (s5F F r v 0) G))
        (fun j s => runP MP e 308 (22, [some (.ref 217), some (.int (zI x)), some (.int (zI (mnZ (fun k => tlZ K ((toS F G x).2 k)) j))), some (.int (zI (j : Int))), s], [], mk E (s5F F r v 0) G))
        (fun _ _ => True) (toS F G x).1 none trivial (fun s _ => ?_) (fun j s hj _ => ?_)
      · show runP MP e 308 _ = _
        unfold laZ
        rw [q_308_22]; (try simp only [↓n_rd, ↓n_al, ↓n_cI, li_0, li_1, li_5, li_12, li_46, li_255, zI_add, zI_sub, zI_mul, zI_neg, ↓Option.bind_some]); simp (disch := (first | assumption | exact tI_rg _ | omega | exact uR_at | exact row_ne hF (by decide) | exact row_ne (row_ne hF (by decide)) (by decide) | exact SnS_18 | exact SnS_30 | exact LdS_44 | exact LdS_46)) only [q_308_0, q_308_62, e49, ↓n_rd, ↓n_al, ↓n_cI, li_0, li_1, li_5, li_12, li_46, li_255, zI_add, zI_sub, zI_mul, zI_neg, ↓Option.bind_some, ↓g12_46, ↓g12_49, ↓g12_5, ↓p12_5, ↓al_239, ↓as_239, zIt2, uR_at, uR_ne, uR_uR, uC_uC, uC_at, ↓reduceIte, decide_eq_true_eq, leT, leF, ltT, ltF, eqT, eqF, ne_eq, not_true_eq_false, not_false_eq_true, Bool.false_eq_true, tI_zI]
      · right
        have hsr := hS.2.1 j hj
        have e39 : tI (s5F F r v 0 239 (j : Int)) = (toS F G x).2 j := by rw [hM.2 j hj, tI_zI (by omega)]
        have htr := tlZ_rg hI ((toS F G x).2 j)
        have hlr := lstN_rg (fun k : Nat => prW K k == (toS F G x).2 j) (tI (K 5)).toNat
        have c255 : ∀ {kk : Int → HeapP → ResP} {kx : Nat → HeapP → ResP}, cT (callP MP e 255 [.ref 217, .int (zI (lstN (fun k : Nat => prW K k == (toS F G x).2 j) (tI (K 5)).toNat))] (mk E (s5F F r v 0) G)) kk kx = kk (tlZ K ((toS F G x).2 j)) (mk E (s5F F r v 0) G) := fun {kk kx} => cc_255 hI hK (by omega) (by omega)
        have e2 : mnZ (fun k => tlZ K ((toS F G x).2 k)) (j + 1) = if tlZ K ((toS F G x).2 j) = -1 then mnZ (fun k => tlZ K ((toS F G x).2 k)) j else if mnZ (fun k => tlZ K ((toS F G x).2 k)) j = -1 ∨ tlZ K ((toS F G x).2 j) < mnZ (fun k => tlZ K ((toS F G x).2 k)) j then tlZ K ((toS F G x).2 j) else mnZ (fun k => tlZ K ((toS F G x).2 k)) j := rfl
        have hm9 := hmr j
        refine ⟨some (.int (zI (tlZ K ((toS F G x).2 j)))), trivial, ?_⟩
        show runP MP e 308 _ = runP MP e 308 _
        rw [nsucc, e2, if_neg (by omega)]
        generalize tlZ K ((toS F G x).2 j) = t9 at *
        generalize mnZ (fun k => tlZ K ((toS F G x).2 k)) j = m9 at *
        by_cases g1 : m9 = -1
        · rw [if_pos (Or.inl g1)]
          rw [q_308_22]; (try simp only [↓n_rd, ↓n_al, ↓n_cI, li_0, li_1, li_5, li_12, li_46, li_255, zI_add, zI_sub, zI_mul, zI_neg, ↓Option.bind_some]); simp (disch := (first | assumption | exact tI_rg _ | omega | exact uR_at | exact row_ne hF (by decide) | exact row_ne (row_ne hF (by decide)) (by decide) | exact SnS_18 | exact SnS_30 | exact LdS_44 | exact LdS_46)) only [q_308_0, q_308_62, e49, e39, ↓cc_249 hI, ↓c255, g1, ↓n_rd, ↓n_al, ↓n_cI, li_0, li_1, li_5, li_12, li_46, li_255, zI_add, zI_sub, zI_mul, zI_neg, ↓Option.bind_some, ↓g12_46, ↓g12_49, ↓g12_5, ↓p12_5, ↓al_239, ↓as_239, zIt2, uR_at, uR_ne, uR_uR, uC_uC, uC_at, ↓reduceIte, decide_eq_true_eq, leT, leF, ltT, ltF, eqT, eqF, ne_eq, not_true_eq_false, not_false_eq_true, Bool.false_eq_true, tI_zI]
        · have hmin := minZ (a := t9) (b := m9) (by omega)
          by_cases g2 : t9 < m9
          · rw [if_pos (Or.inr g2)]
            rw [q_308_22]; (try simp only [↓n_rd, ↓n_al, ↓n_cI, li_0, li_1, li_5, li_12, li_46, li_255, zI_add, zI_sub, zI_mul, zI_neg, ↓Option.bind_some]); simp (disch := (first | assumption | exact tI_rg _ | omega | exact uR_at | exact row_ne hF (by decide) | exact row_ne (row_ne hF (by decide)) (by decide) | exact SnS_18 | exact SnS_30 | exact LdS_44 | exact LdS_46)) only [q_308_0, q_308_62, e49, e39, ↓cc_249 hI, ↓c255, hmin, ↓n_rd, ↓n_al, ↓n_cI, li_0, li_1, li_5, li_12, li_46, li_255, zI_add, zI_sub, zI_mul, zI_neg, ↓Option.bind_some, ↓g12_46, ↓g12_49, ↓g12_5, ↓p12_5, ↓al_239, ↓as_239, zIt2, uR_at, uR_ne, uR_uR, uC_uC, uC_at, ↓reduceIte, decide_eq_true_eq, leT, leF, ltT, ltF, eqT, eqF, ne_eq, not_true_eq_false, not_false_eq_true, Bool.false_eq_true, tI_zI]
          · rw [if_neg (by omega)]
            rw [q_308_22]; (try simp only [↓n_rd, ↓n_al, ↓n_cI, li_0, li_1, li_5, li_12, li_46, li_255, zI_add, zI_sub, zI_mul, zI_neg, ↓Option.bind_some]); simp (disch := (first | assumption | exact tI_rg _ | omega | exact uR_at | exact row_ne hF (by decide) | exact row_ne (row_ne hF (by decide)) (by decide) | exact SnS_18 | exact SnS_30 | exact LdS_44 | exact LdS_46)) only [q_308_0, q_308_62, e49, e39, ↓cc_249 hI, ↓c255, hmin, ↓n_rd, ↓n_al, ↓n_cI, li_0, li_1, li_5, li_12, li_46, li_255, zI_add, zI_sub, zI_mul, zI_neg, ↓Option.bind_some, ↓g12_46, ↓g12_49, ↓g12_5, ↓p12_5, ↓al_239, ↓as_239, zIt2, uR_at, uR_ne, uR_uR, uC_uC, uC_at, ↓reduceIte, decide_eq_true_eq, leT, leF, ltT, ltF, eqT, eqF, ne_eq, not_true_eq_false, not_false_eq_true, Bool.false_eq_true, tI_zI]
    rw [hin, ← hl]
    rw [q_308_0]; (try simp only [↓n_rd, ↓n_al, ↓n_cI, li_0, li_1, li_5, li_12, li_46, li_255, zI_add, zI_sub, zI_mul, zI_neg, ↓Option.bind_some]); simp (disch := (first | assumption | exact tI_rg _ | omega | exact uR_at | exact row_ne hF (by decide) | exact row_ne (row_ne hF (by decide)) (by decide) | exact SnS_18 | exact SnS_30 | exact LdS_44 | exact LdS_46)) only [q_308_62, ↓c299, c0, e5, s5_5, zIt2, ↓n_rd, ↓n_al, ↓n_cI, li_0, li_1, li_5, li_12, li_46, li_255, zI_add, zI_sub, zI_mul, zI_neg, ↓Option.bind_some, ↓g12_46, ↓g12_49, ↓g12_5, ↓p12_5, ↓al_239, ↓as_239, zIt2, uR_at, uR_ne, uR_uR, uC_uC, uC_at, ↓reduceIte, decide_eq_true_eq, leT, leF, ltT, ltF, eqT, eqF, ne_eq, not_true_eq_false, not_false_eq_true, Bool.false_eq_true, tI_zI]
  · have ha : a_lasts F G K x = (sgZ F G K x, 0) := sgC2_n c0
    rw [ha]
    refine ⟨s5F F r v (sgZ F G K x), ?_, s5_5, KeepM_s5⟩
    show (_ : ResP) = some (Sum.inl (some (.int (zI 0))), _)
    rw [hin]
    rw [q_308_0]; (try simp only [↓n_rd, ↓n_al, ↓n_cI, li_0, li_1, li_5, li_12, li_46, li_255, zI_add, zI_sub, zI_mul, zI_neg, ↓Option.bind_some]); simp (disch := (first | assumption | exact tI_rg _ | omega | exact uR_at | exact row_ne hF (by decide) | exact row_ne (row_ne hF (by decide)) (by decide) | exact SnS_18 | exact SnS_30 | exact LdS_44 | exact LdS_46)) only [q_308_62, ↓c299, e5, s5_5, zIt2, ↓n_rd, ↓n_al, ↓n_cI, li_0, li_1, li_5, li_12, li_46, li_255, zI_add, zI_sub, zI_mul, zI_neg, ↓Option.bind_some, ↓g12_46, ↓g12_49, ↓g12_5, ↓p12_5, ↓al_239, ↓as_239, zIt2, uR_at, uR_ne, uR_uR, uC_uC, uC_at, ↓reduceIte, decide_eq_true_eq, leT, leF, ltT, ltF, eqT, eqF, ne_eq, not_true_eq_false, not_false_eq_true, Bool.false_eq_true, tI_zI]
theorem ml_writes {d : Nat} {E : EnQ} {F : Nat → Int → Int32} {G : Nat → Int → Int64} {K : Int → Int32} (hI : InvK K) (hF : F 218 = K) (h44 : ∀ x, 0 ≤ x → x < 4 → 0 ≤ tI (F 244 x) ∧ tI (F 244 x) ≤ 30) {x y : Int} (hx : -2147483648 ≤ x ∧ x ≤ 2147483647) (hy : -2147483648 ≤ y ∧ y ≤ 2147483647) (hd : 5 ≤ d) : ∃ F1, callP MP d 298 [.ref 217, .int (zI x), .int (zI y)] (mk E F G) = some (Sum.inl (some (.int (zI (a_writes F G K x y).2))), mk E F1 G) ∧ F1 217 5 = zI (a_writes F G K x y).1 ∧ KeepM F G F1 G := by
  have hzr := sgZ_rg (F := F) (G := G) (K := K) (x := y)
  have hb1 := hI.1.2.1
  by_cases c1 : 0 ≤ x ∧ x < tI (K 1)
  · obtain ⟨e, rfl⟩ : ∃ e, d = e + 1 := ⟨d - 1, by omega⟩
    have hin : callP MP (e + 1) 298 [.ref 217, .int (zI x), .int (zI y)] (mk E F G) = runP MP e 298 (0, [some (.ref 217), some (.int (zI x)), some (.int (zI y))], [], mk E F G) := into_eq (by omega) hM_298 (rcv_mk rfl (by decide)) rfl
    obtain ⟨r, v, r1, r2⟩ := ct_299 (d := e) (E := E) (G := G) hI hF h44 hy (by omega)
    have c299 : ∀ {kk : Int → HeapP → ResP} {kx : Nat → HeapP → ResP}, cT (callP MP e 299 [.ref 217, .int (zI y)] (mk E F G)) kk kx = kk (sgZ F G K y) (mk E (sgF F r v) G) := fun {kk kx} => cT_ret r1 (by omega)
    have e5 : ∀ c : Int, uR (sgF F r v) 217 (uC (sgF F r v 217) 5 (zI c)) = s5F F r v c := fun c => rfl
    by_cases c0 : sgZ F G K y = 0
    · obtain ⟨-, -, -, hS⟩ := sgZ_0 c0
      have ha : a_writes F G K x y = (0, wtZ K (toS F G y) x.toNat) := (if_pos c1).trans (sgC2_0 c0)
      have hM : SgM (s5F F r v 0) (toS F G y) := SgM_5 (r2 c0)
      have hS : SgI (2 * tI (K 2)) (toS F G y) := hS
      have hK : s5F F r v 0 218 = K := by unfold s5F; rw [uR_ne (by decide), sgF_ne (by decide) (by decide)]; exact hF
      obtain ⟨q, r', p1⟩ := ct_301 (d := e) (E := E) (G := G) hI hK hM hS (p := x.toNat) (by omega) (by omega)
      rw [show ((x.toNat : Nat) : Int) = x by omega] at p1
      have hwr := wtZ_rg hI hS (p := x.toNat) (by omega)
      have c301 : ∀ {kk : Int → HeapP → ResP} {kx : Nat → HeapP → ResP}, cT (callP MP e 301 [.ref 217, .int (zI x)] (mk E (s5F F r v 0) G)) kk kx = kk (wtZ K (toS F G y) x.toNat) (mk E (bmF (s5F F r v 0) q r') G) := fun {kk kx} => cT_ret p1 (by omega)
      rw [ha]
      refine ⟨bmF (s5F F r v 0) q r', ?_, bs_5, KeepM_s5.tr KeepM_bm⟩
      show (_ : ResP) = some (Sum.inl (some (.int (zI (wtZ K (toS F G y) x.toNat)))), _)
      rw [hin]
      rw [q_298_0]; (try simp only [↓n_rd, ↓n_cI, li_0, li_1, li_5, li_12, li_38, lj_0, lj_1, lj_5, lj_12, zJ_add, zJ_sub, zJ_mul, zJ_neg, zJ_l2i, zI_add, zI_sub, zI_mul, zI_neg, ↓Option.bind_some]); simp (disch := (first | assumption | exact tI_rg _ | omega | exact uR_at | exact row_ne hF (by decide) | exact row_ne (row_ne hF (by decide)) (by decide) | exact SnS_18 | exact SnS_30 | exact LdS_44 | exact LdS_46)) only [q_298_19, q_298_38, zI_i2l, ↓cc_213t hI, ↓c299, c0, e5, s5_5, zIt2, ↓c301, ↓n_rd, ↓n_cI, li_0, li_1, li_5, li_12, li_38, lj_0, lj_1, lj_5, lj_12, zJ_add, zJ_sub, zJ_mul, zJ_neg, zJ_l2i, tJ_zJ, zI_add, zI_sub, zI_mul, zI_neg, ↓Option.bind_some, ↓g12_5, ↓p12_5, zIt2, uR_at, uR_ne, uR_uR, uC_uC, uC_at, ↓reduceIte, decide_eq_true_eq, leT, leF, ltT, ltF, eqT, eqF, ne_eq, not_true_eq_false, not_false_eq_true, Bool.false_eq_true, tI_zI]
    · have ha : a_writes F G K x y = (sgZ F G K y, 0) := (if_pos c1).trans (sgC2_n c0)
      rw [ha]
      refine ⟨s5F F r v (sgZ F G K y), ?_, s5_5, KeepM_s5⟩
      show (_ : ResP) = some (Sum.inl (some (.int (zI 0))), _)
      rw [hin]
      rw [q_298_0]; (try simp only [↓n_rd, ↓n_cI, li_0, li_1, li_5, li_12, li_38, lj_0, lj_1, lj_5, lj_12, zJ_add, zJ_sub, zJ_mul, zJ_neg, zJ_l2i, zI_add, zI_sub, zI_mul, zI_neg, ↓Option.bind_some]); simp (disch := (first | assumption | exact tI_rg _ | omega | exact uR_at | exact row_ne hF (by decide) | exact row_ne (row_ne hF (by decide)) (by decide) | exact SnS_18 | exact SnS_30 | exact LdS_44 | exact LdS_46)) only [q_298_19, q_298_38, zI_i2l, ↓cc_213t hI, ↓c299, e5, s5_5, zIt2, ↓n_rd, ↓n_cI, li_0, li_1, li_5, li_12, li_38, lj_0, lj_1, lj_5, lj_12, zJ_add, zJ_sub, zJ_mul, zJ_neg, zJ_l2i, tJ_zJ, zI_add, zI_sub, zI_mul, zI_neg, ↓Option.bind_some, ↓g12_5, ↓p12_5, zIt2, uR_at, uR_ne, uR_uR, uC_uC, uC_at, ↓reduceIte, decide_eq_true_eq, leT, leF, ltT, ltF, eqT, eqF, ne_eq, not_true_eq_false, not_false_eq_true, Bool.false_eq_true, tI_zI]
  · have ha : a_writes F G K x y = (1, 0) := if_neg c1
    rw [ha]
    refine ⟨uR F 217 (uC (F 217) 5 (zI 1)), ?_, by rw [uR_at, uC_at], KeepM_c⟩
    show (_ : ResP) = some (Sum.inl (some (.int (zI 0))), _)
    refine into (D := 4) (by omega) hM_298 (rcv_mk rfl (by decide)) rfl fun d hd => ?_
    show runP MP d 298 (0, [some (.ref 217), some (.int (zI x)), some (.int (zI y))], [], _) = _
    rw [q_298_0]; (try simp only [↓n_rd, ↓n_cI, li_0, li_1, li_5, li_12, li_38, lj_0, lj_1, lj_5, lj_12, zJ_add, zJ_sub, zJ_mul, zJ_neg, zJ_l2i, zI_add, zI_sub, zI_mul, zI_neg, ↓Option.bind_some]); simp (disch := (first | assumption | exact tI_rg _ | omega | exact uR_at | exact row_ne hF (by decide) | exact row_ne (row_ne hF (by decide)) (by decide) | exact SnS_18 | exact SnS_30 | exact LdS_44 | exact LdS_46)) only [q_298_19, q_298_38, zI_i2l, ↓cc_213f hI, ↓n_rd, ↓n_cI, li_0, li_1, li_5, li_12, li_38, lj_0, lj_1, lj_5, lj_12, zJ_add, zJ_sub, zJ_mul, zJ_neg, zJ_l2i, tJ_zJ, zI_add, zI_sub, zI_mul, zI_neg, ↓Option.bind_some, ↓g12_5, ↓p12_5, zIt2, uR_at, uR_ne, uR_uR, uC_uC, uC_at, ↓reduceIte, decide_eq_true_eq, leT, leF, ltT, ltF, eqT, eqF, ne_eq, not_true_eq_false, not_false_eq_true, Bool.false_eq_true, tI_zI]
end S94zy
