/-! MODEL: goes -/
section S93r
set_option linter.unusedVariables false
set_option linter.unusedSimpArgs false
theorem ct_u232 {d : Nat} {E : EnQ} {F : Nat → Int → Int32} {G : Nat → Int → Int64} (hb : 0 ≤ tI (F 218 3) ∧ tI (F 218 3) ≤ 4) (hd : 2 ≤ d) : callP MP d 232 [.ref 217] (mk E F G) = some (Sum.inl (some (.int (zI (stepsZ (F 218))))), mk E F G) := by

  refine into (D := 1) (by omega) hM_232 (rcv_mk rfl (by decide)) rfl fun d hd => ?_
  show runP MP d 232 (0, [some (.ref 217), none, none], [], _) = _
  rw [q_232_0]
  unfold stepsZ
  refine (loopN (fun j : Nat => runP MP d 232 (4, [some (.ref 217), some (.int (zI (sumN (fun x : Nat => tI (F 218 (39 + 2 * x))) j))), some (.int (zI ((j : Nat))))], [], mk E F G)) ((tI (F 218 3)).toNat) (fun j hj => ?_)).trans ?_
  · show runP MP d 232 (4, [some (.ref 217), some (.int (zI (sumN (fun x : Nat => tI (F 218 (39 + 2 * x))) j))), some (.int (zI ((j : Nat))))], [], mk E F G) = runP MP d 232 (4, [some (.ref 217), some (.int (zI (sumN (fun x : Nat => tI (F 218 (39 + 2 * x))) (j + 1)))), some (.int (zI (((j + 1) : Nat))))], [], mk E F G)
    have e39 : 38 + 2 * (j : Int) + 1 = 39 + 2 * (j : Int) := by omega
    rw [show sumN (fun x : Nat => tI (F 218 (39 + 2 * x))) (j + 1) = sumN (fun x : Nat => tI (F 218 (39 + 2 * x))) j + tI (F 218 (39 + 2 * (j : Int))) from rfl, nsucc]
    rw [q_232_4]; (try simp only [↓n_al, ↓n_cI, li_0, li_1, li_2, li_4, li_12, li_38, zI_add, zI_sub, zI_mul, zI_neg, ↓Option.bind_some]); simp (disch := (first | assumption | exact tI_rg _ | omega | exact uR_at | exact row_ne hF (by decide) | exact row_ne (row_ne hF (by decide)) (by decide) | exact SnS_18 | exact SnS_30 | exact LdS_44 | exact LdS_46)) only [q_232_0, ↓cc_u220, e39, ↓n_al, ↓n_cI, li_0, li_1, li_2, li_4, li_12, li_38, zI_add, zI_sub, zI_mul, zI_neg, ↓Option.bind_some, ↓g12_0, ↓al_218, ↓as_218, zIt2, uR_at, uR_ne, uR_uR, uC_uC, uC_at, ↓reduceIte, decide_eq_true_eq, leT, leF, ltT, ltF, eqT, eqF, ne_eq, not_true_eq_false, not_false_eq_true, Bool.false_eq_true, tI_zI]
  · show runP MP d 232 (4, [some (.ref 217), some (.int (zI (sumN (fun x : Nat => tI (F 218 (39 + 2 * x))) ((tI (F 218 3)).toNat)))), some (.int (zI ((((tI (F 218 3)).toNat) : Nat))))], [], mk E F G) = _
    rw [q_232_4]; (try simp only [↓n_al, ↓n_cI, li_0, li_1, li_2, li_4, li_12, li_38, zI_add, zI_sub, zI_mul, zI_neg, ↓Option.bind_some]); simp (disch := (first | assumption | exact tI_rg _ | omega | exact uR_at | exact row_ne hF (by decide) | exact row_ne (row_ne hF (by decide)) (by decide) | exact SnS_18 | exact SnS_30 | exact LdS_44 | exact LdS_46)) only [q_232_0, ↓cc_u220, ↓n_al, ↓n_cI, li_0, li_1, li_2, li_4, li_12, li_38, zI_add, zI_sub, zI_mul, zI_neg, ↓Option.bind_some, ↓g12_0, ↓al_218, ↓as_218, zIt2, uR_at, uR_ne, uR_uR, uC_uC, uC_at, ↓reduceIte, decide_eq_true_eq, leT, leF, ltT, ltF, eqT, eqF, ne_eq, not_true_eq_false, not_false_eq_true, Bool.false_eq_true, tI_zI]
theorem cc_u232 {d : Nat} {E : EnQ} {F : Nat → Int → Int32} {G : Nat → Int → Int64} {kk : Int → HeapP → ResP} {kx : Nat → HeapP → ResP} (hb : 0 ≤ tI (F 218 3) ∧ tI (F 218 3) ≤ 4) (hd : 2 ≤ d) (hv : -2147483648 ≤ stepsZ (F 218) ∧ stepsZ (F 218) ≤ 2147483647) : cT (callP MP d 232 [.ref 217] (mk E F G)) kk kx = kk (stepsZ (F 218)) (mk E F G) := cT_ret (by apply ct_u232 <;> assumption) hv
theorem adm_eq {K : Int → Int32} {v x p n i1 i2 i3 i4 a b : Int} (hx : 0 ≤ x ∧ x < 4) (hn : n = tI (K 5)) (h5 : 0 ≤ tI (K 5)) (h1 : i1 = 46 + 2 * n) (h2 : i2 = 47 + 2 * n) (h3 : i3 = 38 + 2 * x) (h4 : i4 = 39 + 2 * x) (ha : a = n + 1) (hb : b = tI (K (39 + 2 * x)) + 1) :
    uC (uC (uC (uC (uC K i1 (zI v)) i2 (zI x)) 5 (zI a)) i3 (zI p)) i4 (zI b) = admK K v x p := by
  subst hn; subst h1; subst h2; subst h3; subst h4; subst ha; subst hb
  funext j
  unfold admK movK addK uC
  by_cases e1 : j = 39 + 2 * x
  · rw [if_pos e1, if_pos e1]; (try dsimp only); rw [if_neg (by omega), if_neg (by omega), if_neg (by omega)]
  · rw [if_neg e1, if_neg e1]
    by_cases e2 : j = 38 + 2 * x
    · rw [if_pos e2, if_pos e2]
    · rw [if_neg e2, if_neg e2]; dsimp only
      by_cases e3 : j = 5
      · rw [if_pos e3, if_pos e3]
      · rw [if_neg e3, if_neg e3]
        by_cases e4 : j = 47 + 2 * tI (K 5)
        · rw [if_pos e4, if_neg (by omega), if_pos e4]
        · rw [if_neg e4]
          by_cases e5 : j = 46 + 2 * tI (K 5)
          · rw [if_pos e5, if_pos e5]
          · rw [if_neg e5, if_neg e5, if_neg e4]
/-- the last part of goes, from a row with room for a print -/
def finK (c : Bool) (K : Int → Int32) (v x p : Int) : Int → Int32 := if c = false ∧ 0 < tI (admK K v x p 166) ∧ stepsZ (admK K v x p) % tI (admK K v x p 166) = 0 then losK (admK K v x p) (if tI (admK K v x p 5) ≤ tI (admK K v x p 167) then tI (admK K v x p 5) else tI (admK K v x p 167)) else admK K v x p
theorem go35 {d : Nat} {E : EnQ} {F : Nat → Int → Int32} {G : Nat → Int → Int64} {K : Int → Int32} (hF : F 218 = K) {c : Bool} (hc : tI (F 217 18) = if c = true then 1 else 0) {v x p : Int} (h5 : 0 ≤ tI (K 5) ∧ tI (K 5) ≤ 59) (hx : 0 ≤ x ∧ x < 4) (h3 : 0 ≤ tI (K 3) ∧ tI (K 3) ≤ 4) (h66 : 0 ≤ tI (K 166) ∧ tI (K 166) ≤ 99) (h67 : 0 ≤ tI (K 167) ∧ tI (K 167) ≤ 60) (hst : 0 ≤ stepsZ (admK K v x p) ∧ stepsZ (admK K v x p) ≤ 2147483647) (hd : 2 ≤ d) :
    runP MP d 230 (35, [some (.ref 217), some (.int (zI x)), some (.int (zI p)), some (.int (zI v))], [], mk E F G) = some (Sum.inl none, mk E (uR F 218 (finK c K v x p)) G) := by
  have a5 : ∀ y z, uC (uC K (46 + 2 * tI (K 5)) y) (46 + 2 * tI (K 5) + 1) z 5 = K 5 := fun y z => (uC_ne (by omega)).trans (uC_ne (by omega))
  have a5' : ∀ y, uC K (46 + 2 * tI (K 5)) y 5 = K 5 := fun y => uC_ne (by omega)
  have a39 : ∀ y z u t, uC (uC (uC (uC K (46 + 2 * tI (K 5)) y) (46 + 2 * tI (K 5) + 1) z) 5 u) (38 + 2 * x) t (38 + 2 * x + 1) = K (39 + 2 * x) := fun y z u t => (uC_ne (by omega)).trans ((uC_ne (by omega)).trans ((uC_ne (by omega)).trans ((uC_ne (by omega)).trans (congrArg K (by omega)))))
  have aE : uC (uC (uC (uC (uC K (46 + 2 * tI (K 5)) (zI v)) (46 + 2 * tI (K 5) + 1) (zI x)) 5 (zI (tI (K 5) + 1))) (38 + 2 * x) (zI p)) (38 + 2 * x + 1) (zI (tI (K (39 + 2 * x)) + 1)) = admK K v x p := adm_eq hx rfl h5.1 rfl (by omega) rfl (by omega) rfl rfl
  have e66 : admK K v x p 166 = K 166 := admK_lo (by omega) hx h5.1 (by omega)
  have e67 : admK K v x p 167 = K 167 := admK_lo (by omega) hx h5.1 (by omega)
  have e3 : admK K v x p 3 = K 3 := admK_lo (by omega) hx h5.1 (by omega)
  have e5 := admK_5 (v := v) (p := p) hx (K := K) ⟨h5.1, by omega⟩
  unfold finK
  rw [e66, e67, e5]
  cases c with
  | true =>
    rw [if_neg (by simp)]
    have hc' : tI (F 217 18) = 1 := hc
    rw [q_230_35]; (try simp only [↓n_rd, ↓n_al, ↓n_irem, ↓n_cI, li_0, li_1, li_2, li_4, li_5, li_12, li_38, li_46, li_166, li_167, li_210, zI_add, zI_sub, zI_mul, zI_neg, ↓Option.bind_some]); simp (disch := (first | assumption | exact tI_rg _ | omega | exact uR_at | exact row_ne hF (by decide) | exact row_ne (row_ne hF (by decide)) (by decide) | exact SnS_18 | exact SnS_30 | exact LdS_44 | exact LdS_46)) only [q_230_0, q_230_159, hF, ↓cc_u210, a5, a5', a39, aE, hc', ↓n_rd, ↓n_al, ↓n_irem, ↓n_cI, ↓b_irem, li_0, li_1, li_2, li_4, li_5, li_12, li_38, li_46, li_166, li_167, li_210, zI_add, zI_sub, zI_mul, zI_neg, ↓Option.bind_some, ↓g12_0, ↓g12_18, ↓al_218, ↓as_218, zIt2, uR_at, uR_ne, uR_uR, uC_uC, uC_at, ↓reduceIte, decide_eq_true_eq, leT, leF, ltT, ltF, eqT, eqF, ne_eq, not_true_eq_false, not_false_eq_true, Bool.false_eq_true, tI_zI]
  | false =>
    have hc' : tI (F 217 18) = 0 := hc
    by_cases g : 0 < tI (K 166)
    · have g2 := Int.emod_nonneg (stepsZ (admK K v x p)) (show tI (K 166) ≠ 0 by omega)
      have g3 := Int.emod_lt_of_pos (stepsZ (admK K v x p)) g
      by_cases g4 : stepsZ (admK K v x p) % tI (K 166) = 0
      · rw [if_pos ⟨rfl, g, g4⟩]
        have hm : (if tI (K 167) < tI (K 5) + 1 then tI (K 167) else tI (K 5) + 1) = (if tI (K 5) + 1 ≤ tI (K 167) then tI (K 5) + 1 else tI (K 167)) := by split <;> split <;> omega
        have hr : 0 ≤ (if tI (K 5) + 1 ≤ tI (K 167) then tI (K 5) + 1 else tI (K 167)) ∧ (if tI (K 5) + 1 ≤ tI (K 167) then tI (K 5) + 1 else tI (K 167)) ≤ tI (admK K v x p 5) ∧ tI (admK K v x p 5) ≤ 60 := by rw [e5]; split <;> omega
        have hl : ∀ {kk : HeapP → ResP} {kx : Nat → HeapP → ResP} {n : Int}, 0 ≤ n ∧ n ≤ tI (admK K v x p 5) ∧ tI (admK K v x p 5) ≤ 60 → cV (callP MP d 225 [.ref 217, .int (zI n)] (mk E (uR F 218 (admK K v x p)) G)) kk kx = kk (mk E (uR F 218 (losK (admK K v x p) n)) G) := fun {kk kx n} hn => by
          have := cc_225 (d := d) (E := E) (F := uR F 218 (admK K v x p)) (G := G) (kk := kk) (kx := kx) (n := n) (by rw [uR_at]; exact hn) (by omega)
          rw [this, uR_at, uR_uR]
        have hs2 : ∀ {kk : Int → HeapP → ResP} {kx : Nat → HeapP → ResP}, cT (callP MP d 232 [.ref 217] (mk E (uR F 218 (admK K v x p)) G)) kk kx = kk (stepsZ (admK K v x p)) (mk E (uR F 218 (admK K v x p)) G) := fun {kk kx} => by
          have := cc_u232 (d := d) (E := E) (F := uR F 218 (admK K v x p)) (G := G) (kk := kk) (kx := kx) (by rw [uR_at, e3]; exact h3) (by omega) (by rw [uR_at]; omega)
          rw [this, uR_at]
        rw [q_230_35]; (try simp only [↓n_rd, ↓n_al, ↓n_irem, ↓n_cI, li_0, li_1, li_2, li_4, li_5, li_12, li_38, li_46, li_166, li_167, li_210, zI_add, zI_sub, zI_mul, zI_neg, ↓Option.bind_some]); simp (disch := (first | assumption | exact tI_rg _ | omega | exact uR_at | exact row_ne hF (by decide) | exact row_ne (row_ne hF (by decide)) (by decide) | exact SnS_18 | exact SnS_30 | exact LdS_44 | exact LdS_46)) only [q_230_0, q_230_159, hF, ↓cc_u210, a5, a5', a39, aE, hc', e66, ↓hs2, g4, e67, e5, minZ, hm, ↓hl, ↓n_rd, ↓n_al, ↓n_irem, ↓n_cI, ↓b_irem, li_0, li_1, li_2, li_4, li_5, li_12, li_38, li_46, li_166, li_167, li_210, zI_add, zI_sub, zI_mul, zI_neg, ↓Option.bind_some, ↓g12_0, ↓g12_18, ↓al_218, ↓as_218, zIt2, uR_at, uR_ne, uR_uR, uC_uC, uC_at, ↓reduceIte, decide_eq_true_eq, leT, leF, ltT, ltF, eqT, eqF, ne_eq, not_true_eq_false, not_false_eq_true, Bool.false_eq_true, tI_zI]
      · rw [if_neg (fun z => g4 z.2.2)]
        have hs2 : ∀ {kk : Int → HeapP → ResP} {kx : Nat → HeapP → ResP}, cT (callP MP d 232 [.ref 217] (mk E (uR F 218 (admK K v x p)) G)) kk kx = kk (stepsZ (admK K v x p)) (mk E (uR F 218 (admK K v x p)) G) := fun {kk kx} => by
          have := cc_u232 (d := d) (E := E) (F := uR F 218 (admK K v x p)) (G := G) (kk := kk) (kx := kx) (by rw [uR_at, e3]; exact h3) (by omega) (by rw [uR_at]; omega)
          rw [this, uR_at]
        rw [q_230_35]; (try simp only [↓n_rd, ↓n_al, ↓n_irem, ↓n_cI, li_0, li_1, li_2, li_4, li_5, li_12, li_38, li_46, li_166, li_167, li_210, zI_add, zI_sub, zI_mul, zI_neg, ↓Option.bind_some]); simp (disch := (first | assumption | exact tI_rg _ | omega | exact uR_at | exact row_ne hF (by decide) | exact row_ne (row_ne hF (by decide)) (by decide) | exact SnS_18 | exact SnS_30 | exact LdS_44 | exact LdS_46)) only [q_230_0, q_230_159, hF, ↓cc_u210, a5, a5', a39, aE, hc', e66, ↓hs2, ↓n_rd, ↓n_al, ↓n_irem, ↓n_cI, ↓b_irem, li_0, li_1, li_2, li_4, li_5, li_12, li_38, li_46, li_166, li_167, li_210, zI_add, zI_sub, zI_mul, zI_neg, ↓Option.bind_some, ↓g12_0, ↓g12_18, ↓al_218, ↓as_218, zIt2, uR_at, uR_ne, uR_uR, uC_uC, uC_at, ↓reduceIte, decide_eq_true_eq, leT, leF, ltT, ltF, eqT, eqF, ne_eq, not_true_eq_false, not_false_eq_true, Bool.false_eq_true, tI_zI]
    · rw [if_neg (fun z => g z.2.1)]
      rw [q_230_35]; (try simp only [↓n_rd, ↓n_al, ↓n_irem, ↓n_cI, li_0, li_1, li_2, li_4, li_5, li_12, li_38, li_46, li_166, li_167, li_210, zI_add, zI_sub, zI_mul, zI_neg, ↓Option.bind_some]); simp (disch := (first | assumption | exact tI_rg _ | omega | exact uR_at | exact row_ne hF (by decide) | exact row_ne (row_ne hF (by decide)) (by decide) | exact SnS_18 | exact SnS_30 | exact LdS_44 | exact LdS_46)) only [q_230_0, q_230_159, hF, ↓cc_u210, a5, a5', a39, aE, hc', e66, ↓n_rd, ↓n_al, ↓n_irem, ↓n_cI, ↓b_irem, li_0, li_1, li_2, li_4, li_5, li_12, li_38, li_46, li_166, li_167, li_210, zI_add, zI_sub, zI_mul, zI_neg, ↓Option.bind_some, ↓g12_0, ↓g12_18, ↓al_218, ↓as_218, zIt2, uR_at, uR_ne, uR_uR, uC_uC, uC_at, ↓reduceIte, decide_eq_true_eq, leT, leF, ltT, ltF, eqT, eqF, ne_eq, not_true_eq_false, not_false_eq_true, Bool.false_eq_true, tI_zI]
theorem fin_go {K : Int → Int32} (hI : InvK K) {c : Bool} {x p : Int} (hw : whyZ K x p = 0) : finK c (fulK (remK K (wayZ K (tI (K (38 + 2 * x))) p) x)) (wayZ K (tI (K (38 + 2 * x))) p) x p = goK c K x p := by
  obtain ⟨h1, h2, h3⟩ := why0 hw
  obtain ⟨hv, hf, ht⟩ := wayZ_ends hI h3
  obtain ⟨p1, p2, p3⟩ := pre_inv hI hv h1
  have b3 := hI.1.2.2.2.1
  have b4 := hI.1.2.2.2.2.1
  have q5 : 0 ≤ tI (fulK (remK K (wayZ K (tI (K (38 + 2 * x))) p) x) 5) := p1.1.2.2.2.2.2.1.1
  have e66 : admK (fulK (remK K (wayZ K (tI (K (38 + 2 * x))) p) x)) (wayZ K (tI (K (38 + 2 * x))) p) x p 166 = K 166 := (admK_lo (by omega) (by omega) q5 (by omega)).trans (pre_lo hI (by omega))
  have e67 : admK (fulK (remK K (wayZ K (tI (K (38 + 2 * x))) p) x)) (wayZ K (tI (K (38 + 2 * x))) p) x p 167 = K 167 := (admK_lo (by omega) (by omega) q5 (by omega)).trans (pre_lo hI (by omega))
  unfold finK
  rw [e66, e67]
  rfl
theorem ct_230 {d : Nat} {E : EnQ} {F : Nat → Int → Int32} {G : Nat → Int → Int64} {K : Int → Int32} (hI : InvK K) (hF : F 218 = K) {c : Bool} (hc : tI (F 217 18) = if c = true then 1 else 0) {x p : Int} (hw : whyZ K x p = 0) (hst : stepsZ K < 2000000000) (hd : 3 ≤ d) : callP MP d 230 [.ref 217, .int (zI x), .int (zI p)] (mk E F G) = some (Sum.inl (none), mk E (uR F 218 (goK c K x p)) G) := by

  obtain ⟨h1, h2, h3⟩ := why0 hw
  obtain ⟨hv, hf, ht⟩ := wayZ_ends hI h3
  obtain ⟨p1, p2, p3⟩ := pre_inv hI hv h1
  obtain ⟨g1, g2⟩ := stp_inv hI hw hst
  have hsn := steps_nn hI
  have hsn2 := steps_nn g1
  have hfin := fin_go hI (c := c) hw
  have hst2 : 0 ≤ stepsZ (admK (fulK (remK K (wayZ K (tI (K (38 + 2 * x))) p) x)) (wayZ K (tI (K (38 + 2 * x))) p) x p) ∧ stepsZ (admK (fulK (remK K (wayZ K (tI (K (38 + 2 * x))) p) x)) (wayZ K (tI (K (38 + 2 * x))) p) x p) ≤ 2147483647 := by
    have : stepsZ (stpK K x p) = stepsZ (admK (fulK (remK K (wayZ K (tI (K (38 + 2 * x))) p) x)) (wayZ K (tI (K (38 + 2 * x))) p) x p) := rfl
    omega
  have lo : ∀ {j : Int}, (j ≠ 5 ∧ (j < 46 ∨ (166 ≤ j ∧ j < 169) ∨ (169 < j ∧ j < 210))) → fulK (remK K (wayZ K (tI (K (38 + 2 * x))) p) x) j = K j := fun h => pre_lo hI h
  have hA := hI.1
  obtain ⟨b0, b1, b2, b3, b4, b5, b6, b7, b8, b9⟩ := hI.1
  have q5 := p1.1.2.2.2.2.2.1
  have hr1 := tI_rg (K (38 + 2 * x))
  obtain ⟨v, hvv⟩ : ∃ v, v = wayZ K (tI (K (38 + 2 * x))) p := ⟨_, rfl⟩
  rw [← hvv] at hv hf ht p1 p2 p3 hfin hst2 lo q5
  have e5 : remK K v x 5 = K 5 := remK_lo (by omega) ⟨b9.1, b8.1⟩
  have e4 : remK K v x 4 = K 4 := remK_lo (by omega) ⟨b9.1, b8.1⟩
  refine into (D := 2) (by omega) hM_230 (rcv_mk rfl (by decide)) rfl fun d hd => ?_
  show runP MP d 230 (0, [some (.ref 217), some (.int (zI x)), some (.int (zI p)), none], [], _) = _
  have h231 : ∀ {kk : HeapP → ResP} {kx : Nat → HeapP → ResP}, cV (callP MP d 231 [.ref 217, .int (zI v), .int (zI x)] (mk E F G)) kk kx = kk (mk E (uR F 218 (remK K v x)) G) := fun {kk kx} => by
    have := cc_231 (d := d) (E := E) (F := F) (G := G) (kk := kk) (kx := kx) (v := v) (x := x) (by rw [hF]; omega) (by omega)
    rw [this, hF]
  have hfu : ∀ K2, K2 = fulK (remK K v x) → runP MP d 230 (35, [some (.ref 217), some (.int (zI x)), some (.int (zI p)), some (.int (zI v))], [], mk E (uR F 218 K2) G) = some (Sum.inl none, mk E (uR F 218 (goK c K x p)) G) := fun K2 hK2 => by
    subst hK2
    have := go35 (d := d) (E := E) (F := uR F 218 (fulK (remK K v x))) (G := G) (K := fulK (remK K v x)) uR_at (c := c) (by rw [uR_ne (by decide)]; exact hc) (v := v) (x := x) (p := p) (by omega) (by omega) (by rw [lo (by omega)]; omega) (by rw [lo (by omega)]; omega) (by rw [lo (by omega)]; omega) hst2 (by omega)
    rw [this, hfin, uR_uR]
  by_cases e : tI (K 5) = tI (K 4)
  · have hfe : losK (remK K v x) 1 = fulK (remK K v x) := by unfold fulK; rw [if_pos (by rw [e5, e4]; exact e)]
    have h225 : ∀ {kk : HeapP → ResP} {kx : Nat → HeapP → ResP}, cV (callP MP d 225 [.ref 217, .int (zI 1)] (mk E (uR F 218 (remK K v x)) G)) kk kx = kk (mk E (uR F 218 (losK (remK K v x) 1)) G) := fun {kk kx} => by
      have := cc_225 (d := d) (E := E) (F := uR F 218 (remK K v x)) (G := G) (kk := kk) (kx := kx) (n := 1) (by rw [uR_at, e5]; omega) (by omega)
      rw [this, uR_at, uR_uR]
    rw [q_230_0]; (try simp only [↓n_rd, ↓n_al, ↓n_irem, ↓n_cI, li_0, li_1, li_2, li_4, li_5, li_12, li_38, li_46, li_166, li_167, li_210, zI_add, zI_sub, zI_mul, zI_neg, ↓Option.bind_some]); simp (disch := (first | assumption | exact tI_rg _ | omega | exact uR_at | exact row_ne hF (by decide) | exact row_ne (row_ne hF (by decide)) (by decide) | exact SnS_18 | exact SnS_30 | exact LdS_44 | exact LdS_46)) only [q_230_159, ↓cc_228 hI, ↓cc_229 hI, ← hvv, ↓h231, ↓cc_u210, e5, e4, ↓h225, hfu _ hfe, ↓n_rd, ↓n_al, ↓n_irem, ↓n_cI, ↓b_irem, li_0, li_1, li_2, li_4, li_5, li_12, li_38, li_46, li_166, li_167, li_210, zI_add, zI_sub, zI_mul, zI_neg, ↓Option.bind_some, ↓g12_0, ↓g12_18, ↓al_218, ↓as_218, zIt2, uR_at, uR_ne, uR_uR, uC_uC, uC_at, ↓reduceIte, decide_eq_true_eq, leT, leF, ltT, ltF, eqT, eqF, ne_eq, not_true_eq_false, not_false_eq_true, Bool.false_eq_true, tI_zI]
  · have hfe : remK K v x = fulK (remK K v x) := by unfold fulK; rw [if_neg (by rw [e5, e4]; exact e)]
    rw [q_230_0]; (try simp only [↓n_rd, ↓n_al, ↓n_irem, ↓n_cI, li_0, li_1, li_2, li_4, li_5, li_12, li_38, li_46, li_166, li_167, li_210, zI_add, zI_sub, zI_mul, zI_neg, ↓Option.bind_some]); simp (disch := (first | assumption | exact tI_rg _ | omega | exact uR_at | exact row_ne hF (by decide) | exact row_ne (row_ne hF (by decide)) (by decide) | exact SnS_18 | exact SnS_30 | exact LdS_44 | exact LdS_46)) only [q_230_159, ↓cc_228 hI, ↓cc_229 hI, ← hvv, ↓h231, ↓cc_u210, e5, e4, hfu _ hfe, ↓n_rd, ↓n_al, ↓n_irem, ↓n_cI, ↓b_irem, li_0, li_1, li_2, li_4, li_5, li_12, li_38, li_46, li_166, li_167, li_210, zI_add, zI_sub, zI_mul, zI_neg, ↓Option.bind_some, ↓g12_0, ↓g12_18, ↓al_218, ↓as_218, zIt2, uR_at, uR_ne, uR_uR, uC_uC, uC_at, ↓reduceIte, decide_eq_true_eq, leT, leF, ltT, ltF, eqT, eqF, ne_eq, not_true_eq_false, not_false_eq_true, Bool.false_eq_true, tI_zI]
theorem cc_230 {d : Nat} {E : EnQ} {F : Nat → Int → Int32} {G : Nat → Int → Int64} {kk : HeapP → ResP} {kx : Nat → HeapP → ResP} {K : Int → Int32} (hI : InvK K) (hF : F 218 = K) {c : Bool} (hc : tI (F 217 18) = if c = true then 1 else 0) {x p : Int} (hw : whyZ K x p = 0) (hst : stepsZ K < 2000000000) (hd : 3 ≤ d) : cV (callP MP d 230 [.ref 217, .int (zI x), .int (zI p)] (mk E F G)) kk kx = kk (mk E (uR F 218 (goK c K x p)) G) := cV_ret (by apply ct_230 <;> assumption)
end S93r
