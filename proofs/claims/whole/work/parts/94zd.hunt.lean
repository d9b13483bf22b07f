/-! CLASS: distance, hunts, hunter, meets -/
section S94zd
set_option linter.unusedVariables false
set_option linter.unusedSimpArgs false
theorem w_rg {K : Int → Int32} (hI : InvK K) : ∀ k, k < (2 * tI (K 2)).toNat → (0 ≤ wFr K k ∧ wFr K k < 10) ∧ 0 ≤ wTo K k ∧ wTo K k < 10 := fun k hk => by
  have h1 := from_in hI (v := (k : Int)) (by omega)
  have h2 := to_in hI (v := (k : Int)) (by omega)
  have := hI.1.2.1
  unfold wFr wTo; omega
theorem k_rg {K : Int → Int32} (hI : InvK K) {i : Int} (hi : 0 ≤ i) : ∀ k, k < (tI (K 5) - i).toNat → (0 ≤ kFr K i k ∧ kFr K i k < 10) ∧ 0 ≤ kTo K i k ∧ kTo K i k < 10 := fun k hk => by
  have h0 := (pr_in hI (i := i + (k : Int)) (by omega) (by omega)).1
  have h1 := from_in hI h0
  have h2 := to_in hI h0
  have := hI.1.2.1
  unfold kFr kTo; omega
theorem o_rg {K : Int → Int32} (hI : InvK K) : ∀ k, k < (tI (K 169)).toNat → (0 ≤ oFr K k ∧ oFr K k < 10) ∧ 0 ≤ oTo K k ∧ oTo K k < 10 := fun k hk => by
  have h0 := (wo_in hI (i := (k : Int)) (by omega) (by omega)).1
  have h1 := from_in hI h0
  have h2 := to_in hI h0
  have := hI.1.2.1
  unfold oFr oTo; omega
theorem scr45 : scrC 45 := by unfold scrC; omega
theorem scr47 : scrC 47 := by unfold scrC; omega
theorem cl_dist {d : Nat} {E : EnQ} {F : Nat → Int → Int32} {G : Nat → Int → Int64} {K : Int → Int32} (hO : SnO E F 18 K) (hD : SepP E 18) {x y : Int} (hx : -2147483648 ≤ x ∧ x ≤ 2147483647) (hy : -2147483648 ≤ y ∧ y ≤ 2147483647) (hd : 4 ≤ d) : ∃ E1 F1, callP MP d 126 [.ref 16, .int (zI x), .int (zI y)] (mk E F G) = some (thrP [0] (a_dist K x y), mk E1 F1 G) ∧ KeepC E F G E1 F1 G := by
  have hI := hO.2.2.2.2
  have hS := hO.1
  have hb1 := hI.1.2.1
  have hb2 := hI.1.2.2.1
  have hb5 := hI.1.2.2.2.2.2.1
  have hb4 := hI.1.2.2.2.2.1
  have hb8 := hI.1.2.2.2.2.2.2.2.2.1
  have hb9 := hI.1.2.2.2.2.2.2.2.2.2
  have hs := hS.1
  by_cases c1 : 0 ≤ x ∧ x < tI (K 1)
  · by_cases c2 : 0 ≤ y ∧ y < tI (K 1)

    · have ha : a_dist K x y = (0, farZ K 0 x (tI (K 1)).toNat y) := (if_pos c1).trans (if_pos c2)
      rw [ha]
      have hfr : farZ K 0 x (tI (K 1)).toNat y = -1 ∨ (0 ≤ farZ K 0 x (tI (K 1)).toNat y ∧ farZ K 0 x (tI (K 1)).toNat y ≤ (tI (K 1)).toNat) := far_rg _ _
      have hq : 45 < rfQ E 18 0 ∨ rfQ E 18 0 + 5 < 45 := by have := hD.2; omega
      refine ⟨E, uR F 45 (ldR (F 45) (wFr K) (wTo K) (2 * tI (K 2)).toNat), ?_, (KeepD_F scr45).c⟩
      show (_ : ResP) = some (Sum.inl (some (.int (zI (farZ K 0 x (tI (K 1)).toNat y)))), mk E (uR F 45 (ldR (F 45) (wFr K) (wTo K) (2 * tI (K 2)).toNat)) G)
      refine into (D := 3) (by omega) hM_126 (rcv_mk rfl (by decide)) rfl fun d hd => ?_
      show runP MP d 126 (0, [some (.ref 16), some (.int (zI x)), some (.int (zI y))], [], _) = _
      have h16 : ∀ {kk : HeapP → ResP} {kx : Nat → HeapP → ResP}, cV (callP MP d 16 [.ref 44, .ref (rfQ E 18 0)] (mk E F G)) kk kx = kk (mk E (uR F 45 (ldR (F 45) (wFr K) (wTo K) (2 * tI (K 2)).toNat)) G) := fun {kk kx} => cV_ret (ct_16 LdS_44 hO.2.2.1 hI hO.2.1 hq (by omega))
      have h18 : ∀ {kk : Int → HeapP → ResP} {kx : Nat → HeapP → ResP}, cT (callP MP d 18 [.ref 44, .int (zI x), .int (zI y)] (mk E (uR F 45 (ldR (F 45) (wFr K) (wTo K) (2 * tI (K 2)).toNat)) G)) kk kx = kk (farZ K 0 x (tI (K 1)).toNat y) (mk E (uR F 45 (ldR (F 45) (wFr K) (wTo K) (2 * tI (K 2)).toNat)) G) := fun {kk kx} => by
        rw [cc_18 (a := 44) LdS_44 (show uR F 45 (ldR (F 45) (wFr K) (wTo K) (2 * tI (K 2)).toNat) (44 + 1) = _ from uR_at) (w_rg hI) (x := x) (y := y) (by omega) (by omega) (by omega), few_path hI c1.1 c2]
      rw [q_126_0]; (try simp only [↓n_cI, li_0, li_4, li_5, li_8, li_16, zI_add, zI_sub, zI_mul, zI_neg, ↓Option.bind_some]); simp (disch := (first | assumption | exact tI_rg _ | omega | exact uR_at | exact row_ne hF (by decide) | exact row_ne (row_ne hF (by decide)) (by decide) | exact SnS_18 | exact SnS_30 | exact LdS_44 | exact LdS_46)) only [↓cc_127t hO, ↓h16, ↓h18, ↓n_cI, li_0, li_4, li_5, li_8, li_16, zI_add, zI_sub, zI_mul, zI_neg, ↓Option.bind_some, ↓g11_4, ↓g11_8, ↓g5_0, zIt2, uR_at, uR_ne, uR_uR, uC_uC, uC_at, ↓reduceIte, decide_eq_true_eq, leT, leF, ltT, ltF, eqT, eqF, ne_eq, not_true_eq_false, not_false_eq_true, Bool.false_eq_true, tI_zI]
    · have ha : a_dist K x y = (1, 0) := (if_pos c1).trans (if_neg c2)
      rw [ha]
      refine ⟨jE E, F, ?_, KeepC_j⟩
      show (_ : ResP) = some (Sum.inr 0, mk (jE E) F G)
      refine into (D := 3) (by omega) hM_126 (rcv_mk rfl (by decide)) rfl fun d hd => ?_
      show runP MP d 126 (0, [some (.ref 16), some (.int (zI x)), some (.int (zI y))], [], _) = _
      rw [q_126_0]; (try simp only [↓n_cI, li_0, li_4, li_5, li_8, li_16, zI_add, zI_sub, zI_mul, zI_neg, ↓Option.bind_some]); simp (disch := (first | assumption | exact tI_rg _ | omega | exact uR_at | exact row_ne hF (by decide) | exact row_ne (row_ne hF (by decide)) (by decide) | exact SnS_18 | exact SnS_30 | exact LdS_44 | exact LdS_46)) only [↓cc_127t hO, ↓cc_127f hO, ↓cc_124f, thr_eq, ↓n_cI, li_0, li_4, li_5, li_8, li_16, zI_add, zI_sub, zI_mul, zI_neg, ↓Option.bind_some, ↓g11_4, ↓g11_8, ↓g5_0, zIt2, uR_at, uR_ne, uR_uR, uC_uC, uC_at, ↓reduceIte, decide_eq_true_eq, leT, leF, ltT, ltF, eqT, eqF, ne_eq, not_true_eq_false, not_false_eq_true, Bool.false_eq_true, tI_zI]
  · have ha : a_dist K x y = (1, 0) := if_neg c1
    rw [ha]
    refine ⟨jE E, F, ?_, KeepC_j⟩
    show (_ : ResP) = some (Sum.inr 0, mk (jE E) F G)
    refine into (D := 3) (by omega) hM_126 (rcv_mk rfl (by decide)) rfl fun d hd => ?_
    show runP MP d 126 (0, [some (.ref 16), some (.int (zI x)), some (.int (zI y))], [], _) = _
    rw [q_126_0]; (try simp only [↓n_cI, li_0, li_4, li_5, li_8, li_16, zI_add, zI_sub, zI_mul, zI_neg, ↓Option.bind_some]); simp (disch := (first | assumption | exact tI_rg _ | omega | exact uR_at | exact row_ne hF (by decide) | exact row_ne (row_ne hF (by decide)) (by decide) | exact SnS_18 | exact SnS_30 | exact LdS_44 | exact LdS_46)) only [↓cc_127f hO, thr_eq, ↓n_cI, li_0, li_4, li_5, li_8, li_16, zI_add, zI_sub, zI_mul, zI_neg, ↓Option.bind_some, ↓g11_4, ↓g11_8, ↓g5_0, zIt2, uR_at, uR_ne, uR_uR, uC_uC, uC_at, ↓reduceIte, decide_eq_true_eq, leT, leF, ltT, ltF, eqT, eqF, ne_eq, not_true_eq_false, not_false_eq_true, Bool.false_eq_true, tI_zI]
theorem cl_hunts {d : Nat} {E : EnQ} {F : Nat → Int → Int32} {G : Nat → Int → Int64} {K : Int → Int32} (hO : SnO E F 18 K) (hD : SepP E 18) {x y : Int} (hx : -2147483648 ≤ x ∧ x ≤ 2147483647) (hy : -2147483648 ≤ y ∧ y ≤ 2147483647) (hd : 4 ≤ d) : ∃ E1 F1, callP MP d 155 [.ref 16, .int (zI x), .int (zI y)] (mk E F G) = some (thrP [0] (a_hunts K x y), mk E1 F1 G) ∧ KeepC E F G E1 F1 G := by
  have hI := hO.2.2.2.2
  have hS := hO.1
  have hb1 := hI.1.2.1
  have hb2 := hI.1.2.2.1
  have hb5 := hI.1.2.2.2.2.2.1
  have hb4 := hI.1.2.2.2.2.1
  have hb8 := hI.1.2.2.2.2.2.2.2.2.1
  have hb9 := hI.1.2.2.2.2.2.2.2.2.2
  have hs := hS.1
  by_cases c1 : 0 ≤ x ∧ x < tI (K 1)
  · by_cases c2 : 0 ≤ y ∧ y < tI (K 1)

    · have ha : a_hunts K x y = (0, farZ K 1 x (tI (K 1)).toNat y) := (if_pos c1).trans (if_pos c2)
      rw [ha]
      have hfr : farZ K 1 x (tI (K 1)).toNat y = -1 ∨ (0 ≤ farZ K 1 x (tI (K 1)).toNat y ∧ farZ K 1 x (tI (K 1)).toNat y ≤ (tI (K 1)).toNat) := far_rg _ _
      refine ⟨E, uR F 45 (ldR (F 45) (kFr K 0) (kTo K 0) (tI (K 5) - 0).toNat), ?_, (KeepD_F scr45).c⟩
      show (_ : ResP) = some (Sum.inl (some (.int (zI (farZ K 1 x (tI (K 1)).toNat y)))), mk E (uR F 45 (ldR (F 45) (kFr K 0) (kTo K 0) (tI (K 5) - 0).toNat)) G)
      refine into (D := 3) (by omega) hM_155 (rcv_mk rfl (by decide)) rfl fun d hd => ?_
      show runP MP d 155 (0, [some (.ref 16), some (.int (zI x)), some (.int (zI y))], [], _) = _
      have h20 : ∀ {kk : HeapP → ResP} {kx : Nat → HeapP → ResP}, cV (callP MP d 20 [.ref 44, .ref 18, .int (zI 0)] (mk E F G)) kk kx = kk (mk E (uR F 45 (ldR (F 45) (kFr K 0) (kTo K 0) (tI (K 5) - 0).toNat)) G) := fun {kk kx} => cV_ret (ct_20 hO hD (i := 0) (by omega) (by omega))
      have h18 : ∀ {kk : Int → HeapP → ResP} {kx : Nat → HeapP → ResP}, cT (callP MP d 18 [.ref 44, .int (zI x), .int (zI y)] (mk E (uR F 45 (ldR (F 45) (kFr K 0) (kTo K 0) (tI (K 5) - 0).toNat)) G)) kk kx = kk (farZ K 1 x (tI (K 1)).toNat y) (mk E (uR F 45 (ldR (F 45) (kFr K 0) (kTo K 0) (tI (K 5) - 0).toNat)) G) := fun {kk kx} => by
        rw [cc_18 (a := 44) LdS_44 (show uR F 45 (ldR (F 45) (kFr K 0) (kTo K 0) (tI (K 5) - 0).toNat) (44 + 1) = _ from uR_at) (k_rg hI (Int.le_refl 0)) (x := x) (y := y) (by omega) (by omega) (by omega), gon_kept, few_print hI c1.1 c2]
      rw [q_155_0]; (try simp only [↓n_cI, li_0, li_4, li_8, li_20, zI_add, zI_sub, zI_mul, zI_neg, ↓Option.bind_some]); simp (disch := (first | assumption | exact tI_rg _ | omega | exact uR_at | exact row_ne hF (by decide) | exact row_ne (row_ne hF (by decide)) (by decide) | exact SnS_18 | exact SnS_30 | exact LdS_44 | exact LdS_46)) only [↓cc_127t hO, ↓h20, ↓h18, ↓n_cI, li_0, li_4, li_8, li_20, zI_add, zI_sub, zI_mul, zI_neg, ↓Option.bind_some, ↓g11_4, ↓g11_8, zIt2, uR_at, uR_ne, uR_uR, uC_uC, uC_at, ↓reduceIte, decide_eq_true_eq, leT, leF, ltT, ltF, eqT, eqF, ne_eq, not_true_eq_false, not_false_eq_true, Bool.false_eq_true, tI_zI]
    · have ha : a_hunts K x y = (1, 0) := (if_pos c1).trans (if_neg c2)
      rw [ha]
      refine ⟨jE E, F, ?_, KeepC_j⟩
      show (_ : ResP) = some (Sum.inr 0, mk (jE E) F G)
      refine into (D := 3) (by omega) hM_155 (rcv_mk rfl (by decide)) rfl fun d hd => ?_
      show runP MP d 155 (0, [some (.ref 16), some (.int (zI x)), some (.int (zI y))], [], _) = _
      rw [q_155_0]; (try simp only [↓n_cI, li_0, li_4, li_8, li_20, zI_add, zI_sub, zI_mul, zI_neg, ↓Option.bind_some]); simp (disch := (first | assumption | exact tI_rg _ | omega | exact uR_at | exact row_ne hF (by decide) | exact row_ne (row_ne hF (by decide)) (by decide) | exact SnS_18 | exact SnS_30 | exact LdS_44 | exact LdS_46)) only [↓cc_127t hO, ↓cc_127f hO, ↓cc_124f, thr_eq, ↓n_cI, li_0, li_4, li_8, li_20, zI_add, zI_sub, zI_mul, zI_neg, ↓Option.bind_some, ↓g11_4, ↓g11_8, zIt2, uR_at, uR_ne, uR_uR, uC_uC, uC_at, ↓reduceIte, decide_eq_true_eq, leT, leF, ltT, ltF, eqT, eqF, ne_eq, not_true_eq_false, not_false_eq_true, Bool.false_eq_true, tI_zI]
  · have ha : a_hunts K x y = (1, 0) := if_neg c1
    rw [ha]
    refine ⟨jE E, F, ?_, KeepC_j⟩
    show (_ : ResP) = some (Sum.inr 0, mk (jE E) F G)
    refine into (D := 3) (by omega) hM_155 (rcv_mk rfl (by decide)) rfl fun d hd => ?_
    show runP MP d 155 (0, [some (.ref 16), some (.int (zI x)), some (.int (zI y))], [], _) = _
    rw [q_155_0]; (try simp only [↓n_cI, li_0, li_4, li_8, li_20, zI_add, zI_sub, zI_mul, zI_neg, ↓Option.bind_some]); simp (disch := (first | assumption | exact tI_rg _ | omega | exact uR_at | exact row_ne hF (by decide) | exact row_ne (row_ne hF (by decide)) (by decide) | exact SnS_18 | exact SnS_30 | exact LdS_44 | exact LdS_46)) only [↓cc_127f hO, thr_eq, ↓n_cI, li_0, li_4, li_8, li_20, zI_add, zI_sub, zI_mul, zI_neg, ↓Option.bind_some, ↓g11_4, ↓g11_8, zIt2, uR_at, uR_ne, uR_uR, uC_uC, uC_at, ↓reduceIte, decide_eq_true_eq, leT, leF, ltT, ltF, eqT, eqF, ne_eq, not_true_eq_false, not_false_eq_true, Bool.false_eq_true, tI_zI]
theorem cl_hunter {d : Nat} {E : EnQ} {F : Nat → Int → Int32} {G : Nat → Int → Int64} {K : Int → Int32} (hO : SnO E F 18 K) (hD : SepP E 18) {x y : Int} (hx : -2147483648 ≤ x ∧ x ≤ 2147483647) (hy : -2147483648 ≤ y ∧ y ≤ 2147483647) (hd : 4 ≤ d) : ∃ E1 F1, callP MP d 154 [.ref 16, .int (zI x), .int (zI y)] (mk E F G) = some (thrP [0, 2] (a_hunter K x y), mk E1 F1 G) ∧ KeepC E F G E1 F1 G := by
  have hI := hO.2.2.2.2
  have hS := hO.1
  have hb1 := hI.1.2.1
  have hb2 := hI.1.2.2.1
  have hb5 := hI.1.2.2.2.2.2.1
  have hb4 := hI.1.2.2.2.2.1
  have hb8 := hI.1.2.2.2.2.2.2.2.2.1
  have hb9 := hI.1.2.2.2.2.2.2.2.2.2
  have hs := hS.1
  by_cases c1 : 0 ≤ x ∧ x < tI (K 1)
  · by_cases c2 : 0 ≤ y ∧ y ≤ 60

    · have ha : a_hunter K x y = (0, ((itN (onN K) (bitN x) y.toNat : Nat) : Int)) := (if_pos c1).trans (if_pos c2)
      rw [ha]
      have hbx := bit_lt (x := x) (by omega)
      have hlt := itN_lt hbx (onN_lt hI) y.toNat
      refine ⟨E, uR F 45 (ldR (F 45) (kFr K 0) (kTo K 0) (tI (K 5) - 0).toNat), ?_, (KeepD_F scr45).c⟩
      show (_ : ResP) = some (Sum.inl (some (.int (zI ((itN (onN K) (bitN x) y.toNat : Nat) : Int)))), mk E (uR F 45 (ldR (F 45) (kFr K 0) (kTo K 0) (tI (K 5) - 0).toNat)) G)
      refine into (D := 3) (by omega) hM_154 (rcv_mk rfl (by decide)) rfl fun d hd => ?_
      show runP MP d 154 (0, [some (.ref 16), some (.int (zI x)), some (.int (zI y))], [], _) = _
      have h20 : ∀ {kk : HeapP → ResP} {kx : Nat → HeapP → ResP}, cV (callP MP d 20 [.ref 44, .ref 18, .int (zI 0)] (mk E F G)) kk kx = kk (mk E (uR F 45 (ldR (F 45) (kFr K 0) (kTo K 0) (tI (K 5) - 0).toNat)) G) := fun {kk kx} => cV_ret (ct_20 hO hD (i := 0) (by omega) (by omega))
      have h21 : ∀ {kk : Int → HeapP → ResP} {kx : Nat → HeapP → ResP}, cT (callP MP d 21 [.ref 44, .int (zI ((bitN x : Nat) : Int)), .int (zI y)] (mk E (uR F 45 (ldR (F 45) (kFr K 0) (kTo K 0) (tI (K 5) - 0).toNat)) G)) kk kx = kk ((itN (onN K) (bitN x) y.toNat : Nat) : Int) (mk E (uR F 45 (ldR (F 45) (kFr K 0) (kTo K 0) (tI (K 5) - 0).toNat)) G) := fun {kk kx} => by
        have := cc_21 (d := d) (E := E) (F := uR F 45 (ldR (F 45) (kFr K 0) (kTo K 0) (tI (K 5) - 0).toNat)) (G := G) (kk := kk) (kx := kx) (a := 44) LdS_44 (show uR F 45 (ldR (F 45) (kFr K 0) (kTo K 0) (tI (K 5) - 0).toNat) (44 + 1) = _ from uR_at) (k_rg hI (Int.le_refl 0)) (s := bitN x) hbx (m := y.toNat) (by omega) (by omega)
        rw [show ((y.toNat : Nat) : Int) = y by omega, gon_kept] at this
        exact this
      rw [q_154_0]; (try simp only [↓n_cI, li_0, li_1, li_4, li_8, li_20, li_60, li_124, zI_add, zI_sub, zI_mul, zI_neg, ↓Option.bind_some]); simp (disch := (first | assumption | exact tI_rg _ | omega | exact uR_at | exact row_ne hF (by decide) | exact row_ne (row_ne hF (by decide)) (by decide) | exact SnS_18 | exact SnS_30 | exact LdS_44 | exact LdS_46)) only [↓cc_127t hO, ↓cc_124t, ↓h20, shlB, ↓h21, ↓n_cI, li_0, li_1, li_4, li_8, li_20, li_60, li_124, zI_add, zI_sub, zI_mul, zI_neg, ↓Option.bind_some, ↓g11_4, ↓g11_8, zIt2, uR_at, uR_ne, uR_uR, uC_uC, uC_at, ↓reduceIte, decide_eq_true_eq, leT, leF, ltT, ltF, eqT, eqF, ne_eq, not_true_eq_false, not_false_eq_true, Bool.false_eq_true, tI_zI]
    · have ha : a_hunter K x y = (2, 0) := (if_pos c1).trans (if_neg c2)
      rw [ha]
      refine ⟨jE E, F, ?_, KeepC_j⟩
      show (_ : ResP) = some (Sum.inr 2, mk (jE E) F G)
      refine into (D := 3) (by omega) hM_154 (rcv_mk rfl (by decide)) rfl fun d hd => ?_
      show runP MP d 154 (0, [some (.ref 16), some (.int (zI x)), some (.int (zI y))], [], _) = _
      rw [q_154_0]; (try simp only [↓n_cI, li_0, li_1, li_4, li_8, li_20, li_60, li_124, zI_add, zI_sub, zI_mul, zI_neg, ↓Option.bind_some]); simp (disch := (first | assumption | exact tI_rg _ | omega | exact uR_at | exact row_ne hF (by decide) | exact row_ne (row_ne hF (by decide)) (by decide) | exact SnS_18 | exact SnS_30 | exact LdS_44 | exact LdS_46)) only [↓cc_127t hO, ↓cc_127f hO, ↓cc_124f, thr_eq, ↓n_cI, li_0, li_1, li_4, li_8, li_20, li_60, li_124, zI_add, zI_sub, zI_mul, zI_neg, ↓Option.bind_some, ↓g11_4, ↓g11_8, zIt2, uR_at, uR_ne, uR_uR, uC_uC, uC_at, ↓reduceIte, decide_eq_true_eq, leT, leF, ltT, ltF, eqT, eqF, ne_eq, not_true_eq_false, not_false_eq_true, Bool.false_eq_true, tI_zI]
  · have ha : a_hunter K x y = (1, 0) := if_neg c1
    rw [ha]
    refine ⟨jE E, F, ?_, KeepC_j⟩
    show (_ : ResP) = some (Sum.inr 0, mk (jE E) F G)
    refine into (D := 3) (by omega) hM_154 (rcv_mk rfl (by decide)) rfl fun d hd => ?_
    show runP MP d 154 (0, [some (.ref 16), some (.int (zI x)), some (.int (zI y))], [], _) = _
    rw [q_154_0]; (try simp only [↓n_cI, li_0, li_1, li_4, li_8, li_20, li_60, li_124, zI_add, zI_sub, zI_mul, zI_neg, ↓Option.bind_some]); simp (disch := (first | assumption | exact tI_rg _ | omega | exact uR_at | exact row_ne hF (by decide) | exact row_ne (row_ne hF (by decide)) (by decide) | exact SnS_18 | exact SnS_30 | exact LdS_44 | exact LdS_46)) only [↓cc_127f hO, thr_eq, ↓n_cI, li_0, li_1, li_4, li_8, li_20, li_60, li_124, zI_add, zI_sub, zI_mul, zI_neg, ↓Option.bind_some, ↓g11_4, ↓g11_8, zIt2, uR_at, uR_ne, uR_uR, uC_uC, uC_at, ↓reduceIte, decide_eq_true_eq, leT, leF, ltT, ltF, eqT, eqF, ne_eq, not_true_eq_false, not_false_eq_true, Bool.false_eq_true, tI_zI]
theorem cl_meets {d : Nat} {E : EnQ} {F : Nat → Int → Int32} {G : Nat → Int → Int64} {K : Int → Int32} (hO : SnO E F 18 K) (hD : SepP E 18) {x y : Int} (hx : -2147483648 ≤ x ∧ x ≤ 2147483647) (hy : -2147483648 ≤ y ∧ y ≤ 2147483647) (hd : 4 ≤ d) : ∃ E1 F1, callP MP d 156 [.ref 16, .int (zI x), .int (zI y)] (mk E F G) = some (thrP [0] (a_meets K x y), mk E1 F1 G) ∧ KeepC E F G E1 F1 G := by
  have hI := hO.2.2.2.2
  have hS := hO.1
  have hb1 := hI.1.2.1
  have hb2 := hI.1.2.2.1
  have hb5 := hI.1.2.2.2.2.2.1
  have hb4 := hI.1.2.2.2.2.1
  have hb8 := hI.1.2.2.2.2.2.2.2.2.1
  have hb9 := hI.1.2.2.2.2.2.2.2.2.2
  have hs := hS.1
  by_cases c1 : 0 ≤ x ∧ x < tI (K 1)
  · by_cases c2 : 0 ≤ y ∧ y < tI (K 1)

    · have ha : a_meets K x y = (0, fndN (mtP K x y) 61 0) := (if_pos c1).trans (if_pos c2)
      rw [ha]
      have hbx := bit_lt (x := x) (by omega)
      have hby := bit_lt (x := y) (by omega)
      have hO2 := SnO_row (G := G) (r := (ldR (F 45) (kFr K 0) (kTo K 0) (tI (K 5) - 0).toNat)) hO hD scr45
      refine ⟨E, (uR (uR F 45 (ldR (F 45) (kFr K 0) (kTo K 0) (tI (K 5) - 0).toNat)) 47 (ldR (F 47) (oFr K) (oTo K) (tI (K 169)).toNat)), ?_, ((KeepD_F scr45).tr (KeepD_F scr47)).c⟩
      show (_ : ResP) = some (Sum.inl (some (.int (zI (fndN (mtP K x y) 61 0)))), mk E (uR (uR F 45 (ldR (F 45) (kFr K 0) (kTo K 0) (tI (K 5) - 0).toNat)) 47 (ldR (F 47) (oFr K) (oTo K) (tI (K 169)).toNat)) G)
      refine into (D := 3) (by omega) hM_156 (rcv_mk rfl (by decide)) rfl fun d hd => ?_
      show runP MP d 156 (0, [some (.ref 16), some (.int (zI x)), some (.int (zI y)), none, none, none], [], _) = _
      have h20 : ∀ {kk : HeapP → ResP} {kx : Nat → HeapP → ResP}, cV (callP MP d 20 [.ref 44, .ref 18, .int (zI 0)] (mk E F G)) kk kx = kk (mk E (uR F 45 (ldR (F 45) (kFr K 0) (kTo K 0) (tI (K 5) - 0).toNat)) G) := fun {kk kx} => cV_ret (ct_20 hO hD (i := 0) (by omega) (by omega))
      have h22 : ∀ {kk : HeapP → ResP} {kx : Nat → HeapP → ResP}, cV (callP MP d 22 [.ref 46, .ref 18] (mk E (uR F 45 (ldR (F 45) (kFr K 0) (kTo K 0) (tI (K 5) - 0).toNat)) G)) kk kx = kk (mk E (uR (uR F 45 (ldR (F 45) (kFr K 0) (kTo K 0) (tI (K 5) - 0).toNat)) 47 (ldR (F 47) (oFr K) (oTo K) (tI (K 169)).toNat)) G) := fun {kk kx} => by
        have := ct_22 (d := d) (G := G) hO2 hD (by omega)
        rw [show uR F 45 (ldR (F 45) (kFr K 0) (kTo K 0) (tI (K 5) - 0).toNat) 47 = F 47 from uR_ne (by decide)] at this
        exact cV_ret this
      have e45 : (uR (uR F 45 (ldR (F 45) (kFr K 0) (kTo K 0) (tI (K 5) - 0).toNat)) 47 (ldR (F 47) (oFr K) (oTo K) (tI (K 169)).toNat)) (44 + 1) = (ldR (F 45) (kFr K 0) (kTo K 0) (tI (K 5) - 0).toNat) := (uR_ne (by decide)).trans uR_at
      have e47 : (uR (uR F 45 (ldR (F 45) (kFr K 0) (kTo K 0) (tI (K 5) - 0).toNat)) 47 (ldR (F 47) (oFr K) (oTo K) (tI (K 169)).toNat)) (46 + 1) = (ldR (F 47) (oFr K) (oTo K) (tI (K 169)).toNat) := uR_at
      have hl : runP MP d 156 (45, [some (.ref 16), some (.int (zI x)), some (.int (zI y)), some (.int (zI ((bitN x : Nat) : Int))), some (.int (zI ((bitN y : Nat) : Int))), some (.int (zI 0))], [], mk E (uR (uR F 45 (ldR (F 45) (kFr K 0) (kTo K 0) (tI (K 5) - 0).toNat)) 47 (ldR (F 47) (oFr K) (oTo K) (tI (K 169)).toNat)) G) = some (Sum.inl (some (.int (zI (fndN (mtP K x y) 61 0)))), mk E (uR (uR F 45 (ldR (F 45) (kFr K 0) (kTo K 0) (tI (K 5) - 0).toNat)) 47 (ldR (F 47) (oFr K) (oTo K) (tI (K 169)).toNat)) G) := by
        refine loopS (σ := Unit) (Post := fun r => r = some (Sum.inl (some (.int (zI (fndN (mtP K x y) 61 0)))), mk E (uR (uR F 45 (ldR (F 45) (kFr K 0) (kTo K 0) (tI (K 5) - 0).toNat)) 47 (ldR (F 47) (oFr K) (oTo K) (tI (K 169)).toNat)) G))
          (fun j s => runP MP d 156 (45, [some (.ref 16), some (.int (zI x)), some (.int (zI y)), some (.int (zI ((itN (onN K) (bitN x) j : Nat) : Int))), some (.int (zI ((itN (owN K) (bitN y) j : Nat) : Int))), some (.int (zI (j : Int)))], [], mk E (uR (uR F 45 (ldR (F 45) (kFr K 0) (kTo K 0) (tI (K 5) - 0).toNat)) 47 (ldR (F 47) (oFr K) (oTo K) (tI (K 169)).toNat)) G))
          (fun j _ => ∀ i, i < j → mtP K x y i = false) 61 () (fun i hi => by omega) (fun s hI2 => ?_) (fun j s hj hI2 => ?_)
        · show runP MP d 156 _ = _
          have e : fndN (mtP K x y) 61 0 = -1 := fndN_none (fun i _ hi => hI2 i (by omega))
          rw [e]
          rw [q_156_45]; (try simp only [↓n_cI, li_0, li_1, li_4, li_8, li_9, li_20, li_60, zI_add, zI_sub, zI_mul, zI_neg, ↓Option.bind_some]); simp (disch := (first | assumption | exact tI_rg _ | omega | exact uR_at | exact row_ne hF (by decide) | exact row_ne (row_ne hF (by decide)) (by decide) | exact SnS_18 | exact SnS_30 | exact LdS_44 | exact LdS_46)) only [q_156_0, ↓n_cI, li_0, li_1, li_4, li_8, li_9, li_20, li_60, zI_add, zI_sub, zI_mul, zI_neg, ↓Option.bind_some, ↓g11_4, ↓g11_8, ↓g11_9, zIt2, uR_at, uR_ne, uR_uR, uC_uC, uC_at, ↓reduceIte, decide_eq_true_eq, leT, leF, ltT, ltF, eqT, eqF, ne_eq, not_true_eq_false, not_false_eq_true, Bool.false_eq_true, tI_zI]
        · have l1 := itN_lt hbx (onN_lt hI) j
          have l2 := itN_lt hby (owN_lt hI) j
          have hand := andZ (itN (onN K) (bitN x) j) (itN (owN K) (bitN y) j)
          have hal := and_lt10 (b := itN (owN K) (bitN y) j) l1
          by_cases g : mtP K x y j = true
          · left
            have g2 : itN (onN K) (bitN x) j &&& itN (owN K) (bitN y) j ≠ 0 := of_decide_eq_true g
            have e : fndN (mtP K x y) 61 0 = (j : Int) := fndN_eq (by omega) (by omega) g (fun i _ hi => hI2 i hi)
            rw [e]
            show runP MP d 156 _ = _
            rw [q_156_45]; (try simp only [↓n_cI, li_0, li_1, li_4, li_8, li_9, li_20, li_60, zI_add, zI_sub, zI_mul, zI_neg, ↓Option.bind_some]); simp (disch := (first | assumption | exact tI_rg _ | omega | exact uR_at | exact row_ne hF (by decide) | exact row_ne (row_ne hF (by decide)) (by decide) | exact SnS_18 | exact SnS_30 | exact LdS_44 | exact LdS_46)) only [q_156_0, hand, ↓n_cI, li_0, li_1, li_4, li_8, li_9, li_20, li_60, zI_add, zI_sub, zI_mul, zI_neg, ↓Option.bind_some, ↓g11_4, ↓g11_8, ↓g11_9, zIt2, uR_at, uR_ne, uR_uR, uC_uC, uC_at, ↓reduceIte, decide_eq_true_eq, leT, leF, ltT, ltF, eqT, eqF, ne_eq, not_true_eq_false, not_false_eq_true, Bool.false_eq_true, tI_zI]
          · right
            have g2 : itN (onN K) (bitN x) j &&& itN (owN K) (bitN y) j = 0 := Decidable.not_not.mp (fun z => g (decide_eq_true z))
            have h19a : ∀ {kk : Int → HeapP → ResP} {kx : Nat → HeapP → ResP}, cT (callP MP d 19 [.ref 44, .int (zI ((itN (onN K) (bitN x) j : Nat) : Int))] (mk E (uR (uR F 45 (ldR (F 45) (kFr K 0) (kTo K 0) (tI (K 5) - 0).toNat)) 47 (ldR (F 47) (oFr K) (oTo K) (tI (K 169)).toNat)) G)) kk kx = kk ((itN (onN K) (bitN x) (j + 1) : Nat) : Int) (mk E (uR (uR F 45 (ldR (F 45) (kFr K 0) (kTo K 0) (tI (K 5) - 0).toNat)) 47 (ldR (F 47) (oFr K) (oTo K) (tI (K 169)).toNat)) G) := fun {kk kx} => by
              rw [cc_19 (a := 44) LdS_44 e45 (k_rg hI (Int.le_refl 0)) l1 (by omega), gon_kept]; rfl
            have h19b : ∀ {kk : Int → HeapP → ResP} {kx : Nat → HeapP → ResP}, cT (callP MP d 19 [.ref 46, .int (zI ((itN (owN K) (bitN y) j : Nat) : Int))] (mk E (uR (uR F 45 (ldR (F 45) (kFr K 0) (kTo K 0) (tI (K 5) - 0).toNat)) 47 (ldR (F 47) (oFr K) (oTo K) (tI (K 169)).toNat)) G)) kk kx = kk ((itN (owN K) (bitN y) (j + 1) : Nat) : Int) (mk E (uR (uR F 45 (ldR (F 45) (kFr K 0) (kTo K 0) (tI (K 5) - 0).toNat)) 47 (ldR (F 47) (oFr K) (oTo K) (tI (K 169)).toNat)) G) := fun {kk kx} => by
              rw [cc_19 (a := 46) LdS_46 e47 (o_rg hI) l2 (by omega)]; rfl
            refine ⟨(), fun i hi => ?_, ?_⟩
            · by_cases e : i = j
              · rw [e]; exact Bool.eq_false_iff.mpr g
              · exact hI2 i (by omega)
            · show runP MP d 156 _ = runP MP d 156 _
              rw [nsucc]
              rw [q_156_45]; (try simp only [↓n_cI, li_0, li_1, li_4, li_8, li_9, li_20, li_60, zI_add, zI_sub, zI_mul, zI_neg, ↓Option.bind_some]); simp (disch := (first | assumption | exact tI_rg _ | omega | exact uR_at | exact row_ne hF (by decide) | exact row_ne (row_ne hF (by decide)) (by decide) | exact SnS_18 | exact SnS_30 | exact LdS_44 | exact LdS_46)) only [q_156_0, hand, g2, ↓h19a, ↓h19b, ↓n_cI, li_0, li_1, li_4, li_8, li_9, li_20, li_60, zI_add, zI_sub, zI_mul, zI_neg, ↓Option.bind_some, ↓g11_4, ↓g11_8, ↓g11_9, zIt2, uR_at, uR_ne, uR_uR, uC_uC, uC_at, ↓reduceIte, decide_eq_true_eq, leT, leF, ltT, ltF, eqT, eqF, ne_eq, not_true_eq_false, not_false_eq_true, Bool.false_eq_true, tI_zI]
      rw [q_156_0]; (try simp only [↓n_cI, li_0, li_1, li_4, li_8, li_9, li_20, li_60, zI_add, zI_sub, zI_mul, zI_neg, ↓Option.bind_some]); simp (disch := (first | assumption | exact tI_rg _ | omega | exact uR_at | exact row_ne hF (by decide) | exact row_ne (row_ne hF (by decide)) (by decide) | exact SnS_18 | exact SnS_30 | exact LdS_44 | exact LdS_46)) only [↓cc_127t hO, ↓h20, ↓h22, shlB, ↓hl, ↓n_cI, li_0, li_1, li_4, li_8, li_9, li_20, li_60, zI_add, zI_sub, zI_mul, zI_neg, ↓Option.bind_some, ↓g11_4, ↓g11_8, ↓g11_9, zIt2, uR_at, uR_ne, uR_uR, uC_uC, uC_at, ↓reduceIte, decide_eq_true_eq, leT, leF, ltT, ltF, eqT, eqF, ne_eq, not_true_eq_false, not_false_eq_true, Bool.false_eq_true, tI_zI]
    · have ha : a_meets K x y = (1, 0) := (if_pos c1).trans (if_neg c2)
      rw [ha]
      refine ⟨jE E, F, ?_, KeepC_j⟩
      show (_ : ResP) = some (Sum.inr 0, mk (jE E) F G)
      refine into (D := 3) (by omega) hM_156 (rcv_mk rfl (by decide)) rfl fun d hd => ?_
      show runP MP d 156 (0, [some (.ref 16), some (.int (zI x)), some (.int (zI y)), none, none, none], [], _) = _
      rw [q_156_0]; (try simp only [↓n_cI, li_0, li_1, li_4, li_8, li_9, li_20, li_60, zI_add, zI_sub, zI_mul, zI_neg, ↓Option.bind_some]); simp (disch := (first | assumption | exact tI_rg _ | omega | exact uR_at | exact row_ne hF (by decide) | exact row_ne (row_ne hF (by decide)) (by decide) | exact SnS_18 | exact SnS_30 | exact LdS_44 | exact LdS_46)) only [↓cc_127t hO, ↓cc_127f hO, ↓cc_124f, thr_eq, ↓n_cI, li_0, li_1, li_4, li_8, li_9, li_20, li_60, zI_add, zI_sub, zI_mul, zI_neg, ↓Option.bind_some, ↓g11_4, ↓g11_8, ↓g11_9, zIt2, uR_at, uR_ne, uR_uR, uC_uC, uC_at, ↓reduceIte, decide_eq_true_eq, leT, leF, ltT, ltF, eqT, eqF, ne_eq, not_true_eq_false, not_false_eq_true, Bool.false_eq_true, tI_zI]
  · have ha : a_meets K x y = (1, 0) := if_neg c1
    rw [ha]
    refine ⟨jE E, F, ?_, KeepC_j⟩
    show (_ : ResP) = some (Sum.inr 0, mk (jE E) F G)
    refine into (D := 3) (by omega) hM_156 (rcv_mk rfl (by decide)) rfl fun d hd => ?_
    show runP MP d 156 (0, [some (.ref 16), some (.int (zI x)), some (.int (zI y)), none, none, none], [], _) = _
    rw [q_156_0]; (try simp only [↓n_cI, li_0, li_1, li_4, li_8, li_9, li_20, li_60, zI_add, zI_sub, zI_mul, zI_neg, ↓Option.bind_some]); simp (disch := (first | assumption | exact tI_rg _ | omega | exact uR_at | exact row_ne hF (by decide) | exact row_ne (row_ne hF (by decide)) (by decide) | exact SnS_18 | exact SnS_30 | exact LdS_44 | exact LdS_46)) only [↓cc_127f hO, thr_eq, ↓n_cI, li_0, li_1, li_4, li_8, li_9, li_20, li_60, zI_add, zI_sub, zI_mul, zI_neg, ↓Option.bind_some, ↓g11_4, ↓g11_8, ↓g11_9, zIt2, uR_at, uR_ne, uR_uR, uC_uC, uC_at, ↓reduceIte, decide_eq_true_eq, leT, leF, ltT, ltF, eqT, eqF, ne_eq, not_true_eq_false, not_false_eq_true, Bool.false_eq_true, tI_zI]
end S94zd
