/-! MODEL, loops over the prints -/
section S93h
set_option linter.unusedVariables false
set_option linter.unusedSimpArgs false
theorem nxO_rg {K : Int → Int32} (hI : InvK K) (x : Int) (i : Nat) : -1 ≤ nxO K x i ∧ nxO K x i ≤ 59 := by
  have h := fndN_rg (fun j => prO K j == x) ((tI (K 5)).toNat - i) i
  have := hI.1.2.2.2.2.2.1; have := hI.1.2.2.2.2.1
  unfold nxO; omega
theorem lst_rg {K : Int → Int32} (hI : InvK K) (p : Nat → Bool) : -1 ≤ lstN p (tI (K 5)).toNat ∧ lstN p (tI (K 5)).toNat < tI (K 5) ∧ tI (K 5) ≤ 60 := by
  have h := lstN_rg p (tI (K 5)).toNat
  have := hI.1.2.2.2.2.2.1; have := hI.1.2.2.2.2.1
  omega
theorem flip_in {K : Int → Int32} {v : Int} (h : 0 ≤ v ∧ v < 2 * tI (K 2)) : 0 ≤ flipZ v ∧ flipZ v < 2 * tI (K 2) := by unfold flipZ; split <;> omega
theorem from_in {K : Int → Int32} (hI : InvK K) {v : Int} (h : 0 ≤ v ∧ v < 2 * tI (K 2)) : 0 ≤ fromZ K v ∧ fromZ K v < tI (K 1) := hI.2.1.1 v h.1 h.2
theorem to_in {K : Int → Int32} (hI : InvK K) {v : Int} (h : 0 ≤ v ∧ v < 2 * tI (K 2)) : 0 ≤ toZ K v ∧ toZ K v < tI (K 1) := hI.2.1.1 _ (flip_in h).1 (flip_in h).2
theorem pr_in {K : Int → Int32} (hI : InvK K) {i : Int} (h0 : 0 ≤ i) (h : i < tI (K 5)) : (0 ≤ prW K i ∧ prW K i < 2 * tI (K 2)) ∧ 0 ≤ prO K i ∧ prO K i < tI (K 3) := hI.2.2.2.1 i h0 h
theorem wo_in {K : Int → Int32} (hI : InvK K) {i : Int} (h0 : 0 ≤ i) (h : i < tI (K 169)) : (0 ≤ woW K i ∧ woW K i < 2 * tI (K 2)) ∧ 0 ≤ woO K i ∧ woO K i < tI (K 3) := hI.2.2.2.2.1 i h0 h
theorem ct_222 {d : Nat} {E : EnQ} {F : Nat → Int → Int32} {G : Nat → Int → Int64} {K : Int → Int32} (hI : InvK K) (hF : F 218 = K) {x : Int} (hx : -2147483648 ≤ x ∧ x ≤ 2147483647) (hd : 2 ≤ d) : callP MP d 222 [.ref 217, .int (zI x)] (mk E F G) = some (Sum.inl (some (.int (zI (nxO K x 0)))), mk E F G) := by

  have hb5 := hI.1.2.2.2.2.2.1
  have hb4 := hI.1.2.2.2.2.1
  have hb2 := hI.1.2.2.1
  have hb3 := hI.1.2.2.2.1

  refine into (D := 1) (by omega) hM_222 (rcv_mk rfl (by decide)) rfl fun d hd => ?_
  show runP MP d 222 (0, [some (.ref 217), some (.int (zI x)), none], [], _) = _
  rw [q_222_0]
  refine loopS (σ := Unit) (Post := fun r => r = some (Sum.inl (some (.int (zI (nxO K x 0)))), mk E F G))
    (fun j _ => runP MP d 222 (2, [some (.ref 217), some (.int (zI x)), some (.int (zI (j : Int)))], [], mk E F G))
    (fun j _ => ∀ i, i < j → (prO K i == x) = false) (tI (K 5)).toNat () (fun i hi => by omega) (fun s hI2 => ?_) (fun j s hj hI2 => ?_)
  · show runP MP d 222 _ = _
    have e : nxO K x 0 = -1 := fndN_none (fun i _ hi => hI2 i (by omega))
    rw [e]; rw [q_222_2]; (try simp only [↓n_cI, li_0, li_1, li_2, li_210, zI_add, zI_sub, zI_mul, zI_neg, ↓Option.bind_some]); simp (disch := (first | assumption | exact tI_rg _ | omega | exact uR_at | exact row_ne hF (by decide) | exact row_ne (row_ne hF (by decide)) (by decide) | exact SnS_18 | exact SnS_30 | exact LdS_44 | exact LdS_46)) only [q_222_0, ↓cc_210 hI, ↓n_cI, li_0, li_1, li_2, li_210, zI_add, zI_sub, zI_mul, zI_neg, ↓Option.bind_some, zIt2, uR_at, uR_ne, uR_uR, uC_uC, uC_at, ↓reduceIte, decide_eq_true_eq, leT, leF, ltT, ltF, eqT, eqF, ne_eq, not_true_eq_false, not_false_eq_true, Bool.false_eq_true, tI_zI]
  · have hr := tI_rg (K (47 + 2 * (j : Int)))
    have hr2 : -2147483648 ≤ prO K (j : Int) ∧ prO K (j : Int) ≤ 2147483647 := hr
    by_cases h : prO K (j : Int) = x
    · left
      show runP MP d 222 _ = _
      have e : nxO K x 0 = (j : Int) := fndN_eq (by omega) (by omega) (by exact beq_iff_eq.mpr h) (fun i _ hi => hI2 i hi)
      rw [e]
      rw [q_222_2]; (try simp only [↓n_cI, li_0, li_1, li_2, li_210, zI_add, zI_sub, zI_mul, zI_neg, ↓Option.bind_some]); simp (disch := (first | assumption | exact tI_rg _ | omega | exact uR_at | exact row_ne hF (by decide) | exact row_ne (row_ne hF (by decide)) (by decide) | exact SnS_18 | exact SnS_30 | exact LdS_44 | exact LdS_46)) only [q_222_0, ↓cc_210 hI, ↓cc_221 hI, ↓n_cI, li_0, li_1, li_2, li_210, zI_add, zI_sub, zI_mul, zI_neg, ↓Option.bind_some, zIt2, uR_at, uR_ne, uR_uR, uC_uC, uC_at, ↓reduceIte, decide_eq_true_eq, leT, leF, ltT, ltF, eqT, eqF, ne_eq, not_true_eq_false, not_false_eq_true, Bool.false_eq_true, tI_zI]
    · right
      refine ⟨(), fun i hi => ?_, ?_⟩
      · by_cases e : i = j
        · rw [e]; exact beq_eq_false_iff_ne.mpr h
        · exact hI2 i (by omega)
      · show runP MP d 222 _ = runP MP d 222 _
        rw [q_222_2]; (try simp only [↓n_cI, li_0, li_1, li_2, li_210, zI_add, zI_sub, zI_mul, zI_neg, ↓Option.bind_some]); simp (disch := (first | assumption | exact tI_rg _ | omega | exact uR_at | exact row_ne hF (by decide) | exact row_ne (row_ne hF (by decide)) (by decide) | exact SnS_18 | exact SnS_30 | exact LdS_44 | exact LdS_46)) only [q_222_0, ↓cc_210 hI, ↓cc_221 hI, nsucc, ↓n_cI, li_0, li_1, li_2, li_210, zI_add, zI_sub, zI_mul, zI_neg, ↓Option.bind_some, zIt2, uR_at, uR_ne, uR_uR, uC_uC, uC_at, ↓reduceIte, decide_eq_true_eq, leT, leF, ltT, ltF, eqT, eqF, ne_eq, not_true_eq_false, not_false_eq_true, Bool.false_eq_true, tI_zI]
theorem cc_222 {d : Nat} {E : EnQ} {F : Nat → Int → Int32} {G : Nat → Int → Int64} {kk : Int → HeapP → ResP} {kx : Nat → HeapP → ResP} {K : Int → Int32} (hI : InvK K) (hF : F 218 = K) {x : Int} (hx : -2147483648 ≤ x ∧ x ≤ 2147483647) (hd : 2 ≤ d) : cT (callP MP d 222 [.ref 217, .int (zI x)] (mk E F G)) kk kx = kk (nxO K x 0) (mk E F G) := cT_ret (by apply ct_222 <;> assumption) (by have := nxO_rg hI x 0; omega)
theorem ct_257 {d : Nat} {E : EnQ} {F : Nat → Int → Int32} {G : Nat → Int → Int64} {K : Int → Int32} (hI : InvK K) (hF : F 218 = K) {x : Int} (hx : -2147483648 ≤ x ∧ x ≤ 2147483647) (hd : 2 ≤ d) : callP MP d 257 [.ref 217, .int (zI x)] (mk E F G) = some (Sum.inl (some (.int (zI (lstN (fun k : Nat => prO K k == x) (tI (K 5)).toNat)))), mk E F G) := by

  have hb5 := hI.1.2.2.2.2.2.1
  have hb4 := hI.1.2.2.2.2.1
  have hb2 := hI.1.2.2.1
  have hb3 := hI.1.2.2.2.1

  refine into (D := 1) (by omega) hM_257 (rcv_mk rfl (by decide)) rfl fun d hd => ?_
  show runP MP d 257 (0, [some (.ref 217), some (.int (zI x)), none], [], _) = _
  have hgo : ∀ n : Nat, (n : Int) ≤ tI (K 5) → runP MP d 257 (7, [some (.ref 217), some (.int (zI x)), some (.int (zI ((n : Int) - 1)))], [], mk E F G) = some (Sum.inl (some (.int (zI (lstN (fun k : Nat => prO K k == x) n)))), mk E F G) := by
    intro n
    induction n with
    | zero => intro _; rw [q_257_7]; (try simp only [↓n_cI, li_0, li_1, li_7, li_210, zI_add, zI_sub, zI_mul, zI_neg, ↓Option.bind_some]); simp (disch := (first | assumption | exact tI_rg _ | omega | exact uR_at | exact row_ne hF (by decide) | exact row_ne (row_ne hF (by decide)) (by decide) | exact SnS_18 | exact SnS_30 | exact LdS_44 | exact LdS_46)) only [q_257_0, ↓n_cI, li_0, li_1, li_7, li_210, zI_add, zI_sub, zI_mul, zI_neg, ↓Option.bind_some, zIt2, uR_at, uR_ne, uR_uR, uC_uC, uC_at, ↓reduceIte, decide_eq_true_eq, leT, leF, ltT, ltF, eqT, eqF, ne_eq, not_true_eq_false, not_false_eq_true, Bool.false_eq_true, tI_zI]; rfl
    | succ n ih =>
      intro hn
      have hr := tI_rg (K (47 + 2 * (n : Int)))
      have hr2 : -2147483648 ≤ prO K (n : Int) ∧ prO K (n : Int) ≤ 2147483647 := hr
      have en : ((n + 1 : Nat) : Int) - 1 = (n : Int) := by omega
      rw [en]
      by_cases h : prO K (n : Int) = x
      · rw [lstN_pos (by exact beq_iff_eq.mpr h)]
        rw [q_257_7]; (try simp only [↓n_cI, li_0, li_1, li_7, li_210, zI_add, zI_sub, zI_mul, zI_neg, ↓Option.bind_some]); simp (disch := (first | assumption | exact tI_rg _ | omega | exact uR_at | exact row_ne hF (by decide) | exact row_ne (row_ne hF (by decide)) (by decide) | exact SnS_18 | exact SnS_30 | exact LdS_44 | exact LdS_46)) only [q_257_0, ↓cc_221 hI, ↓n_cI, li_0, li_1, li_7, li_210, zI_add, zI_sub, zI_mul, zI_neg, ↓Option.bind_some, zIt2, uR_at, uR_ne, uR_uR, uC_uC, uC_at, ↓reduceIte, decide_eq_true_eq, leT, leF, ltT, ltF, eqT, eqF, ne_eq, not_true_eq_false, not_false_eq_true, Bool.false_eq_true, tI_zI]
      · rw [lstN_neg (by exact fun z => h (beq_iff_eq.mp z)), ← ih (by omega)]
        rw [q_257_7]; (try simp only [↓n_cI, li_0, li_1, li_7, li_210, zI_add, zI_sub, zI_mul, zI_neg, ↓Option.bind_some]); simp (disch := (first | assumption | exact tI_rg _ | omega | exact uR_at | exact row_ne hF (by decide) | exact row_ne (row_ne hF (by decide)) (by decide) | exact SnS_18 | exact SnS_30 | exact LdS_44 | exact LdS_46)) only [q_257_0, ↓cc_221 hI, ↓n_cI, li_0, li_1, li_7, li_210, zI_add, zI_sub, zI_mul, zI_neg, ↓Option.bind_some, zIt2, uR_at, uR_ne, uR_uR, uC_uC, uC_at, ↓reduceIte, decide_eq_true_eq, leT, leF, ltT, ltF, eqT, eqF, ne_eq, not_true_eq_false, not_false_eq_true, Bool.false_eq_true, tI_zI]
        rfl
  have := hgo (tI (K 5)).toNat (by omega)
  rw [← this, show (((tI (K 5)).toNat : Nat) : Int) = tI (K 5) by omega]
  rw [q_257_0]; (try simp only [↓n_cI, li_0, li_1, li_7, li_210, zI_add, zI_sub, zI_mul, zI_neg, ↓Option.bind_some]); simp (disch := (first | assumption | exact tI_rg _ | omega | exact uR_at | exact row_ne hF (by decide) | exact row_ne (row_ne hF (by decide)) (by decide) | exact SnS_18 | exact SnS_30 | exact LdS_44 | exact LdS_46)) only [↓cc_210 hI, ↓n_cI, li_0, li_1, li_7, li_210, zI_add, zI_sub, zI_mul, zI_neg, ↓Option.bind_some, zIt2, uR_at, uR_ne, uR_uR, uC_uC, uC_at, ↓reduceIte, decide_eq_true_eq, leT, leF, ltT, ltF, eqT, eqF, ne_eq, not_true_eq_false, not_false_eq_true, Bool.false_eq_true, tI_zI]
theorem cc_257 {d : Nat} {E : EnQ} {F : Nat → Int → Int32} {G : Nat → Int → Int64} {kk : Int → HeapP → ResP} {kx : Nat → HeapP → ResP} {K : Int → Int32} (hI : InvK K) (hF : F 218 = K) {x : Int} (hx : -2147483648 ≤ x ∧ x ≤ 2147483647) (hd : 2 ≤ d) : cT (callP MP d 257 [.ref 217, .int (zI x)] (mk E F G)) kk kx = kk (lstN (fun k : Nat => prO K k == x) (tI (K 5)).toNat) (mk E F G) := cT_ret (by apply ct_257 <;> assumption) (by have := lst_rg hI (fun k : Nat => prO K k == x); omega)
theorem ct_249 {d : Nat} {E : EnQ} {F : Nat → Int → Int32} {G : Nat → Int → Int64} {K : Int → Int32} (hI : InvK K) (hF : F 218 = K) {v : Int} (hv : -2147483648 ≤ v ∧ v ≤ 2147483647) (hd : 2 ≤ d) : callP MP d 249 [.ref 217, .int (zI v)] (mk E F G) = some (Sum.inl (some (.int (zI (lstN (fun k : Nat => prW K k == v) (tI (K 5)).toNat)))), mk E F G) := by

  have hb5 := hI.1.2.2.2.2.2.1
  have hb4 := hI.1.2.2.2.2.1
  have hb2 := hI.1.2.2.1
  have hb3 := hI.1.2.2.2.1

  refine into (D := 1) (by omega) hM_249 (rcv_mk rfl (by decide)) rfl fun d hd => ?_
  show runP MP d 249 (0, [some (.ref 217), some (.int (zI v)), none], [], _) = _
  have hgo : ∀ n : Nat, (n : Int) ≤ tI (K 5) → runP MP d 249 (7, [some (.ref 217), some (.int (zI v)), some (.int (zI ((n : Int) - 1)))], [], mk E F G) = some (Sum.inl (some (.int (zI (lstN (fun k : Nat => prW K k == v) n)))), mk E F G) := by
    intro n
    induction n with
    | zero => intro _; rw [q_249_7]; (try simp only [↓n_cI, li_0, li_1, li_7, li_210, zI_add, zI_sub, zI_mul, zI_neg, ↓Option.bind_some]); simp (disch := (first | assumption | exact tI_rg _ | omega | exact uR_at | exact row_ne hF (by decide) | exact row_ne (row_ne hF (by decide)) (by decide) | exact SnS_18 | exact SnS_30 | exact LdS_44 | exact LdS_46)) only [q_249_0, q_249_27, ↓n_cI, li_0, li_1, li_7, li_210, zI_add, zI_sub, zI_mul, zI_neg, ↓Option.bind_some, zIt2, uR_at, uR_ne, uR_uR, uC_uC, uC_at, ↓reduceIte, decide_eq_true_eq, leT, leF, ltT, ltF, eqT, eqF, ne_eq, not_true_eq_false, not_false_eq_true, Bool.false_eq_true, tI_zI]; rfl
    | succ n ih =>
      intro hn
      have hw := (pr_in hI (i := (n : Int)) (by omega) (by omega)).1
      have en : ((n + 1 : Nat) : Int) - 1 = (n : Int) := by omega
      rw [en]
      by_cases h : prW K (n : Int) = v
      · rw [lstN_pos (by exact beq_iff_eq.mpr h)]
        rw [q_249_7]; (try simp only [↓n_cI, li_0, li_1, li_7, li_210, zI_add, zI_sub, zI_mul, zI_neg, ↓Option.bind_some]); simp (disch := (first | assumption | exact tI_rg _ | omega | exact uR_at | exact row_ne hF (by decide) | exact row_ne (row_ne hF (by decide)) (by decide) | exact SnS_18 | exact SnS_30 | exact LdS_44 | exact LdS_46)) only [q_249_0, q_249_27, ↓cc_211 hI, ↓n_cI, li_0, li_1, li_7, li_210, zI_add, zI_sub, zI_mul, zI_neg, ↓Option.bind_some, zIt2, uR_at, uR_ne, uR_uR, uC_uC, uC_at, ↓reduceIte, decide_eq_true_eq, leT, leF, ltT, ltF, eqT, eqF, ne_eq, not_true_eq_false, not_false_eq_true, Bool.false_eq_true, tI_zI]
      · rw [lstN_neg (by exact fun z => h (beq_iff_eq.mp z)), ← ih (by omega)]
        by_cases g : v = -1
        · rw [q_249_7]; (try simp only [↓n_cI, li_0, li_1, li_7, li_210, zI_add, zI_sub, zI_mul, zI_neg, ↓Option.bind_some]); simp (disch := (first | assumption | exact tI_rg _ | omega | exact uR_at | exact row_ne hF (by decide) | exact row_ne (row_ne hF (by decide)) (by decide) | exact SnS_18 | exact SnS_30 | exact LdS_44 | exact LdS_46)) only [q_249_0, q_249_27, ↓cc_211 hI, ↓n_cI, li_0, li_1, li_7, li_210, zI_add, zI_sub, zI_mul, zI_neg, ↓Option.bind_some, zIt2, uR_at, uR_ne, uR_uR, uC_uC, uC_at, ↓reduceIte, decide_eq_true_eq, leT, leF, ltT, ltF, eqT, eqF, ne_eq, not_true_eq_false, not_false_eq_true, Bool.false_eq_true, tI_zI]
          rfl
        · rw [q_249_7]; (try simp only [↓n_cI, li_0, li_1, li_7, li_210, zI_add, zI_sub, zI_mul, zI_neg, ↓Option.bind_some]); simp (disch := (first | assumption | exact tI_rg _ | omega | exact uR_at | exact row_ne hF (by decide) | exact row_ne (row_ne hF (by decide)) (by decide) | exact SnS_18 | exact SnS_30 | exact LdS_44 | exact LdS_46)) only [q_249_0, q_249_27, ↓cc_211 hI, ↓n_cI, li_0, li_1, li_7, li_210, zI_add, zI_sub, zI_mul, zI_neg, ↓Option.bind_some, zIt2, uR_at, uR_ne, uR_uR, uC_uC, uC_at, ↓reduceIte, decide_eq_true_eq, leT, leF, ltT, ltF, eqT, eqF, ne_eq, not_true_eq_false, not_false_eq_true, Bool.false_eq_true, tI_zI]
          rfl
  have := hgo (tI (K 5)).toNat (by omega)
  rw [← this, show (((tI (K 5)).toNat : Nat) : Int) = tI (K 5) by omega]
  rw [q_249_0]; (try simp only [↓n_cI, li_0, li_1, li_7, li_210, zI_add, zI_sub, zI_mul, zI_neg, ↓Option.bind_some]); simp (disch := (first | assumption | exact tI_rg _ | omega | exact uR_at | exact row_ne hF (by decide) | exact row_ne (row_ne hF (by decide)) (by decide) | exact SnS_18 | exact SnS_30 | exact LdS_44 | exact LdS_46)) only [q_249_27, ↓cc_210 hI, ↓n_cI, li_0, li_1, li_7, li_210, zI_add, zI_sub, zI_mul, zI_neg, ↓Option.bind_some, zIt2, uR_at, uR_ne, uR_uR, uC_uC, uC_at, ↓reduceIte, decide_eq_true_eq, leT, leF, ltT, ltF, eqT, eqF, ne_eq, not_true_eq_false, not_false_eq_true, Bool.false_eq_true, tI_zI]
theorem cc_249 {d : Nat} {E : EnQ} {F : Nat → Int → Int32} {G : Nat → Int → Int64} {kk : Int → HeapP → ResP} {kx : Nat → HeapP → ResP} {K : Int → Int32} (hI : InvK K) (hF : F 218 = K) {v : Int} (hv : -2147483648 ≤ v ∧ v ≤ 2147483647) (hd : 2 ≤ d) : cT (callP MP d 249 [.ref 217, .int (zI v)] (mk E F G)) kk kx = kk (lstN (fun k : Nat => prW K k == v) (tI (K 5)).toNat) (mk E F G) := cT_ret (by apply ct_249 <;> assumption) (by have := lst_rg hI (fun k : Nat => prW K k == v); omega)
theorem ct_246 {d : Nat} {E : EnQ} {F : Nat → Int → Int32} {G : Nat → Int → Int64} {K : Int → Int32} (hI : InvK K) (hF : F 218 = K) {x y : Int} (hx : -2147483648 ≤ x ∧ x ≤ 2147483647) (hy : -2147483648 ≤ y ∧ y ≤ 2147483647) (hd : 3 ≤ d) : callP MP d 246 [.ref 217, .int (zI x), .int (zI y)] (mk E F G) = some (Sum.inl (some (.int (zI (if wayZ K x y = -1 then 0 else cntN (fun k : Nat => prW K k == wayZ K x y) (tI (K 5)).toNat)))), mk E F G) := by

  have hb5 := hI.1.2.2.2.2.2.1
  have hb4 := hI.1.2.2.2.2.1
  have hb2 := hI.1.2.2.1
  have hb3 := hI.1.2.2.2.1

  have hw := wayZ_lo hb2 x y
  refine into (D := 2) (by omega) hM_246 (rcv_mk rfl (by decide)) rfl fun d hd => ?_
  show runP MP d 246 (0, [some (.ref 217), some (.int (zI x)), some (.int (zI y)), none], [], _) = _
  by_cases h : wayZ K x y = -1
  · rw [if_pos h]; rw [q_246_0]; (try simp only [↓n_cI, li_0, li_1, zI_add, zI_sub, zI_mul, zI_neg, ↓Option.bind_some]); simp (disch := (first | assumption | exact tI_rg _ | omega | exact uR_at | exact row_ne hF (by decide) | exact row_ne (row_ne hF (by decide)) (by decide) | exact SnS_18 | exact SnS_30 | exact LdS_44 | exact LdS_46)) only [q_246_21, ↓cc_229 hI, ↓n_cI, li_0, li_1, zI_add, zI_sub, zI_mul, zI_neg, ↓Option.bind_some, zIt2, uR_at, uR_ne, uR_uR, uC_uC, uC_at, ↓reduceIte, decide_eq_true_eq, leT, leF, ltT, ltF, eqT, eqF, ne_eq, not_true_eq_false, not_false_eq_true, Bool.false_eq_true, tI_zI]
  · rw [if_neg h]; rw [q_246_0]; (try simp only [↓n_cI, li_0, li_1, zI_add, zI_sub, zI_mul, zI_neg, ↓Option.bind_some]); simp (disch := (first | assumption | exact tI_rg _ | omega | exact uR_at | exact row_ne hF (by decide) | exact row_ne (row_ne hF (by decide)) (by decide) | exact SnS_18 | exact SnS_30 | exact LdS_44 | exact LdS_46)) only [q_246_21, ↓cc_229 hI, ↓cc_209 hI, ↓n_cI, li_0, li_1, zI_add, zI_sub, zI_mul, zI_neg, ↓Option.bind_some, zIt2, uR_at, uR_ne, uR_uR, uC_uC, uC_at, ↓reduceIte, decide_eq_true_eq, leT, leF, ltT, ltF, eqT, eqF, ne_eq, not_true_eq_false, not_false_eq_true, Bool.false_eq_true, tI_zI]
theorem cc_246 {d : Nat} {E : EnQ} {F : Nat → Int → Int32} {G : Nat → Int → Int64} {kk : Int → HeapP → ResP} {kx : Nat → HeapP → ResP} {K : Int → Int32} (hI : InvK K) (hF : F 218 = K) {x y : Int} (hx : -2147483648 ≤ x ∧ x ≤ 2147483647) (hy : -2147483648 ≤ y ∧ y ≤ 2147483647) (hd : 3 ≤ d) : cT (callP MP d 246 [.ref 217, .int (zI x), .int (zI y)] (mk E F G)) kk kx = kk (if wayZ K x y = -1 then 0 else cntN (fun k : Nat => prW K k == wayZ K x y) (tI (K 5)).toNat) (mk E F G) := cT_ret (by apply ct_246 <;> assumption) (by have := cntN_rg (fun k : Nat => prW K k == wayZ K x y) (tI (K 5)).toNat; have := hI.1.2.2.2.2.2.1; have := hI.1.2.2.2.2.1; split <;> omega)
theorem ct_253 {d : Nat} {E : EnQ} {F : Nat → Int → Int32} {G : Nat → Int → Int64} {K : Int → Int32} (hI : InvK K) (hF : F 218 = K) {x : Int} (hx : -2147483648 ≤ x ∧ x ≤ 2147483647) (hd : 2 ≤ d) : callP MP d 253 [.ref 217, .int (zI x)] (mk E F G) = some (Sum.inl (some (.int (zI (((tchN K x : Nat) : Int))))), mk E F G) := by

  have hb5 := hI.1.2.2.2.2.2.1
  have hb4 := hI.1.2.2.2.2.1
  have hb2 := hI.1.2.2.1
  have hb3 := hI.1.2.2.2.1

  refine into (D := 1) (by omega) hM_253 (rcv_mk rfl (by decide)) rfl fun d hd => ?_
  show runP MP d 253 (0, [some (.ref 217), some (.int (zI x)), none, none], [], _) = _
  rw [q_253_0]
  unfold tchN
  refine (loopN (fun j : Nat => runP MP d 253 (4, [some (.ref 217), some (.int (zI (x))), some (.int (zI (((orN (fun k : Nat => if prO K k = x then bitN (fromZ K (prW K k)) ||| bitN (toZ K (prW K k)) else 0) j : Nat) : Int)))), some (.int (zI ((j : Nat))))], [], mk E F G)) ((tI (K 5)).toNat) (fun j hj => ?_)).trans ?_
  · show runP MP d 253 (4, [some (.ref 217), some (.int (zI (x))), some (.int (zI (((orN (fun k : Nat => if prO K k = x then bitN (fromZ K (prW K k)) ||| bitN (toZ K (prW K k)) else 0) j : Nat) : Int)))), some (.int (zI ((j : Nat))))], [], mk E F G) = runP MP d 253 (4, [some (.ref 217), some (.int (zI (x))), some (.int (zI (((orN (fun k : Nat => if prO K k = x then bitN (fromZ K (prW K k)) ||| bitN (toZ K (prW K k)) else 0) (j + 1) : Nat) : Int)))), some (.int (zI (((j + 1) : Nat))))], [], mk E F G)
    have hw := (pr_in hI (i := (j : Int)) (by omega) (by omega)).1
    have hr := tI_rg (K (47 + 2 * (j : Int)))
    have hr2 : -2147483648 ≤ prO K (j : Int) ∧ prO K (j : Int) ≤ 2147483647 := hr
    have h1 := from_in hI hw
    have h2 := to_in hI hw
    have h0 := hI.1.2.1
    rw [orN_succ, nsucc]
    by_cases h : prO K (j : Int) = x
    · rw [if_pos h]
      rw [q_253_4]; (try simp only [↓n_cI, li_0, li_1, li_4, li_210, zI_add, zI_sub, zI_mul, zI_neg, ↓Option.bind_some]); simp (disch := (first | assumption | exact tI_rg _ | omega | exact uR_at | exact row_ne hF (by decide) | exact row_ne (row_ne hF (by decide)) (by decide) | exact SnS_18 | exact SnS_30 | exact LdS_44 | exact LdS_46)) only [q_253_0, q_253_49, ↓cc_210 hI, ↓cc_211 hI, ↓cc_221 hI, ↓cc_216 hI, ↓cc_217 hI, shlB, orZ, ↓n_cI, li_0, li_1, li_4, li_210, zI_add, zI_sub, zI_mul, zI_neg, ↓Option.bind_some, zIt2, uR_at, uR_ne, uR_uR, uC_uC, uC_at, ↓reduceIte, decide_eq_true_eq, leT, leF, ltT, ltF, eqT, eqF, ne_eq, not_true_eq_false, not_false_eq_true, Bool.false_eq_true, tI_zI]
    · rw [if_neg h]
      have ez : ∀ s : Nat, zI (s : Int) ||| zI 0 = zI ((s ||| 0 : Nat) : Int) := fun s => orZ s 0
      rw [q_253_4]; (try simp only [↓n_cI, li_0, li_1, li_4, li_210, zI_add, zI_sub, zI_mul, zI_neg, ↓Option.bind_some]); simp (disch := (first | assumption | exact tI_rg _ | omega | exact uR_at | exact row_ne hF (by decide) | exact row_ne (row_ne hF (by decide)) (by decide) | exact SnS_18 | exact SnS_30 | exact LdS_44 | exact LdS_46)) only [q_253_0, q_253_49, ↓cc_210 hI, ↓cc_211 hI, ↓cc_221 hI, ez, ↓n_cI, li_0, li_1, li_4, li_210, zI_add, zI_sub, zI_mul, zI_neg, ↓Option.bind_some, zIt2, uR_at, uR_ne, uR_uR, uC_uC, uC_at, ↓reduceIte, decide_eq_true_eq, leT, leF, ltT, ltF, eqT, eqF, ne_eq, not_true_eq_false, not_false_eq_true, Bool.false_eq_true, tI_zI]
  · show runP MP d 253 (4, [some (.ref 217), some (.int (zI (x))), some (.int (zI (((orN (fun k : Nat => if prO K k = x then bitN (fromZ K (prW K k)) ||| bitN (toZ K (prW K k)) else 0) ((tI (K 5)).toNat) : Nat) : Int)))), some (.int (zI ((((tI (K 5)).toNat) : Nat))))], [], mk E F G) = _
    rw [q_253_4]; (try simp only [↓n_cI, li_0, li_1, li_4, li_210, zI_add, zI_sub, zI_mul, zI_neg, ↓Option.bind_some]); simp (disch := (first | assumption | exact tI_rg _ | omega | exact uR_at | exact row_ne hF (by decide) | exact row_ne (row_ne hF (by decide)) (by decide) | exact SnS_18 | exact SnS_30 | exact LdS_44 | exact LdS_46)) only [q_253_0, q_253_49, ↓cc_210 hI, ↓n_cI, li_0, li_1, li_4, li_210, zI_add, zI_sub, zI_mul, zI_neg, ↓Option.bind_some, zIt2, uR_at, uR_ne, uR_uR, uC_uC, uC_at, ↓reduceIte, decide_eq_true_eq, leT, leF, ltT, ltF, eqT, eqF, ne_eq, not_true_eq_false, not_false_eq_true, Bool.false_eq_true, tI_zI]
theorem cc_253 {d : Nat} {E : EnQ} {F : Nat → Int → Int32} {G : Nat → Int → Int64} {kk : Int → HeapP → ResP} {kx : Nat → HeapP → ResP} {K : Int → Int32} (hI : InvK K) (hF : F 218 = K) {x : Int} (hx : -2147483648 ≤ x ∧ x ≤ 2147483647) (hd : 2 ≤ d) (hv : -2147483648 ≤ ((tchN K x : Nat) : Int) ∧ ((tchN K x : Nat) : Int) ≤ 2147483647) : cT (callP MP d 253 [.ref 217, .int (zI x)] (mk E F G)) kk kx = kk (((tchN K x : Nat) : Int)) (mk E F G) := cT_ret (by apply ct_253 <;> assumption) hv
theorem ct_255 {d : Nat} {E : EnQ} {F : Nat → Int → Int32} {G : Nat → Int → Int64} {K : Int → Int32} (hI : InvK K) (hF : F 218 = K) {i : Int} (hi : -1 ≤ i ∧ i < tI (K 5)) (hd : 2 ≤ d) : callP MP d 255 [.ref 217, .int (zI i)] (mk E F G) = some (Sum.inl (some (.int (zI (if i = -1 then 0 else tI (K 4) - tI (K 5) + i + 1)))), mk E F G) := by

  have hb5 := hI.1.2.2.2.2.2.1
  have hb4 := hI.1.2.2.2.2.1
  have hb2 := hI.1.2.2.1
  have hb3 := hI.1.2.2.2.1

  refine into (D := 1) (by omega) hM_255 (rcv_mk rfl (by decide)) rfl fun d hd => ?_
  show runP MP d 255 (0, [some (.ref 217), some (.int (zI i))], [], _) = _
  by_cases h : i = -1
  · rw [if_pos h]; rw [q_255_0]; (try simp only [↓n_al, ↓n_cI, li_0, li_1, li_4, li_12, li_24, li_210, li_255, zI_add, zI_sub, zI_mul, zI_neg, ↓Option.bind_some]); simp (disch := (first | assumption | exact tI_rg _ | omega | exact uR_at | exact row_ne hF (by decide) | exact row_ne (row_ne hF (by decide)) (by decide) | exact SnS_18 | exact SnS_30 | exact LdS_44 | exact LdS_46)) only [q_255_24, ↓n_al, ↓n_cI, li_0, li_1, li_4, li_12, li_24, li_210, li_255, zI_add, zI_sub, zI_mul, zI_neg, ↓Option.bind_some, ↓g12_0, ↓al_218, ↓as_218, zIt2, uR_at, uR_ne, uR_uR, uC_uC, uC_at, ↓reduceIte, decide_eq_true_eq, leT, leF, ltT, ltF, eqT, eqF, ne_eq, not_true_eq_false, not_false_eq_true, Bool.false_eq_true, tI_zI]
  · rw [if_neg h]; rw [q_255_0]; (try simp only [↓n_al, ↓n_cI, li_0, li_1, li_4, li_12, li_24, li_210, li_255, zI_add, zI_sub, zI_mul, zI_neg, ↓Option.bind_some]); simp (disch := (first | assumption | exact tI_rg _ | omega | exact uR_at | exact row_ne hF (by decide) | exact row_ne (row_ne hF (by decide)) (by decide) | exact SnS_18 | exact SnS_30 | exact LdS_44 | exact LdS_46)) only [q_255_24, ↓cc_210 hI, hF, ↓n_al, ↓n_cI, li_0, li_1, li_4, li_12, li_24, li_210, li_255, zI_add, zI_sub, zI_mul, zI_neg, ↓Option.bind_some, ↓g12_0, ↓al_218, ↓as_218, zIt2, uR_at, uR_ne, uR_uR, uC_uC, uC_at, ↓reduceIte, decide_eq_true_eq, leT, leF, ltT, ltF, eqT, eqF, ne_eq, not_true_eq_false, not_false_eq_true, Bool.false_eq_true, tI_zI]
theorem cc_255 {d : Nat} {E : EnQ} {F : Nat → Int → Int32} {G : Nat → Int → Int64} {kk : Int → HeapP → ResP} {kx : Nat → HeapP → ResP} {K : Int → Int32} (hI : InvK K) (hF : F 218 = K) {i : Int} (hi : -1 ≤ i ∧ i < tI (K 5)) (hd : 2 ≤ d) : cT (callP MP d 255 [.ref 217, .int (zI i)] (mk E F G)) kk kx = kk (if i = -1 then 0 else tI (K 4) - tI (K 5) + i + 1) (mk E F G) := cT_ret (by apply ct_255 <;> assumption) (by have := hI.1.2.2.2.2.2.1; have := hI.1.2.2.2.2.1; split <;> omega)
theorem ct_239 {d : Nat} {E : EnQ} {F : Nat → Int → Int32} {G : Nat → Int → Int64} {K : Int → Int32} (hI : InvK K) (hF : F 218 = K) (hd : 2 ≤ d) : callP MP d 239 [.ref 217] (mk E F G) = some (Sum.inl (some (.int (zI (((wysN K : Nat) : Int))))), mk E F G) := by

  have hb5 := hI.1.2.2.2.2.2.1
  have hb4 := hI.1.2.2.2.2.1
  have hb2 := hI.1.2.2.1
  have hb3 := hI.1.2.2.2.1

  refine into (D := 1) (by omega) hM_239 (rcv_mk rfl (by decide)) rfl fun d hd => ?_
  show runP MP d 239 (0, [some (.ref 217), none, none], [], _) = _
  rw [q_239_0]
  unfold wysN
  refine (loopN (fun j : Nat => runP MP d 239 (4, [some (.ref 217), some (.int (zI (((orN (fun k : Nat => bitN (prW K k)) j : Nat) : Int)))), some (.int (zI ((j : Nat))))], [], mk E F G)) ((tI (K 5)).toNat) (fun j hj => ?_)).trans ?_
  · show runP MP d 239 (4, [some (.ref 217), some (.int (zI (((orN (fun k : Nat => bitN (prW K k)) j : Nat) : Int)))), some (.int (zI ((j : Nat))))], [], mk E F G) = runP MP d 239 (4, [some (.ref 217), some (.int (zI (((orN (fun k : Nat => bitN (prW K k)) (j + 1) : Nat) : Int)))), some (.int (zI (((j + 1) : Nat))))], [], mk E F G)
    have hw := (pr_in hI (i := (j : Int)) (by omega) (by omega)).1
    rw [orN_succ, nsucc]
    rw [q_239_4]; (try simp only [↓n_cI, li_0, li_1, li_4, li_210, zI_add, zI_sub, zI_mul, zI_neg, ↓Option.bind_some]); simp (disch := (first | assumption | exact tI_rg _ | omega | exact uR_at | exact row_ne hF (by decide) | exact row_ne (row_ne hF (by decide)) (by decide) | exact SnS_18 | exact SnS_30 | exact LdS_44 | exact LdS_46)) only [q_239_0, ↓cc_210 hI, ↓cc_211 hI, shlB, orZ, ↓n_cI, li_0, li_1, li_4, li_210, zI_add, zI_sub, zI_mul, zI_neg, ↓Option.bind_some, zIt2, uR_at, uR_ne, uR_uR, uC_uC, uC_at, ↓reduceIte, decide_eq_true_eq, leT, leF, ltT, ltF, eqT, eqF, ne_eq, not_true_eq_false, not_false_eq_true, Bool.false_eq_true, tI_zI]
  · show runP MP d 239 (4, [some (.ref 217), some (.int (zI (((orN (fun k : Nat => bitN (prW K k)) ((tI (K 5)).toNat) : Nat) : Int)))), some (.int (zI ((((tI (K 5)).toNat) : Nat))))], [], mk E F G) = _
    rw [q_239_4]; (try simp only [↓n_cI, li_0, li_1, li_4, li_210, zI_add, zI_sub, zI_mul, zI_neg, ↓Option.bind_some]); simp (disch := (first | assumption | exact tI_rg _ | omega | exact uR_at | exact row_ne hF (by decide) | exact row_ne (row_ne hF (by decide)) (by decide) | exact SnS_18 | exact SnS_30 | exact LdS_44 | exact LdS_46)) only [q_239_0, ↓cc_210 hI, ↓n_cI, li_0, li_1, li_4, li_210, zI_add, zI_sub, zI_mul, zI_neg, ↓Option.bind_some, zIt2, uR_at, uR_ne, uR_uR, uC_uC, uC_at, ↓reduceIte, decide_eq_true_eq, leT, leF, ltT, ltF, eqT, eqF, ne_eq, not_true_eq_false, not_false_eq_true, Bool.false_eq_true, tI_zI]
theorem cc_239 {d : Nat} {E : EnQ} {F : Nat → Int → Int32} {G : Nat → Int → Int64} {kk : Int → HeapP → ResP} {kx : Nat → HeapP → ResP} {K : Int → Int32} (hI : InvK K) (hF : F 218 = K) (hd : 2 ≤ d) (hv : -2147483648 ≤ ((wysN K : Nat) : Int) ∧ ((wysN K : Nat) : Int) ≤ 2147483647) : cT (callP MP d 239 [.ref 217] (mk E F G)) kk kx = kk (((wysN K : Nat) : Int)) (mk E F G) := cT_ret (by apply ct_239 <;> assumption) hv
/-- on from a set, over the prints -/
def onN (K : Int → Int32) (s : Nat) : Nat := orN (fun k : Nat => if s.testBit (fromZ K (prW K k)).toNat = true then bitN (toZ K (prW K k)) else 0) (tI (K 5)).toNat
theorem or0 (s : Nat) : zI (s : Int) ||| zI 0 = zI ((s ||| 0 : Nat) : Int) := orZ s 0
theorem ct_278 {d : Nat} {E : EnQ} {F : Nat → Int → Int32} {G : Nat → Int → Int64} {K : Int → Int32} (hI : InvK K) (hF : F 218 = K) {s : Nat} (hs : s < 1024) (hd : 2 ≤ d) : callP MP d 278 [.ref 217, .int (zI (s : Int))] (mk E F G) = some (Sum.inl (some (.int (zI (((onN K s : Nat) : Int))))), mk E F G) := by

  have hb5 := hI.1.2.2.2.2.2.1
  have hb4 := hI.1.2.2.2.2.1
  have hb2 := hI.1.2.2.1
  have hb3 := hI.1.2.2.2.1

  refine into (D := 1) (by omega) hM_278 (rcv_mk rfl (by decide)) rfl fun d hd => ?_
  show runP MP d 278 (0, [some (.ref 217), some (.int (zI (s : Int))), none, none], [], _) = _
  rw [q_278_0]
  unfold onN
  refine (loopN (fun j : Nat => runP MP d 278 (4, [some (.ref 217), some (.int (zI ((s : Int)))), some (.int (zI (((orN (fun k : Nat => if s.testBit (fromZ K (prW K k)).toNat = true then bitN (toZ K (prW K k)) else 0) j : Nat) : Int)))), some (.int (zI ((j : Nat))))], [], mk E F G)) ((tI (K 5)).toNat) (fun j hj => ?_)).trans ?_
  · show runP MP d 278 (4, [some (.ref 217), some (.int (zI ((s : Int)))), some (.int (zI (((orN (fun k : Nat => if s.testBit (fromZ K (prW K k)).toNat = true then bitN (toZ K (prW K k)) else 0) j : Nat) : Int)))), some (.int (zI ((j : Nat))))], [], mk E F G) = runP MP d 278 (4, [some (.ref 217), some (.int (zI ((s : Int)))), some (.int (zI (((orN (fun k : Nat => if s.testBit (fromZ K (prW K k)).toNat = true then bitN (toZ K (prW K k)) else 0) (j + 1) : Nat) : Int)))), some (.int (zI (((j + 1) : Nat))))], [], mk E F G)
    have hw := (pr_in hI (i := (j : Int)) (by omega) (by omega)).1
    have h1 := from_in hI hw
    have h2 := to_in hI hw
    have h0 := hI.1.2.1
    rw [orN_succ, nsucc]
    by_cases h : s.testBit (fromZ K (prW K (j : Int))).toNat = true
    · rw [if_pos h]
      rw [q_278_4]; (try simp only [↓n_cI, li_0, li_1, li_4, li_210, zI_add, zI_sub, zI_mul, zI_neg, ↓Option.bind_some]); simp (disch := (first | assumption | exact tI_rg _ | omega | exact uR_at | exact row_ne hF (by decide) | exact row_ne (row_ne hF (by decide)) (by decide) | exact SnS_18 | exact SnS_30 | exact LdS_44 | exact LdS_46)) only [q_278_0, q_278_45, ↓cc_210 hI, ↓cc_211 hI, ↓cc_216 hI, ↓cc_217 hI, shr_bit, if_pos h, shlB, orZ, ↓n_cI, li_0, li_1, li_4, li_210, zI_add, zI_sub, zI_mul, zI_neg, ↓Option.bind_some, zIt2, uR_at, uR_ne, uR_uR, uC_uC, uC_at, ↓reduceIte, decide_eq_true_eq, leT, leF, ltT, ltF, eqT, eqF, ne_eq, not_true_eq_false, not_false_eq_true, Bool.false_eq_true, tI_zI]
    · rw [if_neg h]
      rw [q_278_4]; (try simp only [↓n_cI, li_0, li_1, li_4, li_210, zI_add, zI_sub, zI_mul, zI_neg, ↓Option.bind_some]); simp (disch := (first | assumption | exact tI_rg _ | omega | exact uR_at | exact row_ne hF (by decide) | exact row_ne (row_ne hF (by decide)) (by decide) | exact SnS_18 | exact SnS_30 | exact LdS_44 | exact LdS_46)) only [q_278_0, q_278_45, ↓cc_210 hI, ↓cc_211 hI, ↓cc_216 hI, shr_bit, if_neg h, or0, ↓n_cI, li_0, li_1, li_4, li_210, zI_add, zI_sub, zI_mul, zI_neg, ↓Option.bind_some, zIt2, uR_at, uR_ne, uR_uR, uC_uC, uC_at, ↓reduceIte, decide_eq_true_eq, leT, leF, ltT, ltF, eqT, eqF, ne_eq, not_true_eq_false, not_false_eq_true, Bool.false_eq_true, tI_zI]
  · show runP MP d 278 (4, [some (.ref 217), some (.int (zI ((s : Int)))), some (.int (zI (((orN (fun k : Nat => if s.testBit (fromZ K (prW K k)).toNat = true then bitN (toZ K (prW K k)) else 0) ((tI (K 5)).toNat) : Nat) : Int)))), some (.int (zI ((((tI (K 5)).toNat) : Nat))))], [], mk E F G) = _
    rw [q_278_4]; (try simp only [↓n_cI, li_0, li_1, li_4, li_210, zI_add, zI_sub, zI_mul, zI_neg, ↓Option.bind_some]); simp (disch := (first | assumption | exact tI_rg _ | omega | exact uR_at | exact row_ne hF (by decide) | exact row_ne (row_ne hF (by decide)) (by decide) | exact SnS_18 | exact SnS_30 | exact LdS_44 | exact LdS_46)) only [q_278_0, q_278_45, ↓cc_210 hI, ↓n_cI, li_0, li_1, li_4, li_210, zI_add, zI_sub, zI_mul, zI_neg, ↓Option.bind_some, zIt2, uR_at, uR_ne, uR_uR, uC_uC, uC_at, ↓reduceIte, decide_eq_true_eq, leT, leF, ltT, ltF, eqT, eqF, ne_eq, not_true_eq_false, not_false_eq_true, Bool.false_eq_true, tI_zI]
theorem cc_278 {d : Nat} {E : EnQ} {F : Nat → Int → Int32} {G : Nat → Int → Int64} {kk : Int → HeapP → ResP} {kx : Nat → HeapP → ResP} {K : Int → Int32} (hI : InvK K) (hF : F 218 = K) {s : Nat} (hs : s < 1024) (hd : 2 ≤ d) (hv : -2147483648 ≤ ((onN K s : Nat) : Int) ∧ ((onN K s : Nat) : Int) ≤ 2147483647) : cT (callP MP d 278 [.ref 217, .int (zI (s : Int))] (mk E F G)) kk kx = kk (((onN K s : Nat) : Int)) (mk E F G) := cT_ret (by apply ct_278 <;> assumption) hv
theorem sumN_rg {f : Nat → Int} {n : Nat} {b : Int} (h : ∀ j, j < n → 0 ≤ f j ∧ f j ≤ b) : 0 ≤ sumN f n ∧ sumN f n ≤ n * b := by
  induction n with
  | zero => exact ⟨Int.le_refl _, by show (0 : Int) ≤ ((0 : Nat) : Int) * b; simp⟩
  | succ n ih =>
    have h1 := ih (fun j hj => h j (by omega))
    have h2 := h n (by omega)
    unfold sumN
    have : ((n + 1 : Nat) : Int) * b = n * b + b := by rw [nsucc, Int.add_mul, Int.one_mul]
    rw [this]; omega
theorem ct_232 {d : Nat} {E : EnQ} {F : Nat → Int → Int32} {G : Nat → Int → Int64} {K : Int → Int32} (hI : InvK K) (hF : F 218 = K) (hd : 2 ≤ d) : callP MP d 232 [.ref 217] (mk E F G) = some (Sum.inl (some (.int (zI (stepsZ K)))), mk E F G) := by

  have hb5 := hI.1.2.2.2.2.2.1
  have hb4 := hI.1.2.2.2.2.1
  have hb2 := hI.1.2.2.1
  have hb3 := hI.1.2.2.2.1

  refine into (D := 1) (by omega) hM_232 (rcv_mk rfl (by decide)) rfl fun d hd => ?_
  show runP MP d 232 (0, [some (.ref 217), none, none], [], _) = _
  rw [q_232_0]
  unfold stepsZ
  refine (loopN (fun j : Nat => runP MP d 232 (4, [some (.ref 217), some (.int (zI (sumN (fun x : Nat => tI (K (39 + 2 * x))) j))), some (.int (zI ((j : Nat))))], [], mk E F G)) ((tI (K 3)).toNat) (fun j hj => ?_)).trans ?_
  · show runP MP d 232 (4, [some (.ref 217), some (.int (zI (sumN (fun x : Nat => tI (K (39 + 2 * x))) j))), some (.int (zI ((j : Nat))))], [], mk E F G) = runP MP d 232 (4, [some (.ref 217), some (.int (zI (sumN (fun x : Nat => tI (K (39 + 2 * x))) (j + 1)))), some (.int (zI (((j + 1) : Nat))))], [], mk E F G)
    have e39 : 38 + 2 * (j : Int) + 1 = 39 + 2 * (j : Int) := by omega
    rw [show sumN (fun x : Nat => tI (K (39 + 2 * x))) (j + 1) = sumN (fun x : Nat => tI (K (39 + 2 * x))) j + tI (K (39 + 2 * (j : Int))) from rfl, nsucc]
    rw [q_232_4]; (try simp only [↓n_al, ↓n_cI, li_0, li_1, li_2, li_4, li_12, li_38, zI_add, zI_sub, zI_mul, zI_neg, ↓Option.bind_some]); simp (disch := (first | assumption | exact tI_rg _ | omega | exact uR_at | exact row_ne hF (by decide) | exact row_ne (row_ne hF (by decide)) (by decide) | exact SnS_18 | exact SnS_30 | exact LdS_44 | exact LdS_46)) only [q_232_0, ↓cc_220 hI, hF, e39, ↓n_al, ↓n_cI, li_0, li_1, li_2, li_4, li_12, li_38, zI_add, zI_sub, zI_mul, zI_neg, ↓Option.bind_some, ↓g12_0, ↓al_218, ↓as_218, zIt2, uR_at, uR_ne, uR_uR, uC_uC, uC_at, ↓reduceIte, decide_eq_true_eq, leT, leF, ltT, ltF, eqT, eqF, ne_eq, not_true_eq_false, not_false_eq_true, Bool.false_eq_true, tI_zI]
  · show runP MP d 232 (4, [some (.ref 217), some (.int (zI (sumN (fun x : Nat => tI (K (39 + 2 * x))) ((tI (K 3)).toNat)))), some (.int (zI ((((tI (K 3)).toNat) : Nat))))], [], mk E F G) = _
    rw [q_232_4]; (try simp only [↓n_al, ↓n_cI, li_0, li_1, li_2, li_4, li_12, li_38, zI_add, zI_sub, zI_mul, zI_neg, ↓Option.bind_some]); simp (disch := (first | assumption | exact tI_rg _ | omega | exact uR_at | exact row_ne hF (by decide) | exact row_ne (row_ne hF (by decide)) (by decide) | exact SnS_18 | exact SnS_30 | exact LdS_44 | exact LdS_46)) only [q_232_0, ↓cc_220 hI, ↓n_al, ↓n_cI, li_0, li_1, li_2, li_4, li_12, li_38, zI_add, zI_sub, zI_mul, zI_neg, ↓Option.bind_some, ↓g12_0, ↓al_218, ↓as_218, zIt2, uR_at, uR_ne, uR_uR, uC_uC, uC_at, ↓reduceIte, decide_eq_true_eq, leT, leF, ltT, ltF, eqT, eqF, ne_eq, not_true_eq_false, not_false_eq_true, Bool.false_eq_true, tI_zI]
theorem cc_232 {d : Nat} {E : EnQ} {F : Nat → Int → Int32} {G : Nat → Int → Int64} {kk : Int → HeapP → ResP} {kx : Nat → HeapP → ResP} {K : Int → Int32} (hI : InvK K) (hF : F 218 = K) (hd : 2 ≤ d) (hv : -2147483648 ≤ stepsZ K ∧ stepsZ K ≤ 2147483647) : cT (callP MP d 232 [.ref 217] (mk E F G)) kk kx = kk (stepsZ K) (mk E F G) := cT_ret (by apply ct_232 <;> assumption) hv
end S93h
