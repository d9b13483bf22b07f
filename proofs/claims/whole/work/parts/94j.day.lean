/-! neighbours, draws -/
section S94j
set_option linter.unusedVariables false
set_option linter.unusedSimpArgs false
def lcgI (s : Int32) : Int32 := zI 1103515245 * s + zI 12345
def drwZ (s : Int32) : Int := tI (o_iushr s (zI 16))
theorem zI_bv (s : Int32) : s = zI ((s.toBitVec.toNat : Nat) : Int) := Int32.toBitVec_inj.mp (by
  rw [tb_nat]; exact (BitVec.ofNat_toNat 32 s.toBitVec).symm ▸ (by simp))
theorem drwZ_rg (s : Int32) : 0 ≤ drwZ s ∧ drwZ s ≤ 65535 := by
  have h1 := s.toBitVec.isLt
  have h2 := ushrZ s.toBitVec.toNat 16 h1 (by omega)
  rw [← zI_bv s] at h2
  unfold drwZ
  have e : (zI 16) = zI ((16 : Nat) : Int) := rfl
  have h3 : s.toBitVec.toNat / 2 ^ 16 < 65536 := by omega
  rw [e, h2, tI_zI (by omega)]; omega
theorem drw_eq (s : Int32) : o_iushr s (zI 16) = zI (drwZ s) := (zI_tI _).symm
theorem lcg_eq (s : Int32) : zI 1103515245 * s + zI 12345 = lcgI s := rfl
def isN (K : Int → Int32) (p : Int) (q : Nat) : Bool := decide (wayZ K p q ≠ -1)
def nearZ (K : Int → Int32) (p : Int) : Int := cntN (isN K p) (tI (K 1)).toNat
def nthB (K : Int → Int32) (p r : Int) (q : Nat) : Bool := isN K p q && decide (cntN (isN K p) q = r)
def nthZ (K : Int → Int32) (p r : Int) : Int := fndN (nthB K p r) (tI (K 1)).toNat 0
theorem cnt_mono {p : Nat → Bool} {a b : Nat} (h : a ≤ b) : cntN p a ≤ cntN p b := by
  induction h with
  | refl => exact Int.le_refl _
  | step _ ih => exact Int.le_trans ih (by show _ ≤ cntN p _ + (if _ then 1 else 0); split <;> omega)
theorem nth_some {p : Nat → Bool} {r : Int} (h0 : 0 ≤ r) : ∀ n : Nat, r < cntN p n → ∃ q, q < n ∧ p q = true ∧ cntN p q = r := by
  intro n
  induction n with
  | zero => intro h; have : cntN p 0 = 0 := rfl; omega
  | succ n ih =>
    intro h
    by_cases g : r < cntN p n
    · obtain ⟨q, h1, h2, h3⟩ := ih g; exact ⟨q, by omega, h2, h3⟩
    · by_cases e : p n = true
      · rw [cntN_pos e] at h; exact ⟨n, by omega, e, by omega⟩
      · rw [cntN_neg e] at h; omega
theorem nthZ_is {K : Int → Int32} {p r : Int} (hr : 0 ≤ r ∧ r < nearZ K p) : ∃ q : Nat, q < (tI (K 1)).toNat ∧ nthZ K p r = q ∧ wayZ K p q ≠ -1 ∧ cntN (isN K p) q = r ∧ ∀ i, i < q → nthB K p r i = false := by
  obtain ⟨q, h1, h2, h3⟩ := nth_some hr.1 _ hr.2
  rcases fndN_is (nthB K p r) (tI (K 1)).toNat 0 with ⟨-, h⟩ | ⟨k, -, hk, e, hp, hl⟩
  · have := h q (by omega) (by omega)
    unfold nthB at this; rw [h2, decide_eq_true h3] at this; cases this
  · unfold nthB at hp
    rw [Bool.and_eq_true] at hp
    exact ⟨k, by omega, e, of_decide_eq_true hp.1, of_decide_eq_true hp.2, fun i hi => hl i (by omega) hi⟩
theorem nearZ_rg {K : Int → Int32} (hI : InvK K) (p : Int) : 0 ≤ nearZ K p ∧ nearZ K p ≤ 10 := by
  have := cntN_rg (isN K p) (tI (K 1)).toNat
  have := hI.1.2.1
  unfold nearZ; omega
theorem ct_34 {d : Nat} {E : EnQ} {F : Nat → Int → Int32} {G : Nat → Int → Int64} {p : Nat} {x : Int} {K : Int → Int32} (hR : PlR F p K) (hI : InvK K) (hP : PlS E p) (hx : 0 ≤ x ∧ x < tI (K 1)) (hd : 3 ≤ d) : callP MP d 34 [.ref p, .int (zI x)] (mk E F G) = some (Sum.inl (some (.int (zI (nearZ K x)))), mk E F G) := by

  have hs := hP.1
  have b1 := hI.1.2.1
  have b2 := hI.1.2.2.1
  have e1 : tI (F p 1) = tI (K 1) := by rw [hR.1.2.1]

  refine into (D := 2) (by omega) hM_34 (rcv_mk hs (by decide)) rfl fun d hd => ?_
  show runP MP d 34 (0, [some (.ref p), some (.int (zI x)), none, none], [], _) = _
  rw [q_34_0]
  unfold nearZ
  refine (loopN (fun j : Nat => runP MP d 34 (4, [some (.ref p), some (.int (zI (x))), some (.int (zI (cntN (isN K x) j))), some (.int (zI ((j : Nat))))], [], mk E F G)) ((tI (K 1)).toNat) (fun j hj => ?_)).trans ?_
  · show runP MP d 34 (4, [some (.ref p), some (.int (zI (x))), some (.int (zI (cntN (isN K x) j))), some (.int (zI ((j : Nat))))], [], mk E F G) = runP MP d 34 (4, [some (.ref p), some (.int (zI (x))), some (.int (zI (cntN (isN K x) (j + 1)))), some (.int (zI (((j + 1) : Nat))))], [], mk E F G)
    have hc := cntN_rg (isN K x) j
    have hw := wayZ_lo b2 x (j : Int)
    have hpq : (0 ≤ x ∧ x < tI (K 1)) ∧ (0 ≤ (j : Int) ∧ (j : Int) < tI (K 1)) := ⟨hx, by omega⟩
    by_cases h : wayZ K x (j : Int) = -1
    · rw [cntN_neg (by unfold isN; rw [decide_eq_true_eq]; exact fun z => z h), nsucc]
      rw [q_34_4]; (try simp only [↓n_rd, ↓n_cI, li_0, li_1, li_2, li_4, zI_add, zI_sub, zI_mul, zI_neg, ↓Option.bind_some]); simp (disch := (first | assumption | exact tI_rg _ | omega | exact uR_at | exact row_ne hF (by decide) | exact row_ne (row_ne hF (by decide)) (by decide) | exact SnS_18 | exact SnS_30 | exact LdS_44 | exact LdS_46)) only [q_34_0, q_34_25, e1, ↓cc_26 hR hI, if_pos hpq, ↓n_rd, ↓n_cI, li_0, li_1, li_2, li_4, zI_add, zI_sub, zI_mul, zI_neg, ↓Option.bind_some, ↓g2_1, zIt2, uR_at, uR_ne, uR_uR, uC_uC, uC_at, ↓reduceIte, decide_eq_true_eq, leT, leF, ltT, ltF, eqT, eqF, ne_eq, not_true_eq_false, not_false_eq_true, Bool.false_eq_true, tI_zI]
    · rw [cntN_pos (by unfold isN; exact decide_eq_true h), nsucc]
      rw [q_34_4]; (try simp only [↓n_rd, ↓n_cI, li_0, li_1, li_2, li_4, zI_add, zI_sub, zI_mul, zI_neg, ↓Option.bind_some]); simp (disch := (first | assumption | exact tI_rg _ | omega | exact uR_at | exact row_ne hF (by decide) | exact row_ne (row_ne hF (by decide)) (by decide) | exact SnS_18 | exact SnS_30 | exact LdS_44 | exact LdS_46)) only [q_34_0, q_34_25, e1, ↓cc_26 hR hI, if_pos hpq, ↓n_rd, ↓n_cI, li_0, li_1, li_2, li_4, zI_add, zI_sub, zI_mul, zI_neg, ↓Option.bind_some, ↓g2_1, zIt2, uR_at, uR_ne, uR_uR, uC_uC, uC_at, ↓reduceIte, decide_eq_true_eq, leT, leF, ltT, ltF, eqT, eqF, ne_eq, not_true_eq_false, not_false_eq_true, Bool.false_eq_true, tI_zI]
  · show runP MP d 34 (4, [some (.ref p), some (.int (zI (x))), some (.int (zI (cntN (isN K x) ((tI (K 1)).toNat)))), some (.int (zI ((((tI (K 1)).toNat) : Nat))))], [], mk E F G) = _
    rw [q_34_4]; (try simp only [↓n_rd, ↓n_cI, li_0, li_1, li_2, li_4, zI_add, zI_sub, zI_mul, zI_neg, ↓Option.bind_some]); simp (disch := (first | assumption | exact tI_rg _ | omega | exact uR_at | exact row_ne hF (by decide) | exact row_ne (row_ne hF (by decide)) (by decide) | exact SnS_18 | exact SnS_30 | exact LdS_44 | exact LdS_46)) only [q_34_0, q_34_25, e1, ↓n_rd, ↓n_cI, li_0, li_1, li_2, li_4, zI_add, zI_sub, zI_mul, zI_neg, ↓Option.bind_some, ↓g2_1, zIt2, uR_at, uR_ne, uR_uR, uC_uC, uC_at, ↓reduceIte, decide_eq_true_eq, leT, leF, ltT, ltF, eqT, eqF, ne_eq, not_true_eq_false, not_false_eq_true, Bool.false_eq_true, tI_zI]
theorem cc_34 {d : Nat} {E : EnQ} {F : Nat → Int → Int32} {G : Nat → Int → Int64} {kk : Int → HeapP → ResP} {kx : Nat → HeapP → ResP} {p : Nat} {x : Int} {K : Int → Int32} (hR : PlR F p K) (hI : InvK K) (hP : PlS E p) (hx : 0 ≤ x ∧ x < tI (K 1)) (hd : 3 ≤ d) : cT (callP MP d 34 [.ref p, .int (zI x)] (mk E F G)) kk kx = kk (nearZ K x) (mk E F G) := cT_ret (by apply ct_34 <;> assumption) (by have := nearZ_rg hI x; omega)
theorem ct_35 {d : Nat} {E : EnQ} {F : Nat → Int → Int32} {G : Nat → Int → Int64} {p : Nat} {x : Int} {K : Int → Int32} (hR : PlR F p K) (hI : InvK K) (hP : PlS E p) (hx : 0 ≤ x ∧ x < tI (K 1)) {r : Int} (hr : 0 ≤ r ∧ r < nearZ K x) (hd : 3 ≤ d) : callP MP d 35 [.ref p, .int (zI x), .int (zI r)] (mk E F G) = some (Sum.inl (some (.int (zI (nthZ K x r)))), mk E F G) := by

  have hs := hP.1
  have b1 := hI.1.2.1
  have b2 := hI.1.2.2.1
  have e1 : tI (F p 1) = tI (K 1) := by rw [hR.1.2.1]

  have hnr := nearZ_rg hI x
  obtain ⟨q, n1, n2, n3, n4, n5⟩ := nthZ_is hr
  refine into (D := 2) (by omega) hM_35 (rcv_mk hs (by decide)) rfl fun d hd => ?_
  show runP MP d 35 (0, [some (.ref p), some (.int (zI x)), some (.int (zI r)), none, none], [], _) = _
  rw [q_35_0, n2]
  refine loopS (σ := Unit) (Post := fun z => z = some (Sum.inl (some (.int (zI (q : Int)))), mk E F G))
    (fun j _ => runP MP d 35 (5, [some (.ref p), some (.int (zI x)), some (.int (zI r)), some (.int (zI (r - cntN (isN K x) j))), some (.int (zI (j : Int)))], [], mk E F G))
    (fun j _ => j ≤ q) (q + 1) () (Nat.zero_le _) (fun s h => by omega) (fun j s hj hjq => ?_) |> fun h => Eq.trans (congrArg (fun z => runP MP d 35 (5, [some (.ref p), some (.int (zI x)), some (.int (zI r)), some (.int (zI z)), some (.int (zI 0))], [], mk E F G)) (show r = r - cntN (isN K x) 0 by show r = r - 0; omega)) h
  have hc := cntN_rg (isN K x) j
  have hm := cnt_mono (p := isN K x) hjq
  have hw := wayZ_lo b2 x (j : Int)
  have hpq : (0 ≤ x ∧ x < tI (K 1)) ∧ (0 ≤ (j : Int) ∧ (j : Int) < tI (K 1)) := ⟨hx, by omega⟩
  by_cases e : j = q
  · left
    subst e
    show runP MP d 35 _ = _
    rw [q_35_5]; (try simp only [↓n_rd, ↓n_cI, li_0, li_1, li_2, li_5, zI_add, zI_sub, zI_mul, zI_neg, ↓Option.bind_some]); simp (disch := (first | assumption | exact tI_rg _ | omega | exact uR_at | exact row_ne hF (by decide) | exact row_ne (row_ne hF (by decide)) (by decide) | exact SnS_18 | exact SnS_30 | exact LdS_44 | exact LdS_46)) only [q_35_0, q_35_35, e1, ↓cc_26 hR hI, if_pos hpq, ↓n_rd, ↓n_cI, li_0, li_1, li_2, li_5, zI_add, zI_sub, zI_mul, zI_neg, ↓Option.bind_some, ↓g2_1, zIt2, uR_at, uR_ne, uR_uR, uC_uC, uC_at, ↓reduceIte, decide_eq_true_eq, leT, leF, ltT, ltF, eqT, eqF, ne_eq, not_true_eq_false, not_false_eq_true, Bool.false_eq_true, tI_zI]
  · right
    refine ⟨(), by omega, ?_⟩
    show runP MP d 35 _ = runP MP d 35 _
    by_cases h : wayZ K x (j : Int) = -1
    · rw [cntN_neg (by unfold isN; rw [decide_eq_true_eq]; exact fun z => z h), nsucc]
      rw [q_35_5]; (try simp only [↓n_rd, ↓n_cI, li_0, li_1, li_2, li_5, zI_add, zI_sub, zI_mul, zI_neg, ↓Option.bind_some]); simp (disch := (first | assumption | exact tI_rg _ | omega | exact uR_at | exact row_ne hF (by decide) | exact row_ne (row_ne hF (by decide)) (by decide) | exact SnS_18 | exact SnS_30 | exact LdS_44 | exact LdS_46)) only [q_35_0, q_35_35, e1, ↓cc_26 hR hI, if_pos hpq, ↓n_rd, ↓n_cI, li_0, li_1, li_2, li_5, zI_add, zI_sub, zI_mul, zI_neg, ↓Option.bind_some, ↓g2_1, zIt2, uR_at, uR_ne, uR_uR, uC_uC, uC_at, ↓reduceIte, decide_eq_true_eq, leT, leF, ltT, ltF, eqT, eqF, ne_eq, not_true_eq_false, not_false_eq_true, Bool.false_eq_true, tI_zI]
    · have hj1 : isN K x j = true := by unfold isN; exact decide_eq_true h
      have hne : cntN (isN K x) j ≠ r := fun z => by
        have := n5 j (by omega)
        unfold nthB at this; rw [hj1, decide_eq_true z] at this; cases this
      rw [cntN_pos hj1, nsucc]
      rw [show r - (cntN (isN K x) j + 1) = r - cntN (isN K x) j + -1 by omega]
      rw [q_35_5]; (try simp only [↓n_rd, ↓n_cI, li_0, li_1, li_2, li_5, zI_add, zI_sub, zI_mul, zI_neg, ↓Option.bind_some]); simp (disch := (first | assumption | exact tI_rg _ | omega | exact uR_at | exact row_ne hF (by decide) | exact row_ne (row_ne hF (by decide)) (by decide) | exact SnS_18 | exact SnS_30 | exact LdS_44 | exact LdS_46)) only [q_35_0, q_35_35, e1, ↓cc_26 hR hI, if_pos hpq, ↓n_rd, ↓n_cI, li_0, li_1, li_2, li_5, zI_add, zI_sub, zI_mul, zI_neg, ↓Option.bind_some, ↓g2_1, zIt2, uR_at, uR_ne, uR_uR, uC_uC, uC_at, ↓reduceIte, decide_eq_true_eq, leT, leF, ltT, ltF, eqT, eqF, ne_eq, not_true_eq_false, not_false_eq_true, Bool.false_eq_true, tI_zI]
theorem cc_35 {d : Nat} {E : EnQ} {F : Nat → Int → Int32} {G : Nat → Int → Int64} {kk : Int → HeapP → ResP} {kx : Nat → HeapP → ResP} {p : Nat} {x : Int} {K : Int → Int32} (hR : PlR F p K) (hI : InvK K) (hP : PlS E p) (hx : 0 ≤ x ∧ x < tI (K 1)) {r : Int} (hr : 0 ≤ r ∧ r < nearZ K x) (hd : 3 ≤ d) : cT (callP MP d 35 [.ref p, .int (zI x), .int (zI r)] (mk E F G)) kk kx = kk (nthZ K x r) (mk E F G) := cT_ret (by apply ct_35 <;> assumption) (by obtain ⟨q, h1, h2, -⟩ := nthZ_is hr; have := hI.1.2.1; omega)
theorem ct_244 {d : Nat} {E : EnQ} {F : Nat → Int → Int32} {G : Nat → Int → Int64} {K : Int → Int32} (hI : InvK K) (hF : F 218 = K) {x : Int} (hx : 0 ≤ x ∧ x < tI (K 1)) (hd : 3 ≤ d) : callP MP d 244 [.ref 217, .int (zI x)] (mk E F G) = some (Sum.inl (some (.int (zI (nearZ K x)))), mk E F G) := by

  have b1 := hI.1.2.1
  have b2 := hI.1.2.2.1
  refine into (D := 2) (by omega) hM_244 (rcv_mk rfl (by decide)) rfl fun d hd => ?_
  show runP MP d 244 (0, [some (.ref 217), some (.int (zI x)), none, none], [], _) = _
  rw [q_244_0]
  unfold nearZ
  refine (loopN (fun j : Nat => runP MP d 244 (4, [some (.ref 217), some (.int (zI (x))), some (.int (zI (cntN (isN K x) j))), some (.int (zI ((j : Nat))))], [], mk E F G)) ((tI (K 1)).toNat) (fun j hj => ?_)).trans ?_
  · show runP MP d 244 (4, [some (.ref 217), some (.int (zI (x))), some (.int (zI (cntN (isN K x) j))), some (.int (zI ((j : Nat))))], [], mk E F G) = runP MP d 244 (4, [some (.ref 217), some (.int (zI (x))), some (.int (zI (cntN (isN K x) (j + 1)))), some (.int (zI (((j + 1) : Nat))))], [], mk E F G)
    have hc := cntN_rg (isN K x) j
    have hw := wayZ_lo b2 x (j : Int)
    by_cases h : wayZ K x (j : Int) = -1
    · rw [cntN_neg (by unfold isN; rw [decide_eq_true_eq]; exact fun z => z h), nsucc]
      rw [q_244_4]; (try simp only [↓n_cI, li_0, li_1, li_4, zI_add, zI_sub, zI_mul, zI_neg, ↓Option.bind_some]); simp (disch := (first | assumption | exact tI_rg _ | omega | exact uR_at | exact row_ne hF (by decide) | exact row_ne (row_ne hF (by decide)) (by decide) | exact SnS_18 | exact SnS_30 | exact LdS_44 | exact LdS_46)) only [q_244_0, q_244_28, ↓cc_214 hI, ↓cc_229 hI, Int.add_zero, ↓n_cI, li_0, li_1, li_4, zI_add, zI_sub, zI_mul, zI_neg, ↓Option.bind_some, zIt2, uR_at, uR_ne, uR_uR, uC_uC, uC_at, ↓reduceIte, decide_eq_true_eq, leT, leF, ltT, ltF, eqT, eqF, ne_eq, not_true_eq_false, not_false_eq_true, Bool.false_eq_true, tI_zI]
    · rw [cntN_pos (by unfold isN; exact decide_eq_true h), nsucc]
      rw [q_244_4]; (try simp only [↓n_cI, li_0, li_1, li_4, zI_add, zI_sub, zI_mul, zI_neg, ↓Option.bind_some]); simp (disch := (first | assumption | exact tI_rg _ | omega | exact uR_at | exact row_ne hF (by decide) | exact row_ne (row_ne hF (by decide)) (by decide) | exact SnS_18 | exact SnS_30 | exact LdS_44 | exact LdS_46)) only [q_244_0, q_244_28, ↓cc_214 hI, ↓cc_229 hI, ↓n_cI, li_0, li_1, li_4, zI_add, zI_sub, zI_mul, zI_neg, ↓Option.bind_some, zIt2, uR_at, uR_ne, uR_uR, uC_uC, uC_at, ↓reduceIte, decide_eq_true_eq, leT, leF, ltT, ltF, eqT, eqF, ne_eq, not_true_eq_false, not_false_eq_true, Bool.false_eq_true, tI_zI]
  · show runP MP d 244 (4, [some (.ref 217), some (.int (zI (x))), some (.int (zI (cntN (isN K x) ((tI (K 1)).toNat)))), some (.int (zI ((((tI (K 1)).toNat) : Nat))))], [], mk E F G) = _
    rw [q_244_4]; (try simp only [↓n_cI, li_0, li_1, li_4, zI_add, zI_sub, zI_mul, zI_neg, ↓Option.bind_some]); simp (disch := (first | assumption | exact tI_rg _ | omega | exact uR_at | exact row_ne hF (by decide) | exact row_ne (row_ne hF (by decide)) (by decide) | exact SnS_18 | exact SnS_30 | exact LdS_44 | exact LdS_46)) only [q_244_0, q_244_28, ↓cc_214 hI, ↓n_cI, li_0, li_1, li_4, zI_add, zI_sub, zI_mul, zI_neg, ↓Option.bind_some, zIt2, uR_at, uR_ne, uR_uR, uC_uC, uC_at, ↓reduceIte, decide_eq_true_eq, leT, leF, ltT, ltF, eqT, eqF, ne_eq, not_true_eq_false, not_false_eq_true, Bool.false_eq_true, tI_zI]
theorem cc_244 {d : Nat} {E : EnQ} {F : Nat → Int → Int32} {G : Nat → Int → Int64} {kk : Int → HeapP → ResP} {kx : Nat → HeapP → ResP} {K : Int → Int32} (hI : InvK K) (hF : F 218 = K) {x : Int} (hx : 0 ≤ x ∧ x < tI (K 1)) (hd : 3 ≤ d) : cT (callP MP d 244 [.ref 217, .int (zI x)] (mk E F G)) kk kx = kk (nearZ K x) (mk E F G) := cT_ret (by apply ct_244 <;> assumption) (by have := nearZ_rg hI x; omega)
theorem ct_243 {d : Nat} {E : EnQ} {F : Nat → Int → Int32} {G : Nat → Int → Int64} {m : Int} (hm : 0 < m ∧ m ≤ 100) (hd : 1 ≤ d) : callP MP d 243 [.ref 217, .int (zI m)] (mk E F G) = some (Sum.inl (some (.int (zI (drwZ (lcgI (F 217 19)) % m)))), mk E (uR F 217 (uC (F 217) 19 (lcgI (F 217 19)))) G) := by

  have hr := drwZ_rg (lcgI (F 217 19))
  have et : ∀ s : Int32, zI (1103515245 * tI s + 12345) = lcgI s := fun s => by
    rw [← zI_add, ← zI_mul, zI_tI]; rfl
  have ed : ∀ s : Int32, o_iushr (zI (tI s)) (zI 16) = zI (drwZ s) := fun s => by rw [zI_tI]; exact drw_eq s
  refine into (D := 0) (by omega) hM_243 (rcv_mk rfl (by decide)) rfl fun d hd => ?_
  show runP MP d 243 (0, [some (.ref 217), some (.int (zI m))], [], _) = _
  rw [q_243_0]; (try simp only [↓n_rd, ↓n_irem, li_0, li_12, li_16, li_12345, li_1103515245, zI_add, zI_sub, zI_mul, zI_neg, ↓Option.bind_some]); simp (disch := (first | assumption | exact tI_rg _ | omega | exact uR_at | exact row_ne hF (by decide) | exact row_ne (row_ne hF (by decide)) (by decide) | exact SnS_18 | exact SnS_30 | exact LdS_44 | exact LdS_46)) only [et, ed, ↓n_rd, ↓n_irem, ↓b_irem, li_0, li_12, li_16, li_12345, li_1103515245, zI_add, zI_sub, zI_mul, zI_neg, ↓Option.bind_some, ↓g12_19, ↓p12_19, zIt2, uR_at, uR_ne, uR_uR, uC_uC, uC_at, ↓reduceIte, decide_eq_true_eq, leT, leF, ltT, ltF, eqT, eqF, ne_eq, not_true_eq_false, not_false_eq_true, Bool.false_eq_true, tI_zI]
theorem cc_243 {d : Nat} {E : EnQ} {F : Nat → Int → Int32} {G : Nat → Int → Int64} {kk : Int → HeapP → ResP} {kx : Nat → HeapP → ResP} {m : Int} (hm : 0 < m ∧ m ≤ 100) (hd : 1 ≤ d) : cT (callP MP d 243 [.ref 217, .int (zI m)] (mk E F G)) kk kx = kk (drwZ (lcgI (F 217 19)) % m) (mk E (uR F 217 (uC (F 217) 19 (lcgI (F 217 19)))) G) := cT_ret (by apply ct_243 <;> assumption) (by have h1 := Int.emod_nonneg (drwZ (lcgI (F 217 19))) (show m ≠ 0 by omega); have h2 := Int.emod_lt_of_pos (drwZ (lcgI (F 217 19))) hm.1; omega)
/-! a day -/
def dayW (K : Int → Int32) (s : Int32) : Int := drwZ (lcgI s) % tI (K 3)
def dayP (K : Int → Int32) (s : Int32) : Int := tI (K (38 + 2 * dayW K s))
def dayQ (K : Int → Int32) (s : Int32) : Int := nthZ K (dayP K s) (drwZ (lcgI (lcgI s)) % nearZ K (dayP K s))
def day1 (q : Int32 × (Int → Int32)) : Int32 × (Int → Int32) := if nearZ q.2 (dayP q.2 q.1) = 0 then (lcgI q.1, q.2) else (lcgI (lcgI q.1), goK false q.2 (dayW q.2 q.1) (dayQ q.2 q.1))
def dayS (s : Int32) (K : Int → Int32) : Nat → Int32 × (Int → Int32)
  | 0 => (s, K)
  | n + 1 => day1 (dayS s K n)
theorem day1_ok {K : Int → Int32} (hI : InvK K) {s : Int32} (h3 : 1 ≤ tI (K 3)) (hn : ¬ nearZ K (dayP K s) = 0) : (0 ≤ dayW K s ∧ dayW K s < tI (K 3)) ∧ (0 ≤ dayP K s ∧ dayP K s < tI (K 1)) ∧ (0 ≤ drwZ (lcgI (lcgI s)) % nearZ K (dayP K s) ∧ drwZ (lcgI (lcgI s)) % nearZ K (dayP K s) < nearZ K (dayP K s)) ∧ whyZ K (dayW K s) (dayQ K s) = 0 := by
  have b3 := hI.1.2.2.2.1
  have w1 : 0 ≤ dayW K s := Int.emod_nonneg _ (by omega)
  have w2 : dayW K s < tI (K 3) := Int.emod_lt_of_pos _ (by omega)
  have hp := (hI.2.2.1 (dayW K s) w1 (by omega)).2.2.2.2.2 w2
  have hnr := nearZ_rg hI (dayP K s)
  have r1 : 0 ≤ drwZ (lcgI (lcgI s)) % nearZ K (dayP K s) := Int.emod_nonneg _ hn
  have r2 : drwZ (lcgI (lcgI s)) % nearZ K (dayP K s) < nearZ K (dayP K s) := Int.emod_lt_of_pos _ (by omega)
  obtain ⟨q, n1, n2, n3, -⟩ := nthZ_is (K := K) (p := dayP K s) ⟨r1, r2⟩
  have hq : dayQ K s = q := n2
  refine ⟨⟨w1, w2⟩, hp, ⟨r1, r2⟩, why0_of ⟨w1, w2⟩ ?_ ?_⟩
  · rw [hq]; omega
  · rw [hq]; exact n3
theorem dayS_inv {K : Int → Int32} (hI : InvK K) (hst : stepsZ K < 1999900000) (h3 : 1 ≤ tI (K 3)) (s : Int32) : ∀ n : Nat, n ≤ 60 → InvK (dayS s K n).2 ∧ (stepsZ K ≤ stepsZ (dayS s K n).2 ∧ stepsZ (dayS s K n).2 ≤ stepsZ K + n) ∧ (∀ j, (j < 38 ∧ j ≠ 5) ∨ (166 ≤ j ∧ j < 169) ∨ (170 ≤ j ∧ j < 206) → (dayS s K n).2 j = K j) := by
  intro n
  induction n with
  | zero => intro _; exact ⟨hI, ⟨Int.le_refl _, by show stepsZ K ≤ stepsZ K + ((0 : Nat) : Int); omega⟩, fun j _ => rfl⟩
  | succ n ih =>
    intro hn
    obtain ⟨i1, i2, i3⟩ := ih (by omega)
    have e3 : (dayS s K n).2 3 = K 3 := i3 3 (by omega)
    show InvK (day1 (dayS s K n)).2 ∧ (stepsZ K ≤ stepsZ (day1 (dayS s K n)).2 ∧ stepsZ (day1 (dayS s K n)).2 ≤ stepsZ K + ((n + 1 : Nat) : Int)) ∧ (∀ j, (j < 38 ∧ j ≠ 5) ∨ (166 ≤ j ∧ j < 169) ∨ (170 ≤ j ∧ j < 206) → (day1 (dayS s K n)).2 j = K j)
    unfold day1
    by_cases e : nearZ (dayS s K n).2 (dayP (dayS s K n).2 (dayS s K n).1) = 0
    · rw [if_pos e]; exact ⟨i1, ⟨i2.1, by show stepsZ (dayS s K n).2 ≤ _; omega⟩, i3⟩
    · obtain ⟨k1, k2, k3, k4⟩ := day1_ok i1 (by rw [e3]; exact h3) e
      have b3 := i1.1.2.2.2.1
      obtain ⟨j1, j2⟩ := go_inv i1 (c := false) k4 (by omega)
      rw [if_neg e]
      refine ⟨j1, ⟨?_, ?_⟩, fun j hj => ?_⟩
      · show stepsZ K ≤ stepsZ (goK false _ _ _); omega
      · show stepsZ (goK false _ _ _) ≤ _; omega
      · exact (go_lo i1 (by omega) k4 (by omega)).trans (i3 j hj)
theorem drw_u (s : Int32) : tI (o_iushr s (zI 16)) = drwZ s := rfl
theorem lcg_e (s : Int32) : zI (1103515245 * tI s + 12345) = lcgI s := by
  rw [← zI_add, ← zI_mul, zI_tI]; rfl
def dayN (s : Int32) (K : Int → Int32) (i : Nat) : Bool := decide (nearZ (dayS s K i).2 (dayP (dayS s K i).2 (dayS s K i).1) ≠ 0)
def dayC (s : Int32) (K : Int → Int32) (n : Nat) : Int := cntN (dayN s K) n
def a_day (K : Int → Int32) (s : Int32) (x : Int) : Int × Int := if 1 ≤ x ∧ x ≤ 60 then (if 1 ≤ tI (K 3) then (0, dayC s K x.toNat) else (2, 0)) else (1, 0)
def s_day (K : Int → Int32) (s : Int32) (x : Int) : Int → Int32 := if 1 ≤ x ∧ x ≤ 60 then (if 1 ≤ tI (K 3) then (dayS s K x.toNat).2 else K) else K
theorem cl_day {d : Nat} {E : EnQ} {F : Nat → Int → Int32} {G : Nat → Int → Int64} {K : Int → Int32} (hO : SnO E F 18 K) (hD : SepP E 18) (hst : stepsZ K < 1999000000) {s0 : Int32} {x : Int} (hx : -2147483648 ≤ x ∧ x ≤ 2147483647) (hd : 5 ≤ d) : ∃ E1 F1, (E1 = E ∨ E1 = jE E) ∧ callP MP d 142 [.ref 16, .int s0, .int (zI x)] (mk E F G) = some (thrP [2, 1] (a_day K s0 x), mk E1 F1 G) ∧ SnO E F1 18 (s_day K s0 x) ∧ OthS 18 F F1 := by
  have hO' := hO
  obtain ⟨hS, hP, hR, hN, hI⟩ := hO
  have hs := hS.1
  have hs2 := hP.1
  have b3 := hI.1.2.2.2.1
  have e3 : tI (F (rfQ E 18 0) 3) = tI (K 3) := by rw [hR.1.2.2.2.1]
  by_cases c1 : 1 ≤ x ∧ x ≤ 60
  · by_cases c2 : 1 ≤ tI (K 3)
    · have ha : a_day K s0 x = (0, dayC s0 K x.toNat) := (if_pos c1).trans (if_pos c2)
      have hk : s_day K s0 x = (dayS s0 K x.toNat).2 := (if_pos c1).trans (if_pos c2)
      rw [show thrP [2, 1] (a_day K s0 x) = Sum.inl (some (.int (zI (dayC s0 K x.toNat)))) by rw [ha]; rfl, hk]
      obtain ⟨e, rfl⟩ : ∃ e, d = e + 1 := ⟨d - 1, by omega⟩
      have hin : callP MP (e + 1) 142 [.ref 16, .int s0, .int (zI x)] (mk E F G) = runP MP e 142 (0, [some (.ref 16), some (.int s0), some (.int (zI x)), none, none, none, none, none, none], [], mk E F G) := into_eq (by omega) hM_142 (rcv_mk rfl (by decide)) rfl
      have h0 : runP MP e 142 (0, [some (.ref 16), some (.int s0), some (.int (zI x)), none, none, none, none, none, none], [], mk E F G) = runP MP e 142 (43, [some (.ref 16), some (.int s0), some (.int (zI x)), some (.int (zI (tI (K 3)))), some (.int (dayS s0 K 0).1), some (.int (zI (dayC s0 K 0))), some (.int (zI ((0 : Nat) : Int))), none, none], [], mk E F G) := by
        show _ = runP MP e 142 (43, [some (.ref 16), some (.int s0), some (.int (zI x)), some (.int (zI (tI (K 3)))), some (.int s0), some (.int (zI 0)), some (.int (zI 0)), none, none], [], mk E F G)
        rw [q_142_0]; (try simp only [↓n_rd, ↓n_al, ↓n_irem, ↓n_cI, li_0, li_1, li_2, li_3, li_4, li_5, li_6, li_7, li_16, li_60, li_124, li_12345, li_1103515245, zI_add, zI_sub, zI_mul, zI_neg, ↓Option.bind_some]); simp (disch := (first | assumption | exact tI_rg _ | omega | exact uR_at | exact row_ne hF (by decide) | exact row_ne (row_ne hF (by decide)) (by decide) | exact SnS_18 | exact SnS_30 | exact LdS_44 | exact LdS_46)) only [q_142_149, ↓cc_124t, e3, ↓n_rd, ↓n_al, ↓n_irem, ↓n_cI, ↓b_irem, jnk_mk, li_0, li_1, li_2, li_3, li_4, li_5, li_6, li_7, li_16, li_60, li_124, li_12345, li_1103515245, zI_add, zI_sub, zI_mul, zI_neg, ↓Option.bind_some, ↓g5_0, ↓g2_3, ↓g5_7, ↓SnS_l9, ↓SnS_s9, ↓g11_4, zIt2, uR_at, uR_ne, uR_uR, uC_uC, uC_at, ↓reduceIte, decide_eq_true_eq, leT, leF, ltT, ltF, eqT, eqF, ne_eq, not_true_eq_false, not_false_eq_true, Bool.false_eq_true, tI_zI]
      rw [hin, h0]
      refine loopS (σ := (Nat → Int → Int32) × Option Value × Option Value) (Post := fun r => ∃ E1 F1, (E1 = E ∨ E1 = jE E) ∧ r = some (Sum.inl (some (.int (zI (dayC s0 K x.toNat)))), mk E1 F1 G) ∧ SnO E F1 18 (dayS s0 K x.toNat).2 ∧ OthS 18 F F1)
        (fun j s => runP MP e 142 (43, [some (.ref 16), some (.int s0), some (.int (zI x)), some (.int (zI (tI (K 3)))), some (.int (dayS s0 K j).1), some (.int (zI (dayC s0 K j))), some (.int (zI (j : Int))), s.2.1, s.2.2], [], mk E s.1 G))
        (fun j s => SnO E s.1 18 (dayS s0 K j).2 ∧ OthS 18 F s.1) x.toNat (F, none, none) ⟨hO', OthS_rf⟩ (fun s hI2 => ?_) (fun j s hj hI2 => ?_)
      · refine ⟨E, s.1, Or.inl rfl, ?_, hI2.1, hI2.2⟩
        show runP MP e 142 _ = _
        rw [q_142_43]; (try simp only [↓n_rd, ↓n_al, ↓n_irem, ↓n_cI, li_0, li_1, li_2, li_3, li_4, li_5, li_6, li_7, li_16, li_60, li_124, li_12345, li_1103515245, zI_add, zI_sub, zI_mul, zI_neg, ↓Option.bind_some]); simp (disch := (first | assumption | exact tI_rg _ | omega | exact uR_at | exact row_ne hF (by decide) | exact row_ne (row_ne hF (by decide)) (by decide) | exact SnS_18 | exact SnS_30 | exact LdS_44 | exact LdS_46)) only [q_142_0, q_142_149, ↓n_rd, ↓n_al, ↓n_irem, ↓n_cI, ↓b_irem, jnk_mk, li_0, li_1, li_2, li_3, li_4, li_5, li_6, li_7, li_16, li_60, li_124, li_12345, li_1103515245, zI_add, zI_sub, zI_mul, zI_neg, ↓Option.bind_some, ↓g5_0, ↓g2_3, ↓g5_7, ↓SnS_l9, ↓SnS_s9, ↓g11_4, zIt2, uR_at, uR_ne, uR_uR, uC_uC, uC_at, ↓reduceIte, decide_eq_true_eq, leT, leF, ltT, ltF, eqT, eqF, ne_eq, not_true_eq_false, not_false_eq_true, Bool.false_eq_true, tI_zI]
      · right
        obtain ⟨o1, o2⟩ := hI2
        obtain ⟨F0, z7, z8⟩ := s
        obtain ⟨i1, i2, i3⟩ := dayS_inv hI (by omega) c2 s0 j (by omega)
        obtain ⟨hS', hP', hR', hN', -⟩ : SnO E F0 18 (dayS s0 K j).2 := o1
        have hE3 : tI ((dayS s0 K j).2 3) = tI (K 3) := by rw [i3 3 (by omega)]
        generalize hK1 : (dayS s0 K j).2 = K1 at *
        generalize hs1 : (dayS s0 K j).1 = s1 at *
        have hw1 : dayW K1 s1 = drwZ (lcgI s1) % tI (K 3) := by unfold dayW; rw [hE3]
        have w1 : 0 ≤ dayW K1 s1 := Int.emod_nonneg _ (by omega)
        have w2 : dayW K1 s1 < tI (K1 3) := Int.emod_lt_of_pos _ (by omega)
        have r1 := drwZ_rg (lcgI s1)
        have r2 := drwZ_rg (lcgI (lcgI s1))
        have e9 : F0 27 (dayW K1 s1) = K1 (38 + 2 * dayW K1 s1) := (hN'.2.2.2.2 _ w1 (by omega)).1
        have hq := (i1.2.2.1 (dayW K1 s1) w1 (by omega)).2.2.2.2.2 w2
        have eP : tI (K1 (38 + 2 * dayW K1 s1)) = dayP K1 s1 := rfl
        rw [eP] at hq
        have hnr := nearZ_rg i1 (dayP K1 s1)
        by_cases g : nearZ K1 (dayP K1 s1) = 0
        · have hn1 : dayS s0 K (j + 1) = (lcgI s1, K1) := by show day1 (dayS s0 K j) = _; unfold day1; rw [hK1, hs1, if_pos g]
          have hc1 : dayC s0 K (j + 1) = dayC s0 K j := cntN_neg (by unfold dayN; rw [hK1, hs1, decide_eq_true_eq]; exact fun z => z g)
          refine ⟨(F0, some (.int (zI (dayW K1 s1))), some (.int (zI (nearZ K1 (dayP K1 s1))))), ⟨by rw [hn1]; exact ⟨hS', hP', hR', hN', i1⟩, o2⟩, ?_⟩
          show runP MP e 142 _ = runP MP e 142 _
          rw [hn1, hc1, nsucc]
          rw [q_142_43]; (try simp only [↓n_rd, ↓n_al, ↓n_irem, ↓n_cI, li_0, li_1, li_2, li_3, li_4, li_5, li_6, li_7, li_16, li_60, li_124, li_12345, li_1103515245, zI_add, zI_sub, zI_mul, zI_neg, ↓Option.bind_some]); simp (disch := (first | assumption | exact tI_rg _ | omega | exact uR_at | exact row_ne hF (by decide) | exact row_ne (row_ne hF (by decide)) (by decide) | exact SnS_18 | exact SnS_30 | exact LdS_44 | exact LdS_46)) only [q_142_0, q_142_149, lcg_eq, drw_eq, ↓cc_34 hR' i1 hP', e9, eP, hw1.symm, g, ↓n_rd, ↓n_al, ↓n_irem, ↓n_cI, ↓b_irem, jnk_mk, li_0, li_1, li_2, li_3, li_4, li_5, li_6, li_7, li_16, li_60, li_124, li_12345, li_1103515245, zI_add, zI_sub, zI_mul, zI_neg, ↓Option.bind_some, ↓g5_0, ↓g2_3, ↓g5_7, ↓SnS_l9, ↓SnS_s9, ↓g11_4, zIt2, uR_at, uR_ne, uR_uR, uC_uC, uC_at, ↓reduceIte, decide_eq_true_eq, leT, leF, ltT, ltF, eqT, eqF, ne_eq, not_true_eq_false, not_false_eq_true, Bool.false_eq_true, tI_zI]
        · obtain ⟨k1, k2, k3, k4⟩ := day1_ok i1 (by omega) g
          obtain ⟨q, n1, n2, -⟩ := nthZ_is (K := K1) (p := dayP K1 s1) ⟨k3.1, k3.2⟩
          have hq1 : nthZ K1 (dayP K1 s1) (drwZ (lcgI (lcgI s1)) % nearZ K1 (dayP K1 s1)) = dayQ K1 s1 := rfl
          have b1 := i1.1.2.1
          have hQ : 0 ≤ dayQ K1 s1 ∧ dayQ K1 s1 < 10 := by rw [← hq1, n2]; omega
          obtain ⟨F', t1, u1, v1⟩ := ct_61 (d := e) (G := G) (⟨hS', hP', hR', hN', i1⟩ : SnO E F0 18 K1) hD (x := dayW K1 s1) (p := dayQ K1 s1) (by omega) (by omega) k4 (by omega) (by omega)
          have h61 : ∀ {kk : HeapP → ResP} {kx : Nat → HeapP → ResP}, cV (callP MP e 61 [.ref 18, .int (zI (dayW K1 s1)), .int (zI (dayQ K1 s1))] (mk E F0 G)) kk kx = kk (mk E F' G) := fun {kk kx} => cV_ret t1
          have hn1 : dayS s0 K (j + 1) = (lcgI (lcgI s1), goK false K1 (dayW K1 s1) (dayQ K1 s1)) := by show day1 (dayS s0 K j) = _; unfold day1; rw [hK1, hs1, if_neg g]
          have hc1 : dayC s0 K (j + 1) = dayC s0 K j + 1 := cntN_pos (by unfold dayN; rw [hK1, hs1, decide_eq_true_eq]; exact g)
          refine ⟨(F', some (.int (zI (dayW K1 s1))), some (.int (zI (nearZ K1 (dayP K1 s1))))), ⟨by rw [hn1]; exact u1, OthS_tr o2 v1⟩, ?_⟩
          show runP MP e 142 _ = runP MP e 142 _
          rw [hn1, hc1, nsucc]
          rw [q_142_43]; (try simp only [↓n_rd, ↓n_al, ↓n_irem, ↓n_cI, li_0, li_1, li_2, li_3, li_4, li_5, li_6, li_7, li_16, li_60, li_124, li_12345, li_1103515245, zI_add, zI_sub, zI_mul, zI_neg, ↓Option.bind_some]); simp (disch := (first | assumption | exact tI_rg _ | omega | exact uR_at | exact row_ne hF (by decide) | exact row_ne (row_ne hF (by decide)) (by decide) | exact SnS_18 | exact SnS_30 | exact LdS_44 | exact LdS_46)) only [q_142_0, q_142_149, lcg_eq, drw_eq, ↓cc_34 hR' i1 hP', ↓cc_35 hR' i1 hP', ↓h61, e9, eP, hw1.symm, hq1, ↓n_rd, ↓n_al, ↓n_irem, ↓n_cI, ↓b_irem, jnk_mk, li_0, li_1, li_2, li_3, li_4, li_5, li_6, li_7, li_16, li_60, li_124, li_12345, li_1103515245, zI_add, zI_sub, zI_mul, zI_neg, ↓Option.bind_some, ↓g5_0, ↓g2_3, ↓g5_7, ↓SnS_l9, ↓SnS_s9, ↓g11_4, zIt2, uR_at, uR_ne, uR_uR, uC_uC, uC_at, ↓reduceIte, decide_eq_true_eq, leT, leF, ltT, ltF, eqT, eqF, ne_eq, not_true_eq_false, not_false_eq_true, Bool.false_eq_true, tI_zI]
    · have ha : a_day K s0 x = (2, 0) := (if_pos c1).trans (if_neg c2)
      have hk : s_day K s0 x = K := (if_pos c1).trans (if_neg c2)
      refine ⟨jE E, F, Or.inr rfl, ?_, by rw [hk]; exact hO', OthS_rf⟩
      rw [show thrP [2, 1] (a_day K s0 x) = Sum.inr 1 by rw [ha]; rfl]
      refine into (D := 4) (by omega) hM_142 (rcv_mk rfl (by decide)) rfl fun d hd => ?_
      show runP MP d 142 (0, [some (.ref 16), some (.int s0), some (.int (zI x)), none, none, none, none, none, none], [], _) = _
      rw [q_142_0]; (try simp only [↓n_rd, ↓n_al, ↓n_irem, ↓n_cI, li_0, li_1, li_2, li_3, li_4, li_5, li_6, li_7, li_16, li_60, li_124, li_12345, li_1103515245, zI_add, zI_sub, zI_mul, zI_neg, ↓Option.bind_some]); simp (disch := (first | assumption | exact tI_rg _ | omega | exact uR_at | exact row_ne hF (by decide) | exact row_ne (row_ne hF (by decide)) (by decide) | exact SnS_18 | exact SnS_30 | exact LdS_44 | exact LdS_46)) only [q_142_149, ↓cc_124t, e3, ↓n_rd, ↓n_al, ↓n_irem, ↓n_cI, ↓b_irem, jnk_mk, li_0, li_1, li_2, li_3, li_4, li_5, li_6, li_7, li_16, li_60, li_124, li_12345, li_1103515245, zI_add, zI_sub, zI_mul, zI_neg, ↓Option.bind_some, ↓g5_0, ↓g2_3, ↓g5_7, ↓SnS_l9, ↓SnS_s9, ↓g11_4, zIt2, uR_at, uR_ne, uR_uR, uC_uC, uC_at, ↓reduceIte, decide_eq_true_eq, leT, leF, ltT, ltF, eqT, eqF, ne_eq, not_true_eq_false, not_false_eq_true, Bool.false_eq_true, tI_zI]
  · have ha : a_day K s0 x = (1, 0) := if_neg c1
    have hk : s_day K s0 x = K := if_neg c1
    refine ⟨jE E, F, Or.inr rfl, ?_, by rw [hk]; exact hO', OthS_rf⟩
    rw [show thrP [2, 1] (a_day K s0 x) = Sum.inr 2 by rw [ha]; rfl]
    refine into (D := 4) (by omega) hM_142 (rcv_mk rfl (by decide)) rfl fun d hd => ?_
    show runP MP d 142 (0, [some (.ref 16), some (.int s0), some (.int (zI x)), none, none, none, none, none, none], [], _) = _
    rw [q_142_0]; (try simp only [↓n_rd, ↓n_al, ↓n_irem, ↓n_cI, li_0, li_1, li_2, li_3, li_4, li_5, li_6, li_7, li_16, li_60, li_124, li_12345, li_1103515245, zI_add, zI_sub, zI_mul, zI_neg, ↓Option.bind_some]); simp (disch := (first | assumption | exact tI_rg _ | omega | exact uR_at | exact row_ne hF (by decide) | exact row_ne (row_ne hF (by decide)) (by decide) | exact SnS_18 | exact SnS_30 | exact LdS_44 | exact LdS_46)) only [q_142_149, ↓cc_124f, thr_eq, ↓n_rd, ↓n_al, ↓n_irem, ↓n_cI, ↓b_irem, jnk_mk, li_0, li_1, li_2, li_3, li_4, li_5, li_6, li_7, li_16, li_60, li_124, li_12345, li_1103515245, zI_add, zI_sub, zI_mul, zI_neg, ↓Option.bind_some, ↓g5_0, ↓g2_3, ↓g5_7, ↓SnS_l9, ↓SnS_s9, ↓g11_4, zIt2, uR_at, uR_ne, uR_uR, uC_uC, uC_at, ↓reduceIte, decide_eq_true_eq, leT, leF, ltT, ltF, eqT, eqF, ne_eq, not_true_eq_false, not_false_eq_true, Bool.false_eq_true, tI_zI]
end S94j
