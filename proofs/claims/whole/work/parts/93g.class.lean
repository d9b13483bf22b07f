/-! CLASS, loops over the prints kept -/
section S93g
set_option linter.unusedVariables false
set_option linter.unusedSimpArgs false
def orN (f : Nat → Nat) : Nat → Nat
  | 0 => 0
  | n + 1 => orN f n ||| f n
theorem orN_succ {f : Nat → Nat} {n : Nat} : orN f (n + 1) = orN f n ||| f n := rfl
theorem orN_congr {f g : Nat → Nat} {n : Nat} (h : ∀ j, j < n → f j = g j) : orN f n = orN g n := by
  induction n with
  | zero => rfl
  | succ n ih => rw [orN_succ, orN_succ, ih (fun j hj => h j (by omega)), h n (by omega)]
theorem orN_lt {f : Nat → Nat} {n k : Nat} (h : ∀ j, j < n → f j < 2 ^ k) : orN f n < 2 ^ k := by
  induction n with
  | zero => exact Nat.two_pow_pos k
  | succ n ih => rw [orN_succ]; exact Nat.or_lt_two_pow (ih (fun j hj => h j (by omega))) (h n (by omega))
theorem orN_bit {f : Nat → Nat} {n b : Nat} : (orN f n).testBit b = true ↔ ∃ j, j < n ∧ (f j).testBit b = true := by
  induction n with
  | zero => constructor
            · intro h; simp [orN] at h
            · rintro ⟨j, h, -⟩; omega
  | succ n ih =>
    rw [orN_succ, Nat.testBit_or, Bool.or_eq_true, ih]
    constructor
    · rintro (⟨j, h1, h2⟩ | h)
      · exact ⟨j, by omega, h2⟩
      · exact ⟨n, by omega, h⟩
    · rintro ⟨j, h1, h2⟩
      by_cases e : j = n
      · right; rw [← e]; exact h2
      · left; exact ⟨j, by omega, h2⟩
theorem or_zero' {a : Nat} : a ||| 0 = a := by simp
theorem zIt (v : Int) : zI (tI (zI v)) = zI v := zI_tI _
/-- the bit of a place or way -/
def bitN (x : Int) : Nat := 2 ^ x.toNat
def wysN (K : Int → Int32) : Nat := orN (fun k : Nat => bitN (prW K k)) (tI (K 5)).toNat
def tchN (K : Int → Int32) (x : Int) : Nat := orN (fun k : Nat => if prO K k = x then bitN (fromZ K (prW K k)) ||| bitN (toZ K (prW K k)) else 0) (tI (K 5)).toNat
theorem shlB {p : Int} (h : 0 ≤ p ∧ p < 32) : o_ishl (zI 1) (zI p) = zI ((bitN p : Nat) : Int) := shl1 h
def frO (K : Int → Int32) (x i : Int) (k : Nat) : Bool := decide (i ≤ k) && prO K k == x
theorem cntN_fr {K : Int → Int32} {x : Int} (i : Nat) : cntN (frO K x i) i = 0 := by
  have : ∀ j, j ≤ i → cntN (frO K x i) j = 0 := by
    intro j
    induction j with
    | zero => intro _; rfl
    | succ j ih => intro h; rw [cntN_neg (by unfold frO; simp; omega), ih (by omega)]
  exact this i (Nat.le_refl _)
theorem ct_69 {d : Nat} {E : EnQ} {F : Nat → Int → Int32} {G : Nat → Int → Int64} {a : Nat} {K : Int → Int32} (hO : SnO E F a K) {x i : Int} (hx : -2147483648 ≤ x ∧ x ≤ 2147483647) (hi : 0 ≤ i ∧ i ≤ tI (K 5)) (hd : 3 ≤ d) : callP MP d 69 [.ref a, .int (zI x), .int (zI i)] (mk E F G) = some (Sum.inl (some (.int (zI (cntN (frO K x i) (tI (K 5)).toNat)))), mk E F G) := by

  have hO' := hO
  obtain ⟨hS, hP, hR, hN, hI⟩ := hO
  have hs := hS.1
  have hb := hI.1.2.2.2.2
  have hb2 := hI.1.2.2.1
  have e1 : tI (F a 2) = tI (K 5) := by rw [hN.1.2.1]
  have e0 : tI (F a 1) = tI (K 4) := by rw [hN.1.1]

  refine into (D := 2) (by omega) hM_69 (rcv_mk hs (by decide)) rfl fun d hd => ?_
  show runP MP d 69 (0, [some (.ref a), some (.int (zI x)), some (.int (zI i)), none, none], [], _) = _
  obtain ⟨i, rfl⟩ : ∃ n : Nat, i = (n : Int) := ⟨i.toNat, by omega⟩
  rw [q_69_0]
  rw [show cntN (frO K x i) (tI (K 5)).toNat = cntN (frO K x i) (i + ((tI (K 5)).toNat - i)) by rw [show i + ((tI (K 5)).toNat - i) = (tI (K 5)).toNat by omega]]
  have e2 : (zI 0) = zI (cntN (frO K x i) (i + 0)) := by rw [show i + 0 = i from rfl, cntN_fr]
  rw [li_0, e2]
  refine (loopN (fun j : Nat => runP MP d 69 (5, [some (.ref a), some (.int (zI (x))), some (.int (zI (i))), some (.int (zI (cntN (frO K x i) (i + j)))), some (.int (zI (((i + j : Nat) : Int))))], [], mk E F G)) ((tI (K 5)).toNat - i) (fun j hj => ?_)).trans ?_
  · show runP MP d 69 (5, [some (.ref a), some (.int (zI (x))), some (.int (zI (i))), some (.int (zI (cntN (frO K x i) (i + j)))), some (.int (zI (((i + j : Nat) : Int))))], [], mk E F G) = runP MP d 69 (5, [some (.ref a), some (.int (zI (x))), some (.int (zI (i))), some (.int (zI (cntN (frO K x i) (i + (j + 1))))), some (.int (zI (((i + (j + 1) : Nat) : Int))))], [], mk E F G)
    have hc := cntN_rg (frO K x i) (i + j)
    have hr := tI_rg (K (47 + 2 * ((i + j : Nat) : Int)))
    have hr2 : -2147483648 ≤ prO K ((i + j : Nat) : Int) ∧ prO K ((i + j : Nat) : Int) ≤ 2147483647 := hr
    rw [show i + (j + 1) = i + j + 1 by omega]
    by_cases h : prO K ((i + j : Nat) : Int) = x
    · rw [cntN_pos (by unfold frO; rw [Bool.and_eq_true]; exact ⟨decide_eq_true (by omega), beq_iff_eq.mpr h⟩), nsucc]
      rw [q_69_5]; (try simp only [↓n_rd, ↓n_cI, li_0, li_1, li_2, li_5, li_70, zI_add, zI_sub, zI_mul, zI_neg, ↓Option.bind_some]); simp (disch := (first | assumption | exact tI_rg _ | omega | exact uR_at | exact row_ne hF (by decide) | exact row_ne (row_ne hF (by decide)) (by decide) | exact SnS_18 | exact SnS_30 | exact LdS_44 | exact LdS_46)) only [q_69_0, q_69_27, ↓cc_70 hO', e1, ↓n_rd, ↓n_cI, li_0, li_1, li_2, li_5, li_70, zI_add, zI_sub, zI_mul, zI_neg, ↓Option.bind_some, ↓g5_2, zIt2, uR_at, uR_ne, uR_uR, uC_uC, uC_at, ↓reduceIte, decide_eq_true_eq, leT, leF, ltT, ltF, eqT, eqF, ne_eq, not_true_eq_false, not_false_eq_true, Bool.false_eq_true, tI_zI]
    · rw [cntN_neg (by unfold frO; rw [Bool.and_eq_true]; exact fun z => h (beq_iff_eq.mp z.2)), nsucc]
      rw [q_69_5]; (try simp only [↓n_rd, ↓n_cI, li_0, li_1, li_2, li_5, li_70, zI_add, zI_sub, zI_mul, zI_neg, ↓Option.bind_some]); simp (disch := (first | assumption | exact tI_rg _ | omega | exact uR_at | exact row_ne hF (by decide) | exact row_ne (row_ne hF (by decide)) (by decide) | exact SnS_18 | exact SnS_30 | exact LdS_44 | exact LdS_46)) only [q_69_0, q_69_27, ↓cc_70 hO', e1, ↓n_rd, ↓n_cI, li_0, li_1, li_2, li_5, li_70, zI_add, zI_sub, zI_mul, zI_neg, ↓Option.bind_some, ↓g5_2, zIt2, uR_at, uR_ne, uR_uR, uC_uC, uC_at, ↓reduceIte, decide_eq_true_eq, leT, leF, ltT, ltF, eqT, eqF, ne_eq, not_true_eq_false, not_false_eq_true, Bool.false_eq_true, tI_zI]
  · show runP MP d 69 (5, [some (.ref a), some (.int (zI (x))), some (.int (zI (i))), some (.int (zI (cntN (frO K x i) (i + ((tI (K 5)).toNat - i))))), some (.int (zI (((i + ((tI (K 5)).toNat - i) : Nat) : Int))))], [], mk E F G) = _
    have hc := cntN_rg (frO K x i) (i + ((tI (K 5)).toNat - i))
    rw [q_69_5]; (try simp only [↓n_rd, ↓n_cI, li_0, li_1, li_2, li_5, li_70, zI_add, zI_sub, zI_mul, zI_neg, ↓Option.bind_some]); simp (disch := (first | assumption | exact tI_rg _ | omega | exact uR_at | exact row_ne hF (by decide) | exact row_ne (row_ne hF (by decide)) (by decide) | exact SnS_18 | exact SnS_30 | exact LdS_44 | exact LdS_46)) only [q_69_0, q_69_27, e1, ↓n_rd, ↓n_cI, li_0, li_1, li_2, li_5, li_70, zI_add, zI_sub, zI_mul, zI_neg, ↓Option.bind_some, ↓g5_2, zIt2, uR_at, uR_ne, uR_uR, uC_uC, uC_at, ↓reduceIte, decide_eq_true_eq, leT, leF, ltT, ltF, eqT, eqF, ne_eq, not_true_eq_false, not_false_eq_true, Bool.false_eq_true, tI_zI]
theorem cc_69 {d : Nat} {E : EnQ} {F : Nat → Int → Int32} {G : Nat → Int → Int64} {kk : Int → HeapP → ResP} {kx : Nat → HeapP → ResP} {a : Nat} {K : Int → Int32} (hO : SnO E F a K) {x i : Int} (hx : -2147483648 ≤ x ∧ x ≤ 2147483647) (hi : 0 ≤ i ∧ i ≤ tI (K 5)) (hd : 3 ≤ d) : cT (callP MP d 69 [.ref a, .int (zI x), .int (zI i)] (mk E F G)) kk kx = kk (cntN (frO K x i) (tI (K 5)).toNat) (mk E F G) := cT_ret (by apply ct_69 <;> assumption) (by have := cntN_rg (frO K x i) (tI (K 5)).toNat; have := hO.2.2.2.2.1.2.2.2.2.2.1; have := hO.2.2.2.2.1.2.2.2.2.1; omega)
theorem ct_71 {d : Nat} {E : EnQ} {F : Nat → Int → Int32} {G : Nat → Int → Int64} {a : Nat} {K : Int → Int32} (hO : SnO E F a K) {x : Int} (hx : -2147483648 ≤ x ∧ x ≤ 2147483647) (hd : 3 ≤ d) : callP MP d 71 [.ref a, .int (zI x)] (mk E F G) = some (Sum.inl (some (.int (zI (nxO K x 0)))), mk E F G) := by

  have hO' := hO
  obtain ⟨hS, hP, hR, hN, hI⟩ := hO
  have hs := hS.1
  have hb := hI.1.2.2.2.2
  have hb2 := hI.1.2.2.1
  have e1 : tI (F a 2) = tI (K 5) := by rw [hN.1.2.1]
  have e0 : tI (F a 1) = tI (K 4) := by rw [hN.1.1]

  refine into (D := 2) (by omega) hM_71 (rcv_mk hs (by decide)) rfl fun d hd => ?_
  show runP MP d 71 (0, [some (.ref a), some (.int (zI x)), none], [], _) = _
  rw [q_71_0]
  refine loopS (σ := Unit) (Post := fun r => r = some (Sum.inl (some (.int (zI (nxO K x 0)))), mk E F G))
    (fun j _ => runP MP d 71 (2, [some (.ref a), some (.int (zI x)), some (.int (zI (j : Int)))], [], mk E F G))
    (fun j _ => ∀ i, i < j → (prO K i == x) = false) (tI (K 5)).toNat () (fun i hi => by omega) (fun s hI2 => ?_) (fun j s hj hI2 => ?_)
  · show runP MP d 71 _ = _
    have e : nxO K x 0 = -1 := fndN_none (fun i _ hi => hI2 i (by omega))
    rw [e]; rw [q_71_2]; (try simp only [↓n_rd, ↓n_cI, li_0, li_1, li_2, li_5, li_70, zI_add, zI_sub, zI_mul, zI_neg, ↓Option.bind_some]); simp (disch := (first | assumption | exact tI_rg _ | omega | exact uR_at | exact row_ne hF (by decide) | exact row_ne (row_ne hF (by decide)) (by decide) | exact SnS_18 | exact SnS_30 | exact LdS_44 | exact LdS_46)) only [q_71_0, e1, ↓n_rd, ↓n_cI, li_0, li_1, li_2, li_5, li_70, zI_add, zI_sub, zI_mul, zI_neg, ↓Option.bind_some, ↓g5_2, zIt2, uR_at, uR_ne, uR_uR, uC_uC, uC_at, ↓reduceIte, decide_eq_true_eq, leT, leF, ltT, ltF, eqT, eqF, ne_eq, not_true_eq_false, not_false_eq_true, Bool.false_eq_true, tI_zI]
  · have hr := tI_rg (K (47 + 2 * (j : Int)))
    have hr2 : -2147483648 ≤ prO K (j : Int) ∧ prO K (j : Int) ≤ 2147483647 := hr
    by_cases h : prO K (j : Int) = x
    · left
      show runP MP d 71 _ = _
      have e : nxO K x 0 = (j : Int) := fndN_eq (by omega) (by omega) (by exact beq_iff_eq.mpr h) (fun i _ hi => hI2 i hi)
      rw [e]
      rw [q_71_2]; (try simp only [↓n_rd, ↓n_cI, li_0, li_1, li_2, li_5, li_70, zI_add, zI_sub, zI_mul, zI_neg, ↓Option.bind_some]); simp (disch := (first | assumption | exact tI_rg _ | omega | exact uR_at | exact row_ne hF (by decide) | exact row_ne (row_ne hF (by decide)) (by decide) | exact SnS_18 | exact SnS_30 | exact LdS_44 | exact LdS_46)) only [q_71_0, ↓cc_70 hO', e1, ↓n_rd, ↓n_cI, li_0, li_1, li_2, li_5, li_70, zI_add, zI_sub, zI_mul, zI_neg, ↓Option.bind_some, ↓g5_2, zIt2, uR_at, uR_ne, uR_uR, uC_uC, uC_at, ↓reduceIte, decide_eq_true_eq, leT, leF, ltT, ltF, eqT, eqF, ne_eq, not_true_eq_false, not_false_eq_true, Bool.false_eq_true, tI_zI]
    · right
      refine ⟨(), fun i hi => ?_, ?_⟩
      · by_cases e : i = j
        · rw [e]; exact beq_eq_false_iff_ne.mpr h
        · exact hI2 i (by omega)
      · show runP MP d 71 _ = runP MP d 71 _
        rw [q_71_2]; (try simp only [↓n_rd, ↓n_cI, li_0, li_1, li_2, li_5, li_70, zI_add, zI_sub, zI_mul, zI_neg, ↓Option.bind_some]); simp (disch := (first | assumption | exact tI_rg _ | omega | exact uR_at | exact row_ne hF (by decide) | exact row_ne (row_ne hF (by decide)) (by decide) | exact SnS_18 | exact SnS_30 | exact LdS_44 | exact LdS_46)) only [q_71_0, ↓cc_70 hO', e1, nsucc, ↓n_rd, ↓n_cI, li_0, li_1, li_2, li_5, li_70, zI_add, zI_sub, zI_mul, zI_neg, ↓Option.bind_some, ↓g5_2, zIt2, uR_at, uR_ne, uR_uR, uC_uC, uC_at, ↓reduceIte, decide_eq_true_eq, leT, leF, ltT, ltF, eqT, eqF, ne_eq, not_true_eq_false, not_false_eq_true, Bool.false_eq_true, tI_zI]
theorem cc_71 {d : Nat} {E : EnQ} {F : Nat → Int → Int32} {G : Nat → Int → Int64} {kk : Int → HeapP → ResP} {kx : Nat → HeapP → ResP} {a : Nat} {K : Int → Int32} (hO : SnO E F a K) {x : Int} (hx : -2147483648 ≤ x ∧ x ≤ 2147483647) (hd : 3 ≤ d) : cT (callP MP d 71 [.ref a, .int (zI x)] (mk E F G)) kk kx = kk (nxO K x 0) (mk E F G) := cT_ret (by apply ct_71 <;> assumption) (by have := fndN_rg (fun j => prO K j == x) ((tI (K 5)).toNat - 0) 0; have := hO.2.2.2.2.1.2.2.2.2.2.1; have := hO.2.2.2.2.1.2.2.2.2.1; unfold nxO; omega)
theorem ct_74 {d : Nat} {E : EnQ} {F : Nat → Int → Int32} {G : Nat → Int → Int64} {a : Nat} {K : Int → Int32} (hO : SnO E F a K) {v : Int} (hv : -2147483648 ≤ v ∧ v ≤ 2147483647) (hd : 3 ≤ d) : callP MP d 74 [.ref a, .int (zI v)] (mk E F G) = some (Sum.inl (some (.int (zI (lstN (fun k : Nat => prW K k == v) (tI (K 5)).toNat)))), mk E F G) := by

  have hO' := hO
  obtain ⟨hS, hP, hR, hN, hI⟩ := hO
  have hs := hS.1
  have hb := hI.1.2.2.2.2
  have hb2 := hI.1.2.2.1
  have e1 : tI (F a 2) = tI (K 5) := by rw [hN.1.2.1]
  have e0 : tI (F a 1) = tI (K 4) := by rw [hN.1.1]

  refine into (D := 2) (by omega) hM_74 (rcv_mk hs (by decide)) rfl fun d hd => ?_
  show runP MP d 74 (0, [some (.ref a), some (.int (zI v)), none, none], [], _) = _
  rw [q_74_0]
  refine (loopN (fun j : Nat => runP MP d 74 (4, [some (.ref a), some (.int (zI (v))), some (.int (zI (lstN (fun k : Nat => prW K k == v) j))), some (.int (zI ((j : Nat))))], [], mk E F G)) ((tI (K 5)).toNat) (fun j hj => ?_)).trans ?_
  · show runP MP d 74 (4, [some (.ref a), some (.int (zI (v))), some (.int (zI (lstN (fun k : Nat => prW K k == v) j))), some (.int (zI ((j : Nat))))], [], mk E F G) = runP MP d 74 (4, [some (.ref a), some (.int (zI (v))), some (.int (zI (lstN (fun k : Nat => prW K k == v) (j + 1)))), some (.int (zI (((j + 1) : Nat))))], [], mk E F G)
    have hc := lstN_rg (fun k : Nat => prW K k == v) j
    have hr := tI_rg (K (46 + 2 * (j : Int)))
    have hr2 : -2147483648 ≤ prW K (j : Int) ∧ prW K (j : Int) ≤ 2147483647 := hr
    by_cases h : prW K (j : Int) = v
    · rw [lstN_pos (by exact beq_iff_eq.mpr h), nsucc]
      rw [q_74_4]; (try simp only [↓n_rd, ↓n_cI, li_0, li_1, li_2, li_4, li_5, li_64, zI_add, zI_sub, zI_mul, zI_neg, ↓Option.bind_some]); simp (disch := (first | assumption | exact tI_rg _ | omega | exact uR_at | exact row_ne hF (by decide) | exact row_ne (row_ne hF (by decide)) (by decide) | exact SnS_18 | exact SnS_30 | exact LdS_44 | exact LdS_46)) only [q_74_0, q_74_23, ↓cc_64 hO', e1, ↓n_rd, ↓n_cI, li_0, li_1, li_2, li_4, li_5, li_64, zI_add, zI_sub, zI_mul, zI_neg, ↓Option.bind_some, ↓g5_2, zIt2, uR_at, uR_ne, uR_uR, uC_uC, uC_at, ↓reduceIte, decide_eq_true_eq, leT, leF, ltT, ltF, eqT, eqF, ne_eq, not_true_eq_false, not_false_eq_true, Bool.false_eq_true, tI_zI]
    · rw [lstN_neg (by exact fun z => h (beq_iff_eq.mp z)), nsucc]
      rw [q_74_4]; (try simp only [↓n_rd, ↓n_cI, li_0, li_1, li_2, li_4, li_5, li_64, zI_add, zI_sub, zI_mul, zI_neg, ↓Option.bind_some]); simp (disch := (first | assumption | exact tI_rg _ | omega | exact uR_at | exact row_ne hF (by decide) | exact row_ne (row_ne hF (by decide)) (by decide) | exact SnS_18 | exact SnS_30 | exact LdS_44 | exact LdS_46)) only [q_74_0, q_74_23, ↓cc_64 hO', e1, ↓n_rd, ↓n_cI, li_0, li_1, li_2, li_4, li_5, li_64, zI_add, zI_sub, zI_mul, zI_neg, ↓Option.bind_some, ↓g5_2, zIt2, uR_at, uR_ne, uR_uR, uC_uC, uC_at, ↓reduceIte, decide_eq_true_eq, leT, leF, ltT, ltF, eqT, eqF, ne_eq, not_true_eq_false, not_false_eq_true, Bool.false_eq_true, tI_zI]
  · show runP MP d 74 (4, [some (.ref a), some (.int (zI (v))), some (.int (zI (lstN (fun k : Nat => prW K k == v) ((tI (K 5)).toNat)))), some (.int (zI ((((tI (K 5)).toNat) : Nat))))], [], mk E F G) = _
    rw [q_74_4]; (try simp only [↓n_rd, ↓n_cI, li_0, li_1, li_2, li_4, li_5, li_64, zI_add, zI_sub, zI_mul, zI_neg, ↓Option.bind_some]); simp (disch := (first | assumption | exact tI_rg _ | omega | exact uR_at | exact row_ne hF (by decide) | exact row_ne (row_ne hF (by decide)) (by decide) | exact SnS_18 | exact SnS_30 | exact LdS_44 | exact LdS_46)) only [q_74_0, q_74_23, e1, ↓n_rd, ↓n_cI, li_0, li_1, li_2, li_4, li_5, li_64, zI_add, zI_sub, zI_mul, zI_neg, ↓Option.bind_some, ↓g5_2, zIt2, uR_at, uR_ne, uR_uR, uC_uC, uC_at, ↓reduceIte, decide_eq_true_eq, leT, leF, ltT, ltF, eqT, eqF, ne_eq, not_true_eq_false, not_false_eq_true, Bool.false_eq_true, tI_zI]
theorem cc_74 {d : Nat} {E : EnQ} {F : Nat → Int → Int32} {G : Nat → Int → Int64} {kk : Int → HeapP → ResP} {kx : Nat → HeapP → ResP} {a : Nat} {K : Int → Int32} (hO : SnO E F a K) {v : Int} (hv : -2147483648 ≤ v ∧ v ≤ 2147483647) (hd : 3 ≤ d) : cT (callP MP d 74 [.ref a, .int (zI v)] (mk E F G)) kk kx = kk (lstN (fun k : Nat => prW K k == v) (tI (K 5)).toNat) (mk E F G) := cT_ret (by apply ct_74 <;> assumption) (by have := lstN_rg (fun k : Nat => prW K k == v) (tI (K 5)).toNat; have := hO.2.2.2.2.1.2.2.2.2.2.1; have := hO.2.2.2.2.1.2.2.2.2.1; omega)
theorem ct_77 {d : Nat} {E : EnQ} {F : Nat → Int → Int32} {G : Nat → Int → Int64} {a : Nat} {K : Int → Int32} (hO : SnO E F a K) {x : Int} (hx : -2147483648 ≤ x ∧ x ≤ 2147483647) (hd : 3 ≤ d) : callP MP d 77 [.ref a, .int (zI x)] (mk E F G) = some (Sum.inl (some (.int (zI (lstN (fun k : Nat => prO K k == x) (tI (K 5)).toNat)))), mk E F G) := by

  have hO' := hO
  obtain ⟨hS, hP, hR, hN, hI⟩ := hO
  have hs := hS.1
  have hb := hI.1.2.2.2.2
  have hb2 := hI.1.2.2.1
  have e1 : tI (F a 2) = tI (K 5) := by rw [hN.1.2.1]
  have e0 : tI (F a 1) = tI (K 4) := by rw [hN.1.1]

  refine into (D := 2) (by omega) hM_77 (rcv_mk hs (by decide)) rfl fun d hd => ?_
  show runP MP d 77 (0, [some (.ref a), some (.int (zI x)), none], [], _) = _
  have hgo : ∀ n : Nat, (n : Int) ≤ tI (K 5) → runP MP d 77 (7, [some (.ref a), some (.int (zI x)), some (.int (zI ((n : Int) - 1)))], [], mk E F G) = some (Sum.inl (some (.int (zI (lstN (fun k : Nat => prO K k == x) n)))), mk E F G) := by
    intro n
    induction n with
    | zero => intro _; rw [q_77_7]; (try simp only [↓n_rd, ↓n_cI, li_0, li_1, li_2, li_5, li_7, li_70, zI_add, zI_sub, zI_mul, zI_neg, ↓Option.bind_some]); simp (disch := (first | assumption | exact tI_rg _ | omega | exact uR_at | exact row_ne hF (by decide) | exact row_ne (row_ne hF (by decide)) (by decide) | exact SnS_18 | exact SnS_30 | exact LdS_44 | exact LdS_46)) only [q_77_0, ↓n_rd, ↓n_cI, li_0, li_1, li_2, li_5, li_7, li_70, zI_add, zI_sub, zI_mul, zI_neg, ↓Option.bind_some, ↓g5_2, zIt2, uR_at, uR_ne, uR_uR, uC_uC, uC_at, ↓reduceIte, decide_eq_true_eq, leT, leF, ltT, ltF, eqT, eqF, ne_eq, not_true_eq_false, not_false_eq_true, Bool.false_eq_true, tI_zI]; rfl
    | succ n ih =>
      intro hn
      have hr := tI_rg (K (47 + 2 * (n : Int)))
      have hr2 : -2147483648 ≤ prO K (n : Int) ∧ prO K (n : Int) ≤ 2147483647 := hr
      have en : ((n + 1 : Nat) : Int) - 1 = (n : Int) := by omega
      rw [en]
      by_cases h : prO K (n : Int) = x
      · rw [lstN_pos (by exact beq_iff_eq.mpr h)]
        rw [q_77_7]; (try simp only [↓n_rd, ↓n_cI, li_0, li_1, li_2, li_5, li_7, li_70, zI_add, zI_sub, zI_mul, zI_neg, ↓Option.bind_some]); simp (disch := (first | assumption | exact tI_rg _ | omega | exact uR_at | exact row_ne hF (by decide) | exact row_ne (row_ne hF (by decide)) (by decide) | exact SnS_18 | exact SnS_30 | exact LdS_44 | exact LdS_46)) only [q_77_0, ↓cc_70 hO', ↓n_rd, ↓n_cI, li_0, li_1, li_2, li_5, li_7, li_70, zI_add, zI_sub, zI_mul, zI_neg, ↓Option.bind_some, ↓g5_2, zIt2, uR_at, uR_ne, uR_uR, uC_uC, uC_at, ↓reduceIte, decide_eq_true_eq, leT, leF, ltT, ltF, eqT, eqF, ne_eq, not_true_eq_false, not_false_eq_true, Bool.false_eq_true, tI_zI]
      · rw [lstN_neg (by exact fun z => h (beq_iff_eq.mp z)), ← ih (by omega)]
        rw [q_77_7]; (try simp only [↓n_rd, ↓n_cI, li_0, li_1, li_2, li_5, li_7, li_70, zI_add, zI_sub, zI_mul, zI_neg, ↓Option.bind_some]); simp (disch := (first | assumption | exact tI_rg _ | omega | exact uR_at | exact row_ne hF (by decide) | exact row_ne (row_ne hF (by decide)) (by decide) | exact SnS_18 | exact SnS_30 | exact LdS_44 | exact LdS_46)) only [q_77_0, ↓cc_70 hO', ↓n_rd, ↓n_cI, li_0, li_1, li_2, li_5, li_7, li_70, zI_add, zI_sub, zI_mul, zI_neg, ↓Option.bind_some, ↓g5_2, zIt2, uR_at, uR_ne, uR_uR, uC_uC, uC_at, ↓reduceIte, decide_eq_true_eq, leT, leF, ltT, ltF, eqT, eqF, ne_eq, not_true_eq_false, not_false_eq_true, Bool.false_eq_true, tI_zI]
        rfl
  have := hgo (tI (K 5)).toNat (by omega)
  rw [← this, show (((tI (K 5)).toNat : Nat) : Int) = tI (K 5) by omega]
  rw [q_77_0]; (try simp only [↓n_rd, ↓n_cI, li_0, li_1, li_2, li_5, li_7, li_70, zI_add, zI_sub, zI_mul, zI_neg, ↓Option.bind_some]); simp (disch := (first | assumption | exact tI_rg _ | omega | exact uR_at | exact row_ne hF (by decide) | exact row_ne (row_ne hF (by decide)) (by decide) | exact SnS_18 | exact SnS_30 | exact LdS_44 | exact LdS_46)) only [e1, ↓n_rd, ↓n_cI, li_0, li_1, li_2, li_5, li_7, li_70, zI_add, zI_sub, zI_mul, zI_neg, ↓Option.bind_some, ↓g5_2, zIt2, uR_at, uR_ne, uR_uR, uC_uC, uC_at, ↓reduceIte, decide_eq_true_eq, leT, leF, ltT, ltF, eqT, eqF, ne_eq, not_true_eq_false, not_false_eq_true, Bool.false_eq_true, tI_zI]
theorem cc_77 {d : Nat} {E : EnQ} {F : Nat → Int → Int32} {G : Nat → Int → Int64} {kk : Int → HeapP → ResP} {kx : Nat → HeapP → ResP} {a : Nat} {K : Int → Int32} (hO : SnO E F a K) {x : Int} (hx : -2147483648 ≤ x ∧ x ≤ 2147483647) (hd : 3 ≤ d) : cT (callP MP d 77 [.ref a, .int (zI x)] (mk E F G)) kk kx = kk (lstN (fun k : Nat => prO K k == x) (tI (K 5)).toNat) (mk E F G) := cT_ret (by apply ct_77 <;> assumption) (by have := lstN_rg (fun k : Nat => prO K k == x) (tI (K 5)).toNat; have := hO.2.2.2.2.1.2.2.2.2.2.1; have := hO.2.2.2.2.1.2.2.2.2.1; omega)
theorem ct_76 {d : Nat} {E : EnQ} {F : Nat → Int → Int32} {G : Nat → Int → Int64} {a : Nat} {K : Int → Int32} (hO : SnO E F a K) {i : Int} (hi : -1 ≤ i ∧ i < tI (K 5)) (hd : 1 ≤ d) : callP MP d 76 [.ref a, .int (zI i)] (mk E F G) = some (Sum.inl (some (.int (zI (if i = -1 then 0 else tI (K 4) - tI (K 5) + i + 1)))), mk E F G) := by

  have hO' := hO
  obtain ⟨hS, hP, hR, hN, hI⟩ := hO
  have hs := hS.1
  have hb := hI.1.2.2.2.2
  have hb2 := hI.1.2.2.1
  have e1 : tI (F a 2) = tI (K 5) := by rw [hN.1.2.1]
  have e0 : tI (F a 1) = tI (K 4) := by rw [hN.1.1]

  refine into (D := 0) (by omega) hM_76 (rcv_mk hs (by decide)) rfl fun d hd => ?_
  show runP MP d 76 (0, [some (.ref a), some (.int (zI i))], [], _) = _
  by_cases h : i = -1
  · rw [if_pos h]; rw [q_76_0]; (try simp only [↓n_rd, li_0, li_1, li_2, li_5, zI_add, zI_sub, zI_mul, zI_neg, ↓Option.bind_some]); simp (disch := (first | assumption | exact tI_rg _ | omega | exact uR_at | exact row_ne hF (by decide) | exact row_ne (row_ne hF (by decide)) (by decide) | exact SnS_18 | exact SnS_30 | exact LdS_44 | exact LdS_46)) only [q_76_22, ↓n_rd, li_0, li_1, li_2, li_5, zI_add, zI_sub, zI_mul, zI_neg, ↓Option.bind_some, ↓g5_2, ↓g5_1, zIt2, uR_at, uR_ne, uR_uR, uC_uC, uC_at, ↓reduceIte, decide_eq_true_eq, leT, leF, ltT, ltF, eqT, eqF, ne_eq, not_true_eq_false, not_false_eq_true, Bool.false_eq_true, tI_zI]
  · rw [if_neg h]; rw [q_76_0]; (try simp only [↓n_rd, li_0, li_1, li_2, li_5, zI_add, zI_sub, zI_mul, zI_neg, ↓Option.bind_some]); simp (disch := (first | assumption | exact tI_rg _ | omega | exact uR_at | exact row_ne hF (by decide) | exact row_ne (row_ne hF (by decide)) (by decide) | exact SnS_18 | exact SnS_30 | exact LdS_44 | exact LdS_46)) only [q_76_22, e0, e1, ↓n_rd, li_0, li_1, li_2, li_5, zI_add, zI_sub, zI_mul, zI_neg, ↓Option.bind_some, ↓g5_2, ↓g5_1, zIt2, uR_at, uR_ne, uR_uR, uC_uC, uC_at, ↓reduceIte, decide_eq_true_eq, leT, leF, ltT, ltF, eqT, eqF, ne_eq, not_true_eq_false, not_false_eq_true, Bool.false_eq_true, tI_zI]
theorem cc_76 {d : Nat} {E : EnQ} {F : Nat → Int → Int32} {G : Nat → Int → Int64} {kk : Int → HeapP → ResP} {kx : Nat → HeapP → ResP} {a : Nat} {K : Int → Int32} (hO : SnO E F a K) {i : Int} (hi : -1 ≤ i ∧ i < tI (K 5)) (hd : 1 ≤ d) : cT (callP MP d 76 [.ref a, .int (zI i)] (mk E F G)) kk kx = kk (if i = -1 then 0 else tI (K 4) - tI (K 5) + i + 1) (mk E F G) := cT_ret (by apply ct_76 <;> assumption) (by have := hO.2.2.2.2.1.2.2.2.2.2.1; have := hO.2.2.2.2.1.2.2.2.2.1; split <;> omega)
theorem ct_63 {d : Nat} {E : EnQ} {F : Nat → Int → Int32} {G : Nat → Int → Int64} {a : Nat} {K : Int → Int32} (hO : SnO E F a K) (hd : 3 ≤ d) : callP MP d 63 [.ref a] (mk E F G) = some (Sum.inl (some (.int (zI (((wysN K : Nat) : Int))))), mk E F G) := by

  have hO' := hO
  obtain ⟨hS, hP, hR, hN, hI⟩ := hO
  have hs := hS.1
  have hb := hI.1.2.2.2.2
  have hb2 := hI.1.2.2.1
  have e1 : tI (F a 2) = tI (K 5) := by rw [hN.1.2.1]
  have e0 : tI (F a 1) = tI (K 4) := by rw [hN.1.1]

  refine into (D := 2) (by omega) hM_63 (rcv_mk hs (by decide)) rfl fun d hd => ?_
  show runP MP d 63 (0, [some (.ref a), none, none], [], _) = _
  rw [q_63_0]
  unfold wysN
  refine (loopN (fun j : Nat => runP MP d 63 (4, [some (.ref a), some (.int (zI (((orN (fun k : Nat => bitN (prW K k)) j : Nat) : Int)))), some (.int (zI ((j : Nat))))], [], mk E F G)) ((tI (K 5)).toNat) (fun j hj => ?_)).trans ?_
  · show runP MP d 63 (4, [some (.ref a), some (.int (zI (((orN (fun k : Nat => bitN (prW K k)) j : Nat) : Int)))), some (.int (zI ((j : Nat))))], [], mk E F G) = runP MP d 63 (4, [some (.ref a), some (.int (zI (((orN (fun k : Nat => bitN (prW K k)) (j + 1) : Nat) : Int)))), some (.int (zI (((j + 1) : Nat))))], [], mk E F G)
    have hw := (hI.2.2.2.1 j (by omega) (by omega)).1
    rw [orN_succ, nsucc]
    rw [q_63_4]; (try simp only [↓n_rd, ↓n_cI, li_0, li_1, li_2, li_4, li_5, li_63, li_64, zI_add, zI_sub, zI_mul, zI_neg, ↓Option.bind_some]); simp (disch := (first | assumption | exact tI_rg _ | omega | exact uR_at | exact row_ne hF (by decide) | exact row_ne (row_ne hF (by decide)) (by decide) | exact SnS_18 | exact SnS_30 | exact LdS_44 | exact LdS_46)) only [q_63_0, ↓cc_64 hO', e1, shlB, orZ, ↓n_rd, ↓n_cI, li_0, li_1, li_2, li_4, li_5, li_63, li_64, zI_add, zI_sub, zI_mul, zI_neg, ↓Option.bind_some, ↓g5_2, zIt2, uR_at, uR_ne, uR_uR, uC_uC, uC_at, ↓reduceIte, decide_eq_true_eq, leT, leF, ltT, ltF, eqT, eqF, ne_eq, not_true_eq_false, not_false_eq_true, Bool.false_eq_true, tI_zI]
  · show runP MP d 63 (4, [some (.ref a), some (.int (zI (((orN (fun k : Nat => bitN (prW K k)) ((tI (K 5)).toNat) : Nat) : Int)))), some (.int (zI ((((tI (K 5)).toNat) : Nat))))], [], mk E F G) = _
    rw [q_63_4]; (try simp only [↓n_rd, ↓n_cI, li_0, li_1, li_2, li_4, li_5, li_63, li_64, zI_add, zI_sub, zI_mul, zI_neg, ↓Option.bind_some]); simp (disch := (first | assumption | exact tI_rg _ | omega | exact uR_at | exact row_ne hF (by decide) | exact row_ne (row_ne hF (by decide)) (by decide) | exact SnS_18 | exact SnS_30 | exact LdS_44 | exact LdS_46)) only [q_63_0, e1, ↓n_rd, ↓n_cI, li_0, li_1, li_2, li_4, li_5, li_63, li_64, zI_add, zI_sub, zI_mul, zI_neg, ↓Option.bind_some, ↓g5_2, zIt2, uR_at, uR_ne, uR_uR, uC_uC, uC_at, ↓reduceIte, decide_eq_true_eq, leT, leF, ltT, ltF, eqT, eqF, ne_eq, not_true_eq_false, not_false_eq_true, Bool.false_eq_true, tI_zI]
theorem cc_63 {d : Nat} {E : EnQ} {F : Nat → Int → Int32} {G : Nat → Int → Int64} {kk : Int → HeapP → ResP} {kx : Nat → HeapP → ResP} {a : Nat} {K : Int → Int32} (hO : SnO E F a K) (hd : 3 ≤ d) (hv : -2147483648 ≤ ((wysN K : Nat) : Int) ∧ ((wysN K : Nat) : Int) ≤ 2147483647) : cT (callP MP d 63 [.ref a] (mk E F G)) kk kx = kk (((wysN K : Nat) : Int)) (mk E F G) := cT_ret (by apply ct_63 <;> assumption) hv
theorem ct_75 {d : Nat} {E : EnQ} {F : Nat → Int → Int32} {G : Nat → Int → Int64} {a : Nat} {K : Int → Int32} (hO : SnO E F a K) {x : Int} (hx : -2147483648 ≤ x ∧ x ≤ 2147483647) (hd : 3 ≤ d) : callP MP d 75 [.ref a, .int (zI x)] (mk E F G) = some (Sum.inl (some (.int (zI (((tchN K x : Nat) : Int))))), mk E F G) := by

  have hO' := hO
  obtain ⟨hS, hP, hR, hN, hI⟩ := hO
  have hs := hS.1
  have hb := hI.1.2.2.2.2
  have hb2 := hI.1.2.2.1
  have e1 : tI (F a 2) = tI (K 5) := by rw [hN.1.2.1]
  have e0 : tI (F a 1) = tI (K 4) := by rw [hN.1.1]

  refine into (D := 2) (by omega) hM_75 (rcv_mk hs (by decide)) rfl fun d hd => ?_
  show runP MP d 75 (0, [some (.ref a), some (.int (zI x)), none, none], [], _) = _
  rw [q_75_0]
  unfold tchN
  refine (loopN (fun j : Nat => runP MP d 75 (4, [some (.ref a), some (.int (zI (x))), some (.int (zI (((orN (fun k : Nat => if prO K k = x then bitN (fromZ K (prW K k)) ||| bitN (toZ K (prW K k)) else 0) j : Nat) : Int)))), some (.int (zI ((j : Nat))))], [], mk E F G)) ((tI (K 5)).toNat) (fun j hj => ?_)).trans ?_
  · show runP MP d 75 (4, [some (.ref a), some (.int (zI (x))), some (.int (zI (((orN (fun k : Nat => if prO K k = x then bitN (fromZ K (prW K k)) ||| bitN (toZ K (prW K k)) else 0) j : Nat) : Int)))), some (.int (zI ((j : Nat))))], [], mk E F G) = runP MP d 75 (4, [some (.ref a), some (.int (zI (x))), some (.int (zI (((orN (fun k : Nat => if prO K k = x then bitN (fromZ K (prW K k)) ||| bitN (toZ K (prW K k)) else 0) (j + 1) : Nat) : Int)))), some (.int (zI (((j + 1) : Nat))))], [], mk E F G)
    have hw := (hI.2.2.2.1 j (by omega) (by omega)).1
    have hr := tI_rg (K (47 + 2 * (j : Int)))
    have hr2 : -2147483648 ≤ prO K (j : Int) ∧ prO K (j : Int) ≤ 2147483647 := hr
    have hf : 0 ≤ flipZ (prW K (j : Int)) ∧ flipZ (prW K (j : Int)) < 2 * tI (K 2) := by unfold flipZ; split <;> omega
    have h1 : 0 ≤ fromZ K (prW K (j : Int)) ∧ fromZ K (prW K (j : Int)) < 10 := by have := hI.2.1.1 (prW K j) (by omega) (by omega); have := hI.1.2.1; unfold fromZ; omega
    have h2 : 0 ≤ toZ K (prW K (j : Int)) ∧ toZ K (prW K (j : Int)) < 10 := by have := hI.2.1.1 (flipZ (prW K j)) (by omega) (by omega); have := hI.1.2.1; unfold toZ; omega
    rw [orN_succ, nsucc]
    by_cases h : prO K (j : Int) = x
    · rw [if_pos h]
      rw [q_75_4]; (try simp only [↓n_rd, ↓n_cI, li_0, li_1, li_2, li_4, li_5, li_64, li_70, zI_add, zI_sub, zI_mul, zI_neg, ↓Option.bind_some]); simp (disch := (first | assumption | exact tI_rg _ | omega | exact uR_at | exact row_ne hF (by decide) | exact row_ne (row_ne hF (by decide)) (by decide) | exact SnS_18 | exact SnS_30 | exact LdS_44 | exact LdS_46)) only [q_75_0, q_75_53, ↓cc_64 hO', ↓cc_70 hO', ↓cc_28 hR hI, ↓cc_29 hR hI, e1, shlB, orZ, ↓n_rd, ↓n_cI, li_0, li_1, li_2, li_4, li_5, li_64, li_70, zI_add, zI_sub, zI_mul, zI_neg, ↓Option.bind_some, ↓g5_2, ↓g5_0, zIt2, uR_at, uR_ne, uR_uR, uC_uC, uC_at, ↓reduceIte, decide_eq_true_eq, leT, leF, ltT, ltF, eqT, eqF, ne_eq, not_true_eq_false, not_false_eq_true, Bool.false_eq_true, tI_zI]
    · rw [if_neg h, or_zero']
      rw [q_75_4]; (try simp only [↓n_rd, ↓n_cI, li_0, li_1, li_2, li_4, li_5, li_64, li_70, zI_add, zI_sub, zI_mul, zI_neg, ↓Option.bind_some]); simp (disch := (first | assumption | exact tI_rg _ | omega | exact uR_at | exact row_ne hF (by decide) | exact row_ne (row_ne hF (by decide)) (by decide) | exact SnS_18 | exact SnS_30 | exact LdS_44 | exact LdS_46)) only [q_75_0, q_75_53, ↓cc_64 hO', ↓cc_70 hO', e1, ↓n_rd, ↓n_cI, li_0, li_1, li_2, li_4, li_5, li_64, li_70, zI_add, zI_sub, zI_mul, zI_neg, ↓Option.bind_some, ↓g5_2, ↓g5_0, zIt2, uR_at, uR_ne, uR_uR, uC_uC, uC_at, ↓reduceIte, decide_eq_true_eq, leT, leF, ltT, ltF, eqT, eqF, ne_eq, not_true_eq_false, not_false_eq_true, Bool.false_eq_true, tI_zI]
  · show runP MP d 75 (4, [some (.ref a), some (.int (zI (x))), some (.int (zI (((orN (fun k : Nat => if prO K k = x then bitN (fromZ K (prW K k)) ||| bitN (toZ K (prW K k)) else 0) ((tI (K 5)).toNat) : Nat) : Int)))), some (.int (zI ((((tI (K 5)).toNat) : Nat))))], [], mk E F G) = _
    rw [q_75_4]; (try simp only [↓n_rd, ↓n_cI, li_0, li_1, li_2, li_4, li_5, li_64, li_70, zI_add, zI_sub, zI_mul, zI_neg, ↓Option.bind_some]); simp (disch := (first | assumption | exact tI_rg _ | omega | exact uR_at | exact row_ne hF (by decide) | exact row_ne (row_ne hF (by decide)) (by decide) | exact SnS_18 | exact SnS_30 | exact LdS_44 | exact LdS_46)) only [q_75_0, q_75_53, e1, ↓n_rd, ↓n_cI, li_0, li_1, li_2, li_4, li_5, li_64, li_70, zI_add, zI_sub, zI_mul, zI_neg, ↓Option.bind_some, ↓g5_2, ↓g5_0, zIt2, uR_at, uR_ne, uR_uR, uC_uC, uC_at, ↓reduceIte, decide_eq_true_eq, leT, leF, ltT, ltF, eqT, eqF, ne_eq, not_true_eq_false, not_false_eq_true, Bool.false_eq_true, tI_zI]
theorem cc_75 {d : Nat} {E : EnQ} {F : Nat → Int → Int32} {G : Nat → Int → Int64} {kk : Int → HeapP → ResP} {kx : Nat → HeapP → ResP} {a : Nat} {K : Int → Int32} (hO : SnO E F a K) {x : Int} (hx : -2147483648 ≤ x ∧ x ≤ 2147483647) (hd : 3 ≤ d) (hv : -2147483648 ≤ ((tchN K x : Nat) : Int) ∧ ((tchN K x : Nat) : Int) ≤ 2147483647) : cT (callP MP d 75 [.ref a, .int (zI x)] (mk E F G)) kk kx = kk (((tchN K x : Nat) : Int)) (mk E F G) := cT_ret (by apply ct_75 <;> assumption) hv
end S93g
