/-! told steps -/
section S94d
set_option linter.unusedVariables false
set_option linter.unusedSimpArgs false
def whyT (K : Int → Int32) (v : Int) : Int := if v < 0 then 1 else whyZ K (v / 100) (v % 100)
def tolS (K : Int → Int32) (a : Int → Int) : Nat → Int → Int32
  | 0 => K
  | n + 1 => goK false (tolS K a n) (a n / 100) (a n % 100)
/-- the first that can't be, or all -/
def tolC (K : Int → Int32) (a : Int → Int) (m : Nat) : Int := if fndN (fun i => decide (whyT (tolS K a i) (a i) ≠ 0)) m 0 = -1 then m else fndN (fun i => decide (whyT (tolS K a i) (a i) ≠ 0)) m 0
theorem whyT_rg (K : Int → Int32) (v : Int) : 0 ≤ whyT K v ∧ whyT K v ≤ 2 := by
  unfold whyT whyZ; split <;> (try split) <;> (try split) <;> omega
theorem tolC_all {K : Int → Int32} {a : Int → Int} {m : Nat} (h : ∀ i, i < m → whyT (tolS K a i) (a i) = 0) : tolC K a m = m := by
  have e : fndN (fun i => decide (whyT (tolS K a i) (a i) ≠ 0)) m 0 = -1 := fndN_none fun i _ hi => decide_eq_false (fun z => z (h i (by omega)))
  unfold tolC; rw [if_pos e]
theorem tolC_at {K : Int → Int32} {a : Int → Int} {m j : Nat} (hj : j < m) (h : ∀ i, i < j → whyT (tolS K a i) (a i) = 0) (h2 : whyT (tolS K a j) (a j) ≠ 0) : tolC K a m = j := by
  have e : fndN (fun i => decide (whyT (tolS K a i) (a i) ≠ 0)) m 0 = (j : Int) := fndN_eq (by omega) (by omega) (decide_eq_true h2) (fun i _ hi => decide_eq_false (fun z => z (h i hi)))
  unfold tolC; rw [e, if_neg (by omega)]
theorem tolC_rg (K : Int → Int32) (a : Int → Int) (m : Nat) : 0 ≤ tolC K a m ∧ tolC K a m ≤ m := by
  have := fndN_rg (fun i => decide (whyT (tolS K a i) (a i) ≠ 0)) m 0
  unfold tolC; split <;> omega
/-- how it stands then -/
def tolK (K : Int → Int32) (a : Int → Int) (m : Nat) : Int → Int32 := tolS K a (tolC K a m).toNat
theorem whyT0 {K : Int → Int32} {v : Int} (h : whyT K v = 0) : 0 ≤ v ∧ whyZ K (v / 100) (v % 100) = 0 := by
  unfold whyT at h
  by_cases e : v < 0
  · rw [if_pos e] at h; omega
  · rw [if_neg e] at h; exact ⟨by omega, h⟩
theorem tolS_inv {K : Int → Int32} (hI : InvK K) (hst : stepsZ K < 1999900000) {a : Int → Int} : ∀ n : Nat, n ≤ 30 → (∀ i, i < n → whyT (tolS K a i) (a i) = 0) → InvK (tolS K a n) ∧ stepsZ (tolS K a n) = stepsZ K + n := by
  intro n
  induction n with
  | zero => intro _ _; exact ⟨hI, by show stepsZ K = stepsZ K + ((0 : Nat) : Int); omega⟩
  | succ n ih =>
    intro hn h
    obtain ⟨i1, i2⟩ := ih (by omega) (fun i hi => h i (by omega))
    obtain ⟨h1, h2⟩ := whyT0 (h n (by omega))
    obtain ⟨j1, j2⟩ := go_inv i1 (c := false) h2 (by omega)
    exact ⟨j1, by show stepsZ (goK false (tolS K a n) (a n / 100) (a n % 100)) = _; rw [j2]; omega⟩
theorem tolC_ok {K : Int → Int32} {a : Int → Int} {m : Nat} : ∀ i : Nat, i < (tolC K a m).toNat → whyT (tolS K a i) (a i) = 0 := by
  intro i hi
  have hr := tolC_rg K a m
  rcases fndN_is (fun i => decide (whyT (tolS K a i) (a i) ≠ 0)) m 0 with ⟨e, h⟩ | ⟨k, -, hk, e, hp, h⟩
  · exact Decidable.byContradiction fun z => by
      have := h i (by omega) (by omega)
      rw [decide_eq_true z] at this; cases this
  · have e2 : tolC K a m = (k : Int) := by unfold tolC; rw [e, if_neg (by omega)]
    exact Decidable.byContradiction fun z => by
      have := h i (by omega) (by omega)
      rw [decide_eq_true z] at this; cases this
theorem tolK_inv {K : Int → Int32} (hI : InvK K) (hst : stepsZ K < 1999900000) {a : Int → Int} {m : Nat} (hm : m ≤ 30) : InvK (tolK K a m) ∧ stepsZ K ≤ stepsZ (tolK K a m) ∧ stepsZ (tolK K a m) ≤ stepsZ K + 30 := by
  have hr := tolC_rg K a m
  obtain ⟨i1, i2⟩ := tolS_inv hI hst (a := a) (tolC K a m).toNat (by omega) tolC_ok
  exact ⟨i1, by show stepsZ K ≤ stepsZ (tolS K a _); omega, by show stepsZ (tolS K a _) ≤ _; omega⟩
theorem ct_140 {d : Nat} {E : EnQ} {F : Nat → Int → Int32} {G : Nat → Int → Int64} {a : Nat} {K : Int → Int32} (hO : SnO E F a K) {v : Int} (hv : -9223372036854775808 ≤ v ∧ v ≤ 9223372036854775807) (hd : 4 ≤ d) : callP MP d 140 [.ref a, .long (zJ v)] (mk E F G) = some (Sum.inl (some (.int (zI (whyT K v)))), mk E F G) := by

  have hO' := hO
  obtain ⟨hS, hP, hR, hN, hI⟩ := hO
  have hs := hS.1
  have hs2 := hP.1
  have b3 := hI.1.2.2.2.1
  have e3 : tI (F (rfQ E a 0) 3) = tI (K 3) := by rw [hR.1.2.2.2.1]
  refine into (D := 3) (by omega) hM_140 rfl rfl fun d hd => ?_
  show runP MP d 140 (0, [some (.ref a), some (.long (zJ v)), none], [], _) = _
  unfold whyT
  by_cases h : v < 0
  · rw [if_pos h]; rw [q_140_0]; (try simp only [↓n_rd, ↓n_ldiv, ↓n_lrem, ↓n_cI, li_0, li_1, li_2, li_3, li_5, li_60, li_100, lj_0, lj_1, lj_2, lj_3, lj_5, lj_60, lj_100, zJ_add, zJ_sub, zJ_mul, zJ_neg, zJ_l2i, zI_add, zI_sub, zI_mul, zI_neg, ↓Option.bind_some]); simp (disch := (first | assumption | exact tI_rg _ | omega | exact uR_at | exact row_ne hF (by decide) | exact row_ne (row_ne hF (by decide)) (by decide) | exact SnS_18 | exact SnS_30 | exact LdS_44 | exact LdS_46)) only [q_140_23, cmpJ_lt, cmpJ_ge, h, ↓n_rd, ↓n_ldiv, ↓n_lrem, ↓n_cI, ↓b_ldiv, ↓b_lrem, li_0, li_1, li_2, li_3, li_5, li_60, li_100, lj_0, lj_1, lj_2, lj_3, lj_5, lj_60, lj_100, zJ_add, zJ_sub, zJ_mul, zJ_neg, zJ_l2i, tJ_zJ, zI_add, zI_sub, zI_mul, zI_neg, ↓Option.bind_some, ↓g5_0, ↓g2_3, zIt2, uR_at, uR_ne, uR_uR, uC_uC, uC_at, ↓reduceIte, decide_eq_true_eq, leT, leF, ltT, ltF, eqT, eqF, ne_eq, not_true_eq_false, not_false_eq_true, Bool.false_eq_true, tI_zI]
  · rw [if_neg h]
    by_cases g : v / 100 < tI (K 3)
    · rw [q_140_0]; (try simp only [↓n_rd, ↓n_ldiv, ↓n_lrem, ↓n_cI, li_0, li_1, li_2, li_3, li_5, li_60, li_100, lj_0, lj_1, lj_2, lj_3, lj_5, lj_60, lj_100, zJ_add, zJ_sub, zJ_mul, zJ_neg, zJ_l2i, zI_add, zI_sub, zI_mul, zI_neg, ↓Option.bind_some]); simp (disch := (first | assumption | exact tI_rg _ | omega | exact uR_at | exact row_ne hF (by decide) | exact row_ne (row_ne hF (by decide)) (by decide) | exact SnS_18 | exact SnS_30 | exact LdS_44 | exact LdS_46)) only [q_140_23, cmpJ_lt, h, e3, zI_i2l, g, ↓cc_60 hO', ↓n_rd, ↓n_ldiv, ↓n_lrem, ↓n_cI, ↓b_ldiv, ↓b_lrem, li_0, li_1, li_2, li_3, li_5, li_60, li_100, lj_0, lj_1, lj_2, lj_3, lj_5, lj_60, lj_100, zJ_add, zJ_sub, zJ_mul, zJ_neg, zJ_l2i, tJ_zJ, zI_add, zI_sub, zI_mul, zI_neg, ↓Option.bind_some, ↓g5_0, ↓g2_3, zIt2, uR_at, uR_ne, uR_uR, uC_uC, uC_at, ↓reduceIte, decide_eq_true_eq, leT, leF, ltT, ltF, eqT, eqF, ne_eq, not_true_eq_false, not_false_eq_true, Bool.false_eq_true, tI_zI]
    · have e1 : whyZ K (v / 100) (v % 100) = 1 := by unfold whyZ; rw [if_pos (by omega)]
      rw [e1]
      rw [q_140_0]; (try simp only [↓n_rd, ↓n_ldiv, ↓n_lrem, ↓n_cI, li_0, li_1, li_2, li_3, li_5, li_60, li_100, lj_0, lj_1, lj_2, lj_3, lj_5, lj_60, lj_100, zJ_add, zJ_sub, zJ_mul, zJ_neg, zJ_l2i, zI_add, zI_sub, zI_mul, zI_neg, ↓Option.bind_some]); simp (disch := (first | assumption | exact tI_rg _ | omega | exact uR_at | exact row_ne hF (by decide) | exact row_ne (row_ne hF (by decide)) (by decide) | exact SnS_18 | exact SnS_30 | exact LdS_44 | exact LdS_46)) only [q_140_23, cmpJ_lt, h, e3, zI_i2l, g, ↓n_rd, ↓n_ldiv, ↓n_lrem, ↓n_cI, ↓b_ldiv, ↓b_lrem, li_0, li_1, li_2, li_3, li_5, li_60, li_100, lj_0, lj_1, lj_2, lj_3, lj_5, lj_60, lj_100, zJ_add, zJ_sub, zJ_mul, zJ_neg, zJ_l2i, tJ_zJ, zI_add, zI_sub, zI_mul, zI_neg, ↓Option.bind_some, ↓g5_0, ↓g2_3, zIt2, uR_at, uR_ne, uR_uR, uC_uC, uC_at, ↓reduceIte, decide_eq_true_eq, leT, leF, ltT, ltF, eqT, eqF, ne_eq, not_true_eq_false, not_false_eq_true, Bool.false_eq_true, tI_zI]
theorem cc_140 {d : Nat} {E : EnQ} {F : Nat → Int → Int32} {G : Nat → Int → Int64} {kk : Int → HeapP → ResP} {kx : Nat → HeapP → ResP} {a : Nat} {K : Int → Int32} (hO : SnO E F a K) {v : Int} (hv : -9223372036854775808 ≤ v ∧ v ≤ 9223372036854775807) (hd : 4 ≤ d) : cT (callP MP d 140 [.ref a, .long (zJ v)] (mk E F G)) kk kx = kk (whyT K v) (mk E F G) := cT_ret (by apply ct_140 <;> assumption) (by have := whyT_rg K v; omega)
theorem ct_139 {d : Nat} {E : EnQ} {F : Nat → Int → Int32} {G : Nat → Int → Int64} {a b : Nat} {K : Int → Int32} (hO : SnO E F a K) (hD : SepP E a) (hst : stepsZ K < 1999900000) (hT : TrS E b) {A : Int → Int} {m : Nat} (hm : tI (F b 1) = m) (hm30 : m ≤ 30) (hA : ∀ i : Nat, i < m → tJ (G (b + 1) i) = A i) (hb : b ≠ a ∧ b ≠ a + 7 ∧ b ≠ a + 8 ∧ b ≠ a + 9 ∧ b ≠ a + 10 ∧ b ≠ a + 11) (hd : 5 ≤ d) :
    ∃ F', callP MP d 139 [.ref a, .ref b] (mk E F G) = some (Sum.inl (some (.int (zI (tolC K A m)))), mk E F' G) ∧ SnO E F' a (tolK K A m) ∧ OthS a F F' := by
  have hO' := hO
  obtain ⟨hS, hP, hR, hN, hI⟩ := hO
  have hsb := hT.1
  obtain ⟨e, rfl⟩ : ∃ e, d = e + 1 := ⟨d - 1, by omega⟩
  have hin : callP MP (e + 1) 139 [.ref a, .ref b] (mk E F G) = runP MP e 139 (0, [some (.ref a), some (.ref b), none, none, none], [], mk E F G) := into_eq (by omega) hM_139 rfl rfl
  have hr := tolC_rg K A m
  rw [hin, q_139_0]
  refine loopS (σ := Option Value × (Nat → Int → Int32)) (Post := fun r => ∃ F', r = some (Sum.inl (some (.int (zI (tolC K A m)))), mk E F' G) ∧ SnO E F' a (tolK K A m) ∧ OthS a F F')
    (fun j s => runP MP e 139 (2, [some (.ref a), some (.ref b), some (.int (zI (j : Int))), s.1, none], [], mk E s.2 G))
    (fun j s => SnO E s.2 a (tolS K A j) ∧ OthS a F s.2 ∧ ∀ i, i < j → whyT (tolS K A i) (A i) = 0) m (none, F) ⟨hO', OthS_rf, fun i hi => by omega⟩ (fun s hI2 => ?_) (fun j s hj hI2 => ?_)
  · obtain ⟨o1, o2, o3⟩ := hI2
    have e1 : tI (s.2 b 1) = m := by rw [o2 b hb.1 hb.2.1 hb.2.2.1 hb.2.2.2.1 hb.2.2.2.2.1 hb.2.2.2.2.2]; exact hm
    have ec := tolC_all o3
    refine ⟨s.2, ?_, by unfold tolK; rw [ec]; exact o1, o2⟩
    show runP MP e 139 _ = _
    rw [ec]
    rw [q_139_2]; (try simp only [↓n_rd, ↓n_ldiv, ↓n_lrem, ↓n_cI, ↓n_cJ, li_0, li_1, li_2, li_7, li_100, lj_0, lj_1, lj_2, lj_100, zJ_add, zJ_sub, zJ_mul, zJ_neg, zJ_l2i, zI_add, zI_sub, zI_mul, zI_neg, ↓Option.bind_some]); simp (disch := (first | assumption | exact tI_rg _ | omega | exact uR_at | exact row_ne hF (by decide) | exact row_ne (row_ne hF (by decide)) (by decide) | exact SnS_18 | exact SnS_30 | exact LdS_44 | exact LdS_46)) only [q_139_0, e1, ↓n_rd, ↓n_ldiv, ↓n_lrem, ↓n_cI, ↓n_cJ, ↓b_ldiv, ↓b_lrem, li_0, li_1, li_2, li_7, li_100, lj_0, lj_1, lj_2, lj_100, zJ_add, zJ_sub, zJ_mul, zJ_neg, zJ_l2i, tJ_zJ, zI_add, zI_sub, zI_mul, zI_neg, ↓Option.bind_some, ↓g7_1, zIt2, uR_at, uR_ne, uR_uR, uC_uC, uC_at, ↓reduceIte, decide_eq_true_eq, leT, leF, ltT, ltF, eqT, eqF, ne_eq, not_true_eq_false, not_false_eq_true, Bool.false_eq_true, tI_zI]
  · obtain ⟨o1, o2, o3⟩ := hI2
    have e1 : tI (s.2 b 1) = m := by rw [o2 b hb.1 hb.2.1 hb.2.2.1 hb.2.2.2.1 hb.2.2.2.2.1 hb.2.2.2.2.2]; exact hm
    obtain ⟨i1, i2⟩ := tolS_inv hI hst (a := A) j (by omega) o3
    have hAr := tJ_rg (G (b + 1) j)
    rw [hA j hj] at hAr
    by_cases g : whyT (tolS K A j) (A j) = 0
    · right
      obtain ⟨h1, h2⟩ := whyT0 g
      have hw := why0 h2
      have b3 := i1.1.2.2.2.1
      obtain ⟨F', r1, s1, t1⟩ := ct_61 (d := e) (G := G) o1 hD (x := A j / 100) (p := A j % 100) (by omega) (by omega) h2 (by omega) (by omega)
      have h61 : ∀ {kk : HeapP → ResP} {kx : Nat → HeapP → ResP}, cV (callP MP e 61 [.ref a, .int (zI (A j / 100)), .int (zI (A j % 100))] (mk E s.2 G)) kk kx = kk (mk E F' G) := fun {kk kx} => cV_ret r1
      refine ⟨(some (.long (zJ (A j))), F'), ⟨s1, OthS_tr o2 t1, fun i hi => ?_⟩, ?_⟩
      · by_cases ei : i = j
        · rw [ei]; exact g
        · exact o3 i (by omega)
      · show runP MP e 139 _ = runP MP e 139 _
        rw [nsucc]
        have h95 : ∀ {kk : Int → HeapP → ResP} {kx : Nat → HeapP → ResP}, cJT (callP MP e 95 [.ref b, .int (zI (j : Int))] (mk E s.2 G)) kk kx = kk (A j) (mk E s.2 G) := fun {kk kx} => by
          rw [cc_95 hT (by omega) (by omega), hA j hj]
        rw [q_139_2]; (try simp only [↓n_rd, ↓n_ldiv, ↓n_lrem, ↓n_cI, ↓n_cJ, li_0, li_1, li_2, li_7, li_100, lj_0, lj_1, lj_2, lj_100, zJ_add, zJ_sub, zJ_mul, zJ_neg, zJ_l2i, zI_add, zI_sub, zI_mul, zI_neg, ↓Option.bind_some]); simp (disch := (first | assumption | exact tI_rg _ | omega | exact uR_at | exact row_ne hF (by decide) | exact row_ne (row_ne hF (by decide)) (by decide) | exact SnS_18 | exact SnS_30 | exact LdS_44 | exact LdS_46)) only [q_139_0, e1, ↓h95, ↓cc_140 o1, g, ↓h61, ↓n_rd, ↓n_ldiv, ↓n_lrem, ↓n_cI, ↓n_cJ, ↓b_ldiv, ↓b_lrem, li_0, li_1, li_2, li_7, li_100, lj_0, lj_1, lj_2, lj_100, zJ_add, zJ_sub, zJ_mul, zJ_neg, zJ_l2i, tJ_zJ, zI_add, zI_sub, zI_mul, zI_neg, ↓Option.bind_some, ↓g7_1, zIt2, uR_at, uR_ne, uR_uR, uC_uC, uC_at, ↓reduceIte, decide_eq_true_eq, leT, leF, ltT, ltF, eqT, eqF, ne_eq, not_true_eq_false, not_false_eq_true, Bool.false_eq_true, tI_zI]
    · left
      have ec := tolC_at hj o3 g
      refine ⟨s.2, ?_, by unfold tolK; rw [ec]; exact o1, o2⟩
      show runP MP e 139 _ = _
      rw [ec]
      have h95 : ∀ {kk : Int → HeapP → ResP} {kx : Nat → HeapP → ResP}, cJT (callP MP e 95 [.ref b, .int (zI (j : Int))] (mk E s.2 G)) kk kx = kk (A j) (mk E s.2 G) := fun {kk kx} => by
        rw [cc_95 hT (by omega) (by omega), hA j hj]
      have hwr := whyT_rg (tolS K A j) (A j)
      rw [q_139_2]; (try simp only [↓n_rd, ↓n_ldiv, ↓n_lrem, ↓n_cI, ↓n_cJ, li_0, li_1, li_2, li_7, li_100, lj_0, lj_1, lj_2, lj_100, zJ_add, zJ_sub, zJ_mul, zJ_neg, zJ_l2i, zI_add, zI_sub, zI_mul, zI_neg, ↓Option.bind_some]); simp (disch := (first | assumption | exact tI_rg _ | omega | exact uR_at | exact row_ne hF (by decide) | exact row_ne (row_ne hF (by decide)) (by decide) | exact SnS_18 | exact SnS_30 | exact LdS_44 | exact LdS_46)) only [q_139_0, e1, ↓h95, ↓cc_140 o1, ↓n_rd, ↓n_ldiv, ↓n_lrem, ↓n_cI, ↓n_cJ, ↓b_ldiv, ↓b_lrem, li_0, li_1, li_2, li_7, li_100, lj_0, lj_1, lj_2, lj_100, zJ_add, zJ_sub, zJ_mul, zJ_neg, zJ_l2i, tJ_zJ, zI_add, zI_sub, zI_mul, zI_neg, ↓Option.bind_some, ↓g7_1, zIt2, uR_at, uR_ne, uR_uR, uC_uC, uC_at, ↓reduceIte, decide_eq_true_eq, leT, leF, ltT, ltF, eqT, eqF, ne_eq, not_true_eq_false, not_false_eq_true, Bool.false_eq_true, tI_zI]
theorem ct_238 {d : Nat} {E : EnQ} {F : Nat → Int → Int32} {G : Nat → Int → Int64} {K : Int → Int32} (hI : InvK K) (hF : F 218 = K) {v : Int} (hv : -9223372036854775808 ≤ v ∧ v ≤ 9223372036854775807) (hd : 4 ≤ d) : callP MP d 238 [.ref 217, .long (zJ v)] (mk E F G) = some (Sum.inl (some (.int (zI (whyT K v)))), mk E F G) := by

  refine into (D := 3) (by omega) hM_238 (rcv_mk rfl (by decide)) rfl fun d hd => ?_
  show runP MP d 238 (0, [some (.ref 217), some (.long (zJ v)), none], [], _) = _
  unfold whyT
  by_cases h : v < 0
  · rw [if_pos h]; rw [q_238_0]; (try simp only [↓n_ldiv, ↓n_lrem, ↓n_cI, li_0, li_1, li_24, li_100, lj_0, lj_1, lj_100, zJ_add, zJ_sub, zJ_mul, zJ_neg, zJ_l2i, zI_add, zI_sub, zI_mul, zI_neg, ↓Option.bind_some]); simp (disch := (first | assumption | exact tI_rg _ | omega | exact uR_at | exact row_ne hF (by decide) | exact row_ne (row_ne hF (by decide)) (by decide) | exact SnS_18 | exact SnS_30 | exact LdS_44 | exact LdS_46)) only [q_238_24, cmpJ_ge, Int.not_le.mpr h, ↓n_ldiv, ↓n_lrem, ↓n_cI, ↓b_ldiv, ↓b_lrem, li_0, li_1, li_24, li_100, lj_0, lj_1, lj_100, zJ_add, zJ_sub, zJ_mul, zJ_neg, zJ_l2i, tJ_zJ, zI_add, zI_sub, zI_mul, zI_neg, ↓Option.bind_some, zIt2, uR_at, uR_ne, uR_uR, uC_uC, uC_at, ↓reduceIte, decide_eq_true_eq, leT, leF, ltT, ltF, eqT, eqF, ne_eq, not_true_eq_false, not_false_eq_true, Bool.false_eq_true, tI_zI]
  · rw [if_neg h]
    have h' : 0 ≤ v := by omega
    rw [q_238_0]; (try simp only [↓n_ldiv, ↓n_lrem, ↓n_cI, li_0, li_1, li_24, li_100, lj_0, lj_1, lj_100, zJ_add, zJ_sub, zJ_mul, zJ_neg, zJ_l2i, zI_add, zI_sub, zI_mul, zI_neg, ↓Option.bind_some]); simp (disch := (first | assumption | exact tI_rg _ | omega | exact uR_at | exact row_ne hF (by decide) | exact row_ne (row_ne hF (by decide)) (by decide) | exact SnS_18 | exact SnS_30 | exact LdS_44 | exact LdS_46)) only [q_238_24, cmpJ_ge, h', ↓cc_227 hI, ↓n_ldiv, ↓n_lrem, ↓n_cI, ↓b_ldiv, ↓b_lrem, li_0, li_1, li_24, li_100, lj_0, lj_1, lj_100, zJ_add, zJ_sub, zJ_mul, zJ_neg, zJ_l2i, tJ_zJ, zI_add, zI_sub, zI_mul, zI_neg, ↓Option.bind_some, zIt2, uR_at, uR_ne, uR_uR, uC_uC, uC_at, ↓reduceIte, decide_eq_true_eq, leT, leF, ltT, ltF, eqT, eqF, ne_eq, not_true_eq_false, not_false_eq_true, Bool.false_eq_true, tI_zI]
theorem cc_238 {d : Nat} {E : EnQ} {F : Nat → Int → Int32} {G : Nat → Int → Int64} {kk : Int → HeapP → ResP} {kx : Nat → HeapP → ResP} {K : Int → Int32} (hI : InvK K) (hF : F 218 = K) {v : Int} (hv : -9223372036854775808 ≤ v ∧ v ≤ 9223372036854775807) (hd : 4 ≤ d) : cT (callP MP d 238 [.ref 217, .long (zJ v)] (mk E F G)) kk kx = kk (whyT K v) (mk E F G) := cT_ret (by apply ct_238 <;> assumption) (by have := whyT_rg K v; omega)
theorem ct_237 {d : Nat} {E : EnQ} {F : Nat → Int → Int32} {G : Nat → Int → Int64} {K : Int → Int32} (hI : InvK K) (hF : F 218 = K) (hc : tI (F 217 18) = 0) (hst : stepsZ K < 1999900000) {x : Int} (hx : 0 ≤ x ∧ x < 4) {A : Int → Int} {m : Nat} (hm : tI (F 244 x) = m) (hm30 : m ≤ 30) (hA : ∀ i : Nat, i < m → tJ (G 245 (30 * x + i)) = A i) (hd : 5 ≤ d) : callP MP d 237 [.ref 217, .int (zI x)] (mk E F G) = some (Sum.inl (some (.int (zI (tolC K A m)))), mk E (uR F 218 (tolK K A m)) G) := by

  have hr := tolC_rg K A m
  refine into (D := 4) (by omega) hM_237 (rcv_mk rfl (by decide)) rfl fun d hd => ?_
  show runP MP d 237 (0, [some (.ref 217), some (.int (zI x)), none], [], _) = _
  rw [q_237_0]
  have h0 : mk E F G = mk E (uR F 218 (tolS K A 0)) G := by show _ = mk E (uR F 218 K) G; rw [← hF, uR_self]
  rw [h0]
  refine loopS (σ := Unit) (Post := fun r => r = some (Sum.inl (some (.int (zI (tolC K A m)))), mk E (uR F 218 (tolK K A m)) G))
    (fun j _ => runP MP d 237 (2, [some (.ref 217), some (.int (zI x)), some (.int (zI (j : Int)))], [], mk E (uR F 218 (tolS K A j)) G))
    (fun j _ => ∀ i, i < j → whyT (tolS K A i) (A i) = 0) m () (fun i hi => by omega) (fun s o3 => ?_) (fun j s hj o3 => ?_)
  · have ec := tolC_all o3
    show runP MP d 237 _ = _
    unfold tolK
    rw [ec, show ((m : Int)).toNat = m by omega]
    rw [q_237_2]; (try simp only [↓n_al, ↓n_alJ, ↓n_idiv, ↓n_irem, ↓n_cI, li_0, li_1, li_2, li_12, li_30, li_70, li_100, lj_0, lj_1, lj_2, lj_12, lj_30, lj_100, zJ_add, zJ_sub, zJ_mul, zJ_neg, zJ_l2i, zI_add, zI_sub, zI_mul, zI_neg, ↓Option.bind_some]); simp (disch := (first | assumption | exact tI_rg _ | omega | exact uR_at | exact row_ne hF (by decide) | exact row_ne (row_ne hF (by decide)) (by decide) | exact SnS_18 | exact SnS_30 | exact LdS_44 | exact LdS_46)) only [q_237_0, q_237_70, hm, ↓n_al, ↓n_alJ, ↓n_idiv, ↓n_irem, ↓n_cI, ↓b_idiv, ↓b_irem, li_0, li_1, li_2, li_12, li_30, li_70, li_100, lj_0, lj_1, lj_2, lj_12, lj_30, lj_100, zJ_add, zJ_sub, zJ_mul, zJ_neg, zJ_l2i, tJ_zJ, zI_add, zI_sub, zI_mul, zI_neg, ↓Option.bind_some, ↓g12_54, ↓g12_55, ↓al_244, ↓as_244, ↓al_245, ↓as_245, zIt2, uR_at, uR_ne, uR_uR, uC_uC, uC_at, ↓reduceIte, decide_eq_true_eq, leT, leF, ltT, ltF, eqT, eqF, ne_eq, not_true_eq_false, not_false_eq_true, Bool.false_eq_true, tI_zI]
  · obtain ⟨i1, i2⟩ := tolS_inv hI hst (a := A) j (by omega) o3
    have hAr := tJ_rg (G 245 (30 * x + (j : Int)))
    have hAj := hA j hj
    rw [hAj] at hAr
    by_cases g : whyT (tolS K A j) (A j) = 0
    · right
      obtain ⟨h1, h2⟩ := whyT0 g
      have hw := why0 h2
      have b3 := i1.1.2.2.2.1
      refine ⟨(), fun i hi => ?_, ?_⟩
      · by_cases ei : i = j
        · rw [ei]; exact g
        · exact o3 i (by omega)
      · show runP MP d 237 _ = runP MP d 237 _
        have h230 : ∀ {kk : HeapP → ResP} {kx : Nat → HeapP → ResP}, cV (callP MP d 230 [.ref 217, .int (zI (A j / 100)), .int (zI (A j % 100))] (mk E (uR F 218 (tolS K A j)) G)) kk kx = kk (mk E (uR F 218 (tolS K A (j + 1))) G) := fun {kk kx} => by
          rw [cc_230 i1 uR_at (c := false) (by rw [uR_ne (by decide)]; exact hc) h2 (by omega) (by omega), uR_uR]
          rfl
        rw [nsucc]
        rw [q_237_2]; (try simp only [↓n_al, ↓n_alJ, ↓n_idiv, ↓n_irem, ↓n_cI, li_0, li_1, li_2, li_12, li_30, li_70, li_100, lj_0, lj_1, lj_2, lj_12, lj_30, lj_100, zJ_add, zJ_sub, zJ_mul, zJ_neg, zJ_l2i, zI_add, zI_sub, zI_mul, zI_neg, ↓Option.bind_some]); simp (disch := (first | assumption | exact tI_rg _ | omega | exact uR_at | exact row_ne hF (by decide) | exact row_ne (row_ne hF (by decide)) (by decide) | exact SnS_18 | exact SnS_30 | exact LdS_44 | exact LdS_46)) only [q_237_0, q_237_70, hm, hAj, ↓cc_238 i1, g, ↓h230, ↓n_al, ↓n_alJ, ↓n_idiv, ↓n_irem, ↓n_cI, ↓b_idiv, ↓b_irem, li_0, li_1, li_2, li_12, li_30, li_70, li_100, lj_0, lj_1, lj_2, lj_12, lj_30, lj_100, zJ_add, zJ_sub, zJ_mul, zJ_neg, zJ_l2i, tJ_zJ, zI_add, zI_sub, zI_mul, zI_neg, ↓Option.bind_some, ↓g12_54, ↓g12_55, ↓al_244, ↓as_244, ↓al_245, ↓as_245, zIt2, uR_at, uR_ne, uR_uR, uC_uC, uC_at, ↓reduceIte, decide_eq_true_eq, leT, leF, ltT, ltF, eqT, eqF, ne_eq, not_true_eq_false, not_false_eq_true, Bool.false_eq_true, tI_zI]
    · left
      have ec := tolC_at hj o3 g
      have hwr := whyT_rg (tolS K A j) (A j)
      show runP MP d 237 _ = _
      unfold tolK
      rw [ec, show ((j : Int)).toNat = j by omega]
      rw [q_237_2]; (try simp only [↓n_al, ↓n_alJ, ↓n_idiv, ↓n_irem, ↓n_cI, li_0, li_1, li_2, li_12, li_30, li_70, li_100, lj_0, lj_1, lj_2, lj_12, lj_30, lj_100, zJ_add, zJ_sub, zJ_mul, zJ_neg, zJ_l2i, zI_add, zI_sub, zI_mul, zI_neg, ↓Option.bind_some]); simp (disch := (first | assumption | exact tI_rg _ | omega | exact uR_at | exact row_ne hF (by decide) | exact row_ne (row_ne hF (by decide)) (by decide) | exact SnS_18 | exact SnS_30 | exact LdS_44 | exact LdS_46)) only [q_237_0, q_237_70, hm, hAj, ↓cc_238 i1, ↓n_al, ↓n_alJ, ↓n_idiv, ↓n_irem, ↓n_cI, ↓b_idiv, ↓b_irem, li_0, li_1, li_2, li_12, li_30, li_70, li_100, lj_0, lj_1, lj_2, lj_12, lj_30, lj_100, zJ_add, zJ_sub, zJ_mul, zJ_neg, zJ_l2i, tJ_zJ, zI_add, zI_sub, zI_mul, zI_neg, ↓Option.bind_some, ↓g12_54, ↓g12_55, ↓al_244, ↓as_244, ↓al_245, ↓as_245, zIt2, uR_at, uR_ne, uR_uR, uC_uC, uC_at, ↓reduceIte, decide_eq_true_eq, leT, leF, ltT, ltF, eqT, eqF, ne_eq, not_true_eq_false, not_false_eq_true, Bool.false_eq_true, tI_zI]
theorem cc_237 {d : Nat} {E : EnQ} {F : Nat → Int → Int32} {G : Nat → Int → Int64} {kk : Int → HeapP → ResP} {kx : Nat → HeapP → ResP} {K : Int → Int32} (hI : InvK K) (hF : F 218 = K) (hc : tI (F 217 18) = 0) (hst : stepsZ K < 1999900000) {x : Int} (hx : 0 ≤ x ∧ x < 4) {A : Int → Int} {m : Nat} (hm : tI (F 244 x) = m) (hm30 : m ≤ 30) (hA : ∀ i : Nat, i < m → tJ (G 245 (30 * x + i)) = A i) (hd : 5 ≤ d) : cT (callP MP d 237 [.ref 217, .int (zI x)] (mk E F G)) kk kx = kk (tolC K A m) (mk E (uR F 218 (tolK K A m)) G) := cT_ret (by apply ct_237 <;> assumption) (by have := tolC_rg K A m; omega)
end S94d
