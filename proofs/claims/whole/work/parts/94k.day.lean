/-! MODEL: day -/
section S94k
set_option linter.unusedVariables false
set_option linter.unusedSimpArgs false
theorem cc_243d {d : Nat} {E : EnQ} {F : Nat → Int → Int32} {G : Nat → Int → Int64} {kk : Int → HeapP → ResP} {kx : Nat → HeapP → ResP} {m : Int} {s : Int32} {K1 : Int → Int32} (hm : 0 < m ∧ m ≤ 100) (hd : 1 ≤ d) : cT (callP MP d 243 [.ref 217, .int (zI m)] (mk E (uR (uR F 217 (uC (uC (F 217) 5 (zI 0)) 19 (s))) 218 (K1)) G)) kk kx = kk (drwZ (lcgI s) % m) (mk E (uR (uR F 217 (uC (uC (F 217) 5 (zI 0)) 19 (lcgI s))) 218 (K1)) G) := by
  have e1 : uR (uR F 217 (uC (uC (F 217) 5 (zI 0)) 19 s)) 218 K1 217 = uC (uC (F 217) 5 (zI 0)) 19 s := by rw [uR_ne (by decide), uR_at]
  have e2 : uR (uR (uR F 217 (uC (uC (F 217) 5 (zI 0)) 19 s)) 218 K1) 217 (uC (uC (F 217) 5 (zI 0)) 19 (lcgI s)) = uR (uR F 217 (uC (uC (F 217) 5 (zI 0)) 19 (lcgI s))) 218 K1 := by
    funext b
    by_cases h : b = 217
    · rw [h, uR_at, uR_ne (by decide), uR_at]
    · rw [uR_ne h]
      by_cases h8 : b = 218
      · rw [h8, uR_at, uR_at]
      · rw [uR_ne h8, uR_ne h, uR_ne h8, uR_ne h]
  rw [cc_243 hm hd, e1, uC_at, uC_uC, e2]
theorem day_step {d : Nat} {E : EnQ} {F : Nat → Int → Int32} {G : Nat → Int → Int64} {K1 : Int → Int32} (hI : InvK K1) (hc : tI (F 217 18) = 0) (hst : stepsZ K1 < 1999990000) (h3 : 1 ≤ tI (K1 3)) {s1 s0 : Int32} {x c : Int} {j : Nat} (hx : 1 ≤ x ∧ x ≤ 60) (hj : (j : Int) < x) (hc2 : 0 ≤ c ∧ c ≤ 100) {z5 z6 z7 z8 : Option Value} (hd : 4 ≤ d + 1) : ∃ y5 y6 y7 y8, runP MP d 242 (51, [some (.ref 217), some (.int s0), some (.int (zI x)), some (.int (zI c)), some (.int (zI (j : Int))), z5, z6, z7, z8], [], mk E (uR (uR F 217 (uC (uC (F 217) 5 (zI 0)) 19 (s1))) 218 (K1)) G) =
    runP MP d 242 (51, [some (.ref 217), some (.int s0), some (.int (zI x)), some (.int (zI (c + if nearZ K1 (dayP K1 s1) ≠ 0 then 1 else 0))), some (.int (zI ((j + 1 : Nat) : Int))), y5, y6, y7, y8], [], mk E (uR (uR F 217 (uC (uC (F 217) 5 (zI 0)) 19 ((day1 (s1, K1)).1))) 218 ((day1 (s1, K1)).2)) G) := by
  have b3 := hI.1.2.2.2.1
  have b1 := hI.1.2.1
  have b2 := hI.1.2.2.1
  have hw1 : dayW K1 s1 = drwZ (lcgI s1) % tI (K1 3) := rfl
  have w1 : 0 ≤ dayW K1 s1 := Int.emod_nonneg _ (by omega)
  have w2 : dayW K1 s1 < tI (K1 3) := Int.emod_lt_of_pos _ (by omega)
  have eP : tI (K1 (38 + 2 * dayW K1 s1)) = dayP K1 s1 := rfl
  have hp := (hI.2.2.1 (dayW K1 s1) w1 (by omega)).2.2.2.2.2 w2
  rw [eP] at hp
  have hnr := nearZ_rg hI (dayP K1 s1)
  by_cases g : nearZ K1 (dayP K1 s1) = 0
  · have hn1 : day1 (s1, K1) = (lcgI s1, K1) := by unfold day1; rw [if_pos g]
    refine ⟨some (.int (zI (dayW K1 s1))), some (.int (zI (nearZ K1 (dayP K1 s1)))), z7, z8, ?_⟩
    rw [hn1, if_neg (fun z => z g), nsucc]
    rw [q_242_51]; (try simp only [↓n_rd, ↓n_cI, li_0, li_1, li_2, li_5, li_12, li_60, li_98, lj_0, lj_1, lj_2, lj_5, lj_12, lj_60, zJ_add, zJ_sub, zJ_mul, zJ_neg, zJ_l2i, zI_add, zI_sub, zI_mul, zI_neg, ↓Option.bind_some]); simp (disch := (first | assumption | exact tI_rg _ | omega | exact uR_at | exact row_ne hF (by decide) | exact row_ne (row_ne hF (by decide)) (by decide) | exact SnS_18 | exact SnS_30 | exact LdS_44 | exact LdS_46)) only [q_242_0, q_242_29, q_242_119, q_242_142, q_242_162, ↓cc_220 hI, ↓cc_243d, ↓cc_228 hI, ↓cc_244 hI, hw1.symm, eP, g, Int.add_zero, ↓n_rd, ↓n_cI, li_0, li_1, li_2, li_5, li_12, li_60, li_98, lj_0, lj_1, lj_2, lj_5, lj_12, lj_60, zJ_add, zJ_sub, zJ_mul, zJ_neg, zJ_l2i, tJ_zJ, zI_add, zI_sub, zI_mul, zI_neg, ↓Option.bind_some, ↓g12_5, ↓p12_19, ↓p12_5, zIt2, uR_at, uR_ne, uR_uR, uC_uC, uC_at, ↓reduceIte, decide_eq_true_eq, leT, leF, ltT, ltF, eqT, eqF, ne_eq, not_true_eq_false, not_false_eq_true, Bool.false_eq_true, tI_zI]
  · obtain ⟨k1, k2, k3, k4⟩ := day1_ok hI h3 g
    obtain ⟨q, n1, n2, n3, n4, n5⟩ := nthZ_is (K := K1) (p := dayP K1 s1) ⟨k3.1, k3.2⟩
    have hq1 : dayQ K1 s1 = q := n2
    have hn1 : day1 (s1, K1) = (lcgI (lcgI s1), goK false K1 (dayW K1 s1) (dayQ K1 s1)) := by unfold day1; rw [if_neg g]
    rw [hq1] at hn1 k4
    generalize hr : drwZ (lcgI (lcgI s1)) % nearZ K1 (dayP K1 s1) = r at *
    have h230 : ∀ {kk : HeapP → ResP} {kx : Nat → HeapP → ResP}, cV (callP MP d 230 [.ref 217, .int (zI (dayW K1 s1)), .int (zI (q : Int))] (mk E (uR (uR F 217 (uC (uC (F 217) 5 (zI 0)) 19 (lcgI (lcgI s1)))) 218 (K1)) G)) kk kx = kk (mk E (uR (uR F 217 (uC (uC (F 217) 5 (zI 0)) 19 (lcgI (lcgI s1)))) 218 (goK false K1 (dayW K1 s1) (q : Int))) G) := fun {kk kx} => by
      rw [cc_230 hI uR_at (c := false) (by rw [uR_ne (by decide), uR_at, uC_ne (by decide), uC_ne (by decide)]; exact hc) k4 (by omega) (by omega), uR_uR]
    refine ⟨some (.int (zI (dayW K1 s1))), some (.int (zI (nearZ K1 (dayP K1 s1)))), some (.int (zI 0)), some (.int (zI (q : Int))), ?_⟩
    rw [hn1, if_pos g, nsucc]
    have hl : runP MP d 242 (98, [some (.ref 217), some (.int s0), some (.int (zI x)), some (.int (zI c)), some (.int (zI (j : Int))), some (.int (zI (dayW K1 s1))), some (.int (zI (nearZ K1 (dayP K1 s1)))), some (.int (zI r)), some (.int (zI 0))], [], mk E (uR (uR F 217 (uC (uC (F 217) 5 (zI 0)) 19 (lcgI (lcgI s1)))) 218 (K1)) G) = runP MP d 242 (98, [some (.ref 217), some (.int s0), some (.int (zI x)), some (.int (zI c)), some (.int (zI (j : Int))), some (.int (zI (dayW K1 s1))), some (.int (zI (nearZ K1 (dayP K1 s1)))), some (.int (zI 0)), some (.int (zI (q : Int)))], [], mk E (uR (uR F 217 (uC (uC (F 217) 5 (zI 0)) 19 (lcgI (lcgI s1)))) 218 (K1)) G) := by
      refine Eq.trans ?_ ((loopN (fun i : Nat => runP MP d 242 (98, [some (.ref 217), some (.int s0), some (.int (zI x)), some (.int (zI c)), some (.int (zI (j : Int))), some (.int (zI (dayW K1 s1))), some (.int (zI (nearZ K1 (dayP K1 s1)))), some (.int (zI (r - cntN (isN K1 (dayP K1 s1)) i))), some (.int (zI (i : Int)))], [], mk E (uR (uR F 217 (uC (uC (F 217) 5 (zI 0)) 19 (lcgI (lcgI s1)))) 218 (K1)) G)) q (fun i hi => ?_)).trans ?_)
      · show runP MP d 242 _ = runP MP d 242 (98, [_, _, _, _, _, _, _, some (.int (zI (r - 0))), some (.int (zI 0))], [], _)
        rw [Int.sub_zero]
      · show runP MP d 242 _ = runP MP d 242 _
        have hcn := cntN_rg (isN K1 (dayP K1 s1)) i
        have hcm := cnt_mono (p := isN K1 (dayP K1 s1)) (show i + 1 ≤ q by omega)
        have hw := wayZ_lo b2 (dayP K1 s1) (i : Int)
        by_cases e : wayZ K1 (dayP K1 s1) i = -1
        · rw [cntN_neg (by unfold isN; rw [decide_eq_true_eq]; exact fun z => z e), nsucc]
          rw [q_242_98]; (try simp only [↓n_rd, ↓n_cI, li_0, li_1, li_2, li_5, li_12, li_60, li_98, lj_0, lj_1, lj_2, lj_5, lj_12, lj_60, zJ_add, zJ_sub, zJ_mul, zJ_neg, zJ_l2i, zI_add, zI_sub, zI_mul, zI_neg, ↓Option.bind_some]); simp (disch := (first | assumption | exact tI_rg _ | omega | exact uR_at | exact row_ne hF (by decide) | exact row_ne (row_ne hF (by decide)) (by decide) | exact SnS_18 | exact SnS_30 | exact LdS_44 | exact LdS_46)) only [q_242_0, q_242_29, q_242_119, q_242_142, q_242_162, ↓cc_228 hI, ↓cc_229 hI, eP, e, Int.sub_zero, ↓n_rd, ↓n_cI, li_0, li_1, li_2, li_5, li_12, li_60, li_98, lj_0, lj_1, lj_2, lj_5, lj_12, lj_60, zJ_add, zJ_sub, zJ_mul, zJ_neg, zJ_l2i, tJ_zJ, zI_add, zI_sub, zI_mul, zI_neg, ↓Option.bind_some, ↓g12_5, ↓p12_19, ↓p12_5, zIt2, uR_at, uR_ne, uR_uR, uC_uC, uC_at, ↓reduceIte, decide_eq_true_eq, leT, leF, ltT, ltF, eqT, eqF, ne_eq, not_true_eq_false, not_false_eq_true, Bool.false_eq_true, tI_zI]
        · rw [cntN_pos (by unfold isN; exact decide_eq_true e)] at hcm ⊢
          rw [nsucc, show r - (cntN (isN K1 (dayP K1 s1)) i + 1) = r - cntN (isN K1 (dayP K1 s1)) i - 1 by omega]
          rw [q_242_98]; (try simp only [↓n_rd, ↓n_cI, li_0, li_1, li_2, li_5, li_12, li_60, li_98, lj_0, lj_1, lj_2, lj_5, lj_12, lj_60, zJ_add, zJ_sub, zJ_mul, zJ_neg, zJ_l2i, zI_add, zI_sub, zI_mul, zI_neg, ↓Option.bind_some]); simp (disch := (first | assumption | exact tI_rg _ | omega | exact uR_at | exact row_ne hF (by decide) | exact row_ne (row_ne hF (by decide)) (by decide) | exact SnS_18 | exact SnS_30 | exact LdS_44 | exact LdS_46)) only [q_242_0, q_242_29, q_242_119, q_242_142, q_242_162, ↓cc_228 hI, ↓cc_229 hI, eP, e, Int.sub_zero, ↓n_rd, ↓n_cI, li_0, li_1, li_2, li_5, li_12, li_60, li_98, lj_0, lj_1, lj_2, lj_5, lj_12, lj_60, zJ_add, zJ_sub, zJ_mul, zJ_neg, zJ_l2i, tJ_zJ, zI_add, zI_sub, zI_mul, zI_neg, ↓Option.bind_some, ↓g12_5, ↓p12_19, ↓p12_5, zIt2, uR_at, uR_ne, uR_uR, uC_uC, uC_at, ↓reduceIte, decide_eq_true_eq, leT, leF, ltT, ltF, eqT, eqF, ne_eq, not_true_eq_false, not_false_eq_true, Bool.false_eq_true, tI_zI]
      · show runP MP d 242 (98, [_, _, _, _, _, _, _, some (.int (zI (r - cntN (isN K1 (dayP K1 s1)) q))), some (.int (zI (q : Int)))], [], _) = _
        rw [n4, Int.sub_self]
    rw [q_242_51]; (try simp only [↓n_rd, ↓n_cI, li_0, li_1, li_2, li_5, li_12, li_60, li_98, lj_0, lj_1, lj_2, lj_5, lj_12, lj_60, zJ_add, zJ_sub, zJ_mul, zJ_neg, zJ_l2i, zI_add, zI_sub, zI_mul, zI_neg, ↓Option.bind_some]); simp (disch := (first | assumption | exact tI_rg _ | omega | exact uR_at | exact row_ne hF (by decide) | exact row_ne (row_ne hF (by decide)) (by decide) | exact SnS_18 | exact SnS_30 | exact LdS_44 | exact LdS_46)) only [q_242_0, q_242_29, q_242_119, q_242_142, q_242_162, ↓cc_220 hI, ↓cc_243d, ↓cc_228 hI, ↓cc_244 hI, hw1.symm, eP, g, hr, ↓hl, ↓n_rd, ↓n_cI, li_0, li_1, li_2, li_5, li_12, li_60, li_98, lj_0, lj_1, lj_2, lj_5, lj_12, lj_60, zJ_add, zJ_sub, zJ_mul, zJ_neg, zJ_l2i, tJ_zJ, zI_add, zI_sub, zI_mul, zI_neg, ↓Option.bind_some, ↓g12_5, ↓p12_19, ↓p12_5, zIt2, uR_at, uR_ne, uR_uR, uC_uC, uC_at, ↓reduceIte, decide_eq_true_eq, leT, leF, ltT, ltF, eqT, eqF, ne_eq, not_true_eq_false, not_false_eq_true, Bool.false_eq_true, tI_zI]
    have hw := wayZ_lo b2 (dayP K1 s1) (q : Int)
    rw [q_242_98]; (try simp only [↓n_rd, ↓n_cI, li_0, li_1, li_2, li_5, li_12, li_60, li_98, lj_0, lj_1, lj_2, lj_5, lj_12, lj_60, zJ_add, zJ_sub, zJ_mul, zJ_neg, zJ_l2i, zI_add, zI_sub, zI_mul, zI_neg, ↓Option.bind_some]); simp (disch := (first | assumption | exact tI_rg _ | omega | exact uR_at | exact row_ne hF (by decide) | exact row_ne (row_ne hF (by decide)) (by decide) | exact SnS_18 | exact SnS_30 | exact LdS_44 | exact LdS_46)) only [q_242_0, q_242_29, q_242_119, q_242_142, q_242_162, ↓cc_228 hI, ↓cc_229 hI, eP, ↓h230, ↓n_rd, ↓n_cI, li_0, li_1, li_2, li_5, li_12, li_60, li_98, lj_0, lj_1, lj_2, lj_5, lj_12, lj_60, zJ_add, zJ_sub, zJ_mul, zJ_neg, zJ_l2i, tJ_zJ, zI_add, zI_sub, zI_mul, zI_neg, ↓Option.bind_some, ↓g12_5, ↓p12_19, ↓p12_5, zIt2, uR_at, uR_ne, uR_uR, uC_uC, uC_at, ↓reduceIte, decide_eq_true_eq, leT, leF, ltT, ltF, eqT, eqF, ne_eq, not_true_eq_false, not_false_eq_true, Bool.false_eq_true, tI_zI]
theorem ml_day {d : Nat} {E : EnQ} {F : Nat → Int → Int32} {G : Nat → Int → Int64} {K : Int → Int32} (hI : InvK K) (hF : F 218 = K) (hc : tI (F 217 18) = 0) (hst : stepsZ K < 1999000000) {s0 : Int32} {x : Int} (hx : -2147483648 ≤ x ∧ x ≤ 2147483647) (hd : 4 ≤ d) : ∃ z, callP MP d 242 [.ref 217, .int s0, .int (zI x)] (mk E F G) = some (Sum.inl (some (.int (zI (a_day K s0 x).2))), mk E (uR (uR F 217 (uC (uC (F 217) 5 (zI (a_day K s0 x).1)) 19 z)) 218 (s_day K s0 x)) G) := by
  have hK : ∀ {r}, uR (uR F 217 r) 218 K = uR F 217 r := fun {r} => by rw [← hF, ← (uR_ne (show (218 : Nat) ≠ 217 by decide) : uR F 217 r 218 = F 218), uR_self]
  have h19 : ∀ {c}, uC (uC (F 217) 5 c) 19 (F 217 19) = uC (F 217) 5 c := fun {c} => by
    have : (uC (F 217) 5 c) 19 = F 217 19 := uC_ne (by decide)
    rw [← this, uC_self]
  have b3 := hI.1.2.2.2.1
  by_cases c1 : 1 ≤ x ∧ x ≤ 60
  · by_cases c2 : 1 ≤ tI (K 3)
    · have ha : a_day K s0 x = (0, dayC s0 K x.toNat) := (if_pos c1).trans (if_pos c2)
      have hk : s_day K s0 x = (dayS s0 K x.toNat).2 := (if_pos c1).trans (if_pos c2)
      rw [ha, hk]
      refine ⟨(dayS s0 K x.toNat).1, ?_⟩
      show (_ : ResP) = some (Sum.inl (some (.int (zI (dayC s0 K x.toNat)))), mk E (uR (uR F 217 (uC (uC (F 217) 5 (zI 0)) 19 ((dayS s0 K x.toNat).1))) 218 ((dayS s0 K x.toNat).2)) G)
      refine into (D := 3) (by omega) hM_242 (rcv_mk rfl (by decide)) rfl fun d hd => ?_
      show runP MP d 242 (0, [some (.ref 217), some (.int s0), some (.int (zI x)), none, none, none, none, none, none], [], _) = _
      have hl : runP MP d 242 (51, [some (.ref 217), some (.int s0), some (.int (zI x)), some (.int (zI 0)), some (.int (zI 0)), none, none, none, none], [], mk E (uR (uR F 217 (uC (uC (F 217) 5 (zI 0)) 19 (s0))) 218 (K)) G) = some (Sum.inl (some (.int (zI (dayC s0 K x.toNat)))), mk E (uR (uR F 217 (uC (uC (F 217) 5 (zI 0)) 19 ((dayS s0 K x.toNat).1))) 218 ((dayS s0 K x.toNat).2)) G) := by
        refine loopS (σ := Option Value × Option Value × Option Value × Option Value) (Post := fun r => r = some (Sum.inl (some (.int (zI (dayC s0 K x.toNat)))), mk E (uR (uR F 217 (uC (uC (F 217) 5 (zI 0)) 19 ((dayS s0 K x.toNat).1))) 218 ((dayS s0 K x.toNat).2)) G))
          (fun j s => runP MP d 242 (51, [some (.ref 217), some (.int s0), some (.int (zI x)), some (.int (zI (dayC s0 K j))), some (.int (zI (j : Int))), s.1, s.2.1, s.2.2.1, s.2.2.2], [], mk E (uR (uR F 217 (uC (uC (F 217) 5 (zI 0)) 19 ((dayS s0 K j).1))) 218 ((dayS s0 K j).2)) G))
          (fun _ _ => True) x.toNat (none, none, none, none) trivial (fun s hI2 => ?_) (fun j s hj hI2 => ?_)
        · show runP MP d 242 _ = _
          rw [q_242_51]; (try simp only [↓n_rd, ↓n_cI, li_0, li_1, li_2, li_5, li_12, li_60, li_98, lj_0, lj_1, lj_2, lj_5, lj_12, lj_60, zJ_add, zJ_sub, zJ_mul, zJ_neg, zJ_l2i, zI_add, zI_sub, zI_mul, zI_neg, ↓Option.bind_some]); simp (disch := (first | assumption | exact tI_rg _ | omega | exact uR_at | exact row_ne hF (by decide) | exact row_ne (row_ne hF (by decide)) (by decide) | exact SnS_18 | exact SnS_30 | exact LdS_44 | exact LdS_46)) only [q_242_0, q_242_29, q_242_119, q_242_142, q_242_162, ↓n_rd, ↓n_cI, li_0, li_1, li_2, li_5, li_12, li_60, li_98, lj_0, lj_1, lj_2, lj_5, lj_12, lj_60, zJ_add, zJ_sub, zJ_mul, zJ_neg, zJ_l2i, tJ_zJ, zI_add, zI_sub, zI_mul, zI_neg, ↓Option.bind_some, ↓g12_5, ↓p12_19, ↓p12_5, zIt2, uR_at, uR_ne, uR_uR, uC_uC, uC_at, ↓reduceIte, decide_eq_true_eq, leT, leF, ltT, ltF, eqT, eqF, ne_eq, not_true_eq_false, not_false_eq_true, Bool.false_eq_true, tI_zI]
        · right
          obtain ⟨i1, i2, i3⟩ := dayS_inv hI (by omega) c2 s0 j (by omega)
          have hcn := cntN_rg (dayN s0 K) j
          obtain ⟨y5, y6, y7, y8, hy⟩ := day_step (d := d) (E := E) (F := F) (G := G) i1 hc (s1 := (dayS s0 K j).1) (s0 := s0) (x := x) (c := dayC s0 K j) (j := j) (by omega) (by rw [i3 3 (by omega)]; exact c2) c1 (by omega) (by unfold dayC; omega) (z5 := s.1) (z6 := s.2.1) (z7 := s.2.2.1) (z8 := s.2.2.2) (by omega)
          refine ⟨(y5, y6, y7, y8), trivial, hy.trans ?_⟩
          have hcc : dayC s0 K (j + 1) = dayC s0 K j + if nearZ (dayS s0 K j).2 (dayP (dayS s0 K j).2 (dayS s0 K j).1) ≠ 0 then 1 else 0 := by
            show cntN (dayN s0 K) j + (if dayN s0 K j = true then 1 else 0) = _
            have hN : dayN s0 K j = decide (nearZ (dayS s0 K j).2 (dayP (dayS s0 K j).2 (dayS s0 K j).1) ≠ 0) := rfl
            by_cases g : nearZ (dayS s0 K j).2 (dayP (dayS s0 K j).2 (dayS s0 K j).1) ≠ 0
            · rw [if_pos g, if_pos (hN.trans (decide_eq_true g))]; rfl
            · rw [if_neg g, if_neg (by rw [hN, decide_eq_true_eq]; exact g)]; rfl
          show runP MP d 242 _ = runP MP d 242 _
          rw [hcc]; rfl
      have h0 : mk E (uR (uR F 217 (uC (uC (F 217) 5 (zI 0)) 19 (s0))) 218 (K)) G = mk E (uR F 217 (uC (uC (F 217) 5 (zI 0)) 19 s0)) G := by rw [hK]
      rw [h0] at hl
      rw [q_242_0]; (try simp only [↓n_rd, ↓n_cI, li_0, li_1, li_2, li_5, li_12, li_60, li_98, lj_0, lj_1, lj_2, lj_5, lj_12, lj_60, zJ_add, zJ_sub, zJ_mul, zJ_neg, zJ_l2i, zI_add, zI_sub, zI_mul, zI_neg, ↓Option.bind_some]); simp (disch := (first | assumption | exact tI_rg _ | omega | exact uR_at | exact row_ne hF (by decide) | exact row_ne (row_ne hF (by decide)) (by decide) | exact SnS_18 | exact SnS_30 | exact LdS_44 | exact LdS_46)) only [q_242_29, q_242_119, q_242_142, q_242_162, ↓cc_188t, ↓cc_220 hI, zI_i2l, ↓hl, ↓n_rd, ↓n_cI, li_0, li_1, li_2, li_5, li_12, li_60, li_98, lj_0, lj_1, lj_2, lj_5, lj_12, lj_60, zJ_add, zJ_sub, zJ_mul, zJ_neg, zJ_l2i, tJ_zJ, zI_add, zI_sub, zI_mul, zI_neg, ↓Option.bind_some, ↓g12_5, ↓p12_19, ↓p12_5, zIt2, uR_at, uR_ne, uR_uR, uC_uC, uC_at, ↓reduceIte, decide_eq_true_eq, leT, leF, ltT, ltF, eqT, eqF, ne_eq, not_true_eq_false, not_false_eq_true, Bool.false_eq_true, tI_zI]
    · have ha : a_day K s0 x = (2, 0) := (if_pos c1).trans (if_neg c2)
      have hk : s_day K s0 x = K := (if_pos c1).trans (if_neg c2)
      refine ⟨F 217 19, ?_⟩
      rw [ha, hk, hK, h19]
      show (_ : ResP) = some (Sum.inl (some (.int (zI 0))), mk E (uR F 217 (uC (F 217) 5 (zI 2))) G)
      have g : tI (K 3) = 0 := by omega
      refine into (D := 3) (by omega) hM_242 (rcv_mk rfl (by decide)) rfl fun d hd => ?_
      show runP MP d 242 (0, [some (.ref 217), some (.int s0), some (.int (zI x)), none, none, none, none, none, none], [], _) = _
      rw [q_242_0]; (try simp only [↓n_rd, ↓n_cI, li_0, li_1, li_2, li_5, li_12, li_60, li_98, lj_0, lj_1, lj_2, lj_5, lj_12, lj_60, zJ_add, zJ_sub, zJ_mul, zJ_neg, zJ_l2i, zI_add, zI_sub, zI_mul, zI_neg, ↓Option.bind_some]); simp (disch := (first | assumption | exact tI_rg _ | omega | exact uR_at | exact row_ne hF (by decide) | exact row_ne (row_ne hF (by decide)) (by decide) | exact SnS_18 | exact SnS_30 | exact LdS_44 | exact LdS_46)) only [q_242_29, q_242_119, q_242_142, q_242_162, ↓cc_188t, ↓cc_220 hI, g, zI_i2l, ↓n_rd, ↓n_cI, li_0, li_1, li_2, li_5, li_12, li_60, li_98, lj_0, lj_1, lj_2, lj_5, lj_12, lj_60, zJ_add, zJ_sub, zJ_mul, zJ_neg, zJ_l2i, tJ_zJ, zI_add, zI_sub, zI_mul, zI_neg, ↓Option.bind_some, ↓g12_5, ↓p12_19, ↓p12_5, zIt2, uR_at, uR_ne, uR_uR, uC_uC, uC_at, ↓reduceIte, decide_eq_true_eq, leT, leF, ltT, ltF, eqT, eqF, ne_eq, not_true_eq_false, not_false_eq_true, Bool.false_eq_true, tI_zI]
  · have ha : a_day K s0 x = (1, 0) := if_neg c1
    have hk : s_day K s0 x = K := if_neg c1
    refine ⟨F 217 19, ?_⟩
    rw [ha, hk, hK, h19]
    show (_ : ResP) = some (Sum.inl (some (.int (zI 0))), mk E (uR F 217 (uC (F 217) 5 (zI 1))) G)
    refine into (D := 3) (by omega) hM_242 (rcv_mk rfl (by decide)) rfl fun d hd => ?_
    show runP MP d 242 (0, [some (.ref 217), some (.int s0), some (.int (zI x)), none, none, none, none, none, none], [], _) = _
    rw [q_242_0]; (try simp only [↓n_rd, ↓n_cI, li_0, li_1, li_2, li_5, li_12, li_60, li_98, lj_0, lj_1, lj_2, lj_5, lj_12, lj_60, zJ_add, zJ_sub, zJ_mul, zJ_neg, zJ_l2i, zI_add, zI_sub, zI_mul, zI_neg, ↓Option.bind_some]); simp (disch := (first | assumption | exact tI_rg _ | omega | exact uR_at | exact row_ne hF (by decide) | exact row_ne (row_ne hF (by decide)) (by decide) | exact SnS_18 | exact SnS_30 | exact LdS_44 | exact LdS_46)) only [q_242_29, q_242_119, q_242_142, q_242_162, ↓cc_188f, ↓cc_189, zI_i2l, ↓n_rd, ↓n_cI, li_0, li_1, li_2, li_5, li_12, li_60, li_98, lj_0, lj_1, lj_2, lj_5, lj_12, lj_60, zJ_add, zJ_sub, zJ_mul, zJ_neg, zJ_l2i, tJ_zJ, zI_add, zI_sub, zI_mul, zI_neg, ↓Option.bind_some, ↓g12_5, ↓p12_19, ↓p12_5, zIt2, uR_at, uR_ne, uR_uR, uC_uC, uC_at, ↓reduceIte, decide_eq_true_eq, leT, leF, ltT, ltF, eqT, eqF, ne_eq, not_true_eq_false, not_false_eq_true, Bool.false_eq_true, tI_zI]
end S94k
