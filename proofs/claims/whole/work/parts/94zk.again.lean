/-! CLASS: again -/
section S94zk
set_option linter.unusedVariables false
set_option linter.unusedSimpArgs false
theorem pc_rg {K : Int → Int32} (hI : InvK K) (i : Int) : -2147483648 ≤ pcC K i ∧ pcC K i ≤ 2147483647 := by
  have b6 := hI.1.2.2.2.2.2.2.1
  have b2 := hI.1.2.2.1
  have b3 := hI.1.2.2.2.1
  unfold pcC
  by_cases c0 : i = 0
  · rw [if_pos c0]
    unfold rsZ
    by_cases g : tI (K 166) = 0
    · rw [if_pos g]; omega
    · rw [if_neg g]
      have h1 := Int.emod_nonneg (stepsZ K) g
      have h2 := Int.emod_lt_of_pos (stepsZ K) (show 0 < tI (K 166) by omega)
      omega
  · rw [if_neg c0]
    by_cases c1 : i = 1
    · rw [if_pos c1]; exact tI_rg _
    · rw [if_neg c1]
      by_cases c2 : i < 10
      · rw [if_pos c2]
        split
        · exact tI_rg _
        · exact tI_rg _
      · rw [if_neg c2]
        by_cases c3 : i - 10 < tI (K 5)
        · rw [if_pos c3]
          have := pr_in hI (i := i - 10) (by omega) c3
          omega
        · rw [if_neg c3]; omega
theorem ct_101 {d : Nat} {E : EnQ} {F : Nat → Int → Int32} {G : Nat → Int → Int64} {a b : Nat} {K : Int → Int32} (hO : SnO E F a K) (hsb : shx E b = (2, 0, 70)) (hb1 : ¬ (a ≤ b ∧ b ≤ a + 11)) (hb2 : ¬ (rfQ E a 0 ≤ b ∧ b ≤ rfQ E a 0 + 5)) (hst : stepsZ K < 1999999000) (hd : 3 ≤ d) : ∃ r, callP MP d 101 [.ref a, .ref b] (mk E F G) = some (Sum.inl none, mk E (uR F b r) G) ∧ ∀ i : Nat, i < 70 → r (i : Int) = zI (pcC K i) := by
  have hI := hO.2.2.2.2
  have hs := hO.1.1
  have hS := hO.1
  have hs2 := hO.2.1.1
  have f6 : tI (F (rfQ E a 0) 6) = tI (K 166) := by rw [hO.2.2.1.1.2.2.2.2.2.1]
  have f3 : tI (F a 3) = stepsZ K := hO.2.2.2.1.1.2.2
  have f2 : tI (F a 2) = tI (K 5) := bO hO.2.2.2.1
  have hsn := steps_nn hI
  obtain ⟨b0, b1, b2, b3, b4, b5, b6, b7, b8, b9⟩ := hI.1
  obtain ⟨e, rfl⟩ : ∃ e, d = e + 1 := ⟨d - 1, by omega⟩
  have hin : callP MP (e + 1) 101 [.ref a, .ref b] (mk E F G) = runP MP e 101 (0, [some (.ref a), some (.ref b), none], [], mk E F G) := into_eq (by omega) hM_101 rfl rfl
  have hOr : ∀ r, SnO E (uR F b r) a K := fun r => SnO_same hO (fun q hq => uR_ne (fun z => by rw [z] at hq; rcases hq with q1 | q1; exact hb1 q1; exact hb2 q1))
  have hst2 : ∀ {F' : Nat → Int → Int32} {i : Int} {x : Int32} {f : HeapP → ResP}, 0 ≤ i ∧ i < 70 → (astI (mk E F' G) 0 b (zI i) x).bind f = f (mk E (uR F' b (uC (F' b) i x)) G) := fun {F' i x f} hi => asI_b (n := 70) hsb hi (by decide)
  have hlen : ∀ {F' : Nat → Int → Int32} {f : Int → ResP}, (lenT (mk E F' G) b).bind f = f 70 := fun {F' f} => len_I (n := 70) hsb (by decide)
  have h0 : ∀ {kk : HeapP → ResP} {kx : Nat → HeapP → ResP}, cV (callP MP e 0 [.ref b, .int (zI 0)] (mk E F G)) kk kx = kk (mk E (uR F b (zrI (F b) 70 0)) G) := fun {kk kx} => cc_0 (n := 70) hsb (by decide) (by omega)
  -- the first two
  have hA : runP MP e 101 (0, [some (.ref a), some (.ref b), none], [], mk E F G) = runP MP e 101 (43, [some (.ref a), some (.ref b), some (.int (zI 0))], [], mk E (uR F b (uC (uC (zrI (F b) 70 0) 0 (zI (rsZ K))) 1 (zI (tI (K 5))))) G) := by
    have o := hOr (zrI (F b) 70 0)
    have e6 : tI (uR F b (zrI (F b) 70 0) (rfQ E a 0) 6) = tI (K 166) := by rw [o.2.2.1.1.2.2.2.2.2.1]
    have e3 : tI (uR F b (zrI (F b) 70 0) a 3) = stepsZ K := o.2.2.2.1.1.2.2
    have e22 : ∀ r, tI (uR F b r a 2) = tI (K 5) := fun r => by rw [(hOr r).2.2.2.1.1.2.1]
    unfold rsZ
    by_cases g : tI (K 166) = 0
    · rw [if_pos g]
      rw [q_101_0]; (try simp only [↓n_rd, ↓n_al, ↓n_len, ↓n_irem, ↓n_cI, li_0, li_1, li_2, li_3, li_4, li_5, li_6, li_7, li_9, li_10, li_64, li_70, li_124, zI_add, zI_sub, zI_mul, zI_neg, ↓Option.bind_some]); simp (disch := (first | assumption | exact tI_rg _ | omega | exact uR_at | exact row_ne hF (by decide) | exact row_ne (row_ne hF (by decide)) (by decide) | exact SnS_18 | exact SnS_30 | exact LdS_44 | exact LdS_46)) only [q_101_33, q_101_124, ↓h0, f6, f2, g, ↓hst2, ↓n_rd, ↓n_al, ↓n_len, ↓n_irem, ↓n_cI, ↓b_irem, li_0, li_1, li_2, li_3, li_4, li_5, li_6, li_7, li_9, li_10, li_64, li_70, li_124, zI_add, zI_sub, zI_mul, zI_neg, ↓Option.bind_some, ↓g2_6, ↓g5_0, ↓g5_2, ↓g5_3, ↓g5_7, ↓SnS_l9, ↓SnS_s9, ↓g5_9, ↓SnS_l11, ↓SnS_s11, zIt2, uR_at, uR_ne, uR_uR, uC_uC, uC_at, ↓reduceIte, decide_eq_true_eq, leT, leF, ltT, ltF, eqT, eqF, ne_eq, not_true_eq_false, not_false_eq_true, Bool.false_eq_true, tI_zI]
    · rw [if_neg g]
      rw [q_101_0]; (try simp only [↓n_rd, ↓n_al, ↓n_len, ↓n_irem, ↓n_cI, li_0, li_1, li_2, li_3, li_4, li_5, li_6, li_7, li_9, li_10, li_64, li_70, li_124, zI_add, zI_sub, zI_mul, zI_neg, ↓Option.bind_some]); simp (disch := (first | assumption | exact tI_rg _ | omega | exact uR_at | exact row_ne hF (by decide) | exact row_ne (row_ne hF (by decide)) (by decide) | exact SnS_18 | exact SnS_30 | exact LdS_44 | exact LdS_46)) only [q_101_33, q_101_124, ↓h0, f6, f3, f2, ↓hst2, ↓n_rd, ↓n_al, ↓n_len, ↓n_irem, ↓n_cI, ↓b_irem, li_0, li_1, li_2, li_3, li_4, li_5, li_6, li_7, li_9, li_10, li_64, li_70, li_124, zI_add, zI_sub, zI_mul, zI_neg, ↓Option.bind_some, ↓g2_6, ↓g5_0, ↓g5_2, ↓g5_3, ↓g5_7, ↓SnS_l9, ↓SnS_s9, ↓g5_9, ↓SnS_l11, ↓SnS_s11, zIt2, uR_at, uR_ne, uR_uR, uC_uC, uC_at, ↓reduceIte, decide_eq_true_eq, leT, leF, ltT, ltF, eqT, eqF, ne_eq, not_true_eq_false, not_false_eq_true, Bool.false_eq_true, tI_zI]
  have hB : ∃ r, runP MP e 101 (43, [some (.ref a), some (.ref b), some (.int (zI 0))], [], mk E (uR F b (uC (uC (zrI (F b) 70 0) 0 (zI (rsZ K))) 1 (zI (tI (K 5))))) G) = runP MP e 101 (82, [some (.ref a), some (.ref b), some (.int (zI 0))], [], mk E (uR F b r) G) ∧ ∀ i : Nat, i < 70 → r (i : Int) = zI (if i < 10 then pcC K i else 0) := by
    refine loopS (σ := Int → Int32) (Post := fun z => ∃ r, z = runP MP e 101 (82, [some (.ref a), some (.ref b), some (.int (zI 0))], [], mk E (uR F b r) G) ∧ ∀ i : Nat, i < 70 → r (i : Int) = zI (if i < 10 then pcC K i else 0))
      (fun j r => runP MP e 101 (43, [some (.ref a), some (.ref b), some (.int (zI (j : Int)))], [], mk E (uR F b r) G))
      (fun j r => ∀ i : Nat, i < 70 → r (i : Int) = zI (if i < 2 + 2 * j then pcC K i else 0)) 4 (uC (uC (zrI (F b) 70 0) 0 (zI (rsZ K))) 1 (zI (tI (K 5)))) (fun i hi => ?_) (fun r hr => ⟨r, ?_, hr⟩) (fun j r hj hr => ?_)
    · by_cases c0 : i = 0
      · rw [c0, if_pos (by omega)]; rw [uC_ne (by decide)]; exact uC_at
      · by_cases c1 : i = 1
        · rw [c1, if_pos (by omega)]; exact uC_at
        · rw [uC_ne (by omega), uC_ne (by omega), if_neg (by omega)]; exact if_pos (by omega)
    · show runP MP e 101 (43, [some (.ref a), some (.ref b), some (.int (zI 4))], [], mk E (uR F b r) G) = runP MP e 101 _
      rw [q_101_43]; (try simp only [↓n_rd, ↓n_al, ↓n_len, ↓n_irem, ↓n_cI, li_0, li_1, li_2, li_3, li_4, li_5, li_6, li_7, li_9, li_10, li_64, li_70, li_124, zI_add, zI_sub, zI_mul, zI_neg, ↓Option.bind_some]); simp (disch := (first | assumption | exact tI_rg _ | omega | exact uR_at | exact row_ne hF (by decide) | exact row_ne (row_ne hF (by decide)) (by decide) | exact SnS_18 | exact SnS_30 | exact LdS_44 | exact LdS_46)) only [q_101_0, q_101_33, q_101_124, ↓n_rd, ↓n_al, ↓n_len, ↓n_irem, ↓n_cI, ↓b_irem, li_0, li_1, li_2, li_3, li_4, li_5, li_6, li_7, li_9, li_10, li_64, li_70, li_124, zI_add, zI_sub, zI_mul, zI_neg, ↓Option.bind_some, ↓g2_6, ↓g5_0, ↓g5_2, ↓g5_3, ↓g5_7, ↓SnS_l9, ↓SnS_s9, ↓g5_9, ↓SnS_l11, ↓SnS_s11, zIt2, uR_at, uR_ne, uR_uR, uC_uC, uC_at, ↓reduceIte, decide_eq_true_eq, leT, leF, ltT, ltF, eqT, eqF, ne_eq, not_true_eq_false, not_false_eq_true, Bool.false_eq_true, tI_zI]
    · right
      have o := hOr r
      have e7 : uR F b r (a + 9) (j : Int) = K (38 + 2 * (j : Int)) := (o.2.2.2.1.2.2.2.2 (j : Int) (by omega) (by omega)).1
      have e9 : ∀ r, uR F b r (a + 11) (j : Int) = K (206 + (j : Int)) := fun r => ((hOr r).2.2.2.1.2.2.2.2 (j : Int) (by omega) (by omega)).2.2
      have f9 : F (a + 9) (j : Int) = K (38 + 2 * (j : Int)) := (hO.2.2.2.1.2.2.2.2 (j : Int) (by omega) (by omega)).1
      have f11 : F (a + 11) (j : Int) = K (206 + (j : Int)) := (hO.2.2.2.1.2.2.2.2 (j : Int) (by omega) (by omega)).2.2
      have hp := pcC_w (K := K) (x := (j : Int)) (by omega)
      refine ⟨uC (uC r (2 + 2 * (j : Int)) (zI (pcC K (2 + 2 * (j : Int))))) (3 + 2 * (j : Int)) (zI (pcC K (3 + 2 * (j : Int)))), fun i hi => ?_, ?_⟩
      · by_cases c0 : i = 2 + 2 * j
        · rw [c0, uC_ne (by omega), uC_eq (by omega), if_pos (by omega)]; exact congrArg (fun z => zI (pcC K z)) (by omega)
        · by_cases c1 : i = 3 + 2 * j
          · rw [c1, uC_eq (by omega), if_pos (by omega)]; exact congrArg (fun z => zI (pcC K z)) (by omega)
          · rw [uC_ne (by omega), uC_ne (by omega), hr i hi]
            by_cases g : i < 2 + 2 * j
            · rw [if_pos g, if_pos (by omega)]
            · rw [if_neg g, if_neg (by omega)]
      · show runP MP e 101 _ = runP MP e 101 _
        rw [hp.1, hp.2, nsucc]
        rw [q_101_43]; (try simp only [↓n_rd, ↓n_al, ↓n_len, ↓n_irem, ↓n_cI, li_0, li_1, li_2, li_3, li_4, li_5, li_6, li_7, li_9, li_10, li_64, li_70, li_124, zI_add, zI_sub, zI_mul, zI_neg, ↓Option.bind_some]); simp (disch := (first | assumption | exact tI_rg _ | omega | exact uR_at | exact row_ne hF (by decide) | exact row_ne (row_ne hF (by decide)) (by decide) | exact SnS_18 | exact SnS_30 | exact LdS_44 | exact LdS_46)) only [q_101_0, q_101_33, q_101_124, f9, f11, ↓hst2, ↓n_rd, ↓n_al, ↓n_len, ↓n_irem, ↓n_cI, ↓b_irem, li_0, li_1, li_2, li_3, li_4, li_5, li_6, li_7, li_9, li_10, li_64, li_70, li_124, zI_add, zI_sub, zI_mul, zI_neg, ↓Option.bind_some, ↓g2_6, ↓g5_0, ↓g5_2, ↓g5_3, ↓g5_7, ↓SnS_l9, ↓SnS_s9, ↓g5_9, ↓SnS_l11, ↓SnS_s11, zIt2, uR_at, uR_ne, uR_uR, uC_uC, uC_at, ↓reduceIte, decide_eq_true_eq, leT, leF, ltT, ltF, eqT, eqF, ne_eq, not_true_eq_false, not_false_eq_true, Bool.false_eq_true, tI_zI]
  obtain ⟨r1, hr1, hq1⟩ := hB
  rw [hin, hA, hr1]
  refine loopS (σ := Int → Int32) (Post := fun z => ∃ r, z = some (Sum.inl none, mk E (uR F b r) G) ∧ ∀ i : Nat, i < 70 → r (i : Int) = zI (pcC K i))
    (fun j r => runP MP e 101 (82, [some (.ref a), some (.ref b), some (.int (zI (j : Int)))], [], mk E (uR F b r) G))
    (fun j r => ∀ i : Nat, i < 70 → r (i : Int) = zI (if i < 10 + j then pcC K i else 0)) (tI (K 5)).toNat r1 hq1 (fun r hr => ⟨r, ?_, fun i hi => ?_⟩) (fun j r hj hr => ?_)
  · show runP MP e 101 _ = _
    have e2 := bO (hOr r).2.2.2.1
    rw [q_101_82]; (try simp only [↓n_rd, ↓n_al, ↓n_len, ↓n_irem, ↓n_cI, li_0, li_1, li_2, li_3, li_4, li_5, li_6, li_7, li_9, li_10, li_64, li_70, li_124, zI_add, zI_sub, zI_mul, zI_neg, ↓Option.bind_some]); simp (disch := (first | assumption | exact tI_rg _ | omega | exact uR_at | exact row_ne hF (by decide) | exact row_ne (row_ne hF (by decide)) (by decide) | exact SnS_18 | exact SnS_30 | exact LdS_44 | exact LdS_46)) only [q_101_0, q_101_33, q_101_124, f2, ↓n_rd, ↓n_al, ↓n_len, ↓n_irem, ↓n_cI, ↓b_irem, li_0, li_1, li_2, li_3, li_4, li_5, li_6, li_7, li_9, li_10, li_64, li_70, li_124, zI_add, zI_sub, zI_mul, zI_neg, ↓Option.bind_some, ↓g2_6, ↓g5_0, ↓g5_2, ↓g5_3, ↓g5_7, ↓SnS_l9, ↓SnS_s9, ↓g5_9, ↓SnS_l11, ↓SnS_s11, zIt2, uR_at, uR_ne, uR_uR, uC_uC, uC_at, ↓reduceIte, decide_eq_true_eq, leT, leF, ltT, ltF, eqT, eqF, ne_eq, not_true_eq_false, not_false_eq_true, Bool.false_eq_true, tI_zI]
  · rw [hr i hi]
    by_cases g : i < 10 + (tI (K 5)).toNat
    · rw [if_pos g]
    · rw [if_neg g]
      obtain ⟨k, rfl⟩ : ∃ k : Nat, i = 10 + k := ⟨i - 10, by omega⟩
      rw [show ((10 + k : Nat) : Int) = 10 + (k : Int) by omega, pcC_k (by omega), if_neg (by omega)]
  · right
    have o := hOr r
    have e2 := bO o.2.2.2.1
    have hpr := pr_in hI (i := (j : Int)) (by omega) (by omega)
    have hp := pcC_k (K := K) (k := (j : Int)) (by omega)
    rw [if_pos (by omega)] at hp
    refine ⟨uC r (10 + (j : Int)) (zI (pcC K (10 + (j : Int)))), fun i hi => ?_, ?_⟩
    · by_cases c0 : i = 10 + j
      · rw [c0, uC_eq (by omega), if_pos (by omega)]; exact congrArg (fun z => zI (pcC K z)) (by omega)
      · rw [uC_ne (by omega), hr i hi]
        by_cases g : i < 10 + j
        · rw [if_pos g, if_pos (by omega)]
        · rw [if_neg g, if_neg (by omega)]
    · show runP MP e 101 _ = runP MP e 101 _
      rw [hp, nsucc]
      rw [q_101_82]; (try simp only [↓n_rd, ↓n_al, ↓n_len, ↓n_irem, ↓n_cI, li_0, li_1, li_2, li_3, li_4, li_5, li_6, li_7, li_9, li_10, li_64, li_70, li_124, zI_add, zI_sub, zI_mul, zI_neg, ↓Option.bind_some]); simp (disch := (first | assumption | exact tI_rg _ | omega | exact uR_at | exact row_ne hF (by decide) | exact row_ne (row_ne hF (by decide)) (by decide) | exact SnS_18 | exact SnS_30 | exact LdS_44 | exact LdS_46)) only [q_101_0, q_101_33, q_101_124, f2, ↓hlen, ↓cc_64 o, ↓cc_70 o, ↓hst2, ↓n_rd, ↓n_al, ↓n_len, ↓n_irem, ↓n_cI, ↓b_irem, li_0, li_1, li_2, li_3, li_4, li_5, li_6, li_7, li_9, li_10, li_64, li_70, li_124, zI_add, zI_sub, zI_mul, zI_neg, ↓Option.bind_some, ↓g2_6, ↓g5_0, ↓g5_2, ↓g5_3, ↓g5_7, ↓SnS_l9, ↓SnS_s9, ↓g5_9, ↓SnS_l11, ↓SnS_s11, zIt2, uR_at, uR_ne, uR_uR, uC_uC, uC_at, ↓reduceIte, decide_eq_true_eq, leT, leF, ltT, ltF, eqT, eqF, ne_eq, not_true_eq_false, not_false_eq_true, Bool.false_eq_true, tI_zI]
theorem ct_102 {d : Nat} {E : EnQ} {F : Nat → Int → Int32} {G : Nat → Int → Int64} {p q : Nat} (hp : shx E p = (2, 0, 70)) (hq : shx E q = (2, 0, 70)) (hd : 1 ≤ d) : callP MP d 102 [.ref p, .ref q] (mk E F G) = some (Sum.inl (some (.int (zI (if fndN (fun i : Nat => decide (tI (F p i) ≠ tI (F q i))) 70 0 = -1 then 1 else 0)))), mk E F G) := by

  refine into (D := 0) (by omega) hM_102 rfl rfl fun d hd => ?_
  show runP MP d 102 (0, [some (.ref p), some (.ref q), none], [], _) = _
  have hl1 : ∀ {f : Int → ResP}, (lenT (mk E F G) p).bind f = f 70 := fun {f} => len_I (n := 70) hp (by decide)
  have hl2 : ∀ {f : Int → ResP}, (lenT (mk E F G) q).bind f = f 70 := fun {f} => len_I (n := 70) hq (by decide)
  have ha1 : ∀ {i : Int} {f : Int → ResP}, 0 ≤ i ∧ i < 70 → (alT (mk E F G) 0 p (zI i)).bind f = f (tI (F p i)) := fun {i f} hi => alT_b (n := 70) hp hi (by decide)
  have ha2 : ∀ {i : Int} {f : Int → ResP}, 0 ≤ i ∧ i < 70 → (alT (mk E F G) 0 q (zI i)).bind f = f (tI (F q i)) := fun {i f} hi => alT_b (n := 70) hq hi (by decide)
  rw [q_102_0, li_0]
  refine loopS (σ := Unit) (Post := fun r => r = some (Sum.inl (some (.int (zI (if fndN (fun i : Nat => decide (tI (F p i) ≠ tI (F q i))) 70 0 = -1 then 1 else 0)))), mk E F G))
    (fun j _ => runP MP d 102 (2, [some (.ref p), some (.ref q), some (.int (zI (j : Int)))], [], mk E F G))
    (fun j _ => ∀ i : Nat, i < j → decide (tI (F p i) ≠ tI (F q i)) = false) 70 () (fun i hi => by omega) (fun s hs => ?_) (fun j s hj hs => ?_)
  · show runP MP d 102 (2, [some (.ref p), some (.ref q), some (.int (zI 70))], [], mk E F G) = _
    rw [if_pos (fndN_none (fun i _ hi => hs i (by omega)))]
    rw [q_102_2]; (try simp only [↓n_al, ↓n_len, li_0, li_1, li_2, li_31, zI_add, zI_sub, zI_mul, zI_neg, ↓Option.bind_some]); simp (disch := (first | assumption | exact tI_rg _ | omega | exact uR_at | exact row_ne hF (by decide) | exact row_ne (row_ne hF (by decide)) (by decide) | exact SnS_18 | exact SnS_30 | exact LdS_44 | exact LdS_46)) only [q_102_0, q_102_31, ↓hl1, ↓n_al, ↓n_len, retZ_z, li_0, li_1, li_2, li_31, zI_add, zI_sub, zI_mul, zI_neg, ↓Option.bind_some, zIt2, uR_at, uR_ne, uR_uR, uC_uC, uC_at, ↓reduceIte, decide_eq_true_eq, leT, leF, ltT, ltF, eqT, eqF, ne_eq, not_true_eq_false, not_false_eq_true, Bool.false_eq_true, tI_zI]
  · have r1 := tI_rg (F p j)
    have r2 := tI_rg (F q j)
    by_cases g : tI (F p j) = tI (F q j)
    · right
      refine ⟨(), fun i hi => ?_, ?_⟩
      · by_cases z : i = j
        · rw [z]; exact decide_eq_false (fun y => y g)
        · exact hs i (by omega)
      · show runP MP d 102 _ = runP MP d 102 _
        rw [nsucc]
        rw [q_102_2]; (try simp only [↓n_al, ↓n_len, li_0, li_1, li_2, li_31, zI_add, zI_sub, zI_mul, zI_neg, ↓Option.bind_some]); simp (disch := (first | assumption | exact tI_rg _ | omega | exact uR_at | exact row_ne hF (by decide) | exact row_ne (row_ne hF (by decide)) (by decide) | exact SnS_18 | exact SnS_30 | exact LdS_44 | exact LdS_46)) only [q_102_0, q_102_31, ↓hl1, ↓hl2, ↓ha1, ↓ha2, ↓n_al, ↓n_len, retZ_z, li_0, li_1, li_2, li_31, zI_add, zI_sub, zI_mul, zI_neg, ↓Option.bind_some, zIt2, uR_at, uR_ne, uR_uR, uC_uC, uC_at, ↓reduceIte, decide_eq_true_eq, leT, leF, ltT, ltF, eqT, eqF, ne_eq, not_true_eq_false, not_false_eq_true, Bool.false_eq_true, tI_zI]
    · left
      show runP MP d 102 _ = _
      rw [if_neg (fnd_some hj (decide_eq_true g))]
      rw [q_102_2]; (try simp only [↓n_al, ↓n_len, li_0, li_1, li_2, li_31, zI_add, zI_sub, zI_mul, zI_neg, ↓Option.bind_some]); simp (disch := (first | assumption | exact tI_rg _ | omega | exact uR_at | exact row_ne hF (by decide) | exact row_ne (row_ne hF (by decide)) (by decide) | exact SnS_18 | exact SnS_30 | exact LdS_44 | exact LdS_46)) only [q_102_0, q_102_31, ↓hl1, ↓hl2, ↓ha1, ↓ha2, ↓n_al, ↓n_len, retZ_z, li_0, li_1, li_2, li_31, zI_add, zI_sub, zI_mul, zI_neg, ↓Option.bind_some, zIt2, uR_at, uR_ne, uR_uR, uC_uC, uC_at, ↓reduceIte, decide_eq_true_eq, leT, leF, ltT, ltF, eqT, eqF, ne_eq, not_true_eq_false, not_false_eq_true, Bool.false_eq_true, tI_zI]
theorem cc_102 {d : Nat} {E : EnQ} {F : Nat → Int → Int32} {G : Nat → Int → Int64} {kk : Int → HeapP → ResP} {kx : Nat → HeapP → ResP} {p q : Nat} (hp : shx E p = (2, 0, 70)) (hq : shx E q = (2, 0, 70)) (hd : 1 ≤ d) : cT (callP MP d 102 [.ref p, .ref q] (mk E F G)) kk kx = kk (if fndN (fun i : Nat => decide (tI (F p i) ≠ tI (F q i))) 70 0 = -1 then 1 else 0) (mk E F G) := cT_ret (by apply ct_102 <;> assumption) (by split <;> omega)
theorem ct_100 {d : Nat} {E : EnQ} {F : Nat → Int → Int32} {G : Nat → Int → Int64} {K : Int → Int32} (hO : SnO E F 30 K) (hD : SepP E 30) (hL : ∀ i : Nat, i < 121 → E.2.2.2 49 (i : Int) = 50 + i) (hst : stepsZ K < 1999000000) (hd : 6 ≤ d) : ∃ F1, callP MP d 100 [.ref 48, .ref 30] (mk E F G) = some (Sum.inl (some (.int (zI (if agK K = -1 then 0 else 1)))), mk E F1 G) ∧ KeepD E F G E F1 G ∧ (agK K ≠ -1 → F1 48 1 = zI (agI K (agK K).toNat) ∧ F1 48 2 = zI (agK K - agI K (agK K).toNat)) := by
  have hI := hO.2.2.2.2
  have hDp := hD.2
  obtain ⟨e, rfl⟩ : ∃ e, d = e + 1 := ⟨d - 1, by omega⟩
  have hin : callP MP (e + 1) 100 [.ref 48, .ref 30] (mk E F G) = runP MP e 100 (0, [some (.ref 48), some (.ref 30), none, none], [], mk E F G) := into_eq (by omega) hM_100 (rcv_mk rfl (by decide)) rfl
  have hdR : ∀ {F' : Nat → Int → Int32} {kn : ResP} {ka : Nat → ResP} {g : Nat}, g < 121 → dR (aldR (mk E F' G) 6 49 (zI (g : Int))) kn ka = ka (50 + g) := fun {F' kn ka g} hg => by
    have e := hL g hg
    rw [alR_b (E := E) (a := 49) (ty := 6) (n := 121) rfl (by omega) (by decide) (by rw [e]; omega)]
    unfold rfQ; rw [e]
  have hz : runP MP e 100 (0, [some (.ref 48), some (.ref 30), none, none], [], mk E F G) = runP MP e 100 (2, [some (.ref 48), some (.ref 30), some (.int (zI (0))), none], [], mk E F G) := by rw [q_100_0, li_0]
  rw [hin, hz]
  refine loopS (σ := (Nat → Int → Int32) × Option Value) (Post := fun z => ∃ F1, z = some (Sum.inl (some (.int (zI (if agK K = -1 then 0 else 1)))), mk E F1 G) ∧ KeepD E F G E F1 G ∧ (agK K ≠ -1 → F1 48 1 = zI (agI K (agK K).toNat) ∧ F1 48 2 = zI (agK K - agI K (agK K).toNat)))
    (fun j s => runP MP e 100 (2, [some (.ref 48), some (.ref 30), some (.int (zI ((j : Int)))), s.2], [], mk E s.1 G))
    (fun j s => SnO E s.1 30 (rndK K j) ∧ (∀ t : Nat, t < j → ∀ i : Nat, i < 70 → s.1 (50 + t) (i : Int) = zI (pcC (rndK K t) i)) ∧ KeepD E F G E s.1 G ∧ ∀ k, k < j → agI K k = -1) 121 (F, none) ⟨hO, fun t ht => by omega, KeepD_rf, fun k hk => by omega⟩ (fun s hs => ?_) (fun j s hj hs => ?_)
  · obtain ⟨s1, s2, s3, s4⟩ := hs
    have ek : agK K = -1 := fndN_none (fun i _ hi => decide_eq_false (fun z => z (s4 i (by omega))))
    refine ⟨s.1, ?_, s3, fun z => absurd ek z⟩
    rw [if_pos ek]
    show runP MP e 100 (2, [some (.ref 48), some (.ref 30), some (.int (zI (121))), s.2], [], mk E s.1 G) = _
    rw [q_100_2]; (try simp only [↓n_cI, li_0, li_1, li_2, li_6, li_8, li_20, li_100, li_120, zI_add, zI_sub, zI_mul, zI_neg, ↓Option.bind_some]); simp (disch := (first | assumption | exact tI_rg _ | omega | exact uR_at | exact row_ne hF (by decide) | exact row_ne (row_ne hF (by decide)) (by decide) | exact SnS_18 | exact SnS_30 | exact LdS_44 | exact LdS_46)) only [q_100_0, ↓n_cI, retZ_z, li_0, li_1, li_2, li_6, li_8, li_20, li_100, li_120, zI_add, zI_sub, zI_mul, zI_neg, ↓Option.bind_some, ↓g8_0, ↓p8_1, ↓p8_2, zIt2, uR_at, uR_ne, uR_uR, uC_uC, uC_at, ↓reduceIte, decide_eq_true_eq, leT, leF, ltT, ltF, eqT, eqF, ne_eq, not_true_eq_false, not_false_eq_true, Bool.false_eq_true, tI_zI]
  · obtain ⟨s1, s2, s3, s4⟩ := hs
    obtain ⟨i1, i2, i3, i4⟩ := rndK_inv hI (by omega) j (by omega)
    obtain ⟨r, n1, n2⟩ := ct_101 (d := e) (G := G) s1 (b := 50 + j) (sh50 j hj) (by omega) (by omega) (by omega) (by omega)
    have h101 : ∀ {kk : HeapP → ResP} {kx : Nat → HeapP → ResP}, cV (callP MP e 101 [.ref 30, .ref (50 + j)] (mk E s.1 G)) kk kx = kk (mk E (uR s.1 (50 + j) r) G) := fun {kk kx} => cV_ret n1
    have hO2 : SnO E (uR s.1 (50 + j) r) 30 (rndK K j) := SnO_same s1 (fun b hb => uR_ne (by omega))
    have hrows : ∀ t : Nat, t < j + 1 → ∀ i : Nat, i < 70 → uR s.1 (50 + j) r (50 + t) (i : Int) = zI (pcC (rndK K t) i) := fun t ht i hi => by
      by_cases z : t = j
      · rw [z, uR_at]; exact n2 i hi
      · rw [uR_ne (by omega)]; exact s2 t (by omega) i hi
    have hK2 : KeepD E F G E (uR s.1 (50 + j) r) G := s3.tr (KeepD_F (by unfold scrC; omega))
    have hcmp : ∀ i : Nat, i < j → (if fndN (fun q : Nat => decide (tI (uR s.1 (50 + j) r (50 + i) q) ≠ tI (uR s.1 (50 + j) r (50 + j) q))) 70 0 = -1 then (1 : Int) else 0) = if smC (rndK K i) (rndK K j) = true then 1 else 0 := fun i hi => by
      have hc : fndN (fun q : Nat => decide (tI (uR s.1 (50 + j) r (50 + i) q) ≠ tI (uR s.1 (50 + j) r (50 + j) q))) 70 0 = fndN (fun q : Nat => decide (pcC (rndK K i) q ≠ pcC (rndK K j) q)) 70 0 := fndN_congr (fun q _ hq => by
        have q1 := pc_rg (rndK_inv hI (by omega) i (by omega)).1 (q : Int)
        have q2 := pc_rg i1 (q : Int)
        rw [hrows i (by omega) q (by omega), hrows j (by omega) q (by omega), tI_zI q1, tI_zI q2])
      rw [hc]
      unfold smC
      by_cases z : fndN (fun q : Nat => decide (pcC (rndK K i) q ≠ pcC (rndK K j) q)) 70 0 = -1
      · rw [if_pos z, if_pos (decide_eq_true z)]
      · rw [if_neg z, if_neg (fun y => z (of_decide_eq_true y))]
    obtain ⟨F3, t1, t2, t3⟩ := ct_72 (d := e) (G := G) hO2 hD (by omega) (by omega)
    obtain ⟨j1, j2, j3, j4⟩ := turK_inv i1 (by omega)
    have h72 : ∀ {kk : Int → HeapP → ResP} {kx : Nat → HeapP → ResP}, cT (callP MP e 72 [.ref 30] (mk E (uR s.1 (50 + j) r) G)) kk kx = kk (stepsZ (turK (rndK K j)) - stepsZ (rndK K j)) (mk E F3 G) := fun {kk kx} => cT_ret t1 (by omega)
    have hin : (∃ i : Nat, i < j ∧ smC (rndK K i) (rndK K j) = true ∧ (∀ q, q < i → smC (rndK K q) (rndK K j) = false) ∧ runP MP e 100 (20, [some (.ref 48), some (.ref 30), some (.int (zI ((j : Int)))), some (.int (zI 0))], [], mk E (uR s.1 (50 + j) r) G) = some (Sum.inl (some (.int (zI 1))), mk E (uR (uR s.1 (50 + j) r) 48 (uC (uC (uR s.1 (50 + j) r 48) 1 (zI (i : Int))) 2 (zI ((j : Int) - (i : Int))))) G)) ∨ ((∀ q, q < j → smC (rndK K q) (rndK K j) = false) ∧ runP MP e 100 (20, [some (.ref 48), some (.ref 30), some (.int (zI ((j : Int)))), some (.int (zI 0))], [], mk E (uR s.1 (50 + j) r) G) = runP MP e 100 (2, [some (.ref 48), some (.ref 30), some (.int (zI (((j : Int) + 1)))), some (.int (zI (j : Int)))], [], mk E F3 G)) := by
      refine loopS (σ := Unit) (Post := fun z => (∃ i : Nat, i < j ∧ smC (rndK K i) (rndK K j) = true ∧ (∀ q, q < i → smC (rndK K q) (rndK K j) = false) ∧ z = some (Sum.inl (some (.int (zI 1))), mk E (uR (uR s.1 (50 + j) r) 48 (uC (uC (uR s.1 (50 + j) r 48) 1 (zI (i : Int))) 2 (zI ((j : Int) - (i : Int))))) G)) ∨ ((∀ q, q < j → smC (rndK K q) (rndK K j) = false) ∧ z = runP MP e 100 (2, [some (.ref 48), some (.ref 30), some (.int (zI (((j : Int) + 1)))), some (.int (zI (j : Int)))], [], mk E F3 G)))
        (fun i _ => runP MP e 100 (20, [some (.ref 48), some (.ref 30), some (.int (zI ((j : Int)))), some (.int (zI (i : Int)))], [], mk E (uR s.1 (50 + j) r) G))
        (fun i _ => ∀ q, q < i → smC (rndK K q) (rndK K j) = false) j () (fun q hq => by omega) (fun _ hs2 => Or.inr ⟨hs2, ?_⟩) (fun i _ hi hs2 => ?_)
      · show runP MP e 100 _ = runP MP e 100 _
        rw [q_100_20]; (try simp only [↓n_cI, li_0, li_1, li_2, li_6, li_8, li_20, li_100, li_120, zI_add, zI_sub, zI_mul, zI_neg, ↓Option.bind_some]); simp (disch := (first | assumption | exact tI_rg _ | omega | exact uR_at | exact row_ne hF (by decide) | exact row_ne (row_ne hF (by decide)) (by decide) | exact SnS_18 | exact SnS_30 | exact LdS_44 | exact LdS_46)) only [q_100_0, ↓h72, ↓n_cI, retZ_z, li_0, li_1, li_2, li_6, li_8, li_20, li_100, li_120, zI_add, zI_sub, zI_mul, zI_neg, ↓Option.bind_some, ↓g8_0, ↓p8_1, ↓p8_2, zIt2, uR_at, uR_ne, uR_uR, uC_uC, uC_at, ↓reduceIte, decide_eq_true_eq, leT, leF, ltT, ltF, eqT, eqF, ne_eq, not_true_eq_false, not_false_eq_true, Bool.false_eq_true, tI_zI]
      · have h102 : ∀ {kk : Int → HeapP → ResP} {kx : Nat → HeapP → ResP}, cT (callP MP e 102 [.ref (50 + i), .ref (50 + j)] (mk E (uR s.1 (50 + j) r) G)) kk kx = kk (if smC (rndK K i) (rndK K j) = true then 1 else 0) (mk E (uR s.1 (50 + j) r) G) := fun {kk kx} => by
          rw [cc_102 (sh50 i (by omega)) (sh50 j hj) (by omega), hcmp i hi]
        by_cases g : smC (rndK K i) (rndK K j) = true
        · rw [if_pos g] at h102
          left; left
          refine ⟨i, hi, g, hs2, ?_⟩
          show runP MP e 100 _ = _
          rw [q_100_20]; (try simp only [↓n_cI, li_0, li_1, li_2, li_6, li_8, li_20, li_100, li_120, zI_add, zI_sub, zI_mul, zI_neg, ↓Option.bind_some]); simp (disch := (first | assumption | exact tI_rg _ | omega | exact uR_at | exact row_ne hF (by decide) | exact row_ne (row_ne hF (by decide)) (by decide) | exact SnS_18 | exact SnS_30 | exact LdS_44 | exact LdS_46)) only [q_100_0, ↓hdR (show i < 121 by omega), ↓hdR hj, ↓h102, ↓n_cI, retZ_z, li_0, li_1, li_2, li_6, li_8, li_20, li_100, li_120, zI_add, zI_sub, zI_mul, zI_neg, ↓Option.bind_some, ↓g8_0, ↓p8_1, ↓p8_2, zIt2, uR_at, uR_ne, uR_uR, uC_uC, uC_at, ↓reduceIte, decide_eq_true_eq, leT, leF, ltT, ltF, eqT, eqF, ne_eq, not_true_eq_false, not_false_eq_true, Bool.false_eq_true, tI_zI]
        · rw [if_neg g] at h102
          right
          refine ⟨(), fun q hq => ?_, ?_⟩
          · by_cases z : q = i
            · rw [z]; exact Bool.eq_false_iff.mpr g
            · exact hs2 q (by omega)
          · show runP MP e 100 _ = runP MP e 100 _
            rw [nsucc]
            rw [q_100_20]; (try simp only [↓n_cI, li_0, li_1, li_2, li_6, li_8, li_20, li_100, li_120, zI_add, zI_sub, zI_mul, zI_neg, ↓Option.bind_some]); simp (disch := (first | assumption | exact tI_rg _ | omega | exact uR_at | exact row_ne hF (by decide) | exact row_ne (row_ne hF (by decide)) (by decide) | exact SnS_18 | exact SnS_30 | exact LdS_44 | exact LdS_46)) only [q_100_0, ↓hdR (show i < 121 by omega), ↓hdR hj, ↓h102, ↓n_cI, retZ_z, li_0, li_1, li_2, li_6, li_8, li_20, li_100, li_120, zI_add, zI_sub, zI_mul, zI_neg, ↓Option.bind_some, ↓g8_0, ↓p8_1, ↓p8_2, zIt2, uR_at, uR_ne, uR_uR, uC_uC, uC_at, ↓reduceIte, decide_eq_true_eq, leT, leF, ltT, ltF, eqT, eqF, ne_eq, not_true_eq_false, not_false_eq_true, Bool.false_eq_true, tI_zI]
    rcases hin with ⟨i, a1, a2, a3, a4⟩ | ⟨a1, a2⟩
    · left
      have ei : agI K j = (i : Int) := fndN_eq (by omega) (by omega) a2 (fun q _ hq => a3 q hq)
      have ek : agK K = (j : Int) := fndN_eq (by omega) (by omega) (decide_eq_true (by rw [ei]; omega)) (fun q _ hq => decide_eq_false (fun z => z (s4 q hq)))
      refine ⟨uR (uR s.1 (50 + j) r) 48 (uC (uC (uR s.1 (50 + j) r 48) 1 (zI (i : Int))) 2 (zI ((j : Int) - (i : Int)))), ?_, hK2.tr (KeepD_F (by unfold scrC; omega)), fun _ => ?_⟩
      · rw [if_neg (by omega)]
        show runP MP e 100 _ = _
        rw [← a4]
        rw [q_100_2]; (try simp only [↓n_cI, li_0, li_1, li_2, li_6, li_8, li_20, li_100, li_120, zI_add, zI_sub, zI_mul, zI_neg, ↓Option.bind_some]); simp (disch := (first | assumption | exact tI_rg _ | omega | exact uR_at | exact row_ne hF (by decide) | exact row_ne (row_ne hF (by decide)) (by decide) | exact SnS_18 | exact SnS_30 | exact LdS_44 | exact LdS_46)) only [q_100_0, ↓hdR hj, ↓h101, ↓n_cI, retZ_z, li_0, li_1, li_2, li_6, li_8, li_20, li_100, li_120, zI_add, zI_sub, zI_mul, zI_neg, ↓Option.bind_some, ↓g8_0, ↓p8_1, ↓p8_2, zIt2, uR_at, uR_ne, uR_uR, uC_uC, uC_at, ↓reduceIte, decide_eq_true_eq, leT, leF, ltT, ltF, eqT, eqF, ne_eq, not_true_eq_false, not_false_eq_true, Bool.false_eq_true, tI_zI]
      · rw [ek, show ((j : Int)).toNat = j by omega, ei, uR_at, uC_ne (by decide), uC_at, uC_at]; exact ⟨rfl, rfl⟩
    · right
      have ei : agI K j = -1 := fndN_none (fun q _ hq => a1 q (by omega))
      refine ⟨(F3, some (.int (zI (j : Int)))), ⟨t2, fun t ht i hi => ?_, hK2.tr (KeepD_oth t3), fun k hk => ?_⟩, ?_⟩
      · show F3 (50 + t) (i : Int) = _
        rw [t3 (50 + t) (by omega) (by omega) (by omega) (by omega) (by omega) (by omega)]; exact hrows t ht i hi
      · by_cases z : k = j
        · rw [z]; exact ei
        · exact s4 k (by omega)
      · show runP MP e 100 _ = runP MP e 100 _
        rw [nsucc, ← a2]
        rw [q_100_2]; (try simp only [↓n_cI, li_0, li_1, li_2, li_6, li_8, li_20, li_100, li_120, zI_add, zI_sub, zI_mul, zI_neg, ↓Option.bind_some]); simp (disch := (first | assumption | exact tI_rg _ | omega | exact uR_at | exact row_ne hF (by decide) | exact row_ne (row_ne hF (by decide)) (by decide) | exact SnS_18 | exact SnS_30 | exact LdS_44 | exact LdS_46)) only [q_100_0, ↓hdR hj, ↓h101, ↓n_cI, retZ_z, li_0, li_1, li_2, li_6, li_8, li_20, li_100, li_120, zI_add, zI_sub, zI_mul, zI_neg, ↓Option.bind_some, ↓g8_0, ↓p8_1, ↓p8_2, zIt2, uR_at, uR_ne, uR_uR, uC_uC, uC_at, ↓reduceIte, decide_eq_true_eq, leT, leF, ltT, ltF, eqT, eqF, ne_eq, not_true_eq_false, not_false_eq_true, Bool.false_eq_true, tI_zI]
theorem cl_again {d : Nat} {E : EnQ} {F : Nat → Int → Int32} {G : Nat → Int → Int64} {K : Int → Int32} (hO : SnO E F 18 K) (hD : SepP E 18) (hL : ∀ i : Nat, i < 121 → E.2.2.2 49 (i : Int) = 50 + i) (hst : stepsZ K < 1999000000) {x : Int} (hx : -2147483648 ≤ x ∧ x ≤ 2147483647) (hd : 7 ≤ d) : ∃ E1 F1, callP MP d 135 [.ref 16, .int (zI x)] (mk E F G) = some (thrP [2] (a_again K x), mk E1 F1 G) ∧ KeepC E F G E1 F1 G := by
  by_cases c1 : 0 ≤ x ∧ x ≤ 1
  · have ha : a_again K x = (0, if agK K = -1 then -1 else if x = 0 then agK K - agI K (agK K).toNat else agI K (agK K).toNat) := if_pos c1
    obtain ⟨e, rfl⟩ : ∃ e, d = e + 1 := ⟨d - 1, by omega⟩
    have hin : callP MP (e + 1) 135 [.ref 16, .int (zI x)] (mk E F G) = runP MP e 135 (0, [some (.ref 16), some (.int (zI x))], [], mk E F G) := into_eq (by omega) hM_135 (rcv_mk rfl (by decide)) rfl
    obtain ⟨o1, o2, o3, o4⟩ := SnO_tk hO hD
    have e49 : (tE E).2.2.2 49 = E.2.2.2 49 := (uR_ne (by decide) : uR E.2.2.2 30 (uC (E.2.2.2 30) 0 (rfQ E 18 0)) 49 = _)
    obtain ⟨F1, r1, k1, v1⟩ := ct_100 (d := e) (G := G) o1 o3 (fun i hi => by rw [e49]; exact hL i hi) hst (by omega)
    have kr := agK_rg K
    have ir := agI_rg K (agK K).toNat
    have h100 : ∀ {kk : Int → HeapP → ResP} {kx : Nat → HeapP → ResP}, cT (callP MP e 100 [.ref 48, .ref 30] (mk (tE E) (tkF F 30 18) G)) kk kx = kk (if agK K = -1 then 0 else 1) (mk (tE E) F1 G) := fun {kk kx} => cT_ret r1 (by split <;> omega)
    refine ⟨tE E, F1, ?_, (KeepD_t.tr k1).c⟩
    rw [ha]
    show (_ : ResP) = some (Sum.inl (some (.int (zI (if agK K = -1 then -1 else if x = 0 then agK K - agI K (agK K).toNat else agI K (agK K).toNat)))), mk (tE E) F1 G)
    rw [hin]
    by_cases g : agK K = -1
    · rw [if_pos g] at h100 ⊢
      rw [q_135_0]; (try simp only [↓n_rd, ↓n_cI, li_0, li_1, li_2, li_4, li_5, li_8, li_10, li_100, li_124, zI_add, zI_sub, zI_mul, zI_neg, ↓Option.bind_some]); simp (disch := (first | assumption | exact tI_rg _ | omega | exact uR_at | exact row_ne hF (by decide) | exact row_ne (row_ne hF (by decide)) (by decide) | exact SnS_18 | exact SnS_30 | exact LdS_44 | exact LdS_46)) only [q_135_54, ↓cc_124t, ↓cc_73t, ↓h100, ↓n_rd, ↓n_cI, li_0, li_1, li_2, li_4, li_5, li_8, li_10, li_100, li_124, zI_add, zI_sub, zI_mul, zI_neg, ↓Option.bind_some, ↓g11_10, ↓g11_4, ↓g11_5, ↓g8_1, ↓g8_2, zIt2, uR_at, uR_ne, uR_uR, uC_uC, uC_at, ↓reduceIte, decide_eq_true_eq, leT, leF, ltT, ltF, eqT, eqF, ne_eq, not_true_eq_false, not_false_eq_true, Bool.false_eq_true, tI_zI]
    · obtain ⟨v2, v3⟩ := v1 g
      rw [if_neg g] at h100 ⊢
      by_cases g2 : x = 0
      · rw [if_pos g2]
        rw [q_135_0]; (try simp only [↓n_rd, ↓n_cI, li_0, li_1, li_2, li_4, li_5, li_8, li_10, li_100, li_124, zI_add, zI_sub, zI_mul, zI_neg, ↓Option.bind_some]); simp (disch := (first | assumption | exact tI_rg _ | omega | exact uR_at | exact row_ne hF (by decide) | exact row_ne (row_ne hF (by decide)) (by decide) | exact SnS_18 | exact SnS_30 | exact LdS_44 | exact LdS_46)) only [q_135_54, ↓cc_124t, ↓cc_73t, ↓h100, v2, v3, ↓n_rd, ↓n_cI, li_0, li_1, li_2, li_4, li_5, li_8, li_10, li_100, li_124, zI_add, zI_sub, zI_mul, zI_neg, ↓Option.bind_some, ↓g11_10, ↓g11_4, ↓g11_5, ↓g8_1, ↓g8_2, zIt2, uR_at, uR_ne, uR_uR, uC_uC, uC_at, ↓reduceIte, decide_eq_true_eq, leT, leF, ltT, ltF, eqT, eqF, ne_eq, not_true_eq_false, not_false_eq_true, Bool.false_eq_true, tI_zI]
      · rw [if_neg g2]
        rw [q_135_0]; (try simp only [↓n_rd, ↓n_cI, li_0, li_1, li_2, li_4, li_5, li_8, li_10, li_100, li_124, zI_add, zI_sub, zI_mul, zI_neg, ↓Option.bind_some]); simp (disch := (first | assumption | exact tI_rg _ | omega | exact uR_at | exact row_ne hF (by decide) | exact row_ne (row_ne hF (by decide)) (by decide) | exact SnS_18 | exact SnS_30 | exact LdS_44 | exact LdS_46)) only [q_135_54, ↓cc_124t, ↓cc_73t, ↓h100, v2, v3, ↓n_rd, ↓n_cI, li_0, li_1, li_2, li_4, li_5, li_8, li_10, li_100, li_124, zI_add, zI_sub, zI_mul, zI_neg, ↓Option.bind_some, ↓g11_10, ↓g11_4, ↓g11_5, ↓g8_1, ↓g8_2, zIt2, uR_at, uR_ne, uR_uR, uC_uC, uC_at, ↓reduceIte, decide_eq_true_eq, leT, leF, ltT, ltF, eqT, eqF, ne_eq, not_true_eq_false, not_false_eq_true, Bool.false_eq_true, tI_zI]
  · have ha : a_again K x = (1, 0) := if_neg c1
    rw [ha]
    refine ⟨jE E, F, ?_, KeepC_j⟩
    show (_ : ResP) = some (Sum.inr 2, mk (jE E) F G)
    refine into (D := 6) (by omega) hM_135 (rcv_mk rfl (by decide)) rfl fun d hd => ?_
    show runP MP d 135 (0, [some (.ref 16), some (.int (zI x))], [], _) = _
    rw [q_135_0]; (try simp only [↓n_rd, ↓n_cI, li_0, li_1, li_2, li_4, li_5, li_8, li_10, li_100, li_124, zI_add, zI_sub, zI_mul, zI_neg, ↓Option.bind_some]); simp (disch := (first | assumption | exact tI_rg _ | omega | exact uR_at | exact row_ne hF (by decide) | exact row_ne (row_ne hF (by decide)) (by decide) | exact SnS_18 | exact SnS_30 | exact LdS_44 | exact LdS_46)) only [q_135_54, ↓cc_124f, thr_eq, ↓n_rd, ↓n_cI, li_0, li_1, li_2, li_4, li_5, li_8, li_10, li_100, li_124, zI_add, zI_sub, zI_mul, zI_neg, ↓Option.bind_some, ↓g11_10, ↓g11_4, ↓g11_5, ↓g8_1, ↓g8_2, zIt2, uR_at, uR_ne, uR_uR, uC_uC, uC_at, ↓reduceIte, decide_eq_true_eq, leT, leF, ltT, ltF, eqT, eqF, ne_eq, not_true_eq_false, not_false_eq_true, Bool.false_eq_true, tI_zI]
end S94zk
