/-! CLASS: going back -/
section S94m
set_option linter.unusedVariables false
set_option linter.unusedSimpArgs false
theorem ct_80 {d : Nat} {E : EnQ} {F : Nat → Int → Int32} {G : Nat → Int → Int64} {a : Nat} {K : Int → Int32} (hO : SnO E F a K) (hD : SepP E a) (hcs : tI (K 5) ≤ stepsZ K) (hst : stepsZ K < 1999900000) {x : Int} (hx : -2147483648 ≤ x ∧ x ≤ 2147483647) (hd : 5 ≤ d) :
    ∃ F', callP MP d 80 [.ref a, .int (zI x)] (mk E F G) = some (Sum.inl (some (.int (zI (retN K x)))), mk E F' G) ∧ SnO E F' a (retK K x) ∧ OthS a F F' := by
  have hO' := hO
  obtain ⟨hS, hP, hR, hN, hI⟩ := hO
  have hs := hS.1
  have hs2 := hP.1
  have hb5 := hI.1.2.2.2.2.2.1
  have hb4 := hI.1.2.2.2.2.1
  have e3 : tI (F a 3) = stepsZ K := hN.1.2.2
  obtain ⟨e, rfl⟩ : ∃ e, d = e + 1 := ⟨d - 1, by omega⟩
  have hin : callP MP (e + 1) 80 [.ref a, .int (zI x)] (mk E F G) = runP MP e 80 (0, [some (.ref a), some (.int (zI x)), none, none, none], [], mk E F G) := into_eq (by omega) hM_80 (rcv_mk hs (by decide)) rfl
  have h0 : runP MP e 80 (0, [some (.ref a), some (.int (zI x)), none, none, none], [], mk E F G) = runP MP e 80 (9, [some (.ref a), some (.int (zI x)), some (.int (zI (stepsZ K))), some (.int (zI (stepsZ K - 1 - ((0 : Nat) : Int)))), none], [], mk E F G) := by
    rw [show stepsZ K - 1 - ((0 : Nat) : Int) = stepsZ K - 1 by omega]
    rw [q_80_0]; (try simp only [↓n_rd, ↓n_cI, li_0, li_1, li_2, li_3, li_5, li_9, li_64, li_70, zI_add, zI_sub, zI_mul, zI_neg, ↓Option.bind_some]); simp (disch := (first | assumption | exact tI_rg _ | omega | exact uR_at | exact row_ne hF (by decide) | exact row_ne (row_ne hF (by decide)) (by decide) | exact SnS_18 | exact SnS_30 | exact LdS_44 | exact LdS_46)) only [q_80_67, q_80_73, e3, ↓n_rd, ↓n_cI, li_0, li_1, li_2, li_3, li_5, li_9, li_64, li_70, zI_add, zI_sub, zI_mul, zI_neg, ↓Option.bind_some, ↓g5_2, ↓g5_0, ↓g5_3, zIt2, uR_at, uR_ne, uR_uR, uC_uC, uC_at, ↓reduceIte, decide_eq_true_eq, leT, leF, ltT, ltF, eqT, eqF, ne_eq, not_true_eq_false, not_false_eq_true, Bool.false_eq_true, tI_zI]
  rw [hin, h0]
  refine loopS (σ := (Nat → Int → Int32) × Option Value) (Post := fun r => ∃ F', r = some (Sum.inl (some (.int (zI (retN K x)))), mk E F' G) ∧ SnO E F' a (retK K x) ∧ OthS a F F')
    (fun m s => runP MP e 80 (9, [some (.ref a), some (.int (zI x)), some (.int (zI (stepsZ K))), some (.int (zI (stepsZ K - 1 - (m : Int)))), s.2], [], mk E s.1 G))
    (fun m s => SnO E s.1 a (retS K x m) ∧ OthS a F s.1) (tI (K 5)).toNat (F, none) ⟨hO', OthS_rf⟩ (fun s hI2 => ?_) (fun m s hm hI2 => ?_)
  · obtain ⟨F0, z4⟩ := s
    obtain ⟨o1, o2⟩ := hI2
    have hi := retS_I hI hst (x := x) (tI (K 5)).toNat (by omega)
    refine ⟨F0, ?_, o1, o2⟩
    obtain ⟨hS', hP', hR', hN', -⟩ : SnO E F0 a (retK K x) := o1
    have hi : RetI K x (tI (K 5)).toNat (retK K x) := hi
    obtain ⟨i1, i2, i3, -⟩ := hi
    have e3' : tI (F0 a 3) = stepsZ (retK K x) := hN'.1.2.2
    have e2' : tI (F0 a 2) = tI (retK K x 5) := by rw [hN'.1.2.1]
    have hb5' := i1.1.2.2.2.2.2.1
    have hb4' := i1.1.2.2.2.2.1
    show runP MP e 80 _ = some (Sum.inl (some (.int (zI (stepsZ (retK K x) - stepsZ K)))), mk E F0 G)
    by_cases g : stepsZ K - 1 - ((tI (K 5)).toNat : Int) < 0
    · rw [q_80_9]; (try simp only [↓n_rd, ↓n_cI, li_0, li_1, li_2, li_3, li_5, li_9, li_64, li_70, zI_add, zI_sub, zI_mul, zI_neg, ↓Option.bind_some]); simp (disch := (first | assumption | exact tI_rg _ | omega | exact uR_at | exact row_ne hF (by decide) | exact row_ne (row_ne hF (by decide)) (by decide) | exact SnS_18 | exact SnS_30 | exact LdS_44 | exact LdS_46)) only [q_80_0, q_80_67, q_80_73, e3', e2', ↓n_rd, ↓n_cI, li_0, li_1, li_2, li_3, li_5, li_9, li_64, li_70, zI_add, zI_sub, zI_mul, zI_neg, ↓Option.bind_some, ↓g5_2, ↓g5_0, ↓g5_3, zIt2, uR_at, uR_ne, uR_uR, uC_uC, uC_at, ↓reduceIte, decide_eq_true_eq, leT, leF, ltT, ltF, eqT, eqF, ne_eq, not_true_eq_false, not_false_eq_true, Bool.false_eq_true, tI_zI]
    · rw [q_80_9]; (try simp only [↓n_rd, ↓n_cI, li_0, li_1, li_2, li_3, li_5, li_9, li_64, li_70, zI_add, zI_sub, zI_mul, zI_neg, ↓Option.bind_some]); simp (disch := (first | assumption | exact tI_rg _ | omega | exact uR_at | exact row_ne hF (by decide) | exact row_ne (row_ne hF (by decide)) (by decide) | exact SnS_18 | exact SnS_30 | exact LdS_44 | exact LdS_46)) only [q_80_0, q_80_67, q_80_73, e3', e2', ↓n_rd, ↓n_cI, li_0, li_1, li_2, li_3, li_5, li_9, li_64, li_70, zI_add, zI_sub, zI_mul, zI_neg, ↓Option.bind_some, ↓g5_2, ↓g5_0, ↓g5_3, zIt2, uR_at, uR_ne, uR_uR, uC_uC, uC_at, ↓reduceIte, decide_eq_true_eq, leT, leF, ltT, ltF, eqT, eqF, ne_eq, not_true_eq_false, not_false_eq_true, Bool.false_eq_true, tI_zI]
  · obtain ⟨F0, z4⟩ := s
    obtain ⟨o1, o2⟩ := hI2
    have hi := retS_I hI hst (x := x) m (by omega)
    have hi' := hi
    obtain ⟨i1, i2, i3, i4, -, i6⟩ := hi'
    have o1' : SnO E F0 a (retS K x m) := o1
    obtain ⟨hS', hP', hR', hN', -⟩ := o1'
    have e3' : tI (F0 a 3) = stepsZ (retS K x m) := hN'.1.2.2
    have e2' : tI (F0 a 2) = tI (retS K x m 5) := by rw [hN'.1.2.1]
    have hb5' := i1.1.2.2.2.2.2.1
    have hb4' := i1.1.2.2.2.2.1
    by_cases g : stepsZ (retS K x m) - stepsZ K + m < tI (retS K x m 5)
    · right
      have hown : prO (retS K x m) (stepsZ K - 1 - m - (stepsZ (retS K x m) - tI (retS K x m 5))) = rtO K m := by
        unfold rtO prO
        rw [← (i4 m g).2]
        exact congrArg (fun z => tI (retS K x m z)) (by omega)
      have hway : prW (retS K x m) (stepsZ K - 1 - m - (stepsZ (retS K x m) - tI (retS K x m 5))) = rtW K m := by
        unfold rtW prW
        rw [← (i4 m g).1]
        exact congrArg (fun z => tI (retS K x m z)) (by omega)
      have hrt := hI.2.2.2.1 (tI (K 5) - 1 - m) (by omega) (by omega)
      have hc3 := hI.1.2.2.2.1
      have hc1 := hI.1.2.1
      have hc2 := hI.1.2.2.1
      by_cases ho : rtO K m = x
      · have hw := RetI_can hI hi (by omega) ⟨g, ho⟩
        have hr1 : retS K x (m + 1) = goK false (retS K x m) x (fromZ K (rtW K m)) := if_pos ⟨g, ho⟩
        have hq := hI.2.1.1 (rtW K m) hrt.1.1 hrt.1.2
        have hfr : fromZ (retS K x m) (rtW K m) = fromZ K (rtW K m) := congrArg tI (i6 _ (by have : 0 ≤ rtW K m ∧ rtW K m < 2 * tI (K 2) := hrt.1; omega))
        have e2c : retS K x m 2 = K 2 := i6 2 (by omega)
        have hwr : 0 ≤ rtW K m ∧ rtW K m < 2 * tI (retS K x m 2) := by rw [e2c]; exact hrt.1
        have hq' : 0 ≤ fromZ K (rtW K m) ∧ fromZ K (rtW K m) < tI (K 1) := hq
        have hxr : 0 ≤ x ∧ x < tI (K 3) := ho ▸ hrt.2
        obtain ⟨F', t1, u1, v1⟩ := ct_61 (d := e) (G := G) o1 hD (x := x) (p := fromZ K (rtW K m)) (by omega) (by omega) hw (by omega) (by omega)
        have h61 : ∀ {kk : HeapP → ResP} {kx : Nat → HeapP → ResP}, cV (callP MP e 61 [.ref a, .int (zI x), .int (zI (fromZ K (rtW K m)))] (mk E F0 G)) kk kx = kk (mk E F' G) := fun {kk kx} => cV_ret t1
        refine ⟨(F', some (.int (zI (stepsZ K - 1 - m - (stepsZ (retS K x m) - tI (retS K x m 5)))))), ⟨by rw [hr1]; exact u1, OthS_tr o2 v1⟩, ?_⟩
        show runP MP e 80 _ = runP MP e 80 _
        rw [nsucc, show stepsZ K - 1 - ((m : Int) + 1) = stepsZ K - 1 - m + -1 by omega]
        rw [q_80_9]; (try simp only [↓n_rd, ↓n_cI, li_0, li_1, li_2, li_3, li_5, li_9, li_64, li_70, zI_add, zI_sub, zI_mul, zI_neg, ↓Option.bind_some]); simp (disch := (first | assumption | exact tI_rg _ | omega | exact uR_at | exact row_ne hF (by decide) | exact row_ne (row_ne hF (by decide)) (by decide) | exact SnS_18 | exact SnS_30 | exact LdS_44 | exact LdS_46)) only [q_80_0, q_80_67, q_80_73, e3', e2', ↓cc_70 o1, ↓cc_64 o1, hown, hway, ho, ↓cc_28 hR' i1, hfr, ↓h61, ↓n_rd, ↓n_cI, li_0, li_1, li_2, li_3, li_5, li_9, li_64, li_70, zI_add, zI_sub, zI_mul, zI_neg, ↓Option.bind_some, ↓g5_2, ↓g5_0, ↓g5_3, zIt2, uR_at, uR_ne, uR_uR, uC_uC, uC_at, ↓reduceIte, decide_eq_true_eq, leT, leF, ltT, ltF, eqT, eqF, ne_eq, not_true_eq_false, not_false_eq_true, Bool.false_eq_true, tI_zI]
      · have hr1 : retS K x (m + 1) = retS K x m := if_neg (fun z => ho z.2)
        have horg : 0 ≤ rtO K m ∧ rtO K m < tI (K 3) := hrt.2
        refine ⟨(F0, some (.int (zI (stepsZ K - 1 - m - (stepsZ (retS K x m) - tI (retS K x m 5)))))), ⟨by rw [hr1]; exact o1, o2⟩, ?_⟩
        show runP MP e 80 _ = runP MP e 80 _
        rw [nsucc, show stepsZ K - 1 - ((m : Int) + 1) = stepsZ K - 1 - m + -1 by omega]
        rw [q_80_9]; (try simp only [↓n_rd, ↓n_cI, li_0, li_1, li_2, li_3, li_5, li_9, li_64, li_70, zI_add, zI_sub, zI_mul, zI_neg, ↓Option.bind_some]); simp (disch := (first | assumption | exact tI_rg _ | omega | exact uR_at | exact row_ne hF (by decide) | exact row_ne (row_ne hF (by decide)) (by decide) | exact SnS_18 | exact SnS_30 | exact LdS_44 | exact LdS_46)) only [q_80_0, q_80_67, q_80_73, e3', e2', ↓cc_70 o1, hown, ↓n_rd, ↓n_cI, li_0, li_1, li_2, li_3, li_5, li_9, li_64, li_70, zI_add, zI_sub, zI_mul, zI_neg, ↓Option.bind_some, ↓g5_2, ↓g5_0, ↓g5_3, zIt2, uR_at, uR_ne, uR_uR, uC_uC, uC_at, ↓reduceIte, decide_eq_true_eq, leT, leF, ltT, ltF, eqT, eqF, ne_eq, not_true_eq_false, not_false_eq_true, Bool.false_eq_true, tI_zI]
    · left
      have hre : retK K x = retS K x m := retS_end g _ (by omega)
      refine ⟨F0, ?_, by rw [hre]; exact o1, o2⟩
      unfold retN
      rw [hre]
      show runP MP e 80 _ = _
      rw [q_80_9]; (try simp only [↓n_rd, ↓n_cI, li_0, li_1, li_2, li_3, li_5, li_9, li_64, li_70, zI_add, zI_sub, zI_mul, zI_neg, ↓Option.bind_some]); simp (disch := (first | assumption | exact tI_rg _ | omega | exact uR_at | exact row_ne hF (by decide) | exact row_ne (row_ne hF (by decide)) (by decide) | exact SnS_18 | exact SnS_30 | exact LdS_44 | exact LdS_46)) only [q_80_0, q_80_67, q_80_73, e3', e2', ↓n_rd, ↓n_cI, li_0, li_1, li_2, li_3, li_5, li_9, li_64, li_70, zI_add, zI_sub, zI_mul, zI_neg, ↓Option.bind_some, ↓g5_2, ↓g5_0, ↓g5_3, zIt2, uR_at, uR_ne, uR_uR, uC_uC, uC_at, ↓reduceIte, decide_eq_true_eq, leT, leF, ltT, ltF, eqT, eqF, ne_eq, not_true_eq_false, not_false_eq_true, Bool.false_eq_true, tI_zI]
end S94m
