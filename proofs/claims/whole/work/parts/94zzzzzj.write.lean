/-! TOP: write, reads -/
section S94zzzzzj
set_option linter.unusedVariables false
set_option linter.unusedSimpArgs false
/-- the trays of the model in their bounds -/
def TrB (F : Nat → Int → Int32) : Prop := ∀ x : Int, 0 ≤ x ∧ x < 4 → (-1 ≤ tI (F 243 x) ∧ tI (F 243 x) ≤ 3) ∧ (0 ≤ tI (F 244 x) ∧ tI (F 244 x) ≤ 30)
theorem TrB_of {E : EnQ} {F : Nat → Int → Int32} {G : Nat → Int → Int64} (hT : TrR E F G) : TrB F := fun x hx => by
  obtain ⟨q1, q2, q3, q4, q5, q6⟩ := TrR_x hT hx
  exact ⟨q4, q5⟩
theorem ml_writeB {d : Nat} {E : EnQ} {F : Nat → Int → Int32} {G : Nat → Int → Int64} (hT : TrB F) {x y : Int} {v : Int64} (hx : -2147483648 ≤ x ∧ x ≤ 2147483647) (hy : -2147483648 ≤ y ∧ y ≤ 2147483647) (hd : 4 ≤ d) : callP MP d 315 [.ref 217, .int (zI x), .int (zI y), .long v] (mk E F G) = some (Sum.inl (some (.long (if a_write F x y = 0 then cutJ (tI (F 243 x)) v else zJ 0))), mk E (uR F 217 (uC (F 217) 5 (zI (a_write F x y)))) (if a_write F x y = 0 then wmG F G x y v else G)) := by
  by_cases c1 : 0 ≤ x ∧ x < 4
  · obtain ⟨q4, q5⟩ := hT _ c1
    by_cases c2 : tI (F 243 x) = -1
    · have ha : a_write F x y = 2 := (if_pos c1).trans (if_pos c2)
      have ht : tfZ F x = 2 := (if_pos c1).trans (if_pos c2)
      rw [ha]
      show (_ : ResP) = some (Sum.inl (some (.long (zJ 0))), mk E (uR F 217 (uC (F 217) 5 (zI 2))) G)
      refine into (D := 3) (by omega) hM_315 (rcv_mk rfl (by decide)) rfl fun d hd => ?_
      show runP MP d 315 (0, [some (.ref 217), some (.int (zI x)), some (.int (zI y)), some (.long v), none], [], _) = _
      rw [q_315_0]; (try simp only [↓n_rd, ↓n_al, ↓n_cI, ↓n_cJ, li_0, li_1, li_3, li_5, li_12, lj_0, lj_1, lj_3, lj_5, lj_12, zJ_add, zJ_sub, zJ_mul, zJ_neg, zJ_l2i, zI_add, zI_sub, zI_mul, zI_neg, ↓Option.bind_some]); simp (disch := (first | assumption | exact tI_rg _ | omega | exact uR_at | exact row_ne hF (by decide) | exact row_ne (row_ne hF (by decide)) (by decide) | exact SnS_18 | exact SnS_30 | exact LdS_44 | exact LdS_46)) only [q_315_52, ↓cc_235, ht, zI_i2l, ↓n_rd, ↓n_al, ↓n_cI, ↓n_cJ, li_0, li_1, li_3, li_5, li_12, lj_0, lj_1, lj_3, lj_5, lj_12, zJ_add, zJ_sub, zJ_mul, zJ_neg, zJ_l2i, tJ_zJ, zI_add, zI_sub, zI_mul, zI_neg, ↓Option.bind_some, ↓g12_5, ↓g12_54, ↓p12_5, ↓al_244, ↓as_244, zIt2, uR_at, uR_ne, uR_uR, uC_uC, uC_at, ↓reduceIte, decide_eq_true_eq, leT, leF, ltT, ltF, eqT, eqF, ne_eq, not_true_eq_false, not_false_eq_true, Bool.false_eq_true, tI_zI]
    · have ht : tfZ F x = 0 := (if_pos c1).trans (if_neg c2)
      by_cases c3 : 0 ≤ y ∧ y < tI (F 244 x)
      · have ha : a_write F x y = 0 := (if_pos c1).trans ((if_neg c2).trans (if_pos c3))
        rw [ha]
        show (_ : ResP) = some (Sum.inl (some (.long (cutJ (tI (F 243 x)) v))), mk E (uR F 217 (uC (F 217) 5 (zI 0))) (wmG F G x y v))
        refine into (D := 3) (by omega) hM_315 (rcv_mk rfl (by decide)) rfl fun d hd => ?_
        show runP MP d 315 (0, [some (.ref 217), some (.int (zI x)), some (.int (zI y)), some (.long v), none], [], _) = _
        have e43 : uR F 217 (uC (F 217) 5 (zI 0)) 243 = F 243 := uR_ne (by decide)
        have r313 := ct_313 (d := d) (E := E) (F := uR F 217 (uC (F 217) 5 (zI 0))) (G := G) c1 (by rw [e43]; omega) (i := y) (by omega) (v := v) (by omega)
        rw [e43] at r313
        have h313 : ∀ {kk : Int → HeapP → ResP} {kx : Nat → HeapP → ResP}, cJT (callP MP d 313 [.ref 217, .int (zI x), .int (zI y), .long v] (mk E (uR F 217 (uC (F 217) 5 (zI 0))) G)) kk kx = kk (tJ (cutJ (tI (F 243 x)) v)) (mk E (uR F 217 (uC (F 217) 5 (zI 0))) (wmG F G x y v)) := fun {kk kx} => by
          unfold cJT; rw [cJ_ret r313]; rfl
        have c3' : 0 ≤ y ∧ y ≤ tI (F 244 x) - 1 := by omega
        rw [q_315_0]; (try simp only [↓n_rd, ↓n_al, ↓n_cI, ↓n_cJ, li_0, li_1, li_3, li_5, li_12, lj_0, lj_1, lj_3, lj_5, lj_12, zJ_add, zJ_sub, zJ_mul, zJ_neg, zJ_l2i, zI_add, zI_sub, zI_mul, zI_neg, ↓Option.bind_some]); simp (disch := (first | assumption | exact tI_rg _ | omega | exact uR_at | exact row_ne hF (by decide) | exact row_ne (row_ne hF (by decide)) (by decide) | exact SnS_18 | exact SnS_30 | exact LdS_44 | exact LdS_46)) only [q_315_52, ↓cc_235, ht, ↓cc_188t, zI_i2l, ↓n_cJ, ↓h313, zJ_tJ, ↓n_rd, ↓n_al, ↓n_cI, ↓n_cJ, li_0, li_1, li_3, li_5, li_12, lj_0, lj_1, lj_3, lj_5, lj_12, zJ_add, zJ_sub, zJ_mul, zJ_neg, zJ_l2i, tJ_zJ, zI_add, zI_sub, zI_mul, zI_neg, ↓Option.bind_some, ↓g12_5, ↓g12_54, ↓p12_5, ↓al_244, ↓as_244, zIt2, uR_at, uR_ne, uR_uR, uC_uC, uC_at, ↓reduceIte, decide_eq_true_eq, leT, leF, ltT, ltF, eqT, eqF, ne_eq, not_true_eq_false, not_false_eq_true, Bool.false_eq_true, tI_zI]
      · have ha : a_write F x y = 3 := (if_pos c1).trans ((if_neg c2).trans (if_neg c3))
        rw [ha]
        show (_ : ResP) = some (Sum.inl (some (.long (zJ 0))), mk E (uR F 217 (uC (F 217) 5 (zI 3))) G)
        have c3' : ¬ (0 ≤ y ∧ y ≤ tI (F 244 x) - 1) := by omega
        refine into (D := 3) (by omega) hM_315 (rcv_mk rfl (by decide)) rfl fun d hd => ?_
        show runP MP d 315 (0, [some (.ref 217), some (.int (zI x)), some (.int (zI y)), some (.long v), none], [], _) = _
        rw [q_315_0]; (try simp only [↓n_rd, ↓n_al, ↓n_cI, ↓n_cJ, li_0, li_1, li_3, li_5, li_12, lj_0, lj_1, lj_3, lj_5, lj_12, zJ_add, zJ_sub, zJ_mul, zJ_neg, zJ_l2i, zI_add, zI_sub, zI_mul, zI_neg, ↓Option.bind_some]); simp (disch := (first | assumption | exact tI_rg _ | omega | exact uR_at | exact row_ne hF (by decide) | exact row_ne (row_ne hF (by decide)) (by decide) | exact SnS_18 | exact SnS_30 | exact LdS_44 | exact LdS_46)) only [q_315_52, ↓cc_235, ht, ↓cc_188f, ↓cc_189, zI_i2l, ↓n_rd, ↓n_al, ↓n_cI, ↓n_cJ, li_0, li_1, li_3, li_5, li_12, lj_0, lj_1, lj_3, lj_5, lj_12, zJ_add, zJ_sub, zJ_mul, zJ_neg, zJ_l2i, tJ_zJ, zI_add, zI_sub, zI_mul, zI_neg, ↓Option.bind_some, ↓g12_5, ↓g12_54, ↓p12_5, ↓al_244, ↓as_244, zIt2, uR_at, uR_ne, uR_uR, uC_uC, uC_at, ↓reduceIte, decide_eq_true_eq, leT, leF, ltT, ltF, eqT, eqF, ne_eq, not_true_eq_false, not_false_eq_true, Bool.false_eq_true, tI_zI]
  · have ha : a_write F x y = 1 := if_neg c1
    have ht : tfZ F x = 1 := if_neg c1
    rw [ha]
    show (_ : ResP) = some (Sum.inl (some (.long (zJ 0))), mk E (uR F 217 (uC (F 217) 5 (zI 1))) G)
    refine into (D := 3) (by omega) hM_315 (rcv_mk rfl (by decide)) rfl fun d hd => ?_
    show runP MP d 315 (0, [some (.ref 217), some (.int (zI x)), some (.int (zI y)), some (.long v), none], [], _) = _
    rw [q_315_0]; (try simp only [↓n_rd, ↓n_al, ↓n_cI, ↓n_cJ, li_0, li_1, li_3, li_5, li_12, lj_0, lj_1, lj_3, lj_5, lj_12, zJ_add, zJ_sub, zJ_mul, zJ_neg, zJ_l2i, zI_add, zI_sub, zI_mul, zI_neg, ↓Option.bind_some]); simp (disch := (first | assumption | exact tI_rg _ | omega | exact uR_at | exact row_ne hF (by decide) | exact row_ne (row_ne hF (by decide)) (by decide) | exact SnS_18 | exact SnS_30 | exact LdS_44 | exact LdS_46)) only [q_315_52, ↓cc_235, ht, zI_i2l, ↓n_rd, ↓n_al, ↓n_cI, ↓n_cJ, li_0, li_1, li_3, li_5, li_12, lj_0, lj_1, lj_3, lj_5, lj_12, zJ_add, zJ_sub, zJ_mul, zJ_neg, zJ_l2i, tJ_zJ, zI_add, zI_sub, zI_mul, zI_neg, ↓Option.bind_some, ↓g12_5, ↓g12_54, ↓p12_5, ↓al_244, ↓as_244, zIt2, uR_at, uR_ne, uR_uR, uC_uC, uC_at, ↓reduceIte, decide_eq_true_eq, leT, leF, ltT, ltF, eqT, eqF, ne_eq, not_true_eq_false, not_false_eq_true, Bool.false_eq_true, tI_zI]
theorem ml_readsB {d : Nat} {E : EnQ} {F : Nat → Int → Int32} {G : Nat → Int → Int64} {K : Int → Int32} (hI : InvK K) (hF : F 218 = K) (hT : TrB F) {x : Int} (hx : -2147483648 ≤ x ∧ x ≤ 2147483647) (hd : 4 ≤ d) : callP MP d 312 [.ref 217, .int (zI x)] (mk E F G) = some (Sum.inl (some (.int (zI (a_reads F K x).2))), mk E (uR F 217 (uC (F 217) 5 (zI (a_reads F K x).1))) (if tfZ F x = 0 then rmG F G K x 32 else G)) := by
  have hb2 := hI.1.2.2.1
  have hb5 := hI.1.2.2.2.2.2.1
  have hb4 := hI.1.2.2.2.2.1
  by_cases c1 : 0 ≤ x ∧ x < 4
  · obtain ⟨q4, q5⟩ := hT _ c1
    have q3' : tI (F 244 x) = tdM F x := by unfold tdM; omega
    have hm30 : tdM F x ≤ 30 := by unfold tdM; omega
    by_cases c2 : tI (F 243 x) = -1
    · have ha : tfZ F x = 2 := (if_pos c1).trans (if_pos c2)
      unfold a_reads
      rw [ha]
      show (_ : ResP) = some (Sum.inl (some (.int (zI 0))), mk E (uR F 217 (uC (F 217) 5 (zI 2))) G)
      refine into (D := 3) (by omega) hM_312 (rcv_mk rfl (by decide)) rfl fun d hd => ?_
      show runP MP d 312 (0, [some (.ref 217), some (.int (zI x)), none, none], [], _) = _
      rw [q_312_0]; (try simp only [↓n_rd, ↓n_al, ↓n_cI, ↓n_cJ, li_0, li_1, li_2, li_5, li_12, lj_0, lj_1, lj_2, lj_5, lj_12, zJ_add, zJ_sub, zJ_mul, zJ_neg, zJ_l2i, zI_add, zI_sub, zI_mul, zI_neg, ↓Option.bind_some]); simp (disch := (first | assumption | exact tI_rg _ | omega | exact uR_at | exact row_ne hF (by decide) | exact row_ne (row_ne hF (by decide)) (by decide) | exact SnS_18 | exact SnS_30 | exact LdS_44 | exact LdS_46)) only [q_312_67, q_312_73, ↓cc_235, ha, ↓n_rd, ↓n_al, ↓n_cI, ↓n_cJ, li_0, li_1, li_2, li_5, li_12, lj_0, lj_1, lj_2, lj_5, lj_12, zJ_add, zJ_sub, zJ_mul, zJ_neg, zJ_l2i, tJ_zJ, zI_add, zI_sub, zI_mul, zI_neg, ↓Option.bind_some, ↓g12_5, ↓g12_0, ↓g12_54, ↓p12_5, ↓al_218, ↓as_218, ↓al_244, ↓as_244, zIt2, uR_at, uR_ne, uR_uR, uC_uC, uC_at, ↓reduceIte, decide_eq_true_eq, leT, leF, ltT, ltF, eqT, eqF, ne_eq, not_true_eq_false, not_false_eq_true, Bool.false_eq_true, tI_zI]
    · have ha : tfZ F x = 0 := (if_pos c1).trans (if_neg c2)
      unfold a_reads
      rw [ha]
      show (_ : ResP) = some (Sum.inl (some (.int (zI ((rdC (wysN K) (tdM F x) 32 : Nat) : Int)))), mk E (uR F 217 (uC (F 217) 5 (zI 0))) (rmG F G K x 32))
      refine into (D := 3) (by omega) hM_312 (rcv_mk rfl (by decide)) rfl fun d hd => ?_
      show runP MP d 312 (0, [some (.ref 217), some (.int (zI x)), none, none], [], _) = _
      have hF : uR F 217 (uC (F 217) 5 (zI 0)) 218 = K := row_ne hF (by decide)
      have e43 : uR F 217 (uC (F 217) 5 (zI 0)) 243 = F 243 := uR_ne (by decide)
      have hwz : ∀ i : Nat, (2 * tI (K 2) ≤ i) → (wysN K).testBit i = false := fun i hi => by
        rw [← wcN_bit hI]
        unfold wcN
        rw [cntN_z]
        intro j hj
        have hr := hI.2.2.2.1 j (by omega) (by omega)
        rw [beq_eq_false_iff_ne]; omega
      have hl : runP MP d 312 (22, [some (.ref 217), some (.int (zI x)), some (.int (zI 0)), some (.int (zI 0))], [], mk E (uR F 217 (uC (F 217) 5 (zI 0))) G) = some (Sum.inl (some (.int (zI ((rdC (wysN K) (tdM F x) 32 : Nat) : Int)))), mk E (uR F 217 (uC (F 217) 5 (zI 0))) (rmG F G K x 32)) := by
        have h0 : mk E (uR F 217 (uC (F 217) 5 (zI 0))) G = mk E (uR F 217 (uC (F 217) 5 (zI 0))) (rmG F G K x 0) := by unfold rmG; show _ = mk E _ (uR G 245 (G 245)); rw [uR_self]
        rw [h0]
        refine loopS (σ := Unit) (Post := fun r => r = some (Sum.inl (some (.int (zI ((rdC (wysN K) (tdM F x) 32 : Nat) : Int)))), mk E (uR F 217 (uC (F 217) 5 (zI 0))) (rmG F G K x 32)))
          (fun j _ => runP MP d 312 (22, [some (.ref 217), some (.int (zI x)), some (.int (zI ((rdC (wysN K) (tdM F x) j : Nat) : Int))), some (.int (zI (j : Int)))], [], mk E (uR F 217 (uC (F 217) 5 (zI 0))) (rmG F G K x j)))
          (fun _ _ => True) (2 * tI (K 2)).toNat () trivial (fun s hs => ?_) (fun j s hj hs => ?_)
        · obtain ⟨i1, i2⟩ := rd_stay (w := wysN K) (m := tdM F x) (s := tI (F 243 x)) (o := 30 * x) (r := G 245) (j := (2 * tI (K 2)).toNat) 32 (by omega) (fun i h1 h2 z => by rw [hwz i (by omega)] at z; exact Bool.false_ne_true z.1)
          have e2 : rmG F G K x 32 = rmG F G K x (2 * tI (K 2)).toNat := by unfold rmG; rw [i2]
          rw [i1, e2]
          show runP MP d 312 _ = _
          rw [q_312_22]; (try simp only [↓n_rd, ↓n_al, ↓n_cI, ↓n_cJ, li_0, li_1, li_2, li_5, li_12, lj_0, lj_1, lj_2, lj_5, lj_12, zJ_add, zJ_sub, zJ_mul, zJ_neg, zJ_l2i, zI_add, zI_sub, zI_mul, zI_neg, ↓Option.bind_some]); simp (disch := (first | assumption | exact tI_rg _ | omega | exact uR_at | exact row_ne hF (by decide) | exact row_ne (row_ne hF (by decide)) (by decide) | exact SnS_18 | exact SnS_30 | exact LdS_44 | exact LdS_46)) only [q_312_0, q_312_67, q_312_73, hF, ↓n_rd, ↓n_al, ↓n_cI, ↓n_cJ, li_0, li_1, li_2, li_5, li_12, lj_0, lj_1, lj_2, lj_5, lj_12, zJ_add, zJ_sub, zJ_mul, zJ_neg, zJ_l2i, tJ_zJ, zI_add, zI_sub, zI_mul, zI_neg, ↓Option.bind_some, ↓g12_5, ↓g12_0, ↓g12_54, ↓p12_5, ↓al_218, ↓as_218, ↓al_244, ↓as_244, zIt2, uR_at, uR_ne, uR_uR, uC_uC, uC_at, ↓reduceIte, decide_eq_true_eq, leT, leF, ltT, ltF, eqT, eqF, ne_eq, not_true_eq_false, not_false_eq_true, Bool.false_eq_true, tI_zI]
        · have hle := rdC_le (w := wysN K) (m := tdM F x) j
          by_cases g2 : rdC (wysN K) (tdM F x) j < tdM F x
          · right
            refine ⟨(), trivial, ?_⟩
            show runP MP d 312 _ = runP MP d 312 _
            have hw1 := wcN_bit hI (v := j)
            have hwr : 0 ≤ wcN K j ∧ wcN K j ≤ (tI (K 5)).toNat := cntN_rg _ _
            have hu : cntN (fun k : Nat => prW K k == (j : Int)) (tI (K 5)).toNat = wcN K j := rfl
            by_cases g : wcN K j = 0
            · have hn : ¬ ((wysN K).testBit j = true ∧ rdC (wysN K) (tdM F x) j < tdM F x) := fun z => by rw [hw1.mp g] at z; exact Bool.false_ne_true z.1
              have e1 : rdC (wysN K) (tdM F x) (j + 1) = rdC (wysN K) (tdM F x) j := if_neg hn
              have e2 : rmG F G K x (j + 1) = rmG F G K x j := by unfold rmG; rw [show rdR (wysN K) (tdM F x) (tI (F 243 x)) (30 * x) (G 245) (j + 1) = rdR (wysN K) (tdM F x) (tI (F 243 x)) (30 * x) (G 245) j from if_neg hn]
              rw [e1, e2, nsucc]
              rw [q_312_22]; (try simp only [↓n_rd, ↓n_al, ↓n_cI, ↓n_cJ, li_0, li_1, li_2, li_5, li_12, lj_0, lj_1, lj_2, lj_5, lj_12, zJ_add, zJ_sub, zJ_mul, zJ_neg, zJ_l2i, zI_add, zI_sub, zI_mul, zI_neg, ↓Option.bind_some]); simp (disch := (first | assumption | exact tI_rg _ | omega | exact uR_at | exact row_ne hF (by decide) | exact row_ne (row_ne hF (by decide)) (by decide) | exact SnS_18 | exact SnS_30 | exact LdS_44 | exact LdS_46)) only [q_312_0, q_312_67, q_312_73, hF, q3', ↓cc_209 hI, hu, g, ↓n_rd, ↓n_al, ↓n_cI, ↓n_cJ, li_0, li_1, li_2, li_5, li_12, lj_0, lj_1, lj_2, lj_5, lj_12, zJ_add, zJ_sub, zJ_mul, zJ_neg, zJ_l2i, tJ_zJ, zI_add, zI_sub, zI_mul, zI_neg, ↓Option.bind_some, ↓g12_5, ↓g12_0, ↓g12_54, ↓p12_5, ↓al_218, ↓as_218, ↓al_244, ↓as_244, zIt2, uR_at, uR_ne, uR_uR, uC_uC, uC_at, ↓reduceIte, decide_eq_true_eq, leT, leF, ltT, ltF, eqT, eqF, ne_eq, not_true_eq_false, not_false_eq_true, Bool.false_eq_true, tI_zI]
            · have hbt : (wysN K).testBit j = true := by
                by_cases z : (wysN K).testBit j = true
                · exact z
                · exact absurd (hw1.mpr (Bool.eq_false_iff.mpr z)) g
              have e1 : rdC (wysN K) (tdM F x) (j + 1) = rdC (wysN K) (tdM F x) j + 1 := if_pos ⟨hbt, g2⟩
              have r313 := ct_313 (d := d) (E := E) (F := uR F 217 (uC (F 217) 5 (zI 0))) (G := rmG F G K x j) c1 (by rw [e43]; omega) (i := (rdC (wysN K) (tdM F x) j : Nat)) (by omega) (v := zJ (j : Int)) (by omega)
              have e3 : uR (rmG F G K x j) 245 (uC (rmG F G K x j 245) (30 * x + ((rdC (wysN K) (tdM F x) j : Nat) : Int)) (cutJ (tI (F 243 x)) (zJ (j : Int)))) = rmG F G K x (j + 1) := by
                unfold rmG
                rw [uR_uR, uR_at, show rdR (wysN K) (tdM F x) (tI (F 243 x)) (30 * x) (G 245) (j + 1) = uC (rdR (wysN K) (tdM F x) (tI (F 243 x)) (30 * x) (G 245) j) (30 * x + (rdC (wysN K) (tdM F x) j : Nat)) (cutJ (tI (F 243 x)) (zJ (j : Int))) from if_pos ⟨hbt, g2⟩]
              rw [e43, e3] at r313
              have h313 : ∀ {kk : Int → HeapP → ResP} {kx : Nat → HeapP → ResP}, cJT (callP MP d 313 [.ref 217, .int (zI x), .int (zI ((rdC (wysN K) (tdM F x) j : Nat) : Int)), .long (zJ (j : Int))] (mk E (uR F 217 (uC (F 217) 5 (zI 0))) (rmG F G K x j))) kk kx = kk (tJ (cutJ (tI (F 243 x)) (zJ (j : Int)))) (mk E (uR F 217 (uC (F 217) 5 (zI 0))) (rmG F G K x (j + 1))) := fun {kk kx} => by
                unfold cJT; rw [cJ_ret r313]
              rw [e1, nsucc, Int.natCast_add]
              show _ = runP MP d 312 (22, [some (.ref 217), some (.int (zI x)), some (.int (zI ((rdC (wysN K) (tdM F x) j : Nat) + 1))), some (.int (zI ((j : Int) + 1)))], [], mk E (uR F 217 (uC (F 217) 5 (zI 0))) (rmG F G K x (j + 1)))
              rw [q_312_22]; (try simp only [↓n_rd, ↓n_al, ↓n_cI, ↓n_cJ, li_0, li_1, li_2, li_5, li_12, lj_0, lj_1, lj_2, lj_5, lj_12, zJ_add, zJ_sub, zJ_mul, zJ_neg, zJ_l2i, zI_add, zI_sub, zI_mul, zI_neg, ↓Option.bind_some]); simp (disch := (first | assumption | exact tI_rg _ | omega | exact uR_at | exact row_ne hF (by decide) | exact row_ne (row_ne hF (by decide)) (by decide) | exact SnS_18 | exact SnS_30 | exact LdS_44 | exact LdS_46)) only [q_312_0, q_312_67, q_312_73, hF, q3', ↓cc_209 hI, hu, zI_i2l, ↓n_cJ, ↓h313, ↓n_rd, ↓n_al, ↓n_cI, ↓n_cJ, li_0, li_1, li_2, li_5, li_12, lj_0, lj_1, lj_2, lj_5, lj_12, zJ_add, zJ_sub, zJ_mul, zJ_neg, zJ_l2i, tJ_zJ, zI_add, zI_sub, zI_mul, zI_neg, ↓Option.bind_some, ↓g12_5, ↓g12_0, ↓g12_54, ↓p12_5, ↓al_218, ↓as_218, ↓al_244, ↓as_244, zIt2, uR_at, uR_ne, uR_uR, uC_uC, uC_at, ↓reduceIte, decide_eq_true_eq, leT, leF, ltT, ltF, eqT, eqF, ne_eq, not_true_eq_false, not_false_eq_true, Bool.false_eq_true, tI_zI]
          · left
            obtain ⟨i1, i2⟩ := rd_stay (w := wysN K) (m := tdM F x) (s := tI (F 243 x)) (o := 30 * x) (r := G 245) (j := j) 32 (by omega) (fun i h1 h2 z => g2 z.2)
            have e2 : rmG F G K x 32 = rmG F G K x j := by unfold rmG; rw [i2]
            rw [i1, e2]
            show runP MP d 312 _ = _
            rw [q_312_22]; (try simp only [↓n_rd, ↓n_al, ↓n_cI, ↓n_cJ, li_0, li_1, li_2, li_5, li_12, lj_0, lj_1, lj_2, lj_5, lj_12, zJ_add, zJ_sub, zJ_mul, zJ_neg, zJ_l2i, zI_add, zI_sub, zI_mul, zI_neg, ↓Option.bind_some]); simp (disch := (first | assumption | exact tI_rg _ | omega | exact uR_at | exact row_ne hF (by decide) | exact row_ne (row_ne hF (by decide)) (by decide) | exact SnS_18 | exact SnS_30 | exact LdS_44 | exact LdS_46)) only [q_312_0, q_312_67, q_312_73, hF, q3', ↓n_rd, ↓n_al, ↓n_cI, ↓n_cJ, li_0, li_1, li_2, li_5, li_12, lj_0, lj_1, lj_2, lj_5, lj_12, zJ_add, zJ_sub, zJ_mul, zJ_neg, zJ_l2i, tJ_zJ, zI_add, zI_sub, zI_mul, zI_neg, ↓Option.bind_some, ↓g12_5, ↓g12_0, ↓g12_54, ↓p12_5, ↓al_218, ↓as_218, ↓al_244, ↓as_244, zIt2, uR_at, uR_ne, uR_uR, uC_uC, uC_at, ↓reduceIte, decide_eq_true_eq, leT, leF, ltT, ltF, eqT, eqF, ne_eq, not_true_eq_false, not_false_eq_true, Bool.false_eq_true, tI_zI]
      rw [q_312_0]; (try simp only [↓n_rd, ↓n_al, ↓n_cI, ↓n_cJ, li_0, li_1, li_2, li_5, li_12, lj_0, lj_1, lj_2, lj_5, lj_12, zJ_add, zJ_sub, zJ_mul, zJ_neg, zJ_l2i, zI_add, zI_sub, zI_mul, zI_neg, ↓Option.bind_some]); simp (disch := (first | assumption | exact tI_rg _ | omega | exact uR_at | exact row_ne hF (by decide) | exact row_ne (row_ne hF (by decide)) (by decide) | exact SnS_18 | exact SnS_30 | exact LdS_44 | exact LdS_46)) only [q_312_67, q_312_73, ↓cc_235, ha, ↓hl, ↓n_rd, ↓n_al, ↓n_cI, ↓n_cJ, li_0, li_1, li_2, li_5, li_12, lj_0, lj_1, lj_2, lj_5, lj_12, zJ_add, zJ_sub, zJ_mul, zJ_neg, zJ_l2i, tJ_zJ, zI_add, zI_sub, zI_mul, zI_neg, ↓Option.bind_some, ↓g12_5, ↓g12_0, ↓g12_54, ↓p12_5, ↓al_218, ↓as_218, ↓al_244, ↓as_244, zIt2, uR_at, uR_ne, uR_uR, uC_uC, uC_at, ↓reduceIte, decide_eq_true_eq, leT, leF, ltT, ltF, eqT, eqF, ne_eq, not_true_eq_false, not_false_eq_true, Bool.false_eq_true, tI_zI]
  · have ha : tfZ F x = 1 := if_neg c1
    unfold a_reads
    rw [ha]
    show (_ : ResP) = some (Sum.inl (some (.int (zI 0))), mk E (uR F 217 (uC (F 217) 5 (zI 1))) G)
    refine into (D := 3) (by omega) hM_312 (rcv_mk rfl (by decide)) rfl fun d hd => ?_
    show runP MP d 312 (0, [some (.ref 217), some (.int (zI x)), none, none], [], _) = _
    rw [q_312_0]; (try simp only [↓n_rd, ↓n_al, ↓n_cI, ↓n_cJ, li_0, li_1, li_2, li_5, li_12, lj_0, lj_1, lj_2, lj_5, lj_12, zJ_add, zJ_sub, zJ_mul, zJ_neg, zJ_l2i, zI_add, zI_sub, zI_mul, zI_neg, ↓Option.bind_some]); simp (disch := (first | assumption | exact tI_rg _ | omega | exact uR_at | exact row_ne hF (by decide) | exact row_ne (row_ne hF (by decide)) (by decide) | exact SnS_18 | exact SnS_30 | exact LdS_44 | exact LdS_46)) only [q_312_67, q_312_73, ↓cc_235, ha, ↓n_rd, ↓n_al, ↓n_cI, ↓n_cJ, li_0, li_1, li_2, li_5, li_12, lj_0, lj_1, lj_2, lj_5, lj_12, zJ_add, zJ_sub, zJ_mul, zJ_neg, zJ_l2i, tJ_zJ, zI_add, zI_sub, zI_mul, zI_neg, ↓Option.bind_some, ↓g12_5, ↓g12_0, ↓g12_54, ↓p12_5, ↓al_218, ↓as_218, ↓al_244, ↓as_244, zIt2, uR_at, uR_ne, uR_uR, uC_uC, uC_at, ↓reduceIte, decide_eq_true_eq, leT, leF, ltT, ltF, eqT, eqF, ne_eq, not_true_eq_false, not_false_eq_true, Bool.false_eq_true, tI_zI]
theorem write_rg (F : Nat → Int → Int32) (x y : Int) : a_write F x y = 0 ∨ a_write F x y = 1 ∨ a_write F x y = 2 ∨ a_write F x y = 3 := by
  unfold a_write
  (repeat' split) <;> omega
theorem write_0 {F : Nat → Int → Int32} {x y : Int} (h : a_write F x y = 0) : (0 ≤ x ∧ x < 4) ∧ (0 ≤ y ∧ y < tI (F 244 x)) := by
  unfold a_write at h
  split at h
  · split at h
    · omega
    · split at h
      · exact ⟨by assumption, by assumption⟩
      · omega
  · omega
/-- the answer of write with its code -/
def aw_write (F : Nat → Int → Int32) (x y : Int) (v : Int64) : Int × Int := (a_write F x y, if a_write F x y = 0 then tJ (cutJ (tI (F 243 x)) v) else 0)
theorem write_thr {F : Nat → Int → Int32} {x y : Int} {v : Int64} : (if a_write F x y = 0 then Sum.inl (some (.long (cutJ (tI (F 243 x)) v))) else if a_write F x y = 1 then Sum.inr 0 else if a_write F x y = 2 then Sum.inr 1 else Sum.inr 3 : OutP) = thrJ [0, 1, 3] (aw_write F x y v) := by
  unfold thrJ aw_write
  dsimp only
  rcases write_rg F x y with h | h | h | h
  · rw [if_pos h, if_pos h, if_pos h, zJ_tJ]
  · rw [h]; rfl
  · rw [h]; rfl
  · rw [h]; rfl
theorem write_lg {F : Nat → Int → Int32} {x y : Int} {v : Int64} : (if a_write F x y = 0 then cutJ (tI (F 243 x)) v else zJ 0) = zJ (aw_write F x y v).2 := by
  unfold aw_write
  dsimp only
  by_cases h : a_write F x y = 0
  · rw [if_pos h, if_pos h, zJ_tJ]
  · rw [if_neg h, if_neg h]
theorem wmG_ne {F : Nat → Int → Int32} {G : Nat → Int → Int64} {x y : Int} {v : Int64} {q : Nat} (h : q ≠ 245) : wmG F G x y v q = G q := by unfold wmG; exact uR_ne h
theorem wmG_at {F : Nat → Int → Int32} {G : Nat → Int → Int64} {x y : Int} {v : Int64} : wmG F G x y v 245 = uC (G 245) (30 * x + y) (cutJ (tI (F 243 x)) v) := by unfold wmG; exact uR_at
theorem TpR_217 {F : Nat → Int → Int32} {t c : Int} (h : TpR F t) : TpR (uR F 217 (uC (F 217) 5 (zI c))) t := by
  obtain ⟨c1, c2, c3, c4⟩ := h
  refine ⟨c1, by rw [uR_ne (by decide)]; exact c2, by rw [uR_at, uC_ne (by decide)]; exact c3, by rw [uR_ne (by decide), uR_ne (by decide)]; exact c4⟩
theorem tn_53 {d L : Nat} {b k : Int} {E : EnQ} {F : Nat → Int → Int32} {G : Nat → Int → Int64} {z5 z6 : Option Value} (hC : CLS b L E F G) (hb : b < 1999000000) (hk : 0 ≤ k ∧ k + 6 ≤ L ∧ L ≤ 3072) (hd : 100 ≤ d) : TurnP d b L k 3532 z5 z6 E F G := by
  obtain ⟨d, rfl⟩ : ∃ e, d = e + 1 := ⟨d - 1, by omega⟩
  obtain ⟨-, -, -, ⟨hT, ⟨t, ht⟩, -, -, -⟩, -, ⟨-, hE⟩⟩ := id hC
  generalize hv : lgJ (F 0 (k + 3)) (F 0 (k + 4)) = v
  generalize hx : tI (F 0 (k + 1)) = x
  generalize hy : tI (F 0 (k + 2)) = y
  have ex : F 0 (k + 1) = zI x := by rw [← hx, zI_tI]
  have ey : F 0 (k + 2) = zI y := by rw [← hy, zI_tI]
  have hxr : -2147483648 ≤ x ∧ x ≤ 2147483647 := by rw [← hx]; exact tI_rg _
  have hyr : -2147483648 ≤ y ∧ y ≤ 2147483647 := by rw [← hy]; exact tI_rg _
  obtain ⟨E1, hE1, hc⟩ := cl_write (d := d) (E := E) (F := F) (G := G) hT (x := x) (y := y) (v := v) hxr hyr (by omega)
  rw [write_thr] at hc
  have he : E1.2.2 = E.2.2 := by rcases hE1 with rfl | rfl <;> rfl
  have hr1 : E.1 ≤ E1.1 ∧ E1.1 ≤ E.1 + 40 ∧ E1.2.1 ≤ E.2.1 + 1000 := by
    rcases hE1 with rfl | rfl
    · omega
    · exact ⟨by show E.1 ≤ E.1 + 1; omega, by show E.1 + 1 ≤ _; omega, by show E.2.1 + 6 ≤ _; omega⟩
  have hco : 0 ≤ (aw_write F x y v).1 ∧ (aw_write F x y v).1 ≤ 3 := by
    show 0 ≤ a_write F x y ∧ a_write F x y ≤ 3
    rcases write_rg F x y with h | h | h | h <;> omega
  have hw := wx_365 hc hco
  have hm := ml_writeB (d := d + 1) (E := E1) (F := F) (G := outG (if a_write F x y = 0 then wrG F G x y v else G) (aw_write F x y v).1 (zJ (aw_write F x y v).2)) (TrB_of hT) (x := x) (y := y) (v := v) hxr hyr (by omega)
  rw [write_lg] at hm
  rw [← ex, ← ey, ← hv] at hw hm
  have hq : ∀ q, q ≠ 217 → uR F 217 (uC (F 217) 5 (zI (a_write F x y))) q = F q := fun q a2 => uR_ne a2
  rw [hv] at hw hm
  obtain ⟨y5, y6, hr⟩ := tq_3532 (z5 := z5) (z6 := z6) hE hk (a := aw_write F x y v) ⟨hco.1, by omega⟩ (by rw [hv]; exact hw) (by rw [he]) rfl (by rw [hv]; exact hm) (by rw [uR_at, uC_at]; rfl) (by
    by_cases g : a_write F x y = 0
    · rw [if_pos g]; exact wmG_ne (by decide)
    · rw [if_neg g]) (by omega)
  refine ⟨y5, y6, E1, _, _, hr, ?_, hr1.2⟩
  by_cases g : a_write F x y = 0
  · rw [if_pos g, if_pos g]
    obtain ⟨g1, g2⟩ := write_0 g
    have h30 := (TrB_of hT x g1).2
    refine CLS_frameX hC ?_ ⟨t, TpR_217 ht⟩ (fun q hq' => hq q (by omega)) ?_ ?_ he hr1.1
    · refine TrR_keep (TrR_write hT (x := x) (y := y) (v := v) g1 (by omega)) (fun _ _ => by rw [he]) (fun q q1 q2 => ⟨hq q (by omega), ?_⟩) ⟨hq 243 (by omega), hq 244 (by omega), ?_⟩
      · rw [wmG_ne (by omega), wmG_ne (by omega), outG_ne (by omega)]
      · rw [wmG_at, wmG_at, outG_ne (by omega)]
    · rw [hq 16 (by omega)]; exact ⟨rfl, rfl⟩
    · rw [uR_at, uC_ne (by decide), uC_ne (by decide), uC_ne (by decide)]; exact ⟨rfl, rfl, rfl⟩
  · rw [if_neg g, if_neg g]
    exact CLS_M (CLS_O (CLS_C hC (KeepC_ej hE1))) KeepM_c
theorem tf_0 {F : Nat → Int → Int32} {x : Int} (h : tfZ F x = 0) : 0 ≤ x ∧ x < 4 := by
  unfold tfZ at h
  split at h
  · assumption
  · omega
theorem rmG_ne {F : Nat → Int → Int32} {G : Nat → Int → Int64} {K : Int → Int32} {x : Int} {j q : Nat} (h : q ≠ 245) : rmG F G K x j q = G q := by unfold rmG; exact uR_ne h
theorem rmG_at {F : Nat → Int → Int32} {G : Nat → Int → Int64} {K : Int → Int32} {x : Int} {j : Nat} : rmG F G K x j 245 = rdR (wysN K) (tdM F x) (tI (F 243 x)) (30 * x) (G 245) j := by unfold rmG; exact uR_at
theorem tn_51 {d L : Nat} {b k : Int} {E : EnQ} {F : Nat → Int → Int32} {G : Nat → Int → Int64} {z5 z6 : Option Value} (hC : CLS b L E F G) (hb : b < 1999000000) (hk : 0 ≤ k ∧ k + 6 ≤ L ∧ L ≤ 3072) (hd : 100 ≤ d) : TurnP d b L k 3416 z5 z6 E F G := by
  obtain ⟨d, rfl⟩ : ∃ e, d = e + 1 := ⟨d - 1, by omega⟩
  obtain ⟨⟨hO, -, -⟩, -, -, ⟨hT, ⟨t, ht⟩, -, -, -⟩, -, ⟨-, hE⟩⟩ := id hC
  have hI := hO.2.2.2.2
  generalize hx : tI (F 0 (k + 1)) = x
  have ex : F 0 (k + 1) = zI x := by rw [← hx, zI_tI]
  have hxr : -2147483648 ≤ x ∧ x ≤ 2147483647 := by rw [← hx]; exact tI_rg _
  obtain ⟨E1, hE1, hc⟩ := cl_reads (d := d) (E := E) (F := F) (G := G) hO hT (x := x) hxr (by omega)
  have he : E1.2.2 = E.2.2 := by rcases hE1 with rfl | rfl <;> rfl
  have hr1 : E.1 ≤ E1.1 ∧ E1.1 ≤ E.1 + 40 ∧ E1.2.1 ≤ E.2.1 + 1000 := by
    rcases hE1 with rfl | rfl
    · omega
    · exact ⟨by show E.1 ≤ E.1 + 1; omega, by show E.1 + 1 ≤ _; omega, by show E.2.1 + 6 ≤ _; omega⟩
  have hco : 0 ≤ (a_reads F (F 218) x).1 ∧ (a_reads F (F 218) x).1 ≤ 2 := co_reads
  have hw := wx_363 hc hco
  have hm := ml_readsB (d := d + 1) (E := E1) (F := F) (G := outG (if tfZ F x = 0 then rcG F G (F 218) x 32 else G) (a_reads F (F 218) x).1 (Int32.toInt64 (zI (a_reads F (F 218) x).2))) hI rfl (TrB_of hT) (x := x) hxr (by omega)
  rw [← ex] at hw hm
  have hq : ∀ q, q ≠ 217 → uR F 217 (uC (F 217) 5 (zI (a_reads F (F 218) x).1)) q = F q := fun q a2 => uR_ne a2
  obtain ⟨y5, y6, hr⟩ := tq_3416 (z5 := z5) (z6 := z6) hE hk (a := a_reads F (F 218) x) ⟨hco.1, by omega⟩ hw (by rw [he]) rfl hm (by rw [uR_at, uC_at]) (by
    by_cases g : tfZ F x = 0
    · rw [if_pos g]; exact rmG_ne (by decide)
    · rw [if_neg g]) (by omega)
  refine ⟨y5, y6, E1, _, _, hr, ?_, hr1.2⟩
  by_cases g : tfZ F x = 0
  · rw [if_pos g, if_pos g]
    refine CLS_frameX hC ?_ ⟨t, TpR_217 ht⟩ (fun q hq' => hq q (by omega)) ?_ ?_ he hr1.1
    · refine TrR_keep (TrR_reads hT (K := F 218) (x := x) (tf_0 g)) (fun _ _ => by rw [he]) (fun q q1 q2 => ⟨hq q (by omega), ?_⟩) ⟨hq 243 (by omega), hq 244 (by omega), ?_⟩
      · rw [rmG_ne (by omega), rmG_ne (by omega), outG_ne (by omega)]
      · rw [rmG_at, rmG_at, outG_ne (by omega)]
    · rw [hq 16 (by omega)]; exact ⟨rfl, rfl⟩
    · rw [uR_at, uC_ne (by decide), uC_ne (by decide), uC_ne (by decide)]; exact ⟨rfl, rfl, rfl⟩
  · rw [if_neg g, if_neg g]
    exact CLS_M (CLS_O (CLS_C hC (KeepC_ej hE1))) KeepM_c
end S94zzzzzj
