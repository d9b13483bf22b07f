/-! MODEL: again, the call -/
section S94zm
set_option linter.unusedVariables false
set_option linter.unusedSimpArgs false
def agF (F : Nat → Int → Int32) (K : Int → Int32) (L r : Int → Int32) : Nat → Int → Int32 := uR (uR (uR (uR F 217 (uC (F 217) 5 (zI 0))) 220 (cpK K (F 220))) 218 L) 227 r
theorem agF_218 {F : Nat → Int → Int32} {K L r : Int → Int32} : agF F K L r 218 = L := (uR_ne (by decide)).trans uR_at
theorem agF_227 {F : Nat → Int → Int32} {K L r : Int → Int32} : agF F K L r 227 = r := uR_at
theorem agF_220 {F : Nat → Int → Int32} {K L r : Int → Int32} : agF F K L r 220 = cpK K (F 220) := (uR_ne (by decide)).trans ((uR_ne (by decide)).trans uR_at)
theorem agF_set {F : Nat → Int → Int32} {K L L2 r : Int → Int32} : uR (agF F K L r) 218 L2 = agF F K L2 r := by
  unfold agF
  rw [uR_comm (by decide : (227 : Nat) ≠ 218), uR_uR]
theorem agF_row {F : Nat → Int → Int32} {K L r r2 : Int → Int32} : uR (agF F K L r) 227 r2 = agF F K L r2 := uR_uR
theorem agF_calm {F : Nat → Int → Int32} {K L r : Int → Int32} : agF F K L r 217 18 = F 217 18 := by
  unfold agF
  rw [uR_ne (by decide), uR_ne (by decide), uR_ne (by decide), uR_at, uC_ne (by decide)]
theorem ml_again {d : Nat} {E : EnQ} {F : Nat → Int → Int32} {G : Nat → Int → Int64} {K : Int → Int32} (hI : InvK K) (hF : F 218 = K) (hc : tI (F 217 18) = 0) (hst : stepsZ K < 1999000000) {x : Int} (hx : -2147483648 ≤ x ∧ x ≤ 2147483647) (hd : 5 ≤ d) : ∃ F1, callP MP d 270 [.ref 217, .int (zI x)] (mk E F G) = some (Sum.inl (some (.int (zI (a_again K x).2))), mk E F1 G) ∧ F1 217 5 = zI (a_again K x).1 ∧ KeepM F G F1 G := by
  by_cases c1 : 0 ≤ x ∧ x ≤ 1
  · have ha : a_again K x = (0, if agK K = -1 then -1 else if x = 0 then agK K - agI K (agK K).toNat else agI K (agK K).toNat) := if_pos c1
    obtain ⟨e, rfl⟩ : ∃ e, d = e + 1 := ⟨d - 1, by omega⟩
    have hin : callP MP (e + 1) 270 [.ref 217, .int (zI x)] (mk E F G) = runP MP e 270 (0, [some (.ref 217), some (.int (zI x)), none, none, none, none], [], mk E F G) := into_eq (by omega) hM_270 (rcv_mk rfl (by decide)) rfl
    have kr := agK_rg K
    have hrd : ∀ k : Nat, k ≤ 120 → InvK (rndK K k) ∧ stepsZ (rndK K k) < 1999999000 ∧ tI (rndK K k 3) = tI (K 3) := fun k hk => by
      obtain ⟨i1, i2, i3, i4⟩ := rndK_inv hI (by omega) k (by omega)
      exact ⟨i1, by omega, by rw [i4 3 (by omega)]⟩
    have hsm : ∀ i k : Nat, i ≤ 120 → k ≤ 120 → smM (rndK K i) (rndK K k) = smC (rndK K i) (rndK K k) := fun i k hi hk => by
      have b3 := hI.1.2.2.2.1
      refine sm_same (hrd i hi).1 (hrd k hk).1 (by rw [(hrd i hi).2.2, (hrd k hk).2.2]) (fun y y0 y1 => ?_)
      rw [(hrd i hi).2.2] at y0
      have q := fun n hn => rndK_rest hI (by omega) (j := 38 + 2 * y) (by omega) n hn
      have q2 := fun n hn => rndK_rest hI (by omega) (j := 206 + y) (by omega) n hn
      rw [q i (by omega), q k (by omega), q2 i (by omega), q2 k (by omega)]; exact ⟨rfl, rfl⟩
    -- the ends
    have hfin : ∀ (f wh k : Int) (z : Option Value) (n : Nat) (r : Int → Int32), n ≤ 120 → (-1 ≤ f ∧ f ≤ 120) → runP MP e 270 (111, [some (.ref 217), some (.int (zI x)), some (.int (zI (f))), some (.int (zI (wh))), some (.int (zI (k))), z], [], mk E (agF F K (rndK K n) r) G) = some (Sum.inl (some (.int (zI (if f = -1 then -1 else if x = 0 then wh - f else f)))), mk E (agF F K K r) G) := fun f wh k z n r hn hf => by
      have hcp : ∀ {kk : HeapP → ResP} {kx : Nat → HeapP → ResP}, cV (callP MP e 206 [.ref 220, .ref 218] (mk E (agF F K (rndK K n) r) G)) kk kx = kk (mk E (agF F K K r) G) := fun {kk kx} => by
        rw [cc_206 (E := E) (a := 220) (b := 218) rfl rfl (by decide) (by omega), agF_220, agF_218, agF_set, cp_back (fun j hj => rndK_rest hI (by omega) (by omega) n (by omega))]
      by_cases g : f = -1
      · rw [if_pos g, g]
        rw [q_270_111]; (try simp only [↓n_cI, li_0, li_1, li_2, li_5, li_12, li_70, li_120, li_206, lj_0, lj_1, lj_2, lj_5, lj_12, zJ_add, zJ_sub, zJ_mul, zJ_neg, zJ_l2i, zI_add, zI_sub, zI_mul, zI_neg, ↓Option.bind_some]); simp (disch := (first | assumption | exact tI_rg _ | omega | exact uR_at | exact row_ne hF (by decide) | exact row_ne (row_ne hF (by decide)) (by decide) | exact SnS_18 | exact SnS_30 | exact LdS_44 | exact LdS_46)) only [q_270_0, q_270_96, q_270_102, q_270_142, ↓hcp, ↓n_cI, li_0, li_1, li_2, li_5, li_12, li_70, li_120, li_206, lj_0, lj_1, lj_2, lj_5, lj_12, zJ_add, zJ_sub, zJ_mul, zJ_neg, zJ_l2i, tJ_zJ, zI_add, zI_sub, zI_mul, zI_neg, ↓Option.bind_some, ↓g12_0, ↓g12_2, ↓p12_5, ↓al_218, ↓as_218, ↓al_220, ↓as_220, zIt2, uR_at, uR_ne, uR_uR, uC_uC, uC_at, ↓reduceIte, decide_eq_true_eq, leT, leF, ltT, ltF, eqT, eqF, ne_eq, not_true_eq_false, not_false_eq_true, Bool.false_eq_true, tI_zI]
      · rw [if_neg g]
        by_cases g2 : x = 0
        · rw [if_pos g2]
          rw [q_270_111]; (try simp only [↓n_cI, li_0, li_1, li_2, li_5, li_12, li_70, li_120, li_206, lj_0, lj_1, lj_2, lj_5, lj_12, zJ_add, zJ_sub, zJ_mul, zJ_neg, zJ_l2i, zI_add, zI_sub, zI_mul, zI_neg, ↓Option.bind_some]); simp (disch := (first | assumption | exact tI_rg _ | omega | exact uR_at | exact row_ne hF (by decide) | exact row_ne (row_ne hF (by decide)) (by decide) | exact SnS_18 | exact SnS_30 | exact LdS_44 | exact LdS_46)) only [q_270_0, q_270_96, q_270_102, q_270_142, ↓hcp, g2, ↓n_cI, li_0, li_1, li_2, li_5, li_12, li_70, li_120, li_206, lj_0, lj_1, lj_2, lj_5, lj_12, zJ_add, zJ_sub, zJ_mul, zJ_neg, zJ_l2i, tJ_zJ, zI_add, zI_sub, zI_mul, zI_neg, ↓Option.bind_some, ↓g12_0, ↓g12_2, ↓p12_5, ↓al_218, ↓as_218, ↓al_220, ↓as_220, zIt2, uR_at, uR_ne, uR_uR, uC_uC, uC_at, ↓reduceIte, decide_eq_true_eq, leT, leF, ltT, ltF, eqT, eqF, ne_eq, not_true_eq_false, not_false_eq_true, Bool.false_eq_true, tI_zI]
        · rw [if_neg g2]
          rw [q_270_111]; (try simp only [↓n_cI, li_0, li_1, li_2, li_5, li_12, li_70, li_120, li_206, lj_0, lj_1, lj_2, lj_5, lj_12, zJ_add, zJ_sub, zJ_mul, zJ_neg, zJ_l2i, zI_add, zI_sub, zI_mul, zI_neg, ↓Option.bind_some]); simp (disch := (first | assumption | exact tI_rg _ | omega | exact uR_at | exact row_ne hF (by decide) | exact row_ne (row_ne hF (by decide)) (by decide) | exact SnS_18 | exact SnS_30 | exact LdS_44 | exact LdS_46)) only [q_270_0, q_270_96, q_270_102, q_270_142, ↓hcp, ↓n_cI, li_0, li_1, li_2, li_5, li_12, li_70, li_120, li_206, lj_0, lj_1, lj_2, lj_5, lj_12, zJ_add, zJ_sub, zJ_mul, zJ_neg, zJ_l2i, tJ_zJ, zI_add, zI_sub, zI_mul, zI_neg, ↓Option.bind_some, ↓g12_0, ↓g12_2, ↓p12_5, ↓al_218, ↓as_218, ↓al_220, ↓as_220, zIt2, uR_at, uR_ne, uR_uR, uC_uC, uC_at, ↓reduceIte, decide_eq_true_eq, leT, leF, ltT, ltF, eqT, eqF, ne_eq, not_true_eq_false, not_false_eq_true, Bool.false_eq_true, tI_zI]
    have hres : ∀ r : Int → Int32, ∀ v : Int, v = (a_again K x).2 → (∃ F1, (some (Sum.inl (some (.int (zI v))), mk E (agF F K K r) G) : ResP) = some (Sum.inl (some (.int (zI (a_again K x).2))), mk E F1 G) ∧ F1 217 5 = zI (a_again K x).1 ∧ KeepM F G F1 G) := fun r v hv => by
      refine ⟨agF F K K r, by rw [hv], ?_, ?_⟩
      · rw [ha]; unfold agF; rw [uR_ne (by decide), uR_ne (by decide), uR_ne (by decide), uR_at, uC_at]
      · refine ⟨fun q h1 h2 h3 h4 => ?_, fun j hj => ?_, fun q hq => rfl⟩
        · unfold agF
          rw [uR_ne (by omega)]
          by_cases z : q = 218
          · rw [z, uR_at, hF]
          · rw [uR_ne z, uR_ne h3, uR_ne h1]
        · unfold agF
          rw [uR_ne (by decide), uR_ne (by decide), uR_ne (by decide), uR_at, uC_ne (by omega)]
    have h0 : ∃ r, runP MP e 270 (0, [some (.ref 217), some (.int (zI x)), none, none, none, none], [], mk E F G) = runP MP e 270 (44, [some (.ref 217), some (.int (zI x)), some (.int (zI (-1))), some (.int (zI (-1))), some (.int (zI (1))), none], [], mk E (agF F K K r) G) ∧ ∀ i : Nat, i < 134 → r (i : Int) = zI (pcM K i) := by
      obtain ⟨r, n1, n2, n3⟩ := ct_271 (d := e) (E := E) (F := uR (uR F 217 (uC (F 217) 5 (zI 0))) 220 (cpK K (F 220))) (G := G) hI (row_ne (row_ne hF (by decide)) (by decide)) (by omega) (t := 0) (by omega) (by omega)
      have ef : uR (uR (uR F 217 (uC (F 217) 5 (zI 0))) 220 (cpK K (F 220))) 227 r = agF F K K r := by
        unfold agF
        rw [show uR (uR (uR F 217 (uC (F 217) 5 (zI 0))) 220 (cpK K (F 220))) 218 K = uR (uR F 217 (uC (F 217) 5 (zI 0))) 220 (cpK K (F 220)) by
          have e1 : uR (uR F 217 (uC (F 217) 5 (zI 0))) 220 (cpK K (F 220)) 218 = K := row_ne (row_ne hF (by decide)) (by decide)
          exact (congrArg (fun z => uR (uR (uR F 217 (uC (F 217) 5 (zI 0))) 220 (cpK K (F 220))) 218 z) e1.symm).trans uR_self]
      rw [ef] at n1
      refine ⟨r, ?_, fun i hi => ?_⟩
      · have h206 : ∀ {kk : HeapP → ResP} {kx : Nat → HeapP → ResP}, cV (callP MP e 206 [.ref 218, .ref 220] (mk E (uR F 217 (uC (F 217) 5 (zI 0))) G)) kk kx = kk (mk E (uR (uR F 217 (uC (F 217) 5 (zI 0))) 220 (cpK K (F 220))) G) := fun {kk kx} => by
          rw [cc_206 (E := E) (a := 218) (b := 220) rfl rfl (by decide) (by omega), uR_ne (by decide : (218 : Nat) ≠ 217), uR_ne (by decide : (220 : Nat) ≠ 217), hF]
        have h271 : ∀ {kk : HeapP → ResP} {kx : Nat → HeapP → ResP}, cV (callP MP e 271 [.ref 217, .int (zI 0)] (mk E (uR (uR F 217 (uC (F 217) 5 (zI 0))) 220 (cpK K (F 220))) G)) kk kx = kk (mk E (agF F K K r) G) := fun {kk kx} => cV_ret n1
        rw [q_270_0]; (try simp only [↓n_cI, li_0, li_1, li_2, li_5, li_12, li_70, li_120, li_206, lj_0, lj_1, lj_2, lj_5, lj_12, zJ_add, zJ_sub, zJ_mul, zJ_neg, zJ_l2i, zI_add, zI_sub, zI_mul, zI_neg, ↓Option.bind_some]); simp (disch := (first | assumption | exact tI_rg _ | omega | exact uR_at | exact row_ne hF (by decide) | exact row_ne (row_ne hF (by decide)) (by decide) | exact SnS_18 | exact SnS_30 | exact LdS_44 | exact LdS_46)) only [q_270_96, q_270_102, q_270_111, q_270_142, ↓cc_188t, zI_i2l, ↓h206, ↓h271, ↓n_cI, li_0, li_1, li_2, li_5, li_12, li_70, li_120, li_206, lj_0, lj_1, lj_2, lj_5, lj_12, zJ_add, zJ_sub, zJ_mul, zJ_neg, zJ_l2i, tJ_zJ, zI_add, zI_sub, zI_mul, zI_neg, ↓Option.bind_some, ↓g12_0, ↓g12_2, ↓p12_5, ↓al_218, ↓as_218, ↓al_220, ↓as_220, zIt2, uR_at, uR_ne, uR_uR, uC_uC, uC_at, ↓reduceIte, decide_eq_true_eq, leT, leF, ltT, ltF, eqT, eqF, ne_eq, not_true_eq_false, not_false_eq_true, Bool.false_eq_true, tI_zI]
      · have := n2 i hi
        rw [show 134 * ((0 : Nat) : Int) + (i : Int) = (i : Int) by omega] at this
        exact this
    obtain ⟨r0, h01, h02⟩ := h0
    rw [hin, h01]
    refine loopS (σ := (Int → Int32) × Int × Option Value) (Post := fun z => ∃ F1, z = some (Sum.inl (some (.int (zI (a_again K x).2))), mk E F1 G) ∧ F1 217 5 = zI (a_again K x).1 ∧ KeepM F G F1 G)
      (fun j s => runP MP e 270 (44, [some (.ref 217), some (.int (zI x)), some (.int (zI (-1))), some (.int (zI (s.2.1))), some (.int (zI ((j : Int) + 1))), s.2.2], [], mk E (agF F K (rndK K j) s.1) G))
      (fun j s => (∀ t : Nat, t < j + 1 → ∀ i : Nat, i < 134 → s.1 (134 * (t : Int) + (i : Int)) = zI (pcM (rndK K t) i)) ∧ ∀ k, k < j + 1 → agI K k = -1) 120 (r0, -1, none) ⟨fun t ht i hi => ?_, fun k hk => ?_⟩ (fun s hs => ?_) (fun j s hj hs => ?_)
    · have e0 : t = 0 := by omega
      rw [e0, show 134 * ((0 : Nat) : Int) + (i : Int) = (i : Int) by omega]; exact h02 i hi
    · have e0 : k = 0 := by omega
      rw [e0]; rfl
    · have ek : agK K = -1 := fndN_none (fun i _ hi => decide_eq_false (fun z => z (hs.2 i (by omega))))
      have := hfin (-1) s.2.1 121 s.2.2 120 s.1 (Nat.le_refl _) (by omega)
      have h44 : runP MP e 270 (44, [some (.ref 217), some (.int (zI x)), some (.int (zI (-1))), some (.int (zI (s.2.1))), some (.int (zI (((120 : Nat) : Int) + 1))), s.2.2], [], mk E (agF F K (rndK K 120) s.1) G) = runP MP e 270 (111, [some (.ref 217), some (.int (zI x)), some (.int (zI (-1))), some (.int (zI (s.2.1))), some (.int (zI (121))), s.2.2], [], mk E (agF F K (rndK K 120) s.1) G) := by
        rw [show ((120 : Nat) : Int) + 1 = 121 from rfl]
        rw [q_270_44]; (try simp only [↓n_cI, li_0, li_1, li_2, li_5, li_12, li_70, li_120, li_206, lj_0, lj_1, lj_2, lj_5, lj_12, zJ_add, zJ_sub, zJ_mul, zJ_neg, zJ_l2i, zI_add, zI_sub, zI_mul, zI_neg, ↓Option.bind_some]); simp (disch := (first | assumption | exact tI_rg _ | omega | exact uR_at | exact row_ne hF (by decide) | exact row_ne (row_ne hF (by decide)) (by decide) | exact SnS_18 | exact SnS_30 | exact LdS_44 | exact LdS_46)) only [q_270_0, q_270_96, q_270_102, q_270_142, ↓n_cI, li_0, li_1, li_2, li_5, li_12, li_70, li_120, li_206, lj_0, lj_1, lj_2, lj_5, lj_12, zJ_add, zJ_sub, zJ_mul, zJ_neg, zJ_l2i, tJ_zJ, zI_add, zI_sub, zI_mul, zI_neg, ↓Option.bind_some, ↓g12_0, ↓g12_2, ↓p12_5, ↓al_218, ↓as_218, ↓al_220, ↓as_220, zIt2, uR_at, uR_ne, uR_uR, uC_uC, uC_at, ↓reduceIte, decide_eq_true_eq, leT, leF, ltT, ltF, eqT, eqF, ne_eq, not_true_eq_false, not_false_eq_true, Bool.false_eq_true, tI_zI]
      rw [h44, this]
      exact hres s.1 _ (by rw [ha]; show _ = (if agK K = -1 then (-1 : Int) else _); rw [if_pos ek]; rfl)
    · obtain ⟨i1, i2, i3⟩ := hrd j (by omega)
      obtain ⟨j1, j2, j3⟩ := hrd (j + 1) (by omega)
      obtain ⟨n1, n2, n3, n4⟩ := turK_inv i1 (by omega)
      have b3 := hI.1.2.2.2.1
      have c267 : ∀ {kk : Int → HeapP → ResP} {kx : Nat → HeapP → ResP}, cT (callP MP e 267 [.ref 217] (mk E (agF F K (rndK K j) s.1) G)) kk kx = kk (stepsZ (turK (rndK K j)) - stepsZ (rndK K j)) (mk E (agF F K (rndK K (j + 1)) s.1) G) := fun {kk kx} => by
        have := ct_267 (d := e) (E := E) (F := agF F K (rndK K j) s.1) (G := G) i1 agF_218 (by rw [agF_calm]; exact hc) (by omega) (by omega)
        rw [agF_set] at this
        exact cT_ret this (by show -2147483648 ≤ stepsZ (turK (rndK K j)) - _ ∧ stepsZ (turK (rndK K j)) - _ ≤ _; omega)
      obtain ⟨r, m1, m2, m3⟩ := ct_271 (d := e) (E := E) (F := agF F K (rndK K (j + 1)) s.1) (G := G) j1 agF_218 (by omega) (t := j + 1) (by omega) (by omega)
      rw [agF_row] at m1
      rw [agF_227] at m3
      have c271 : ∀ {kk : HeapP → ResP} {kx : Nat → HeapP → ResP}, cV (callP MP e 271 [.ref 217, .int (zI ((j : Int) + 1))] (mk E (agF F K (rndK K (j + 1)) s.1) G)) kk kx = kk (mk E (agF F K (rndK K (j + 1)) r) G) := fun {kk kx} => cV_ret m1
      have hrows : ∀ t : Nat, t < j + 1 + 1 → ∀ i : Nat, i < 134 → r (134 * (t : Int) + (i : Int)) = zI (pcM (rndK K t) i) := fun t ht i hi => by
        by_cases z : t = j + 1
        · rw [z]; exact m2 i hi
        · rw [m3 _ (by omega)]; exact hs.1 t (by omega) i hi
      have hcmp : ∀ i : Nat, i < j + 1 → (if fndN (fun q : Nat => decide (tI (agF F K (rndK K (j + 1)) r 227 (134 * (i : Int) + (q : Int))) ≠ tI (agF F K (rndK K (j + 1)) r 227 (134 * ((j + 1 : Nat) : Int) + (q : Int))))) 134 0 = -1 then (1 : Int) else 0) = if smC (rndK K i) (rndK K (j + 1)) = true then 1 else 0 := fun i hi => by
        have hcg : fndN (fun q : Nat => decide (tI (agF F K (rndK K (j + 1)) r 227 (134 * (i : Int) + (q : Int))) ≠ tI (agF F K (rndK K (j + 1)) r 227 (134 * ((j + 1 : Nat) : Int) + (q : Int))))) 134 0 = fndN (fun q : Nat => decide (pcM (rndK K i) q ≠ pcM (rndK K (j + 1)) q)) 134 0 := fndN_congr (fun q _ hq => by
          have q1 := pm_rg (hrd i (by omega)).1 (q : Int)
          have q2 := pm_rg j1 (q : Int)
          rw [agF_227, hrows i (by omega) q (by omega), hrows (j + 1) (by omega) q (by omega), tI_zI q1, tI_zI q2])
        rw [hcg, ← hsm i (j + 1) (by omega) (by omega)]
        unfold smM
        by_cases z : fndN (fun q : Nat => decide (pcM (rndK K i) q ≠ pcM (rndK K (j + 1)) q)) 134 0 = -1
        · rw [if_pos z, if_pos (decide_eq_true z)]
        · rw [if_neg z, if_neg (fun y => z (of_decide_eq_true y))]
      have hin : (∃ i : Nat, i < j + 1 ∧ smC (rndK K i) (rndK K (j + 1)) = true ∧ (∀ q, q < i → smC (rndK K q) (rndK K (j + 1)) = false) ∧ ∃ z : Int, runP MP e 270 (70, [some (.ref 217), some (.int (zI x)), some (.int (zI (-1))), some (.int (zI (s.2.1))), some (.int (zI ((j : Int) + 1))), some (.int (zI 0))], [], mk E (agF F K (rndK K (j + 1)) r) G) = runP MP e 270 (102, [some (.ref 217), some (.int (zI x)), some (.int (zI ((i : Int)))), some (.int (zI (s.2.1))), some (.int (zI ((j : Int) + 1))), some (.int (zI z))], [], mk E (agF F K (rndK K (j + 1)) r) G)) ∨ ((∀ q, q < j + 1 → smC (rndK K q) (rndK K (j + 1)) = false) ∧ ∃ z : Int, runP MP e 270 (70, [some (.ref 217), some (.int (zI x)), some (.int (zI (-1))), some (.int (zI (s.2.1))), some (.int (zI ((j : Int) + 1))), some (.int (zI 0))], [], mk E (agF F K (rndK K (j + 1)) r) G) = runP MP e 270 (102, [some (.ref 217), some (.int (zI x)), some (.int (zI (-1))), some (.int (zI (s.2.1))), some (.int (zI ((j : Int) + 1))), some (.int (zI z))], [], mk E (agF F K (rndK K (j + 1)) r) G)) := by
        refine loopS (σ := Unit) (Post := fun y => (∃ i : Nat, i < j + 1 ∧ smC (rndK K i) (rndK K (j + 1)) = true ∧ (∀ q, q < i → smC (rndK K q) (rndK K (j + 1)) = false) ∧ ∃ z : Int, y = runP MP e 270 (102, [some (.ref 217), some (.int (zI x)), some (.int (zI ((i : Int)))), some (.int (zI (s.2.1))), some (.int (zI ((j : Int) + 1))), some (.int (zI z))], [], mk E (agF F K (rndK K (j + 1)) r) G)) ∨ ((∀ q, q < j + 1 → smC (rndK K q) (rndK K (j + 1)) = false) ∧ ∃ z : Int, y = runP MP e 270 (102, [some (.ref 217), some (.int (zI x)), some (.int (zI (-1))), some (.int (zI (s.2.1))), some (.int (zI ((j : Int) + 1))), some (.int (zI z))], [], mk E (agF F K (rndK K (j + 1)) r) G)))
          (fun i _ => runP MP e 270 (70, [some (.ref 217), some (.int (zI x)), some (.int (zI (-1))), some (.int (zI (s.2.1))), some (.int (zI ((j : Int) + 1))), some (.int (zI (i : Int)))], [], mk E (agF F K (rndK K (j + 1)) r) G))
          (fun i _ => ∀ q, q < i → smC (rndK K q) (rndK K (j + 1)) = false) (j + 1) () (fun q hq => by omega) (fun _ hs2 => Or.inr ⟨hs2, (j : Int) + 1, ?_⟩) (fun i _ hi hs2 => ?_)
        · show runP MP e 270 (70, [some (.ref 217), some (.int (zI x)), some (.int (zI (-1))), some (.int (zI (s.2.1))), some (.int (zI ((j : Int) + 1))), some (.int (zI ((j : Int) + 1)))], [], mk E (agF F K (rndK K (j + 1)) r) G) = runP MP e 270 _
          rw [q_270_70]; (try simp only [↓n_cI, li_0, li_1, li_2, li_5, li_12, li_70, li_120, li_206, lj_0, lj_1, lj_2, lj_5, lj_12, zJ_add, zJ_sub, zJ_mul, zJ_neg, zJ_l2i, zI_add, zI_sub, zI_mul, zI_neg, ↓Option.bind_some]); simp (disch := (first | assumption | exact tI_rg _ | omega | exact uR_at | exact row_ne hF (by decide) | exact row_ne (row_ne hF (by decide)) (by decide) | exact SnS_18 | exact SnS_30 | exact LdS_44 | exact LdS_46)) only [q_270_0, q_270_96, q_270_111, q_270_142, ↓n_cI, li_0, li_1, li_2, li_5, li_12, li_70, li_120, li_206, lj_0, lj_1, lj_2, lj_5, lj_12, zJ_add, zJ_sub, zJ_mul, zJ_neg, zJ_l2i, tJ_zJ, zI_add, zI_sub, zI_mul, zI_neg, ↓Option.bind_some, ↓g12_0, ↓g12_2, ↓p12_5, ↓al_218, ↓as_218, ↓al_220, ↓as_220, zIt2, uR_at, uR_ne, uR_uR, uC_uC, uC_at, ↓reduceIte, decide_eq_true_eq, leT, leF, ltT, ltF, eqT, eqF, ne_eq, not_true_eq_false, not_false_eq_true, Bool.false_eq_true, tI_zI]
        · have c272 : ∀ {kk : Int → HeapP → ResP} {kx : Nat → HeapP → ResP}, cT (callP MP e 272 [.ref 217, .int (zI (i : Int)), .int (zI ((j : Int) + 1))] (mk E (agF F K (rndK K (j + 1)) r) G)) kk kx = kk (if smC (rndK K i) (rndK K (j + 1)) = true then 1 else 0) (mk E (agF F K (rndK K (j + 1)) r) G) := fun {kk kx} => by
            have := cc_272 (d := e) (E := E) (F := agF F K (rndK K (j + 1)) r) (G := G) (kk := kk) (kx := kx) (t := i) (u := j + 1) (by omega) (by omega) (by omega)
            rw [hcmp i hi] at this
            exact this
          by_cases g : smC (rndK K i) (rndK K (j + 1)) = true
          · rw [if_pos g] at c272
            left; left
            refine ⟨i, hi, g, hs2, (i : Int) + 1, ?_⟩
            show runP MP e 270 _ = runP MP e 270 _
            rw [q_270_70]
            simp (disch := (first | assumption | exact tI_rg _ | omega | exact uR_at | exact row_ne hF (by decide) | exact row_ne (row_ne hF (by decide)) (by decide) | exact SnS_18 | exact SnS_30 | exact LdS_44 | exact LdS_46)) only [q_270_0, q_270_96, q_270_111, q_270_142, ↓c272, ↓n_cI, li_0, li_1, li_2, li_5, li_12, li_70, li_120, li_206, lj_0, lj_1, lj_2, lj_5, lj_12, zJ_add, zJ_sub, zJ_mul, zJ_neg, zJ_l2i, tJ_zJ, zI_add, zI_sub, zI_mul, zI_neg, ↓Option.bind_some, ↓g12_0, ↓g12_2, ↓p12_5, ↓al_218, ↓as_218, ↓al_220, ↓as_220, zIt2, uR_at, uR_ne, uR_uR, uC_uC, uC_at, ↓reduceIte, decide_eq_true_eq, leT, leF, ltT, ltF, eqT, eqF, ne_eq, not_true_eq_false, not_false_eq_true, Bool.false_eq_true, tI_zI]
            rw [q_270_70]; (try simp only [↓n_cI, li_0, li_1, li_2, li_5, li_12, li_70, li_120, li_206, lj_0, lj_1, lj_2, lj_5, lj_12, zJ_add, zJ_sub, zJ_mul, zJ_neg, zJ_l2i, zI_add, zI_sub, zI_mul, zI_neg, ↓Option.bind_some]); simp (disch := (first | assumption | exact tI_rg _ | omega | exact uR_at | exact row_ne hF (by decide) | exact row_ne (row_ne hF (by decide)) (by decide) | exact SnS_18 | exact SnS_30 | exact LdS_44 | exact LdS_46)) only [q_270_0, q_270_96, q_270_111, q_270_142, ↓n_cI, li_0, li_1, li_2, li_5, li_12, li_70, li_120, li_206, lj_0, lj_1, lj_2, lj_5, lj_12, zJ_add, zJ_sub, zJ_mul, zJ_neg, zJ_l2i, tJ_zJ, zI_add, zI_sub, zI_mul, zI_neg, ↓Option.bind_some, ↓g12_0, ↓g12_2, ↓p12_5, ↓al_218, ↓as_218, ↓al_220, ↓as_220, zIt2, uR_at, uR_ne, uR_uR, uC_uC, uC_at, ↓reduceIte, decide_eq_true_eq, leT, leF, ltT, ltF, eqT, eqF, ne_eq, not_true_eq_false, not_false_eq_true, Bool.false_eq_true, tI_zI]
            split <;> rfl
          · rw [if_neg g] at c272
            right
            refine ⟨(), fun q hq => ?_, ?_⟩
            · by_cases z : q = i
              · rw [z]; exact Bool.eq_false_iff.mpr g
              · exact hs2 q (by omega)
            · show runP MP e 270 _ = runP MP e 270 _
              rw [nsucc]
              rw [q_270_70]; (try simp only [↓n_cI, li_0, li_1, li_2, li_5, li_12, li_70, li_120, li_206, lj_0, lj_1, lj_2, lj_5, lj_12, zJ_add, zJ_sub, zJ_mul, zJ_neg, zJ_l2i, zI_add, zI_sub, zI_mul, zI_neg, ↓Option.bind_some]); simp (disch := (first | assumption | exact tI_rg _ | omega | exact uR_at | exact row_ne hF (by decide) | exact row_ne (row_ne hF (by decide)) (by decide) | exact SnS_18 | exact SnS_30 | exact LdS_44 | exact LdS_46)) only [q_270_0, q_270_96, q_270_102, q_270_111, q_270_142, ↓c272, ↓n_cI, li_0, li_1, li_2, li_5, li_12, li_70, li_120, li_206, lj_0, lj_1, lj_2, lj_5, lj_12, zJ_add, zJ_sub, zJ_mul, zJ_neg, zJ_l2i, tJ_zJ, zI_add, zI_sub, zI_mul, zI_neg, ↓Option.bind_some, ↓g12_0, ↓g12_2, ↓p12_5, ↓al_218, ↓as_218, ↓al_220, ↓as_220, zIt2, uR_at, uR_ne, uR_uR, uC_uC, uC_at, ↓reduceIte, decide_eq_true_eq, leT, leF, ltT, ltF, eqT, eqF, ne_eq, not_true_eq_false, not_false_eq_true, Bool.false_eq_true, tI_zI]
      have h44 : runP MP e 270 (44, [some (.ref 217), some (.int (zI x)), some (.int (zI (-1))), some (.int (zI (s.2.1))), some (.int (zI ((j : Int) + 1))), s.2.2], [], mk E (agF F K (rndK K j) s.1) G) = runP MP e 270 (70, [some (.ref 217), some (.int (zI x)), some (.int (zI (-1))), some (.int (zI (s.2.1))), some (.int (zI ((j : Int) + 1))), some (.int (zI 0))], [], mk E (agF F K (rndK K (j + 1)) r) G) := by
        rw [q_270_44]; (try simp only [↓n_cI, li_0, li_1, li_2, li_5, li_12, li_70, li_120, li_206, lj_0, lj_1, lj_2, lj_5, lj_12, zJ_add, zJ_sub, zJ_mul, zJ_neg, zJ_l2i, zI_add, zI_sub, zI_mul, zI_neg, ↓Option.bind_some]); simp (disch := (first | assumption | exact tI_rg _ | omega | exact uR_at | exact row_ne hF (by decide) | exact row_ne (row_ne hF (by decide)) (by decide) | exact SnS_18 | exact SnS_30 | exact LdS_44 | exact LdS_46)) only [q_270_0, q_270_96, q_270_102, q_270_111, q_270_142, ↓c267, ↓c271, ↓n_cI, li_0, li_1, li_2, li_5, li_12, li_70, li_120, li_206, lj_0, lj_1, lj_2, lj_5, lj_12, zJ_add, zJ_sub, zJ_mul, zJ_neg, zJ_l2i, tJ_zJ, zI_add, zI_sub, zI_mul, zI_neg, ↓Option.bind_some, ↓g12_0, ↓g12_2, ↓p12_5, ↓al_218, ↓as_218, ↓al_220, ↓as_220, zIt2, uR_at, uR_ne, uR_uR, uC_uC, uC_at, ↓reduceIte, decide_eq_true_eq, leT, leF, ltT, ltF, eqT, eqF, ne_eq, not_true_eq_false, not_false_eq_true, Bool.false_eq_true, tI_zI]
      rcases hin with ⟨i, a1, a2, a3, z, a4⟩ | ⟨a1, z, a2⟩
      · left
        have ei : agI K (j + 1) = (i : Int) := fndN_eq (by omega) (by omega) a2 (fun q _ hq => a3 q hq)
        have ek : agK K = ((j + 1 : Nat) : Int) := fndN_eq (by omega) (by omega) (decide_eq_true (by rw [ei]; omega)) (fun q _ hq => decide_eq_false (fun z => z (hs.2 q hq)))
        have hf2 := hfin (i : Int) ((j : Int) + 1) ((j : Int) + 2) (some (.int (zI z))) (j + 1) r (by omega) (by omega)
        have h102 : runP MP e 270 (102, [some (.ref 217), some (.int (zI x)), some (.int (zI ((i : Int)))), some (.int (zI (s.2.1))), some (.int (zI ((j : Int) + 1))), some (.int (zI z))], [], mk E (agF F K (rndK K (j + 1)) r) G) = runP MP e 270 (111, [some (.ref 217), some (.int (zI x)), some (.int (zI ((i : Int)))), some (.int (zI ((j : Int) + 1))), some (.int (zI ((j : Int) + 2))), some (.int (zI z))], [], mk E (agF F K (rndK K (j + 1)) r) G) := by
          rw [q_270_102]
          (try simp only [li_1, zI_add])
          rw [show (j : Int) + 1 + 1 = (j : Int) + 2 by omega]
          by_cases g : (j : Int) + 2 ≤ 120
          · rw [q_270_44]; (try simp only [↓n_cI, li_0, li_1, li_2, li_5, li_12, li_70, li_120, li_206, lj_0, lj_1, lj_2, lj_5, lj_12, zJ_add, zJ_sub, zJ_mul, zJ_neg, zJ_l2i, zI_add, zI_sub, zI_mul, zI_neg, ↓Option.bind_some]); simp (disch := (first | assumption | exact tI_rg _ | omega | exact uR_at | exact row_ne hF (by decide) | exact row_ne (row_ne hF (by decide)) (by decide) | exact SnS_18 | exact SnS_30 | exact LdS_44 | exact LdS_46)) only [q_270_0, q_270_96, q_270_102, q_270_142, ↓n_cI, li_0, li_1, li_2, li_5, li_12, li_70, li_120, li_206, lj_0, lj_1, lj_2, lj_5, lj_12, zJ_add, zJ_sub, zJ_mul, zJ_neg, zJ_l2i, tJ_zJ, zI_add, zI_sub, zI_mul, zI_neg, ↓Option.bind_some, ↓g12_0, ↓g12_2, ↓p12_5, ↓al_218, ↓as_218, ↓al_220, ↓as_220, zIt2, uR_at, uR_ne, uR_uR, uC_uC, uC_at, ↓reduceIte, decide_eq_true_eq, leT, leF, ltT, ltF, eqT, eqF, ne_eq, not_true_eq_false, not_false_eq_true, Bool.false_eq_true, tI_zI]
          · rw [q_270_44]; (try simp only [↓n_cI, li_0, li_1, li_2, li_5, li_12, li_70, li_120, li_206, lj_0, lj_1, lj_2, lj_5, lj_12, zJ_add, zJ_sub, zJ_mul, zJ_neg, zJ_l2i, zI_add, zI_sub, zI_mul, zI_neg, ↓Option.bind_some]); simp (disch := (first | assumption | exact tI_rg _ | omega | exact uR_at | exact row_ne hF (by decide) | exact row_ne (row_ne hF (by decide)) (by decide) | exact SnS_18 | exact SnS_30 | exact LdS_44 | exact LdS_46)) only [q_270_0, q_270_96, q_270_102, q_270_142, ↓n_cI, li_0, li_1, li_2, li_5, li_12, li_70, li_120, li_206, lj_0, lj_1, lj_2, lj_5, lj_12, zJ_add, zJ_sub, zJ_mul, zJ_neg, zJ_l2i, tJ_zJ, zI_add, zI_sub, zI_mul, zI_neg, ↓Option.bind_some, ↓g12_0, ↓g12_2, ↓p12_5, ↓al_218, ↓as_218, ↓al_220, ↓as_220, zIt2, uR_at, uR_ne, uR_uR, uC_uC, uC_at, ↓reduceIte, decide_eq_true_eq, leT, leF, ltT, ltF, eqT, eqF, ne_eq, not_true_eq_false, not_false_eq_true, Bool.false_eq_true, tI_zI]
        rw [show runP MP e 270 (44, [some (.ref 217), some (.int (zI x)), some (.int (zI (-1))), some (.int (zI (s.2.1))), some (.int (zI ((j : Int) + 1))), s.2.2], [], mk E (agF F K (rndK K j) s.1) G) = _ from h44, a4, h102, hf2]
        refine hres r _ ?_
        rw [ha]
        show _ = (if agK K = -1 then (-1 : Int) else if x = 0 then agK K - agI K (agK K).toNat else agI K (agK K).toNat)
        rw [ek, show (((j + 1 : Nat) : Int)).toNat = j + 1 by omega, ei, if_neg (show ¬ (i : Int) = -1 by omega), if_neg (show ¬ ((j + 1 : Nat) : Int) = -1 by omega)]; rfl
      · right
        have ei : agI K (j + 1) = -1 := fndN_none (fun q _ hq => a1 q (by omega))
        refine ⟨(r, (j : Int) + 1, some (.int (zI z))), ⟨hrows, fun k hk => ?_⟩, ?_⟩
        · by_cases z : k = j + 1
          · rw [z]; exact ei
          · exact hs.2 k (by omega)
        · show runP MP e 270 _ = runP MP e 270 _
          rw [h44, a2, q_270_102]
          (try simp only [li_1, zI_add])
          rfl
  · have ha : a_again K x = (1, 0) := if_neg c1
    refine ⟨uR F 217 (uC (F 217) 5 (zI 1)), ?_, by rw [ha, uR_at, uC_at], KeepM_c⟩
    rw [ha]
    show (_ : ResP) = some (Sum.inl (some (.int (zI 0))), _)
    refine into (D := 4) (by omega) hM_270 (rcv_mk rfl (by decide)) rfl fun d hd => ?_
    show runP MP d 270 (0, [some (.ref 217), some (.int (zI x)), none, none, none, none], [], _) = _
    rw [q_270_0]; (try simp only [↓n_cI, li_0, li_1, li_2, li_5, li_12, li_70, li_120, li_206, lj_0, lj_1, lj_2, lj_5, lj_12, zJ_add, zJ_sub, zJ_mul, zJ_neg, zJ_l2i, zI_add, zI_sub, zI_mul, zI_neg, ↓Option.bind_some]); simp (disch := (first | assumption | exact tI_rg _ | omega | exact uR_at | exact row_ne hF (by decide) | exact row_ne (row_ne hF (by decide)) (by decide) | exact SnS_18 | exact SnS_30 | exact LdS_44 | exact LdS_46)) only [q_270_96, q_270_102, q_270_111, q_270_142, ↓cc_188f, ↓cc_189, zI_i2l, ↓n_cI, li_0, li_1, li_2, li_5, li_12, li_70, li_120, li_206, lj_0, lj_1, lj_2, lj_5, lj_12, zJ_add, zJ_sub, zJ_mul, zJ_neg, zJ_l2i, tJ_zJ, zI_add, zI_sub, zI_mul, zI_neg, ↓Option.bind_some, ↓g12_0, ↓g12_2, ↓p12_5, ↓al_218, ↓as_218, ↓al_220, ↓as_220, zIt2, uR_at, uR_ne, uR_uR, uC_uC, uC_at, ↓reduceIte, decide_eq_true_eq, leT, leF, ltT, ltF, eqT, eqF, ne_eq, not_true_eq_false, not_false_eq_true, Bool.false_eq_true, tI_zI]
end S94zm
