/-! MODEL: again -/
section S94zl
set_option linter.unusedVariables false
set_option linter.unusedSimpArgs false
theorem pm_rg {K : Int → Int32} (hI : InvK K) (i : Int) : -2147483648 ≤ pcM K i ∧ pcM K i ≤ 2147483647 := by
  have b6 := hI.1.2.2.2.2.2.2.1
  unfold pcM
  split
  · exact tI_rg _
  · split
    · exact tI_rg _
    · split
      · exact tI_rg _
      · split
        · exact tI_rg _
        · split
          · unfold rsZ
            by_cases g : tI (K 166) = 0
            · rw [if_pos g]; omega
            · rw [if_neg g]
              have h1 := Int.emod_nonneg (stepsZ K) g
              have h2 := Int.emod_lt_of_pos (stepsZ K) (show 0 < tI (K 166) by omega)
              omega
          · omega
theorem ct_271 {d : Nat} {E : EnQ} {F : Nat → Int → Int32} {G : Nat → Int → Int64} {K : Int → Int32} (hI : InvK K) (hF : F 218 = K) (hst : stepsZ K < 1999999000) {t : Nat} (ht : t ≤ 120) (hd : 3 ≤ d) : ∃ r, callP MP d 271 [.ref 217, .int (zI (t : Int))] (mk E F G) = some (Sum.inl none, mk E (uR F 227 r) G) ∧ (∀ i : Nat, i < 134 → r (134 * (t : Int) + (i : Int)) = zI (pcM K i)) ∧ ∀ q : Int, q < 134 * (t : Int) ∨ 134 * (t : Int) + 134 ≤ q → r q = F 227 q := by
  have hsn := steps_nn hI
  obtain ⟨b0, b1, b2, b3, b4, b5, b6, b7, b8, b9⟩ := hI.1
  obtain ⟨e, rfl⟩ : ∃ e, d = e + 1 := ⟨d - 1, by omega⟩
  have hin : callP MP (e + 1) 271 [.ref 217, .int (zI (t : Int))] (mk E F G) = runP MP e 271 (0, [some (.ref 217), some (.int (zI (t : Int))), none], [], mk E F G) := into_eq (by omega) hM_271 (rcv_mk rfl (by decide)) rfl
  have hFr : ∀ r, uR F 227 r 218 = K := fun r => row_ne hF (by decide)
  -- naught
  have hA : ∃ r, runP MP e 271 (0, [some (.ref 217), some (.int (zI (t : Int))), none], [], mk E F G) = runP MP e 271 (44, [some (.ref 217), some (.int (zI (t : Int))), some (.int (zI (0)))], [], mk E (uR F 227 r) G) ∧ (∀ i : Nat, i < 134 → r (134 * (t : Int) + (i : Int)) = zI (if i = 0 then tI (K 5) else 0)) ∧ ∀ q : Int, q < 134 * (t : Int) ∨ 134 * (t : Int) + 134 ≤ q → r q = F 227 q := by
    have h0 : runP MP e 271 (0, [some (.ref 217), some (.int (zI (t : Int))), none], [], mk E F G) = runP MP e 271 (2, [some (.ref 217), some (.int (zI (t : Int))), some (.int (zI (0)))], [], mk E (uR F 227 (F 227)) G) := by rw [q_271_0, li_0, uR_self]
    rw [h0]
    refine loopS (σ := Int → Int32) (Post := fun z => ∃ r, z = runP MP e 271 (44, [some (.ref 217), some (.int (zI (t : Int))), some (.int (zI (0)))], [], mk E (uR F 227 r) G) ∧ (∀ i : Nat, i < 134 → r (134 * (t : Int) + (i : Int)) = zI (if i = 0 then tI (K 5) else 0)) ∧ ∀ q : Int, q < 134 * (t : Int) ∨ 134 * (t : Int) + 134 ≤ q → r q = F 227 q)
      (fun j r => runP MP e 271 (2, [some (.ref 217), some (.int (zI (t : Int))), some (.int (zI ((j : Int))))], [], mk E (uR F 227 r) G))
      (fun j r => (∀ i : Nat, i < j → r (134 * (t : Int) + (i : Int)) = zI 0) ∧ ∀ q : Int, q < 134 * (t : Int) ∨ 134 * (t : Int) + 134 ≤ q → r q = F 227 q) 134 (F 227) ⟨fun i hi => by omega, fun q _ => rfl⟩ (fun r hr => ?_) (fun j r hj hr => ?_)
    · refine ⟨uC r (134 * (t : Int)) (zI (tI (K 5))), ?_, fun i hi => ?_, fun q hq => ?_⟩
      · show runP MP e 271 (2, [some (.ref 217), some (.int (zI (t : Int))), some (.int (zI (134)))], [], mk E (uR F 227 r) G) = _
        have hFr := hFr r
        rw [q_271_2]; (try simp only [↓n_al, ↓n_irem, ↓n_cI, li_0, li_1, li_2, li_12, li_46, li_121, li_125, li_129, li_134, li_166, li_206, li_210, zI_add, zI_sub, zI_mul, zI_neg, ↓Option.bind_some]); simp (disch := (first | assumption | exact tI_rg _ | omega | exact uR_at | exact row_ne hF (by decide) | exact row_ne (row_ne hF (by decide)) (by decide) | exact SnS_18 | exact SnS_30 | exact LdS_44 | exact LdS_46)) only [q_271_0, q_271_185, ↓cc_210 hI, ↓n_al, ↓n_irem, ↓n_cI, ↓b_irem, li_0, li_1, li_2, li_12, li_46, li_121, li_125, li_129, li_134, li_166, li_206, li_210, zI_add, zI_sub, zI_mul, zI_neg, ↓Option.bind_some, ↓g12_0, ↓g12_23, ↓al_218, ↓as_218, ↓al_227, ↓as_227, zIt2, uR_at, uR_ne, uR_uR, uC_uC, uC_at, ↓reduceIte, decide_eq_true_eq, leT, leF, ltT, ltF, eqT, eqF, ne_eq, not_true_eq_false, not_false_eq_true, Bool.false_eq_true, tI_zI]
      · by_cases g : i = 0
        · rw [if_pos g, g]; exact uC_eq (by omega)
        · rw [if_neg g, uC_ne (by omega)]; exact hr.1 i hi
      · rw [uC_ne (by omega)]; exact hr.2 q hq
    · right
      refine ⟨uC r (134 * (t : Int) + (j : Int)) (zI 0), ⟨fun i hi => ?_, fun q hq => ?_⟩, ?_⟩
      · by_cases g : i = j
        · rw [g, uC_at]
        · rw [uC_ne (by omega)]; exact hr.1 i (by omega)
      · rw [uC_ne (by omega)]; exact hr.2 q hq
      · show runP MP e 271 _ = runP MP e 271 _
        rw [nsucc]
        rw [q_271_2]; (try simp only [↓n_al, ↓n_irem, ↓n_cI, li_0, li_1, li_2, li_12, li_46, li_121, li_125, li_129, li_134, li_166, li_206, li_210, zI_add, zI_sub, zI_mul, zI_neg, ↓Option.bind_some]); simp (disch := (first | assumption | exact tI_rg _ | omega | exact uR_at | exact row_ne hF (by decide) | exact row_ne (row_ne hF (by decide)) (by decide) | exact SnS_18 | exact SnS_30 | exact LdS_44 | exact LdS_46)) only [q_271_0, q_271_185, ↓n_al, ↓n_irem, ↓n_cI, ↓b_irem, li_0, li_1, li_2, li_12, li_46, li_121, li_125, li_129, li_134, li_166, li_206, li_210, zI_add, zI_sub, zI_mul, zI_neg, ↓Option.bind_some, ↓g12_0, ↓g12_23, ↓al_218, ↓as_218, ↓al_227, ↓as_227, zIt2, uR_at, uR_ne, uR_uR, uC_uC, uC_at, ↓reduceIte, decide_eq_true_eq, leT, leF, ltT, ltF, eqT, eqF, ne_eq, not_true_eq_false, not_false_eq_true, Bool.false_eq_true, tI_zI]
  obtain ⟨r1, hr1, hq1, ho1⟩ := hA
  -- the prints
  have hB : ∃ r, runP MP e 271 (44, [some (.ref 217), some (.int (zI (t : Int))), some (.int (zI (0)))], [], mk E (uR F 227 r1) G) = runP MP e 271 (85, [some (.ref 217), some (.int (zI (t : Int))), some (.int (zI (0)))], [], mk E (uR F 227 r) G) ∧ (∀ i : Nat, i < 134 → r (134 * (t : Int) + (i : Int)) = zI (if i = 0 then tI (K 5) else if (i : Int) ≤ 2 * tI (K 5) then tI (K (45 + (i : Int))) else 0)) ∧ ∀ q : Int, q < 134 * (t : Int) ∨ 134 * (t : Int) + 134 ≤ q → r q = F 227 q := by
    refine loopS (σ := Int → Int32) (Post := fun z => ∃ r, z = runP MP e 271 (85, [some (.ref 217), some (.int (zI (t : Int))), some (.int (zI (0)))], [], mk E (uR F 227 r) G) ∧ (∀ i : Nat, i < 134 → r (134 * (t : Int) + (i : Int)) = zI (if i = 0 then tI (K 5) else if (i : Int) ≤ 2 * tI (K 5) then tI (K (45 + (i : Int))) else 0)) ∧ ∀ q : Int, q < 134 * (t : Int) ∨ 134 * (t : Int) + 134 ≤ q → r q = F 227 q)
      (fun j r => runP MP e 271 (44, [some (.ref 217), some (.int (zI (t : Int))), some (.int (zI ((j : Int))))], [], mk E (uR F 227 r) G))
      (fun j r => (∀ i : Nat, i < 134 → r (134 * (t : Int) + (i : Int)) = zI (if i = 0 then tI (K 5) else if i ≤ j then tI (K (45 + (i : Int))) else 0)) ∧ ∀ q : Int, q < 134 * (t : Int) ∨ 134 * (t : Int) + 134 ≤ q → r q = F 227 q) (2 * tI (K 5)).toNat r1 ⟨fun i hi => ?_, ho1⟩ (fun r hr => ⟨r, ?_, fun i hi => ?_, hr.2⟩) (fun j r hj hr => ?_)
    · rw [hq1 i hi]
      by_cases g : i = 0
      · rw [if_pos g, if_pos g]
      · rw [if_neg g, if_neg g, if_neg (by omega)]
    · show runP MP e 271 _ = runP MP e 271 _
      have hFr := hFr r
      rw [q_271_44]; (try simp only [↓n_al, ↓n_irem, ↓n_cI, li_0, li_1, li_2, li_12, li_46, li_121, li_125, li_129, li_134, li_166, li_206, li_210, zI_add, zI_sub, zI_mul, zI_neg, ↓Option.bind_some]); simp (disch := (first | assumption | exact tI_rg _ | omega | exact uR_at | exact row_ne hF (by decide) | exact row_ne (row_ne hF (by decide)) (by decide) | exact SnS_18 | exact SnS_30 | exact LdS_44 | exact LdS_46)) only [q_271_0, q_271_185, ↓cc_210 hI, ↓n_al, ↓n_irem, ↓n_cI, ↓b_irem, li_0, li_1, li_2, li_12, li_46, li_121, li_125, li_129, li_134, li_166, li_206, li_210, zI_add, zI_sub, zI_mul, zI_neg, ↓Option.bind_some, ↓g12_0, ↓g12_23, ↓al_218, ↓as_218, ↓al_227, ↓as_227, zIt2, uR_at, uR_ne, uR_uR, uC_uC, uC_at, ↓reduceIte, decide_eq_true_eq, leT, leF, ltT, ltF, eqT, eqF, ne_eq, not_true_eq_false, not_false_eq_true, Bool.false_eq_true, tI_zI]
    · rw [hr.1 i hi]
      by_cases g : i = 0
      · rw [if_pos g, if_pos g]
      · rw [if_neg g, if_neg g]
        by_cases g2 : (i : Int) ≤ 2 * tI (K 5)
        · rw [if_pos g2, if_pos (by omega)]
        · rw [if_neg g2, if_neg (by omega)]
    · right
      have hFr := hFr r
      refine ⟨uC r (134 * (t : Int) + 1 + (j : Int)) (K (46 + (j : Int))), ⟨fun i hi => ?_, fun q hq => ?_⟩, ?_⟩
      · by_cases g : i = j + 1
        · rw [g, uC_eq (by omega), if_neg (by omega), if_pos (by omega), zI_tI]; exact congrArg K (by omega)
        · rw [uC_ne (by omega), hr.1 i hi]
          by_cases g0 : i = 0
          · rw [if_pos g0, if_pos g0]
          · rw [if_neg g0, if_neg g0]
            by_cases g2 : i ≤ j
            · rw [if_pos g2, if_pos (by omega)]
            · rw [if_neg g2, if_neg (by omega)]
      · rw [uC_ne (by omega)]; exact hr.2 q hq
      · show runP MP e 271 _ = runP MP e 271 _
        have ez : zI (tI (K (46 + (j : Int)))) = K (46 + (j : Int)) := zI_tI _
        rw [nsucc]
        rw [q_271_44]; (try simp only [↓n_al, ↓n_irem, ↓n_cI, li_0, li_1, li_2, li_12, li_46, li_121, li_125, li_129, li_134, li_166, li_206, li_210, zI_add, zI_sub, zI_mul, zI_neg, ↓Option.bind_some]); simp (disch := (first | assumption | exact tI_rg _ | omega | exact uR_at | exact row_ne hF (by decide) | exact row_ne (row_ne hF (by decide)) (by decide) | exact SnS_18 | exact SnS_30 | exact LdS_44 | exact LdS_46)) only [q_271_0, q_271_185, ↓cc_210 hI, hF, hFr, ez, ↓n_al, ↓n_irem, ↓n_cI, ↓b_irem, li_0, li_1, li_2, li_12, li_46, li_121, li_125, li_129, li_134, li_166, li_206, li_210, zI_add, zI_sub, zI_mul, zI_neg, ↓Option.bind_some, ↓g12_0, ↓g12_23, ↓al_218, ↓as_218, ↓al_227, ↓as_227, zIt2, uR_at, uR_ne, uR_uR, uC_uC, uC_at, ↓reduceIte, decide_eq_true_eq, leT, leF, ltT, ltF, eqT, eqF, ne_eq, not_true_eq_false, not_false_eq_true, Bool.false_eq_true, tI_zI]
  obtain ⟨r2, hr2, hq2, ho2⟩ := hB
  rw [hin, hr1, hr2]
  -- who stands where
  refine loopS (σ := Int → Int32) (Post := fun z => ∃ r, z = some (Sum.inl none, mk E (uR F 227 r) G) ∧ (∀ i : Nat, i < 134 → r (134 * (t : Int) + (i : Int)) = zI (pcM K i)) ∧ ∀ q : Int, q < 134 * (t : Int) ∨ 134 * (t : Int) + 134 ≤ q → r q = F 227 q)
    (fun j r => runP MP e 271 (85, [some (.ref 217), some (.int (zI (t : Int))), some (.int (zI ((j : Int))))], [], mk E (uR F 227 r) G))
    (fun j r => (∀ i : Nat, i < 134 → r (134 * (t : Int) + (i : Int)) = zI (if i = 0 then tI (K 5) else if (i : Int) ≤ 2 * tI (K 5) then tI (K (45 + (i : Int))) else if 121 ≤ (i : Int) ∧ (i : Int) < 121 + j then tI (K (38 + 2 * ((i : Int) - 121))) else if 125 ≤ (i : Int) ∧ (i : Int) < 125 + j then tI (K (206 + ((i : Int) - 125))) else 0)) ∧ ∀ q : Int, q < 134 * (t : Int) ∨ 134 * (t : Int) + 134 ≤ q → r q = F 227 q) (tI (K 3)).toNat r2 ⟨fun i hi => ?_, ho2⟩ (fun r hr => ?_) (fun j r hj hr => ?_)
  · rw [hq2 i hi, if_neg (show ¬ (121 ≤ (i : Int) ∧ (i : Int) < 121 + ((0 : Nat) : Int)) by omega), if_neg (show ¬ (125 ≤ (i : Int) ∧ (i : Int) < 125 + ((0 : Nat) : Int)) by omega)]
  · have hFr := hFr r
    refine ⟨uC r (134 * (t : Int) + 129) (zI (rsZ K)), ?_, fun i hi => ?_, fun q hq => ?_⟩
    · show runP MP e 271 _ = _
      unfold rsZ
      by_cases g : tI (K 166) = 0
      · rw [if_pos g]
        rw [q_271_85]; (try simp only [↓n_al, ↓n_irem, ↓n_cI, li_0, li_1, li_2, li_12, li_46, li_121, li_125, li_129, li_134, li_166, li_206, li_210, zI_add, zI_sub, zI_mul, zI_neg, ↓Option.bind_some]); simp (disch := (first | assumption | exact tI_rg _ | omega | exact uR_at | exact row_ne hF (by decide) | exact row_ne (row_ne hF (by decide)) (by decide) | exact SnS_18 | exact SnS_30 | exact LdS_44 | exact LdS_46)) only [q_271_0, q_271_185, ↓cc_220 hI, hF, hFr, g, ↓n_al, ↓n_irem, ↓n_cI, ↓b_irem, li_0, li_1, li_2, li_12, li_46, li_121, li_125, li_129, li_134, li_166, li_206, li_210, zI_add, zI_sub, zI_mul, zI_neg, ↓Option.bind_some, ↓g12_0, ↓g12_23, ↓al_218, ↓as_218, ↓al_227, ↓as_227, zIt2, uR_at, uR_ne, uR_uR, uC_uC, uC_at, ↓reduceIte, decide_eq_true_eq, leT, leF, ltT, ltF, eqT, eqF, ne_eq, not_true_eq_false, not_false_eq_true, Bool.false_eq_true, tI_zI]
      · rw [if_neg g]
        rw [q_271_85]; (try simp only [↓n_al, ↓n_irem, ↓n_cI, li_0, li_1, li_2, li_12, li_46, li_121, li_125, li_129, li_134, li_166, li_206, li_210, zI_add, zI_sub, zI_mul, zI_neg, ↓Option.bind_some]); simp (disch := (first | assumption | exact tI_rg _ | omega | exact uR_at | exact row_ne hF (by decide) | exact row_ne (row_ne hF (by decide)) (by decide) | exact SnS_18 | exact SnS_30 | exact LdS_44 | exact LdS_46)) only [q_271_0, q_271_185, ↓cc_220 hI, ↓cc_232 hI, hF, hFr, ↓n_al, ↓n_irem, ↓n_cI, ↓b_irem, li_0, li_1, li_2, li_12, li_46, li_121, li_125, li_129, li_134, li_166, li_206, li_210, zI_add, zI_sub, zI_mul, zI_neg, ↓Option.bind_some, ↓g12_0, ↓g12_23, ↓al_218, ↓as_218, ↓al_227, ↓as_227, zIt2, uR_at, uR_ne, uR_uR, uC_uC, uC_at, ↓reduceIte, decide_eq_true_eq, leT, leF, ltT, ltF, eqT, eqF, ne_eq, not_true_eq_false, not_false_eq_true, Bool.false_eq_true, tI_zI]
    · unfold pcM
      by_cases g : i = 129
      · rw [g, uC_eq (by omega), if_neg (by omega), if_neg (by omega), if_neg (by omega), if_neg (by omega), if_pos (by omega)]
      · rw [uC_ne (by omega), hr.1 i hi, if_neg (show ¬ (i : Int) = 129 by omega)]
        by_cases g0 : i = 0
        · rw [if_pos g0, if_pos (by omega)]
        · rw [if_neg g0, if_neg (show ¬ (i : Int) = 0 by omega), show (((tI (K 3)).toNat : Nat) : Int) = tI (K 3) by omega]
    · rw [uC_ne (by omega)]; exact hr.2 q hq
  · right
    have hFr := hFr r
    have hFr2 : ∀ r, uR F 227 r 218 = K := fun r => row_ne hF (by decide)
    refine ⟨uC (uC r (134 * (t : Int) + 121 + (j : Int)) (K (38 + 2 * (j : Int)))) (134 * (t : Int) + 125 + (j : Int)) (K (206 + (j : Int))), ⟨fun i hi => ?_, fun q hq => ?_⟩, ?_⟩
    · by_cases g : i = 121 + j
      · rw [g, uC_ne (by omega), uC_eq (by omega), if_neg (by omega), if_neg (by omega), if_pos (by omega), zI_tI]; exact congrArg K (by omega)
      · by_cases g1 : i = 125 + j
        · rw [g1, uC_eq (by omega), if_neg (by omega), if_neg (by omega), if_neg (by omega), if_pos (by omega), zI_tI]; exact congrArg K (by omega)
        · rw [uC_ne (by omega), uC_ne (by omega), hr.1 i hi]
          by_cases g0 : i = 0
          · rw [if_pos g0, if_pos g0]
          · rw [if_neg g0, if_neg g0]
            by_cases g2 : (i : Int) ≤ 2 * tI (K 5)
            · rw [if_pos g2, if_pos g2]
            · rw [if_neg g2, if_neg g2]
              by_cases g3 : 121 ≤ (i : Int) ∧ (i : Int) < 121 + j
              · rw [if_pos g3, if_pos (by omega)]
              · rw [if_neg g3, if_neg (show ¬ (121 ≤ (i : Int) ∧ (i : Int) < 121 + ((j + 1 : Nat) : Int)) by omega)]
                by_cases g4 : 125 ≤ (i : Int) ∧ (i : Int) < 125 + j
                · rw [if_pos g4, if_pos (by omega)]
                · rw [if_neg g4, if_neg (by omega)]
    · rw [uC_ne (by omega), uC_ne (by omega)]; exact hr.2 q hq
    · show runP MP e 271 _ = runP MP e 271 _
      have ez : zI (tI (K (38 + 2 * (j : Int)))) = K (38 + 2 * (j : Int)) := zI_tI _
      have ez2 : zI (tI (K (206 + (j : Int)))) = K (206 + (j : Int)) := zI_tI _
      rw [nsucc]
      rw [q_271_85]; (try simp only [↓n_al, ↓n_irem, ↓n_cI, li_0, li_1, li_2, li_12, li_46, li_121, li_125, li_129, li_134, li_166, li_206, li_210, zI_add, zI_sub, zI_mul, zI_neg, ↓Option.bind_some]); simp (disch := (first | assumption | exact tI_rg _ | omega | exact uR_at | exact row_ne hF (by decide) | exact row_ne (row_ne hF (by decide)) (by decide) | exact SnS_18 | exact SnS_30 | exact LdS_44 | exact LdS_46)) only [q_271_0, q_271_185, ↓cc_220 hI, ↓cc_228 hI, hF, hFr, ez, ez2, ↓n_al, ↓n_irem, ↓n_cI, ↓b_irem, li_0, li_1, li_2, li_12, li_46, li_121, li_125, li_129, li_134, li_166, li_206, li_210, zI_add, zI_sub, zI_mul, zI_neg, ↓Option.bind_some, ↓g12_0, ↓g12_23, ↓al_218, ↓as_218, ↓al_227, ↓as_227, zIt2, uR_at, uR_ne, uR_uR, uC_uC, uC_at, ↓reduceIte, decide_eq_true_eq, leT, leF, ltT, ltF, eqT, eqF, ne_eq, not_true_eq_false, not_false_eq_true, Bool.false_eq_true, tI_zI]
theorem ct_272 {d : Nat} {E : EnQ} {F : Nat → Int → Int32} {G : Nat → Int → Int64} {t u : Nat} (ht : t ≤ 120) (hu : u ≤ 120) (hd : 1 ≤ d) : callP MP d 272 [.ref 217, .int (zI (t : Int)), .int (zI (u : Int))] (mk E F G) = some (Sum.inl (some (.int (zI (if fndN (fun i : Nat => decide (tI (F 227 (134 * (t : Int) + (i : Int))) ≠ tI (F 227 (134 * (u : Int) + (i : Int))))) 134 0 = -1 then 1 else 0)))), mk E F G) := by

  refine into (D := 0) (by omega) hM_272 (rcv_mk rfl (by decide)) rfl fun d hd => ?_
  show runP MP d 272 (0, [some (.ref 217), some (.int (zI (t : Int))), some (.int (zI (u : Int))), none], [], _) = _
  rw [q_272_0, li_0]
  refine loopS (σ := Unit) (Post := fun r => r = some (Sum.inl (some (.int (zI (if fndN (fun i : Nat => decide (tI (F 227 (134 * (t : Int) + (i : Int))) ≠ tI (F 227 (134 * (u : Int) + (i : Int))))) 134 0 = -1 then 1 else 0)))), mk E F G))
    (fun j _ => runP MP d 272 (2, [some (.ref 217), some (.int (zI (t : Int))), some (.int (zI (u : Int))), some (.int (zI (j : Int)))], [], mk E F G))
    (fun j _ => ∀ i : Nat, i < j → decide (tI (F 227 (134 * (t : Int) + (i : Int))) ≠ tI (F 227 (134 * (u : Int) + (i : Int)))) = false) 134 () (fun i hi => by omega) (fun s hs => ?_) (fun j s hj hs => ?_)
  · show runP MP d 272 (2, [some (.ref 217), some (.int (zI (t : Int))), some (.int (zI (u : Int))), some (.int (zI 134))], [], mk E F G) = _
    rw [if_pos (fndN_none (fun i _ hi => hs i (by omega)))]
    rw [q_272_2]; (try simp only [↓n_al, li_0, li_1, li_2, li_12, li_134, zI_add, zI_sub, zI_mul, zI_neg, ↓Option.bind_some]); simp (disch := (first | assumption | exact tI_rg _ | omega | exact uR_at | exact row_ne hF (by decide) | exact row_ne (row_ne hF (by decide)) (by decide) | exact SnS_18 | exact SnS_30 | exact LdS_44 | exact LdS_46)) only [q_272_0, ↓n_al, retZ_z, li_0, li_1, li_2, li_12, li_134, zI_add, zI_sub, zI_mul, zI_neg, ↓Option.bind_some, ↓g12_23, ↓al_227, ↓as_227, zIt2, uR_at, uR_ne, uR_uR, uC_uC, uC_at, ↓reduceIte, decide_eq_true_eq, leT, leF, ltT, ltF, eqT, eqF, ne_eq, not_true_eq_false, not_false_eq_true, Bool.false_eq_true, tI_zI]
  · have r1 := tI_rg (F 227 (134 * (t : Int) + (j : Int)))
    have r2 := tI_rg (F 227 (134 * (u : Int) + (j : Int)))
    by_cases g : tI (F 227 (134 * (t : Int) + (j : Int))) = tI (F 227 (134 * (u : Int) + (j : Int)))
    · right
      refine ⟨(), fun i hi => ?_, ?_⟩
      · by_cases z : i = j
        · rw [z]; exact decide_eq_false (fun y => y g)
        · exact hs i (by omega)
      · show runP MP d 272 _ = runP MP d 272 _
        rw [nsucc]
        rw [q_272_2]; (try simp only [↓n_al, li_0, li_1, li_2, li_12, li_134, zI_add, zI_sub, zI_mul, zI_neg, ↓Option.bind_some]); simp (disch := (first | assumption | exact tI_rg _ | omega | exact uR_at | exact row_ne hF (by decide) | exact row_ne (row_ne hF (by decide)) (by decide) | exact SnS_18 | exact SnS_30 | exact LdS_44 | exact LdS_46)) only [q_272_0, ↓n_al, retZ_z, li_0, li_1, li_2, li_12, li_134, zI_add, zI_sub, zI_mul, zI_neg, ↓Option.bind_some, ↓g12_23, ↓al_227, ↓as_227, zIt2, uR_at, uR_ne, uR_uR, uC_uC, uC_at, ↓reduceIte, decide_eq_true_eq, leT, leF, ltT, ltF, eqT, eqF, ne_eq, not_true_eq_false, not_false_eq_true, Bool.false_eq_true, tI_zI]
    · left
      show runP MP d 272 _ = _
      rw [if_neg (fnd_some hj (decide_eq_true g))]
      rw [q_272_2]; (try simp only [↓n_al, li_0, li_1, li_2, li_12, li_134, zI_add, zI_sub, zI_mul, zI_neg, ↓Option.bind_some]); simp (disch := (first | assumption | exact tI_rg _ | omega | exact uR_at | exact row_ne hF (by decide) | exact row_ne (row_ne hF (by decide)) (by decide) | exact SnS_18 | exact SnS_30 | exact LdS_44 | exact LdS_46)) only [q_272_0, ↓n_al, retZ_z, li_0, li_1, li_2, li_12, li_134, zI_add, zI_sub, zI_mul, zI_neg, ↓Option.bind_some, ↓g12_23, ↓al_227, ↓as_227, zIt2, uR_at, uR_ne, uR_uR, uC_uC, uC_at, ↓reduceIte, decide_eq_true_eq, leT, leF, ltT, ltF, eqT, eqF, ne_eq, not_true_eq_false, not_false_eq_true, Bool.false_eq_true, tI_zI]
theorem cc_272 {d : Nat} {E : EnQ} {F : Nat → Int → Int32} {G : Nat → Int → Int64} {kk : Int → HeapP → ResP} {kx : Nat → HeapP → ResP} {t u : Nat} (ht : t ≤ 120) (hu : u ≤ 120) (hd : 1 ≤ d) : cT (callP MP d 272 [.ref 217, .int (zI (t : Int)), .int (zI (u : Int))] (mk E F G)) kk kx = kk (if fndN (fun i : Nat => decide (tI (F 227 (134 * (t : Int) + (i : Int))) ≠ tI (F 227 (134 * (u : Int) + (i : Int))))) 134 0 = -1 then 1 else 0) (mk E F G) := cT_ret (by apply ct_272 <;> assumption) (by split <;> omega)
end S94zl
