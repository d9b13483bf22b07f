/-! MODEL: how far, run -/
section S94z
set_option linter.unusedVariables false
set_option linter.unusedSimpArgs false
theorem ct_215 {d : Nat} {E : EnQ} {F : Nat → Int → Int32} {G : Nat → Int → Int64} {K : Int → Int32} (hI : InvK K) (hF : F 218 = K) {x f : Int} (hx : 0 ≤ x ∧ x < tI (K 1)) (hf : f = 0 ∨ f = 1) (hd : 3 ≤ d) : ∃ r, callP MP d 215 [.ref 217, .int (zI x), .int (zI f)] (mk E F G) = some (Sum.inl none, mk E (uR F 224 r) G) ∧ ∀ p, 0 ≤ p → p < 10 → r p = zI (farZ K f x (tI (K 1)).toNat p) := by
  have hb1 := hI.1.2.1
  have hb2 := hI.1.2.2.1
  have hb5 := hI.1.2.2.2.2.2.1
  have hb4 := hI.1.2.2.2.2.1
  obtain ⟨e, rfl⟩ : ∃ e, d = e + 1 := ⟨d - 1, by omega⟩
  have hin : callP MP (e + 1) 215 [.ref 217, .int (zI x), .int (zI f)] (mk E F G) = runP MP e 215 (0, [some (.ref 217), some (.int (zI x)), some (.int (zI f)), none, none], [], mk E F G) := into_eq (by omega) hM_215 (rcv_mk rfl (by decide)) rfl
  -- the first rows
  have hA : ∃ r, runP MP e 215 (2, [some (.ref 217), some (.int (zI x)), some (.int (zI f)), some (.int (zI 0)), none], [], mk E F G) = runP MP e 215 (32, [some (.ref 217), some (.int (zI x)), some (.int (zI f)), some (.int (zI 0)), none], [], mk E (uR F 224 r) G) ∧ ∀ p, 0 ≤ p → p < 10 → r p = zI (farZ K f x 0 p) := by
    have h0 : mk E F G = mk E (uR F 224 (F 224)) G := by rw [uR_self]
    rw [h0]
    refine loopS (σ := Int → Int32) (Post := fun z => ∃ r, z = runP MP e 215 (32, [some (.ref 217), some (.int (zI x)), some (.int (zI f)), some (.int (zI 0)), none], [], mk E (uR F 224 r) G) ∧ ∀ p, 0 ≤ p → p < 10 → r p = zI (farZ K f x 0 p))
      (fun j s => runP MP e 215 (2, [some (.ref 217), some (.int (zI x)), some (.int (zI f)), some (.int (zI (j : Int))), none], [], mk E (uR F 224 s) G))
      (fun j s => ∀ p : Int, 0 ≤ p → p < (j : Int) → s p = zI (farZ K f x 0 p)) 10 (F 224) (fun p h1 h2 => by omega) (fun s hs => ⟨s, ?_, hs⟩) (fun j s hj hs => ?_)
    · show runP MP e 215 _ = runP MP e 215 _
      rw [q_215_2]; (try simp only [↓n_al, ↓n_cI, li_0, li_1, li_2, li_10, li_12, li_32, zI_add, zI_sub, zI_mul, zI_neg, ↓Option.bind_some]); simp (disch := (first | assumption | exact tI_rg _ | omega | exact uR_at | exact row_ne hF (by decide) | exact row_ne (row_ne hF (by decide)) (by decide) | exact SnS_18 | exact SnS_30 | exact LdS_44 | exact LdS_46)) only [q_215_0, q_215_23, q_215_102, q_215_116, ↓n_al, ↓n_cI, li_0, li_1, li_2, li_10, li_12, li_32, zI_add, zI_sub, zI_mul, zI_neg, ↓Option.bind_some, ↓g12_17, ↓g12_0, ↓al_218, ↓as_218, ↓al_224, ↓as_224, zIt2, uR_at, uR_ne, uR_uR, uC_uC, uC_at, ↓reduceIte, decide_eq_true_eq, leT, leF, ltT, ltF, eqT, eqF, ne_eq, not_true_eq_false, not_false_eq_true, Bool.false_eq_true, tI_zI]
    · right
      by_cases g : (j : Int) = x
      · refine ⟨uC s j (zI 0), fun p h1 h2 => ?_, ?_⟩
        · by_cases z : p = j
          · rw [z, uC_at, g]; exact congrArg zI (if_pos rfl).symm
          · rw [uC_ne z]; exact hs p h1 (by omega)
        · show runP MP e 215 _ = runP MP e 215 _
          rw [nsucc]
          rw [q_215_2]; (try simp only [↓n_al, ↓n_cI, li_0, li_1, li_2, li_10, li_12, li_32, zI_add, zI_sub, zI_mul, zI_neg, ↓Option.bind_some]); simp (disch := (first | assumption | exact tI_rg _ | omega | exact uR_at | exact row_ne hF (by decide) | exact row_ne (row_ne hF (by decide)) (by decide) | exact SnS_18 | exact SnS_30 | exact LdS_44 | exact LdS_46)) only [q_215_0, q_215_23, q_215_102, q_215_116, g, ↓n_al, ↓n_cI, li_0, li_1, li_2, li_10, li_12, li_32, zI_add, zI_sub, zI_mul, zI_neg, ↓Option.bind_some, ↓g12_17, ↓g12_0, ↓al_218, ↓as_218, ↓al_224, ↓as_224, zIt2, uR_at, uR_ne, uR_uR, uC_uC, uC_at, ↓reduceIte, decide_eq_true_eq, leT, leF, ltT, ltF, eqT, eqF, ne_eq, not_true_eq_false, not_false_eq_true, Bool.false_eq_true, tI_zI]
      · refine ⟨uC s j (zI (-1)), fun p h1 h2 => ?_, ?_⟩
        · by_cases z : p = j
          · rw [z, uC_at]; exact congrArg zI (if_neg g).symm
          · rw [uC_ne z]; exact hs p h1 (by omega)
        · show runP MP e 215 _ = runP MP e 215 _
          rw [nsucc]
          rw [q_215_2]; (try simp only [↓n_al, ↓n_cI, li_0, li_1, li_2, li_10, li_12, li_32, zI_add, zI_sub, zI_mul, zI_neg, ↓Option.bind_some]); simp (disch := (first | assumption | exact tI_rg _ | omega | exact uR_at | exact row_ne hF (by decide) | exact row_ne (row_ne hF (by decide)) (by decide) | exact SnS_18 | exact SnS_30 | exact LdS_44 | exact LdS_46)) only [q_215_0, q_215_23, q_215_102, q_215_116, ↓n_al, ↓n_cI, li_0, li_1, li_2, li_10, li_12, li_32, zI_add, zI_sub, zI_mul, zI_neg, ↓Option.bind_some, ↓g12_17, ↓g12_0, ↓al_218, ↓as_218, ↓al_224, ↓as_224, zIt2, uR_at, uR_ne, uR_uR, uC_uC, uC_at, ↓reduceIte, decide_eq_true_eq, leT, leF, ltT, ltF, eqT, eqF, ne_eq, not_true_eq_false, not_false_eq_true, Bool.false_eq_true, tI_zI]
  obtain ⟨r0, hr0, hr1⟩ := hA
  have h00 : runP MP e 215 (0, [some (.ref 217), some (.int (zI x)), some (.int (zI f)), none, none], [], mk E F G) = runP MP e 215 (2, [some (.ref 217), some (.int (zI x)), some (.int (zI f)), some (.int (zI 0)), none], [], mk E F G) := by
    rw [q_215_0, li_0]
  rw [hin, h00, hr0]
  refine loopS (σ := (Int → Int32) × Option Value) (Post := fun z => ∃ r, z = some (Sum.inl none, mk E (uR F 224 r) G) ∧ ∀ p, 0 ≤ p → p < 10 → r p = zI (farZ K f x (tI (K 1)).toNat p))
    (fun k s => runP MP e 215 (32, [some (.ref 217), some (.int (zI x)), some (.int (zI f)), some (.int (zI (k : Int))), s.2], [], mk E (uR F 224 s.1) G))
    (fun k s => ∀ p, 0 ≤ p → p < 10 → s.1 p = zI (farZ K f x k p)) (tI (K 1)).toNat (r0, none) hr1 (fun s hs => ⟨s.1, ?_, hs⟩) (fun k s hk hs => ?_)
  · have hF : uR F 224 s.1 218 = K := row_ne hF (by decide)
    show runP MP e 215 _ = _
    rw [q_215_32]; (try simp only [↓n_al, ↓n_cI, li_0, li_1, li_2, li_10, li_12, li_32, zI_add, zI_sub, zI_mul, zI_neg, ↓Option.bind_some]); simp (disch := (first | assumption | exact tI_rg _ | omega | exact uR_at | exact row_ne hF (by decide) | exact row_ne (row_ne hF (by decide)) (by decide) | exact SnS_18 | exact SnS_30 | exact LdS_44 | exact LdS_46)) only [q_215_0, q_215_23, q_215_102, q_215_116, ↓cc_214 hI, ↓n_al, ↓n_cI, li_0, li_1, li_2, li_10, li_12, li_32, zI_add, zI_sub, zI_mul, zI_neg, ↓Option.bind_some, ↓g12_17, ↓g12_0, ↓al_218, ↓as_218, ↓al_224, ↓as_224, zIt2, uR_at, uR_ne, uR_uR, uC_uC, uC_at, ↓reduceIte, decide_eq_true_eq, leT, leF, ltT, ltF, eqT, eqF, ne_eq, not_true_eq_false, not_false_eq_true, Bool.false_eq_true, tI_zI]
  · right
    obtain ⟨r, z4⟩ := s
    have hs : ∀ p, 0 ≤ p → p < 10 → r p = zI (farZ K f x k p) := hs
    have hB : ∃ r', runP MP e 215 (43, [some (.ref 217), some (.int (zI x)), some (.int (zI f)), some (.int (zI (k : Int))), some (.int (zI 0))], [], mk E (uR F 224 r) G) = runP MP e 215 (32, [some (.ref 217), some (.int (zI x)), some (.int (zI f)), some (.int (zI ((k : Int) + 1))), some (.int (zI (2 * tI (K 2))))], [], mk E (uR F 224 r') G) ∧ ∀ p, 0 ≤ p → p < 10 → r' p = zI (farZ K f x (k + 1) p) := by
      refine loopS (σ := Int → Int32) (Post := fun z => ∃ r', z = runP MP e 215 (32, [some (.ref 217), some (.int (zI x)), some (.int (zI f)), some (.int (zI ((k : Int) + 1))), some (.int (zI (2 * tI (K 2))))], [], mk E (uR F 224 r') G) ∧ ∀ p, 0 ≤ p → p < 10 → r' p = zI (farZ K f x (k + 1) p))
        (fun v s => runP MP e 215 (43, [some (.ref 217), some (.int (zI x)), some (.int (zI f)), some (.int (zI (k : Int))), some (.int (zI (v : Int)))], [], mk E (uR F 224 s) G))
        (fun v s => ∀ p, 0 ≤ p → p < 10 → s p = zI (farV K f x k v p)) (2 * tI (K 2)).toNat r (fun p h1 h2 => by rw [hs p h1 h2]; exact congrArg zI farM_0.symm) (fun s hs2 => ⟨s, ?_, hs2⟩) (fun v s hv hs2 => ?_)
      · have hF : uR F 224 s 218 = K := row_ne hF (by decide)
        show runP MP e 215 _ = runP MP e 215 _
        have hv2 : (((2 * tI (K 2)).toNat : Nat) : Int) = 2 * tI (K 2) := by omega
        rw [hv2]
        rw [q_215_43]; (try simp only [↓n_al, ↓n_cI, li_0, li_1, li_2, li_10, li_12, li_32, zI_add, zI_sub, zI_mul, zI_neg, ↓Option.bind_some]); simp (disch := (first | assumption | exact tI_rg _ | omega | exact uR_at | exact row_ne hF (by decide) | exact row_ne (row_ne hF (by decide)) (by decide) | exact SnS_18 | exact SnS_30 | exact LdS_44 | exact LdS_46)) only [q_215_0, q_215_23, q_215_102, q_215_116, hF, ↓n_al, ↓n_cI, li_0, li_1, li_2, li_10, li_12, li_32, zI_add, zI_sub, zI_mul, zI_neg, ↓Option.bind_some, ↓g12_17, ↓g12_0, ↓al_218, ↓as_218, ↓al_224, ↓as_224, zIt2, uR_at, uR_ne, uR_uR, uC_uC, uC_at, ↓reduceIte, decide_eq_true_eq, leT, leF, ltT, ltF, eqT, eqF, ne_eq, not_true_eq_false, not_false_eq_true, Bool.false_eq_true, tI_zI]
      · right
        have hF : uR F 224 s 218 = K := row_ne hF (by decide)
        have hpf := hI.2.1.1 v (by omega) (by omega)
        have hpt := hI.2.1.1 (flipZ v) (by unfold flipZ; split <;> omega) (by unfold flipZ; split <;> omega)
        have hfr : 0 ≤ fromZ K v ∧ fromZ K v < tI (K 1) := hpf
        have hto : 0 ≤ toZ K v ∧ toZ K v < tI (K 1) := hpt
        have e1 : s (fromZ K v) = zI (farV K f x k v (fromZ K v)) := hs2 _ hfr.1 (by omega)
        have e2 : s (toZ K v) = zI (farV K f x k v (toZ K v)) := hs2 _ hto.1 (by omega)
        have g1 : -1 ≤ farV K f x k v (fromZ K v) ∧ farV K f x k v (fromZ K v) ≤ k + 1 ∧ (farV K f x k v (fromZ K v) = k ↔ farZ K f x k (fromZ K v) = k) := farM_rg
        have g2 : -1 ≤ farV K f x k v (toZ K v) ∧ farV K f x k v (toZ K v) ≤ k + 1 ∧ (farV K f x k v (toZ K v) = k ↔ farZ K f x k (toZ K v) = k) := farM_rg
        have hS : ∀ p, farV K f x k (v + 1) p = if (wOk K f v = true ∧ farZ K f x k (fromZ K v) = k ∧ farV K f x k v (toZ K v) = -1) ∧ p = toZ K v then (k : Int) + 1 else farV K f x k v p := fun p => farM_s
        have hwr : 0 ≤ wcN K v ∧ wcN K v ≤ (tI (K 5)).toNat := cntN_rg _ _
        have hu : cntN (fun k : Nat => prW K k == (v : Int)) (tI (K 5)).toNat = wcN K v := rfl
        have hok : wOk K f v = true ↔ (f = 0 ∨ wcN K v ≠ 0) := decide_eq_true_iff
        have hno : ¬ (wOk K f v = true ∧ farZ K f x k (fromZ K v) = k ∧ farV K f x k v (toZ K v) = -1) → ∀ p, 0 ≤ p → p < 10 → s p = zI (farV K f x k (v + 1) p) := fun hn p p0 p1 => by
          rw [hS, if_neg (fun z => hn z.1)]; exact hs2 p p0 p1
        have hyes : (wOk K f v = true ∧ farZ K f x k (fromZ K v) = k ∧ farV K f x k v (toZ K v) = -1) → ∀ p, 0 ≤ p → p < 10 → uC s (toZ K v) (zI ((k : Int) + 1)) p = zI (farV K f x k (v + 1) p) := fun hy p p0 p1 => by
          rw [hS]
          by_cases z : p = toZ K v
          · rw [if_pos ⟨hy, z⟩, z, uC_at]
          · rw [if_neg (fun q => z q.2), uC_ne z]; exact hs2 p p0 p1
        by_cases a1 : farV K f x k v (fromZ K v) = k
        · by_cases a2 : farV K f x k v (toZ K v) = -1
          · by_cases a3 : f = 0
            · refine ⟨uC s (toZ K v) (zI ((k : Int) + 1)), hyes ⟨hok.mpr (Or.inl a3), g1.2.2.mp a1, a2⟩, ?_⟩
              show runP MP e 215 _ = runP MP e 215 _
              rw [nsucc]
              rw [q_215_43]; (try simp only [↓n_al, ↓n_cI, li_0, li_1, li_2, li_10, li_12, li_32, zI_add, zI_sub, zI_mul, zI_neg, ↓Option.bind_some]); simp (disch := (first | assumption | exact tI_rg _ | omega | exact uR_at | exact row_ne hF (by decide) | exact row_ne (row_ne hF (by decide)) (by decide) | exact SnS_18 | exact SnS_30 | exact LdS_44 | exact LdS_46)) only [q_215_0, q_215_23, q_215_102, q_215_116, hF, ↓cc_216 hI, ↓cc_217 hI, e1, e2, a1, a2, ↓n_al, ↓n_cI, li_0, li_1, li_2, li_10, li_12, li_32, zI_add, zI_sub, zI_mul, zI_neg, ↓Option.bind_some, ↓g12_17, ↓g12_0, ↓al_218, ↓as_218, ↓al_224, ↓as_224, zIt2, uR_at, uR_ne, uR_uR, uC_uC, uC_at, ↓reduceIte, decide_eq_true_eq, leT, leF, ltT, ltF, eqT, eqF, ne_eq, not_true_eq_false, not_false_eq_true, Bool.false_eq_true, tI_zI]
            · by_cases a4 : wcN K v = 0
              · refine ⟨s, hno (fun z => by rcases hok.mp z.1 with q | q; exact a3 q; exact q a4), ?_⟩
                show runP MP e 215 _ = runP MP e 215 _
                rw [nsucc]
                rw [q_215_43]; (try simp only [↓n_al, ↓n_cI, li_0, li_1, li_2, li_10, li_12, li_32, zI_add, zI_sub, zI_mul, zI_neg, ↓Option.bind_some]); simp (disch := (first | assumption | exact tI_rg _ | omega | exact uR_at | exact row_ne hF (by decide) | exact row_ne (row_ne hF (by decide)) (by decide) | exact SnS_18 | exact SnS_30 | exact LdS_44 | exact LdS_46)) only [q_215_0, q_215_23, q_215_102, q_215_116, hF, ↓cc_216 hI, ↓cc_217 hI, ↓cc_209 hI, hu, e1, e2, a1, a2, a4, ↓n_al, ↓n_cI, li_0, li_1, li_2, li_10, li_12, li_32, zI_add, zI_sub, zI_mul, zI_neg, ↓Option.bind_some, ↓g12_17, ↓g12_0, ↓al_218, ↓as_218, ↓al_224, ↓as_224, zIt2, uR_at, uR_ne, uR_uR, uC_uC, uC_at, ↓reduceIte, decide_eq_true_eq, leT, leF, ltT, ltF, eqT, eqF, ne_eq, not_true_eq_false, not_false_eq_true, Bool.false_eq_true, tI_zI]
              · refine ⟨uC s (toZ K v) (zI ((k : Int) + 1)), hyes ⟨hok.mpr (Or.inr a4), g1.2.2.mp a1, a2⟩, ?_⟩
                show runP MP e 215 _ = runP MP e 215 _
                rw [nsucc]
                rw [q_215_43]; (try simp only [↓n_al, ↓n_cI, li_0, li_1, li_2, li_10, li_12, li_32, zI_add, zI_sub, zI_mul, zI_neg, ↓Option.bind_some]); simp (disch := (first | assumption | exact tI_rg _ | omega | exact uR_at | exact row_ne hF (by decide) | exact row_ne (row_ne hF (by decide)) (by decide) | exact SnS_18 | exact SnS_30 | exact LdS_44 | exact LdS_46)) only [q_215_0, q_215_23, q_215_102, q_215_116, hF, ↓cc_216 hI, ↓cc_217 hI, ↓cc_209 hI, hu, e1, e2, a1, a2, ↓n_al, ↓n_cI, li_0, li_1, li_2, li_10, li_12, li_32, zI_add, zI_sub, zI_mul, zI_neg, ↓Option.bind_some, ↓g12_17, ↓g12_0, ↓al_218, ↓as_218, ↓al_224, ↓as_224, zIt2, uR_at, uR_ne, uR_uR, uC_uC, uC_at, ↓reduceIte, decide_eq_true_eq, leT, leF, ltT, ltF, eqT, eqF, ne_eq, not_true_eq_false, not_false_eq_true, Bool.false_eq_true, tI_zI]
          · refine ⟨s, hno (fun z => a2 z.2.2), ?_⟩
            show runP MP e 215 _ = runP MP e 215 _
            rw [nsucc]
            rw [q_215_43]; (try simp only [↓n_al, ↓n_cI, li_0, li_1, li_2, li_10, li_12, li_32, zI_add, zI_sub, zI_mul, zI_neg, ↓Option.bind_some]); simp (disch := (first | assumption | exact tI_rg _ | omega | exact uR_at | exact row_ne hF (by decide) | exact row_ne (row_ne hF (by decide)) (by decide) | exact SnS_18 | exact SnS_30 | exact LdS_44 | exact LdS_46)) only [q_215_0, q_215_23, q_215_102, q_215_116, hF, ↓cc_216 hI, ↓cc_217 hI, e1, e2, a1, ↓n_al, ↓n_cI, li_0, li_1, li_2, li_10, li_12, li_32, zI_add, zI_sub, zI_mul, zI_neg, ↓Option.bind_some, ↓g12_17, ↓g12_0, ↓al_218, ↓as_218, ↓al_224, ↓as_224, zIt2, uR_at, uR_ne, uR_uR, uC_uC, uC_at, ↓reduceIte, decide_eq_true_eq, leT, leF, ltT, ltF, eqT, eqF, ne_eq, not_true_eq_false, not_false_eq_true, Bool.false_eq_true, tI_zI]
        · refine ⟨s, hno (fun z => a1 (g1.2.2.mpr z.2.1)), ?_⟩
          show runP MP e 215 _ = runP MP e 215 _
          rw [nsucc]
          rw [q_215_43]; (try simp only [↓n_al, ↓n_cI, li_0, li_1, li_2, li_10, li_12, li_32, zI_add, zI_sub, zI_mul, zI_neg, ↓Option.bind_some]); simp (disch := (first | assumption | exact tI_rg _ | omega | exact uR_at | exact row_ne hF (by decide) | exact row_ne (row_ne hF (by decide)) (by decide) | exact SnS_18 | exact SnS_30 | exact LdS_44 | exact LdS_46)) only [q_215_0, q_215_23, q_215_102, q_215_116, hF, ↓cc_216 hI, e1, ↓n_al, ↓n_cI, li_0, li_1, li_2, li_10, li_12, li_32, zI_add, zI_sub, zI_mul, zI_neg, ↓Option.bind_some, ↓g12_17, ↓g12_0, ↓al_218, ↓as_218, ↓al_224, ↓as_224, zIt2, uR_at, uR_ne, uR_uR, uC_uC, uC_at, ↓reduceIte, decide_eq_true_eq, leT, leF, ltT, ltF, eqT, eqF, ne_eq, not_true_eq_false, not_false_eq_true, Bool.false_eq_true, tI_zI]
    obtain ⟨r', t1, t2⟩ := hB
    have hF : uR F 224 r 218 = K := row_ne hF (by decide)
    refine ⟨(r', some (.int (zI (2 * tI (K 2))))), t2, ?_⟩
    show runP MP e 215 _ = runP MP e 215 _
    rw [nsucc, ← t1]
    rw [q_215_32]; (try simp only [↓n_al, ↓n_cI, li_0, li_1, li_2, li_10, li_12, li_32, zI_add, zI_sub, zI_mul, zI_neg, ↓Option.bind_some]); simp (disch := (first | assumption | exact tI_rg _ | omega | exact uR_at | exact row_ne hF (by decide) | exact row_ne (row_ne hF (by decide)) (by decide) | exact SnS_18 | exact SnS_30 | exact LdS_44 | exact LdS_46)) only [q_215_0, q_215_23, q_215_102, q_215_116, ↓cc_214 hI, ↓n_al, ↓n_cI, li_0, li_1, li_2, li_10, li_12, li_32, zI_add, zI_sub, zI_mul, zI_neg, ↓Option.bind_some, ↓g12_17, ↓g12_0, ↓al_218, ↓as_218, ↓al_224, ↓as_224, zIt2, uR_at, uR_ne, uR_uR, uC_uC, uC_at, ↓reduceIte, decide_eq_true_eq, leT, leF, ltT, ltF, eqT, eqF, ne_eq, not_true_eq_false, not_false_eq_true, Bool.false_eq_true, tI_zI]
end S94z
