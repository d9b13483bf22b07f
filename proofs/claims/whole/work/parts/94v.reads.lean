/-! CALL: reads -/
section S94v
set_option linter.unusedVariables false
set_option linter.unusedSimpArgs false
def rdC (w m : Nat) : Nat → Nat
  | 0 => 0
  | j + 1 => if w.testBit j = true ∧ rdC w m j < m then rdC w m j + 1 else rdC w m j
def rdR (w m : Nat) (s o : Int) (r : Int → Int64) : Nat → Int → Int64
  | 0 => r
  | j + 1 => if w.testBit j = true ∧ rdC w m j < m then uC (rdR w m s o r j) (o + rdC w m j) (cutJ s (zJ (j : Int))) else rdR w m s o r j
theorem rdC_le {w m : Nat} : ∀ j, rdC w m j ≤ m := by
  intro j
  induction j with
  | zero => exact Nat.zero_le _
  | succ j ih =>
    by_cases g : w.testBit j = true ∧ rdC w m j < m
    · rw [show rdC w m (j + 1) = rdC w m j + 1 from if_pos g]; omega
    · rw [show rdC w m (j + 1) = rdC w m j from if_neg g]; exact ih
theorem rd_stay {w m j : Nat} {s o : Int} {r : Int → Int64} : ∀ n, j ≤ n → (∀ i, j ≤ i → i < n → ¬ (w.testBit i = true ∧ rdC w m j < m)) → rdC w m n = rdC w m j ∧ rdR w m s o r n = rdR w m s o r j := by
  intro n
  induction n with
  | zero => intro h _; rw [show j = 0 by omega]; exact ⟨rfl, rfl⟩
  | succ n ih =>
    intro h hs
    by_cases e : j = n + 1
    · rw [e]; exact ⟨rfl, rfl⟩
    · obtain ⟨i1, i2⟩ := ih (by omega) (fun i h1 h2 => hs i h1 (by omega))
      have := hs n (by omega) (by omega)
      rw [← i1] at this
      rw [show rdC w m (n + 1) = rdC w m n from if_neg this, show rdR w m s o r (n + 1) = rdR w m s o r n from if_neg this]
      exact ⟨i1, i2⟩
def a_reads (F : Nat → Int → Int32) (K : Int → Int32) (x : Int) : Int × Int := (tfZ F x, if tfZ F x = 0 then (rdC (wysN K) (tdM F x) 32 : Nat) else 0)
def rcG (F : Nat → Int → Int32) (G : Nat → Int → Int64) (K : Int → Int32) (x : Int) (j : Nat) : Nat → Int → Int64 := uR G (trH x + 1) (rdR (wysN K) (tdM F x) (tI (F 243 x)) 0 (G (trH x + 1)) j)
def rmG (F : Nat → Int → Int32) (G : Nat → Int → Int64) (K : Int → Int32) (x : Int) (j : Nat) : Nat → Int → Int64 := uR G 245 (rdR (wysN K) (tdM F x) (tI (F 243 x)) (30 * x) (G 245) j)
theorem cl_reads {d : Nat} {E : EnQ} {F : Nat → Int → Int32} {G : Nat → Int → Int64} {K : Int → Int32} (hO : SnO E F 18 K) (hT : TrR E F G) {x : Int} (hx : -2147483648 ≤ x ∧ x ≤ 2147483647) (hd : 4 ≤ d) : ∃ E1, (E1 = E ∨ E1 = jE E) ∧ callP MP d 178 [.ref 16, .int (zI x)] (mk E F G) = some (thrP [0, 1] (a_reads F K x), mk E1 F (if tfZ F x = 0 then rcG F G K x 32 else G)) := by
  have hI := hO.2.2.2.2
  by_cases c1 : 0 ≤ x ∧ x < 4
  · obtain ⟨q1, q2, q3, q4, q5, q6⟩ := TrR_x hT c1
    have ht : TrS E (trH x) := TrS_x c1
    have hs := ht.1
    have q2' : tI (F (trH x) 0) = tI (F 243 x) := by rw [q2]
    have q3' : tI (F (trH x) 1) = tdM F x := by rw [q3]; unfold tdM; omega
    have hm30 : tdM F x ≤ 30 := by unfold tdM; omega
    by_cases c2 : tI (F 243 x) = -1
    · have ha : tfZ F x = 2 := (if_pos c1).trans (if_pos c2)
      unfold a_reads
      rw [ha]
      refine ⟨jE E, Or.inr rfl, ?_⟩
      show (_ : ResP) = some (Sum.inr 1, mk (jE E) F G)
      refine into (D := 3) (by omega) hM_178 (rcv_mk rfl (by decide)) rfl fun d hd => ?_
      show runP MP d 178 (0, [some (.ref 16), some (.int (zI x)), none, none, none, none], [], _) = _
      rw [q_178_0]; (try simp only [↓n_rd, ↓n_cI, ↓n_cJ, li_0, li_1, li_4, li_7, li_20, li_32, li_63, lj_0, lj_1, lj_4, zJ_add, zJ_sub, zJ_mul, zJ_neg, zJ_l2i, zI_add, zI_sub, zI_mul, zI_neg, ↓Option.bind_some]); simp (disch := (first | assumption | exact tI_rg _ | omega | exact uR_at | exact row_ne hF (by decide) | exact row_ne (row_ne hF (by decide)) (by decide) | exact SnS_18 | exact SnS_30 | exact LdS_44 | exact LdS_46)) only [q_178_58, q_178_58_1, ↓cc_137m hT, thr_eq, ↓n_rd, ↓n_cI, ↓n_cJ, li_0, li_1, li_4, li_7, li_20, li_32, li_63, lj_0, lj_1, lj_4, zJ_add, zJ_sub, zJ_mul, zJ_neg, zJ_l2i, tJ_zJ, zI_add, zI_sub, zI_mul, zI_neg, ↓Option.bind_some, ↓g11_4, ↓g7_1, zIt2, uR_at, uR_ne, uR_uR, uC_uC, uC_at, ↓reduceIte, decide_eq_true_eq, leT, leF, ltT, ltF, eqT, eqF, ne_eq, not_true_eq_false, not_false_eq_true, Bool.false_eq_true, tI_zI]
    · have ha : tfZ F x = 0 := (if_pos c1).trans (if_neg c2)
      have hwl := wysN_lt hI
      unfold a_reads
      rw [ha]
      refine ⟨E, Or.inl rfl, ?_⟩
      show (_ : ResP) = some (Sum.inl (some (.int (zI ((rdC (wysN K) (tdM F x) 32 : Nat) : Int)))), mk E F (rcG F G K x 32))
      refine into (D := 3) (by omega) hM_178 (rcv_mk rfl (by decide)) rfl fun d hd => ?_
      show runP MP d 178 (0, [some (.ref 16), some (.int (zI x)), none, none, none, none], [], _) = _
      have hz : ∀ {kk : Int → HeapP → ResP} {kx : Nat → HeapP → ResP}, cT (callP MP d 63 [.ref 18] (mk E F G)) kk kx = kk (tI (zI ((wysN K : Nat) : Int))) (mk E F G) := fun {kk kx} => by
        unfold cT; rw [cI_ret (ct_63 hO (by omega))]
      have hl : runP MP d 178 (20, [some (.ref 16), some (.int (zI x)), some (.ref (trH x)), some (.int (zI ((wysN K : Nat) : Int))), some (.int (zI 0)), some (.int (zI 0))], [], mk E F G) = some (Sum.inl (some (.int (zI ((rdC (wysN K) (tdM F x) 32 : Nat) : Int)))), mk E F (rcG F G K x 32)) := by
        have h0 : mk E F G = mk E F (rcG F G K x 0) := by unfold rcG; show _ = mk E F (uR G (trH x + 1) (G (trH x + 1))); rw [uR_self]
        rw [h0]
        refine (loopN (fun j : Nat => runP MP d 178 (20, [some (.ref 16), some (.int (zI x)), some (.ref (trH x)), some (.int (zI ((wysN K : Nat) : Int))), some (.int (zI ((rdC (wysN K) (tdM F x) j : Nat) : Int))), some (.int (zI (j : Int)))], [], mk E F (rcG F G K x j))) 32 (fun j hj => ?_)).trans ?_
        · show runP MP d 178 _ = runP MP d 178 _
          have hle := rdC_le (w := wysN K) (m := tdM F x) j
          have hA : o_iushr (zI ((wysN K : Nat) : Int)) (zI (j : Int)) &&& zI 1 = zI ((wysN K / 2 ^ j % 2 : Nat) : Int) := by
            have h1 := ushrZ (wysN K) j hwl (by omega)
            have h2 := andZ (wysN K / 2 ^ j) 1
            have h3 := Nat.and_two_pow_sub_one_eq_mod (wysN K / 2 ^ j) 1
            rw [h1, show zI 1 = zI ((1 : Nat) : Int) from rfl, h2]
            exact congrArg (fun z : Nat => zI (z : Int)) h3
          have hm : wysN K / 2 ^ j % 2 < 2 := Nat.mod_lt _ (by omega)
          have hb : (wysN K).testBit j = decide (wysN K / 2 ^ j % 2 = 1) := Nat.testBit_eq_decide_div_mod_eq
          by_cases g : wysN K / 2 ^ j % 2 = 0
          · have hn : ¬ ((wysN K).testBit j = true ∧ rdC (wysN K) (tdM F x) j < tdM F x) := fun z => by rw [hb, decide_eq_true_eq] at z; omega
            have e1 : rdC (wysN K) (tdM F x) (j + 1) = rdC (wysN K) (tdM F x) j := if_neg hn
            have e2 : rcG F G K x (j + 1) = rcG F G K x j := by unfold rcG; rw [show rdR (wysN K) (tdM F x) (tI (F 243 x)) 0 (G (trH x + 1)) (j + 1) = rdR (wysN K) (tdM F x) (tI (F 243 x)) 0 (G (trH x + 1)) j from if_neg hn]
            rw [e1, e2, nsucc]
            rw [q_178_20_1]; (try simp only [↓n_rd, ↓n_cI, ↓n_cJ, li_0, li_1, li_4, li_7, li_20, li_32, li_63, lj_0, lj_1, lj_4, zJ_add, zJ_sub, zJ_mul, zJ_neg, zJ_l2i, zI_add, zI_sub, zI_mul, zI_neg, ↓Option.bind_some]); simp (disch := (first | assumption | exact tI_rg _ | omega | exact uR_at | exact row_ne hF (by decide) | exact row_ne (row_ne hF (by decide)) (by decide) | exact SnS_18 | exact SnS_30 | exact LdS_44 | exact LdS_46)) only [q_178_0, q_178_58, q_178_58_1, hA, g, ↓n_rd, ↓n_cI, ↓n_cJ, li_0, li_1, li_4, li_7, li_20, li_32, li_63, lj_0, lj_1, lj_4, zJ_add, zJ_sub, zJ_mul, zJ_neg, zJ_l2i, tJ_zJ, zI_add, zI_sub, zI_mul, zI_neg, ↓Option.bind_some, ↓g11_4, ↓g7_1, zIt2, uR_at, uR_ne, uR_uR, uC_uC, uC_at, ↓reduceIte, decide_eq_true_eq, leT, leF, ltT, ltF, eqT, eqF, ne_eq, not_true_eq_false, not_false_eq_true, Bool.false_eq_true, tI_zI]
          · have hbt : (wysN K).testBit j = true := by rw [hb, decide_eq_true_eq]; omega
            by_cases g2 : rdC (wysN K) (tdM F x) j < tdM F x
            · have e1 : rdC (wysN K) (tdM F x) (j + 1) = rdC (wysN K) (tdM F x) j + 1 := if_pos ⟨hbt, g2⟩
              have r96 := ct_96 (d := d) (F := F) (G := rcG F G K x j) ht (by omega) (by omega) (i := (rdC (wysN K) (tdM F x) j : Nat)) (by omega) (v := zJ (j : Int)) (by omega)
              have e3 : uR (rcG F G K x j) (trH x + 1) (uC (rcG F G K x j (trH x + 1)) ((rdC (wysN K) (tdM F x) j : Nat) : Int) (cutJ (tI (F (trH x) 0)) (zJ (j : Int)))) = rcG F G K x (j + 1) := by
                unfold rcG
                rw [uR_uR, uR_at, q2', show rdR (wysN K) (tdM F x) (tI (F 243 x)) 0 (G (trH x + 1)) (j + 1) = uC (rdR (wysN K) (tdM F x) (tI (F 243 x)) 0 (G (trH x + 1)) j) (0 + (rdC (wysN K) (tdM F x) j : Nat)) (cutJ (tI (F 243 x)) (zJ (j : Int))) from if_pos ⟨hbt, g2⟩, Int.zero_add]
              rw [e3] at r96
              have h96 : ∀ {kk : Int → HeapP → ResP} {kx : Nat → HeapP → ResP}, cJT (callP MP d 96 [.ref (trH x), .int (zI ((rdC (wysN K) (tdM F x) j : Nat) : Int)), .long (zJ (j : Int))] (mk E F (rcG F G K x j))) kk kx = kk (tJ (cutJ (tI (F (trH x) 0)) (zJ (j : Int)))) (mk E F (rcG F G K x (j + 1))) := fun {kk kx} => by
                unfold cJT; rw [cJ_ret r96]
              rw [e1, nsucc, Int.natCast_add]
              show _ = runP MP d 178 (20, [some (.ref 16), some (.int (zI x)), some (.ref (trH x)), some (.int (zI ((wysN K : Nat) : Int))), some (.int (zI ((rdC (wysN K) (tdM F x) j : Nat) + 1))), some (.int (zI ((j : Int) + 1)))], [], mk E F (rcG F G K x (j + 1)))
              rw [q_178_20_1]; (try simp only [↓n_rd, ↓n_cI, ↓n_cJ, li_0, li_1, li_4, li_7, li_20, li_32, li_63, lj_0, lj_1, lj_4, zJ_add, zJ_sub, zJ_mul, zJ_neg, zJ_l2i, zI_add, zI_sub, zI_mul, zI_neg, ↓Option.bind_some]); simp (disch := (first | assumption | exact tI_rg _ | omega | exact uR_at | exact row_ne hF (by decide) | exact row_ne (row_ne hF (by decide)) (by decide) | exact SnS_18 | exact SnS_30 | exact LdS_44 | exact LdS_46)) only [q_178_0, q_178_58, q_178_58_1, hA, q3', zI_i2l, ↓n_cJ, ↓h96, ↓n_rd, ↓n_cI, ↓n_cJ, li_0, li_1, li_4, li_7, li_20, li_32, li_63, lj_0, lj_1, lj_4, zJ_add, zJ_sub, zJ_mul, zJ_neg, zJ_l2i, tJ_zJ, zI_add, zI_sub, zI_mul, zI_neg, ↓Option.bind_some, ↓g11_4, ↓g7_1, zIt2, uR_at, uR_ne, uR_uR, uC_uC, uC_at, ↓reduceIte, decide_eq_true_eq, leT, leF, ltT, ltF, eqT, eqF, ne_eq, not_true_eq_false, not_false_eq_true, Bool.false_eq_true, tI_zI]
            · have hn : ¬ ((wysN K).testBit j = true ∧ rdC (wysN K) (tdM F x) j < tdM F x) := fun z => g2 z.2
              have e1 : rdC (wysN K) (tdM F x) (j + 1) = rdC (wysN K) (tdM F x) j := if_neg hn
              have e2 : rcG F G K x (j + 1) = rcG F G K x j := by unfold rcG; rw [show rdR (wysN K) (tdM F x) (tI (F 243 x)) 0 (G (trH x + 1)) (j + 1) = rdR (wysN K) (tdM F x) (tI (F 243 x)) 0 (G (trH x + 1)) j from if_neg hn]
              rw [e1, e2, nsucc]
              rw [q_178_20_1]; (try simp only [↓n_rd, ↓n_cI, ↓n_cJ, li_0, li_1, li_4, li_7, li_20, li_32, li_63, lj_0, lj_1, lj_4, zJ_add, zJ_sub, zJ_mul, zJ_neg, zJ_l2i, zI_add, zI_sub, zI_mul, zI_neg, ↓Option.bind_some]); simp (disch := (first | assumption | exact tI_rg _ | omega | exact uR_at | exact row_ne hF (by decide) | exact row_ne (row_ne hF (by decide)) (by decide) | exact SnS_18 | exact SnS_30 | exact LdS_44 | exact LdS_46)) only [q_178_0, q_178_58, q_178_58_1, hA, q3', ↓n_rd, ↓n_cI, ↓n_cJ, li_0, li_1, li_4, li_7, li_20, li_32, li_63, lj_0, lj_1, lj_4, zJ_add, zJ_sub, zJ_mul, zJ_neg, zJ_l2i, tJ_zJ, zI_add, zI_sub, zI_mul, zI_neg, ↓Option.bind_some, ↓g11_4, ↓g7_1, zIt2, uR_at, uR_ne, uR_uR, uC_uC, uC_at, ↓reduceIte, decide_eq_true_eq, leT, leF, ltT, ltF, eqT, eqF, ne_eq, not_true_eq_false, not_false_eq_true, Bool.false_eq_true, tI_zI]
        · show runP MP d 178 (20, [some (.ref 16), some (.int (zI x)), some (.ref (trH x)), some (.int (zI ((wysN K : Nat) : Int))), some (.int (zI ((rdC (wysN K) (tdM F x) 32 : Nat) : Int))), some (.int (zI 32))], [], mk E F (rcG F G K x 32)) = _
          rw [q_178_20_1]; (try simp only [↓n_rd, ↓n_cI, ↓n_cJ, li_0, li_1, li_4, li_7, li_20, li_32, li_63, lj_0, lj_1, lj_4, zJ_add, zJ_sub, zJ_mul, zJ_neg, zJ_l2i, zI_add, zI_sub, zI_mul, zI_neg, ↓Option.bind_some]); simp (disch := (first | assumption | exact tI_rg _ | omega | exact uR_at | exact row_ne hF (by decide) | exact row_ne (row_ne hF (by decide)) (by decide) | exact SnS_18 | exact SnS_30 | exact LdS_44 | exact LdS_46)) only [q_178_0, q_178_58, q_178_58_1, ↓n_rd, ↓n_cI, ↓n_cJ, li_0, li_1, li_4, li_7, li_20, li_32, li_63, lj_0, lj_1, lj_4, zJ_add, zJ_sub, zJ_mul, zJ_neg, zJ_l2i, tJ_zJ, zI_add, zI_sub, zI_mul, zI_neg, ↓Option.bind_some, ↓g11_4, ↓g7_1, zIt2, uR_at, uR_ne, uR_uR, uC_uC, uC_at, ↓reduceIte, decide_eq_true_eq, leT, leF, ltT, ltF, eqT, eqF, ne_eq, not_true_eq_false, not_false_eq_true, Bool.false_eq_true, tI_zI]
      rw [q_178_0]; (try simp only [↓n_rd, ↓n_cI, ↓n_cJ, li_0, li_1, li_4, li_7, li_20, li_32, li_63, lj_0, lj_1, lj_4, zJ_add, zJ_sub, zJ_mul, zJ_neg, zJ_l2i, zI_add, zI_sub, zI_mul, zI_neg, ↓Option.bind_some]); simp (disch := (first | assumption | exact tI_rg _ | omega | exact uR_at | exact row_ne hF (by decide) | exact row_ne (row_ne hF (by decide)) (by decide) | exact SnS_18 | exact SnS_30 | exact LdS_44 | exact LdS_46)) only [q_178_58, q_178_58_1, ↓cc_137t hT, ↓hz, ↓hl, ↓n_rd, ↓n_cI, ↓n_cJ, li_0, li_1, li_4, li_7, li_20, li_32, li_63, lj_0, lj_1, lj_4, zJ_add, zJ_sub, zJ_mul, zJ_neg, zJ_l2i, tJ_zJ, zI_add, zI_sub, zI_mul, zI_neg, ↓Option.bind_some, ↓g11_4, ↓g7_1, zIt2, uR_at, uR_ne, uR_uR, uC_uC, uC_at, ↓reduceIte, decide_eq_true_eq, leT, leF, ltT, ltF, eqT, eqF, ne_eq, not_true_eq_false, not_false_eq_true, Bool.false_eq_true, tI_zI]
  · have ha : tfZ F x = 1 := if_neg c1
    unfold a_reads
    rw [ha]
    refine ⟨jE E, Or.inr rfl, ?_⟩
    show (_ : ResP) = some (Sum.inr 0, mk (jE E) F G)
    refine into (D := 3) (by omega) hM_178 (rcv_mk rfl (by decide)) rfl fun d hd => ?_
    show runP MP d 178 (0, [some (.ref 16), some (.int (zI x)), none, none, none, none], [], _) = _
    rw [q_178_0]; (try simp only [↓n_rd, ↓n_cI, ↓n_cJ, li_0, li_1, li_4, li_7, li_20, li_32, li_63, lj_0, lj_1, lj_4, zJ_add, zJ_sub, zJ_mul, zJ_neg, zJ_l2i, zI_add, zI_sub, zI_mul, zI_neg, ↓Option.bind_some]); simp (disch := (first | assumption | exact tI_rg _ | omega | exact uR_at | exact row_ne hF (by decide) | exact row_ne (row_ne hF (by decide)) (by decide) | exact SnS_18 | exact SnS_30 | exact LdS_44 | exact LdS_46)) only [q_178_58, q_178_58_1, ↓cc_137f, thr_eq, ↓n_rd, ↓n_cI, ↓n_cJ, li_0, li_1, li_4, li_7, li_20, li_32, li_63, lj_0, lj_1, lj_4, zJ_add, zJ_sub, zJ_mul, zJ_neg, zJ_l2i, tJ_zJ, zI_add, zI_sub, zI_mul, zI_neg, ↓Option.bind_some, ↓g11_4, ↓g7_1, zIt2, uR_at, uR_ne, uR_uR, uC_uC, uC_at, ↓reduceIte, decide_eq_true_eq, leT, leF, ltT, ltF, eqT, eqF, ne_eq, not_true_eq_false, not_false_eq_true, Bool.false_eq_true, tI_zI]
theorem ml_reads {d : Nat} {E : EnQ} {F : Nat → Int → Int32} {G : Nat → Int → Int64} {K : Int → Int32} (hI : InvK K) (hF : F 218 = K) (hT : TrR E F G) {x : Int} (hx : -2147483648 ≤ x ∧ x ≤ 2147483647) (hd : 4 ≤ d) : callP MP d 312 [.ref 217, .int (zI x)] (mk E F G) = some (Sum.inl (some (.int (zI (a_reads F K x).2))), mk E (uR F 217 (uC (F 217) 5 (zI (a_reads F K x).1))) (if tfZ F x = 0 then rmG F G K x 32 else G)) := by
  have hb2 := hI.1.2.2.1
  have hb5 := hI.1.2.2.2.2.2.1
  have hb4 := hI.1.2.2.2.2.1
  by_cases c1 : 0 ≤ x ∧ x < 4
  · obtain ⟨q1, q2, q3, q4, q5, q6⟩ := TrR_x hT c1
    have q3' : tI (F 244 x) = tdM F x := by unfold tdM; omega
    have hm30 : tdM F x ≤ 30 := by unfold tdM; omega
    by_cases c2 : tI (F 243 x) = -1
    · have ha : tfZ F x = 2 := (if_pos c1).trans (if_pos c2)
      unfold a_reads
      rw [ha]
      show (_ : ResP) = some (Sum.inl (some (.int (zI 0))), mk E (uR F 217 (uC (F 217) 5 (zI 2))) G)
      refine into (D := 3) (by omega) hM_312 (rcv_mk rfl (by decide)) rfl fun d hd => ?_
      show runP MP d 312 (0, [some (.ref 217), some (.int (zI x)), none, none], [], _) = _
      rw [q_312_0]; (try simp only [↓n_rd, ↓n_al, ↓n_cI, ↓n_cJ, li_0, li_1, li_2, li_5, li_12, lj_0, lj_1, lj_2, lj_5, lj_12, zJ_add, zJ_sub, zJ_mul, zJ_neg, zJ_l2i, zI_add, zI_sub, zI_mul, zI_neg, ↓Option.bind_some]); simp (disch := (first | assumption | exact tI_rg _ | omega | exact uR_at | exact row_ne hF (by decide) | exact row_ne (row_ne hF (by decide)) (by decide) | exact SnS_18 | exact SnS_30 | exact LdS_44 | exact LdS_46)) only [q_312_67, q_312_73, ↓cc_235, ha, ↓n_rd, ↓n_al, ↓n_cI, ↓n_cJ, li_0, li_1, li_2, li_5, li_12, lj_0, lj_1, lj_2, lj_5, lj_12, zJ_add, zJ_sub, zJ_mul, zJ_neg, zJ_l2i, tJ_zJ, zI_add, zI_sub, zI_mul, zI_neg, ↓Option.bind_some, ↓g12_5, ↓g12_0, ↓g12_54, ↓p12_5, ↓al_218, ↓as_218, ↓al_244, ↓as_244, zIt2, uR_at, uR_ne, uR_uR, uC_uC, uC_at, ↓reduceIte, decide_eq_true_eq, leT, leF, ltT, ltF, eqT, eqF, ne_eq, not_true_eq_false, not_false_eq_true, Bool.false_eq_true, tI_zI]
    · have ha : tfZ F x = 0 := (if_pos c1).trans (if_neg c2)
      unfold a_reads
      rw [ha]
      show (_ : ResP) = some (Sum.inl (some (.int (zI ((rdC (wysN K) (tdM F x) 32 : Nat) : Int)))), mk E (uR F 217 (uC (F 217) 5 (zI 0))) (rmG F G K x 32))
      refine into (D := 3) (by omega) hM_312 (rcv_mk rfl (by decide)) rfl fun d hd => ?_
      show runP MP d 312 (0, [some (.ref 217), some (.int (zI x)), none, none], [], _) = _
      have hF : uR F 217 (uC (F 217) 5 (zI 0)) 218 = K := row_ne hF (by decide)
      have e43 : uR F 217 (uC (F 217) 5 (zI 0)) 243 = F 243 := uR_ne (by decide)
      have hwz : ∀ i : Nat, (2 * tI (K 2) ≤ i) → (wysN K).testBit i = false := fun i hi => by
        rw [← wcN_bit hI]
        unfold wcN
        rw [cntN_z]
        intro j hj
        have hr := hI.2.2.2.1 j (by omega) (by omega)
        rw [beq_eq_false_iff_ne]; omega
      have hl : runP MP d 312 (22, [some (.ref 217), some (.int (zI x)), some (.int (zI 0)), some (.int (zI 0))], [], mk E (uR F 217 (uC (F 217) 5 (zI 0))) G) = some (Sum.inl (some (.int (zI ((rdC (wysN K) (tdM F x) 32 : Nat) : Int)))), mk E (uR F 217 (uC (F 217) 5 (zI 0))) (rmG F G K x 32)) := by
        have h0 : mk E (uR F 217 (uC (F 217) 5 (zI 0))) G = mk E (uR F 217 (uC (F 217) 5 (zI 0))) (rmG F G K x 0) := by unfold rmG; show _ = mk E _ (uR G 245 (G 245)); rw [uR_self]
        rw [h0]
        refine loopS (σ := Unit) (Post := fun r => r = some (Sum.inl (some (.int (zI ((rdC (wysN K) (tdM F x) 32 : Nat) : Int)))), mk E (uR F 217 (uC (F 217) 5 (zI 0))) (rmG F G K x 32)))
          (fun j _ => runP MP d 312 (22, [some (.ref 217), some (.int (zI x)), some (.int (zI ((rdC (wysN K) (tdM F x) j : Nat) : Int))), some (.int (zI (j : Int)))], [], mk E (uR F 217 (uC (F 217) 5 (zI 0))) (rmG F G K x j)))
          (fun _ _ => True) (2 * tI (K 2)).toNat () trivial (fun s hs => ?_) (fun j s hj hs => ?_)
        · obtain ⟨i1, i2⟩ := rd_stay (w := wysN K) (m := tdM F x) (s := tI (F 243 x)) (o := 30 * x) (r := G 245) (j := (2 * tI (K 2)).toNat) 32 (by omega) (fun i h1 h2 z => by rw [hwz i (by omega)] at z; exact Bool.false_ne_true z.1)
          have e2 : rmG F G K x 32 = rmG F G K x (2 * tI (K 2)).toNat := by unfold rmG; rw [i2]
          rw [i1, e2]
          show runP MP d 312 _ = _
          rw [q_312_22]; (try simp only [↓n_rd, ↓n_al, ↓n_cI, ↓n_cJ, li_0, li_1, li_2, li_5, li_12, lj_0, lj_1, lj_2, lj_5, lj_12, zJ_add, zJ_sub, zJ_mul, zJ_neg, zJ_l2i, zI_add, zI_sub, zI_mul, zI_neg, ↓Option.bind_some]); simp (disch := (first | assumption | exact tI_rg _ | omega | exact uR_at | exact row_ne hF (by decide) | exact row_ne (row_ne hF (by decide)) (by decide) | exact SnS_18 | exact SnS_30 | exact LdS_44 | exact LdS_46)) only [q_312_0, q_312_67, q_312_73, hF, ↓n_rd, ↓n_al, ↓n_cI, ↓n_cJ, li_0, li_1, li_2, li_5, li_12, lj_0, lj_1, lj_2, lj_5, lj_12, zJ_add, zJ_sub, zJ_mul, zJ_neg, zJ_l2i, tJ_zJ, zI_add, zI_sub, zI_mul, zI_neg, ↓Option.bind_some, ↓g12_5, ↓g12_0, ↓g12_54, ↓p12_5, ↓al_218, ↓as_218, ↓al_244, ↓as_244, zIt2, uR_at, uR_ne, uR_uR, uC_uC, uC_at, ↓reduceIte, decide_eq_true_eq, leT, leF, ltT, ltF, eqT, eqF, ne_eq, not_true_eq_false, not_false_eq_true, Bool.false_eq_true, tI_zI]
        · have hle := rdC_le (w := wysN K) (m := tdM F x) j
          by_cases g2 : rdC (wysN K) (tdM F x) j < tdM F x
          · right
            refine ⟨(), trivial, ?_⟩
            show runP MP d 312 _ = runP MP d 312 _
            have hw1 := wcN_bit hI (v := j)
            have hwr : 0 ≤ wcN K j ∧ wcN K j ≤ (tI (K 5)).toNat := cntN_rg _ _
            have hu : cntN (fun k : Nat => prW K k == (j : Int)) (tI (K 5)).toNat = wcN K j := rfl
            by_cases g : wcN K j = 0
            · have hn : ¬ ((wysN K).testBit j = true ∧ rdC (wysN K) (tdM F x) j < tdM F x) := fun z => by rw [hw1.mp g] at z; exact Bool.false_ne_true z.1
              have e1 : rdC (wysN K) (tdM F x) (j + 1) = rdC (wysN K) (tdM F x) j := if_neg hn
              have e2 : rmG F G K x (j + 1) = rmG F G K x j := by unfold rmG; rw [show rdR (wysN K) (tdM F x) (tI (F 243 x)) (30 * x) (G 245) (j + 1) = rdR (wysN K) (tdM F x) (tI (F 243 x)) (30 * x) (G 245) j from if_neg hn]
              rw [e1, e2, nsucc]
              rw [q_312_22]; (try simp only [↓n_rd, ↓n_al, ↓n_cI, ↓n_cJ, li_0, li_1, li_2, li_5, li_12, lj_0, lj_1, lj_2, lj_5, lj_12, zJ_add, zJ_sub, zJ_mul, zJ_neg, zJ_l2i, zI_add, zI_sub, zI_mul, zI_neg, ↓Option.bind_some]); simp (disch := (first | assumption | exact tI_rg _ | omega | exact uR_at | exact row_ne hF (by decide) | exact row_ne (row_ne hF (by decide)) (by decide) | exact SnS_18 | exact SnS_30 | exact LdS_44 | exact LdS_46)) only [q_312_0, q_312_67, q_312_73, hF, q3', ↓cc_209 hI, hu, g, ↓n_rd, ↓n_al, ↓n_cI, ↓n_cJ, li_0, li_1, li_2, li_5, li_12, lj_0, lj_1, lj_2, lj_5, lj_12, zJ_add, zJ_sub, zJ_mul, zJ_neg, zJ_l2i, tJ_zJ, zI_add, zI_sub, zI_mul, zI_neg, ↓Option.bind_some, ↓g12_5, ↓g12_0, ↓g12_54, ↓p12_5, ↓al_218, ↓as_218, ↓al_244, ↓as_244, zIt2, uR_at, uR_ne, uR_uR, uC_uC, uC_at, ↓reduceIte, decide_eq_true_eq, leT, leF, ltT, ltF, eqT, eqF, ne_eq, not_true_eq_false, not_false_eq_true, Bool.false_eq_true, tI_zI]
            · have hbt : (wysN K).testBit j = true := by
                by_cases z : (wysN K).testBit j = true
                · exact z
                · exact absurd (hw1.mpr (Bool.eq_false_iff.mpr z)) g
              have e1 : rdC (wysN K) (tdM F x) (j + 1) = rdC (wysN K) (tdM F x) j + 1 := if_pos ⟨hbt, g2⟩
              have r313 := ct_313 (d := d) (E := E) (F := uR F 217 (uC (F 217) 5 (zI 0))) (G := rmG F G K x j) c1 (by rw [e43]; omega) (i := (rdC (wysN K) (tdM F x) j : Nat)) (by omega) (v := zJ (j : Int)) (by omega)
              have e3 : uR (rmG F G K x j) 245 (uC (rmG F G K x j 245) (30 * x + ((rdC (wysN K) (tdM F x) j : Nat) : Int)) (cutJ (tI (F 243 x)) (zJ (j : Int)))) = rmG F G K x (j + 1) := by
                unfold rmG
                rw [uR_uR, uR_at, show rdR (wysN K) (tdM F x) (tI (F 243 x)) (30 * x) (G 245) (j + 1) = uC (rdR (wysN K) (tdM F x) (tI (F 243 x)) (30 * x) (G 245) j) (30 * x + (rdC (wysN K) (tdM F x) j : Nat)) (cutJ (tI (F 243 x)) (zJ (j : Int))) from if_pos ⟨hbt, g2⟩]
              rw [e43, e3] at r313
              have h313 : ∀ {kk : Int → HeapP → ResP} {kx : Nat → HeapP → ResP}, cJT (callP MP d 313 [.ref 217, .int (zI x), .int (zI ((rdC (wysN K) (tdM F x) j : Nat) : Int)), .long (zJ (j : Int))] (mk E (uR F 217 (uC (F 217) 5 (zI 0))) (rmG F G K x j))) kk kx = kk (tJ (cutJ (tI (F 243 x)) (zJ (j : Int)))) (mk E (uR F 217 (uC (F 217) 5 (zI 0))) (rmG F G K x (j + 1))) := fun {kk kx} => by
                unfold cJT; rw [cJ_ret r313]
              rw [e1, nsucc, Int.natCast_add]
              show _ = runP MP d 312 (22, [some (.ref 217), some (.int (zI x)), some (.int (zI ((rdC (wysN K) (tdM F x) j : Nat) + 1))), some (.int (zI ((j : Int) + 1)))], [], mk E (uR F 217 (uC (F 217) 5 (zI 0))) (rmG F G K x (j + 1)))
              rw [q_312_22]; (try simp only [↓n_rd, ↓n_al, ↓n_cI, ↓n_cJ, li_0, li_1, li_2, li_5, li_12, lj_0, lj_1, lj_2, lj_5, lj_12, zJ_add, zJ_sub, zJ_mul, zJ_neg, zJ_l2i, zI_add, zI_sub, zI_mul, zI_neg, ↓Option.bind_some]); simp (disch := (first | assumption | exact tI_rg _ | omega | exact uR_at | exact row_ne hF (by decide) | exact row_ne (row_ne hF (by decide)) (by decide) | exact SnS_18 | exact SnS_30 | exact LdS_44 | exact LdS_46)) only [q_312_0, q_312_67, q_312_73, hF, q3', ↓cc_209 hI, hu, zI_i2l, ↓n_cJ, ↓h313, ↓n_rd, ↓n_al, ↓n_cI, ↓n_cJ, li_0, li_1, li_2, li_5, li_12, lj_0, lj_1, lj_2, lj_5, lj_12, zJ_add, zJ_sub, zJ_mul, zJ_neg, zJ_l2i, tJ_zJ, zI_add, zI_sub, zI_mul, zI_neg, ↓Option.bind_some, ↓g12_5, ↓g12_0, ↓g12_54, ↓p12_5, ↓al_218, ↓as_218, ↓al_244, ↓as_244, zIt2, uR_at, uR_ne, uR_uR, uC_uC, uC_at, ↓reduceIte, decide_eq_true_eq, leT, leF, ltT, ltF, eqT, eqF, ne_eq, not_true_eq_false, not_false_eq_true, Bool.false_eq_true, tI_zI]
          · left
            obtain ⟨i1, i2⟩ := rd_stay (w := wysN K) (m := tdM F x) (s := tI (F 243 x)) (o := 30 * x) (r := G 245) (j := j) 32 (by omega) (fun i h1 h2 z => g2 z.2)
            have e2 : rmG F G K x 32 = rmG F G K x j := by unfold rmG; rw [i2]
            rw [i1, e2]
            show runP MP d 312 _ = _
            rw [q_312_22]; (try simp only [↓n_rd, ↓n_al, ↓n_cI, ↓n_cJ, li_0, li_1, li_2, li_5, li_12, lj_0, lj_1, lj_2, lj_5, lj_12, zJ_add, zJ_sub, zJ_mul, zJ_neg, zJ_l2i, zI_add, zI_sub, zI_mul, zI_neg, ↓Option.bind_some]); simp (disch := (first | assumption | exact tI_rg _ | omega | exact uR_at | exact row_ne hF (by decide) | exact row_ne (row_ne hF (by decide)) (by decide) | exact SnS_18 | exact SnS_30 | exact LdS_44 | exact LdS_46)) only [q_312_0, q_312_67, q_312_73, hF, q3', ↓n_rd, ↓n_al, ↓n_cI, ↓n_cJ, li_0, li_1, li_2, li_5, li_12, lj_0, lj_1, lj_2, lj_5, lj_12, zJ_add, zJ_sub, zJ_mul, zJ_neg, zJ_l2i, tJ_zJ, zI_add, zI_sub, zI_mul, zI_neg, ↓Option.bind_some, ↓g12_5, ↓g12_0, ↓g12_54, ↓p12_5, ↓al_218, ↓as_218, ↓al_244, ↓as_244, zIt2, uR_at, uR_ne, uR_uR, uC_uC, uC_at, ↓reduceIte, decide_eq_true_eq, leT, leF, ltT, ltF, eqT, eqF, ne_eq, not_true_eq_false, not_false_eq_true, Bool.false_eq_true, tI_zI]
      rw [q_312_0]; (try simp only [↓n_rd, ↓n_al, ↓n_cI, ↓n_cJ, li_0, li_1, li_2, li_5, li_12, lj_0, lj_1, lj_2, lj_5, lj_12, zJ_add, zJ_sub, zJ_mul, zJ_neg, zJ_l2i, zI_add, zI_sub, zI_mul, zI_neg, ↓Option.bind_some]); simp (disch := (first | assumption | exact tI_rg _ | omega | exact uR_at | exact row_ne hF (by decide) | exact row_ne (row_ne hF (by decide)) (by decide) | exact SnS_18 | exact SnS_30 | exact LdS_44 | exact LdS_46)) only [q_312_67, q_312_73, ↓cc_235, ha, ↓hl, ↓n_rd, ↓n_al, ↓n_cI, ↓n_cJ, li_0, li_1, li_2, li_5, li_12, lj_0, lj_1, lj_2, lj_5, lj_12, zJ_add, zJ_sub, zJ_mul, zJ_neg, zJ_l2i, tJ_zJ, zI_add, zI_sub, zI_mul, zI_neg, ↓Option.bind_some, ↓g12_5, ↓g12_0, ↓g12_54, ↓p12_5, ↓al_218, ↓as_218, ↓al_244, ↓as_244, zIt2, uR_at, uR_ne, uR_uR, uC_uC, uC_at, ↓reduceIte, decide_eq_true_eq, leT, leF, ltT, ltF, eqT, eqF, ne_eq, not_true_eq_false, not_false_eq_true, Bool.false_eq_true, tI_zI]
  · have ha : tfZ F x = 1 := if_neg c1
    unfold a_reads
    rw [ha]
    show (_ : ResP) = some (Sum.inl (some (.int (zI 0))), mk E (uR F 217 (uC (F 217) 5 (zI 1))) G)
    refine into (D := 3) (by omega) hM_312 (rcv_mk rfl (by decide)) rfl fun d hd => ?_
    show runP MP d 312 (0, [some (.ref 217), some (.int (zI x)), none, none], [], _) = _
    rw [q_312_0]; (try simp only [↓n_rd, ↓n_al, ↓n_cI, ↓n_cJ, li_0, li_1, li_2, li_5, li_12, lj_0, lj_1, lj_2, lj_5, lj_12, zJ_add, zJ_sub, zJ_mul, zJ_neg, zJ_l2i, zI_add, zI_sub, zI_mul, zI_neg, ↓Option.bind_some]); simp (disch := (first | assumption | exact tI_rg _ | omega | exact uR_at | exact row_ne hF (by decide) | exact row_ne (row_ne hF (by decide)) (by decide) | exact SnS_18 | exact SnS_30 | exact LdS_44 | exact LdS_46)) only [q_312_67, q_312_73, ↓cc_235, ha, ↓n_rd, ↓n_al, ↓n_cI, ↓n_cJ, li_0, li_1, li_2, li_5, li_12, lj_0, lj_1, lj_2, lj_5, lj_12, zJ_add, zJ_sub, zJ_mul, zJ_neg, zJ_l2i, tJ_zJ, zI_add, zI_sub, zI_mul, zI_neg, ↓Option.bind_some, ↓g12_5, ↓g12_0, ↓g12_54, ↓p12_5, ↓al_218, ↓as_218, ↓al_244, ↓as_244, zIt2, uR_at, uR_ne, uR_uR, uC_uC, uC_at, ↓reduceIte, decide_eq_true_eq, leT, leF, ltT, ltF, eqT, eqF, ne_eq, not_true_eq_false, not_false_eq_true, Bool.false_eq_true, tI_zI]
end S94v
