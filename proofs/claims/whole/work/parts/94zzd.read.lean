/-! MODEL: the next token -/
section S94zzd
set_option linter.unusedVariables false
set_option linter.unusedSimpArgs false
def TkE (n : Nat) (t : TkS) : Prop := (-2147483648 ≤ t.1 ∧ t.1 ≤ 2147483647) ∧ (-2147483648 ≤ t.2.1 ∧ t.2.1 ≤ 2147483647) ∧ 0 ≤ t.2.2.1 ∧ t.2.2.1 ≤ n ∧ -2147483648 ≤ t.2.2.2 ∧ t.2.2.2 ≤ 2147483647
def mtR (r : Int → Int32) (t : TkS) : Int → Int32 := uC (uC (uC (uC r 11 (zI t.1)) 10 (zI t.2.1)) 9 (zI t.2.2.1)) 12 (zI t.2.2.2)
theorem mt_at {r : Int → Int32} {t : TkS} : mtR r t 11 = zI t.1 ∧ mtR r t 10 = zI t.2.1 ∧ mtR r t 9 = zI t.2.2.1 ∧ mtR r t 12 = zI t.2.2.2 := by
  unfold mtR
  exact ⟨by rw [uC_ne (by decide), uC_ne (by decide), uC_ne (by decide), uC_at], by rw [uC_ne (by decide), uC_ne (by decide), uC_at], by rw [uC_ne (by decide), uC_at], uC_at⟩
theorem mt_ne {r : Int → Int32} {t : TkS} {j : Int} (h : j < 9 ∨ 12 < j) : mtR r t j = r j := by
  unfold mtR
  rw [uC_ne (by omega), uC_ne (by omega), uC_ne (by omega), uC_ne (by omega)]
theorem mt_is {r : Int → Int32} {t : TkS} {s : Int → Int32} (h2 : s 11 = zI t.1) (h3 : s 10 = zI t.2.1) (h4 : s 9 = zI t.2.2.1) (h5 : s 12 = zI t.2.2.2) (hn : ∀ j, j < 9 ∨ 12 < j → s j = r j) : s = mtR r t := by
  obtain ⟨a2, a3, a4, a5⟩ := mt_at (r := r) (t := t)
  funext j
  by_cases e2 : j = 11
  · rw [e2, h2, a2]
  · by_cases e3 : j = 10
    · rw [e3, h3, a3]
    · by_cases e4 : j = 9
      · rw [e4, h4, a4]
      · by_cases e5 : j = 12
        · rw [e5, h5, a5]
        · rw [hn j (by omega), mt_ne (by omega)]
theorem mtg8 {r : Int → Int32} {t : TkS} : mtR r t 8 = r 8 := mt_ne (by omega)
theorem mtg13 {r : Int → Int32} {t : TkS} : mtR r t 13 = r 13 := mt_ne (by omega)
theorem mtg14 {r : Int → Int32} {t : TkS} : mtR r t 14 = r 14 := mt_ne (by omega)
theorem mtg11 {r : Int → Int32} {k b e v : Int} : mtR r (k, b, e, v) 11 = zI k := mt_at.1
theorem mtg10 {r : Int → Int32} {k b e v : Int} : mtR r (k, b, e, v) 10 = zI b := mt_at.2.1
theorem mtg9 {r : Int → Int32} {k b e v : Int} : mtR r (k, b, e, v) 9 = zI e := mt_at.2.2.1
theorem mtg12 {r : Int → Int32} {k b e v : Int} : mtR r (k, b, e, v) 12 = zI v := mt_at.2.2.2
theorem mtw {r : Int → Int32} {k b e v : Int} {i : Int} {x : Int32} {t : TkS} (h2 : uC (mtR r (k, b, e, v)) i x 11 = zI t.1) (h3 : uC (mtR r (k, b, e, v)) i x 10 = zI t.2.1) (h4 : uC (mtR r (k, b, e, v)) i x 9 = zI t.2.2.1) (h5 : uC (mtR r (k, b, e, v)) i x 12 = zI t.2.2.2) (hi : 9 ≤ i ∧ i ≤ 12) : uC (mtR r (k, b, e, v)) i x = mtR r t :=
  mt_is h2 h3 h4 h5 (fun j hj => by rw [uC_ne (by omega), mt_ne hj])
theorem mtw11 {r : Int → Int32} {k b e v x : Int} : uC (mtR r (k, b, e, v)) 11 (zI x) = mtR r (x, b, e, v) := mtw (t := (x, b, e, v)) uC_at ((uC_ne (by decide)).trans mtg10) ((uC_ne (by decide)).trans mtg9) ((uC_ne (by decide)).trans mtg12) (by omega)
theorem mtw10 {r : Int → Int32} {k b e v x : Int} : uC (mtR r (k, b, e, v)) 10 (zI x) = mtR r (k, x, e, v) := mtw (t := (k, x, e, v)) ((uC_ne (by decide)).trans mtg11) uC_at ((uC_ne (by decide)).trans mtg9) ((uC_ne (by decide)).trans mtg12) (by omega)
theorem mtw9 {r : Int → Int32} {k b e v x : Int} : uC (mtR r (k, b, e, v)) 9 (zI x) = mtR r (k, b, x, v) := mtw (t := (k, b, x, v)) ((uC_ne (by decide)).trans mtg11) ((uC_ne (by decide)).trans mtg10) uC_at ((uC_ne (by decide)).trans mtg12) (by omega)
theorem mtw12 {r : Int → Int32} {k b e v x : Int} : uC (mtR r (k, b, e, v)) 12 (zI x) = mtR r (k, b, e, x) := mtw (t := (k, b, e, x)) ((uC_ne (by decide)).trans mtg11) ((uC_ne (by decide)).trans mtg10) ((uC_ne (by decide)).trans mtg9) uC_at (by omega)
theorem ct_192 {d : Nat} {E : EnQ} {F : Nat → Int → Int32} {G : Nat → Int → Int64} {T : Nat → Int} {n i : Nat} (hT : TxM F T n) (hn : tI (F 217 8) = n) (hi : i ≤ n) (hd : 1 ≤ d) : callP MP d 192 [.ref 217, .int (zI (i : Int))] (mk E F G) = some (Sum.inl (some (.int (zI (if i < n then T i else 0)))), mk E F G) := by

  have hn6 := hT.1
  refine into (D := 0) (by omega) hM_192 (rcv_mk rfl (by decide)) rfl fun d hd => ?_
  show runP MP d 192 (0, [some (.ref 217), some (.int (zI (i : Int)))], [], _) = _
  by_cases g : i < n
  · obtain ⟨h1, h2⟩ := hT.2 i g
    rw [if_pos g]
    rw [q_192_0]; (try simp only [↓n_rd, ↓n_al, li_0, li_6, li_8, li_12, zI_add, zI_sub, zI_mul, zI_neg, ↓Option.bind_some]); simp (disch := (first | assumption | exact tI_rg _ | omega | exact uR_at | exact row_ne hF (by decide) | exact row_ne (row_ne hF (by decide)) (by decide) | exact SnS_18 | exact SnS_30 | exact LdS_44 | exact LdS_46)) only [q_192_18, hn, h2, ↓n_rd, ↓n_al, li_0, li_6, li_8, li_12, zI_add, zI_sub, zI_mul, zI_neg, ↓Option.bind_some, ↓g12_6, ↓g12_8, ↓al_223, ↓as_223, zIt2, uR_at, uR_ne, uR_uR, uC_uC, uC_at, ↓reduceIte, decide_eq_true_eq, leT, leF, ltT, ltF, eqT, eqF, ne_eq, not_true_eq_false, not_false_eq_true, Bool.false_eq_true, tI_zI]
  · rw [if_neg g]
    rw [q_192_0]; (try simp only [↓n_rd, ↓n_al, li_0, li_6, li_8, li_12, zI_add, zI_sub, zI_mul, zI_neg, ↓Option.bind_some]); simp (disch := (first | assumption | exact tI_rg _ | omega | exact uR_at | exact row_ne hF (by decide) | exact row_ne (row_ne hF (by decide)) (by decide) | exact SnS_18 | exact SnS_30 | exact LdS_44 | exact LdS_46)) only [q_192_18, hn, ↓n_rd, ↓n_al, li_0, li_6, li_8, li_12, zI_add, zI_sub, zI_mul, zI_neg, ↓Option.bind_some, ↓g12_6, ↓g12_8, ↓al_223, ↓as_223, zIt2, uR_at, uR_ne, uR_uR, uC_uC, uC_at, ↓reduceIte, decide_eq_true_eq, leT, leF, ltT, ltF, eqT, eqF, ne_eq, not_true_eq_false, not_false_eq_true, Bool.false_eq_true, tI_zI]
theorem cc_192 {d : Nat} {E : EnQ} {F : Nat → Int → Int32} {G : Nat → Int → Int64} {kk : Int → HeapP → ResP} {kx : Nat → HeapP → ResP} {T : Nat → Int} {n i : Nat} (hT : TxM F T n) (hn : tI (F 217 8) = n) (hi : i ≤ n) (hd : 1 ≤ d) : cT (callP MP d 192 [.ref 217, .int (zI (i : Int))] (mk E F G)) kk kx = kk (if i < n then T i else 0) (mk E F G) := cT_ret (by apply ct_192 <;> assumption) (by by_cases z : i < n; (have := hT.2 i z; rw [if_pos z]; omega); (rw [if_neg z]; omega))
theorem ct_190 {d : Nat} {E : EnQ} {F : Nat → Int → Int32} {G : Nat → Int → Int64} {T : Nat → Int} {n : Nat} {r0 : Int → Int32} (hT : TxM F T n) (hn0 : r0 8 = zI n) {t : TkS} (ht : TkE n t) (hF : F 217 = mtR r0 t) (hd : 2 ≤ d) : callP MP d 190 [.ref 217] (mk E F G) = some (Sum.inl none, mk E (uR F 217 (mtR r0 (adv T n t))) G) := by
  have hn6 := hT.1
  have hn : tI (r0 8) = n := by rw [hn0, tI_zI (by omega)]
  obtain ⟨k, b0, e0, v⟩ := t
  obtain ⟨h1, h2, h3, h4, h5, h6⟩ := ht
  have h1 : -2147483648 ≤ k ∧ k ≤ 2147483647 := h1
  have h2 : -2147483648 ≤ b0 ∧ b0 ≤ 2147483647 := h2
  have h3 : 0 ≤ e0 := h3
  have h4 : e0 ≤ n := h4
  have h5 : -2147483648 ≤ v := h5
  have h6 : v ≤ 2147483647 := h6
  obtain ⟨e0, rfl⟩ : ∃ m : Nat, e0 = (m : Int) := ⟨e0.toNat, by omega⟩
  have hT2 : ∀ r, TxM (uR F 217 r) T n := fun r => ⟨hT.1, fun j hj => by rw [uR_ne (by decide)]; exact hT.2 j hj⟩
  unfold adv
  show _ = some (Sum.inl none, mk E (uR F 217 (mtR r0 (if n ≤ scN (fun j => isB (T j)) n ((e0 : Int)).toNat then (0, (scN (fun j => isB (T j)) n ((e0 : Int)).toNat : Nat), (scN (fun j => isB (T j)) n ((e0 : Int)).toNat : Nat), v)
  else if isL (T (scN (fun j => isB (T j)) n ((e0 : Int)).toNat)) = true then (1, (scN (fun j => isB (T j)) n ((e0 : Int)).toNat : Nat), (scN (fun j => isL (T j)) n (scN (fun j => isB (T j)) n ((e0 : Int)).toNat) : Nat), v)
  else if isD (T (scN (fun j => isB (T j)) n ((e0 : Int)).toNat)) = true then (if scN (fun j => isD (T j)) n (scN (fun j => isB (T j)) n ((e0 : Int)).toNat) - scN (fun j => isB (T j)) n ((e0 : Int)).toNat ≤ 3 then 2 else 4, (scN (fun j => isB (T j)) n ((e0 : Int)).toNat : Nat), (scN (fun j => isD (T j)) n (scN (fun j => isB (T j)) n ((e0 : Int)).toNat) : Nat), vlN T (scN (fun j => isB (T j)) n ((e0 : Int)).toNat) (scN (fun j => isD (T j)) n (scN (fun j => isB (T j)) n ((e0 : Int)).toNat) - scN (fun j => isB (T j)) n ((e0 : Int)).toNat))
  else (if T (scN (fun j => isB (T j)) n ((e0 : Int)).toNat) = 59 then 3 else 4, (scN (fun j => isB (T j)) n ((e0 : Int)).toNat : Nat), (scN (fun j => isB (T j)) n ((e0 : Int)).toNat : Nat) + 1, v)))) G)
  rw [show ((e0 : Int)).toNat = e0 by omega]
  obtain ⟨s1, s2, s3, s4⟩ := sc_is (p := fun j => isB (T j)) (n := n) (i := e0) (by omega)
  generalize scN (fun j => isB (T j)) n e0 = b at *
  have hself : mk E F G = mk E (uR F 217 (mtR r0 (k, b0, (e0 : Int), v))) G := by rw [← hF, uR_self]
  rw [hself]
  refine into (D := 1) (by omega) hM_190 (rcv_mk rfl (by decide)) rfl fun d hd => ?_
  show runP MP d 190 (0, [some (.ref 217), none], [], _) = _
  have h52 : runP MP d 190 (0, [some (.ref 217), none], [], mk E (uR F 217 (mtR r0 (k, b0, (e0 : Int), v))) G) = runP MP d 190 (52, [some (.ref 217), none], [], mk E (uR F 217 (mtR r0 (k, b0, (b : Int), v))) G) := by
    show runP MP d 190 (0, [some (.ref 217), none], [], mk E (uR F 217 (mtR r0 (k, b0, ((e0 + 0 : Nat) : Int), v))) G) = _
    refine (loopN (fun j : Nat => runP MP d 190 (0, [some (.ref 217), none], [], mk E (uR F 217 (mtR r0 (k, b0, ((e0 + j : Nat) : Int), v))) G)) (b - e0) (fun j hj => ?_)).trans ?_
    · show runP MP d 190 (0, [some (.ref 217), none], [], mk E (uR F 217 (mtR r0 (k, b0, ((e0 + j : Nat) : Int), v))) G) = runP MP d 190 (0, [some (.ref 217), none], [], mk E (uR F 217 (mtR r0 (k, b0, ((e0 + (j + 1) : Nat) : Int), v))) G)
      have hl : e0 + j < n := by omega
      obtain ⟨hb9, hx9⟩ := hT.2 (e0 + j) hl
      have hdg : isB (T (e0 + j)) = true := s3 (e0 + j) (by omega) (by omega)
      unfold isB at hdg
      rw [decide_eq_true_eq] at hdg
      rw [show ((e0 + (j + 1) : Nat) : Int) = ((e0 + j : Nat) : Int) + 1 from rfl]
      rcases hdg with z | z
      · rw [z] at hx9
        rw [q_190_0]; (try simp only [↓n_rd, ↓n_al, ↓n_cI, li_0, li_1, li_2, li_3, li_4, li_6, li_8, li_9, li_10, li_12, li_32, li_48, li_59, zI_add, zI_sub, zI_mul, zI_neg, ↓Option.bind_some]); simp (disch := (first | assumption | exact tI_rg _ | omega | exact uR_at | exact row_ne hF (by decide) | exact row_ne (row_ne hF (by decide)) (by decide) | exact SnS_18 | exact SnS_30 | exact LdS_44 | exact LdS_46)) only [q_190_39, q_190_196, q_190_231, q_190_249, q_190_262, mtg8, mtg11, mtg10, mtg9, mtg12, mtw11, mtw10, mtw9, mtw12, hn, hx9, ↓n_rd, ↓n_al, ↓n_cI, li_0, li_1, li_2, li_3, li_4, li_6, li_8, li_9, li_10, li_12, li_32, li_48, li_59, zI_add, zI_sub, zI_mul, zI_neg, ↓Option.bind_some, ↓g12_10, ↓g12_12, ↓g12_6, ↓g12_8, ↓g12_9, ↓p12_10, ↓p12_11, ↓p12_12, ↓p12_9, ↓al_223, ↓as_223, zIt2, uR_at, uR_ne, uR_uR, uC_uC, uC_at, ↓reduceIte, decide_eq_true_eq, leT, leF, ltT, ltF, eqT, eqF, ne_eq, not_true_eq_false, not_false_eq_true, Bool.false_eq_true, tI_zI]
      · rw [z] at hx9
        rw [q_190_0]; (try simp only [↓n_rd, ↓n_al, ↓n_cI, li_0, li_1, li_2, li_3, li_4, li_6, li_8, li_9, li_10, li_12, li_32, li_48, li_59, zI_add, zI_sub, zI_mul, zI_neg, ↓Option.bind_some]); simp (disch := (first | assumption | exact tI_rg _ | omega | exact uR_at | exact row_ne hF (by decide) | exact row_ne (row_ne hF (by decide)) (by decide) | exact SnS_18 | exact SnS_30 | exact LdS_44 | exact LdS_46)) only [q_190_39, q_190_196, q_190_231, q_190_249, q_190_262, mtg8, mtg11, mtg10, mtg9, mtg12, mtw11, mtw10, mtw9, mtw12, hn, hx9, ↓n_rd, ↓n_al, ↓n_cI, li_0, li_1, li_2, li_3, li_4, li_6, li_8, li_9, li_10, li_12, li_32, li_48, li_59, zI_add, zI_sub, zI_mul, zI_neg, ↓Option.bind_some, ↓g12_10, ↓g12_12, ↓g12_6, ↓g12_8, ↓g12_9, ↓p12_10, ↓p12_11, ↓p12_12, ↓p12_9, ↓al_223, ↓as_223, zIt2, uR_at, uR_ne, uR_uR, uC_uC, uC_at, ↓reduceIte, decide_eq_true_eq, leT, leF, ltT, ltF, eqT, eqF, ne_eq, not_true_eq_false, not_false_eq_true, Bool.false_eq_true, tI_zI]
    · show runP MP d 190 (0, [some (.ref 217), none], [], mk E (uR F 217 (mtR r0 (k, b0, ((e0 + (b - e0) : Nat) : Int), v))) G) = _
      rw [show e0 + (b - e0) = b by omega]
      by_cases g : b < n
      · obtain ⟨hb9, hx9⟩ := hT.2 b g
        have hdg : isB (T b) = false := s4 g
        unfold isB at hdg
        have hdg := of_decide_eq_false hdg
        have hx1 : ¬ tI (F 223 (b : Int)) = 10 := by omega
        have hx2 : ¬ tI (F 223 (b : Int)) = 32 := by omega
        rw [q_190_0]; (try simp only [↓n_rd, ↓n_al, ↓n_cI, li_0, li_1, li_2, li_3, li_4, li_6, li_8, li_9, li_10, li_12, li_32, li_48, li_59, zI_add, zI_sub, zI_mul, zI_neg, ↓Option.bind_some]); simp (disch := (first | assumption | exact tI_rg _ | omega | exact uR_at | exact row_ne hF (by decide) | exact row_ne (row_ne hF (by decide)) (by decide) | exact SnS_18 | exact SnS_30 | exact LdS_44 | exact LdS_46)) only [q_190_39, q_190_196, q_190_231, q_190_249, q_190_262, mtg8, mtg11, mtg10, mtg9, mtg12, mtw11, mtw10, mtw9, mtw12, hn, ↓n_rd, ↓n_al, ↓n_cI, li_0, li_1, li_2, li_3, li_4, li_6, li_8, li_9, li_10, li_12, li_32, li_48, li_59, zI_add, zI_sub, zI_mul, zI_neg, ↓Option.bind_some, ↓g12_10, ↓g12_12, ↓g12_6, ↓g12_8, ↓g12_9, ↓p12_10, ↓p12_11, ↓p12_12, ↓p12_9, ↓al_223, ↓as_223, zIt2, uR_at, uR_ne, uR_uR, uC_uC, uC_at, ↓reduceIte, decide_eq_true_eq, leT, leF, ltT, ltF, eqT, eqF, ne_eq, not_true_eq_false, not_false_eq_true, Bool.false_eq_true, tI_zI]
      · rw [q_190_0]; (try simp only [↓n_rd, ↓n_al, ↓n_cI, li_0, li_1, li_2, li_3, li_4, li_6, li_8, li_9, li_10, li_12, li_32, li_48, li_59, zI_add, zI_sub, zI_mul, zI_neg, ↓Option.bind_some]); simp (disch := (first | assumption | exact tI_rg _ | omega | exact uR_at | exact row_ne hF (by decide) | exact row_ne (row_ne hF (by decide)) (by decide) | exact SnS_18 | exact SnS_30 | exact LdS_44 | exact LdS_46)) only [q_190_39, q_190_196, q_190_231, q_190_249, q_190_262, mtg8, mtg11, mtg10, mtg9, mtg12, mtw11, mtw10, mtw9, mtw12, hn, ↓n_rd, ↓n_al, ↓n_cI, li_0, li_1, li_2, li_3, li_4, li_6, li_8, li_9, li_10, li_12, li_32, li_48, li_59, zI_add, zI_sub, zI_mul, zI_neg, ↓Option.bind_some, ↓g12_10, ↓g12_12, ↓g12_6, ↓g12_8, ↓g12_9, ↓p12_10, ↓p12_11, ↓p12_12, ↓p12_9, ↓al_223, ↓as_223, zIt2, uR_at, uR_ne, uR_uR, uC_uC, uC_at, ↓reduceIte, decide_eq_true_eq, leT, leF, ltT, ltF, eqT, eqF, ne_eq, not_true_eq_false, not_false_eq_true, Bool.false_eq_true, tI_zI]
  rw [h52]
  by_cases c1 : n ≤ b
  · rw [if_pos c1]
    rw [q_190_52]; (try simp only [↓n_rd, ↓n_al, ↓n_cI, li_0, li_1, li_2, li_3, li_4, li_6, li_8, li_9, li_10, li_12, li_32, li_48, li_59, zI_add, zI_sub, zI_mul, zI_neg, ↓Option.bind_some]); simp (disch := (first | assumption | exact tI_rg _ | omega | exact uR_at | exact row_ne hF (by decide) | exact row_ne (row_ne hF (by decide)) (by decide) | exact SnS_18 | exact SnS_30 | exact LdS_44 | exact LdS_46)) only [q_190_39, q_190_196, q_190_231, q_190_249, q_190_262, mtg8, mtg11, mtg10, mtg9, mtg12, mtw11, mtw10, mtw9, mtw12, hn, ↓n_rd, ↓n_al, ↓n_cI, li_0, li_1, li_2, li_3, li_4, li_6, li_8, li_9, li_10, li_12, li_32, li_48, li_59, zI_add, zI_sub, zI_mul, zI_neg, ↓Option.bind_some, ↓g12_10, ↓g12_12, ↓g12_6, ↓g12_8, ↓g12_9, ↓p12_10, ↓p12_11, ↓p12_12, ↓p12_9, ↓al_223, ↓as_223, zIt2, uR_at, uR_ne, uR_uR, uC_uC, uC_at, ↓reduceIte, decide_eq_true_eq, leT, leF, ltT, ltF, eqT, eqF, ne_eq, not_true_eq_false, not_false_eq_true, Bool.false_eq_true, tI_zI]
  · rw [if_neg c1]
    obtain ⟨hb9, hx9⟩ := hT.2 b (by omega)
    have c191 := fun {kk : Int → HeapP → ResP} {kx : Nat → HeapP → ResP} {F' : Nat → Int → Int32} => cc_191 (d := d) (E := E) (F := F') (G := G) (kk := kk) (kx := kx) (x := T b) (b := T b) hb9 (Or.inl rfl) (by omega)
    have c193 := fun {kk : Int → HeapP → ResP} {kx : Nat → HeapP → ResP} {F' : Nat → Int → Int32} => cc_193 (d := d) (E := E) (F := F') (G := G) (kk := kk) (kx := kx) (x := T b) (b := T b) hb9 (Or.inl rfl) (by omega)
    have hsee : ∀ {kk : Int → HeapP → ResP} {kx : Nat → HeapP → ResP} {t' : TkS} {i : Nat}, i ≤ n → cT (callP MP d 192 [.ref 217, .int (zI (i : Int))] (mk E (uR F 217 (mtR r0 t')) G)) kk kx = kk (if i < n then T i else 0) (mk E (uR F 217 (mtR r0 t')) G) := fun {kk kx t' i} hi => cc_192 (hT2 _) (by rw [uR_at, mtg8]; exact hn) hi (by omega)
    by_cases c2 : isL (T b) = true
    · rw [if_pos c2]
      simp only [if_pos c2] at c191
      obtain ⟨u1, u2, u3, u4⟩ := sc_is (p := fun j => isL (T j)) (n := n) (i := b) (by omega)
      generalize scN (fun j => isL (T j)) n b = e9 at *
      have h94 : runP MP d 190 (52, [some (.ref 217), none], [], mk E (uR F 217 (mtR r0 (k, b0, (b : Int), v))) G) = runP MP d 190 (94, [some (.ref 217), some (.int (zI (T b)))], [], mk E (uR F 217 (mtR r0 (k, (b : Int), ((b + 0 : Nat) : Int), v))) G) := by
        show _ = runP MP d 190 (94, [some (.ref 217), some (.int (zI (T b)))], [], mk E (uR F 217 (mtR r0 (k, (b : Int), (b : Int), v))) G)
        rw [q_190_52]; (try simp only [↓n_rd, ↓n_al, ↓n_cI, li_0, li_1, li_2, li_3, li_4, li_6, li_8, li_9, li_10, li_12, li_32, li_48, li_59, zI_add, zI_sub, zI_mul, zI_neg, ↓Option.bind_some]); simp (disch := (first | assumption | exact tI_rg _ | omega | exact uR_at | exact row_ne hF (by decide) | exact row_ne (row_ne hF (by decide)) (by decide) | exact SnS_18 | exact SnS_30 | exact LdS_44 | exact LdS_46)) only [q_190_39, q_190_196, q_190_231, q_190_249, q_190_262, mtg8, mtg11, mtg10, mtg9, mtg12, mtw11, mtw10, mtw9, mtw12, hn, hx9, ↓c191, ↓n_rd, ↓n_al, ↓n_cI, li_0, li_1, li_2, li_3, li_4, li_6, li_8, li_9, li_10, li_12, li_32, li_48, li_59, zI_add, zI_sub, zI_mul, zI_neg, ↓Option.bind_some, ↓g12_10, ↓g12_12, ↓g12_6, ↓g12_8, ↓g12_9, ↓p12_10, ↓p12_11, ↓p12_12, ↓p12_9, ↓al_223, ↓as_223, zIt2, uR_at, uR_ne, uR_uR, uC_uC, uC_at, ↓reduceIte, decide_eq_true_eq, leT, leF, ltT, ltF, eqT, eqF, ne_eq, not_true_eq_false, not_false_eq_true, Bool.false_eq_true, tI_zI]
      rw [h94]
      refine (loopN (fun j : Nat => runP MP d 190 (94, [some (.ref 217), some (.int (zI (T b)))], [], mk E (uR F 217 (mtR r0 (k, (b : Int), ((b + j : Nat) : Int), v))) G)) (e9 - b) (fun j hj => ?_)).trans ?_
      · show runP MP d 190 (94, [some (.ref 217), some (.int (zI (T b)))], [], mk E (uR F 217 (mtR r0 (k, (b : Int), ((b + j : Nat) : Int), v))) G) = runP MP d 190 (94, [some (.ref 217), some (.int (zI (T b)))], [], mk E (uR F 217 (mtR r0 (k, (b : Int), ((b + (j + 1) : Nat) : Int), v))) G)
        have hl : b + j < n := by omega
        obtain ⟨hb8, hx8⟩ := hT.2 (b + j) hl
        have hdg : isL (T (b + j)) = true := u3 (b + j) (by omega) (by omega)
        have hs9 := fun {kk : Int → HeapP → ResP} {kx : Nat → HeapP → ResP} {t' : TkS} => hsee (kk := kk) (kx := kx) (t' := t') (i := b + j) (by omega)
        simp only [if_pos hl] at hs9
        have c191b := fun {kk : Int → HeapP → ResP} {kx : Nat → HeapP → ResP} {F' : Nat → Int → Int32} => cc_191 (d := d) (E := E) (F := F') (G := G) (kk := kk) (kx := kx) (x := T (b + j)) (b := T (b + j)) hb8 (Or.inl rfl) (by omega)
        simp only [if_pos hdg] at c191b
        rw [show ((b + (j + 1) : Nat) : Int) = ((b + j : Nat) : Int) + 1 from rfl]
        rw [q_190_94]; (try simp only [↓n_rd, ↓n_al, ↓n_cI, li_0, li_1, li_2, li_3, li_4, li_6, li_8, li_9, li_10, li_12, li_32, li_48, li_59, zI_add, zI_sub, zI_mul, zI_neg, ↓Option.bind_some]); simp (disch := (first | assumption | exact tI_rg _ | omega | exact uR_at | exact row_ne hF (by decide) | exact row_ne (row_ne hF (by decide)) (by decide) | exact SnS_18 | exact SnS_30 | exact LdS_44 | exact LdS_46)) only [q_190_39, q_190_52, q_190_196, q_190_231, q_190_249, q_190_262, mtg8, mtg11, mtg10, mtg9, mtg12, mtw11, mtw10, mtw9, mtw12, hn, ↓hs9, ↓c191b, ↓n_rd, ↓n_al, ↓n_cI, li_0, li_1, li_2, li_3, li_4, li_6, li_8, li_9, li_10, li_12, li_32, li_48, li_59, zI_add, zI_sub, zI_mul, zI_neg, ↓Option.bind_some, ↓g12_10, ↓g12_12, ↓g12_6, ↓g12_8, ↓g12_9, ↓p12_10, ↓p12_11, ↓p12_12, ↓p12_9, ↓al_223, ↓as_223, zIt2, uR_at, uR_ne, uR_uR, uC_uC, uC_at, ↓reduceIte, decide_eq_true_eq, leT, leF, ltT, ltF, eqT, eqF, ne_eq, not_true_eq_false, not_false_eq_true, Bool.false_eq_true, tI_zI]
      · show runP MP d 190 (94, [some (.ref 217), some (.int (zI (T b)))], [], mk E (uR F 217 (mtR r0 (k, (b : Int), ((b + (e9 - b) : Nat) : Int), v))) G) = _
        rw [show b + (e9 - b) = e9 by omega]
        have hs9 := fun {kk : Int → HeapP → ResP} {kx : Nat → HeapP → ResP} {t' : TkS} => hsee (kk := kk) (kx := kx) (t' := t') (i := e9) (by omega)
        have hx0 : 0 ≤ (if e9 < n then T e9 else 0) ∧ (if e9 < n then T e9 else 0) < 256 := by
          by_cases g : e9 < n
          · rw [if_pos g]; exact (hT.2 e9 g).1
          · rw [if_neg g]; omega
        have hdg : ¬ isL (if e9 < n then T e9 else 0) = true := by
          by_cases g : e9 < n
          · rw [if_pos g]; have : isL (T e9) = false := u4 g
            rw [this]; exact Bool.false_ne_true
          · rw [if_neg g]; decide
        generalize (if e9 < n then T e9 else 0) = x8 at *
        have c191b := fun {kk : Int → HeapP → ResP} {kx : Nat → HeapP → ResP} {F' : Nat → Int → Int32} => cc_191 (d := d) (E := E) (F := F') (G := G) (kk := kk) (kx := kx) (x := x8) (b := x8) hx0 (Or.inl rfl) (by omega)
        simp only [if_neg hdg] at c191b
        rw [q_190_94]; (try simp only [↓n_rd, ↓n_al, ↓n_cI, li_0, li_1, li_2, li_3, li_4, li_6, li_8, li_9, li_10, li_12, li_32, li_48, li_59, zI_add, zI_sub, zI_mul, zI_neg, ↓Option.bind_some]); simp (disch := (first | assumption | exact tI_rg _ | omega | exact uR_at | exact row_ne hF (by decide) | exact row_ne (row_ne hF (by decide)) (by decide) | exact SnS_18 | exact SnS_30 | exact LdS_44 | exact LdS_46)) only [q_190_39, q_190_52, q_190_196, q_190_231, q_190_249, q_190_262, mtg8, mtg11, mtg10, mtg9, mtg12, mtw11, mtw10, mtw9, mtw12, hn, ↓hs9, ↓c191b, ↓n_rd, ↓n_al, ↓n_cI, li_0, li_1, li_2, li_3, li_4, li_6, li_8, li_9, li_10, li_12, li_32, li_48, li_59, zI_add, zI_sub, zI_mul, zI_neg, ↓Option.bind_some, ↓g12_10, ↓g12_12, ↓g12_6, ↓g12_8, ↓g12_9, ↓p12_10, ↓p12_11, ↓p12_12, ↓p12_9, ↓al_223, ↓as_223, zIt2, uR_at, uR_ne, uR_uR, uC_uC, uC_at, ↓reduceIte, decide_eq_true_eq, leT, leF, ltT, ltF, eqT, eqF, ne_eq, not_true_eq_false, not_false_eq_true, Bool.false_eq_true, tI_zI]
    · rw [if_neg c2]
      simp only [if_neg c2] at c191
      by_cases c3 : isD (T b) = true
      · rw [if_pos c3]
        simp only [if_pos c3] at c193
        obtain ⟨u1, u2, u3, u4⟩ := sc_is (p := fun j => isD (T j)) (n := n) (i := b) (by omega)
        generalize scN (fun j => isD (T j)) n b = e9 at *
        have h141 : runP MP d 190 (52, [some (.ref 217), none], [], mk E (uR F 217 (mtR r0 (k, b0, (b : Int), v))) G) = runP MP d 190 (141, [some (.ref 217), some (.int (zI (T b)))], [], mk E (uR F 217 (mtR r0 (k, (b : Int), ((b + 0 : Nat) : Int), (vlN T b 0)))) G) := by
          show _ = runP MP d 190 (141, [some (.ref 217), some (.int (zI (T b)))], [], mk E (uR F 217 (mtR r0 (k, (b : Int), (b : Int), 0))) G)
          rw [q_190_52]; (try simp only [↓n_rd, ↓n_al, ↓n_cI, li_0, li_1, li_2, li_3, li_4, li_6, li_8, li_9, li_10, li_12, li_32, li_48, li_59, zI_add, zI_sub, zI_mul, zI_neg, ↓Option.bind_some]); simp (disch := (first | assumption | exact tI_rg _ | omega | exact uR_at | exact row_ne hF (by decide) | exact row_ne (row_ne hF (by decide)) (by decide) | exact SnS_18 | exact SnS_30 | exact LdS_44 | exact LdS_46)) only [q_190_39, q_190_196, q_190_231, q_190_249, q_190_262, mtg8, mtg11, mtg10, mtg9, mtg12, mtw11, mtw10, mtw9, mtw12, hn, hx9, ↓c191, ↓c193, ↓n_rd, ↓n_al, ↓n_cI, li_0, li_1, li_2, li_3, li_4, li_6, li_8, li_9, li_10, li_12, li_32, li_48, li_59, zI_add, zI_sub, zI_mul, zI_neg, ↓Option.bind_some, ↓g12_10, ↓g12_12, ↓g12_6, ↓g12_8, ↓g12_9, ↓p12_10, ↓p12_11, ↓p12_12, ↓p12_9, ↓al_223, ↓as_223, zIt2, uR_at, uR_ne, uR_uR, uC_uC, uC_at, ↓reduceIte, decide_eq_true_eq, leT, leF, ltT, ltF, eqT, eqF, ne_eq, not_true_eq_false, not_false_eq_true, Bool.false_eq_true, tI_zI]
        rw [h141]
        refine (loopN (fun j : Nat => runP MP d 190 (141, [some (.ref 217), some (.int (zI (T b)))], [], mk E (uR F 217 (mtR r0 (k, (b : Int), ((b + j : Nat) : Int), (vlN T b (j))))) G)) (e9 - b) (fun j hj => ?_)).trans ?_
        · show runP MP d 190 (141, [some (.ref 217), some (.int (zI (T b)))], [], mk E (uR F 217 (mtR r0 (k, (b : Int), ((b + j : Nat) : Int), (vlN T b (j))))) G) = runP MP d 190 (141, [some (.ref 217), some (.int (zI (T b)))], [], mk E (uR F 217 (mtR r0 (k, (b : Int), ((b + (j + 1) : Nat) : Int), (vlN T b ((j + 1)))))) G)
          have hl : b + j < n := by omega
          obtain ⟨hb8, hx8⟩ := hT.2 (b + j) hl
          have hdg : isD (T (b + j)) = true := u3 (b + j) (by omega) (by omega)
          have hdv := hdg
          unfold isD at hdv
          rw [decide_eq_true_eq] at hdv
          have hvr := vl_rg (T := T) (b := b) j (fun i hi => u3 (b + i) (by omega) (by omega))
          have hs9 := fun {kk : Int → HeapP → ResP} {kx : Nat → HeapP → ResP} {t' : TkS} => hsee (kk := kk) (kx := kx) (t' := t') (i := b + j) (by omega)
          simp only [if_pos hl] at hs9
          have c193b := fun {kk : Int → HeapP → ResP} {kx : Nat → HeapP → ResP} {F' : Nat → Int → Int32} => cc_193 (d := d) (E := E) (F := F') (G := G) (kk := kk) (kx := kx) (x := T (b + j)) (b := T (b + j)) hb8 (Or.inl rfl) (by omega)
          simp only [if_pos hdg] at c193b
          have e1 : vlN T b (j + 1) = if j < 3 then 10 * vlN T b j + T (b + j) - 48 else vlN T b j := rfl
          rw [e1, show ((b + (j + 1) : Nat) : Int) = ((b + j : Nat) : Int) + 1 from rfl]
          by_cases g : j < 3
          · rw [if_pos g]
            have g2 : ¬ 3 ≤ ((b + j : Nat) : Int) - (b : Int) := by omega
            rw [q_190_141]; (try simp only [↓n_rd, ↓n_al, ↓n_cI, li_0, li_1, li_2, li_3, li_4, li_6, li_8, li_9, li_10, li_12, li_32, li_48, li_59, zI_add, zI_sub, zI_mul, zI_neg, ↓Option.bind_some]); simp (disch := (first | assumption | exact tI_rg _ | omega | exact uR_at | exact row_ne hF (by decide) | exact row_ne (row_ne hF (by decide)) (by decide) | exact SnS_18 | exact SnS_30 | exact LdS_44 | exact LdS_46)) only [q_190_39, q_190_52, q_190_196, q_190_231, q_190_249, q_190_262, mtg8, mtg11, mtg10, mtg9, mtg12, mtw11, mtw10, mtw9, mtw12, hn, ↓hs9, ↓c193b, hx8, ↓n_rd, ↓n_al, ↓n_cI, li_0, li_1, li_2, li_3, li_4, li_6, li_8, li_9, li_10, li_12, li_32, li_48, li_59, zI_add, zI_sub, zI_mul, zI_neg, ↓Option.bind_some, ↓g12_10, ↓g12_12, ↓g12_6, ↓g12_8, ↓g12_9, ↓p12_10, ↓p12_11, ↓p12_12, ↓p12_9, ↓al_223, ↓as_223, zIt2, uR_at, uR_ne, uR_uR, uC_uC, uC_at, ↓reduceIte, decide_eq_true_eq, leT, leF, ltT, ltF, eqT, eqF, ne_eq, not_true_eq_false, not_false_eq_true, Bool.false_eq_true, tI_zI]
          · rw [if_neg g]
            have g2 : 3 ≤ ((b + j : Nat) : Int) - (b : Int) := by omega
            rw [q_190_141]; (try simp only [↓n_rd, ↓n_al, ↓n_cI, li_0, li_1, li_2, li_3, li_4, li_6, li_8, li_9, li_10, li_12, li_32, li_48, li_59, zI_add, zI_sub, zI_mul, zI_neg, ↓Option.bind_some]); simp (disch := (first | assumption | exact tI_rg _ | omega | exact uR_at | exact row_ne hF (by decide) | exact row_ne (row_ne hF (by decide)) (by decide) | exact SnS_18 | exact SnS_30 | exact LdS_44 | exact LdS_46)) only [q_190_39, q_190_52, q_190_196, q_190_231, q_190_249, q_190_262, mtg8, mtg11, mtg10, mtg9, mtg12, mtw11, mtw10, mtw9, mtw12, hn, ↓hs9, ↓c193b, ↓n_rd, ↓n_al, ↓n_cI, li_0, li_1, li_2, li_3, li_4, li_6, li_8, li_9, li_10, li_12, li_32, li_48, li_59, zI_add, zI_sub, zI_mul, zI_neg, ↓Option.bind_some, ↓g12_10, ↓g12_12, ↓g12_6, ↓g12_8, ↓g12_9, ↓p12_10, ↓p12_11, ↓p12_12, ↓p12_9, ↓al_223, ↓as_223, zIt2, uR_at, uR_ne, uR_uR, uC_uC, uC_at, ↓reduceIte, decide_eq_true_eq, leT, leF, ltT, ltF, eqT, eqF, ne_eq, not_true_eq_false, not_false_eq_true, Bool.false_eq_true, tI_zI]
        · show runP MP d 190 (141, [some (.ref 217), some (.int (zI (T b)))], [], mk E (uR F 217 (mtR r0 (k, (b : Int), ((b + (e9 - b) : Nat) : Int), (vlN T b ((e9 - b)))))) G) = _
          rw [show b + (e9 - b) = e9 by omega]
          have hs9 := fun {kk : Int → HeapP → ResP} {kx : Nat → HeapP → ResP} {t' : TkS} => hsee (kk := kk) (kx := kx) (t' := t') (i := e9) (by omega)
          have hx0 : 0 ≤ (if e9 < n then T e9 else 0) ∧ (if e9 < n then T e9 else 0) < 256 := by
            by_cases g : e9 < n
            · rw [if_pos g]; exact (hT.2 e9 g).1
            · rw [if_neg g]; omega
          have hdg : ¬ isD (if e9 < n then T e9 else 0) = true := by
            by_cases g : e9 < n
            · rw [if_pos g]; have : isD (T e9) = false := u4 g
              rw [this]; exact Bool.false_ne_true
            · rw [if_neg g]; decide
          generalize (if e9 < n then T e9 else 0) = x8 at *
          have c193b := fun {kk : Int → HeapP → ResP} {kx : Nat → HeapP → ResP} {F' : Nat → Int → Int32} => cc_193 (d := d) (E := E) (F := F') (G := G) (kk := kk) (kx := kx) (x := x8) (b := x8) hx0 (Or.inl rfl) (by omega)
          simp only [if_neg hdg] at c193b
          by_cases g : e9 - b ≤ 3
          · rw [if_pos g]
            have g2 : (e9 : Int) - (b : Int) ≤ 3 := by omega
            rw [q_190_141]; (try simp only [↓n_rd, ↓n_al, ↓n_cI, li_0, li_1, li_2, li_3, li_4, li_6, li_8, li_9, li_10, li_12, li_32, li_48, li_59, zI_add, zI_sub, zI_mul, zI_neg, ↓Option.bind_some]); simp (disch := (first | assumption | exact tI_rg _ | omega | exact uR_at | exact row_ne hF (by decide) | exact row_ne (row_ne hF (by decide)) (by decide) | exact SnS_18 | exact SnS_30 | exact LdS_44 | exact LdS_46)) only [q_190_39, q_190_52, q_190_196, q_190_231, q_190_249, q_190_262, mtg8, mtg11, mtg10, mtg9, mtg12, mtw11, mtw10, mtw9, mtw12, hn, ↓hs9, ↓c193b, ↓n_rd, ↓n_al, ↓n_cI, li_0, li_1, li_2, li_3, li_4, li_6, li_8, li_9, li_10, li_12, li_32, li_48, li_59, zI_add, zI_sub, zI_mul, zI_neg, ↓Option.bind_some, ↓g12_10, ↓g12_12, ↓g12_6, ↓g12_8, ↓g12_9, ↓p12_10, ↓p12_11, ↓p12_12, ↓p12_9, ↓al_223, ↓as_223, zIt2, uR_at, uR_ne, uR_uR, uC_uC, uC_at, ↓reduceIte, decide_eq_true_eq, leT, leF, ltT, ltF, eqT, eqF, ne_eq, not_true_eq_false, not_false_eq_true, Bool.false_eq_true, tI_zI]
          · rw [if_neg g]
            have g2 : ¬ (e9 : Int) - (b : Int) ≤ 3 := by omega
            rw [q_190_141]; (try simp only [↓n_rd, ↓n_al, ↓n_cI, li_0, li_1, li_2, li_3, li_4, li_6, li_8, li_9, li_10, li_12, li_32, li_48, li_59, zI_add, zI_sub, zI_mul, zI_neg, ↓Option.bind_some]); simp (disch := (first | assumption | exact tI_rg _ | omega | exact uR_at | exact row_ne hF (by decide) | exact row_ne (row_ne hF (by decide)) (by decide) | exact SnS_18 | exact SnS_30 | exact LdS_44 | exact LdS_46)) only [q_190_39, q_190_52, q_190_196, q_190_231, q_190_249, q_190_262, mtg8, mtg11, mtg10, mtg9, mtg12, mtw11, mtw10, mtw9, mtw12, hn, ↓hs9, ↓c193b, ↓n_rd, ↓n_al, ↓n_cI, li_0, li_1, li_2, li_3, li_4, li_6, li_8, li_9, li_10, li_12, li_32, li_48, li_59, zI_add, zI_sub, zI_mul, zI_neg, ↓Option.bind_some, ↓g12_10, ↓g12_12, ↓g12_6, ↓g12_8, ↓g12_9, ↓p12_10, ↓p12_11, ↓p12_12, ↓p12_9, ↓al_223, ↓as_223, zIt2, uR_at, uR_ne, uR_uR, uC_uC, uC_at, ↓reduceIte, decide_eq_true_eq, leT, leF, ltT, ltF, eqT, eqF, ne_eq, not_true_eq_false, not_false_eq_true, Bool.false_eq_true, tI_zI]
      · rw [if_neg c3]
        simp only [if_neg c3] at c193
        by_cases c4 : T b = 59
        · rw [if_pos c4]
          rw [c4] at c191 c193 hx9
          rw [q_190_52]; (try simp only [↓n_rd, ↓n_al, ↓n_cI, li_0, li_1, li_2, li_3, li_4, li_6, li_8, li_9, li_10, li_12, li_32, li_48, li_59, zI_add, zI_sub, zI_mul, zI_neg, ↓Option.bind_some]); simp (disch := (first | assumption | exact tI_rg _ | omega | exact uR_at | exact row_ne hF (by decide) | exact row_ne (row_ne hF (by decide)) (by decide) | exact SnS_18 | exact SnS_30 | exact LdS_44 | exact LdS_46)) only [q_190_39, q_190_196, q_190_231, q_190_249, q_190_262, mtg8, mtg11, mtg10, mtg9, mtg12, mtw11, mtw10, mtw9, mtw12, hn, hx9, ↓c191, ↓c193, ↓n_rd, ↓n_al, ↓n_cI, li_0, li_1, li_2, li_3, li_4, li_6, li_8, li_9, li_10, li_12, li_32, li_48, li_59, zI_add, zI_sub, zI_mul, zI_neg, ↓Option.bind_some, ↓g12_10, ↓g12_12, ↓g12_6, ↓g12_8, ↓g12_9, ↓p12_10, ↓p12_11, ↓p12_12, ↓p12_9, ↓al_223, ↓as_223, zIt2, uR_at, uR_ne, uR_uR, uC_uC, uC_at, ↓reduceIte, decide_eq_true_eq, leT, leF, ltT, ltF, eqT, eqF, ne_eq, not_true_eq_false, not_false_eq_true, Bool.false_eq_true, tI_zI]
        · rw [if_neg c4]
          rw [q_190_52]; (try simp only [↓n_rd, ↓n_al, ↓n_cI, li_0, li_1, li_2, li_3, li_4, li_6, li_8, li_9, li_10, li_12, li_32, li_48, li_59, zI_add, zI_sub, zI_mul, zI_neg, ↓Option.bind_some]); simp (disch := (first | assumption | exact tI_rg _ | omega | exact uR_at | exact row_ne hF (by decide) | exact row_ne (row_ne hF (by decide)) (by decide) | exact SnS_18 | exact SnS_30 | exact LdS_44 | exact LdS_46)) only [q_190_39, q_190_196, q_190_231, q_190_249, q_190_262, mtg8, mtg11, mtg10, mtg9, mtg12, mtw11, mtw10, mtw9, mtw12, hn, hx9, ↓c191, ↓c193, ↓n_rd, ↓n_al, ↓n_cI, li_0, li_1, li_2, li_3, li_4, li_6, li_8, li_9, li_10, li_12, li_32, li_48, li_59, zI_add, zI_sub, zI_mul, zI_neg, ↓Option.bind_some, ↓g12_10, ↓g12_12, ↓g12_6, ↓g12_8, ↓g12_9, ↓p12_10, ↓p12_11, ↓p12_12, ↓p12_9, ↓al_223, ↓as_223, zIt2, uR_at, uR_ne, uR_uR, uC_uC, uC_at, ↓reduceIte, decide_eq_true_eq, leT, leF, ltT, ltF, eqT, eqF, ne_eq, not_true_eq_false, not_false_eq_true, Bool.false_eq_true, tI_zI]
end S94zzd
