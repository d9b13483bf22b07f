/-! CLASS: the next token -/
section S94zzc
set_option linter.unusedVariables false
set_option linter.unusedSimpArgs false
theorem tkg1 {r : Int → Int32} {t : TkS} : tkR r t 1 = r 1 := tk_ne (by omega)
theorem tkg6 {r : Int → Int32} {t : TkS} : tkR r t 6 = r 6 := tk_ne (by omega)
theorem tkg7 {r : Int → Int32} {t : TkS} : tkR r t 7 = r 7 := tk_ne (by omega)
theorem tkg2 {r : Int → Int32} {k b e v : Int} : tkR r (k, b, e, v) 2 = zI k := tk_at.1
theorem tkg3 {r : Int → Int32} {k b e v : Int} : tkR r (k, b, e, v) 3 = zI b := tk_at.2.1
theorem tkg4 {r : Int → Int32} {k b e v : Int} : tkR r (k, b, e, v) 4 = zI e := tk_at.2.2.1
theorem tkg5 {r : Int → Int32} {k b e v : Int} : tkR r (k, b, e, v) 5 = zI v := tk_at.2.2.2
theorem tkw {r : Int → Int32} {k b e v : Int} {i : Int} {x : Int32} {t : TkS} (h2 : uC (tkR r (k, b, e, v)) i x 2 = zI t.1) (h3 : uC (tkR r (k, b, e, v)) i x 3 = zI t.2.1) (h4 : uC (tkR r (k, b, e, v)) i x 4 = zI t.2.2.1) (h5 : uC (tkR r (k, b, e, v)) i x 5 = zI t.2.2.2) (hi : 2 ≤ i ∧ i ≤ 5) : uC (tkR r (k, b, e, v)) i x = tkR r t :=
  tk_is h2 h3 h4 h5 (fun j hj => by rw [uC_ne (by omega), tk_ne hj])
theorem tkw2 {r : Int → Int32} {k b e v x : Int} : uC (tkR r (k, b, e, v)) 2 (zI x) = tkR r (x, b, e, v) := tkw (t := (x, b, e, v)) uC_at ((uC_ne (by decide)).trans tkg3) ((uC_ne (by decide)).trans tkg4) ((uC_ne (by decide)).trans tkg5) (by omega)
theorem tkw3 {r : Int → Int32} {k b e v x : Int} : uC (tkR r (k, b, e, v)) 3 (zI x) = tkR r (k, x, e, v) := tkw (t := (k, x, e, v)) ((uC_ne (by decide)).trans tkg2) uC_at ((uC_ne (by decide)).trans tkg4) ((uC_ne (by decide)).trans tkg5) (by omega)
theorem tkw4 {r : Int → Int32} {k b e v x : Int} : uC (tkR r (k, b, e, v)) 4 (zI x) = tkR r (k, b, x, v) := tkw (t := (k, b, x, v)) ((uC_ne (by decide)).trans tkg2) ((uC_ne (by decide)).trans tkg3) uC_at ((uC_ne (by decide)).trans tkg5) (by omega)
theorem tkw5 {r : Int → Int32} {k b e v x : Int} : uC (tkR r (k, b, e, v)) 5 (zI x) = tkR r (k, b, e, x) := tkw (t := (k, b, e, x)) ((uC_ne (by decide)).trans tkg2) ((uC_ne (by decide)).trans tkg3) ((uC_ne (by decide)).trans tkg4) uC_at (by omega)
theorem ct_41 {d : Nat} {E : EnQ} {F : Nat → Int → Int32} {G : Nat → Int → Int64} {T : Nat → Int} {n a : Nat} {r0 : Int → Int32} (hs : shx E a = (1, 3, 0)) (hr0 : rfQ E a 0 = 17) (ha : a ≠ 17) (hT : TxR F T n) (hn0 : r0 1 = zI n) {k v : Int} {b : Nat} (hb : b < n) (hd : 2 ≤ d) : callP MP d 41 [.ref a] (mk E (uR F a (tkR r0 (k, (b : Int), (b : Int), v))) G) = some (Sum.inl none, mk E (uR F a (tkR r0 ((if scN (fun j => isD (T j)) n b - b ≤ 3 then 2 else 4), (b : Int), ((scN (fun j => isD (T j)) n b : Nat) : Int), (vlN T b (scN (fun j => isD (T j)) n b - b))))) G) := by
  have hn6 := hT.1
  have hn : tI (r0 1) = n := by rw [hn0, tI_zI (by omega)]
  obtain ⟨u1, u2, u3, u4⟩ := sc_is (p := fun j => isD (T j)) (n := n) (i := b) (by omega)
  generalize scN (fun j => isD (T j)) n b = e9 at *
  refine into (D := 1) (by omega) hM_41 (rcv_mk hs (by decide)) rfl fun d hd => ?_
  show runP MP d 41 (0, [some (.ref a)], [], _) = _
  have h0 : runP MP d 41 (0, [some (.ref a)], [], mk E (uR F a (tkR r0 (k, (b : Int), (b : Int), v))) G) = runP MP d 41 (5, [some (.ref a)], [], mk E (uR F a (tkR r0 (k, (b : Int), ((b + 0 : Nat) : Int), (vlN T b 0)))) G) := by
    show _ = runP MP d 41 (5, [some (.ref a)], [], mk E (uR F a (tkR r0 (k, (b : Int), (b : Int), 0))) G)
    rw [q_41_0]; (try simp only [↓n_rd, ↓n_al, ↓n_cI, li_0, li_1, li_2, li_3, li_4, li_5, li_10, li_48, li_100, zI_add, zI_sub, zI_mul, zI_neg, ↓Option.bind_some]); simp (disch := (first | assumption | exact tI_rg _ | omega | exact uR_at | exact row_ne hF (by decide) | exact row_ne (row_ne hF (by decide)) (by decide) | exact SnS_18 | exact SnS_30 | exact LdS_44 | exact LdS_46)) only [q_41_68, q_41_81, q_41_100, ↓al_17, tkg1, tkg2, tkg3, tkg4, tkg5, tkw2, tkw3, tkw4, tkw5, hr0, hn, ↓n_rd, ↓n_al, ↓n_cI, li_0, li_1, li_2, li_3, li_4, li_5, li_10, li_48, li_100, zI_add, zI_sub, zI_mul, zI_neg, ↓Option.bind_some, ↓g3_0, ↓g3_1, ↓g3_3, ↓g3_4, ↓g3_5, ↓p3_2, ↓p3_4, ↓p3_5, zIt2, uR_at, uR_ne, uR_uR, uC_uC, uC_at, ↓reduceIte, decide_eq_true_eq, leT, leF, ltT, ltF, eqT, eqF, ne_eq, not_true_eq_false, not_false_eq_true, Bool.false_eq_true, tI_zI]
  rw [h0]
  refine (loopN (fun j : Nat => runP MP d 41 (5, [some (.ref a)], [], mk E (uR F a (tkR r0 (k, (b : Int), ((b + j : Nat) : Int), (vlN T b (j))))) G)) (e9 - b) (fun j hj => ?_)).trans ?_
  · show runP MP d 41 (5, [some (.ref a)], [], mk E (uR F a (tkR r0 (k, (b : Int), ((b + j : Nat) : Int), (vlN T b (j))))) G) = runP MP d 41 (5, [some (.ref a)], [], mk E (uR F a (tkR r0 (k, (b : Int), ((b + (j + 1) : Nat) : Int), (vlN T b ((j + 1)))))) G)
    have hl : b + j < n := by omega
    obtain ⟨hb9, hx9⟩ := hT.2 (b + j) hl
    have hdg := u3 (b + j) (by omega) (by omega)
    have hdg2 : isD (T (b + j)) = true := hdg
    have hvr := vl_rg (T := T) (b := b) j (fun i hi => u3 (b + i) (by omega) (by omega))
    have hdv := hdg2
    unfold isD at hdv
    rw [decide_eq_true_eq] at hdv
    rw [if_pos (by omega)] at hx9
    have c40 := fun {kk : Int → HeapP → ResP} {kx : Nat → HeapP → ResP} {F' : Nat → Int → Int32} => cc_40 (d := d) (E := E) (F := F') (G := G) (kk := kk) (kx := kx) (x := T (b + j)) (b := T (b + j)) hb9 (Or.inl rfl) (by omega)
    simp only [if_pos hdg2] at c40
    have e1 : vlN T b (j + 1) = if j < 3 then 10 * vlN T b j + T (b + j) - 48 else vlN T b j := rfl
    rw [e1, show ((b + (j + 1) : Nat) : Int) = ((b + j : Nat) : Int) + 1 from rfl]
    by_cases g : j < 3
    · rw [if_pos g]
      have g2 : ¬ 3 ≤ ((b + j : Nat) : Int) - (b : Int) := by omega
      rw [q_41_5]; (try simp only [↓n_rd, ↓n_al, ↓n_cI, li_0, li_1, li_2, li_3, li_4, li_5, li_10, li_48, li_100, zI_add, zI_sub, zI_mul, zI_neg, ↓Option.bind_some]); simp (disch := (first | assumption | exact tI_rg _ | omega | exact uR_at | exact row_ne hF (by decide) | exact row_ne (row_ne hF (by decide)) (by decide) | exact SnS_18 | exact SnS_30 | exact LdS_44 | exact LdS_46)) only [q_41_0, q_41_68, q_41_81, q_41_100, ↓al_17, tkg1, tkg2, tkg3, tkg4, tkg5, tkw2, tkw3, tkw4, tkw5, hr0, hn, hx9, ↓c40, ↓n_rd, ↓n_al, ↓n_cI, li_0, li_1, li_2, li_3, li_4, li_5, li_10, li_48, li_100, zI_add, zI_sub, zI_mul, zI_neg, ↓Option.bind_some, ↓g3_0, ↓g3_1, ↓g3_3, ↓g3_4, ↓g3_5, ↓p3_2, ↓p3_4, ↓p3_5, zIt2, uR_at, uR_ne, uR_uR, uC_uC, uC_at, ↓reduceIte, decide_eq_true_eq, leT, leF, ltT, ltF, eqT, eqF, ne_eq, not_true_eq_false, not_false_eq_true, Bool.false_eq_true, tI_zI]
    · rw [if_neg g]
      have g2 : 3 ≤ ((b + j : Nat) : Int) - (b : Int) := by omega
      rw [q_41_5]; (try simp only [↓n_rd, ↓n_al, ↓n_cI, li_0, li_1, li_2, li_3, li_4, li_5, li_10, li_48, li_100, zI_add, zI_sub, zI_mul, zI_neg, ↓Option.bind_some]); simp (disch := (first | assumption | exact tI_rg _ | omega | exact uR_at | exact row_ne hF (by decide) | exact row_ne (row_ne hF (by decide)) (by decide) | exact SnS_18 | exact SnS_30 | exact LdS_44 | exact LdS_46)) only [q_41_0, q_41_68, q_41_81, q_41_100, ↓al_17, tkg1, tkg2, tkg3, tkg4, tkg5, tkw2, tkw3, tkw4, tkw5, hr0, hn, hx9, ↓c40, ↓n_rd, ↓n_al, ↓n_cI, li_0, li_1, li_2, li_3, li_4, li_5, li_10, li_48, li_100, zI_add, zI_sub, zI_mul, zI_neg, ↓Option.bind_some, ↓g3_0, ↓g3_1, ↓g3_3, ↓g3_4, ↓g3_5, ↓p3_2, ↓p3_4, ↓p3_5, zIt2, uR_at, uR_ne, uR_uR, uC_uC, uC_at, ↓reduceIte, decide_eq_true_eq, leT, leF, ltT, ltF, eqT, eqF, ne_eq, not_true_eq_false, not_false_eq_true, Bool.false_eq_true, tI_zI]
  · show runP MP d 41 (5, [some (.ref a)], [], mk E (uR F a (tkR r0 (k, (b : Int), ((b + (e9 - b) : Nat) : Int), (vlN T b ((e9 - b)))))) G) = _
    have hvr := vl_rg (T := T) (b := b) (e9 - b) (fun i hi => u3 (b + i) (by omega) (by omega))
    rw [show b + (e9 - b) = e9 by omega]
    have h81 : runP MP d 41 (5, [some (.ref a)], [], mk E (uR F a (tkR r0 (k, (b : Int), (e9 : Int), (vlN T b (e9 - b))))) G) = runP MP d 41 (81, [some (.ref a)], [], mk E (uR F a (tkR r0 (k, (b : Int), (e9 : Int), (vlN T b (e9 - b))))) G) := by
      by_cases g : e9 < n
      · obtain ⟨hb9, hx9⟩ := hT.2 e9 g
        have hdg : isD (T e9) = false := u4 g
        have c40 := fun {kk : Int → HeapP → ResP} {kx : Nat → HeapP → ResP} {F' : Nat → Int → Int32} => cc_40 (d := d) (E := E) (F := F') (G := G) (kk := kk) (kx := kx) (x := tI (F 17 (e9 : Int))) (b := T e9) hb9 (by rw [hx9]; split <;> omega) (by omega)
        simp only [if_neg (show ¬ isD (T e9) = true by rw [hdg]; exact Bool.false_ne_true)] at c40
        rw [q_41_5]; (try simp only [↓n_rd, ↓n_al, ↓n_cI, li_0, li_1, li_2, li_3, li_4, li_5, li_10, li_48, li_100, zI_add, zI_sub, zI_mul, zI_neg, ↓Option.bind_some]); simp (disch := (first | assumption | exact tI_rg _ | omega | exact uR_at | exact row_ne hF (by decide) | exact row_ne (row_ne hF (by decide)) (by decide) | exact SnS_18 | exact SnS_30 | exact LdS_44 | exact LdS_46)) only [q_41_0, q_41_68, q_41_100, ↓al_17, tkg1, tkg2, tkg3, tkg4, tkg5, tkw2, tkw3, tkw4, tkw5, hr0, hn, ↓c40, ↓n_rd, ↓n_al, ↓n_cI, li_0, li_1, li_2, li_3, li_4, li_5, li_10, li_48, li_100, zI_add, zI_sub, zI_mul, zI_neg, ↓Option.bind_some, ↓g3_0, ↓g3_1, ↓g3_3, ↓g3_4, ↓g3_5, ↓p3_2, ↓p3_4, ↓p3_5, zIt2, uR_at, uR_ne, uR_uR, uC_uC, uC_at, ↓reduceIte, decide_eq_true_eq, leT, leF, ltT, ltF, eqT, eqF, ne_eq, not_true_eq_false, not_false_eq_true, Bool.false_eq_true, tI_zI]
      · rw [q_41_5]; (try simp only [↓n_rd, ↓n_al, ↓n_cI, li_0, li_1, li_2, li_3, li_4, li_5, li_10, li_48, li_100, zI_add, zI_sub, zI_mul, zI_neg, ↓Option.bind_some]); simp (disch := (first | assumption | exact tI_rg _ | omega | exact uR_at | exact row_ne hF (by decide) | exact row_ne (row_ne hF (by decide)) (by decide) | exact SnS_18 | exact SnS_30 | exact LdS_44 | exact LdS_46)) only [q_41_0, q_41_68, q_41_100, ↓al_17, tkg1, tkg2, tkg3, tkg4, tkg5, tkw2, tkw3, tkw4, tkw5, hr0, hn, ↓n_rd, ↓n_al, ↓n_cI, li_0, li_1, li_2, li_3, li_4, li_5, li_10, li_48, li_100, zI_add, zI_sub, zI_mul, zI_neg, ↓Option.bind_some, ↓g3_0, ↓g3_1, ↓g3_3, ↓g3_4, ↓g3_5, ↓p3_2, ↓p3_4, ↓p3_5, zIt2, uR_at, uR_ne, uR_uR, uC_uC, uC_at, ↓reduceIte, decide_eq_true_eq, leT, leF, ltT, ltF, eqT, eqF, ne_eq, not_true_eq_false, not_false_eq_true, Bool.false_eq_true, tI_zI]
    rw [h81]
    by_cases g : e9 - b ≤ 3
    · rw [if_pos g]
      rw [q_41_81]; (try simp only [↓n_rd, ↓n_al, ↓n_cI, li_0, li_1, li_2, li_3, li_4, li_5, li_10, li_48, li_100, zI_add, zI_sub, zI_mul, zI_neg, ↓Option.bind_some]); simp (disch := (first | assumption | exact tI_rg _ | omega | exact uR_at | exact row_ne hF (by decide) | exact row_ne (row_ne hF (by decide)) (by decide) | exact SnS_18 | exact SnS_30 | exact LdS_44 | exact LdS_46)) only [q_41_0, q_41_68, q_41_100, ↓al_17, tkg1, tkg2, tkg3, tkg4, tkg5, tkw2, tkw3, tkw4, tkw5, hr0, hn, ↓n_rd, ↓n_al, ↓n_cI, li_0, li_1, li_2, li_3, li_4, li_5, li_10, li_48, li_100, zI_add, zI_sub, zI_mul, zI_neg, ↓Option.bind_some, ↓g3_0, ↓g3_1, ↓g3_3, ↓g3_4, ↓g3_5, ↓p3_2, ↓p3_4, ↓p3_5, zIt2, uR_at, uR_ne, uR_uR, uC_uC, uC_at, ↓reduceIte, decide_eq_true_eq, leT, leF, ltT, ltF, eqT, eqF, ne_eq, not_true_eq_false, not_false_eq_true, Bool.false_eq_true, tI_zI]
    · rw [if_neg g]
      rw [q_41_81]; (try simp only [↓n_rd, ↓n_al, ↓n_cI, li_0, li_1, li_2, li_3, li_4, li_5, li_10, li_48, li_100, zI_add, zI_sub, zI_mul, zI_neg, ↓Option.bind_some]); simp (disch := (first | assumption | exact tI_rg _ | omega | exact uR_at | exact row_ne hF (by decide) | exact row_ne (row_ne hF (by decide)) (by decide) | exact SnS_18 | exact SnS_30 | exact LdS_44 | exact LdS_46)) only [q_41_0, q_41_68, q_41_100, ↓al_17, tkg1, tkg2, tkg3, tkg4, tkg5, tkw2, tkw3, tkw4, tkw5, hr0, hn, ↓n_rd, ↓n_al, ↓n_cI, li_0, li_1, li_2, li_3, li_4, li_5, li_10, li_48, li_100, zI_add, zI_sub, zI_mul, zI_neg, ↓Option.bind_some, ↓g3_0, ↓g3_1, ↓g3_3, ↓g3_4, ↓g3_5, ↓p3_2, ↓p3_4, ↓p3_5, zIt2, uR_at, uR_ne, uR_uR, uC_uC, uC_at, ↓reduceIte, decide_eq_true_eq, leT, leF, ltT, ltF, eqT, eqF, ne_eq, not_true_eq_false, not_false_eq_true, Bool.false_eq_true, tI_zI]
theorem ct_38 {d : Nat} {E : EnQ} {F : Nat → Int → Int32} {G : Nat → Int → Int64} {T : Nat → Int} {n a : Nat} {r0 : Int → Int32} (hs : shx E a = (1, 3, 0)) (hr0 : rfQ E a 0 = 17) (ha : a ≠ 17) (hT : TxR F T n) (hn0 : r0 1 = zI n) {t : TkS} (ht : TkI n t) (hF : F a = tkR r0 t) (hd : 3 ≤ d) : callP MP d 38 [.ref a] (mk E F G) = some (Sum.inl none, mk E (uR F a (tkR r0 (adv T n t))) G) := by
  have hn6 := hT.1
  have hn : tI (r0 1) = n := by rw [hn0, tI_zI (by omega)]
  obtain ⟨k, b0, e0, v⟩ := t
  obtain ⟨h1, h2, h3, h4, h5, h6⟩ := ht
  have h1 : 0 ≤ k ∧ k ≤ 4 := h1
  have h2 : 0 ≤ b0 := h2
  have h3 : b0 ≤ e0 := h3
  have h4 : e0 ≤ n := h4
  have h5 : -2147483648 ≤ v := h5
  have h6 : v ≤ 2147483647 := h6
  obtain ⟨e0, rfl⟩ : ∃ m : Nat, e0 = (m : Int) := ⟨e0.toNat, by omega⟩
  unfold adv
  show _ = some (Sum.inl none, mk E (uR F a (tkR r0 (if n ≤ scN (fun j => isB (T j)) n ((e0 : Int)).toNat then (0, (scN (fun j => isB (T j)) n ((e0 : Int)).toNat : Nat), (scN (fun j => isB (T j)) n ((e0 : Int)).toNat : Nat), v)
  else if isL (T (scN (fun j => isB (T j)) n ((e0 : Int)).toNat)) = true then (1, (scN (fun j => isB (T j)) n ((e0 : Int)).toNat : Nat), (scN (fun j => isL (T j)) n (scN (fun j => isB (T j)) n ((e0 : Int)).toNat) : Nat), v)
  else if isD (T (scN (fun j => isB (T j)) n ((e0 : Int)).toNat)) = true then (if scN (fun j => isD (T j)) n (scN (fun j => isB (T j)) n ((e0 : Int)).toNat) - scN (fun j => isB (T j)) n ((e0 : Int)).toNat ≤ 3 then 2 else 4, (scN (fun j => isB (T j)) n ((e0 : Int)).toNat : Nat), (scN (fun j => isD (T j)) n (scN (fun j => isB (T j)) n ((e0 : Int)).toNat) : Nat), vlN T (scN (fun j => isB (T j)) n ((e0 : Int)).toNat) (scN (fun j => isD (T j)) n (scN (fun j => isB (T j)) n ((e0 : Int)).toNat) - scN (fun j => isB (T j)) n ((e0 : Int)).toNat))
  else (if T (scN (fun j => isB (T j)) n ((e0 : Int)).toNat) = 59 then 3 else 4, (scN (fun j => isB (T j)) n ((e0 : Int)).toNat : Nat), (scN (fun j => isB (T j)) n ((e0 : Int)).toNat : Nat) + 1, v)))) G)
  rw [show ((e0 : Int)).toNat = e0 by omega]
  obtain ⟨s1, s2, s3, s4⟩ := sc_is (p := fun j => isB (T j)) (n := n) (i := e0) (by omega)
  generalize scN (fun j => isB (T j)) n e0 = b at *
  have hself : mk E F G = mk E (uR F a (tkR r0 (k, b0, (e0 : Int), v))) G := by rw [← hF, uR_self]
  rw [hself]
  refine into (D := 2) (by omega) hM_38 (rcv_mk hs (by decide)) rfl fun d hd => ?_
  show runP MP d 38 (0, [some (.ref a)], [], _) = _
  have h60 : runP MP d 38 (0, [some (.ref a)], [], mk E (uR F a (tkR r0 (k, b0, (e0 : Int), v))) G) = runP MP d 38 (60, [some (.ref a)], [], mk E (uR F a (tkR r0 (k, (b : Int), (e0 : Int), v))) G) := by
    have h8 : runP MP d 38 (0, [some (.ref a)], [], mk E (uR F a (tkR r0 (k, b0, (e0 : Int), v))) G) = runP MP d 38 (8, [some (.ref a)], [], mk E (uR F a (tkR r0 (k, ((e0 + 0 : Nat) : Int), (e0 : Int), v))) G) := by
      show _ = runP MP d 38 (8, [some (.ref a)], [], mk E (uR F a (tkR r0 (k, (e0 : Int), (e0 : Int), v))) G)
      rw [q_38_0]; (try simp only [↓n_rd, ↓n_al, ↓n_cI, li_0, li_1, li_2, li_3, li_4, li_8, li_10, li_32, li_38, li_59, li_60, zI_add, zI_sub, zI_mul, zI_neg, ↓Option.bind_some]); simp (disch := (first | assumption | exact tI_rg _ | omega | exact uR_at | exact row_ne hF (by decide) | exact row_ne (row_ne hF (by decide)) (by decide) | exact SnS_18 | exact SnS_30 | exact LdS_44 | exact LdS_46)) only [q_38_47, q_38_60, q_38_188, q_38_201, ↓al_17, tkg1, tkg2, tkg3, tkg4, tkg5, tkw2, tkw3, tkw4, tkw5, hr0, hn, ↓n_rd, ↓n_al, ↓n_cI, li_0, li_1, li_2, li_3, li_4, li_8, li_10, li_32, li_38, li_59, li_60, zI_add, zI_sub, zI_mul, zI_neg, ↓Option.bind_some, ↓g3_0, ↓g3_1, ↓g3_3, ↓g3_4, ↓p3_2, ↓p3_3, ↓p3_4, zIt2, uR_at, uR_ne, uR_uR, uC_uC, uC_at, ↓reduceIte, decide_eq_true_eq, leT, leF, ltT, ltF, eqT, eqF, ne_eq, not_true_eq_false, not_false_eq_true, Bool.false_eq_true, tI_zI]
    rw [h8]
    refine (loopN (fun j : Nat => runP MP d 38 (8, [some (.ref a)], [], mk E (uR F a (tkR r0 (k, ((e0 + j : Nat) : Int), (e0 : Int), v))) G)) (b - e0) (fun j hj => ?_)).trans ?_
    · show runP MP d 38 (8, [some (.ref a)], [], mk E (uR F a (tkR r0 (k, ((e0 + j : Nat) : Int), (e0 : Int), v))) G) = runP MP d 38 (8, [some (.ref a)], [], mk E (uR F a (tkR r0 (k, ((e0 + (j + 1) : Nat) : Int), (e0 : Int), v))) G)
      have hl : e0 + j < n := by omega
      obtain ⟨hb9, hx9⟩ := hT.2 (e0 + j) hl
      have hdg : isB (T (e0 + j)) = true := s3 (e0 + j) (by omega) (by omega)
      unfold isB at hdg
      rw [decide_eq_true_eq] at hdg
      rw [if_pos (by omega)] at hx9
      rw [show ((e0 + (j + 1) : Nat) : Int) = ((e0 + j : Nat) : Int) + 1 from rfl]
      rcases hdg with z | z
      · rw [z] at hx9
        rw [q_38_8]; (try simp only [↓n_rd, ↓n_al, ↓n_cI, li_0, li_1, li_2, li_3, li_4, li_8, li_10, li_32, li_38, li_59, li_60, zI_add, zI_sub, zI_mul, zI_neg, ↓Option.bind_some]); simp (disch := (first | assumption | exact tI_rg _ | omega | exact uR_at | exact row_ne hF (by decide) | exact row_ne (row_ne hF (by decide)) (by decide) | exact SnS_18 | exact SnS_30 | exact LdS_44 | exact LdS_46)) only [q_38_0, q_38_47, q_38_60, q_38_188, q_38_201, ↓al_17, tkg1, tkg2, tkg3, tkg4, tkg5, tkw2, tkw3, tkw4, tkw5, hr0, hn, hx9, ↓n_rd, ↓n_al, ↓n_cI, li_0, li_1, li_2, li_3, li_4, li_8, li_10, li_32, li_38, li_59, li_60, zI_add, zI_sub, zI_mul, zI_neg, ↓Option.bind_some, ↓g3_0, ↓g3_1, ↓g3_3, ↓g3_4, ↓p3_2, ↓p3_3, ↓p3_4, zIt2, uR_at, uR_ne, uR_uR, uC_uC, uC_at, ↓reduceIte, decide_eq_true_eq, leT, leF, ltT, ltF, eqT, eqF, ne_eq, not_true_eq_false, not_false_eq_true, Bool.false_eq_true, tI_zI]
      · rw [z] at hx9
        rw [q_38_8]; (try simp only [↓n_rd, ↓n_al, ↓n_cI, li_0, li_1, li_2, li_3, li_4, li_8, li_10, li_32, li_38, li_59, li_60, zI_add, zI_sub, zI_mul, zI_neg, ↓Option.bind_some]); simp (disch := (first | assumption | exact tI_rg _ | omega | exact uR_at | exact row_ne hF (by decide) | exact row_ne (row_ne hF (by decide)) (by decide) | exact SnS_18 | exact SnS_30 | exact LdS_44 | exact LdS_46)) only [q_38_0, q_38_47, q_38_60, q_38_188, q_38_201, ↓al_17, tkg1, tkg2, tkg3, tkg4, tkg5, tkw2, tkw3, tkw4, tkw5, hr0, hn, hx9, ↓n_rd, ↓n_al, ↓n_cI, li_0, li_1, li_2, li_3, li_4, li_8, li_10, li_32, li_38, li_59, li_60, zI_add, zI_sub, zI_mul, zI_neg, ↓Option.bind_some, ↓g3_0, ↓g3_1, ↓g3_3, ↓g3_4, ↓p3_2, ↓p3_3, ↓p3_4, zIt2, uR_at, uR_ne, uR_uR, uC_uC, uC_at, ↓reduceIte, decide_eq_true_eq, leT, leF, ltT, ltF, eqT, eqF, ne_eq, not_true_eq_false, not_false_eq_true, Bool.false_eq_true, tI_zI]
    · show runP MP d 38 (8, [some (.ref a)], [], mk E (uR F a (tkR r0 (k, ((e0 + (b - e0) : Nat) : Int), (e0 : Int), v))) G) = _
      rw [show e0 + (b - e0) = b by omega]
      by_cases g : b < n
      · obtain ⟨hb9, hx9⟩ := hT.2 b g
        have hdg : isB (T b) = false := s4 g
        unfold isB at hdg
        have hdg := of_decide_eq_false hdg
        have hx1 : ¬ tI (F 17 (b : Int)) = 10 := by rw [hx9]; split <;> omega
        have hx2 : ¬ tI (F 17 (b : Int)) = 32 := by rw [hx9]; split <;> omega
        have hxr := tI_rg (F 17 (b : Int))
        rw [q_38_8]; (try simp only [↓n_rd, ↓n_al, ↓n_cI, li_0, li_1, li_2, li_3, li_4, li_8, li_10, li_32, li_38, li_59, li_60, zI_add, zI_sub, zI_mul, zI_neg, ↓Option.bind_some]); simp (disch := (first | assumption | exact tI_rg _ | omega | exact uR_at | exact row_ne hF (by decide) | exact row_ne (row_ne hF (by decide)) (by decide) | exact SnS_18 | exact SnS_30 | exact LdS_44 | exact LdS_46)) only [q_38_0, q_38_47, q_38_188, q_38_201, ↓al_17, tkg1, tkg2, tkg3, tkg4, tkg5, tkw2, tkw3, tkw4, tkw5, hr0, hn, ↓n_rd, ↓n_al, ↓n_cI, li_0, li_1, li_2, li_3, li_4, li_8, li_10, li_32, li_38, li_59, li_60, zI_add, zI_sub, zI_mul, zI_neg, ↓Option.bind_some, ↓g3_0, ↓g3_1, ↓g3_3, ↓g3_4, ↓p3_2, ↓p3_3, ↓p3_4, zIt2, uR_at, uR_ne, uR_uR, uC_uC, uC_at, ↓reduceIte, decide_eq_true_eq, leT, leF, ltT, ltF, eqT, eqF, ne_eq, not_true_eq_false, not_false_eq_true, Bool.false_eq_true, tI_zI]
      · rw [q_38_8]; (try simp only [↓n_rd, ↓n_al, ↓n_cI, li_0, li_1, li_2, li_3, li_4, li_8, li_10, li_32, li_38, li_59, li_60, zI_add, zI_sub, zI_mul, zI_neg, ↓Option.bind_some]); simp (disch := (first | assumption | exact tI_rg _ | omega | exact uR_at | exact row_ne hF (by decide) | exact row_ne (row_ne hF (by decide)) (by decide) | exact SnS_18 | exact SnS_30 | exact LdS_44 | exact LdS_46)) only [q_38_0, q_38_47, q_38_188, q_38_201, ↓al_17, tkg1, tkg2, tkg3, tkg4, tkg5, tkw2, tkw3, tkw4, tkw5, hr0, hn, ↓n_rd, ↓n_al, ↓n_cI, li_0, li_1, li_2, li_3, li_4, li_8, li_10, li_32, li_38, li_59, li_60, zI_add, zI_sub, zI_mul, zI_neg, ↓Option.bind_some, ↓g3_0, ↓g3_1, ↓g3_3, ↓g3_4, ↓p3_2, ↓p3_3, ↓p3_4, zIt2, uR_at, uR_ne, uR_uR, uC_uC, uC_at, ↓reduceIte, decide_eq_true_eq, leT, leF, ltT, ltF, eqT, eqF, ne_eq, not_true_eq_false, not_false_eq_true, Bool.false_eq_true, tI_zI]
  rw [h60]
  by_cases c1 : n ≤ b
  · rw [if_pos c1]
    rw [q_38_60]; (try simp only [↓n_rd, ↓n_al, ↓n_cI, li_0, li_1, li_2, li_3, li_4, li_8, li_10, li_32, li_38, li_59, li_60, zI_add, zI_sub, zI_mul, zI_neg, ↓Option.bind_some]); simp (disch := (first | assumption | exact tI_rg _ | omega | exact uR_at | exact row_ne hF (by decide) | exact row_ne (row_ne hF (by decide)) (by decide) | exact SnS_18 | exact SnS_30 | exact LdS_44 | exact LdS_46)) only [q_38_0, q_38_47, q_38_188, q_38_201, ↓al_17, tkg1, tkg2, tkg3, tkg4, tkg5, tkw2, tkw3, tkw4, tkw5, hr0, hn, ↓n_rd, ↓n_al, ↓n_cI, li_0, li_1, li_2, li_3, li_4, li_8, li_10, li_32, li_38, li_59, li_60, zI_add, zI_sub, zI_mul, zI_neg, ↓Option.bind_some, ↓g3_0, ↓g3_1, ↓g3_3, ↓g3_4, ↓p3_2, ↓p3_3, ↓p3_4, zIt2, uR_at, uR_ne, uR_uR, uC_uC, uC_at, ↓reduceIte, decide_eq_true_eq, leT, leF, ltT, ltF, eqT, eqF, ne_eq, not_true_eq_false, not_false_eq_true, Bool.false_eq_true, tI_zI]
  · rw [if_neg c1]
    obtain ⟨hb9, hx9⟩ := hT.2 b (by omega)
    have hxo : tI (F 17 (b : Int)) = T b ∨ (128 ≤ T b ∧ tI (F 17 (b : Int)) = T b - 256) := by rw [hx9]; split <;> omega
    have hxr := tI_rg (F 17 (b : Int))
    have c39 := fun {kk : Int → HeapP → ResP} {kx : Nat → HeapP → ResP} {F' : Nat → Int → Int32} => cc_39 (d := d) (E := E) (F := F') (G := G) (kk := kk) (kx := kx) (x := tI (F 17 (b : Int))) (b := T b) hb9 hxo (by omega)
    have c40 := fun {kk : Int → HeapP → ResP} {kx : Nat → HeapP → ResP} {F' : Nat → Int → Int32} => cc_40 (d := d) (E := E) (F := F') (G := G) (kk := kk) (kx := kx) (x := tI (F 17 (b : Int))) (b := T b) hb9 hxo (by omega)
    by_cases c2 : isL (T b) = true
    · rw [if_pos c2]
      simp only [if_pos c2] at c39
      obtain ⟨u1, u2, u3, u4⟩ := sc_is (p := fun j => isL (T j)) (n := n) (i := b) (by omega)
      generalize scN (fun j => isL (T j)) n b = e9 at *
      have h107 : runP MP d 38 (60, [some (.ref a)], [], mk E (uR F a (tkR r0 (k, (b : Int), (e0 : Int), v))) G) = runP MP d 38 (107, [some (.ref a)], [], mk E (uR F a (tkR r0 (1, (b : Int), ((b + 0 : Nat) : Int), v))) G) := by
        show _ = runP MP d 38 (107, [some (.ref a)], [], mk E (uR F a (tkR r0 (1, (b : Int), (b : Int), v))) G)
        rw [q_38_60]; (try simp only [↓n_rd, ↓n_al, ↓n_cI, li_0, li_1, li_2, li_3, li_4, li_8, li_10, li_32, li_38, li_59, li_60, zI_add, zI_sub, zI_mul, zI_neg, ↓Option.bind_some]); simp (disch := (first | assumption | exact tI_rg _ | omega | exact uR_at | exact row_ne hF (by decide) | exact row_ne (row_ne hF (by decide)) (by decide) | exact SnS_18 | exact SnS_30 | exact LdS_44 | exact LdS_46)) only [q_38_0, q_38_47, q_38_188, q_38_201, ↓al_17, tkg1, tkg2, tkg3, tkg4, tkg5, tkw2, tkw3, tkw4, tkw5, hr0, hn, ↓c39, ↓n_rd, ↓n_al, ↓n_cI, li_0, li_1, li_2, li_3, li_4, li_8, li_10, li_32, li_38, li_59, li_60, zI_add, zI_sub, zI_mul, zI_neg, ↓Option.bind_some, ↓g3_0, ↓g3_1, ↓g3_3, ↓g3_4, ↓p3_2, ↓p3_3, ↓p3_4, zIt2, uR_at, uR_ne, uR_uR, uC_uC, uC_at, ↓reduceIte, decide_eq_true_eq, leT, leF, ltT, ltF, eqT, eqF, ne_eq, not_true_eq_false, not_false_eq_true, Bool.false_eq_true, tI_zI]
      rw [h107]
      refine (loopN (fun j : Nat => runP MP d 38 (107, [some (.ref a)], [], mk E (uR F a (tkR r0 (1, (b : Int), ((b + j : Nat) : Int), v))) G)) (e9 - b) (fun j hj => ?_)).trans ?_
      · show runP MP d 38 (107, [some (.ref a)], [], mk E (uR F a (tkR r0 (1, (b : Int), ((b + j : Nat) : Int), v))) G) = runP MP d 38 (107, [some (.ref a)], [], mk E (uR F a (tkR r0 (1, (b : Int), ((b + (j + 1) : Nat) : Int), v))) G)
        have hl : b + j < n := by omega
        obtain ⟨hb8, hx8⟩ := hT.2 (b + j) hl
        have hdg : isL (T (b + j)) = true := u3 (b + j) (by omega) (by omega)
        have c39b := fun {kk : Int → HeapP → ResP} {kx : Nat → HeapP → ResP} {F' : Nat → Int → Int32} => cc_39 (d := d) (E := E) (F := F') (G := G) (kk := kk) (kx := kx) (x := tI (F 17 ((b + j : Nat) : Int))) (b := T (b + j)) hb8 (by rw [hx8]; split <;> omega) (by omega)
        simp only [if_pos hdg] at c39b
        rw [show ((b + (j + 1) : Nat) : Int) = ((b + j : Nat) : Int) + 1 from rfl]
        rw [q_38_107]; (try simp only [↓n_rd, ↓n_al, ↓n_cI, li_0, li_1, li_2, li_3, li_4, li_8, li_10, li_32, li_38, li_59, li_60, zI_add, zI_sub, zI_mul, zI_neg, ↓Option.bind_some]); simp (disch := (first | assumption | exact tI_rg _ | omega | exact uR_at | exact row_ne hF (by decide) | exact row_ne (row_ne hF (by decide)) (by decide) | exact SnS_18 | exact SnS_30 | exact LdS_44 | exact LdS_46)) only [q_38_0, q_38_47, q_38_60, q_38_188, q_38_201, ↓al_17, tkg1, tkg2, tkg3, tkg4, tkg5, tkw2, tkw3, tkw4, tkw5, hr0, hn, ↓c39b, ↓n_rd, ↓n_al, ↓n_cI, li_0, li_1, li_2, li_3, li_4, li_8, li_10, li_32, li_38, li_59, li_60, zI_add, zI_sub, zI_mul, zI_neg, ↓Option.bind_some, ↓g3_0, ↓g3_1, ↓g3_3, ↓g3_4, ↓p3_2, ↓p3_3, ↓p3_4, zIt2, uR_at, uR_ne, uR_uR, uC_uC, uC_at, ↓reduceIte, decide_eq_true_eq, leT, leF, ltT, ltF, eqT, eqF, ne_eq, not_true_eq_false, not_false_eq_true, Bool.false_eq_true, tI_zI]
      · show runP MP d 38 (107, [some (.ref a)], [], mk E (uR F a (tkR r0 (1, (b : Int), ((b + (e9 - b) : Nat) : Int), v))) G) = _
        rw [show b + (e9 - b) = e9 by omega]
        by_cases g : e9 < n
        · obtain ⟨hb8, hx8⟩ := hT.2 e9 g
          have hdg : isL (T e9) = false := u4 g
          have c39b := fun {kk : Int → HeapP → ResP} {kx : Nat → HeapP → ResP} {F' : Nat → Int → Int32} => cc_39 (d := d) (E := E) (F := F') (G := G) (kk := kk) (kx := kx) (x := tI (F 17 (e9 : Int))) (b := T e9) hb8 (by rw [hx8]; split <;> omega) (by omega)
          simp only [if_neg (show ¬ isL (T e9) = true by rw [hdg]; exact Bool.false_ne_true)] at c39b
          rw [q_38_107]; (try simp only [↓n_rd, ↓n_al, ↓n_cI, li_0, li_1, li_2, li_3, li_4, li_8, li_10, li_32, li_38, li_59, li_60, zI_add, zI_sub, zI_mul, zI_neg, ↓Option.bind_some]); simp (disch := (first | assumption | exact tI_rg _ | omega | exact uR_at | exact row_ne hF (by decide) | exact row_ne (row_ne hF (by decide)) (by decide) | exact SnS_18 | exact SnS_30 | exact LdS_44 | exact LdS_46)) only [q_38_0, q_38_47, q_38_60, q_38_188, q_38_201, ↓al_17, tkg1, tkg2, tkg3, tkg4, tkg5, tkw2, tkw3, tkw4, tkw5, hr0, hn, ↓c39b, ↓n_rd, ↓n_al, ↓n_cI, li_0, li_1, li_2, li_3, li_4, li_8, li_10, li_32, li_38, li_59, li_60, zI_add, zI_sub, zI_mul, zI_neg, ↓Option.bind_some, ↓g3_0, ↓g3_1, ↓g3_3, ↓g3_4, ↓p3_2, ↓p3_3, ↓p3_4, zIt2, uR_at, uR_ne, uR_uR, uC_uC, uC_at, ↓reduceIte, decide_eq_true_eq, leT, leF, ltT, ltF, eqT, eqF, ne_eq, not_true_eq_false, not_false_eq_true, Bool.false_eq_true, tI_zI]
        · rw [q_38_107]; (try simp only [↓n_rd, ↓n_al, ↓n_cI, li_0, li_1, li_2, li_3, li_4, li_8, li_10, li_32, li_38, li_59, li_60, zI_add, zI_sub, zI_mul, zI_neg, ↓Option.bind_some]); simp (disch := (first | assumption | exact tI_rg _ | omega | exact uR_at | exact row_ne hF (by decide) | exact row_ne (row_ne hF (by decide)) (by decide) | exact SnS_18 | exact SnS_30 | exact LdS_44 | exact LdS_46)) only [q_38_0, q_38_47, q_38_60, q_38_188, q_38_201, ↓al_17, tkg1, tkg2, tkg3, tkg4, tkg5, tkw2, tkw3, tkw4, tkw5, hr0, hn, ↓n_rd, ↓n_al, ↓n_cI, li_0, li_1, li_2, li_3, li_4, li_8, li_10, li_32, li_38, li_59, li_60, zI_add, zI_sub, zI_mul, zI_neg, ↓Option.bind_some, ↓g3_0, ↓g3_1, ↓g3_3, ↓g3_4, ↓p3_2, ↓p3_3, ↓p3_4, zIt2, uR_at, uR_ne, uR_uR, uC_uC, uC_at, ↓reduceIte, decide_eq_true_eq, leT, leF, ltT, ltF, eqT, eqF, ne_eq, not_true_eq_false, not_false_eq_true, Bool.false_eq_true, tI_zI]
    · rw [if_neg c2]
      simp only [if_neg c2] at c39
      by_cases c3 : isD (T b) = true
      · rw [if_pos c3]
        simp only [if_pos c3] at c40
        have c41 : ∀ {kk : HeapP → ResP} {kx : Nat → HeapP → ResP}, cV (callP MP d 41 [.ref a] (mk E (uR F a (tkR r0 (k, (b : Int), (b : Int), v))) G)) kk kx = kk (mk E (uR F a (tkR r0 ((if scN (fun j => isD (T j)) n b - b ≤ 3 then 2 else 4), (b : Int), ((scN (fun j => isD (T j)) n b : Nat) : Int), (vlN T b (scN (fun j => isD (T j)) n b - b))))) G) := fun {kk kx} => cV_ret (ct_41 hs hr0 ha hT hn0 (by omega) (by omega))
        rw [q_38_60]; (try simp only [↓n_rd, ↓n_al, ↓n_cI, li_0, li_1, li_2, li_3, li_4, li_8, li_10, li_32, li_38, li_59, li_60, zI_add, zI_sub, zI_mul, zI_neg, ↓Option.bind_some]); simp (disch := (first | assumption | exact tI_rg _ | omega | exact uR_at | exact row_ne hF (by decide) | exact row_ne (row_ne hF (by decide)) (by decide) | exact SnS_18 | exact SnS_30 | exact LdS_44 | exact LdS_46)) only [q_38_0, q_38_47, q_38_188, q_38_201, ↓al_17, tkg1, tkg2, tkg3, tkg4, tkg5, tkw2, tkw3, tkw4, tkw5, hr0, hn, ↓c39, ↓c40, ↓c41, ↓n_rd, ↓n_al, ↓n_cI, li_0, li_1, li_2, li_3, li_4, li_8, li_10, li_32, li_38, li_59, li_60, zI_add, zI_sub, zI_mul, zI_neg, ↓Option.bind_some, ↓g3_0, ↓g3_1, ↓g3_3, ↓g3_4, ↓p3_2, ↓p3_3, ↓p3_4, zIt2, uR_at, uR_ne, uR_uR, uC_uC, uC_at, ↓reduceIte, decide_eq_true_eq, leT, leF, ltT, ltF, eqT, eqF, ne_eq, not_true_eq_false, not_false_eq_true, Bool.false_eq_true, tI_zI]
      · rw [if_neg c3]
        simp only [if_neg c3] at c40
        by_cases c4 : T b = 59
        · rw [if_pos c4]
          have hx5 : tI (F 17 (b : Int)) = 59 := by omega
          rw [hx5] at c39 c40
          rw [q_38_60]; (try simp only [↓n_rd, ↓n_al, ↓n_cI, li_0, li_1, li_2, li_3, li_4, li_8, li_10, li_32, li_38, li_59, li_60, zI_add, zI_sub, zI_mul, zI_neg, ↓Option.bind_some]); simp (disch := (first | assumption | exact tI_rg _ | omega | exact uR_at | exact row_ne hF (by decide) | exact row_ne (row_ne hF (by decide)) (by decide) | exact SnS_18 | exact SnS_30 | exact LdS_44 | exact LdS_46)) only [q_38_0, q_38_47, q_38_188, q_38_201, ↓al_17, tkg1, tkg2, tkg3, tkg4, tkg5, tkw2, tkw3, tkw4, tkw5, hr0, hn, hx5, ↓c39, ↓c40, ↓n_rd, ↓n_al, ↓n_cI, li_0, li_1, li_2, li_3, li_4, li_8, li_10, li_32, li_38, li_59, li_60, zI_add, zI_sub, zI_mul, zI_neg, ↓Option.bind_some, ↓g3_0, ↓g3_1, ↓g3_3, ↓g3_4, ↓p3_2, ↓p3_3, ↓p3_4, zIt2, uR_at, uR_ne, uR_uR, uC_uC, uC_at, ↓reduceIte, decide_eq_true_eq, leT, leF, ltT, ltF, eqT, eqF, ne_eq, not_true_eq_false, not_false_eq_true, Bool.false_eq_true, tI_zI]
        · rw [if_neg c4]
          have hx5 : ¬ tI (F 17 (b : Int)) = 59 := by omega
          rw [q_38_60]; (try simp only [↓n_rd, ↓n_al, ↓n_cI, li_0, li_1, li_2, li_3, li_4, li_8, li_10, li_32, li_38, li_59, li_60, zI_add, zI_sub, zI_mul, zI_neg, ↓Option.bind_some]); simp (disch := (first | assumption | exact tI_rg _ | omega | exact uR_at | exact row_ne hF (by decide) | exact row_ne (row_ne hF (by decide)) (by decide) | exact SnS_18 | exact SnS_30 | exact LdS_44 | exact LdS_46)) only [q_38_0, q_38_47, q_38_188, q_38_201, ↓al_17, tkg1, tkg2, tkg3, tkg4, tkg5, tkw2, tkw3, tkw4, tkw5, hr0, hn, ↓c39, ↓c40, ↓n_rd, ↓n_al, ↓n_cI, li_0, li_1, li_2, li_3, li_4, li_8, li_10, li_32, li_38, li_59, li_60, zI_add, zI_sub, zI_mul, zI_neg, ↓Option.bind_some, ↓g3_0, ↓g3_1, ↓g3_3, ↓g3_4, ↓p3_2, ↓p3_3, ↓p3_4, zIt2, uR_at, uR_ne, uR_uR, uC_uC, uC_at, ↓reduceIte, decide_eq_true_eq, leT, leF, ltT, ltF, eqT, eqF, ne_eq, not_true_eq_false, not_false_eq_true, Bool.false_eq_true, tI_zI]
end S94zzc
