/-! CLASS: leads -/
section S94zb
set_option linter.unusedVariables false
set_option linter.unusedSimpArgs false
def zrI (r : Int → Int32) (n : Nat) (v : Int) : Int → Int32 := fun i => if 0 ≤ i ∧ i < n then zI v else r i
theorem zrI_0 {r : Int → Int32} {v : Int} : zrI r 0 v = r := by funext i; exact if_neg (by omega)
theorem zrI_s {r : Int → Int32} {n : Nat} {v : Int} : zrI r (n + 1) v = uC (zrI r n v) n (zI v) := by
  funext i
  by_cases e : i = (n : Int)
  · rw [e, uC_at]; exact if_pos (by omega)
  · rw [uC_ne e]
    unfold zrI
    by_cases g : 0 ≤ i ∧ i < n
    · rw [if_pos g, if_pos (by omega)]
    · rw [if_neg g, if_neg (by omega)]
theorem ct_0 {d : Nat} {E : EnQ} {F : Nat → Int → Int32} {G : Nat → Int → Int64} {a n : Nat} {v : Int} (hs : shx E a = (2, 0, n)) (hn : n < 2147483648) (hd : 1 ≤ d) : callP MP d 0 [.ref a, .int (zI v)] (mk E F G) = some (Sum.inl (none), mk E (uR F a (zrI (F a) n v)) G) := by

  have hlen : ∀ {f : Int → ResP}, (lenT (mk E F G) a).bind f = f n := fun {f} => len_I hs hn
  have hst : ∀ {F : Nat → Int → Int32} {i : Int} {x : Int32} {f : HeapP → ResP}, 0 ≤ i ∧ i < n → (astI (mk E F G) 0 a (zI i) x).bind f = f (mk E (uR F a (uC (F a) i x)) G) := fun {F i x f} hi => asI_b hs hi hn
  refine into (D := 0) (by omega) hM_0 rfl rfl fun d hd => ?_
  show runP MP d 0 (0, [some (.ref a), some (.int (zI v)), none, none], [], _) = _
  have h0 : mk E F G = mk E (uR F a (zrI (F a) 0 v)) G := by rw [zrI_0, uR_self]
  have h1 : runP MP d 0 (0, [some (.ref a), some (.int (zI v)), none, none], [], mk E F G) = runP MP d 0 (5, [some (.ref a), some (.int (zI v)), some (.int (zI ((0 : Nat) : Int))), some (.int (zI n))], [], mk E (uR F a (zrI (F a) 0 v)) G) := by
    rw [← h0, show ((0 : Nat) : Int) = 0 from rfl]
    rw [q_0_0]; (try simp only [↓n_len, li_0, li_1, li_5, zI_add, zI_sub, zI_mul, zI_neg, ↓Option.bind_some]); simp (disch := (first | assumption | exact tI_rg _ | omega | exact uR_at | exact row_ne hF (by decide) | exact row_ne (row_ne hF (by decide)) (by decide) | exact SnS_18 | exact SnS_30 | exact LdS_44 | exact LdS_46)) only [↓hlen, ↓n_len, li_0, li_1, li_5, zI_add, zI_sub, zI_mul, zI_neg, ↓Option.bind_some, zIt2, uR_at, uR_ne, uR_uR, uC_uC, uC_at, ↓reduceIte, decide_eq_true_eq, leT, leF, ltT, ltF, eqT, eqF, ne_eq, not_true_eq_false, not_false_eq_true, Bool.false_eq_true, tI_zI]
  rw [h1]
  refine (loopN (fun j : Nat => runP MP d 0 (5, [some (.ref a), some (.int (zI v)), some (.int (zI (j : Nat))), some (.int (zI n))], [], mk E (uR F a (zrI (F a) j v)) G)) (n) (fun j hj => ?_)).trans ?_
  · show runP MP d 0 (5, [some (.ref a), some (.int (zI v)), some (.int (zI (j : Nat))), some (.int (zI n))], [], mk E (uR F a (zrI (F a) j v)) G) = runP MP d 0 (5, [some (.ref a), some (.int (zI v)), some (.int (zI ((j + 1) : Nat))), some (.int (zI n))], [], mk E (uR F a (zrI (F a) (j + 1) v)) G)
    rw [zrI_s, nsucc]
    rw [q_0_5]; (try simp only [↓n_len, li_0, li_1, li_5, zI_add, zI_sub, zI_mul, zI_neg, ↓Option.bind_some]); simp (disch := (first | assumption | exact tI_rg _ | omega | exact uR_at | exact row_ne hF (by decide) | exact row_ne (row_ne hF (by decide)) (by decide) | exact SnS_18 | exact SnS_30 | exact LdS_44 | exact LdS_46)) only [q_0_0, ↓hst, ↓n_len, li_0, li_1, li_5, zI_add, zI_sub, zI_mul, zI_neg, ↓Option.bind_some, zIt2, uR_at, uR_ne, uR_uR, uC_uC, uC_at, ↓reduceIte, decide_eq_true_eq, leT, leF, ltT, ltF, eqT, eqF, ne_eq, not_true_eq_false, not_false_eq_true, Bool.false_eq_true, tI_zI]
  · show runP MP d 0 (5, [some (.ref a), some (.int (zI v)), some (.int (zI ((n) : Nat))), some (.int (zI n))], [], mk E (uR F a (zrI (F a) (n) v)) G) = _
    rw [q_0_5]; (try simp only [↓n_len, li_0, li_1, li_5, zI_add, zI_sub, zI_mul, zI_neg, ↓Option.bind_some]); simp (disch := (first | assumption | exact tI_rg _ | omega | exact uR_at | exact row_ne hF (by decide) | exact row_ne (row_ne hF (by decide)) (by decide) | exact SnS_18 | exact SnS_30 | exact LdS_44 | exact LdS_46)) only [q_0_0, ↓n_len, li_0, li_1, li_5, zI_add, zI_sub, zI_mul, zI_neg, ↓Option.bind_some, zIt2, uR_at, uR_ne, uR_uR, uC_uC, uC_at, ↓reduceIte, decide_eq_true_eq, leT, leF, ltT, ltF, eqT, eqF, ne_eq, not_true_eq_false, not_false_eq_true, Bool.false_eq_true, tI_zI]
theorem cc_0 {d : Nat} {E : EnQ} {F : Nat → Int → Int32} {G : Nat → Int → Int64} {kk : HeapP → ResP} {kx : Nat → HeapP → ResP} {a n : Nat} {v : Int} (hs : shx E a = (2, 0, n)) (hn : n < 2147483648) (hd : 1 ≤ d) : cV (callP MP d 0 [.ref a, .int (zI v)] (mk E F G)) kk kx = kk (mk E (uR F a (zrI (F a) n v)) G) := cV_ret (by apply ct_0 <;> assumption)
/-- where ways lead from a place -/
def ldN (fr to : Nat → Int) (n : Nat) (p : Int) : Nat := orN (fun k => if fr k = p then bitN (to k) else 0) n
def ldR (r : Int → Int32) (fr to : Nat → Int) (n : Nat) : Int → Int32 := fun i => if 0 ≤ i ∧ i < 10 then zI (ldN fr to n i : Nat) else r i
theorem ldR_0 {r : Int → Int32} {fr to : Nat → Int} : zrI r 10 0 = ldR r fr to 0 := rfl
theorem ldR_s {r : Int → Int32} {fr to : Nat → Int} {n : Nat} (h : 0 ≤ fr n ∧ fr n < 10) : ldR r fr to (n + 1) = uC (ldR r fr to n) (fr n) (ldR r fr to n (fr n) ||| zI (bitN (to n) : Nat)) := by
  funext i
  by_cases e : i = fr n
  · rw [e, uC_at]
    show (if 0 ≤ fr n ∧ fr n < 10 then zI (ldN fr to (n + 1) (fr n) : Nat) else r (fr n)) = (if 0 ≤ fr n ∧ fr n < 10 then zI (ldN fr to n (fr n) : Nat) else r (fr n)) ||| _
    rw [if_pos h, if_pos h, orZ]
    refine congrArg (fun z : Nat => zI (z : Int)) ?_
    unfold ldN
    rw [orN_succ, if_pos rfl]
  · rw [uC_ne e]
    show (if 0 ≤ i ∧ i < 10 then zI (ldN fr to (n + 1) i : Nat) else r i) = (if 0 ≤ i ∧ i < 10 then zI (ldN fr to n i : Nat) else r i)
    unfold ldN
    rw [orN_succ, if_neg (Ne.symm e), or_zero']
theorem ldN_lt {fr to : Nat → Int} {n : Nat} (h : ∀ k, k < n → 0 ≤ to k ∧ to k < 10) (p : Int) : ldN fr to n p < 1024 := by
  unfold ldN
  refine orN_lt (k := 10) (fun j hj => ?_)
  have := h j hj
  split
  · exact Nat.pow_lt_pow_right (by omega) (by omega)
  · omega
/-- on from a set -/
def gonN (fr to : Nat → Int) (n : Nat) (s : Nat) : Nat := orN (fun k => if s.testBit (fr k).toNat = true then bitN (to k) else 0) n
theorem gonN_lt {fr to : Nat → Int} {n : Nat} (h : ∀ k, k < n → 0 ≤ to k ∧ to k < 10) (s : Nat) : gonN fr to n s < 1024 := by
  unfold gonN
  refine orN_lt (k := 10) (fun j hj => ?_)
  have := h j hj
  split
  · exact Nat.pow_lt_pow_right (by omega) (by omega)
  · omega
theorem gon_ld {fr to : Nat → Int} {n : Nat} (h : ∀ k, k < n → 0 ≤ fr k ∧ fr k < 10) (s : Nat) : orN (fun p : Nat => if s.testBit p = true then ldN fr to n p else 0) 10 = gonN fr to n s := by
  refine Nat.eq_of_testBit_eq (fun b => ?_)
  rw [Bool.eq_iff_iff]
  unfold gonN
  rw [orN_bit, orN_bit]
  constructor
  · rintro ⟨p, hp, hb⟩
    by_cases e : s.testBit p = true
    · rw [if_pos e] at hb
      unfold ldN at hb
      rw [orN_bit] at hb
      obtain ⟨k, hk, hb⟩ := hb
      by_cases g : fr k = (p : Int)
      · rw [if_pos g] at hb
        refine ⟨k, hk, ?_⟩
        rw [if_pos (by rw [g]; exact e)]; exact hb
      · rw [if_neg g] at hb; simp at hb
    · rw [if_neg e] at hb; simp at hb
  · rintro ⟨k, hk, hb⟩
    have hf := h k hk
    by_cases e : s.testBit (fr k).toNat = true
    · rw [if_pos e] at hb
      refine ⟨(fr k).toNat, by omega, ?_⟩
      rw [if_pos e]
      unfold ldN
      rw [orN_bit]
      refine ⟨k, hk, ?_⟩
      rw [if_pos (by omega)]; exact hb
    · rw [if_neg e] at hb; simp at hb
def itN (f : Nat → Nat) (s : Nat) : Nat → Nat
  | 0 => s
  | n + 1 => f (itN f s n)
theorem itN_lt {f : Nat → Nat} {s b : Nat} (hs : s < b) (hf : ∀ s, f s < b) : ∀ n, itN f s n < b := by
  intro n
  cases n with
  | zero => exact hs
  | succ n => exact hf _
theorem ct_17 {d : Nat} {E : EnQ} {F : Nat → Int → Int32} {G : Nat → Int → Int64} {K : Int → Int32} {a p : Nat} {x : Int} (hL : LdS E a) (hR : PlR F p K) (hI : InvK K) (hP : PlS E p) (hx : 0 ≤ x ∧ x < 2 * tI (K 2)) (hd : 2 ≤ d) : callP MP d 17 [.ref a, .ref p, .int (zI x)] (mk E F G) = some (Sum.inl (none), mk E (uR F (a + 1) (uC (F (a + 1)) (fromZ K x) (F (a + 1) (fromZ K x) ||| zI (bitN (toZ K x) : Nat)))) G) := by

  have hs := hL.1
  have hf := from_in hI hx
  have ht := to_in hI hx
  have hb := hI.1.2.1
  refine into (D := 1) (by omega) hM_17 (rcv_mk hs (by decide)) rfl fun d hd => ?_
  show runP MP d 17 (0, [some (.ref a), some (.ref p), some (.int (zI x)), none], [], _) = _
  have hrd : ∀ {f : Int → ResP}, (alT (mk E F G) 0 (a + 1) (zI (fromZ K x))).bind f = f (tI (F (a + 1) (fromZ K x))) := fun {f} => LdS_l1 hL (by omega)
  have hst : ∀ {y : Int32} {f : HeapP → ResP}, (astI (mk E F G) 0 (a + 1) (zI (fromZ K x)) y).bind f = f (mk E (uR F (a + 1) (uC (F (a + 1)) (fromZ K x) y)) G) := fun {y f} => LdS_s1 hL (by omega)
  have ez : ∀ y : Int32, zI (tI y) = y := fun y => zI_tI y
  rw [q_17_0]; (try simp only [↓n_al, ↓n_cI, li_0, li_1, li_10, li_32, zI_add, zI_sub, zI_mul, zI_neg, ↓Option.bind_some]); simp (disch := (first | assumption | exact tI_rg _ | omega | exact uR_at | exact row_ne hF (by decide) | exact row_ne (row_ne hF (by decide)) (by decide) | exact SnS_18 | exact SnS_30 | exact LdS_44 | exact LdS_46)) only [q_17_32, ↓cc_28 hR hI hP, ↓cc_29 hR hI hP, ↓hrd, ↓hst, shlB, ez, ↓n_al, ↓n_cI, li_0, li_1, li_10, li_32, zI_add, zI_sub, zI_mul, zI_neg, ↓Option.bind_some, ↓g1_0, ↓LdS_l1, ↓LdS_s1, zIt2, uR_at, uR_ne, uR_uR, uC_uC, uC_at, ↓reduceIte, decide_eq_true_eq, leT, leF, ltT, ltF, eqT, eqF, ne_eq, not_true_eq_false, not_false_eq_true, Bool.false_eq_true, tI_zI]
theorem cc_17 {d : Nat} {E : EnQ} {F : Nat → Int → Int32} {G : Nat → Int → Int64} {kk : HeapP → ResP} {kx : Nat → HeapP → ResP} {K : Int → Int32} {a p : Nat} {x : Int} (hL : LdS E a) (hR : PlR F p K) (hI : InvK K) (hP : PlS E p) (hx : 0 ≤ x ∧ x < 2 * tI (K 2)) (hd : 2 ≤ d) : cV (callP MP d 17 [.ref a, .ref p, .int (zI x)] (mk E F G)) kk kx = kk (mk E (uR F (a + 1) (uC (F (a + 1)) (fromZ K x) (F (a + 1) (fromZ K x) ||| zI (bitN (toZ K x) : Nat)))) G) := cV_ret (by apply ct_17 <;> assumption)
theorem bit_lt {x : Int} (h : 0 ≤ x ∧ x < 10) : bitN x < 1024 := by
  have h := Nat.pow_lt_pow_right (a := 2) (m := x.toNat) (n := 10) (by omega) (by omega)
  exact h
theorem PlR_ld {F : Nat → Int → Int32} {p q : Nat} {K r : Int → Int32} (hI : InvK K) (hq : q < p ∨ p + 5 < q) (hR : PlR F p K) : PlR (uR F q r) p K :=
  PlR_move hI (fun b h1 h2 => uR_ne (by omega)) (fun j _ => rfl) hR
theorem SnO_row {E : EnQ} {F : Nat → Int → Int32} {G : Nat → Int → Int64} {K r : Int → Int32} {q : Nat} (hO : SnO E F 18 K) (hD : SepP E 18) (hq : scrC q) : SnO E (uR F q r) 18 K := (SnO_keep (G := G) (G1 := G) hO hD (KeepD_F hq).c).1
theorem ct_16 {d : Nat} {E : EnQ} {F : Nat → Int → Int32} {G : Nat → Int → Int64} {K : Int → Int32} {a p : Nat} (hL : LdS E a) (hR : PlR F p K) (hI : InvK K) (hP : PlS E p) (hq : a + 1 < p ∨ p + 5 < a + 1) (hd : 3 ≤ d) : callP MP d 16 [.ref a, .ref p] (mk E F G) = some (Sum.inl none, mk E (uR F (a + 1) (ldR (F (a + 1)) (wFr K) (wTo K) (2 * tI (K 2)).toNat)) G) := by
  have hs := hL.1
  have hs2 := hP.1
  have hb1 := hI.1.2.1
  have hb2 := hI.1.2.2.1
  have e2 : tI (F p 2) = tI (K 2) := by rw [hR.1.2.2.1]
  refine into (D := 2) (by omega) hM_16 (rcv_mk hs (by decide)) rfl fun d hd => ?_
  show runP MP d 16 (0, [some (.ref a), some (.ref p), none], [], _) = _
  have h0 : runP MP d 16 (0, [some (.ref a), some (.ref p), none], [], mk E F G) = runP MP d 16 (10, [some (.ref a), some (.ref p), some (.int (zI ((0 : Nat) : Int)))], [], mk E (uR F (a + 1) (ldR (F (a + 1)) (wFr K) (wTo K) 0)) G) := by
    have h00 : ∀ {kk : HeapP → ResP} {kx : Nat → HeapP → ResP}, cV (callP MP d 0 [.ref (a + 1), .int (zI 0)] (mk E F G)) kk kx = kk (mk E (uR F (a + 1) (zrI (F (a + 1)) 10 0)) G) := fun {kk kx} => cc_0 hL.2 (by decide) (by omega)
    rw [show ((0 : Nat) : Int) = 0 from rfl, ← ldR_0]
    rw [q_16_0]; (try simp only [↓n_rd, li_0, li_1, li_2, li_10, li_16, zI_add, zI_sub, zI_mul, zI_neg, ↓Option.bind_some]); simp (disch := (first | assumption | exact tI_rg _ | omega | exact uR_at | exact row_ne hF (by decide) | exact row_ne (row_ne hF (by decide)) (by decide) | exact SnS_18 | exact SnS_30 | exact LdS_44 | exact LdS_46)) only [↓h00, ↓n_rd, li_0, li_1, li_2, li_10, li_16, zI_add, zI_sub, zI_mul, zI_neg, ↓Option.bind_some, ↓g2_2, ↓g1_0, ↓LdS_l1, ↓LdS_s1, zIt2, uR_at, uR_ne, uR_uR, uC_uC, uC_at, ↓reduceIte, decide_eq_true_eq, leT, leF, ltT, ltF, eqT, eqF, ne_eq, not_true_eq_false, not_false_eq_true, Bool.false_eq_true, tI_zI]
  rw [h0]
  refine (loopN (fun j : Nat => runP MP d 16 (10, [some (.ref a), some (.ref p), some (.int (zI (j : Nat)))], [], mk E (uR F (a + 1) (ldR (F (a + 1)) (wFr K) (wTo K) j)) G)) ((2 * tI (K 2)).toNat) (fun j hj => ?_)).trans ?_
  · show runP MP d 16 (10, [some (.ref a), some (.ref p), some (.int (zI (j : Nat)))], [], mk E (uR F (a + 1) (ldR (F (a + 1)) (wFr K) (wTo K) j)) G) = runP MP d 16 (10, [some (.ref a), some (.ref p), some (.int (zI ((j + 1) : Nat)))], [], mk E (uR F (a + 1) (ldR (F (a + 1)) (wFr K) (wTo K) (j + 1))) G)
    have hx : 0 ≤ (j : Int) ∧ (j : Int) < 2 * tI (K 2) := by omega
    have hf := from_in hI hx
    have e3 : tI (uR F (a + 1) (ldR (F (a + 1)) (wFr K) (wTo K) j) p 2) = tI (K 2) := by rw [uR_ne (by omega)]; exact e2
    have h17 : ∀ {kk : HeapP → ResP} {kx : Nat → HeapP → ResP}, cV (callP MP d 17 [.ref a, .ref p, .int (zI (j : Int))] (mk E (uR F (a + 1) (ldR (F (a + 1)) (wFr K) (wTo K) j)) G)) kk kx = kk (mk E (uR F (a + 1) (ldR (F (a + 1)) (wFr K) (wTo K) (j + 1))) G) := fun {kk kx} => by
      rw [cc_17 hL (PlR_ld hI hq hR) hI hP hx (by omega), uR_uR, uR_at, ldR_s (fr := wFr K) (to := wTo K) (n := j) (show 0 ≤ fromZ K j ∧ fromZ K j < 10 by omega)]
      rfl
    rw [nsucc]
    rw [q_16_10]; (try simp only [↓n_rd, li_0, li_1, li_2, li_10, li_16, zI_add, zI_sub, zI_mul, zI_neg, ↓Option.bind_some]); simp (disch := (first | assumption | exact tI_rg _ | omega | exact uR_at | exact row_ne hF (by decide) | exact row_ne (row_ne hF (by decide)) (by decide) | exact SnS_18 | exact SnS_30 | exact LdS_44 | exact LdS_46)) only [q_16_0, e3, ↓h17, ↓n_rd, li_0, li_1, li_2, li_10, li_16, zI_add, zI_sub, zI_mul, zI_neg, ↓Option.bind_some, ↓g2_2, ↓g1_0, ↓LdS_l1, ↓LdS_s1, zIt2, uR_at, uR_ne, uR_uR, uC_uC, uC_at, ↓reduceIte, decide_eq_true_eq, leT, leF, ltT, ltF, eqT, eqF, ne_eq, not_true_eq_false, not_false_eq_true, Bool.false_eq_true, tI_zI]
  · show runP MP d 16 (10, [some (.ref a), some (.ref p), some (.int (zI (((2 * tI (K 2)).toNat) : Nat)))], [], mk E (uR F (a + 1) (ldR (F (a + 1)) (wFr K) (wTo K) ((2 * tI (K 2)).toNat))) G) = _
    have e3 : tI (uR F (a + 1) (ldR (F (a + 1)) (wFr K) (wTo K) (2 * tI (K 2)).toNat) p 2) = tI (K 2) := by rw [uR_ne (by omega)]; exact e2
    rw [q_16_10]; (try simp only [↓n_rd, li_0, li_1, li_2, li_10, li_16, zI_add, zI_sub, zI_mul, zI_neg, ↓Option.bind_some]); simp (disch := (first | assumption | exact tI_rg _ | omega | exact uR_at | exact row_ne hF (by decide) | exact row_ne (row_ne hF (by decide)) (by decide) | exact SnS_18 | exact SnS_30 | exact LdS_44 | exact LdS_46)) only [q_16_0, e3, ↓n_rd, li_0, li_1, li_2, li_10, li_16, zI_add, zI_sub, zI_mul, zI_neg, ↓Option.bind_some, ↓g2_2, ↓g1_0, ↓LdS_l1, ↓LdS_s1, zIt2, uR_at, uR_ne, uR_uR, uC_uC, uC_at, ↓reduceIte, decide_eq_true_eq, leT, leF, ltT, ltF, eqT, eqF, ne_eq, not_true_eq_false, not_false_eq_true, Bool.false_eq_true, tI_zI]
def kFr (K : Int → Int32) (i : Int) (k : Nat) : Int := fromZ K (prW K (i + k))
def kTo (K : Int → Int32) (i : Int) (k : Nat) : Int := toZ K (prW K (i + k))
def oFr (K : Int → Int32) (k : Nat) : Int := fromZ K (woW K k)
def oTo (K : Int → Int32) (k : Nat) : Int := toZ K (woW K k)
theorem ct_20 {d : Nat} {E : EnQ} {F : Nat → Int → Int32} {G : Nat → Int → Int64} {K : Int → Int32} {i : Int} (hO : SnO E F 18 K) (hD : SepP E 18) (hi : 0 ≤ i ∧ i ≤ 1000) (hd : 3 ≤ d) : callP MP d 20 [.ref 44, .ref 18, .int (zI i)] (mk E F G) = some (Sum.inl none, mk E (uR F 45 (ldR (F 45) (kFr K i) (kTo K i) (tI (K 5) - i).toNat)) G) := by
  have hO' := hO
  obtain ⟨hS, hP, hR, hN, hI⟩ := hO
  have hs := hS.1
  have hL : LdS E 44 := LdS_44
  have hL1 := hL.1
  have hb1 := hI.1.2.1
  have hb5 := hI.1.2.2.2.2.2.1
  have hb4 := hI.1.2.2.2.2.1
  have e2 : tI (F 18 2) = tI (K 5) := bO hN
  have hq : 45 < rfQ E 18 0 ∨ rfQ E 18 0 + 5 < 45 := by have := hD.2; omega
  refine into (D := 2) (by omega) hM_20 (rcv_mk hL.1 (by decide)) rfl fun d hd => ?_
  show runP MP d 20 (0, [some (.ref 44), some (.ref 18), some (.int (zI i)), none], [], _) = _
  have h0 : runP MP d 20 (0, [some (.ref 44), some (.ref 18), some (.int (zI i)), none], [], mk E F G) = runP MP d 20 (10, [some (.ref 44), some (.ref 18), some (.int (zI i)), some (.int (zI (i + ((0 : Nat) : Int))))], [], mk E (uR F 45 (ldR (F 45) (kFr K i) (kTo K i) 0)) G) := by
    have h00 : ∀ {kk : HeapP → ResP} {kx : Nat → HeapP → ResP}, cV (callP MP d 0 [.ref 45, .int (zI 0)] (mk E F G)) kk kx = kk (mk E (uR F 45 (zrI (F 45) 10 0)) G) := fun {kk kx} => cc_0 hL.2 (by decide) (by omega)
    rw [show i + ((0 : Nat) : Int) = i by omega, ← ldR_0]
    rw [q_20_0]; (try simp only [↓n_rd, ↓n_cI, li_0, li_1, li_2, li_5, li_10, li_20, li_64, zI_add, zI_sub, zI_mul, zI_neg, ↓Option.bind_some]); simp (disch := (first | assumption | exact tI_rg _ | omega | exact uR_at | exact row_ne hF (by decide) | exact row_ne (row_ne hF (by decide)) (by decide) | exact SnS_18 | exact SnS_30 | exact LdS_44 | exact LdS_46)) only [↓h00, ↓n_rd, ↓n_cI, li_0, li_1, li_2, li_5, li_10, li_20, li_64, zI_add, zI_sub, zI_mul, zI_neg, ↓Option.bind_some, ↓g5_2, ↓g1_0, ↓LdS_l1, ↓LdS_s1, ↓g5_0, zIt2, uR_at, uR_ne, uR_uR, uC_uC, uC_at, ↓reduceIte, decide_eq_true_eq, leT, leF, ltT, ltF, eqT, eqF, ne_eq, not_true_eq_false, not_false_eq_true, Bool.false_eq_true, tI_zI]
  rw [h0]
  refine (loopN (fun j : Nat => runP MP d 20 (10, [some (.ref 44), some (.ref 18), some (.int (zI i)), some (.int (zI (i + (j : Nat))))], [], mk E (uR F 45 (ldR (F 45) (kFr K i) (kTo K i) j)) G)) ((tI (K 5) - i).toNat) (fun j hj => ?_)).trans ?_
  · show runP MP d 20 (10, [some (.ref 44), some (.ref 18), some (.int (zI i)), some (.int (zI (i + (j : Nat))))], [], mk E (uR F 45 (ldR (F 45) (kFr K i) (kTo K i) j)) G) = runP MP d 20 (10, [some (.ref 44), some (.ref 18), some (.int (zI i)), some (.int (zI (i + ((j + 1) : Nat))))], [], mk E (uR F 45 (ldR (F 45) (kFr K i) (kTo K i) (j + 1))) G)
    have hx := (pr_in hI (i := i + (j : Int)) (by omega) (by omega)).1
    have hf := from_in hI hx
    have hO2 := SnO_row (G := G) (r := ldR (F 45) (kFr K i) (kTo K i) j) hO' hD (show scrC 45 by unfold scrC; omega)
    have e3 : tI (uR F 45 (ldR (F 45) (kFr K i) (kTo K i) j) 18 2) = tI (K 5) := bO hO2.2.2.2.1
    have h17 : ∀ {kk : HeapP → ResP} {kx : Nat → HeapP → ResP}, cV (callP MP d 17 [.ref 44, .ref (rfQ E 18 0), .int (zI (prW K (i + (j : Int))))] (mk E (uR F 45 (ldR (F 45) (kFr K i) (kTo K i) j)) G)) kk kx = kk (mk E (uR F 45 (ldR (F 45) (kFr K i) (kTo K i) (j + 1))) G) := fun {kk kx} => by
      rw [cc_17 hL (PlR_ld hI hq hR) hI hP hx (by omega), uR_uR, uR_at, ldR_s (fr := kFr K i) (to := kTo K i) (n := j) (show 0 ≤ fromZ K (prW K (i + (j : Int))) ∧ fromZ K (prW K (i + (j : Int))) < 10 by omega)]
      rfl
    rw [nsucc, ← Int.add_assoc]
    rw [q_20_10]; (try simp only [↓n_rd, ↓n_cI, li_0, li_1, li_2, li_5, li_10, li_20, li_64, zI_add, zI_sub, zI_mul, zI_neg, ↓Option.bind_some]); simp (disch := (first | assumption | exact tI_rg _ | omega | exact uR_at | exact row_ne hF (by decide) | exact row_ne (row_ne hF (by decide)) (by decide) | exact SnS_18 | exact SnS_30 | exact LdS_44 | exact LdS_46)) only [q_20_0, e3, ↓cc_64 hO2, ↓h17, ↓n_rd, ↓n_cI, li_0, li_1, li_2, li_5, li_10, li_20, li_64, zI_add, zI_sub, zI_mul, zI_neg, ↓Option.bind_some, ↓g5_2, ↓g1_0, ↓LdS_l1, ↓LdS_s1, ↓g5_0, zIt2, uR_at, uR_ne, uR_uR, uC_uC, uC_at, ↓reduceIte, decide_eq_true_eq, leT, leF, ltT, ltF, eqT, eqF, ne_eq, not_true_eq_false, not_false_eq_true, Bool.false_eq_true, tI_zI]
  · show runP MP d 20 (10, [some (.ref 44), some (.ref 18), some (.int (zI i)), some (.int (zI (i + (((tI (K 5) - i).toNat) : Nat))))], [], mk E (uR F 45 (ldR (F 45) (kFr K i) (kTo K i) ((tI (K 5) - i).toNat))) G) = _
    have hO2 := SnO_row (G := G) (r := ldR (F 45) (kFr K i) (kTo K i) (tI (K 5) - i).toNat) hO' hD (show scrC 45 by unfold scrC; omega)
    have e3 : tI (uR F 45 (ldR (F 45) (kFr K i) (kTo K i) (tI (K 5) - i).toNat) 18 2) = tI (K 5) := bO hO2.2.2.2.1
    rw [q_20_10]; (try simp only [↓n_rd, ↓n_cI, li_0, li_1, li_2, li_5, li_10, li_20, li_64, zI_add, zI_sub, zI_mul, zI_neg, ↓Option.bind_some]); simp (disch := (first | assumption | exact tI_rg _ | omega | exact uR_at | exact row_ne hF (by decide) | exact row_ne (row_ne hF (by decide)) (by decide) | exact SnS_18 | exact SnS_30 | exact LdS_44 | exact LdS_46)) only [q_20_0, e3, ↓n_rd, ↓n_cI, li_0, li_1, li_2, li_5, li_10, li_20, li_64, zI_add, zI_sub, zI_mul, zI_neg, ↓Option.bind_some, ↓g5_2, ↓g1_0, ↓LdS_l1, ↓LdS_s1, ↓g5_0, zIt2, uR_at, uR_ne, uR_uR, uC_uC, uC_at, ↓reduceIte, decide_eq_true_eq, leT, leF, ltT, ltF, eqT, eqF, ne_eq, not_true_eq_false, not_false_eq_true, Bool.false_eq_true, tI_zI]
theorem ct_22 {d : Nat} {E : EnQ} {F : Nat → Int → Int32} {G : Nat → Int → Int64} {K : Int → Int32} (hO : SnO E F 18 K) (hD : SepP E 18) (hd : 3 ≤ d) : callP MP d 22 [.ref 46, .ref 18] (mk E F G) = some (Sum.inl none, mk E (uR F 47 (ldR (F 47) (oFr K) (oTo K) (tI (K 169)).toNat)) G) := by
  have hO' := hO
  obtain ⟨hS, hP, hR, hN, hI⟩ := hO
  have hs := hS.1
  have hL : LdS E 46 := LdS_46
  have hL1 := hL.1
  have hb1 := hI.1.2.1
  have hb9 := hI.1.2.2.2.2.2.2.2.2.2
  have hb8 := hI.1.2.2.2.2.2.2.2.2.1
  have hq : 47 < rfQ E 18 0 ∨ rfQ E 18 0 + 5 < 47 := by have := hD.2; omega
  refine into (D := 2) (by omega) hM_22 (rcv_mk hL.1 (by decide)) rfl fun d hd => ?_
  show runP MP d 22 (0, [some (.ref 46), some (.ref 18), none], [], _) = _
  have h0 : runP MP d 22 (0, [some (.ref 46), some (.ref 18), none], [], mk E F G) = runP MP d 22 (10, [some (.ref 46), some (.ref 18), some (.int (zI ((0 : Nat) : Int)))], [], mk E (uR F 47 (ldR (F 47) (oFr K) (oTo K) 0)) G) := by
    have h00 : ∀ {kk : HeapP → ResP} {kx : Nat → HeapP → ResP}, cV (callP MP d 0 [.ref 47, .int (zI 0)] (mk E F G)) kk kx = kk (mk E (uR F 47 (zrI (F 47) 10 0)) G) := fun {kk kx} => cc_0 hL.2 (by decide) (by omega)
    rw [show ((0 : Nat) : Int) = 0 from rfl, ← ldR_0]
    rw [q_22_0]; (try simp only [↓n_cI, li_0, li_1, li_5, li_10, zI_add, zI_sub, zI_mul, zI_neg, ↓Option.bind_some]); simp (disch := (first | assumption | exact tI_rg _ | omega | exact uR_at | exact row_ne hF (by decide) | exact row_ne (row_ne hF (by decide)) (by decide) | exact SnS_18 | exact SnS_30 | exact LdS_44 | exact LdS_46)) only [↓h00, ↓n_cI, li_0, li_1, li_5, li_10, zI_add, zI_sub, zI_mul, zI_neg, ↓Option.bind_some, ↓g1_0, ↓LdS_l1, ↓LdS_s1, ↓g5_0, zIt2, uR_at, uR_ne, uR_uR, uC_uC, uC_at, ↓reduceIte, decide_eq_true_eq, leT, leF, ltT, ltF, eqT, eqF, ne_eq, not_true_eq_false, not_false_eq_true, Bool.false_eq_true, tI_zI]
  rw [h0]
  refine (loopN (fun j : Nat => runP MP d 22 (10, [some (.ref 46), some (.ref 18), some (.int (zI (j : Nat)))], [], mk E (uR F 47 (ldR (F 47) (oFr K) (oTo K) j)) G)) ((tI (K 169)).toNat) (fun j hj => ?_)).trans ?_
  · show runP MP d 22 (10, [some (.ref 46), some (.ref 18), some (.int (zI (j : Nat)))], [], mk E (uR F 47 (ldR (F 47) (oFr K) (oTo K) j)) G) = runP MP d 22 (10, [some (.ref 46), some (.ref 18), some (.int (zI ((j + 1) : Nat)))], [], mk E (uR F 47 (ldR (F 47) (oFr K) (oTo K) (j + 1))) G)
    have hx := (wo_in hI (i := (j : Int)) (by omega) (by omega)).1
    have hf := from_in hI hx
    have hO2 := SnO_row (G := G) (r := ldR (F 47) (oFr K) (oTo K) j) hO' hD (show scrC 47 by unfold scrC; omega)
    have h17 : ∀ {kk : HeapP → ResP} {kx : Nat → HeapP → ResP}, cV (callP MP d 17 [.ref 46, .ref (rfQ E 18 0), .int (zI (woW K (j : Int)))] (mk E (uR F 47 (ldR (F 47) (oFr K) (oTo K) j)) G)) kk kx = kk (mk E (uR F 47 (ldR (F 47) (oFr K) (oTo K) (j + 1))) G) := fun {kk kx} => by
      rw [cc_17 hL (PlR_ld hI hq hR) hI hP hx (by omega), uR_uR, uR_at, ldR_s (fr := oFr K) (to := oTo K) (n := j) (show 0 ≤ fromZ K (woW K (j : Int)) ∧ fromZ K (woW K (j : Int)) < 10 by omega)]
      rfl
    rw [nsucc]
    rw [q_22_10]; (try simp only [↓n_cI, li_0, li_1, li_5, li_10, zI_add, zI_sub, zI_mul, zI_neg, ↓Option.bind_some]); simp (disch := (first | assumption | exact tI_rg _ | omega | exact uR_at | exact row_ne hF (by decide) | exact row_ne (row_ne hF (by decide)) (by decide) | exact SnS_18 | exact SnS_30 | exact LdS_44 | exact LdS_46)) only [q_22_0, ↓cc_66 hO2, ↓cc_78 hO2, ↓h17, ↓n_cI, li_0, li_1, li_5, li_10, zI_add, zI_sub, zI_mul, zI_neg, ↓Option.bind_some, ↓g1_0, ↓LdS_l1, ↓LdS_s1, ↓g5_0, zIt2, uR_at, uR_ne, uR_uR, uC_uC, uC_at, ↓reduceIte, decide_eq_true_eq, leT, leF, ltT, ltF, eqT, eqF, ne_eq, not_true_eq_false, not_false_eq_true, Bool.false_eq_true, tI_zI]
  · show runP MP d 22 (10, [some (.ref 46), some (.ref 18), some (.int (zI (((tI (K 169)).toNat) : Nat)))], [], mk E (uR F 47 (ldR (F 47) (oFr K) (oTo K) ((tI (K 169)).toNat))) G) = _
    have hO2 := SnO_row (G := G) (r := ldR (F 47) (oFr K) (oTo K) (tI (K 169)).toNat) hO' hD (show scrC 47 by unfold scrC; omega)
    rw [q_22_10]; (try simp only [↓n_cI, li_0, li_1, li_5, li_10, zI_add, zI_sub, zI_mul, zI_neg, ↓Option.bind_some]); simp (disch := (first | assumption | exact tI_rg _ | omega | exact uR_at | exact row_ne hF (by decide) | exact row_ne (row_ne hF (by decide)) (by decide) | exact SnS_18 | exact SnS_30 | exact LdS_44 | exact LdS_46)) only [q_22_0, ↓cc_66 hO2, ↓n_cI, li_0, li_1, li_5, li_10, zI_add, zI_sub, zI_mul, zI_neg, ↓Option.bind_some, ↓g1_0, ↓LdS_l1, ↓LdS_s1, ↓g5_0, zIt2, uR_at, uR_ne, uR_uR, uC_uC, uC_at, ↓reduceIte, decide_eq_true_eq, leT, leF, ltT, ltF, eqT, eqF, ne_eq, not_true_eq_false, not_false_eq_true, Bool.false_eq_true, tI_zI]
theorem ct_19 {d : Nat} {E : EnQ} {F : Nat → Int → Int32} {G : Nat → Int → Int64} {a : Nat} {r0 : Int → Int32} {fr to : Nat → Int} {n : Nat} (hL : LdS E a) (hr : F (a + 1) = ldR r0 fr to n) (hn : ∀ k, k < n → (0 ≤ fr k ∧ fr k < 10) ∧ 0 ≤ to k ∧ to k < 10) {s : Nat} (hs : s < 1024) (hd : 1 ≤ d) : callP MP d 19 [.ref a, .int (zI (s : Int))] (mk E F G) = some (Sum.inl (some (.int (zI (((gonN fr to n s : Nat) : Int))))), mk E F G) := by

  have hs0 := hL.1
  refine into (D := 0) (by omega) hM_19 (rcv_mk hs0 (by decide)) rfl fun d hd => ?_
  show runP MP d 19 (0, [some (.ref a), some (.int (zI (s : Int))), none, none], [], _) = _
  rw [q_19_0, ← gon_ld (fun k hk => (hn k hk).1)]
  refine (loopN (fun j : Nat => runP MP d 19 (4, [some (.ref a), some (.int (zI (s : Int))), some (.int (zI ((orN (fun p : Nat => if s.testBit p = true then ldN fr to n p else 0) j : Nat) : Int))), some (.int (zI (j : Nat)))], [], mk E F G)) (10) (fun j hj => ?_)).trans ?_
  · show runP MP d 19 (4, [some (.ref a), some (.int (zI (s : Int))), some (.int (zI ((orN (fun p : Nat => if s.testBit p = true then ldN fr to n p else 0) j : Nat) : Int))), some (.int (zI (j : Nat)))], [], mk E F G) = runP MP d 19 (4, [some (.ref a), some (.int (zI (s : Int))), some (.int (zI ((orN (fun p : Nat => if s.testBit p = true then ldN fr to n p else 0) (j + 1) : Nat) : Int))), some (.int (zI ((j + 1) : Nat)))], [], mk E F G)
    have hrd : ∀ {f : Int → ResP}, (alT (mk E F G) 0 (a + 1) (zI (j : Int))).bind f = f (tI (zI (ldN fr to n j : Nat))) := fun {f} => by
      rw [LdS_l1 hL (by omega), hr]
      unfold ldR
      rw [if_pos (by omega)]
    have hb : o_iushr (zI (s : Int)) (zI (j : Int)) &&& zI 1 = zI (if s.testBit j = true then 1 else 0) := by
      have := ushr_bit (s := s) (p := (j : Int)) (by omega)
      exact this
    rw [orN_succ, nsucc]
    by_cases h : s.testBit j = true
    · rw [if_pos h]
      rw [if_pos h] at hb
      rw [q_19_4]; (try simp only [↓n_al, li_0, li_1, li_4, li_10, zI_add, zI_sub, zI_mul, zI_neg, ↓Option.bind_some]); simp (disch := (first | assumption | exact tI_rg _ | omega | exact uR_at | exact row_ne hF (by decide) | exact row_ne (row_ne hF (by decide)) (by decide) | exact SnS_18 | exact SnS_30 | exact LdS_44 | exact LdS_46)) only [q_19_0, q_19_27, hb, ↓hrd, orZ, ↓n_al, li_0, li_1, li_4, li_10, zI_add, zI_sub, zI_mul, zI_neg, ↓Option.bind_some, ↓g1_0, ↓LdS_l1, ↓LdS_s1, zIt2, uR_at, uR_ne, uR_uR, uC_uC, uC_at, ↓reduceIte, decide_eq_true_eq, leT, leF, ltT, ltF, eqT, eqF, ne_eq, not_true_eq_false, not_false_eq_true, Bool.false_eq_true, tI_zI]
    · rw [if_neg h, or_zero']
      rw [if_neg h] at hb
      rw [q_19_4]; (try simp only [↓n_al, li_0, li_1, li_4, li_10, zI_add, zI_sub, zI_mul, zI_neg, ↓Option.bind_some]); simp (disch := (first | assumption | exact tI_rg _ | omega | exact uR_at | exact row_ne hF (by decide) | exact row_ne (row_ne hF (by decide)) (by decide) | exact SnS_18 | exact SnS_30 | exact LdS_44 | exact LdS_46)) only [q_19_0, q_19_27, hb, ↓n_al, li_0, li_1, li_4, li_10, zI_add, zI_sub, zI_mul, zI_neg, ↓Option.bind_some, ↓g1_0, ↓LdS_l1, ↓LdS_s1, zIt2, uR_at, uR_ne, uR_uR, uC_uC, uC_at, ↓reduceIte, decide_eq_true_eq, leT, leF, ltT, ltF, eqT, eqF, ne_eq, not_true_eq_false, not_false_eq_true, Bool.false_eq_true, tI_zI]
  · show runP MP d 19 (4, [some (.ref a), some (.int (zI (s : Int))), some (.int (zI ((orN (fun p : Nat => if s.testBit p = true then ldN fr to n p else 0) (10) : Nat) : Int))), some (.int (zI ((10) : Nat)))], [], mk E F G) = _
    rw [q_19_4]; (try simp only [↓n_al, li_0, li_1, li_4, li_10, zI_add, zI_sub, zI_mul, zI_neg, ↓Option.bind_some]); simp (disch := (first | assumption | exact tI_rg _ | omega | exact uR_at | exact row_ne hF (by decide) | exact row_ne (row_ne hF (by decide)) (by decide) | exact SnS_18 | exact SnS_30 | exact LdS_44 | exact LdS_46)) only [q_19_0, q_19_27, ↓n_al, li_0, li_1, li_4, li_10, zI_add, zI_sub, zI_mul, zI_neg, ↓Option.bind_some, ↓g1_0, ↓LdS_l1, ↓LdS_s1, zIt2, uR_at, uR_ne, uR_uR, uC_uC, uC_at, ↓reduceIte, decide_eq_true_eq, leT, leF, ltT, ltF, eqT, eqF, ne_eq, not_true_eq_false, not_false_eq_true, Bool.false_eq_true, tI_zI]
theorem cc_19 {d : Nat} {E : EnQ} {F : Nat → Int → Int32} {G : Nat → Int → Int64} {kk : Int → HeapP → ResP} {kx : Nat → HeapP → ResP} {a : Nat} {r0 : Int → Int32} {fr to : Nat → Int} {n : Nat} (hL : LdS E a) (hr : F (a + 1) = ldR r0 fr to n) (hn : ∀ k, k < n → (0 ≤ fr k ∧ fr k < 10) ∧ 0 ≤ to k ∧ to k < 10) {s : Nat} (hs : s < 1024) (hd : 1 ≤ d) : cT (callP MP d 19 [.ref a, .int (zI (s : Int))] (mk E F G)) kk kx = kk (((gonN fr to n s : Nat) : Int)) (mk E F G) := cT_ret (by apply ct_19 <;> assumption) (by have := gonN_lt (fr := fr) (fun k hk => (hn k hk).2) s; omega)
theorem ct_21 {d : Nat} {E : EnQ} {F : Nat → Int → Int32} {G : Nat → Int → Int64} {a : Nat} {r0 : Int → Int32} {fr to : Nat → Int} {n : Nat} (hL : LdS E a) (hr : F (a + 1) = ldR r0 fr to n) (hn : ∀ k, k < n → (0 ≤ fr k ∧ fr k < 10) ∧ 0 ≤ to k ∧ to k < 10) {s : Nat} (hs : s < 1024) {m : Nat} (hm : m ≤ 60) (hd : 2 ≤ d) : callP MP d 21 [.ref a, .int (zI (s : Int)), .int (zI (m : Int))] (mk E F G) = some (Sum.inl (some (.int (zI (((itN (gonN fr to n) s m : Nat) : Int))))), mk E F G) := by

  have hs0 := hL.1
  refine into (D := 1) (by omega) hM_21 (rcv_mk hs0 (by decide)) rfl fun d hd => ?_
  show runP MP d 21 (0, [some (.ref a), some (.int (zI (s : Int))), some (.int (zI (m : Int))), none, none], [], _) = _
  rw [q_21_0]
  refine (loopN (fun j : Nat => runP MP d 21 (5, [some (.ref a), some (.int (zI (s : Int))), some (.int (zI (m : Int))), some (.int (zI ((itN (gonN fr to n) s j : Nat) : Int))), some (.int (zI (j : Nat)))], [], mk E F G)) (m) (fun j hj => ?_)).trans ?_
  · show runP MP d 21 (5, [some (.ref a), some (.int (zI (s : Int))), some (.int (zI (m : Int))), some (.int (zI ((itN (gonN fr to n) s j : Nat) : Int))), some (.int (zI (j : Nat)))], [], mk E F G) = runP MP d 21 (5, [some (.ref a), some (.int (zI (s : Int))), some (.int (zI (m : Int))), some (.int (zI ((itN (gonN fr to n) s (j + 1) : Nat) : Int))), some (.int (zI ((j + 1) : Nat)))], [], mk E F G)
    have hlt := itN_lt hs (gonN_lt (fr := fr) (fun k hk => (hn k hk).2)) j
    rw [nsucc]
    rw [q_21_5]; (try simp only [↓n_cI, li_0, li_1, li_5, zI_add, zI_sub, zI_mul, zI_neg, ↓Option.bind_some]); simp (disch := (first | assumption | exact tI_rg _ | omega | exact uR_at | exact row_ne hF (by decide) | exact row_ne (row_ne hF (by decide)) (by decide) | exact SnS_18 | exact SnS_30 | exact LdS_44 | exact LdS_46)) only [q_21_0, ↓cc_19 hL hr hn, ↓n_cI, li_0, li_1, li_5, zI_add, zI_sub, zI_mul, zI_neg, ↓Option.bind_some, zIt2, uR_at, uR_ne, uR_uR, uC_uC, uC_at, ↓reduceIte, decide_eq_true_eq, leT, leF, ltT, ltF, eqT, eqF, ne_eq, not_true_eq_false, not_false_eq_true, Bool.false_eq_true, tI_zI]
    rfl
  · show runP MP d 21 (5, [some (.ref a), some (.int (zI (s : Int))), some (.int (zI (m : Int))), some (.int (zI ((itN (gonN fr to n) s (m) : Nat) : Int))), some (.int (zI ((m) : Nat)))], [], mk E F G) = _
    rw [q_21_5]; (try simp only [↓n_cI, li_0, li_1, li_5, zI_add, zI_sub, zI_mul, zI_neg, ↓Option.bind_some]); simp (disch := (first | assumption | exact tI_rg _ | omega | exact uR_at | exact row_ne hF (by decide) | exact row_ne (row_ne hF (by decide)) (by decide) | exact SnS_18 | exact SnS_30 | exact LdS_44 | exact LdS_46)) only [q_21_0, ↓n_cI, li_0, li_1, li_5, zI_add, zI_sub, zI_mul, zI_neg, ↓Option.bind_some, zIt2, uR_at, uR_ne, uR_uR, uC_uC, uC_at, ↓reduceIte, decide_eq_true_eq, leT, leF, ltT, ltF, eqT, eqF, ne_eq, not_true_eq_false, not_false_eq_true, Bool.false_eq_true, tI_zI]
theorem cc_21 {d : Nat} {E : EnQ} {F : Nat → Int → Int32} {G : Nat → Int → Int64} {kk : Int → HeapP → ResP} {kx : Nat → HeapP → ResP} {a : Nat} {r0 : Int → Int32} {fr to : Nat → Int} {n : Nat} (hL : LdS E a) (hr : F (a + 1) = ldR r0 fr to n) (hn : ∀ k, k < n → (0 ≤ fr k ∧ fr k < 10) ∧ 0 ≤ to k ∧ to k < 10) {s : Nat} (hs : s < 1024) {m : Nat} (hm : m ≤ 60) (hd : 2 ≤ d) : cT (callP MP d 21 [.ref a, .int (zI (s : Int)), .int (zI (m : Int))] (mk E F G)) kk kx = kk (((itN (gonN fr to n) s m : Nat) : Int)) (mk E F G) := cT_ret (by apply ct_21 <;> assumption) (by have := itN_lt hs (gonN_lt (fr := fr) (fun k hk => (hn k hk).2)) m; omega)
theorem ct_18 {d : Nat} {E : EnQ} {F : Nat → Int → Int32} {G : Nat → Int → Int64} {a : Nat} {r0 : Int → Int32} {fr to : Nat → Int} {n : Nat} (hL : LdS E a) (hr : F (a + 1) = ldR r0 fr to n) (hn : ∀ k, k < n → (0 ≤ fr k ∧ fr k < 10) ∧ 0 ≤ to k ∧ to k < 10) {x y : Int} (hx : 0 ≤ x ∧ x < 10) (hy : 0 ≤ y ∧ y < 10) (hd : 2 ≤ d) : callP MP d 18 [.ref a, .int (zI x), .int (zI y)] (mk E F G) = some (Sum.inl (some (.int (zI (fndN (fun k => (itN (gonN fr to n) (bitN x) k).testBit y.toNat) 10 0)))), mk E F G) := by

  have hs0 := hL.1
  have hbx := bit_lt hx
  refine into (D := 1) (by omega) hM_18 (rcv_mk hs0 (by decide)) rfl fun d hd => ?_
  show runP MP d 18 (0, [some (.ref a), some (.int (zI x)), some (.int (zI y)), none, none], [], _) = _
  rw [show runP MP d 18 (0, [some (.ref a), some (.int (zI x)), some (.int (zI y)), none, none], [], mk E F G) = runP MP d 18 (7, [some (.ref a), some (.int (zI x)), some (.int (zI y)), some (.int (zI ((itN (gonN fr to n) (bitN x) 0 : Nat) : Int))), some (.int (zI ((0 : Nat) : Int)))], [], mk E F G) by
    rw [q_18_0, li_0, li_1, shlB (by omega)]; rfl]
  refine loopS (σ := Unit) (Post := fun r => r = some (Sum.inl (some (.int (zI (fndN (fun k => (itN (gonN fr to n) (bitN x) k).testBit y.toNat) 10 0)))), mk E F G))
    (fun j _ => runP MP d 18 (7, [some (.ref a), some (.int (zI x)), some (.int (zI y)), some (.int (zI ((itN (gonN fr to n) (bitN x) j : Nat) : Int))), some (.int (zI (j : Int)))], [], mk E F G))
    (fun j _ => ∀ i, i < j → (itN (gonN fr to n) (bitN x) i).testBit y.toNat = false) 10 () (fun i hi => by omega) (fun s hI2 => ?_) (fun j s hj hI2 => ?_)
  · show runP MP d 18 _ = _
    have e : fndN (fun k => (itN (gonN fr to n) (bitN x) k).testBit y.toNat) 10 0 = -1 := fndN_none (fun i _ hi => hI2 i (by omega))
    rw [e]; rw [q_18_7]; (try simp only [↓n_cI, li_0, li_1, li_7, li_10, zI_add, zI_sub, zI_mul, zI_neg, ↓Option.bind_some]); simp (disch := (first | assumption | exact tI_rg _ | omega | exact uR_at | exact row_ne hF (by decide) | exact row_ne (row_ne hF (by decide)) (by decide) | exact SnS_18 | exact SnS_30 | exact LdS_44 | exact LdS_46)) only [q_18_0, ↓n_cI, li_0, li_1, li_7, li_10, zI_add, zI_sub, zI_mul, zI_neg, ↓Option.bind_some, zIt2, uR_at, uR_ne, uR_uR, uC_uC, uC_at, ↓reduceIte, decide_eq_true_eq, leT, leF, ltT, ltF, eqT, eqF, ne_eq, not_true_eq_false, not_false_eq_true, Bool.false_eq_true, tI_zI]
  · have hlt := itN_lt hbx (gonN_lt (fr := fr) (fun k hk => (hn k hk).2)) j
    have hb := ushr_bit (s := itN (gonN fr to n) (bitN x) j) (p := y) (by omega)
    by_cases h : (itN (gonN fr to n) (bitN x) j).testBit y.toNat = true
    · left
      rw [if_pos h] at hb
      show runP MP d 18 _ = _
      have e : fndN (fun k => (itN (gonN fr to n) (bitN x) k).testBit y.toNat) 10 0 = (j : Int) := fndN_eq (by omega) (by omega) h (fun i _ hi => hI2 i hi)
      rw [e]
      rw [q_18_7]; (try simp only [↓n_cI, li_0, li_1, li_7, li_10, zI_add, zI_sub, zI_mul, zI_neg, ↓Option.bind_some]); simp (disch := (first | assumption | exact tI_rg _ | omega | exact uR_at | exact row_ne hF (by decide) | exact row_ne (row_ne hF (by decide)) (by decide) | exact SnS_18 | exact SnS_30 | exact LdS_44 | exact LdS_46)) only [q_18_0, hb, ↓n_cI, li_0, li_1, li_7, li_10, zI_add, zI_sub, zI_mul, zI_neg, ↓Option.bind_some, zIt2, uR_at, uR_ne, uR_uR, uC_uC, uC_at, ↓reduceIte, decide_eq_true_eq, leT, leF, ltT, ltF, eqT, eqF, ne_eq, not_true_eq_false, not_false_eq_true, Bool.false_eq_true, tI_zI]
    · right
      rw [if_neg h] at hb
      refine ⟨(), fun i hi => ?_, ?_⟩
      · by_cases e : i = j
        · rw [e]; exact Bool.eq_false_iff.mpr h
        · exact hI2 i (by omega)
      · show runP MP d 18 _ = runP MP d 18 _
        rw [nsucc]
        rw [q_18_7]; (try simp only [↓n_cI, li_0, li_1, li_7, li_10, zI_add, zI_sub, zI_mul, zI_neg, ↓Option.bind_some]); simp (disch := (first | assumption | exact tI_rg _ | omega | exact uR_at | exact row_ne hF (by decide) | exact row_ne (row_ne hF (by decide)) (by decide) | exact SnS_18 | exact SnS_30 | exact LdS_44 | exact LdS_46)) only [q_18_0, hb, ↓cc_19 hL hr hn, ↓n_cI, li_0, li_1, li_7, li_10, zI_add, zI_sub, zI_mul, zI_neg, ↓Option.bind_some, zIt2, uR_at, uR_ne, uR_uR, uC_uC, uC_at, ↓reduceIte, decide_eq_true_eq, leT, leF, ltT, ltF, eqT, eqF, ne_eq, not_true_eq_false, not_false_eq_true, Bool.false_eq_true, tI_zI]
        rfl
theorem cc_18 {d : Nat} {E : EnQ} {F : Nat → Int → Int32} {G : Nat → Int → Int64} {kk : Int → HeapP → ResP} {kx : Nat → HeapP → ResP} {a : Nat} {r0 : Int → Int32} {fr to : Nat → Int} {n : Nat} (hL : LdS E a) (hr : F (a + 1) = ldR r0 fr to n) (hn : ∀ k, k < n → (0 ≤ fr k ∧ fr k < 10) ∧ 0 ≤ to k ∧ to k < 10) {x y : Int} (hx : 0 ≤ x ∧ x < 10) (hy : 0 ≤ y ∧ y < 10) (hd : 2 ≤ d) : cT (callP MP d 18 [.ref a, .int (zI x), .int (zI y)] (mk E F G)) kk kx = kk (fndN (fun k => (itN (gonN fr to n) (bitN x) k).testBit y.toNat) 10 0) (mk E F G) := cT_ret (by apply ct_18 <;> assumption) (by have := fndN_rg (fun k => (itN (gonN fr to n) (bitN x) k).testBit y.toNat) 10 0; omega)
end S94zb
