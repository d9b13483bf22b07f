/-! MODEL, what changes the row: loses, remembers, goes -/
section S93m
set_option linter.unusedVariables false
set_option linter.unusedSimpArgs false
theorem ct_u210 {d : Nat} {E : EnQ} {F : Nat → Int → Int32} {G : Nat → Int → Int64}  (hd : 1 ≤ d) : callP MP d 210 [.ref 217] (mk E F G) = some (Sum.inl (some (.int (zI (tI (F 218 5))))), mk E F G) := by

  refine into (D := 0) (by omega) hM_210 (rcv_mk rfl (by decide)) rfl fun d hd => ?_
  show runP MP d 210 (0, [some (.ref 217)], [], _) = _
  rw [q_210_0]; (try simp only [↓n_al, li_0, li_5, li_12, li_210, zI_add, zI_sub, zI_mul, zI_neg, ↓Option.bind_some]); simp (disch := (first | assumption | exact tI_rg _ | omega | exact uR_at | exact row_ne hF (by decide) | exact row_ne (row_ne hF (by decide)) (by decide) | exact SnS_18 | exact SnS_30 | exact LdS_44 | exact LdS_46)) only [↓n_al, li_0, li_5, li_12, li_210, zI_add, zI_sub, zI_mul, zI_neg, ↓Option.bind_some, ↓g12_0, ↓al_218, ↓as_218, zIt2, uR_at, uR_ne, uR_uR, uC_uC, uC_at, ↓reduceIte, decide_eq_true_eq, leT, leF, ltT, ltF, eqT, eqF, ne_eq, not_true_eq_false, not_false_eq_true, Bool.false_eq_true, tI_zI]
theorem cc_u210 {d : Nat} {E : EnQ} {F : Nat → Int → Int32} {G : Nat → Int → Int64} {kk : Int → HeapP → ResP} {kx : Nat → HeapP → ResP}  (hd : 1 ≤ d) : cT (callP MP d 210 [.ref 217] (mk E F G)) kk kx = kk (tI (F 218 5)) (mk E F G) := cT_ret (by apply ct_u210 <;> assumption) (tI_rg _)
theorem ct_u220 {d : Nat} {E : EnQ} {F : Nat → Int → Int32} {G : Nat → Int → Int64}  (hd : 1 ≤ d) : callP MP d 220 [.ref 217] (mk E F G) = some (Sum.inl (some (.int (zI (tI (F 218 3))))), mk E F G) := by

  refine into (D := 0) (by omega) hM_220 (rcv_mk rfl (by decide)) rfl fun d hd => ?_
  show runP MP d 220 (0, [some (.ref 217)], [], _) = _
  rw [q_220_0]; (try simp only [↓n_al, li_0, li_3, li_12, zI_add, zI_sub, zI_mul, zI_neg, ↓Option.bind_some]); simp (disch := (first | assumption | exact tI_rg _ | omega | exact uR_at | exact row_ne hF (by decide) | exact row_ne (row_ne hF (by decide)) (by decide) | exact SnS_18 | exact SnS_30 | exact LdS_44 | exact LdS_46)) only [↓n_al, li_0, li_3, li_12, zI_add, zI_sub, zI_mul, zI_neg, ↓Option.bind_some, ↓g12_0, ↓al_218, ↓as_218, zIt2, uR_at, uR_ne, uR_uR, uC_uC, uC_at, ↓reduceIte, decide_eq_true_eq, leT, leF, ltT, ltF, eqT, eqF, ne_eq, not_true_eq_false, not_false_eq_true, Bool.false_eq_true, tI_zI]
theorem cc_u220 {d : Nat} {E : EnQ} {F : Nat → Int → Int32} {G : Nat → Int → Int64} {kk : Int → HeapP → ResP} {kx : Nat → HeapP → ResP}  (hd : 1 ≤ d) : cT (callP MP d 220 [.ref 217] (mk E F G)) kk kx = kk (tI (F 218 3)) (mk E F G) := cT_ret (by apply ct_u220 <;> assumption) (tI_rg _)
theorem ct_u211 {d : Nat} {E : EnQ} {F : Nat → Int → Int32} {G : Nat → Int → Int64} {i : Int} (hi : 0 ≤ i ∧ i ≤ 59) (hd : 1 ≤ d) : callP MP d 211 [.ref 217, .int (zI i)] (mk E F G) = some (Sum.inl (some (.int (zI (prW (F 218) i)))), mk E F G) := by

  refine into (D := 0) (by omega) hM_211 (rcv_mk rfl (by decide)) rfl fun d hd => ?_
  show runP MP d 211 (0, [some (.ref 217), some (.int (zI i))], [], _) = _
  rw [q_211_0]; (try simp only [↓n_al, li_0, li_2, li_12, li_46, zI_add, zI_sub, zI_mul, zI_neg, ↓Option.bind_some]); simp (disch := (first | assumption | exact tI_rg _ | omega | exact uR_at | exact row_ne hF (by decide) | exact row_ne (row_ne hF (by decide)) (by decide) | exact SnS_18 | exact SnS_30 | exact LdS_44 | exact LdS_46)) only [↓n_al, li_0, li_2, li_12, li_46, zI_add, zI_sub, zI_mul, zI_neg, ↓Option.bind_some, ↓g12_0, ↓al_218, ↓as_218, zIt2, uR_at, uR_ne, uR_uR, uC_uC, uC_at, ↓reduceIte, decide_eq_true_eq, leT, leF, ltT, ltF, eqT, eqF, ne_eq, not_true_eq_false, not_false_eq_true, Bool.false_eq_true, tI_zI]
  rfl
theorem cc_u211 {d : Nat} {E : EnQ} {F : Nat → Int → Int32} {G : Nat → Int → Int64} {kk : Int → HeapP → ResP} {kx : Nat → HeapP → ResP} {i : Int} (hi : 0 ≤ i ∧ i ≤ 59) (hd : 1 ≤ d) : cT (callP MP d 211 [.ref 217, .int (zI i)] (mk E F G)) kk kx = kk (prW (F 218) i) (mk E F G) := cT_ret (by apply ct_u211 <;> assumption) (tI_rg _)
theorem ct_u221 {d : Nat} {E : EnQ} {F : Nat → Int → Int32} {G : Nat → Int → Int64} {i : Int} (hi : 0 ≤ i ∧ i ≤ 59) (hd : 1 ≤ d) : callP MP d 221 [.ref 217, .int (zI i)] (mk E F G) = some (Sum.inl (some (.int (zI (prO (F 218) i)))), mk E F G) := by

  refine into (D := 0) (by omega) hM_221 (rcv_mk rfl (by decide)) rfl fun d hd => ?_
  show runP MP d 221 (0, [some (.ref 217), some (.int (zI i))], [], _) = _
  rw [q_221_0]; (try simp only [↓n_al, li_0, li_1, li_2, li_12, li_46, zI_add, zI_sub, zI_mul, zI_neg, ↓Option.bind_some]); simp (disch := (first | assumption | exact tI_rg _ | omega | exact uR_at | exact row_ne hF (by decide) | exact row_ne (row_ne hF (by decide)) (by decide) | exact SnS_18 | exact SnS_30 | exact LdS_44 | exact LdS_46)) only [↓n_al, li_0, li_1, li_2, li_12, li_46, zI_add, zI_sub, zI_mul, zI_neg, ↓Option.bind_some, ↓g12_0, ↓al_218, ↓as_218, zIt2, uR_at, uR_ne, uR_uR, uC_uC, uC_at, ↓reduceIte, decide_eq_true_eq, leT, leF, ltT, ltF, eqT, eqF, ne_eq, not_true_eq_false, not_false_eq_true, Bool.false_eq_true, tI_zI]
  unfold prO; rw [show 46 + 2 * i + 1 = 47 + 2 * i by omega]
theorem cc_u221 {d : Nat} {E : EnQ} {F : Nat → Int → Int32} {G : Nat → Int → Int64} {kk : Int → HeapP → ResP} {kx : Nat → HeapP → ResP} {i : Int} (hi : 0 ≤ i ∧ i ≤ 59) (hd : 1 ≤ d) : cT (callP MP d 221 [.ref 217, .int (zI i)] (mk E F G)) kk kx = kk (prO (F 218) i) (mk E F G) := cT_ret (by apply ct_u221 <;> assumption) (tI_rg _)
theorem rd_prW {K : Int → Int32} {i : Int} : zI (prW K i) = K (46 + 2 * i) := zI_tI _
theorem rd_prO {K : Int → Int32} {i : Int} : zI (prO K i) = K (47 + 2 * i) := zI_tI _
def lo1 (K : Int → Int32) (n : Int) (t : Nat) : Int → Int32 := fun j => if 46 ≤ j ∧ j < 46 + 2 * t then K (j + 2 * n) else K j
theorem lo1_0 {K : Int → Int32} {n : Int} : lo1 K n 0 = K := funext fun j => if_neg (by omega)
theorem lo1_hi {K : Int → Int32} {n i : Int} {t : Nat} (h : 46 + 2 * (t : Int) ≤ i ∨ i < 46) : lo1 K n t i = K i := if_neg (by omega)
theorem lo1_step {K : Int → Int32} {n i1 i2 j1 j2 : Int} {t : Nat} (h1 : i1 = 46 + 2 * (t : Int) ∧ i2 = 47 + 2 * (t : Int) ∧ j1 = 46 + 2 * (n + t) ∧ j2 = 47 + 2 * (n + t)) : uC (uC (lo1 K n t) i1 (K j1)) i2 (K j2) = lo1 K n (t + 1) := by
  obtain ⟨rfl, rfl, rfl, rfl⟩ := h1
  funext j
  unfold uC lo1
  by_cases e1 : j = 47 + 2 * (t : Int)
  · rw [if_pos e1, if_pos (by omega)]; exact congrArg K (by omega)
  · rw [if_neg e1]
    by_cases e2 : j = 46 + 2 * (t : Int)
    · rw [if_pos e2, if_pos (by omega)]; exact congrArg K (by omega)
    · rw [if_neg e2]
      by_cases e3 : 46 ≤ j ∧ j < 46 + 2 * (t : Int)
      · rw [if_pos e3, if_pos (by omega)]
      · rw [if_neg e3, if_neg (by omega)]
def lo2 (K : Int → Int32) (a : Int) (s : Nat) : Int → Int32 := fun j => if a ≤ j ∧ j < a + s then 0 else K j
theorem lo2_0 {K : Int → Int32} {a : Int} : lo2 K a 0 = K := funext fun j => if_neg (by omega)
theorem lo2_step {K : Int → Int32} {a i : Int} {s : Nat} (h : i = a + s) : uC (lo2 K a s) i (zI 0) = lo2 K a (s + 1) := by
  subst h
  funext j
  unfold uC lo2
  by_cases e1 : j = a + s
  · rw [if_pos e1, if_pos (by omega)]; rfl
  · rw [if_neg e1]
    by_cases e3 : a ≤ j ∧ j < a + s
    · rw [if_pos e3, if_pos (by omega)]
    · rw [if_neg e3, if_neg (by omega)]
theorem lo_end {K : Int → Int32} {n : Int} {t s : Nat} (ht : (t : Int) = tI (K 5) - n) (hs : (s : Int) = 166 - (46 + 2 * (tI (K 5) - n))) : lo2 (uC (lo1 K n t) 5 (zI (tI (K 5) - n))) (46 + 2 * (tI (K 5) - n)) s = losK K n := by
  funext j
  unfold lo2 uC lo1 losK
  by_cases e5 : j = 5
  · rw [if_pos e5, if_neg (by omega), if_pos e5]
  · rw [if_neg e5, if_neg e5]
    by_cases e1 : 46 ≤ j ∧ j < 166
    · rw [if_pos e1]
      by_cases e2 : j < 46 + 2 * (tI (K 5) - n)
      · rw [if_pos e2, if_neg (by omega), if_pos (by omega)]
      · rw [if_neg e2, if_pos (by omega)]
    · rw [if_neg e1, if_neg (by omega), if_neg (by omega)]
theorem ct_225 {d : Nat} {E : EnQ} {F : Nat → Int → Int32} {G : Nat → Int → Int64} {n : Int} (hn : 0 ≤ n ∧ n ≤ tI (F 218 5) ∧ tI (F 218 5) ≤ 60) (hd : 2 ≤ d) : callP MP d 225 [.ref 217, .int (zI n)] (mk E F G) = some (Sum.inl (none), mk E (uR F 218 (losK (F 218) n)) G) := by

  refine into (D := 1) (by omega) hM_225 (rcv_mk rfl (by decide)) rfl fun d hd => ?_
  show runP MP d 225 (0, [some (.ref 217), some (.int (zI n)), none], [], _) = _
  obtain ⟨K, hK⟩ : ∃ K, K = F 218 := ⟨_, rfl⟩
  rw [← hK] at hn ⊢
  have h0 : mk E F G = mk E (uR F 218 (lo1 K n 0)) G := by rw [lo1_0, hK, uR_self]
  rw [q_225_0, h0, show zI n = zI (n + ((0 : Nat) : Int)) by rw [show n + ((0 : Nat) : Int) = n by omega]]
  rw [show [some (Value.ref 217), some (Value.int (zI (n + ((0 : Nat) : Int)))), some (Value.int (zI (n + ((0 : Nat) : Int))))] = [some (.ref 217), some (.int (zI n)), some (.int (zI (n + ((0 : Nat) : Int))))] by rw [show n + ((0 : Nat) : Int) = n by omega]]
  refine (loopN (fun j : Nat => runP MP d 225 (2, [some (.ref 217), some (.int (zI (n))), some (.int (zI (n + ((j : Nat) : Int))))], [], mk E (uR F 218 (lo1 K n j)) G)) ((tI (K 5) - n).toNat) (fun j hj => ?_)).trans ?_
  · show runP MP d 225 (2, [some (.ref 217), some (.int (zI (n))), some (.int (zI (n + ((j : Nat) : Int))))], [], mk E (uR F 218 (lo1 K n j)) G) = runP MP d 225 (2, [some (.ref 217), some (.int (zI (n))), some (.int (zI (n + (((j + 1) : Nat) : Int))))], [], mk E (uR F 218 (lo1 K n (j + 1))) G)
    have e5 : lo1 K n j 5 = K 5 := lo1_hi (by omega)
    have eW : prW (lo1 K n j) (n + (j : Int)) = prW K (n + (j : Int)) := congrArg tI (lo1_hi (by omega))
    have eO : ∀ v, prO (uC (lo1 K n j) (46 + 2 * (n + (j : Int) - n)) v) (n + (j : Int)) = prO K (n + (j : Int)) := fun v => congrArg tI ((uC_ne (by omega)).trans (lo1_hi (by omega)))
    rw [nsucc]
    rw [q_225_2]; (try simp only [↓n_al, ↓n_cI, li_0, li_1, li_2, li_5, li_12, li_46, li_166, li_210, zI_add, zI_sub, zI_mul, zI_neg, ↓Option.bind_some]); simp (disch := (first | assumption | exact tI_rg _ | omega | exact uR_at | exact row_ne hF (by decide) | exact row_ne (row_ne hF (by decide)) (by decide) | exact SnS_18 | exact SnS_30 | exact LdS_44 | exact LdS_46)) only [q_225_0, ↓cc_u210, ↓cc_u211, ↓cc_u221, e5, eW, eO, rd_prW, rd_prO, ↓n_al, ↓n_cI, li_0, li_1, li_2, li_5, li_12, li_46, li_166, li_210, zI_add, zI_sub, zI_mul, zI_neg, ↓Option.bind_some, ↓g12_0, ↓al_218, ↓as_218, zIt2, uR_at, uR_ne, uR_uR, uC_uC, uC_at, ↓reduceIte, decide_eq_true_eq, leT, leF, ltT, ltF, eqT, eqF, ne_eq, not_true_eq_false, not_false_eq_true, Bool.false_eq_true, tI_zI]
    rw [lo1_step (by omega), Int.add_assoc]
  · show runP MP d 225 (2, [some (.ref 217), some (.int (zI (n))), some (.int (zI (n + ((((tI (K 5) - n).toNat) : Nat) : Int))))], [], mk E (uR F 218 (lo1 K n ((tI (K 5) - n).toNat))) G) = _
    have e5 : lo1 K n (tI (K 5) - n).toNat 5 = K 5 := lo1_hi (by omega)
    have ec : (((tI (K 5) - n).toNat : Nat) : Int) = tI (K 5) - n := by omega
    rw [q_225_2]; (try simp only [↓n_al, ↓n_cI, li_0, li_1, li_2, li_5, li_12, li_46, li_166, li_210, zI_add, zI_sub, zI_mul, zI_neg, ↓Option.bind_some]); simp (disch := (first | assumption | exact tI_rg _ | omega | exact uR_at | exact row_ne hF (by decide) | exact row_ne (row_ne hF (by decide)) (by decide) | exact SnS_18 | exact SnS_30 | exact LdS_44 | exact LdS_46)) only [q_225_0, ↓cc_u210, e5, ec, ↓n_al, ↓n_cI, li_0, li_1, li_2, li_5, li_12, li_46, li_166, li_210, zI_add, zI_sub, zI_mul, zI_neg, ↓Option.bind_some, ↓g12_0, ↓al_218, ↓as_218, zIt2, uR_at, uR_ne, uR_uR, uC_uC, uC_at, ↓reduceIte, decide_eq_true_eq, leT, leF, ltT, ltF, eqT, eqF, ne_eq, not_true_eq_false, not_false_eq_true, Bool.false_eq_true, tI_zI]
    have h1 : mk E (uR F 218 (uC (lo1 K n (tI (K 5) - n).toNat) 5 (zI (tI (K 5) - n)))) G = mk E (uR F 218 (lo2 (uC (lo1 K n (tI (K 5) - n).toNat) 5 (zI (tI (K 5) - n))) (46 + 2 * (tI (K 5) - n)) 0)) G := by rw [lo2_0]
    rw [h1, show zI (46 + 2 * (tI (K 5) - n)) = zI (46 + 2 * (tI (K 5) - n) + ((0 : Nat) : Int)) by rw [show ((0 : Nat) : Int) = 0 from rfl, Int.add_zero]]
    refine (loopN (fun j : Nat => runP MP d 225 (74, [some (.ref 217), some (.int (zI (n))), some (.int (zI (46 + 2 * (tI (K 5) - n) + ((j : Nat) : Int))))], [], mk E (uR F 218 (lo2 (uC (lo1 K n (tI (K 5) - n).toNat) 5 (zI (tI (K 5) - n))) (46 + 2 * (tI (K 5) - n)) j)) G)) ((166 - (46 + 2 * (tI (K 5) - n))).toNat) (fun j hj => ?_)).trans ?_
    · show runP MP d 225 (74, [some (.ref 217), some (.int (zI (n))), some (.int (zI (46 + 2 * (tI (K 5) - n) + ((j : Nat) : Int))))], [], mk E (uR F 218 (lo2 (uC (lo1 K n (tI (K 5) - n).toNat) 5 (zI (tI (K 5) - n))) (46 + 2 * (tI (K 5) - n)) j)) G) = runP MP d 225 (74, [some (.ref 217), some (.int (zI (n))), some (.int (zI (46 + 2 * (tI (K 5) - n) + (((j + 1) : Nat) : Int))))], [], mk E (uR F 218 (lo2 (uC (lo1 K n (tI (K 5) - n).toNat) 5 (zI (tI (K 5) - n))) (46 + 2 * (tI (K 5) - n)) (j + 1))) G)
      rw [nsucc]
      rw [q_225_74]; (try simp only [↓n_al, ↓n_cI, li_0, li_1, li_2, li_5, li_12, li_46, li_166, li_210, zI_add, zI_sub, zI_mul, zI_neg, ↓Option.bind_some]); simp (disch := (first | assumption | exact tI_rg _ | omega | exact uR_at | exact row_ne hF (by decide) | exact row_ne (row_ne hF (by decide)) (by decide) | exact SnS_18 | exact SnS_30 | exact LdS_44 | exact LdS_46)) only [q_225_0, ↓n_al, ↓n_cI, li_0, li_1, li_2, li_5, li_12, li_46, li_166, li_210, zI_add, zI_sub, zI_mul, zI_neg, ↓Option.bind_some, ↓g12_0, ↓al_218, ↓as_218, zIt2, uR_at, uR_ne, uR_uR, uC_uC, uC_at, ↓reduceIte, decide_eq_true_eq, leT, leF, ltT, ltF, eqT, eqF, ne_eq, not_true_eq_false, not_false_eq_true, Bool.false_eq_true, tI_zI]
      rw [lo2_step rfl, Int.add_assoc]
    · show runP MP d 225 (74, [some (.ref 217), some (.int (zI (n))), some (.int (zI (46 + 2 * (tI (K 5) - n) + ((((166 - (46 + 2 * (tI (K 5) - n))).toNat) : Nat) : Int))))], [], mk E (uR F 218 (lo2 (uC (lo1 K n (tI (K 5) - n).toNat) 5 (zI (tI (K 5) - n))) (46 + 2 * (tI (K 5) - n)) ((166 - (46 + 2 * (tI (K 5) - n))).toNat))) G) = _
      have ec2 : (((166 - (46 + 2 * (tI (K 5) - n))).toNat : Nat) : Int) = 166 - (46 + 2 * (tI (K 5) - n)) := by omega
      rw [q_225_74]; (try simp only [↓n_al, ↓n_cI, li_0, li_1, li_2, li_5, li_12, li_46, li_166, li_210, zI_add, zI_sub, zI_mul, zI_neg, ↓Option.bind_some]); simp (disch := (first | assumption | exact tI_rg _ | omega | exact uR_at | exact row_ne hF (by decide) | exact row_ne (row_ne hF (by decide)) (by decide) | exact SnS_18 | exact SnS_30 | exact LdS_44 | exact LdS_46)) only [q_225_0, ec2, ↓n_al, ↓n_cI, li_0, li_1, li_2, li_5, li_12, li_46, li_166, li_210, zI_add, zI_sub, zI_mul, zI_neg, ↓Option.bind_some, ↓g12_0, ↓al_218, ↓as_218, zIt2, uR_at, uR_ne, uR_uR, uC_uC, uC_at, ↓reduceIte, decide_eq_true_eq, leT, leF, ltT, ltF, eqT, eqF, ne_eq, not_true_eq_false, not_false_eq_true, Bool.false_eq_true, tI_zI]
      rw [lo_end ec ec2]
theorem cc_225 {d : Nat} {E : EnQ} {F : Nat → Int → Int32} {G : Nat → Int → Int64} {kk : HeapP → ResP} {kx : Nat → HeapP → ResP} {n : Int} (hn : 0 ≤ n ∧ n ≤ tI (F 218 5) ∧ tI (F 218 5) ≤ 60) (hd : 2 ≤ d) : cV (callP MP d 225 [.ref 217, .int (zI n)] (mk E F G)) kk kx = kk (mk E (uR F 218 (losK (F 218) n)) G) := cV_ret (by apply ct_225 <;> assumption)
end S93m
