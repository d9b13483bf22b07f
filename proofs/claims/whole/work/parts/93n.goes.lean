/-! MODEL: remembers, whyNot, goes -/
section S93n
set_option linter.unusedVariables false
set_option linter.unusedSimpArgs false
def re1 (K : Int → Int32) (t : Nat) : Int → Int32 := fun j => if 210 ≤ j ∧ j < 210 + t then K (j + 2) else K j
theorem re1_0 {K : Int → Int32} : re1 K 0 = K := funext fun j => if_neg (by omega)
theorem re1_hi {K : Int → Int32} {i : Int} {t : Nat} (h : 210 + (t : Int) ≤ i ∨ i < 210) : re1 K t i = K i := if_neg (by omega)
theorem re1_step {K : Int → Int32} {i j1 : Int} {t : Nat} (h : i = 210 + (t : Int) ∧ j1 = 212 + (t : Int)) : uC (re1 K t) i (K j1) = re1 K (t + 1) := by
  obtain ⟨rfl, rfl⟩ := h
  funext j
  unfold uC re1
  by_cases e1 : j = 210 + (t : Int)
  · rw [if_pos e1, if_pos (by omega)]; exact congrArg K (by omega)
  · rw [if_neg e1]
    by_cases e3 : 210 ≤ j ∧ j < 210 + (t : Int)
    · rw [if_pos e3, if_pos (by omega)]
    · rw [if_neg e3, if_neg (by omega)]
theorem zI_tI' {x : Int32} : zI (tI x) = x := zI_tI x
theorem rem_A {K : Int → Int32} {v x a b c : Int} {t : Nat} (he : tI (K 169) = tI (K 168)) (ht : (t : Int) = 2 * (tI (K 169) - 1)) (ha : a = tI (K 169)) (hb : b = 208 + 2 * tI (K 169)) (hc : c = 209 + 2 * tI (K 169)) (h1 : 1 ≤ tI (K 169)) : uC (uC (uC (re1 K t) 169 (zI a)) b (zI v)) c (zI x) = remK K v x := by
  subst ha; subst hb; subst hc
  funext j
  unfold remK
  rw [if_pos he]
  unfold uC re1
  by_cases e1 : j = 209 + 2 * tI (K 169)
  · rw [if_pos e1, if_neg (by omega), if_neg (by omega), if_pos e1]
  · rw [if_neg e1]
    by_cases e2 : j = 208 + 2 * tI (K 169)
    · rw [if_pos e2, if_neg (by omega), if_pos e2]
    · rw [if_neg e2]
      by_cases e3 : j = 169
      · rw [if_pos e3, if_neg (by omega), if_neg e2, if_neg e1, e3]; exact zI_tI _
      · rw [if_neg e3]
        by_cases e4 : 210 ≤ j ∧ j < 208 + 2 * tI (K 169)
        · rw [if_pos e4, if_pos (by omega)]
        · rw [if_neg e4, if_neg (by omega), if_neg e2, if_neg e1]
theorem rem_B {K : Int → Int32} {v x a b c : Int} (he : ¬ tI (K 169) = tI (K 168)) (ha : a = tI (K 169) + 1) (hb : b = 210 + 2 * tI (K 169)) (hc : c = 211 + 2 * tI (K 169)) (h0 : 0 ≤ tI (K 169)) : uC (uC (uC (re1 K 0) 169 (zI a)) b (zI v)) c (zI x) = remK K v x := by
  subst ha; subst hb; subst hc
  funext j
  unfold remK
  rw [if_neg he, re1_0]
  unfold uC
  by_cases e1 : j = 211 + 2 * tI (K 169)
  · rw [if_pos e1, if_neg (by omega), if_neg (by omega), if_pos e1]
  · rw [if_neg e1]
    by_cases e2 : j = 210 + 2 * tI (K 169)
    · rw [if_pos e2, if_neg (by omega), if_pos e2]
    · rw [if_neg e2]
      by_cases e3 : j = 169
      · rw [if_pos e3, if_pos e3]
      · rw [if_neg e3, if_neg e3, if_neg e2, if_neg e1]
theorem ct_231 {d : Nat} {E : EnQ} {F : Nat → Int → Int32} {G : Nat → Int → Int64} {v x : Int} (hn : 0 ≤ tI (F 218 169) ∧ tI (F 218 169) ≤ tI (F 218 168) ∧ 1 ≤ tI (F 218 168) ∧ tI (F 218 168) ≤ 99) (hd : 1 ≤ d) : callP MP d 231 [.ref 217, .int (zI v), .int (zI x)] (mk E F G) = some (Sum.inl (none), mk E (uR F 218 (remK (F 218) v x)) G) := by

  refine into (D := 0) (by omega) hM_231 (rcv_mk rfl (by decide)) rfl fun d hd => ?_
  show runP MP d 231 (0, [some (.ref 217), some (.int (zI v)), some (.int (zI x)), none, none], [], _) = _
  obtain ⟨K, hK⟩ : ∃ K, K = F 218 := ⟨_, rfl⟩
  rw [← hK] at hn ⊢
  have h0 : mk E F G = mk E (uR F 218 (re1 K 0)) G := by rw [re1_0, hK, uR_self]
  rw [h0]
  by_cases he : tI (K 169) = tI (K 168)
  · have hl : runP MP d 231 (28, [some (.ref 217), some (.int (zI v)), some (.int (zI x)), some (.int (zI 1)), some (.int (zI 0))], [], mk E (uR F 218 (re1 K 0)) G) = runP MP d 231 (28, [some (.ref 217), some (.int (zI v)), some (.int (zI x)), some (.int (zI 1)), some (.int (zI (((2 * (tI (K 169) - 1)).toNat : Nat) : Int)))], [], mk E (uR F 218 (re1 K (2 * (tI (K 169) - 1)).toNat)) G) := by
      refine loopN (fun t : Nat => runP MP d 231 (28, [some (.ref 217), some (.int (zI v)), some (.int (zI x)), some (.int (zI 1)), some (.int (zI (t : Int)))], [], mk E (uR F 218 (re1 K t)) G)) _ (fun t ht => ?_)
      show runP MP d 231 _ = runP MP d 231 _
      have e1 : re1 K t 169 = K 169 := re1_hi (by omega)
      have e2 : re1 K t (210 + (t : Int) + 2) = K (210 + (t : Int) + 2) := re1_hi (by omega)
      rw [nsucc]
      rw [q_231_28]; (try simp only [↓n_al, li_0, li_1, li_2, li_12, li_24, li_168, li_169, li_210, zI_add, zI_sub, zI_mul, zI_neg, ↓Option.bind_some]); simp (disch := (first | assumption | exact tI_rg _ | omega | exact uR_at | exact row_ne hF (by decide) | exact row_ne (row_ne hF (by decide)) (by decide) | exact SnS_18 | exact SnS_30 | exact LdS_44 | exact LdS_46)) only [q_231_0, q_231_24, q_231_80, e1, e2, zI_tI', ↓n_al, li_0, li_1, li_2, li_12, li_24, li_168, li_169, li_210, zI_add, zI_sub, zI_mul, zI_neg, ↓Option.bind_some, ↓g12_0, ↓al_218, ↓as_218, zIt2, uR_at, uR_ne, uR_uR, uC_uC, uC_at, ↓reduceIte, decide_eq_true_eq, leT, leF, ltT, ltF, eqT, eqF, ne_eq, not_true_eq_false, not_false_eq_true, Bool.false_eq_true, tI_zI]
      rw [re1_step (by omega)]
    have ec : (((2 * (tI (K 169) - 1)).toNat : Nat) : Int) = 2 * (tI (K 169) - 1) := by omega
    have e1 : re1 K (2 * (tI (K 169) - 1)).toNat 169 = K 169 := re1_hi (by omega)
    have e3 : re1 K 0 169 = K 169 := re1_hi (by omega)
    have e4 : re1 K 0 168 = K 168 := re1_hi (by omega)
    have u1 : ∀ r : Int → Int32, ∀ y, uC r 169 y 169 = y := fun r y => uC_at
    have u2 : ∀ r : Int → Int32, ∀ y i z, i ≠ 169 → uC (uC r 169 y) i z 169 = y := fun r y i z hi => (uC_ne (fun e => hi e.symm)).trans uC_at
    rw [q_231_0]; (try simp only [↓n_al, li_0, li_1, li_2, li_12, li_24, li_168, li_169, li_210, zI_add, zI_sub, zI_mul, zI_neg, ↓Option.bind_some]); simp (disch := (first | assumption | exact tI_rg _ | omega | exact uR_at | exact row_ne hF (by decide) | exact row_ne (row_ne hF (by decide)) (by decide) | exact SnS_18 | exact SnS_30 | exact LdS_44 | exact LdS_46)) only [q_231_24, e3, e4, hl, ↓n_al, li_0, li_1, li_2, li_12, li_24, li_168, li_169, li_210, zI_add, zI_sub, zI_mul, zI_neg, ↓Option.bind_some, ↓g12_0, ↓al_218, ↓as_218, zIt2, uR_at, uR_ne, uR_uR, uC_uC, uC_at, ↓reduceIte, decide_eq_true_eq, leT, leF, ltT, ltF, eqT, eqF, ne_eq, not_true_eq_false, not_false_eq_true, Bool.false_eq_true, tI_zI]
    rw [q_231_28]; (try simp only [↓n_al, li_0, li_1, li_2, li_12, li_24, li_168, li_169, li_210, zI_add, zI_sub, zI_mul, zI_neg, ↓Option.bind_some]); simp (disch := (first | assumption | exact tI_rg _ | omega | exact uR_at | exact row_ne hF (by decide) | exact row_ne (row_ne hF (by decide)) (by decide) | exact SnS_18 | exact SnS_30 | exact LdS_44 | exact LdS_46)) only [q_231_0, q_231_24, e1, ec, u1, u2, ↓n_al, li_0, li_1, li_2, li_12, li_24, li_168, li_169, li_210, zI_add, zI_sub, zI_mul, zI_neg, ↓Option.bind_some, ↓g12_0, ↓al_218, ↓as_218, zIt2, uR_at, uR_ne, uR_uR, uC_uC, uC_at, ↓reduceIte, decide_eq_true_eq, leT, leF, ltT, ltF, eqT, eqF, ne_eq, not_true_eq_false, not_false_eq_true, Bool.false_eq_true, tI_zI]
    rw [q_231_80]; (try simp only [↓n_al, li_0, li_1, li_2, li_12, li_24, li_168, li_169, li_210, zI_add, zI_sub, zI_mul, zI_neg, ↓Option.bind_some]); simp (disch := (first | assumption | exact tI_rg _ | omega | exact uR_at | exact row_ne hF (by decide) | exact row_ne (row_ne hF (by decide)) (by decide) | exact SnS_18 | exact SnS_30 | exact LdS_44 | exact LdS_46)) only [q_231_0, q_231_24, e1, u1, u2, ↓n_al, li_0, li_1, li_2, li_12, li_24, li_168, li_169, li_210, zI_add, zI_sub, zI_mul, zI_neg, ↓Option.bind_some, ↓g12_0, ↓al_218, ↓as_218, zIt2, uR_at, uR_ne, uR_uR, uC_uC, uC_at, ↓reduceIte, decide_eq_true_eq, leT, leF, ltT, ltF, eqT, eqF, ne_eq, not_true_eq_false, not_false_eq_true, Bool.false_eq_true, tI_zI]
    rw [rem_A he ec (by omega) (by omega) (by omega) (by omega)]
  · have e3 : re1 K 0 169 = K 169 := re1_hi (by omega)
    have e4 : re1 K 0 168 = K 168 := re1_hi (by omega)
    have u1 : ∀ r : Int → Int32, ∀ y, uC r 169 y 169 = y := fun r y => uC_at
    have u2 : ∀ r : Int → Int32, ∀ y i z, i ≠ 169 → uC (uC r 169 y) i z 169 = y := fun r y i z hi => (uC_ne (fun e => hi e.symm)).trans uC_at
    rw [q_231_0]; (try simp only [↓n_al, li_0, li_1, li_2, li_12, li_24, li_168, li_169, li_210, zI_add, zI_sub, zI_mul, zI_neg, ↓Option.bind_some]); simp (disch := (first | assumption | exact tI_rg _ | omega | exact uR_at | exact row_ne hF (by decide) | exact row_ne (row_ne hF (by decide)) (by decide) | exact SnS_18 | exact SnS_30 | exact LdS_44 | exact LdS_46)) only [q_231_24, e3, e4, ↓n_al, li_0, li_1, li_2, li_12, li_24, li_168, li_169, li_210, zI_add, zI_sub, zI_mul, zI_neg, ↓Option.bind_some, ↓g12_0, ↓al_218, ↓as_218, zIt2, uR_at, uR_ne, uR_uR, uC_uC, uC_at, ↓reduceIte, decide_eq_true_eq, leT, leF, ltT, ltF, eqT, eqF, ne_eq, not_true_eq_false, not_false_eq_true, Bool.false_eq_true, tI_zI]
    by_cases hz : tI (K 169) = 0
    · rw [q_231_28]; (try simp only [↓n_al, li_0, li_1, li_2, li_12, li_24, li_168, li_169, li_210, zI_add, zI_sub, zI_mul, zI_neg, ↓Option.bind_some]); simp (disch := (first | assumption | exact tI_rg _ | omega | exact uR_at | exact row_ne hF (by decide) | exact row_ne (row_ne hF (by decide)) (by decide) | exact SnS_18 | exact SnS_30 | exact LdS_44 | exact LdS_46)) only [q_231_0, q_231_24, e3, ↓n_al, li_0, li_1, li_2, li_12, li_24, li_168, li_169, li_210, zI_add, zI_sub, zI_mul, zI_neg, ↓Option.bind_some, ↓g12_0, ↓al_218, ↓as_218, zIt2, uR_at, uR_ne, uR_uR, uC_uC, uC_at, ↓reduceIte, decide_eq_true_eq, leT, leF, ltT, ltF, eqT, eqF, ne_eq, not_true_eq_false, not_false_eq_true, Bool.false_eq_true, tI_zI]
      rw [q_231_80]; (try simp only [↓n_al, li_0, li_1, li_2, li_12, li_24, li_168, li_169, li_210, zI_add, zI_sub, zI_mul, zI_neg, ↓Option.bind_some]); simp (disch := (first | assumption | exact tI_rg _ | omega | exact uR_at | exact row_ne hF (by decide) | exact row_ne (row_ne hF (by decide)) (by decide) | exact SnS_18 | exact SnS_30 | exact LdS_44 | exact LdS_46)) only [q_231_0, q_231_24, e3, u1, u2, ↓n_al, li_0, li_1, li_2, li_12, li_24, li_168, li_169, li_210, zI_add, zI_sub, zI_mul, zI_neg, ↓Option.bind_some, ↓g12_0, ↓al_218, ↓as_218, zIt2, uR_at, uR_ne, uR_uR, uC_uC, uC_at, ↓reduceIte, decide_eq_true_eq, leT, leF, ltT, ltF, eqT, eqF, ne_eq, not_true_eq_false, not_false_eq_true, Bool.false_eq_true, tI_zI]
      rw [rem_B he (by omega) (by omega) (by omega) (by omega)]
    · rw [q_231_28]; (try simp only [↓n_al, li_0, li_1, li_2, li_12, li_24, li_168, li_169, li_210, zI_add, zI_sub, zI_mul, zI_neg, ↓Option.bind_some]); simp (disch := (first | assumption | exact tI_rg _ | omega | exact uR_at | exact row_ne hF (by decide) | exact row_ne (row_ne hF (by decide)) (by decide) | exact SnS_18 | exact SnS_30 | exact LdS_44 | exact LdS_46)) only [q_231_0, q_231_24, e3, ↓n_al, li_0, li_1, li_2, li_12, li_24, li_168, li_169, li_210, zI_add, zI_sub, zI_mul, zI_neg, ↓Option.bind_some, ↓g12_0, ↓al_218, ↓as_218, zIt2, uR_at, uR_ne, uR_uR, uC_uC, uC_at, ↓reduceIte, decide_eq_true_eq, leT, leF, ltT, ltF, eqT, eqF, ne_eq, not_true_eq_false, not_false_eq_true, Bool.false_eq_true, tI_zI]
      rw [q_231_80]; (try simp only [↓n_al, li_0, li_1, li_2, li_12, li_24, li_168, li_169, li_210, zI_add, zI_sub, zI_mul, zI_neg, ↓Option.bind_some]); simp (disch := (first | assumption | exact tI_rg _ | omega | exact uR_at | exact row_ne hF (by decide) | exact row_ne (row_ne hF (by decide)) (by decide) | exact SnS_18 | exact SnS_30 | exact LdS_44 | exact LdS_46)) only [q_231_0, q_231_24, e3, u1, u2, ↓n_al, li_0, li_1, li_2, li_12, li_24, li_168, li_169, li_210, zI_add, zI_sub, zI_mul, zI_neg, ↓Option.bind_some, ↓g12_0, ↓al_218, ↓as_218, zIt2, uR_at, uR_ne, uR_uR, uC_uC, uC_at, ↓reduceIte, decide_eq_true_eq, leT, leF, ltT, ltF, eqT, eqF, ne_eq, not_true_eq_false, not_false_eq_true, Bool.false_eq_true, tI_zI]
      rw [rem_B he (by omega) (by omega) (by omega) (by omega)]
theorem cc_231 {d : Nat} {E : EnQ} {F : Nat → Int → Int32} {G : Nat → Int → Int64} {kk : HeapP → ResP} {kx : Nat → HeapP → ResP} {v x : Int} (hn : 0 ≤ tI (F 218 169) ∧ tI (F 218 169) ≤ tI (F 218 168) ∧ 1 ≤ tI (F 218 168) ∧ tI (F 218 168) ≤ 99) (hd : 1 ≤ d) : cV (callP MP d 231 [.ref 217, .int (zI v), .int (zI x)] (mk E F G)) kk kx = kk (mk E (uR F 218 (remK (F 218) v x)) G) := cV_ret (by apply ct_231 <;> assumption)
theorem ct_227 {d : Nat} {E : EnQ} {F : Nat → Int → Int32} {G : Nat → Int → Int64} {K : Int → Int32} (hI : InvK K) (hF : F 218 = K) {x y : Int} (hx : -9223372036854775808 ≤ x ∧ x ≤ 9223372036854775807) (hy : -9223372036854775808 ≤ y ∧ y ≤ 9223372036854775807) (hd : 3 ≤ d) : callP MP d 227 [.ref 217, .long (zJ x), .long (zJ y)] (mk E F G) = some (Sum.inl (some (.int (zI (whyZ K x y)))), mk E F G) := by

  have b1 := hI.1.2.1
  have b2 := hI.1.2.2.1
  have b3 := hI.1.2.2.2.1
  refine into (D := 2) (by omega) hM_227 (rcv_mk rfl (by decide)) rfl fun d hd => ?_
  show runP MP d 227 (0, [some (.ref 217), some (.long (zJ x)), none, some (.long (zJ y)), none], [], _) = _
  unfold whyZ
  by_cases h1 : 0 ≤ x ∧ x < tI (K 3)
  · have hp := (hI.2.2.1 x h1.1 (by omega)).2.2.2.2.2 h1.2
    rw [if_neg (fun z => z h1)]
    by_cases h2 : 0 ≤ y ∧ y < tI (K 1)
    · have hw := wayZ_lo b2 (tI (K (38 + 2 * x))) y
      by_cases h3 : wayZ K (tI (K (38 + 2 * x))) y = -1
      · rw [if_pos (Or.inr h3)]
        rw [q_227_0]; (try simp only [↓n_cI, li_0, li_1, li_2, lj_0, lj_1, lj_2, zJ_add, zJ_sub, zJ_mul, zJ_neg, zJ_l2i, zI_add, zI_sub, zI_mul, zI_neg, ↓Option.bind_some]); simp (disch := (first | assumption | exact tI_rg _ | omega | exact uR_at | exact row_ne hF (by decide) | exact row_ne (row_ne hF (by decide)) (by decide) | exact SnS_18 | exact SnS_30 | exact LdS_44 | exact LdS_46)) only [q_227_34, q_227_39, ↓cc_219t hI, ↓cc_213t hI, ↓cc_228 hI, ↓cc_229 hI, h3, ↓n_cI, li_0, li_1, li_2, lj_0, lj_1, lj_2, zJ_add, zJ_sub, zJ_mul, zJ_neg, zJ_l2i, tJ_zJ, zI_add, zI_sub, zI_mul, zI_neg, ↓Option.bind_some, zIt2, uR_at, uR_ne, uR_uR, uC_uC, uC_at, ↓reduceIte, decide_eq_true_eq, leT, leF, ltT, ltF, eqT, eqF, ne_eq, not_true_eq_false, not_false_eq_true, Bool.false_eq_true, tI_zI]
      · rw [if_neg (fun z => z.elim (fun q => q h2) h3)]
        rw [q_227_0]; (try simp only [↓n_cI, li_0, li_1, li_2, lj_0, lj_1, lj_2, zJ_add, zJ_sub, zJ_mul, zJ_neg, zJ_l2i, zI_add, zI_sub, zI_mul, zI_neg, ↓Option.bind_some]); simp (disch := (first | assumption | exact tI_rg _ | omega | exact uR_at | exact row_ne hF (by decide) | exact row_ne (row_ne hF (by decide)) (by decide) | exact SnS_18 | exact SnS_30 | exact LdS_44 | exact LdS_46)) only [q_227_34, q_227_39, ↓cc_219t hI, ↓cc_213t hI, ↓cc_228 hI, ↓cc_229 hI, ↓n_cI, li_0, li_1, li_2, lj_0, lj_1, lj_2, zJ_add, zJ_sub, zJ_mul, zJ_neg, zJ_l2i, tJ_zJ, zI_add, zI_sub, zI_mul, zI_neg, ↓Option.bind_some, zIt2, uR_at, uR_ne, uR_uR, uC_uC, uC_at, ↓reduceIte, decide_eq_true_eq, leT, leF, ltT, ltF, eqT, eqF, ne_eq, not_true_eq_false, not_false_eq_true, Bool.false_eq_true, tI_zI]
    · rw [if_pos (Or.inl h2)]
      rw [q_227_0]; (try simp only [↓n_cI, li_0, li_1, li_2, lj_0, lj_1, lj_2, zJ_add, zJ_sub, zJ_mul, zJ_neg, zJ_l2i, zI_add, zI_sub, zI_mul, zI_neg, ↓Option.bind_some]); simp (disch := (first | assumption | exact tI_rg _ | omega | exact uR_at | exact row_ne hF (by decide) | exact row_ne (row_ne hF (by decide)) (by decide) | exact SnS_18 | exact SnS_30 | exact LdS_44 | exact LdS_46)) only [q_227_34, q_227_39, ↓cc_219t hI, ↓cc_213f hI, ↓n_cI, li_0, li_1, li_2, lj_0, lj_1, lj_2, zJ_add, zJ_sub, zJ_mul, zJ_neg, zJ_l2i, tJ_zJ, zI_add, zI_sub, zI_mul, zI_neg, ↓Option.bind_some, zIt2, uR_at, uR_ne, uR_uR, uC_uC, uC_at, ↓reduceIte, decide_eq_true_eq, leT, leF, ltT, ltF, eqT, eqF, ne_eq, not_true_eq_false, not_false_eq_true, Bool.false_eq_true, tI_zI]
  · rw [if_pos h1]
    rw [q_227_0]; (try simp only [↓n_cI, li_0, li_1, li_2, lj_0, lj_1, lj_2, zJ_add, zJ_sub, zJ_mul, zJ_neg, zJ_l2i, zI_add, zI_sub, zI_mul, zI_neg, ↓Option.bind_some]); simp (disch := (first | assumption | exact tI_rg _ | omega | exact uR_at | exact row_ne hF (by decide) | exact row_ne (row_ne hF (by decide)) (by decide) | exact SnS_18 | exact SnS_30 | exact LdS_44 | exact LdS_46)) only [q_227_34, q_227_39, ↓cc_219f hI, ↓n_cI, li_0, li_1, li_2, lj_0, lj_1, lj_2, zJ_add, zJ_sub, zJ_mul, zJ_neg, zJ_l2i, tJ_zJ, zI_add, zI_sub, zI_mul, zI_neg, ↓Option.bind_some, zIt2, uR_at, uR_ne, uR_uR, uC_uC, uC_at, ↓reduceIte, decide_eq_true_eq, leT, leF, ltT, ltF, eqT, eqF, ne_eq, not_true_eq_false, not_false_eq_true, Bool.false_eq_true, tI_zI]
theorem cc_227 {d : Nat} {E : EnQ} {F : Nat → Int → Int32} {G : Nat → Int → Int64} {kk : Int → HeapP → ResP} {kx : Nat → HeapP → ResP} {K : Int → Int32} (hI : InvK K) (hF : F 218 = K) {x y : Int} (hx : -9223372036854775808 ≤ x ∧ x ≤ 9223372036854775807) (hy : -9223372036854775808 ≤ y ∧ y ≤ 9223372036854775807) (hd : 3 ≤ d) : cT (callP MP d 227 [.ref 217, .long (zJ x), .long (zJ y)] (mk E F G)) kk kx = kk (whyZ K x y) (mk E F G) := cT_ret (by apply ct_227 <;> assumption) (by unfold whyZ; split <;> (try split) <;> omega)
end S93n
