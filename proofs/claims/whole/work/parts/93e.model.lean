/-! 93e_model -/
section S93e
set_option linter.unusedVariables false
set_option linter.unusedSimpArgs false
theorem loopP {σ : Type} (Post : ResP → Prop) (P : Nat → σ → ResP) (I : Nat → σ → Prop) (n : Nat) (fin : ∀ s, I n s → Post (P n s)) (step : ∀ j s, j < n → I j s → Post (P j s) ∨ ∃ s', I (j + 1) s' ∧ P j s = P (j + 1) s') : ∀ k j s, j + k = n → I j s → Post (P j s) := by
  intro k
  induction k with
  | zero => intro j s hj hI; have : j = n := by omega
            subst this; exact fin s hI
  | succ k ih =>
    intro j s hj hI
    rcases step j s (by omega) hI with h | ⟨s', h1, h2⟩
    · exact h
    · rw [h2]; exact ih (j + 1) s' (by omega) h1
theorem loopS {σ : Type} {Post : ResP → Prop} (P : Nat → σ → ResP) (I : Nat → σ → Prop) (n : Nat) (s : σ) (h0 : I 0 s) (fin : ∀ s, I n s → Post (P n s)) (step : ∀ j s, j < n → I j s → Post (P j s) ∨ ∃ s', I (j + 1) s' ∧ P j s = P (j + 1) s') : Post (P 0 s) := loopP Post P I n fin step n 0 s (by omega) h0
theorem loopN (P : Nat → ResP) (n : Nat) (step : ∀ j, j < n → P j = P (j + 1)) : P 0 = P n := by
  induction n with
  | zero => rfl
  | succ n ih => rw [ih (fun j hj => step j (by omega)), step n (by omega)]
theorem cntN_pos {p : Nat → Bool} {j : Nat} (h : p j = true) : cntN p (j + 1) = cntN p j + 1 := by show cntN p j + (if p j = true then 1 else 0) = _; rw [if_pos h]
theorem cntN_neg {p : Nat → Bool} {j : Nat} (h : ¬ p j = true) : cntN p (j + 1) = cntN p j := by show cntN p j + (if p j = true then 1 else 0) = _; rw [if_neg h]; omega
theorem lstN_pos {p : Nat → Bool} {j : Nat} (h : p j = true) : lstN p (j + 1) = (j : Int) := by show (if p j = true then (j : Int) else lstN p j) = _; rw [if_pos h]
theorem lstN_neg {p : Nat → Bool} {j : Nat} (h : ¬ p j = true) : lstN p (j + 1) = lstN p j := by show (if p j = true then (j : Int) else lstN p j) = _; rw [if_neg h]
theorem nsucc (j : Nat) : ((j + 1 : Nat) : Int) = (j : Int) + 1 := rfl
theorem alK {α : Type} {E : EnQ} {F : Nat → Int → Int32} {G : Nat → Int → Int64} {a : Nat} {i : Int} {f : Int → Option α} (hs : shx E a = (2, 0, 408)) (hi : 0 ≤ i ∧ i < 408) : (alT (mk E F G) 0 a (zI i)).bind f = f (tI (F a i)) := alT_b hs hi (by decide)
theorem asK {α : Type} {E : EnQ} {F : Nat → Int → Int32} {G : Nat → Int → Int64} {a : Nat} {i : Int} {x : Int32} {f : HeapP → Option α} (hs : shx E a = (2, 0, 408)) (hi : 0 ≤ i ∧ i < 408) : (astI (mk E F G) 0 a (zI i) x).bind f = f (mk E (uR F a (uC (F a) i x)) G) := asI_b hs hi (by decide)
theorem row_ne {F : Nat → Int → Int32} {a b : Nat} {r K : Int → Int32} (h : F b = K) (hn : b ≠ a) : uR F a r b = K := (uR_ne hn).trans h
theorem zIt2 (v : Int) : zI (tI (zI v)) = zI v := zI_tI _
theorem ct_210 {d : Nat} {E : EnQ} {F : Nat → Int → Int32} {G : Nat → Int → Int64} {K : Int → Int32} (hI : InvK K) (hF : F 218 = K)  (hd : 1 ≤ d) : callP MP d 210 [.ref 217] (mk E F G) = some (Sum.inl (some (.int (zI (tI (K 5))))), mk E F G) := by

  refine into (D := 0) (by omega) hM_210 (rcv_mk rfl (by decide)) rfl fun d hd => ?_
  show runP MP d 210 (0, [some (.ref 217)], [], _) = _
  rw [q_210_0]; (try simp only [↓n_al, li_0, li_5, li_12, li_210, zI_add, zI_sub, zI_mul, zI_neg, ↓Option.bind_some]); simp (disch := (first | assumption | exact tI_rg _ | omega | exact uR_at | exact row_ne hF (by decide) | exact row_ne (row_ne hF (by decide)) (by decide) | exact SnS_18 | exact SnS_30 | exact LdS_44 | exact LdS_46)) only [hF, ↓n_al, li_0, li_5, li_12, li_210, zI_add, zI_sub, zI_mul, zI_neg, ↓Option.bind_some, ↓g12_0, ↓al_218, ↓as_218, zIt2, uR_at, uR_ne, uR_uR, uC_uC, uC_at, ↓reduceIte, decide_eq_true_eq, leT, leF, ltT, ltF, eqT, eqF, ne_eq, not_true_eq_false, not_false_eq_true, Bool.false_eq_true, tI_zI]
theorem cc_210 {d : Nat} {E : EnQ} {F : Nat → Int → Int32} {G : Nat → Int → Int64} {kk : Int → HeapP → ResP} {kx : Nat → HeapP → ResP} {K : Int → Int32} (hI : InvK K) (hF : F 218 = K)  (hd : 1 ≤ d) : cT (callP MP d 210 [.ref 217] (mk E F G)) kk kx = kk (tI (K 5)) (mk E F G) := cT_ret (by apply ct_210 <;> assumption) (tI_rg _)
theorem ct_214 {d : Nat} {E : EnQ} {F : Nat → Int → Int32} {G : Nat → Int → Int64} {K : Int → Int32} (hI : InvK K) (hF : F 218 = K)  (hd : 1 ≤ d) : callP MP d 214 [.ref 217] (mk E F G) = some (Sum.inl (some (.int (zI (tI (K 1))))), mk E F G) := by

  refine into (D := 0) (by omega) hM_214 (rcv_mk rfl (by decide)) rfl fun d hd => ?_
  show runP MP d 214 (0, [some (.ref 217)], [], _) = _
  rw [q_214_0]; (try simp only [↓n_al, li_0, li_1, li_12, zI_add, zI_sub, zI_mul, zI_neg, ↓Option.bind_some]); simp (disch := (first | assumption | exact tI_rg _ | omega | exact uR_at | exact row_ne hF (by decide) | exact row_ne (row_ne hF (by decide)) (by decide) | exact SnS_18 | exact SnS_30 | exact LdS_44 | exact LdS_46)) only [hF, ↓n_al, li_0, li_1, li_12, zI_add, zI_sub, zI_mul, zI_neg, ↓Option.bind_some, ↓g12_0, ↓al_218, ↓as_218, zIt2, uR_at, uR_ne, uR_uR, uC_uC, uC_at, ↓reduceIte, decide_eq_true_eq, leT, leF, ltT, ltF, eqT, eqF, ne_eq, not_true_eq_false, not_false_eq_true, Bool.false_eq_true, tI_zI]
theorem cc_214 {d : Nat} {E : EnQ} {F : Nat → Int → Int32} {G : Nat → Int → Int64} {kk : Int → HeapP → ResP} {kx : Nat → HeapP → ResP} {K : Int → Int32} (hI : InvK K) (hF : F 218 = K)  (hd : 1 ≤ d) : cT (callP MP d 214 [.ref 217] (mk E F G)) kk kx = kk (tI (K 1)) (mk E F G) := cT_ret (by apply ct_214 <;> assumption) (tI_rg _)
theorem ct_220 {d : Nat} {E : EnQ} {F : Nat → Int → Int32} {G : Nat → Int → Int64} {K : Int → Int32} (hI : InvK K) (hF : F 218 = K)  (hd : 1 ≤ d) : callP MP d 220 [.ref 217] (mk E F G) = some (Sum.inl (some (.int (zI (tI (K 3))))), mk E F G) := by

  refine into (D := 0) (by omega) hM_220 (rcv_mk rfl (by decide)) rfl fun d hd => ?_
  show runP MP d 220 (0, [some (.ref 217)], [], _) = _
  rw [q_220_0]; (try simp only [↓n_al, li_0, li_3, li_12, zI_add, zI_sub, zI_mul, zI_neg, ↓Option.bind_some]); simp (disch := (first | assumption | exact tI_rg _ | omega | exact uR_at | exact row_ne hF (by decide) | exact row_ne (row_ne hF (by decide)) (by decide) | exact SnS_18 | exact SnS_30 | exact LdS_44 | exact LdS_46)) only [hF, ↓n_al, li_0, li_3, li_12, zI_add, zI_sub, zI_mul, zI_neg, ↓Option.bind_some, ↓g12_0, ↓al_218, ↓as_218, zIt2, uR_at, uR_ne, uR_uR, uC_uC, uC_at, ↓reduceIte, decide_eq_true_eq, leT, leF, ltT, ltF, eqT, eqF, ne_eq, not_true_eq_false, not_false_eq_true, Bool.false_eq_true, tI_zI]
theorem cc_220 {d : Nat} {E : EnQ} {F : Nat → Int → Int32} {G : Nat → Int → Int64} {kk : Int → HeapP → ResP} {kx : Nat → HeapP → ResP} {K : Int → Int32} (hI : InvK K) (hF : F 218 = K)  (hd : 1 ≤ d) : cT (callP MP d 220 [.ref 217] (mk E F G)) kk kx = kk (tI (K 3)) (mk E F G) := cT_ret (by apply ct_220 <;> assumption) (tI_rg _)
theorem ct_211 {d : Nat} {E : EnQ} {F : Nat → Int → Int32} {G : Nat → Int → Int64} {K : Int → Int32} (hI : InvK K) (hF : F 218 = K) {i : Int} (hi : 0 ≤ i ∧ i ≤ 59) (hd : 1 ≤ d) : callP MP d 211 [.ref 217, .int (zI i)] (mk E F G) = some (Sum.inl (some (.int (zI (prW K i)))), mk E F G) := by

  refine into (D := 0) (by omega) hM_211 (rcv_mk rfl (by decide)) rfl fun d hd => ?_
  show runP MP d 211 (0, [some (.ref 217), some (.int (zI i))], [], _) = _
  rw [q_211_0]; (try simp only [↓n_al, li_0, li_2, li_12, li_46, zI_add, zI_sub, zI_mul, zI_neg, ↓Option.bind_some]); simp (disch := (first | assumption | exact tI_rg _ | omega | exact uR_at | exact row_ne hF (by decide) | exact row_ne (row_ne hF (by decide)) (by decide) | exact SnS_18 | exact SnS_30 | exact LdS_44 | exact LdS_46)) only [hF, ↓n_al, li_0, li_2, li_12, li_46, zI_add, zI_sub, zI_mul, zI_neg, ↓Option.bind_some, ↓g12_0, ↓al_218, ↓as_218, zIt2, uR_at, uR_ne, uR_uR, uC_uC, uC_at, ↓reduceIte, decide_eq_true_eq, leT, leF, ltT, ltF, eqT, eqF, ne_eq, not_true_eq_false, not_false_eq_true, Bool.false_eq_true, tI_zI]
  rfl
theorem cc_211 {d : Nat} {E : EnQ} {F : Nat → Int → Int32} {G : Nat → Int → Int64} {kk : Int → HeapP → ResP} {kx : Nat → HeapP → ResP} {K : Int → Int32} (hI : InvK K) (hF : F 218 = K) {i : Int} (hi : 0 ≤ i ∧ i ≤ 59) (hd : 1 ≤ d) : cT (callP MP d 211 [.ref 217, .int (zI i)] (mk E F G)) kk kx = kk (prW K i) (mk E F G) := cT_ret (by apply ct_211 <;> assumption) (tI_rg _)
theorem ct_221 {d : Nat} {E : EnQ} {F : Nat → Int → Int32} {G : Nat → Int → Int64} {K : Int → Int32} (hI : InvK K) (hF : F 218 = K) {i : Int} (hi : 0 ≤ i ∧ i ≤ 59) (hd : 1 ≤ d) : callP MP d 221 [.ref 217, .int (zI i)] (mk E F G) = some (Sum.inl (some (.int (zI (prO K i)))), mk E F G) := by

  refine into (D := 0) (by omega) hM_221 (rcv_mk rfl (by decide)) rfl fun d hd => ?_
  show runP MP d 221 (0, [some (.ref 217), some (.int (zI i))], [], _) = _
  rw [q_221_0]; (try simp only [↓n_al, li_0, li_1, li_2, li_12, li_46, zI_add, zI_sub, zI_mul, zI_neg, ↓Option.bind_some]); simp (disch := (first | assumption | exact tI_rg _ | omega | exact uR_at | exact row_ne hF (by decide) | exact row_ne (row_ne hF (by decide)) (by decide) | exact SnS_18 | exact SnS_30 | exact LdS_44 | exact LdS_46)) only [hF, ↓n_al, li_0, li_1, li_2, li_12, li_46, zI_add, zI_sub, zI_mul, zI_neg, ↓Option.bind_some, ↓g12_0, ↓al_218, ↓as_218, zIt2, uR_at, uR_ne, uR_uR, uC_uC, uC_at, ↓reduceIte, decide_eq_true_eq, leT, leF, ltT, ltF, eqT, eqF, ne_eq, not_true_eq_false, not_false_eq_true, Bool.false_eq_true, tI_zI]
  unfold prO; rw [show 46 + 2 * i + 1 = 47 + 2 * i by omega]
theorem cc_221 {d : Nat} {E : EnQ} {F : Nat → Int → Int32} {G : Nat → Int → Int64} {kk : Int → HeapP → ResP} {kx : Nat → HeapP → ResP} {K : Int → Int32} (hI : InvK K) (hF : F 218 = K) {i : Int} (hi : 0 ≤ i ∧ i ≤ 59) (hd : 1 ≤ d) : cT (callP MP d 221 [.ref 217, .int (zI i)] (mk E F G)) kk kx = kk (prO K i) (mk E F G) := cT_ret (by apply ct_221 <;> assumption) (tI_rg _)
theorem ct_216 {d : Nat} {E : EnQ} {F : Nat → Int → Int32} {G : Nat → Int → Int64} {K : Int → Int32} (hI : InvK K) (hF : F 218 = K) {i : Int} (hi : 0 ≤ i ∧ i ≤ 31) (hd : 1 ≤ d) : callP MP d 216 [.ref 217, .int (zI i)] (mk E F G) = some (Sum.inl (some (.int (zI (fromZ K i)))), mk E F G) := by

  refine into (D := 0) (by omega) hM_216 (rcv_mk rfl (by decide)) rfl fun d hd => ?_
  show runP MP d 216 (0, [some (.ref 217), some (.int (zI i))], [], _) = _
  rw [q_216_0]; (try simp only [↓n_al, li_0, li_6, li_12, zI_add, zI_sub, zI_mul, zI_neg, ↓Option.bind_some]); simp (disch := (first | assumption | exact tI_rg _ | omega | exact uR_at | exact row_ne hF (by decide) | exact row_ne (row_ne hF (by decide)) (by decide) | exact SnS_18 | exact SnS_30 | exact LdS_44 | exact LdS_46)) only [hF, ↓n_al, li_0, li_6, li_12, zI_add, zI_sub, zI_mul, zI_neg, ↓Option.bind_some, ↓g12_0, ↓al_218, ↓as_218, zIt2, uR_at, uR_ne, uR_uR, uC_uC, uC_at, ↓reduceIte, decide_eq_true_eq, leT, leF, ltT, ltF, eqT, eqF, ne_eq, not_true_eq_false, not_false_eq_true, Bool.false_eq_true, tI_zI]
  rfl
theorem cc_216 {d : Nat} {E : EnQ} {F : Nat → Int → Int32} {G : Nat → Int → Int64} {kk : Int → HeapP → ResP} {kx : Nat → HeapP → ResP} {K : Int → Int32} (hI : InvK K) (hF : F 218 = K) {i : Int} (hi : 0 ≤ i ∧ i ≤ 31) (hd : 1 ≤ d) : cT (callP MP d 216 [.ref 217, .int (zI i)] (mk E F G)) kk kx = kk (fromZ K i) (mk E F G) := cT_ret (by apply ct_216 <;> assumption) (tI_rg _)
theorem flipZ_rg {i : Int} (hi : 0 ≤ i ∧ i ≤ 31) : 0 ≤ flipZ i ∧ flipZ i ≤ 31 := by unfold flipZ; split <;> omega
theorem ct_217 {d : Nat} {E : EnQ} {F : Nat → Int → Int32} {G : Nat → Int → Int64} {K : Int → Int32} (hI : InvK K) (hF : F 218 = K) {i : Int} (hi : 0 ≤ i ∧ i ≤ 31) (hd : 1 ≤ d) : callP MP d 217 [.ref 217, .int (zI i)] (mk E F G) = some (Sum.inl (some (.int (zI (toZ K i)))), mk E F G) := by

  have hf := flipZ_rg hi
  refine into (D := 0) (by omega) hM_217 (rcv_mk rfl (by decide)) rfl fun d hd => ?_
  show runP MP d 217 (0, [some (.ref 217), some (.int (zI i))], [], _) = _
  rw [q_217_0]; (try simp only [↓n_al, li_0, li_1, li_6, li_12, zI_add, zI_sub, zI_mul, zI_neg, ↓Option.bind_some]); simp (disch := (first | assumption | exact tI_rg _ | omega | exact uR_at | exact row_ne hF (by decide) | exact row_ne (row_ne hF (by decide)) (by decide) | exact SnS_18 | exact SnS_30 | exact LdS_44 | exact LdS_46)) only [xorF, hF, ↓n_al, li_0, li_1, li_6, li_12, zI_add, zI_sub, zI_mul, zI_neg, ↓Option.bind_some, ↓g12_0, ↓al_218, ↓as_218, zIt2, uR_at, uR_ne, uR_uR, uC_uC, uC_at, ↓reduceIte, decide_eq_true_eq, leT, leF, ltT, ltF, eqT, eqF, ne_eq, not_true_eq_false, not_false_eq_true, Bool.false_eq_true, tI_zI]
  rfl
theorem cc_217 {d : Nat} {E : EnQ} {F : Nat → Int → Int32} {G : Nat → Int → Int64} {kk : Int → HeapP → ResP} {kx : Nat → HeapP → ResP} {K : Int → Int32} (hI : InvK K) (hF : F 218 = K) {i : Int} (hi : 0 ≤ i ∧ i ≤ 31) (hd : 1 ≤ d) : cT (callP MP d 217 [.ref 217, .int (zI i)] (mk E F G)) kk kx = kk (toZ K i) (mk E F G) := cT_ret (by apply ct_217 <;> assumption) (tI_rg _)
theorem ct_228 {d : Nat} {E : EnQ} {F : Nat → Int → Int32} {G : Nat → Int → Int64} {K : Int → Int32} (hI : InvK K) (hF : F 218 = K) {i : Int} (hi : 0 ≤ i ∧ i ≤ 100) (hd : 1 ≤ d) : callP MP d 228 [.ref 217, .int (zI i)] (mk E F G) = some (Sum.inl (some (.int (zI (tI (K (38 + 2 * i)))))), mk E F G) := by

  refine into (D := 0) (by omega) hM_228 (rcv_mk rfl (by decide)) rfl fun d hd => ?_
  show runP MP d 228 (0, [some (.ref 217), some (.int (zI i))], [], _) = _
  rw [q_228_0]; (try simp only [↓n_al, li_0, li_2, li_12, li_38, zI_add, zI_sub, zI_mul, zI_neg, ↓Option.bind_some]); simp (disch := (first | assumption | exact tI_rg _ | omega | exact uR_at | exact row_ne hF (by decide) | exact row_ne (row_ne hF (by decide)) (by decide) | exact SnS_18 | exact SnS_30 | exact LdS_44 | exact LdS_46)) only [hF, ↓n_al, li_0, li_2, li_12, li_38, zI_add, zI_sub, zI_mul, zI_neg, ↓Option.bind_some, ↓g12_0, ↓al_218, ↓as_218, zIt2, uR_at, uR_ne, uR_uR, uC_uC, uC_at, ↓reduceIte, decide_eq_true_eq, leT, leF, ltT, ltF, eqT, eqF, ne_eq, not_true_eq_false, not_false_eq_true, Bool.false_eq_true, tI_zI]
theorem cc_228 {d : Nat} {E : EnQ} {F : Nat → Int → Int32} {G : Nat → Int → Int64} {kk : Int → HeapP → ResP} {kx : Nat → HeapP → ResP} {K : Int → Int32} (hI : InvK K) (hF : F 218 = K) {i : Int} (hi : 0 ≤ i ∧ i ≤ 100) (hd : 1 ≤ d) : cT (callP MP d 228 [.ref 217, .int (zI i)] (mk E F G)) kk kx = kk (tI (K (38 + 2 * i))) (mk E F G) := cT_ret (by apply ct_228 <;> assumption) (tI_rg _)
theorem ct_268 {d : Nat} {E : EnQ} {F : Nat → Int → Int32} {G : Nat → Int → Int64} {K : Int → Int32} (hI : InvK K) (hF : F 218 = K) {i : Int} (hi : 0 ≤ i ∧ i ≤ 20) (hd : 1 ≤ d) : callP MP d 268 [.ref 217, .int (zI i)] (mk E F G) = some (Sum.inl (some (.int (zI (tI (K (170 + 9 * i)))))), mk E F G) := by

  refine into (D := 0) (by omega) hM_268 (rcv_mk rfl (by decide)) rfl fun d hd => ?_
  show runP MP d 268 (0, [some (.ref 217), some (.int (zI i))], [], _) = _
  rw [q_268_0]; (try simp only [↓n_al, li_0, li_9, li_12, li_170, zI_add, zI_sub, zI_mul, zI_neg, ↓Option.bind_some]); simp (disch := (first | assumption | exact tI_rg _ | omega | exact uR_at | exact row_ne hF (by decide) | exact row_ne (row_ne hF (by decide)) (by decide) | exact SnS_18 | exact SnS_30 | exact LdS_44 | exact LdS_46)) only [hF, ↓n_al, li_0, li_9, li_12, li_170, zI_add, zI_sub, zI_mul, zI_neg, ↓Option.bind_some, ↓g12_0, ↓al_218, ↓as_218, zIt2, uR_at, uR_ne, uR_uR, uC_uC, uC_at, ↓reduceIte, decide_eq_true_eq, leT, leF, ltT, ltF, eqT, eqF, ne_eq, not_true_eq_false, not_false_eq_true, Bool.false_eq_true, tI_zI]
theorem cc_268 {d : Nat} {E : EnQ} {F : Nat → Int → Int32} {G : Nat → Int → Int64} {kk : Int → HeapP → ResP} {kx : Nat → HeapP → ResP} {K : Int → Int32} (hI : InvK K) (hF : F 218 = K) {i : Int} (hi : 0 ≤ i ∧ i ≤ 20) (hd : 1 ≤ d) : cT (callP MP d 268 [.ref 217, .int (zI i)] (mk E F G)) kk kx = kk (tI (K (170 + 9 * i))) (mk E F G) := cT_ret (by apply ct_268 <;> assumption) (tI_rg _)
theorem ct_276 {d : Nat} {E : EnQ} {F : Nat → Int → Int32} {G : Nat → Int → Int64} {K : Int → Int32} (hI : InvK K) (hF : F 218 = K) {i : Int} (hi : 0 ≤ i ∧ i ≤ 98) (hd : 1 ≤ d) : callP MP d 276 [.ref 217, .int (zI i)] (mk E F G) = some (Sum.inl (some (.int (zI (woW K i)))), mk E F G) := by

  refine into (D := 0) (by omega) hM_276 (rcv_mk rfl (by decide)) rfl fun d hd => ?_
  show runP MP d 276 (0, [some (.ref 217), some (.int (zI i))], [], _) = _
  rw [q_276_0]; (try simp only [↓n_al, li_0, li_2, li_12, li_210, zI_add, zI_sub, zI_mul, zI_neg, ↓Option.bind_some]); simp (disch := (first | assumption | exact tI_rg _ | omega | exact uR_at | exact row_ne hF (by decide) | exact row_ne (row_ne hF (by decide)) (by decide) | exact SnS_18 | exact SnS_30 | exact LdS_44 | exact LdS_46)) only [hF, ↓n_al, li_0, li_2, li_12, li_210, zI_add, zI_sub, zI_mul, zI_neg, ↓Option.bind_some, ↓g12_0, ↓al_218, ↓as_218, zIt2, uR_at, uR_ne, uR_uR, uC_uC, uC_at, ↓reduceIte, decide_eq_true_eq, leT, leF, ltT, ltF, eqT, eqF, ne_eq, not_true_eq_false, not_false_eq_true, Bool.false_eq_true, tI_zI]
  rfl
theorem cc_276 {d : Nat} {E : EnQ} {F : Nat → Int → Int32} {G : Nat → Int → Int64} {kk : Int → HeapP → ResP} {kx : Nat → HeapP → ResP} {K : Int → Int32} (hI : InvK K) (hF : F 218 = K) {i : Int} (hi : 0 ≤ i ∧ i ≤ 98) (hd : 1 ≤ d) : cT (callP MP d 276 [.ref 217, .int (zI i)] (mk E F G)) kk kx = kk (woW K i) (mk E F G) := cT_ret (by apply ct_276 <;> assumption) (tI_rg _)
theorem ct_188 {d : Nat} {E : EnQ} {F : Nat → Int → Int32} {G : Nat → Int → Int64} {a b c : Int} (ha : -9223372036854775808 ≤ a ∧ a ≤ 9223372036854775807) (hb : -9223372036854775808 ≤ b ∧ b ≤ 9223372036854775807) (hc : -9223372036854775808 ≤ c ∧ c ≤ 9223372036854775807) (hd : 1 ≤ d) : callP MP d 188 [.long (zJ a), .long (zJ b), .long (zJ c)] (mk E F G) = some (Sum.inl (some (.int (zI (if b ≤ a ∧ a ≤ c then 1 else 0)))), mk E F G) := by

  refine into (D := 0) (by omega) hM_188 rfl rfl fun d hd => ?_
  show runP MP d 188 (0, [some (.long (zJ a)), none, some (.long (zJ b)), none, some (.long (zJ c)), none], [], _) = _
  by_cases h1 : a < b
  · rw [if_neg (by omega)]; rw [q_188_0]; (try simp only [li_0, li_1, lj_0, lj_1, zJ_add, zJ_sub, zJ_mul, zJ_neg, zJ_l2i, zI_add, zI_sub, zI_mul, zI_neg, ↓Option.bind_some]); simp (disch := (first | assumption | exact tI_rg _ | omega | exact uR_at | exact row_ne hF (by decide) | exact row_ne (row_ne hF (by decide)) (by decide) | exact SnS_18 | exact SnS_30 | exact LdS_44 | exact LdS_46)) only [q_188_17, q_188_18, cmpJ_lt, cmpJ_gt, h1, retZ_z, li_0, li_1, lj_0, lj_1, zJ_add, zJ_sub, zJ_mul, zJ_neg, zJ_l2i, tJ_zJ, zI_add, zI_sub, zI_mul, zI_neg, ↓Option.bind_some, zIt2, uR_at, uR_ne, uR_uR, uC_uC, uC_at, ↓reduceIte, decide_eq_true_eq, leT, leF, ltT, ltF, eqT, eqF, ne_eq, not_true_eq_false, not_false_eq_true, Bool.false_eq_true, tI_zI]
  · by_cases h2 : c < a
    · rw [if_neg (by omega)]; rw [q_188_0]; (try simp only [li_0, li_1, lj_0, lj_1, zJ_add, zJ_sub, zJ_mul, zJ_neg, zJ_l2i, zI_add, zI_sub, zI_mul, zI_neg, ↓Option.bind_some]); simp (disch := (first | assumption | exact tI_rg _ | omega | exact uR_at | exact row_ne hF (by decide) | exact row_ne (row_ne hF (by decide)) (by decide) | exact SnS_18 | exact SnS_30 | exact LdS_44 | exact LdS_46)) only [q_188_17, q_188_18, cmpJ_lt, cmpJ_gt, h1, h2, retZ_z, li_0, li_1, lj_0, lj_1, zJ_add, zJ_sub, zJ_mul, zJ_neg, zJ_l2i, tJ_zJ, zI_add, zI_sub, zI_mul, zI_neg, ↓Option.bind_some, zIt2, uR_at, uR_ne, uR_uR, uC_uC, uC_at, ↓reduceIte, decide_eq_true_eq, leT, leF, ltT, ltF, eqT, eqF, ne_eq, not_true_eq_false, not_false_eq_true, Bool.false_eq_true, tI_zI]
    · rw [if_pos (by omega)]; rw [q_188_0]; (try simp only [li_0, li_1, lj_0, lj_1, zJ_add, zJ_sub, zJ_mul, zJ_neg, zJ_l2i, zI_add, zI_sub, zI_mul, zI_neg, ↓Option.bind_some]); simp (disch := (first | assumption | exact tI_rg _ | omega | exact uR_at | exact row_ne hF (by decide) | exact row_ne (row_ne hF (by decide)) (by decide) | exact SnS_18 | exact SnS_30 | exact LdS_44 | exact LdS_46)) only [q_188_17, q_188_18, cmpJ_lt, cmpJ_gt, h1, h2, retZ_z, li_0, li_1, lj_0, lj_1, zJ_add, zJ_sub, zJ_mul, zJ_neg, zJ_l2i, tJ_zJ, zI_add, zI_sub, zI_mul, zI_neg, ↓Option.bind_some, zIt2, uR_at, uR_ne, uR_uR, uC_uC, uC_at, ↓reduceIte, decide_eq_true_eq, leT, leF, ltT, ltF, eqT, eqF, ne_eq, not_true_eq_false, not_false_eq_true, Bool.false_eq_true, tI_zI]
theorem cc_188 {d : Nat} {E : EnQ} {F : Nat → Int → Int32} {G : Nat → Int → Int64} {kk : Int → HeapP → ResP} {kx : Nat → HeapP → ResP} {a b c : Int} (ha : -9223372036854775808 ≤ a ∧ a ≤ 9223372036854775807) (hb : -9223372036854775808 ≤ b ∧ b ≤ 9223372036854775807) (hc : -9223372036854775808 ≤ c ∧ c ≤ 9223372036854775807) (hd : 1 ≤ d) : cT (callP MP d 188 [.long (zJ a), .long (zJ b), .long (zJ c)] (mk E F G)) kk kx = kk (if b ≤ a ∧ a ≤ c then 1 else 0) (mk E F G) := cT_ret (by apply ct_188 <;> assumption) (by split <;> omega)
theorem ct_213 {d : Nat} {E : EnQ} {F : Nat → Int → Int32} {G : Nat → Int → Int64} {K : Int → Int32} (hI : InvK K) (hF : F 218 = K) {x : Int} (hx : -9223372036854775808 ≤ x ∧ x ≤ 9223372036854775807) (hd : 2 ≤ d) : callP MP d 213 [.ref 217, .long (zJ x)] (mk E F G) = some (Sum.inl (some (.int (zI (if 0 ≤ x ∧ x < tI (K 1) then 1 else 0)))), mk E F G) := by

  have hr := tI_rg (K 1)
  have h0 := hI.1.2.1
  have h1 := hI.1.2.2.2.1
  refine into (D := 1) (by omega) hM_213 (rcv_mk rfl (by decide)) rfl fun d hd => ?_
  show runP MP d 213 (0, [some (.ref 217), some (.long (zJ x)), none], [], _) = _
  rw [q_213_0]; (try simp only [↓n_cI, li_0, li_1, lj_0, lj_1, zJ_add, zJ_sub, zJ_mul, zJ_neg, zJ_l2i, zI_add, zI_sub, zI_mul, zI_neg, ↓Option.bind_some]); simp (disch := (first | assumption | exact tI_rg _ | omega | exact uR_at | exact row_ne hF (by decide) | exact row_ne (row_ne hF (by decide)) (by decide) | exact SnS_18 | exact SnS_30 | exact LdS_44 | exact LdS_46)) only [↓cc_214 hI, zI_i2l, ↓cc_188, ↓n_cI, retZ_z, li_0, li_1, lj_0, lj_1, zJ_add, zJ_sub, zJ_mul, zJ_neg, zJ_l2i, tJ_zJ, zI_add, zI_sub, zI_mul, zI_neg, ↓Option.bind_some, zIt2, uR_at, uR_ne, uR_uR, uC_uC, uC_at, ↓reduceIte, decide_eq_true_eq, leT, leF, ltT, ltF, eqT, eqF, ne_eq, not_true_eq_false, not_false_eq_true, Bool.false_eq_true, tI_zI]
  by_cases h : 0 ≤ x ∧ x < tI (K 1)
  · rw [if_pos h, if_pos (by omega)]
  · rw [if_neg h, if_neg (by omega)]
theorem cc_213 {d : Nat} {E : EnQ} {F : Nat → Int → Int32} {G : Nat → Int → Int64} {kk : Int → HeapP → ResP} {kx : Nat → HeapP → ResP} {K : Int → Int32} (hI : InvK K) (hF : F 218 = K) {x : Int} (hx : -9223372036854775808 ≤ x ∧ x ≤ 9223372036854775807) (hd : 2 ≤ d) : cT (callP MP d 213 [.ref 217, .long (zJ x)] (mk E F G)) kk kx = kk (if 0 ≤ x ∧ x < tI (K 1) then 1 else 0) (mk E F G) := cT_ret (by apply ct_213 <;> assumption) (by split <;> omega)
theorem ct_219 {d : Nat} {E : EnQ} {F : Nat → Int → Int32} {G : Nat → Int → Int64} {K : Int → Int32} (hI : InvK K) (hF : F 218 = K) {x : Int} (hx : -9223372036854775808 ≤ x ∧ x ≤ 9223372036854775807) (hd : 2 ≤ d) : callP MP d 219 [.ref 217, .long (zJ x)] (mk E F G) = some (Sum.inl (some (.int (zI (if 0 ≤ x ∧ x < tI (K 3) then 1 else 0)))), mk E F G) := by

  have hr := tI_rg (K 3)
  have h0 := hI.1.2.1
  have h1 := hI.1.2.2.2.1
  refine into (D := 1) (by omega) hM_219 (rcv_mk rfl (by decide)) rfl fun d hd => ?_
  show runP MP d 219 (0, [some (.ref 217), some (.long (zJ x)), none], [], _) = _
  rw [q_219_0]; (try simp only [↓n_cI, li_0, li_1, lj_0, lj_1, zJ_add, zJ_sub, zJ_mul, zJ_neg, zJ_l2i, zI_add, zI_sub, zI_mul, zI_neg, ↓Option.bind_some]); simp (disch := (first | assumption | exact tI_rg _ | omega | exact uR_at | exact row_ne hF (by decide) | exact row_ne (row_ne hF (by decide)) (by decide) | exact SnS_18 | exact SnS_30 | exact LdS_44 | exact LdS_46)) only [↓cc_220 hI, zI_i2l, ↓cc_188, ↓n_cI, retZ_z, li_0, li_1, lj_0, lj_1, zJ_add, zJ_sub, zJ_mul, zJ_neg, zJ_l2i, tJ_zJ, zI_add, zI_sub, zI_mul, zI_neg, ↓Option.bind_some, zIt2, uR_at, uR_ne, uR_uR, uC_uC, uC_at, ↓reduceIte, decide_eq_true_eq, leT, leF, ltT, ltF, eqT, eqF, ne_eq, not_true_eq_false, not_false_eq_true, Bool.false_eq_true, tI_zI]
  by_cases h : 0 ≤ x ∧ x < tI (K 3)
  · rw [if_pos h, if_pos (by omega)]
  · rw [if_neg h, if_neg (by omega)]
theorem cc_219 {d : Nat} {E : EnQ} {F : Nat → Int → Int32} {G : Nat → Int → Int64} {kk : Int → HeapP → ResP} {kx : Nat → HeapP → ResP} {K : Int → Int32} (hI : InvK K) (hF : F 218 = K) {x : Int} (hx : -9223372036854775808 ≤ x ∧ x ≤ 9223372036854775807) (hd : 2 ≤ d) : cT (callP MP d 219 [.ref 217, .long (zJ x)] (mk E F G)) kk kx = kk (if 0 ≤ x ∧ x < tI (K 3) then 1 else 0) (mk E F G) := cT_ret (by apply ct_219 <;> assumption) (by split <;> omega)
theorem isP_iff {K : Int → Int32} {a b : Int} {k : Nat} : isP K a b k = true ↔ (tI (K (6 + 2 * k)) = a ∧ tI (K (7 + 2 * k)) = b) ∨ (tI (K (6 + 2 * k)) = b ∧ tI (K (7 + 2 * k)) = a) := by
  unfold isP; simp only [Bool.or_eq_true, Bool.and_eq_true, beq_iff_eq]
theorem ct_202 {d : Nat} {E : EnQ} {F : Nat → Int → Int32} {G : Nat → Int → Int64} {a : Nat} {x y : Int} (hs : shx E a = (2, 0, 408)) (hx : -2147483648 ≤ x ∧ x ≤ 2147483647) (hy : -2147483648 ≤ y ∧ y ≤ 2147483647) (hK : 0 ≤ tI (F a 2) ∧ tI (F a 2) ≤ 16) (hd : 1 ≤ d) : callP MP d 202 [.ref a, .int (zI x), .int (zI y)] (mk E F G) = some (Sum.inl (some (.int (zI (pathZ (F a) x y)))), mk E F G) := by

  refine into (D := 0) (by omega) hM_202 rfl rfl fun d hd => ?_
  show runP MP d 202 (0, [some (.ref a), some (.int (zI x)), some (.int (zI y)), none, none, none], [], _) = _
  rw [q_202_0]
  refine loopS (σ := Option Value × Option Value) (Post := fun r => r = some (Sum.inl (some (.int (zI (pathZ (F a) x y)))), mk E F G))
    (fun j s => runP MP d 202 (2, [some (.ref a), some (.int (zI x)), some (.int (zI y)), some (.int (zI (j : Int))), s.1, s.2], [], mk E F G))
    (fun j _ => ∀ i, i < j → isP (F a) x y i = false) (tI (F a 2)).toNat (none, none) (fun i hi => by omega) (fun s hI => ?_) (fun j s hj hI => ?_)
  · show runP MP d 202 _ = _
    have e : pathZ (F a) x y = -1 := fndN_none (fun i _ hi => hI i (by omega))
    rw [e]; rw [q_202_2]; (try simp only [↓n_al, li_0, li_1, li_2, li_6, li_57, zI_add, zI_sub, zI_mul, zI_neg, ↓Option.bind_some]); simp (disch := (first | assumption | exact tI_rg _ | omega | exact uR_at | exact row_ne hF (by decide) | exact row_ne (row_ne hF (by decide)) (by decide) | exact SnS_18 | exact SnS_30 | exact LdS_44 | exact LdS_46)) only [q_202_0, q_202_43, q_202_55, q_202_57, alK, ↓n_al, li_0, li_1, li_2, li_6, li_57, zI_add, zI_sub, zI_mul, zI_neg, ↓Option.bind_some, zIt2, uR_at, uR_ne, uR_uR, uC_uC, uC_at, ↓reduceIte, decide_eq_true_eq, leT, leF, ltT, ltF, eqT, eqF, ne_eq, not_true_eq_false, not_false_eq_true, Bool.false_eq_true, tI_zI]
  · by_cases h : isP (F a) x y j = true
    · left
      show runP MP d 202 _ = _
      have e : pathZ (F a) x y = (j : Int) := fndN_eq (by omega) (by omega) h (fun i _ hi => hI i hi)
      rw [e]
      have h' := isP_iff.mp h
      have r1 := tI_rg (F a (6 + 2 * (j : Int)))
      have r2 := tI_rg (F a (7 + 2 * (j : Int)))
      have e7 : 6 + 2 * (j : Int) + 1 = 7 + 2 * (j : Int) := by omega
      by_cases g1 : tI (F a (6 + 2 * (j : Int))) = x
      · by_cases g2 : tI (F a (7 + 2 * (j : Int))) = y
        · rw [q_202_2]; (try simp only [↓n_al, li_0, li_1, li_2, li_6, li_57, zI_add, zI_sub, zI_mul, zI_neg, ↓Option.bind_some]); simp (disch := (first | assumption | exact tI_rg _ | omega | exact uR_at | exact row_ne hF (by decide) | exact row_ne (row_ne hF (by decide)) (by decide) | exact SnS_18 | exact SnS_30 | exact LdS_44 | exact LdS_46)) only [q_202_0, q_202_43, q_202_55, q_202_57, ↓alK, e7, ↓n_al, li_0, li_1, li_2, li_6, li_57, zI_add, zI_sub, zI_mul, zI_neg, ↓Option.bind_some, zIt2, uR_at, uR_ne, uR_uR, uC_uC, uC_at, ↓reduceIte, decide_eq_true_eq, leT, leF, ltT, ltF, eqT, eqF, ne_eq, not_true_eq_false, not_false_eq_true, Bool.false_eq_true, tI_zI]
        · exfalso; omega
      · rw [q_202_2]; (try simp only [↓n_al, li_0, li_1, li_2, li_6, li_57, zI_add, zI_sub, zI_mul, zI_neg, ↓Option.bind_some]); simp (disch := (first | assumption | exact tI_rg _ | omega | exact uR_at | exact row_ne hF (by decide) | exact row_ne (row_ne hF (by decide)) (by decide) | exact SnS_18 | exact SnS_30 | exact LdS_44 | exact LdS_46)) only [q_202_0, q_202_43, q_202_55, q_202_57, ↓alK, e7, ↓n_al, li_0, li_1, li_2, li_6, li_57, zI_add, zI_sub, zI_mul, zI_neg, ↓Option.bind_some, zIt2, uR_at, uR_ne, uR_uR, uC_uC, uC_at, ↓reduceIte, decide_eq_true_eq, leT, leF, ltT, ltF, eqT, eqF, ne_eq, not_true_eq_false, not_false_eq_true, Bool.false_eq_true, tI_zI]
    · right
      have h' := fun z => h (isP_iff.mpr z)
      have r1 := tI_rg (F a (6 + 2 * (j : Int)))
      have r2 := tI_rg (F a (7 + 2 * (j : Int)))
      have e7 : 6 + 2 * (j : Int) + 1 = 7 + 2 * (j : Int) := by omega
      refine ⟨(some (.int (zI (tI (F a (6 + 2 * (j : Int)))))), some (.int (zI (tI (F a (7 + 2 * (j : Int))))))), fun i hi => ?_, ?_⟩
      · by_cases e : i = j
        · rw [e]; cases hp : isP (F a) x y j with
          | true => exact absurd hp h
          | false => rfl
        · exact hI i (by omega)
      · show runP MP d 202 _ = runP MP d 202 _
        by_cases g1 : tI (F a (6 + 2 * (j : Int))) = x
        · by_cases g2 : tI (F a (7 + 2 * (j : Int))) = y
          · exact absurd (Or.inl ⟨g1, g2⟩) h'
          · by_cases g3 : tI (F a (6 + 2 * (j : Int))) = y
            · by_cases g4 : tI (F a (7 + 2 * (j : Int))) = x
              · exact absurd (Or.inr ⟨g3, g4⟩) h'
              · rw [q_202_2]; (try simp only [↓n_al, li_0, li_1, li_2, li_6, li_57, zI_add, zI_sub, zI_mul, zI_neg, ↓Option.bind_some]); simp (disch := (first | assumption | exact tI_rg _ | omega | exact uR_at | exact row_ne hF (by decide) | exact row_ne (row_ne hF (by decide)) (by decide) | exact SnS_18 | exact SnS_30 | exact LdS_44 | exact LdS_46)) only [q_202_0, q_202_43, q_202_55, q_202_57, ↓alK, e7, nsucc, ↓n_al, li_0, li_1, li_2, li_6, li_57, zI_add, zI_sub, zI_mul, zI_neg, ↓Option.bind_some, zIt2, uR_at, uR_ne, uR_uR, uC_uC, uC_at, ↓reduceIte, decide_eq_true_eq, leT, leF, ltT, ltF, eqT, eqF, ne_eq, not_true_eq_false, not_false_eq_true, Bool.false_eq_true, tI_zI]
            · rw [q_202_2]; (try simp only [↓n_al, li_0, li_1, li_2, li_6, li_57, zI_add, zI_sub, zI_mul, zI_neg, ↓Option.bind_some]); simp (disch := (first | assumption | exact tI_rg _ | omega | exact uR_at | exact row_ne hF (by decide) | exact row_ne (row_ne hF (by decide)) (by decide) | exact SnS_18 | exact SnS_30 | exact LdS_44 | exact LdS_46)) only [q_202_0, q_202_43, q_202_55, q_202_57, ↓alK, e7, nsucc, ↓n_al, li_0, li_1, li_2, li_6, li_57, zI_add, zI_sub, zI_mul, zI_neg, ↓Option.bind_some, zIt2, uR_at, uR_ne, uR_uR, uC_uC, uC_at, ↓reduceIte, decide_eq_true_eq, leT, leF, ltT, ltF, eqT, eqF, ne_eq, not_true_eq_false, not_false_eq_true, Bool.false_eq_true, tI_zI]
        · by_cases g3 : tI (F a (6 + 2 * (j : Int))) = y
          · by_cases g4 : tI (F a (7 + 2 * (j : Int))) = x
            · exact absurd (Or.inr ⟨g3, g4⟩) h'
            · rw [q_202_2]; (try simp only [↓n_al, li_0, li_1, li_2, li_6, li_57, zI_add, zI_sub, zI_mul, zI_neg, ↓Option.bind_some]); simp (disch := (first | assumption | exact tI_rg _ | omega | exact uR_at | exact row_ne hF (by decide) | exact row_ne (row_ne hF (by decide)) (by decide) | exact SnS_18 | exact SnS_30 | exact LdS_44 | exact LdS_46)) only [q_202_0, q_202_43, q_202_55, q_202_57, ↓alK, e7, nsucc, ↓n_al, li_0, li_1, li_2, li_6, li_57, zI_add, zI_sub, zI_mul, zI_neg, ↓Option.bind_some, zIt2, uR_at, uR_ne, uR_uR, uC_uC, uC_at, ↓reduceIte, decide_eq_true_eq, leT, leF, ltT, ltF, eqT, eqF, ne_eq, not_true_eq_false, not_false_eq_true, Bool.false_eq_true, tI_zI]
          · rw [q_202_2]; (try simp only [↓n_al, li_0, li_1, li_2, li_6, li_57, zI_add, zI_sub, zI_mul, zI_neg, ↓Option.bind_some]); simp (disch := (first | assumption | exact tI_rg _ | omega | exact uR_at | exact row_ne hF (by decide) | exact row_ne (row_ne hF (by decide)) (by decide) | exact SnS_18 | exact SnS_30 | exact LdS_44 | exact LdS_46)) only [q_202_0, q_202_43, q_202_55, q_202_57, ↓alK, e7, nsucc, ↓n_al, li_0, li_1, li_2, li_6, li_57, zI_add, zI_sub, zI_mul, zI_neg, ↓Option.bind_some, zIt2, uR_at, uR_ne, uR_uR, uC_uC, uC_at, ↓reduceIte, decide_eq_true_eq, leT, leF, ltT, ltF, eqT, eqF, ne_eq, not_true_eq_false, not_false_eq_true, Bool.false_eq_true, tI_zI]
theorem cc_202 {d : Nat} {E : EnQ} {F : Nat → Int → Int32} {G : Nat → Int → Int64} {kk : Int → HeapP → ResP} {kx : Nat → HeapP → ResP} {a : Nat} {x y : Int} (hs : shx E a = (2, 0, 408)) (hx : -2147483648 ≤ x ∧ x ≤ 2147483647) (hy : -2147483648 ≤ y ∧ y ≤ 2147483647) (hK : 0 ≤ tI (F a 2) ∧ tI (F a 2) ≤ 16) (hd : 1 ≤ d) : cT (callP MP d 202 [.ref a, .int (zI x), .int (zI y)] (mk E F G)) kk kx = kk (pathZ (F a) x y) (mk E F G) := cT_ret (by apply ct_202 <;> assumption) (by have := fndN_rg (isP (F a) x y) (tI (F a 2)).toNat 0; unfold pathZ; omega)
theorem pathZ_rg (K : Int → Int32) (x y : Int) : pathZ K x y = -1 ∨ (0 ≤ pathZ K x y ∧ pathZ K x y < (tI (K 2)).toNat) := by
  have := fndN_rg (isP K x y) (tI (K 2)).toNat 0
  unfold pathZ; omega
theorem ct_229 {d : Nat} {E : EnQ} {F : Nat → Int → Int32} {G : Nat → Int → Int64} {K : Int → Int32} (hI : InvK K) (hF : F 218 = K) {x y : Int} (hx : -2147483648 ≤ x ∧ x ≤ 2147483647) (hy : -2147483648 ≤ y ∧ y ≤ 2147483647) (hd : 2 ≤ d) : callP MP d 229 [.ref 217, .int (zI x), .int (zI y)] (mk E F G) = some (Sum.inl (some (.int (zI (wayZ K x y)))), mk E F G) := by

  have hp := pathZ_rg K x y
  have hK : 0 ≤ tI (F 218 2) ∧ tI (F 218 2) ≤ 16 := by rw [hF]; exact hI.1.2.2.1
  have hK' := hI.1.2.2.1
  refine into (D := 1) (by omega) hM_229 (rcv_mk rfl (by decide)) rfl fun d hd => ?_
  show runP MP d 229 (0, [some (.ref 217), some (.int (zI x)), some (.int (zI y)), none], [], _) = _
  unfold wayZ
  by_cases h : pathZ K x y = -1
  · rw [if_pos h]; rw [q_229_0]; (try simp only [↓n_al, ↓n_cI, li_0, li_1, li_2, li_6, li_12, zI_add, zI_sub, zI_mul, zI_neg, ↓Option.bind_some]); simp (disch := (first | assumption | exact tI_rg _ | omega | exact uR_at | exact row_ne hF (by decide) | exact row_ne (row_ne hF (by decide)) (by decide) | exact SnS_18 | exact SnS_30 | exact LdS_44 | exact LdS_46)) only [q_229_42, q_229_43, ↓cc_202 (show shx E 218 = (2, 0, 408) from rfl), hF, ↓n_al, ↓n_cI, li_0, li_1, li_2, li_6, li_12, zI_add, zI_sub, zI_mul, zI_neg, ↓Option.bind_some, ↓g12_0, ↓al_218, ↓as_218, zIt2, uR_at, uR_ne, uR_uR, uC_uC, uC_at, ↓reduceIte, decide_eq_true_eq, leT, leF, ltT, ltF, eqT, eqF, ne_eq, not_true_eq_false, not_false_eq_true, Bool.false_eq_true, tI_zI]
  · have hr := tI_rg (K (6 + 2 * pathZ K x y))
    rw [if_neg h]
    by_cases g : tI (K (6 + 2 * pathZ K x y)) = x
    · rw [if_pos g]; rw [q_229_0]; (try simp only [↓n_al, ↓n_cI, li_0, li_1, li_2, li_6, li_12, zI_add, zI_sub, zI_mul, zI_neg, ↓Option.bind_some]); simp (disch := (first | assumption | exact tI_rg _ | omega | exact uR_at | exact row_ne hF (by decide) | exact row_ne (row_ne hF (by decide)) (by decide) | exact SnS_18 | exact SnS_30 | exact LdS_44 | exact LdS_46)) only [q_229_42, q_229_43, ↓cc_202 (show shx E 218 = (2, 0, 408) from rfl), hF, ↓n_al, ↓n_cI, li_0, li_1, li_2, li_6, li_12, zI_add, zI_sub, zI_mul, zI_neg, ↓Option.bind_some, ↓g12_0, ↓al_218, ↓as_218, zIt2, uR_at, uR_ne, uR_uR, uC_uC, uC_at, ↓reduceIte, decide_eq_true_eq, leT, leF, ltT, ltF, eqT, eqF, ne_eq, not_true_eq_false, not_false_eq_true, Bool.false_eq_true, tI_zI]
    · rw [if_neg g]; rw [q_229_0]; (try simp only [↓n_al, ↓n_cI, li_0, li_1, li_2, li_6, li_12, zI_add, zI_sub, zI_mul, zI_neg, ↓Option.bind_some]); simp (disch := (first | assumption | exact tI_rg _ | omega | exact uR_at | exact row_ne hF (by decide) | exact row_ne (row_ne hF (by decide)) (by decide) | exact SnS_18 | exact SnS_30 | exact LdS_44 | exact LdS_46)) only [q_229_42, q_229_43, ↓cc_202 (show shx E 218 = (2, 0, 408) from rfl), hF, ↓n_al, ↓n_cI, li_0, li_1, li_2, li_6, li_12, zI_add, zI_sub, zI_mul, zI_neg, ↓Option.bind_some, ↓g12_0, ↓al_218, ↓as_218, zIt2, uR_at, uR_ne, uR_uR, uC_uC, uC_at, ↓reduceIte, decide_eq_true_eq, leT, leF, ltT, ltF, eqT, eqF, ne_eq, not_true_eq_false, not_false_eq_true, Bool.false_eq_true, tI_zI]
theorem cc_229 {d : Nat} {E : EnQ} {F : Nat → Int → Int32} {G : Nat → Int → Int64} {kk : Int → HeapP → ResP} {kx : Nat → HeapP → ResP} {K : Int → Int32} (hI : InvK K) (hF : F 218 = K) {x y : Int} (hx : -2147483648 ≤ x ∧ x ≤ 2147483647) (hy : -2147483648 ≤ y ∧ y ≤ 2147483647) (hd : 2 ≤ d) : cT (callP MP d 229 [.ref 217, .int (zI x), .int (zI y)] (mk E F G)) kk kx = kk (wayZ K x y) (mk E F G) := cT_ret (by apply ct_229 <;> assumption) (by have := pathZ_rg K x y; have := hI.1.2.2.1; unfold wayZ; split <;> (try split) <;> omega)
theorem ct_209 {d : Nat} {E : EnQ} {F : Nat → Int → Int32} {G : Nat → Int → Int64} {K : Int → Int32} (hI : InvK K) (hF : F 218 = K) {v : Int} (hv : -2147483648 ≤ v ∧ v ≤ 2147483647) (hd : 2 ≤ d) : callP MP d 209 [.ref 217, .int (zI v)] (mk E F G) = some (Sum.inl (some (.int (zI (cntN (fun k : Nat => prW K k == v) (tI (K 5)).toNat)))), mk E F G) := by

  have hb5 := hI.1.2.2.2.2.2.1
  have hb4 := hI.1.2.2.2.2.1
  have hb2 := hI.1.2.2.1

  refine into (D := 1) (by omega) hM_209 (rcv_mk rfl (by decide)) rfl fun d hd => ?_
  show runP MP d 209 (0, [some (.ref 217), some (.int (zI v)), none, none], [], _) = _
  rw [q_209_0]
  refine (loopN (fun j : Nat => runP MP d 209 (4, [some (.ref 217), some (.int (zI (v))), some (.int (zI (cntN (fun k : Nat => prW K k == v) j))), some (.int (zI ((j : Nat))))], [], mk E F G)) ((tI (K 5)).toNat) (fun j hj => ?_)).trans ?_
  · show runP MP d 209 (4, [some (.ref 217), some (.int (zI (v))), some (.int (zI (cntN (fun k : Nat => prW K k == v) j))), some (.int (zI ((j : Nat))))], [], mk E F G) = runP MP d 209 (4, [some (.ref 217), some (.int (zI (v))), some (.int (zI (cntN (fun k : Nat => prW K k == v) (j + 1)))), some (.int (zI (((j + 1) : Nat))))], [], mk E F G)
    have hc := cntN_rg (fun k : Nat => prW K k == v) j
    have hr := tI_rg (K (46 + 2 * (j : Int)))
    have hr2 : -2147483648 ≤ prW K (j : Int) ∧ prW K (j : Int) ≤ 2147483647 := hr
    by_cases h : prW K (j : Int) = v
    · rw [cntN_pos (by exact beq_iff_eq.mpr h), nsucc]
      rw [q_209_4]; (try simp only [↓n_cI, li_0, li_1, li_4, li_210, zI_add, zI_sub, zI_mul, zI_neg, ↓Option.bind_some]); simp (disch := (first | assumption | exact tI_rg _ | omega | exact uR_at | exact row_ne hF (by decide) | exact row_ne (row_ne hF (by decide)) (by decide) | exact SnS_18 | exact SnS_30 | exact LdS_44 | exact LdS_46)) only [q_209_0, q_209_27, ↓cc_210 hI, ↓cc_211 hI, ↓n_cI, li_0, li_1, li_4, li_210, zI_add, zI_sub, zI_mul, zI_neg, ↓Option.bind_some, zIt2, uR_at, uR_ne, uR_uR, uC_uC, uC_at, ↓reduceIte, decide_eq_true_eq, leT, leF, ltT, ltF, eqT, eqF, ne_eq, not_true_eq_false, not_false_eq_true, Bool.false_eq_true, tI_zI]
    · rw [cntN_neg (by exact fun z => h (beq_iff_eq.mp z)), nsucc]
      rw [q_209_4]; (try simp only [↓n_cI, li_0, li_1, li_4, li_210, zI_add, zI_sub, zI_mul, zI_neg, ↓Option.bind_some]); simp (disch := (first | assumption | exact tI_rg _ | omega | exact uR_at | exact row_ne hF (by decide) | exact row_ne (row_ne hF (by decide)) (by decide) | exact SnS_18 | exact SnS_30 | exact LdS_44 | exact LdS_46)) only [q_209_0, q_209_27, ↓cc_210 hI, ↓cc_211 hI, Int.add_zero, ↓n_cI, li_0, li_1, li_4, li_210, zI_add, zI_sub, zI_mul, zI_neg, ↓Option.bind_some, zIt2, uR_at, uR_ne, uR_uR, uC_uC, uC_at, ↓reduceIte, decide_eq_true_eq, leT, leF, ltT, ltF, eqT, eqF, ne_eq, not_true_eq_false, not_false_eq_true, Bool.false_eq_true, tI_zI]
  · show runP MP d 209 (4, [some (.ref 217), some (.int (zI (v))), some (.int (zI (cntN (fun k : Nat => prW K k == v) ((tI (K 5)).toNat)))), some (.int (zI ((((tI (K 5)).toNat) : Nat))))], [], mk E F G) = _
    rw [q_209_4]; (try simp only [↓n_cI, li_0, li_1, li_4, li_210, zI_add, zI_sub, zI_mul, zI_neg, ↓Option.bind_some]); simp (disch := (first | assumption | exact tI_rg _ | omega | exact uR_at | exact row_ne hF (by decide) | exact row_ne (row_ne hF (by decide)) (by decide) | exact SnS_18 | exact SnS_30 | exact LdS_44 | exact LdS_46)) only [q_209_0, q_209_27, ↓cc_210 hI, ↓n_cI, li_0, li_1, li_4, li_210, zI_add, zI_sub, zI_mul, zI_neg, ↓Option.bind_some, zIt2, uR_at, uR_ne, uR_uR, uC_uC, uC_at, ↓reduceIte, decide_eq_true_eq, leT, leF, ltT, ltF, eqT, eqF, ne_eq, not_true_eq_false, not_false_eq_true, Bool.false_eq_true, tI_zI]
theorem cc_209 {d : Nat} {E : EnQ} {F : Nat → Int → Int32} {G : Nat → Int → Int64} {kk : Int → HeapP → ResP} {kx : Nat → HeapP → ResP} {K : Int → Int32} (hI : InvK K) (hF : F 218 = K) {v : Int} (hv : -2147483648 ≤ v ∧ v ≤ 2147483647) (hd : 2 ≤ d) : cT (callP MP d 209 [.ref 217, .int (zI v)] (mk E F G)) kk kx = kk (cntN (fun k : Nat => prW K k == v) (tI (K 5)).toNat) (mk E F G) := cT_ret (by apply ct_209 <;> assumption) (by have := cntN_rg (fun k : Nat => prW K k == v) (tI (K 5)).toNat; have := hI.1.2.2.2.2.2.1; have := hI.1.2.2.2.2.1; omega)
end S93e
