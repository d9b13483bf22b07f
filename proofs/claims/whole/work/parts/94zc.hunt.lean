/-! MODEL: hunts, hunter, meets -/
section S94zc
set_option linter.unusedVariables false
set_option linter.unusedSimpArgs false
/-- sets of places reached by as many steps, and how far -/
theorem W_far {fr to : Nat → Int} {ok : Nat → Bool} {n m : Nat} {x : Int} {W : Nat → Nat} (h0 : ∀ p : Nat, (W 0).testBit p = true ↔ (p : Int) = x)
    (hs : ∀ k (p : Nat), (W (k + 1)).testBit p = true ↔ ∃ v, v < n ∧ ok v = true ∧ to v = (p : Int) ∧ (W k).testBit (fr v).toNat = true) (hf : ∀ v, v < n → 0 ≤ fr v ∧ fr v < m) :
    ∀ (k p : Nat), ((W k).testBit p = true → farN fr to ok n x k p ≠ -1) ∧ (farN fr to ok n x k p = k → (W k).testBit p = true) := by
  intro k
  induction k with
  | zero =>
    intro p
    have e : farN fr to ok n x 0 p = if (p : Int) = x then 0 else -1 := rfl
    constructor
    · intro h; rw [e, if_pos ((h0 p).mp h)]; omega
    · intro h
      by_cases g : (p : Int) = x
      · exact (h0 p).mpr g
      · rw [e, if_neg g] at h; omega
  | succ k ih =>
    intro p
    constructor
    · intro h
      obtain ⟨v, v1, v2, v3, v4⟩ := (hs k p).mp h
      have hfv := hf v v1
      have i1 := (ih (fr v).toNat).1 v4
      rw [show (((fr v).toNat : Nat) : Int) = fr v by omega] at i1
      have hr := far_rg (fr := fr) (to := to) (ok := ok) (n := n) (x := x) k (fr v)
      have i2 := far_at k i1
      have i3 : farN fr to ok n x ((farN fr to ok n x k (fr v)).toNat + 1) p ≠ -1 := by
        by_cases g : farN fr to ok n x (farN fr to ok n x k (fr v)).toNat p = -1
        · rw [far_new g v1 v2 v3 (by rw [i2]; omega)]; omega
        · rw [far_up g ((farN fr to ok n x k (fr v)).toNat + 1) (by omega)]; exact g
      rw [far_up i3 (k + 1) (by omega)]; exact i3
    · intro h
      obtain ⟨h1, v, v1, v2, v3, v4⟩ := far_step (k := k) h
      have hfv := hf v v1
      refine (hs k p).mpr ⟨v, v1, v2, v3, (ih (fr v).toNat).2 ?_⟩
      rw [show (((fr v).toNat : Nat) : Int) = fr v by omega]; exact v4
theorem few_far {fr to : Nat → Int} {ok : Nat → Bool} {n m : Nat} {x : Int} {W : Nat → Nat} (h0 : ∀ p : Nat, (W 0).testBit p = true ↔ (p : Int) = x)
    (hs : ∀ k (p : Nat), (W (k + 1)).testBit p = true ↔ ∃ v, v < n ∧ ok v = true ∧ to v = (p : Int) ∧ (W k).testBit (fr v).toNat = true) (hf : ∀ v, v < n → 0 ≤ fr v ∧ fr v < m) (hm : m ≤ 10) {p : Nat} (hp : p < m) :
    fndN (fun k => (W k).testBit p) 10 0 = farN fr to ok n x m p := by
  have hW := W_far h0 hs hf
  have hr := far_rg (fr := fr) (to := to) (ok := ok) (n := n) (x := x) m p
  by_cases e : farN fr to ok n x m p = -1
  · rw [e]
    refine fndN_none (fun k _ hk => Bool.eq_false_iff.mpr (fun z => ?_))
    have h1 := (hW k p).1 z
    by_cases g : k ≤ m
    · rw [far_up h1 m g] at e; exact h1 e
    · rw [far_end hf (show m ≤ m + 1 by omega) (show m ≤ k by omega) p hp] at h1; exact h1 e
  · have h2 := far_at m e
    have h3 := far_lt (to := to) (ok := ok) (x := x) hf m p hp
    have h4 := (hW (farN fr to ok n x m p).toNat p).2 (by rw [h2]; omega)
    have h5 := fndN_eq (p := fun k => (W k).testBit p) (m := 10) (j := 0) (k := (farN fr to ok n x m p).toNat) (by omega) (by omega) h4 (fun i _ hi => Bool.eq_false_iff.mpr (fun z => by
      have h6 := (hW i p).1 z
      have h7 := far_rg (fr := fr) (to := to) (ok := ok) (n := n) (x := x) i p
      have h8 := far_up h6 m (by omega)
      omega))
    rw [h5]; omega
theorem bitN_bit {x : Int} (hx : 0 ≤ x) (p : Nat) : (bitN x).testBit p = true ↔ (p : Int) = x := by
  unfold bitN
  rw [Nat.testBit_two_pow, decide_eq_true_eq]; omega
theorem gon_bit {fr to : Nat → Int} {n s p : Nat} (ht : ∀ k, k < n → 0 ≤ to k) : (gonN fr to n s).testBit p = true ↔ ∃ k, k < n ∧ to k = (p : Int) ∧ s.testBit (fr k).toNat = true := by
  unfold gonN
  rw [orN_bit]
  constructor
  · rintro ⟨k, hk, hb⟩
    by_cases e : s.testBit (fr k).toNat = true
    · rw [if_pos e] at hb
      exact ⟨k, hk, ((bitN_bit (ht k hk) p).mp hb).symm, e⟩
    · rw [if_neg e] at hb; simp at hb
  · rintro ⟨k, hk, h1, h2⟩
    refine ⟨k, hk, ?_⟩
    rw [if_pos h2]; exact (bitN_bit (ht k hk) p).mpr h1.symm
/-- by paths; by prints -/
theorem few_path {K : Int → Int32} (hI : InvK K) {x y : Int} (hx : 0 ≤ x) (hy : 0 ≤ y ∧ y < tI (K 1)) : fndN (fun k => (itN (gonN (wFr K) (wTo K) (2 * tI (K 2)).toNat) (bitN x) k).testBit y.toNat) 10 0 = farZ K 0 x (tI (K 1)).toNat y := by
  have hb1 := hI.1.2.1
  have hb2 := hI.1.2.2.1
  have := few_far (fr := wFr K) (to := wTo K) (ok := wOk K 0) (n := (2 * tI (K 2)).toNat) (m := (tI (K 1)).toNat) (x := x) (W := itN (gonN (wFr K) (wTo K) (2 * tI (K 2)).toNat) (bitN x)) (bitN_bit hx) (fun k p => by
    show (gonN (wFr K) (wTo K) (2 * tI (K 2)).toNat (itN (gonN (wFr K) (wTo K) (2 * tI (K 2)).toNat) (bitN x) k)).testBit p = true ↔ _
    rw [gon_bit (fr := wFr K) (to := wTo K) (fun k hk => (to_in hI (v := (k : Int)) (by omega)).1)]
    constructor
    · rintro ⟨v, v1, v2, v3⟩; exact ⟨v, v1, decide_eq_true (Or.inl rfl), v2, v3⟩
    · rintro ⟨v, v1, -, v2, v3⟩; exact ⟨v, v1, v2, v3⟩) (fun v hv => by have := from_in hI (v := (v : Int)) (by omega); unfold wFr; omega) (by omega) (p := y.toNat) (by omega)
  rw [show ((y.toNat : Nat) : Int) = y by omega] at this
  exact this
theorem gon_kept {K : Int → Int32} : gonN (kFr K 0) (kTo K 0) (tI (K 5) - 0).toNat = onN K := by
  funext s
  unfold gonN onN kFr kTo
  rw [show tI (K 5) - 0 = tI (K 5) by omega]
  refine orN_congr (fun j _ => ?_)
  rw [show (0 : Int) + (j : Int) = (j : Int) by omega]
theorem few_print {K : Int → Int32} (hI : InvK K) {x y : Int} (hx : 0 ≤ x) (hy : 0 ≤ y ∧ y < tI (K 1)) : fndN (fun k => (itN (onN K) (bitN x) k).testBit y.toNat) 10 0 = farZ K 1 x (tI (K 1)).toNat y := by
  have hb1 := hI.1.2.1
  have hb2 := hI.1.2.2.1
  have hpr : ∀ k, k < (tI (K 5) - 0).toNat → (0 ≤ prW K (0 + (k : Int)) ∧ prW K (0 + (k : Int)) < 2 * tI (K 2)) := fun k hk => (pr_in hI (i := 0 + (k : Int)) (by omega) (by omega)).1
  have := few_far (fr := wFr K) (to := wTo K) (ok := wOk K 1) (n := (2 * tI (K 2)).toNat) (m := (tI (K 1)).toNat) (x := x) (W := itN (onN K) (bitN x)) (bitN_bit hx) (fun k p => by
    show (onN K (itN (onN K) (bitN x) k)).testBit p = true ↔ _
    generalize itN (onN K) (bitN x) k = s
    rw [← gon_kept, gon_bit (fr := kFr K 0) (to := kTo K 0) (fun k hk => (to_in hI (hpr k hk)).1)]
    constructor
    · rintro ⟨v, v1, v2, v3⟩
      have hv := hpr v v1
      have en : (((prW K (0 + (v : Int))).toNat : Nat) : Int) = prW K (0 + (v : Int)) := by omega
      refine ⟨(prW K (0 + (v : Int))).toNat, by omega, decide_eq_true (Or.inr (fun z => ?_)), ?_, ?_⟩
      · have := cntN_z.mp z v (by omega)
        rw [beq_eq_false_iff_ne, en, show (0 : Int) + (v : Int) = (v : Int) by omega] at this
        exact this rfl
      · show toZ K _ = _; rw [en]; exact v2
      · show s.testBit (fromZ K _).toNat = true; rw [en]; exact v3
    · rintro ⟨v, v1, v2, v3, v4⟩
      have hc : wcN K v ≠ 0 := by rcases (decide_eq_true_iff.mp v2) with z | z
                                  · omega
                                  · exact z
      by_cases q : ∃ k, k < (tI (K 5)).toNat ∧ prW K (k : Int) = (v : Int)
      · obtain ⟨k, k1, k2⟩ := q
        refine ⟨k, by omega, ?_, ?_⟩
        · show toZ K (prW K (0 + (k : Int))) = _; rw [show (0 : Int) + (k : Int) = (k : Int) by omega, k2]; exact v3
        · show s.testBit (fromZ K (prW K (0 + (k : Int)))).toNat = true; rw [show (0 : Int) + (k : Int) = (k : Int) by omega, k2]; exact v4
      · exact absurd (cntN_z.mpr (fun j hj => by rw [beq_eq_false_iff_ne]; exact fun z => q ⟨j, hj, z⟩)) hc) (fun v hv => by have := from_in hI (v := (v : Int)) (by omega); unfold wFr; omega) (by omega) (p := y.toNat) (by omega)
  rw [show ((y.toNat : Nat) : Int) = y by omega] at this
  exact this
def a_hunts (K : Int → Int32) (x y : Int) : Int × Int := if 0 ≤ x ∧ x < tI (K 1) then (if 0 ≤ y ∧ y < tI (K 1) then (0, farZ K 1 x (tI (K 1)).toNat y) else (1, 0)) else (1, 0)
theorem ml_hunts {d : Nat} {E : EnQ} {F : Nat → Int → Int32} {G : Nat → Int → Int64} {K : Int → Int32} (hI : InvK K) (hF : F 218 = K) {x y : Int} (hx : -2147483648 ≤ x ∧ x ≤ 2147483647) (hy : -2147483648 ≤ y ∧ y ≤ 2147483647) (hd : 4 ≤ d) : ∃ F1, callP MP d 261 [.ref 217, .int (zI x), .int (zI y)] (mk E F G) = some (Sum.inl (some (.int (zI (a_hunts K x y).2))), mk E F1 G) ∧ F1 217 5 = zI (a_hunts K x y).1 ∧ KeepM F G F1 G := by
  have hb1 := hI.1.2.1
  by_cases c1 : 0 ≤ x ∧ x < tI (K 1)
  · by_cases c2 : 0 ≤ y ∧ y < tI (K 1)
    · have ha : a_hunts K x y = (0, farZ K 1 x (tI (K 1)).toNat y) := (if_pos c1).trans (if_pos c2)
      rw [ha]
      obtain ⟨r, r1, r2⟩ := ct_215 (d := d - 1) (E := E) (F := uR F 217 (uC (F 217) 5 (zI 0))) (G := G) hI (row_ne hF (by decide)) c1 (Or.inr rfl) (by omega)
      have ey := r2 y c2.1 (by omega)
      have hr : farZ K 1 x (tI (K 1)).toNat y = -1 ∨ (0 ≤ farZ K 1 x (tI (K 1)).toNat y ∧ farZ K 1 x (tI (K 1)).toNat y ≤ (tI (K 1)).toNat) := far_rg _ _
      refine ⟨uR (uR F 217 (uC (F 217) 5 (zI 0))) 224 r, ?_, by rw [uR_ne (by decide), uR_at, uC_at], (KeepM_217 (k := 5) (by omega)).tr (KeepM_row (q := 224) (by omega))⟩
      show (_ : ResP) = some (Sum.inl (some (.int (zI (farZ K 1 x (tI (K 1)).toNat y)))), _)
      obtain ⟨e, rfl⟩ : ∃ e, d = e + 1 := ⟨d - 1, by omega⟩
      have hin : callP MP (e + 1) 261 [.ref 217, .int (zI x), .int (zI y)] (mk E F G) = runP MP e 261 (0, [some (.ref 217), some (.int (zI x)), some (.int (zI y))], [], mk E F G) := into_eq (by omega) hM_261 (rcv_mk rfl (by decide)) rfl
      have r1 : callP MP e 215 [.ref 217, .int (zI x), .int (zI 1)] (mk E (uR F 217 (uC (F 217) 5 (zI 0))) G) = some (Sum.inl none, mk E (uR (uR F 217 (uC (F 217) 5 (zI 0))) 224 r) G) := r1
      have h215 : ∀ {kk : HeapP → ResP} {kx : Nat → HeapP → ResP}, cV (callP MP e 215 [.ref 217, .int (zI x), .int (zI 1)] (mk E (uR F 217 (uC (F 217) 5 (zI 0))) G)) kk kx = kk (mk E (uR (uR F 217 (uC (F 217) 5 (zI 0))) 224 r) G) := fun {kk kx} => cV_ret r1
      rw [hin]
      rw [q_261_0]; (try simp only [↓n_al, ↓n_cI, li_0, li_1, li_5, li_12, lj_0, lj_1, lj_5, lj_12, zJ_add, zJ_sub, zJ_mul, zJ_neg, zJ_l2i, zI_add, zI_sub, zI_mul, zI_neg, ↓Option.bind_some]); simp (disch := (first | assumption | exact tI_rg _ | omega | exact uR_at | exact row_ne hF (by decide) | exact row_ne (row_ne hF (by decide)) (by decide) | exact SnS_18 | exact SnS_30 | exact LdS_44 | exact LdS_46)) only [q_261_23, ↓cc_213t hI, ↓h215, ey, zI_i2l, ↓n_al, ↓n_cI, li_0, li_1, li_5, li_12, lj_0, lj_1, lj_5, lj_12, zJ_add, zJ_sub, zJ_mul, zJ_neg, zJ_l2i, tJ_zJ, zI_add, zI_sub, zI_mul, zI_neg, ↓Option.bind_some, ↓g12_17, ↓p12_5, ↓al_224, ↓as_224, zIt2, uR_at, uR_ne, uR_uR, uC_uC, uC_at, ↓reduceIte, decide_eq_true_eq, leT, leF, ltT, ltF, eqT, eqF, ne_eq, not_true_eq_false, not_false_eq_true, Bool.false_eq_true, tI_zI]
    · have ha : a_hunts K x y = (1, 0) := (if_pos c1).trans (if_neg c2)
      rw [ha]
      refine ⟨uR F 217 (uC (F 217) 5 (zI 1)), ?_, by rw [uR_at, uC_at], KeepM_c⟩
      show (_ : ResP) = some (Sum.inl (some (.int (zI 0))), _)
      refine into (D := 3) (by omega) hM_261 (rcv_mk rfl (by decide)) rfl fun d hd => ?_
      show runP MP d 261 (0, [some (.ref 217), some (.int (zI x)), some (.int (zI y))], [], _) = _
      rw [q_261_0]; (try simp only [↓n_al, ↓n_cI, li_0, li_1, li_5, li_12, lj_0, lj_1, lj_5, lj_12, zJ_add, zJ_sub, zJ_mul, zJ_neg, zJ_l2i, zI_add, zI_sub, zI_mul, zI_neg, ↓Option.bind_some]); simp (disch := (first | assumption | exact tI_rg _ | omega | exact uR_at | exact row_ne hF (by decide) | exact row_ne (row_ne hF (by decide)) (by decide) | exact SnS_18 | exact SnS_30 | exact LdS_44 | exact LdS_46)) only [q_261_23, ↓cc_213t hI, ↓cc_213f hI, ↓cc_189, zI_i2l, ↓n_al, ↓n_cI, li_0, li_1, li_5, li_12, lj_0, lj_1, lj_5, lj_12, zJ_add, zJ_sub, zJ_mul, zJ_neg, zJ_l2i, tJ_zJ, zI_add, zI_sub, zI_mul, zI_neg, ↓Option.bind_some, ↓g12_17, ↓p12_5, ↓al_224, ↓as_224, zIt2, uR_at, uR_ne, uR_uR, uC_uC, uC_at, ↓reduceIte, decide_eq_true_eq, leT, leF, ltT, ltF, eqT, eqF, ne_eq, not_true_eq_false, not_false_eq_true, Bool.false_eq_true, tI_zI]
  · have ha : a_hunts K x y = (1, 0) := if_neg c1
    rw [ha]
    refine ⟨uR F 217 (uC (F 217) 5 (zI 1)), ?_, by rw [uR_at, uC_at], KeepM_c⟩
    show (_ : ResP) = some (Sum.inl (some (.int (zI 0))), _)
    refine into (D := 3) (by omega) hM_261 (rcv_mk rfl (by decide)) rfl fun d hd => ?_
    show runP MP d 261 (0, [some (.ref 217), some (.int (zI x)), some (.int (zI y))], [], _) = _
    rw [q_261_0]; (try simp only [↓n_al, ↓n_cI, li_0, li_1, li_5, li_12, lj_0, lj_1, lj_5, lj_12, zJ_add, zJ_sub, zJ_mul, zJ_neg, zJ_l2i, zI_add, zI_sub, zI_mul, zI_neg, ↓Option.bind_some]); simp (disch := (first | assumption | exact tI_rg _ | omega | exact uR_at | exact row_ne hF (by decide) | exact row_ne (row_ne hF (by decide)) (by decide) | exact SnS_18 | exact SnS_30 | exact LdS_44 | exact LdS_46)) only [q_261_23, ↓cc_213f hI, ↓cc_189, zI_i2l, ↓n_al, ↓n_cI, li_0, li_1, li_5, li_12, lj_0, lj_1, lj_5, lj_12, zJ_add, zJ_sub, zJ_mul, zJ_neg, zJ_l2i, tJ_zJ, zI_add, zI_sub, zI_mul, zI_neg, ↓Option.bind_some, ↓g12_17, ↓p12_5, ↓al_224, ↓as_224, zIt2, uR_at, uR_ne, uR_uR, uC_uC, uC_at, ↓reduceIte, decide_eq_true_eq, leT, leF, ltT, ltF, eqT, eqF, ne_eq, not_true_eq_false, not_false_eq_true, Bool.false_eq_true, tI_zI]
theorem onN_lt {K : Int → Int32} (hI : InvK K) (s : Nat) : onN K s < 1024 := by
  rw [← gon_kept]
  exact gonN_lt (fun k hk => by have := to_in hI (pr_in hI (i := 0 + (k : Int)) (by omega) (by omega)).1; have := hI.1.2.1; unfold kTo; omega) s
def owN (K : Int → Int32) (s : Nat) : Nat := gonN (oFr K) (oTo K) (tI (K 169)).toNat s
theorem owN_lt {K : Int → Int32} (hI : InvK K) (s : Nat) : owN K s < 1024 :=
  gonN_lt (fun k hk => by have := to_in hI (wo_in hI (i := (k : Int)) (by omega) (by omega)).1; have := hI.1.2.1; unfold oTo; omega) s
def a_hunter (K : Int → Int32) (x y : Int) : Int × Int := if 0 ≤ x ∧ x < tI (K 1) then (if 0 ≤ y ∧ y ≤ 60 then (0, ((itN (onN K) (bitN x) y.toNat : Nat) : Int)) else (2, 0)) else (1, 0)
theorem ml_hunter {d : Nat} {E : EnQ} {F : Nat → Int → Int32} {G : Nat → Int → Int64} {K : Int → Int32} (hI : InvK K) (hF : F 218 = K) {x y : Int} (hx : -2147483648 ≤ x ∧ x ≤ 2147483647) (hy : -2147483648 ≤ y ∧ y ≤ 2147483647) (hd : 3 ≤ d) : callP MP d 260 [.ref 217, .int (zI x), .int (zI y)] (mk E F G) = some (Sum.inl (some (.int (zI (a_hunter K x y).2))), mk E (uR F 217 (uC (F 217) 5 (zI (a_hunter K x y).1))) G) := by
  have hb5 := hI.1.2.2.2.2.2.1
  have hb4 := hI.1.2.2.2.2.1
  have hb2 := hI.1.2.2.1
  have hb1 := hI.1.2.1
  have hb8 := hI.1.2.2.2.2.2.2.2.2.1
  have hb9 := hI.1.2.2.2.2.2.2.2.2.2
  by_cases c1 : 0 ≤ x ∧ x < tI (K 1)
  · by_cases c2 : 0 ≤ y ∧ y ≤ 60
    · have ha : a_hunter K x y = (0, ((itN (onN K) (bitN x) y.toNat : Nat) : Int)) := (if_pos c1).trans (if_pos c2)
      rw [ha]
      show (_ : ResP) = some (Sum.inl (some (.int (zI ((itN (onN K) (bitN x) y.toNat : Nat) : Int)))), mk E (uR F 217 (uC (F 217) 5 (zI 0))) G)
      refine into (D := 2) (by omega) hM_260 (rcv_mk rfl (by decide)) rfl fun d hd => ?_
      show runP MP d 260 (0, [some (.ref 217), some (.int (zI x)), some (.int (zI y)), none, none, none, none], [], _) = _
      have hF1 : uR F 217 (uC (F 217) 5 (zI 0)) 218 = K := row_ne hF (by decide)
      have hbx := bit_lt (x := x) (by omega)
      have hin : ∀ (j s : Nat) (z5 z6 : Option Value), s < 1024 → runP MP d 260 (62, [some (.ref 217), some (.int (zI x)), some (.int (zI y)), some (.int (zI (s : Int))), some (.int (zI (j : Int))), some (.int (zI 0)), some (.int (zI 0))], [], mk E (uR F 217 (uC (F 217) 5 (zI 0))) G) = runP MP d 260 (50, [some (.ref 217), some (.int (zI x)), some (.int (zI y)), some (.int (zI ((onN K s : Nat) : Int))), some (.int (zI ((j : Int) + 1))), some (.int (zI ((onN K s : Nat) : Int))), some (.int (zI ((tI (K 5)).toNat : Int)))], [], mk E (uR F 217 (uC (F 217) 5 (zI 0))) G) := by
        intro j s z5 z6 hs
        unfold onN
        refine (loopN (fun i : Nat => runP MP d 260 (62, [some (.ref 217), some (.int (zI x)), some (.int (zI y)), some (.int (zI (s : Int))), some (.int (zI (j : Int))), some (.int (zI ((orN (fun k : Nat => if s.testBit (fromZ K (prW K k)).toNat = true then bitN (toZ K (prW K k)) else 0) i : Nat) : Int))), some (.int (zI (i : Nat)))], [], mk E (uR F 217 (uC (F 217) 5 (zI 0))) G)) ((tI (K 5)).toNat) (fun i hi => ?_)).trans ?_
        · show runP MP d 260 (62, [some (.ref 217), some (.int (zI x)), some (.int (zI y)), some (.int (zI (s : Int))), some (.int (zI (j : Int))), some (.int (zI ((orN (fun k : Nat => if s.testBit (fromZ K (prW K k)).toNat = true then bitN (toZ K (prW K k)) else 0) i : Nat) : Int))), some (.int (zI (i : Nat)))], [], mk E (uR F 217 (uC (F 217) 5 (zI 0))) G) = runP MP d 260 (62, [some (.ref 217), some (.int (zI x)), some (.int (zI y)), some (.int (zI (s : Int))), some (.int (zI (j : Int))), some (.int (zI ((orN (fun k : Nat => if s.testBit (fromZ K (prW K k)).toNat = true then bitN (toZ K (prW K k)) else 0) (i + 1) : Nat) : Int))), some (.int (zI ((i + 1) : Nat)))], [], mk E (uR F 217 (uC (F 217) 5 (zI 0))) G)
          have hw := (pr_in hI (i := (i : Int)) (by omega) (by omega)).1
          have h1 := from_in hI hw
          have h2 := to_in hI hw
          rw [orN_succ, nsucc]
          by_cases h : s.testBit (fromZ K (prW K (i : Int))).toNat = true
          · rw [if_pos h]
            rw [q_260_62]; (try simp only [↓n_rd, ↓n_cI, li_0, li_1, li_2, li_5, li_12, li_31, li_60, li_210, lj_0, lj_1, lj_2, lj_5, lj_12, lj_60, zJ_add, zJ_sub, zJ_mul, zJ_neg, zJ_l2i, zI_add, zI_sub, zI_mul, zI_neg, ↓Option.bind_some]); simp (disch := (first | assumption | exact tI_rg _ | omega | exact uR_at | exact row_ne hF (by decide) | exact row_ne (row_ne hF (by decide)) (by decide) | exact SnS_18 | exact SnS_30 | exact LdS_44 | exact LdS_46)) only [q_260_0, q_260_31, q_260_107, ↓cc_210 hI, ↓cc_211 hI, ↓cc_216 hI, ↓cc_217 hI, shr_bit, if_pos h, shlB, orZ, ↓n_rd, ↓n_cI, li_0, li_1, li_2, li_5, li_12, li_31, li_60, li_210, lj_0, lj_1, lj_2, lj_5, lj_12, lj_60, zJ_add, zJ_sub, zJ_mul, zJ_neg, zJ_l2i, tJ_zJ, zI_add, zI_sub, zI_mul, zI_neg, ↓Option.bind_some, ↓g12_5, ↓p12_5, zIt2, uR_at, uR_ne, uR_uR, uC_uC, uC_at, ↓reduceIte, decide_eq_true_eq, leT, leF, ltT, ltF, eqT, eqF, ne_eq, not_true_eq_false, not_false_eq_true, Bool.false_eq_true, tI_zI]
          · rw [if_neg h]
            rw [q_260_62]; (try simp only [↓n_rd, ↓n_cI, li_0, li_1, li_2, li_5, li_12, li_31, li_60, li_210, lj_0, lj_1, lj_2, lj_5, lj_12, lj_60, zJ_add, zJ_sub, zJ_mul, zJ_neg, zJ_l2i, zI_add, zI_sub, zI_mul, zI_neg, ↓Option.bind_some]); simp (disch := (first | assumption | exact tI_rg _ | omega | exact uR_at | exact row_ne hF (by decide) | exact row_ne (row_ne hF (by decide)) (by decide) | exact SnS_18 | exact SnS_30 | exact LdS_44 | exact LdS_46)) only [q_260_0, q_260_31, q_260_107, ↓cc_210 hI, ↓cc_211 hI, ↓cc_216 hI, shr_bit, if_neg h, or0, ↓n_rd, ↓n_cI, li_0, li_1, li_2, li_5, li_12, li_31, li_60, li_210, lj_0, lj_1, lj_2, lj_5, lj_12, lj_60, zJ_add, zJ_sub, zJ_mul, zJ_neg, zJ_l2i, tJ_zJ, zI_add, zI_sub, zI_mul, zI_neg, ↓Option.bind_some, ↓g12_5, ↓p12_5, zIt2, uR_at, uR_ne, uR_uR, uC_uC, uC_at, ↓reduceIte, decide_eq_true_eq, leT, leF, ltT, ltF, eqT, eqF, ne_eq, not_true_eq_false, not_false_eq_true, Bool.false_eq_true, tI_zI]
        · show runP MP d 260 (62, [some (.ref 217), some (.int (zI x)), some (.int (zI y)), some (.int (zI (s : Int))), some (.int (zI (j : Int))), some (.int (zI ((orN (fun k : Nat => if s.testBit (fromZ K (prW K k)).toNat = true then bitN (toZ K (prW K k)) else 0) ((tI (K 5)).toNat) : Nat) : Int))), some (.int (zI (((tI (K 5)).toNat) : Nat)))], [], mk E (uR F 217 (uC (F 217) 5 (zI 0))) G) = _
          rw [q_260_62]; (try simp only [↓n_rd, ↓n_cI, li_0, li_1, li_2, li_5, li_12, li_31, li_60, li_210, lj_0, lj_1, lj_2, lj_5, lj_12, lj_60, zJ_add, zJ_sub, zJ_mul, zJ_neg, zJ_l2i, zI_add, zI_sub, zI_mul, zI_neg, ↓Option.bind_some]); simp (disch := (first | assumption | exact tI_rg _ | omega | exact uR_at | exact row_ne hF (by decide) | exact row_ne (row_ne hF (by decide)) (by decide) | exact SnS_18 | exact SnS_30 | exact LdS_44 | exact LdS_46)) only [q_260_0, q_260_31, q_260_107, ↓cc_210 hI, ↓n_rd, ↓n_cI, li_0, li_1, li_2, li_5, li_12, li_31, li_60, li_210, lj_0, lj_1, lj_2, lj_5, lj_12, lj_60, zJ_add, zJ_sub, zJ_mul, zJ_neg, zJ_l2i, tJ_zJ, zI_add, zI_sub, zI_mul, zI_neg, ↓Option.bind_some, ↓g12_5, ↓p12_5, zIt2, uR_at, uR_ne, uR_uR, uC_uC, uC_at, ↓reduceIte, decide_eq_true_eq, leT, leF, ltT, ltF, eqT, eqF, ne_eq, not_true_eq_false, not_false_eq_true, Bool.false_eq_true, tI_zI]
      have hl : runP MP d 260 (50, [some (.ref 217), some (.int (zI x)), some (.int (zI y)), some (.int (zI ((bitN x : Nat) : Int))), some (.int (zI 0)), none, none], [], mk E (uR F 217 (uC (F 217) 5 (zI 0))) G) = some (Sum.inl (some (.int (zI ((itN (onN K) (bitN x) y.toNat : Nat) : Int)))), mk E (uR F 217 (uC (F 217) 5 (zI 0))) G) := by
        refine loopS (σ := Option Value × Option Value) (Post := fun r => r = some (Sum.inl (some (.int (zI ((itN (onN K) (bitN x) y.toNat : Nat) : Int)))), mk E (uR F 217 (uC (F 217) 5 (zI 0))) G))
          (fun j s => runP MP d 260 (50, [some (.ref 217), some (.int (zI x)), some (.int (zI y)), some (.int (zI ((itN (onN K) (bitN x) j : Nat) : Int))), some (.int (zI (j : Int))), s.1, s.2], [], mk E (uR F 217 (uC (F 217) 5 (zI 0))) G))
          (fun _ _ => True) y.toNat (none, none) trivial (fun s _ => ?_) (fun j s hj _ => ?_)
        · show runP MP d 260 _ = _
          rw [q_260_50]; (try simp only [↓n_rd, ↓n_cI, li_0, li_1, li_2, li_5, li_12, li_31, li_60, li_210, lj_0, lj_1, lj_2, lj_5, lj_12, lj_60, zJ_add, zJ_sub, zJ_mul, zJ_neg, zJ_l2i, zI_add, zI_sub, zI_mul, zI_neg, ↓Option.bind_some]); simp (disch := (first | assumption | exact tI_rg _ | omega | exact uR_at | exact row_ne hF (by decide) | exact row_ne (row_ne hF (by decide)) (by decide) | exact SnS_18 | exact SnS_30 | exact LdS_44 | exact LdS_46)) only [q_260_0, q_260_31, q_260_107, ↓n_rd, ↓n_cI, li_0, li_1, li_2, li_5, li_12, li_31, li_60, li_210, lj_0, lj_1, lj_2, lj_5, lj_12, lj_60, zJ_add, zJ_sub, zJ_mul, zJ_neg, zJ_l2i, tJ_zJ, zI_add, zI_sub, zI_mul, zI_neg, ↓Option.bind_some, ↓g12_5, ↓p12_5, zIt2, uR_at, uR_ne, uR_uR, uC_uC, uC_at, ↓reduceIte, decide_eq_true_eq, leT, leF, ltT, ltF, eqT, eqF, ne_eq, not_true_eq_false, not_false_eq_true, Bool.false_eq_true, tI_zI]
        · right
          refine ⟨(some (.int (zI ((onN K (itN (onN K) (bitN x) j) : Nat) : Int))), some (.int (zI ((tI (K 5)).toNat : Int)))), trivial, ?_⟩
          show runP MP d 260 _ = runP MP d 260 _
          rw [nsucc]
          refine Eq.trans ?_ (hin j (itN (onN K) (bitN x) j) none none (itN_lt hbx (onN_lt hI) j))
          rw [q_260_50]; (try simp only [↓n_rd, ↓n_cI, li_0, li_1, li_2, li_5, li_12, li_31, li_60, li_210, lj_0, lj_1, lj_2, lj_5, lj_12, lj_60, zJ_add, zJ_sub, zJ_mul, zJ_neg, zJ_l2i, zI_add, zI_sub, zI_mul, zI_neg, ↓Option.bind_some]); simp (disch := (first | assumption | exact tI_rg _ | omega | exact uR_at | exact row_ne hF (by decide) | exact row_ne (row_ne hF (by decide)) (by decide) | exact SnS_18 | exact SnS_30 | exact LdS_44 | exact LdS_46)) only [q_260_0, q_260_31, q_260_107, ↓n_rd, ↓n_cI, li_0, li_1, li_2, li_5, li_12, li_31, li_60, li_210, lj_0, lj_1, lj_2, lj_5, lj_12, lj_60, zJ_add, zJ_sub, zJ_mul, zJ_neg, zJ_l2i, tJ_zJ, zI_add, zI_sub, zI_mul, zI_neg, ↓Option.bind_some, ↓g12_5, ↓p12_5, zIt2, uR_at, uR_ne, uR_uR, uC_uC, uC_at, ↓reduceIte, decide_eq_true_eq, leT, leF, ltT, ltF, eqT, eqF, ne_eq, not_true_eq_false, not_false_eq_true, Bool.false_eq_true, tI_zI]
      rw [q_260_0]; (try simp only [↓n_rd, ↓n_cI, li_0, li_1, li_2, li_5, li_12, li_31, li_60, li_210, lj_0, lj_1, lj_2, lj_5, lj_12, lj_60, zJ_add, zJ_sub, zJ_mul, zJ_neg, zJ_l2i, zI_add, zI_sub, zI_mul, zI_neg, ↓Option.bind_some]); simp (disch := (first | assumption | exact tI_rg _ | omega | exact uR_at | exact row_ne hF (by decide) | exact row_ne (row_ne hF (by decide)) (by decide) | exact SnS_18 | exact SnS_30 | exact LdS_44 | exact LdS_46)) only [q_260_31, q_260_107, ↓cc_213t hI, zI_i2l, ↓cc_188t, shlB, ↓hl, ↓n_rd, ↓n_cI, li_0, li_1, li_2, li_5, li_12, li_31, li_60, li_210, lj_0, lj_1, lj_2, lj_5, lj_12, lj_60, zJ_add, zJ_sub, zJ_mul, zJ_neg, zJ_l2i, tJ_zJ, zI_add, zI_sub, zI_mul, zI_neg, ↓Option.bind_some, ↓g12_5, ↓p12_5, zIt2, uR_at, uR_ne, uR_uR, uC_uC, uC_at, ↓reduceIte, decide_eq_true_eq, leT, leF, ltT, ltF, eqT, eqF, ne_eq, not_true_eq_false, not_false_eq_true, Bool.false_eq_true, tI_zI]
    · have ha : a_hunter K x y = (2, 0) := (if_pos c1).trans (if_neg c2)
      rw [ha]
      show (_ : ResP) = some (Sum.inl (some (.int (zI 0))), mk E (uR F 217 (uC (F 217) 5 (zI 2))) G)
      refine into (D := 2) (by omega) hM_260 (rcv_mk rfl (by decide)) rfl fun d hd => ?_
      show runP MP d 260 (0, [some (.ref 217), some (.int (zI x)), some (.int (zI y)), none, none, none, none], [], _) = _
      rw [q_260_0]; (try simp only [↓n_rd, ↓n_cI, li_0, li_1, li_2, li_5, li_12, li_31, li_60, li_210, lj_0, lj_1, lj_2, lj_5, lj_12, lj_60, zJ_add, zJ_sub, zJ_mul, zJ_neg, zJ_l2i, zI_add, zI_sub, zI_mul, zI_neg, ↓Option.bind_some]); simp (disch := (first | assumption | exact tI_rg _ | omega | exact uR_at | exact row_ne hF (by decide) | exact row_ne (row_ne hF (by decide)) (by decide) | exact SnS_18 | exact SnS_30 | exact LdS_44 | exact LdS_46)) only [q_260_31, q_260_107, ↓cc_213t hI, zI_i2l, ↓cc_188f, ↓n_rd, ↓n_cI, li_0, li_1, li_2, li_5, li_12, li_31, li_60, li_210, lj_0, lj_1, lj_2, lj_5, lj_12, lj_60, zJ_add, zJ_sub, zJ_mul, zJ_neg, zJ_l2i, tJ_zJ, zI_add, zI_sub, zI_mul, zI_neg, ↓Option.bind_some, ↓g12_5, ↓p12_5, zIt2, uR_at, uR_ne, uR_uR, uC_uC, uC_at, ↓reduceIte, decide_eq_true_eq, leT, leF, ltT, ltF, eqT, eqF, ne_eq, not_true_eq_false, not_false_eq_true, Bool.false_eq_true, tI_zI]
  · have ha : a_hunter K x y = (1, 0) := if_neg c1
    rw [ha]
    show (_ : ResP) = some (Sum.inl (some (.int (zI 0))), mk E (uR F 217 (uC (F 217) 5 (zI 1))) G)
    refine into (D := 2) (by omega) hM_260 (rcv_mk rfl (by decide)) rfl fun d hd => ?_
    show runP MP d 260 (0, [some (.ref 217), some (.int (zI x)), some (.int (zI y)), none, none, none, none], [], _) = _
    rw [q_260_0]; (try simp only [↓n_rd, ↓n_cI, li_0, li_1, li_2, li_5, li_12, li_31, li_60, li_210, lj_0, lj_1, lj_2, lj_5, lj_12, lj_60, zJ_add, zJ_sub, zJ_mul, zJ_neg, zJ_l2i, zI_add, zI_sub, zI_mul, zI_neg, ↓Option.bind_some]); simp (disch := (first | assumption | exact tI_rg _ | omega | exact uR_at | exact row_ne hF (by decide) | exact row_ne (row_ne hF (by decide)) (by decide) | exact SnS_18 | exact SnS_30 | exact LdS_44 | exact LdS_46)) only [q_260_31, q_260_107, ↓cc_213f hI, zI_i2l, ↓n_rd, ↓n_cI, li_0, li_1, li_2, li_5, li_12, li_31, li_60, li_210, lj_0, lj_1, lj_2, lj_5, lj_12, lj_60, zJ_add, zJ_sub, zJ_mul, zJ_neg, zJ_l2i, tJ_zJ, zI_add, zI_sub, zI_mul, zI_neg, ↓Option.bind_some, ↓g12_5, ↓p12_5, zIt2, uR_at, uR_ne, uR_uR, uC_uC, uC_at, ↓reduceIte, decide_eq_true_eq, leT, leF, ltT, ltF, eqT, eqF, ne_eq, not_true_eq_false, not_false_eq_true, Bool.false_eq_true, tI_zI]
def mtP (K : Int → Int32) (x y : Int) (k : Nat) : Bool := decide (itN (onN K) (bitN x) k &&& itN (owN K) (bitN y) k ≠ 0)
def a_meets (K : Int → Int32) (x y : Int) : Int × Int := if 0 ≤ x ∧ x < tI (K 1) then (if 0 ≤ y ∧ y < tI (K 1) then (0, fndN (mtP K x y) 61 0) else (1, 0)) else (1, 0)
theorem and_lt10 {a b : Nat} (h : a < 1024) : a &&& b < 1024 := Nat.lt_of_le_of_lt Nat.and_le_left h
theorem ml_meets {d : Nat} {E : EnQ} {F : Nat → Int → Int32} {G : Nat → Int → Int64} {K : Int → Int32} (hI : InvK K) (hF : F 218 = K) {x y : Int} (hx : -2147483648 ≤ x ∧ x ≤ 2147483647) (hy : -2147483648 ≤ y ∧ y ≤ 2147483647) (hd : 3 ≤ d) : callP MP d 277 [.ref 217, .int (zI x), .int (zI y)] (mk E F G) = some (Sum.inl (some (.int (zI (a_meets K x y).2))), mk E (uR F 217 (uC (F 217) 5 (zI (a_meets K x y).1))) G) := by
  have hb5 := hI.1.2.2.2.2.2.1
  have hb4 := hI.1.2.2.2.2.1
  have hb2 := hI.1.2.2.1
  have hb1 := hI.1.2.1
  have hb8 := hI.1.2.2.2.2.2.2.2.2.1
  have hb9 := hI.1.2.2.2.2.2.2.2.2.2
  by_cases c1 : 0 ≤ x ∧ x < tI (K 1)
  · by_cases c2 : 0 ≤ y ∧ y < tI (K 1)
    · have ha : a_meets K x y = (0, fndN (mtP K x y) 61 0) := (if_pos c1).trans (if_pos c2)
      rw [ha]
      show (_ : ResP) = some (Sum.inl (some (.int (zI (fndN (mtP K x y) 61 0)))), mk E (uR F 217 (uC (F 217) 5 (zI 0))) G)
      refine into (D := 2) (by omega) hM_277 (rcv_mk rfl (by decide)) rfl fun d hd => ?_
      show runP MP d 277 (0, [some (.ref 217), some (.int (zI x)), some (.int (zI y)), none, none, none, none, none], [], _) = _
      have hF1 : uR F 217 (uC (F 217) 5 (zI 0)) 218 = K := row_ne hF (by decide)
      have hbx := bit_lt (x := x) (by omega)
      have hby := bit_lt (x := y) (by omega)
      have hin : ∀ (j o s : Nat), s < 1024 → runP MP d 277 (70, [some (.ref 217), some (.int (zI x)), some (.int (zI y)), some (.int (zI (o : Int))), some (.int (zI (s : Int))), some (.int (zI (j : Int))), some (.int (zI 0)), some (.int (zI 0))], [], mk E (uR F 217 (uC (F 217) 5 (zI 0))) G) = runP MP d 277 (41, [some (.ref 217), some (.int (zI x)), some (.int (zI y)), some (.int (zI (o : Int))), some (.int (zI ((owN K s : Nat) : Int))), some (.int (zI ((j : Int) + 1))), some (.int (zI ((owN K s : Nat) : Int))), some (.int (zI ((tI (K 169)).toNat : Int)))], [], mk E (uR F 217 (uC (F 217) 5 (zI 0))) G) := by
        intro j o s hs
        unfold owN gonN
        refine (loopN (fun i : Nat => runP MP d 277 (70, [some (.ref 217), some (.int (zI x)), some (.int (zI y)), some (.int (zI (o : Int))), some (.int (zI (s : Int))), some (.int (zI (j : Int))), some (.int (zI ((orN (fun k : Nat => if s.testBit (oFr K k).toNat = true then bitN (oTo K k) else 0) i : Nat) : Int))), some (.int (zI (i : Nat)))], [], mk E (uR F 217 (uC (F 217) 5 (zI 0))) G)) ((tI (K 169)).toNat) (fun i hi => ?_)).trans ?_
        · show runP MP d 277 (70, [some (.ref 217), some (.int (zI x)), some (.int (zI y)), some (.int (zI (o : Int))), some (.int (zI (s : Int))), some (.int (zI (j : Int))), some (.int (zI ((orN (fun k : Nat => if s.testBit (oFr K k).toNat = true then bitN (oTo K k) else 0) i : Nat) : Int))), some (.int (zI (i : Nat)))], [], mk E (uR F 217 (uC (F 217) 5 (zI 0))) G) = runP MP d 277 (70, [some (.ref 217), some (.int (zI x)), some (.int (zI y)), some (.int (zI (o : Int))), some (.int (zI (s : Int))), some (.int (zI (j : Int))), some (.int (zI ((orN (fun k : Nat => if s.testBit (oFr K k).toNat = true then bitN (oTo K k) else 0) (i + 1) : Nat) : Int))), some (.int (zI ((i + 1) : Nat)))], [], mk E (uR F 217 (uC (F 217) 5 (zI 0))) G)
          have hw := (wo_in hI (i := (i : Int)) (by omega) (by omega)).1
          have h1 := from_in hI hw
          have h2 := to_in hI hw
          rw [orN_succ, nsucc]
          have hof : oFr K i = fromZ K (woW K (i : Int)) := rfl
          have hot : oTo K i = toZ K (woW K (i : Int)) := rfl
          rw [hof, hot]
          by_cases h : s.testBit (fromZ K (woW K (i : Int))).toNat = true
          · rw [if_pos h]
            rw [q_277_70]; (try simp only [↓n_al, ↓n_cI, li_0, li_1, li_5, li_12, li_60, li_70, li_120, li_169, lj_0, lj_1, lj_5, lj_12, lj_60, zJ_add, zJ_sub, zJ_mul, zJ_neg, zJ_l2i, zI_add, zI_sub, zI_mul, zI_neg, ↓Option.bind_some]); simp (disch := (first | assumption | exact tI_rg _ | omega | exact uR_at | exact row_ne hF (by decide) | exact row_ne (row_ne hF (by decide)) (by decide) | exact SnS_18 | exact SnS_30 | exact LdS_44 | exact LdS_46)) only [q_277_0, q_277_23, q_277_120, hF1, ↓cc_276 hI, ↓cc_216 hI, ↓cc_217 hI, shr_bit, if_pos h, shlB, orZ, ↓n_al, ↓n_cI, li_0, li_1, li_5, li_12, li_60, li_70, li_120, li_169, lj_0, lj_1, lj_5, lj_12, lj_60, zJ_add, zJ_sub, zJ_mul, zJ_neg, zJ_l2i, tJ_zJ, zI_add, zI_sub, zI_mul, zI_neg, ↓Option.bind_some, ↓g12_0, ↓p12_5, ↓al_218, ↓as_218, zIt2, uR_at, uR_ne, uR_uR, uC_uC, uC_at, ↓reduceIte, decide_eq_true_eq, leT, leF, ltT, ltF, eqT, eqF, ne_eq, not_true_eq_false, not_false_eq_true, Bool.false_eq_true, tI_zI]
          · rw [if_neg h]
            rw [q_277_70]; (try simp only [↓n_al, ↓n_cI, li_0, li_1, li_5, li_12, li_60, li_70, li_120, li_169, lj_0, lj_1, lj_5, lj_12, lj_60, zJ_add, zJ_sub, zJ_mul, zJ_neg, zJ_l2i, zI_add, zI_sub, zI_mul, zI_neg, ↓Option.bind_some]); simp (disch := (first | assumption | exact tI_rg _ | omega | exact uR_at | exact row_ne hF (by decide) | exact row_ne (row_ne hF (by decide)) (by decide) | exact SnS_18 | exact SnS_30 | exact LdS_44 | exact LdS_46)) only [q_277_0, q_277_23, q_277_120, hF1, ↓cc_276 hI, ↓cc_216 hI, shr_bit, if_neg h, or0, ↓n_al, ↓n_cI, li_0, li_1, li_5, li_12, li_60, li_70, li_120, li_169, lj_0, lj_1, lj_5, lj_12, lj_60, zJ_add, zJ_sub, zJ_mul, zJ_neg, zJ_l2i, tJ_zJ, zI_add, zI_sub, zI_mul, zI_neg, ↓Option.bind_some, ↓g12_0, ↓p12_5, ↓al_218, ↓as_218, zIt2, uR_at, uR_ne, uR_uR, uC_uC, uC_at, ↓reduceIte, decide_eq_true_eq, leT, leF, ltT, ltF, eqT, eqF, ne_eq, not_true_eq_false, not_false_eq_true, Bool.false_eq_true, tI_zI]
        · show runP MP d 277 (70, [some (.ref 217), some (.int (zI x)), some (.int (zI y)), some (.int (zI (o : Int))), some (.int (zI (s : Int))), some (.int (zI (j : Int))), some (.int (zI ((orN (fun k : Nat => if s.testBit (oFr K k).toNat = true then bitN (oTo K k) else 0) ((tI (K 169)).toNat) : Nat) : Int))), some (.int (zI (((tI (K 169)).toNat) : Nat)))], [], mk E (uR F 217 (uC (F 217) 5 (zI 0))) G) = _
          rw [q_277_70]; (try simp only [↓n_al, ↓n_cI, li_0, li_1, li_5, li_12, li_60, li_70, li_120, li_169, lj_0, lj_1, lj_5, lj_12, lj_60, zJ_add, zJ_sub, zJ_mul, zJ_neg, zJ_l2i, zI_add, zI_sub, zI_mul, zI_neg, ↓Option.bind_some]); simp (disch := (first | assumption | exact tI_rg _ | omega | exact uR_at | exact row_ne hF (by decide) | exact row_ne (row_ne hF (by decide)) (by decide) | exact SnS_18 | exact SnS_30 | exact LdS_44 | exact LdS_46)) only [q_277_0, q_277_23, q_277_120, hF1, ↓n_al, ↓n_cI, li_0, li_1, li_5, li_12, li_60, li_70, li_120, li_169, lj_0, lj_1, lj_5, lj_12, lj_60, zJ_add, zJ_sub, zJ_mul, zJ_neg, zJ_l2i, tJ_zJ, zI_add, zI_sub, zI_mul, zI_neg, ↓Option.bind_some, ↓g12_0, ↓p12_5, ↓al_218, ↓as_218, zIt2, uR_at, uR_ne, uR_uR, uC_uC, uC_at, ↓reduceIte, decide_eq_true_eq, leT, leF, ltT, ltF, eqT, eqF, ne_eq, not_true_eq_false, not_false_eq_true, Bool.false_eq_true, tI_zI]
      have hl : runP MP d 277 (41, [some (.ref 217), some (.int (zI x)), some (.int (zI y)), some (.int (zI ((bitN x : Nat) : Int))), some (.int (zI ((bitN y : Nat) : Int))), some (.int (zI 0)), none, none], [], mk E (uR F 217 (uC (F 217) 5 (zI 0))) G) = some (Sum.inl (some (.int (zI (fndN (mtP K x y) 61 0)))), mk E (uR F 217 (uC (F 217) 5 (zI 0))) G) := by
        refine loopS (σ := Option Value × Option Value) (Post := fun r => r = some (Sum.inl (some (.int (zI (fndN (mtP K x y) 61 0)))), mk E (uR F 217 (uC (F 217) 5 (zI 0))) G))
          (fun j s => runP MP d 277 (41, [some (.ref 217), some (.int (zI x)), some (.int (zI y)), some (.int (zI ((itN (onN K) (bitN x) j : Nat) : Int))), some (.int (zI ((itN (owN K) (bitN y) j : Nat) : Int))), some (.int (zI (j : Int))), s.1, s.2], [], mk E (uR F 217 (uC (F 217) 5 (zI 0))) G))
          (fun j _ => ∀ i, i < j → mtP K x y i = false) 61 (none, none) (fun i hi => by omega) (fun s hI2 => ?_) (fun j s hj hI2 => ?_)
        · show runP MP d 277 _ = _
          have e : fndN (mtP K x y) 61 0 = -1 := fndN_none (fun i _ hi => hI2 i (by omega))
          rw [e]
          rw [q_277_41]; (try simp only [↓n_al, ↓n_cI, li_0, li_1, li_5, li_12, li_60, li_70, li_120, li_169, lj_0, lj_1, lj_5, lj_12, lj_60, zJ_add, zJ_sub, zJ_mul, zJ_neg, zJ_l2i, zI_add, zI_sub, zI_mul, zI_neg, ↓Option.bind_some]); simp (disch := (first | assumption | exact tI_rg _ | omega | exact uR_at | exact row_ne hF (by decide) | exact row_ne (row_ne hF (by decide)) (by decide) | exact SnS_18 | exact SnS_30 | exact LdS_44 | exact LdS_46)) only [q_277_0, q_277_23, q_277_120, ↓n_al, ↓n_cI, li_0, li_1, li_5, li_12, li_60, li_70, li_120, li_169, lj_0, lj_1, lj_5, lj_12, lj_60, zJ_add, zJ_sub, zJ_mul, zJ_neg, zJ_l2i, tJ_zJ, zI_add, zI_sub, zI_mul, zI_neg, ↓Option.bind_some, ↓g12_0, ↓p12_5, ↓al_218, ↓as_218, zIt2, uR_at, uR_ne, uR_uR, uC_uC, uC_at, ↓reduceIte, decide_eq_true_eq, leT, leF, ltT, ltF, eqT, eqF, ne_eq, not_true_eq_false, not_false_eq_true, Bool.false_eq_true, tI_zI]
        · have l1 := itN_lt hbx (onN_lt hI) j
          have l2 := itN_lt hby (owN_lt hI) j
          have hand := andZ (itN (onN K) (bitN x) j) (itN (owN K) (bitN y) j)
          have hal := and_lt10 (b := itN (owN K) (bitN y) j) l1
          have l3 := onN_lt hI (itN (onN K) (bitN x) j)
          by_cases g : mtP K x y j = true
          · left
            have g2 : itN (onN K) (bitN x) j &&& itN (owN K) (bitN y) j ≠ 0 := of_decide_eq_true g
            have e : fndN (mtP K x y) 61 0 = (j : Int) := fndN_eq (by omega) (by omega) g (fun i _ hi => hI2 i hi)
            rw [e]
            show runP MP d 277 _ = _
            rw [q_277_41]; (try simp only [↓n_al, ↓n_cI, li_0, li_1, li_5, li_12, li_60, li_70, li_120, li_169, lj_0, lj_1, lj_5, lj_12, lj_60, zJ_add, zJ_sub, zJ_mul, zJ_neg, zJ_l2i, zI_add, zI_sub, zI_mul, zI_neg, ↓Option.bind_some]); simp (disch := (first | assumption | exact tI_rg _ | omega | exact uR_at | exact row_ne hF (by decide) | exact row_ne (row_ne hF (by decide)) (by decide) | exact SnS_18 | exact SnS_30 | exact LdS_44 | exact LdS_46)) only [q_277_0, q_277_23, q_277_120, hand, ↓n_al, ↓n_cI, li_0, li_1, li_5, li_12, li_60, li_70, li_120, li_169, lj_0, lj_1, lj_5, lj_12, lj_60, zJ_add, zJ_sub, zJ_mul, zJ_neg, zJ_l2i, tJ_zJ, zI_add, zI_sub, zI_mul, zI_neg, ↓Option.bind_some, ↓g12_0, ↓p12_5, ↓al_218, ↓as_218, zIt2, uR_at, uR_ne, uR_uR, uC_uC, uC_at, ↓reduceIte, decide_eq_true_eq, leT, leF, ltT, ltF, eqT, eqF, ne_eq, not_true_eq_false, not_false_eq_true, Bool.false_eq_true, tI_zI]
          · right
            have g2 : itN (onN K) (bitN x) j &&& itN (owN K) (bitN y) j = 0 := Decidable.not_not.mp (fun z => g (decide_eq_true z))
            refine ⟨(some (.int (zI ((owN K (itN (owN K) (bitN y) j) : Nat) : Int))), some (.int (zI ((tI (K 169)).toNat : Int)))), fun i hi => ?_, ?_⟩
            · by_cases e : i = j
              · rw [e]; exact Bool.eq_false_iff.mpr g
              · exact hI2 i (by omega)
            · show runP MP d 277 _ = runP MP d 277 _
              rw [nsucc]
              refine Eq.trans ?_ (hin j (onN K (itN (onN K) (bitN x) j)) (itN (owN K) (bitN y) j) l2)
              rw [q_277_41]; (try simp only [↓n_al, ↓n_cI, li_0, li_1, li_5, li_12, li_60, li_70, li_120, li_169, lj_0, lj_1, lj_5, lj_12, lj_60, zJ_add, zJ_sub, zJ_mul, zJ_neg, zJ_l2i, zI_add, zI_sub, zI_mul, zI_neg, ↓Option.bind_some]); simp (disch := (first | assumption | exact tI_rg _ | omega | exact uR_at | exact row_ne hF (by decide) | exact row_ne (row_ne hF (by decide)) (by decide) | exact SnS_18 | exact SnS_30 | exact LdS_44 | exact LdS_46)) only [q_277_0, q_277_23, q_277_120, hand, g2, ↓cc_278 hI, ↓n_al, ↓n_cI, li_0, li_1, li_5, li_12, li_60, li_70, li_120, li_169, lj_0, lj_1, lj_5, lj_12, lj_60, zJ_add, zJ_sub, zJ_mul, zJ_neg, zJ_l2i, tJ_zJ, zI_add, zI_sub, zI_mul, zI_neg, ↓Option.bind_some, ↓g12_0, ↓p12_5, ↓al_218, ↓as_218, zIt2, uR_at, uR_ne, uR_uR, uC_uC, uC_at, ↓reduceIte, decide_eq_true_eq, leT, leF, ltT, ltF, eqT, eqF, ne_eq, not_true_eq_false, not_false_eq_true, Bool.false_eq_true, tI_zI]
      rw [q_277_0]; (try simp only [↓n_al, ↓n_cI, li_0, li_1, li_5, li_12, li_60, li_70, li_120, li_169, lj_0, lj_1, lj_5, lj_12, lj_60, zJ_add, zJ_sub, zJ_mul, zJ_neg, zJ_l2i, zI_add, zI_sub, zI_mul, zI_neg, ↓Option.bind_some]); simp (disch := (first | assumption | exact tI_rg _ | omega | exact uR_at | exact row_ne hF (by decide) | exact row_ne (row_ne hF (by decide)) (by decide) | exact SnS_18 | exact SnS_30 | exact LdS_44 | exact LdS_46)) only [q_277_23, q_277_120, ↓cc_213t hI, zI_i2l, shlB, ↓hl, ↓n_al, ↓n_cI, li_0, li_1, li_5, li_12, li_60, li_70, li_120, li_169, lj_0, lj_1, lj_5, lj_12, lj_60, zJ_add, zJ_sub, zJ_mul, zJ_neg, zJ_l2i, tJ_zJ, zI_add, zI_sub, zI_mul, zI_neg, ↓Option.bind_some, ↓g12_0, ↓p12_5, ↓al_218, ↓as_218, zIt2, uR_at, uR_ne, uR_uR, uC_uC, uC_at, ↓reduceIte, decide_eq_true_eq, leT, leF, ltT, ltF, eqT, eqF, ne_eq, not_true_eq_false, not_false_eq_true, Bool.false_eq_true, tI_zI]
    · have ha : a_meets K x y = (1, 0) := (if_pos c1).trans (if_neg c2)
      rw [ha]
      show (_ : ResP) = some (Sum.inl (some (.int (zI 0))), mk E (uR F 217 (uC (F 217) 5 (zI 1))) G)
      refine into (D := 2) (by omega) hM_277 (rcv_mk rfl (by decide)) rfl fun d hd => ?_
      show runP MP d 277 (0, [some (.ref 217), some (.int (zI x)), some (.int (zI y)), none, none, none, none, none], [], _) = _
      rw [q_277_0]; (try simp only [↓n_al, ↓n_cI, li_0, li_1, li_5, li_12, li_60, li_70, li_120, li_169, lj_0, lj_1, lj_5, lj_12, lj_60, zJ_add, zJ_sub, zJ_mul, zJ_neg, zJ_l2i, zI_add, zI_sub, zI_mul, zI_neg, ↓Option.bind_some]); simp (disch := (first | assumption | exact tI_rg _ | omega | exact uR_at | exact row_ne hF (by decide) | exact row_ne (row_ne hF (by decide)) (by decide) | exact SnS_18 | exact SnS_30 | exact LdS_44 | exact LdS_46)) only [q_277_23, q_277_120, ↓cc_213t hI, ↓cc_213f hI, ↓cc_189, zI_i2l, ↓n_al, ↓n_cI, li_0, li_1, li_5, li_12, li_60, li_70, li_120, li_169, lj_0, lj_1, lj_5, lj_12, lj_60, zJ_add, zJ_sub, zJ_mul, zJ_neg, zJ_l2i, tJ_zJ, zI_add, zI_sub, zI_mul, zI_neg, ↓Option.bind_some, ↓g12_0, ↓p12_5, ↓al_218, ↓as_218, zIt2, uR_at, uR_ne, uR_uR, uC_uC, uC_at, ↓reduceIte, decide_eq_true_eq, leT, leF, ltT, ltF, eqT, eqF, ne_eq, not_true_eq_false, not_false_eq_true, Bool.false_eq_true, tI_zI]
  · have ha : a_meets K x y = (1, 0) := if_neg c1
    rw [ha]
    show (_ : ResP) = some (Sum.inl (some (.int (zI 0))), mk E (uR F 217 (uC (F 217) 5 (zI 1))) G)
    refine into (D := 2) (by omega) hM_277 (rcv_mk rfl (by decide)) rfl fun d hd => ?_
    show runP MP d 277 (0, [some (.ref 217), some (.int (zI x)), some (.int (zI y)), none, none, none, none, none], [], _) = _
    rw [q_277_0]; (try simp only [↓n_al, ↓n_cI, li_0, li_1, li_5, li_12, li_60, li_70, li_120, li_169, lj_0, lj_1, lj_5, lj_12, lj_60, zJ_add, zJ_sub, zJ_mul, zJ_neg, zJ_l2i, zI_add, zI_sub, zI_mul, zI_neg, ↓Option.bind_some]); simp (disch := (first | assumption | exact tI_rg _ | omega | exact uR_at | exact row_ne hF (by decide) | exact row_ne (row_ne hF (by decide)) (by decide) | exact SnS_18 | exact SnS_30 | exact LdS_44 | exact LdS_46)) only [q_277_23, q_277_120, ↓cc_213f hI, ↓cc_189, zI_i2l, ↓n_al, ↓n_cI, li_0, li_1, li_5, li_12, li_60, li_70, li_120, li_169, lj_0, lj_1, lj_5, lj_12, lj_60, zJ_add, zJ_sub, zJ_mul, zJ_neg, zJ_l2i, tJ_zJ, zI_add, zI_sub, zI_mul, zI_neg, ↓Option.bind_some, ↓g12_0, ↓p12_5, ↓al_218, ↓as_218, zIt2, uR_at, uR_ne, uR_uR, uC_uC, uC_at, ↓reduceIte, decide_eq_true_eq, leT, leF, ltT, ltF, eqT, eqF, ne_eq, not_true_eq_false, not_false_eq_true, Bool.false_eq_true, tI_zI]
end S94zc
