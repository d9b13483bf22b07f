/-! CALLS: image, restore -/
section S94zq
set_option linter.unusedVariables false
set_option linter.unusedSimpArgs false
theorem ct_182t {d : Nat} {E : EnQ} {F : Nat → Int → Int32} {G : Nat → Int → Int64} {x : Int} (hx : 0 ≤ x ∧ x < 3) (hd : 1 ≤ d) : callP MP d 182 [.int (zI x)] (mk E F G) = some (Sum.inl none, mk E F G) := by
  refine into (D := 0) (by omega) hM_182 rfl rfl fun d hd => ?_
  show runP MP d 182 (0, [some (.int (zI x))], [], _) = _
  rw [q_182_0]; (try simp only [li_0, li_1, li_3, li_6, li_9, zI_add, zI_sub, zI_mul, zI_neg, ↓Option.bind_some]); simp (disch := (first | assumption | exact tI_rg _ | omega | exact uR_at | exact row_ne hF (by decide) | exact row_ne (row_ne hF (by decide)) (by decide) | exact SnS_18 | exact SnS_30 | exact LdS_44 | exact LdS_46)) only [q_182_9, jnk_mk, li_0, li_1, li_3, li_6, li_9, zI_add, zI_sub, zI_mul, zI_neg, ↓Option.bind_some, zIt2, uR_at, uR_ne, uR_uR, uC_uC, uC_at, ↓reduceIte, decide_eq_true_eq, leT, leF, ltT, ltF, eqT, eqF, ne_eq, not_true_eq_false, not_false_eq_true, Bool.false_eq_true, tI_zI]
theorem ct_182f {d : Nat} {E : EnQ} {F : Nat → Int → Int32} {G : Nat → Int → Int64} {x : Int} (hxr : -2147483648 ≤ x ∧ x ≤ 2147483647) (hx : ¬ (0 ≤ x ∧ x < 3)) (hd : 1 ≤ d) : callP MP d 182 [.int (zI x)] (mk E F G) = some (Sum.inr 0, mk (jE E) F G) := by
  refine into (D := 0) (by omega) hM_182 rfl rfl fun d hd => ?_
  show runP MP d 182 (0, [some (.int (zI x))], [], _) = _
  by_cases g : x < 0
  · rw [q_182_0]; (try simp only [li_0, li_1, li_3, li_6, li_9, zI_add, zI_sub, zI_mul, zI_neg, ↓Option.bind_some]); simp (disch := (first | assumption | exact tI_rg _ | omega | exact uR_at | exact row_ne hF (by decide) | exact row_ne (row_ne hF (by decide)) (by decide) | exact SnS_18 | exact SnS_30 | exact LdS_44 | exact LdS_46)) only [q_182_9, jnk_mk, li_0, li_1, li_3, li_6, li_9, zI_add, zI_sub, zI_mul, zI_neg, ↓Option.bind_some, zIt2, uR_at, uR_ne, uR_uR, uC_uC, uC_at, ↓reduceIte, decide_eq_true_eq, leT, leF, ltT, ltF, eqT, eqF, ne_eq, not_true_eq_false, not_false_eq_true, Bool.false_eq_true, tI_zI]
  · rw [q_182_0]; (try simp only [li_0, li_1, li_3, li_6, li_9, zI_add, zI_sub, zI_mul, zI_neg, ↓Option.bind_some]); simp (disch := (first | assumption | exact tI_rg _ | omega | exact uR_at | exact row_ne hF (by decide) | exact row_ne (row_ne hF (by decide)) (by decide) | exact SnS_18 | exact SnS_30 | exact LdS_44 | exact LdS_46)) only [q_182_9, jnk_mk, li_0, li_1, li_3, li_6, li_9, zI_add, zI_sub, zI_mul, zI_neg, ↓Option.bind_some, zIt2, uR_at, uR_ne, uR_uR, uC_uC, uC_at, ↓reduceIte, decide_eq_true_eq, leT, leF, ltT, ltF, eqT, eqF, ne_eq, not_true_eq_false, not_false_eq_true, Bool.false_eq_true, tI_zI]
theorem cc_182t {d : Nat} {E : EnQ} {F : Nat → Int → Int32} {G : Nat → Int → Int64} {kk : HeapP → ResP} {kx : Nat → HeapP → ResP} {x : Int} (hx : 0 ≤ x ∧ x < 3) (hd : 1 ≤ d) : cV (callP MP d 182 [.int (zI x)] (mk E F G)) kk kx = kk (mk E F G) := cV_ret (ct_182t hx hd)
theorem cc_182f {d : Nat} {E : EnQ} {F : Nat → Int → Int32} {G : Nat → Int → Int64} {kk : HeapP → ResP} {kx : Nat → HeapP → ResP} {x : Int} (hxr : -2147483648 ≤ x ∧ x ≤ 2147483647) (hx : ¬ (0 ≤ x ∧ x < 3)) (hd : 1 ≤ d) : cV (callP MP d 182 [.int (zI x)] (mk E F G)) kk kx = kx 0 (mk (jE E) F G) := cV_thr (ct_182f hxr hx hd)
def a_image (x : Int) : Int := if 0 ≤ x ∧ x < 3 then 0 else 1
def a_rest (F : Nat → Int → Int32) (x : Int) : Int := if 0 ≤ x ∧ x < 3 then (if tI (F 222 x) = 0 then 2 else 0) else 1
/-- the class behind an image: where it lies, the memory -/
def imE (E : EnQ) (x : Int) : EnQ := if E.2.2.2 42 x = 0 then uE (snE E) 42 x E.1 else E
def imF (E : EnQ) (F : Nat → Int → Int32) (x : Int) : Nat → Int → Int32 := if E.2.2.2 42 x = 0 then snF E F else F
def imA (E : EnQ) (x : Int) : Nat := if E.2.2.2 42 x = 0 then E.1 else E.2.2.2 42 x
theorem imA_eq {E : EnQ} {x : Int} : (imE E x).2.2.2 42 x = imA E x := by
  unfold imE imA
  by_cases g : E.2.2.2 42 x = 0
  · rw [if_pos g, if_pos g]
    show uR (snE E).2.2.2 42 (uC ((snE E).2.2.2 42) x E.1) 42 x = _
    rw [uR_at, uC_at]
  · rw [if_neg g, if_neg g]
theorem cl_image {d : Nat} {E : EnQ} {F : Nat → Int → Int32} {G : Nat → Int → Int64} (hE : 247 ≤ E.1) {x : Int} (hx : -2147483648 ≤ x ∧ x ≤ 2147483647) (hA : 0 ≤ x ∧ x < 3 → E.2.2.2 42 x = 0 ∨ (SnS E (E.2.2.2 42 x) ∧ 247 ≤ E.2.2.2 42 x)) (hd : 4 ≤ d) : callP MP d 181 [.ref 16, .int (zI x)] (mk E F G) = if a_image x = 0 then some (Sum.inl none, mk (uE (imE E x) (imA E x) 0 (rfQ (imE E x) 18 0)) (tkF (imF E F x) (imA E x) 18) G) else some (Sum.inr 0, mk (jE E) F G) := by
  unfold a_image
  by_cases c1 : 0 ≤ x ∧ x < 3
  · rw [if_pos c1, if_pos rfl]
    have h26 : ∀ {d : Nat} {E : EnQ} {F : Nat → Int → Int32} {a : Nat}, E.2.2.2 42 x = a → SnS E a → 247 ≤ a → 1 ≤ d → runP MP d 181 (26, [some (.ref 16), some (.int (zI x))], [], mk E F G) = some (Sum.inl none, mk (uE E a 0 (rfQ E 18 0)) (tkF F a 18) G) := fun {d E F a} h1 h2 h3 hd => by
      have hdR : ∀ {kn : ResP} {ka : Nat → ResP}, dR (aldR (mk E F G) 4 42 (zI x)) kn ka = ka a := fun {kn ka} => by
        rw [alR_b (E := E) (a := 42) (ty := 4) (n := 3) rfl c1 (by decide) (by rw [h1]; omega)]
        unfold rfQ; rw [h1]
      have h73 : ∀ {kk : HeapP → ResP} {kx : Nat → HeapP → ResP}, cV (callP MP d 73 [.ref a, .ref 18] (mk E F G)) kk kx = kk (mk (uE E a 0 (rfQ E 18 0)) (tkF F a 18) G) := fun {kk kx} => cc_73 h2 SnS_18 (by omega) hd
      rw [q_181_26]; (try simp only [li_0, li_4, li_5, li_6, li_10, li_59, zI_add, zI_sub, zI_mul, zI_neg, ↓Option.bind_some]); simp (disch := (first | assumption | exact tI_rg _ | omega | exact uR_at | exact row_ne hF (by decide) | exact row_ne (row_ne hF (by decide)) (by decide) | exact SnS_18 | exact SnS_30 | exact LdS_44 | exact LdS_46)) only [q_181_0, ↓hdR, ↓h73, li_0, li_4, li_5, li_6, li_10, li_59, zI_add, zI_sub, zI_mul, zI_neg, ↓Option.bind_some, ↓g11_4, ↓g11_6, zIt2, uR_at, uR_ne, uR_uR, uC_uC, uC_at, ↓reduceIte, decide_eq_true_eq, leT, leF, ltT, ltF, eqT, eqF, ne_eq, not_true_eq_false, not_false_eq_true, Bool.false_eq_true, tI_zI]
    rcases hA c1 with h0 | ⟨h1, h2⟩
    · have hS := SnS_new hE
      have ha : imA E x = E.1 := if_pos h0
      have he : imE E x = uE (snE E) 42 x E.1 := if_pos h0
      have hf : imF E F x = snF E F := if_pos h0
      obtain ⟨e, rfl⟩ : ∃ e, d = e + 1 := ⟨d - 1, by omega⟩
      have hin : callP MP (e + 1) 181 [.ref 16, .int (zI x)] (mk E F G) = runP MP e 181 (0, [some (.ref 16), some (.int (zI x))], [], mk E F G) := into_eq (by omega) hM_181 (rcv_mk rfl (by decide)) rfl
      have hdN : ∀ {kn : ResP} {ka : Nat → ResP}, dR (aldR (mk E F G) 4 42 (zI x)) kn ka = kn := fun {kn ka} => alR_n (E := E) (a := 42) (ty := 4) (n := 3) rfl c1 (by decide) h0
      have h59 : ∀ {kk : HeapP → ResP} {kx : Nat → HeapP → ResP}, cV (callP MP e 59 [.ref E.1] (hnew (mk E F G) 10 (pO 5 fs_5))) kk kx = kk (mk (snE E) (snF E F) G) := fun {kk kx} => by
        rw [hnew_set]
        show cV (callP MP e 59 [.ref E.1] (hset (hjnk (mk E F G) 1 10) E.1 (pO 5 fs_5))) kk kx = _
        rw [cV_ret (ct_59r (by show E.1 < E.1 + 1; omega) (by omega)), snH_mk hE]
      have hstR : ∀ {f : HeapP → ResP}, (astR (mk (snE E) (snF E F) G) 4 5 42 (zI x) E.1).bind f = f (mk (uE (snE E) 42 x E.1) (snF E F) G) := fun {f} => by
        unfold astR
        rw [mk_at (E := snE E) (a := 42) (s := (4, 4, 3)) rfl, mk_at (E := snE E) (a := E.1) hS.1]
        show (if 4 = 4 ∧ inb (zI x) 3 = true ∧ 5 = 5 then some (hset (mk (snE E) (snF E F) G) 42 (pR 4 3 (upR (fun i : Nat => if (snE E).2.2.2 42 i = 0 then none else some ((snE E).2.2.2 42 i)) (zI x).toNatClampNeg (some E.1)))) else none).bind f = _
        rw [if_pos ⟨rfl, inb_z c1 (by decide), rfl⟩]
        show f _ = _
        refine congrArg f (hset_R ?_)
        show some (pR 4 3 (fun i : Nat => if uC ((snE E).2.2.2 42) x E.1 i = 0 then none else some (uC ((snE E).2.2.2 42) x E.1 i))) = _
        refine congrArg (fun z => some (pR 4 3 z)) (funext fun i => ?_)
        unfold upR
        have hc := clamp_z (i := x) (by omega)
        by_cases g : i = (zI x).toNatClampNeg
        · rw [if_pos g, uC_eq (by omega), if_neg (by omega)]
        · rw [if_neg g, uC_ne (by omega)]
      have hlast := h26 (d := e) (E := uE (snE E) 42 x E.1) (F := snF E F) (a := E.1) (by show uR (snE E).2.2.2 42 (uC ((snE E).2.2.2 42) x E.1) 42 x = _; rw [uR_at, uC_at]) hS hE (by omega)
      rw [ha, he, hf, ← hlast, hin, q_181_0]
      have h182 : ∀ {kk : HeapP → ResP} {kx : Nat → HeapP → ResP}, cV (callP MP e 182 [.int (zI x)] (mk E F G)) kk kx = kk (mk E F G) := fun {kk kx} => cc_182t c1 (by omega)
      rw [h182, g11_6, hdN, g11_6]
      show cV (callP MP e 59 [.ref E.1] (hnew (mk E F G) 10 (pO 5 fs_5))) _ _ = _
      rw [h59]
      exact hstR
    · have h0 : ¬ E.2.2.2 42 x = 0 := by omega
      have ha : imA E x = E.2.2.2 42 x := if_neg h0
      have he : imE E x = E := if_neg h0
      have hf : imF E F x = F := if_neg h0
      obtain ⟨e, rfl⟩ : ∃ e, d = e + 1 := ⟨d - 1, by omega⟩
      have hin : callP MP (e + 1) 181 [.ref 16, .int (zI x)] (mk E F G) = runP MP e 181 (0, [some (.ref 16), some (.int (zI x))], [], mk E F G) := into_eq (by omega) hM_181 (rcv_mk rfl (by decide)) rfl
      have hlast := h26 (d := e) (E := E) (F := F) (a := E.2.2.2 42 x) rfl h1 h2 (by omega)
      have hdR : ∀ {kn : ResP} {ka : Nat → ResP}, dR (aldR (mk E F G) 4 42 (zI x)) kn ka = ka (rfQ E 42 x) := fun {kn ka} => alR_b (E := E) (a := 42) (ty := 4) (n := 3) rfl c1 (by decide) h0
      have h182 : ∀ {kk : HeapP → ResP} {kx : Nat → HeapP → ResP}, cV (callP MP e 182 [.int (zI x)] (mk E F G)) kk kx = kk (mk E F G) := fun {kk kx} => cc_182t c1 (by omega)
      rw [ha, he, hf, ← hlast, hin, q_181_0]
      rw [h182, g11_6, hdR]
  · rw [if_neg c1, if_neg (by decide)]
    refine into (D := 3) (by omega) hM_181 (rcv_mk rfl (by decide)) rfl fun d hd => ?_
    show runP MP d 181 (0, [some (.ref 16), some (.int (zI x))], [], _) = _
    rw [q_181_0]; (try simp only [li_0, li_4, li_5, li_6, li_10, li_59, zI_add, zI_sub, zI_mul, zI_neg, ↓Option.bind_some]); simp (disch := (first | assumption | exact tI_rg _ | omega | exact uR_at | exact row_ne hF (by decide) | exact row_ne (row_ne hF (by decide)) (by decide) | exact SnS_18 | exact SnS_30 | exact LdS_44 | exact LdS_46)) only [q_181_26, ↓cc_182f, thr_eq, li_0, li_4, li_5, li_6, li_10, li_59, zI_add, zI_sub, zI_mul, zI_neg, ↓Option.bind_some, ↓g11_4, ↓g11_6, zIt2, uR_at, uR_ne, uR_uR, uC_uC, uC_at, ↓reduceIte, decide_eq_true_eq, leT, leF, ltT, ltF, eqT, eqF, ne_eq, not_true_eq_false, not_false_eq_true, Bool.false_eq_true, tI_zI]
theorem cl_rest {d : Nat} {E : EnQ} {F : Nat → Int → Int32} {G : Nat → Int → Int64} {x : Int} (hx : -2147483648 ≤ x ∧ x ≤ 2147483647) (hA : 0 ≤ x ∧ x < 3 → (E.2.2.2 42 x = 0 ∧ tI (F 222 x) = 0) ∨ (SnS E (E.2.2.2 42 x) ∧ 247 ≤ E.2.2.2 42 x ∧ tI (F 222 x) = 1)) (hd : 2 ≤ d) : callP MP d 183 [.ref 16, .int (zI x)] (mk E F G) = if a_rest F x = 0 then some (Sum.inl none, mk (uE E 18 0 (rfQ E (E.2.2.2 42 x) 0)) (tkF F 18 (E.2.2.2 42 x)) G) else if a_rest F x = 1 then some (Sum.inr 0, mk (jE E) F G) else some (Sum.inr 1, mk (jE E) F G) := by
  unfold a_rest
  by_cases c1 : 0 ≤ x ∧ x < 3
  · rcases hA c1 with ⟨h0, h3⟩ | ⟨h1, h2, h3⟩
    · rw [if_pos c1, if_pos h3, if_neg (by decide), if_neg (by decide)]
      have hdN : ∀ {kn : ResP} {ka : Nat → ResP}, dR (aldR (mk E F G) 4 42 (zI x)) kn ka = kn := fun {kn ka} => alR_n (E := E) (a := 42) (ty := 4) (n := 3) rfl c1 (by decide) h0
      refine into (D := 1) (by omega) hM_183 (rcv_mk rfl (by decide)) rfl fun d hd => ?_
      show runP MP d 183 (0, [some (.ref 16), some (.int (zI x))], [], _) = _
      rw [q_183_0]; (try simp only [li_0, li_1, li_4, li_6, zI_add, zI_sub, zI_mul, zI_neg, ↓Option.bind_some]); simp (disch := (first | assumption | exact tI_rg _ | omega | exact uR_at | exact row_ne hF (by decide) | exact row_ne (row_ne hF (by decide)) (by decide) | exact SnS_18 | exact SnS_30 | exact LdS_44 | exact LdS_46)) only [↓cc_182t, ↓hdN, jnk_mk, li_0, li_1, li_4, li_6, zI_add, zI_sub, zI_mul, zI_neg, ↓Option.bind_some, ↓g11_4, ↓g11_6, zIt2, uR_at, uR_ne, uR_uR, uC_uC, uC_at, ↓reduceIte, decide_eq_true_eq, leT, leF, ltT, ltF, eqT, eqF, ne_eq, not_true_eq_false, not_false_eq_true, Bool.false_eq_true, tI_zI]
    · rw [if_pos c1, if_neg (show ¬ tI (F 222 x) = 0 by omega), if_pos rfl]
      have h0 : ¬ E.2.2.2 42 x = 0 := by omega
      have hdR : ∀ {kn : ResP} {ka : Nat → ResP}, dR (aldR (mk E F G) 4 42 (zI x)) kn ka = ka (rfQ E 42 x) := fun {kn ka} => alR_b (E := E) (a := 42) (ty := 4) (n := 3) rfl c1 (by decide) h0
      obtain ⟨e, rfl⟩ : ∃ e, d = e + 1 := ⟨d - 1, by omega⟩
      have hin : callP MP (e + 1) 183 [.ref 16, .int (zI x)] (mk E F G) = runP MP e 183 (0, [some (.ref 16), some (.int (zI x))], [], mk E F G) := into_eq (by omega) hM_183 (rcv_mk rfl (by decide)) rfl
      have h73 : ∀ {kk : HeapP → ResP} {kx : Nat → HeapP → ResP}, cV (callP MP e 73 [.ref 18, .ref (rfQ E 42 x)] (mk E F G)) kk kx = kk (mk (uE E 18 0 (rfQ E (E.2.2.2 42 x) 0)) (tkF F 18 (E.2.2.2 42 x)) G) := fun {kk kx} => cc_73 SnS_18 h1 (by unfold rfQ; omega) (by omega)
      rw [hin]
      rw [q_183_0]; (try simp only [li_0, li_1, li_4, li_6, zI_add, zI_sub, zI_mul, zI_neg, ↓Option.bind_some]); simp (disch := (first | assumption | exact tI_rg _ | omega | exact uR_at | exact row_ne hF (by decide) | exact row_ne (row_ne hF (by decide)) (by decide) | exact SnS_18 | exact SnS_30 | exact LdS_44 | exact LdS_46)) only [↓cc_182t, ↓hdR, ↓h73, jnk_mk, li_0, li_1, li_4, li_6, zI_add, zI_sub, zI_mul, zI_neg, ↓Option.bind_some, ↓g11_4, ↓g11_6, zIt2, uR_at, uR_ne, uR_uR, uC_uC, uC_at, ↓reduceIte, decide_eq_true_eq, leT, leF, ltT, ltF, eqT, eqF, ne_eq, not_true_eq_false, not_false_eq_true, Bool.false_eq_true, tI_zI]
  · rw [if_neg c1, if_neg (by decide), if_pos rfl]
    refine into (D := 1) (by omega) hM_183 (rcv_mk rfl (by decide)) rfl fun d hd => ?_
    show runP MP d 183 (0, [some (.ref 16), some (.int (zI x))], [], _) = _
    rw [q_183_0]; (try simp only [li_0, li_1, li_4, li_6, zI_add, zI_sub, zI_mul, zI_neg, ↓Option.bind_some]); simp (disch := (first | assumption | exact tI_rg _ | omega | exact uR_at | exact row_ne hF (by decide) | exact row_ne (row_ne hF (by decide)) (by decide) | exact SnS_18 | exact SnS_30 | exact LdS_44 | exact LdS_46)) only [↓cc_182f, thr_eq, jnk_mk, li_0, li_1, li_4, li_6, zI_add, zI_sub, zI_mul, zI_neg, ↓Option.bind_some, ↓g11_4, ↓g11_6, zIt2, uR_at, uR_ne, uR_uR, uC_uC, uC_at, ↓reduceIte, decide_eq_true_eq, leT, leF, ltT, ltF, eqT, eqF, ne_eq, not_true_eq_false, not_false_eq_true, Bool.false_eq_true, tI_zI]
def slR (r k : Int → Int32) (x : Int) (n : Nat) : Int → Int32 := fun j => if 408 * x ≤ j ∧ j < 408 * x + n then k (j - 408 * x) else r j
theorem slR_0 {r k : Int → Int32} {x : Int} : slR r k x 0 = r := by funext j; exact if_neg (by omega)
theorem slR_s {r k : Int → Int32} {x : Int} {n : Nat} : slR r k x (n + 1) = uC (slR r k x n) (408 * x + n) (k n) := by
  funext j
  by_cases e : j = 408 * x + n
  · rw [e, uC_at]
    show (if 408 * x ≤ 408 * x + (n : Int) ∧ 408 * x + (n : Int) < 408 * x + ((n + 1 : Nat) : Int) then k (408 * x + (n : Int) - 408 * x) else _) = _
    rw [if_pos (by omega), show 408 * x + (n : Int) - 408 * x = (n : Int) by omega]
  · rw [uC_ne e]
    unfold slR
    by_cases g : 408 * x ≤ j ∧ j < 408 * x + n
    · rw [if_pos g, if_pos (by omega)]
    · rw [if_neg g, if_neg (by omega)]
def slK (r k : Int → Int32) (x : Int) (n : Nat) : Int → Int32 := fun j => if 0 ≤ j ∧ j < n then r (408 * x + j) else k j
theorem slK_0 {r k : Int → Int32} {x : Int} : slK r k x 0 = k := by funext j; exact if_neg (by omega)
theorem slK_s {r k : Int → Int32} {x : Int} {n : Nat} : slK r k x (n + 1) = uC (slK r k x n) n (r (408 * x + n)) := by
  funext j
  by_cases e : j = n
  · rw [e, uC_at]
    show (if 0 ≤ (n : Int) ∧ (n : Int) < ((n + 1 : Nat) : Int) then r (408 * x + (n : Int)) else _) = _
    rw [if_pos (by omega)]
  · rw [uC_ne e]
    unfold slK
    by_cases g : 0 ≤ j ∧ j < n
    · rw [if_pos g, if_pos (by omega)]
    · rw [if_neg g, if_neg (by omega)]
def imM (F : Nat → Int → Int32) (x : Int) : Nat → Int → Int32 := uR (uR (uR F 217 (uC (F 217) 5 (zI 0))) 222 (uC (F 222) x (zI 1))) 221 (slR (F 221) (F 218) x 408)
def reM (F : Nat → Int → Int32) (x : Int) : Nat → Int → Int32 := uR (uR F 217 (uC (F 217) 5 (zI 0))) 218 (slK (F 221) (F 218) x 408)
theorem ml_image {d : Nat} {E : EnQ} {F : Nat → Int → Int32} {G : Nat → Int → Int64} {x : Int} (hx : -2147483648 ≤ x ∧ x ≤ 2147483647) (hd : 2 ≤ d) : callP MP d 316 [.ref 217, .int (zI x)] (mk E F G) = some (Sum.inl none, mk E (if a_image x = 0 then imM F x else uR F 217 (uC (F 217) 5 (zI 1))) G) := by
  unfold a_image
  by_cases c1 : 0 ≤ x ∧ x < 3
  · rw [if_pos c1, if_pos rfl]
    refine into (D := 1) (by omega) hM_316 (rcv_mk rfl (by decide)) rfl fun d hd => ?_
    show runP MP d 316 (0, [some (.ref 217), some (.int (zI x)), none], [], _) = _
    have hst : ∀ {f : HeapP → ResP}, (astN (mk E (uR F 217 (uC (F 217) 5 (zI 0))) G) 2 222 (zI x) (zI 1)).bind f = f (mk E (uR (uR F 217 (uC (F 217) 5 (zI 0))) 222 (uC (F 222) x (zI 1))) G) := fun {f} => by
      rw [as_222 c1]; rfl
    have hl : runP MP d 316 (38, [some (.ref 217), some (.int (zI x)), some (.int (zI 0))], [], mk E (uR (uR F 217 (uC (F 217) 5 (zI 0))) 222 (uC (F 222) x (zI 1))) G) = some (Sum.inl none, mk E (imM F x) G) := by
      have h0 : mk E (uR (uR F 217 (uC (F 217) 5 (zI 0))) 222 (uC (F 222) x (zI 1))) G = mk E (uR (uR (uR F 217 (uC (F 217) 5 (zI 0))) 222 (uC (F 222) x (zI 1))) 221 (slR (F 221) (F 218) x 0)) G := by
        rw [slR_0]
        have e1 : uR (uR F 217 (uC (F 217) 5 (zI 0))) 222 (uC (F 222) x (zI 1)) 221 = F 221 := by rw [uR_ne (by decide), uR_ne (by decide)]
        rw [← e1, uR_self]
      rw [h0]
      refine (loopN (fun j : Nat => runP MP d 316 (38, [some (.ref 217), some (.int (zI x)), some (.int (zI (j : Nat)))], [], mk E (uR (uR (uR F 217 (uC (F 217) 5 (zI 0))) 222 (uC (F 222) x (zI 1))) 221 (slR (F 221) (F 218) x j)) G)) (408) (fun j hj => ?_)).trans ?_
      · show runP MP d 316 (38, [some (.ref 217), some (.int (zI x)), some (.int (zI (j : Nat)))], [], mk E (uR (uR (uR F 217 (uC (F 217) 5 (zI 0))) 222 (uC (F 222) x (zI 1))) 221 (slR (F 221) (F 218) x j)) G) = runP MP d 316 (38, [some (.ref 217), some (.int (zI x)), some (.int (zI ((j + 1) : Nat)))], [], mk E (uR (uR (uR F 217 (uC (F 217) 5 (zI 0))) 222 (uC (F 222) x (zI 1))) 221 (slR (F 221) (F 218) x (j + 1))) G)
        have e18 : uR (uR (uR F 217 (uC (F 217) 5 (zI 0))) 222 (uC (F 222) x (zI 1))) 221 (slR (F 221) (F 218) x j) 218 = F 218 := by rw [uR_ne (by decide), uR_ne (by decide), uR_ne (by decide)]
        have ez : zI (tI (F 218 (j : Int))) = F 218 (j : Int) := zI_tI _
        rw [slR_s, nsucc]
        rw [q_316_38]; (try simp only [↓n_rd, ↓n_al, ↓n_cI, li_0, li_1, li_2, li_3, li_4, li_5, li_12, li_38, li_408, lj_0, lj_1, lj_2, lj_3, lj_4, lj_5, lj_12, zJ_add, zJ_sub, zJ_mul, zJ_neg, zJ_l2i, zI_add, zI_sub, zI_mul, zI_neg, ↓Option.bind_some]); simp (disch := (first | assumption | exact tI_rg _ | omega | exact uR_at | exact row_ne hF (by decide) | exact row_ne (row_ne hF (by decide)) (by decide) | exact SnS_18 | exact SnS_30 | exact LdS_44 | exact LdS_46)) only [q_316_0, q_316_18, e18, ez, ↓n_rd, ↓n_al, ↓n_cI, li_0, li_1, li_2, li_3, li_4, li_5, li_12, li_38, li_408, lj_0, lj_1, lj_2, lj_3, lj_4, lj_5, lj_12, zJ_add, zJ_sub, zJ_mul, zJ_neg, zJ_l2i, tJ_zJ, zI_add, zI_sub, zI_mul, zI_neg, ↓Option.bind_some, ↓g12_0, ↓g12_3, ↓g12_4, ↓g12_5, ↓p12_5, ↓al_218, ↓as_218, ↓al_221, ↓as_221, ↓al_222, ↓as_222, zIt2, uR_at, uR_ne, uR_uR, uC_uC, uC_at, ↓reduceIte, decide_eq_true_eq, leT, leF, ltT, ltF, eqT, eqF, ne_eq, not_true_eq_false, not_false_eq_true, Bool.false_eq_true, tI_zI]
      · show runP MP d 316 (38, [some (.ref 217), some (.int (zI x)), some (.int (zI ((408) : Nat)))], [], mk E (uR (uR (uR F 217 (uC (F 217) 5 (zI 0))) 222 (uC (F 222) x (zI 1))) 221 (slR (F 221) (F 218) x (408))) G) = _
        show runP MP d 316 (38, [some (.ref 217), some (.int (zI x)), some (.int (zI 408))], [], mk E (uR (uR (uR F 217 (uC (F 217) 5 (zI 0))) 222 (uC (F 222) x (zI 1))) 221 (slR (F 221) (F 218) x 408)) G) = _
        unfold imM
        rw [q_316_38]; (try simp only [↓n_rd, ↓n_al, ↓n_cI, li_0, li_1, li_2, li_3, li_4, li_5, li_12, li_38, li_408, lj_0, lj_1, lj_2, lj_3, lj_4, lj_5, lj_12, zJ_add, zJ_sub, zJ_mul, zJ_neg, zJ_l2i, zI_add, zI_sub, zI_mul, zI_neg, ↓Option.bind_some]); simp (disch := (first | assumption | exact tI_rg _ | omega | exact uR_at | exact row_ne hF (by decide) | exact row_ne (row_ne hF (by decide)) (by decide) | exact SnS_18 | exact SnS_30 | exact LdS_44 | exact LdS_46)) only [q_316_0, q_316_18, ↓n_rd, ↓n_al, ↓n_cI, li_0, li_1, li_2, li_3, li_4, li_5, li_12, li_38, li_408, lj_0, lj_1, lj_2, lj_3, lj_4, lj_5, lj_12, zJ_add, zJ_sub, zJ_mul, zJ_neg, zJ_l2i, tJ_zJ, zI_add, zI_sub, zI_mul, zI_neg, ↓Option.bind_some, ↓g12_0, ↓g12_3, ↓g12_4, ↓g12_5, ↓p12_5, ↓al_218, ↓as_218, ↓al_221, ↓as_221, ↓al_222, ↓as_222, zIt2, uR_at, uR_ne, uR_uR, uC_uC, uC_at, ↓reduceIte, decide_eq_true_eq, leT, leF, ltT, ltF, eqT, eqF, ne_eq, not_true_eq_false, not_false_eq_true, Bool.false_eq_true, tI_zI]
    rw [q_316_0]; (try simp only [↓n_rd, ↓n_al, ↓n_cI, li_0, li_1, li_2, li_3, li_4, li_5, li_12, li_38, li_408, lj_0, lj_1, lj_2, lj_3, lj_4, lj_5, lj_12, zJ_add, zJ_sub, zJ_mul, zJ_neg, zJ_l2i, zI_add, zI_sub, zI_mul, zI_neg, ↓Option.bind_some]); simp (disch := (first | assumption | exact tI_rg _ | omega | exact uR_at | exact row_ne hF (by decide) | exact row_ne (row_ne hF (by decide)) (by decide) | exact SnS_18 | exact SnS_30 | exact LdS_44 | exact LdS_46)) only [q_316_18, zI_i2l, ↓cc_188t, ↓hst, ↓hl, ↓n_rd, ↓n_al, ↓n_cI, li_0, li_1, li_2, li_3, li_4, li_5, li_12, li_38, li_408, lj_0, lj_1, lj_2, lj_3, lj_4, lj_5, lj_12, zJ_add, zJ_sub, zJ_mul, zJ_neg, zJ_l2i, tJ_zJ, zI_add, zI_sub, zI_mul, zI_neg, ↓Option.bind_some, ↓g12_0, ↓g12_3, ↓g12_4, ↓g12_5, ↓p12_5, ↓al_218, ↓as_218, ↓al_221, ↓as_221, ↓al_222, ↓as_222, zIt2, uR_at, uR_ne, uR_uR, uC_uC, uC_at, ↓reduceIte, decide_eq_true_eq, leT, leF, ltT, ltF, eqT, eqF, ne_eq, not_true_eq_false, not_false_eq_true, Bool.false_eq_true, tI_zI]
  · rw [if_neg c1, if_neg (by decide)]
    refine into (D := 1) (by omega) hM_316 (rcv_mk rfl (by decide)) rfl fun d hd => ?_
    show runP MP d 316 (0, [some (.ref 217), some (.int (zI x)), none], [], _) = _
    rw [q_316_0]; (try simp only [↓n_rd, ↓n_al, ↓n_cI, li_0, li_1, li_2, li_3, li_4, li_5, li_12, li_38, li_408, lj_0, lj_1, lj_2, lj_3, lj_4, lj_5, lj_12, zJ_add, zJ_sub, zJ_mul, zJ_neg, zJ_l2i, zI_add, zI_sub, zI_mul, zI_neg, ↓Option.bind_some]); simp (disch := (first | assumption | exact tI_rg _ | omega | exact uR_at | exact row_ne hF (by decide) | exact row_ne (row_ne hF (by decide)) (by decide) | exact SnS_18 | exact SnS_30 | exact LdS_44 | exact LdS_46)) only [q_316_18, zI_i2l, ↓cc_188f, ↓n_rd, ↓n_al, ↓n_cI, li_0, li_1, li_2, li_3, li_4, li_5, li_12, li_38, li_408, lj_0, lj_1, lj_2, lj_3, lj_4, lj_5, lj_12, zJ_add, zJ_sub, zJ_mul, zJ_neg, zJ_l2i, tJ_zJ, zI_add, zI_sub, zI_mul, zI_neg, ↓Option.bind_some, ↓g12_0, ↓g12_3, ↓g12_4, ↓g12_5, ↓p12_5, ↓al_218, ↓as_218, ↓al_221, ↓as_221, ↓al_222, ↓as_222, zIt2, uR_at, uR_ne, uR_uR, uC_uC, uC_at, ↓reduceIte, decide_eq_true_eq, leT, leF, ltT, ltF, eqT, eqF, ne_eq, not_true_eq_false, not_false_eq_true, Bool.false_eq_true, tI_zI]
theorem ml_rest {d : Nat} {E : EnQ} {F : Nat → Int → Int32} {G : Nat → Int → Int64} {x : Int} (hx : -2147483648 ≤ x ∧ x ≤ 2147483647) (hA : 0 ≤ x ∧ x < 3 → tI (F 222 x) = 0 ∨ tI (F 222 x) = 1) (hd : 2 ≤ d) : callP MP d 317 [.ref 217, .int (zI x)] (mk E F G) = some (Sum.inl none, mk E (if a_rest F x = 0 then reM F x else uR F 217 (uC (F 217) 5 (zI (a_rest F x)))) G) := by
  unfold a_rest
  by_cases c1 : 0 ≤ x ∧ x < 3
  · rcases hA c1 with g | g
    · rw [if_pos c1, if_pos g, if_neg (by decide)]
      refine into (D := 1) (by omega) hM_317 (rcv_mk rfl (by decide)) rfl fun d hd => ?_
      show runP MP d 317 (0, [some (.ref 217), some (.int (zI x)), none], [], _) = _
      rw [q_317_0]; (try simp only [↓n_rd, ↓n_al, ↓n_cI, li_0, li_1, li_2, li_3, li_4, li_5, li_12, li_31, li_408, lj_0, lj_1, lj_2, lj_3, lj_4, lj_5, lj_12, zJ_add, zJ_sub, zJ_mul, zJ_neg, zJ_l2i, zI_add, zI_sub, zI_mul, zI_neg, ↓Option.bind_some]); simp (disch := (first | assumption | exact tI_rg _ | omega | exact uR_at | exact row_ne hF (by decide) | exact row_ne (row_ne hF (by decide)) (by decide) | exact SnS_18 | exact SnS_30 | exact LdS_44 | exact LdS_46)) only [q_317_31, zI_i2l, ↓cc_188t, g, ↓n_rd, ↓n_al, ↓n_cI, li_0, li_1, li_2, li_3, li_4, li_5, li_12, li_31, li_408, lj_0, lj_1, lj_2, lj_3, lj_4, lj_5, lj_12, zJ_add, zJ_sub, zJ_mul, zJ_neg, zJ_l2i, tJ_zJ, zI_add, zI_sub, zI_mul, zI_neg, ↓Option.bind_some, ↓g12_0, ↓g12_3, ↓g12_4, ↓g12_5, ↓p12_5, ↓al_218, ↓as_218, ↓al_221, ↓as_221, ↓al_222, ↓as_222, zIt2, uR_at, uR_ne, uR_uR, uC_uC, uC_at, ↓reduceIte, decide_eq_true_eq, leT, leF, ltT, ltF, eqT, eqF, ne_eq, not_true_eq_false, not_false_eq_true, Bool.false_eq_true, tI_zI]
    · rw [if_pos c1, if_neg (show ¬ tI (F 222 x) = 0 by omega), if_pos rfl]
      refine into (D := 1) (by omega) hM_317 (rcv_mk rfl (by decide)) rfl fun d hd => ?_
      show runP MP d 317 (0, [some (.ref 217), some (.int (zI x)), none], [], _) = _
      have hl : runP MP d 317 (44, [some (.ref 217), some (.int (zI x)), some (.int (zI 0))], [], mk E (uR F 217 (uC (F 217) 5 (zI 0))) G) = some (Sum.inl none, mk E (reM F x) G) := by
        have h0 : mk E (uR F 217 (uC (F 217) 5 (zI 0))) G = mk E (uR (uR F 217 (uC (F 217) 5 (zI 0))) 218 (slK (F 221) (F 218) x 0)) G := by
          rw [slK_0]
          have e1 : uR F 217 (uC (F 217) 5 (zI 0)) 218 = F 218 := by rw [uR_ne (by decide)]
          rw [← e1, uR_self]
        rw [h0]
        refine (loopN (fun j : Nat => runP MP d 317 (44, [some (.ref 217), some (.int (zI x)), some (.int (zI (j : Nat)))], [], mk E (uR (uR F 217 (uC (F 217) 5 (zI 0))) 218 (slK (F 221) (F 218) x j)) G)) (408) (fun j hj => ?_)).trans ?_
        · show runP MP d 317 (44, [some (.ref 217), some (.int (zI x)), some (.int (zI (j : Nat)))], [], mk E (uR (uR F 217 (uC (F 217) 5 (zI 0))) 218 (slK (F 221) (F 218) x j)) G) = runP MP d 317 (44, [some (.ref 217), some (.int (zI x)), some (.int (zI ((j + 1) : Nat)))], [], mk E (uR (uR F 217 (uC (F 217) 5 (zI 0))) 218 (slK (F 221) (F 218) x (j + 1))) G)
          have e21 : uR (uR F 217 (uC (F 217) 5 (zI 0))) 218 (slK (F 221) (F 218) x j) 221 = F 221 := by rw [uR_ne (by decide), uR_ne (by decide)]
          have ez : zI (tI (F 221 (408 * x + (j : Int)))) = F 221 (408 * x + (j : Int)) := zI_tI _
          rw [slK_s, nsucc]
          rw [q_317_44]; (try simp only [↓n_rd, ↓n_al, ↓n_cI, li_0, li_1, li_2, li_3, li_4, li_5, li_12, li_31, li_408, lj_0, lj_1, lj_2, lj_3, lj_4, lj_5, lj_12, zJ_add, zJ_sub, zJ_mul, zJ_neg, zJ_l2i, zI_add, zI_sub, zI_mul, zI_neg, ↓Option.bind_some]); simp (disch := (first | assumption | exact tI_rg _ | omega | exact uR_at | exact row_ne hF (by decide) | exact row_ne (row_ne hF (by decide)) (by decide) | exact SnS_18 | exact SnS_30 | exact LdS_44 | exact LdS_46)) only [q_317_0, q_317_31, e21, ez, ↓n_rd, ↓n_al, ↓n_cI, li_0, li_1, li_2, li_3, li_4, li_5, li_12, li_31, li_408, lj_0, lj_1, lj_2, lj_3, lj_4, lj_5, lj_12, zJ_add, zJ_sub, zJ_mul, zJ_neg, zJ_l2i, tJ_zJ, zI_add, zI_sub, zI_mul, zI_neg, ↓Option.bind_some, ↓g12_0, ↓g12_3, ↓g12_4, ↓g12_5, ↓p12_5, ↓al_218, ↓as_218, ↓al_221, ↓as_221, ↓al_222, ↓as_222, zIt2, uR_at, uR_ne, uR_uR, uC_uC, uC_at, ↓reduceIte, decide_eq_true_eq, leT, leF, ltT, ltF, eqT, eqF, ne_eq, not_true_eq_false, not_false_eq_true, Bool.false_eq_true, tI_zI]
        · show runP MP d 317 (44, [some (.ref 217), some (.int (zI x)), some (.int (zI ((408) : Nat)))], [], mk E (uR (uR F 217 (uC (F 217) 5 (zI 0))) 218 (slK (F 221) (F 218) x (408))) G) = _
          show runP MP d 317 (44, [some (.ref 217), some (.int (zI x)), some (.int (zI 408))], [], mk E (uR (uR F 217 (uC (F 217) 5 (zI 0))) 218 (slK (F 221) (F 218) x 408)) G) = _
          unfold reM
          rw [q_317_44]; (try simp only [↓n_rd, ↓n_al, ↓n_cI, li_0, li_1, li_2, li_3, li_4, li_5, li_12, li_31, li_408, lj_0, lj_1, lj_2, lj_3, lj_4, lj_5, lj_12, zJ_add, zJ_sub, zJ_mul, zJ_neg, zJ_l2i, zI_add, zI_sub, zI_mul, zI_neg, ↓Option.bind_some]); simp (disch := (first | assumption | exact tI_rg _ | omega | exact uR_at | exact row_ne hF (by decide) | exact row_ne (row_ne hF (by decide)) (by decide) | exact SnS_18 | exact SnS_30 | exact LdS_44 | exact LdS_46)) only [q_317_0, q_317_31, ↓n_rd, ↓n_al, ↓n_cI, li_0, li_1, li_2, li_3, li_4, li_5, li_12, li_31, li_408, lj_0, lj_1, lj_2, lj_3, lj_4, lj_5, lj_12, zJ_add, zJ_sub, zJ_mul, zJ_neg, zJ_l2i, tJ_zJ, zI_add, zI_sub, zI_mul, zI_neg, ↓Option.bind_some, ↓g12_0, ↓g12_3, ↓g12_4, ↓g12_5, ↓p12_5, ↓al_218, ↓as_218, ↓al_221, ↓as_221, ↓al_222, ↓as_222, zIt2, uR_at, uR_ne, uR_uR, uC_uC, uC_at, ↓reduceIte, decide_eq_true_eq, leT, leF, ltT, ltF, eqT, eqF, ne_eq, not_true_eq_false, not_false_eq_true, Bool.false_eq_true, tI_zI]
      rw [q_317_0]; (try simp only [↓n_rd, ↓n_al, ↓n_cI, li_0, li_1, li_2, li_3, li_4, li_5, li_12, li_31, li_408, lj_0, lj_1, lj_2, lj_3, lj_4, lj_5, lj_12, zJ_add, zJ_sub, zJ_mul, zJ_neg, zJ_l2i, zI_add, zI_sub, zI_mul, zI_neg, ↓Option.bind_some]); simp (disch := (first | assumption | exact tI_rg _ | omega | exact uR_at | exact row_ne hF (by decide) | exact row_ne (row_ne hF (by decide)) (by decide) | exact SnS_18 | exact SnS_30 | exact LdS_44 | exact LdS_46)) only [q_317_31, zI_i2l, ↓cc_188t, g, ↓hl, ↓n_rd, ↓n_al, ↓n_cI, li_0, li_1, li_2, li_3, li_4, li_5, li_12, li_31, li_408, lj_0, lj_1, lj_2, lj_3, lj_4, lj_5, lj_12, zJ_add, zJ_sub, zJ_mul, zJ_neg, zJ_l2i, tJ_zJ, zI_add, zI_sub, zI_mul, zI_neg, ↓Option.bind_some, ↓g12_0, ↓g12_3, ↓g12_4, ↓g12_5, ↓p12_5, ↓al_218, ↓as_218, ↓al_221, ↓as_221, ↓al_222, ↓as_222, zIt2, uR_at, uR_ne, uR_uR, uC_uC, uC_at, ↓reduceIte, decide_eq_true_eq, leT, leF, ltT, ltF, eqT, eqF, ne_eq, not_true_eq_false, not_false_eq_true, Bool.false_eq_true, tI_zI]
  · rw [if_neg c1, if_neg (by decide)]
    refine into (D := 1) (by omega) hM_317 (rcv_mk rfl (by decide)) rfl fun d hd => ?_
    show runP MP d 317 (0, [some (.ref 217), some (.int (zI x)), none], [], _) = _
    rw [q_317_0]; (try simp only [↓n_rd, ↓n_al, ↓n_cI, li_0, li_1, li_2, li_3, li_4, li_5, li_12, li_31, li_408, lj_0, lj_1, lj_2, lj_3, lj_4, lj_5, lj_12, zJ_add, zJ_sub, zJ_mul, zJ_neg, zJ_l2i, zI_add, zI_sub, zI_mul, zI_neg, ↓Option.bind_some]); simp (disch := (first | assumption | exact tI_rg _ | omega | exact uR_at | exact row_ne hF (by decide) | exact row_ne (row_ne hF (by decide)) (by decide) | exact SnS_18 | exact SnS_30 | exact LdS_44 | exact LdS_46)) only [q_317_31, zI_i2l, ↓cc_188f, ↓n_rd, ↓n_al, ↓n_cI, li_0, li_1, li_2, li_3, li_4, li_5, li_12, li_31, li_408, lj_0, lj_1, lj_2, lj_3, lj_4, lj_5, lj_12, zJ_add, zJ_sub, zJ_mul, zJ_neg, zJ_l2i, tJ_zJ, zI_add, zI_sub, zI_mul, zI_neg, ↓Option.bind_some, ↓g12_0, ↓g12_3, ↓g12_4, ↓g12_5, ↓p12_5, ↓al_218, ↓as_218, ↓al_221, ↓as_221, ↓al_222, ↓as_222, zIt2, uR_at, uR_ne, uR_uR, uC_uC, uC_at, ↓reduceIte, decide_eq_true_eq, leT, leF, ltT, ltF, eqT, eqF, ne_eq, not_true_eq_false, not_false_eq_true, Bool.false_eq_true, tI_zI]
end S94zq
