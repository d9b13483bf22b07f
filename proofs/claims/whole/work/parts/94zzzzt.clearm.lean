/-! MODEL: clear -/
section S94zzzzt
set_option linter.unusedVariables false
set_option linter.unusedSimpArgs false
def KpX (F : Nat → Int → Int32) (G : Nat → Int → Int64) (F1 : Nat → Int → Int32) (G1 : Nat → Int → Int64) : Prop := (∀ q, q ≠ 217 → q ≠ 233 → q ≠ 235 → q ≠ 242 → F1 q = F q) ∧ F1 242 = F 242 ∧ (∀ j, j < 35 ∨ 38 < j → j ≠ 41 → j ≠ 52 → F1 217 j = F 217 j) ∧ tI (F1 217 52) = tI (F 217 52) ∧ (∀ q, q ≠ 217 → G1 q = G q)
theorem KpX_rf {F : Nat → Int → Int32} {G : Nat → Int → Int64} : KpX F G F G := ⟨fun _ _ _ _ _ => rfl, rfl, fun _ _ _ _ => rfl, rfl, fun _ _ => rfl⟩
theorem KpX.tr {F F1 F2 : Nat → Int → Int32} {G G1 G2 : Nat → Int → Int64} (h : KpX F G F1 G1) (k : KpX F1 G1 F2 G2) : KpX F G F2 G2 := ⟨fun q a b c e => (k.1 q a b c e).trans (h.1 q a b c e), k.2.1.trans h.2.1, fun j a b c => (k.2.2.1 j a b c).trans (h.2.2.1 j a b c), k.2.2.2.1.trans h.2.2.2.1, fun q a => (k.2.2.2.2 q a).trans (h.2.2.2.2 q a)⟩
theorem KpW.x {F F1 : Nat → Int → Int32} {G G1 : Nat → Int → Int64} (h : KpW F G F1 G1) : KpX F G F1 G1 := ⟨fun q a b c _ => h.1 q a b c, h.1 242 (by decide) (by decide) (by decide), fun j a b _ => h.2.1 j a b, by rw [h.2.1 52 (by omega) (by omega)], h.2.2.1⟩
theorem zJ_up {a : Int} : zJ (tJ (zJ a) + 1) = zJ (a + 1) := by rw [← zJ_add, zJ_tJ, zJ_add]
theorem go_310 {E : EnQ} {K : Int → Int32} {x y : Int} {n : Nat} (hI : InvK K) (hx : 0 ≤ x ∧ x < tI (K 1)) (hy : y = 0 ∨ y = 1) (hn : n ≤ 5) : ∀ (k d : Nat) (p : List Int) (F : Nat → Int → Int32) (G : Nat → Int → Int64) (a u m : Int), p ≠ [] → p.length + k = n + 1 → m = (k : Int) → u = hdL p → VaP K p → plZ p 0 = x → F 218 = K → (∀ v : Int, 0 ≤ v → v < 32 → F 242 v = zI (cP K p v)) → tI (F 217 52) = ((p.length - 1 : Nat) : Int) → G 217 50 = zJ a → 15 + k ≤ d →
    ∃ F1 G1, callP MP d 310 [.ref 217, .int (zI x), .int (zI u), .int (zI m), .int (zI y)] (mk E F G) = some (Sum.inl none, mk E F1 G1) ∧ KpX F G F1 G1 ∧ G1 217 50 = zJ (wkF K (vC K x n y) k p a) := by
  intro k
  induction k with
  | zero =>
    intro d p F G a u m hp0 hl hm hu hv hr hF h242 h52 hG hd
    have hm : m = 0 := hm
    subst hm
    have hG' : tJ (G 217 50) = tJ (zJ a) := by rw [hG]
    obtain ⟨e, rfl⟩ : ∃ e, d = e + 1 := ⟨d - 1, by omega⟩
    have hin : callP MP (e + 1) 310 [.ref 217, .int (zI x), .int (zI u), .int (zI 0), .int (zI y)] (mk E F G) = runP MP e 310 (0, [some (.ref 217), some (.int (zI x)), some (.int (zI u)), some (.int (zI 0)), some (.int (zI y)), none, none], [], mk E F G) := into_eq (by omega) hM_310 (rcv_mk rfl (by decide)) rfl
    have ev : wkF K (vC K x n y) 0 p a = vC K x n y p a := rfl
    rw [ev]
    have hlen : p.length = n + 1 := by omega
    have h17 : ∀ (F1 : Nat → Int → Int32) (G1 : Nat → Int → Int64), G1 217 50 = zJ a → runP MP e 310 (17, [some (.ref 217), some (.int (zI x)), some (.int (zI u)), some (.int (zI 0)), some (.int (zI y)), none, none], [], mk E F1 G1) = some (Sum.inl none, mk E F1 (uR G1 217 (uC (G1 217) 50 (zJ (a + 1))))) := fun F1 G1 h => by
      have h' : tJ (G1 217 50) = tJ (zJ a) := by rw [h]
      rw [q_310_17]; (try simp only [↓n_rd, ↓n_rdJ, ↓n_al, ↓n_cI, li_0, li_1, li_12, li_31, zI_add, zI_sub, zI_mul, zI_neg, ↓Option.bind_some]); simp (disch := (first | assumption | exact tI_rg _ | omega | exact uR_at | exact row_ne hF (by decide) | exact row_ne (row_ne hF (by decide)) (by decide) | exact SnS_18 | exact SnS_30 | exact LdS_44 | exact LdS_46)) only [q_310_0, q_310_27, q_310_112, h', zJ_tJ, lj_1, zJ_add, ↓n_rd, ↓n_rdJ, ↓n_al, ↓n_cI, li_0, li_1, li_12, li_31, zI_add, zI_sub, zI_mul, zI_neg, ↓Option.bind_some, ↓g12_50, ↓g12_51, ↓g12_52, ↓p12_50, ↓p12_52, ↓al_242, ↓as_242, zIt2, uR_at, uR_ne, uR_uR, uC_uC, uC_at, ↓reduceIte, decide_eq_true_eq, leT, leF, ltT, ltF, eqT, eqF, ne_eq, not_true_eq_false, not_false_eq_true, Bool.false_eq_true, tI_zI]
    by_cases c1 : y = 0
    · refine ⟨F, uR G 217 (uC (G 217) 50 (zJ (a + 1))), ?_, ⟨fun _ _ _ _ _ => rfl, rfl, fun _ _ _ _ => rfl, rfl, fun q hq => uR_ne hq⟩, ?_⟩
      · rw [hin, ← h17 F G hG]
        rw [q_310_0]; (try simp only [↓n_rd, ↓n_rdJ, ↓n_al, ↓n_cI, li_0, li_1, li_12, li_31, zI_add, zI_sub, zI_mul, zI_neg, ↓Option.bind_some]); simp (disch := (first | assumption | exact tI_rg _ | omega | exact uR_at | exact row_ne hF (by decide) | exact row_ne (row_ne hF (by decide)) (by decide) | exact SnS_18 | exact SnS_30 | exact LdS_44 | exact LdS_46)) only [q_310_27, q_310_112, c1, ↓n_rd, ↓n_rdJ, ↓n_al, ↓n_cI, li_0, li_1, li_12, li_31, zI_add, zI_sub, zI_mul, zI_neg, ↓Option.bind_some, ↓g12_50, ↓g12_51, ↓g12_52, ↓p12_50, ↓p12_52, ↓al_242, ↓as_242, zIt2, uR_at, uR_ne, uR_uR, uC_uC, uC_at, ↓reduceIte, decide_eq_true_eq, leT, leF, ltT, ltF, eqT, eqF, ne_eq, not_true_eq_false, not_false_eq_true, Bool.false_eq_true, tI_zI]
      · rw [uR_at, uC_at]; unfold vC; rw [if_pos ⟨hlen, Or.inl c1⟩]
    · obtain ⟨F1, G1, r1, r2⟩ := ct_311 (d := e) (E := E) (F := F) (G := G) hI hF hp0 (by omega) hv hr hx h242 h52 (by omega)
      have hG1 : G1 217 50 = zJ a := (r2.2.2.2 50 (by decide) (by decide)).trans hG
      have c311 : ∀ {kk : Int → HeapP → ResP} {kx : Nat → HeapP → ResP}, cT (callP MP e 311 [.ref 217, .int (zI x)] (mk E F G)) kk kx = kk (if onC K x p = 1 then 1 else 0) (mk E F1 G1) := fun {kk kx} => cT_ret r1 (by split <;> omega)
      by_cases c2 : onC K x p = 1
      · rw [if_pos c2] at c311
        refine ⟨F1, uR G1 217 (uC (G1 217) 50 (zJ (a + 1))), ?_, ⟨r2.x.1, r2.x.2.1, r2.x.2.2.1, r2.x.2.2.2.1, fun q hq => (uR_ne hq).trans (r2.x.2.2.2.2 q hq)⟩, ?_⟩
        · rw [hin, ← h17 F1 G1 hG1]
          rw [q_310_0]; (try simp only [↓n_rd, ↓n_rdJ, ↓n_al, ↓n_cI, li_0, li_1, li_12, li_31, zI_add, zI_sub, zI_mul, zI_neg, ↓Option.bind_some]); simp (disch := (first | assumption | exact tI_rg _ | omega | exact uR_at | exact row_ne hF (by decide) | exact row_ne (row_ne hF (by decide)) (by decide) | exact SnS_18 | exact SnS_30 | exact LdS_44 | exact LdS_46)) only [q_310_27, q_310_112, c1, ↓c311, ↓n_rd, ↓n_rdJ, ↓n_al, ↓n_cI, li_0, li_1, li_12, li_31, zI_add, zI_sub, zI_mul, zI_neg, ↓Option.bind_some, ↓g12_50, ↓g12_51, ↓g12_52, ↓p12_50, ↓p12_52, ↓al_242, ↓as_242, zIt2, uR_at, uR_ne, uR_uR, uC_uC, uC_at, ↓reduceIte, decide_eq_true_eq, leT, leF, ltT, ltF, eqT, eqF, ne_eq, not_true_eq_false, not_false_eq_true, Bool.false_eq_true, tI_zI]
        · rw [uR_at, uC_at]; unfold vC; rw [if_pos ⟨hlen, Or.inr c2⟩]
      · rw [if_neg c2] at c311
        refine ⟨F1, G1, ?_, r2.x, ?_⟩
        · rw [hin]
          rw [q_310_0]; (try simp only [↓n_rd, ↓n_rdJ, ↓n_al, ↓n_cI, li_0, li_1, li_12, li_31, zI_add, zI_sub, zI_mul, zI_neg, ↓Option.bind_some]); simp (disch := (first | assumption | exact tI_rg _ | omega | exact uR_at | exact row_ne hF (by decide) | exact row_ne (row_ne hF (by decide)) (by decide) | exact SnS_18 | exact SnS_30 | exact LdS_44 | exact LdS_46)) only [q_310_27, q_310_112, c1, ↓c311, ↓n_rd, ↓n_rdJ, ↓n_al, ↓n_cI, li_0, li_1, li_12, li_31, zI_add, zI_sub, zI_mul, zI_neg, ↓Option.bind_some, ↓g12_50, ↓g12_51, ↓g12_52, ↓p12_50, ↓p12_52, ↓al_242, ↓as_242, zIt2, uR_at, uR_ne, uR_uR, uC_uC, uC_at, ↓reduceIte, decide_eq_true_eq, leT, leF, ltT, ltF, eqT, eqF, ne_eq, not_true_eq_false, not_false_eq_true, Bool.false_eq_true, tI_zI]
        · rw [hG1]; unfold vC; rw [if_neg (fun z => by rcases z.2 with z | z; exact c1 z; exact c2 z)]
  | succ k ih =>
    intro d p F G a u m hp0 hl hm hu hv hr hF h242 h52 hG hd
    obtain ⟨u', t, rfl⟩ : ∃ u t, p = u :: t := by
      cases p with
      | nil => exact absurd rfl hp0
      | cons u t => exact ⟨u, t, rfl⟩
    have hu : u = u' := hu
    subst hu
    obtain ⟨b0, b1, b2, b3, b4, b5, b6, b7, b8, b9⟩ := hI.1
    have l2 : ((u :: t).length : Int) = t.length + 1 := rfl
    have l1 : (u :: t).length - 1 = t.length := rfl
    have hu := hv.1
    have h52 : tI (F 217 52) = (t.length : Int) := h52
    obtain ⟨e, rfl⟩ : ∃ e, d = e + 1 := ⟨d - 1, by omega⟩
    have hin : callP MP (e + 1) 310 [.ref 217, .int (zI x), .int (zI u), .int (zI m), .int (zI y)] (mk E F G) = runP MP e 310 (0, [some (.ref 217), some (.int (zI x)), some (.int (zI u)), some (.int (zI m)), some (.int (zI y)), none, none], [], mk E F G) := into_eq (by omega) hM_310 (rcv_mk rfl (by decide)) rfl
    have hva : vC K x n y (u :: t) a = a := by unfold vC; rw [if_neg (fun z => by omega)]
    have h0 : runP MP e 310 (0, [some (.ref 217), some (.int (zI x)), some (.int (zI u)), some (.int (zI m)), some (.int (zI y)), none, none], [], mk E F G) = runP MP e 310 (31, [some (.ref 217), some (.int (zI x)), some (.int (zI u)), some (.int (zI m)), some (.int (zI y)), some (.int (zI ((0 : Nat) : Int))), none], [], mk E F G) := by
      rw [show ((0 : Nat) : Int) = 0 from rfl]
      have hm0 : ¬ m = 0 := by omega
      rw [q_310_0]; (try simp only [↓n_rd, ↓n_rdJ, ↓n_al, ↓n_cI, li_0, li_1, li_12, li_31, zI_add, zI_sub, zI_mul, zI_neg, ↓Option.bind_some]); simp (disch := (first | assumption | exact tI_rg _ | omega | exact uR_at | exact row_ne hF (by decide) | exact row_ne (row_ne hF (by decide)) (by decide) | exact SnS_18 | exact SnS_30 | exact LdS_44 | exact LdS_46)) only [q_310_17, q_310_27, q_310_112, ↓n_rd, ↓n_rdJ, ↓n_al, ↓n_cI, li_0, li_1, li_12, li_31, zI_add, zI_sub, zI_mul, zI_neg, ↓Option.bind_some, ↓g12_50, ↓g12_51, ↓g12_52, ↓p12_50, ↓p12_52, ↓al_242, ↓as_242, zIt2, uR_at, uR_ne, uR_uR, uC_uC, uC_at, ↓reduceIte, decide_eq_true_eq, leT, leF, ltT, ltF, eqT, eqF, ne_eq, not_true_eq_false, not_false_eq_true, Bool.false_eq_true, tI_zI]
    have hmain : ∃ F1 G1, runP MP e 310 (31, [some (.ref 217), some (.int (zI x)), some (.int (zI u)), some (.int (zI m)), some (.int (zI y)), some (.int (zI ((0 : Nat) : Int))), none], [], mk E F G) = some (Sum.inl none, mk E F1 G1) ∧ KpX F G F1 G1 ∧ G1 217 50 = zJ (wkF K (vC K x n y) (k + 1) (u :: t) a) := by
      refine loopS (σ := (Nat → Int → Int32) × (Nat → Int → Int64) × Option Value) (Post := fun rr => ∃ F1 G1, rr = some (Sum.inl none, mk E F1 G1) ∧ KpX F G F1 G1 ∧ G1 217 50 = zJ (wkF K (vC K x n y) (k + 1) (u :: t) a))
        (fun j s => runP MP e 310 (31, [some (.ref 217), some (.int (zI x)), some (.int (zI u)), some (.int (zI m)), some (.int (zI y)), some (.int (zI (j : Int))), s.2.2], [], mk E s.1 s.2.1))
        (fun j s => KpX F G s.1 s.2.1 ∧ s.2.1 217 50 = zJ (fo (wyB K u) (fun q a => wkF K (vC K x n y) k ((q : Int) :: u :: t) a) j (vC K x n y (u :: t) a))) (tI (K 1)).toNat (F, G, none) ⟨KpX_rf, by show G 217 50 = zJ (vC K x n y (u :: t) a); rw [hG, hva]⟩ (fun s hI2 => ?_) (fun j s hj hI2 => ?_)
      · obtain ⟨j1, j2⟩ := hI2
        have g218 : s.1 218 = K := (j1.1 218 (by decide) (by decide) (by decide) (by decide)).trans hF
        refine ⟨s.1, s.2.1, ?_, j1, j2⟩
        show runP MP e 310 _ = _
        have c214 : ∀ {kk : Int → HeapP → ResP} {kx : Nat → HeapP → ResP}, cT (callP MP e 214 [.ref 217] (mk E s.1 s.2.1)) kk kx = kk (tI (K 1)) (mk E s.1 s.2.1) := fun {kk kx} => by rw [cc_214 hI g218 (by omega)]
        have hle : tI (K 1) ≤ (((tI (K 1)).toNat : Nat) : Int) := by omega
        rw [q_310_31]; (try simp only [↓n_rd, ↓n_rdJ, ↓n_al, ↓n_cI, li_0, li_1, li_12, li_31, zI_add, zI_sub, zI_mul, zI_neg, ↓Option.bind_some]); simp (disch := (first | assumption | exact tI_rg _ | omega | exact uR_at | exact row_ne hF (by decide) | exact row_ne (row_ne hF (by decide)) (by decide) | exact SnS_18 | exact SnS_30 | exact LdS_44 | exact LdS_46)) only [q_310_0, q_310_17, q_310_27, q_310_112, ↓c214, ↓n_rd, ↓n_rdJ, ↓n_al, ↓n_cI, li_0, li_1, li_12, li_31, zI_add, zI_sub, zI_mul, zI_neg, ↓Option.bind_some, ↓g12_50, ↓g12_51, ↓g12_52, ↓p12_50, ↓p12_52, ↓al_242, ↓as_242, zIt2, uR_at, uR_ne, uR_uR, uC_uC, uC_at, ↓reduceIte, decide_eq_true_eq, leT, leF, ltT, ltF, eqT, eqF, ne_eq, not_true_eq_false, not_false_eq_true, Bool.false_eq_true, tI_zI]
      · obtain ⟨j1, j2⟩ := hI2
        have g218 : s.1 218 = K := (j1.1 218 (by decide) (by decide) (by decide) (by decide)).trans hF
        have hj2 : (j : Int) < tI (K 1) := by omega
        right
        have c214 : ∀ {kk : Int → HeapP → ResP} {kx : Nat → HeapP → ResP}, cT (callP MP e 214 [.ref 217] (mk E s.1 s.2.1)) kk kx = kk (tI (K 1)) (mk E s.1 s.2.1) := fun {kk kx} => by rw [cc_214 hI g218 (by omega)]
        have c229 : ∀ {kk : Int → HeapP → ResP} {kx : Nat → HeapP → ResP}, cT (callP MP e 229 [.ref 217, .int (zI u), .int (zI (j : Int))] (mk E s.1 s.2.1)) kk kx = kk (wayZ K u j) (mk E s.1 s.2.1) := fun {kk kx} => by rw [cc_229 hI g218 (by omega) (by omega) (by omega)]
        have hwl := wayZ_lo b2 u j
        by_cases c : wyB K u j = true
        · have hwy := wyB_t.mp c
          have e1 : fo (wyB K u) (fun q a => wkF K (vC K x n y) k ((q : Int) :: u :: t) a) (j + 1) (vC K x n y (u :: t) a) = wkF K (vC K x n y) k ((j : Int) :: u :: t) (fo (wyB K u) (fun q a => wkF K (vC K x n y) k ((q : Int) :: u :: t) a) j (vC K x n y (u :: t) a)) := if_pos c
          rw [e1]
          obtain ⟨w, hw⟩ : ∃ w, w = wayZ K u j := ⟨_, rfl⟩
          have hwr := (wayZ_ends hI hwy).1
          rw [← hw] at c229 hwl hwy hwr
          have l3 : (((j : Int) :: u :: t).length) = (u :: t).length + 1 := rfl
          have hcr := cntN_rg (fun i => pwL K (u :: t) i == w) ((u :: t).length - 1)
          have hcr : 0 ≤ cP K (u :: t) w ∧ cP K (u :: t) w ≤ 10 := by
            have h : 0 ≤ cP K (u :: t) w ∧ cP K (u :: t) w ≤ ((u :: t).length - 1 : Nat) := hcr
            omega
          have e242 : tI (s.1 242 w) = cP K (u :: t) w := by rw [j1.2.1, h242 w hwr.1 (by omega), tI_zI (by omega)]
          have e52 : tI (s.1 217 52) = (t.length : Int) := j1.2.2.2.1.trans h52
          obtain ⟨F2, hF2⟩ : ∃ F2, F2 = uR (uR s.1 242 (uC (s.1 242) w (zI (cP K (u :: t) w + 1)))) 217 (uC (s.1 217) 52 (zI ((t.length : Int) + 1))) := ⟨_, rfl⟩
          have o242 : F2 242 = uC (s.1 242) w (zI (cP K (u :: t) w + 1)) := by rw [hF2, uR_ne (by decide), uR_at]
          have o217 : F2 217 = uC (s.1 217) 52 (zI ((t.length : Int) + 1)) := by rw [hF2, uR_at]
          have oq : ∀ q, q ≠ 217 → q ≠ 242 → F2 q = s.1 q := fun q a1 a2 => by rw [hF2, uR_ne a1, uR_ne a2]
          obtain ⟨F3, G3, r1, r2, r3⟩ := ih e ((j : Int) :: u :: t) F2 s.2.1 _ (j : Int) (m - 1) (by intro z; cases z) (by omega) (by omega) rfl ⟨by omega, fun _ => by show wayZ K u (j : Int) ≠ -1; rw [← hw]; exact hwy, hv⟩ (by rw [plZ_lo (by omega)]; exact hr) (by rw [oq 218 (by decide) (by decide)]; exact g218)
            (fun v hv1 hv2 => by
              rw [o242, cP_s, ← hw]
              by_cases z : v = w
              · rw [z, uC_at, if_pos rfl]
              · rw [uC_ne z, if_neg (Ne.symm z), Int.add_zero, j1.2.1]; exact h242 v hv1 hv2) (by rw [o217, uC_at, tI_zI (by omega)]; rfl) j2 (by omega)
          have c310 : ∀ {kk : HeapP → ResP} {kx : Nat → HeapP → ResP}, cV (callP MP e 310 [.ref 217, .int (zI x), .int (zI (j : Int)), .int (zI (m - 1)), .int (zI y)] (mk E F2 s.2.1)) kk kx = kk (mk E F3 G3) := fun {kk kx} => cV_ret r1
          have f52 : tI (F3 217 52) = (t.length : Int) + 1 := by rw [r2.2.2.2.1, o217, uC_at, tI_zI (by omega)]
          have f242 : tI (F3 242 w) = cP K (u :: t) w + 1 := by rw [r2.2.1, o242, uC_at, tI_zI (by omega)]
          have hw2 : mk E (uR (uR s.1 242 (uC (s.1 242) w (zI (cP K (u :: t) w + 1)))) 217 (uC (s.1 217) 52 (zI ((t.length : Int) + 1)))) s.2.1 = mk E F2 s.2.1 := by rw [hF2]
          have ea : (t.length : Int) + 1 - 1 = (t.length : Int) := by omega
          have eb : cP K (u :: t) w + 1 - 1 = cP K (u :: t) w := by omega
          refine ⟨(uR (uR F3 217 (uC (F3 217) 52 (zI (t.length : Int)))) 242 (uC (F3 242) w (zI (cP K (u :: t) w))), G3, some (.int (zI w))), ⟨⟨fun q a1 a2 a3 a4 => ?_, ?_, fun i a1 a2 a3 => ?_, ?_, fun q a1 => (r2.2.2.2.2 q a1).trans (j1.2.2.2.2 q a1)⟩, r3⟩, ?_⟩
          · dsimp only
            rw [uR_ne a4, uR_ne a1, r2.1 q a1 a2 a3 a4, oq q a1 a4]; exact j1.1 q a1 a2 a3 a4
          · dsimp only
            rw [uR_at, r2.2.1, o242, uC_uC, ← h242 w hwr.1 (by omega), ← j1.2.1, uC_self]
          · dsimp only
            rw [uR_ne (by decide), uR_at, uC_ne a3, r2.2.2.1 i a1 a2 a3, o217, uC_ne a3]; exact j1.2.2.1 i a1 a2 a3
          · dsimp only
            rw [uR_ne (by decide), uR_at, uC_at, tI_zI (by omega)]; exact h52.symm
          · show runP MP e 310 _ = runP MP e 310 _
            rw [nsucc]
            rw [q_310_31]; (try simp only [↓n_rd, ↓n_rdJ, ↓n_al, ↓n_cI, li_0, li_1, li_12, li_31, zI_add, zI_sub, zI_mul, zI_neg, ↓Option.bind_some]); simp (disch := (first | assumption | exact tI_rg _ | omega | exact uR_at | exact row_ne hF (by decide) | exact row_ne (row_ne hF (by decide)) (by decide) | exact SnS_18 | exact SnS_30 | exact LdS_44 | exact LdS_46)) only [q_310_0, q_310_17, q_310_27, q_310_112, ↓c214, ↓c229, ↓al_242, ↓as_242, e242, e52, hw2, ↓c310, f52, f242, ea, eb, ↓n_rd, ↓n_rdJ, ↓n_al, ↓n_cI, li_0, li_1, li_12, li_31, zI_add, zI_sub, zI_mul, zI_neg, ↓Option.bind_some, ↓g12_50, ↓g12_51, ↓g12_52, ↓p12_50, ↓p12_52, ↓al_242, ↓as_242, zIt2, uR_at, uR_ne, uR_uR, uC_uC, uC_at, ↓reduceIte, decide_eq_true_eq, leT, leF, ltT, ltF, eqT, eqF, ne_eq, not_true_eq_false, not_false_eq_true, Bool.false_eq_true, tI_zI]
        · have hwy : wayZ K u j = -1 := wyB_f.mp (Bool.eq_false_iff.mpr c)
          have e1 : fo (wyB K u) (fun q a => wkF K (vC K x n y) k ((q : Int) :: u :: t) a) (j + 1) (vC K x n y (u :: t) a) = (fo (wyB K u) (fun q a => wkF K (vC K x n y) k ((q : Int) :: u :: t) a) j (vC K x n y (u :: t) a)) := if_neg c
          rw [e1]
          rw [hwy] at c229
          refine ⟨(s.1, s.2.1, some (.int (zI (-1)))), ⟨j1, j2⟩, ?_⟩
          show runP MP e 310 _ = runP MP e 310 _
          rw [nsucc]
          rw [q_310_31]; (try simp only [↓n_rd, ↓n_rdJ, ↓n_al, ↓n_cI, li_0, li_1, li_12, li_31, zI_add, zI_sub, zI_mul, zI_neg, ↓Option.bind_some]); simp (disch := (first | assumption | exact tI_rg _ | omega | exact uR_at | exact row_ne hF (by decide) | exact row_ne (row_ne hF (by decide)) (by decide) | exact SnS_18 | exact SnS_30 | exact LdS_44 | exact LdS_46)) only [q_310_0, q_310_17, q_310_27, q_310_112, ↓c214, ↓c229, ↓n_rd, ↓n_rdJ, ↓n_al, ↓n_cI, li_0, li_1, li_12, li_31, zI_add, zI_sub, zI_mul, zI_neg, ↓Option.bind_some, ↓g12_50, ↓g12_51, ↓g12_52, ↓p12_50, ↓p12_52, ↓al_242, ↓as_242, zIt2, uR_at, uR_ne, uR_uR, uC_uC, uC_at, ↓reduceIte, decide_eq_true_eq, leT, leF, ltT, ltF, eqT, eqF, ne_eq, not_true_eq_false, not_false_eq_true, Bool.false_eq_true, tI_zI]
    obtain ⟨F1, G1, r1, r2⟩ := hmain
    refine ⟨F1, G1, by rw [hin, h0, r1], r2⟩
end S94zzzzt
