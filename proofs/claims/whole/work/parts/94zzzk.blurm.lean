/-! MODEL: blur, 2 -/
section S94zzzk
set_option linter.unusedVariables false
set_option linter.unusedSimpArgs false
theorem mb_rec {d e : Nat} {E : EnQ} {F : Nat → Int → Int32} {G : Nat → Int → Int64} {K : Int → Int32} {x m : Int} {n k j : Nat} {u : Int} {t : List Int} {a : Int × List Int} {y : Int} {z : Option Value} (hI : InvK K) (hst : stepsZ K < 1999000000) (hx : 0 ≤ x ∧ x < tI (K 3)) (hn : n ≤ 3) (hl : (u :: t).length + (k + 1) = n + 1) (hm : m = t.length) (hv : VaP K (u :: t)) (hs : plZ (u :: t) 0 = tI (K (38 + 2 * x))) (hj : (j : Int) < tI (K 1)) (hw : wayZ K u j ≠ -1) (hM : MbR F K x (u :: t) a) (hd : 5 ≤ e)
    (ih : ∀ F2, MbR F2 K x ((j : Int) :: u :: t) a → ∃ F3, callP MP e 280 [.ref 217, .int (zI x), .int (zI (m + 1)), .int (zI (n : Int))] (mk E F2 G) = some (Sum.inl none, mk E F3 G) ∧ MbR F3 K x ((j : Int) :: u :: t) (wkF K (vB K x n) k ((j : Int) :: u :: t) a) ∧ GdB K x n (wkF K (vB K x n) k ((j : Int) :: u :: t) a) ∧ KpB F2 F3 (m + 1)) :
    ∃ F1, runP MP e 280 (145, [some (.ref 217), some (.int (zI x)), some (.int (zI m)), some (.int (zI (n : Int))), some (.int (zI y)), some (.int (zI (j : Int))), some (.int (zI 0))], [], mk E F G) = runP MP e 280 (115, [some (.ref 217), some (.int (zI x)), some (.int (zI m)), some (.int (zI (n : Int))), some (.int (zI y)), some (.int (zI ((j + 1 : Nat) : Int))), some (.int (zI 408))], [], mk E F1 G) ∧ MbR F1 K x (u :: t) (wkF K (vB K x n) k ((j : Int) :: u :: t) a) ∧ GdB K x n (wkF K (vB K x n) k ((j : Int) :: u :: t) a) ∧ KpB F F1 m := by
  obtain ⟨b0, b1, b2, b3, b4, b5, b6, b7, b8, b9⟩ := hI.1
  have l1 : (((j : Int) :: u :: t).length : Int) = (u :: t).length + 1 := rfl
  have l2 : ((u :: t).length : Int) = t.length + 1 := rfl
  obtain ⟨i1, i2, i3, i4, i5, i6, i7⟩ := bl_inv hI hst hx (p := u :: t) (by intro z; cases z) (by omega) hv hs
  have hv2 : VaP K ((j : Int) :: u :: t) := ⟨by omega, fun _ => hw, hv⟩
  obtain ⟨g1, g2, g3, g4, g5, g6, g7⟩ := bl_inv hI hst hx (p := (j : Int) :: u :: t) (by intro z; cases z) (by omega) hv2 (by rw [plZ_lo (by omega)]; exact hs)
  obtain ⟨L, hL⟩ : ∃ L, L = blK K x (u :: t) := ⟨_, rfl⟩
  have hF := hM.1
  rw [← hL] at i1 i2 i3 i4 i7 hF
  have i4 : tI (L (38 + 2 * x)) = u := i4
  have c3 : tI (L 3) = tI (K 3) := by rw [i3 3 (by omega) (by omega)]
  have c1 : tI (L 1) = tI (K 1) := by rw [i3 1 (by omega) (by omega)]
  have cw : ∀ a b, wayZ L a b = wayZ K a b := fun a b => wayZ_congr hI.1.2.2.1 (fun j hj => i3 j (by omega) (by omega)) a b
  have hwy : whyZ L x j = 0 := why0_of (by omega) (by omega) (by rw [i4, cw]; exact hw)
  obtain ⟨F2, hF2⟩ : ∃ F2, F2 = uR F 230 (cpI (F 218) (F 230) 0 (408 * m) 408) := ⟨_, rfl⟩
  obtain ⟨F4, hF4⟩ : ∃ F4, F4 = uR (uR F2 228 (uC (F2 228) m (zI (j : Int)))) 218 (goK true L x j) := ⟨_, rfl⟩
  have o4 : ∀ q, q ≠ 218 → q ≠ 228 → q ≠ 230 → F4 q = F q := fun q h1 h2 h3 => by rw [hF4, uR_ne h1, uR_ne h2, hF2, uR_ne h3]
  have o230 : F4 230 = cpI (F 218) (F 230) 0 (408 * m) 408 := by rw [hF4, uR_ne (by decide), uR_ne (by decide), hF2, uR_at]
  have o228 : F4 228 = uC (F 228) m (zI (j : Int)) := by rw [hF4, uR_ne (by decide), uR_at, hF2, uR_ne (by decide)]
  have M4 : MbR F4 K x ((j : Int) :: u :: t) a := by
    refine ⟨?_, ?_, ?_, ?_, ?_, fun i h1 h2 => ?_, fun i h1 h2 => ?_⟩
    · rw [hF4, uR_at, hL]; rfl
    · rw [o4 217 (by decide) (by decide) (by decide)]; exact hM.2.1
    · rw [o4 217 (by decide) (by decide) (by decide)]; exact hM.2.2.1
    · rw [o4 217 (by decide) (by decide) (by decide)]; exact hM.2.2.2.1
    · rw [o4 217 (by decide) (by decide) (by decide)]; exact hM.2.2.2.2.1
    · rw [o228]
      by_cases z : i = m
      · rw [z, uC_at, tI_zI (by omega), plZ_top (by omega)]
      · rw [uC_ne z, plZ_lo (by omega)]; exact hM.2.2.2.2.2.1 i h1 (by omega)
    · rw [o4 229 (by decide) (by decide) (by decide)]; exact hM.2.2.2.2.2.2 i h1 h2
  obtain ⟨F5, r1, r2, r3, r4⟩ := ih F4 M4
  have c280 : ∀ {kk : HeapP → ResP} {kx : Nat → HeapP → ResP}, cV (callP MP e 280 [.ref 217, .int (zI x), .int (zI (m + 1)), .int (zI (n : Int))] (mk E F4 G)) kk kx = kk (mk E F5 G) := fun {kk kx} => cV_ret r1
  have f218 : uR F2 228 (uC (F2 228) m (zI (j : Int))) 218 = L := by rw [uR_ne (by decide), hF2, uR_ne (by decide)]; exact hF
  have c230 : ∀ {kk : HeapP → ResP} {kx : Nat → HeapP → ResP}, cV (callP MP e 230 [.ref 217, .int (zI x), .int (zI (j : Int))] (mk E (uR F2 228 (uC (F2 228) m (zI (j : Int)))) G)) kk kx = kk (mk E F4 G) := fun {kk kx} => by
    rw [cc_230 (K := L) i1 f218 (c := true) (by rw [uR_ne (by decide), hF2, uR_ne (by decide), hM.2.1]; rfl) hwy (by omega) (by omega), hF4]
  have h145 : runP MP e 280 (145, [some (.ref 217), some (.int (zI x)), some (.int (zI m)), some (.int (zI (n : Int))), some (.int (zI y)), some (.int (zI (j : Int))), some (.int (zI 408))], [], mk E F2 G) = runP MP e 280 (206, [some (.ref 217), some (.int (zI x)), some (.int (zI m)), some (.int (zI (n : Int))), some (.int (zI y)), some (.int (zI (j : Int))), some (.int (zI 0))], [], mk E F5 G) := by
    rw [q_280_145]; (try simp only [↓n_rd, ↓n_al, ↓n_cI, li_0, li_1, li_12, li_24, li_63, li_206, li_408, zI_add, zI_sub, zI_mul, zI_neg, ↓Option.bind_some]); simp (disch := (first | assumption | exact tI_rg _ | omega | exact uR_at | exact row_ne hF (by decide) | exact row_ne (row_ne hF (by decide)) (by decide) | exact SnS_18 | exact SnS_30 | exact LdS_44 | exact LdS_46)) only [q_280_0, q_280_63, q_280_106, q_280_240, ↓as_228, ↓c230, ↓c280, ↓n_rd, ↓n_al, ↓n_cI, li_0, li_1, li_12, li_24, li_63, li_206, li_408, zI_add, zI_sub, zI_mul, zI_neg, ↓Option.bind_some, ↓g12_0, ↓g12_24, ↓g12_25, ↓g12_26, ↓g12_27, ↓g12_28, ↓g12_29, ↓p12_28, ↓p12_29, ↓al_218, ↓as_218, ↓al_228, ↓as_228, ↓al_229, ↓as_229, ↓al_230, ↓as_230, zIt2, uR_at, uR_ne, uR_uR, uC_uC, uC_at, ↓reduceIte, decide_eq_true_eq, leT, leF, ltT, ltF, eqT, eqF, ne_eq, not_true_eq_false, not_false_eq_true, Bool.false_eq_true, tI_zI]
  have hsv := mb_save (d := e) (E := E) (F := F) (G := G) (x := x) (m := m) (q := (j : Int)) (y := y) (n := n) (by omega)
  rw [← hF2] at hsv
  have hrs := mb_rest (d := e) (E := E) (F := F5) (G := G) (x := x) (m := m) (q := (j : Int)) (y := y) (n := n) (by omega)
  have h206 : ∀ F6, runP MP e 280 (206, [some (.ref 217), some (.int (zI x)), some (.int (zI m)), some (.int (zI (n : Int))), some (.int (zI y)), some (.int (zI (j : Int))), some (.int (zI 408))], [], mk E F6 G) = runP MP e 280 (115, [some (.ref 217), some (.int (zI x)), some (.int (zI m)), some (.int (zI (n : Int))), some (.int (zI y)), some (.int (zI ((j + 1 : Nat) : Int))), some (.int (zI 408))], [], mk E F6 G) := fun F6 => by
    rw [nsucc]
    rw [q_280_206]; (try simp only [↓n_rd, ↓n_al, ↓n_cI, li_0, li_1, li_12, li_24, li_63, li_206, li_408, zI_add, zI_sub, zI_mul, zI_neg, ↓Option.bind_some]); simp (disch := (first | assumption | exact tI_rg _ | omega | exact uR_at | exact row_ne hF (by decide) | exact row_ne (row_ne hF (by decide)) (by decide) | exact SnS_18 | exact SnS_30 | exact LdS_44 | exact LdS_46)) only [q_280_0, q_280_63, q_280_106, q_280_240, ↓n_rd, ↓n_al, ↓n_cI, li_0, li_1, li_12, li_24, li_63, li_206, li_408, zI_add, zI_sub, zI_mul, zI_neg, ↓Option.bind_some, ↓g12_0, ↓g12_24, ↓g12_25, ↓g12_26, ↓g12_27, ↓g12_28, ↓g12_29, ↓p12_28, ↓p12_29, ↓al_218, ↓as_218, ↓al_228, ↓as_228, ↓al_229, ↓as_229, ↓al_230, ↓as_230, zIt2, uR_at, uR_ne, uR_uR, uC_uC, uC_at, ↓reduceIte, decide_eq_true_eq, leT, leF, ltT, ltF, eqT, eqF, ne_eq, not_true_eq_false, not_false_eq_true, Bool.false_eq_true, tI_zI]
  refine ⟨_, hsv.trans (h145.trans (hrs.trans (h206 _))), ⟨?_, ?_, ?_, ?_, ?_, fun i h1 h2 => ?_, fun i h1 h2 => ?_⟩, r3, fun q a1 a2 a3 a4 a5 => ?_, fun i a1 a2 => ?_, fun i hi => ?_⟩
  · rw [uR_at, ← hL]
    funext i
    by_cases z : 0 ≤ i ∧ i < 0 + ((408 : Nat) : Int)
    · rw [cpI_in z, r4.2.2 _ (by omega), o230, cpI_in (by omega), show 0 + (408 * m + (i - 0) - 408 * m) = i by omega, hF]
    · rw [cpI_out z, r2.1, g7 i (by omega), i7 i (by omega)]
  · rw [uR_ne (by decide)]; exact r2.2.1
  · rw [uR_ne (by decide)]; exact r2.2.2.1
  · rw [uR_ne (by decide)]; exact r2.2.2.2.1
  · rw [uR_ne (by decide)]; exact r2.2.2.2.2.1
  · rw [uR_ne (by decide), r2.2.2.2.2.2.1 i h1 (by omega), plZ_lo (q := (j : Int)) (t := u :: t) (by omega)]
  · rw [uR_ne (by decide)]; exact r2.2.2.2.2.2.2 i h1 h2
  · rw [uR_ne a2, r4.1 q a1 a2 a3 a4 a5, o4 q a2 a3 a5]
  · rw [uR_ne (by decide), r4.2.1 i a1 a2, o4 217 (by decide) (by decide) (by decide)]
  · rw [uR_ne (by decide), r4.2.2 i (by omega), o230, cpI_out (by omega)]
theorem go_280 {E : EnQ} {G : Nat → Int → Int64} {K : Int → Int32} {x : Int} {n : Nat} (hI : InvK K) (hst : stepsZ K < 1999000000) (hx : 0 ≤ x ∧ x < tI (K 3)) (hn : n ≤ 3) : ∀ (k : Nat) (d : Nat) (p : List Int) (F : Nat → Int → Int32) (a : Int × List Int) (m : Int), p ≠ [] → p.length + k = n + 1 → m = (p.length : Int) - 1 → VaP K p → plZ p 0 = tI (K (38 + 2 * x)) → GdB K x n a → MbR F K x p a → 6 + k ≤ d →
    ∃ F1, callP MP d 280 [.ref 217, .int (zI x), .int (zI m), .int (zI (n : Int))] (mk E F G) = some (Sum.inl none, mk E F1 G) ∧ MbR F1 K x p (wkF K (vB K x n) k p a) ∧ GdB K x n (wkF K (vB K x n) k p a) ∧ KpB F F1 m := by
  intro k
  induction k with
  | zero =>
    intro d p F a m hp0 hl hm hv hs hg hM hd
    obtain ⟨e, rfl⟩ : ∃ e, d = e + 1 := ⟨d - 1, by omega⟩
    have hin : callP MP (e + 1) 280 [.ref 217, .int (zI x), .int (zI m), .int (zI (n : Int))] (mk E F G) = runP MP e 280 (0, [some (.ref 217), some (.int (zI x)), some (.int (zI m)), some (.int (zI (n : Int))), none, none, none], [], mk E F G) := into_eq (by omega) hM_280 (rcv_mk rfl (by decide)) rfl
    obtain ⟨F1, y4, y5, h1, h2, h3⟩ := mb_visit (d := e) (E := E) (G := G) hI hst hx hn hp0 (by omega) hv hs hg hM (by omega)
    rw [← hm] at h1 h3
    refine ⟨F1, ?_, h2, GdB_v hI hst hx hp0 (by omega) (by omega) hv hs hg, h3⟩
    rw [hin, h1]
    have : m = (n : Int) := by omega
    subst this
    rw [q_280_106]; (try simp only [↓n_rd, ↓n_al, ↓n_cI, li_0, li_1, li_12, li_24, li_63, li_206, li_408, zI_add, zI_sub, zI_mul, zI_neg, ↓Option.bind_some]); simp (disch := (first | assumption | exact tI_rg _ | omega | exact uR_at | exact row_ne hF (by decide) | exact row_ne (row_ne hF (by decide)) (by decide) | exact SnS_18 | exact SnS_30 | exact LdS_44 | exact LdS_46)) only [q_280_0, q_280_63, q_280_240, ↓n_rd, ↓n_al, ↓n_cI, li_0, li_1, li_12, li_24, li_63, li_206, li_408, zI_add, zI_sub, zI_mul, zI_neg, ↓Option.bind_some, ↓g12_0, ↓g12_24, ↓g12_25, ↓g12_26, ↓g12_27, ↓g12_28, ↓g12_29, ↓p12_28, ↓p12_29, ↓al_218, ↓as_218, ↓al_228, ↓as_228, ↓al_229, ↓as_229, ↓al_230, ↓as_230, zIt2, uR_at, uR_ne, uR_uR, uC_uC, uC_at, ↓reduceIte, decide_eq_true_eq, leT, leF, ltT, ltF, eqT, eqF, ne_eq, not_true_eq_false, not_false_eq_true, Bool.false_eq_true, tI_zI]
  | succ k ih =>
    intro d p F a m hp0 hl hm hv hs hg hM hd
    obtain ⟨u, t, rfl⟩ : ∃ u t, p = u :: t := by
      cases p with
      | nil => exact absurd rfl hp0
      | cons u t => exact ⟨u, t, rfl⟩
    obtain ⟨b0, b1, b2, b3, b4, b5, b6, b7, b8, b9⟩ := hI.1
    have l2 : ((u :: t).length : Int) = t.length + 1 := rfl
    have hmt : m = (t.length : Int) := by omega
    obtain ⟨e, rfl⟩ : ∃ e, d = e + 1 := ⟨d - 1, by omega⟩
    have hin : callP MP (e + 1) 280 [.ref 217, .int (zI x), .int (zI m), .int (zI (n : Int))] (mk E F G) = runP MP e 280 (0, [some (.ref 217), some (.int (zI x)), some (.int (zI m)), some (.int (zI (n : Int))), none, none, none], [], mk E F G) := into_eq (by omega) hM_280 (rcv_mk rfl (by decide)) rfl
    obtain ⟨F0, y4, y5, h1, h2, h3⟩ := mb_visit (d := e) (E := E) (G := G) hI hst hx hn hp0 (by omega) hv hs hg hM (by omega)
    rw [← hm] at h1 h3
    have hg1 := GdB_v hI hst hx hp0 (by omega) (by omega) hv hs hg
    obtain ⟨i1, i2, i3, i4, i5, i6, i7⟩ := bl_inv hI hst hx (p := u :: t) hp0 (by omega) hv hs
    have i4 : tI (blK K x (u :: t) (38 + 2 * x)) = u := i4
    have c1 : tI (blK K x (u :: t) 1) = tI (K 1) := by rw [i3 1 (by omega) (by omega)]
    have cw : ∀ a b, wayZ (blK K x (u :: t)) a b = wayZ K a b := fun a b => wayZ_congr hI.1.2.2.1 (fun j hj => i3 j (by omega) (by omega)) a b
    have hmain : ∃ F1, runP MP e 280 (115, [some (.ref 217), some (.int (zI x)), some (.int (zI m)), some (.int (zI (n : Int))), some (.int (zI y4)), some (.int (zI ((0 : Nat) : Int))), none], [], mk E F0 G) = some (Sum.inl none, mk E F1 G) ∧ MbR F1 K x (u :: t) (wkF K (vB K x n) (k + 1) (u :: t) a) ∧ GdB K x n (wkF K (vB K x n) (k + 1) (u :: t) a) ∧ KpB F F1 m := by
      refine loopS (σ := (Nat → Int → Int32) × Option Value) (Post := fun r => ∃ F1, r = some (Sum.inl none, mk E F1 G) ∧ MbR F1 K x (u :: t) (wkF K (vB K x n) (k + 1) (u :: t) a) ∧ GdB K x n (wkF K (vB K x n) (k + 1) (u :: t) a) ∧ KpB F F1 m)
        (fun j s => runP MP e 280 (115, [some (.ref 217), some (.int (zI x)), some (.int (zI m)), some (.int (zI (n : Int))), some (.int (zI y4)), some (.int (zI (j : Int))), s.2], [], mk E s.1 G))
        (fun j s => MbR s.1 K x (u :: t) (fo (wyB K u) (fun q a => wkF K (vB K x n) k ((q : Int) :: u :: t) a) j (vB K x n (u :: t) a)) ∧ GdB K x n (fo (wyB K u) (fun q a => wkF K (vB K x n) k ((q : Int) :: u :: t) a) j (vB K x n (u :: t) a)) ∧ KpB F s.1 m) (tI (K 1)).toNat (F0, none) ⟨h2, hg1, h3⟩ (fun s hI2 => ?_) (fun j s hj hI2 => ?_)
      · obtain ⟨j1, j2, j3⟩ := hI2
        refine ⟨s.1, ?_, j1, j2, j3⟩
        show runP MP e 280 _ = _
        have c214 : ∀ {kk : Int → HeapP → ResP} {kx : Nat → HeapP → ResP}, cT (callP MP e 214 [.ref 217] (mk E s.1 G)) kk kx = kk (tI (K 1)) (mk E s.1 G) := fun {kk kx} => by rw [cc_214 i1 j1.1 (by omega), c1]
        rw [q_280_115]; (try simp only [↓n_rd, ↓n_al, ↓n_cI, li_0, li_1, li_12, li_24, li_63, li_206, li_408, zI_add, zI_sub, zI_mul, zI_neg, ↓Option.bind_some]); simp (disch := (first | assumption | exact tI_rg _ | omega | exact uR_at | exact row_ne hF (by decide) | exact row_ne (row_ne hF (by decide)) (by decide) | exact SnS_18 | exact SnS_30 | exact LdS_44 | exact LdS_46)) only [q_280_0, q_280_63, q_280_106, q_280_240, ↓c214, ↓n_rd, ↓n_al, ↓n_cI, li_0, li_1, li_12, li_24, li_63, li_206, li_408, zI_add, zI_sub, zI_mul, zI_neg, ↓Option.bind_some, ↓g12_0, ↓g12_24, ↓g12_25, ↓g12_26, ↓g12_27, ↓g12_28, ↓g12_29, ↓p12_28, ↓p12_29, ↓al_218, ↓as_218, ↓al_228, ↓as_228, ↓al_229, ↓as_229, ↓al_230, ↓as_230, zIt2, uR_at, uR_ne, uR_uR, uC_uC, uC_at, ↓reduceIte, decide_eq_true_eq, leT, leF, ltT, ltF, eqT, eqF, ne_eq, not_true_eq_false, not_false_eq_true, Bool.false_eq_true, tI_zI]
      · obtain ⟨j1, j2, j3⟩ := hI2
        have hj2 : (j : Int) < tI (K 1) := by omega
        have hu := hv.1
        right
        have c214 : ∀ {kk : Int → HeapP → ResP} {kx : Nat → HeapP → ResP}, cT (callP MP e 214 [.ref 217] (mk E s.1 G)) kk kx = kk (tI (K 1)) (mk E s.1 G) := fun {kk kx} => by rw [cc_214 i1 j1.1 (by omega), c1]
        have c228 : ∀ {kk : Int → HeapP → ResP} {kx : Nat → HeapP → ResP}, cT (callP MP e 228 [.ref 217, .int (zI x)] (mk E s.1 G)) kk kx = kk u (mk E s.1 G) := fun {kk kx} => by rw [cc_228 i1 j1.1 (by omega) (by omega), i4]
        have c229 : ∀ {kk : Int → HeapP → ResP} {kx : Nat → HeapP → ResP}, cT (callP MP e 229 [.ref 217, .int (zI u), .int (zI (j : Int))] (mk E s.1 G)) kk kx = kk (wayZ K u j) (mk E s.1 G) := fun {kk kx} => by rw [cc_229 i1 j1.1 (by omega) (by omega) (by omega), cw]
        have hwl := wayZ_lo b2 u j
        by_cases c : wyB K u j = true
        · have hw := wyB_t.mp c
          have e1 : fo (wyB K u) (fun q a => wkF K (vB K x n) k ((q : Int) :: u :: t) a) (j + 1) (vB K x n (u :: t) a) = wkF K (vB K x n) k ((j : Int) :: u :: t) (fo (wyB K u) (fun q a => wkF K (vB K x n) k ((q : Int) :: u :: t) a) j (vB K x n (u :: t) a)) := if_pos c
          rw [e1]
          have l3 : (((j : Int) :: u :: t).length) = (u :: t).length + 1 := rfl
          obtain ⟨F1, r1, r2, r3, r4⟩ := mb_rec (e := e) (E := E) (G := G) (y := y4) (k := k) (z := none) (d := 0) hI hst hx hn hl hmt hv hs hj2 hw j1 (by omega) (fun F2 hM2 => ih e ((j : Int) :: u :: t) F2 _ (m + 1) (by intro z; cases z) (by omega) (by omega) ⟨by omega, fun _ => hw, hv⟩ (by rw [plZ_lo (by omega)]; exact hs) j2 hM2 (by omega))
          refine ⟨(F1, some (.int (zI 408))), ⟨r2, r3, j3.tr r4 (by omega)⟩, ?_⟩
          show runP MP e 280 _ = runP MP e 280 _
          rw [← r1]
          rw [q_280_115]; (try simp only [↓n_rd, ↓n_al, ↓n_cI, li_0, li_1, li_12, li_24, li_63, li_206, li_408, zI_add, zI_sub, zI_mul, zI_neg, ↓Option.bind_some]); simp (disch := (first | assumption | exact tI_rg _ | omega | exact uR_at | exact row_ne hF (by decide) | exact row_ne (row_ne hF (by decide)) (by decide) | exact SnS_18 | exact SnS_30 | exact LdS_44 | exact LdS_46)) only [q_280_0, q_280_63, q_280_106, q_280_240, ↓c214, ↓c228, ↓c229, ↓n_rd, ↓n_al, ↓n_cI, li_0, li_1, li_12, li_24, li_63, li_206, li_408, zI_add, zI_sub, zI_mul, zI_neg, ↓Option.bind_some, ↓g12_0, ↓g12_24, ↓g12_25, ↓g12_26, ↓g12_27, ↓g12_28, ↓g12_29, ↓p12_28, ↓p12_29, ↓al_218, ↓as_218, ↓al_228, ↓as_228, ↓al_229, ↓as_229, ↓al_230, ↓as_230, zIt2, uR_at, uR_ne, uR_uR, uC_uC, uC_at, ↓reduceIte, decide_eq_true_eq, leT, leF, ltT, ltF, eqT, eqF, ne_eq, not_true_eq_false, not_false_eq_true, Bool.false_eq_true, tI_zI]
        · have hw : wayZ K u j = -1 := wyB_f.mp (Bool.eq_false_iff.mpr c)
          have e1 : fo (wyB K u) (fun q a => wkF K (vB K x n) k ((q : Int) :: u :: t) a) (j + 1) (vB K x n (u :: t) a) = (fo (wyB K u) (fun q a => wkF K (vB K x n) k ((q : Int) :: u :: t) a) j (vB K x n (u :: t) a)) := if_neg c
          rw [e1]
          rw [hw] at c229
          refine ⟨s, ⟨j1, j2, j3⟩, ?_⟩
          show runP MP e 280 _ = runP MP e 280 _
          rw [nsucc]
          rw [q_280_115]; (try simp only [↓n_rd, ↓n_al, ↓n_cI, li_0, li_1, li_12, li_24, li_63, li_206, li_408, zI_add, zI_sub, zI_mul, zI_neg, ↓Option.bind_some]); simp (disch := (first | assumption | exact tI_rg _ | omega | exact uR_at | exact row_ne hF (by decide) | exact row_ne (row_ne hF (by decide)) (by decide) | exact SnS_18 | exact SnS_30 | exact LdS_44 | exact LdS_46)) only [q_280_0, q_280_63, q_280_106, q_280_240, ↓c214, ↓c228, ↓c229, ↓n_rd, ↓n_al, ↓n_cI, li_0, li_1, li_12, li_24, li_63, li_206, li_408, zI_add, zI_sub, zI_mul, zI_neg, ↓Option.bind_some, ↓g12_0, ↓g12_24, ↓g12_25, ↓g12_26, ↓g12_27, ↓g12_28, ↓g12_29, ↓p12_28, ↓p12_29, ↓al_218, ↓as_218, ↓al_228, ↓as_228, ↓al_229, ↓as_229, ↓al_230, ↓as_230, zIt2, uR_at, uR_ne, uR_uR, uC_uC, uC_at, ↓reduceIte, decide_eq_true_eq, leT, leF, ltT, ltF, eqT, eqF, ne_eq, not_true_eq_false, not_false_eq_true, Bool.false_eq_true, tI_zI]
    obtain ⟨F1, r1, r2⟩ := hmain
    refine ⟨F1, ?_, r2⟩
    have r1 : runP MP e 280 (115, [some (.ref 217), some (.int (zI x)), some (.int (zI m)), some (.int (zI (n : Int))), some (.int (zI y4)), some (.int (zI 0)), none], [], mk E F0 G) = some (Sum.inl none, mk E F1 G) := r1
    rw [hin, h1, ← r1]
    rw [q_280_106]; (try simp only [↓n_rd, ↓n_al, ↓n_cI, li_0, li_1, li_12, li_24, li_63, li_206, li_408, zI_add, zI_sub, zI_mul, zI_neg, ↓Option.bind_some]); simp (disch := (first | assumption | exact tI_rg _ | omega | exact uR_at | exact row_ne hF (by decide) | exact row_ne (row_ne hF (by decide)) (by decide) | exact SnS_18 | exact SnS_30 | exact LdS_44 | exact LdS_46)) only [q_280_0, q_280_63, q_280_240, ↓n_rd, ↓n_al, ↓n_cI, li_0, li_1, li_12, li_24, li_63, li_206, li_408, zI_add, zI_sub, zI_mul, zI_neg, ↓Option.bind_some, ↓g12_0, ↓g12_24, ↓g12_25, ↓g12_26, ↓g12_27, ↓g12_28, ↓g12_29, ↓p12_28, ↓p12_29, ↓al_218, ↓as_218, ↓al_228, ↓as_228, ↓al_229, ↓as_229, ↓al_230, ↓as_230, zIt2, uR_at, uR_ne, uR_uR, uC_uC, uC_at, ↓reduceIte, decide_eq_true_eq, leT, leF, ltT, ltF, eqT, eqF, ne_eq, not_true_eq_false, not_false_eq_true, Bool.false_eq_true, tI_zI]
end S94zzzk
