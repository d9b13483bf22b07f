/-! MODEL: reading a plain 2 -/
section S94zzm
set_option linter.unusedVariables false
set_option linter.unusedSimpArgs false
def OuM (F : Nat → Int → Int32) (T : Nat → Int) (n : Nat) (x : PrR) : Prop := match x with
  | .inl f => BaM F f
  | .inr s => MoR F T n s.1 s.2
theorem BaM_9 {F : Nat → Int → Int32} {X : Int → Int32} {f : Int × Int} (h : BaM F f) : BaM (uR F 219 X) f := by
  unfold BaM at *; rw [uR_ne (show (217 : Nat) ≠ 219 by decide)]; exact h
theorem KpM.refl {F : Nat → Int → Int32} : KpM F F := ⟨fun _ _ _ => rfl, fun _ _ => rfl⟩
theorem go_195t {E : EnQ} {F : Nat → Int → Int32} {G : Nat → Int → Int64} {T : Nat → Int} {n : Nat} {D : Int → Int32} {t : TkS} (h : MoR F T n D t) (ht : TkI n t) {k : Nat} (hk : k < 7) (hw : isW T k t = true) : CtP MP 3 195 [.ref 217, .ref (1 + k)] (mk E F G) (Sum.inl (some (.int (zI 1)))) (mk E F G) := fun d hd => by
  have := ct_195 (d := d) (E := E) (G := G) h.1 ht h.2.2.1 h.2.2.2.1 hk hd
  rw [if_pos hw] at this; exact this
theorem go_195f {E : EnQ} {F : Nat → Int → Int32} {G : Nat → Int → Int64} {T : Nat → Int} {n : Nat} {D : Int → Int32} {t : TkS} (h : MoR F T n D t) (ht : TkI n t) {k : Nat} (hk : k < 7) (hw : ¬ isW T k t = true) : CtP MP 3 195 [.ref 217, .ref (1 + k)] (mk E F G) (Sum.inl (some (.int (zI 0)))) (mk E F G) := fun d hd => by
  have := ct_195 (d := d) (E := E) (G := G) h.1 ht h.2.2.1 h.2.2.2.1 hk hd
  rw [if_neg hw] at this; exact this
theorem go_194t {E : EnQ} {F : Nat → Int → Int32} {G : Nat → Int → Int64} {T : Nat → Int} {n : Nat} {D : Int → Int32} {t : TkS} (h : MoR F T n D t) (ht : TkI n t) {k : Nat} (hk : k < 7) (hw : isW T k t = true) : ∃ F1, CtP MP 4 194 [.ref 217, .ref (1 + k)] (mk E F G) (Sum.inl (some (.int (zI 1)))) (mk E F1 G) ∧ MoR F1 T n D (av T n t) ∧ KpM F F1 := by
  obtain ⟨F1, c1, r1, k1⟩ := go_190 (E := E) (G := G) h ht
  have c0 := go_195t (E := E) (G := G) h ht hk hw
  refine ⟨F1, fun d hd => ?_, r1, k1⟩
  refine into (D := 3) (by omega) hM_194 (rcv_mk rfl (by decide)) rfl fun d hd => ?_
  show runP MP d 194 (0, [some (.ref 217), some (.ref (1 + k)), none], [], _) = _
  rw [q_194_0]; (try simp only [↓n_cI, li_0, li_14, zI_add, zI_sub, zI_mul, zI_neg, ↓Option.bind_some]); simp (disch := (first | assumption | exact tI_rg _ | omega | exact uR_at | exact row_ne hF (by decide) | exact row_ne (row_ne hF (by decide)) (by decide) | exact SnS_18 | exact SnS_30 | exact LdS_44 | exact LdS_46)) only [q_194_14, ↓ctT c0, ↓ctV c1, ↓n_cI, retZ_z, li_0, li_14, zI_add, zI_sub, zI_mul, zI_neg, ↓Option.bind_some, zIt2, uR_at, uR_ne, uR_uR, uC_uC, uC_at, ↓reduceIte, decide_eq_true_eq, leT, leF, ltT, ltF, eqT, eqF, ne_eq, not_true_eq_false, not_false_eq_true, Bool.false_eq_true, tI_zI]
theorem go_194f {E : EnQ} {F : Nat → Int → Int32} {G : Nat → Int → Int64} {T : Nat → Int} {n : Nat} {D : Int → Int32} {t : TkS} (h : MoR F T n D t) (ht : TkI n t) {k : Nat} (hk : k < 7) (hw : ¬ isW T k t = true) : CtP MP 4 194 [.ref 217, .ref (1 + k)] (mk E F G) (Sum.inl (some (.int (zI 0)))) (mk E F G) := fun d hd => by
  have c0 := go_195f (E := E) (G := G) h ht hk hw
  refine into (D := 3) (by omega) hM_194 (rcv_mk rfl (by decide)) rfl fun d hd => ?_
  show runP MP d 194 (0, [some (.ref 217), some (.ref (1 + k)), none], [], _) = _
  rw [q_194_0]; (try simp only [↓n_cI, li_0, li_14, zI_add, zI_sub, zI_mul, zI_neg, ↓Option.bind_some]); simp (disch := (first | assumption | exact tI_rg _ | omega | exact uR_at | exact row_ne hF (by decide) | exact row_ne (row_ne hF (by decide)) (by decide) | exact SnS_18 | exact SnS_30 | exact LdS_44 | exact LdS_46)) only [q_194_14, ↓ctT c0, ↓n_cI, retZ_z, li_0, li_14, zI_add, zI_sub, zI_mul, zI_neg, ↓Option.bind_some, zIt2, uR_at, uR_ne, uR_uR, uC_uC, uC_at, ↓reduceIte, decide_eq_true_eq, leT, leF, ltT, ltF, eqT, eqF, ne_eq, not_true_eq_false, not_false_eq_true, Bool.false_eq_true, tI_zI]
theorem go_198b {E : EnQ} {F : Nat → Int → Int32} {G : Nat → Int → Int64} {f : Int × Int} (h : BaM F f) : CtP MP 3 198 [.ref 217] (mk E F G) (Sum.inl none) (mk E F G) := fun d hd => by
  have c2 := go_196b (E := E) (G := G) h (y := 2)
  obtain ⟨b1, b2, b3, b4⟩ := h
  have x1 := tI_rg (F 217 11)
  refine into (D := 2) (by omega) hM_198 (rcv_mk rfl (by decide)) rfl fun d hd => ?_
  show runP MP d 198 (0, [some (.ref 217)], [], _) = _
  by_cases c : tI (F 217 11) = 3
  · rw [q_198_0]; (try simp only [↓n_rd, ↓n_al, li_0, li_1, li_2, li_3, li_12, li_13, li_24, zI_add, zI_sub, zI_mul, zI_neg, ↓Option.bind_some]); simp (disch := (first | assumption | exact tI_rg _ | omega | exact uR_at | exact row_ne hF (by decide) | exact row_ne (row_ne hF (by decide)) (by decide) | exact SnS_18 | exact SnS_30 | exact LdS_44 | exact LdS_46)) only [q_198_13, q_198_24, q_198_41, b1, c, ↓n_rd, ↓n_al, li_0, li_1, li_2, li_3, li_12, li_13, li_24, zI_add, zI_sub, zI_mul, zI_neg, ↓Option.bind_some, ↓g12_1, ↓g12_11, ↓g12_13, ↓al_219, ↓as_219, zIt2, uR_at, uR_ne, uR_uR, uC_uC, uC_at, ↓reduceIte, decide_eq_true_eq, leT, leF, ltT, ltF, eqT, eqF, ne_eq, not_true_eq_false, not_false_eq_true, Bool.false_eq_true, tI_zI]
  · rw [q_198_0]; (try simp only [↓n_rd, ↓n_al, li_0, li_1, li_2, li_3, li_12, li_13, li_24, zI_add, zI_sub, zI_mul, zI_neg, ↓Option.bind_some]); simp (disch := (first | assumption | exact tI_rg _ | omega | exact uR_at | exact row_ne hF (by decide) | exact row_ne (row_ne hF (by decide)) (by decide) | exact SnS_18 | exact SnS_30 | exact LdS_44 | exact LdS_46)) only [q_198_13, q_198_24, q_198_41, b1, ↓ctV c2, ↓n_rd, ↓n_al, li_0, li_1, li_2, li_3, li_12, li_13, li_24, zI_add, zI_sub, zI_mul, zI_neg, ↓Option.bind_some, ↓g12_1, ↓g12_11, ↓g12_13, ↓al_219, ↓as_219, zIt2, uR_at, uR_ne, uR_uR, uC_uC, uC_at, ↓reduceIte, decide_eq_true_eq, leT, leF, ltT, ltF, eqT, eqF, ne_eq, not_true_eq_false, not_false_eq_true, Bool.false_eq_true, tI_zI]
theorem go_198 {E : EnQ} {F : Nat → Int → Int32} {G : Nat → Int → Int64} {T : Nat → Int} {n : Nat} {D : Int → Int32} {t : TkS} (h : MoR F T n D t) (ht : TkI n t) (h0 : 0 ≤ tI (D 0) ∧ tI (D 0) ≤ 600) : ∃ F1, CtP MP 3 198 [.ref 217] (mk E F G) (Sum.inl none) (mk E F1 G) ∧ OuM F1 T n (pEnd T n (D, t)) ∧ KpM F F1 := by
  have t1 := ht.1
  by_cases c : t.1 = 3
  · obtain ⟨F1, c1, r1, k1⟩ := go_190 (E := E) (G := G) h ht
    refine ⟨uR F1 219 (uC D 0 (zI (tI (D 0) + 1))), fun d hd => ?_, ?_, k1.tr KpM_9⟩
    · obtain ⟨h1, h2, ⟨m1, m2, m3, m4⟩, h4, h5⟩ := h
      have b4 := r1.2.2.2.1
      have b5 := r1.2.2.2.2
      refine into (D := 2) (by omega) hM_198 (rcv_mk rfl (by decide)) rfl fun d hd => ?_
      show runP MP d 198 (0, [some (.ref 217)], [], _) = _
      rw [q_198_0]; (try simp only [↓n_rd, ↓n_al, li_0, li_1, li_2, li_3, li_12, li_13, li_24, zI_add, zI_sub, zI_mul, zI_neg, ↓Option.bind_some]); simp (disch := (first | assumption | exact tI_rg _ | omega | exact uR_at | exact row_ne hF (by decide) | exact row_ne (row_ne hF (by decide)) (by decide) | exact SnS_18 | exact SnS_30 | exact LdS_44 | exact LdS_46)) only [q_198_13, q_198_24, q_198_41, h4, m1, c, ↓ctV c1, b4, b5, ↓n_rd, ↓n_al, li_0, li_1, li_2, li_3, li_12, li_13, li_24, zI_add, zI_sub, zI_mul, zI_neg, ↓Option.bind_some, ↓g12_1, ↓g12_11, ↓g12_13, ↓al_219, ↓as_219, zIt2, uR_at, uR_ne, uR_uR, uC_uC, uC_at, ↓reduceIte, decide_eq_true_eq, leT, leF, ltT, ltF, eqT, eqF, ne_eq, not_true_eq_false, not_false_eq_true, Bool.false_eq_true, tI_zI]
    · unfold pEnd
      rw [if_pos (show ((D, t) : PrS).2.1 = 3 from c)]
      exact MoR_9 r1
  · obtain ⟨F1, c1, r1, q1, k1⟩ := go_196 (E := E) (G := G) h ht (y := 2) (by omega)
    refine ⟨F1, fun d hd => ?_, ?_, k1⟩
    · obtain ⟨h1, h2, ⟨m1, m2, m3, m4⟩, h4, h5⟩ := h
      obtain ⟨b1, b2, b3, b4⟩ := r1
      refine into (D := 2) (by omega) hM_198 (rcv_mk rfl (by decide)) rfl fun d hd => ?_
      show runP MP d 198 (0, [some (.ref 217)], [], _) = _
      rw [q_198_0]; (try simp only [↓n_rd, ↓n_al, li_0, li_1, li_2, li_3, li_12, li_13, li_24, zI_add, zI_sub, zI_mul, zI_neg, ↓Option.bind_some]); simp (disch := (first | assumption | exact tI_rg _ | omega | exact uR_at | exact row_ne hF (by decide) | exact row_ne (row_ne hF (by decide)) (by decide) | exact SnS_18 | exact SnS_30 | exact LdS_44 | exact LdS_46)) only [q_198_13, q_198_24, q_198_41, h4, m1, ↓ctV c1, b1, ↓n_rd, ↓n_al, li_0, li_1, li_2, li_3, li_12, li_13, li_24, zI_add, zI_sub, zI_mul, zI_neg, ↓Option.bind_some, ↓g12_1, ↓g12_11, ↓g12_13, ↓al_219, ↓as_219, zIt2, uR_at, uR_ne, uR_uR, uC_uC, uC_at, ↓reduceIte, decide_eq_true_eq, leT, leF, ltT, ltF, eqT, eqF, ne_eq, not_true_eq_false, not_false_eq_true, Bool.false_eq_true, tI_zI]
    · unfold pEnd
      rw [if_neg (show ¬ ((D, t) : PrS).2.1 = 3 from c)]
      exact r1
theorem go_201t {E : EnQ} {F : Nat → Int → Int32} {G : Nat → Int → Int64} {T : Nat → Int} {n : Nat} {D : Int → Int32} {t : TkS} (h : MoR F T n D t) (ht : TkI n t) (hD : 0 ≤ tI (D 1) ∧ tI (D 1) ≤ 10) (hn : nmZ t 0 (tI (D 1) - 1) = 0) : ∃ F1, CtP MP 4 201 [.ref 217] (mk E F G) (Sum.inl (some (.int (zI t.2.2.2)))) (mk E F1 G) ∧ MoR F1 T n D (av T n t) ∧ KpM F F1 := by
  obtain ⟨F1, c1, r1, k1⟩ := go_197t (E := E) (G := G) h ht (by omega) (by omega) hn
  have h5 := h.2.2.2.2
  have tr := ht.2.2.2.2
  refine ⟨F1, fun d hd => ?_, r1, k1⟩
  refine into (D := 3) (by omega) hM_201 (rcv_mk rfl (by decide)) rfl fun d hd => ?_
  show runP MP d 201 (0, [some (.ref 217)], [], _) = _
  rw [q_201_0]; (try simp only [↓n_al, ↓n_cI, li_0, li_1, li_12, zI_add, zI_sub, zI_mul, zI_neg, ↓Option.bind_some]); simp (disch := (first | assumption | exact tI_rg _ | omega | exact uR_at | exact row_ne hF (by decide) | exact row_ne (row_ne hF (by decide)) (by decide) | exact SnS_18 | exact SnS_30 | exact LdS_44 | exact LdS_46)) only [h5, ↓ctT c1, ↓n_al, ↓n_cI, li_0, li_1, li_12, zI_add, zI_sub, zI_mul, zI_neg, ↓Option.bind_some, ↓g12_1, ↓al_219, ↓as_219, zIt2, uR_at, uR_ne, uR_uR, uC_uC, uC_at, ↓reduceIte, decide_eq_true_eq, leT, leF, ltT, ltF, eqT, eqF, ne_eq, not_true_eq_false, not_false_eq_true, Bool.false_eq_true, tI_zI]
theorem go_201f {E : EnQ} {F : Nat → Int → Int32} {G : Nat → Int → Int64} {T : Nat → Int} {n : Nat} {D : Int → Int32} {t : TkS} (h : MoR F T n D t) (ht : TkI n t) (hD : 0 ≤ tI (D 1) ∧ tI (D 1) ≤ 10) (hn : nmZ t 0 (tI (D 1) - 1) ≠ 0) : ∃ F1, CtP MP 4 201 [.ref 217] (mk E F G) (Sum.inl (some (.int (zI 0)))) (mk E F1 G) ∧ BaM F1 (flt t (nmZ t 0 (tI (D 1) - 1))) ∧ F1 219 = D ∧ KpM F F1 := by
  obtain ⟨F1, c1, r1, q1, k1⟩ := go_197f (E := E) (G := G) h ht (by omega) (by omega) hn
  have h5 := h.2.2.2.2
  refine ⟨F1, fun d hd => ?_, r1, q1, k1⟩
  refine into (D := 3) (by omega) hM_201 (rcv_mk rfl (by decide)) rfl fun d hd => ?_
  show runP MP d 201 (0, [some (.ref 217)], [], _) = _
  rw [q_201_0]; (try simp only [↓n_al, ↓n_cI, li_0, li_1, li_12, zI_add, zI_sub, zI_mul, zI_neg, ↓Option.bind_some]); simp (disch := (first | assumption | exact tI_rg _ | omega | exact uR_at | exact row_ne hF (by decide) | exact row_ne (row_ne hF (by decide)) (by decide) | exact SnS_18 | exact SnS_30 | exact LdS_44 | exact LdS_46)) only [h5, ↓ctT c1, ↓n_al, ↓n_cI, li_0, li_1, li_12, zI_add, zI_sub, zI_mul, zI_neg, ↓Option.bind_some, ↓g12_1, ↓al_219, ↓as_219, zIt2, uR_at, uR_ne, uR_uR, uC_uC, uC_at, ↓reduceIte, decide_eq_true_eq, leT, leF, ltT, ltF, eqT, eqF, ne_eq, not_true_eq_false, not_false_eq_true, Bool.false_eq_true, tI_zI]
theorem go_201b {E : EnQ} {F : Nat → Int → Int32} {G : Nat → Int → Int64} {f : Int × Int} {D : Int → Int32} (h : BaM F f) (h5 : F 219 = D) (hD : 0 ≤ tI (D 1) ∧ tI (D 1) ≤ 10) : CtP MP 4 201 [.ref 217] (mk E F G) (Sum.inl (some (.int (zI 0)))) (mk E F G) := fun d hd => by
  have c1 := go_197b (E := E) (G := G) h (lo := 0) (up := tI (D 1) - 1) (by omega) (by omega)
  refine into (D := 3) (by omega) hM_201 (rcv_mk rfl (by decide)) rfl fun d hd => ?_
  show runP MP d 201 (0, [some (.ref 217)], [], _) = _
  rw [q_201_0]; (try simp only [↓n_al, ↓n_cI, li_0, li_1, li_12, zI_add, zI_sub, zI_mul, zI_neg, ↓Option.bind_some]); simp (disch := (first | assumption | exact tI_rg _ | omega | exact uR_at | exact row_ne hF (by decide) | exact row_ne (row_ne hF (by decide)) (by decide) | exact SnS_18 | exact SnS_30 | exact LdS_44 | exact LdS_46)) only [h5, ↓ctT c1, ↓n_al, ↓n_cI, li_0, li_1, li_12, zI_add, zI_sub, zI_mul, zI_neg, ↓Option.bind_some, ↓g12_1, ↓al_219, ↓as_219, zIt2, uR_at, uR_ne, uR_uR, uC_uC, uC_at, ↓reduceIte, decide_eq_true_eq, leT, leF, ltT, ltF, eqT, eqF, ne_eq, not_true_eq_false, not_false_eq_true, Bool.false_eq_true, tI_zI]
theorem go_205 {E : EnQ} {F : Nat → Int → Int32} {G : Nat → Int → Int64} {T : Nat → Int} {n : Nat} {D : Int → Int32} {t : TkS} (h : MoR F T n D t) (ht : TkI n t) : ∃ F1, CtP MP 4 205 [.ref 217] (mk E F G) (Sum.inl none) (mk E F1 G) ∧ OuM F1 T n (pStorm T n (D, t)) ∧ KpM F F1 := by
  have tr := ht.2.2.2.2
  by_cases c : nmZ t 1 99 = 0
  · obtain ⟨F1, c1, r1, k1⟩ := go_197t (E := E) (G := G) h ht (by omega) (by omega) c
    have ht2 := (av_inv (T := T) ht).1.1
    have tr2 := ht2.2.2.2.2
    have e1 : pOne T n 166 1 99 (D, t) = .inr (uC D 166 (zI t.2.2.2), av T n t) := if_pos c
    by_cases c2 : nmZ (av T n t) 0 60 = 0
    · obtain ⟨F2, q1, r2, k2⟩ := go_197t (E := E) (G := G) r1 ht2 (by omega) (by omega) c2
      have e2 : pStorm T n (D, t) = .inr (uC (uC D 166 (zI t.2.2.2)) 167 (zI (av T n t).2.2.2), av T n (av T n t)) := by
        unfold pStorm; rw [e1]; exact if_pos c2
      rw [e2]
      refine ⟨uR F2 219 (uC (uC D 166 (zI t.2.2.2)) 167 (zI (av T n t).2.2.2)), fun d hd => ?_, MoR_9 r2, (k1.tr k2).tr KpM_9⟩
      have b4 := r2.2.2.2.1
      have b5 := r2.2.2.2.2
      refine into (D := 3) (by omega) hM_205 (rcv_mk rfl (by decide)) rfl fun d hd => ?_
      show runP MP d 205 (0, [some (.ref 217), none, none], [], _) = _
      rw [q_205_0]; (try simp only [↓n_rd, ↓n_cI, li_0, li_1, li_12, li_13, li_60, li_99, li_166, li_167, zI_add, zI_sub, zI_mul, zI_neg, ↓Option.bind_some]); simp (disch := (first | assumption | exact tI_rg _ | omega | exact uR_at | exact row_ne hF (by decide) | exact row_ne (row_ne hF (by decide)) (by decide) | exact SnS_18 | exact SnS_30 | exact LdS_44 | exact LdS_46)) only [↓ctT c1, ↓ctT q1, b4, b5, ↓n_rd, ↓n_cI, li_0, li_1, li_12, li_13, li_60, li_99, li_166, li_167, zI_add, zI_sub, zI_mul, zI_neg, ↓Option.bind_some, ↓g12_1, ↓g12_13, ↓al_219, ↓as_219, zIt2, uR_at, uR_ne, uR_uR, uC_uC, uC_at, ↓reduceIte, decide_eq_true_eq, leT, leF, ltT, ltF, eqT, eqF, ne_eq, not_true_eq_false, not_false_eq_true, Bool.false_eq_true, tI_zI]
    · obtain ⟨F2, q1, r2, -, k2⟩ := go_197f (E := E) (G := G) r1 ht2 (by omega) (by omega) c2
      have e2 : pStorm T n (D, t) = .inl (flt (av T n t) (nmZ (av T n t) 0 60)) := by
        unfold pStorm; rw [e1]; exact if_neg c2
      rw [e2]
      refine ⟨F2, fun d hd => ?_, r2, k1.tr k2⟩
      obtain ⟨b1, b2, b3, b4⟩ := r2
      refine into (D := 3) (by omega) hM_205 (rcv_mk rfl (by decide)) rfl fun d hd => ?_
      show runP MP d 205 (0, [some (.ref 217), none, none], [], _) = _
      rw [q_205_0]; (try simp only [↓n_rd, ↓n_cI, li_0, li_1, li_12, li_13, li_60, li_99, li_166, li_167, zI_add, zI_sub, zI_mul, zI_neg, ↓Option.bind_some]); simp (disch := (first | assumption | exact tI_rg _ | omega | exact uR_at | exact row_ne hF (by decide) | exact row_ne (row_ne hF (by decide)) (by decide) | exact SnS_18 | exact SnS_30 | exact LdS_44 | exact LdS_46)) only [↓ctT c1, ↓ctT q1, b1, ↓n_rd, ↓n_cI, li_0, li_1, li_12, li_13, li_60, li_99, li_166, li_167, zI_add, zI_sub, zI_mul, zI_neg, ↓Option.bind_some, ↓g12_1, ↓g12_13, ↓al_219, ↓as_219, zIt2, uR_at, uR_ne, uR_uR, uC_uC, uC_at, ↓reduceIte, decide_eq_true_eq, leT, leF, ltT, ltF, eqT, eqF, ne_eq, not_true_eq_false, not_false_eq_true, Bool.false_eq_true, tI_zI]
  · obtain ⟨F1, c1, r1, -, k1⟩ := go_197f (E := E) (G := G) h ht (by omega) (by omega) c
    have q1 := go_197b (E := E) (G := G) r1 (lo := 0) (up := 60) (by omega) (by omega)
    have e2 : pStorm T n (D, t) = .inl (flt t (nmZ t 1 99)) := by
      unfold pStorm; rw [show pOne T n 166 1 99 (D, t) = .inl (flt t (nmZ t 1 99)) from if_neg c]; rfl
    rw [e2]
    refine ⟨F1, fun d hd => ?_, r1, k1⟩
    obtain ⟨b1, b2, b3, b4⟩ := r1
    refine into (D := 3) (by omega) hM_205 (rcv_mk rfl (by decide)) rfl fun d hd => ?_
    show runP MP d 205 (0, [some (.ref 217), none, none], [], _) = _
    rw [q_205_0]; (try simp only [↓n_rd, ↓n_cI, li_0, li_1, li_12, li_13, li_60, li_99, li_166, li_167, zI_add, zI_sub, zI_mul, zI_neg, ↓Option.bind_some]); simp (disch := (first | assumption | exact tI_rg _ | omega | exact uR_at | exact row_ne hF (by decide) | exact row_ne (row_ne hF (by decide)) (by decide) | exact SnS_18 | exact SnS_30 | exact LdS_44 | exact LdS_46)) only [↓ctT c1, ↓ctT q1, b1, ↓n_rd, ↓n_cI, li_0, li_1, li_12, li_13, li_60, li_99, li_166, li_167, zI_add, zI_sub, zI_mul, zI_neg, ↓Option.bind_some, ↓g12_1, ↓g12_13, ↓al_219, ↓as_219, zIt2, uR_at, uR_ne, uR_uR, uC_uC, uC_at, ↓reduceIte, decide_eq_true_eq, leT, leF, ltT, ltF, eqT, eqF, ne_eq, not_true_eq_false, not_false_eq_true, Bool.false_eq_true, tI_zI]
end S94zzm
