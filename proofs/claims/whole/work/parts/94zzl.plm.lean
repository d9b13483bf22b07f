/-! MODEL: reading a plain -/
section S94zzl
set_option linter.unusedVariables false
set_option linter.unusedSimpArgs false
theorem ctV {D m d : Nat} {as : List Value} {h h1 : HeapP} (c : CtP MP D m as h (Sum.inl none) h1) (hd : D ≤ d) {kk : HeapP → ResP} {kx : Nat → HeapP → ResP} : cV (callP MP d m as h) kk kx = kk h1 := cV_ret (c d hd)
theorem ctT {D m d : Nat} {as : List Value} {h h1 : HeapP} {v : Int} (c : CtP MP D m as h (Sum.inl (some (.int (zI v)))) h1) (hv : -2147483648 ≤ v ∧ v ≤ 2147483647) (hd : D ≤ d) {kk : Int → HeapP → ResP} {kx : Nat → HeapP → ResP} : cT (callP MP d m as h) kk kx = kk v h1 := cT_ret (c d hd) hv
def MoR (F : Nat → Int → Int32) (T : Nat → Int) (n : Nat) (D : Int → Int32) (t : TkS) : Prop := TxM F T n ∧ F 217 8 = zI n ∧ MoT (F 217) t ∧ F 217 13 = zI 0 ∧ F 219 = D
def KpM (F F1 : Nat → Int → Int32) : Prop := (∀ q, q ≠ 217 → q ≠ 219 → F1 q = F q) ∧ (∀ j, j < 9 ∨ 14 < j → F1 217 j = F 217 j)
def BaM (F : Nat → Int → Int32) (f : Int × Int) : Prop := F 217 13 = zI f.1 ∧ F 217 14 = zI f.2 ∧ 1 ≤ f.1 ∧ f.1 ≤ 4
theorem KpM.tr {F F1 F2 : Nat → Int → Int32} (h : KpM F F1) (k : KpM F1 F2) : KpM F F2 := ⟨fun q h1 h2 => (k.1 q h1 h2).trans (h.1 q h1 h2), fun j hj => (k.2 j hj).trans (h.2 j hj)⟩
theorem KpM_9 {F : Nat → Int → Int32} {X : Int → Int32} : KpM F (uR F 219 X) := ⟨fun q h1 h2 => uR_ne h2, fun j hj => by rw [uR_ne (by decide)]⟩
theorem MoR_9 {F : Nat → Int → Int32} {T : Nat → Int} {n : Nat} {D X : Int → Int32} {t : TkS} (h : MoR F T n D t) : MoR (uR F 219 X) T n X t := by
  obtain ⟨h1, h2, h3, h4, h5⟩ := h
  refine ⟨⟨h1.1, fun j hj => by rw [uR_ne (by decide)]; exact h1.2 j hj⟩, by rw [uR_ne (by decide)]; exact h2, by rw [uR_ne (by decide)]; exact h3, by rw [uR_ne (by decide)]; exact h4, uR_at⟩
theorem go_190s {E : EnQ} {F : Nat → Int → Int32} {G : Nat → Int → Int64} {T : Nat → Int} {n : Nat} (h1 : TxM F T n) (h2 : F 217 8 = zI n) (h3 : 0 ≤ tI (F 217 9) ∧ tI (F 217 9) ≤ n) (h4 : F 217 13 = zI 0) {t : TkS} (he : t.2.2.1 = tI (F 217 9)) : ∃ F1, CtP MP 2 190 [.ref 217] (mk E F G) (Sum.inl none) (mk E F1 G) ∧ MoR F1 T n (F 219) (av T n t) ∧ KpM F F1 := by
  have hF : F 217 = mtR (F 217) (tI (F 217 11), tI (F 217 10), tI (F 217 9), tI (F 217 12)) := mt_is (zI_tI _).symm (zI_tI _).symm (zI_tI _).symm (zI_tI _).symm (fun j _ => rfl)
  have ht2 : TkE n (tI (F 217 11), tI (F 217 10), tI (F 217 9), tI (F 217 12)) := ⟨tI_rg _, tI_rg _, h3.1, h3.2, (tI_rg _).1, (tI_rg _).2⟩
  have e : av T n t = nzT (adv T n (tI (F 217 11), tI (F 217 10), tI (F 217 9), tI (F 217 12))) := adv_end he
  refine ⟨_, fun d hd => ct_190 h1 h2 ht2 hF hd, ?_, ?_⟩
  · rw [e]
    generalize adv T n (tI (F 217 11), tI (F 217 10), tI (F 217 9), tI (F 217 12)) = s
    obtain ⟨a1, a2, a3, a4⟩ := mt_at (r := F 217) (t := s)
    refine ⟨⟨h1.1, fun j hj => by rw [uR_ne (by decide)]; exact h1.2 j hj⟩, by rw [uR_at, mtg8]; exact h2, ?_, by rw [uR_at, mtg13]; exact h4, by rw [uR_ne (by decide)]⟩
    rw [uR_at]
    refine ⟨a1, a2, a3, fun z => ?_⟩
    have z2 : s.1 = 2 := z
    show mtR (F 217) s 12 = zI (if s.1 = 2 then s.2.2.2 else 0)
    rw [if_pos z2, a4]
  · exact ⟨fun q q1 q2 => uR_ne q1, fun j hj => by rw [uR_at, mt_ne (by omega)]⟩
theorem go_190 {E : EnQ} {F : Nat → Int → Int32} {G : Nat → Int → Int64} {T : Nat → Int} {n : Nat} {D : Int → Int32} {t : TkS} (h : MoR F T n D t) (ht : TkI n t) : ∃ F1, CtP MP 2 190 [.ref 217] (mk E F G) (Sum.inl none) (mk E F1 G) ∧ MoR F1 T n D (av T n t) ∧ KpM F F1 := by
  obtain ⟨h1, h2, ⟨m1, m2, m3, m4⟩, h4, h5⟩ := h
  have hn := h1.1
  have hb : tI (F 217 9) = t.2.2.1 := by
    have := ht.2.1; have := ht.2.2.1; have := ht.2.2.2.1
    rw [m3, tI_zI (by omega)]
  have := go_190s (E := E) (G := G) h1 h2 (by rw [hb]; have := ht.2.1; have := ht.2.2.1; have := ht.2.2.2.1; omega) h4 hb.symm
  rw [h5] at this
  exact this
theorem go_196 {E : EnQ} {F : Nat → Int → Int32} {G : Nat → Int → Int64} {T : Nat → Int} {n : Nat} {D : Int → Int32} {t : TkS} (h : MoR F T n D t) (ht : TkI n t) {y : Int} (hy : 1 ≤ y ∧ y ≤ 4) : ∃ F1, CtP MP 1 196 [.ref 217, .int (zI y)] (mk E F G) (Sum.inl none) (mk E F1 G) ∧ BaM F1 (flt t y) ∧ F1 219 = D ∧ KpM F F1 := by
  obtain ⟨h1, h2, ⟨m1, m2, m3, m4⟩, h4, h5⟩ := h
  have t1 := ht.1
  refine ⟨uR F 217 (uC (uC (F 217) 13 (zI (flt t y).1)) 14 (zI (flt t y).2)), fun d hd => ?_, ⟨?_, ?_, ?_, ?_⟩, ?_, ?_⟩
  · unfold flt
    refine into (D := 0) (by omega) hM_196 (rcv_mk rfl (by decide)) rfl fun d hd => ?_
    show runP MP d 196 (0, [some (.ref 217), some (.int (zI y))], [], _) = _
    by_cases c : t.1 = 4
    · rw [if_pos c]
      rw [q_196_0]; (try simp only [↓n_rd, li_0, li_1, li_4, li_10, li_12, li_13, li_14, zI_add, zI_sub, zI_mul, zI_neg, ↓Option.bind_some]); simp (disch := (first | assumption | exact tI_rg _ | omega | exact uR_at | exact row_ne hF (by decide) | exact row_ne (row_ne hF (by decide)) (by decide) | exact SnS_18 | exact SnS_30 | exact LdS_44 | exact LdS_46)) only [q_196_22, h4, m1, m2, c, uC_ne (show (10 : Int) ≠ 13 by decide), ↓n_rd, li_0, li_1, li_4, li_10, li_12, li_13, li_14, zI_add, zI_sub, zI_mul, zI_neg, ↓Option.bind_some, ↓g12_10, ↓g12_11, ↓g12_13, ↓p12_13, ↓p12_14, zIt2, uR_at, uR_ne, uR_uR, uC_uC, uC_at, ↓reduceIte, decide_eq_true_eq, leT, leF, ltT, ltF, eqT, eqF, ne_eq, not_true_eq_false, not_false_eq_true, Bool.false_eq_true, tI_zI]
    · rw [if_neg c]
      rw [q_196_0]; (try simp only [↓n_rd, li_0, li_1, li_4, li_10, li_12, li_13, li_14, zI_add, zI_sub, zI_mul, zI_neg, ↓Option.bind_some]); simp (disch := (first | assumption | exact tI_rg _ | omega | exact uR_at | exact row_ne hF (by decide) | exact row_ne (row_ne hF (by decide)) (by decide) | exact SnS_18 | exact SnS_30 | exact LdS_44 | exact LdS_46)) only [q_196_22, h4, m1, m2, uC_ne (show (10 : Int) ≠ 13 by decide), ↓n_rd, li_0, li_1, li_4, li_10, li_12, li_13, li_14, zI_add, zI_sub, zI_mul, zI_neg, ↓Option.bind_some, ↓g12_10, ↓g12_11, ↓g12_13, ↓p12_13, ↓p12_14, zIt2, uR_at, uR_ne, uR_uR, uC_uC, uC_at, ↓reduceIte, decide_eq_true_eq, leT, leF, ltT, ltF, eqT, eqF, ne_eq, not_true_eq_false, not_false_eq_true, Bool.false_eq_true, tI_zI]
  · rw [uR_at, uC_ne (by decide), uC_at]
  · rw [uR_at, uC_at]
  · unfold flt; show 1 ≤ if t.1 = 4 then (1 : Int) else y; split <;> omega
  · unfold flt; show (if t.1 = 4 then (1 : Int) else y) ≤ 4; split <;> omega
  · rw [uR_ne (by decide)]; exact h5
  · exact ⟨fun q q1 q2 => uR_ne q1, fun j hj => by rw [uR_at, uC_ne (by omega), uC_ne (by omega)]⟩
theorem go_196b {E : EnQ} {F : Nat → Int → Int32} {G : Nat → Int → Int64} {f : Int × Int} (h : BaM F f) {y : Int} : CtP MP 1 196 [.ref 217, .int (zI y)] (mk E F G) (Sum.inl none) (mk E F G) := fun d hd => by
  obtain ⟨b1, b2, b3, b4⟩ := h
  refine into (D := 0) (by omega) hM_196 (rcv_mk rfl (by decide)) rfl fun d hd => ?_
  show runP MP d 196 (0, [some (.ref 217), some (.int (zI y))], [], _) = _
  rw [q_196_0]; (try simp only [↓n_rd, li_0, li_1, li_4, li_10, li_12, li_13, li_14, zI_add, zI_sub, zI_mul, zI_neg, ↓Option.bind_some]); simp (disch := (first | assumption | exact tI_rg _ | omega | exact uR_at | exact row_ne hF (by decide) | exact row_ne (row_ne hF (by decide)) (by decide) | exact SnS_18 | exact SnS_30 | exact LdS_44 | exact LdS_46)) only [q_196_22, b1, ↓n_rd, li_0, li_1, li_4, li_10, li_12, li_13, li_14, zI_add, zI_sub, zI_mul, zI_neg, ↓Option.bind_some, ↓g12_10, ↓g12_11, ↓g12_13, ↓p12_13, ↓p12_14, zIt2, uR_at, uR_ne, uR_uR, uC_uC, uC_at, ↓reduceIte, decide_eq_true_eq, leT, leF, ltT, ltF, eqT, eqF, ne_eq, not_true_eq_false, not_false_eq_true, Bool.false_eq_true, tI_zI]
theorem go_197t {E : EnQ} {F : Nat → Int → Int32} {G : Nat → Int → Int64} {T : Nat → Int} {n : Nat} {D : Int → Int32} {t : TkS} (h : MoR F T n D t) (ht : TkI n t) {lo up : Int} (hl : -2147483648 ≤ lo ∧ lo ≤ 2147483647) (hu : -2147483648 ≤ up ∧ up ≤ 2147483647) (hn : nmZ t lo up = 0) : ∃ F1, CtP MP 3 197 [.ref 217, .int (zI lo), .int (zI up)] (mk E F G) (Sum.inl (some (.int (zI t.2.2.2)))) (mk E F1 G) ∧ MoR F1 T n D (av T n t) ∧ KpM F F1 := by
  obtain ⟨F1, c1, r1, k1⟩ := go_190 (E := E) (G := G) h ht
  obtain ⟨h1, h2, ⟨m1, m2, m3, m4⟩, h4, h5⟩ := h
  obtain ⟨n1, n2, n3⟩ := nm_0 hn
  have m5 := m4 n1
  have tr := ht.2.2.2.2
  refine ⟨F1, fun d hd => ?_, r1, k1⟩
  have b4 := r1.2.2.2.1
  refine into (D := 2) (by omega) hM_197 (rcv_mk rfl (by decide)) rfl fun d hd => ?_
  show runP MP d 197 (0, [some (.ref 217), some (.int (zI lo)), some (.int (zI up)), none], [], _) = _
  rw [q_197_0]; (try simp only [↓n_rd, ↓n_cI, li_0, li_2, li_3, li_12, li_13, li_64, lj_0, lj_2, lj_3, lj_12, zJ_add, zJ_sub, zJ_mul, zJ_neg, zJ_l2i, zI_add, zI_sub, zI_mul, zI_neg, ↓Option.bind_some]); simp (disch := (first | assumption | exact tI_rg _ | omega | exact uR_at | exact row_ne hF (by decide) | exact row_ne (row_ne hF (by decide)) (by decide) | exact SnS_18 | exact SnS_30 | exact LdS_44 | exact LdS_46)) only [q_197_36, q_197_52, q_197_64, h4, m1, m5, n1, ↓cc_188t, zI_i2l, ↓ctV c1, b4, ↓n_rd, ↓n_cI, li_0, li_2, li_3, li_12, li_13, li_64, lj_0, lj_2, lj_3, lj_12, zJ_add, zJ_sub, zJ_mul, zJ_neg, zJ_l2i, tJ_zJ, zI_add, zI_sub, zI_mul, zI_neg, ↓Option.bind_some, ↓g12_11, ↓g12_12, ↓g12_13, zIt2, uR_at, uR_ne, uR_uR, uC_uC, uC_at, ↓reduceIte, decide_eq_true_eq, leT, leF, ltT, ltF, eqT, eqF, ne_eq, not_true_eq_false, not_false_eq_true, Bool.false_eq_true, tI_zI]
theorem go_197f {E : EnQ} {F : Nat → Int → Int32} {G : Nat → Int → Int64} {T : Nat → Int} {n : Nat} {D : Int → Int32} {t : TkS} (h : MoR F T n D t) (ht : TkI n t) {lo up : Int} (hl : -2147483648 ≤ lo ∧ lo ≤ 2147483647) (hu : -2147483648 ≤ up ∧ up ≤ 2147483647) (hn : nmZ t lo up ≠ 0) : ∃ F1, CtP MP 3 197 [.ref 217, .int (zI lo), .int (zI up)] (mk E F G) (Sum.inl (some (.int (zI lo)))) (mk E F1 G) ∧ BaM F1 (flt t (nmZ t lo up)) ∧ F1 219 = D ∧ KpM F F1 := by
  have tr := ht.2.2.2.2
  have t1 := ht.1
  by_cases c : t.1 = 2
  · have e : nmZ t lo up = 3 := by
      unfold nmZ at hn ⊢
      rw [if_pos c] at hn ⊢
      by_cases g : lo ≤ t.2.2.2 ∧ t.2.2.2 ≤ up
      · rw [if_pos g] at hn; exact absurd rfl hn
      · rw [if_neg g]
    have g : ¬ (lo ≤ t.2.2.2 ∧ t.2.2.2 ≤ up) := fun z => by
      unfold nmZ at hn; rw [if_pos c, if_pos z] at hn; exact hn rfl
    rw [e]
    obtain ⟨F1, c1, r1, q1, k1⟩ := go_196 (E := E) (G := G) h ht (y := 3) (by omega)
    obtain ⟨h1, h2, ⟨m1, m2, m3, m4⟩, h4, h5⟩ := h
    have m5 := m4 c
    obtain ⟨b1, b2, b3, b4⟩ := r1
    refine ⟨F1, fun d hd => ?_, ⟨b1, b2, b3, b4⟩, q1, k1⟩
    refine into (D := 2) (by omega) hM_197 (rcv_mk rfl (by decide)) rfl fun d hd => ?_
    show runP MP d 197 (0, [some (.ref 217), some (.int (zI lo)), some (.int (zI up)), none], [], _) = _
    rw [q_197_0]; (try simp only [↓n_rd, ↓n_cI, li_0, li_2, li_3, li_12, li_13, li_64, lj_0, lj_2, lj_3, lj_12, zJ_add, zJ_sub, zJ_mul, zJ_neg, zJ_l2i, zI_add, zI_sub, zI_mul, zI_neg, ↓Option.bind_some]); simp (disch := (first | assumption | exact tI_rg _ | omega | exact uR_at | exact row_ne hF (by decide) | exact row_ne (row_ne hF (by decide)) (by decide) | exact SnS_18 | exact SnS_30 | exact LdS_44 | exact LdS_46)) only [q_197_36, q_197_52, q_197_64, h4, m1, m5, c, ↓cc_188f, zI_i2l, ↓ctV c1, b1, ↓n_rd, ↓n_cI, li_0, li_2, li_3, li_12, li_13, li_64, lj_0, lj_2, lj_3, lj_12, zJ_add, zJ_sub, zJ_mul, zJ_neg, zJ_l2i, tJ_zJ, zI_add, zI_sub, zI_mul, zI_neg, ↓Option.bind_some, ↓g12_11, ↓g12_12, ↓g12_13, zIt2, uR_at, uR_ne, uR_uR, uC_uC, uC_at, ↓reduceIte, decide_eq_true_eq, leT, leF, ltT, ltF, eqT, eqF, ne_eq, not_true_eq_false, not_false_eq_true, Bool.false_eq_true, tI_zI]
  · have e : nmZ t lo up = 2 := by unfold nmZ; rw [if_neg c]
    rw [e]
    obtain ⟨F1, c1, r1, q1, k1⟩ := go_196 (E := E) (G := G) h ht (y := 2) (by omega)
    obtain ⟨h1, h2, ⟨m1, m2, m3, m4⟩, h4, h5⟩ := h
    obtain ⟨b1, b2, b3, b4⟩ := r1
    refine ⟨F1, fun d hd => ?_, ⟨b1, b2, b3, b4⟩, q1, k1⟩
    refine into (D := 2) (by omega) hM_197 (rcv_mk rfl (by decide)) rfl fun d hd => ?_
    show runP MP d 197 (0, [some (.ref 217), some (.int (zI lo)), some (.int (zI up)), none], [], _) = _
    rw [q_197_0]; (try simp only [↓n_rd, ↓n_cI, li_0, li_2, li_3, li_12, li_13, li_64, lj_0, lj_2, lj_3, lj_12, zJ_add, zJ_sub, zJ_mul, zJ_neg, zJ_l2i, zI_add, zI_sub, zI_mul, zI_neg, ↓Option.bind_some]); simp (disch := (first | assumption | exact tI_rg _ | omega | exact uR_at | exact row_ne hF (by decide) | exact row_ne (row_ne hF (by decide)) (by decide) | exact SnS_18 | exact SnS_30 | exact LdS_44 | exact LdS_46)) only [q_197_36, q_197_52, q_197_64, h4, m1, ↓ctV c1, b1, ↓n_rd, ↓n_cI, li_0, li_2, li_3, li_12, li_13, li_64, lj_0, lj_2, lj_3, lj_12, zJ_add, zJ_sub, zJ_mul, zJ_neg, zJ_l2i, tJ_zJ, zI_add, zI_sub, zI_mul, zI_neg, ↓Option.bind_some, ↓g12_11, ↓g12_12, ↓g12_13, zIt2, uR_at, uR_ne, uR_uR, uC_uC, uC_at, ↓reduceIte, decide_eq_true_eq, leT, leF, ltT, ltF, eqT, eqF, ne_eq, not_true_eq_false, not_false_eq_true, Bool.false_eq_true, tI_zI]
theorem go_197b {E : EnQ} {F : Nat → Int → Int32} {G : Nat → Int → Int64} {f : Int × Int} (h : BaM F f) {lo up : Int} (hl : -2147483648 ≤ lo ∧ lo ≤ 2147483647) (hu : -2147483648 ≤ up ∧ up ≤ 2147483647) : CtP MP 3 197 [.ref 217, .int (zI lo), .int (zI up)] (mk E F G) (Sum.inl (some (.int (zI lo)))) (mk E F G) := fun d hd => by
  have c3 := go_196b (E := E) (G := G) h (y := 3)
  have c2 := go_196b (E := E) (G := G) h (y := 2)
  obtain ⟨b1, b2, b3, b4⟩ := h
  have x1 := tI_rg (F 217 11)
  have x2 := tI_rg (F 217 12)
  refine into (D := 2) (by omega) hM_197 (rcv_mk rfl (by decide)) rfl fun d hd => ?_
  show runP MP d 197 (0, [some (.ref 217), some (.int (zI lo)), some (.int (zI up)), none], [], _) = _
  by_cases c : tI (F 217 11) = 2
  · by_cases g : lo ≤ tI (F 217 12) ∧ tI (F 217 12) ≤ up
    · rw [q_197_0]; (try simp only [↓n_rd, ↓n_cI, li_0, li_2, li_3, li_12, li_13, li_64, lj_0, lj_2, lj_3, lj_12, zJ_add, zJ_sub, zJ_mul, zJ_neg, zJ_l2i, zI_add, zI_sub, zI_mul, zI_neg, ↓Option.bind_some]); simp (disch := (first | assumption | exact tI_rg _ | omega | exact uR_at | exact row_ne hF (by decide) | exact row_ne (row_ne hF (by decide)) (by decide) | exact SnS_18 | exact SnS_30 | exact LdS_44 | exact LdS_46)) only [q_197_36, q_197_52, q_197_64, b1, c, ↓cc_188t, zI_i2l, ↓n_rd, ↓n_cI, li_0, li_2, li_3, li_12, li_13, li_64, lj_0, lj_2, lj_3, lj_12, zJ_add, zJ_sub, zJ_mul, zJ_neg, zJ_l2i, tJ_zJ, zI_add, zI_sub, zI_mul, zI_neg, ↓Option.bind_some, ↓g12_11, ↓g12_12, ↓g12_13, zIt2, uR_at, uR_ne, uR_uR, uC_uC, uC_at, ↓reduceIte, decide_eq_true_eq, leT, leF, ltT, ltF, eqT, eqF, ne_eq, not_true_eq_false, not_false_eq_true, Bool.false_eq_true, tI_zI]
    · rw [q_197_0]; (try simp only [↓n_rd, ↓n_cI, li_0, li_2, li_3, li_12, li_13, li_64, lj_0, lj_2, lj_3, lj_12, zJ_add, zJ_sub, zJ_mul, zJ_neg, zJ_l2i, zI_add, zI_sub, zI_mul, zI_neg, ↓Option.bind_some]); simp (disch := (first | assumption | exact tI_rg _ | omega | exact uR_at | exact row_ne hF (by decide) | exact row_ne (row_ne hF (by decide)) (by decide) | exact SnS_18 | exact SnS_30 | exact LdS_44 | exact LdS_46)) only [q_197_36, q_197_52, q_197_64, b1, c, ↓cc_188f, zI_i2l, ↓ctV c3, ↓n_rd, ↓n_cI, li_0, li_2, li_3, li_12, li_13, li_64, lj_0, lj_2, lj_3, lj_12, zJ_add, zJ_sub, zJ_mul, zJ_neg, zJ_l2i, tJ_zJ, zI_add, zI_sub, zI_mul, zI_neg, ↓Option.bind_some, ↓g12_11, ↓g12_12, ↓g12_13, zIt2, uR_at, uR_ne, uR_uR, uC_uC, uC_at, ↓reduceIte, decide_eq_true_eq, leT, leF, ltT, ltF, eqT, eqF, ne_eq, not_true_eq_false, not_false_eq_true, Bool.false_eq_true, tI_zI]
  · rw [q_197_0]; (try simp only [↓n_rd, ↓n_cI, li_0, li_2, li_3, li_12, li_13, li_64, lj_0, lj_2, lj_3, lj_12, zJ_add, zJ_sub, zJ_mul, zJ_neg, zJ_l2i, zI_add, zI_sub, zI_mul, zI_neg, ↓Option.bind_some]); simp (disch := (first | assumption | exact tI_rg _ | omega | exact uR_at | exact row_ne hF (by decide) | exact row_ne (row_ne hF (by decide)) (by decide) | exact SnS_18 | exact SnS_30 | exact LdS_44 | exact LdS_46)) only [q_197_36, q_197_52, q_197_64, b1, ↓ctV c2, ↓n_rd, ↓n_cI, li_0, li_2, li_3, li_12, li_13, li_64, lj_0, lj_2, lj_3, lj_12, zJ_add, zJ_sub, zJ_mul, zJ_neg, zJ_l2i, tJ_zJ, zI_add, zI_sub, zI_mul, zI_neg, ↓Option.bind_some, ↓g12_11, ↓g12_12, ↓g12_13, zIt2, uR_at, uR_ne, uR_uR, uC_uC, uC_at, ↓reduceIte, decide_eq_true_eq, leT, leF, ltT, ltF, eqT, eqF, ne_eq, not_true_eq_false, not_false_eq_true, Bool.false_eq_true, tI_zI]
end S94zzl
