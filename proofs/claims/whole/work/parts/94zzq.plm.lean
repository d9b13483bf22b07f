/-! MODEL: reading a plain 6 -/
section S94zzq
set_option linter.unusedVariables false
set_option linter.unusedSimpArgs false
def zrF (r : Int → Int32) (m : Nat) : Int → Int32 := fun i => if 0 ≤ i ∧ i < m then zI 0 else r i
theorem zrF_0 {r : Int → Int32} : zrF r 0 = r := by funext i; exact if_neg (by omega)
theorem zrF_s {r : Int → Int32} {m : Nat} : uC (zrF r m) (m : Int) (zI 0) = zrF r (m + 1) := by
  funext i
  unfold zrF
  by_cases e : i = (m : Int)
  · rw [e, uC_at, if_pos (by omega)]
  · rw [uC_ne e]
    by_cases g : 0 ≤ i ∧ i < (m : Int)
    · rw [if_pos g, if_pos (by omega)]
    · rw [if_neg g, if_neg (by omega)]
/-- a plain of no lines -/
def frD (r : Int → Int32) : Int → Int32 := uC (uC (zrF r 408) 4 (zI 20)) 168 (zI 20)
theorem fr_at {r : Int → Int32} {j : Int} (h : 0 ≤ j ∧ j < 408) : frD r j = if j = 4 ∨ j = 168 then zI 20 else zI 0 := by
  unfold frD
  by_cases e : j = 168
  · rw [e, uC_at, if_pos (by omega)]
  · rw [uC_ne e]
    by_cases e4 : j = 4
    · rw [e4, uC_at, if_pos (by omega)]
    · rw [uC_ne e4, if_neg (by omega)]
      exact if_pos (by omega)
theorem fr_0 {r : Int → Int32} {j : Int} (h : 0 ≤ j ∧ j < 408) (h4 : j ≠ 4) (h8 : j ≠ 168) : frD r j = zI 0 := by
  rw [fr_at h, if_neg (by omega)]
theorem fr_pa {r : Int → Int32} : PaJ (frD r) 0 := by
  have f4 : frD r 4 = zI 20 := by rw [fr_at (by omega), if_pos (by omega)]
  have f8 : frD r 168 = zI 20 := by rw [fr_at (by omega), if_pos (by omega)]
  have f0 : ∀ j, 0 ≤ j → j < 408 → j ≠ 4 → j ≠ 168 → frD r j = zI 0 := fun j h1 h2 h3 h4 => fr_0 ⟨h1, h2⟩ h3 h4
  have t20 : tI (zI 20) = 20 := tI_zI (by omega)
  have e5 := f0 5 (by omega) (by omega) (by omega) (by omega)
  have e9 := f0 169 (by omega) (by omega) (by omega) (by omega)
  refine ⟨⟨?_, ?_, fun x x1 x2 => ?_, InvR_0 e5 e9⟩, e5, e9, fun x x1 x2 => ⟨f0 _ (by omega) (by omega) (by omega) (by omega), f0 _ (by omega) (by omega) (by omega) (by omega)⟩, fun x x0 x1 x2 => f0 _ (by omega) (by omega) (by omega) (by omega)⟩
  · unfold InvA
    rw [f0 0 (by omega) (by omega) (by omega) (by omega), f0 1 (by omega) (by omega) (by omega) (by omega), f0 2 (by omega) (by omega) (by omega) (by omega), f0 3 (by omega) (by omega) (by omega) (by omega), f4, f8, e5, e9, f0 166 (by omega) (by omega) (by omega) (by omega), f0 167 (by omega) (by omega) (by omega) (by omega), tz0, t20]
    omega
  · unfold InvP
    rw [f0 2 (by omega) (by omega) (by omega) (by omega), tz0]
    exact ⟨fun k k1 k2 => by omega, fun k k1 k2 => by omega, fun i j i1 j1 => by omega⟩
  · rw [f0 (170 + 9 * x) (by omega) (by omega) (by omega) (by omega), f0 (206 + x) (by omega) (by omega) (by omega) (by omega), f0 (39 + 2 * x) (by omega) (by omega) (by omega) (by omega), f0 3 (by omega) (by omega) (by omega) (by omega), tz0]
    exact ⟨by omega, fun k k1 k2 => by omega, by omega, Or.inr ⟨rfl, rfl⟩, by omega, fun z => by omega⟩
theorem i_first {T : Nat → Int} {n : Nat} {D : Int → Int32} {t : TkS} {s' : PrS} (h : InP n D t 0) (h2 : tI (D 2) = 0) (h3 : tI (D 3) = 0) (he : pFirst T n D t = .inr s') : InP n s'.1 s'.2 (tI (s'.1 3)) ∧ s'.1 3 = D 3 := by
  obtain ⟨h', b⟩ := InP_av (T := T) h
  obtain ⟨q1, q2, q3, q4⟩ := h'
  obtain ⟨u, e1, e2⟩ := bnd_inr he
  by_cases w1 : isW T 0 t = true
  · rw [if_pos w1] at e1
    unfold pOne at e1
    by_cases c : nmZ (av T n t) 1 10 = 0
    · rw [if_pos (show nmZ ((D, av T n t) : PrS).2 1 10 = 0 from c)] at e1
      cases e1
      obtain ⟨n1, n2, n3⟩ := nm_0 c
      obtain ⟨a, b2, -⟩ := av_st (T := T) q2
      have hp : InP n (uC D 1 (zI (av T n t).2.2.2)) (av T n (av T n t)) 0 := ⟨PaJ_places q1 h2 h3 ⟨n2, n3⟩, a, by rw [uC_ne (by decide)]; omega, q4⟩
      obtain ⟨r1, r2, r3⟩ := i_end (s := (uC D 1 (zI (av T n t).2.2.2), av T n (av T n t))) hp e2
      have r4 : s'.1 3 = D 3 := r3.trans (uC_ne (show (3 : Int) ≠ 1 by decide) : uC D 1 (zI (av T n t).2.2.2) 3 = D 3)
      exact ⟨by rw [r4, h3]; exact r1, r4⟩
    · rw [if_neg (show ¬ nmZ ((D, av T n t) : PrS).2 1 10 = 0 from c)] at e1; cases e1
  · rw [if_neg w1] at e1; cases e1
theorem fr_in {r : Int → Int32} {T : Nat → Int} {n : Nat} {t : TkS} (ht : t.2.2.1 = 0) (hn : n ≤ 600) : InP n (frD r) (av T n t) 0 := by
  have e : av T n t = av T n (0, 0, 0, 0) := adv_end ht
  have h0 : TkI n ((0, 0, 0, 0) : TkS) := ⟨⟨by show (0 : Int) ≤ 0; omega, by show (0 : Int) ≤ 4; omega⟩, by show (0 : Int) ≤ 0; omega, by show (0 : Int) ≤ 0; omega, by show (0 : Int) ≤ n; omega, by show (-2147483648 : Int) ≤ 0; omega, by show (0 : Int) ≤ 2147483647; omega⟩
  obtain ⟨a, b⟩ := av_inv (T := T) h0
  rw [e]
  refine ⟨fr_pa, a, ?_, hn⟩
  rw [fr_0 (by omega) (by omega) (by omega), tz0]
  exact b
theorem i_tell {r : Int → Int32} {T : Nat → Int} {n : Nat} {t : TkS} {s' : PrS} (ht : t.2.2.1 = 0) (hn : n ≤ 600) (he : pTell T n (frD r) t = .inr s') : InP n s'.1 s'.2 (tI (s'.1 3)) ∧ s'.2.1 = 0 := by
  have h := fr_in (r := r) (T := T) ht hn
  obtain ⟨u, e1, e2⟩ := bnd_inr he
  obtain ⟨r1, r2⟩ := i_first h (by rw [fr_0 (by omega) (by omega) (by omega), tz0]) (by rw [fr_0 (by omega) (by omega) (by omega), tz0]) e1
  have hb := r1.2.1.1.2.1
  exact i_lines n u.1 u.2 r1 (by omega) e2
theorem go_lines {E : EnQ} {G : Nat → Int → Int64} {T : Nat → Int} {n : Nat} {x y : Int} : ∀ (m : Nat) (D : Int → Int32) (t : TkS) (F : Nat → Int → Int32), MoR F T n D t → InP n D t (tI (D 3)) → (n : Int) ≤ t.2.1 + m →
    ∃ F1, (∀ d, 8 ≤ d + 1 → runP MP d 187 (120, [some (.ref 217), some (.int (zI x)), some (.int (zI y))], [], mk E F G) = runP MP d 187 (141, [some (.ref 217), some (.int (zI x)), some (.int (zI y))], [], mk E F1 G)) ∧ OuM F1 T n (pLines T n m D t) ∧ KpM F F1 := by
  intro m
  induction m with
  | zero =>
    intro D t F h hI hn
    have c : t.1 = 0 := Decidable.byContradiction fun z => by
      have := hI.2.1.2 z
      have := hI.2.1.1.2.2.2.1
      omega
    refine ⟨F, fun d hd => ?_, h, KpM.refl⟩
    obtain ⟨h1, h2, ⟨m1, m2, m3, m4⟩, h4, h5⟩ := h
    rw [q_187_120]; (try simp only [↓n_rd, ↓n_al, ↓n_cI, li_0, li_1, li_2, li_4, li_5, li_7, li_8, li_9, li_10, li_12, li_13, li_14, li_15, li_16, li_20, li_120, li_168, li_206, li_408, lj_0, lj_1, lj_2, lj_4, lj_5, lj_9, lj_10, lj_12, zJ_add, zJ_sub, zJ_mul, zJ_neg, zJ_l2i, zI_add, zI_sub, zI_mul, zI_neg, ↓Option.bind_some]); simp (disch := (first | assumption | exact tI_rg _ | omega | exact uR_at | exact row_ne hF (by decide) | exact row_ne (row_ne hF (by decide)) (by decide) | exact SnS_18 | exact SnS_30 | exact LdS_44 | exact LdS_46)) only [q_187_0, q_187_103, q_187_165, h4, m1, c, ↓n_rd, ↓n_al, ↓n_cI, li_0, li_1, li_2, li_4, li_5, li_7, li_8, li_9, li_10, li_12, li_13, li_14, li_15, li_16, li_20, li_120, li_168, li_206, li_408, lj_0, lj_1, lj_2, lj_4, lj_5, lj_9, lj_10, lj_12, zJ_add, zJ_sub, zJ_mul, zJ_neg, zJ_l2i, tJ_zJ, zI_add, zI_sub, zI_mul, zI_neg, ↓Option.bind_some, ↓g12_0, ↓g12_1, ↓g12_11, ↓g12_13, ↓g12_14, ↓g12_7, ↓p12_13, ↓p12_15, ↓p12_16, ↓p12_5, ↓p12_7, ↓p12_8, ↓p12_9, ↓al_218, ↓as_218, ↓al_219, ↓as_219, zIt2, uR_at, uR_ne, uR_uR, uC_uC, uC_at, ↓reduceIte, decide_eq_true_eq, leT, leF, ltT, ltF, eqT, eqF, ne_eq, not_true_eq_false, not_false_eq_true, Bool.false_eq_true, tI_zI]
  | succ m ih =>
    intro D t F h hI hn
    by_cases c : t.1 = 0
    · refine ⟨F, fun d hd => ?_, by unfold pLines; rw [if_pos c]; exact h, KpM.refl⟩
      obtain ⟨h1, h2, ⟨m1, m2, m3, m4⟩, h4, h5⟩ := h
      rw [q_187_120]; (try simp only [↓n_rd, ↓n_al, ↓n_cI, li_0, li_1, li_2, li_4, li_5, li_7, li_8, li_9, li_10, li_12, li_13, li_14, li_15, li_16, li_20, li_120, li_168, li_206, li_408, lj_0, lj_1, lj_2, lj_4, lj_5, lj_9, lj_10, lj_12, zJ_add, zJ_sub, zJ_mul, zJ_neg, zJ_l2i, zI_add, zI_sub, zI_mul, zI_neg, ↓Option.bind_some]); simp (disch := (first | assumption | exact tI_rg _ | omega | exact uR_at | exact row_ne hF (by decide) | exact row_ne (row_ne hF (by decide)) (by decide) | exact SnS_18 | exact SnS_30 | exact LdS_44 | exact LdS_46)) only [q_187_0, q_187_103, q_187_165, h4, m1, c, ↓n_rd, ↓n_al, ↓n_cI, li_0, li_1, li_2, li_4, li_5, li_7, li_8, li_9, li_10, li_12, li_13, li_14, li_15, li_16, li_20, li_120, li_168, li_206, li_408, lj_0, lj_1, lj_2, lj_4, lj_5, lj_9, lj_10, lj_12, zJ_add, zJ_sub, zJ_mul, zJ_neg, zJ_l2i, tJ_zJ, zI_add, zI_sub, zI_mul, zI_neg, ↓Option.bind_some, ↓g12_0, ↓g12_1, ↓g12_11, ↓g12_13, ↓g12_14, ↓g12_7, ↓p12_13, ↓p12_15, ↓p12_16, ↓p12_5, ↓p12_7, ↓p12_8, ↓p12_9, ↓al_218, ↓as_218, ↓al_219, ↓as_219, zIt2, uR_at, uR_ne, uR_uR, uC_uC, uC_at, ↓reduceIte, decide_eq_true_eq, leT, leF, ltT, ltF, eqT, eqF, ne_eq, not_true_eq_false, not_false_eq_true, Bool.false_eq_true, tI_zI]
    · have t1 := hI.2.1.1.1
      obtain ⟨F1, c1, r1, k1⟩ := go_199 (E := E) (G := G) h hI
      have e : pLines T n (m + 1) D t = bnd (pLine T n D t) (fun s => pLines T n m s.1 s.2) := if_neg c
      rw [e]
      have hrun : ∀ d, 8 ≤ d + 1 → runP MP d 187 (120, [some (.ref 217), some (.int (zI x)), some (.int (zI y))], [], mk E F G) = runP MP d 187 (120, [some (.ref 217), some (.int (zI x)), some (.int (zI y))], [], mk E F1 G) := fun d hd => by
        obtain ⟨h1, h2, ⟨m1, m2, m3, m4⟩, h4, h5⟩ := h
        rw [q_187_120]; (try simp only [↓n_rd, ↓n_al, ↓n_cI, li_0, li_1, li_2, li_4, li_5, li_7, li_8, li_9, li_10, li_12, li_13, li_14, li_15, li_16, li_20, li_120, li_168, li_206, li_408, lj_0, lj_1, lj_2, lj_4, lj_5, lj_9, lj_10, lj_12, zJ_add, zJ_sub, zJ_mul, zJ_neg, zJ_l2i, zI_add, zI_sub, zI_mul, zI_neg, ↓Option.bind_some]); simp (disch := (first | assumption | exact tI_rg _ | omega | exact uR_at | exact row_ne hF (by decide) | exact row_ne (row_ne hF (by decide)) (by decide) | exact SnS_18 | exact SnS_30 | exact LdS_44 | exact LdS_46)) only [q_187_0, q_187_103, q_187_165, h4, m1, ↓ctV c1, ↓n_rd, ↓n_al, ↓n_cI, li_0, li_1, li_2, li_4, li_5, li_7, li_8, li_9, li_10, li_12, li_13, li_14, li_15, li_16, li_20, li_120, li_168, li_206, li_408, lj_0, lj_1, lj_2, lj_4, lj_5, lj_9, lj_10, lj_12, zJ_add, zJ_sub, zJ_mul, zJ_neg, zJ_l2i, tJ_zJ, zI_add, zI_sub, zI_mul, zI_neg, ↓Option.bind_some, ↓g12_0, ↓g12_1, ↓g12_11, ↓g12_13, ↓g12_14, ↓g12_7, ↓p12_13, ↓p12_15, ↓p12_16, ↓p12_5, ↓p12_7, ↓p12_8, ↓p12_9, ↓al_218, ↓as_218, ↓al_219, ↓as_219, zIt2, uR_at, uR_ne, uR_uR, uC_uC, uC_at, ↓reduceIte, decide_eq_true_eq, leT, leF, ltT, ltF, eqT, eqF, ne_eq, not_true_eq_false, not_false_eq_true, Bool.false_eq_true, tI_zI]
      cases hx : pLine T n D t with
      | inl f =>
        rw [hx] at r1
        refine ⟨F1, fun d hd => (hrun d hd).trans ?_, r1, k1⟩
        obtain ⟨b1, b2, b3, b4⟩ := (show BaM F1 f from r1)
        rw [q_187_120]; (try simp only [↓n_rd, ↓n_al, ↓n_cI, li_0, li_1, li_2, li_4, li_5, li_7, li_8, li_9, li_10, li_12, li_13, li_14, li_15, li_16, li_20, li_120, li_168, li_206, li_408, lj_0, lj_1, lj_2, lj_4, lj_5, lj_9, lj_10, lj_12, zJ_add, zJ_sub, zJ_mul, zJ_neg, zJ_l2i, zI_add, zI_sub, zI_mul, zI_neg, ↓Option.bind_some]); simp (disch := (first | assumption | exact tI_rg _ | omega | exact uR_at | exact row_ne hF (by decide) | exact row_ne (row_ne hF (by decide)) (by decide) | exact SnS_18 | exact SnS_30 | exact LdS_44 | exact LdS_46)) only [q_187_0, q_187_103, q_187_165, b1, ↓n_rd, ↓n_al, ↓n_cI, li_0, li_1, li_2, li_4, li_5, li_7, li_8, li_9, li_10, li_12, li_13, li_14, li_15, li_16, li_20, li_120, li_168, li_206, li_408, lj_0, lj_1, lj_2, lj_4, lj_5, lj_9, lj_10, lj_12, zJ_add, zJ_sub, zJ_mul, zJ_neg, zJ_l2i, tJ_zJ, zI_add, zI_sub, zI_mul, zI_neg, ↓Option.bind_some, ↓g12_0, ↓g12_1, ↓g12_11, ↓g12_13, ↓g12_14, ↓g12_7, ↓p12_13, ↓p12_15, ↓p12_16, ↓p12_5, ↓p12_7, ↓p12_8, ↓p12_9, ↓al_218, ↓as_218, ↓al_219, ↓as_219, zIt2, uR_at, uR_ne, uR_uR, uC_uC, uC_at, ↓reduceIte, decide_eq_true_eq, leT, leF, ltT, ltF, eqT, eqF, ne_eq, not_true_eq_false, not_false_eq_true, Bool.false_eq_true, tI_zI]
      | inr s =>
        rw [hx] at r1
        obtain ⟨i1, i2⟩ := i_line hI hx
        obtain ⟨F2, c2, r2, k2⟩ := ih s.1 s.2 F1 r1 i1 (by omega)
        exact ⟨F2, fun d hd => (hrun d hd).trans (c2 d hd), r2, k1.tr k2⟩
theorem go_first {E : EnQ} {F : Nat → Int → Int32} {G : Nat → Int → Int64} {T : Nat → Int} {n : Nat} {D : Int → Int32} {t : TkS} {x y : Int} (h : MoR F T n D t) (hI : InP n D t 0) (hD : tI (D 2) = 0 ∧ tI (D 3) = 0) :
    ∃ F1, (∀ d, 8 ≤ d + 1 → ∀ {kk : HeapP → ResP} , (∀ h, kk h = runP MP d 187 (120, [some (.ref 217), some (.int (zI x)), some (.int (zI y))], [], h)) → (cI (callP MP d 194 [.ref 217, .ref (1 + 0)] (mk E F G)) (fun q7 h6 => (if decide (q7 ≠ 0) = true then runP MP d 187 (103, [some (.ref 217), some (.int (zI x)), some (.int (zI y))], [], h6) else (cV (callP MP d 196 [.ref 217, .int 2] h6) (fun h8 => runP MP d 187 (103, [some (.ref 217), some (.int (zI x)), some (.int (zI y))], [], h8)) thruP))) thruP) = kk (mk E F1 G)) ∧ OuM F1 T n (pFirst T n D t) ∧ KpM F F1 := by
  have ht := hI.2.1.1
  have ht2 := (av_inv (T := T) ht).1.1
  have hx : ∀ s, (if isW T 0 t = true then pOne T n 1 1 10 (D, av T n t) else .inl (flt t 2) : PrR) = .inr s → ∃ w, InP n s.1 s.2 w := fun s hs => by
    obtain ⟨q1, q2, q3, q4⟩ := (InP_av (T := T) hI).1
    by_cases w1 : isW T 0 t = true
    · rw [if_pos w1] at hs
      unfold pOne at hs
      by_cases c : nmZ (av T n t) 1 10 = 0
      · rw [if_pos (show nmZ ((D, av T n t) : PrS).2 1 10 = 0 from c)] at hs
        cases hs
        obtain ⟨n1, n2, n3⟩ := nm_0 c
        obtain ⟨a, b2, -⟩ := av_st (T := T) q2
        exact ⟨0, PaJ_places q1 hD.1 hD.2 ⟨n2, n3⟩, a, by show tI (uC D 1 (zI (av T n t).2.2.2) 0) ≤ (av T n (av T n t)).2.1; rw [uC_ne (by decide)]; omega, q4⟩
      · rw [if_neg (show ¬ nmZ ((D, av T n t) : PrS).2 1 10 = 0 from c)] at hs; cases hs
    · rw [if_neg w1] at hs; cases hs
  by_cases w1 : isW T 0 t = true
  · obtain ⟨F0, g0, q0, k0⟩ := go_194t (E := E) (G := G) h ht (k := 0) (by omega) w1
    obtain ⟨F1, v, c1, v1, p1, r1, k1⟩ := go_one (E := E) (G := G) (i := 1) (lo := 1) (up := 10) q0 ht2 (by omega) (by omega)
    rw [← show (if isW T 0 t = true then pOne T n 1 1 10 (D, av T n t) else .inl (flt t 2) : PrR) = _ from if_pos w1] at r1
    obtain ⟨F2, c2, r2, k2⟩ := fin_198 (E := E) (G := G) r1 hx
    refine ⟨F2, fun d hd kk hk => ?_, r2, (k0.tr k1).tr (KpM_9.tr k2)⟩
    rw [hk]
    simp (disch := omega) only [n_cI, li_1, ↓ctT g0]
    rw [if_pos (by decide)]
    rw [q_187_103]; (try simp only [↓n_rd, ↓n_al, ↓n_cI, li_0, li_1, li_2, li_4, li_5, li_7, li_8, li_9, li_10, li_12, li_13, li_14, li_15, li_16, li_20, li_120, li_168, li_206, li_408, lj_0, lj_1, lj_2, lj_4, lj_5, lj_9, lj_10, lj_12, zJ_add, zJ_sub, zJ_mul, zJ_neg, zJ_l2i, zI_add, zI_sub, zI_mul, zI_neg, ↓Option.bind_some]); simp (disch := (first | assumption | exact tI_rg _ | omega | exact uR_at | exact row_ne hF (by decide) | exact row_ne (row_ne hF (by decide)) (by decide) | exact SnS_18 | exact SnS_30 | exact LdS_44 | exact LdS_46)) only [q_187_0, q_187_141, q_187_165, ↓ctT c1, p1, ↓ctV c2, ↓n_rd, ↓n_al, ↓n_cI, li_0, li_1, li_2, li_4, li_5, li_7, li_8, li_9, li_10, li_12, li_13, li_14, li_15, li_16, li_20, li_120, li_168, li_206, li_408, lj_0, lj_1, lj_2, lj_4, lj_5, lj_9, lj_10, lj_12, zJ_add, zJ_sub, zJ_mul, zJ_neg, zJ_l2i, tJ_zJ, zI_add, zI_sub, zI_mul, zI_neg, ↓Option.bind_some, ↓g12_0, ↓g12_1, ↓g12_11, ↓g12_13, ↓g12_14, ↓g12_7, ↓p12_13, ↓p12_15, ↓p12_16, ↓p12_5, ↓p12_7, ↓p12_8, ↓p12_9, ↓al_218, ↓as_218, ↓al_219, ↓as_219, zIt2, uR_at, uR_ne, uR_uR, uC_uC, uC_at, ↓reduceIte, decide_eq_true_eq, leT, leF, ltT, ltF, eqT, eqF, ne_eq, not_true_eq_false, not_false_eq_true, Bool.false_eq_true, tI_zI]
  · have g0 := go_194f (E := E) (G := G) h ht (k := 0) (by omega) w1
    obtain ⟨F1, c1, r1, p1, k1⟩ := go_196 (E := E) (G := G) h ht (y := 2) (by omega)
    have g2 := go_197b (E := E) (G := G) r1 (lo := 1) (up := 10) (by omega) (by omega)
    have r3 : OuM (uR F1 219 (uC D 1 (zI 1))) T n (.inl (flt t 2)) := BaM_9 r1
    rw [← show (if isW T 0 t = true then pOne T n 1 1 10 (D, av T n t) else .inl (flt t 2) : PrR) = _ from if_neg w1] at r3
    obtain ⟨F2, c2, r2, k2⟩ := fin_198 (E := E) (G := G) r3 hx
    refine ⟨F2, fun d hd kk hk => ?_, r2, k1.tr (KpM_9.tr k2)⟩
    rw [hk]
    simp (disch := omega) only [n_cI, li_2, ↓ctT g0]
    rw [if_neg (by decide), ctV c1 (by omega)]
    rw [q_187_103]; (try simp only [↓n_rd, ↓n_al, ↓n_cI, li_0, li_1, li_2, li_4, li_5, li_7, li_8, li_9, li_10, li_12, li_13, li_14, li_15, li_16, li_20, li_120, li_168, li_206, li_408, lj_0, lj_1, lj_2, lj_4, lj_5, lj_9, lj_10, lj_12, zJ_add, zJ_sub, zJ_mul, zJ_neg, zJ_l2i, zI_add, zI_sub, zI_mul, zI_neg, ↓Option.bind_some]); simp (disch := (first | assumption | exact tI_rg _ | omega | exact uR_at | exact row_ne hF (by decide) | exact row_ne (row_ne hF (by decide)) (by decide) | exact SnS_18 | exact SnS_30 | exact LdS_44 | exact LdS_46)) only [q_187_0, q_187_141, q_187_165, ↓ctT g2, p1, ↓ctV c2, ↓n_rd, ↓n_al, ↓n_cI, li_0, li_1, li_2, li_4, li_5, li_7, li_8, li_9, li_10, li_12, li_13, li_14, li_15, li_16, li_20, li_120, li_168, li_206, li_408, lj_0, lj_1, lj_2, lj_4, lj_5, lj_9, lj_10, lj_12, zJ_add, zJ_sub, zJ_mul, zJ_neg, zJ_l2i, tJ_zJ, zI_add, zI_sub, zI_mul, zI_neg, ↓Option.bind_some, ↓g12_0, ↓g12_1, ↓g12_11, ↓g12_13, ↓g12_14, ↓g12_7, ↓p12_13, ↓p12_15, ↓p12_16, ↓p12_5, ↓p12_7, ↓p12_8, ↓p12_9, ↓al_218, ↓as_218, ↓al_219, ↓as_219, zIt2, uR_at, uR_ne, uR_uR, uC_uC, uC_at, ↓reduceIte, decide_eq_true_eq, leT, leF, ltT, ltF, eqT, eqF, ne_eq, not_true_eq_false, not_false_eq_true, Bool.false_eq_true, tI_zI]
end S94zzq
