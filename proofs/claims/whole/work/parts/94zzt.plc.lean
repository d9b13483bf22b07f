/-! CLASS: reading a plain -/
section S94zzt
set_option linter.unusedVariables false
set_option linter.unusedSimpArgs false
def PlW (F : Nat → Int → Int32) (p : Nat) (D : Int → Int32) : Prop := PlR F p D ∧ F p 4 = D 4 ∧ (∀ x, 0 ≤ x → x < 4 → F (p + 3) x = D (38 + 2 * x)) ∧ (∀ a b, 0 ≤ a → a < 10 → 0 ≤ b → b < 10 → F (p + 2) (10 * a + b) = zI (wayZ D a b))
def RdE (E : EnQ) (a p : Nat) : Prop := shx E a = (1, 3, 0) ∧ rfQ E a 0 = 17 ∧ PlS E p ∧ 17 < a ∧ 17 < p ∧ (a < p ∨ p + 5 < a)
def RdR (F : Nat → Int → Int32) (T : Nat → Int) (n a p : Nat) (D : Int → Int32) (t : TkS) : Prop := TxR F T n ∧ (F a 1 = zI n ∧ F a 6 = zI 0 ∧ F a 7 = zI (-1)) ∧ RdT (F a) t ∧ PlW F p D
def KpR (a p : Nat) (F F1 : Nat → Int → Int32) : Prop := ∀ q, q ≠ a → ¬ (p ≤ q ∧ q ≤ p + 5) → F1 q = F q
def BaR (F : Nat → Int → Int32) (a : Nat) (f : Int × Int) : Prop := F a 6 = zI f.1 ∧ F a 7 = zI f.2 ∧ 1 ≤ f.1 ∧ f.1 ≤ 4
def OuR (F : Nat → Int → Int32) (T : Nat → Int) (n a p : Nat) (x : PrR) : Prop := match x with
  | .inl f => BaR F a f
  | .inr s => RdR F T n a p s.1 s.2
def rtZ (x : PrR) : Int := match x with
  | .inl _ => 0
  | .inr _ => 1
theorem KpR.tr {a p : Nat} {F F1 F2 : Nat → Int → Int32} (h : KpR a p F F1) (k : KpR a p F1 F2) : KpR a p F F2 := fun q h1 h2 => (k q h1 h2).trans (h q h1 h2)
theorem KpR.refl {a p : Nat} {F : Nat → Int → Int32} : KpR a p F F := fun _ _ _ => rfl
theorem KpR_a {a p : Nat} {F : Nat → Int → Int32} {X : Int → Int32} : KpR a p F (uR F a X) := fun q h1 h2 => uR_ne h1
theorem KpR_p {a p k : Nat} {F : Nat → Int → Int32} {X : Int → Int32} (hk : k ≤ 5) : KpR a p F (uR F (p + k) X) := fun q h1 h2 => uR_ne (by omega)
theorem wayZ_c {D D' : Int → Int32} (hA : 0 ≤ tI (D 2) ∧ tI (D 2) ≤ 16) (h2 : D' 2 = D 2) (hk : ∀ k, 6 ≤ k → k < 38 → D' k = D k) (x y : Int) : wayZ D' x y = wayZ D x y := by
  have hp : pathZ D' x y = pathZ D x y := by
    unfold pathZ
    rw [h2]
    refine fndN_congr (fun i _ hi => ?_)
    unfold isP
    rw [hk _ (by omega) (by omega), hk _ (by omega) (by omega)]
  have hr := fndN_rg (isP D x y) (tI (D 2)).toNat 0
  have he : pathZ D x y = fndN (isP D x y) (tI (D 2)).toNat 0 := rfl
  unfold wayZ
  rw [hp]
  by_cases c : pathZ D x y = -1
  · rw [if_pos c, if_pos c]
  · rw [if_neg c, if_neg c, hk _ (by omega) (by omega)]
theorem PlW_a {F : Nat → Int → Int32} {a p : Nat} {D X : Int → Int32} (h : PlW F p D) (ha : a < p ∨ p + 5 < a) : PlW (uR F a X) p D := by
  unfold PlW PlR at *
  rw [uR_ne (show p ≠ a by omega), uR_ne (show p + 1 ≠ a by omega), uR_ne (show p + 2 ≠ a by omega), uR_ne (show p + 3 ≠ a by omega), uR_ne (show p + 4 ≠ a by omega), uR_ne (show p + 5 ≠ a by omega)]
  exact h
theorem RdR_p {F F1 : Nat → Int → Int32} {T : Nat → Int} {n a p : Nat} {D D' : Int → Int32} {t : TkS} (h : RdR F T n a p D t) (h17 : F1 17 = F 17) (ha : F1 a = F a) (hp : PlW F1 p D') : RdR F1 T n a p D' t := by
  obtain ⟨h1, h2, h3, h4⟩ := h
  exact ⟨⟨h1.1, fun j hj => by rw [h17]; exact h1.2 j hj⟩, by rw [ha]; exact h2, by rw [ha]; exact h3, hp⟩
theorem PlW_one {F : Nat → Int → Int32} {p : Nat} {D : Int → Int32} {i k : Int} {v : Int} (h : PlW F p D) (hA : 0 ≤ tI (D 2) ∧ tI (D 2) ≤ 16) (hi : (i = 0 ∧ k = 0) ∨ (i = 1 ∧ k = 1 ∧ 1 ≤ v ∧ v ≤ 10) ∨ (i = 4 ∧ k = 4) ∨ (i = 168 ∧ k = 5) ∨ (i = 166 ∧ k = 6) ∨ (i = 167 ∧ k = 7)) : PlW (uR F p (uC (F p) k (zI v))) p (uC D i (zI v)) := by
  obtain ⟨⟨⟨a0, a1, a2, a3, a5, a6, a7⟩, b1, b2, b4, b5⟩, c4, c3, cw⟩ := h
  have hw : ∀ x y, wayZ (uC D i (zI v)) x y = wayZ D x y := wayZ_c hA (uC_ne (by omega)) (fun k k1 k2 => uC_ne (by omega))
  have e2 : uC D i (zI v) 2 = D 2 := uC_ne (by omega)
  have e3 : uC D i (zI v) 3 = D 3 := uC_ne (by omega)
  have key : ∀ j m : Int, F p m = D j → (i = j ↔ k = m) → uR F p (uC (F p) k (zI v)) p m = uC D i (zI v) j := fun j m e q => by
    rw [uR_at]
    by_cases z : k = m
    · rw [← z, ← q.mpr z, uC_at, uC_at]
    · rw [uC_ne (fun y => z y.symm), uC_ne (fun y => z (q.mp y.symm)), e]
  have r1 : uR F p (uC (F p) k (zI v)) (p + 1) = F (p + 1) := uR_ne (by omega)
  have r2 : uR F p (uC (F p) k (zI v)) (p + 2) = F (p + 2) := uR_ne (by omega)
  have r3 : uR F p (uC (F p) k (zI v)) (p + 3) = F (p + 3) := uR_ne (by omega)
  have r4 : uR F p (uC (F p) k (zI v)) (p + 4) = F (p + 4) := uR_ne (by omega)
  have r5 : uR F p (uC (F p) k (zI v)) (p + 5) = F (p + 5) := uR_ne (by omega)
  have cw' : ∀ a b, 0 ≤ a → a < 10 → 0 ≤ b → b < 10 → uR F p (uC (F p) k (zI v)) (p + 2) (10 * a + b) = zI (wayZ (uC D i (zI v)) a b) := fun a b z1 z2 z3 z4 => by rw [r2, hw]; exact cw a b z1 z2 z3 z4
  refine ⟨⟨⟨key 0 0 a0 (by omega), key 1 1 a1 (by omega), key 2 2 a2 (by omega), key 3 3 a3 (by omega), key 168 5 a5 (by omega), key 166 6 a6 (by omega), key 167 7 a7 (by omega)⟩, fun j j1 j2 => ?_, fun x y x1 x2 y1 y2 => ?_, fun x x1 x2 => ?_, fun x j x1 x2 j1 j2 => ?_⟩, key 4 4 c4 (by omega), fun x x1 x2 => ?_, cw'⟩
  · rw [e2] at j2
    rw [r1, uC_ne (by omega)]; exact b1 j j1 j2
  · by_cases z : i = 1
    · rw [z, uC_at, tI_zI (by omega)] at x2 y2
      exact cw' x y x1 (by omega) y1 (by omega)
    · rw [uC_ne (fun y => z y.symm)] at x2 y2
      rw [r2, hw]; exact b2 x y x1 x2 y1 y2
  · rw [r4, uC_ne (by omega)]; exact b4 x x1 x2
  · rw [uC_ne (by omega)] at j2
    rw [r5]
    by_cases z : 171 + 9 * x + j = i
    · exfalso; omega
    · rw [uC_ne z]; exact b5 x j x1 x2 j1 j2
  · rw [r3]
    by_cases z : 38 + 2 * x = i
    · exfalso; omega
    · rw [uC_ne z]; exact c3 x x1 x2
theorem go_38 {E : EnQ} {F : Nat → Int → Int32} {G : Nat → Int → Int64} {T : Nat → Int} {n a p : Nat} {D : Int → Int32} {t : TkS} (hE : RdE E a p) (h : RdR F T n a p D t) (ht : TkI n t) : ∃ F1, CtP MP 3 38 [.ref a] (mk E F G) (Sum.inl none) (mk E F1 G) ∧ RdR F1 T n a p D (av T n t) ∧ KpR a p F F1 := by
  obtain ⟨g1, g2, g3, g4, g5, g6⟩ := hE
  obtain ⟨h1, h2, ⟨m1, m2, m3, m4⟩, h4⟩ := h
  have hF : F a = tkR (F a) (t.1, t.2.1, t.2.2.1, tI (F a 5)) := tk_is m1 m2 m3 (zI_tI _).symm (fun j _ => rfl)
  have ht2 : TkI n (t.1, t.2.1, t.2.2.1, tI (F a 5)) := ⟨ht.1, ht.2.1, ht.2.2.1, ht.2.2.2.1, (tI_rg _).1, (tI_rg _).2⟩
  have e : av T n t = nzT (adv T n (t.1, t.2.1, t.2.2.1, tI (F a 5))) := adv_end rfl
  refine ⟨_, fun d hd => ct_38 g1 g2 (by omega) h1 h2.1 ht2 hF hd, ?_, KpR_a⟩
  rw [e]
  generalize adv T n (t.1, t.2.1, t.2.2.1, tI (F a 5)) = s
  obtain ⟨a1, a2, a3, a4⟩ := tk_at (r := F a) (t := s)
  refine ⟨⟨h1.1, fun j hj => by rw [uR_ne (by omega)]; exact h1.2 j hj⟩, ⟨by rw [uR_at, tkg1]; exact h2.1, by rw [uR_at, tkg6]; exact h2.2.1, by rw [uR_at, tkg7]; exact h2.2.2⟩, ?_, PlW_a h4 g6⟩
  rw [uR_at]
  refine ⟨a1, a2, a3, fun z => ?_⟩
  have z2 : s.1 = 2 := z
  show tkR (F a) s 5 = zI (if s.1 = 2 then s.2.2.2 else 0)
  rw [if_pos z2, a4]
theorem go_44 {E : EnQ} {F : Nat → Int → Int32} {G : Nat → Int → Int64} {T : Nat → Int} {n a p : Nat} {D : Int → Int32} {t : TkS} (hE : RdE E a p) (h : RdR F T n a p D t) (ht : TkI n t) {y : Int} (hy : 1 ≤ y ∧ y ≤ 4) : ∃ F1, CtP MP 1 44 [.ref a, .int (zI y)] (mk E F G) (Sum.inl (some (.int (zI 0)))) (mk E F1 G) ∧ BaR F1 a (flt t y) ∧ KpR a p F F1 := by
  obtain ⟨hs, g2, g3, g4, g5, g6⟩ := hE
  obtain ⟨h1, h2, ⟨m1, m2, m3, m4⟩, h4⟩ := h
  have t1 := ht.1
  refine ⟨uR F a (uC (uC (F a) 6 (zI (flt t y).1)) 7 (zI (flt t y).2)), fun d hd => ?_, ⟨?_, ?_, ?_, ?_⟩, KpR_a⟩
  · unfold flt
    refine into (D := 0) (by omega) hM_44 (rcv_mk hs (by decide)) rfl fun d hd => ?_
    show runP MP d 44 (0, [some (.ref a), some (.int (zI y))], [], _) = _
    by_cases c : t.1 = 4
    · rw [if_pos c]
      rw [q_44_0]; (try simp only [↓n_rd, li_0, li_1, li_2, li_3, li_4, li_6, li_7, li_14, zI_add, zI_sub, zI_mul, zI_neg, ↓Option.bind_some]); simp (disch := (first | assumption | exact tI_rg _ | omega | exact uR_at | exact row_ne hF (by decide) | exact row_ne (row_ne hF (by decide)) (by decide) | exact SnS_18 | exact SnS_30 | exact LdS_44 | exact LdS_46)) only [q_44_14, m1, m2, c, uC_ne (show (3 : Int) ≠ 6 by decide), ↓n_rd, retZ_z, li_0, li_1, li_2, li_3, li_4, li_6, li_7, li_14, zI_add, zI_sub, zI_mul, zI_neg, ↓Option.bind_some, ↓g3_2, ↓g3_3, ↓p3_6, ↓p3_7, zIt2, uR_at, uR_ne, uR_uR, uC_uC, uC_at, ↓reduceIte, decide_eq_true_eq, leT, leF, ltT, ltF, eqT, eqF, ne_eq, not_true_eq_false, not_false_eq_true, Bool.false_eq_true, tI_zI]
    · rw [if_neg c]
      rw [q_44_0]; (try simp only [↓n_rd, li_0, li_1, li_2, li_3, li_4, li_6, li_7, li_14, zI_add, zI_sub, zI_mul, zI_neg, ↓Option.bind_some]); simp (disch := (first | assumption | exact tI_rg _ | omega | exact uR_at | exact row_ne hF (by decide) | exact row_ne (row_ne hF (by decide)) (by decide) | exact SnS_18 | exact SnS_30 | exact LdS_44 | exact LdS_46)) only [q_44_14, m1, m2, uC_ne (show (3 : Int) ≠ 6 by decide), ↓n_rd, retZ_z, li_0, li_1, li_2, li_3, li_4, li_6, li_7, li_14, zI_add, zI_sub, zI_mul, zI_neg, ↓Option.bind_some, ↓g3_2, ↓g3_3, ↓p3_6, ↓p3_7, zIt2, uR_at, uR_ne, uR_uR, uC_uC, uC_at, ↓reduceIte, decide_eq_true_eq, leT, leF, ltT, ltF, eqT, eqF, ne_eq, not_true_eq_false, not_false_eq_true, Bool.false_eq_true, tI_zI]
  · rw [uR_at, uC_ne (by decide), uC_at]
  · rw [uR_at, uC_at]
  · unfold flt; show 1 ≤ if t.1 = 4 then (1 : Int) else y; split <;> omega
  · unfold flt; show (if t.1 = 4 then (1 : Int) else y) ≤ 4; split <;> omega
theorem go_45t {E : EnQ} {F : Nat → Int → Int32} {G : Nat → Int → Int64} {T : Nat → Int} {n a p : Nat} {D : Int → Int32} {t : TkS} (hE : RdE E a p) (h : RdR F T n a p D t) (ht : TkI n t) {lo up : Int} (hl : -2147483648 ≤ lo ∧ lo ≤ 2147483647) (hu : -2147483648 ≤ up ∧ up ≤ 2147483647) (hn : nmZ t lo up = 0) : CtP MP 2 45 [.ref a, .int (zI lo), .int (zI up)] (mk E F G) (Sum.inl (some (.int (zI 1)))) (mk E F G) := fun d hd => by
  obtain ⟨hs, g2, g3, g4, g5, g6⟩ := hE
  obtain ⟨h1, h2, ⟨m1, m2, m3, m4⟩, h4⟩ := h
  obtain ⟨n1, n2, n3⟩ := nm_0 hn
  have m5 := m4 n1
  have tr := ht.2.2.2.2
  refine into (D := 1) (by omega) hM_45 (rcv_mk hs (by decide)) rfl fun d hd => ?_
  show runP MP d 45 (0, [some (.ref a), some (.int (zI lo)), some (.int (zI up))], [], _) = _
  rw [q_45_0]; (try simp only [↓n_rd, ↓n_cI, li_0, li_1, li_2, li_3, li_5, li_30, li_38, zI_add, zI_sub, zI_mul, zI_neg, ↓Option.bind_some]); simp (disch := (first | assumption | exact tI_rg _ | omega | exact uR_at | exact row_ne hF (by decide) | exact row_ne (row_ne hF (by decide)) (by decide) | exact SnS_18 | exact SnS_30 | exact LdS_44 | exact LdS_46)) only [q_45_30, q_45_38, q_45_43, m1, m5, n1, ↓n_rd, ↓n_cI, retZ_z, li_0, li_1, li_2, li_3, li_5, li_30, li_38, zI_add, zI_sub, zI_mul, zI_neg, ↓Option.bind_some, ↓g3_2, ↓g3_5, zIt2, uR_at, uR_ne, uR_uR, uC_uC, uC_at, ↓reduceIte, decide_eq_true_eq, leT, leF, ltT, ltF, eqT, eqF, ne_eq, not_true_eq_false, not_false_eq_true, Bool.false_eq_true, tI_zI]
theorem go_45f {E : EnQ} {F : Nat → Int → Int32} {G : Nat → Int → Int64} {T : Nat → Int} {n a p : Nat} {D : Int → Int32} {t : TkS} (hE : RdE E a p) (h : RdR F T n a p D t) (ht : TkI n t) {lo up : Int} (hl : -2147483648 ≤ lo ∧ lo ≤ 2147483647) (hu : -2147483648 ≤ up ∧ up ≤ 2147483647) (hn : nmZ t lo up ≠ 0) : ∃ F1, CtP MP 2 45 [.ref a, .int (zI lo), .int (zI up)] (mk E F G) (Sum.inl (some (.int (zI 0)))) (mk E F1 G) ∧ BaR F1 a (flt t (nmZ t lo up)) ∧ KpR a p F F1 := by
  have hs := hE.1
  have tr := ht.2.2.2.2
  have t1 := ht.1
  by_cases c : t.1 = 2
  · have e : nmZ t lo up = 3 := by
      unfold nmZ at hn ⊢
      rw [if_pos c] at hn ⊢
      by_cases g : lo ≤ t.2.2.2 ∧ t.2.2.2 ≤ up
      · rw [if_pos g] at hn; exact absurd rfl hn
      · rw [if_neg g]
    have g : ¬ (lo ≤ t.2.2.2 ∧ t.2.2.2 ≤ up) := fun z => by
      unfold nmZ at hn; rw [if_pos c, if_pos z] at hn; exact hn rfl
    rw [e]
    obtain ⟨F1, c1, r1, k1⟩ := go_44 (G := G) hE h ht (y := 3) (by omega)
    obtain ⟨h1, h2, ⟨m1, m2, m3, m4⟩, h4⟩ := h
    have m5 := m4 c
    refine ⟨F1, fun d hd => ?_, r1, k1⟩
    refine into (D := 1) (by omega) hM_45 (rcv_mk hs (by decide)) rfl fun d hd => ?_
    show runP MP d 45 (0, [some (.ref a), some (.int (zI lo)), some (.int (zI up))], [], _) = _
    by_cases z : t.2.2.2 < lo
    · rw [q_45_0]; (try simp only [↓n_rd, ↓n_cI, li_0, li_1, li_2, li_3, li_5, li_30, li_38, zI_add, zI_sub, zI_mul, zI_neg, ↓Option.bind_some]); simp (disch := (first | assumption | exact tI_rg _ | omega | exact uR_at | exact row_ne hF (by decide) | exact row_ne (row_ne hF (by decide)) (by decide) | exact SnS_18 | exact SnS_30 | exact LdS_44 | exact LdS_46)) only [q_45_30, q_45_38, q_45_43, m1, m5, c, ↓ctT c1, ↓n_rd, ↓n_cI, retZ_z, li_0, li_1, li_2, li_3, li_5, li_30, li_38, zI_add, zI_sub, zI_mul, zI_neg, ↓Option.bind_some, ↓g3_2, ↓g3_5, zIt2, uR_at, uR_ne, uR_uR, uC_uC, uC_at, ↓reduceIte, decide_eq_true_eq, leT, leF, ltT, ltF, eqT, eqF, ne_eq, not_true_eq_false, not_false_eq_true, Bool.false_eq_true, tI_zI]
    · rw [q_45_0]; (try simp only [↓n_rd, ↓n_cI, li_0, li_1, li_2, li_3, li_5, li_30, li_38, zI_add, zI_sub, zI_mul, zI_neg, ↓Option.bind_some]); simp (disch := (first | assumption | exact tI_rg _ | omega | exact uR_at | exact row_ne hF (by decide) | exact row_ne (row_ne hF (by decide)) (by decide) | exact SnS_18 | exact SnS_30 | exact LdS_44 | exact LdS_46)) only [q_45_30, q_45_38, q_45_43, m1, m5, c, ↓ctT c1, ↓n_rd, ↓n_cI, retZ_z, li_0, li_1, li_2, li_3, li_5, li_30, li_38, zI_add, zI_sub, zI_mul, zI_neg, ↓Option.bind_some, ↓g3_2, ↓g3_5, zIt2, uR_at, uR_ne, uR_uR, uC_uC, uC_at, ↓reduceIte, decide_eq_true_eq, leT, leF, ltT, ltF, eqT, eqF, ne_eq, not_true_eq_false, not_false_eq_true, Bool.false_eq_true, tI_zI]
  · have e : nmZ t lo up = 2 := by unfold nmZ; rw [if_neg c]
    rw [e]
    obtain ⟨F1, c1, r1, k1⟩ := go_44 (G := G) hE h ht (y := 2) (by omega)
    obtain ⟨h1, h2, ⟨m1, m2, m3, m4⟩, h4⟩ := h
    refine ⟨F1, fun d hd => ?_, r1, k1⟩
    refine into (D := 1) (by omega) hM_45 (rcv_mk hs (by decide)) rfl fun d hd => ?_
    show runP MP d 45 (0, [some (.ref a), some (.int (zI lo)), some (.int (zI up))], [], _) = _
    rw [q_45_0]; (try simp only [↓n_rd, ↓n_cI, li_0, li_1, li_2, li_3, li_5, li_30, li_38, zI_add, zI_sub, zI_mul, zI_neg, ↓Option.bind_some]); simp (disch := (first | assumption | exact tI_rg _ | omega | exact uR_at | exact row_ne hF (by decide) | exact row_ne (row_ne hF (by decide)) (by decide) | exact SnS_18 | exact SnS_30 | exact LdS_44 | exact LdS_46)) only [q_45_30, q_45_38, q_45_43, m1, ↓ctT c1, ↓n_rd, ↓n_cI, retZ_z, li_0, li_1, li_2, li_3, li_5, li_30, li_38, zI_add, zI_sub, zI_mul, zI_neg, ↓Option.bind_some, ↓g3_2, ↓g3_5, zIt2, uR_at, uR_ne, uR_uR, uC_uC, uC_at, ↓reduceIte, decide_eq_true_eq, leT, leF, ltT, ltF, eqT, eqF, ne_eq, not_true_eq_false, not_false_eq_true, Bool.false_eq_true, tI_zI]
theorem go_43t {E : EnQ} {F : Nat → Int → Int32} {G : Nat → Int → Int64} {T : Nat → Int} {n a p : Nat} {D : Int → Int32} {t : TkS} (hE : RdE E a p) (h : RdR F T n a p D t) (ht : TkI n t) {k : Nat} (hk : k < 7) (hw : isW T k t = true) : CtP MP 3 43 [.ref a, .ref (1 + k)] (mk E F G) (Sum.inl (some (.int (zI 1)))) (mk E F G) := fun d hd => by
  have := ct_43 (d := d) (E := E) (F := F) (G := G) hE.1 hE.2.1 h.1 ht h.2.2.1 hk hd
  rw [if_pos hw] at this; exact this
theorem go_43f {E : EnQ} {F : Nat → Int → Int32} {G : Nat → Int → Int64} {T : Nat → Int} {n a p : Nat} {D : Int → Int32} {t : TkS} (hE : RdE E a p) (h : RdR F T n a p D t) (ht : TkI n t) {k : Nat} (hk : k < 7) (hw : ¬ isW T k t = true) : CtP MP 3 43 [.ref a, .ref (1 + k)] (mk E F G) (Sum.inl (some (.int (zI 0)))) (mk E F G) := fun d hd => by
  have := ct_43 (d := d) (E := E) (F := F) (G := G) hE.1 hE.2.1 h.1 ht h.2.2.1 hk hd
  rw [if_neg hw] at this; exact this
theorem go_46 {E : EnQ} {F : Nat → Int → Int32} {G : Nat → Int → Int64} {T : Nat → Int} {n a p : Nat} {D : Int → Int32} {t : TkS} (hE : RdE E a p) (h : RdR F T n a p D t) (ht : TkI n t) (hA : 0 ≤ tI (D 2) ∧ tI (D 2) ≤ 16) (h0 : 0 ≤ tI (D 0) ∧ tI (D 0) ≤ 600) : ∃ F1, CtP MP 4 46 [.ref a, .ref p] (mk E F G) (Sum.inl (some (.int (zI (rtZ (pEnd T n (D, t))))))) (mk E F1 G) ∧ OuR F1 T n a p (pEnd T n (D, t)) ∧ KpR a p F F1 := by
  have hs := hE.1
  have hs2 := hE.2.2.1.1
  have h6 := hE.2.2.2.2.2
  have h17 := hE.2.2.2.1
  have hp17 := hE.2.2.2.2.1
  have t1 := ht.1
  by_cases c : t.1 = 3
  · have e : pEnd T n (D, t) = .inr (uC D 0 (zI (tI (D 0) + 1)), av T n t) := if_pos c
    rw [e]
    have hp : RdR (uR F p (uC (F p) 0 (zI (tI (D 0) + 1)))) T n a p (uC D 0 (zI (tI (D 0) + 1))) t := RdR_p h (uR_ne (by omega)) (uR_ne (by omega)) (PlW_one h.2.2.2 hA (by omega))
    obtain ⟨F1, c1, r1, k1⟩ := go_38 (G := G) hE hp ht
    refine ⟨F1, fun d hd => ?_, r1, (KpR_p (k := 0) (by omega)).tr k1⟩
    obtain ⟨h1, h2, ⟨m1, m2, m3, m4⟩, h4⟩ := h
    have d0 := h4.1.1.1
    show (_ : ResP) = some (Sum.inl (some (.int (zI 1))), mk E F1 G)
    refine into (D := 3) (by omega) hM_46 (rcv_mk hs (by decide)) rfl fun d hd => ?_
    show runP MP d 46 (0, [some (.ref a), some (.ref p)], [], _) = _
    rw [q_46_0]; (try simp only [↓n_rd, ↓n_cI, li_0, li_1, li_2, li_3, li_38, li_46, zI_add, zI_sub, zI_mul, zI_neg, ↓Option.bind_some]); simp (disch := (first | assumption | exact tI_rg _ | omega | exact uR_at | exact row_ne hF (by decide) | exact row_ne (row_ne hF (by decide)) (by decide) | exact SnS_18 | exact SnS_30 | exact LdS_44 | exact LdS_46)) only [m1, c, d0, ↓ctV c1, ↓n_rd, ↓n_cI, retZ_z, li_0, li_1, li_2, li_3, li_38, li_46, zI_add, zI_sub, zI_mul, zI_neg, ↓Option.bind_some, ↓g2_0, ↓g3_2, ↓p2_0, zIt2, uR_at, uR_ne, uR_uR, uC_uC, uC_at, ↓reduceIte, decide_eq_true_eq, leT, leF, ltT, ltF, eqT, eqF, ne_eq, not_true_eq_false, not_false_eq_true, Bool.false_eq_true, tI_zI]
  · have e : pEnd T n (D, t) = .inl (flt t 2) := if_neg c
    rw [e]
    obtain ⟨F1, c1, r1, k1⟩ := go_44 (G := G) hE h ht (y := 2) (by omega)
    obtain ⟨h1, h2, ⟨m1, m2, m3, m4⟩, h4⟩ := h
    refine ⟨F1, fun d hd => ?_, r1, k1⟩
    show (_ : ResP) = some (Sum.inl (some (.int (zI 0))), mk E F1 G)
    refine into (D := 3) (by omega) hM_46 (rcv_mk hs (by decide)) rfl fun d hd => ?_
    show runP MP d 46 (0, [some (.ref a), some (.ref p)], [], _) = _
    rw [q_46_0]; (try simp only [↓n_rd, ↓n_cI, li_0, li_1, li_2, li_3, li_38, li_46, zI_add, zI_sub, zI_mul, zI_neg, ↓Option.bind_some]); simp (disch := (first | assumption | exact tI_rg _ | omega | exact uR_at | exact row_ne hF (by decide) | exact row_ne (row_ne hF (by decide)) (by decide) | exact SnS_18 | exact SnS_30 | exact LdS_44 | exact LdS_46)) only [m1, ↓ctT c1, ↓n_rd, ↓n_cI, retZ_z, li_0, li_1, li_2, li_3, li_38, li_46, zI_add, zI_sub, zI_mul, zI_neg, ↓Option.bind_some, ↓g2_0, ↓g3_2, ↓p2_0, zIt2, uR_at, uR_ne, uR_uR, uC_uC, uC_at, ↓reduceIte, decide_eq_true_eq, leT, leF, ltT, ltF, eqT, eqF, ne_eq, not_true_eq_false, not_false_eq_true, Bool.false_eq_true, tI_zI]
end S94zzt
