/-! CLASS: two -/
section S94zzzzi
set_option linter.unusedVariables false
set_option linter.unusedSimpArgs false
theorem ct_92 {d : Nat} {E : EnQ} {F : Nat → Int → Int32} {G : Nat → Int → Int64} {K : Int → Int32} {pl n k : Nat} {sw nd st : Nat → Nat} {w : Nat → Int} {u q : Int} (hT : TrX E F K pl n sw nd st) (hSl : SlI (bgN w k) 32 n sw nd st) (hw : ∀ i, i < k → 0 ≤ w i ∧ w i < 2 * tI (K 2)) (hu : 0 ≤ u ∧ u < 100) (hq : 0 ≤ q ∧ q < 100) (hd : 4 + 1 ≤ d) :
    ∃ r g h, callP MP d 92 [.ref 178, .int (zI u), .int (zI q)] (mk E F G) = some (Sum.inl (some (.long (zJ (PTz K u q 32 (fun _ => 0) (lfW w k))))), mk E (uR F 191 r) (uR (uR G 189 g) 190 h)) := by
  have hT0 := hT
  obtain ⟨r1, g, q1, q2, -⟩ := ct_85 (d := d - 1) (E := E) (F := F) (G := G) (a := 189) hT (Or.inl rfl) hu (by omega)
  obtain ⟨r, h, p1, p2, -⟩ := ct_85 (d := d - 1) (E := E) (F := uR F 191 r1) (G := uR G 189 g) (a := 190) (TrX_191 hT) (Or.inr rfl) hq (by omega)
  rw [uR_uR] at p1
  obtain ⟨hqq, ⟨t1, t2, t3⟩, hR, hP, hpl, hI, hS⟩ := hT
  have h16 := Sx_16 hS
  have hfl := Sx_full hS
  have hb2 := hI.1.2.2.1
  refine ⟨r, g, h, ?_⟩
  obtain ⟨fC, hfC⟩ : ∃ fC : Nat → Int, fC = fun x => if x ≤ encN nd st n then (if 0 < tJ (g (x : Int)) then tJ (g (x : Int)) * tJ (h ((encN nd st n - x : Nat) : Int)) else 0) else 0 := ⟨_, rfl⟩
  have hf1 : ∀ y, ¬ Vdx n nd st y → fC y = 0 := fun y hy => by
    rw [hfC]
    show (if y ≤ encN nd st n then (if 0 < tJ (g (y : Int)) then tJ (g (y : Int)) * tJ (h ((encN nd st n - y : Nat) : Int)) else 0) else 0) = 0
    by_cases c : y ≤ encN nd st n
    · rw [if_pos c, (q2 y c).2 hy]; rfl
    · exact if_neg c
  have hf2 : ∀ x, x < 2 ^ shN nd n → Vdx n nd st x → fC x = Wx n nd (fgS K sw) (tgS K sw) u x * Wx n nd (fgS K sw) (tgS K sw) q (encN nd st n - x) := fun x hx hv => by
    have hxl := Sx_le hS hx hv
    have hcp := (dg_compl (fun t ht => (hS.1 t ht).2.2.1) hx hv).2
    have hv2 : Vdx n nd st (encN nd st n - x) := fun t ht => by rw [hcp t ht]; omega
    rw [hfC]
    show (if x ≤ encN nd st n then (if 0 < tJ (g (x : Int)) then tJ (g (x : Int)) * tJ (h ((encN nd st n - x : Nat) : Int)) else 0) else 0) = _
    rw [if_pos hxl, (q2 x hxl).1 hv, (p2 _ (Nat.sub_le _ _)).1 hv2]
    by_cases c : 0 < Wx n nd (fgS K sw) (tgS K sw) u x
    · rw [if_pos c]
    · have := Wx_nn (n := n) (nd := nd) (fr := fgS K sw) (to := tgS K sw) (u := u) (x := x)
      rw [if_neg c, show Wx n nd (fgS K sw) (tgS K sw) u x = 0 by omega, Int.zero_mul]
  have hPT : PTz K u q 32 (fun _ => 0) (lfW w k) = sumN fC (encN nd st n + 1) := by
    have h1 := PT_RS hI hS hSl.2.1 hf1 hf2 32 0 0 (Nat.le_refl _) (Nat.zero_le _) (fun t ht => by omega) (Nat.two_pow_pos _) Vdx_0
    have e1 : spC n sw (cIx nd n 0) = fun _ => 0 := by
      funext v
      exact sumN_z (fun t ht => by show (if (sw t : Int) = v then cIx nd n 0 t else 0) = 0; rw [cIx_in ht, dg_0]; split <;> rfl)
    have e2 : spC n sw (rsI st nd n 0) = lfW w k := by
      rw [← lfC_0 hw hb2.2 hS hSl]
      funext v
      exact sumN_congr (fun t ht => by show (if (sw t : Int) = v then rsI st nd n 0 t else 0) = (if (sw t : Int) = v then (st t : Int) - ((dgN nd 0 t : Nat) : Int) else 0); unfold rsI; rw [cIx_in ht])
    rw [e1, e2] at h1
    rw [h1]
    unfold RSx hiX
    show sumN (fun y => fC (0 + 2 ^ 0 * y)) (2 ^ (shN nd n - 0)) = _
    rw [Nat.sub_zero, sumN_congr (g := fC) (fun y _ => by show fC (0 + 2 ^ 0 * y) = fC y; rw [Nat.pow_zero, Nat.one_mul, Nat.zero_add])]
    exact sumN_cut (by omega) (fun j hj1 hj2 => by
      rw [hfC]
      exact if_neg (by omega))
  rw [hPT]
  obtain ⟨e, rfl⟩ : ∃ e, d = e + 1 := ⟨d - 1, by omega⟩
  have hin : callP MP (e + 1) 92 [.ref 178, .int (zI u), .int (zI q)] (mk E F G) = runP MP e 92 (0, [some (.ref 178), some (.int (zI u)), some (.int (zI q)), none, none, none], [], mk E F G) := into_eq (by omega) hM_92 (rcv_mk rfl (by decide)) rfl
  have q1 : callP MP e 85 [.ref 178, .int (zI u), .ref 189] (mk E F G) = some (Sum.inl none, mk E (uR F 191 r1) (uR G 189 g)) := q1
  have p1 : callP MP e 85 [.ref 178, .int (zI q), .ref 190] (mk E (uR F 191 r1) (uR G 189 g)) = some (Sum.inl none, mk E (uR F 191 r) (uR (uR G 189 g) 190 h)) := p1
  have c85 : ∀ {kk : HeapP → ResP} {kx : Nat → HeapP → ResP}, cV (callP MP e 85 [.ref 178, .int (zI u), .ref 189] (mk E F G)) kk kx = kk (mk E (uR F 191 r1) (uR G 189 g)) := fun {kk kx} => cV_ret q1
  have c85' : ∀ {kk : HeapP → ResP} {kx : Nat → HeapP → ResP}, cV (callP MP e 85 [.ref 178, .int (zI q), .ref 190] (mk E (uR F 191 r1) (uR G 189 g))) kk kx = kk (mk E (uR F 191 r) (uR (uR G 189 g) 190 h)) := fun {kk kx} => cV_ret p1
  rw [hin]
  have h0 : runP MP e 92 (0, [some (.ref 178), some (.int (zI u)), some (.int (zI q)), none, none, none], [], mk E F G) = runP MP e 92 (23, [some (.ref 178), some (.int (zI u)), some (.int (zI q)), some (.long (zJ (sumN fC 0))), none, some (.int (zI ((0 : Nat) : Int)))], [], mk E (uR F 191 r) (uR (uR G 189 g) 190 h)) := by
    rw [show ((0 : Nat) : Int) = 0 from rfl, show sumN fC 0 = 0 from rfl]
    rw [q_92_0]; (try simp only [↓n_rd, ↓n_alJ, li_0, li_1, li_2, li_6, li_7, li_8, lj_0, lj_1, lj_2, lj_6, zJ_add, zJ_sub, zJ_mul, zJ_neg, zJ_l2i, zI_add, zI_sub, zI_mul, zI_neg, ↓Option.bind_some]); simp (disch := (first | assumption | exact tI_rg _ | omega | exact uR_at | exact row_ne hF (by decide) | exact row_ne (row_ne hF (by decide)) (by decide) | exact SnS_18 | exact SnS_30 | exact LdS_44 | exact LdS_46)) only [q_92_67, ↓c85, ↓c85', ↓n_rd, ↓n_alJ, li_0, li_1, li_2, li_6, li_7, li_8, lj_0, lj_1, lj_2, lj_6, zJ_add, zJ_sub, zJ_mul, zJ_neg, zJ_l2i, tJ_zJ, zI_add, zI_sub, zI_mul, zI_neg, ↓Option.bind_some, ↓g6_2, ↓g6_7, ↓g6_8, ↓al_189, ↓as_189, ↓al_190, ↓as_190, zIt2, uR_at, uR_ne, uR_uR, uC_uC, uC_at, ↓reduceIte, decide_eq_true_eq, leT, leF, ltT, ltF, eqT, eqF, ne_eq, not_true_eq_false, not_false_eq_true, Bool.false_eq_true, tI_zI]
  rw [h0]
  refine (loopN (fun j : Nat => runP MP e 92 (23, [some (.ref 178), some (.int (zI u)), some (.int (zI q)), some (.long (zJ (sumN fC (j)))), none, some (.int (zI (j : Nat)))], [], mk E (uR F 191 r) (uR (uR G 189 g) 190 h))) (encN nd st n + 1) (fun j hj => ?_)).trans ?_
  · show runP MP e 92 (23, [some (.ref 178), some (.int (zI u)), some (.int (zI q)), some (.long (zJ (sumN fC (j)))), none, some (.int (zI (j : Nat)))], [], mk E (uR F 191 r) (uR (uR G 189 g) 190 h)) = runP MP e 92 (23, [some (.ref 178), some (.int (zI u)), some (.int (zI q)), some (.long (zJ (sumN fC ((j + 1))))), none, some (.int (zI ((j + 1) : Nat)))], [], mk E (uR F 191 r) (uR (uR G 189 g) 190 h))
    have hv0 : 0 ≤ (j : Int) ∧ (j : Int) < 16384 := by omega
    have hjl : j ≤ encN nd st n := by omega
    have hsub : (encN nd st n : Int) - (j : Int) = ((encN nd st n - j : Nat) : Int) := by omega
    have hv1 : 0 ≤ ((encN nd st n - j : Nat) : Int) ∧ ((encN nd st n - j : Nat) : Int) < 16384 := by omega
    have hrg := tJ_rg (g (j : Int))
    have hng : ¬ (encN nd st n : Int) < (j : Int) := by omega
    rw [nsucc, sumN_s]
    by_cases c : tJ (g (j : Int)) ≤ 0
    · have ef : fC j = 0 := by rw [hfC]; exact (if_pos hjl).trans (if_neg (by omega))
      rw [ef, Int.add_zero]
      rw [q_92_23]; (try simp only [↓n_rd, ↓n_alJ, li_0, li_1, li_2, li_6, li_7, li_8, lj_0, lj_1, lj_2, lj_6, zJ_add, zJ_sub, zJ_mul, zJ_neg, zJ_l2i, zI_add, zI_sub, zI_mul, zI_neg, ↓Option.bind_some]); simp (disch := (first | assumption | exact tI_rg _ | omega | exact uR_at | exact row_ne hF (by decide) | exact row_ne (row_ne hF (by decide)) (by decide) | exact SnS_18 | exact SnS_30 | exact LdS_44 | exact LdS_46)) only [q_92_0, q_92_67, t2, ↓al_189 hv0, cmpJ_le, c, ↓n_rd, ↓n_alJ, li_0, li_1, li_2, li_6, li_7, li_8, lj_0, lj_1, lj_2, lj_6, zJ_add, zJ_sub, zJ_mul, zJ_neg, zJ_l2i, tJ_zJ, zI_add, zI_sub, zI_mul, zI_neg, ↓Option.bind_some, ↓g6_2, ↓g6_7, ↓g6_8, ↓al_189, ↓as_189, ↓al_190, ↓as_190, zIt2, uR_at, uR_ne, uR_uR, uC_uC, uC_at, ↓reduceIte, decide_eq_true_eq, leT, leF, ltT, ltF, eqT, eqF, ne_eq, not_true_eq_false, not_false_eq_true, Bool.false_eq_true, tI_zI]
    · have ef : fC j = tJ (g (j : Int)) * tJ (h ((encN nd st n - j : Nat) : Int)) := by rw [hfC]; exact (if_pos hjl).trans (if_pos (by omega))
      rw [ef]
      rw [q_92_23]; (try simp only [↓n_rd, ↓n_alJ, li_0, li_1, li_2, li_6, li_7, li_8, lj_0, lj_1, lj_2, lj_6, zJ_add, zJ_sub, zJ_mul, zJ_neg, zJ_l2i, zI_add, zI_sub, zI_mul, zI_neg, ↓Option.bind_some]); simp (disch := (first | assumption | exact tI_rg _ | omega | exact uR_at | exact row_ne hF (by decide) | exact row_ne (row_ne hF (by decide)) (by decide) | exact SnS_18 | exact SnS_30 | exact LdS_44 | exact LdS_46)) only [q_92_0, q_92_67, t2, ↓al_189 hv0, ↓al_190 hv1, hsub, cmpJ_le, c, ↓n_rd, ↓n_alJ, li_0, li_1, li_2, li_6, li_7, li_8, lj_0, lj_1, lj_2, lj_6, zJ_add, zJ_sub, zJ_mul, zJ_neg, zJ_l2i, tJ_zJ, zI_add, zI_sub, zI_mul, zI_neg, ↓Option.bind_some, ↓g6_2, ↓g6_7, ↓g6_8, ↓al_189, ↓as_189, ↓al_190, ↓as_190, zIt2, uR_at, uR_ne, uR_uR, uC_uC, uC_at, ↓reduceIte, decide_eq_true_eq, leT, leF, ltT, ltF, eqT, eqF, ne_eq, not_true_eq_false, not_false_eq_true, Bool.false_eq_true, tI_zI]
  · show runP MP e 92 (23, [some (.ref 178), some (.int (zI u)), some (.int (zI q)), some (.long (zJ (sumN fC ((encN nd st n + 1))))), none, some (.int (zI ((encN nd st n + 1) : Nat)))], [], mk E (uR F 191 r) (uR (uR G 189 g) 190 h)) = _
    rw [q_92_23]; (try simp only [↓n_rd, ↓n_alJ, li_0, li_1, li_2, li_6, li_7, li_8, lj_0, lj_1, lj_2, lj_6, zJ_add, zJ_sub, zJ_mul, zJ_neg, zJ_l2i, zI_add, zI_sub, zI_mul, zI_neg, ↓Option.bind_some]); simp (disch := (first | assumption | exact tI_rg _ | omega | exact uR_at | exact row_ne hF (by decide) | exact row_ne (row_ne hF (by decide)) (by decide) | exact SnS_18 | exact SnS_30 | exact LdS_44 | exact LdS_46)) only [q_92_0, q_92_67, t2, ↓n_rd, ↓n_alJ, li_0, li_1, li_2, li_6, li_7, li_8, lj_0, lj_1, lj_2, lj_6, zJ_add, zJ_sub, zJ_mul, zJ_neg, zJ_l2i, tJ_zJ, zI_add, zI_sub, zI_mul, zI_neg, ↓Option.bind_some, ↓g6_2, ↓g6_7, ↓g6_8, ↓al_189, ↓as_189, ↓al_190, ↓as_190, zIt2, uR_at, uR_ne, uR_uR, uC_uC, uC_at, ↓reduceIte, decide_eq_true_eq, leT, leF, ltT, ltF, eqT, eqF, ne_eq, not_true_eq_false, not_false_eq_true, Bool.false_eq_true, tI_zI]

def a_two (K : Int → Int32) (x y : Int) : Int × Int := if 0 ≤ x ∧ x < tI (K 1) then (if 0 ≤ y ∧ y < tI (K 1) then (0, if tI (K 5) ≤ 8 then PTz K x y 32 (fun _ => 0) (lfK K) else -1000) else (1, 0)) else (1, 0)
theorem cl_two {d : Nat} {E : EnQ} {F : Nat → Int → Int32} {G : Nat → Int → Int64} {K : Int → Int32} (hO : SnO E F 18 K) (hD : SepP E 18) {x y : Int} (hx : -2147483648 ≤ x ∧ x ≤ 2147483647) (hy : -2147483648 ≤ y ∧ y ≤ 2147483647) (hd : 5 + 1 ≤ d) : ∃ E1 F1 G1, callP MP d 166 [.ref 16, .int (zI x), .int (zI y)] (mk E F G) = some (thrJ [0] (a_two K x y), mk E1 F1 G1) ∧ KeepC E F G E1 F1 G1 := by
  have hI := hO.2.2.2.2
  have hb1 := hI.1.2.1
  have hb5 := hI.1.2.2.2.2.2.1
  have hb4 := hI.1.2.2.2.2.1
  by_cases c1 : 0 ≤ x ∧ x < tI (K 1)
  · by_cases c2 : 0 ≤ y ∧ y < tI (K 1)
    · by_cases c3 : tI (K 5) ≤ 8
      · have ha : a_two K x y = (0, PTz K x y 32 (fun _ => 0) (lfK K)) := (if_pos c1).trans ((if_pos c2).trans (by rw [if_pos c3]))
        obtain ⟨F1, r1, r2, n, sw, nd, st, r3, r4⟩ := ct_121 (d := d - 1) (E := E) (F := F) (G := G) (m := 8) hO hD (by omega) c3 (by omega)
        obtain ⟨r, g, h, q1⟩ := ct_92 (d := d - 1) (E := uE E 178 0 (rfQ E 18 0)) (F := F1) (G := G) (u := x) (q := y) r4 r3 (wK_in hI) (by omega) (by omega) (by omega)
        refine ⟨uE E 178 0 (rfQ E 18 0), uR F1 191 r, uR (uR G 189 g) 190 h, ?_, (((r2.tr (KeepD_F scr191)).tr (KeepD_G (Or.inl rfl))).tr (KeepD_G (Or.inr (Or.inl rfl)))).c⟩
        rw [show thrJ [0] (a_two K x y) = Sum.inl (some (.long (zJ (PTz K x y 32 (fun _ => 0) (lfK K))))) by rw [ha]; rfl]
        obtain ⟨e, rfl⟩ : ∃ e, d = e + 1 := ⟨d - 1, by omega⟩
        have hin : callP MP (e + 1) 166 [.ref 16, .int (zI x), .int (zI y)] (mk E F G) = runP MP e 166 (0, [some (.ref 16), some (.int (zI x)), some (.int (zI y))], [], mk E F G) := into_eq (by omega) hM_166 (rcv_mk rfl (by decide)) rfl
        have c121 : ∀ {kk : Int → HeapP → ResP} {kx : Nat → HeapP → ResP}, cT (callP MP e 121 [.ref 16, .int (zI 8)] (mk E F G)) kk kx = kk 1 (mk (uE E 178 0 (rfQ E 18 0)) F1 G) := fun {kk kx} => cT_ret r1 (by omega)
        have q1 : callP MP e 92 [.ref 178, .int (zI x), .int (zI y)] (mk (uE E 178 0 (rfQ E 18 0)) F1 G) = some (Sum.inl (some (.long (zJ (PTz K x y 32 (fun _ => 0) (lfK K))))), mk (uE E 178 0 (rfQ E 18 0)) (uR F1 191 r) (uR (uR G 189 g) 190 h)) := q1
        have c92 : ∀ {kk : Int → HeapP → ResP} {kx : Nat → HeapP → ResP}, cJT (callP MP e 92 [.ref 178, .int (zI x), .int (zI y)] (mk (uE E 178 0 (rfQ E 18 0)) F1 G)) kk kx = kk (tJ (zJ (PTz K x y 32 (fun _ => 0) (lfK K)))) (mk (uE E 178 0 (rfQ E 18 0)) (uR F1 191 r) (uR (uR G 189 g) 190 h)) := fun {kk kx} => by rw [q1]; rfl
        rw [hin]
        rw [q_166_0]; (try simp only [↓n_cI, ↓n_cJ, li_0, li_8, li_12, li_121, li_166, li_1000, lj_0, lj_12, lj_1000, zJ_add, zJ_sub, zJ_mul, zJ_neg, zJ_l2i, zI_add, zI_sub, zI_mul, zI_neg, ↓Option.bind_some]); simp (disch := (first | assumption | exact tI_rg _ | omega | exact uR_at | exact row_ne hF (by decide) | exact row_ne (row_ne hF (by decide)) (by decide) | exact SnS_18 | exact SnS_30 | exact LdS_44 | exact LdS_46)) only [↓cc_127t hO, ↓c121, ↓n_cJ, ↓c92, zJ_tJ, ↓n_cI, ↓n_cJ, li_0, li_8, li_12, li_121, li_166, li_1000, lj_0, lj_12, lj_1000, zJ_add, zJ_sub, zJ_mul, zJ_neg, zJ_l2i, tJ_zJ, zI_add, zI_sub, zI_mul, zI_neg, ↓Option.bind_some, ↓g11_12, zIt2, uR_at, uR_ne, uR_uR, uC_uC, uC_at, ↓reduceIte, decide_eq_true_eq, leT, leF, ltT, ltF, eqT, eqF, ne_eq, not_true_eq_false, not_false_eq_true, Bool.false_eq_true, tI_zI]
      · have ha : a_two K x y = (0, -1000) := (if_pos c1).trans ((if_pos c2).trans (by rw [if_neg c3]))
        refine ⟨E, F, G, ?_, KeepC_rf⟩
        rw [show thrJ [0] (a_two K x y) = Sum.inl (some (.long (zJ (-1000)))) by rw [ha]; rfl]
        have c121 : ∀ {d : Nat} {kk : Int → HeapP → ResP} {kx : Nat → HeapP → ResP}, 3 ≤ d → cT (callP MP d 121 [.ref 16, .int (zI 8)] (mk E F G)) kk kx = kk 0 (mk E F G) := fun {d kk kx} hd => cT_ret (ct_121f hO (by omega) c3 hd) (by omega)
        refine into (D := 4) (by omega) hM_166 (rcv_mk rfl (by decide)) rfl fun d hd => ?_
        show runP MP d 166 (0, [some (.ref 16), some (.int (zI x)), some (.int (zI y))], [], _) = _
        have e1000 : (-1000 : Int64) = zJ (-1000) := by decide
        rw [q_166_0]; (try simp only [↓n_cI, ↓n_cJ, li_0, li_8, li_12, li_121, li_166, li_1000, lj_0, lj_12, lj_1000, zJ_add, zJ_sub, zJ_mul, zJ_neg, zJ_l2i, zI_add, zI_sub, zI_mul, zI_neg, ↓Option.bind_some]); simp (disch := (first | assumption | exact tI_rg _ | omega | exact uR_at | exact row_ne hF (by decide) | exact row_ne (row_ne hF (by decide)) (by decide) | exact SnS_18 | exact SnS_30 | exact LdS_44 | exact LdS_46)) only [↓cc_127t hO, ↓c121, e1000, ↓n_cI, ↓n_cJ, li_0, li_8, li_12, li_121, li_166, li_1000, lj_0, lj_12, lj_1000, zJ_add, zJ_sub, zJ_mul, zJ_neg, zJ_l2i, tJ_zJ, zI_add, zI_sub, zI_mul, zI_neg, ↓Option.bind_some, ↓g11_12, zIt2, uR_at, uR_ne, uR_uR, uC_uC, uC_at, ↓reduceIte, decide_eq_true_eq, leT, leF, ltT, ltF, eqT, eqF, ne_eq, not_true_eq_false, not_false_eq_true, Bool.false_eq_true, tI_zI]
    · have ha : a_two K x y = (1, 0) := (if_pos c1).trans (if_neg c2)
      refine ⟨jE E, F, G, ?_, KeepC_j⟩
      rw [show thrJ [0] (a_two K x y) = Sum.inr 0 by rw [ha]; rfl]
      refine into (D := 4) (by omega) hM_166 (rcv_mk rfl (by decide)) rfl fun d hd => ?_
      show runP MP d 166 (0, [some (.ref 16), some (.int (zI x)), some (.int (zI y))], [], _) = _
      rw [q_166_0]; (try simp only [↓n_cI, ↓n_cJ, li_0, li_8, li_12, li_121, li_166, li_1000, lj_0, lj_12, lj_1000, zJ_add, zJ_sub, zJ_mul, zJ_neg, zJ_l2i, zI_add, zI_sub, zI_mul, zI_neg, ↓Option.bind_some]); simp (disch := (first | assumption | exact tI_rg _ | omega | exact uR_at | exact row_ne hF (by decide) | exact row_ne (row_ne hF (by decide)) (by decide) | exact SnS_18 | exact SnS_30 | exact LdS_44 | exact LdS_46)) only [↓cc_127t hO, ↓cc_127f hO, thr_eq, ↓n_cI, ↓n_cJ, li_0, li_8, li_12, li_121, li_166, li_1000, lj_0, lj_12, lj_1000, zJ_add, zJ_sub, zJ_mul, zJ_neg, zJ_l2i, tJ_zJ, zI_add, zI_sub, zI_mul, zI_neg, ↓Option.bind_some, ↓g11_12, zIt2, uR_at, uR_ne, uR_uR, uC_uC, uC_at, ↓reduceIte, decide_eq_true_eq, leT, leF, ltT, ltF, eqT, eqF, ne_eq, not_true_eq_false, not_false_eq_true, Bool.false_eq_true, tI_zI]
  · have ha : a_two K x y = (1, 0) := if_neg c1
    refine ⟨jE E, F, G, ?_, KeepC_j⟩
    rw [show thrJ [0] (a_two K x y) = Sum.inr 0 by rw [ha]; rfl]
    refine into (D := 4) (by omega) hM_166 (rcv_mk rfl (by decide)) rfl fun d hd => ?_
    show runP MP d 166 (0, [some (.ref 16), some (.int (zI x)), some (.int (zI y))], [], _) = _
    rw [q_166_0]; (try simp only [↓n_cI, ↓n_cJ, li_0, li_8, li_12, li_121, li_166, li_1000, lj_0, lj_12, lj_1000, zJ_add, zJ_sub, zJ_mul, zJ_neg, zJ_l2i, zI_add, zI_sub, zI_mul, zI_neg, ↓Option.bind_some]); simp (disch := (first | assumption | exact tI_rg _ | omega | exact uR_at | exact row_ne hF (by decide) | exact row_ne (row_ne hF (by decide)) (by decide) | exact SnS_18 | exact SnS_30 | exact LdS_44 | exact LdS_46)) only [↓cc_127f hO, thr_eq, ↓n_cI, ↓n_cJ, li_0, li_8, li_12, li_121, li_166, li_1000, lj_0, lj_12, lj_1000, zJ_add, zJ_sub, zJ_mul, zJ_neg, zJ_l2i, tJ_zJ, zI_add, zI_sub, zI_mul, zI_neg, ↓Option.bind_some, ↓g11_12, zIt2, uR_at, uR_ne, uR_uR, uC_uC, uC_at, ↓reduceIte, decide_eq_true_eq, leT, leF, ltT, ltF, eqT, eqF, ne_eq, not_true_eq_false, not_false_eq_true, Bool.false_eq_true, tI_zI]
end S94zzzzi
