/-! CLASS: how many come, 2 -/
section S94zzzy
set_option linter.unusedVariables false
set_option linter.unusedSimpArgs false
theorem cm_slot {d : Nat} {E : EnQ} {F : Nat → Int → Int32} {G : Nat → Int → Int64} {K : Int → Int32} {pl n : Nat} {sw nd st : Nat → Nat} {a c s : Nat} {u : Int} {r : Int → Int32} {g : Int → Int64} {z5 : Option Value} (hT : TrX E F K pl n sw nd st) (ha : a = 189 ∨ a = 190) (hs : s < n) (hc : c < encN nd st n) (hvc : Vdx n nd st c) (hw : 0 < Wx n nd (fgS K sw) (tgS K sw) u c) (hC : CmI n nd st (fgS K sw) (tgS K sw) u c s r g) (hd : 3 ≤ d) :
    ∃ r' g' z', runP MP d 85 (44, [some (.ref 178), some (.int (zI u)), some (.ref a), some (.int (zI (c : Int))), some (.int (zI (s : Int))), z5], [], mk E (uR F 191 r) (uR G a g)) = runP MP d 85 (44, [some (.ref 178), some (.int (zI u)), some (.ref a), some (.int (zI (c : Int))), some (.int (zI ((s + 1 : Nat) : Int))), z'], [], mk E (uR F 191 r') (uR G a g')) ∧ CmI n nd st (fgS K sw) (tgS K sw) u c (s + 1) r' g' := by
  have hT' := TrX_191 (r := r) hT
  obtain ⟨hq, ⟨t1, t2, t3⟩, hR, hP, hpl, hI, hS⟩ := hT
  obtain ⟨s1, s2, s3, s4⟩ := t3 s hs
  have h16 := Sx_16 hS
  have hfl := Sx_full hS
  have hn := Sx_n hS
  obtain ⟨f1, f2, f3, f4, f5⟩ := hS.1 s hs
  have hsh : shN nd s ≤ shN nd n := shN_mono (by omega)
  have h14 := hS.2.2.1
  have hsw : 0 ≤ (sw s : Int) ∧ (sw s : Int) < 2 * tI (K 2) := by omega
  have hsa : shx E a = (3, 0, 16384) := by rcases ha with rfl | rfl <;> rfl
  have hal : ∀ {F : Nat → Int → Int32} {G : Nat → Int → Int64} {i : Int} {f : Int → ResP}, 0 ≤ i ∧ i < 16384 → (alJT (mk E F G) a (zI i)).bind f = f (tJ (G a i)) := fun {F G i f} hi => alJ_b (n := 16384) hsa (by omega) (by decide)
  have has : ∀ {F : Nat → Int → Int32} {G : Nat → Int → Int64} {i : Int} {x : Int64} {f : HeapP → ResP}, 0 ≤ i ∧ i < 16384 → (astJ (mk E F G) a (zI i) x).bind f = f (mk E F (uR G a (uC (G a) i x))) := fun {F G i x f} hi => asJ_b (n := 16384) hsa (by omega) (by decide)
  have hcc := (hC c (by omega)).1 hvc
  rw [Ax_done (by omega) (Nat.le_refl _)] at hcc
  have hwh := (hC c (by omega)).2.2 (by omega)
  have hsl := shl1 (p := ((shN nd s : Nat) : Int)) (by omega)
  rw [show ((shN nd s : Nat) : Int).toNat = shN nd s by omega] at hsl
  have hy : (c : Int) + ((2 ^ shN nd s : Nat) : Int) = ((c + 2 ^ shN nd s : Nat) : Int) := rfl
  by_cases hm : whx n nd (fgS K sw) (tgS K sw) u c = fgS K sw s ∧ dgN nd c s < st s
  · have hst : ∀ t, t < n → st t < 2 ^ nd t := fun t ht => (hS.1 t ht).2.2.1
    obtain ⟨y1, y2, y3⟩ := Vdx_add hst (by omega) hs hm.2 hvc
    have c86 : ∀ {kk : Int → HeapP → ResP} {kx : Nat → HeapP → ResP}, cT (callP MP d 86 [.ref 178, .int (zI (c : Int)), .int (zI (s : Int))] (mk E (uR F 191 r) (uR G a g))) kk kx = kk 1 (mk E (uR F 191 r) (uR G a g)) := fun {kk kx} => by
      rw [cc_86 hT' (by omega) hs (by omega), if_pos ⟨by rw [uR_at, hwh]; exact hm.1.symm, hm.2⟩]
    have hto := to_in hI hsw
    have hb1 := hI.1.2.1
    have c29 : ∀ {r : Int → Int32} {g : Int → Int64} {kk : Int → HeapP → ResP} {kx : Nat → HeapP → ResP}, cT (callP MP d 29 [.ref pl, .int (zI (sw s : Int))] (mk E (uR F 191 r) (uR G a g))) kk kx = kk (tgS K sw s) (mk E (uR F 191 r) (uR G a g)) := fun {r g kk kx} => cc_29 (PlR_ld hI (by omega) hR) hI hP hsw (by omega)
    have hv0 : 0 ≤ (c : Int) ∧ (c : Int) < 16384 := by omega
    have hv1 : 0 ≤ ((c + 2 ^ shN nd s : Nat) : Int) ∧ ((c + 2 ^ shN nd s : Nat) : Int) < 16384 := ⟨Int.natCast_nonneg _, Int.ofNat_lt.mpr (Nat.lt_of_lt_of_le y1 h16)⟩
    refine ⟨_, _, some (.int (zI ((c + 2 ^ shN nd s : Nat) : Int))), ?_, Cm_yes hS hs (by omega) hvc hm (by show -2147483648 ≤ toZ K (sw s : Int) ∧ toZ K (sw s : Int) ≤ 2147483647; omega) hC⟩
    rw [nsucc]
    rw [q_85_44]; (try simp only [↓n_rd, ↓n_al, ↓n_alJ, ↓n_cI, li_0, li_1, li_2, li_3, li_5, li_6, li_9, lj_0, lj_1, lj_2, lj_3, lj_5, lj_6, lj_9, zJ_add, zJ_sub, zJ_mul, zJ_neg, zJ_l2i, zI_add, zI_sub, zI_mul, zI_neg, ↓Option.bind_some]); simp (disch := (first | assumption | exact tI_rg _ | omega | exact uR_at | exact row_ne hF (by decide) | exact row_ne (row_ne hF (by decide)) (by decide) | exact SnS_18 | exact SnS_30 | exact LdS_44 | exact LdS_46)) only [q_85_0, q_85_107, q_85_113, hq, t1, s1, s3, ↓c86, hsl, hy, ↓hal hv1, ↓hal hv0, ↓has hv1, ↓c29, ↓al_185, ↓al_187, ↓as_191, ↓n_rd, ↓n_al, ↓n_alJ, ↓n_cI, li_0, li_1, li_2, li_3, li_5, li_6, li_9, lj_0, lj_1, lj_2, lj_3, lj_5, lj_6, lj_9, zJ_add, zJ_sub, zJ_mul, zJ_neg, zJ_l2i, tJ_zJ, zI_add, zI_sub, zI_mul, zI_neg, ↓Option.bind_some, ↓g6_0, ↓g6_1, ↓g6_2, ↓g6_3, ↓g6_5, ↓g6_9, ↓al_185, ↓as_185, ↓al_187, ↓as_187, ↓al_191, ↓as_191, zIt2, uR_at, uR_ne, uR_uR, uC_uC, uC_at, ↓reduceIte, decide_eq_true_eq, leT, leF, ltT, ltF, eqT, eqF, ne_eq, not_true_eq_false, not_false_eq_true, Bool.false_eq_true, tI_zI]
  · have c86 : ∀ {kk : Int → HeapP → ResP} {kx : Nat → HeapP → ResP}, cT (callP MP d 86 [.ref 178, .int (zI (c : Int)), .int (zI (s : Int))] (mk E (uR F 191 r) (uR G a g))) kk kx = kk 0 (mk E (uR F 191 r) (uR G a g)) := fun {kk kx} => by
      rw [cc_86 hT' (by omega) hs (by omega), if_neg (fun z => hm ⟨by rw [← hwh]; have := z.1; rw [uR_at] at this; exact this.symm, z.2⟩)]
    refine ⟨r, g, z5, ?_, Cm_no hS hs hm hC⟩
    rw [nsucc]
    rw [q_85_44]; (try simp only [↓n_rd, ↓n_al, ↓n_alJ, ↓n_cI, li_0, li_1, li_2, li_3, li_5, li_6, li_9, lj_0, lj_1, lj_2, lj_3, lj_5, lj_6, lj_9, zJ_add, zJ_sub, zJ_mul, zJ_neg, zJ_l2i, zI_add, zI_sub, zI_mul, zI_neg, ↓Option.bind_some]); simp (disch := (first | assumption | exact tI_rg _ | omega | exact uR_at | exact row_ne hF (by decide) | exact row_ne (row_ne hF (by decide)) (by decide) | exact SnS_18 | exact SnS_30 | exact LdS_44 | exact LdS_46)) only [q_85_0, q_85_107, q_85_113, hq, t1, ↓c86, ↓n_rd, ↓n_al, ↓n_alJ, ↓n_cI, li_0, li_1, li_2, li_3, li_5, li_6, li_9, lj_0, lj_1, lj_2, lj_3, lj_5, lj_6, lj_9, zJ_add, zJ_sub, zJ_mul, zJ_neg, zJ_l2i, tJ_zJ, zI_add, zI_sub, zI_mul, zI_neg, ↓Option.bind_some, ↓g6_0, ↓g6_1, ↓g6_2, ↓g6_3, ↓g6_5, ↓g6_9, ↓al_185, ↓as_185, ↓al_187, ↓as_187, ↓al_191, ↓as_191, zIt2, uR_at, uR_ne, uR_uR, uC_uC, uC_at, ↓reduceIte, decide_eq_true_eq, leT, leF, ltT, ltF, eqT, eqF, ne_eq, not_true_eq_false, not_false_eq_true, Bool.false_eq_true, tI_zI]
theorem ct_85 {d : Nat} {E : EnQ} {F : Nat → Int → Int32} {G : Nat → Int → Int64} {K : Int → Int32} {pl n : Nat} {sw nd st : Nat → Nat} {a : Nat} {u : Int} (hT : TrX E F K pl n sw nd st) (ha : a = 189 ∨ a = 190) (hu : 0 ≤ u ∧ u < 100) (hd : 3 + 1 ≤ d) :
    ∃ r g, callP MP d 85 [.ref 178, .int (zI u), .ref a] (mk E F G) = some (Sum.inl none, mk E (uR F 191 r) (uR G a g)) ∧ CmD n nd st (fgS K sw) (tgS K sw) u g ∧ ∀ x : Nat, x ≤ encN nd st n → 0 < tJ (g x) → tI (r x) = whx n nd (fgS K sw) (tgS K sw) u x := by
  have hT0 := hT
  obtain ⟨hq, ⟨t1, t2, t3⟩, hR, hP, hpl, hI, hS⟩ := hT
  have h16 := Sx_16 hS
  have hfl := Sx_full hS
  have hn := Sx_n hS
  have hsa : shx E a = (3, 0, 16384) := by rcases ha with rfl | rfl <;> rfl
  have hal : ∀ {F : Nat → Int → Int32} {G : Nat → Int → Int64} {i : Int} {f : Int → ResP}, 0 ≤ i ∧ i < 16384 → (alJT (mk E F G) a (zI i)).bind f = f (tJ (G a i)) := fun {F G i f} hi => alJ_b (n := 16384) hsa (by omega) (by decide)
  have has : ∀ {F : Nat → Int → Int32} {G : Nat → Int → Int64} {i : Int} {x : Int64} {f : HeapP → ResP}, 0 ≤ i ∧ i < 16384 → (astJ (mk E F G) a (zI i) x).bind f = f (mk E F (uR G a (uC (G a) i x))) := fun {F G i x f} hi => asJ_b (n := 16384) hsa (by omega) (by decide)
  obtain ⟨e, rfl⟩ : ∃ e, d = e + 1 := ⟨d - 1, by omega⟩
  have hin : callP MP (e + 1) 85 [.ref 178, .int (zI u), .ref a] (mk E F G) = runP MP e 85 (0, [some (.ref 178), some (.int (zI u)), some (.ref a), none, none, none], [], mk E F G) := into_eq (by omega) hM_85 (rcv_mk rfl (by decide)) rfl
  have c3 : ∀ {kk : HeapP → ResP} {kx : Nat → HeapP → ResP}, cV (callP MP e 3 [.ref a, .int (zI 0), .int (zI ((encN nd st n : Int) + 1)), .long (zJ 0)] (mk E F G)) kk kx = kk (mk E F (uR G a (flJ (G a) (encN nd st n + 1) 0))) := fun {kk kx} => by
    have := ct_3 (d := e) (E := E) (F := F) (G := G) (a := a) (m := encN nd st n + 1) ha (by omega) (by omega)
    exact cV_ret this
  have h0 : runP MP e 85 (0, [some (.ref 178), some (.int (zI u)), some (.ref a), none, none, none], [], mk E F G) = runP MP e 85 (25, [some (.ref 178), some (.int (zI u)), some (.ref a), some (.int (zI ((0 : Nat) : Int))), none, none], [], mk E (uR F 191 (uC (F 191) 0 (zI u))) (uR G a (uC (flJ (G a) (encN nd st n + 1) 0) 0 (zJ 1)))) := by
    have hv0 : 0 ≤ (0 : Int) ∧ (0 : Int) < 16384 := by omega
    rw [show ((0 : Nat) : Int) = 0 from rfl]
    rw [q_85_0]; (try simp only [↓n_rd, ↓n_al, ↓n_alJ, ↓n_cI, li_0, li_1, li_2, li_3, li_5, li_6, li_9, lj_0, lj_1, lj_2, lj_3, lj_5, lj_6, lj_9, zJ_add, zJ_sub, zJ_mul, zJ_neg, zJ_l2i, zI_add, zI_sub, zI_mul, zI_neg, ↓Option.bind_some]); simp (disch := (first | assumption | exact tI_rg _ | omega | exact uR_at | exact row_ne hF (by decide) | exact row_ne (row_ne hF (by decide)) (by decide) | exact SnS_18 | exact SnS_30 | exact LdS_44 | exact LdS_46)) only [q_85_107, q_85_113, t2, ↓c3, ↓has hv0, ↓as_191, ↓n_rd, ↓n_al, ↓n_alJ, ↓n_cI, li_0, li_1, li_2, li_3, li_5, li_6, li_9, lj_0, lj_1, lj_2, lj_3, lj_5, lj_6, lj_9, zJ_add, zJ_sub, zJ_mul, zJ_neg, zJ_l2i, tJ_zJ, zI_add, zI_sub, zI_mul, zI_neg, ↓Option.bind_some, ↓g6_0, ↓g6_1, ↓g6_2, ↓g6_3, ↓g6_5, ↓g6_9, ↓al_185, ↓as_185, ↓al_187, ↓as_187, ↓al_191, ↓as_191, zIt2, uR_at, uR_ne, uR_uR, uC_uC, uC_at, ↓reduceIte, decide_eq_true_eq, leT, leF, ltT, ltF, eqT, eqF, ne_eq, not_true_eq_false, not_false_eq_true, Bool.false_eq_true, tI_zI]
  have hC0 : CmI n nd st (fgS K sw) (tgS K sw) u 0 0 (uC (F 191) 0 (zI u)) (uC (flJ (G a) (encN nd st n + 1) 0) 0 (zJ 1)) := Cm_0 (by omega) (fun x hx => by
    show tJ (if 0 ≤ (x : Int) ∧ (x : Int) < ((encN nd st n + 1 : Nat) : Int) then zJ 0 else G a x) = 0
    rw [if_pos (by omega), tJ_zJ (by omega)])
  have hmain : ∃ r g, runP MP e 85 (25, [some (.ref 178), some (.int (zI u)), some (.ref a), some (.int (zI ((0 : Nat) : Int))), none, none], [], mk E (uR F 191 (uC (F 191) 0 (zI u))) (uR G a (uC (flJ (G a) (encN nd st n + 1) 0) 0 (zJ 1)))) = some (Sum.inl none, mk E (uR F 191 r) (uR G a g)) ∧ CmD n nd st (fgS K sw) (tgS K sw) u g ∧ ∀ x : Nat, x ≤ encN nd st n → 0 < tJ (g x) → tI (r x) = whx n nd (fgS K sw) (tgS K sw) u x := by
    refine loopS (σ := (Int → Int32) × (Int → Int64) × Option Value × Option Value) (Post := fun rr => ∃ r g, rr = some (Sum.inl none, mk E (uR F 191 r) (uR G a g)) ∧ CmD n nd st (fgS K sw) (tgS K sw) u g ∧ ∀ x : Nat, x ≤ encN nd st n → 0 < tJ (g x) → tI (r x) = whx n nd (fgS K sw) (tgS K sw) u x)
      (fun c s => runP MP e 85 (25, [some (.ref 178), some (.int (zI u)), some (.ref a), some (.int (zI (c : Int))), s.2.2.1, s.2.2.2], [], mk E (uR F 191 s.1) (uR G a s.2.1)))
      (fun c s => CmI n nd st (fgS K sw) (tgS K sw) u c 0 s.1 s.2.1) (encN nd st n) (uC (F 191) 0 (zI u), uC (flJ (G a) (encN nd st n + 1) 0) 0 (zJ 1), none, none) hC0 (fun s hC => ?_) (fun c s hc hC => ?_)
    · refine ⟨s.1, s.2.1, ?_, Cm_end hS hC, fun x hx h => (hC x hx).2.2 h⟩
      show runP MP e 85 _ = _
      rw [q_85_25]; (try simp only [↓n_rd, ↓n_al, ↓n_alJ, ↓n_cI, li_0, li_1, li_2, li_3, li_5, li_6, li_9, lj_0, lj_1, lj_2, lj_3, lj_5, lj_6, lj_9, zJ_add, zJ_sub, zJ_mul, zJ_neg, zJ_l2i, zI_add, zI_sub, zI_mul, zI_neg, ↓Option.bind_some]); simp (disch := (first | assumption | exact tI_rg _ | omega | exact uR_at | exact row_ne hF (by decide) | exact row_ne (row_ne hF (by decide)) (by decide) | exact SnS_18 | exact SnS_30 | exact LdS_44 | exact LdS_46)) only [q_85_0, q_85_107, q_85_113, t2, ↓n_rd, ↓n_al, ↓n_alJ, ↓n_cI, li_0, li_1, li_2, li_3, li_5, li_6, li_9, lj_0, lj_1, lj_2, lj_3, lj_5, lj_6, lj_9, zJ_add, zJ_sub, zJ_mul, zJ_neg, zJ_l2i, tJ_zJ, zI_add, zI_sub, zI_mul, zI_neg, ↓Option.bind_some, ↓g6_0, ↓g6_1, ↓g6_2, ↓g6_3, ↓g6_5, ↓g6_9, ↓al_185, ↓as_185, ↓al_187, ↓as_187, ↓al_191, ↓as_191, zIt2, uR_at, uR_ne, uR_uR, uC_uC, uC_at, ↓reduceIte, decide_eq_true_eq, leT, leF, ltT, ltF, eqT, eqF, ne_eq, not_true_eq_false, not_false_eq_true, Bool.false_eq_true, tI_zI]
    · right
      have hv0 : 0 ≤ (c : Int) ∧ (c : Int) < 16384 := by omega
      have hrg := tJ_rg (s.2.1 (c : Int))
      by_cases hz : tJ (s.2.1 (c : Int)) ≤ 0
      · refine ⟨s, Cm_skip hS (by omega) hz hC, ?_⟩
        show runP MP e 85 _ = runP MP e 85 _
        rw [nsucc]
        rw [q_85_25]; (try simp only [↓n_rd, ↓n_al, ↓n_alJ, ↓n_cI, li_0, li_1, li_2, li_3, li_5, li_6, li_9, lj_0, lj_1, lj_2, lj_3, lj_5, lj_6, lj_9, zJ_add, zJ_sub, zJ_mul, zJ_neg, zJ_l2i, zI_add, zI_sub, zI_mul, zI_neg, ↓Option.bind_some]); simp (disch := (first | assumption | exact tI_rg _ | omega | exact uR_at | exact row_ne hF (by decide) | exact row_ne (row_ne hF (by decide)) (by decide) | exact SnS_18 | exact SnS_30 | exact LdS_44 | exact LdS_46)) only [q_85_0, q_85_107, q_85_113, t2, ↓hal hv0, cmpJ_le, hz, ↓n_rd, ↓n_al, ↓n_alJ, ↓n_cI, li_0, li_1, li_2, li_3, li_5, li_6, li_9, lj_0, lj_1, lj_2, lj_3, lj_5, lj_6, lj_9, zJ_add, zJ_sub, zJ_mul, zJ_neg, zJ_l2i, tJ_zJ, zI_add, zI_sub, zI_mul, zI_neg, ↓Option.bind_some, ↓g6_0, ↓g6_1, ↓g6_2, ↓g6_3, ↓g6_5, ↓g6_9, ↓al_185, ↓as_185, ↓al_187, ↓as_187, ↓al_191, ↓as_191, zIt2, uR_at, uR_ne, uR_uR, uC_uC, uC_at, ↓reduceIte, decide_eq_true_eq, leT, leF, ltT, ltF, eqT, eqF, ne_eq, not_true_eq_false, not_false_eq_true, Bool.false_eq_true, tI_zI]
      · have hvc : Vdx n nd st c := Classical.byContradiction (fun z => hz (by rw [(hC c (by omega)).2.1 z]; omega))
        have hcc := (hC c (by omega)).1 hvc
        rw [Ax_done (by omega) (Nat.le_refl _)] at hcc
        have hinner : ∃ r g z, runP MP e 85 (44, [some (.ref 178), some (.int (zI u)), some (.ref a), some (.int (zI (c : Int))), some (.int (zI ((0 : Nat) : Int))), s.2.2.2], [], mk E (uR F 191 s.1) (uR G a s.2.1)) = runP MP e 85 (44, [some (.ref 178), some (.int (zI u)), some (.ref a), some (.int (zI (c : Int))), some (.int (zI (n : Int))), z], [], mk E (uR F 191 r) (uR G a g)) ∧ CmI n nd st (fgS K sw) (tgS K sw) u c n r g := by
          refine loopS (σ := (Int → Int32) × (Int → Int64) × Option Value) (Post := fun rr => ∃ r g z, rr = runP MP e 85 (44, [some (.ref 178), some (.int (zI u)), some (.ref a), some (.int (zI (c : Int))), some (.int (zI (n : Int))), z], [], mk E (uR F 191 r) (uR G a g)) ∧ CmI n nd st (fgS K sw) (tgS K sw) u c n r g)
            (fun t s => runP MP e 85 (44, [some (.ref 178), some (.int (zI u)), some (.ref a), some (.int (zI (c : Int))), some (.int (zI (t : Int))), s.2.2], [], mk E (uR F 191 s.1) (uR G a s.2.1)))
            (fun t s => CmI n nd st (fgS K sw) (tgS K sw) u c t s.1 s.2.1) n (s.1, s.2.1, s.2.2.2) hC (fun s hC => ⟨s.1, s.2.1, s.2.2, rfl, hC⟩) (fun t s ht hC => ?_)
          right
          obtain ⟨r', g', z', e1, e2⟩ := cm_slot (d := e) (G := G) (z5 := s.2.2) hT0 ha ht hc hvc (by omega) hC (by omega)
          exact ⟨(r', g', z'), e2, e1⟩
        obtain ⟨r, g, z, e1, e2⟩ := hinner
        refine ⟨(r, g, some (.int (zI (n : Int))), z), Cm_next e2, ?_⟩
        show runP MP e 85 _ = runP MP e 85 _
        have e3 : runP MP e 85 (44, [some (.ref 178), some (.int (zI u)), some (.ref a), some (.int (zI (c : Int))), some (.int (zI (n : Int))), z], [], mk E (uR F 191 r) (uR G a g)) = runP MP e 85 (25, [some (.ref 178), some (.int (zI u)), some (.ref a), some (.int (zI ((c + 1 : Nat) : Int))), some (.int (zI (n : Int))), z], [], mk E (uR F 191 r) (uR G a g)) := by
          rw [nsucc]
          rw [q_85_44]; (try simp only [↓n_rd, ↓n_al, ↓n_alJ, ↓n_cI, li_0, li_1, li_2, li_3, li_5, li_6, li_9, lj_0, lj_1, lj_2, lj_3, lj_5, lj_6, lj_9, zJ_add, zJ_sub, zJ_mul, zJ_neg, zJ_l2i, zI_add, zI_sub, zI_mul, zI_neg, ↓Option.bind_some]); simp (disch := (first | assumption | exact tI_rg _ | omega | exact uR_at | exact row_ne hF (by decide) | exact row_ne (row_ne hF (by decide)) (by decide) | exact SnS_18 | exact SnS_30 | exact LdS_44 | exact LdS_46)) only [q_85_0, q_85_107, q_85_113, t1, ↓n_rd, ↓n_al, ↓n_alJ, ↓n_cI, li_0, li_1, li_2, li_3, li_5, li_6, li_9, lj_0, lj_1, lj_2, lj_3, lj_5, lj_6, lj_9, zJ_add, zJ_sub, zJ_mul, zJ_neg, zJ_l2i, tJ_zJ, zI_add, zI_sub, zI_mul, zI_neg, ↓Option.bind_some, ↓g6_0, ↓g6_1, ↓g6_2, ↓g6_3, ↓g6_5, ↓g6_9, ↓al_185, ↓as_185, ↓al_187, ↓as_187, ↓al_191, ↓as_191, zIt2, uR_at, uR_ne, uR_uR, uC_uC, uC_at, ↓reduceIte, decide_eq_true_eq, leT, leF, ltT, ltF, eqT, eqF, ne_eq, not_true_eq_false, not_false_eq_true, Bool.false_eq_true, tI_zI]
        rw [← e3, ← e1]
        have e0 : ((0 : Nat) : Int) = 0 := rfl
        rw [q_85_25]; (try simp only [↓n_rd, ↓n_al, ↓n_alJ, ↓n_cI, li_0, li_1, li_2, li_3, li_5, li_6, li_9, lj_0, lj_1, lj_2, lj_3, lj_5, lj_6, lj_9, zJ_add, zJ_sub, zJ_mul, zJ_neg, zJ_l2i, zI_add, zI_sub, zI_mul, zI_neg, ↓Option.bind_some]); simp (disch := (first | assumption | exact tI_rg _ | omega | exact uR_at | exact row_ne hF (by decide) | exact row_ne (row_ne hF (by decide)) (by decide) | exact SnS_18 | exact SnS_30 | exact LdS_44 | exact LdS_46)) only [q_85_0, q_85_107, q_85_113, t2, ↓hal hv0, cmpJ_le, hz, e0, ↓n_rd, ↓n_al, ↓n_alJ, ↓n_cI, li_0, li_1, li_2, li_3, li_5, li_6, li_9, lj_0, lj_1, lj_2, lj_3, lj_5, lj_6, lj_9, zJ_add, zJ_sub, zJ_mul, zJ_neg, zJ_l2i, tJ_zJ, zI_add, zI_sub, zI_mul, zI_neg, ↓Option.bind_some, ↓g6_0, ↓g6_1, ↓g6_2, ↓g6_3, ↓g6_5, ↓g6_9, ↓al_185, ↓as_185, ↓al_187, ↓as_187, ↓al_191, ↓as_191, zIt2, uR_at, uR_ne, uR_uR, uC_uC, uC_at, ↓reduceIte, decide_eq_true_eq, leT, leF, ltT, ltF, eqT, eqF, ne_eq, not_true_eq_false, not_false_eq_true, Bool.false_eq_true, tI_zI]
  obtain ⟨r, g, r1, r2⟩ := hmain
  refine ⟨r, g, ?_, r2⟩
  rw [hin, h0]; exact r1
end S94zzzy
