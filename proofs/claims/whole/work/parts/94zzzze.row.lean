/-! CLASS: row -/
section S94zzzze
set_option linter.unusedVariables false
set_option linter.unusedSimpArgs false
theorem RMz_0 {K : Int → Int32} {u : Int} {lf : Int → Int} {x : Int} : ∀ k : Nat, RMz K k u lf x 0 = u
  | 0 => rfl
  | _ + 1 => rfl
def plT (K : Int → Int32) (k : Nat) (u : Int) (lf : Int → Int) (x : Int) (i : Nat) : Int := if x < NMz K k u lf ∧ i ≤ k then RMz K k u lf x i else -1
theorem RMz_rg {K : Int → Int32} : ∀ (k : Nat) (u : Int) (lf : Int → Int) (x : Int) (i : Nat), -1 ≤ u ∧ u < 1000 → tI (K 1) ≤ 10 → -1 ≤ RMz K k u lf x i ∧ RMz K k u lf x i < 1000
  | 0, u, lf, x, i, h, _ => h
  | k + 1, u, lf, x, 0, h, _ => h
  | k + 1, u, lf, x, i + 1, h, h1 => by
    show -1 ≤ RMz K k _ _ _ i ∧ RMz K k _ _ _ i < 1000
    have hr := fndN_rg (fun q => decide (x < sumN (ctM K k u lf) (q + 1))) (tI (K 1)).toNat 0
    exact RMz_rg k _ _ _ i (by omega) h1
theorem pk_none {d : Nat} {E : EnQ} {F : Nat → Int → Int32} {G : Nat → Int → Int64} {K : Int → Int32} {pl n i : Nat} {sw nd st : Nat → Nat} {u x kk m : Int} {r : Int → Int32} {g h : Int → Int64} {z11 z12 : Option Value} (hT : TrX E F K pl n sw nd st) (hx : 0 ≤ x ∧ x ≤ 11112006825558016) (hm : 0 ≤ m ∧ m ≤ 100) (hd : 4 ≤ d) :
    runP MP d 87 (34, [some (.ref 178), some (.int (zI u)), some (.long (zJ kk)), none, some (.int (zI (i : Int))), some (.long (zJ x)), none, some (.int (zI ((encN nd st n : Nat) : Int))), some (.int (zI m)), some (.int (zI (-1))), some (.int (zI 0)), z11, z12, none], [], mk E (uR F 191 r) (uR (uR G 189 g) 190 h)) = some (Sum.inl (some (.int (zI (-1)))), mk E (uR F 191 r) (uR (uR G 189 g) 190 h)) := by
  have hT' := TrX_191 (r := r) hT
  obtain ⟨hq, ⟨t1, t2, t3⟩, hR, hP, hpl, hI, hS⟩ := hT
  have h16 := Sx_16 hS
  have hfl := Sx_full hS
  have hb1 := hI.1.2.1
  have hs2 := hP.1
  have e1 : tI (F pl 1) = tI (K 1) := by rw [hR.1.2.1]
  have c89 : ∀ (t : Nat), (t : Int) < 100 → ∀ {kk : Int → HeapP → ResP} {kx : Nat → HeapP → ResP}, cT (callP MP d 89 [.ref 178, .int (zI ((encN nd st n : Nat) : Int)), .int (zI (t : Int))] (mk E (uR F 191 r) (uR (uR G 189 g) 190 h))) kk kx = kk (-1) (mk E (uR F 191 r) (uR (uR G 189 g) 190 h)) := fun t ht {kk kx} => by
    have h0 : fndN (slB K sw nd st (encN nd st n) (tI (uR F 191 r 191 ((encN nd st n : Nat) : Int))) t) n 0 = -1 := fndN_none (fun s _ hs => decide_eq_false (fun z => by
      have := z.2.1
      rw [dg_full hS (by omega)] at this
      omega))
    have h1 := ct_89 (d := d) (E := E) (F := uR F 191 r) (G := uR (uR G 189 g) 190 h) (c := encN nd st n) (q := (t : Int)) hT' hfl rfl (by omega) (by omega)
    rw [h0] at h1
    exact cT_ret h1 (by omega)
  refine loopS (σ := Option Value × Option Value) (Post := fun rr => rr = some (Sum.inl (some (.int (zI (-1)))), mk E (uR F 191 r) (uR (uR G 189 g) 190 h)))
    (fun t s => runP MP d 87 (34, [some (.ref 178), some (.int (zI u)), some (.long (zJ kk)), none, some (.int (zI (i : Int))), some (.long (zJ x)), none, some (.int (zI ((encN nd st n : Nat) : Int))), some (.int (zI m)), some (.int (zI (-1))), some (.int (zI (t : Int))), s.1, s.2, none], [], mk E (uR F 191 r) (uR (uR G 189 g) 190 h)))
    (fun _ _ => True) (tI (K 1)).toNat (z11, z12) trivial (fun s _ => ?_) (fun t s ht _ => ?_)
  · show runP MP d 87 _ = _
    have hle : tI (K 1) ≤ (((tI (K 1)).toNat : Nat) : Int) := by omega
    rw [q_87_34]; (try simp only [↓n_rd, ↓n_al, ↓n_alJ, ↓n_cI, ↓n_cJ, li_0, li_1, li_2, li_5, li_6, li_8, li_9, lj_0, lj_1, lj_2, lj_5, lj_6, lj_9, zJ_add, zJ_sub, zJ_mul, zJ_neg, zJ_l2i, zI_add, zI_sub, zI_mul, zI_neg, ↓Option.bind_some]); simp (disch := (first | assumption | exact tI_rg _ | omega | exact uR_at | exact row_ne hF (by decide) | exact row_ne (row_ne hF (by decide)) (by decide) | exact SnS_18 | exact SnS_30 | exact LdS_44 | exact LdS_46)) only [q_87_0, q_87_89, q_87_113, q_87_119, hq, e1, ↓n_rd, ↓n_al, ↓n_alJ, ↓n_cI, ↓n_cJ, li_0, li_1, li_2, li_5, li_6, li_8, li_9, lj_0, lj_1, lj_2, lj_5, lj_6, lj_9, zJ_add, zJ_sub, zJ_mul, zJ_neg, zJ_l2i, tJ_zJ, zI_add, zI_sub, zI_mul, zI_neg, ↓Option.bind_some, ↓g2_1, ↓g6_0, ↓g6_5, ↓g6_8, ↓g6_9, ↓al_187, ↓as_187, ↓al_190, ↓as_190, ↓al_191, ↓as_191, zIt2, uR_at, uR_ne, uR_uR, uC_uC, uC_at, ↓reduceIte, decide_eq_true_eq, leT, leF, ltT, ltF, eqT, eqF, ne_eq, not_true_eq_false, not_false_eq_true, Bool.false_eq_true, tI_zI]
  · right
    refine ⟨(some (.int (zI (-1))), some (.long (zJ 0))), trivial, ?_⟩
    show runP MP d 87 _ = runP MP d 87 _
    have c89t := fun {kk : Int → HeapP → ResP} {kx : Nat → HeapP → ResP} => c89 t (by omega) (kk := kk) (kx := kx)
    have hge : 0 ≤ x := hx.1
    have ex : x - 0 = x := by omega
    rw [nsucc]
    rw [q_87_34]; (try simp only [↓n_rd, ↓n_al, ↓n_alJ, ↓n_cI, ↓n_cJ, li_0, li_1, li_2, li_5, li_6, li_8, li_9, lj_0, lj_1, lj_2, lj_5, lj_6, lj_9, zJ_add, zJ_sub, zJ_mul, zJ_neg, zJ_l2i, zI_add, zI_sub, zI_mul, zI_neg, ↓Option.bind_some]); simp (disch := (first | assumption | exact tI_rg _ | omega | exact uR_at | exact row_ne hF (by decide) | exact row_ne (row_ne hF (by decide)) (by decide) | exact SnS_18 | exact SnS_30 | exact LdS_44 | exact LdS_46)) only [q_87_0, q_87_89, q_87_113, hq, e1, ↓c89t, cmpJ_ge, hge, ex, ↓n_rd, ↓n_al, ↓n_alJ, ↓n_cI, ↓n_cJ, li_0, li_1, li_2, li_5, li_6, li_8, li_9, lj_0, lj_1, lj_2, lj_5, lj_6, lj_9, zJ_add, zJ_sub, zJ_mul, zJ_neg, zJ_l2i, tJ_zJ, zI_add, zI_sub, zI_mul, zI_neg, ↓Option.bind_some, ↓g2_1, ↓g6_0, ↓g6_5, ↓g6_8, ↓g6_9, ↓al_187, ↓as_187, ↓al_190, ↓as_190, ↓al_191, ↓as_191, zIt2, uR_at, uR_ne, uR_uR, uC_uC, uC_at, ↓reduceIte, decide_eq_true_eq, leT, leF, ltT, ltF, eqT, eqF, ne_eq, not_true_eq_false, not_false_eq_true, Bool.false_eq_true, tI_zI]
theorem ct_87 {d : Nat} {E : EnQ} {F : Nat → Int → Int32} {G : Nat → Int → Int64} {K : Int → Int32} {pl n k i : Nat} {sw nd st : Nat → Nat} {w : Nat → Int} {u kk : Int} (hT : TrX E F K pl n sw nd st) (hSl : SlI (bgN w k) 32 n sw nd st) (hw : ∀ i, i < k → 0 ≤ w i ∧ w i < 2 * tI (K 2)) (hu : 0 ≤ u ∧ u < 100) (hkk : 0 ≤ kk ∧ kk ≤ 9223372036854775807) (hi : i ≤ 2147483647) (hd : 5 + 1 ≤ d) :
    ∃ r g h, callP MP d 87 [.ref 178, .int (zI u), .long (zJ kk), .int (zI (i : Int))] (mk E F G) = some (Sum.inl (some (.int (zI (plT K k u (lfW w k) kk i)))), mk E (uR F 191 r) (uR (uR G 189 g) 190 h)) := by
  have hT0 := hT
  obtain ⟨r, g, h, q1, q2, q3, q4⟩ := ct_88 (d := d - 1) (E := E) (F := F) (G := G) hT hu (by omega)
  obtain ⟨hq, ⟨t1, t2, t3⟩, hR, hP, hpl, hI, hS⟩ := hT
  have h16 := Sx_16 hS
  have hfl := Sx_full hS
  have hb2 := hI.1.2.2.1
  have hWf := W_full hI (u := u) hw hS hSl
  have hWb := Sx_W (fr := fgS K sw) (to := tgS K sw) (u := u) hS (V_full hS)
  have hWn := Wx_nn (n := n) (nd := nd) (fr := fgS K sw) (to := tgS K sw) (u := u) (x := encN nd st n)
  have htd := td_full hw hb2.2 hS hSl
  have hk14 := Sx_td hS (V_full hS)
  rw [hWf] at q1 hWb hWn
  refine ⟨r, g, h, ?_⟩
  obtain ⟨e, rfl⟩ : ∃ e, d = e + 1 := ⟨d - 1, by omega⟩
  have hin : callP MP (e + 1) 87 [.ref 178, .int (zI u), .long (zJ kk), .int (zI (i : Int))] (mk E F G) = runP MP e 87 (0, [some (.ref 178), some (.int (zI u)), some (.long (zJ kk)), none, some (.int (zI (i : Int))), none, none, none, none, none, none, none, none, none], [], mk E F G) := into_eq (by omega) hM_87 (rcv_mk rfl (by decide)) rfl
  have q1 : callP MP e 88 [.ref 178, .int (zI u)] (mk E F G) = some (Sum.inl (some (.long (zJ (NMz K k u (lfW w k))))), mk E (uR F 191 r) (uR (uR G 189 g) 190 h)) := q1
  have c88 : ∀ {kk : Int → HeapP → ResP} {kx : Nat → HeapP → ResP}, cJT (callP MP e 88 [.ref 178, .int (zI u)] (mk E F G)) kk kx = kk (NMz K k u (lfW w k)) (mk E (uR F 191 r) (uR (uR G 189 g) 190 h)) := fun {kk kx} => cJT_ret q1 (by omega)
  rw [hin]
  by_cases c1 : kk < NMz K k u (lfW w k)
  · have h0 : runP MP e 87 (0, [some (.ref 178), some (.int (zI u)), some (.long (zJ kk)), none, some (.int (zI (i : Int))), none, none, none, none, none, none, none, none, none], [], mk E F G) = runP MP e 87 (21, [some (.ref 178), some (.int (zI u)), some (.long (zJ kk)), none, some (.int (zI (i : Int))), some (.long (zJ kk)), none, some (.int (zI ((0 : Nat) : Int))), some (.int (zI ((0 : Nat) : Int))), none, none, none, none, none], [], mk E (uR F 191 r) (uR (uR G 189 g) 190 h)) := by
      rw [show ((0 : Nat) : Int) = 0 from rfl]
      rw [q_87_0]; (try simp only [↓n_rd, ↓n_al, ↓n_alJ, ↓n_cI, ↓n_cJ, li_0, li_1, li_2, li_5, li_6, li_8, li_9, lj_0, lj_1, lj_2, lj_5, lj_6, lj_9, zJ_add, zJ_sub, zJ_mul, zJ_neg, zJ_l2i, zI_add, zI_sub, zI_mul, zI_neg, ↓Option.bind_some]); simp (disch := (first | assumption | exact tI_rg _ | omega | exact uR_at | exact row_ne hF (by decide) | exact row_ne (row_ne hF (by decide)) (by decide) | exact SnS_18 | exact SnS_30 | exact LdS_44 | exact LdS_46)) only [q_87_89, q_87_113, q_87_119, ↓n_cJ, ↓c88, cmpJ_lt, c1, ↓n_rd, ↓n_al, ↓n_alJ, ↓n_cI, ↓n_cJ, li_0, li_1, li_2, li_5, li_6, li_8, li_9, lj_0, lj_1, lj_2, lj_5, lj_6, lj_9, zJ_add, zJ_sub, zJ_mul, zJ_neg, zJ_l2i, tJ_zJ, zI_add, zI_sub, zI_mul, zI_neg, ↓Option.bind_some, ↓g2_1, ↓g6_0, ↓g6_5, ↓g6_8, ↓g6_9, ↓al_187, ↓as_187, ↓al_190, ↓as_190, ↓al_191, ↓as_191, zIt2, uR_at, uR_ne, uR_uR, uC_uC, uC_at, ↓reduceIte, decide_eq_true_eq, leT, leF, ltT, ltF, eqT, eqF, ne_eq, not_true_eq_false, not_false_eq_true, Bool.false_eq_true, tI_zI]
    rw [h0]
    refine loopS (σ := Nat × Int × Option Value × Option Value × Option Value × Option Value) (Post := fun rr => rr = some (Sum.inl (some (.int (zI (plT K k u (lfW w k) kk i)))), mk E (uR F 191 r) (uR (uR G 189 g) 190 h)))
      (fun m s => runP MP e 87 (21, [some (.ref 178), some (.int (zI u)), some (.long (zJ kk)), none, some (.int (zI (i : Int))), some (.long (zJ s.2.1)), none, some (.int (zI ((s.1 : Nat) : Int))), some (.int (zI (m : Int))), s.2.2.1, s.2.2.2.1, s.2.2.2.2.1, s.2.2.2.2.2, none], [], mk E (uR F 191 r) (uR (uR G 189 g) 190 h)))
      (fun m s => s.1 ≤ encN nd st n ∧ Vdx n nd st s.1 ∧ 0 < tJ (g (s.1 : Int)) ∧ (0 ≤ s.2.1 ∧ s.2.1 < gxN n nd st (fgS K sw) (tgS K sw) u s.1) ∧ m + tdx nd n (encN nd st n - s.1) = k ∧ plT K k u (lfW w k) kk i = if i ≤ k then rwT K n sw nd st u s.1 s.2.1 (i - m) else -1) i (0, kk, none, none, none, none) ?_ (fun s hI2 => ?_) (fun m s hm hI2 => ?_)
    · refine ⟨Nat.zero_le _, Vdx_0, ?_, ⟨hkk.1, ?_⟩, ?_, ?_⟩
      · show 0 < tJ (g ((0 : Nat) : Int))
        rw [(q2 0 (Nat.zero_le _)).1 Vdx_0, Wx_0]; omega
      · show kk < gxN n nd st (fgS K sw) (tgS K sw) u 0
        rw [gx_NM hI hS (Nat.two_pow_pos _) Vdx_0, whx_0, Nat.sub_zero, htd, lfC_0 hw hb2.2 hS hSl]; exact c1
      · show 0 + tdx nd n (encN nd st n - 0) = k
        rw [Nat.sub_zero, htd]; omega
      · show plT K k u (lfW w k) kk i = if i ≤ k then rwT K n sw nd st u 0 kk (i - 0) else -1
        unfold plT rwT
        rw [whx_0, Nat.sub_zero, Nat.sub_zero, htd, lfC_0 hw hb2.2 hS hSl]
        by_cases c2 : i ≤ k
        · rw [if_pos ⟨c1, c2⟩, if_pos c2]
        · rw [if_neg (fun z => c2 z.2), if_neg c2]
    · obtain ⟨i1, i2, i3, i4, i5, i6⟩ := hI2
      rw [if_pos (by omega), Nat.sub_self] at i6
      unfold rwT at i6
      rw [RMz_0] at i6
      rw [i6]
      have hwh := q3 s.1 i1 i3
      have hv1 : 0 ≤ ((s.1 : Nat) : Int) ∧ ((s.1 : Nat) : Int) < 16384 := by omega
      show runP MP e 87 _ = _
      rw [q_87_21]; (try simp only [↓n_rd, ↓n_al, ↓n_alJ, ↓n_cI, ↓n_cJ, li_0, li_1, li_2, li_5, li_6, li_8, li_9, lj_0, lj_1, lj_2, lj_5, lj_6, lj_9, zJ_add, zJ_sub, zJ_mul, zJ_neg, zJ_l2i, zI_add, zI_sub, zI_mul, zI_neg, ↓Option.bind_some]); simp (disch := (first | assumption | exact tI_rg _ | omega | exact uR_at | exact row_ne hF (by decide) | exact row_ne (row_ne hF (by decide)) (by decide) | exact SnS_18 | exact SnS_30 | exact LdS_44 | exact LdS_46)) only [q_87_0, q_87_89, q_87_113, q_87_119, ↓al_191 hv1, hwh, ↓n_rd, ↓n_al, ↓n_alJ, ↓n_cI, ↓n_cJ, li_0, li_1, li_2, li_5, li_6, li_8, li_9, lj_0, lj_1, lj_2, lj_5, lj_6, lj_9, zJ_add, zJ_sub, zJ_mul, zJ_neg, zJ_l2i, tJ_zJ, zI_add, zI_sub, zI_mul, zI_neg, ↓Option.bind_some, ↓g2_1, ↓g6_0, ↓g6_5, ↓g6_8, ↓g6_9, ↓al_187, ↓as_187, ↓al_190, ↓as_190, ↓al_191, ↓as_191, zIt2, uR_at, uR_ne, uR_uR, uC_uC, uC_at, ↓reduceIte, decide_eq_true_eq, leT, leF, ltT, ltF, eqT, eqF, ne_eq, not_true_eq_false, not_false_eq_true, Bool.false_eq_true, tI_zI]
    · obtain ⟨i1, i2, i3, i4, i5, i6⟩ := hI2
      have hbx := gx_bd (fr := fgS K sw) (to := tgS K sw) (u := u) hS (show s.1 < 2 ^ shN nd n by omega) i2
      by_cases c2 : s.1 = encN nd st n
      · left
        rw [c2, Nat.sub_self, tdx_0] at i5
        rw [if_neg (by omega)] at i6
        rw [i6]
        have hn := pk_none (d := e) (E := E) (G := G) (i := i) (kk := kk) (x := s.2.1) (m := (m : Int)) (u := u) (r := r) (g := g) (h := h) (z11 := s.2.2.2.2.1) (z12 := s.2.2.2.2.2) hT0 (by omega) (by omega) (by omega)
        rw [← hn, ← c2]
        show runP MP e 87 _ = _
        rw [q_87_21]; (try simp only [↓n_rd, ↓n_al, ↓n_alJ, ↓n_cI, ↓n_cJ, li_0, li_1, li_2, li_5, li_6, li_8, li_9, lj_0, lj_1, lj_2, lj_5, lj_6, lj_9, zJ_add, zJ_sub, zJ_mul, zJ_neg, zJ_l2i, zI_add, zI_sub, zI_mul, zI_neg, ↓Option.bind_some]); simp (disch := (first | assumption | exact tI_rg _ | omega | exact uR_at | exact row_ne hF (by decide) | exact row_ne (row_ne hF (by decide)) (by decide) | exact SnS_18 | exact SnS_30 | exact LdS_44 | exact LdS_46)) only [q_87_0, q_87_89, q_87_113, q_87_119, ↓n_rd, ↓n_al, ↓n_alJ, ↓n_cI, ↓n_cJ, li_0, li_1, li_2, li_5, li_6, li_8, li_9, lj_0, lj_1, lj_2, lj_5, lj_6, lj_9, zJ_add, zJ_sub, zJ_mul, zJ_neg, zJ_l2i, tJ_zJ, zI_add, zI_sub, zI_mul, zI_neg, ↓Option.bind_some, ↓g2_1, ↓g6_0, ↓g6_5, ↓g6_8, ↓g6_9, ↓al_187, ↓as_187, ↓al_190, ↓as_190, ↓al_191, ↓as_191, zIt2, uR_at, uR_ne, uR_uR, uC_uC, uC_at, ↓reduceIte, decide_eq_true_eq, leT, leF, ltT, ltF, eqT, eqF, ne_eq, not_true_eq_false, not_false_eq_true, Bool.false_eq_true, tI_zI]
      · right
        obtain ⟨c', x', y9, y10, y11, y12, p1, p2, p3, p4, p5, p6, p7⟩ := pk_row (d := e) (E := E) (G := G) (c := s.1) (i := i) (kk := kk) (x := s.2.1) (m := (m : Int)) (u := u) (r := r) (g := g) (h := h) (z11 := s.2.2.2.2.1) (z12 := s.2.2.2.2.2) hT0 q2 q3 q4 (by omega) i2 i3 i4 (by omega) (by omega)
        refine ⟨(c', x', y9, y10, y11, y12), ⟨p2, p3, p4, p5, by show m + 1 + tdx nd n (encN nd st n - c') = k; omega, ?_⟩, ?_⟩
        · rw [i6]
          by_cases c3 : i ≤ k
          · rw [if_pos c3, if_pos c3, show i - m = (i - (m + 1)) + 1 by omega, p7]
          · rw [if_neg c3, if_neg c3]
        · show runP MP e 87 _ = runP MP e 87 _
          rw [nsucc, ← p1]
          rw [q_87_21]; (try simp only [↓n_rd, ↓n_al, ↓n_alJ, ↓n_cI, ↓n_cJ, li_0, li_1, li_2, li_5, li_6, li_8, li_9, lj_0, lj_1, lj_2, lj_5, lj_6, lj_9, zJ_add, zJ_sub, zJ_mul, zJ_neg, zJ_l2i, zI_add, zI_sub, zI_mul, zI_neg, ↓Option.bind_some]); simp (disch := (first | assumption | exact tI_rg _ | omega | exact uR_at | exact row_ne hF (by decide) | exact row_ne (row_ne hF (by decide)) (by decide) | exact SnS_18 | exact SnS_30 | exact LdS_44 | exact LdS_46)) only [q_87_0, q_87_89, q_87_113, q_87_119, ↓n_rd, ↓n_al, ↓n_alJ, ↓n_cI, ↓n_cJ, li_0, li_1, li_2, li_5, li_6, li_8, li_9, lj_0, lj_1, lj_2, lj_5, lj_6, lj_9, zJ_add, zJ_sub, zJ_mul, zJ_neg, zJ_l2i, tJ_zJ, zI_add, zI_sub, zI_mul, zI_neg, ↓Option.bind_some, ↓g2_1, ↓g6_0, ↓g6_5, ↓g6_8, ↓g6_9, ↓al_187, ↓as_187, ↓al_190, ↓as_190, ↓al_191, ↓as_191, zIt2, uR_at, uR_ne, uR_uR, uC_uC, uC_at, ↓reduceIte, decide_eq_true_eq, leT, leF, ltT, ltF, eqT, eqF, ne_eq, not_true_eq_false, not_false_eq_true, Bool.false_eq_true, tI_zI]
  · rw [show plT K k u (lfW w k) kk i = -1 from if_neg (fun z => c1 z.1)]
    rw [q_87_0]; (try simp only [↓n_rd, ↓n_al, ↓n_alJ, ↓n_cI, ↓n_cJ, li_0, li_1, li_2, li_5, li_6, li_8, li_9, lj_0, lj_1, lj_2, lj_5, lj_6, lj_9, zJ_add, zJ_sub, zJ_mul, zJ_neg, zJ_l2i, zI_add, zI_sub, zI_mul, zI_neg, ↓Option.bind_some]); simp (disch := (first | assumption | exact tI_rg _ | omega | exact uR_at | exact row_ne hF (by decide) | exact row_ne (row_ne hF (by decide)) (by decide) | exact SnS_18 | exact SnS_30 | exact LdS_44 | exact LdS_46)) only [q_87_89, q_87_113, q_87_119, ↓n_cJ, ↓c88, cmpJ_lt, c1, ↓n_rd, ↓n_al, ↓n_alJ, ↓n_cI, ↓n_cJ, li_0, li_1, li_2, li_5, li_6, li_8, li_9, lj_0, lj_1, lj_2, lj_5, lj_6, lj_9, zJ_add, zJ_sub, zJ_mul, zJ_neg, zJ_l2i, tJ_zJ, zI_add, zI_sub, zI_mul, zI_neg, ↓Option.bind_some, ↓g2_1, ↓g6_0, ↓g6_5, ↓g6_8, ↓g6_9, ↓al_187, ↓as_187, ↓al_190, ↓as_190, ↓al_191, ↓as_191, zIt2, uR_at, uR_ne, uR_uR, uC_uC, uC_at, ↓reduceIte, decide_eq_true_eq, leT, leF, ltT, ltF, eqT, eqF, ne_eq, not_true_eq_false, not_false_eq_true, Bool.false_eq_true, tI_zI]
def a_row (K : Int → Int32) (x k i : Int) : Int × Int := if 0 ≤ x ∧ x < tI (K 1) then (0, if 0 ≤ k ∧ 0 ≤ i ∧ tI (K 5) ≤ 14 then plT K (tI (K 5)).toNat x (lfK K) k i.toNat else -1) else (1, 0)
theorem cl_row {d : Nat} {E : EnQ} {F : Nat → Int → Int32} {G : Nat → Int → Int64} {K : Int → Int32} (hO : SnO E F 18 K) (hD : SepP E 18) {x kk y : Int} (hx : -2147483648 ≤ x ∧ x ≤ 2147483647) (hkk : -9223372036854775808 ≤ kk ∧ kk ≤ 9223372036854775807) (hy : -2147483648 ≤ y ∧ y ≤ 2147483647) (hd : 6 + 1 ≤ d) : ∃ E1 F1 G1, callP MP d 164 [.ref 16, .int (zI x), .long (zJ kk), .int (zI y)] (mk E F G) = some (thrP [0] (a_row K x kk y), mk E1 F1 G1) ∧ KeepC E F G E1 F1 G1 := by
  have hI := hO.2.2.2.2
  have hb1 := hI.1.2.1
  have hb5 := hI.1.2.2.2.2.2.1
  have hb4 := hI.1.2.2.2.2.1
  by_cases c1 : 0 ≤ x ∧ x < tI (K 1)
  · by_cases c2 : 0 ≤ kk ∧ 0 ≤ y ∧ tI (K 5) ≤ 14
    · obtain ⟨i, hi⟩ : ∃ i : Nat, (i : Int) = y := ⟨y.toNat, by omega⟩
      subst hi
      have ha : a_row K x kk i = (0, plT K (tI (K 5)).toNat x (lfK K) kk i) := (if_pos c1).trans (by rw [if_pos c2, show ((i : Nat) : Int).toNat = i by omega])
      obtain ⟨F1, r1, r2, n, sw, nd, st, r3, r4⟩ := ct_121 (d := d - 1) (E := E) (F := F) (G := G) (m := 14) hO hD (by omega) c2.2.2 (by omega)
      obtain ⟨r, g, h, q1⟩ := ct_87 (d := d - 1) (E := uE E 178 0 (rfQ E 18 0)) (F := F1) (G := G) (u := x) (kk := kk) (i := i) r4 r3 (wK_in hI) (by omega) (by omega) (by omega) (by omega)
      refine ⟨uE E 178 0 (rfQ E 18 0), uR F1 191 r, uR (uR G 189 g) 190 h, ?_, (((r2.tr (KeepD_F scr191)).tr (KeepD_G (Or.inl rfl))).tr (KeepD_G (Or.inr (Or.inl rfl)))).c⟩
      rw [show thrP [0] (a_row K x kk i) = Sum.inl (some (.int (zI (plT K (tI (K 5)).toNat x (lfK K) kk i)))) by rw [ha]; rfl]
      obtain ⟨e, rfl⟩ : ∃ e, d = e + 1 := ⟨d - 1, by omega⟩
      have hin : callP MP (e + 1) 164 [.ref 16, .int (zI x), .long (zJ kk), .int (zI (i : Int))] (mk E F G) = runP MP e 164 (0, [some (.ref 16), some (.int (zI x)), some (.long (zJ kk)), none, some (.int (zI (i : Int)))], [], mk E F G) := into_eq (by omega) hM_164 (rcv_mk rfl (by decide)) rfl
      have hrg : -1 ≤ plT K (tI (K 5)).toNat x (lfK K) kk i ∧ plT K (tI (K 5)).toNat x (lfK K) kk i < 1000 := by
        unfold plT; split
        · exact RMz_rg _ _ _ _ _ (by omega) hb1.2
        · omega
      have c121 : ∀ {kk : Int → HeapP → ResP} {kx : Nat → HeapP → ResP}, cT (callP MP e 121 [.ref 16, .int (zI 14)] (mk E F G)) kk kx = kk 1 (mk (uE E 178 0 (rfQ E 18 0)) F1 G) := fun {kk kx} => cT_ret r1 (by omega)
      have c87 : ∀ {k1 : Int → HeapP → ResP} {kx : Nat → HeapP → ResP}, cT (callP MP e 87 [.ref 178, .int (zI x), .long (zJ kk), .int (zI (i : Int))] (mk (uE E 178 0 (rfQ E 18 0)) F1 G)) k1 kx = k1 (plT K (tI (K 5)).toNat x (lfK K) kk i) (mk (uE E 178 0 (rfQ E 18 0)) (uR F1 191 r) (uR (uR G 189 g) 190 h)) := fun {k1 kx} => cT_ret q1 (by omega)
      have d1 : ¬ kk < 0 := by omega
      have d2 : ¬ (i : Int) < 0 := by omega
      rw [hin]
      rw [q_164_0]; (try simp only [↓n_cI, li_0, li_1, li_12, li_14, li_121, lj_0, lj_1, lj_12, zJ_add, zJ_sub, zJ_mul, zJ_neg, zJ_l2i, zI_add, zI_sub, zI_mul, zI_neg, ↓Option.bind_some]); simp (disch := (first | assumption | exact tI_rg _ | omega | exact uR_at | exact row_ne hF (by decide) | exact row_ne (row_ne hF (by decide)) (by decide) | exact SnS_18 | exact SnS_30 | exact LdS_44 | exact LdS_46)) only [q_164_25, ↓cc_127t hO, cmpJ_lt, d1, ↓c121, ↓c87, ↓n_cI, li_0, li_1, li_12, li_14, li_121, lj_0, lj_1, lj_12, zJ_add, zJ_sub, zJ_mul, zJ_neg, zJ_l2i, tJ_zJ, zI_add, zI_sub, zI_mul, zI_neg, ↓Option.bind_some, ↓g11_12, zIt2, uR_at, uR_ne, uR_uR, uC_uC, uC_at, ↓reduceIte, decide_eq_true_eq, leT, leF, ltT, ltF, eqT, eqF, ne_eq, not_true_eq_false, not_false_eq_true, Bool.false_eq_true, tI_zI]
    · have ha : a_row K x kk y = (0, -1) := (if_pos c1).trans (by rw [if_neg c2])
      refine ⟨E, F, G, ?_, KeepC_rf⟩
      rw [show thrP [0] (a_row K x kk y) = Sum.inl (some (.int (zI (-1)))) by rw [ha]; rfl]
      by_cases d1 : kk < 0
      · refine into (D := 5) (by omega) hM_164 (rcv_mk rfl (by decide)) rfl fun d hd => ?_
        show runP MP d 164 (0, [some (.ref 16), some (.int (zI x)), some (.long (zJ kk)), none, some (.int (zI y))], [], _) = _
        rw [q_164_0]; (try simp only [↓n_cI, li_0, li_1, li_12, li_14, li_121, lj_0, lj_1, lj_12, zJ_add, zJ_sub, zJ_mul, zJ_neg, zJ_l2i, zI_add, zI_sub, zI_mul, zI_neg, ↓Option.bind_some]); simp (disch := (first | assumption | exact tI_rg _ | omega | exact uR_at | exact row_ne hF (by decide) | exact row_ne (row_ne hF (by decide)) (by decide) | exact SnS_18 | exact SnS_30 | exact LdS_44 | exact LdS_46)) only [q_164_25, ↓cc_127t hO, cmpJ_lt, d1, ↓n_cI, li_0, li_1, li_12, li_14, li_121, lj_0, lj_1, lj_12, zJ_add, zJ_sub, zJ_mul, zJ_neg, zJ_l2i, tJ_zJ, zI_add, zI_sub, zI_mul, zI_neg, ↓Option.bind_some, ↓g11_12, zIt2, uR_at, uR_ne, uR_uR, uC_uC, uC_at, ↓reduceIte, decide_eq_true_eq, leT, leF, ltT, ltF, eqT, eqF, ne_eq, not_true_eq_false, not_false_eq_true, Bool.false_eq_true, tI_zI]
      · by_cases d2 : y < 0
        · refine into (D := 5) (by omega) hM_164 (rcv_mk rfl (by decide)) rfl fun d hd => ?_
          show runP MP d 164 (0, [some (.ref 16), some (.int (zI x)), some (.long (zJ kk)), none, some (.int (zI y))], [], _) = _
          rw [q_164_0]; (try simp only [↓n_cI, li_0, li_1, li_12, li_14, li_121, lj_0, lj_1, lj_12, zJ_add, zJ_sub, zJ_mul, zJ_neg, zJ_l2i, zI_add, zI_sub, zI_mul, zI_neg, ↓Option.bind_some]); simp (disch := (first | assumption | exact tI_rg _ | omega | exact uR_at | exact row_ne hF (by decide) | exact row_ne (row_ne hF (by decide)) (by decide) | exact SnS_18 | exact SnS_30 | exact LdS_44 | exact LdS_46)) only [q_164_25, ↓cc_127t hO, cmpJ_lt, d1, ↓n_cI, li_0, li_1, li_12, li_14, li_121, lj_0, lj_1, lj_12, zJ_add, zJ_sub, zJ_mul, zJ_neg, zJ_l2i, tJ_zJ, zI_add, zI_sub, zI_mul, zI_neg, ↓Option.bind_some, ↓g11_12, zIt2, uR_at, uR_ne, uR_uR, uC_uC, uC_at, ↓reduceIte, decide_eq_true_eq, leT, leF, ltT, ltF, eqT, eqF, ne_eq, not_true_eq_false, not_false_eq_true, Bool.false_eq_true, tI_zI]
        · have c3 : ¬ tI (K 5) ≤ 14 := fun z => c2 ⟨by omega, by omega, z⟩
          have c121 : ∀ {d : Nat} {kk : Int → HeapP → ResP} {kx : Nat → HeapP → ResP}, 3 ≤ d → cT (callP MP d 121 [.ref 16, .int (zI 14)] (mk E F G)) kk kx = kk 0 (mk E F G) := fun {d kk kx} hd => cT_ret (ct_121f hO (by omega) c3 hd) (by omega)
          refine into (D := 5) (by omega) hM_164 (rcv_mk rfl (by decide)) rfl fun d hd => ?_
          show runP MP d 164 (0, [some (.ref 16), some (.int (zI x)), some (.long (zJ kk)), none, some (.int (zI y))], [], _) = _
          rw [q_164_0]; (try simp only [↓n_cI, li_0, li_1, li_12, li_14, li_121, lj_0, lj_1, lj_12, zJ_add, zJ_sub, zJ_mul, zJ_neg, zJ_l2i, zI_add, zI_sub, zI_mul, zI_neg, ↓Option.bind_some]); simp (disch := (first | assumption | exact tI_rg _ | omega | exact uR_at | exact row_ne hF (by decide) | exact row_ne (row_ne hF (by decide)) (by decide) | exact SnS_18 | exact SnS_30 | exact LdS_44 | exact LdS_46)) only [q_164_25, ↓cc_127t hO, cmpJ_lt, d1, ↓c121, ↓n_cI, li_0, li_1, li_12, li_14, li_121, lj_0, lj_1, lj_12, zJ_add, zJ_sub, zJ_mul, zJ_neg, zJ_l2i, tJ_zJ, zI_add, zI_sub, zI_mul, zI_neg, ↓Option.bind_some, ↓g11_12, zIt2, uR_at, uR_ne, uR_uR, uC_uC, uC_at, ↓reduceIte, decide_eq_true_eq, leT, leF, ltT, ltF, eqT, eqF, ne_eq, not_true_eq_false, not_false_eq_true, Bool.false_eq_true, tI_zI]
  · have ha : a_row K x kk y = (1, 0) := if_neg c1
    refine ⟨jE E, F, G, ?_, KeepC_j⟩
    rw [show thrP [0] (a_row K x kk y) = Sum.inr 0 by rw [ha]; rfl]
    refine into (D := 5) (by omega) hM_164 (rcv_mk rfl (by decide)) rfl fun d hd => ?_
    show runP MP d 164 (0, [some (.ref 16), some (.int (zI x)), some (.long (zJ kk)), none, some (.int (zI y))], [], _) = _
    rw [q_164_0]; (try simp only [↓n_cI, li_0, li_1, li_12, li_14, li_121, lj_0, lj_1, lj_12, zJ_add, zJ_sub, zJ_mul, zJ_neg, zJ_l2i, zI_add, zI_sub, zI_mul, zI_neg, ↓Option.bind_some]); simp (disch := (first | assumption | exact tI_rg _ | omega | exact uR_at | exact row_ne hF (by decide) | exact row_ne (row_ne hF (by decide)) (by decide) | exact SnS_18 | exact SnS_30 | exact LdS_44 | exact LdS_46)) only [q_164_25, ↓cc_127f hO, thr_eq, ↓n_cI, li_0, li_1, li_12, li_14, li_121, lj_0, lj_1, lj_12, zJ_add, zJ_sub, zJ_mul, zJ_neg, zJ_l2i, tJ_zJ, zI_add, zI_sub, zI_mul, zI_neg, ↓Option.bind_some, ↓g11_12, zIt2, uR_at, uR_ne, uR_uR, uC_uC, uC_at, ↓reduceIte, decide_eq_true_eq, leT, leF, ltT, ltF, eqT, eqF, ne_eq, not_true_eq_false, not_false_eq_true, Bool.false_eq_true, tI_zI]
end S94zzzze
