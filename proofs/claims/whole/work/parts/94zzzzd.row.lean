/-! CLASS: the place of a row -/
section S94zzzzd
set_option linter.unusedVariables false
set_option linter.unusedSimpArgs false
/-- the rest of a row from a code on -/
def rwT (K : Int → Int32) (n : Nat) (sw nd st : Nat → Nat) (u : Int) (c : Nat) (x : Int) (j : Nat) : Int := RMz K (tdx nd n (encN nd st n - c)) (whx n nd (fgS K sw) (tgS K sw) u c) (lfC n sw nd st c) x j
theorem sumN_s (f : Nat → Int) (n : Nat) : sumN f (n + 1) = sumN f n + f n := rfl
theorem pk_row {d : Nat} {E : EnQ} {F : Nat → Int → Int32} {G : Nat → Int → Int64} {K : Int → Int32} {pl n : Nat} {sw nd st : Nat → Nat} {c i : Nat} {u x kk m : Int} {r : Int → Int32} {g h : Int → Int64} {z11 z12 : Option Value} (hT : TrX E F K pl n sw nd st) (hg : CmD n nd st (fgS K sw) (tgS K sw) u g) (hr : ∀ x : Nat, x ≤ encN nd st n → 0 < tJ (g x) → tI (r x) = whx n nd (fgS K sw) (tgS K sw) u x) (hh : GoI n nd st (fgS K sw) (tgS K sw) u g h 0)
      (hc : c < encN nd st n) (hvc : Vdx n nd st c) (hw : 0 < tJ (g (c : Int))) (hx : 0 ≤ x ∧ x < gxN n nd st (fgS K sw) (tgS K sw) u c) (hm : 0 ≤ m ∧ m ≤ 100) (hd : 4 ≤ d) :
    ∃ c' x' y9 y10 y11 y12, runP MP d 87 (34, [some (.ref 178), some (.int (zI u)), some (.long (zJ kk)), none, some (.int (zI (i : Int))), some (.long (zJ x)), none, some (.int (zI (c : Int))), some (.int (zI m)), some (.int (zI (-1))), some (.int (zI 0)), z11, z12, none], [], mk E (uR F 191 r) (uR (uR G 189 g) 190 h)) = runP MP d 87 (21, [some (.ref 178), some (.int (zI u)), some (.long (zJ kk)), none, some (.int (zI (i : Int))), some (.long (zJ x')), none, some (.int (zI ((c' : Nat) : Int))), some (.int (zI (m + 1))), y9, y10, y11, y12, none], [], mk E (uR F 191 r) (uR (uR G 189 g) 190 h)) ∧ c' ≤ encN nd st n ∧ Vdx n nd st c' ∧ 0 < tJ (g (c' : Int)) ∧ (0 ≤ x' ∧ x' < gxN n nd st (fgS K sw) (tgS K sw) u c') ∧ tdx nd n (encN nd st n - c) = tdx nd n (encN nd st n - c') + 1 ∧ ∀ j, rwT K n sw nd st u c x (j + 1) = rwT K n sw nd st u c' x' j := by
  have hT' := TrX_191 (r := r) hT
  obtain ⟨hq, ⟨t1, t2, t3⟩, hR, hP, hpl, hI, hS⟩ := hT
  have h16 := Sx_16 hS
  have hfl := Sx_full hS
  have hn := Sx_n hS
  have h14 := hS.2.2.1
  have hst : ∀ t, t < n → st t < 2 ^ nd t := fun t ht => (hS.1 t ht).2.2.1
  have hb1 := hI.1.2.1
  have hs2 := hP.1
  have e1 : tI (F pl 1) = tI (K 1) := by rw [hR.1.2.1]
  have hwh := hr c (by omega) hw
  have hbd := gx_bd (fr := fgS K sw) (to := tgS K sw) (u := u) hS (show c < 2 ^ shN nd n by omega) hvc
  obtain ⟨k, hk⟩ : ∃ k, tdx nd n (encN nd st n - c) = k + 1 := ⟨tdx nd n (encN nd st n - c) - 1, by have := tdx_pos (nd := nd) (n := n) (x := encN nd st n - c) (by omega) (by omega); omega⟩
  obtain ⟨v, hv⟩ : ∃ v, v = whx n nd (fgS K sw) (tgS K sw) u c := ⟨_, rfl⟩
  obtain ⟨cn, hcn⟩ : ∃ cn, cn = ctM K k v (lfC n sw nd st c) := ⟨_, rfl⟩
  have hgx : gxN n nd st (fgS K sw) (tgS K sw) u c = sumN cn (tI (K 1)).toNat := by
    rw [gx_NM hI hS (by omega) hvc, hk, NMz_s, hcn, hv]
  have hnn : ∀ t, 0 ≤ cn t := fun t => by rw [hcn]; exact ctM_nn
  obtain ⟨q0, hq0, hq1, hq2⟩ : ∃ q0 : Nat, fndN (fun q => decide (x < sumN cn (q + 1))) (tI (K 1)).toNat 0 = (q0 : Int) ∧ (q0 < (tI (K 1)).toNat ∧ x < sumN cn (q0 + 1)) ∧ sumN cn q0 ≤ x := by
    rcases fndN_is (fun q => decide (x < sumN cn (q + 1))) (tI (K 1)).toNat 0 with ⟨-, z⟩ | ⟨q0, -, z2, z3, z4, z5⟩
    · exfalso
      have hP1 : 0 < (tI (K 1)).toNat := by
        refine Nat.pos_of_ne_zero (fun z0 => ?_)
        rw [hgx, z0] at hx
        have : sumN cn 0 = 0 := rfl
        omega
      have := z ((tI (K 1)).toNat - 1) (by omega) (by omega)
      rw [show (tI (K 1)).toNat - 1 + 1 = (tI (K 1)).toNat by omega] at this
      exact of_decide_eq_false this (by rw [← hgx]; exact hx.2)
    · refine ⟨q0, z3, ⟨by omega, of_decide_eq_true z4⟩, ?_⟩
      by_cases e : q0 = 0
      · rw [e]; exact hx.1
      · have := z5 (q0 - 1) (by omega) (by omega)
        rw [show q0 - 1 + 1 = q0 by omega] at this
        have := of_decide_eq_false this
        omega
  have hsl : ∀ t : Nat, (fndN (slB K sw nd st c v t) n 0 = -1 ∧ cn t = 0) ∨ ∃ s, s < n ∧ fndN (slB K sw nd st c v t) n 0 = (s : Int) ∧ (v = fgS K sw s ∧ dgN nd c s < st s ∧ tgS K sw s = t) ∧ wayZ K v t = (sw s : Int) ∧ cn t = gxN n nd st (fgS K sw) (tgS K sw) u (c + 2 ^ shN nd s) := fun t => by
    rw [hcn]; exact ct_sl hI hS hv hc hvc hk
  have c89 : ∀ (t : Nat), (t : Int) < 100 → ∀ {kk : Int → HeapP → ResP} {kx : Nat → HeapP → ResP}, cT (callP MP d 89 [.ref 178, .int (zI (c : Int)), .int (zI (t : Int))] (mk E (uR F 191 r) (uR (uR G 189 g) 190 h))) kk kx = kk (fndN (slB K sw nd st c v t) n 0) (mk E (uR F 191 r) (uR (uR G 189 g) 190 h)) := fun t ht {kk kx} => by
    have hrg := fndN_rg (slB K sw nd st c v t) n 0
    exact cT_ret (ct_89 hT' (by omega) (by rw [uR_at, hwh, hv]) (by omega) (by omega)) (by omega)
  have hup : ∀ s, s < n → v = fgS K sw s ∧ dgN nd c s < st s → (c + 2 ^ shN nd s ≤ encN nd st n ∧ Vdx n nd st (c + 2 ^ shN nd s) ∧ 0 < dgN nd (c + 2 ^ shN nd s) s) ∧ c + 2 ^ shN nd s < 2 ^ shN nd n ∧ 0 < tJ (g ((c + 2 ^ shN nd s : Nat) : Int)) ∧ tJ (h ((c + 2 ^ shN nd s : Nat) : Int)) = gxN n nd st (fgS K sw) (tgS K sw) u (c + 2 ^ shN nd s) := fun s hs hm => by
    obtain ⟨y1, y2, y3⟩ := Vdx_add hst (by omega) hs hm.2 hvc
    have hyl := Sx_le hS y1 y2
    have hwy : 0 < tJ (g ((c + 2 ^ shN nd s : Nat) : Int)) := by
      rw [(hg _ hyl).1 y2]
      have h1 := (hg c (by omega)).1 hvc
      have h2 := Wx_up (n := n) (nd := nd) (fr := fgS K sw) (to := tgS K sw) (u := u) y1 hs (by omega) (by rw [← hv]; exact hm.1)
      omega
    exact ⟨⟨hyl, y2, by omega⟩, y1, hwy, (hh _ hyl).1 (Nat.zero_le _) hwy⟩
  have hsh : ∀ s, s < n → o_ishl (zI 1) (zI (shN nd s : Int)) = zI ((2 ^ shN nd s : Nat) : Int) := fun s hs => by
    have := shN_mono (nd := nd) (s := s) (n := n) (by omega)
    have h1 := shl1 (p := ((shN nd s : Nat) : Int)) (by omega)
    rw [show ((shN nd s : Nat) : Int).toNat = shN nd s by omega] at h1
    exact h1
  have hl : ∃ y11 y12, runP MP d 87 (34, [some (.ref 178), some (.int (zI u)), some (.long (zJ kk)), none, some (.int (zI (i : Int))), some (.long (zJ (x - sumN cn 0))), none, some (.int (zI (c : Int))), some (.int (zI m)), some (.int (zI (-1))), some (.int (zI ((0 : Nat) : Int))), z11, z12, none], [], mk E (uR F 191 r) (uR (uR G 189 g) 190 h)) = runP MP d 87 (34, [some (.ref 178), some (.int (zI u)), some (.long (zJ kk)), none, some (.int (zI (i : Int))), some (.long (zJ (x - sumN cn q0))), none, some (.int (zI (c : Int))), some (.int (zI m)), some (.int (zI (-1))), some (.int (zI (q0 : Int))), y11, y12, none], [], mk E (uR F 191 r) (uR (uR G 189 g) 190 h)) := by
    refine loopS (σ := Option Value × Option Value) (Post := fun rr => ∃ y11 y12, rr = runP MP d 87 (34, [some (.ref 178), some (.int (zI u)), some (.long (zJ kk)), none, some (.int (zI (i : Int))), some (.long (zJ (x - sumN cn q0))), none, some (.int (zI (c : Int))), some (.int (zI m)), some (.int (zI (-1))), some (.int (zI (q0 : Int))), y11, y12, none], [], mk E (uR F 191 r) (uR (uR G 189 g) 190 h)))
      (fun t s => runP MP d 87 (34, [some (.ref 178), some (.int (zI u)), some (.long (zJ kk)), none, some (.int (zI (i : Int))), some (.long (zJ (x - sumN cn t))), none, some (.int (zI (c : Int))), some (.int (zI m)), some (.int (zI (-1))), some (.int (zI (t : Int))), s.1, s.2, none], [], mk E (uR F 191 r) (uR (uR G 189 g) 190 h)))
      (fun _ _ => True) q0 (z11, z12) trivial (fun s _ => ⟨s.1, s.2, rfl⟩) (fun t s ht _ => ?_)
    right
    have hle := sumN_up (f := cn) (n := q0) (fun j _ => hnn j) (t + 1) (by omega)
    have h0 := sumN_nneg (f := cn) (n := t) (fun j _ => hnn j)
    rw [sumN_s] at hle
    have hnt := hnn t
    have c89t := fun {kk : Int → HeapP → ResP} {kx : Nat → HeapP → ResP} => c89 t (by omega) (kk := kk) (kx := kx)
    rcases hsl t with ⟨p1, p2⟩ | ⟨s0, p1, p2, p3, p4, p5⟩
    · rw [p1] at c89t
      refine ⟨(some (.int (zI (-1))), some (.long (zJ 0))), trivial, ?_⟩
      show runP MP d 87 _ = runP MP d 87 _
      have ex : x - sumN cn (t + 1) = x - sumN cn t - 0 := by rw [sumN_s, p2]; omega
      have hge : 0 ≤ x - sumN cn t := by omega
      rw [nsucc, ex]
      rw [q_87_34]; (try simp only [↓n_rd, ↓n_al, ↓n_alJ, ↓n_cI, ↓n_cJ, li_0, li_1, li_2, li_5, li_6, li_8, li_9, lj_0, lj_1, lj_2, lj_5, lj_6, lj_9, zJ_add, zJ_sub, zJ_mul, zJ_neg, zJ_l2i, zI_add, zI_sub, zI_mul, zI_neg, ↓Option.bind_some]); simp (disch := (first | assumption | exact tI_rg _ | omega | exact uR_at | exact row_ne hF (by decide) | exact row_ne (row_ne hF (by decide)) (by decide) | exact SnS_18 | exact SnS_30 | exact LdS_44 | exact LdS_46)) only [q_87_0, q_87_89, q_87_113, hq, e1, ↓c89t, cmpJ_ge, hge, ↓n_rd, ↓n_al, ↓n_alJ, ↓n_cI, ↓n_cJ, li_0, li_1, li_2, li_5, li_6, li_8, li_9, lj_0, lj_1, lj_2, lj_5, lj_6, lj_9, zJ_add, zJ_sub, zJ_mul, zJ_neg, zJ_l2i, tJ_zJ, zI_add, zI_sub, zI_mul, zI_neg, ↓Option.bind_some, ↓g2_1, ↓g6_0, ↓g6_5, ↓g6_8, ↓g6_9, ↓al_187, ↓as_187, ↓al_190, ↓as_190, ↓al_191, ↓as_191, zIt2, uR_at, uR_ne, uR_uR, uC_uC, uC_at, ↓reduceIte, decide_eq_true_eq, leT, leF, ltT, ltF, eqT, eqF, ne_eq, not_true_eq_false, not_false_eq_true, Bool.false_eq_true, tI_zI]
    · obtain ⟨⟨u1, u2, u3⟩, u4, u5, u6⟩ := hup s0 p1 ⟨p3.1, p3.2.1⟩
      rw [p2] at c89t
      have hs3 := (t3 s0 p1).2.2.1
      have hss := hsh s0 p1
      have hy : (c : Int) + ((2 ^ shN nd s0 : Nat) : Int) = ((c + 2 ^ shN nd s0 : Nat) : Int) := rfl
      have hv1 : 0 ≤ ((c + 2 ^ shN nd s0 : Nat) : Int) ∧ ((c + 2 ^ shN nd s0 : Nat) : Int) < 16384 := ⟨Int.natCast_nonneg _, Int.ofNat_lt.mpr (Nat.lt_of_lt_of_le u4 h16)⟩
      rw [← p5] at u6
      refine ⟨(some (.int (zI (s0 : Int))), some (.long (zJ (cn t)))), trivial, ?_⟩
      show runP MP d 87 _ = runP MP d 87 _
      have ex : x - sumN cn (t + 1) = x - sumN cn t - cn t := by rw [sumN_s]; omega
      have hge : cn t ≤ x - sumN cn t := by omega
      rw [nsucc, ex]
      rw [q_87_34]; (try simp only [↓n_rd, ↓n_al, ↓n_alJ, ↓n_cI, ↓n_cJ, li_0, li_1, li_2, li_5, li_6, li_8, li_9, lj_0, lj_1, lj_2, lj_5, lj_6, lj_9, zJ_add, zJ_sub, zJ_mul, zJ_neg, zJ_l2i, zI_add, zI_sub, zI_mul, zI_neg, ↓Option.bind_some]); simp (disch := (first | assumption | exact tI_rg _ | omega | exact uR_at | exact row_ne hF (by decide) | exact row_ne (row_ne hF (by decide)) (by decide) | exact SnS_18 | exact SnS_30 | exact LdS_44 | exact LdS_46)) only [q_87_0, q_87_89, q_87_113, hq, e1, ↓c89t, hs3, hss, hy, ↓al_190 hv1, ↓al_187, u6, cmpJ_ge, hge, ↓n_rd, ↓n_al, ↓n_alJ, ↓n_cI, ↓n_cJ, li_0, li_1, li_2, li_5, li_6, li_8, li_9, lj_0, lj_1, lj_2, lj_5, lj_6, lj_9, zJ_add, zJ_sub, zJ_mul, zJ_neg, zJ_l2i, tJ_zJ, zI_add, zI_sub, zI_mul, zI_neg, ↓Option.bind_some, ↓g2_1, ↓g6_0, ↓g6_5, ↓g6_8, ↓g6_9, ↓al_187, ↓as_187, ↓al_190, ↓as_190, ↓al_191, ↓as_191, zIt2, uR_at, uR_ne, uR_uR, uC_uC, uC_at, ↓reduceIte, decide_eq_true_eq, leT, leF, ltT, ltF, eqT, eqF, ne_eq, not_true_eq_false, not_false_eq_true, Bool.false_eq_true, tI_zI]
  obtain ⟨y11, y12, hl⟩ := hl
  have hc0 := sumN_nneg (f := cn) (n := q0) (fun j _ => hnn j)
  rcases hsl q0 with ⟨p1, p2⟩ | ⟨s0, p1, p2, p3, p4, p5⟩
  · exfalso
    have := hq1.2
    rw [sumN_s] at this
    omega
  · obtain ⟨⟨u1, u2, u3⟩, u4, u5, u6⟩ := hup s0 p1 ⟨p3.1, p3.2.1⟩
    have hlt := hq1.2
    rw [sumN_s] at hlt
    have hp : 0 < dgN nd (encN nd st n - c) s0 := by
      have := (dg_compl hst (show c < 2 ^ shN nd n by omega) hvc).2 s0 p1
      omega
    have ht := tdx_sub (nd := nd) (n := n) (x := encN nd st n - c) (s := s0) (by omega) p1 hp
    have hcc : encN nd st n - (c + 2 ^ shN nd s0) = encN nd st n - c - 2 ^ shN nd s0 := by omega
    refine ⟨c + 2 ^ shN nd s0, x - sumN cn q0, some (.int (zI (s0 : Int))), some (.int (zI ((q0 : Int) + 1))), some (.int (zI (s0 : Int))), some (.long (zJ (cn q0))), ?_, u1, u2, u5, ⟨by omega, by omega⟩, by rw [hcc]; exact ht, fun j => ?_⟩
    · have hl : runP MP d 87 (34, [some (.ref 178), some (.int (zI u)), some (.long (zJ kk)), none, some (.int (zI (i : Int))), some (.long (zJ (x - 0))), none, some (.int (zI (c : Int))), some (.int (zI m)), some (.int (zI (-1))), some (.int (zI 0)), z11, z12, none], [], mk E (uR F 191 r) (uR (uR G 189 g) 190 h)) = runP MP d 87 (34, [some (.ref 178), some (.int (zI u)), some (.long (zJ kk)), none, some (.int (zI (i : Int))), some (.long (zJ (x - sumN cn q0))), none, some (.int (zI (c : Int))), some (.int (zI m)), some (.int (zI (-1))), some (.int (zI (q0 : Int))), y11, y12, none], [], mk E (uR F 191 r) (uR (uR G 189 g) 190 h)) := hl
      rw [Int.sub_zero] at hl
      rw [hl]
      have c89t := fun {kk : Int → HeapP → ResP} {kx : Nat → HeapP → ResP} => c89 q0 (by omega) (kk := kk) (kx := kx)
      rw [p2] at c89t
      have hs3 := (t3 s0 p1).2.2.1
      have hss := hsh s0 p1
      have hy : (c : Int) + ((2 ^ shN nd s0 : Nat) : Int) = ((c + 2 ^ shN nd s0 : Nat) : Int) := rfl
      have hv1 : 0 ≤ ((c + 2 ^ shN nd s0 : Nat) : Int) ∧ ((c + 2 ^ shN nd s0 : Nat) : Int) < 16384 := ⟨Int.natCast_nonneg _, Int.ofNat_lt.mpr (Nat.lt_of_lt_of_le u4 h16)⟩
      rw [← p5] at u6
      have hge : ¬ cn q0 ≤ x - sumN cn q0 := by omega
      have hcb := sumN_le1 (f := cn) (k := q0) hq1.1 (fun j _ => hnn j)
      rw [← hgx] at hcb
      have hcn0 := hnn q0
      have h34 : runP MP d 87 (34, [some (.ref 178), some (.int (zI u)), some (.long (zJ kk)), none, some (.int (zI (i : Int))), some (.long (zJ (x - sumN cn q0))), none, some (.int (zI (c : Int))), some (.int (zI m)), some (.int (zI (-1))), some (.int (zI (q0 : Int))), y11, y12, none], [], mk E (uR F 191 r) (uR (uR G 189 g) 190 h)) = runP MP d 87 (34, [some (.ref 178), some (.int (zI u)), some (.long (zJ kk)), none, some (.int (zI (i : Int))), some (.long (zJ (x - sumN cn q0))), none, some (.int (zI (c : Int))), some (.int (zI m)), some (.int (zI (s0 : Int))), some (.int (zI ((q0 : Int) + 1))), some (.int (zI (s0 : Int))), some (.long (zJ (cn q0))), none], [], mk E (uR F 191 r) (uR (uR G 189 g) 190 h)) := by
        rw [q_87_34]; (try simp only [↓n_rd, ↓n_al, ↓n_alJ, ↓n_cI, ↓n_cJ, li_0, li_1, li_2, li_5, li_6, li_8, li_9, lj_0, lj_1, lj_2, lj_5, lj_6, lj_9, zJ_add, zJ_sub, zJ_mul, zJ_neg, zJ_l2i, zI_add, zI_sub, zI_mul, zI_neg, ↓Option.bind_some]); simp (disch := (first | assumption | exact tI_rg _ | omega | exact uR_at | exact row_ne hF (by decide) | exact row_ne (row_ne hF (by decide)) (by decide) | exact SnS_18 | exact SnS_30 | exact LdS_44 | exact LdS_46)) only [q_87_0, q_87_89, q_87_113, hq, e1, ↓c89t, hs3, hss, hy, ↓al_190 hv1, ↓al_187, u6, cmpJ_ge, hge, ↓n_rd, ↓n_al, ↓n_alJ, ↓n_cI, ↓n_cJ, li_0, li_1, li_2, li_5, li_6, li_8, li_9, lj_0, lj_1, lj_2, lj_5, lj_6, lj_9, zJ_add, zJ_sub, zJ_mul, zJ_neg, zJ_l2i, tJ_zJ, zI_add, zI_sub, zI_mul, zI_neg, ↓Option.bind_some, ↓g2_1, ↓g6_0, ↓g6_5, ↓g6_8, ↓g6_9, ↓al_187, ↓as_187, ↓al_190, ↓as_190, ↓al_191, ↓as_191, zIt2, uR_at, uR_ne, uR_uR, uC_uC, uC_at, ↓reduceIte, decide_eq_true_eq, leT, leF, ltT, ltF, eqT, eqF, ne_eq, not_true_eq_false, not_false_eq_true, Bool.false_eq_true, tI_zI]
      have h119 : runP MP d 87 (119, [some (.ref 178), some (.int (zI u)), some (.long (zJ kk)), none, some (.int (zI (i : Int))), some (.long (zJ (x - sumN cn q0))), none, some (.int (zI (c : Int))), some (.int (zI m)), some (.int (zI (s0 : Int))), some (.int (zI ((q0 : Int) + 1))), some (.int (zI (s0 : Int))), some (.long (zJ (cn q0))), none], [], mk E (uR F 191 r) (uR (uR G 189 g) 190 h)) = runP MP d 87 (21, [some (.ref 178), some (.int (zI u)), some (.long (zJ kk)), none, some (.int (zI (i : Int))), some (.long (zJ (x - sumN cn q0))), none, some (.int (zI ((c + 2 ^ shN nd s0 : Nat) : Int))), some (.int (zI (m + 1))), some (.int (zI (s0 : Int))), some (.int (zI ((q0 : Int) + 1))), some (.int (zI (s0 : Int))), some (.long (zJ (cn q0))), none], [], mk E (uR F 191 r) (uR (uR G 189 g) 190 h)) := by
        rw [q_87_119]; (try simp only [↓n_rd, ↓n_al, ↓n_alJ, ↓n_cI, ↓n_cJ, li_0, li_1, li_2, li_5, li_6, li_8, li_9, lj_0, lj_1, lj_2, lj_5, lj_6, lj_9, zJ_add, zJ_sub, zJ_mul, zJ_neg, zJ_l2i, zI_add, zI_sub, zI_mul, zI_neg, ↓Option.bind_some]); simp (disch := (first | assumption | exact tI_rg _ | omega | exact uR_at | exact row_ne hF (by decide) | exact row_ne (row_ne hF (by decide)) (by decide) | exact SnS_18 | exact SnS_30 | exact LdS_44 | exact LdS_46)) only [q_87_0, q_87_89, q_87_113, hs3, hss, hy, ↓al_187, ↓n_rd, ↓n_al, ↓n_alJ, ↓n_cI, ↓n_cJ, li_0, li_1, li_2, li_5, li_6, li_8, li_9, lj_0, lj_1, lj_2, lj_5, lj_6, lj_9, zJ_add, zJ_sub, zJ_mul, zJ_neg, zJ_l2i, tJ_zJ, zI_add, zI_sub, zI_mul, zI_neg, ↓Option.bind_some, ↓g2_1, ↓g6_0, ↓g6_5, ↓g6_8, ↓g6_9, ↓al_187, ↓as_187, ↓al_190, ↓as_190, ↓al_191, ↓as_191, zIt2, uR_at, uR_ne, uR_uR, uC_uC, uC_at, ↓reduceIte, decide_eq_true_eq, leT, leF, ltT, ltF, eqT, eqF, ne_eq, not_true_eq_false, not_false_eq_true, Bool.false_eq_true, tI_zI]
      rw [h34, ← h119]
      by_cases ce : tI (K 1) ≤ (q0 : Int) + 1
      · rw [q_87_34]; (try simp only [↓n_rd, ↓n_al, ↓n_alJ, ↓n_cI, ↓n_cJ, li_0, li_1, li_2, li_5, li_6, li_8, li_9, lj_0, lj_1, lj_2, lj_5, lj_6, lj_9, zJ_add, zJ_sub, zJ_mul, zJ_neg, zJ_l2i, zI_add, zI_sub, zI_mul, zI_neg, ↓Option.bind_some]); simp (disch := (first | assumption | exact tI_rg _ | omega | exact uR_at | exact row_ne hF (by decide) | exact row_ne (row_ne hF (by decide)) (by decide) | exact SnS_18 | exact SnS_30 | exact LdS_44 | exact LdS_46)) only [q_87_0, q_87_89, q_87_113, hq, e1, ↓n_rd, ↓n_al, ↓n_alJ, ↓n_cI, ↓n_cJ, li_0, li_1, li_2, li_5, li_6, li_8, li_9, lj_0, lj_1, lj_2, lj_5, lj_6, lj_9, zJ_add, zJ_sub, zJ_mul, zJ_neg, zJ_l2i, tJ_zJ, zI_add, zI_sub, zI_mul, zI_neg, ↓Option.bind_some, ↓g2_1, ↓g6_0, ↓g6_5, ↓g6_8, ↓g6_9, ↓al_187, ↓as_187, ↓al_190, ↓as_190, ↓al_191, ↓as_191, zIt2, uR_at, uR_ne, uR_uR, uC_uC, uC_at, ↓reduceIte, decide_eq_true_eq, leT, leF, ltT, ltF, eqT, eqF, ne_eq, not_true_eq_false, not_false_eq_true, Bool.false_eq_true, tI_zI]
      · rw [q_87_34]; (try simp only [↓n_rd, ↓n_al, ↓n_alJ, ↓n_cI, ↓n_cJ, li_0, li_1, li_2, li_5, li_6, li_8, li_9, lj_0, lj_1, lj_2, lj_5, lj_6, lj_9, zJ_add, zJ_sub, zJ_mul, zJ_neg, zJ_l2i, zI_add, zI_sub, zI_mul, zI_neg, ↓Option.bind_some]); simp (disch := (first | assumption | exact tI_rg _ | omega | exact uR_at | exact row_ne hF (by decide) | exact row_ne (row_ne hF (by decide)) (by decide) | exact SnS_18 | exact SnS_30 | exact LdS_44 | exact LdS_46)) only [q_87_0, q_87_89, q_87_113, hq, e1, ↓n_rd, ↓n_al, ↓n_alJ, ↓n_cI, ↓n_cJ, li_0, li_1, li_2, li_5, li_6, li_8, li_9, lj_0, lj_1, lj_2, lj_5, lj_6, lj_9, zJ_add, zJ_sub, zJ_mul, zJ_neg, zJ_l2i, tJ_zJ, zI_add, zI_sub, zI_mul, zI_neg, ↓Option.bind_some, ↓g2_1, ↓g6_0, ↓g6_5, ↓g6_8, ↓g6_9, ↓al_187, ↓as_187, ↓al_190, ↓as_190, ↓al_191, ↓as_191, zIt2, uR_at, uR_ne, uR_uR, uC_uC, uC_at, ↓reduceIte, decide_eq_true_eq, leT, leF, ltT, ltF, eqT, eqF, ne_eq, not_true_eq_false, not_false_eq_true, Bool.false_eq_true, tI_zI]
    · unfold rwT
      rw [hk, ← hv]
      show RMz K k (fndN (fun q => decide (x < sumN (ctM K k v (lfC n sw nd st c)) (q + 1))) (tI (K 1)).toNat 0) (dcW (lfC n sw nd st c) (wayZ K v (fndN (fun q => decide (x < sumN (ctM K k v (lfC n sw nd st c)) (q + 1))) (tI (K 1)).toNat 0))) (x - sumN (ctM K k v (lfC n sw nd st c)) (fndN (fun q => decide (x < sumN (ctM K k v (lfC n sw nd st c)) (q + 1))) (tI (K 1)).toNat 0).toNat) j = _
      rw [← hcn, hq0, p4, show ((q0 : Nat) : Int).toNat = q0 by omega, ← lfC_dc hS (by omega) hvc p1 p3.2.1, hcc, whx_add u4 p1 u3, ← hv, p3.1, show fgS K sw s0 + (tgS K sw s0 - fgS K sw s0) = tgS K sw s0 by omega, p3.2.2, show tdx nd n (encN nd st n - c - 2 ^ shN nd s0) = k by omega]
end S94zzzzd
