/-! CLASS: sure, 2 -/
section S94zzzzg
set_option linter.unusedVariables false
set_option linter.unusedSimpArgs false
theorem Tx_sum {K : Int → Int32} (hI : InvK K) {w : Nat → Int} {k n : Nat} {sw nd st : Nat → Nat} {u : Int} (hw : ∀ i, i < k + 1 → 0 ≤ w i ∧ w i < 2 * tI (K 2)) (hS : SxI K n sw nd st) (h : SlI (bgN w (k + 1)) 32 n sw nd st) : NMz K (k + 1) u (lfW w (k + 1)) = sumN (Tx n nd (fgS K sw) (tgS K sw) u (encN nd st n)) n := by
  have htd := td_full hw hI.1.2.2.1.2 hS h
  rw [← W_full hI hw hS h, ← Wx_last (Sx_full hS) (fun z => by rw [z, tdx_0] at htd; omega)]
theorem on_next {b : Nat → Int} {sw : Nat → Nat} {s : Nat} {o : Int} (ho : OnI b sw s o) (hb : b s ≤ 0) : OnI b sw (s + 1) o := by
  rcases ho with ⟨h3, h4⟩ | ⟨t, h3, h4, h5, h6⟩
  · refine Or.inl ⟨h3, fun t ht => ?_⟩
    by_cases z : t = s
    · rw [z]; exact hb
    · exact h4 t (by omega)
  · refine Or.inr ⟨t, by omega, h4, h5, fun j hj hjt => ?_⟩
    by_cases z : j = s
    · rw [z]; exact hb
    · exact h6 j (by omega) hjt
theorem ct_91 {d : Nat} {E : EnQ} {F : Nat → Int → Int32} {G : Nat → Int → Int64} {K : Int → Int32} {pl n k : Nat} {sw nd st : Nat → Nat} {w : Nat → Int} {u : Int} (hT : TrX E F K pl n sw nd st) (hSl : SlI (bgN w k) 32 n sw nd st) (hw : ∀ i, i < k → 0 ≤ w i ∧ w i < 2 * tI (K 2)) (hu : 0 ≤ u ∧ u < 100) (hd : 4 + 1 ≤ d) :
    ∃ r g, callP MP d 91 [.ref 178, .int (zI u)] (mk E F G) = some (Sum.inl (some (.int (zI (suZ (fun v => NLM K k u (lfW w k) (-1) v) (NMz K k u (lfW w k)))))), mk E (uR F 191 r) (uR G 189 g)) := by
  have hT0 := hT
  obtain ⟨r, g, q1, q2, q3⟩ := ct_85 (d := d - 1) (E := E) (F := F) (G := G) (a := 189) hT (Or.inl rfl) hu (by omega)
  have hT' := TrX_191 (r := r) hT
  obtain ⟨hq, ⟨t1, t2, t3⟩, hR, hP, hpl, hI, hS⟩ := hT
  have h16 := Sx_16 hS
  have hfl := Sx_full hS
  have hn := Sx_n hS
  have hb2 := hI.1.2.2.1
  have htd := td_full hw hb2.2 hS hSl
  refine ⟨r, g, ?_⟩
  obtain ⟨e, rfl⟩ : ∃ e, d = e + 1 := ⟨d - 1, by omega⟩
  have hin : callP MP (e + 1) 91 [.ref 178, .int (zI u)] (mk E F G) = runP MP e 91 (0, [some (.ref 178), some (.int (zI u)), none, none, none], [], mk E F G) := into_eq (by omega) hM_91 (rcv_mk rfl (by decide)) rfl
  have q1 : callP MP e 85 [.ref 178, .int (zI u), .ref 189] (mk E F G) = some (Sum.inl none, mk E (uR F 191 r) (uR G 189 g)) := q1
  have c85 : ∀ {kk : HeapP → ResP} {kx : Nat → HeapP → ResP}, cV (callP MP e 85 [.ref 178, .int (zI u), .ref 189] (mk E F G)) kk kx = kk (mk E (uR F 191 r) (uR G 189 g)) := fun {kk kx} => cV_ret q1
  rw [hin]
  obtain ⟨Z, hZ⟩ : ∃ Z, Z = suZ (fun v => NLM K k u (lfW w k) (-1) v) (NMz K k u (lfW w k)) := ⟨_, rfl⟩
  rw [← hZ]
  have hfin : ∀ o, OnI (Tx n nd (fgS K sw) (tgS K sw) u (encN nd st n)) sw n o → Z = o := fun o ho => by
    cases k with
    | zero =>
      have hn0 : n = 0 := by
        refine Classical.byContradiction (fun z => ?_)
        have h5 := hSl.2.2.2.2
        rw [bg_sum (fun i hi => by omega)] at h5
        have h6 := sumN_le1 (f := fun s => (st s : Int)) (n := n) (k := 0) (by omega) (fun _ _ => Int.natCast_nonneg _)
        have h7 := (hS.1 0 (by omega)).2.1
        omega
      rw [hZ, (su_0 (K := K) (u := u) (lf := lfW w 0)).2]
      rcases ho with ⟨h3, -⟩ | ⟨t, h3, -⟩
      · exact h3.symm
      · omega
    | succ k =>
      rw [hZ]
      exact one_su (b := Tx n nd (fgS K sw) (tgS K sw) u (encN nd st n)) (sw := sw) (n := n) (fun _ _ => Tx_nn) (fun t ht => by have := (hS.1 t ht).1; omega) (fun t ht => last_at hI hw hS hSl ht) (fun v hv hn => (hist_out hI hSl hv hn).2) (Tx_sum hI hw hS hSl) ho
  have htwo : ∀ s t, s < n → t < n → s ≠ t → 0 < Tx n nd (fgS K sw) (tgS K sw) u (encN nd st n) s → 0 < Tx n nd (fgS K sw) (tgS K sw) u (encN nd st n) t → Z = -1 := fun s t hs ht hne hbs hbt => by
    cases k with
    | zero =>
      rw [hZ, (su_0 (K := K) (u := u) (lf := lfW w 0)).2]
    | succ k =>
      rw [hZ]
      exact two_su (b := Tx n nd (fgS K sw) (tgS K sw) u (encN nd st n)) (sw := sw) (n := n) (fun _ _ => Tx_nn) (fun t ht => last_at hI hw hS hSl ht) (fun v hv hn => (hist_out hI hSl hv hn).2) (Tx_sum hI hw hS hSl) hs ht hne hbs hbt
  have h0 : runP MP e 91 (0, [some (.ref 178), some (.int (zI u)), none, none, none], [], mk E F G) = runP MP e 91 (13, [some (.ref 178), some (.int (zI u)), some (.int (zI (-1))), some (.int (zI ((0 : Nat) : Int))), none], [], mk E (uR F 191 r) (uR G 189 g)) := by
    rw [show ((0 : Nat) : Int) = 0 from rfl]
    rw [q_91_0]; (try simp only [↓n_rd, ↓n_al, ↓n_alJ, ↓n_cI, li_0, li_1, li_2, li_3, li_5, li_6, li_7, li_13, lj_0, lj_1, lj_2, lj_3, lj_5, lj_6, zJ_add, zJ_sub, zJ_mul, zJ_neg, zJ_l2i, zI_add, zI_sub, zI_mul, zI_neg, ↓Option.bind_some]); simp (disch := (first | assumption | exact tI_rg _ | omega | exact uR_at | exact row_ne hF (by decide) | exact row_ne (row_ne hF (by decide)) (by decide) | exact SnS_18 | exact SnS_30 | exact LdS_44 | exact LdS_46)) only [q_91_77, ↓c85, ↓n_rd, ↓n_al, ↓n_alJ, ↓n_cI, li_0, li_1, li_2, li_3, li_5, li_6, li_7, li_13, lj_0, lj_1, lj_2, lj_3, lj_5, lj_6, zJ_add, zJ_sub, zJ_mul, zJ_neg, zJ_l2i, tJ_zJ, zI_add, zI_sub, zI_mul, zI_neg, ↓Option.bind_some, ↓g6_1, ↓g6_2, ↓g6_3, ↓g6_5, ↓g6_7, ↓al_185, ↓as_185, ↓al_187, ↓as_187, ↓al_189, ↓as_189, zIt2, uR_at, uR_ne, uR_uR, uC_uC, uC_at, ↓reduceIte, decide_eq_true_eq, leT, leF, ltT, ltF, eqT, eqF, ne_eq, not_true_eq_false, not_false_eq_true, Bool.false_eq_true, tI_zI]
  rw [h0]
  refine loopS (σ := Int × Option Value) (Post := fun rr => rr = some (Sum.inl (some (.int (zI Z))), mk E (uR F 191 r) (uR G 189 g)))
    (fun s o => runP MP e 91 (13, [some (.ref 178), some (.int (zI u)), some (.int (zI o.1)), some (.int (zI (s : Int))), o.2], [], mk E (uR F 191 r) (uR G 189 g)))
    (fun s o => OnI (Tx n nd (fgS K sw) (tgS K sw) u (encN nd st n)) sw s o.1) n (-1, none) (Or.inl ⟨rfl, fun t h => by omega⟩) (fun o ho => ?_) (fun s o hs ho => ?_)
  · rw [hfin o.1 ho]
    show runP MP e 91 _ = _
    rw [q_91_13]; (try simp only [↓n_rd, ↓n_al, ↓n_alJ, ↓n_cI, li_0, li_1, li_2, li_3, li_5, li_6, li_7, li_13, lj_0, lj_1, lj_2, lj_3, lj_5, lj_6, zJ_add, zJ_sub, zJ_mul, zJ_neg, zJ_l2i, zI_add, zI_sub, zI_mul, zI_neg, ↓Option.bind_some]); simp (disch := (first | assumption | exact tI_rg _ | omega | exact uR_at | exact row_ne hF (by decide) | exact row_ne (row_ne hF (by decide)) (by decide) | exact SnS_18 | exact SnS_30 | exact LdS_44 | exact LdS_46)) only [q_91_0, q_91_77, t1, ↓n_rd, ↓n_al, ↓n_alJ, ↓n_cI, li_0, li_1, li_2, li_3, li_5, li_6, li_7, li_13, lj_0, lj_1, lj_2, lj_3, lj_5, lj_6, zJ_add, zJ_sub, zJ_mul, zJ_neg, zJ_l2i, tJ_zJ, zI_add, zI_sub, zI_mul, zI_neg, ↓Option.bind_some, ↓g6_1, ↓g6_2, ↓g6_3, ↓g6_5, ↓g6_7, ↓al_185, ↓as_185, ↓al_187, ↓as_187, ↓al_189, ↓as_189, zIt2, uR_at, uR_ne, uR_uR, uC_uC, uC_at, ↓reduceIte, decide_eq_true_eq, leT, leF, ltT, ltF, eqT, eqF, ne_eq, not_true_eq_false, not_false_eq_true, Bool.false_eq_true, tI_zI]
  · obtain ⟨s1, s2, s3, s4⟩ := t3 s hs
    obtain ⟨f1, f2, f3, f4, f5⟩ := hS.1 s hs
    have hp : 0 < dgN nd (encN nd st n) s := by rw [dg_full hS hs]; exact f2
    obtain ⟨z1, z2⟩ := dg_sub hfl hs hp
    obtain ⟨a, ha⟩ : ∃ a, a = encN nd st n - 2 ^ shN nd s := ⟨_, rfl⟩
    have hal : a ≤ encN nd st n := by rw [ha]; exact Nat.sub_le _ _
    have hva : Vdx n nd st a := by rw [ha]; exact Vdx_sub hfl hs hp (V_full hS)
    have hda : dgN nd a s < st s := by
      rw [ha, z2 s hs, show dec1 (dgN nd (encN nd st n)) s s = dgN nd (encN nd st n) s - 1 from if_pos rfl, dg_full hS hs]; omega
    have hsub : (encN nd st n : Int) - ((2 ^ shN nd s : Nat) : Int) = (a : Int) := by omega
    have hsh : shN nd s ≤ shN nd n := shN_mono (by omega)
    have h14 := hS.2.2.1
    have hsl := shl1 (p := ((shN nd s : Nat) : Int)) (by omega)
    rw [show ((shN nd s : Nat) : Int).toNat = shN nd s by omega] at hsl
    have hv1 : 0 ≤ (a : Int) ∧ (a : Int) < 16384 := by clear ha hsub; omega
    have hrgg := tJ_rg (g (a : Int))
    have hga := (q2 a hal).1 hva
    have eT : Tx n nd (fgS K sw) (tgS K sw) u (encN nd st n) s = if whx n nd (fgS K sw) (tgS K sw) u a = fgS K sw s then tJ (g (a : Int)) else 0 := by
      unfold Tx
      rw [← ha, hga]
      by_cases c : whx n nd (fgS K sw) (tgS K sw) u a = fgS K sw s
      · rw [if_pos ⟨hp, c⟩, if_pos c]
      · rw [if_neg (fun z => c z.2), if_neg c]
    have hor : o.1 = -1 ∨ (0 ≤ o.1 ∧ o.1 < 32) := by
      rcases ho with ⟨h3, -⟩ | ⟨t, h3, h4, -⟩
      · exact Or.inl h3
      · have := (hS.1 t (by omega)).1; right; omega
    by_cases c0 : tJ (g (a : Int)) ≤ 0
    · right
      refine ⟨(o.1, some (.int (zI (a : Int)))), on_next ho (by rw [eT]; split <;> omega), ?_⟩
      show runP MP e 91 _ = runP MP e 91 _
      rw [nsucc]
      rw [q_91_13]; (try simp only [↓n_rd, ↓n_al, ↓n_alJ, ↓n_cI, li_0, li_1, li_2, li_3, li_5, li_6, li_7, li_13, lj_0, lj_1, lj_2, lj_3, lj_5, lj_6, zJ_add, zJ_sub, zJ_mul, zJ_neg, zJ_l2i, zI_add, zI_sub, zI_mul, zI_neg, ↓Option.bind_some]); simp (disch := (first | assumption | exact tI_rg _ | omega | exact uR_at | exact row_ne hF (by decide) | exact row_ne (row_ne hF (by decide)) (by decide) | exact SnS_18 | exact SnS_30 | exact LdS_44 | exact LdS_46)) only [q_91_0, q_91_77, t1, t2, s1, s3, hsl, hsub, ↓al_189 hv1, ↓al_187, ↓al_185, cmpJ_le, c0, ↓n_rd, ↓n_al, ↓n_alJ, ↓n_cI, li_0, li_1, li_2, li_3, li_5, li_6, li_7, li_13, lj_0, lj_1, lj_2, lj_3, lj_5, lj_6, zJ_add, zJ_sub, zJ_mul, zJ_neg, zJ_l2i, tJ_zJ, zI_add, zI_sub, zI_mul, zI_neg, ↓Option.bind_some, ↓g6_1, ↓g6_2, ↓g6_3, ↓g6_5, ↓g6_7, ↓al_185, ↓as_185, ↓al_187, ↓as_187, ↓al_189, ↓as_189, zIt2, uR_at, uR_ne, uR_uR, uC_uC, uC_at, ↓reduceIte, decide_eq_true_eq, leT, leF, ltT, ltF, eqT, eqF, ne_eq, not_true_eq_false, not_false_eq_true, Bool.false_eq_true, tI_zI]
    · have hwa := q3 a hal (Int.not_le.mp c0)
      by_cases c1 : whx n nd (fgS K sw) (tgS K sw) u a = fgS K sw s
      · rw [if_pos c1] at eT
        have c86 : ∀ {kk : Int → HeapP → ResP} {kx : Nat → HeapP → ResP}, cT (callP MP e 86 [.ref 178, .int (zI (a : Int)), .int (zI (s : Int))] (mk E (uR F 191 r) (uR G 189 g))) kk kx = kk 1 (mk E (uR F 191 r) (uR G 189 g)) := fun {kk kx} => by
          rw [cc_86 hT' (Nat.lt_of_le_of_lt hal hfl) hs (by omega), if_pos ⟨by rw [uR_at, hwa]; exact c1.symm, hda⟩]
        by_cases c3 : o.1 = -1
        · right
          refine ⟨((sw s : Int), some (.int (zI (a : Int)))), ?_, ?_⟩
          · rcases ho with ⟨h3, h4⟩ | ⟨t, h3, h4, h5, h6⟩
            · exact Or.inr ⟨s, by omega, rfl, by rw [eT]; omega, fun j hj hjs => h4 j (by omega)⟩
            · omega
          · show runP MP e 91 _ = runP MP e 91 _
            rw [nsucc]
            rw [q_91_13]; (try simp only [↓n_rd, ↓n_al, ↓n_alJ, ↓n_cI, li_0, li_1, li_2, li_3, li_5, li_6, li_7, li_13, lj_0, lj_1, lj_2, lj_3, lj_5, lj_6, zJ_add, zJ_sub, zJ_mul, zJ_neg, zJ_l2i, zI_add, zI_sub, zI_mul, zI_neg, ↓Option.bind_some]); simp (disch := (first | assumption | exact tI_rg _ | omega | exact uR_at | exact row_ne hF (by decide) | exact row_ne (row_ne hF (by decide)) (by decide) | exact SnS_18 | exact SnS_30 | exact LdS_44 | exact LdS_46)) only [q_91_0, q_91_77, t1, t2, s1, s3, hsl, hsub, ↓c86, ↓al_189 hv1, ↓al_187, ↓al_185, cmpJ_le, c0, c3, ↓n_rd, ↓n_al, ↓n_alJ, ↓n_cI, li_0, li_1, li_2, li_3, li_5, li_6, li_7, li_13, lj_0, lj_1, lj_2, lj_3, lj_5, lj_6, zJ_add, zJ_sub, zJ_mul, zJ_neg, zJ_l2i, tJ_zJ, zI_add, zI_sub, zI_mul, zI_neg, ↓Option.bind_some, ↓g6_1, ↓g6_2, ↓g6_3, ↓g6_5, ↓g6_7, ↓al_185, ↓as_185, ↓al_187, ↓as_187, ↓al_189, ↓as_189, zIt2, uR_at, uR_ne, uR_uR, uC_uC, uC_at, ↓reduceIte, decide_eq_true_eq, leT, leF, ltT, ltF, eqT, eqF, ne_eq, not_true_eq_false, not_false_eq_true, Bool.false_eq_true, tI_zI]
        · left
          have c4 : ¬ zI o.1 = zI (-1) := by rw [eqI (by omega)]; exact c3
          rw [show Z = -1 from by
            rcases ho with ⟨h3, h4⟩ | ⟨t, h3, h4, h5, h6⟩
            · exact absurd h3 c3
            · exact htwo t s (by omega) hs (by omega) h5 (by rw [eT]; omega)]
          show runP MP e 91 _ = _
          rw [q_91_13]; (try simp only [↓n_rd, ↓n_al, ↓n_alJ, ↓n_cI, li_0, li_1, li_2, li_3, li_5, li_6, li_7, li_13, lj_0, lj_1, lj_2, lj_3, lj_5, lj_6, zJ_add, zJ_sub, zJ_mul, zJ_neg, zJ_l2i, zI_add, zI_sub, zI_mul, zI_neg, ↓Option.bind_some]); simp (disch := (first | assumption | exact tI_rg _ | omega | exact uR_at | exact row_ne hF (by decide) | exact row_ne (row_ne hF (by decide)) (by decide) | exact SnS_18 | exact SnS_30 | exact LdS_44 | exact LdS_46)) only [q_91_0, q_91_77, t1, t2, s1, s3, hsl, hsub, ↓c86, ↓al_189 hv1, ↓al_187, ↓al_185, cmpJ_le, c0, c4, ↓n_rd, ↓n_al, ↓n_alJ, ↓n_cI, li_0, li_1, li_2, li_3, li_5, li_6, li_7, li_13, lj_0, lj_1, lj_2, lj_3, lj_5, lj_6, zJ_add, zJ_sub, zJ_mul, zJ_neg, zJ_l2i, tJ_zJ, zI_add, zI_sub, zI_mul, zI_neg, ↓Option.bind_some, ↓g6_1, ↓g6_2, ↓g6_3, ↓g6_5, ↓g6_7, ↓al_185, ↓as_185, ↓al_187, ↓as_187, ↓al_189, ↓as_189, zIt2, uR_at, uR_ne, uR_uR, uC_uC, uC_at, ↓reduceIte, decide_eq_true_eq, leT, leF, ltT, ltF, eqT, eqF, ne_eq, not_true_eq_false, not_false_eq_true, Bool.false_eq_true, tI_zI]
      · rw [if_neg c1] at eT
        have c86 : ∀ {kk : Int → HeapP → ResP} {kx : Nat → HeapP → ResP}, cT (callP MP e 86 [.ref 178, .int (zI (a : Int)), .int (zI (s : Int))] (mk E (uR F 191 r) (uR G 189 g))) kk kx = kk 0 (mk E (uR F 191 r) (uR G 189 g)) := fun {kk kx} => by
          rw [cc_86 hT' (Nat.lt_of_le_of_lt hal hfl) hs (by omega), if_neg (fun z => c1 (by have := z.1; rw [uR_at, hwa] at this; exact this.symm))]
        right
        refine ⟨(o.1, some (.int (zI (a : Int)))), on_next ho (by rw [eT]; omega), ?_⟩
        show runP MP e 91 _ = runP MP e 91 _
        rw [nsucc]
        rw [q_91_13]; (try simp only [↓n_rd, ↓n_al, ↓n_alJ, ↓n_cI, li_0, li_1, li_2, li_3, li_5, li_6, li_7, li_13, lj_0, lj_1, lj_2, lj_3, lj_5, lj_6, zJ_add, zJ_sub, zJ_mul, zJ_neg, zJ_l2i, zI_add, zI_sub, zI_mul, zI_neg, ↓Option.bind_some]); simp (disch := (first | assumption | exact tI_rg _ | omega | exact uR_at | exact row_ne hF (by decide) | exact row_ne (row_ne hF (by decide)) (by decide) | exact SnS_18 | exact SnS_30 | exact LdS_44 | exact LdS_46)) only [q_91_0, q_91_77, t1, t2, s1, s3, hsl, hsub, ↓c86, ↓al_189 hv1, ↓al_187, ↓al_185, cmpJ_le, c0, ↓n_rd, ↓n_al, ↓n_alJ, ↓n_cI, li_0, li_1, li_2, li_3, li_5, li_6, li_7, li_13, lj_0, lj_1, lj_2, lj_3, lj_5, lj_6, zJ_add, zJ_sub, zJ_mul, zJ_neg, zJ_l2i, tJ_zJ, zI_add, zI_sub, zI_mul, zI_neg, ↓Option.bind_some, ↓g6_1, ↓g6_2, ↓g6_3, ↓g6_5, ↓g6_7, ↓al_185, ↓as_185, ↓al_187, ↓as_187, ↓al_189, ↓as_189, zIt2, uR_at, uR_ne, uR_uR, uC_uC, uC_at, ↓reduceIte, decide_eq_true_eq, leT, leF, ltT, ltF, eqT, eqF, ne_eq, not_true_eq_false, not_false_eq_true, Bool.false_eq_true, tI_zI]
def hF1 (K : Int → Int32) (x v : Int) : Int := HFz K (tI (K 5)).toNat 0 x (lfK K) (-1) v
def hL1 (K : Int → Int32) (x v : Int) : Int := NLM K (tI (K 5)).toNat x (lfK K) (-1) v
def a_sure (K : Int → Int32) (x y : Int) : Int × Int := if 0 ≤ x ∧ x < tI (K 1) then (0, if tI (K 5) ≤ 14 then (if y = 0 then suZ (hL1 K x) (rwN K x) else suZ (hF1 K x) (rwN K x)) else -1) else (1, 0)
theorem su_rg {h : Int → Int} {N : Int} : -1 ≤ suZ h N ∧ suZ h N < 32 := by
  unfold suZ
  split
  · omega
  · have := fndN_rg (fun w : Nat => h (w : Int) == N) 32 0
    omega
theorem cl_sure {d : Nat} {E : EnQ} {F : Nat → Int → Int32} {G : Nat → Int → Int64} {K : Int → Int32} (hO : SnO E F 18 K) (hD : SepP E 18) {x y : Int} (hx : -2147483648 ≤ x ∧ x ≤ 2147483647) (hy : y = 0 ∨ y = 1) (hd : 6 + 1 ≤ d) : ∃ E1 F1 G1, callP MP d 165 [.ref 16, .int (zI x), .int (zI y)] (mk E F G) = some (thrP [0] (a_sure K x y), mk E1 F1 G1) ∧ KeepC E F G E1 F1 G1 := by
  have hI := hO.2.2.2.2
  have hb1 := hI.1.2.1
  have hb5 := hI.1.2.2.2.2.2.1
  have hb4 := hI.1.2.2.2.2.1
  by_cases c1 : 0 ≤ x ∧ x < tI (K 1)
  · by_cases c2 : tI (K 5) ≤ 14
    · obtain ⟨F1, r1, r2, n, sw, nd, st, r3, r4⟩ := ct_121 (d := d - 1) (E := E) (F := F) (G := G) (m := 14) hO hD (by omega) c2 (by omega)
      by_cases c3 : y = 0
      · have ha : a_sure K x y = (0, suZ (hL1 K x) (rwN K x)) := (if_pos c1).trans (by rw [if_pos c2, if_pos c3])
        obtain ⟨r, g, q1⟩ := ct_91 (d := d - 1) (E := uE E 178 0 (rfQ E 18 0)) (F := F1) (G := G) (u := x) r4 r3 (wK_in hI) (by omega) (by omega)
        refine ⟨uE E 178 0 (rfQ E 18 0), uR F1 191 r, uR G 189 g, ?_, ((r2.tr (KeepD_F scr191)).tr (KeepD_G (Or.inl rfl))).c⟩
        rw [show thrP [0] (a_sure K x y) = Sum.inl (some (.int (zI (suZ (hL1 K x) (rwN K x))))) by rw [ha]; rfl]
        obtain ⟨e, rfl⟩ : ∃ e, d = e + 1 := ⟨d - 1, by omega⟩
        have hin : callP MP (e + 1) 165 [.ref 16, .int (zI x), .int (zI y)] (mk E F G) = runP MP e 165 (0, [some (.ref 16), some (.int (zI x)), some (.int (zI y))], [], mk E F G) := into_eq (by omega) hM_165 (rcv_mk rfl (by decide)) rfl
        have hrg := su_rg (h := hL1 K x) (N := rwN K x)
        have c121 : ∀ {kk : Int → HeapP → ResP} {kx : Nat → HeapP → ResP}, cT (callP MP e 121 [.ref 16, .int (zI 14)] (mk E F G)) kk kx = kk 1 (mk (uE E 178 0 (rfQ E 18 0)) F1 G) := fun {kk kx} => cT_ret r1 (by omega)
        have c91 : ∀ {kk : Int → HeapP → ResP} {kx : Nat → HeapP → ResP}, cT (callP MP e 91 [.ref 178, .int (zI x)] (mk (uE E 178 0 (rfQ E 18 0)) F1 G)) kk kx = kk (suZ (hL1 K x) (rwN K x)) (mk (uE E 178 0 (rfQ E 18 0)) (uR F1 191 r) (uR G 189 g)) := fun {kk kx} => cT_ret q1 (by omega)
        rw [hin]
        rw [q_165_0]; (try simp only [↓n_cI, li_0, li_1, li_12, li_14, li_121, zI_add, zI_sub, zI_mul, zI_neg, ↓Option.bind_some]); simp (disch := (first | assumption | exact tI_rg _ | omega | exact uR_at | exact row_ne hF (by decide) | exact row_ne (row_ne hF (by decide)) (by decide) | exact SnS_18 | exact SnS_30 | exact LdS_44 | exact LdS_46)) only [q_165_39, ↓cc_127t hO, ↓c121, ↓c91, c3, ↓n_cI, li_0, li_1, li_12, li_14, li_121, zI_add, zI_sub, zI_mul, zI_neg, ↓Option.bind_some, ↓g11_12, zIt2, uR_at, uR_ne, uR_uR, uC_uC, uC_at, ↓reduceIte, decide_eq_true_eq, leT, leF, ltT, ltF, eqT, eqF, ne_eq, not_true_eq_false, not_false_eq_true, Bool.false_eq_true, tI_zI]
      · have ha : a_sure K x y = (0, suZ (hF1 K x) (rwN K x)) := (if_pos c1).trans (by rw [if_pos c2, if_neg c3])
        obtain ⟨r, g, h, q1⟩ := ct_90 (d := d - 1) (E := uE E 178 0 (rfQ E 18 0)) (F := F1) (G := G) (u := x) r4 r3 (wK_in hI) (by omega) (by omega)
        refine ⟨uE E 178 0 (rfQ E 18 0), uR F1 191 r, uR (uR G 189 g) 190 h, ?_, (((r2.tr (KeepD_F scr191)).tr (KeepD_G (Or.inl rfl))).tr (KeepD_G (Or.inr (Or.inl rfl)))).c⟩
        rw [show thrP [0] (a_sure K x y) = Sum.inl (some (.int (zI (suZ (hF1 K x) (rwN K x))))) by rw [ha]; rfl]
        obtain ⟨e, rfl⟩ : ∃ e, d = e + 1 := ⟨d - 1, by omega⟩
        have hin : callP MP (e + 1) 165 [.ref 16, .int (zI x), .int (zI y)] (mk E F G) = runP MP e 165 (0, [some (.ref 16), some (.int (zI x)), some (.int (zI y))], [], mk E F G) := into_eq (by omega) hM_165 (rcv_mk rfl (by decide)) rfl
        have hrg := su_rg (h := hF1 K x) (N := rwN K x)
        have c121 : ∀ {kk : Int → HeapP → ResP} {kx : Nat → HeapP → ResP}, cT (callP MP e 121 [.ref 16, .int (zI 14)] (mk E F G)) kk kx = kk 1 (mk (uE E 178 0 (rfQ E 18 0)) F1 G) := fun {kk kx} => cT_ret r1 (by omega)
        have c90 : ∀ {kk : Int → HeapP → ResP} {kx : Nat → HeapP → ResP}, cT (callP MP e 90 [.ref 178, .int (zI x)] (mk (uE E 178 0 (rfQ E 18 0)) F1 G)) kk kx = kk (suZ (hF1 K x) (rwN K x)) (mk (uE E 178 0 (rfQ E 18 0)) (uR F1 191 r) (uR (uR G 189 g) 190 h)) := fun {kk kx} => cT_ret q1 (by omega)
        rw [hin]
        rw [q_165_0]; (try simp only [↓n_cI, li_0, li_1, li_12, li_14, li_121, zI_add, zI_sub, zI_mul, zI_neg, ↓Option.bind_some]); simp (disch := (first | assumption | exact tI_rg _ | omega | exact uR_at | exact row_ne hF (by decide) | exact row_ne (row_ne hF (by decide)) (by decide) | exact SnS_18 | exact SnS_30 | exact LdS_44 | exact LdS_46)) only [q_165_39, ↓cc_127t hO, ↓c121, ↓c90, ↓n_cI, li_0, li_1, li_12, li_14, li_121, zI_add, zI_sub, zI_mul, zI_neg, ↓Option.bind_some, ↓g11_12, zIt2, uR_at, uR_ne, uR_uR, uC_uC, uC_at, ↓reduceIte, decide_eq_true_eq, leT, leF, ltT, ltF, eqT, eqF, ne_eq, not_true_eq_false, not_false_eq_true, Bool.false_eq_true, tI_zI]
    · have ha : a_sure K x y = (0, -1) := (if_pos c1).trans (by rw [if_neg c2])
      refine ⟨E, F, G, ?_, KeepC_rf⟩
      rw [show thrP [0] (a_sure K x y) = Sum.inl (some (.int (zI (-1)))) by rw [ha]; rfl]
      have c121 : ∀ {d : Nat} {kk : Int → HeapP → ResP} {kx : Nat → HeapP → ResP}, 3 ≤ d → cT (callP MP d 121 [.ref 16, .int (zI 14)] (mk E F G)) kk kx = kk 0 (mk E F G) := fun {d kk kx} hd => cT_ret (ct_121f hO (by omega) c2 hd) (by omega)
      refine into (D := 5) (by omega) hM_165 (rcv_mk rfl (by decide)) rfl fun d hd => ?_
      show runP MP d 165 (0, [some (.ref 16), some (.int (zI x)), some (.int (zI y))], [], _) = _
      rw [q_165_0]; (try simp only [↓n_cI, li_0, li_1, li_12, li_14, li_121, zI_add, zI_sub, zI_mul, zI_neg, ↓Option.bind_some]); simp (disch := (first | assumption | exact tI_rg _ | omega | exact uR_at | exact row_ne hF (by decide) | exact row_ne (row_ne hF (by decide)) (by decide) | exact SnS_18 | exact SnS_30 | exact LdS_44 | exact LdS_46)) only [q_165_39, ↓cc_127t hO, ↓c121, ↓n_cI, li_0, li_1, li_12, li_14, li_121, zI_add, zI_sub, zI_mul, zI_neg, ↓Option.bind_some, ↓g11_12, zIt2, uR_at, uR_ne, uR_uR, uC_uC, uC_at, ↓reduceIte, decide_eq_true_eq, leT, leF, ltT, ltF, eqT, eqF, ne_eq, not_true_eq_false, not_false_eq_true, Bool.false_eq_true, tI_zI]
  · have ha : a_sure K x y = (1, 0) := if_neg c1
    refine ⟨jE E, F, G, ?_, KeepC_j⟩
    rw [show thrP [0] (a_sure K x y) = Sum.inr 0 by rw [ha]; rfl]
    refine into (D := 5) (by omega) hM_165 (rcv_mk rfl (by decide)) rfl fun d hd => ?_
    show runP MP d 165 (0, [some (.ref 16), some (.int (zI x)), some (.int (zI y))], [], _) = _
    rw [q_165_0]; (try simp only [↓n_cI, li_0, li_1, li_12, li_14, li_121, zI_add, zI_sub, zI_mul, zI_neg, ↓Option.bind_some]); simp (disch := (first | assumption | exact tI_rg _ | omega | exact uR_at | exact row_ne hF (by decide) | exact row_ne (row_ne hF (by decide)) (by decide) | exact SnS_18 | exact SnS_30 | exact LdS_44 | exact LdS_46)) only [q_165_39, ↓cc_127f hO, thr_eq, ↓n_cI, li_0, li_1, li_12, li_14, li_121, zI_add, zI_sub, zI_mul, zI_neg, ↓Option.bind_some, ↓g11_12, zIt2, uR_at, uR_ne, uR_uR, uC_uC, uC_at, ↓reduceIte, decide_eq_true_eq, leT, leF, ltT, ltF, eqT, eqF, ne_eq, not_true_eq_false, not_false_eq_true, Bool.false_eq_true, tI_zI]
end S94zzzzg
