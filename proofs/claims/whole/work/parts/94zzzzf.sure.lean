/-! CLASS: sure -/
section S94zzzzf
set_option linter.unusedVariables false
set_option linter.unusedSimpArgs false
/-- the way that all rows share -/
def suZ (h : Int → Int) (N : Int) : Int := if N = 0 then -1 else fndN (fun w : Nat => h (w : Int) == N) 32 0
theorem su_none {h : Int → Int} {N : Int} (hN : N = 0 ∨ ∀ w : Nat, w < 32 → h (w : Int) ≠ N) : suZ h N = -1 := by
  unfold suZ
  rcases hN with hN | hN
  · exact if_pos hN
  · split
    · rfl
    · exact fndN_none (fun i _ hi => beq_eq_false_iff_ne.mpr (hN i (by omega)))
theorem one_rest {b : Nat → Int} {n s : Nat} (hb : ∀ t, t < n → 0 ≤ b t) (hs : s < n) : ∀ t, t < n → t ≠ s → b s + b t ≤ sumN b n := fun t ht hts => by
  have e := sumN_congr (f := b) (g := fun j => (if j = s then b s else 0) + (if j = s then 0 else b j)) (n := n) (fun j _ => by
    by_cases z : j = s
    · show b j = (if j = s then b s else 0) + (if j = s then 0 else b j); rw [if_pos z, if_pos z, z]; omega
    · show b j = (if j = s then b s else 0) + (if j = s then 0 else b j); rw [if_neg z, if_neg z]; omega)
  rw [sumN_add, sumN_single (f := fun j => if j = s then b s else 0) hs (fun j _ h => if_neg h)] at e
  have h4 := sumN_le1 (f := fun j => if j = s then 0 else b j) ht (fun j hj => by show 0 ≤ (if j = s then 0 else b j); have := hb j hj; split <;> omega)
  have h5 : (if s = s then b s else 0) = b s := if_pos rfl
  have h6 : (if t = s then 0 else b t) = b t := if_neg hts
  have h4 : (if t = s then 0 else b t) ≤ sumN (fun j => if j = s then 0 else b j) n := h4
  have e : sumN b n = (if s = s then b s else 0) + sumN (fun j => if j = s then 0 else b j) n := e
  omega
/-- what is told of slots by how often -/
def OnI (b : Nat → Int) (sw : Nat → Nat) (s : Nat) (o : Int) : Prop := (o = -1 ∧ ∀ t, t < s → b t ≤ 0) ∨ ∃ t, t < s ∧ o = (sw t : Int) ∧ 0 < b t ∧ ∀ j, j < s → j ≠ t → b j ≤ 0
theorem one_su {b : Nat → Int} {sw : Nat → Nat} {n : Nat} {h : Int → Int} {N o : Int} (hb : ∀ t, t < n → 0 ≤ b t) (hsw : ∀ t, t < n → sw t < 32) (h1 : ∀ t, t < n → h (sw t : Int) = b t) (h2 : ∀ w : Nat, w < 32 → (∀ t, t < n → sw t ≠ w) → h (w : Int) = 0) (hN : N = sumN b n) (ho : OnI b sw n o) : suZ h N = o := by
  rcases ho with ⟨h3, h4⟩ | ⟨t, h3, h4, h5, h6⟩
  · rw [h3]
    exact su_none (Or.inl (by rw [hN]; exact sumN_z (fun t ht => by have := hb t ht; have := h4 t ht; omega)))
  · have eN : N = b t := by rw [hN]; exact sumN_single h3 (fun j hj hjt => by have := hb j hj; have := h6 j hj hjt; omega)
    unfold suZ
    rw [if_neg (by omega), h4]
    refine fndN_eq (Nat.zero_le _) (by have := hsw t h3; omega) (beq_iff_eq.mpr ((h1 t h3).trans eN.symm)) (fun i _ hi => beq_eq_false_iff_ne.mpr (fun z => ?_))
    by_cases c : ∃ j, j < n ∧ sw j = i
    · obtain ⟨j, hj, e⟩ := c
      rw [← e, h1 j hj] at z
      by_cases jt : j = t
      · rw [jt] at e; omega
      · have := h6 j hj jt; omega
    · rw [h2 i (by have := hsw t h3; omega) (fun j hj e => c ⟨j, hj, e⟩)] at z
      omega
theorem two_su {b : Nat → Int} {sw : Nat → Nat} {n s t : Nat} {h : Int → Int} {N : Int} (hb : ∀ t, t < n → 0 ≤ b t) (h1 : ∀ t, t < n → h (sw t : Int) = b t) (h2 : ∀ w : Nat, w < 32 → (∀ t, t < n → sw t ≠ w) → h (w : Int) = 0) (hN : N = sumN b n) (hs : s < n) (ht : t < n) (hst : s ≠ t) (hbs : 0 < b s) (hbt : 0 < b t) : suZ h N = -1 := by
  have hle := one_rest hb hs t ht (Ne.symm hst)
  refine su_none (Or.inr (fun w hw z => ?_))
  by_cases c : ∃ j, j < n ∧ sw j = w
  · obtain ⟨j, hj, e⟩ := c
    rw [← e, h1 j hj] at z
    by_cases js : j = s
    · subst js; omega
    · have := one_rest hb hj s hs (Ne.symm js)
      omega
  · rw [h2 w hw (fun j hj e => c ⟨j, hj, e⟩)] at z
    omega
theorem su_0 {K : Int → Int32} {u : Int} {lf : Int → Int} : suZ (fun w => HFz K 0 0 u lf (-1) w) (NMz K 0 u lf) = -1 ∧ suZ (fun w => NLM K 0 u lf (-1) w) (NMz K 0 u lf) = -1 := by
  refine ⟨su_none (Or.inr (fun w hw z => ?_)), su_none (Or.inr (fun w hw z => ?_))⟩
  · have e : (if (w : Int) = (if (0 : Nat) = 0 then -1 else -1) then (1 : Int) else 0) = 1 := z
    rw [if_pos rfl, if_neg (by omega)] at e; omega
  · have e : (if (-1 : Int) = (w : Int) then (1 : Int) else 0) = 1 := z
    rw [if_neg (by omega)] at e; omega
/-- by the first slot -/
theorem first_at {K : Int → Int32} (hI : InvK K) {w : Nat → Int} {k n : Nat} {sw nd st : Nat → Nat} {u : Int} (hw : ∀ i, i < k + 1 → 0 ≤ w i ∧ w i < 2 * tI (K 2)) (hS : SxI K n sw nd st) (h : SlI (bgN w (k + 1)) 32 n sw nd st) {s : Nat} (hs : s < n) : HFz K (k + 1) 0 u (lfW w (k + 1)) (-1) (sw s : Int) = goT n nd st (fgS K sw) (tgS K sw) u 0 s := by
  have hb2 := hI.1.2.2.1
  have hst : ∀ t, t < n → st t < 2 ^ nd t := fun t ht => (hS.1 t ht).2.2.1
  obtain ⟨f1, f2, f3, f4, f5⟩ := hS.1 s hs
  have hd0 : dgN nd 0 s < st s := by rw [dg_0]; exact f2
  obtain ⟨y1, y2, y3⟩ := Vdx_add (x := 0) hst (Nat.two_pow_pos _) hs hd0 Vdx_0
  rw [HFz_top hI]
  unfold goT
  rw [whx_0, Sl_st h hs]
  by_cases c : u = fgS K sw s
  · rw [if_pos ⟨⟨Int.natCast_nonneg _, f1⟩, c.symm, by omega⟩, if_pos ⟨c, hd0⟩, gx_NM hI hS y1 y2, whx_add y1 hs (by omega), whx_0, lfC_dc hS (Nat.two_pow_pos _) Vdx_0 hs hd0, lfC_0 hw hb2.2 hS h, c, show fgS K sw s + (tgS K sw s - fgS K sw s) = tgS K sw s by omega]
    have hfl := Sx_full hS
    have htd := td_full hw hb2.2 hS h
    have hp : 0 < dgN nd (encN nd st n) s := by rw [dg_full hS hs]; exact f2
    have := tdx_sub hfl hs hp
    rw [Nat.zero_add, show tdx nd n (encN nd st n - 2 ^ shN nd s) = k by omega]; rfl
  · rw [if_neg (fun z => c z.2.1.symm), if_neg (fun z => c z.1)]
theorem last_at {K : Int → Int32} (hI : InvK K) {w : Nat → Int} {k n : Nat} {sw nd st : Nat → Nat} {u : Int} (hw : ∀ i, i < k + 1 → 0 ≤ w i ∧ w i < 2 * tI (K 2)) (hS : SxI K n sw nd st) (h : SlI (bgN w (k + 1)) 32 n sw nd st) {s : Nat} (hs : s < n) : NLM K (k + 1) u (lfW w (k + 1)) (-1) (sw s : Int) = Tx n nd (fgS K sw) (tgS K sw) u (encN nd st n) s := by
  have hb2 := hI.1.2.2.1
  have hfl := Sx_full hS
  have htd := td_full hw hb2.2 hS h
  have e0 : NLM K (k + 1) u (lfW w (k + 1)) (-1) (sw s : Int) = NLM K (k + 1) u (lfW w (k + 1)) (sw s : Int) (sw s : Int) := rfl
  have e1 := NLM_NL hI (sw := fun s => (sw s : Int)) (k + 1) u (lfW w (k + 1)) s s (Sl_T hw hb2.2 hS h) hs hs
  have e2 := NL_congr (n := n) (fr := fgS K sw) (to := tgS K sw) (k + 1) u (fun s => lfW w (k + 1) (sw s : Int)) (cIx nd n (encN nd st n)) s s (fun t ht => by rw [cIx_in ht, dg_full hS ht]; exact Sl_st h ht)
  have e3 := NL_last (n := n) (fr := fgS K sw) (to := tgS K sw) k u (cIx nd n (encN nd st n)) s s hs (fun _ => cIx_nn) (fun t ht => cIx_out ht) (by rw [← tdx_i, htd])
  rw [e0]
  refine e1.trans (e2.trans (e3.trans ?_))
  have hp : 0 < dgN nd (encN nd st n) s := by rw [dg_full hS hs]; exact (hS.1 s hs).2.1
  have ht := tdx_sub hfl hs hp
  unfold Tx
  rw [cIx_in hs]
  unfold whx Wx
  rw [cIx_sub hfl hs hp, show tdx nd n (encN nd st n - 2 ^ shN nd s) = k by omega]
  by_cases c : whI n (fgS K sw) (tgS K sw) u (dcI (cIx nd n (encN nd st n)) s) = fgS K sw s
  · rw [if_pos ⟨by omega, c⟩, if_pos ⟨hp, c⟩]
  · rw [if_neg (fun z => c z.2), if_neg (fun z => c z.2)]
theorem hist_out {K : Int → Int32} (hI : InvK K) {w : Nat → Int} {k n : Nat} {sw nd st : Nat → Nat} {u : Int} (h : SlI (bgN w (k + 1)) 32 n sw nd st) {v : Nat} (hv : v < 32) (hn : ∀ t, t < n → sw t ≠ v) : HFz K (k + 1) 0 u (lfW w (k + 1)) (-1) (v : Int) = 0 ∧ NLM K (k + 1) u (lfW w (k + 1)) (-1) (v : Int) = 0 := by
  have hz : lfW w (k + 1) (v : Int) ≤ 0 := by
    have hb := bg_i (w := w) (k := k + 1) (v := v)
    by_cases c : 0 < bgN w (k + 1) v
    · obtain ⟨t, ht, e⟩ := h.2.2.1 v hv c
      exact absurd e (hn t ht)
    · omega
  refine ⟨?_, NLM_z _ _ _ _ _ (by omega) hz⟩
  rw [HFz_top hI]
  exact if_neg (fun z => by have := z.2.2; omega)
theorem ct_90 {d : Nat} {E : EnQ} {F : Nat → Int → Int32} {G : Nat → Int → Int64} {K : Int → Int32} {pl n k : Nat} {sw nd st : Nat → Nat} {w : Nat → Int} {u : Int} (hT : TrX E F K pl n sw nd st) (hSl : SlI (bgN w k) 32 n sw nd st) (hw : ∀ i, i < k → 0 ≤ w i ∧ w i < 2 * tI (K 2)) (hu : 0 ≤ u ∧ u < 100) (hd : 5 + 1 ≤ d) :
    ∃ r g h, callP MP d 90 [.ref 178, .int (zI u)] (mk E F G) = some (Sum.inl (some (.int (zI (suZ (fun v => HFz K k 0 u (lfW w k) (-1) v) (NMz K k u (lfW w k)))))), mk E (uR F 191 r) (uR (uR G 189 g) 190 h)) := by
  have hT0 := hT
  obtain ⟨r, g, h, q1, q2, q3, q4⟩ := ct_88 (d := d - 1) (E := E) (F := F) (G := G) hT hu (by omega)
  have hT' := TrX_191 (r := r) hT
  obtain ⟨hq, ⟨t1, t2, t3⟩, hR, hP, hpl, hI, hS⟩ := hT
  have h16 := Sx_16 hS
  have hfl := Sx_full hS
  have hn := Sx_n hS
  have hb2 := hI.1.2.2.1
  have hst : ∀ t, t < n → st t < 2 ^ nd t := fun t ht => (hS.1 t ht).2.2.1
  have hWb := Sx_W (fr := fgS K sw) (to := tgS K sw) (u := u) hS (V_full hS)
  have hWn := Wx_nn (n := n) (nd := nd) (fr := fgS K sw) (to := tgS K sw) (u := u) (x := encN nd st n)
  have htd := td_full hw hb2.2 hS hSl
  have hw0 : tI (r 0) = u := by
    have hg0 : tJ (g ((0 : Nat) : Int)) = 1 := by rw [(q2 0 (Nat.zero_le _)).1 Vdx_0, Wx_0]
    have := q3 0 (Nat.zero_le _) (by omega)
    rw [whx_0] at this; exact this
  refine ⟨r, g, h, ?_⟩
  obtain ⟨e, rfl⟩ : ∃ e, d = e + 1 := ⟨d - 1, by omega⟩
  have hin : callP MP (e + 1) 90 [.ref 178, .int (zI u)] (mk E F G) = runP MP e 90 (0, [some (.ref 178), some (.int (zI u)), none, none], [], mk E F G) := into_eq (by omega) hM_90 (rcv_mk rfl (by decide)) rfl
  have q1 : callP MP e 88 [.ref 178, .int (zI u)] (mk E F G) = some (Sum.inl (some (.long (zJ (Wx n nd (fgS K sw) (tgS K sw) u (encN nd st n))))), mk E (uR F 191 r) (uR (uR G 189 g) 190 h)) := q1
  have c88 : ∀ {kk : Int → HeapP → ResP} {kx : Nat → HeapP → ResP}, cJT (callP MP e 88 [.ref 178, .int (zI u)] (mk E F G)) kk kx = kk (Wx n nd (fgS K sw) (tgS K sw) u (encN nd st n)) (mk E (uR F 191 r) (uR (uR G 189 g) 190 h)) := fun {kk kx} => cJT_ret q1 (by omega)
  rw [hin]
  obtain ⟨Z, hZ⟩ : ∃ Z, Z = suZ (fun v => HFz K k 0 u (lfW w k) (-1) v) (NMz K k u (lfW w k)) := ⟨_, rfl⟩
  rw [← hZ]
  have hfin : ∀ o, OnI (goT n nd st (fgS K sw) (tgS K sw) u 0) sw n o → Z = o := fun o ho => by
    cases k with
    | zero =>
      have hn0 : n = 0 := by
        refine Classical.byContradiction (fun z => ?_)
        have h5 := hSl.2.2.2.2
        rw [bg_sum (fun i hi => by omega)] at h5
        have h6 := sumN_le1 (f := fun s => (st s : Int)) (n := n) (k := 0) (by omega) (fun _ _ => Int.natCast_nonneg _)
        have h7 := (hS.1 0 (by omega)).2.1
        omega
      rw [hZ, (su_0 (K := K) (u := u) (lf := lfW w 0)).1]
      rcases ho with ⟨h3, -⟩ | ⟨t, h3, -⟩
      · exact h3.symm
      · omega
    | succ k =>
      rw [hZ]
      refine one_su (b := goT n nd st (fgS K sw) (tgS K sw) u 0) (sw := sw) (n := n) (fun _ _ => goT_nn) (fun t ht => by have := (hS.1 t ht).1; omega) (fun t ht => first_at hI hw hS hSl ht) (fun v hv hn => (hist_out hI hSl hv hn).1) ?_ ho
      have hfp : 0 < encN nd st n := by
        refine Nat.pos_of_ne_zero (fun z => ?_)
        rw [z, tdx_0] at htd; omega
      rw [← gx_step hS hfp Vdx_0, gx_NM hI hS (Nat.two_pow_pos _) Vdx_0, whx_0, Nat.sub_zero, htd, lfC_0 hw hb2.2 hS hSl]
  have htwo : ∀ s t, s < n → t < n → s ≠ t → 0 < goT n nd st (fgS K sw) (tgS K sw) u 0 s → 0 < goT n nd st (fgS K sw) (tgS K sw) u 0 t → Z = -1 := fun s t hs ht hne hbs hbt => by
    cases k with
    | zero =>
      rw [hZ, (su_0 (K := K) (u := u) (lf := lfW w 0)).1]
    | succ k =>
      rw [hZ]
      refine two_su (b := goT n nd st (fgS K sw) (tgS K sw) u 0) (sw := sw) (n := n) (fun _ _ => goT_nn) (fun t ht => first_at hI hw hS hSl ht) (fun v hv hn => (hist_out hI hSl hv hn).1) ?_ hs ht hne hbs hbt
      have hfp : 0 < encN nd st n := by
        refine Nat.pos_of_ne_zero (fun z => ?_)
        rw [z, tdx_0] at htd; omega
      rw [← gx_step hS hfp Vdx_0, gx_NM hI hS (Nat.two_pow_pos _) Vdx_0, whx_0, Nat.sub_zero, htd, lfC_0 hw hb2.2 hS hSl]
  have h0 : runP MP e 90 (0, [some (.ref 178), some (.int (zI u)), none, none], [], mk E F G) = runP MP e 90 (10, [some (.ref 178), some (.int (zI u)), some (.int (zI (-1))), some (.int (zI ((0 : Nat) : Int)))], [], mk E (uR F 191 r) (uR (uR G 189 g) 190 h)) := by
    rw [show ((0 : Nat) : Int) = 0 from rfl]
    rw [q_90_0]; (try simp only [↓n_rd, ↓n_al, ↓n_alJ, ↓n_cI, ↓n_cJ, li_0, li_1, li_3, li_5, li_6, li_8, li_10, li_59, lj_0, lj_1, lj_3, lj_5, lj_6, lj_10, zJ_add, zJ_sub, zJ_mul, zJ_neg, zJ_l2i, zI_add, zI_sub, zI_mul, zI_neg, ↓Option.bind_some]); simp (disch := (first | assumption | exact tI_rg _ | omega | exact uR_at | exact row_ne hF (by decide) | exact row_ne (row_ne hF (by decide)) (by decide) | exact SnS_18 | exact SnS_30 | exact LdS_44 | exact LdS_46)) only [q_90_59, ↓n_cJ, ↓c88, ↓n_rd, ↓n_al, ↓n_alJ, ↓n_cI, ↓n_cJ, li_0, li_1, li_3, li_5, li_6, li_8, li_10, li_59, lj_0, lj_1, lj_3, lj_5, lj_6, lj_10, zJ_add, zJ_sub, zJ_mul, zJ_neg, zJ_l2i, tJ_zJ, zI_add, zI_sub, zI_mul, zI_neg, ↓Option.bind_some, ↓g6_1, ↓g6_3, ↓g6_5, ↓g6_8, ↓al_185, ↓as_185, ↓al_187, ↓as_187, ↓al_190, ↓as_190, zIt2, uR_at, uR_ne, uR_uR, uC_uC, uC_at, ↓reduceIte, decide_eq_true_eq, leT, leF, ltT, ltF, eqT, eqF, ne_eq, not_true_eq_false, not_false_eq_true, Bool.false_eq_true, tI_zI]
  rw [h0]
  refine loopS (σ := Int) (Post := fun rr => rr = some (Sum.inl (some (.int (zI Z))), mk E (uR F 191 r) (uR (uR G 189 g) 190 h)))
    (fun s o => runP MP e 90 (10, [some (.ref 178), some (.int (zI u)), some (.int (zI o)), some (.int (zI (s : Int)))], [], mk E (uR F 191 r) (uR (uR G 189 g) 190 h)))
    (fun s o => OnI (goT n nd st (fgS K sw) (tgS K sw) u 0) sw s o) n (-1) (Or.inl ⟨rfl, fun t h => by omega⟩) (fun o ho => ?_) (fun s o hs ho => ?_)
  · rw [hfin o ho]
    show runP MP e 90 _ = _
    rw [q_90_10]; (try simp only [↓n_rd, ↓n_al, ↓n_alJ, ↓n_cI, ↓n_cJ, li_0, li_1, li_3, li_5, li_6, li_8, li_10, li_59, lj_0, lj_1, lj_3, lj_5, lj_6, lj_10, zJ_add, zJ_sub, zJ_mul, zJ_neg, zJ_l2i, zI_add, zI_sub, zI_mul, zI_neg, ↓Option.bind_some]); simp (disch := (first | assumption | exact tI_rg _ | omega | exact uR_at | exact row_ne hF (by decide) | exact row_ne (row_ne hF (by decide)) (by decide) | exact SnS_18 | exact SnS_30 | exact LdS_44 | exact LdS_46)) only [q_90_0, q_90_59, t1, ↓n_rd, ↓n_al, ↓n_alJ, ↓n_cI, ↓n_cJ, li_0, li_1, li_3, li_5, li_6, li_8, li_10, li_59, lj_0, lj_1, lj_3, lj_5, lj_6, lj_10, zJ_add, zJ_sub, zJ_mul, zJ_neg, zJ_l2i, tJ_zJ, zI_add, zI_sub, zI_mul, zI_neg, ↓Option.bind_some, ↓g6_1, ↓g6_3, ↓g6_5, ↓g6_8, ↓al_185, ↓as_185, ↓al_187, ↓as_187, ↓al_190, ↓as_190, zIt2, uR_at, uR_ne, uR_uR, uC_uC, uC_at, ↓reduceIte, decide_eq_true_eq, leT, leF, ltT, ltF, eqT, eqF, ne_eq, not_true_eq_false, not_false_eq_true, Bool.false_eq_true, tI_zI]
  · obtain ⟨s1, s2, s3, s4⟩ := t3 s hs
    obtain ⟨f1, f2, f3, f4, f5⟩ := hS.1 s hs
    have hd0 : dgN nd 0 s < st s := by rw [dg_0]; exact f2
    obtain ⟨y1, y2, y3⟩ := Vdx_add (x := 0) hst (Nat.two_pow_pos _) hs hd0 Vdx_0
    rw [Nat.zero_add] at y1 y2 y3
    have hyl := Sx_le hS y1 y2
    have h2p := Nat.two_pow_pos (shN nd s)
    have hsh : shN nd s ≤ shN nd n := shN_mono (by omega)
    have h14 := hS.2.2.1
    have hsl := shl1 (p := ((shN nd s : Nat) : Int)) (by omega)
    rw [show ((shN nd s : Nat) : Int).toNat = shN nd s by omega] at hsl
    have hv1 : 0 ≤ ((2 ^ shN nd s : Nat) : Int) ∧ ((2 ^ shN nd s : Nat) : Int) < 16384 := ⟨Int.natCast_nonneg _, Int.ofNat_lt.mpr (Nat.lt_of_lt_of_le y1 h16)⟩
    have hrgh := tJ_rg (h ((2 ^ shN nd s : Nat) : Int))
    have hor : o = -1 ∨ (0 ≤ o ∧ o < 32) := by
      rcases ho with ⟨h3, -⟩ | ⟨t, h3, h4, -⟩
      · exact Or.inl h3
      · have := (hS.1 t (by omega)).1; right; omega
    have nx : ∀ {b : Int}, goT n nd st (fgS K sw) (tgS K sw) u 0 s = b → b ≤ 0 → OnI (goT n nd st (fgS K sw) (tgS K sw) u 0) sw (s + 1) o := fun {b} hb1 hb2 => by
      rcases ho with ⟨h3, h4⟩ | ⟨t, h3, h4, h5, h6⟩
      · refine Or.inl ⟨h3, fun t ht => ?_⟩
        by_cases z : t = s
        · rw [z]; omega
        · exact h4 t (by omega)
      · refine Or.inr ⟨t, by omega, h4, h5, fun j hj hjt => ?_⟩
        by_cases z : j = s
        · rw [z]; omega
        · exact h6 j (by omega) hjt
    by_cases c1 : u = fgS K sw s
    · have c86 : ∀ {kk : Int → HeapP → ResP} {kx : Nat → HeapP → ResP}, cT (callP MP e 86 [.ref 178, .int (zI 0), .int (zI (s : Int))] (mk E (uR F 191 r) (uR (uR G 189 g) 190 h))) kk kx = kk 1 (mk E (uR F 191 r) (uR (uR G 189 g) 190 h)) := fun {kk kx} => by
        have := cc_86 (d := e) (G := uR (uR G 189 g) 190 h) (x := 0) (s := s) (kk := kk) (kx := kx) hT' (Nat.two_pow_pos _) hs (by omega)
        rw [if_pos ⟨by rw [uR_at]; show fgS K sw s = tI (r 0); rw [hw0]; exact c1.symm, hd0⟩] at this
        exact this
      have eT : goT n nd st (fgS K sw) (tgS K sw) u 0 s = gxN n nd st (fgS K sw) (tgS K sw) u (2 ^ shN nd s) := by
        unfold goT
        rw [whx_0, if_pos ⟨c1, hd0⟩, Nat.zero_add]
      have hwy : 0 < tJ (g ((2 ^ shN nd s : Nat) : Int)) := by
        rw [(q2 _ hyl).1 y2]
        have h2 := Wx_up (n := n) (nd := nd) (fr := fgS K sw) (to := tgS K sw) (u := u) (x := 0) (s := s) (by rw [Nat.zero_add]; exact y1) hs (by rw [Nat.zero_add]; omega) (by rw [whx_0]; exact c1)
        rw [Nat.zero_add, Wx_0] at h2
        omega
      have hh := (q4 _ hyl).1 (Nat.zero_le _) hwy
      by_cases c2 : 0 < gxN n nd st (fgS K sw) (tgS K sw) u (2 ^ shN nd s)
      · have hz : ¬ tJ (h ((2 ^ shN nd s : Nat) : Int)) ≤ 0 := by omega
        by_cases c3 : o = -1
        · right
          refine ⟨(sw s : Int), ?_, ?_⟩
          · rcases ho with ⟨h3, h4⟩ | ⟨t, h3, h4, h5, h6⟩
            · exact Or.inr ⟨s, by omega, rfl, by rw [eT]; exact c2, fun j hj hjs => h4 j (by omega)⟩
            · omega
          · show runP MP e 90 _ = runP MP e 90 _
            rw [nsucc]
            rw [q_90_10]; (try simp only [↓n_rd, ↓n_al, ↓n_alJ, ↓n_cI, ↓n_cJ, li_0, li_1, li_3, li_5, li_6, li_8, li_10, li_59, lj_0, lj_1, lj_3, lj_5, lj_6, lj_10, zJ_add, zJ_sub, zJ_mul, zJ_neg, zJ_l2i, zI_add, zI_sub, zI_mul, zI_neg, ↓Option.bind_some]); simp (disch := (first | assumption | exact tI_rg _ | omega | exact uR_at | exact row_ne hF (by decide) | exact row_ne (row_ne hF (by decide)) (by decide) | exact SnS_18 | exact SnS_30 | exact LdS_44 | exact LdS_46)) only [q_90_0, q_90_59, t1, s1, s3, ↓c86, hsl, ↓al_190 hv1, ↓al_187, ↓al_185, cmpJ_le, hz, c3, ↓n_rd, ↓n_al, ↓n_alJ, ↓n_cI, ↓n_cJ, li_0, li_1, li_3, li_5, li_6, li_8, li_10, li_59, lj_0, lj_1, lj_3, lj_5, lj_6, lj_10, zJ_add, zJ_sub, zJ_mul, zJ_neg, zJ_l2i, tJ_zJ, zI_add, zI_sub, zI_mul, zI_neg, ↓Option.bind_some, ↓g6_1, ↓g6_3, ↓g6_5, ↓g6_8, ↓al_185, ↓as_185, ↓al_187, ↓as_187, ↓al_190, ↓as_190, zIt2, uR_at, uR_ne, uR_uR, uC_uC, uC_at, ↓reduceIte, decide_eq_true_eq, leT, leF, ltT, ltF, eqT, eqF, ne_eq, not_true_eq_false, not_false_eq_true, Bool.false_eq_true, tI_zI]
        · left
          have c4 : ¬ zI o = zI (-1) := by rw [eqI (by omega)]; exact c3
          rw [show Z = -1 from by
            rcases ho with ⟨h3, h4⟩ | ⟨t, h3, h4, h5, h6⟩
            · exact absurd h3 c3
            · exact htwo t s (by omega) hs (by omega) h5 (by rw [eT]; exact c2)]
          show runP MP e 90 _ = _
          rw [q_90_10]; (try simp only [↓n_rd, ↓n_al, ↓n_alJ, ↓n_cI, ↓n_cJ, li_0, li_1, li_3, li_5, li_6, li_8, li_10, li_59, lj_0, lj_1, lj_3, lj_5, lj_6, lj_10, zJ_add, zJ_sub, zJ_mul, zJ_neg, zJ_l2i, zI_add, zI_sub, zI_mul, zI_neg, ↓Option.bind_some]); simp (disch := (first | assumption | exact tI_rg _ | omega | exact uR_at | exact row_ne hF (by decide) | exact row_ne (row_ne hF (by decide)) (by decide) | exact SnS_18 | exact SnS_30 | exact LdS_44 | exact LdS_46)) only [q_90_0, q_90_59, t1, s1, s3, ↓c86, hsl, ↓al_190 hv1, ↓al_187, ↓al_185, cmpJ_le, hz, c4, ↓n_rd, ↓n_al, ↓n_alJ, ↓n_cI, ↓n_cJ, li_0, li_1, li_3, li_5, li_6, li_8, li_10, li_59, lj_0, lj_1, lj_3, lj_5, lj_6, lj_10, zJ_add, zJ_sub, zJ_mul, zJ_neg, zJ_l2i, tJ_zJ, zI_add, zI_sub, zI_mul, zI_neg, ↓Option.bind_some, ↓g6_1, ↓g6_3, ↓g6_5, ↓g6_8, ↓al_185, ↓as_185, ↓al_187, ↓as_187, ↓al_190, ↓as_190, zIt2, uR_at, uR_ne, uR_uR, uC_uC, uC_at, ↓reduceIte, decide_eq_true_eq, leT, leF, ltT, ltF, eqT, eqF, ne_eq, not_true_eq_false, not_false_eq_true, Bool.false_eq_true, tI_zI]
      · have hz : tJ (h ((2 ^ shN nd s : Nat) : Int)) ≤ 0 := by omega
        right
        refine ⟨o, nx eT (by omega), ?_⟩
        show runP MP e 90 _ = runP MP e 90 _
        rw [nsucc]
        rw [q_90_10]; (try simp only [↓n_rd, ↓n_al, ↓n_alJ, ↓n_cI, ↓n_cJ, li_0, li_1, li_3, li_5, li_6, li_8, li_10, li_59, lj_0, lj_1, lj_3, lj_5, lj_6, lj_10, zJ_add, zJ_sub, zJ_mul, zJ_neg, zJ_l2i, zI_add, zI_sub, zI_mul, zI_neg, ↓Option.bind_some]); simp (disch := (first | assumption | exact tI_rg _ | omega | exact uR_at | exact row_ne hF (by decide) | exact row_ne (row_ne hF (by decide)) (by decide) | exact SnS_18 | exact SnS_30 | exact LdS_44 | exact LdS_46)) only [q_90_0, q_90_59, t1, s1, s3, ↓c86, hsl, ↓al_190 hv1, ↓al_187, ↓al_185, cmpJ_le, hz, ↓n_rd, ↓n_al, ↓n_alJ, ↓n_cI, ↓n_cJ, li_0, li_1, li_3, li_5, li_6, li_8, li_10, li_59, lj_0, lj_1, lj_3, lj_5, lj_6, lj_10, zJ_add, zJ_sub, zJ_mul, zJ_neg, zJ_l2i, tJ_zJ, zI_add, zI_sub, zI_mul, zI_neg, ↓Option.bind_some, ↓g6_1, ↓g6_3, ↓g6_5, ↓g6_8, ↓al_185, ↓as_185, ↓al_187, ↓as_187, ↓al_190, ↓as_190, zIt2, uR_at, uR_ne, uR_uR, uC_uC, uC_at, ↓reduceIte, decide_eq_true_eq, leT, leF, ltT, ltF, eqT, eqF, ne_eq, not_true_eq_false, not_false_eq_true, Bool.false_eq_true, tI_zI]
    · have c86 : ∀ {kk : Int → HeapP → ResP} {kx : Nat → HeapP → ResP}, cT (callP MP e 86 [.ref 178, .int (zI 0), .int (zI (s : Int))] (mk E (uR F 191 r) (uR (uR G 189 g) 190 h))) kk kx = kk 0 (mk E (uR F 191 r) (uR (uR G 189 g) 190 h)) := fun {kk kx} => by
        have := cc_86 (d := e) (G := uR (uR G 189 g) 190 h) (x := 0) (s := s) (kk := kk) (kx := kx) hT' (Nat.two_pow_pos _) hs (by omega)
        rw [if_neg (fun z => c1 (by have := z.1; rw [uR_at] at this; rw [← hw0]; exact this.symm))] at this
        exact this
      right
      refine ⟨o, nx (b := 0) (by unfold goT; rw [whx_0]; exact if_neg (fun z => c1 z.1)) (by omega), ?_⟩
      show runP MP e 90 _ = runP MP e 90 _
      rw [nsucc]
      rw [q_90_10]; (try simp only [↓n_rd, ↓n_al, ↓n_alJ, ↓n_cI, ↓n_cJ, li_0, li_1, li_3, li_5, li_6, li_8, li_10, li_59, lj_0, lj_1, lj_3, lj_5, lj_6, lj_10, zJ_add, zJ_sub, zJ_mul, zJ_neg, zJ_l2i, zI_add, zI_sub, zI_mul, zI_neg, ↓Option.bind_some]); simp (disch := (first | assumption | exact tI_rg _ | omega | exact uR_at | exact row_ne hF (by decide) | exact row_ne (row_ne hF (by decide)) (by decide) | exact SnS_18 | exact SnS_30 | exact LdS_44 | exact LdS_46)) only [q_90_0, q_90_59, t1, ↓c86, ↓n_rd, ↓n_al, ↓n_alJ, ↓n_cI, ↓n_cJ, li_0, li_1, li_3, li_5, li_6, li_8, li_10, li_59, lj_0, lj_1, lj_3, lj_5, lj_6, lj_10, zJ_add, zJ_sub, zJ_mul, zJ_neg, zJ_l2i, tJ_zJ, zI_add, zI_sub, zI_mul, zI_neg, ↓Option.bind_some, ↓g6_1, ↓g6_3, ↓g6_5, ↓g6_8, ↓al_185, ↓as_185, ↓al_187, ↓as_187, ↓al_190, ↓as_190, zIt2, uR_at, uR_ne, uR_uR, uC_uC, uC_at, ↓reduceIte, decide_eq_true_eq, leT, leF, ltT, ltF, eqT, eqF, ne_eq, not_true_eq_false, not_false_eq_true, Bool.false_eq_true, tI_zI]
end S94zzzzf
