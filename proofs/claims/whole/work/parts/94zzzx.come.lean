/-! CLASS: how many come -/
section S94zzzx
set_option linter.unusedVariables false
set_option linter.unusedSimpArgs false
theorem Ax_le {n : Nat} {nd : Nat → Nat} {fr to : Nat → Int} {u : Int} {c s x : Nat} (hx : x < 2 ^ shN nd n) : Ax n nd fr to u c s x ≤ Wx n nd fr to u x := by
  unfold Ax
  by_cases h : x = 0
  · rw [if_pos h, h, Wx_0, sumN_z (fun t _ => by rw [Tx_z dg_0]; split <;> rfl)]; omega
  · rw [if_neg h, Wx_last hx h]
    have e := sumN_congr (f := Tx n nd fr to u x) (g := fun t => (if x - 2 ^ shN nd t < c ∨ (x - 2 ^ shN nd t = c ∧ t < s) then Tx n nd fr to u x t else 0) + (if x - 2 ^ shN nd t < c ∨ (x - 2 ^ shN nd t = c ∧ t < s) then 0 else Tx n nd fr to u x t)) (n := n) (fun t _ => by
      show Tx n nd fr to u x t = (if x - 2 ^ shN nd t < c ∨ (x - 2 ^ shN nd t = c ∧ t < s) then Tx n nd fr to u x t else 0) + (if x - 2 ^ shN nd t < c ∨ (x - 2 ^ shN nd t = c ∧ t < s) then 0 else Tx n nd fr to u x t)
      split <;> omega)
    rw [e, sumN_add]
    have := sumN_nneg (f := fun t => (if x - 2 ^ shN nd t < c ∨ (x - 2 ^ shN nd t = c ∧ t < s) then 0 else Tx n nd fr to u x t)) (n := n) (fun t _ => by
      show 0 ≤ (if x - 2 ^ shN nd t < c ∨ (x - 2 ^ shN nd t = c ∧ t < s) then 0 else Tx n nd fr to u x t)
      split
      · exact Int.le_refl _
      · exact Tx_nn)
    omega
theorem Ax_nn {n : Nat} {nd : Nat → Nat} {fr to : Nat → Int} {u : Int} {c s x : Nat} : 0 ≤ Ax n nd fr to u c s x := by
  have := sumN_nneg (f := fun t => (if x - 2 ^ shN nd t < c ∨ (x - 2 ^ shN nd t = c ∧ t < s) then Tx n nd fr to u x t else 0)) (n := n) (fun t _ => by
    show 0 ≤ (if x - 2 ^ shN nd t < c ∨ (x - 2 ^ shN nd t = c ∧ t < s) then Tx n nd fr to u x t else 0)
    split
    · exact Tx_nn
    · exact Int.le_refl _)
  unfold Ax
  split <;> omega
def fgS (K : Int → Int32) (sw : Nat → Nat) (s : Nat) : Int := fromZ K (sw s : Int)
def tgS (K : Int → Int32) (sw : Nat → Nat) (s : Nat) : Int := toZ K (sw s : Int)
def SxI (K : Int → Int32) (n : Nat) (sw nd st : Nat → Nat) : Prop := (∀ s, s < n → (sw s : Int) < 2 * tI (K 2) ∧ 0 < st s ∧ st s < 2 ^ nd s ∧ 0 < nd s ∧ nd s ≤ 4) ∧ (∀ s t, s < n → t < n → sw s = sw t → s = t) ∧ shN nd n ≤ 14 ∧ sumN (fun s => (st s : Int)) n ≤ 14
theorem Sx_n {K : Int → Int32} {n : Nat} {sw nd st : Nat → Nat} (h : SxI K n sw nd st) : n ≤ 14 := Nat.le_trans (shN_ge n (fun t ht => (h.1 t ht).2.2.2.1)) h.2.2.1
theorem Sx_16 {K : Int → Int32} {n : Nat} {sw nd st : Nat → Nat} (h : SxI K n sw nd st) : 2 ^ shN nd n ≤ 16384 := Nat.pow_le_pow_right (n := 2) (j := 14) (by omega) h.2.2.1
theorem Sx_td {K : Int → Int32} {n : Nat} {sw nd st : Nat → Nat} (h : SxI K n sw nd st) {x : Nat} (hv : Vdx n nd st x) : tdx nd n x ≤ 14 := by
  have e := tdx_i (nd := nd) (n := n) (x := x)
  have h1 : sumN (cIx nd n x) n ≤ sumN (fun s => (st s : Int)) n := by
    have e2 := sumN_congr (f := fun s => (st s : Int)) (g := fun s => cIx nd n x s + ((st s : Int) - cIx nd n x s)) (n := n) (fun s _ => by show (st s : Int) = cIx nd n x s + ((st s : Int) - cIx nd n x s); omega)
    rw [e2, sumN_add]
    have := sumN_nneg (f := fun s => (st s : Int) - cIx nd n x s) (n := n) (fun s hs => by
      show 0 ≤ (st s : Int) - cIx nd n x s
      have := hv s hs
      rw [cIx_in hs]; omega)
    omega
  have := h.2.2.2
  omega
theorem Sx_full {K : Int → Int32} {n : Nat} {sw nd st : Nat → Nat} (h : SxI K n sw nd st) : encN nd st n < 2 ^ shN nd n := enc_lt n (fun t ht => (h.1 t ht).2.2.1)
theorem Sx_le {K : Int → Int32} {n : Nat} {sw nd st : Nat → Nat} (h : SxI K n sw nd st) {x : Nat} (hx : x < 2 ^ shN nd n) (hv : Vdx n nd st x) : x ≤ encN nd st n := (dg_compl (fun t ht => (h.1 t ht).2.2.1) hx hv).1
theorem Sx_W {K : Int → Int32} {n : Nat} {sw nd st : Nat → Nat} {fr to : Nat → Int} {u : Int} (h : SxI K n sw nd st) {x : Nat} (hv : Vdx n nd st x) : Wx n nd fr to u x ≤ 11112006825558016 := Wx_bd (Sx_n h) (Sx_td h hv)
/-- the counts behind some codes and slots -/
def CmI (n : Nat) (nd st : Nat → Nat) (fr to : Nat → Int) (u : Int) (c s : Nat) (r : Int → Int32) (g : Int → Int64) : Prop := ∀ x : Nat, x ≤ encN nd st n → (Vdx n nd st x → tJ (g x) = Ax n nd fr to u c s x) ∧ (¬ Vdx n nd st x → tJ (g x) = 0) ∧ (0 < tJ (g x) → tI (r x) = whx n nd fr to u x)
theorem Cm_no {K : Int → Int32} {n : Nat} {sw nd st : Nat → Nat} {fr to : Nat → Int} {u : Int} {c s : Nat} {r : Int → Int32} {g : Int → Int64} (hS : SxI K n sw nd st) (hs : s < n) (hm : ¬ (whx n nd fr to u c = fr s ∧ dgN nd c s < st s)) (h : CmI n nd st fr to u c s r g) : CmI n nd st fr to u c (s + 1) r g := fun x hx => by
  obtain ⟨h1, h2, h3⟩ := h x hx
  refine ⟨fun hv => ?_, h2, h3⟩
  rw [h1 hv, Ax_same (fun e => ?_)]
  unfold Tx
  have hfl := Sx_full hS
  by_cases c1 : 0 < dgN nd x s
  · by_cases c2 : whx n nd fr to u (x - 2 ^ shN nd s) = fr s
    · exfalso
      have h4 := (dg_sub (nd := nd) (x := x) (n := n) (s := s) (by omega) hs c1).2 s hs
      rw [e] at h4 c2
      have h5 := hv s hs
      have h6 : dec1 (dgN nd x) s s = dgN nd x s - 1 := if_pos rfl
      exact hm ⟨c2, by omega⟩
    · exact if_neg (fun z => c2 z.2)
  · exact if_neg (fun z => c1 z.1)
theorem Cm_yes {K : Int → Int32} {n : Nat} {sw nd st : Nat → Nat} {fr to : Nat → Int} {u : Int} {c s : Nat} {r : Int → Int32} {g : Int → Int64} (hS : SxI K n sw nd st) (hs : s < n) (hc : c ≤ encN nd st n) (hvc : Vdx n nd st c) (hm : whx n nd fr to u c = fr s ∧ dgN nd c s < st s) (ht : -2147483648 ≤ to s ∧ to s ≤ 2147483647) (h : CmI n nd st fr to u c s r g) :
    CmI n nd st fr to u c (s + 1) (uC r ((c + 2 ^ shN nd s : Nat) : Int) (zI (to s))) (uC g ((c + 2 ^ shN nd s : Nat) : Int) (zJ (tJ (g ((c + 2 ^ shN nd s : Nat) : Int)) + tJ (g (c : Int))))) := fun x hx => by
  have hfl := Sx_full hS
  have hst : ∀ t, t < n → st t < 2 ^ nd t := fun t ht => (hS.1 t ht).2.2.1
  obtain ⟨y1, y2, y3⟩ := Vdx_add hst (by omega) hs hm.2 hvc
  have h2p := Nat.two_pow_pos (shN nd s)
  have hy := Sx_le hS y1 y2
  obtain ⟨h1, h2, h3⟩ := h x hx
  by_cases e : x = c + 2 ^ shN nd s
  · subst e
    have hcc := (h c hc).1 hvc
    rw [Ax_done (by omega) (Nat.le_refl _)] at hcc
    have hT : Tx n nd fr to u (c + 2 ^ shN nd s) s = Wx n nd fr to u c := by
      unfold Tx
      rw [show c + 2 ^ shN nd s - 2 ^ shN nd s = c by omega]
      exact if_pos ⟨by omega, hm.1⟩
    have hnew : Ax n nd fr to u c (s + 1) (c + 2 ^ shN nd s) = tJ (g ((c + 2 ^ shN nd s : Nat) : Int)) + tJ (g (c : Int)) := by
      rw [Ax_more hs (by omega), hT, h1 y2, hcc]
    have hb := Ax_le (n := n) (nd := nd) (fr := fr) (to := to) (u := u) (c := c) (s := s + 1) y1
    have hb2 := Sx_W (fr := fr) (to := to) (u := u) hS y2
    have hb3 := Ax_nn (n := n) (nd := nd) (fr := fr) (to := to) (u := u) (c := c) (s := s + 1) (x := c + 2 ^ shN nd s)
    refine ⟨fun _ => ?_, fun z => absurd y2 z, fun _ => ?_⟩
    · rw [uC_at, tJ_zJ (by omega), ← hnew]
    · rw [uC_at, tI_zI ht, whx_add y1 hs (by omega), hm.1]; omega
  · rw [uC_ne (by omega), uC_ne (by omega)]
    refine ⟨fun hv => ?_, h2, h3⟩
    rw [h1 hv, Ax_same (fun z => ?_)]
    by_cases c1 : 0 < dgN nd x s
    · exfalso
      have := (dg_sub (nd := nd) (x := x) (n := n) (s := s) (by omega) hs c1).1
      omega
    · exact Tx_z (by omega)
theorem Cm_skip {K : Int → Int32} {n : Nat} {sw nd st : Nat → Nat} {fr to : Nat → Int} {u : Int} {c : Nat} {r : Int → Int32} {g : Int → Int64} (hS : SxI K n sw nd st) (hc : c ≤ encN nd st n) (hz : tJ (g (c : Int)) ≤ 0) (h : CmI n nd st fr to u c 0 r g) : CmI n nd st fr to u (c + 1) 0 r g := fun x hx => by
  have hfl := Sx_full hS
  obtain ⟨h1, h2, h3⟩ := h x hx
  refine ⟨fun hv => ?_, h2, h3⟩
  rw [h1 hv, Ax_skip (fun t ht e => ?_)]
  unfold Tx
  by_cases c1 : 0 < dgN nd x t
  · have hv2 := Vdx_sub (by omega) ht c1 hv
    rw [e] at hv2 ⊢
    have h4 := (h c hc).1 hv2
    rw [Ax_done (by omega) (Nat.le_refl _)] at h4
    have := Wx_nn (n := n) (nd := nd) (fr := fr) (to := to) (u := u) (x := c)
    rw [show Wx n nd fr to u c = 0 by omega]; split <;> rfl
  · exact if_neg (fun z => c1 z.1)
theorem Cm_next {n : Nat} {nd st : Nat → Nat} {fr to : Nat → Int} {u : Int} {c : Nat} {r : Int → Int32} {g : Int → Int64} (h : CmI n nd st fr to u c n r g) : CmI n nd st fr to u (c + 1) 0 r g := fun x hx => by
  obtain ⟨h1, h2, h3⟩ := h x hx
  exact ⟨fun hv => by rw [h1 hv, Ax_next], h2, h3⟩
theorem Cm_0 {n : Nat} {nd st : Nat → Nat} {fr to : Nat → Int} {u : Int} {r : Int → Int32} {g : Int → Int64} (hu : -2147483648 ≤ u ∧ u ≤ 2147483647) (hz : ∀ x : Nat, x ≤ encN nd st n → tJ (g x) = 0) : CmI n nd st fr to u 0 0 (uC r 0 (zI u)) (uC g 0 (zJ 1)) := fun x hx => by
  have hA : Ax n nd fr to u 0 0 x = if x = 0 then 1 else 0 := by
    unfold Ax
    rw [sumN_z (fun t _ => if_neg (by omega))]; omega
  by_cases e : x = 0
  · subst e
    rw [show ((0 : Nat) : Int) = 0 from rfl, uC_at, uC_at, tJ_zJ (by omega), tI_zI hu]
    exact ⟨fun _ => by rw [hA, if_pos rfl], fun z => absurd Vdx_0 z, fun _ => whx_0.symm⟩
  · rw [uC_ne (by omega), hz x hx]
    exact ⟨fun _ => by rw [hA, if_neg e], fun _ => rfl, fun z => by omega⟩
/-- what stands in the counts at last -/
def CmD (n : Nat) (nd st : Nat → Nat) (fr to : Nat → Int) (u : Int) (g : Int → Int64) : Prop := ∀ x : Nat, x ≤ encN nd st n → (Vdx n nd st x → tJ (g x) = Wx n nd fr to u x) ∧ (¬ Vdx n nd st x → tJ (g x) = 0)
theorem Cm_end {K : Int → Int32} {n : Nat} {sw nd st : Nat → Nat} {fr to : Nat → Int} {u : Int} {r : Int → Int32} {g : Int → Int64} (hS : SxI K n sw nd st) (h : CmI n nd st fr to u (encN nd st n) 0 r g) : CmD n nd st fr to u g := fun x hx => by
  have hfl := Sx_full hS
  obtain ⟨h1, h2, h3⟩ := h x hx
  exact ⟨fun hv => by rw [h1 hv, Ax_done (by omega) hx], h2⟩
def TrX (E : EnQ) (F : Nat → Int → Int32) (K : Int → Int32) (pl n : Nat) (sw nd st : Nat → Nat) : Prop := rfQ E 178 0 = pl ∧ TlM F n sw nd st ∧ PlR F pl K ∧ PlS E pl ∧ (pl = 19 ∨ 247 ≤ pl) ∧ InvK K ∧ SxI K n sw nd st
theorem TrX_191 {E : EnQ} {F : Nat → Int → Int32} {K : Int → Int32} {pl n : Nat} {sw nd st : Nat → Nat} {r : Int → Int32} (h : TrX E F K pl n sw nd st) : TrX E (uR F 191 r) K pl n sw nd st := by
  obtain ⟨h1, h2, h3, h4, h5, h6, h7⟩ := h
  refine ⟨h1, ?_, PlR_ld h6 (by omega) h3, h4, h5, h6, h7⟩
  unfold TlM at h2 ⊢
  rw [uR_ne (by decide), uR_ne (by decide), uR_ne (by decide), uR_ne (by decide), uR_ne (by decide)]; exact h2
theorem ct_86 {d : Nat} {E : EnQ} {F : Nat → Int → Int32} {G : Nat → Int → Int64} {K : Int → Int32} {pl n : Nat} {sw nd st : Nat → Nat} {x s : Nat} (hT : TrX E F K pl n sw nd st) (hx : x < 2 ^ shN nd n) (hs : s < n) (hd : 2 ≤ d) : callP MP d 86 [.ref 178, .int (zI (x : Int)), .int (zI (s : Int))] (mk E F G) = some (Sum.inl (some (.int (zI (if fgS K sw s = tI (F 191 (x : Int)) ∧ dgN nd x s < st s then 1 else 0)))), mk E F G) := by
  obtain ⟨hq, ⟨t1, t2, t3⟩, hR, hP, hpl, hI, hS⟩ := hT
  obtain ⟨s1, s2, s3, s4⟩ := t3 s hs
  have h16 := Sx_16 hS
  have hn := Sx_n hS
  obtain ⟨f1, f2, f3, f4, f5⟩ := hS.1 s hs
  have hsh : shN nd s ≤ shN nd n := shN_mono (by omega)
  have h14 := hS.2.2.1
  have hsw : 0 ≤ (sw s : Int) ∧ (sw s : Int) < 2 * tI (K 2) := by omega
  have hp : 2 ^ nd s ≤ 2 ^ 4 := Nat.pow_le_pow_right (by omega) f5
  have hp0 := Nat.two_pow_pos (nd s)
  have hdl := dg_lt (nd := nd) (x := x) (s := s)
  have hdg : o_iushr (zI (x : Int)) (zI (shN nd s : Int)) &&& zI (((2 ^ nd s : Nat) : Int) - 1) = zI ((dgN nd x s : Nat) : Int) := by
    rw [ushrZ x (shN nd s) (by omega) (by omega), show ((2 ^ nd s : Nat) : Int) - 1 = ((2 ^ nd s - 1 : Nat) : Int) by omega, andZ, Nat.and_two_pow_sub_one_eq_mod]
    rfl
  have hf := from_in hI hsw
  have hb1 := hI.1.2.1
  have hr := tI_rg (F 191 (x : Int))
  have e1 : fgS K sw s = fromZ K (sw s : Int) := rfl
  refine into (D := 1) (by omega) hM_86 (rcv_mk rfl (by decide)) rfl fun d hd => ?_
  show runP MP d 86 (0, [some (.ref 178), some (.int (zI (x : Int))), some (.int (zI (s : Int)))], [], _) = _
  rw [e1]
  by_cases c1 : fromZ K (sw s : Int) = tI (F 191 (x : Int))
  · by_cases c2 : dgN nd x s < st s
    · rw [if_pos ⟨c1, c2⟩]
      rw [q_86_0]; (try simp only [↓n_al, ↓n_cI, li_0, li_1, li_3, li_4, li_5, li_6, li_9, zI_add, zI_sub, zI_mul, zI_neg, ↓Option.bind_some]); simp (disch := (first | assumption | exact tI_rg _ | omega | exact uR_at | exact row_ne hF (by decide) | exact row_ne (row_ne hF (by decide)) (by decide) | exact SnS_18 | exact SnS_30 | exact LdS_44 | exact LdS_46)) only [q_86_50, q_86_51, hq, s1, s2, s3, s4, ↓cc_28 hR hI hP, c1, hdg, ↓al_185, ↓al_186, ↓al_187, ↓al_188, ↓al_191, ↓n_al, ↓n_cI, retZ_z, li_0, li_1, li_3, li_4, li_5, li_6, li_9, zI_add, zI_sub, zI_mul, zI_neg, ↓Option.bind_some, ↓g6_0, ↓g6_3, ↓g6_4, ↓g6_5, ↓g6_6, ↓g6_9, ↓al_185, ↓as_185, ↓al_186, ↓as_186, ↓al_187, ↓as_187, ↓al_188, ↓as_188, ↓al_191, ↓as_191, zIt2, uR_at, uR_ne, uR_uR, uC_uC, uC_at, ↓reduceIte, decide_eq_true_eq, leT, leF, ltT, ltF, eqT, eqF, ne_eq, not_true_eq_false, not_false_eq_true, Bool.false_eq_true, tI_zI]
    · rw [if_neg (fun z => c2 z.2)]
      rw [q_86_0]; (try simp only [↓n_al, ↓n_cI, li_0, li_1, li_3, li_4, li_5, li_6, li_9, zI_add, zI_sub, zI_mul, zI_neg, ↓Option.bind_some]); simp (disch := (first | assumption | exact tI_rg _ | omega | exact uR_at | exact row_ne hF (by decide) | exact row_ne (row_ne hF (by decide)) (by decide) | exact SnS_18 | exact SnS_30 | exact LdS_44 | exact LdS_46)) only [q_86_50, q_86_51, hq, s1, s2, s3, s4, ↓cc_28 hR hI hP, c1, hdg, ↓al_185, ↓al_186, ↓al_187, ↓al_188, ↓al_191, ↓n_al, ↓n_cI, retZ_z, li_0, li_1, li_3, li_4, li_5, li_6, li_9, zI_add, zI_sub, zI_mul, zI_neg, ↓Option.bind_some, ↓g6_0, ↓g6_3, ↓g6_4, ↓g6_5, ↓g6_6, ↓g6_9, ↓al_185, ↓as_185, ↓al_186, ↓as_186, ↓al_187, ↓as_187, ↓al_188, ↓as_188, ↓al_191, ↓as_191, zIt2, uR_at, uR_ne, uR_uR, uC_uC, uC_at, ↓reduceIte, decide_eq_true_eq, leT, leF, ltT, ltF, eqT, eqF, ne_eq, not_true_eq_false, not_false_eq_true, Bool.false_eq_true, tI_zI]
  · rw [if_neg (fun z => c1 z.1)]
    rw [q_86_0]; (try simp only [↓n_al, ↓n_cI, li_0, li_1, li_3, li_4, li_5, li_6, li_9, zI_add, zI_sub, zI_mul, zI_neg, ↓Option.bind_some]); simp (disch := (first | assumption | exact tI_rg _ | omega | exact uR_at | exact row_ne hF (by decide) | exact row_ne (row_ne hF (by decide)) (by decide) | exact SnS_18 | exact SnS_30 | exact LdS_44 | exact LdS_46)) only [q_86_50, q_86_51, hq, s1, s2, s3, s4, ↓cc_28 hR hI hP, hdg, ↓al_185, ↓al_186, ↓al_187, ↓al_188, ↓al_191, ↓n_al, ↓n_cI, retZ_z, li_0, li_1, li_3, li_4, li_5, li_6, li_9, zI_add, zI_sub, zI_mul, zI_neg, ↓Option.bind_some, ↓g6_0, ↓g6_3, ↓g6_4, ↓g6_5, ↓g6_6, ↓g6_9, ↓al_185, ↓as_185, ↓al_186, ↓as_186, ↓al_187, ↓as_187, ↓al_188, ↓as_188, ↓al_191, ↓as_191, zIt2, uR_at, uR_ne, uR_uR, uC_uC, uC_at, ↓reduceIte, decide_eq_true_eq, leT, leF, ltT, ltF, eqT, eqF, ne_eq, not_true_eq_false, not_false_eq_true, Bool.false_eq_true, tI_zI]
theorem cc_86 {d : Nat} {E : EnQ} {F : Nat → Int → Int32} {G : Nat → Int → Int64} {K : Int → Int32} {pl n : Nat} {sw nd st : Nat → Nat} {x s : Nat} {kk : Int → HeapP → ResP} {kx : Nat → HeapP → ResP} (hT : TrX E F K pl n sw nd st) (hx : x < 2 ^ shN nd n) (hs : s < n) (hd : 2 ≤ d) : cT (callP MP d 86 [.ref 178, .int (zI (x : Int)), .int (zI (s : Int))] (mk E F G)) kk kx = kk (if fgS K sw s = tI (F 191 (x : Int)) ∧ dgN nd x s < st s then 1 else 0) (mk E F G) := cT_ret (ct_86 hT hx hs hd) (by split <;> omega)
theorem ct_2u {d : Nat} {E : EnQ} {F : Nat → Int → Int32} {G : Nat → Int → Int64} {a b c : Int} (h : 0 ≤ b ∧ b ≤ c ∧ c ≤ a ∧ a ≤ 2147483647) (hd : 1 ≤ d) : callP MP d 2 [.int (zI a), .int (zI b), .int (zI c)] (mk E F G) = some (Sum.inl none, mk E F G) := by
  refine into (D := 0) (by omega) hM_2 rfl rfl fun d hd => ?_
  show runP MP d 2 (0, [some (.int (zI a)), some (.int (zI b)), some (.int (zI c))], [], _) = _
  rw [q_2_0]; (try simp only [li_0, li_2, zI_add, zI_sub, zI_mul, zI_neg, ↓Option.bind_some]); simp (disch := (first | assumption | exact tI_rg _ | omega | exact uR_at | exact row_ne hF (by decide) | exact row_ne (row_ne hF (by decide)) (by decide) | exact SnS_18 | exact SnS_30 | exact LdS_44 | exact LdS_46)) only [li_0, li_2, zI_add, zI_sub, zI_mul, zI_neg, ↓Option.bind_some, zIt2, uR_at, uR_ne, uR_uR, uC_uC, uC_at, ↓reduceIte, decide_eq_true_eq, leT, leF, ltT, ltF, eqT, eqF, ne_eq, not_true_eq_false, not_false_eq_true, Bool.false_eq_true, tI_zI]
theorem ct_3 {d : Nat} {E : EnQ} {F : Nat → Int → Int32} {G : Nat → Int → Int64} {a m : Nat} (ha : a = 189 ∨ a = 190) (hm : m ≤ 16384) (hd : 2 ≤ d) : callP MP d 3 [.ref a, .int (zI 0), .int (zI (m : Int)), .long (zJ 0)] (mk E F G) = some (Sum.inl none, mk E F (uR G a (flJ (G a) m 0))) := by
  have hsa : shx E a = (3, 0, 16384) := by rcases ha with rfl | rfl <;> rfl
  have hlen : ∀ {f : Int → ResP}, (lenT (mk E F G) a).bind f = f ((16384 : Nat) : Int) := fun {f} => len_J (n := 16384) hsa (by decide)
  have hst : ∀ {G : Nat → Int → Int64} {i : Int} {x : Int64} {f : HeapP → ResP}, 0 ≤ i ∧ i < 16384 → (astJ (mk E F G) a (zI i) x).bind f = f (mk E F (uR G a (uC (G a) i x))) := fun {G i x f} hi => asJ_b (n := 16384) hsa (by omega) (by decide)
  have c2 : ∀ {kk : HeapP → ResP} {kx : Nat → HeapP → ResP} {d : Nat}, 1 ≤ d → cV (callP MP d 2 [.int (zI ((16384 : Nat) : Int)), .int (zI 0), .int (zI (m : Int))] (mk E F G)) kk kx = kk (mk E F G) := fun {kk kx d} hd => cV_ret (ct_2u (by omega) hd)
  refine into (D := 1) (by omega) hM_3 rfl rfl fun d hd => ?_
  show runP MP d 3 (0, [some (.ref a), some (.int (zI 0)), some (.int (zI (m : Int))), some (.long (zJ 0)), none, none], [], mk E F G) = _
  have c2' : ∀ {kk : HeapP → ResP} {kx : Nat → HeapP → ResP}, cV (callP MP d 2 [.int (zI ((16384 : Nat) : Int)), .int (zI 0), .int (zI (m : Int))] (mk E F G)) kk kx = kk (mk E F G) := fun {kk kx} => c2 hd
  have h1 : runP MP d 3 (0, [some (.ref a), some (.int (zI 0)), some (.int (zI (m : Int))), some (.long (zJ 0)), none, none], [], mk E F G) = runP MP d 3 (10, [some (.ref a), some (.int (zI 0)), some (.int (zI (m : Int))), some (.long (zJ 0)), none, some (.int (zI ((0 : Nat) : Int)))], [], mk E F (uR G a (flJ (G a) 0 0))) := by
    rw [flJ_0, uR_self]
    rw [q_3_0]; (try simp only [↓n_len, li_0, li_1, li_2, li_3, li_10, lj_0, lj_1, lj_2, lj_3, lj_10, zJ_add, zJ_sub, zJ_mul, zJ_neg, zJ_l2i, zI_add, zI_sub, zI_mul, zI_neg, ↓Option.bind_some]); simp (disch := (first | assumption | exact tI_rg _ | omega | exact uR_at | exact row_ne hF (by decide) | exact row_ne (row_ne hF (by decide)) (by decide) | exact SnS_18 | exact SnS_30 | exact LdS_44 | exact LdS_46)) only [↓hlen, ↓c2', ↓n_len, li_0, li_1, li_2, li_3, li_10, lj_0, lj_1, lj_2, lj_3, lj_10, zJ_add, zJ_sub, zJ_mul, zJ_neg, zJ_l2i, tJ_zJ, zI_add, zI_sub, zI_mul, zI_neg, ↓Option.bind_some, zIt2, uR_at, uR_ne, uR_uR, uC_uC, uC_at, ↓reduceIte, decide_eq_true_eq, leT, leF, ltT, ltF, eqT, eqF, ne_eq, not_true_eq_false, not_false_eq_true, Bool.false_eq_true, tI_zI]
    rfl
  rw [h1]
  refine (loopN (fun j : Nat => runP MP d 3 (10, [some (.ref a), some (.int (zI 0)), some (.int (zI (m : Int))), some (.long (zJ 0)), none, some (.int (zI (j : Int)))], [], mk E F (uR G a (flJ (G a) j 0)))) m (fun j hj => ?_)).trans ?_
  · show runP MP d 3 _ = runP MP d 3 _
    rw [flJ_s, nsucc]
    rw [q_3_10]; (try simp only [↓n_len, li_0, li_1, li_2, li_3, li_10, lj_0, lj_1, lj_2, lj_3, lj_10, zJ_add, zJ_sub, zJ_mul, zJ_neg, zJ_l2i, zI_add, zI_sub, zI_mul, zI_neg, ↓Option.bind_some]); simp (disch := (first | assumption | exact tI_rg _ | omega | exact uR_at | exact row_ne hF (by decide) | exact row_ne (row_ne hF (by decide)) (by decide) | exact SnS_18 | exact SnS_30 | exact LdS_44 | exact LdS_46)) only [q_3_0, ↓hst, ↓n_len, li_0, li_1, li_2, li_3, li_10, lj_0, lj_1, lj_2, lj_3, lj_10, zJ_add, zJ_sub, zJ_mul, zJ_neg, zJ_l2i, tJ_zJ, zI_add, zI_sub, zI_mul, zI_neg, ↓Option.bind_some, zIt2, uR_at, uR_ne, uR_uR, uC_uC, uC_at, ↓reduceIte, decide_eq_true_eq, leT, leF, ltT, ltF, eqT, eqF, ne_eq, not_true_eq_false, not_false_eq_true, Bool.false_eq_true, tI_zI]
  · show runP MP d 3 (10, [some (.ref a), some (.int (zI 0)), some (.int (zI (m : Int))), some (.long (zJ 0)), none, some (.int (zI (m : Int)))], [], mk E F (uR G a (flJ (G a) m 0))) = _
    rw [q_3_10]; (try simp only [↓n_len, li_0, li_1, li_2, li_3, li_10, lj_0, lj_1, lj_2, lj_3, lj_10, zJ_add, zJ_sub, zJ_mul, zJ_neg, zJ_l2i, zI_add, zI_sub, zI_mul, zI_neg, ↓Option.bind_some]); simp (disch := (first | assumption | exact tI_rg _ | omega | exact uR_at | exact row_ne hF (by decide) | exact row_ne (row_ne hF (by decide)) (by decide) | exact SnS_18 | exact SnS_30 | exact LdS_44 | exact LdS_46)) only [q_3_0, ↓n_len, li_0, li_1, li_2, li_3, li_10, lj_0, lj_1, lj_2, lj_3, lj_10, zJ_add, zJ_sub, zJ_mul, zJ_neg, zJ_l2i, tJ_zJ, zI_add, zI_sub, zI_mul, zI_neg, ↓Option.bind_some, zIt2, uR_at, uR_ne, uR_uR, uC_uC, uC_at, ↓reduceIte, decide_eq_true_eq, leT, leF, ltT, ltF, eqT, eqF, ne_eq, not_true_eq_false, not_false_eq_true, Bool.false_eq_true, tI_zI]
end S94zzzx
