/-! the k-th row -/
section S94zzzzc
set_option linter.unusedVariables false
set_option linter.unusedSimpArgs false
/-- what a code leaves, by ways -/
def lfC (n : Nat) (sw nd st : Nat → Nat) (c : Nat) : Int → Int := fun v => sumN (fun s => if (sw s : Int) = v then (st s : Int) - ((dgN nd c s : Nat) : Int) else 0) n
theorem lfC_at {K : Int → Int32} {n : Nat} {sw nd st : Nat → Nat} (hS : SxI K n sw nd st) {c s : Nat} (hs : s < n) : lfC n sw nd st c (sw s : Int) = (st s : Int) - ((dgN nd c s : Nat) : Int) := by
  unfold lfC
  rw [sumN_single hs (fun j hj hjs => if_neg (fun z => hjs (hS.2.1 j s hj hs (by omega))))]
  exact if_pos rfl
theorem lfC_no {n : Nat} {sw nd st : Nat → Nat} {c : Nat} {v : Int} (h : ∀ s, s < n → (sw s : Int) ≠ v) : lfC n sw nd st c v = 0 := sumN_z (fun s hs => if_neg (h s hs))
theorem lfC_T {K : Int → Int32} {n : Nat} {sw nd st : Nat → Nat} (hS : SxI K n sw nd st) {c : Nat} : SlT K n (fun s => (sw s : Int)) (lfC n sw nd st c) := by
  refine ⟨fun s t hs ht e => hS.2.1 s t hs ht (by have e : (sw s : Int) = (sw t : Int) := e; omega), fun s hs => ⟨Int.natCast_nonneg _, (hS.1 s hs).1⟩, fun v hv => ?_⟩
  refine Classical.byContradiction (fun z => ?_)
  rw [lfC_no (fun s hs e => z ⟨s, hs, e⟩)] at hv
  omega
theorem lfC_dc {K : Int → Int32} {n : Nat} {sw nd st : Nat → Nat} (hS : SxI K n sw nd st) {c s : Nat} (hc : c < 2 ^ shN nd n) (hv : Vdx n nd st c) (hs : s < n) (h : dgN nd c s < st s) : lfC n sw nd st (c + 2 ^ shN nd s) = dcW (lfC n sw nd st c) (sw s : Int) := by
  have hst : ∀ t, t < n → st t < 2 ^ nd t := fun t ht => (hS.1 t ht).2.2.1
  have hd := (dg_add hc hs (by have := hst s hs; omega)).2
  funext v
  by_cases e : ∃ t, t < n ∧ (sw t : Int) = v
  · obtain ⟨t, ht, e⟩ := e
    rw [← e, lfC_at hS ht, hd t ht]
    unfold inc1
    by_cases z : t = s
    · rw [if_pos z, z, dcW_at, lfC_at hS hs]; omega
    · rw [if_neg z, dcW_ne (fun y => z (hS.2.1 t s ht hs (by omega))), lfC_at hS ht]
  · have e' : ∀ t, t < n → (sw t : Int) ≠ v := fun t ht z => e ⟨t, ht, z⟩
    rw [lfC_no e', dcW_ne (fun y => e' s hs y.symm), lfC_no e']
theorem lfC_0 {K : Int → Int32} {w : Nat → Int} {k n : Nat} {sw nd st : Nat → Nat} (hw : ∀ i, i < k → 0 ≤ w i ∧ w i < 2 * tI (K 2)) (h2 : tI (K 2) ≤ 16) (hS : SxI K n sw nd st) (h : SlI (bgN w k) 32 n sw nd st) : lfC n sw nd st 0 = lfW w k := by
  funext v
  by_cases e : ∃ t, t < n ∧ (sw t : Int) = v
  · obtain ⟨t, ht, e⟩ := e
    rw [← e, lfC_at hS ht, Sl_st h ht, dg_0]; omega
  · rw [lfC_no (fun t ht z => e ⟨t, ht, z⟩)]
    have h1 := lfW_nn (w := w) (k := k) (v := v)
    by_cases z : 0 < lfW w k v
    · obtain ⟨t, ht, e2⟩ := (Sl_T hw h2 hS h).2.2 v z
      exact absurd ⟨t, ht, e2⟩ e
    · omega
theorem gx_NM {K : Int → Int32} (hI : InvK K) {n : Nat} {sw nd st : Nat → Nat} (hS : SxI K n sw nd st) {c : Nat} {u : Int} (hc : c < 2 ^ shN nd n) (hv : Vdx n nd st c) : gxN n nd st (fgS K sw) (tgS K sw) u c = NMz K (tdx nd n (encN nd st n - c)) (whx n nd (fgS K sw) (tgS K sw) u c) (lfC n sw nd st c) := by
  have hst : ∀ t, t < n → st t < 2 ^ nd t := fun t ht => (hS.1 t ht).2.2.1
  have hcp := (dg_compl hst hc hv).2
  rw [NM_NW hI _ _ _ (lfC_T hS)]
  unfold gxN
  exact NW_congr _ _ _ _ (fun t ht => by
    have := hv t ht
    rw [cIx_in ht, hcp t ht]
    show _ = lfC n sw nd st c (sw t : Int)
    rw [lfC_at hS ht]; omega)
/-- the slot that goes on to a place -/
def slB (K : Int → Int32) (sw nd st : Nat → Nat) (c : Nat) (v q : Int) (s : Nat) : Bool := decide (fgS K sw s = v ∧ dgN nd c s < st s ∧ tgS K sw s = q)
theorem ct_sl {K : Int → Int32} (hI : InvK K) {n : Nat} {sw nd st : Nat → Nat} (hS : SxI K n sw nd st) {c k q : Nat} {u v : Int} (hv : v = whx n nd (fgS K sw) (tgS K sw) u c) (hc : c < encN nd st n) (hvc : Vdx n nd st c) (hk : tdx nd n (encN nd st n - c) = k + 1) :
    (fndN (slB K sw nd st c v q) n 0 = -1 ∧ ctM K k v (lfC n sw nd st c) q = 0) ∨ ∃ s, s < n ∧ fndN (slB K sw nd st c v q) n 0 = (s : Int) ∧ (v = fgS K sw s ∧ dgN nd c s < st s ∧ tgS K sw s = q) ∧ wayZ K v q = (sw s : Int) ∧ ctM K k v (lfC n sw nd st c) q = gxN n nd st (fgS K sw) (tgS K sw) u (c + 2 ^ shN nd s) := by
  have hfl := Sx_full hS
  have hst : ∀ t, t < n → st t < 2 ^ nd t := fun t ht => (hS.1 t ht).2.2.1
  rcases fndN_is (slB K sw nd st c v q) n 0 with ⟨h1, h2⟩ | ⟨s, -, h2, h3, h4, -⟩
  · refine Or.inl ⟨h1, if_neg (fun z => ?_)⟩
    obtain ⟨s, hs, e⟩ := (lfC_T (c := c) hS).2.2 _ z.2
    have e : (sw s : Int) = wayZ K v q := e
    have hw := wayZ_ends hI (wyB_t.mp z.1)
    have hl := z.2
    rw [← e, lfC_at hS hs] at hl
    have := h2 s (by omega) (by omega)
    rw [show slB K sw nd st c v q s = true from decide_eq_true ⟨by unfold fgS; rw [e]; exact hw.2.1, by omega, by unfold tgS; rw [e]; exact hw.2.2⟩] at this
    cases this
  · have hs : s < n := by omega
    obtain ⟨p1, p2, p3⟩ := of_decide_eq_true h4
    have hsw : 0 ≤ (sw s : Int) ∧ (sw s : Int) < 2 * tI (K 2) := ⟨Int.natCast_nonneg _, (hS.1 s hs).1⟩
    have hwy : wayZ K v q = (sw s : Int) := by
      have := wayZ_of hI hsw
      rw [show fromZ K (sw s : Int) = v from p1, show toZ K (sw s : Int) = (q : Int) from p3] at this
      exact this
    refine Or.inr ⟨s, hs, h3, ⟨p1.symm, p2, p3⟩, hwy, ?_⟩
    obtain ⟨y1, y2, y3⟩ := Vdx_add hst (show c < 2 ^ shN nd n by omega) hs p2 hvc
    have hm : mayQ K v (lfC n sw nd st c) q := ⟨by rw [wyB_t, hwy]; omega, by rw [hwy, lfC_at hS hs]; omega⟩
    unfold ctM
    rw [if_pos hm, hwy, ← lfC_dc hS (by omega) hvc hs p2, gx_NM hI hS y1 y2, whx_add y1 hs (by omega)]
    have hp : 0 < dgN nd (encN nd st n - c) s := by
      have := (dg_compl hst (show c < 2 ^ shN nd n by omega) hvc).2 s hs
      omega
    have ht := tdx_sub (nd := nd) (n := n) (x := encN nd st n - c) (s := s) (by omega) hs hp
    rw [show encN nd st n - (c + 2 ^ shN nd s) = encN nd st n - c - 2 ^ shN nd s by omega, show tdx nd n (encN nd st n - c - 2 ^ shN nd s) = k by omega, ← hv, ← p1, show fgS K sw s + (tgS K sw s - fgS K sw s) = tgS K sw s by omega, p3]
theorem ct_89 {d : Nat} {E : EnQ} {F : Nat → Int → Int32} {G : Nat → Int → Int64} {K : Int → Int32} {pl n : Nat} {sw nd st : Nat → Nat} {c : Nat} {v q : Int} (hT : TrX E F K pl n sw nd st) (hc : c < 2 ^ shN nd n) (hv : tI (F 191 (c : Int)) = v) (hq : 0 ≤ q ∧ q < 100) (hd : 3 ≤ d) : callP MP d 89 [.ref 178, .int (zI (c : Int)), .int (zI q)] (mk E F G) = some (Sum.inl (some (.int (zI (fndN (slB K sw nd st c v q) n 0)))), mk E F G) := by
  have hT0 := hT
  obtain ⟨hqq, ⟨t1, t2, t3⟩, hR, hP, hpl, hI, hS⟩ := hT
  have h16 := Sx_16 hS
  have hn := Sx_n hS
  have hb1 := hI.1.2.1
  refine into (D := 2) (by omega) hM_89 (rcv_mk rfl (by decide)) rfl fun d hd => ?_
  show runP MP d 89 (0, [some (.ref 178), some (.int (zI (c : Int))), some (.int (zI q)), none], [], _) = _
  have h0 : runP MP d 89 (0, [some (.ref 178), some (.int (zI (c : Int))), some (.int (zI q)), none], [], mk E F G) = runP MP d 89 (2, [some (.ref 178), some (.int (zI (c : Int))), some (.int (zI q)), some (.int (zI ((0 : Nat) : Int)))], [], mk E F G) := by
    rw [q_89_0]; rfl
  rw [h0]
  refine loopS (σ := Unit) (Post := fun r => r = some (Sum.inl (some (.int (zI (fndN (slB K sw nd st c v q) n 0)))), mk E F G))
    (fun s _ => runP MP d 89 (2, [some (.ref 178), some (.int (zI (c : Int))), some (.int (zI q)), some (.int (zI (s : Int)))], [], mk E F G))
    (fun s _ => ∀ t, t < s → slB K sw nd st c v q t = false) n () (fun t h => by omega) (fun z hI2 => ?_) (fun s z hs hI2 => ?_)
  · show runP MP d 89 _ = _
    rw [show fndN (slB K sw nd st c v q) n 0 = -1 from fndN_none (fun i _ hi => hI2 i (by omega))]
    rw [q_89_2]; (try simp only [↓n_rd, ↓n_al, ↓n_cI, li_0, li_1, li_2, li_3, li_6, li_38, zI_add, zI_sub, zI_mul, zI_neg, ↓Option.bind_some]); simp (disch := (first | assumption | exact tI_rg _ | omega | exact uR_at | exact row_ne hF (by decide) | exact row_ne (row_ne hF (by decide)) (by decide) | exact SnS_18 | exact SnS_30 | exact LdS_44 | exact LdS_46)) only [q_89_0, q_89_38, t1, ↓n_rd, ↓n_al, ↓n_cI, li_0, li_1, li_2, li_3, li_6, li_38, zI_add, zI_sub, zI_mul, zI_neg, ↓Option.bind_some, ↓g6_0, ↓g6_1, ↓g6_3, ↓al_185, ↓as_185, zIt2, uR_at, uR_ne, uR_uR, uC_uC, uC_at, ↓reduceIte, decide_eq_true_eq, leT, leF, ltT, ltF, eqT, eqF, ne_eq, not_true_eq_false, not_false_eq_true, Bool.false_eq_true, tI_zI]
  · obtain ⟨s1, s2, s3, s4⟩ := t3 s hs
    have hsw : 0 ≤ (sw s : Int) ∧ (sw s : Int) < 2 * tI (K 2) := ⟨Int.natCast_nonneg _, (hS.1 s hs).1⟩
    have hto := to_in hI hsw
    have e2 : toZ K (sw s : Int) = tgS K sw s := rfl
    have c29 : ∀ {kk : Int → HeapP → ResP} {kx : Nat → HeapP → ResP}, cT (callP MP d 29 [.ref pl, .int (zI (sw s : Int))] (mk E F G)) kk kx = kk (tgS K sw s) (mk E F G) := fun {kk kx} => cc_29 hR hI hP hsw (by omega)
    rw [e2] at hto
    by_cases c1 : fgS K sw s = v ∧ dgN nd c s < st s
    · have c86 : ∀ {kk : Int → HeapP → ResP} {kx : Nat → HeapP → ResP}, cT (callP MP d 86 [.ref 178, .int (zI (c : Int)), .int (zI (s : Int))] (mk E F G)) kk kx = kk 1 (mk E F G) := fun {kk kx} => by
        rw [cc_86 hT0 hc hs (by omega), if_pos ⟨c1.1.trans hv.symm, c1.2⟩]
      by_cases c2 : tgS K sw s = q
      · left
        show runP MP d 89 _ = _
        rw [show fndN (slB K sw nd st c v q) n 0 = (s : Int) from fndN_eq (by omega) (by omega) (decide_eq_true ⟨c1.1, c1.2, c2⟩) (fun i _ hi => hI2 i hi)]
        rw [q_89_2]; (try simp only [↓n_rd, ↓n_al, ↓n_cI, li_0, li_1, li_2, li_3, li_6, li_38, zI_add, zI_sub, zI_mul, zI_neg, ↓Option.bind_some]); simp (disch := (first | assumption | exact tI_rg _ | omega | exact uR_at | exact row_ne hF (by decide) | exact row_ne (row_ne hF (by decide)) (by decide) | exact SnS_18 | exact SnS_30 | exact LdS_44 | exact LdS_46)) only [q_89_0, q_89_38, hqq, t1, s1, ↓c86, ↓c29, ↓al_185, ↓n_rd, ↓n_al, ↓n_cI, li_0, li_1, li_2, li_3, li_6, li_38, zI_add, zI_sub, zI_mul, zI_neg, ↓Option.bind_some, ↓g6_0, ↓g6_1, ↓g6_3, ↓al_185, ↓as_185, zIt2, uR_at, uR_ne, uR_uR, uC_uC, uC_at, ↓reduceIte, decide_eq_true_eq, leT, leF, ltT, ltF, eqT, eqF, ne_eq, not_true_eq_false, not_false_eq_true, Bool.false_eq_true, tI_zI]
      · right
        refine ⟨(), fun t ht => ?_, ?_⟩
        · by_cases z : t = s
          · rw [z]; exact decide_eq_false (fun h => c2 h.2.2)
          · exact hI2 t (by omega)
        · show runP MP d 89 _ = runP MP d 89 _
          rw [nsucc]
          rw [q_89_2]; (try simp only [↓n_rd, ↓n_al, ↓n_cI, li_0, li_1, li_2, li_3, li_6, li_38, zI_add, zI_sub, zI_mul, zI_neg, ↓Option.bind_some]); simp (disch := (first | assumption | exact tI_rg _ | omega | exact uR_at | exact row_ne hF (by decide) | exact row_ne (row_ne hF (by decide)) (by decide) | exact SnS_18 | exact SnS_30 | exact LdS_44 | exact LdS_46)) only [q_89_0, q_89_38, hqq, t1, s1, ↓c86, ↓c29, ↓al_185, ↓n_rd, ↓n_al, ↓n_cI, li_0, li_1, li_2, li_3, li_6, li_38, zI_add, zI_sub, zI_mul, zI_neg, ↓Option.bind_some, ↓g6_0, ↓g6_1, ↓g6_3, ↓al_185, ↓as_185, zIt2, uR_at, uR_ne, uR_uR, uC_uC, uC_at, ↓reduceIte, decide_eq_true_eq, leT, leF, ltT, ltF, eqT, eqF, ne_eq, not_true_eq_false, not_false_eq_true, Bool.false_eq_true, tI_zI]
    · have c86 : ∀ {kk : Int → HeapP → ResP} {kx : Nat → HeapP → ResP}, cT (callP MP d 86 [.ref 178, .int (zI (c : Int)), .int (zI (s : Int))] (mk E F G)) kk kx = kk 0 (mk E F G) := fun {kk kx} => by
        rw [cc_86 hT0 hc hs (by omega), if_neg (fun z => c1 ⟨z.1.trans hv, z.2⟩)]
      right
      refine ⟨(), fun t ht => ?_, ?_⟩
      · by_cases z : t = s
        · rw [z]; exact decide_eq_false (fun h => c1 ⟨h.1, h.2.1⟩)
        · exact hI2 t (by omega)
      · show runP MP d 89 _ = runP MP d 89 _
        rw [nsucc]
        rw [q_89_2]; (try simp only [↓n_rd, ↓n_al, ↓n_cI, li_0, li_1, li_2, li_3, li_6, li_38, zI_add, zI_sub, zI_mul, zI_neg, ↓Option.bind_some]); simp (disch := (first | assumption | exact tI_rg _ | omega | exact uR_at | exact row_ne hF (by decide) | exact row_ne (row_ne hF (by decide)) (by decide) | exact SnS_18 | exact SnS_30 | exact LdS_44 | exact LdS_46)) only [q_89_0, q_89_38, t1, ↓c86, ↓n_rd, ↓n_al, ↓n_cI, li_0, li_1, li_2, li_3, li_6, li_38, zI_add, zI_sub, zI_mul, zI_neg, ↓Option.bind_some, ↓g6_0, ↓g6_1, ↓g6_3, ↓al_185, ↓as_185, zIt2, uR_at, uR_ne, uR_uR, uC_uC, uC_at, ↓reduceIte, decide_eq_true_eq, leT, leF, ltT, ltF, eqT, eqF, ne_eq, not_true_eq_false, not_false_eq_true, Bool.false_eq_true, tI_zI]
end S94zzzzc
