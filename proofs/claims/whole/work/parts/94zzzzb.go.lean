/-! how each code goes on -/
section S94zzzzb
set_option linter.unusedVariables false
set_option linter.unusedSimpArgs false
def gxN (n : Nat) (nd st : Nat → Nat) (fr to : Nat → Int) (u : Int) (x : Nat) : Int := NW n fr to (tdx nd n (encN nd st n - x)) (whx n nd fr to u x) (cIx nd n (encN nd st n - x))
def goT (n : Nat) (nd st : Nat → Nat) (fr to : Nat → Int) (u : Int) (x s : Nat) : Int := if whx n nd fr to u x = fr s ∧ dgN nd x s < st s then gxN n nd st fr to u (x + 2 ^ shN nd s) else 0
theorem gx_full {n : Nat} {nd st : Nat → Nat} {fr to : Nat → Int} {u : Int} : gxN n nd st fr to u (encN nd st n) = 1 := by
  unfold gxN
  rw [Nat.sub_self, tdx_0]; rfl
theorem gx_step {K : Int → Int32} {n : Nat} {sw nd st : Nat → Nat} {fr to : Nat → Int} {u : Int} (hS : SxI K n sw nd st) {x : Nat} (hx : x < encN nd st n) (hv : Vdx n nd st x) : gxN n nd st fr to u x = sumN (goT n nd st fr to u x) n := by
  have hfl := Sx_full hS
  have hst : ∀ t, t < n → st t < 2 ^ nd t := fun t ht => (hS.1 t ht).2.2.1
  have hcp := (dg_compl hst (show x < 2 ^ shN nd n by omega) hv).2
  obtain ⟨k, hk⟩ : ∃ k, tdx nd n (encN nd st n - x) = k + 1 := ⟨tdx nd n (encN nd st n - x) - 1, by have := tdx_pos (nd := nd) (n := n) (x := encN nd st n - x) (by omega) (by omega); omega⟩
  unfold gxN
  rw [hk]
  show sumN (fun s => if fr s = whx n nd fr to u x ∧ 0 < cIx nd n (encN nd st n - x) s then NW n fr to k (to s) (dcI (cIx nd n (encN nd st n - x)) s) else 0) n = _
  refine sumN_congr (fun s hs => ?_)
  have hd := hcp s hs
  have hvs := hv s hs
  show (if fr s = whx n nd fr to u x ∧ 0 < cIx nd n (encN nd st n - x) s then NW n fr to k (to s) (dcI (cIx nd n (encN nd st n - x)) s) else 0) = goT n nd st fr to u x s
  unfold goT
  rw [cIx_in hs]
  by_cases c1 : whx n nd fr to u x = fr s
  · by_cases c2 : dgN nd x s < st s
    · obtain ⟨y1, y2, y3⟩ := Vdx_add hst (show x < 2 ^ shN nd n by omega) hs c2 hv
      have hp : 0 < dgN nd (encN nd st n - x) s := by omega
      rw [if_pos ⟨c1.symm, by omega⟩, if_pos ⟨c1, c2⟩]
      unfold gxN
      rw [show encN nd st n - (x + 2 ^ shN nd s) = encN nd st n - x - 2 ^ shN nd s by omega, cIx_sub (by omega) hs hp, whx_add y1 hs (by omega), c1, show fr s + (to s - fr s) = to s by omega]
      have := tdx_sub (nd := nd) (n := n) (x := encN nd st n - x) (s := s) (by omega) hs hp
      rw [show tdx nd n (encN nd st n - x - 2 ^ shN nd s) = k by omega]
    · rw [if_neg (fun z => c2 (by have := z.2; omega)), if_neg (fun z => c2 z.2)]
  · rw [if_neg (fun z => c1 z.1.symm), if_neg (fun z => c1 z.1)]
theorem gx_nn {n : Nat} {nd st : Nat → Nat} {fr to : Nat → Int} {u : Int} {x : Nat} : 0 ≤ gxN n nd st fr to u x := NW_nn _ _ _
theorem goT_nn {n : Nat} {nd st : Nat → Nat} {fr to : Nat → Int} {u : Int} {x s : Nat} : 0 ≤ goT n nd st fr to u x s := by
  unfold goT; split
  · exact gx_nn
  · exact Int.le_refl _
theorem gx_bd {K : Int → Int32} {n : Nat} {sw nd st : Nat → Nat} {fr to : Nat → Int} {u : Int} (hS : SxI K n sw nd st) {x : Nat} (hx : x < 2 ^ shN nd n) (hv : Vdx n nd st x) : gxN n nd st fr to u x ≤ 11112006825558016 := by
  have hst : ∀ t, t < n → st t < 2 ^ nd t := fun t ht => (hS.1 t ht).2.2.1
  have hcp := (dg_compl hst hx hv).2
  have ht := Sx_td hS (x := encN nd st n - x) (fun t ht => by rw [hcp t ht]; omega)
  have hn := Sx_n hS
  have h := NW_bd (n := n) (fr := fr) (to := to) (b := 14) (by omega) (by omega) (tdx nd n (encN nd st n - x)) (whx n nd fr to u x) (cIx nd n (encN nd st n - x))
  have hm : ∀ k, k ≤ 14 → pwT 14 k ≤ 11112006825558016 := by decide
  exact Int.le_trans h (hm _ ht)
theorem sumN_up {f : Nat → Int} {n : Nat} (h : ∀ j, j < n → 0 ≤ f j) : ∀ m, m ≤ n → sumN f m ≤ sumN f n := by
  induction n with
  | zero => intro m hm; have : m = 0 := by omega
            rw [this]; exact Int.le_refl _
  | succ n ih =>
    intro m hm
    by_cases c : m = n + 1
    · rw [c]; exact Int.le_refl _
    · have h1 := ih (fun j hj => h j (by omega)) m (by omega)
      have h2 := h n (by omega)
      show sumN f m ≤ sumN f n + f n
      omega
/-- what goes on, behind some codes from the last one down -/
def GoI (n : Nat) (nd st : Nat → Nat) (fr to : Nat → Int) (u : Int) (g h : Int → Int64) (c : Nat) : Prop := ∀ x : Nat, x ≤ encN nd st n → (c ≤ x → 0 < tJ (g x) → tJ (h x) = gxN n nd st fr to u x) ∧ ((x < c ∨ tJ (g x) ≤ 0) → tJ (h x) = 0)
theorem go_slot {d : Nat} {E : EnQ} {F : Nat → Int → Int32} {G : Nat → Int → Int64} {K : Int → Int32} {pl n : Nat} {sw nd st : Nat → Nat} {c s : Nat} {u : Int} {r : Int → Int32} {g h : Int → Int64} (hT : TrX E F K pl n sw nd st) (hs : s < n) (hc : c < encN nd st n) (hvc : Vdx n nd st c) (hg : CmD n nd st (fgS K sw) (tgS K sw) u g) (hr : ∀ x : Nat, x ≤ encN nd st n → 0 < tJ (g x) → tI (r x) = whx n nd (fgS K sw) (tgS K sw) u x) (hw : 0 < tJ (g (c : Int)))
      (hup : ∀ x : Nat, x ≤ encN nd st n → c < x → 0 < tJ (g x) → tJ (h x) = gxN n nd st (fgS K sw) (tgS K sw) u x) (hcc : tJ (h (c : Int)) = sumN (goT n nd st (fgS K sw) (tgS K sw) u c) s) (hd : 3 ≤ d) :
    ∃ h', runP MP d 88 (76, [some (.ref 178), some (.int (zI u)), some (.int (zI (c : Int))), some (.int (zI (s : Int)))], [], mk E (uR F 191 r) (uR (uR G 189 g) 190 h)) = runP MP d 88 (76, [some (.ref 178), some (.int (zI u)), some (.int (zI (c : Int))), some (.int (zI ((s + 1 : Nat) : Int)))], [], mk E (uR F 191 r) (uR (uR G 189 g) 190 h')) ∧ (∀ x : Int, x ≠ c → h' x = h x) ∧ tJ (h' (c : Int)) = sumN (goT n nd st (fgS K sw) (tgS K sw) u c) (s + 1) := by
  have hT' := TrX_191 (r := r) hT
  obtain ⟨hq, ⟨t1, t2, t3⟩, hR, hP, hpl, hI, hS⟩ := hT
  obtain ⟨s1, s2, s3, s4⟩ := t3 s hs
  have h16 := Sx_16 hS
  have hfl := Sx_full hS
  have hn := Sx_n hS
  have hsh : shN nd s ≤ shN nd n := shN_mono (by omega)
  have h14 := hS.2.2.1
  have hwh := hr c (by omega) hw
  have hsl := shl1 (p := ((shN nd s : Nat) : Int)) (by omega)
  rw [show ((shN nd s : Nat) : Int).toNat = shN nd s by omega] at hsl
  have hy : (c : Int) + ((2 ^ shN nd s : Nat) : Int) = ((c + 2 ^ shN nd s : Nat) : Int) := rfl
  have esum : sumN (goT n nd st (fgS K sw) (tgS K sw) u c) (s + 1) = sumN (goT n nd st (fgS K sw) (tgS K sw) u c) s + goT n nd st (fgS K sw) (tgS K sw) u c s := rfl
  by_cases hm : whx n nd (fgS K sw) (tgS K sw) u c = fgS K sw s ∧ dgN nd c s < st s
  · have hst : ∀ t, t < n → st t < 2 ^ nd t := fun t ht => (hS.1 t ht).2.2.1
    obtain ⟨y1, y2, y3⟩ := Vdx_add hst (by omega) hs hm.2 hvc
    have hyl := Sx_le hS y1 y2
    have h2p := Nat.two_pow_pos (shN nd s)
    have c86 : ∀ {kk : Int → HeapP → ResP} {kx : Nat → HeapP → ResP}, cT (callP MP d 86 [.ref 178, .int (zI (c : Int)), .int (zI (s : Int))] (mk E (uR F 191 r) (uR (uR G 189 g) 190 h))) kk kx = kk 1 (mk E (uR F 191 r) (uR (uR G 189 g) 190 h)) := fun {kk kx} => by
      rw [cc_86 hT' (by omega) hs (by omega), if_pos ⟨by rw [uR_at, hwh]; exact hm.1.symm, hm.2⟩]
    have hwy : 0 < tJ (g ((c + 2 ^ shN nd s : Nat) : Int)) := by
      rw [(hg _ hyl).1 y2]
      have h1 := (hg c (by omega)).1 hvc
      have h2 := Wx_up (n := n) (nd := nd) (fr := fgS K sw) (to := tgS K sw) (u := u) y1 hs (by omega) hm.1
      omega
    have hhy := hup _ hyl (by omega) hwy
    have eT : goT n nd st (fgS K sw) (tgS K sw) u c s = gxN n nd st (fgS K sw) (tgS K sw) u (c + 2 ^ shN nd s) := if_pos hm
    have hle := sumN_up (f := goT n nd st (fgS K sw) (tgS K sw) u c) (n := n) (fun _ _ => goT_nn) (s + 1) (by omega)
    rw [← gx_step hS hc hvc] at hle
    have hbd := gx_bd (fr := fgS K sw) (to := tgS K sw) (u := u) hS (show c < 2 ^ shN nd n by omega) hvc
    have hnn := sumN_nneg (f := goT n nd st (fgS K sw) (tgS K sw) u c) (n := s + 1) (fun _ _ => goT_nn)
    have hv0 : 0 ≤ (c : Int) ∧ (c : Int) < 16384 := by omega
    have hv1 : 0 ≤ ((c + 2 ^ shN nd s : Nat) : Int) ∧ ((c + 2 ^ shN nd s : Nat) : Int) < 16384 := ⟨Int.natCast_nonneg _, Int.ofNat_lt.mpr (Nat.lt_of_lt_of_le y1 h16)⟩
    refine ⟨uC h (c : Int) (zJ (sumN (goT n nd st (fgS K sw) (tgS K sw) u c) (s + 1))), ?_, fun x hx => uC_ne hx, ?_⟩
    · rw [nsucc, esum, eT]
      rw [q_88_76]; (try simp only [↓n_rd, ↓n_al, ↓n_alJ, ↓n_cI, li_0, li_1, li_2, li_3, li_5, li_6, li_7, li_8, li_59, lj_0, lj_1, lj_2, lj_3, lj_5, lj_6, zJ_add, zJ_sub, zJ_mul, zJ_neg, zJ_l2i, zI_add, zI_sub, zI_mul, zI_neg, ↓Option.bind_some]); simp (disch := (first | assumption | exact tI_rg _ | omega | exact uR_at | exact row_ne hF (by decide) | exact row_ne (row_ne hF (by decide)) (by decide) | exact SnS_18 | exact SnS_30 | exact LdS_44 | exact LdS_46)) only [q_88_0, q_88_51, q_88_117, q_88_123, hq, t1, s3, ↓c86, hsl, hy, ↓al_190 hv1, ↓al_190 hv0, ↓as_190 hv0, ↓al_187, hcc, hhy, ↓n_rd, ↓n_al, ↓n_alJ, ↓n_cI, li_0, li_1, li_2, li_3, li_5, li_6, li_7, li_8, li_59, lj_0, lj_1, lj_2, lj_3, lj_5, lj_6, zJ_add, zJ_sub, zJ_mul, zJ_neg, zJ_l2i, tJ_zJ, zI_add, zI_sub, zI_mul, zI_neg, ↓Option.bind_some, ↓g6_1, ↓g6_2, ↓g6_5, ↓g6_7, ↓g6_8, ↓al_187, ↓as_187, ↓al_189, ↓as_189, ↓al_190, ↓as_190, zIt2, uR_at, uR_ne, uR_uR, uC_uC, uC_at, ↓reduceIte, decide_eq_true_eq, leT, leF, ltT, ltF, eqT, eqF, ne_eq, not_true_eq_false, not_false_eq_true, Bool.false_eq_true, tI_zI]
    · rw [uC_at, tJ_zJ (by omega)]
  · have c86 : ∀ {kk : Int → HeapP → ResP} {kx : Nat → HeapP → ResP}, cT (callP MP d 86 [.ref 178, .int (zI (c : Int)), .int (zI (s : Int))] (mk E (uR F 191 r) (uR (uR G 189 g) 190 h))) kk kx = kk 0 (mk E (uR F 191 r) (uR (uR G 189 g) 190 h)) := fun {kk kx} => by
      rw [cc_86 hT' (by omega) hs (by omega), if_neg (fun z => hm ⟨by rw [← hwh]; have := z.1; rw [uR_at] at this; exact this.symm, z.2⟩)]
    refine ⟨h, ?_, fun _ _ => rfl, ?_⟩
    · rw [nsucc]
      rw [q_88_76]; (try simp only [↓n_rd, ↓n_al, ↓n_alJ, ↓n_cI, li_0, li_1, li_2, li_3, li_5, li_6, li_7, li_8, li_59, lj_0, lj_1, lj_2, lj_3, lj_5, lj_6, zJ_add, zJ_sub, zJ_mul, zJ_neg, zJ_l2i, zI_add, zI_sub, zI_mul, zI_neg, ↓Option.bind_some]); simp (disch := (first | assumption | exact tI_rg _ | omega | exact uR_at | exact row_ne hF (by decide) | exact row_ne (row_ne hF (by decide)) (by decide) | exact SnS_18 | exact SnS_30 | exact LdS_44 | exact LdS_46)) only [q_88_0, q_88_51, q_88_117, q_88_123, hq, t1, ↓c86, ↓n_rd, ↓n_al, ↓n_alJ, ↓n_cI, li_0, li_1, li_2, li_3, li_5, li_6, li_7, li_8, li_59, lj_0, lj_1, lj_2, lj_3, lj_5, lj_6, zJ_add, zJ_sub, zJ_mul, zJ_neg, zJ_l2i, tJ_zJ, zI_add, zI_sub, zI_mul, zI_neg, ↓Option.bind_some, ↓g6_1, ↓g6_2, ↓g6_5, ↓g6_7, ↓g6_8, ↓al_187, ↓as_187, ↓al_189, ↓as_189, ↓al_190, ↓as_190, zIt2, uR_at, uR_ne, uR_uR, uC_uC, uC_at, ↓reduceIte, decide_eq_true_eq, leT, leF, ltT, ltF, eqT, eqF, ne_eq, not_true_eq_false, not_false_eq_true, Bool.false_eq_true, tI_zI]
    · rw [esum, hcc, show goT n nd st (fgS K sw) (tgS K sw) u c s = 0 from if_neg hm]; omega
theorem ct_88 {d : Nat} {E : EnQ} {F : Nat → Int → Int32} {G : Nat → Int → Int64} {K : Int → Int32} {pl n : Nat} {sw nd st : Nat → Nat} {u : Int} (hT : TrX E F K pl n sw nd st) (hu : 0 ≤ u ∧ u < 100) (hd : 4 + 1 ≤ d) :
    ∃ r g h, callP MP d 88 [.ref 178, .int (zI u)] (mk E F G) = some (Sum.inl (some (.long (zJ (Wx n nd (fgS K sw) (tgS K sw) u (encN nd st n))))), mk E (uR F 191 r) (uR (uR G 189 g) 190 h)) ∧ CmD n nd st (fgS K sw) (tgS K sw) u g ∧ (∀ x : Nat, x ≤ encN nd st n → 0 < tJ (g x) → tI (r x) = whx n nd (fgS K sw) (tgS K sw) u x) ∧ GoI n nd st (fgS K sw) (tgS K sw) u g h 0 := by
  have hT0 := hT
  obtain ⟨r, g, q1, q2, q3⟩ := ct_85 (d := d - 1) (E := E) (F := F) (G := G) (a := 189) hT (Or.inl rfl) hu (by omega)
  obtain ⟨hq, ⟨t1, t2, t3⟩, hR, hP, hpl, hI, hS⟩ := hT
  have h16 := Sx_16 hS
  have hfl := Sx_full hS
  have hn := Sx_n hS
  have hVf := V_full hS
  have hWf := (q2 (encN nd st n) (Nat.le_refl _)).1 hVf
  have hWb := Sx_W (fr := fgS K sw) (to := tgS K sw) (u := u) hS hVf
  have hWn := Wx_nn (n := n) (nd := nd) (fr := fgS K sw) (to := tgS K sw) (u := u) (x := encN nd st n)
  obtain ⟨h0, hh0⟩ : ∃ h0 : Int → Int64, h0 = uC (flJ (G 190) (encN nd st n + 1) 0) (encN nd st n : Int) (zJ (if 0 < tJ (g (encN nd st n : Int)) then 1 else 0)) := ⟨_, rfl⟩
  obtain ⟨e, rfl⟩ : ∃ e, d = e + 1 := ⟨d - 1, by omega⟩
  have hin : callP MP (e + 1) 88 [.ref 178, .int (zI u)] (mk E F G) = runP MP e 88 (0, [some (.ref 178), some (.int (zI u)), none, none], [], mk E F G) := into_eq (by omega) hM_88 (rcv_mk rfl (by decide)) rfl
  have q1 : callP MP e 85 [.ref 178, .int (zI u), .ref 189] (mk E F G) = some (Sum.inl none, mk E (uR F 191 r) (uR G 189 g)) := q1
  have c85 : ∀ {kk : HeapP → ResP} {kx : Nat → HeapP → ResP}, cV (callP MP e 85 [.ref 178, .int (zI u), .ref 189] (mk E F G)) kk kx = kk (mk E (uR F 191 r) (uR G 189 g)) := fun {kk kx} => cV_ret q1
  have c3 : ∀ {kk : HeapP → ResP} {kx : Nat → HeapP → ResP}, cV (callP MP e 3 [.ref 190, .int (zI 0), .int (zI ((encN nd st n : Int) + 1)), .long (zJ 0)] (mk E (uR F 191 r) (uR G 189 g))) kk kx = kk (mk E (uR F 191 r) (uR (uR G 189 g) 190 (flJ (G 190) (encN nd st n + 1) 0))) := fun {kk kx} => by
    have := ct_3 (d := e) (E := E) (F := uR F 191 r) (G := uR G 189 g) (a := 190) (m := encN nd st n + 1) (Or.inr rfl) (by omega) (by omega)
    rw [show uR G 189 g 190 = G 190 from uR_ne (by decide)] at this
    exact cV_ret this
  have hvf : 0 ≤ (encN nd st n : Int) ∧ (encN nd st n : Int) < 16384 := by omega
  have hstart : runP MP e 88 (0, [some (.ref 178), some (.int (zI u)), none, none], [], mk E F G) = runP MP e 88 (59, [some (.ref 178), some (.int (zI u)), some (.int (zI ((encN nd st n : Int) - 1))), none], [], mk E (uR F 191 r) (uR (uR G 189 g) 190 h0)) := by
    rw [hh0]
    by_cases c : 0 < tJ (g (encN nd st n : Int))
    · rw [if_pos c]
      have hz : ¬ tJ (g (encN nd st n : Int)) ≤ 0 := by omega
      have hz2 : ¬ Wx n nd (fgS K sw) (tgS K sw) u (encN nd st n) ≤ 0 := by omega
      rw [q_88_0]; (try simp only [↓n_rd, ↓n_al, ↓n_alJ, ↓n_cI, li_0, li_1, li_2, li_3, li_5, li_6, li_7, li_8, li_59, lj_0, lj_1, lj_2, lj_3, lj_5, lj_6, zJ_add, zJ_sub, zJ_mul, zJ_neg, zJ_l2i, zI_add, zI_sub, zI_mul, zI_neg, ↓Option.bind_some]); simp (disch := (first | assumption | exact tI_rg _ | omega | exact uR_at | exact row_ne hF (by decide) | exact row_ne (row_ne hF (by decide)) (by decide) | exact SnS_18 | exact SnS_30 | exact LdS_44 | exact LdS_46)) only [q_88_51, q_88_117, q_88_123, t2, ↓c85, ↓c3, ↓al_189 hvf, ↓as_190 hvf, cmpJ_le, hWf, hz2, ↓n_rd, ↓n_al, ↓n_alJ, ↓n_cI, li_0, li_1, li_2, li_3, li_5, li_6, li_7, li_8, li_59, lj_0, lj_1, lj_2, lj_3, lj_5, lj_6, zJ_add, zJ_sub, zJ_mul, zJ_neg, zJ_l2i, tJ_zJ, zI_add, zI_sub, zI_mul, zI_neg, ↓Option.bind_some, ↓g6_1, ↓g6_2, ↓g6_5, ↓g6_7, ↓g6_8, ↓al_187, ↓as_187, ↓al_189, ↓as_189, ↓al_190, ↓as_190, zIt2, uR_at, uR_ne, uR_uR, uC_uC, uC_at, ↓reduceIte, decide_eq_true_eq, leT, leF, ltT, ltF, eqT, eqF, ne_eq, not_true_eq_false, not_false_eq_true, Bool.false_eq_true, tI_zI]
    · rw [if_neg c]
      have hz2 : Wx n nd (fgS K sw) (tgS K sw) u (encN nd st n) ≤ 0 := by omega
      rw [q_88_0]; (try simp only [↓n_rd, ↓n_al, ↓n_alJ, ↓n_cI, li_0, li_1, li_2, li_3, li_5, li_6, li_7, li_8, li_59, lj_0, lj_1, lj_2, lj_3, lj_5, lj_6, zJ_add, zJ_sub, zJ_mul, zJ_neg, zJ_l2i, zI_add, zI_sub, zI_mul, zI_neg, ↓Option.bind_some]); simp (disch := (first | assumption | exact tI_rg _ | omega | exact uR_at | exact row_ne hF (by decide) | exact row_ne (row_ne hF (by decide)) (by decide) | exact SnS_18 | exact SnS_30 | exact LdS_44 | exact LdS_46)) only [q_88_51, q_88_117, q_88_123, t2, ↓c85, ↓c3, ↓al_189 hvf, ↓as_190 hvf, cmpJ_le, hWf, hz2, ↓n_rd, ↓n_al, ↓n_alJ, ↓n_cI, li_0, li_1, li_2, li_3, li_5, li_6, li_7, li_8, li_59, lj_0, lj_1, lj_2, lj_3, lj_5, lj_6, zJ_add, zJ_sub, zJ_mul, zJ_neg, zJ_l2i, tJ_zJ, zI_add, zI_sub, zI_mul, zI_neg, ↓Option.bind_some, ↓g6_1, ↓g6_2, ↓g6_5, ↓g6_7, ↓g6_8, ↓al_187, ↓as_187, ↓al_189, ↓as_189, ↓al_190, ↓as_190, zIt2, uR_at, uR_ne, uR_uR, uC_uC, uC_at, ↓reduceIte, decide_eq_true_eq, leT, leF, ltT, ltF, eqT, eqF, ne_eq, not_true_eq_false, not_false_eq_true, Bool.false_eq_true, tI_zI]
  have hG0 : GoI n nd st (fgS K sw) (tgS K sw) u g h0 (encN nd st n - 0) := fun x hx => by
    rw [Nat.sub_zero, hh0]
    by_cases e : x = encN nd st n
    · rw [e, uC_at]
      refine ⟨fun _ hp => ?_, fun hp => ?_⟩
      · rw [if_pos hp, tJ_zJ (by omega), gx_full]
      · rw [if_neg (by omega), tJ_zJ (by omega)]
    · rw [uC_ne (by omega)]
      have ez : tJ (flJ (G 190) (encN nd st n + 1) 0 (x : Int)) = 0 := by
        show tJ (if 0 ≤ (x : Int) ∧ (x : Int) < ((encN nd st n + 1 : Nat) : Int) then zJ 0 else G 190 x) = 0
        rw [if_pos (by omega), tJ_zJ (by omega)]
      exact ⟨fun hp => by omega, fun _ => ez⟩
  have hmain : ∃ h, runP MP e 88 (59, [some (.ref 178), some (.int (zI u)), some (.int (zI ((encN nd st n : Int) - 1 - ((0 : Nat) : Int)))), none], [], mk E (uR F 191 r) (uR (uR G 189 g) 190 h0)) = some (Sum.inl (some (.long (zJ (Wx n nd (fgS K sw) (tgS K sw) u (encN nd st n))))), mk E (uR F 191 r) (uR (uR G 189 g) 190 h)) ∧ GoI n nd st (fgS K sw) (tgS K sw) u g h 0 := by
    refine loopS (σ := (Int → Int64) × Option Value) (Post := fun rr => ∃ h, rr = some (Sum.inl (some (.long (zJ (Wx n nd (fgS K sw) (tgS K sw) u (encN nd st n))))), mk E (uR F 191 r) (uR (uR G 189 g) 190 h)) ∧ GoI n nd st (fgS K sw) (tgS K sw) u g h 0)
      (fun j s => runP MP e 88 (59, [some (.ref 178), some (.int (zI u)), some (.int (zI ((encN nd st n : Int) - 1 - (j : Int)))), s.2], [], mk E (uR F 191 r) (uR (uR G 189 g) 190 s.1)))
      (fun j s => GoI n nd st (fgS K sw) (tgS K sw) u g s.1 (encN nd st n - j)) (encN nd st n) (h0, none) hG0 (fun s hC => ?_) (fun j s hj hC => ?_)
    · rw [Nat.sub_self] at hC
      refine ⟨s.1, ?_, hC⟩
      have hv : tJ (s.1 0) = Wx n nd (fgS K sw) (tgS K sw) u (encN nd st n) := by
        have hg0 : tJ (g ((0 : Nat) : Int)) = 1 := by rw [(q2 0 (by omega)).1 Vdx_0, Wx_0]
        have := (hC 0 (by omega)).1 (by omega) (by omega)
        rw [show ((0 : Nat) : Int) = 0 from rfl] at this
        rw [this]
        unfold gxN Wx
        rw [whx_0, Nat.sub_zero]
      show runP MP e 88 _ = _
      have hneg : (encN nd st n : Int) - 1 - ((encN nd st n : Nat) : Int) = -1 := by omega
      rw [hneg]
      have hv0 : 0 ≤ (0 : Int) ∧ (0 : Int) < 16384 := by omega
      rw [q_88_59]; (try simp only [↓n_rd, ↓n_al, ↓n_alJ, ↓n_cI, li_0, li_1, li_2, li_3, li_5, li_6, li_7, li_8, li_59, lj_0, lj_1, lj_2, lj_3, lj_5, lj_6, zJ_add, zJ_sub, zJ_mul, zJ_neg, zJ_l2i, zI_add, zI_sub, zI_mul, zI_neg, ↓Option.bind_some]); simp (disch := (first | assumption | exact tI_rg _ | omega | exact uR_at | exact row_ne hF (by decide) | exact row_ne (row_ne hF (by decide)) (by decide) | exact SnS_18 | exact SnS_30 | exact LdS_44 | exact LdS_46)) only [q_88_0, q_88_51, q_88_117, q_88_123, ↓al_190 hv0, hv, ↓n_rd, ↓n_al, ↓n_alJ, ↓n_cI, li_0, li_1, li_2, li_3, li_5, li_6, li_7, li_8, li_59, lj_0, lj_1, lj_2, lj_3, lj_5, lj_6, zJ_add, zJ_sub, zJ_mul, zJ_neg, zJ_l2i, tJ_zJ, zI_add, zI_sub, zI_mul, zI_neg, ↓Option.bind_some, ↓g6_1, ↓g6_2, ↓g6_5, ↓g6_7, ↓g6_8, ↓al_187, ↓as_187, ↓al_189, ↓as_189, ↓al_190, ↓as_190, zIt2, uR_at, uR_ne, uR_uR, uC_uC, uC_at, ↓reduceIte, decide_eq_true_eq, leT, leF, ltT, ltF, eqT, eqF, ne_eq, not_true_eq_false, not_false_eq_true, Bool.false_eq_true, tI_zI]
    · right
      obtain ⟨c, hc⟩ : ∃ c : Nat, c + 1 = encN nd st n - j := ⟨encN nd st n - j - 1, by omega⟩
      have hci : (encN nd st n : Int) - 1 - (j : Int) = (c : Int) := by omega
      have hci2 : (encN nd st n : Int) - 1 - ((j + 1 : Nat) : Int) = (c : Int) + -1 := by omega
      have hcj : encN nd st n - (j + 1) = c := by omega
      have hv0 : 0 ≤ (c : Int) ∧ (c : Int) < 16384 := by omega
      have hrg := tJ_rg (g (c : Int))
      rw [hcj, hci]
      rw [← hc] at hC
      by_cases hz : tJ (g (c : Int)) ≤ 0
      · refine ⟨s, fun x hx => ⟨fun h1 h2 => ?_, fun h1 => ?_⟩, ?_⟩
        · by_cases ex : x = c
          · rw [ex] at h2; omega
          · exact (hC x hx).1 (by omega) h2
        · exact (hC x hx).2 (by omega)
        · show runP MP e 88 _ = runP MP e 88 _
          rw [hci2]
          rw [q_88_59]; (try simp only [↓n_rd, ↓n_al, ↓n_alJ, ↓n_cI, li_0, li_1, li_2, li_3, li_5, li_6, li_7, li_8, li_59, lj_0, lj_1, lj_2, lj_3, lj_5, lj_6, zJ_add, zJ_sub, zJ_mul, zJ_neg, zJ_l2i, zI_add, zI_sub, zI_mul, zI_neg, ↓Option.bind_some]); simp (disch := (first | assumption | exact tI_rg _ | omega | exact uR_at | exact row_ne hF (by decide) | exact row_ne (row_ne hF (by decide)) (by decide) | exact SnS_18 | exact SnS_30 | exact LdS_44 | exact LdS_46)) only [q_88_0, q_88_51, q_88_117, q_88_123, ↓al_189 hv0, cmpJ_le, hz, ↓n_rd, ↓n_al, ↓n_alJ, ↓n_cI, li_0, li_1, li_2, li_3, li_5, li_6, li_7, li_8, li_59, lj_0, lj_1, lj_2, lj_3, lj_5, lj_6, zJ_add, zJ_sub, zJ_mul, zJ_neg, zJ_l2i, tJ_zJ, zI_add, zI_sub, zI_mul, zI_neg, ↓Option.bind_some, ↓g6_1, ↓g6_2, ↓g6_5, ↓g6_7, ↓g6_8, ↓al_187, ↓as_187, ↓al_189, ↓as_189, ↓al_190, ↓as_190, zIt2, uR_at, uR_ne, uR_uR, uC_uC, uC_at, ↓reduceIte, decide_eq_true_eq, leT, leF, ltT, ltF, eqT, eqF, ne_eq, not_true_eq_false, not_false_eq_true, Bool.false_eq_true, tI_zI]
      · have hvc : Vdx n nd st c := Classical.byContradiction (fun z => hz (by rw [(q2 c (by omega)).2 z]; omega))
        have hinner : ∃ h, runP MP e 88 (76, [some (.ref 178), some (.int (zI u)), some (.int (zI (c : Int))), some (.int (zI ((0 : Nat) : Int)))], [], mk E (uR F 191 r) (uR (uR G 189 g) 190 s.1)) = runP MP e 88 (76, [some (.ref 178), some (.int (zI u)), some (.int (zI (c : Int))), some (.int (zI (n : Int)))], [], mk E (uR F 191 r) (uR (uR G 189 g) 190 h)) ∧ (∀ x : Int, x ≠ c → h x = s.1 x) ∧ tJ (h (c : Int)) = sumN (goT n nd st (fgS K sw) (tgS K sw) u c) n := by
          refine loopS (σ := Int → Int64) (Post := fun rr => ∃ h, rr = runP MP e 88 (76, [some (.ref 178), some (.int (zI u)), some (.int (zI (c : Int))), some (.int (zI (n : Int)))], [], mk E (uR F 191 r) (uR (uR G 189 g) 190 h)) ∧ (∀ x : Int, x ≠ c → h x = s.1 x) ∧ tJ (h (c : Int)) = sumN (goT n nd st (fgS K sw) (tgS K sw) u c) n)
            (fun t h => runP MP e 88 (76, [some (.ref 178), some (.int (zI u)), some (.int (zI (c : Int))), some (.int (zI (t : Int)))], [], mk E (uR F 191 r) (uR (uR G 189 g) 190 h)))
            (fun t h => (∀ x : Int, x ≠ c → h x = s.1 x) ∧ tJ (h (c : Int)) = sumN (goT n nd st (fgS K sw) (tgS K sw) u c) t) n s.1 ⟨fun _ _ => rfl, (hC c (by omega)).2 (Or.inl (by omega))⟩ (fun h hh => ⟨h, rfl, hh.1, hh.2⟩) (fun t h ht hh => ?_)
          right
          obtain ⟨h', e1, e2, e3⟩ := go_slot (d := e) (G := G) (r := r) (g := g) (h := h) hT0 ht (by omega) hvc q2 q3 (by omega) (fun x hx hcx hgx => by rw [hh.1 x (by omega)]; exact (hC x hx).1 (by omega) hgx) hh.2 (by omega)
          exact ⟨h', ⟨fun x hx => (e2 x hx).trans (hh.1 x hx), e3⟩, e1⟩
        obtain ⟨h, e1, e2, e3⟩ := hinner
        refine ⟨(h, some (.int (zI (n : Int)))), fun x hx => ⟨fun h1 h2 => ?_, fun h1 => ?_⟩, ?_⟩
        · by_cases ex : x = c
          · rw [ex]; show tJ (h (c : Int)) = _; rw [e3, ← gx_step hS (by omega) hvc]
          · show tJ (h (x : Int)) = _
            rw [e2 x (by omega)]; exact (hC x hx).1 (by omega) h2
        · have hne : x ≠ c := fun z => by rw [z] at h1; omega
          show tJ (h (x : Int)) = _
          rw [e2 x (by omega)]; exact (hC x hx).2 (by omega)
        · show runP MP e 88 _ = runP MP e 88 _
          have e4 : runP MP e 88 (76, [some (.ref 178), some (.int (zI u)), some (.int (zI (c : Int))), some (.int (zI (n : Int)))], [], mk E (uR F 191 r) (uR (uR G 189 g) 190 h)) = runP MP e 88 (59, [some (.ref 178), some (.int (zI u)), some (.int (zI ((c : Int) + -1))), some (.int (zI (n : Int)))], [], mk E (uR F 191 r) (uR (uR G 189 g) 190 h)) := by
            rw [q_88_76]; (try simp only [↓n_rd, ↓n_al, ↓n_alJ, ↓n_cI, li_0, li_1, li_2, li_3, li_5, li_6, li_7, li_8, li_59, lj_0, lj_1, lj_2, lj_3, lj_5, lj_6, zJ_add, zJ_sub, zJ_mul, zJ_neg, zJ_l2i, zI_add, zI_sub, zI_mul, zI_neg, ↓Option.bind_some]); simp (disch := (first | assumption | exact tI_rg _ | omega | exact uR_at | exact row_ne hF (by decide) | exact row_ne (row_ne hF (by decide)) (by decide) | exact SnS_18 | exact SnS_30 | exact LdS_44 | exact LdS_46)) only [q_88_0, q_88_51, q_88_117, q_88_123, t1, ↓n_rd, ↓n_al, ↓n_alJ, ↓n_cI, li_0, li_1, li_2, li_3, li_5, li_6, li_7, li_8, li_59, lj_0, lj_1, lj_2, lj_3, lj_5, lj_6, zJ_add, zJ_sub, zJ_mul, zJ_neg, zJ_l2i, tJ_zJ, zI_add, zI_sub, zI_mul, zI_neg, ↓Option.bind_some, ↓g6_1, ↓g6_2, ↓g6_5, ↓g6_7, ↓g6_8, ↓al_187, ↓as_187, ↓al_189, ↓as_189, ↓al_190, ↓as_190, zIt2, uR_at, uR_ne, uR_uR, uC_uC, uC_at, ↓reduceIte, decide_eq_true_eq, leT, leF, ltT, ltF, eqT, eqF, ne_eq, not_true_eq_false, not_false_eq_true, Bool.false_eq_true, tI_zI]
          rw [hci2, ← e4, ← e1]
          have e0 : ((0 : Nat) : Int) = 0 := rfl
          rw [q_88_59]; (try simp only [↓n_rd, ↓n_al, ↓n_alJ, ↓n_cI, li_0, li_1, li_2, li_3, li_5, li_6, li_7, li_8, li_59, lj_0, lj_1, lj_2, lj_3, lj_5, lj_6, zJ_add, zJ_sub, zJ_mul, zJ_neg, zJ_l2i, zI_add, zI_sub, zI_mul, zI_neg, ↓Option.bind_some]); simp (disch := (first | assumption | exact tI_rg _ | omega | exact uR_at | exact row_ne hF (by decide) | exact row_ne (row_ne hF (by decide)) (by decide) | exact SnS_18 | exact SnS_30 | exact LdS_44 | exact LdS_46)) only [q_88_0, q_88_51, q_88_117, q_88_123, ↓al_189 hv0, cmpJ_le, hz, e0, ↓n_rd, ↓n_al, ↓n_alJ, ↓n_cI, li_0, li_1, li_2, li_3, li_5, li_6, li_7, li_8, li_59, lj_0, lj_1, lj_2, lj_3, lj_5, lj_6, zJ_add, zJ_sub, zJ_mul, zJ_neg, zJ_l2i, tJ_zJ, zI_add, zI_sub, zI_mul, zI_neg, ↓Option.bind_some, ↓g6_1, ↓g6_2, ↓g6_5, ↓g6_7, ↓g6_8, ↓al_187, ↓as_187, ↓al_189, ↓as_189, ↓al_190, ↓as_190, zIt2, uR_at, uR_ne, uR_uR, uC_uC, uC_at, ↓reduceIte, decide_eq_true_eq, leT, leF, ltT, ltF, eqT, eqF, ne_eq, not_true_eq_false, not_false_eq_true, Bool.false_eq_true, tI_zI]
  obtain ⟨h, r1, r2⟩ := hmain
  refine ⟨r, g, h, ?_, q2, q3, r2⟩
  rw [hin, hstart]
  have e0 : (encN nd st n : Int) - 1 - ((0 : Nat) : Int) = (encN nd st n : Int) - 1 := by omega
  rw [e0] at r1
  exact r1
end S94zzzzb
