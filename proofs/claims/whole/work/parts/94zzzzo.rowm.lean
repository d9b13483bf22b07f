/-! MODEL: rows, row, starts, sure -/
section S94zzzzo
set_option linter.unusedVariables false
set_option linter.unusedSimpArgs false
theorem lfK_rg {K : Int → Int32} (hI : InvK K) : ∀ v, 0 ≤ lfK K v ∧ lfK K v ≤ 100 := fun v => by
  have h := cntN_rg (fun i => wK K i == v) (tI (K 5)).toNat
  have h5 := hI.1.2.2.2.2.2.1
  have h4 := hI.1.2.2.2.2.1
  unfold lfK lfW
  omega
theorem su_eq {N s : Int} {h : Int → Int} (hN : N ≠ 0) (hN2 : 0 ≤ N) (H : SuI N h s) (hs : ∀ v, h v ≠ 0 → v = -1 ∨ (0 ≤ v ∧ v < 32)) : suZ h N = s := by
  obtain ⟨h1, h2, h3⟩ := H
  unfold suZ
  rw [if_neg hN]
  rcases h3 with ⟨a1, a2⟩ | ⟨a1, a2⟩
  · rcases hs s (by omega) with c | c
    · rw [c]
      refine fndN_none (fun i _ hi => beq_eq_false_iff_ne.mpr (fun z => ?_))
      have := h2 s (i : Int) (by omega)
      omega
    · have e : ((s.toNat : Nat) : Int) = s := by omega
      rw [← e]
      refine fndN_eq (Nat.zero_le _) (by omega) (beq_iff_eq.mpr (by rw [e]; exact a2)) (fun i _ hi => beq_eq_false_iff_ne.mpr (fun z => ?_))
      have := h2 s (i : Int) (by omega)
      omega
  · rw [a1]
    refine fndN_none (fun i _ hi => beq_eq_false_iff_ne.mpr (fun z => ?_))
    have := a2 (i : Int) (by omega)
    omega
theorem hist_in {K : Int → Int32} (hI : InvK K) {k : Nat} {u : Int} {lf : Int → Int} (hlf : ∀ v, 0 < lf v → 0 ≤ v ∧ v < 32) : (∀ v, HFz K k 0 u lf (-1) v ≠ 0 → v = -1 ∨ (0 ≤ v ∧ v < 32)) ∧ (∀ v, NLM K k u lf (-1) v ≠ 0 → v = -1 ∨ (0 ≤ v ∧ v < 32)) := by
  have hb2 := hI.1.2.2.1
  refine ⟨fun v hv => ?_, fun v hv => ?_⟩
  · cases k with
    | zero =>
      have hv : (if v = (if (0 : Nat) = 0 then -1 else -1) then (1 : Int) else 0) ≠ 0 := hv
      rw [if_pos rfl] at hv
      by_cases c : v = -1
      · exact Or.inl c
      · rw [if_neg c] at hv; exact absurd rfl hv
    | succ k =>
      rw [HFz_top hI] at hv
      by_cases c : (0 ≤ v ∧ v < 2 * tI (K 2)) ∧ fromZ K v = u ∧ 0 < lf v
      · exact Or.inr (by omega)
      · rw [if_neg c] at hv; exact absurd rfl hv
  · by_cases c : v = -1
    · exact Or.inl c
    · by_cases c2 : 0 < lf v
      · exact Or.inr (hlf v c2)
      · exact absurd (NLM_z k u lf (-1) v (Ne.symm c) (by omega)) hv
theorem lfK_in {K : Int → Int32} (hI : InvK K) : ∀ v, 0 < lfK K v → 0 ≤ v ∧ v < 32 := fun v hv => by
  obtain ⟨i, hi, e⟩ := lfW_pos hv
  have := wK_in hI i hi
  have := hI.1.2.2.1
  omega
def llF (F : Nat → Int → Int32) (K : Int → Int32) : Nat → Int → Int32 := uR (uR F 217 (uC (F 217) 35 (zI (tI (K 5))))) 233 (bgR (F 233) (wK K) (tI (K 5)).toNat)
theorem llF_w {F : Nat → Int → Int32} {G : Nat → Int → Int64} {K : Int → Int32} : KpW F G (llF F K) G := ⟨fun q a1 a2 a3 => by unfold llF; rw [uR_ne a2, uR_ne a1], fun j a1 a2 => by unfold llF; rw [uR_ne (by decide), uR_at, uC_ne (by omega)], fun _ _ => rfl, fun _ _ _ => rfl⟩
theorem llF_233 {F : Nat → Int → Int32} {K : Int → Int32} : ∀ v : Int, 0 ≤ v → v < 32 → llF F K 233 v = zI (lfK K v) := fun v h1 h2 => by
  unfold llF
  rw [uR_at]
  exact if_pos ⟨h1, h2⟩
theorem llF_35 {F : Nat → Int → Int32} {K : Int → Int32} (hI : InvK K) : tI (llF F K 217 35) = (((tI (K 5)).toNat : Nat) : Int) := by
  have h5 := hI.1.2.2.2.2.2.1
  have h4 := hI.1.2.2.2.2.1
  unfold llF
  rw [uR_ne (by decide), uR_at, uC_at, tI_zI (by omega)]; omega
theorem ct_285 {d : Nat} {E : EnQ} {F : Nat → Int → Int32} {G : Nat → Int → Int64} {K : Int → Int32} (hI : InvK K) (hF : F 218 = K) (hd : 2 ≤ d) : callP MP d 285 [.ref 217] (mk E F G) = some (Sum.inl (some (.int (zI (if tI (K 5) ≤ 14 then 0 else 1)))), mk E F G) := by
  have h5 := hI.1.2.2.2.2.2.1
  have h4 := hI.1.2.2.2.2.1
  refine into (D := 1) (by omega) hM_285 (rcv_mk rfl (by decide)) rfl fun d hd => ?_
  show runP MP d 285 (0, [some (.ref 217)], [], _) = _
  by_cases c : tI (K 5) ≤ 14
  · rw [if_pos c]
    rw [q_285_0]; (try simp only [↓n_cI, li_0, li_1, li_14, li_210, zI_add, zI_sub, zI_mul, zI_neg, ↓Option.bind_some]); simp (disch := (first | assumption | exact tI_rg _ | omega | exact uR_at | exact row_ne hF (by decide) | exact row_ne (row_ne hF (by decide)) (by decide) | exact SnS_18 | exact SnS_30 | exact LdS_44 | exact LdS_46)) only [q_285_14, ↓cc_210 hI, hF, ↓n_cI, retZ_z, li_0, li_1, li_14, li_210, zI_add, zI_sub, zI_mul, zI_neg, ↓Option.bind_some, zIt2, uR_at, uR_ne, uR_uR, uC_uC, uC_at, ↓reduceIte, decide_eq_true_eq, leT, leF, ltT, ltF, eqT, eqF, ne_eq, not_true_eq_false, not_false_eq_true, Bool.false_eq_true, tI_zI]
  · rw [if_neg c]
    rw [q_285_0]; (try simp only [↓n_cI, li_0, li_1, li_14, li_210, zI_add, zI_sub, zI_mul, zI_neg, ↓Option.bind_some]); simp (disch := (first | assumption | exact tI_rg _ | omega | exact uR_at | exact row_ne hF (by decide) | exact row_ne (row_ne hF (by decide)) (by decide) | exact SnS_18 | exact SnS_30 | exact LdS_44 | exact LdS_46)) only [q_285_14, ↓cc_210 hI, hF, ↓n_cI, retZ_z, li_0, li_1, li_14, li_210, zI_add, zI_sub, zI_mul, zI_neg, ↓Option.bind_some, zIt2, uR_at, uR_ne, uR_uR, uC_uC, uC_at, ↓reduceIte, decide_eq_true_eq, leT, leF, ltT, ltF, eqT, eqF, ne_eq, not_true_eq_false, not_false_eq_true, Bool.false_eq_true, tI_zI]
theorem cc_285 {d : Nat} {E : EnQ} {F : Nat → Int → Int32} {G : Nat → Int → Int64} {K : Int → Int32} {kk : Int → HeapP → ResP} {kx : Nat → HeapP → ResP} (hI : InvK K) (hF : F 218 = K) (hd : 2 ≤ d) : cT (callP MP d 285 [.ref 217] (mk E F G)) kk kx = kk (if tI (K 5) ≤ 14 then 0 else 1) (mk E F G) := cT_ret (ct_285 hI hF hd) (by split <;> omega)
theorem ct_286 {d : Nat} {E : EnQ} {F : Nat → Int → Int32} {G : Nat → Int → Int64} {K : Int → Int32} (hI : InvK K) (hF : F 218 = K) (hd : 2 ≤ d) : callP MP d 286 [.ref 217] (mk E F G) = some (Sum.inl none, mk E (llF F K) G) := by
  have h5 := hI.1.2.2.2.2.2.1
  have h4 := hI.1.2.2.2.2.1
  have hb2 := hI.1.2.2.1
  obtain ⟨k, hk⟩ : ∃ k : Nat, (k : Int) = tI (K 5) := ⟨(tI (K 5)).toNat, by omega⟩
  have hkn : (tI (K 5)).toNat = k := by omega
  have hw := wK_in hI
  rw [hkn] at hw
  unfold llF
  rw [hkn, ← hk]
  obtain ⟨W, hW⟩ : ∃ W : Nat, W = 32 := ⟨_, rfl⟩
  obtain ⟨F0, hF0⟩ : ∃ F0, F0 = uR F 217 (uC (F 217) 35 (zI (k : Int))) := ⟨_, rfl⟩
  have f218 : F0 218 = K := by rw [hF0, uR_ne (by decide)]; exact hF
  rw [show F 233 = F0 233 by rw [hF0, uR_ne (by decide)], ← hF0]
  refine into (D := 1) (by omega) hM_286 (rcv_mk rfl (by decide)) rfl fun d hd => ?_
  show runP MP d 286 (0, [some (.ref 217), none], [], _) = _
  have h0 : runP MP d 286 (0, [some (.ref 217), none], [], mk E F G) = runP MP d 286 (10, [some (.ref 217), some (.int (zI ((0 : Nat) : Int)))], [], mk E (uR F0 233 (zrI (F0 233) 0 0)) G) := by
    rw [zrI_0, uR_self, hF0, show ((0 : Nat) : Int) = 0 from rfl]
    rw [q_286_0]; (try simp only [↓n_al, ↓n_cI, li_0, li_1, li_10, li_12, li_31, li_32, li_210, zI_add, zI_sub, zI_mul, zI_neg, ↓Option.bind_some]); simp (disch := (first | assumption | exact tI_rg _ | omega | exact uR_at | exact row_ne hF (by decide) | exact row_ne (row_ne hF (by decide)) (by decide) | exact SnS_18 | exact SnS_30 | exact LdS_44 | exact LdS_46)) only [↓cc_210 hI, hF, hk, ↓n_al, ↓n_cI, li_0, li_1, li_10, li_12, li_31, li_32, li_210, zI_add, zI_sub, zI_mul, zI_neg, ↓Option.bind_some, ↓g12_32, ↓p12_35, ↓al_233, ↓as_233, zIt2, uR_at, uR_ne, uR_uR, uC_uC, uC_at, ↓reduceIte, decide_eq_true_eq, leT, leF, ltT, ltF, eqT, eqF, ne_eq, not_true_eq_false, not_false_eq_true, Bool.false_eq_true, tI_zI]
  rw [h0]
  have h10 : runP MP d 286 (10, [some (.ref 217), some (.int (zI ((0 : Nat) : Int)))], [], mk E (uR F0 233 (zrI (F0 233) 0 0)) G) = runP MP d 286 (31, [some (.ref 217), some (.int (zI ((0 : Nat) : Int)))], [], mk E (uR F0 233 (bgR (F0 233) (wK K) 0)) G) := by
    refine (loopN (fun j : Nat => runP MP d 286 (10, [some (.ref 217), some (.int (zI (j : Nat)))], [], mk E (uR F0 233 (zrI (F0 233) j 0)) G)) (W) (fun j hj => ?_)).trans ?_
    · show runP MP d 286 (10, [some (.ref 217), some (.int (zI (j : Nat)))], [], mk E (uR F0 233 (zrI (F0 233) j 0)) G) = runP MP d 286 (10, [some (.ref 217), some (.int (zI ((j + 1) : Nat)))], [], mk E (uR F0 233 (zrI (F0 233) (j + 1) 0)) G)
      rw [nsucc, zrI_s]
      rw [q_286_10]; (try simp only [↓n_al, ↓n_cI, li_0, li_1, li_10, li_12, li_31, li_32, li_210, zI_add, zI_sub, zI_mul, zI_neg, ↓Option.bind_some]); simp (disch := (first | assumption | exact tI_rg _ | omega | exact uR_at | exact row_ne hF (by decide) | exact row_ne (row_ne hF (by decide)) (by decide) | exact SnS_18 | exact SnS_30 | exact LdS_44 | exact LdS_46)) only [q_286_0, ↓as_233, ↓n_al, ↓n_cI, li_0, li_1, li_10, li_12, li_31, li_32, li_210, zI_add, zI_sub, zI_mul, zI_neg, ↓Option.bind_some, ↓g12_32, ↓p12_35, ↓al_233, ↓as_233, zIt2, uR_at, uR_ne, uR_uR, uC_uC, uC_at, ↓reduceIte, decide_eq_true_eq, leT, leF, ltT, ltF, eqT, eqF, ne_eq, not_true_eq_false, not_false_eq_true, Bool.false_eq_true, tI_zI]
    · show runP MP d 286 (10, [some (.ref 217), some (.int (zI ((W) : Nat)))], [], mk E (uR F0 233 (zrI (F0 233) (W) 0)) G) = _
      rw [← bgR_0, ← hW, show ((0 : Nat) : Int) = 0 from rfl]
      rw [q_286_10]; (try simp only [↓n_al, ↓n_cI, li_0, li_1, li_10, li_12, li_31, li_32, li_210, zI_add, zI_sub, zI_mul, zI_neg, ↓Option.bind_some]); simp (disch := (first | assumption | exact tI_rg _ | omega | exact uR_at | exact row_ne hF (by decide) | exact row_ne (row_ne hF (by decide)) (by decide) | exact SnS_18 | exact SnS_30 | exact LdS_44 | exact LdS_46)) only [q_286_0, ↓n_al, ↓n_cI, li_0, li_1, li_10, li_12, li_31, li_32, li_210, zI_add, zI_sub, zI_mul, zI_neg, ↓Option.bind_some, ↓g12_32, ↓p12_35, ↓al_233, ↓as_233, zIt2, uR_at, uR_ne, uR_uR, uC_uC, uC_at, ↓reduceIte, decide_eq_true_eq, leT, leF, ltT, ltF, eqT, eqF, ne_eq, not_true_eq_false, not_false_eq_true, Bool.false_eq_true, tI_zI]

  rw [h10]
  refine (loopN (fun j : Nat => runP MP d 286 (31, [some (.ref 217), some (.int (zI (j : Nat)))], [], mk E (uR F0 233 (bgR (F0 233) (wK K) j)) G)) (k) (fun j hj => ?_)).trans ?_
  · show runP MP d 286 (31, [some (.ref 217), some (.int (zI (j : Nat)))], [], mk E (uR F0 233 (bgR (F0 233) (wK K) j)) G) = runP MP d 286 (31, [some (.ref 217), some (.int (zI ((j + 1) : Nat)))], [], mk E (uR F0 233 (bgR (F0 233) (wK K) (j + 1))) G)
    have hwj := hw j hj
    have hws : bgR (F0 233) (wK K) (j + 1) = _ := bgR_s (r := F0 233) (w := wK K) (k := j) (by omega) (by omega)
    have g218 : uR F0 233 (bgR (F0 233) (wK K) j) 218 = K := (uR_ne (by decide)).trans f218
    have c210 : ∀ {kk : Int → HeapP → ResP} {kx : Nat → HeapP → ResP}, cT (callP MP d 210 [.ref 217] (mk E (uR F0 233 (bgR (F0 233) (wK K) j)) G)) kk kx = kk (k : Int) (mk E (uR F0 233 (bgR (F0 233) (wK K) j)) G) := fun {kk kx} => by rw [cc_210 hI g218 (by omega), hk]
    have c211 : ∀ {kk : Int → HeapP → ResP} {kx : Nat → HeapP → ResP}, cT (callP MP d 211 [.ref 217, .int (zI (j : Int))] (mk E (uR F0 233 (bgR (F0 233) (wK K) j)) G)) kk kx = kk (wK K j) (mk E (uR F0 233 (bgR (F0 233) (wK K) j)) G) := fun {kk kx} => by rw [cc_211 hI g218 (by omega) (by omega)]; rfl
    rw [nsucc, hws]
    rw [q_286_31]; (try simp only [↓n_al, ↓n_cI, li_0, li_1, li_10, li_12, li_31, li_32, li_210, zI_add, zI_sub, zI_mul, zI_neg, ↓Option.bind_some]); simp (disch := (first | assumption | exact tI_rg _ | omega | exact uR_at | exact row_ne hF (by decide) | exact row_ne (row_ne hF (by decide)) (by decide) | exact SnS_18 | exact SnS_30 | exact LdS_44 | exact LdS_46)) only [q_286_0, ↓c210, ↓c211, ↓al_233, ↓as_233, ↓n_al, ↓n_cI, li_0, li_1, li_10, li_12, li_31, li_32, li_210, zI_add, zI_sub, zI_mul, zI_neg, ↓Option.bind_some, ↓g12_32, ↓p12_35, ↓al_233, ↓as_233, zIt2, uR_at, uR_ne, uR_uR, uC_uC, uC_at, ↓reduceIte, decide_eq_true_eq, leT, leF, ltT, ltF, eqT, eqF, ne_eq, not_true_eq_false, not_false_eq_true, Bool.false_eq_true, tI_zI]
  · show runP MP d 286 (31, [some (.ref 217), some (.int (zI ((k) : Nat)))], [], mk E (uR F0 233 (bgR (F0 233) (wK K) (k))) G) = _
    have g218 : uR F0 233 (bgR (F0 233) (wK K) k) 218 = K := (uR_ne (by decide)).trans f218
    have c210 : ∀ {kk : Int → HeapP → ResP} {kx : Nat → HeapP → ResP}, cT (callP MP d 210 [.ref 217] (mk E (uR F0 233 (bgR (F0 233) (wK K) k)) G)) kk kx = kk (k : Int) (mk E (uR F0 233 (bgR (F0 233) (wK K) k)) G) := fun {kk kx} => by rw [cc_210 hI g218 (by omega), hk]
    rw [q_286_31]; (try simp only [↓n_al, ↓n_cI, li_0, li_1, li_10, li_12, li_31, li_32, li_210, zI_add, zI_sub, zI_mul, zI_neg, ↓Option.bind_some]); simp (disch := (first | assumption | exact tI_rg _ | omega | exact uR_at | exact row_ne hF (by decide) | exact row_ne (row_ne hF (by decide)) (by decide) | exact SnS_18 | exact SnS_30 | exact LdS_44 | exact LdS_46)) only [q_286_0, ↓c210, ↓n_al, ↓n_cI, li_0, li_1, li_10, li_12, li_31, li_32, li_210, zI_add, zI_sub, zI_mul, zI_neg, ↓Option.bind_some, ↓g12_32, ↓p12_35, ↓al_233, ↓as_233, zIt2, uR_at, uR_ne, uR_uR, uC_uC, uC_at, ↓reduceIte, decide_eq_true_eq, leT, leF, ltT, ltF, eqT, eqF, ne_eq, not_true_eq_false, not_false_eq_true, Bool.false_eq_true, tI_zI]

theorem cc_286 {d : Nat} {E : EnQ} {F : Nat → Int → Int32} {G : Nat → Int → Int64} {K : Int → Int32} {kk : HeapP → ResP} {kx : Nat → HeapP → ResP} (hI : InvK K) (hF : F 218 = K) (hd : 2 ≤ d) : cV (callP MP d 286 [.ref 217] (mk E F G)) kk kx = kk (mk E (llF F K) G) := cV_ret (ct_286 hI hF hd)
theorem KpW_5 {F : Nat → Int → Int32} {G : Nat → Int → Int64} {c : Int} : KpW F G (uR F 217 (uC (F 217) 5 (zI c))) G → True := fun _ => trivial
theorem ml_rows {d : Nat} {E : EnQ} {F : Nat → Int → Int32} {G : Nat → Int → Int64} {K : Int → Int32} (hI : InvK K) (hF : F 218 = K) {x : Int} (hx : -2147483648 ≤ x ∧ x ≤ 2147483647) (hd : 23 ≤ d) : ∃ F1 G1, callP MP d 284 [.ref 217, .int (zI x)] (mk E F G) = some (Sum.inl (some (.long (zJ (a_rows K x).2))), mk E F1 G1) ∧ F1 217 5 = zI (a_rows K x).1 ∧ KeepM F G F1 G1 := by
  have hA := hI.1
  have h5 := hI.1.2.2.2.2.2.1
  have h4 := hI.1.2.2.2.2.1
  have f218 : uR F 217 (uC (F 217) 5 (zI 0)) 218 = K := (uR_ne (by decide)).trans hF
  by_cases c1 : 0 ≤ x ∧ x < tI (K 1)
  · by_cases c2 : tI (K 5) ≤ 14
    · have ha : a_rows K x = (0, rwN K x) := (if_pos c1).trans (by rw [if_pos c2])
      obtain ⟨F1, G1, r1, r2, r3, r4, -⟩ := ct_287 (d := d - 1) (E := E) (F := llF (uR F 217 (uC (F 217) 5 (zI 0))) K) (G := G) (lf := lfK K) (k := (tI (K 5)).toNat) (u := x) (wt := -1) hI (((llF_w (G := G)).1 218 (by decide) (by decide) (by decide)).trans f218) llF_233 (llF_35 hI) (lfK_rg hI) (by omega) c1 (by omega) (by omega)
      have hkw := (llF_w (F := uR F 217 (uC (F 217) 5 (zI 0))) (G := G) (K := K)).tr r2
      rw [if_neg (by omega)] at r1
      refine ⟨F1, G1, ?_, ?_, (KeepM_c (c := 0)).tr hkw.m⟩
      · rw [ha]
        show (_ : ResP) = some (Sum.inl (some (.long (zJ (rwN K x)))), mk E F1 G1)
        obtain ⟨e, rfl⟩ : ∃ e, d = e + 1 := ⟨d - 1, by omega⟩
        have hin : callP MP (e + 1) 284 [.ref 217, .int (zI x)] (mk E F G) = runP MP e 284 (0, [some (.ref 217), some (.int (zI x))], [], mk E F G) := into_eq (by omega) hM_284 (rcv_mk rfl (by decide)) rfl
        have hbd : 0 ≤ rwN K x ∧ rwN K x ≤ 100000000000000 := rw_bd hI (k := (tI (K 5)).toNat) (by omega) (u := x) (lf := lfK K)
        have c287 : ∀ {kk : Int → HeapP → ResP} {kx : Nat → HeapP → ResP}, cJT (callP MP e 287 [.ref 217, .int (zI x), .long (zJ (-1))] (mk E (llF (uR F 217 (uC (F 217) 5 (zI 0))) K) G)) kk kx = kk (rwN K x) (mk E F1 G1) := fun {kk kx} => cJT_ret r1 (by omega)
        have c286 : ∀ {kk : HeapP → ResP} {kx : Nat → HeapP → ResP}, cV (callP MP e 286 [.ref 217] (mk E (uR F 217 (uC (F 217) 5 (zI 0))) G)) kk kx = kk (mk E (llF (uR F 217 (uC (F 217) 5 (zI 0))) K) G) := fun {kk kx} => cc_286 hI f218 (by omega)
        have c285 : ∀ {kk : Int → HeapP → ResP} {kx : Nat → HeapP → ResP}, cT (callP MP e 285 [.ref 217] (mk E (uR F 217 (uC (F 217) 5 (zI 0))) G)) kk kx = kk 0 (mk E (uR F 217 (uC (F 217) 5 (zI 0))) G) := fun {kk kx} => by rw [cc_285 hI f218 (by omega), if_pos c2]
        rw [hin]
        rw [q_284_0]; (try simp only [↓n_cI, ↓n_cJ, li_0, li_1, li_5, li_12, li_1000, lj_0, lj_1, lj_5, lj_12, lj_1000, zJ_add, zJ_sub, zJ_mul, zJ_neg, zJ_l2i, zI_add, zI_sub, zI_mul, zI_neg, ↓Option.bind_some]); simp (disch := (first | assumption | exact tI_rg _ | omega | exact uR_at | exact row_ne hF (by decide) | exact row_ne (row_ne hF (by decide)) (by decide) | exact SnS_18 | exact SnS_30 | exact LdS_44 | exact LdS_46)) only [↓cc_213t hI, ↓cc_213f hI, ↓cc_219t hI, ↓cc_219f hI, ↓cc_188t, ↓cc_188f, ↓cc_189, zI_i2l, hF, ↓c285, ↓c286, lj_m1, ↓n_cJ, ↓c287, ↓n_cI, ↓n_cJ, li_0, li_1, li_5, li_12, li_1000, lj_0, lj_1, lj_5, lj_12, lj_1000, zJ_add, zJ_sub, zJ_mul, zJ_neg, zJ_l2i, tJ_zJ, zI_add, zI_sub, zI_mul, zI_neg, ↓Option.bind_some, ↓p12_5, zIt2, uR_at, uR_ne, uR_uR, uC_uC, uC_at, ↓reduceIte, decide_eq_true_eq, leT, leF, ltT, ltF, eqT, eqF, ne_eq, not_true_eq_false, not_false_eq_true, Bool.false_eq_true, tI_zI]
      · rw [hkw.2.1 5 (by omega) (by omega), uR_at, uC_at, ha]
    · have ha : a_rows K x = (0, -1000) := (if_pos c1).trans (by rw [if_neg c2])
      refine ⟨uR F 217 (uC (F 217) 5 (zI 0)), G, ?_, by rw [uR_at, uC_at, ha], KeepM_c⟩
      rw [ha]
      show (_ : ResP) = some (Sum.inl (some (.long (zJ (-1000)))), mk E (uR F 217 (uC (F 217) 5 (zI 0))) G)
      obtain ⟨e, rfl⟩ : ∃ e, d = e + 1 := ⟨d - 1, by omega⟩
      have hin : callP MP (e + 1) 284 [.ref 217, .int (zI x)] (mk E F G) = runP MP e 284 (0, [some (.ref 217), some (.int (zI x))], [], mk E F G) := into_eq (by omega) hM_284 (rcv_mk rfl (by decide)) rfl
      have c285 : ∀ {kk : Int → HeapP → ResP} {kx : Nat → HeapP → ResP}, cT (callP MP e 285 [.ref 217] (mk E (uR F 217 (uC (F 217) 5 (zI 0))) G)) kk kx = kk 1 (mk E (uR F 217 (uC (F 217) 5 (zI 0))) G) := fun {kk kx} => by rw [cc_285 hI f218 (by omega), if_neg c2]
      have e1000 : (-1000 : Int64) = zJ (-1000) := by decide
      rw [hin]
      rw [q_284_0]; (try simp only [↓n_cI, ↓n_cJ, li_0, li_1, li_5, li_12, li_1000, lj_0, lj_1, lj_5, lj_12, lj_1000, zJ_add, zJ_sub, zJ_mul, zJ_neg, zJ_l2i, zI_add, zI_sub, zI_mul, zI_neg, ↓Option.bind_some]); simp (disch := (first | assumption | exact tI_rg _ | omega | exact uR_at | exact row_ne hF (by decide) | exact row_ne (row_ne hF (by decide)) (by decide) | exact SnS_18 | exact SnS_30 | exact LdS_44 | exact LdS_46)) only [↓cc_213t hI, ↓cc_213f hI, ↓cc_219t hI, ↓cc_219f hI, ↓cc_188t, ↓cc_188f, ↓cc_189, zI_i2l, hF, ↓c285, e1000, ↓n_cI, ↓n_cJ, li_0, li_1, li_5, li_12, li_1000, lj_0, lj_1, lj_5, lj_12, lj_1000, zJ_add, zJ_sub, zJ_mul, zJ_neg, zJ_l2i, tJ_zJ, zI_add, zI_sub, zI_mul, zI_neg, ↓Option.bind_some, ↓p12_5, zIt2, uR_at, uR_ne, uR_uR, uC_uC, uC_at, ↓reduceIte, decide_eq_true_eq, leT, leF, ltT, ltF, eqT, eqF, ne_eq, not_true_eq_false, not_false_eq_true, Bool.false_eq_true, tI_zI]
  · have ha : a_rows K x = (1, 0) := if_neg c1
    refine ⟨uR F 217 (uC (F 217) 5 (zI 1)), G, ?_, by rw [uR_at, uC_at, ha], KeepM_c⟩
    rw [ha]
    show (_ : ResP) = some (Sum.inl (some (.long (zJ 0))), mk E (uR F 217 (uC (F 217) 5 (zI 1))) G)
    refine into (D := 22) (by omega) hM_284 (rcv_mk rfl (by decide)) rfl fun d hd => ?_
    show runP MP d 284 (0, [some (.ref 217), some (.int (zI x))], [], _) = _
    rw [q_284_0]; (try simp only [↓n_cI, ↓n_cJ, li_0, li_1, li_5, li_12, li_1000, lj_0, lj_1, lj_5, lj_12, lj_1000, zJ_add, zJ_sub, zJ_mul, zJ_neg, zJ_l2i, zI_add, zI_sub, zI_mul, zI_neg, ↓Option.bind_some]); simp (disch := (first | assumption | exact tI_rg _ | omega | exact uR_at | exact row_ne hF (by decide) | exact row_ne (row_ne hF (by decide)) (by decide) | exact SnS_18 | exact SnS_30 | exact LdS_44 | exact LdS_46)) only [↓cc_213t hI, ↓cc_213f hI, ↓cc_219t hI, ↓cc_219f hI, ↓cc_188t, ↓cc_188f, ↓cc_189, zI_i2l, hF, ↓n_cI, ↓n_cJ, li_0, li_1, li_5, li_12, li_1000, lj_0, lj_1, lj_5, lj_12, lj_1000, zJ_add, zJ_sub, zJ_mul, zJ_neg, zJ_l2i, tJ_zJ, zI_add, zI_sub, zI_mul, zI_neg, ↓Option.bind_some, ↓p12_5, zIt2, uR_at, uR_ne, uR_uR, uC_uC, uC_at, ↓reduceIte, decide_eq_true_eq, leT, leF, ltT, ltF, eqT, eqF, ne_eq, not_true_eq_false, not_false_eq_true, Bool.false_eq_true, tI_zI]
end S94zzzzo
