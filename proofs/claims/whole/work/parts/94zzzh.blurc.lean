/-! CLASS: blur, 2 -/
section S94zzzh
set_option linter.unusedVariables false
set_option linter.unusedSimpArgs false
theorem maxZ0 {a : Int} (h : -2147483648 ≤ a ∧ a ≤ 2147483647) : (if zI 0 < zI a then zI a else zI 0) = zI (if 0 < a then a else 0) := maxZ (a := 0) (by omega)
theorem scr208 : scrC 208 := by unfold scrC; omega
theorem KeepD_kp3 {E : EnQ} {F F1 : Nat → Int → Int32} {G : Nat → Int → Int64} (h : kp3 F F1) : KeepD E F G E F1 G := KeepD_rows (p := fun q => q = 192 ∨ q = 199 ∨ q = 200) (fun q hq => by unfold scrC; omega) (fun q hq => h q (by omega) (by omega) (by omega))
theorem WaR_oth {E : EnQ} {F F1 : Nat → Int → Int32} {K : Int → Int32} {pl : Nat} {most : Int} {p : List Int} (h1 : F1 192 = F 192) (h2 : F1 199 = F 199) (h3 : F1 200 = F 200) (h : WaR E F K pl most p) : WaR E F1 K pl most p := by
  unfold WaR at h ⊢
  rw [h1, h2, h3]; exact h
theorem bl_187 {d : Nat} {E : EnQ} {F : Nat → Int → Int32} {G : Nat → Int → Int64} {K : Int → Int32} {pl n : Nat} {p : List Int} {x i : Int} {m g z : Int32} (hI : InvK K) (hpl : pl = 19 ∨ 247 ≤ pl) (hP : PlS E pl) (hR : PlR F pl K) (hn : n ≤ 3) (hp0 : p ≠ []) (hl : p.length ≤ n + 1) (hv : VaP K p) (hW : WaR E F K pl n p) (hd : 4 ≤ d) :
    ∃ F1, runP MP d 158 (187, [some (.ref 16), some (.int (zI x)), some (.int (zI (n : Int))), some (.int (zI (tI (K (38 + 2 * x))))), some (.int (zI 1)), some (.int (zI i)), some (.int m), some (.int g), some (.int z)], [], mk E F G) = runP MP d 158 (41, [some (.ref 16), some (.int (zI x)), some (.int (zI (n : Int))), some (.int (zI (tI (K (38 + 2 * x))))), some (.int (zI (if (fthZ K n p).isSome = true then 1 else 0))), some (.int (zI (i + 1))), some (.int m), some (.int g), some (.int z)], [], mk E F1 G) ∧ kp3 F F1 ∧ ∀ p', fthZ K n p = some p' → WaR E F1 K pl n p' := by
  obtain ⟨F1, h1, h2, h3⟩ := ct_109 (d := d) (G := G) (most := n) hI hpl hP hp0 hl (by omega) hv hW hR hd
  have c109 : ∀ {kk : Int → HeapP → ResP} {kx : Nat → HeapP → ResP}, cT (callP MP d 109 [.ref 192] (mk E F G)) kk kx = kk (if (fthZ K n p).isSome = true then 1 else 0) (mk E F1 G) := fun {kk kx} => cT_ret h1 (by split <;> omega)
  refine ⟨F1, ?_, h2, h3⟩
  rw [q_158_187]; (try simp only [↓n_rd, ↓n_al, ↓n_cI, li_0, li_1, li_2, li_4, li_5, li_7, li_8, li_10, li_13, li_20, li_1000000, zI_add, zI_sub, zI_mul, zI_neg, ↓Option.bind_some]); simp (disch := (first | assumption | exact tI_rg _ | omega | exact uR_at | exact row_ne hF (by decide) | exact row_ne (row_ne hF (by decide)) (by decide) | exact SnS_18 | exact SnS_30 | exact LdS_44 | exact LdS_46)) only [q_158_0, q_158_164, q_158_202, ↓c109, ↓n_rd, ↓n_al, ↓n_cI, li_0, li_1, li_2, li_4, li_5, li_7, li_8, li_10, li_13, li_20, li_1000000, zI_add, zI_sub, zI_mul, zI_neg, ↓Option.bind_some, ↓g10_2, ↓g11_13, ↓g11_17, ↓g11_18, ↓g11_19, ↓g11_4, ↓g11_8, ↓g5_0, ↓g5_1, ↓g5_2, ↓g5_7, ↓SnS_l9, ↓SnS_s9, ↓p11_18, ↓p11_19, ↓al_208, ↓as_208, zIt2, uR_at, uR_ne, uR_uR, uC_uC, uC_at, ↓reduceIte, decide_eq_true_eq, leT, leF, ltT, ltF, eqT, eqF, ne_eq, not_true_eq_false, not_false_eq_true, Bool.false_eq_true, tI_zI]
theorem bl_run {d : Nat} {E : EnQ} {F F2 F3 : Nat → Int → Int32} {G : Nat → Int → Int64} {n : Nat} {x i s m g k5 k4 r sz a1 b1 : Int} {z6 z7 z8 : Option Value} (hs : shx E 18 = (1, 5, 0)) (hi : 0 ≤ i ∧ i < 1000000) (ed : tI (F 192 2) = m) (e5 : tI (F 18 2) = k5) (e4 : tI (F 18 1) = k4) (eg : (if 0 < k5 + m - k4 then k5 + m - k4 else 0) = g) (hb : (0 ≤ m ∧ m ≤ 7) ∧ (0 ≤ k5 ∧ k5 ≤ 60) ∧ 0 ≤ k4 ∧ k4 ≤ 60) (o5 : tI (F2 18 2) = k5)
    (h20 : ∀ {kk : HeapP → ResP} {kx : Nat → HeapP → ResP}, cV (callP MP d 20 [.ref 44, .ref 18, .int (zI g)] (mk E F G)) kk kx = kk (mk E F2 G))
    (h23 : ∀ {kk : HeapP → ResP} {kx : Nat → HeapP → ResP}, cV (callP MP d 23 [.ref 44, .ref 192, .int (zI (g - k5))] (mk E F2 G)) kk kx = kk (mk E F3 G))
    (h21 : ∀ {kk : Int → HeapP → ResP} {kx : Nat → HeapP → ResP}, cT (callP MP d 21 [.ref 44, .int (zI ((bitN s : Nat) : Int)), .int (zI (n : Int))] (mk E F3 G)) kk kx = kk r (mk E F3 G))
    (h4 : ∀ {kk : Int → HeapP → ResP} {kx : Nat → HeapP → ResP}, cT (callP MP d 4 [.int (zI r)] (mk E F3 G)) kk kx = kk sz (mk E F3 G)) (hs2 : 0 ≤ s ∧ s < 32) (e19 : tI (F3 16 19) = a1) (e18 : tI (F3 16 18) = b1) :
    runP MP d 158 (41, [some (.ref 16), some (.int (zI x)), some (.int (zI (n : Int))), some (.int (zI s)), some (.int (zI 1)), some (.int (zI i)), z6, z7, z8], [], mk E F G) = if zI a1 < zI sz then runP MP d 158 (164, [some (.ref 16), some (.int (zI x)), some (.int (zI (n : Int))), some (.int (zI s)), some (.int (zI 1)), some (.int (zI i)), some (.int (zI m)), some (.int (zI g)), some (.int (zI sz))], [], mk E F3 G) else if ¬ zI sz = zI a1 then runP MP d 158 (187, [some (.ref 16), some (.int (zI x)), some (.int (zI (n : Int))), some (.int (zI s)), some (.int (zI 1)), some (.int (zI i)), some (.int (zI m)), some (.int (zI g)), some (.int (zI sz))], [], mk E F3 G) else if zI b1 ≤ zI m then runP MP d 158 (187, [some (.ref 16), some (.int (zI x)), some (.int (zI (n : Int))), some (.int (zI s)), some (.int (zI 1)), some (.int (zI i)), some (.int (zI m)), some (.int (zI g)), some (.int (zI sz))], [], mk E F3 G) else runP MP d 158 (164, [some (.ref 16), some (.int (zI x)), some (.int (zI (n : Int))), some (.int (zI s)), some (.int (zI 1)), some (.int (zI i)), some (.int (zI m)), some (.int (zI g)), some (.int (zI sz))], [], mk E F3 G) := by
  rw [q_158_41]; (try simp only [↓n_rd, ↓n_al, ↓n_cI, li_0, li_1, li_2, li_4, li_5, li_7, li_8, li_10, li_13, li_20, li_1000000, zI_add, zI_sub, zI_mul, zI_neg, ↓Option.bind_some]); simp (disch := (first | assumption | exact tI_rg _ | omega | exact uR_at | exact row_ne hF (by decide) | exact row_ne (row_ne hF (by decide)) (by decide) | exact SnS_18 | exact SnS_30 | exact LdS_44 | exact LdS_46)) only [q_158_0, q_158_202, ed, e5, e4, o5, maxZ0, eg, ↓h20, ↓h23, ↓h21, ↓h4, shlB, e19, e18, ↓n_rd, ↓n_al, ↓n_cI, li_0, li_1, li_2, li_4, li_5, li_7, li_8, li_10, li_13, li_20, li_1000000, zI_add, zI_sub, zI_mul, zI_neg, ↓Option.bind_some, ↓g10_2, ↓g11_13, ↓g11_17, ↓g11_18, ↓g11_19, ↓g11_4, ↓g11_8, ↓g5_0, ↓g5_1, ↓g5_2, ↓g5_7, ↓SnS_l9, ↓SnS_s9, ↓p11_18, ↓p11_19, ↓al_208, ↓as_208, zIt2, uR_at, uR_ne, uR_uR, uC_uC, uC_at, ↓reduceIte, decide_eq_true_eq, leT, leF, ltT, ltF, eqT, eqF, ne_eq, not_true_eq_false, not_false_eq_true, Bool.false_eq_true, tI_zI]
theorem bl_step {d : Nat} {E : EnQ} {F : Nat → Int → Int32} {G : Nat → Int → Int64} {K : Int → Int32} {pl n : Nat} {p : List Int} {x i : Int} {a : Int × List Int} {z6 z7 z8 : Option Value} (hO : SnO E F 18 K) (hD : SepP E 18) (hpl : rfQ E 18 0 = pl) (hst : stepsZ K < 1999000000) (hx : 0 ≤ x ∧ x < tI (K 3)) (hn : n ≤ 3) (hi : 0 ≤ i ∧ i < 1000000) (hp0 : p ≠ []) (hl : p.length ≤ n + 1) (hv : VaP K p) (hs : plZ p 0 = tI (K (38 + 2 * x))) (hW : WaR E F K pl n p)
    (ha : -1 ≤ a.1 ∧ a.1 ≤ 32) (ha2 : 0 < a.2.length ∧ a.2.length ≤ 7) (e19 : tI (F 16 19) = a.1) (e18 : tI (F 16 18) = a.2.length - 1) (hB : ∀ j : Int, 0 ≤ j → j + 1 < a.2.length → tI (F 208 j) = plZ a.2 (j + 1)) (hd : 5 ≤ d + 1) :
    ∃ F1 y6 y7 y8, runP MP d 158 (41, [some (.ref 16), some (.int (zI x)), some (.int (zI (n : Int))), some (.int (zI (tI (K (38 + 2 * x))))), some (.int (zI 1)), some (.int (zI i)), z6, z7, z8], [], mk E F G) = runP MP d 158 (41, [some (.ref 16), some (.int (zI x)), some (.int (zI (n : Int))), some (.int (zI (tI (K (38 + 2 * x))))), some (.int (zI (if (fthZ K n p).isSome = true then 1 else 0))), some (.int (zI (i + 1))), y6, y7, y8], [], mk E F1 G) ∧ KeepD E F G E F1 G ∧ (∀ p', fthZ K n p = some p' → WaR E F1 K pl n p') ∧
      tI (F1 16 19) = (vB K x n p a).1 ∧ tI (F1 16 18) = (vB K x n p a).2.length - 1 ∧ (∀ j : Int, 0 ≤ j → j + 1 < (vB K x n p a).2.length → tI (F1 208 j) = plZ (vB K x n p a).2 (j + 1)) := by
  have hO' := hO
  have hD' := hD
  obtain ⟨hS, hP, hR, hN, hI⟩ := hO
  rw [hpl] at hP hR
  have hpl2 : pl = 19 ∨ 247 ≤ pl := by rw [← hpl]; exact hD.2
  obtain ⟨b0, b1, b2, b3, b4, b5, b6, b7, b8, b9⟩ := hI.1
  have hs18 : shx E 18 = (1, 5, 0) := hS.1
  have hl0 : 0 < p.length := len_pos hp0
  obtain ⟨m, hm⟩ : ∃ m : Int, m = p.length - 1 := ⟨_, rfl⟩
  have ed : tI (F 192 2) = m := by rw [hW.2.2.1, hm]
  have e5 : tI (F 18 2) = tI (K 5) := by rw [hN.1.2.1]
  have e4 : tI (F 18 1) = tI (K 4) := by rw [hN.1.1]
  have eg : (if 0 < tI (K 5) + m - tI (K 4) then tI (K 5) + m - tI (K 4) else 0) = gnZ K p := by
    unfold gnZ; rw [show tI (K 5) + m = tI (K 5) + (p.length : Int) - 1 by omega]
  have hg := gnZ_rg (K := K) (p := p)
  have hg2 : gnZ K p ≤ 200 := by unfold gnZ; split <;> omega
  have hv0 := plZ_rg hv 0 (by omega) (by omega)
  rw [hs] at hv0
  have hsz := szB_rg hI hst (n := (n : Int)) hx hp0 (by omega) hv hs
  rw [show ((n : Nat) : Int).toNat = n by omega] at hsz
  have hbx := bit_lt (x := tI (K (38 + 2 * x))) (by omega)
  have hO2 := SnO_row (G := G) (r := blA K (F 45) p 0) hO' hD' scr45
  have k20 : ldR (F 45) (kFr K (gnZ K p)) (kTo K (gnZ K p)) (tI (K 5) - gnZ K p).toNat = blA K (F 45) p 0 := by
    unfold blA
    rw [show tI (K 5) + ((0 : Nat) : Int) - gnZ K p = tI (K 5) - gnZ K p by omega]
    refine ldR_congr (fun k hk => ?_)
    have : sbZ K p (gnZ K p + (k : Int)) = prW K (gnZ K p + k) := if_pos (by omega)
    unfold kFr kTo bFr bTo
    rw [this]; exact ⟨rfl, rfl⟩
  have h20 : ∀ {kk : HeapP → ResP} {kx : Nat → HeapP → ResP}, cV (callP MP d 20 [.ref 44, .ref 18, .int (zI (gnZ K p))] (mk E F G)) kk kx = kk (mk E (uR F 45 (blA K (F 45) p 0)) G) := fun {kk kx} => by
    have := ct_20 (d := d) (G := G) (i := gnZ K p) hO' hD' (by omega) (by omega)
    rw [k20] at this
    exact cV_ret this
  have h23 : ∀ {kk : HeapP → ResP} {kx : Nat → HeapP → ResP}, cV (callP MP d 23 [.ref 44, .ref 192, .int (zI (gnZ K p - tI (K 5)))] (mk E (uR F 45 (blA K (F 45) p 0)) G)) kk kx = kk (mk E (uR F 45 (blA K (F 45) p (p.length - 1))) G) := fun {kk kx} => by
    have := cc_23 (d := d) (E := E) (F := uR F 45 (blA K (F 45) p 0)) (G := G) (K := K) (pl := pl) (most := n) (p := p) (r0 := F 45) (kk := kk) (kx := kx) hI hpl2 hP (PlR_ld hI (by omega) hR) hp0 (by omega) hv (WaR_oth (uR_ne (by decide)) (uR_ne (by decide)) (uR_ne (by decide)) hW) uR_at (by omega)
    rw [uR_uR] at this
    exact this
  have hcnt : (tI (K 5) + ((p.length - 1 : Nat) : Int) - gnZ K p).toNat = (tI (K 5) + p.length - 1 - gnZ K p).toNat := by omega
  have h21 : ∀ {kk : Int → HeapP → ResP} {kx : Nat → HeapP → ResP}, cT (callP MP d 21 [.ref 44, .int (zI ((bitN (tI (K (38 + 2 * x))) : Nat) : Int)), .int (zI (n : Int))] (mk E (uR F 45 (blA K (F 45) p (p.length - 1))) G)) kk kx = kk ((itN (onN (blK K x p)) (bitN (tI (K (38 + 2 * x)))) n : Nat) : Int) (mk E (uR F 45 (blA K (F 45) p (p.length - 1))) G) := fun {kk kx} => by
    have := cc_21 (d := d) (E := E) (F := uR F 45 (blA K (F 45) p (p.length - 1))) (G := G) (kk := kk) (kx := kx) (a := 44) LdS_44 (show uR F 45 (blA K (F 45) p (p.length - 1)) (44 + 1) = ldR (F 45) (bFr K p) (bTo K p) (tI (K 5) + p.length - 1 - gnZ K p).toNat from uR_at.trans (by unfold blA; rw [hcnt])) (b_rg hI hv) (s := bitN (tI (K (38 + 2 * x)))) hbx (m := n) (by omega) (by omega)
    rw [b_on hI hst hx hp0 (by omega) hv hs] at this
    exact this
  have hszd : szB K x n p = popZ (itN (onN (blK K x p)) (bitN (tI (K (38 + 2 * x)))) n) := rfl
  have h4 : ∀ {kk : Int → HeapP → ResP} {kx : Nat → HeapP → ResP}, cT (callP MP d 4 [.int (zI ((itN (onN (blK K x p)) (bitN (tI (K (38 + 2 * x)))) n : Nat) : Int))] (mk E (uR F 45 (blA K (F 45) p (p.length - 1))) G)) kk kx = kk (szB K x n p) (mk E (uR F 45 (blA K (F 45) p (p.length - 1))) G) := fun {kk kx} => cc_4 (by omega) (by omega)
  obtain ⟨sz, hz⟩ : ∃ sz, sz = szB K x n p := ⟨_, rfl⟩
  rw [← hz] at h4 hsz
  obtain ⟨F3, hF3⟩ : ∃ F3, F3 = uR F 45 (blA K (F 45) p (p.length - 1)) := ⟨_, rfl⟩
  have k3 : KeepD E F G E F3 G := by rw [hF3]; exact KeepD_F scr45
  have o3 : ∀ q, q ≠ 45 → F3 q = F q := fun q h => by rw [hF3]; exact uR_ne h
  have w3 : WaR E F3 K pl n p := WaR_oth (o3 _ (by decide)) (o3 _ (by decide)) (o3 _ (by decide)) hW
  have r3 : PlR F3 pl K := by rw [hF3]; exact PlR_ld hI (by omega) hR
  have e19' : tI (F3 16 19) = a.1 := by rw [o3 16 (by decide)]; exact e19
  have e18' : tI (F3 16 18) = a.2.length - 1 := by rw [o3 16 (by decide)]; exact e18
  rw [← hF3] at h23 h21 h4
  have hrun := bl_run (d := d) (E := E) (G := G) (n := n) (x := x) (i := i) (s := tI (K (38 + 2 * x))) (m := m) (g := gnZ K p) (k5 := tI (K 5)) (k4 := tI (K 4)) (r := ((itN (onN (blK K x p)) (bitN (tI (K (38 + 2 * x)))) n : Nat) : Int)) (sz := sz) (a1 := a.1) (b1 := (a.2.length : Int) - 1) (z6 := z6) (z7 := z7) (z8 := z8) hS.1 hi ed e5 e4 eg (by omega) (show tI (uR F 45 (blA K (F 45) p 0) 18 2) = tI (K 5) by rw [uR_ne (by decide)]; exact e5) h20 h23 h21 h4 (by omega) e19' e18'
  have hA : (a.1 < sz ∨ (a.1 = sz ∧ p.length < a.2.length)) → runP MP d 158 (41, [some (.ref 16), some (.int (zI x)), some (.int (zI (n : Int))), some (.int (zI (tI (K (38 + 2 * x))))), some (.int (zI 1)), some (.int (zI i)), z6, z7, z8], [], mk E F G) = runP MP d 158 (164, [some (.ref 16), some (.int (zI x)), some (.int (zI (n : Int))), some (.int (zI (tI (K (38 + 2 * x))))), some (.int (zI 1)), some (.int (zI i)), some (.int (zI m)), some (.int (zI (gnZ K p))), some (.int (zI sz))], [], mk E F3 G) := fun c => by
    rw [hrun]
    by_cases c1 : a.1 < sz
    · rw [if_pos (by rw [ltI (by omega)]; exact c1)]
    · have c2 : a.1 = sz := by omega
      rw [if_neg (by rw [ltI (by omega)]; exact c1), if_neg (fun z => z (by rw [c2])), if_neg (by rw [leI (by omega)]; omega)]
  have hBB : ¬ (a.1 < sz ∨ (a.1 = sz ∧ p.length < a.2.length)) → runP MP d 158 (41, [some (.ref 16), some (.int (zI x)), some (.int (zI (n : Int))), some (.int (zI (tI (K (38 + 2 * x))))), some (.int (zI 1)), some (.int (zI i)), z6, z7, z8], [], mk E F G) = runP MP d 158 (187, [some (.ref 16), some (.int (zI x)), some (.int (zI (n : Int))), some (.int (zI (tI (K (38 + 2 * x))))), some (.int (zI 1)), some (.int (zI i)), some (.int (zI m)), some (.int (zI (gnZ K p))), some (.int (zI sz))], [], mk E F3 G) := fun c => by
    rw [hrun, if_neg (by rw [ltI (by omega)]; omega)]
    by_cases c2 : a.1 = sz
    · rw [if_neg (fun z => z (by rw [c2])), if_pos (by rw [leI (by omega)]; omega)]
    · rw [if_pos (by rw [eqI (by omega)]; omega)]
  have keep : ∀ {g : Int32} {z : Int32} {m : Int32}, (¬ (a.1 < sz ∨ (a.1 = sz ∧ p.length < a.2.length))) → runP MP d 158 (41, [some (.ref 16), some (.int (zI x)), some (.int (zI (n : Int))), some (.int (zI (tI (K (38 + 2 * x))))), some (.int (zI 1)), some (.int (zI i)), z6, z7, z8], [], mk E F G) = runP MP d 158 (187, [some (.ref 16), some (.int (zI x)), some (.int (zI (n : Int))), some (.int (zI (tI (K (38 + 2 * x))))), some (.int (zI 1)), some (.int (zI i)), some (.int m), some (.int g), some (.int z)], [], mk E F3 G) → ∃ F1 y6 y7 y8, runP MP d 158 (41, [some (.ref 16), some (.int (zI x)), some (.int (zI (n : Int))), some (.int (zI (tI (K (38 + 2 * x))))), some (.int (zI 1)), some (.int (zI i)), z6, z7, z8], [], mk E F G) = runP MP d 158 (41, [some (.ref 16), some (.int (zI x)), some (.int (zI (n : Int))), some (.int (zI (tI (K (38 + 2 * x))))), some (.int (zI (if (fthZ K n p).isSome = true then 1 else 0))), some (.int (zI (i + 1))), y6, y7, y8], [], mk E F1 G) ∧ KeepD E F G E F1 G ∧ (∀ p', fthZ K n p = some p' → WaR E F1 K pl n p') ∧
      tI (F1 16 19) = (vB K x n p a).1 ∧ tI (F1 16 18) = (vB K x n p a).2.length - 1 ∧ (∀ j : Int, 0 ≤ j → j + 1 < (vB K x n p a).2.length → tI (F1 208 j) = plZ (vB K x n p a).2 (j + 1)) := fun {g z m} hno hrun => by
    obtain ⟨F1, h1, h2, h3⟩ := bl_187 (d := d) (G := G) (x := x) (i := i) (m := m) (g := g) (z := z) hI hpl2 hP r3 hn hp0 hl hv w3 (by omega)
    have ev : vB K x n p a = a := by unfold vB; rw [← hz]; exact if_neg hno
    rw [ev]
    refine ⟨F1, _, _, _, hrun.trans h1, k3.tr (KeepD_kp3 h2), h3, ?_, ?_, fun j j1 j2 => ?_⟩
    · rw [h2 16 (by decide) (by decide) (by decide)]; exact e19'
    · rw [h2 16 (by decide) (by decide) (by decide)]; exact e18'
    · rw [h2 208 (by decide) (by decide) (by decide), o3 208 (by decide)]; exact hB j j1 j2
  have take : ∀ {g : Int32}, (a.1 < sz ∨ (a.1 = sz ∧ p.length < a.2.length)) → runP MP d 158 (41, [some (.ref 16), some (.int (zI x)), some (.int (zI (n : Int))), some (.int (zI (tI (K (38 + 2 * x))))), some (.int (zI 1)), some (.int (zI i)), z6, z7, z8], [], mk E F G) = runP MP d 158 (164, [some (.ref 16), some (.int (zI x)), some (.int (zI (n : Int))), some (.int (zI (tI (K (38 + 2 * x))))), some (.int (zI 1)), some (.int (zI i)), some (.int (zI m)), some (.int g), some (.int (zI sz))], [], mk E F3 G) → ∃ F1 y6 y7 y8, runP MP d 158 (41, [some (.ref 16), some (.int (zI x)), some (.int (zI (n : Int))), some (.int (zI (tI (K (38 + 2 * x))))), some (.int (zI 1)), some (.int (zI i)), z6, z7, z8], [], mk E F G) = runP MP d 158 (41, [some (.ref 16), some (.int (zI x)), some (.int (zI (n : Int))), some (.int (zI (tI (K (38 + 2 * x))))), some (.int (zI (if (fthZ K n p).isSome = true then 1 else 0))), some (.int (zI (i + 1))), y6, y7, y8], [], mk E F1 G) ∧ KeepD E F G E F1 G ∧ (∀ p', fthZ K n p = some p' → WaR E F1 K pl n p') ∧
      tI (F1 16 19) = (vB K x n p a).1 ∧ tI (F1 16 18) = (vB K x n p a).2.length - 1 ∧ (∀ j : Int, 0 ≤ j → j + 1 < (vB K x n p a).2.length → tI (F1 208 j) = plZ (vB K x n p a).2 (j + 1)) := fun {g} hyes hrun => by
    have ev : vB K x n p a = (szB K x n p, p) := by unfold vB; rw [← hz]; exact if_pos hyes
    rw [ev]
    obtain ⟨F4, hF4⟩ : ∃ F4, F4 = uR (uR F3 16 (uC (uC (F3 16) 19 (zI sz)) 18 (zI m))) 208 (cpB (F3 208) (F3 199) (p.length - 1)) := ⟨_, rfl⟩
    have o4 : ∀ q, q ≠ 16 → q ≠ 208 → F4 q = F3 q := fun q h1 h2 => by rw [hF4, uR_ne h2, uR_ne h1]
    have r4 : PlR F4 pl K := PlR_move hI (fun b h1 h2 => o4 b (by omega) (by omega)) (fun j _ => rfl) r3
    have w4 : WaR E F4 K pl n p := WaR_oth (o4 _ (by decide) (by decide)) (o4 _ (by decide) (by decide)) (o4 _ (by decide) (by decide)) w3
    have k4 : KeepD E F3 G E F4 G := by
      rw [hF4]
      refine KeepD.tr (KeepD.tr (KeepD_16 (k := 19) (x := zI sz) (Or.inr rfl)) ?_) (KeepD_F scr208)
      have := KeepD_16 (E := E) (F := uR F3 16 (uC (F3 16) 19 (zI sz))) (G := G) (k := 18) (x := zI m) (Or.inl rfl)
      rw [uR_uR, uR_at] at this
      exact this
    have c108 : ∀ {kk : HeapP → ResP} {kx : Nat → HeapP → ResP}, cV (callP MP d 108 [.ref 192, .ref 208] (mk E (uR F3 16 (uC (uC (F3 16) 19 (zI sz)) 18 (zI m))) G)) kk kx = kk (mk E F4 G) := fun {kk kx} => by
      have := ct_108 (d := d) (E := E) (F := uR F3 16 (uC (uC (F3 16) 19 (zI sz)) 18 (zI m))) (G := G) (m := p.length - 1) (by rw [uR_ne (by decide), w3.2.2.1]; omega) (by omega) (by omega)
      rw [hF4]
      refine cV_ret (this.trans ?_)
      rw [show uR F3 16 (uC (uC (F3 16) 19 (zI sz)) 18 (zI m)) 208 = F3 208 from uR_ne (by decide), show uR F3 16 (uC (uC (F3 16) 19 (zI sz)) 18 (zI m)) 199 = F3 199 from uR_ne (by decide)]
    have h164 : runP MP d 158 (164, [some (.ref 16), some (.int (zI x)), some (.int (zI (n : Int))), some (.int (zI (tI (K (38 + 2 * x))))), some (.int (zI 1)), some (.int (zI i)), some (.int (zI m)), some (.int g), some (.int (zI sz))], [], mk E F3 G) = runP MP d 158 (187, [some (.ref 16), some (.int (zI x)), some (.int (zI (n : Int))), some (.int (zI (tI (K (38 + 2 * x))))), some (.int (zI 1)), some (.int (zI i)), some (.int (zI m)), some (.int g), some (.int (zI sz))], [], mk E F4 G) := by
      rw [q_158_164]; (try simp only [↓n_rd, ↓n_al, ↓n_cI, li_0, li_1, li_2, li_4, li_5, li_7, li_8, li_10, li_13, li_20, li_1000000, zI_add, zI_sub, zI_mul, zI_neg, ↓Option.bind_some]); simp (disch := (first | assumption | exact tI_rg _ | omega | exact uR_at | exact row_ne hF (by decide) | exact row_ne (row_ne hF (by decide)) (by decide) | exact SnS_18 | exact SnS_30 | exact LdS_44 | exact LdS_46)) only [q_158_0, q_158_202, ↓c108, ↓n_rd, ↓n_al, ↓n_cI, li_0, li_1, li_2, li_4, li_5, li_7, li_8, li_10, li_13, li_20, li_1000000, zI_add, zI_sub, zI_mul, zI_neg, ↓Option.bind_some, ↓g10_2, ↓g11_13, ↓g11_17, ↓g11_18, ↓g11_19, ↓g11_4, ↓g11_8, ↓g5_0, ↓g5_1, ↓g5_2, ↓g5_7, ↓SnS_l9, ↓SnS_s9, ↓p11_18, ↓p11_19, ↓al_208, ↓as_208, zIt2, uR_at, uR_ne, uR_uR, uC_uC, uC_at, ↓reduceIte, decide_eq_true_eq, leT, leF, ltT, ltF, eqT, eqF, ne_eq, not_true_eq_false, not_false_eq_true, Bool.false_eq_true, tI_zI]
    obtain ⟨F1, h1, h2, h3⟩ := bl_187 (d := d) (G := G) (x := x) (i := i) (m := zI m) (g := g) (z := zI sz) hI hpl2 hP r4 hn hp0 hl hv w4 (by omega)
    refine ⟨F1, _, _, _, hrun.trans (h164.trans h1), (k3.tr k4).tr (KeepD_kp3 h2), h3, ?_, ?_, fun j j1 j2 => ?_⟩
    · rw [h2 16 (by decide) (by decide) (by decide), hF4, uR_ne (by decide), uR_at, uC_ne (by decide), uC_at, tI_zI (by omega)]; exact hz
    · rw [h2 16 (by decide) (by decide) (by decide), hF4, uR_ne (by decide), uR_at, uC_at, tI_zI (by omega)]; exact hm
    · have j2 : j + 1 < p.length := j2
      rw [h2 208 (by decide) (by decide) (by decide), hF4, uR_at]
      show tI (if 0 ≤ j ∧ j < ((p.length - 1 : Nat) : Int) then zI (tI (F3 199 (j + 1))) else F3 208 j) = plZ p (j + 1)
      rw [if_pos (by omega), zI_tI]
      exact w3.2.2.2.1 (j + 1) (by omega) (by omega)
  by_cases c : a.1 < sz ∨ (a.1 = sz ∧ p.length < a.2.length)
  · exact take c (hA c)
  · exact keep c (hBB c)
end S94zzzh
