/-! MODEL: two, 2 -/
section S94zzzzr
set_option linter.unusedVariables false
set_option linter.unusedSimpArgs false
theorem go_293 {E : EnQ} {K : Int → Int32} {p q : Int} (hI : InvK K) (hp : 0 ≤ p ∧ p < tI (K 1)) (hq : 0 ≤ q ∧ q < tI (K 1)) : ∀ (r d : Nat) (tk lf : Int → Int) (F : Nat → Int → Int32) (G : Nat → Int → Int64) (W : Int), r ≤ 32 → W = 32 - (r : Int) → F 218 = K → (∀ v : Int, 0 ≤ v → v < 32 → F 233 v = zI (lf v)) → (∀ v : Int, 0 ≤ v → v < 32 → F 234 v = zI (tk v)) → (∀ v, 0 ≤ lf v ∧ lf v ≤ 100) → (∀ v, 0 ≤ tk v ∧ tk v ≤ 100) → (∀ v, W ≤ v → tk v = 0) → sumN (fun v : Nat => lf (v : Int)) 32 + sumN (fun v : Nat => tk (v : Int)) 32 ≤ 14 → tI (F 217 35) = sumN (fun v : Nat => lf (v : Int)) 32 → 22 + r ≤ d →
    ∃ F1 G1, callP MP d 293 [.ref 217, .int (zI W), .int (zI p), .int (zI q)] (mk E F G) = some (Sum.inl (some (.long (zJ (PTz K p q r tk lf)))), mk E F1 G1) ∧ KpV F G F1 G1 := by
  intro r
  induction r with
  | zero =>
    intro d tk lf F G W hr hW hF h233 h234 hlf htk htz hs h35 hd
    have hW : W = 32 := hW
    subst hW
    obtain ⟨F1, G1, r1, r2⟩ := pt_leaf (d := d - 1) (E := E) (F := F) (G := G) (tk := tk) (lf := lf) (p := p) (q := q) hI hF h233 h234 hlf htk hs h35 hp hq (by omega)
    refine ⟨F1, G1, ?_, r2⟩
    obtain ⟨e, rfl⟩ : ∃ e, d = e + 1 := ⟨d - 1, by omega⟩
    have hin : callP MP (e + 1) 293 [.ref 217, .int (zI 32), .int (zI p), .int (zI q)] (mk E F G) = runP MP e 293 (0, [some (.ref 217), some (.int (zI 32)), some (.int (zI p)), some (.int (zI q)), none, none, none, none, none, none], [], mk E F G) := into_eq (by omega) hM_293 (rcv_mk rfl (by decide)) rfl
    rw [hin]; exact r1
  | succ r ih =>
    intro d tk lf F G W hr hW hF h233 h234 hlf htk htz hs h35 hd
    have hb1 := hI.1.2.1
    have hW2 : 31 - (r : Int) = W := by omega
    have hW0 : 0 ≤ W ∧ W < 32 := by omega
    have hln := sumN_nneg (f := fun v : Nat => lf (v : Int)) (n := 32) (fun v _ => (hlf v).1)
    have htn := sumN_nneg (f := fun v : Nat => tk (v : Int)) (n := 32) (fun v _ => (htk v).1)
    have hlW := hlf W
    obtain ⟨wn, hwn⟩ : ∃ wn : Nat, (wn : Int) = W := ⟨W.toNat, by omega⟩
    have hle : lf W ≤ sumN (fun v : Nat => lf (v : Int)) 32 := by
      have := sumN_le1 (f := fun v : Nat => lf (v : Int)) (k := wn) (n := 32) (by omega) (fun v _ => (hlf v).1)
      rw [← hwn]; exact this
    obtain ⟨tm, htm⟩ : ∃ tm : Nat → Int, tm = fun k : Nat => PTz K p q r (stW tk W (k : Int)) (stW lf W (lf W - (k : Int))) := ⟨_, rfl⟩
    have hPT : PTz K p q (r + 1) tk lf = sumN tm (lf W + 1).toNat := by
      show sumN (fun k => PTz K p q r (stW tk (31 - (r : Int)) (k : Int)) (stW lf (31 - (r : Int)) (lf (31 - (r : Int)) - (k : Int)))) (lf (31 - (r : Int)) + 1).toNat = _
      rw [hW2, htm]
    have e233 : tI (F 233 W) = lf W := by rw [h233 W hW0.1 hW0.2, tI_zI (by omega)]
    rw [hPT]
    obtain ⟨e, rfl⟩ : ∃ e, d = e + 1 := ⟨d - 1, by omega⟩
    have hin : callP MP (e + 1) 293 [.ref 217, .int (zI W), .int (zI p), .int (zI q)] (mk E F G) = runP MP e 293 (0, [some (.ref 217), some (.int (zI W)), some (.int (zI p)), some (.int (zI q)), none, none, none, none, none, none], [], mk E F G) := into_eq (by omega) hM_293 (rcv_mk rfl (by decide)) rfl
    have h0 : runP MP e 293 (0, [some (.ref 217), some (.int (zI W)), some (.int (zI p)), some (.int (zI q)), none, none, none, none, none, none], [], mk E F G) = runP MP e 293 (112, [some (.ref 217), some (.int (zI W)), some (.int (zI p)), some (.int (zI q)), some (.long (zJ (sumN tm 0))), none, some (.int (zI (lf W))), some (.int (zI ((0 : Nat) : Int))), none, none], [], mk E F G) := by
      rw [show sumN tm 0 = 0 from rfl, show ((0 : Nat) : Int) = 0 from rfl]
      rw [q_293_0]; (try simp only [↓n_rd, ↓n_al, ↓n_cJ, li_0, li_1, li_12, li_32, lj_0, lj_1, lj_12, zJ_add, zJ_sub, zJ_mul, zJ_neg, zJ_l2i, zI_add, zI_sub, zI_mul, zI_neg, ↓Option.bind_some]); simp (disch := (first | assumption | exact tI_rg _ | omega | exact uR_at | exact row_ne hF (by decide) | exact row_ne (row_ne hF (by decide)) (by decide) | exact SnS_18 | exact SnS_30 | exact LdS_44 | exact LdS_46)) only [↓al_233, e233, ↓n_rd, ↓n_al, ↓n_cJ, li_0, li_1, li_12, li_32, lj_0, lj_1, lj_12, zJ_add, zJ_sub, zJ_mul, zJ_neg, zJ_l2i, tJ_zJ, zI_add, zI_sub, zI_mul, zI_neg, ↓Option.bind_some, ↓g12_32, ↓g12_33, ↓g12_35, ↓p12_35, ↓al_233, ↓as_233, ↓al_234, ↓as_234, zIt2, uR_at, uR_ne, uR_uR, uC_uC, uC_at, ↓reduceIte, decide_eq_true_eq, leT, leF, ltT, ltF, eqT, eqF, ne_eq, not_true_eq_false, not_false_eq_true, Bool.false_eq_true, tI_zI]
    have hmain : ∃ F1 G1, runP MP e 293 (112, [some (.ref 217), some (.int (zI W)), some (.int (zI p)), some (.int (zI q)), some (.long (zJ (sumN tm 0))), none, some (.int (zI (lf W))), some (.int (zI ((0 : Nat) : Int))), none, none], [], mk E F G) = some (Sum.inl (some (.long (zJ (sumN tm (lf W + 1).toNat)))), mk E F1 G1) ∧ KpV F G F1 G1 := by
      refine loopS (σ := (Nat → Int → Int32) × (Nat → Int → Int64)) (Post := fun rr => ∃ F1 G1, rr = some (Sum.inl (some (.long (zJ (sumN tm (lf W + 1).toNat)))), mk E F1 G1) ∧ KpV F G F1 G1)
        (fun k s => runP MP e 293 (112, [some (.ref 217), some (.int (zI W)), some (.int (zI p)), some (.int (zI q)), some (.long (zJ (sumN tm k))), none, some (.int (zI (lf W))), some (.int (zI (k : Int))), none, none], [], mk E s.1 s.2))
        (fun k s => (∀ x, x ≠ 217 → x ≠ 233 → x ≠ 234 → x ≠ 235 → s.1 x = F x) ∧ (∀ v, v ≠ W → s.1 233 v = F 233 v ∧ s.1 234 v = F 234 v) ∧ (∀ j, j < 35 ∨ 38 < j → j ≠ 41 → s.1 217 j = F 217 j) ∧ tI (s.1 217 35) = tI (F 217 35) ∧ (∀ x, x ≠ 217 → s.2 x = G x)) (lf W + 1).toNat (F, G) ⟨fun _ _ _ _ _ => rfl, fun _ _ => ⟨rfl, rfl⟩, fun _ _ _ => rfl, rfl, fun _ _ => rfl⟩ (fun s hs2 => ?_) (fun k s hk hs2 => ?_)
      · obtain ⟨i1, i2, i3, i4, i5⟩ := hs2
        have hk1 : (((lf W + 1).toNat : Nat) : Int) = lf W + 1 := by omega
        refine ⟨uR (uR s.1 234 (uC (s.1 234) W (zI 0))) 233 (uC (s.1 233) W (zI (lf W))), s.2, ?_, fun x a1 a2 a3 a4 => ?_, ?_, ?_, fun j a1 a2 => ?_, ?_, i5⟩
        · show runP MP e 293 _ = _
          rw [hk1]
          have hlt : lf W < lf W + 1 := by omega
          rw [q_293_112]; (try simp only [↓n_rd, ↓n_al, ↓n_cJ, li_0, li_1, li_12, li_32, lj_0, lj_1, lj_12, zJ_add, zJ_sub, zJ_mul, zJ_neg, zJ_l2i, zI_add, zI_sub, zI_mul, zI_neg, ↓Option.bind_some]); simp (disch := (first | assumption | exact tI_rg _ | omega | exact uR_at | exact row_ne hF (by decide) | exact row_ne (row_ne hF (by decide)) (by decide) | exact SnS_18 | exact SnS_30 | exact LdS_44 | exact LdS_46)) only [q_293_0, ↓as_233, ↓as_234, ↓n_rd, ↓n_al, ↓n_cJ, li_0, li_1, li_12, li_32, lj_0, lj_1, lj_12, zJ_add, zJ_sub, zJ_mul, zJ_neg, zJ_l2i, tJ_zJ, zI_add, zI_sub, zI_mul, zI_neg, ↓Option.bind_some, ↓g12_32, ↓g12_33, ↓g12_35, ↓p12_35, ↓al_233, ↓as_233, ↓al_234, ↓as_234, zIt2, uR_at, uR_ne, uR_uR, uC_uC, uC_at, ↓reduceIte, decide_eq_true_eq, leT, leF, ltT, ltF, eqT, eqF, ne_eq, not_true_eq_false, not_false_eq_true, Bool.false_eq_true, tI_zI]
        · rw [uR_ne a2, uR_ne a3]; exact i1 x a1 a2 a3 a4
        · rw [uR_at]
          funext v
          by_cases c : v = W
          · rw [c, uC_at, h233 W hW0.1 hW0.2]
          · rw [uC_ne c]; exact (i2 v c).1
        · rw [uR_ne (by decide), uR_at]
          funext v
          by_cases c : v = W
          · rw [c, uC_at, h234 W hW0.1 hW0.2, htz W (Int.le_refl _)]
          · rw [uC_ne c]; exact (i2 v c).2
        · rw [uR_ne (by decide), uR_ne (by decide)]; exact i3 j a1 a2
        · rw [uR_ne (by decide), uR_ne (by decide)]; exact i4
      · obtain ⟨i1, i2, i3, i4, i5⟩ := hs2
        right
        have hkl : (k : Int) ≤ lf W := by omega
        obtain ⟨F2, hF2⟩ : ∃ F2, F2 = uR (uR (uR s.1 234 (uC (s.1 234) W (zI (k : Int)))) 233 (uC (s.1 233) W (zI (lf W - (k : Int))))) 217 (uC (s.1 217) 35 (zI (sumN (fun v : Nat => lf (v : Int)) 32 - (k : Int)))) := ⟨_, rfl⟩
        have o217 : F2 217 = uC (s.1 217) 35 (zI (sumN (fun v : Nat => lf (v : Int)) 32 - (k : Int))) := by rw [hF2, uR_at]
        have o233 : F2 233 = uC (s.1 233) W (zI (lf W - (k : Int))) := by rw [hF2, uR_ne (by decide), uR_at]
        have o234 : F2 234 = uC (s.1 234) W (zI (k : Int)) := by rw [hF2, uR_ne (by decide), uR_ne (by decide), uR_at]
        have oq : ∀ x, x ≠ 217 → x ≠ 233 → x ≠ 234 → F2 x = s.1 x := fun x a1 a2 a3 => by rw [hF2, uR_ne a1, uR_ne a2, uR_ne a3]
        have e1 := sum_st (f := lf) (w := wn) (k := lf (wn : Int) - (k : Int)) (by omega)
        have e2 := sum_st (f := tk) (w := wn) (k := (k : Int)) (by omega)
        rw [hwn] at e1 e2
        rw [htz W (Int.le_refl _)] at e2
        obtain ⟨F3, G3, r1, r2⟩ := ih e (stW tk W (k : Int)) (stW lf W (lf W - (k : Int))) F2 s.2 (W + 1) (by omega) (by omega) (by rw [oq 218 (by decide) (by decide) (by decide), i1 218 (by decide) (by decide) (by decide) (by decide)]; exact hF)
          (fun v hv1 hv2 => by
            rw [o233]; unfold stW
            by_cases c : v = W
            · rw [if_pos c, c, uC_at]
            · rw [if_neg c, uC_ne c, (i2 v c).1]; exact h233 v hv1 hv2)
          (fun v hv1 hv2 => by
            rw [o234]; unfold stW
            by_cases c : v = W
            · rw [if_pos c, c, uC_at]
            · rw [if_neg c, uC_ne c, (i2 v c).2]; exact h234 v hv1 hv2)
          (fun v => by have := hlf v; unfold stW; split <;> omega) (fun v => by have := htk v; unfold stW; split <;> omega)
          (fun v hv => by unfold stW; rw [if_neg (by omega)]; exact htz v (by omega)) (by omega) (by rw [o217, uC_at, tI_zI (by omega)]; omega) (by omega)
        have etm : PTz K p q r (stW tk W (k : Int)) (stW lf W (lf W - (k : Int))) = tm k := by rw [htm]
        rw [etm] at r1
        have c293 : ∀ {kk : Int → HeapP → ResP} {kx : Nat → HeapP → ResP}, cJT (callP MP e 293 [.ref 217, .int (zI (W + 1)), .int (zI p), .int (zI q)] (mk E F2 s.2)) kk kx = kk (tJ (zJ (tm k))) (mk E F3 G3) := fun {kk kx} => by rw [r1]; rfl
        have e35 : tI (s.1 217 35) = sumN (fun v : Nat => lf (v : Int)) 32 := i4.trans h35
        have f35 : tI (F3 217 35) = sumN (fun v : Nat => lf (v : Int)) 32 - (k : Int) := by rw [r2.2.2.2.2.1, o217, uC_at, tI_zI (by omega)]
        have hw2 : mk E (uR (uR (uR s.1 234 (uC (s.1 234) W (zI (k : Int)))) 233 (uC (s.1 233) W (zI (lf W - (k : Int))))) 217 (uC (s.1 217) 35 (zI (sumN (fun v : Nat => lf (v : Int)) 32 - (k : Int))))) s.2 = mk E F2 s.2 := by rw [hF2]
        refine ⟨(uR F3 217 (uC (F3 217) 35 (zI (sumN (fun v : Nat => lf (v : Int)) 32))), G3), ⟨fun x a1 a2 a3 a4 => ?_, fun v hv => ?_, fun j a1 a2 => ?_, ?_, fun x a1 => (r2.2.2.2.2.2 x a1).trans (i5 x a1)⟩, ?_⟩
        · dsimp only
          rw [uR_ne a1, r2.1 x a1 a2 a3 a4, oq x a1 a2 a3]; exact i1 x a1 a2 a3 a4
        · dsimp only
          rw [uR_ne (by decide), uR_ne (by decide), r2.2.1, r2.2.2.1, o233, o234, uC_ne hv, uC_ne hv]; exact i2 v hv
        · dsimp only
          rw [uR_at, uC_ne (by omega), r2.2.2.2.1 j a1 a2, o217, uC_ne (by omega)]; exact i3 j a1 a2
        · dsimp only
          rw [uR_at, uC_at, tI_zI (by omega), h35]
        · show runP MP e 293 _ = runP MP e 293 _
          have eadd : sumN (fun v : Nat => lf (v : Int)) 32 - (k : Int) + (k : Int) = sumN (fun v : Nat => lf (v : Int)) 32 := by omega
          have ezz : zJ (sumN tm k + tJ (zJ (tm k))) = zJ (sumN tm k + tm k) := by rw [← zJ_add, zJ_tJ, zJ_add]
          rw [nsucc, sumN_s]
          rw [q_293_112]; (try simp only [↓n_rd, ↓n_al, ↓n_cJ, li_0, li_1, li_12, li_32, lj_0, lj_1, lj_12, zJ_add, zJ_sub, zJ_mul, zJ_neg, zJ_l2i, zI_add, zI_sub, zI_mul, zI_neg, ↓Option.bind_some]); simp (disch := (first | assumption | exact tI_rg _ | omega | exact uR_at | exact row_ne hF (by decide) | exact row_ne (row_ne hF (by decide)) (by decide) | exact SnS_18 | exact SnS_30 | exact LdS_44 | exact LdS_46)) only [q_293_0, ↓as_233, ↓as_234, e35, hw2, ↓n_cJ, ↓c293, ezz, f35, eadd, ↓n_rd, ↓n_al, ↓n_cJ, li_0, li_1, li_12, li_32, lj_0, lj_1, lj_12, zJ_add, zJ_sub, zJ_mul, zJ_neg, zJ_l2i, tJ_zJ, zI_add, zI_sub, zI_mul, zI_neg, ↓Option.bind_some, ↓g12_32, ↓g12_33, ↓g12_35, ↓p12_35, ↓al_233, ↓as_233, ↓al_234, ↓as_234, zIt2, uR_at, uR_ne, uR_uR, uC_uC, uC_at, ↓reduceIte, decide_eq_true_eq, leT, leF, ltT, ltF, eqT, eqF, ne_eq, not_true_eq_false, not_false_eq_true, Bool.false_eq_true, tI_zI]
    obtain ⟨F1, G1, r1, r2⟩ := hmain
    exact ⟨F1, G1, by rw [hin, h0, r1], r2⟩
theorem ml_two {d : Nat} {E : EnQ} {F : Nat → Int → Int32} {G : Nat → Int → Int64} {K : Int → Int32} (hI : InvK K) (hF : F 218 = K) {x y : Int} (hx : -2147483648 ≤ x ∧ x ≤ 2147483647) (hy : -2147483648 ≤ y ∧ y ≤ 2147483647) (hd : 60 ≤ d) : ∃ F1 G1, callP MP d 292 [.ref 217, .int (zI x), .int (zI y)] (mk E F G) = some (Sum.inl (some (.long (zJ (a_two K x y).2))), mk E F1 G1) ∧ F1 217 5 = zI (a_two K x y).1 ∧ KeepM F G F1 G1 := by
  have hA := hI.1
  have h5 := hI.1.2.2.2.2.2.1
  have h4 := hI.1.2.2.2.2.1
  have f218 : (uR F 217 (uC (F 217) 5 (zI 0))) 218 = K := (uR_ne (by decide)).trans hF
  by_cases c1 : 0 ≤ x ∧ x < tI (K 1)
  · by_cases c2 : 0 ≤ y ∧ y < tI (K 1)
    · by_cases c3 : tI (K 5) ≤ 8
      · have ha : a_two K x y = (0, PTz K x y 32 (fun _ => 0) (lfK K)) := (if_pos c1).trans ((if_pos c2).trans (by rw [if_pos c3]))
        obtain ⟨W, hW⟩ : ∃ W : Nat, W = 32 := ⟨_, rfl⟩
        obtain ⟨F0, hF0⟩ : ∃ F0, F0 = llF (uR F 217 (uC (F 217) 5 (zI 0))) K := ⟨_, rfl⟩
        have hsum : sumN (fun v : Nat => lfK K (v : Int)) 32 = tI (K 5) := by
          have := bg_sum (w := wK K) (k := (tI (K 5)).toNat) (fun i hi => by have := wK_in hI i hi; have := hI.1.2.2.1; omega)
          rw [sumN_congr (g := fun v : Nat => lfK K (v : Int)) (fun v _ => bg_i)] at this
          omega
        have hz : sumN (fun v : Nat => (fun _ : Int => (0 : Int)) (v : Int)) 32 = 0 := sumN_z (fun _ _ => rfl)
        obtain ⟨F1, G1, r1, r2⟩ := go_293 (E := E) (p := x) (q := y) hI c1 c2 32 (d - 1) (fun _ => 0) (lfK K) (uR F0 234 (zrI (F0 234) W 0)) G 0 (by omega) (by omega) (by rw [uR_ne (by decide), hF0]; exact ll_218 f218) (fun v h1 h2 => by rw [uR_ne (by decide), hF0]; exact llF_233 v h1 h2) (fun v h1 h2 => by rw [uR_at]; show (if 0 ≤ v ∧ v < W then zI 0 else F0 234 v) = zI 0; rw [if_pos (by omega)]) (lfK_rg hI) (fun v => by show 0 ≤ (0 : Int) ∧ (0 : Int) ≤ 100; omega) (fun _ _ => rfl) (by rw [hsum, hz]; omega) (by rw [uR_ne (by decide), hF0, llF_35 hI, hsum]; omega) (by omega)
        refine ⟨F1, G1, ?_, ?_, ?_⟩
        · rw [ha]
          show (_ : ResP) = some (Sum.inl (some (.long (zJ (PTz K x y 32 (fun _ => 0) (lfK K))))), mk E F1 G1)
          obtain ⟨e, rfl⟩ : ∃ e, d = e + 1 := ⟨d - 1, by omega⟩
          have hin : callP MP (e + 1) 292 [.ref 217, .int (zI x), .int (zI y)] (mk E F G) = runP MP e 292 (0, [some (.ref 217), some (.int (zI x)), some (.int (zI y)), none], [], mk E F G) := into_eq (by omega) hM_292 (rcv_mk rfl (by decide)) rfl
          have r1 : callP MP e 293 [.ref 217, .int (zI 0), .int (zI x), .int (zI y)] (mk E (uR F0 234 (zrI (F0 234) W 0)) G) = some (Sum.inl (some (.long (zJ (PTz K x y 32 (fun _ => 0) (lfK K))))), mk E F1 G1) := r1
          have c293 : ∀ {kk : Int → HeapP → ResP} {kx : Nat → HeapP → ResP}, cJT (callP MP e 293 [.ref 217, .int (zI 0), .int (zI x), .int (zI y)] (mk E (uR F0 234 (zrI (F0 234) W 0)) G)) kk kx = kk (tJ (zJ (PTz K x y 32 (fun _ => 0) (lfK K)))) (mk E F1 G1) := fun {kk kx} => by rw [r1]; rfl
          have c286 : ∀ {kk : HeapP → ResP} {kx : Nat → HeapP → ResP}, cV (callP MP e 286 [.ref 217] (mk E (uR F 217 (uC (F 217) 5 (zI 0))) G)) kk kx = kk (mk E F0 G) := fun {kk kx} => by rw [hF0]; exact cc_286 hI f218 (by omega)
          have h0 : runP MP e 292 (0, [some (.ref 217), some (.int (zI x)), some (.int (zI y)), none], [], mk E F G) = runP MP e 292 (49, [some (.ref 217), some (.int (zI x)), some (.int (zI y)), some (.int (zI 0))], [], mk E F0 G) := by
            rw [q_292_0]; (try simp only [↓n_cI, ↓n_cJ, li_0, li_1, li_5, li_8, li_12, li_32, li_210, li_1000, lj_0, lj_1, lj_5, lj_12, lj_1000, zJ_add, zJ_sub, zJ_mul, zJ_neg, zJ_l2i, zI_add, zI_sub, zI_mul, zI_neg, ↓Option.bind_some]); simp (disch := (first | assumption | exact tI_rg _ | omega | exact uR_at | exact row_ne hF (by decide) | exact row_ne (row_ne hF (by decide)) (by decide) | exact SnS_18 | exact SnS_30 | exact LdS_44 | exact LdS_46)) only [q_292_23, ↓cc_213t hI, ↓cc_213f hI, ↓cc_219t hI, ↓cc_219f hI, ↓cc_188t, ↓cc_188f, ↓cc_189, zI_i2l, hF, ↓cc_210 hI, ↓c286, ↓n_cI, ↓n_cJ, li_0, li_1, li_5, li_8, li_12, li_32, li_210, li_1000, lj_0, lj_1, lj_5, lj_12, lj_1000, zJ_add, zJ_sub, zJ_mul, zJ_neg, zJ_l2i, tJ_zJ, zI_add, zI_sub, zI_mul, zI_neg, ↓Option.bind_some, ↓g12_33, ↓p12_5, ↓al_234, ↓as_234, zIt2, uR_at, uR_ne, uR_uR, uC_uC, uC_at, ↓reduceIte, decide_eq_true_eq, leT, leF, ltT, ltF, eqT, eqF, ne_eq, not_true_eq_false, not_false_eq_true, Bool.false_eq_true, tI_zI]
          have h49 : runP MP e 292 (49, [some (.ref 217), some (.int (zI x)), some (.int (zI y)), some (.int (zI 0))], [], mk E F0 G) = runP MP e 292 (49, [some (.ref 217), some (.int (zI x)), some (.int (zI y)), some (.int (zI (W : Int)))], [], mk E (uR F0 234 (zrI (F0 234) W 0)) G) := by
            have h1 : runP MP e 292 (49, [some (.ref 217), some (.int (zI x)), some (.int (zI y)), some (.int (zI 0))], [], mk E F0 G) = runP MP e 292 (49, [some (.ref 217), some (.int (zI x)), some (.int (zI y)), some (.int (zI ((0 : Nat) : Int)))], [], mk E (uR F0 234 (zrI (F0 234) 0 0)) G) := by
              rw [zrI_0, uR_self]; rfl
            rw [h1]
            refine (loopN (fun j : Nat => runP MP e 292 (49, [some (.ref 217), some (.int (zI x)), some (.int (zI y)), some (.int (zI (j : Nat)))], [], mk E (uR F0 234 (zrI (F0 234) j 0)) G)) (W) (fun j hj => ?_)).trans ?_
            · show runP MP e 292 (49, [some (.ref 217), some (.int (zI x)), some (.int (zI y)), some (.int (zI (j : Nat)))], [], mk E (uR F0 234 (zrI (F0 234) j 0)) G) = runP MP e 292 (49, [some (.ref 217), some (.int (zI x)), some (.int (zI y)), some (.int (zI ((j + 1) : Nat)))], [], mk E (uR F0 234 (zrI (F0 234) (j + 1) 0)) G)
              rw [nsucc, zrI_s]
              rw [q_292_49]; (try simp only [↓n_cI, ↓n_cJ, li_0, li_1, li_5, li_8, li_12, li_32, li_210, li_1000, lj_0, lj_1, lj_5, lj_12, lj_1000, zJ_add, zJ_sub, zJ_mul, zJ_neg, zJ_l2i, zI_add, zI_sub, zI_mul, zI_neg, ↓Option.bind_some]); simp (disch := (first | assumption | exact tI_rg _ | omega | exact uR_at | exact row_ne hF (by decide) | exact row_ne (row_ne hF (by decide)) (by decide) | exact SnS_18 | exact SnS_30 | exact LdS_44 | exact LdS_46)) only [q_292_0, q_292_23, ↓as_234, ↓n_cI, ↓n_cJ, li_0, li_1, li_5, li_8, li_12, li_32, li_210, li_1000, lj_0, lj_1, lj_5, lj_12, lj_1000, zJ_add, zJ_sub, zJ_mul, zJ_neg, zJ_l2i, tJ_zJ, zI_add, zI_sub, zI_mul, zI_neg, ↓Option.bind_some, ↓g12_33, ↓p12_5, ↓al_234, ↓as_234, zIt2, uR_at, uR_ne, uR_uR, uC_uC, uC_at, ↓reduceIte, decide_eq_true_eq, leT, leF, ltT, ltF, eqT, eqF, ne_eq, not_true_eq_false, not_false_eq_true, Bool.false_eq_true, tI_zI]
            · show runP MP e 292 (49, [some (.ref 217), some (.int (zI x)), some (.int (zI y)), some (.int (zI ((W) : Nat)))], [], mk E (uR F0 234 (zrI (F0 234) (W) 0)) G) = _
              rfl

          rw [hin, h0, h49]
          rw [q_292_49]; (try simp only [↓n_cI, ↓n_cJ, li_0, li_1, li_5, li_8, li_12, li_32, li_210, li_1000, lj_0, lj_1, lj_5, lj_12, lj_1000, zJ_add, zJ_sub, zJ_mul, zJ_neg, zJ_l2i, zI_add, zI_sub, zI_mul, zI_neg, ↓Option.bind_some]); simp (disch := (first | assumption | exact tI_rg _ | omega | exact uR_at | exact row_ne hF (by decide) | exact row_ne (row_ne hF (by decide)) (by decide) | exact SnS_18 | exact SnS_30 | exact LdS_44 | exact LdS_46)) only [q_292_0, q_292_23, ↓n_cJ, ↓c293, zJ_tJ, ↓n_cI, ↓n_cJ, li_0, li_1, li_5, li_8, li_12, li_32, li_210, li_1000, lj_0, lj_1, lj_5, lj_12, lj_1000, zJ_add, zJ_sub, zJ_mul, zJ_neg, zJ_l2i, tJ_zJ, zI_add, zI_sub, zI_mul, zI_neg, ↓Option.bind_some, ↓g12_33, ↓p12_5, ↓al_234, ↓as_234, zIt2, uR_at, uR_ne, uR_uR, uC_uC, uC_at, ↓reduceIte, decide_eq_true_eq, leT, leF, ltT, ltF, eqT, eqF, ne_eq, not_true_eq_false, not_false_eq_true, Bool.false_eq_true, tI_zI]
        · rw [r2.2.2.2.1 5 (by omega) (by omega), uR_ne (by decide), hF0, (llF_w (F := (uR F 217 (uC (F 217) 5 (zI 0)))) (G := G) (K := K)).2.1 5 (by omega) (by omega), uR_at, uC_at, ha]
        · refine ⟨fun q a1 a2 a3 a4 => ?_, fun j hj => ?_, fun q a1 => r2.2.2.2.2.2 q a1⟩
          · rw [r2.1 q a1 (by omega) (by omega) (by omega), uR_ne (by omega), hF0, (llF_w (F := (uR F 217 (uC (F 217) 5 (zI 0)))) (G := G) (K := K)).1 q a1 (by omega) (by omega), uR_ne a1]
          · rw [r2.2.2.2.1 j (by omega) (by omega), uR_ne (by decide), hF0, (llF_w (F := (uR F 217 (uC (F 217) 5 (zI 0)))) (G := G) (K := K)).2.1 j (by omega) (by omega), uR_at, uC_ne (by omega)]
      · have ha : a_two K x y = (0, -1000) := (if_pos c1).trans ((if_pos c2).trans (by rw [if_neg c3]))
        refine ⟨(uR F 217 (uC (F 217) 5 (zI 0))), G, ?_, by rw [uR_at, uC_at, ha], KeepM_c⟩
        rw [ha]
        show (_ : ResP) = some (Sum.inl (some (.long (zJ (-1000)))), mk E (uR F 217 (uC (F 217) 5 (zI 0))) G)
        have e1000 : (-1000 : Int64) = zJ (-1000) := by decide
        refine into (D := 59) (by omega) hM_292 (rcv_mk rfl (by decide)) rfl fun d hd => ?_
        show runP MP d 292 (0, [some (.ref 217), some (.int (zI x)), some (.int (zI y)), none], [], _) = _
        rw [q_292_0]; (try simp only [↓n_cI, ↓n_cJ, li_0, li_1, li_5, li_8, li_12, li_32, li_210, li_1000, lj_0, lj_1, lj_5, lj_12, lj_1000, zJ_add, zJ_sub, zJ_mul, zJ_neg, zJ_l2i, zI_add, zI_sub, zI_mul, zI_neg, ↓Option.bind_some]); simp (disch := (first | assumption | exact tI_rg _ | omega | exact uR_at | exact row_ne hF (by decide) | exact row_ne (row_ne hF (by decide)) (by decide) | exact SnS_18 | exact SnS_30 | exact LdS_44 | exact LdS_46)) only [q_292_23, ↓cc_213t hI, ↓cc_213f hI, ↓cc_219t hI, ↓cc_219f hI, ↓cc_188t, ↓cc_188f, ↓cc_189, zI_i2l, hF, ↓cc_210 hI, e1000, ↓n_cI, ↓n_cJ, li_0, li_1, li_5, li_8, li_12, li_32, li_210, li_1000, lj_0, lj_1, lj_5, lj_12, lj_1000, zJ_add, zJ_sub, zJ_mul, zJ_neg, zJ_l2i, tJ_zJ, zI_add, zI_sub, zI_mul, zI_neg, ↓Option.bind_some, ↓g12_33, ↓p12_5, ↓al_234, ↓as_234, zIt2, uR_at, uR_ne, uR_uR, uC_uC, uC_at, ↓reduceIte, decide_eq_true_eq, leT, leF, ltT, ltF, eqT, eqF, ne_eq, not_true_eq_false, not_false_eq_true, Bool.false_eq_true, tI_zI]
    · have ha : a_two K x y = (1, 0) := (if_pos c1).trans (if_neg c2)
      refine ⟨uR F 217 (uC (F 217) 5 (zI 1)), G, ?_, by rw [uR_at, uC_at, ha], KeepM_c⟩
      rw [ha]
      show (_ : ResP) = some (Sum.inl (some (.long (zJ 0))), mk E (uR F 217 (uC (F 217) 5 (zI 1))) G)
      refine into (D := 59) (by omega) hM_292 (rcv_mk rfl (by decide)) rfl fun d hd => ?_
      show runP MP d 292 (0, [some (.ref 217), some (.int (zI x)), some (.int (zI y)), none], [], _) = _
      rw [q_292_0]; (try simp only [↓n_cI, ↓n_cJ, li_0, li_1, li_5, li_8, li_12, li_32, li_210, li_1000, lj_0, lj_1, lj_5, lj_12, lj_1000, zJ_add, zJ_sub, zJ_mul, zJ_neg, zJ_l2i, zI_add, zI_sub, zI_mul, zI_neg, ↓Option.bind_some]); simp (disch := (first | assumption | exact tI_rg _ | omega | exact uR_at | exact row_ne hF (by decide) | exact row_ne (row_ne hF (by decide)) (by decide) | exact SnS_18 | exact SnS_30 | exact LdS_44 | exact LdS_46)) only [q_292_23, ↓cc_213t hI, ↓cc_213f hI, ↓cc_219t hI, ↓cc_219f hI, ↓cc_188t, ↓cc_188f, ↓cc_189, zI_i2l, hF, ↓n_cI, ↓n_cJ, li_0, li_1, li_5, li_8, li_12, li_32, li_210, li_1000, lj_0, lj_1, lj_5, lj_12, lj_1000, zJ_add, zJ_sub, zJ_mul, zJ_neg, zJ_l2i, tJ_zJ, zI_add, zI_sub, zI_mul, zI_neg, ↓Option.bind_some, ↓g12_33, ↓p12_5, ↓al_234, ↓as_234, zIt2, uR_at, uR_ne, uR_uR, uC_uC, uC_at, ↓reduceIte, decide_eq_true_eq, leT, leF, ltT, ltF, eqT, eqF, ne_eq, not_true_eq_false, not_false_eq_true, Bool.false_eq_true, tI_zI]
  · have ha : a_two K x y = (1, 0) := if_neg c1
    refine ⟨uR F 217 (uC (F 217) 5 (zI 1)), G, ?_, by rw [uR_at, uC_at, ha], KeepM_c⟩
    rw [ha]
    show (_ : ResP) = some (Sum.inl (some (.long (zJ 0))), mk E (uR F 217 (uC (F 217) 5 (zI 1))) G)
    refine into (D := 59) (by omega) hM_292 (rcv_mk rfl (by decide)) rfl fun d hd => ?_
    show runP MP d 292 (0, [some (.ref 217), some (.int (zI x)), some (.int (zI y)), none], [], _) = _
    rw [q_292_0]; (try simp only [↓n_cI, ↓n_cJ, li_0, li_1, li_5, li_8, li_12, li_32, li_210, li_1000, lj_0, lj_1, lj_5, lj_12, lj_1000, zJ_add, zJ_sub, zJ_mul, zJ_neg, zJ_l2i, zI_add, zI_sub, zI_mul, zI_neg, ↓Option.bind_some]); simp (disch := (first | assumption | exact tI_rg _ | omega | exact uR_at | exact row_ne hF (by decide) | exact row_ne (row_ne hF (by decide)) (by decide) | exact SnS_18 | exact SnS_30 | exact LdS_44 | exact LdS_46)) only [q_292_23, ↓cc_213t hI, ↓cc_213f hI, ↓cc_219t hI, ↓cc_219f hI, ↓cc_188t, ↓cc_188f, ↓cc_189, zI_i2l, hF, ↓n_cI, ↓n_cJ, li_0, li_1, li_5, li_8, li_12, li_32, li_210, li_1000, lj_0, lj_1, lj_5, lj_12, lj_1000, zJ_add, zJ_sub, zJ_mul, zJ_neg, zJ_l2i, tJ_zJ, zI_add, zI_sub, zI_mul, zI_neg, ↓Option.bind_some, ↓g12_33, ↓p12_5, ↓al_234, ↓as_234, zIt2, uR_at, uR_ne, uR_uR, uC_uC, uC_at, ↓reduceIte, decide_eq_true_eq, leT, leF, ltT, ltF, eqT, eqF, ne_eq, not_true_eq_false, not_false_eq_true, Bool.false_eq_true, tI_zI]
end S94zzzzr
