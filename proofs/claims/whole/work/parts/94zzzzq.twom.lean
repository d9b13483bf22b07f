/-! MODEL: two -/
section S94zzzzq
set_option linter.unusedVariables false
set_option linter.unusedSimpArgs false
def xcN (r s : Int → Int32) (j : Nat) : Int → Int32 := fun v => if 0 ≤ v ∧ v < j then zI (tI (s v)) else r v
theorem xcN_0 {r s : Int → Int32} : xcN r s 0 = r := by funext v; exact if_neg (by omega)
theorem xcN_s {r s : Int → Int32} {j : Nat} : xcN r s (j + 1) = uC (xcN r s j) j (zI (tI (s j))) := by
  funext v
  by_cases e : v = (j : Int)
  · rw [e, uC_at]; exact if_pos (by omega)
  · rw [uC_ne e]
    unfold xcN
    by_cases g : 0 ≤ v ∧ v < j
    · rw [if_pos g, if_pos (by omega)]
    · rw [if_neg g, if_neg (by omega)]
theorem xcN_in {r s : Int → Int32} {j : Nat} {v : Int} (h : 0 ≤ v ∧ v < j) : xcN r s j v = s v := by
  unfold xcN; rw [if_pos h, zI_tI]
theorem xcN_out {r s : Int → Int32} {j : Nat} {v : Int} (h : ¬ (0 ≤ v ∧ v < j)) : xcN r s j v = r v := if_neg h
theorem xcN_sw {a b : Int → Int32} {j : Nat} : xcN (xcN a b j) (xcN b a j) j = a := by
  funext v
  by_cases h : 0 ≤ v ∧ v < j
  · rw [xcN_in h, xcN_in h]
  · rw [xcN_out h, xcN_out h]
def exR (F : Nat → Int → Int32) (j : Nat) : Nat → Int → Int32 := uR (uR F 233 (xcN (F 233) (F 234) j)) 234 (xcN (F 234) (F 233) j)
theorem ex_233 {F : Nat → Int → Int32} {j : Nat} : exR F j 233 = xcN (F 233) (F 234) j := by unfold exR; rw [uR_ne (by decide), uR_at]
theorem ex_234 {F : Nat → Int → Int32} {j : Nat} : exR F j 234 = xcN (F 234) (F 233) j := by unfold exR; rw [uR_at]
theorem ex_ne {F : Nat → Int → Int32} {j q : Nat} (h1 : q ≠ 233) (h2 : q ≠ 234) : exR F j q = F q := by unfold exR; rw [uR_ne h2, uR_ne h1]
theorem ex_0 {F : Nat → Int → Int32} : exR F 0 = F := by
  funext q
  by_cases h1 : q = 233
  · rw [h1, ex_233, xcN_0]
  · by_cases h2 : q = 234
    · rw [h2, ex_234, xcN_0]
    · exact ex_ne h1 h2
theorem ex_s {F : Nat → Int → Int32} {j : Nat} : exR F (j + 1) = uR (uR (exR F j) 233 (uC (exR F j 233) j (zI (tI (exR F j 234 j))))) 234 (uC (exR F j 234) j (zI (tI (exR F j 233 j)))) := by
  have hj : ¬ (0 ≤ (j : Int) ∧ (j : Int) < (j : Int)) := by omega
  funext q
  by_cases h2 : q = 234
  · rw [h2, ex_234, uR_at, ex_234, ex_233, xcN_out hj, xcN_s]
  · rw [uR_ne h2]
    by_cases h1 : q = 233
    · rw [h1, ex_233, uR_at, ex_233, ex_234, xcN_out hj, xcN_s]
    · rw [uR_ne h1, ex_ne h1 h2, ex_ne h1 h2]
theorem sum_st {f : Int → Int} {w : Nat} {k : Int} (hw : w < 32) : sumN (fun v : Nat => stW f (w : Int) k (v : Int)) 32 = sumN (fun v : Nat => f (v : Int)) 32 - f (w : Int) + k := by
  have e := sumN_congr (f := fun v : Nat => stW f (w : Int) k (v : Int)) (g := fun v : Nat => f (v : Int) + (if v = w then k - f (w : Int) else 0)) (n := 32) (fun v _ => by
    show stW f (w : Int) k (v : Int) = f (v : Int) + (if v = w then k - f (w : Int) else 0)
    unfold stW
    by_cases c : v = w
    · rw [if_pos (by omega), if_pos c, c]; omega
    · rw [if_neg (by omega), if_neg c]; omega)
  rw [e, sumN_add, sumN_single (f := fun v => if v = w then k - f (w : Int) else 0) hw (fun j _ h => if_neg h), if_pos rfl]; omega
def KpV (F : Nat → Int → Int32) (G : Nat → Int → Int64) (F1 : Nat → Int → Int32) (G1 : Nat → Int → Int64) : Prop := (∀ q, q ≠ 217 → q ≠ 233 → q ≠ 234 → q ≠ 235 → F1 q = F q) ∧ F1 233 = F 233 ∧ F1 234 = F 234 ∧ (∀ j, j < 35 ∨ 38 < j → j ≠ 41 → F1 217 j = F 217 j) ∧ tI (F1 217 35) = tI (F 217 35) ∧ (∀ q, q ≠ 217 → G1 q = G q)
theorem ct_294 {d : Nat} {E : EnQ} {F : Nat → Int → Int32} {G : Nat → Int → Int64} (hd : 1 ≤ d) : callP MP d 294 [.ref 217] (mk E F G) = some (Sum.inl none, mk E (exR F 32) G) := by
  obtain ⟨W, hW⟩ : ∃ W : Nat, W = 32 := ⟨_, rfl⟩
  rw [← hW]
  refine into (D := 0) (by omega) hM_294 (rcv_mk rfl (by decide)) rfl fun d hd => ?_
  show runP MP d 294 (0, [some (.ref 217), none, none], [], _) = _
  have h0 : runP MP d 294 (0, [some (.ref 217), none, none], [], mk E F G) = runP MP d 294 (2, [some (.ref 217), some (.int (zI ((0 : Nat) : Int))), none], [], mk E (exR F 0) G) := by
    rw [ex_0, q_294_0]; rfl
  rw [h0]
  refine loopS (σ := Option Value) (Post := fun r => r = some (Sum.inl none, mk E (exR F W) G))
    (fun j z => runP MP d 294 (2, [some (.ref 217), some (.int (zI (j : Int))), z], [], mk E (exR F j) G))
    (fun _ _ => True) W none trivial (fun z _ => ?_) (fun j z hj _ => ?_)
  · show runP MP d 294 _ = _
    rw [q_294_2]; (try simp only [↓n_al, li_0, li_1, li_2, li_12, li_32, zI_add, zI_sub, zI_mul, zI_neg, ↓Option.bind_some]); simp (disch := (first | assumption | exact tI_rg _ | omega | exact uR_at | exact row_ne hF (by decide) | exact row_ne (row_ne hF (by decide)) (by decide) | exact SnS_18 | exact SnS_30 | exact LdS_44 | exact LdS_46)) only [q_294_0, ↓n_al, li_0, li_1, li_2, li_12, li_32, zI_add, zI_sub, zI_mul, zI_neg, ↓Option.bind_some, ↓g12_32, ↓g12_33, ↓al_233, ↓as_233, ↓al_234, ↓as_234, zIt2, uR_at, uR_ne, uR_uR, uC_uC, uC_at, ↓reduceIte, decide_eq_true_eq, leT, leF, ltT, ltF, eqT, eqF, ne_eq, not_true_eq_false, not_false_eq_true, Bool.false_eq_true, tI_zI]
  · right
    refine ⟨some (.int (zI (tI (exR F j 233 (j : Int))))), trivial, ?_⟩
    show runP MP d 294 _ = runP MP d 294 _
    rw [nsucc, ex_s]
    obtain ⟨Fj, hFj⟩ : ∃ Fj, Fj = exR F j := ⟨_, rfl⟩
    rw [← hFj]
    rw [q_294_2]; (try simp only [↓n_al, li_0, li_1, li_2, li_12, li_32, zI_add, zI_sub, zI_mul, zI_neg, ↓Option.bind_some]); simp (disch := (first | assumption | exact tI_rg _ | omega | exact uR_at | exact row_ne hF (by decide) | exact row_ne (row_ne hF (by decide)) (by decide) | exact SnS_18 | exact SnS_30 | exact LdS_44 | exact LdS_46)) only [q_294_0, ↓al_233, ↓al_234, ↓as_233, ↓as_234, ↓n_al, li_0, li_1, li_2, li_12, li_32, zI_add, zI_sub, zI_mul, zI_neg, ↓Option.bind_some, ↓g12_32, ↓g12_33, ↓al_233, ↓as_233, ↓al_234, ↓as_234, zIt2, uR_at, uR_ne, uR_uR, uC_uC, uC_at, ↓reduceIte, decide_eq_true_eq, leT, leF, ltT, ltF, eqT, eqF, ne_eq, not_true_eq_false, not_false_eq_true, Bool.false_eq_true, tI_zI]
theorem cc_294 {d : Nat} {E : EnQ} {F : Nat → Int → Int32} {G : Nat → Int → Int64} {kk : HeapP → ResP} {kx : Nat → HeapP → ResP} (hd : 1 ≤ d) : cV (callP MP d 294 [.ref 217] (mk E F G)) kk kx = kk (mk E (exR F 32) G) := cV_ret (ct_294 hd)
theorem pt_leaf {d : Nat} {E : EnQ} {F : Nat → Int → Int32} {G : Nat → Int → Int64} {K : Int → Int32} {tk lf : Int → Int} {p q : Int} (hI : InvK K) (hF : F 218 = K) (h233 : ∀ v : Int, 0 ≤ v → v < 32 → F 233 v = zI (lf v)) (h234 : ∀ v : Int, 0 ≤ v → v < 32 → F 234 v = zI (tk v)) (hlf : ∀ v, 0 ≤ lf v ∧ lf v ≤ 100) (htk : ∀ v, 0 ≤ tk v ∧ tk v ≤ 100) (hs : sumN (fun v : Nat => lf (v : Int)) 32 + sumN (fun v : Nat => tk (v : Int)) 32 ≤ 14) (h35 : tI (F 217 35) = sumN (fun v : Nat => lf (v : Int)) 32) (hp : 0 ≤ p ∧ p < tI (K 1)) (hq : 0 ≤ q ∧ q < tI (K 1)) (hd : 21 ≤ d) :
    ∃ F1 G1, runP MP d 293 (0, [some (.ref 217), some (.int (zI 32)), some (.int (zI p)), some (.int (zI q)), none, none, none, none, none, none], [], mk E F G) = some (Sum.inl (some (.long (zJ (PTz K p q 0 tk lf)))), mk E F1 G1) ∧ KpV F G F1 G1 := by
  have hb1 := hI.1.2.1
  have hln := sumN_nneg (f := fun v : Nat => lf (v : Int)) (n := 32) (fun v _ => (hlf v).1)
  have htn := sumN_nneg (f := fun v : Nat => tk (v : Int)) (n := 32) (fun v _ => (htk v).1)
  obtain ⟨kl, hkl⟩ : ∃ kl, kl = smW lf := ⟨_, rfl⟩
  obtain ⟨kt, hkt⟩ : ∃ kt, kt = smW tk := ⟨_, rfl⟩
  have ekl : (kl : Int) = sumN (fun v : Nat => lf (v : Int)) 32 := by rw [hkl]; unfold smW; omega
  have ekt : (kt : Int) = sumN (fun v : Nat => tk (v : Int)) 32 := by rw [hkt]; unfold smW; omega
  rw [← ekl] at h35
  have hPT : PTz K p q 0 tk lf = NMz K kt p tk * NMz K kl q lf := by rw [hkl, hkt]; rfl
  have bl := rw_bd hI (k := kl) (by omega) (u := q) (lf := lf)
  have bt := rw_bd hI (k := kt) (by omega) (u := p) (lf := tk)
  obtain ⟨F1, G1, r1, r2, r3, r4, -⟩ := ct_287 (d := d) (E := E) (F := F) (G := G) (lf := lf) (k := kl) (u := q) (wt := -1) hI hF h233 h35 hlf (by omega) hq (by omega) (by omega)
  rw [if_neg (by omega)] at r1
  obtain ⟨s1, s2, s3, -, -, -⟩ := r4 (by omega)
  have f234 : F1 234 = F 234 := r2.1 234 (by decide) (by decide) (by decide)
  have c287q : ∀ {kk : Int → HeapP → ResP} {kx : Nat → HeapP → ResP}, cJT (callP MP d 287 [.ref 217, .int (zI q), .long (zJ (-1))] (mk E F G)) kk kx = kk (NMz K kl q lf) (mk E F1 G1) := fun {kk kx} => cJT_ret r1 (by omega)
  have h00 : runP MP d 293 (0, [some (.ref 217), some (.int (zI 32)), some (.int (zI p)), some (.int (zI q)), none, none, none, none, none, none], [], mk E F G) = runP MP d 293 (18, [some (.ref 217), some (.int (zI 32)), some (.int (zI p)), some (.int (zI q)), some (.int (zI (kt : Int))), some (.int (zI (kl : Int))), some (.int (zI 32)), none, none, none], [], mk E F G) := by
    have h0 : runP MP d 293 (0, [some (.ref 217), some (.int (zI 32)), some (.int (zI p)), some (.int (zI q)), none, none, none, none, none, none], [], mk E F G) = runP MP d 293 (18, [some (.ref 217), some (.int (zI 32)), some (.int (zI p)), some (.int (zI q)), some (.int (zI (sumN (fun v : Nat => tk (v : Int)) 0))), some (.int (zI (kl : Int))), some (.int (zI ((0 : Nat) : Int))), none, none, none], [], mk E F G) := by
      rw [show sumN (fun v : Nat => tk (v : Int)) 0 = 0 from rfl, show ((0 : Nat) : Int) = 0 from rfl]
      rw [q_293_0]; (try simp only [↓n_rd, ↓n_al, ↓n_cJ, li_0, li_1, li_12, li_32, lj_0, lj_1, lj_12, zJ_add, zJ_sub, zJ_mul, zJ_neg, zJ_l2i, zI_add, zI_sub, zI_mul, zI_neg, ↓Option.bind_some]); simp (disch := (first | assumption | exact tI_rg _ | omega | exact uR_at | exact row_ne hF (by decide) | exact row_ne (row_ne hF (by decide)) (by decide) | exact SnS_18 | exact SnS_30 | exact LdS_44 | exact LdS_46)) only [h35, ↓n_rd, ↓n_al, ↓n_cJ, li_0, li_1, li_12, li_32, lj_0, lj_1, lj_12, zJ_add, zJ_sub, zJ_mul, zJ_neg, zJ_l2i, tJ_zJ, zI_add, zI_sub, zI_mul, zI_neg, ↓Option.bind_some, ↓g12_32, ↓g12_33, ↓g12_35, ↓p12_35, ↓al_233, ↓as_233, ↓al_234, ↓as_234, zIt2, uR_at, uR_ne, uR_uR, uC_uC, uC_at, ↓reduceIte, decide_eq_true_eq, leT, leF, ltT, ltF, eqT, eqF, ne_eq, not_true_eq_false, not_false_eq_true, Bool.false_eq_true, tI_zI]
    rw [h0, ekt]
    refine (loopN (fun j : Nat => runP MP d 293 (18, [some (.ref 217), some (.int (zI 32)), some (.int (zI p)), some (.int (zI q)), some (.int (zI (sumN (fun v : Nat => tk (v : Int)) (j)))), some (.int (zI (kl : Int))), some (.int (zI (j : Nat))), none, none, none], [], mk E F G)) (32) (fun j hj => ?_)).trans ?_
    · show runP MP d 293 (18, [some (.ref 217), some (.int (zI 32)), some (.int (zI p)), some (.int (zI q)), some (.int (zI (sumN (fun v : Nat => tk (v : Int)) (j)))), some (.int (zI (kl : Int))), some (.int (zI (j : Nat))), none, none, none], [], mk E F G) = runP MP d 293 (18, [some (.ref 217), some (.int (zI 32)), some (.int (zI p)), some (.int (zI q)), some (.int (zI (sumN (fun v : Nat => tk (v : Int)) ((j + 1))))), some (.int (zI (kl : Int))), some (.int (zI ((j + 1) : Nat))), none, none, none], [], mk E F G)
      have ht : tI (F 234 (j : Int)) = tk (j : Int) := by rw [h234 j (by omega) (by omega), tI_zI (by have := htk (j : Int); omega)]
      rw [nsucc, sumN_s]
      rw [q_293_18]; (try simp only [↓n_rd, ↓n_al, ↓n_cJ, li_0, li_1, li_12, li_32, lj_0, lj_1, lj_12, zJ_add, zJ_sub, zJ_mul, zJ_neg, zJ_l2i, zI_add, zI_sub, zI_mul, zI_neg, ↓Option.bind_some]); simp (disch := (first | assumption | exact tI_rg _ | omega | exact uR_at | exact row_ne hF (by decide) | exact row_ne (row_ne hF (by decide)) (by decide) | exact SnS_18 | exact SnS_30 | exact LdS_44 | exact LdS_46)) only [q_293_0, ↓al_234, ht, ↓n_rd, ↓n_al, ↓n_cJ, li_0, li_1, li_12, li_32, lj_0, lj_1, lj_12, zJ_add, zJ_sub, zJ_mul, zJ_neg, zJ_l2i, tJ_zJ, zI_add, zI_sub, zI_mul, zI_neg, ↓Option.bind_some, ↓g12_32, ↓g12_33, ↓g12_35, ↓p12_35, ↓al_233, ↓as_233, ↓al_234, ↓as_234, zIt2, uR_at, uR_ne, uR_uR, uC_uC, uC_at, ↓reduceIte, decide_eq_true_eq, leT, leF, ltT, ltF, eqT, eqF, ne_eq, not_true_eq_false, not_false_eq_true, Bool.false_eq_true, tI_zI]
    · show runP MP d 293 (18, [some (.ref 217), some (.int (zI 32)), some (.int (zI p)), some (.int (zI q)), some (.int (zI (sumN (fun v : Nat => tk (v : Int)) ((32))))), some (.int (zI (kl : Int))), some (.int (zI ((32) : Nat))), none, none, none], [], mk E F G) = _
      rfl

  rw [h00, hPT]
  by_cases c : NMz K kl q lf = 0
  · refine ⟨F1, G1, ?_, fun x a1 a2 a3 a4 => r2.1 x a1 a2 a4, s2, f234, r2.2.1, by rw [s3, h35], r2.2.2.1⟩
    rw [c, Int.mul_zero]
    have c287q' := fun {kk : Int → HeapP → ResP} {kx : Nat → HeapP → ResP} => c287q (kk := kk) (kx := kx)
    rw [c] at c287q'
    rw [q_293_18]; (try simp only [↓n_rd, ↓n_al, ↓n_cJ, li_0, li_1, li_12, li_32, lj_0, lj_1, lj_12, zJ_add, zJ_sub, zJ_mul, zJ_neg, zJ_l2i, zI_add, zI_sub, zI_mul, zI_neg, ↓Option.bind_some]); simp (disch := (first | assumption | exact tI_rg _ | omega | exact uR_at | exact row_ne hF (by decide) | exact row_ne (row_ne hF (by decide)) (by decide) | exact SnS_18 | exact SnS_30 | exact LdS_44 | exact LdS_46)) only [q_293_0, lj_m1, ↓n_cJ, ↓c287q', cmpJ_eq, ↓n_rd, ↓n_al, ↓n_cJ, li_0, li_1, li_12, li_32, lj_0, lj_1, lj_12, zJ_add, zJ_sub, zJ_mul, zJ_neg, zJ_l2i, tJ_zJ, zI_add, zI_sub, zI_mul, zI_neg, ↓Option.bind_some, ↓g12_32, ↓g12_33, ↓g12_35, ↓p12_35, ↓al_233, ↓as_233, ↓al_234, ↓as_234, zIt2, uR_at, uR_ne, uR_uR, uC_uC, uC_at, ↓reduceIte, decide_eq_true_eq, leT, leF, ltT, ltF, eqT, eqF, ne_eq, not_true_eq_false, not_false_eq_true, Bool.false_eq_true, tI_zI]
  · obtain ⟨F3, hF3⟩ : ∃ F3, F3 = uR (exR F1 32) 217 (uC (F1 217) 35 (zI (kt : Int))) := ⟨_, rfl⟩
    have g233 : F3 233 = xcN (F 233) (F 234) 32 := by rw [hF3, uR_ne (by decide), ex_233, s2, f234]
    have g234 : F3 234 = xcN (F 234) (F 233) 32 := by rw [hF3, uR_ne (by decide), ex_234, s2, f234]
    have g218 : F3 218 = K := by rw [hF3, uR_ne (by decide), ex_ne (by decide) (by decide)]; exact r3
    have g217 : F3 217 = uC (F1 217) 35 (zI (kt : Int)) := by rw [hF3, uR_at]
    obtain ⟨F4, G4, p1, p2, p3, p4, -⟩ := ct_287 (d := d) (E := E) (F := F3) (G := G1) (lf := tk) (k := kt) (u := p) (wt := -1) hI g218 (fun v h1 h2 => by rw [g233, xcN_in (by omega)]; exact h234 v h1 h2) (by rw [g217, uC_at, tI_zI (by omega)]) htk (by omega) hp (by omega) (by omega)
    rw [if_neg (by omega)] at p1
    obtain ⟨t1, t2, t3, -, -, -⟩ := p4 (by omega)
    have k234 : F4 234 = F3 234 := p2.1 234 (by decide) (by decide) (by decide)
    refine ⟨uR (exR F4 32) 217 (uC (F4 217) 35 (zI (kl : Int))), G4, ?_, fun x a1 a2 a3 a4 => ?_, ?_, ?_, fun j a1 a2 => ?_, ?_, fun x a1 => ?_⟩
    · have c294a : ∀ {kk : HeapP → ResP} {kx : Nat → HeapP → ResP}, cV (callP MP d 294 [.ref 217] (mk E F1 G1)) kk kx = kk (mk E (exR F1 32) G1) := fun {kk kx} => cc_294 (by omega)
      have c294b : ∀ {kk : HeapP → ResP} {kx : Nat → HeapP → ResP}, cV (callP MP d 294 [.ref 217] (mk E F4 G4)) kk kx = kk (mk E (exR F4 32) G4) := fun {kk kx} => cc_294 (by omega)
      have e217a : exR F1 32 217 = F1 217 := ex_ne (by decide) (by decide)
      have e217b : exR F4 32 217 = F4 217 := ex_ne (by decide) (by decide)
      have c287p : ∀ {kk : Int → HeapP → ResP} {kx : Nat → HeapP → ResP}, cJT (callP MP d 287 [.ref 217, .int (zI p), .long (zJ (-1))] (mk E (uR (exR F1 32) 217 (uC (F1 217) 35 (zI (kt : Int)))) G1)) kk kx = kk (NMz K kt p tk) (mk E F4 G4) := fun {kk kx} => by rw [← hF3]; exact cJT_ret p1 (by omega)
      rw [q_293_18]; (try simp only [↓n_rd, ↓n_al, ↓n_cJ, li_0, li_1, li_12, li_32, lj_0, lj_1, lj_12, zJ_add, zJ_sub, zJ_mul, zJ_neg, zJ_l2i, zI_add, zI_sub, zI_mul, zI_neg, ↓Option.bind_some]); simp (disch := (first | assumption | exact tI_rg _ | omega | exact uR_at | exact row_ne hF (by decide) | exact row_ne (row_ne hF (by decide)) (by decide) | exact SnS_18 | exact SnS_30 | exact LdS_44 | exact LdS_46)) only [q_293_0, lj_m1, ↓n_cJ, ↓c287q, cmpJ_eq, c, ↓c294a, e217a, ↓c287p, ↓c294b, e217b, ↓n_rd, ↓n_al, ↓n_cJ, li_0, li_1, li_12, li_32, lj_0, lj_1, lj_12, zJ_add, zJ_sub, zJ_mul, zJ_neg, zJ_l2i, tJ_zJ, zI_add, zI_sub, zI_mul, zI_neg, ↓Option.bind_some, ↓g12_32, ↓g12_33, ↓g12_35, ↓p12_35, ↓al_233, ↓as_233, ↓al_234, ↓as_234, zIt2, uR_at, uR_ne, uR_uR, uC_uC, uC_at, ↓reduceIte, decide_eq_true_eq, leT, leF, ltT, ltF, eqT, eqF, ne_eq, not_true_eq_false, not_false_eq_true, Bool.false_eq_true, tI_zI]
    · rw [uR_ne a1, ex_ne a2 a3, p2.1 x a1 a2 a4, hF3, uR_ne a1, ex_ne a2 a3]; exact r2.1 x a1 a2 a4
    · rw [uR_ne (by decide), ex_233, t2, k234, g233, g234, xcN_sw]
    · rw [uR_ne (by decide), ex_234, t2, k234, g233, g234, xcN_sw]
    · rw [uR_at, uC_ne (by omega), p2.2.1 j a1 a2, g217, uC_ne (by omega)]; exact r2.2.1 j a1 a2
    · rw [uR_at, uC_at, tI_zI (by omega), h35]
    · exact (p2.2.2.1 x a1).trans (r2.2.2.1 x a1)
end S94zzzzq
