/-! MODEL: rows, the search -/
section S94zzzzm
set_option linter.unusedVariables false
set_option linter.unusedSimpArgs false
/-- what the search tells behind all of a place -/
def RgP (F : Nat → Int → Int32) (G : Nat → Int → Int64) (F1 : Nat → Int → Int32) (G1 : Nat → Int → Int64) (K : Int → Int32) (lf : Int → Int) (k dp : Nat) (u l f wt f0 : Int) (hF hL : Int → Int) : Prop := KpQ F G F1 G1 dp u ∧
  ((¬ (f ≤ wt ∧ wt < f + NMz K k u lf) → RgS F1 G1 K lf k dp (f + NMz K k u lf) wt (fun v => hF v + HFz K k dp u lf f0 v) (fun v => hL v + NLM K k u lf l v) ∧ F1 233 = F 233) ∧ (f ≤ wt ∧ wt < f + NMz K k u lf → tI (F1 217 41) = 1 ∧ tJ (G1 217 39) = wt + 1 ∧ ∀ i : Nat, i ≤ k → tI (F1 235 ((dp + i : Nat) : Int)) = RMz K k u lf (wt - f) i))
def hPF (K : Int → Int32) (k dp : Nat) (u : Int) (lf : Int → Int) (f0 : Int) (j : Nat) (v : Int) : Int := sumN (fun q => if mayQ K u lf q then HFz K k (dp + 1) (q : Int) (dcW lf (wayZ K u q)) (if dp = 0 then wayZ K u q else f0) v else 0) j
def hPL (K : Int → Int32) (k : Nat) (u : Int) (lf : Int → Int) (j : Nat) (v : Int) : Int := sumN (fun q => if mayQ K u lf q then NLM K k (q : Int) (dcW lf (wayZ K u q)) (wayZ K u q) v else 0) j
def RgL (F : Nat → Int → Int32) (G : Nat → Int → Int64) (F1 : Nat → Int → Int32) (G1 : Nat → Int → Int64) (K : Int → Int32) (lf : Int → Int) (k dp : Nat) (u f wt f0 : Int) (hF hL : Int → Int) (j : Nat) : Prop := RgS F1 G1 K lf (k + 1) dp (f + sumN (ctM K k u lf) j) wt (fun v => hF v + hPF K k dp u lf f0 j v) (fun v => hL v + hPL K k u lf j v) ∧ F1 233 = F 233 ∧ KpQ F G F1 G1 dp u ∧ ¬ (f ≤ wt ∧ wt < f + sumN (ctM K k u lf) j)
theorem KpQ.tr {F F1 F2 : Nat → Int → Int32} {G G1 G2 : Nat → Int → Int64} {dp u u' dp' : Int} (h : KpQ F G F1 G1 dp u) (k : KpQ F1 G1 F2 G2 dp' u') (hd : dp < dp') : KpQ F G F2 G2 dp u := by
  obtain ⟨a1, a2, a3, a4, a5, a6⟩ := h
  obtain ⟨b1, b2, b3, b4, b5, b6⟩ := k
  exact ⟨fun q x y z => (b1 q x y z).trans (a1 q x y z), fun j x y => (b2 j x y).trans (a2 j x y), fun q x => (b3 q x).trans (a3 q x), fun j x => (b4 j x).trans (a4 j x), fun j x => (b5 j (by omega)).trans (a5 j x), by rw [b5 dp hd]; exact a6⟩
theorem rg_turn {e : Nat} {E : EnQ} {F F1 : Nat → Int → Int32} {G G1 : Nat → Int → Int64} {K : Int → Int32} {lf : Int → Int} {k dp j : Nat} {u l f wt f0 : Int} {hF hL : Int → Int} {z4 : Option Value} (hI : InvK K) (hu : 0 ≤ u ∧ u < tI (K 1)) (hlf : ∀ v, 0 ≤ lf v ∧ lf v ≤ 100) (hdp : dp + (k + 1) ≤ 14) (hf2 : 0 ≤ f ∧ f + pwT 10 (k + 1) ≤ 1000000000000000) (hf0 : (dp = 1 → wayZ K (tI (F 235 0)) u = f0) ∧ (2 ≤ dp → wayZ K (tI (F 235 0)) (tI (F 235 1)) = f0)) (hj : (j : Int) < tI (K 1)) (hd : 4 ≤ e)
    (ih : ∀ (u' l' : Int) (lf' : Int → Int) (f0' f' : Int) (F2 : Nat → Int → Int32) (G2 : Nat → Int → Int64) (hF' hL' : Int → Int), 0 ≤ u' ∧ u' < tI (K 1) → (-1 ≤ l' ∧ l' < 32) → (∀ v, 0 ≤ lf' v ∧ lf' v ≤ 100) → (0 ≤ f' ∧ f' + pwT 10 k ≤ 1000000000000000) → RgS F2 G2 K lf' k (dp + 1) f' wt hF' hL' → ((dp + 1 = 1 → wayZ K (tI (F2 235 0)) u' = f0') ∧ (2 ≤ dp + 1 → wayZ K (tI (F2 235 0)) (tI (F2 235 1)) = f0')) → ∃ F3 G3, callP MP e 288 [.ref 217, .int (zI u'), .int (zI l')] (mk E F2 G2) = some (Sum.inl none, mk E F3 G3) ∧ RgP F2 G2 F3 G3 K lf' k (dp + 1) u' l' f' wt f0' hF' hL')
    (hL1 : RgL F G F1 G1 K lf k dp u f wt f0 hF hL j) :
    (∃ F3 G3, runP MP e 288 (131, [some (.ref 217), some (.int (zI u)), some (.int (zI l)), some (.int (zI (j : Int))), z4], [], mk E F1 G1) = some (Sum.inl none, mk E F3 G3) ∧ RgP F G F3 G3 K lf (k + 1) dp u l f wt f0 hF hL) ∨
    ∃ F3 G3 y4, runP MP e 288 (131, [some (.ref 217), some (.int (zI u)), some (.int (zI l)), some (.int (zI (j : Int))), z4], [], mk E F1 G1) = runP MP e 288 (131, [some (.ref 217), some (.int (zI u)), some (.int (zI l)), some (.int (zI ((j + 1 : Nat) : Int))), y4], [], mk E F3 G3) ∧ RgL F G F3 G3 K lf k dp u f wt f0 hF hL (j + 1) := by
  have hL2 := hL1
  obtain ⟨⟨h1, h2, h3, h4, h5, h6, h7, h8, h9⟩, i2, i3, i4⟩ := hL1
  have hb2 := hI.1.2.2.1
  have hb1 := hI.1.2.1
  have c214 : ∀ {kk : Int → HeapP → ResP} {kx : Nat → HeapP → ResP}, cT (callP MP e 214 [.ref 217] (mk E F1 G1)) kk kx = kk (tI (K 1)) (mk E F1 G1) := fun {kk kx} => by rw [cc_214 hI h1 (by omega)]
  have c229 : ∀ {kk : Int → HeapP → ResP} {kx : Nat → HeapP → ResP}, cT (callP MP e 229 [.ref 217, .int (zI u), .int (zI (j : Int))] (mk E F1 G1)) kk kx = kk (wayZ K u j) (mk E F1 G1) := fun {kk kx} => by rw [cc_229 hI h1 (by omega) (by omega) (by omega)]
  have hwl := wayZ_lo hb2 u j
  have skip : ¬ mayQ K u lf j → RgL F G F1 G1 K lf k dp u f wt f0 hF hL (j + 1) := fun hm => by
    have e1 : sumN (ctM K k u lf) (j + 1) = sumN (ctM K k u lf) j := by rw [sumN_s, show ctM K k u lf j = 0 from if_neg hm]; omega
    have e2 : ∀ v, hPF K k dp u lf f0 (j + 1) v = hPF K k dp u lf f0 j v := fun v => by unfold hPF; rw [sumN_s, if_neg hm]; omega
    have e3 : ∀ v, hPL K k u lf (j + 1) v = hPL K k u lf j v := fun v => by unfold hPL; rw [sumN_s, if_neg hm]; omega
    unfold RgL
    rw [e1, show hPF K k dp u lf f0 (j + 1) = hPF K k dp u lf f0 j from funext e2, show hPL K k u lf (j + 1) = hPL K k u lf j from funext e3]
    exact hL2
  by_cases cw : wayZ K u j = -1
  · right
    refine ⟨F1, G1, some (.int (zI (-1))), ?_, skip (fun z => wyB_t.mp z.1 cw)⟩
    rw [cw] at c229
    rw [nsucc]
    rw [q_288_131]; (try simp only [↓n_rd, ↓n_rdJ, ↓n_al, ↓n_cI, li_0, li_1, li_12, li_32, li_38, li_63, lj_0, lj_1, lj_12, zJ_add, zJ_sub, zJ_mul, zJ_neg, zJ_l2i, zI_add, zI_sub, zI_mul, zI_neg, ↓Option.bind_some]); simp (disch := (first | assumption | exact tI_rg _ | omega | exact uR_at | exact row_ne hF (by decide) | exact row_ne (row_ne hF (by decide)) (by decide) | exact SnS_18 | exact SnS_30 | exact LdS_44 | exact LdS_46)) only [q_288_0, q_288_44, q_288_63, q_288_68, q_288_89, q_288_94, q_288_115, q_288_243, ↓c214, ↓c229, ↓n_rd, ↓n_rdJ, ↓n_al, ↓n_cI, li_0, li_1, li_12, li_32, li_38, li_63, lj_0, lj_1, lj_12, zJ_add, zJ_sub, zJ_mul, zJ_neg, zJ_l2i, tJ_zJ, zI_add, zI_sub, zI_mul, zI_neg, ↓Option.bind_some, ↓g12_32, ↓g12_34, ↓g12_35, ↓g12_36, ↓g12_37, ↓g12_38, ↓g12_39, ↓g12_40, ↓g12_41, ↓p12_35, ↓p12_36, ↓p12_37, ↓p12_38, ↓p12_39, ↓pz12_41, ↓al_233, ↓as_233, ↓al_235, ↓as_235, zIt2, uR_at, uR_ne, uR_uR, uC_uC, uC_at, ↓reduceIte, decide_eq_true_eq, leT, leF, ltT, ltF, eqT, eqF, ne_eq, not_true_eq_false, not_false_eq_true, Bool.false_eq_true, tI_zI]
  · obtain ⟨w, hw⟩ : ∃ w, w = wayZ K u j := ⟨_, rfl⟩
    rw [← hw] at cw c229 hwl
    have hw31 : 0 ≤ w ∧ w < 32 := by have := (wayZ_ends hI (a := u) (b := (j : Int)) (by rw [← hw]; exact cw)).1; rw [← hw] at this; omega
    have hlw := hlf w
    have erw : tI (F1 233 w) = lf w := by rw [h2 w hw31.1 hw31.2, tI_zI (by omega)]
    by_cases cl : lf w = 0
    · right
      refine ⟨F1, G1, some (.int (zI w)), ?_, skip (fun z => by have := z.2; rw [← hw] at this; omega)⟩
      rw [nsucc]
      rw [q_288_131]; (try simp only [↓n_rd, ↓n_rdJ, ↓n_al, ↓n_cI, li_0, li_1, li_12, li_32, li_38, li_63, lj_0, lj_1, lj_12, zJ_add, zJ_sub, zJ_mul, zJ_neg, zJ_l2i, zI_add, zI_sub, zI_mul, zI_neg, ↓Option.bind_some]); simp (disch := (first | assumption | exact tI_rg _ | omega | exact uR_at | exact row_ne hF (by decide) | exact row_ne (row_ne hF (by decide)) (by decide) | exact SnS_18 | exact SnS_30 | exact LdS_44 | exact LdS_46)) only [q_288_0, q_288_44, q_288_63, q_288_68, q_288_89, q_288_94, q_288_115, q_288_243, ↓c214, ↓c229, ↓al_233, erw, cl, ↓n_rd, ↓n_rdJ, ↓n_al, ↓n_cI, li_0, li_1, li_12, li_32, li_38, li_63, lj_0, lj_1, lj_12, zJ_add, zJ_sub, zJ_mul, zJ_neg, zJ_l2i, tJ_zJ, zI_add, zI_sub, zI_mul, zI_neg, ↓Option.bind_some, ↓g12_32, ↓g12_34, ↓g12_35, ↓g12_36, ↓g12_37, ↓g12_38, ↓g12_39, ↓g12_40, ↓g12_41, ↓p12_35, ↓p12_36, ↓p12_37, ↓p12_38, ↓p12_39, ↓pz12_41, ↓al_233, ↓as_233, ↓al_235, ↓as_235, zIt2, uR_at, uR_ne, uR_uR, uC_uC, uC_at, ↓reduceIte, decide_eq_true_eq, leT, leF, ltT, ltF, eqT, eqF, ne_eq, not_true_eq_false, not_false_eq_true, Bool.false_eq_true, tI_zI]
    · have hm : mayQ K u lf j := ⟨wyB_t.mpr (by rw [← hw]; exact cw), by rw [← hw]; omega⟩
      obtain ⟨F2, hF2⟩ : ∃ F2, F2 = uR (uR F1 233 (uC (F1 233) w (zI (lf w - 1)))) 217 (uC (uC (F1 217) 35 (zI (k : Int))) 36 (zI ((dp : Int) + 1))) := ⟨_, rfl⟩
      have o233 : F2 233 = uC (F1 233) w (zI (lf w - 1)) := by rw [hF2, uR_ne (by decide), uR_at]
      have o217 : F2 217 = uC (uC (F1 217) 35 (zI (k : Int))) 36 (zI ((dp : Int) + 1)) := by rw [hF2, uR_at]
      have oq : ∀ q, q ≠ 217 → q ≠ 233 → F2 q = F1 q := fun q a1 a2 => by rw [hF2, uR_ne a1, uR_ne a2]
      have hcn : ctM K k u lf j = NMz K k (j : Int) (dcW lf w) := by unfold ctM; rw [if_pos hm, ← hw]
      have hsum0 := sumN_nneg (f := ctM K k u lf) (n := j) (fun q _ => ctM_nn)
      have hsumb := sumN_bd (f := ctM K k u lf) (n := j) (b := pwT 10 k) (fun q _ => ctM_bd hb1.2)
      have hpk := pwT_pos (b := 10) (by omega) k
      have hpow : pwT 10 (k + 1) = 10 * pwT 10 k := rfl
      have hj9 := Int.mul_le_mul_of_nonneg_right (show (j : Int) ≤ 9 by omega) (show 0 ≤ pwT 10 k by omega)
      have R2 : RgS F2 G1 K (dcW lf w) k (dp + 1) (f + sumN (ctM K k u lf) j) wt (fun v => hF v + hPF K k dp u lf f0 j v) (fun v => hL v + hPL K k u lf j v) := by
        refine ⟨?_, fun v hv1 hv2 => ?_, ?_, ?_, ?_, h6, h7, ?_, ?_⟩
        · rw [oq 218 (by decide) (by decide)]; exact h1
        · rw [o233]
          by_cases z : v = w
          · rw [z, uC_at, dcW_at]
          · rw [uC_ne z, dcW_ne z]; exact h2 v hv1 hv2
        · rw [o217, uC_ne (by decide), uC_at, tI_zI (by omega)]
        · rw [o217, uC_at, tI_zI (by omega)]; rfl
        · rw [o217, uC_ne (by decide), uC_ne (by decide)]; exact h5
        · rw [o217, uC_ne (by decide), uC_ne (by decide)]; exact h8
        · rw [o217, uC_ne (by decide), uC_ne (by decide)]; exact h9
      have hlf' : ∀ v, 0 ≤ dcW lf w v ∧ dcW lf w v ≤ 100 := fun v => by
        have := hlf v
        unfold dcW
        split
        · rename_i z; rw [z] at this ⊢; omega
        · exact this
      obtain ⟨f0', hf0'⟩ : ∃ f0', f0' = if dp = 0 then wayZ K u j else f0 := ⟨_, rfl⟩
      have hfst : (dp + 1 = 1 → wayZ K (tI (F2 235 0)) (j : Int) = f0') ∧ (2 ≤ dp + 1 → wayZ K (tI (F2 235 0)) (tI (F2 235 1)) = f0') := by
        rw [oq 235 (by decide) (by decide), hf0']
        constructor
        · intro z
          have z0 : dp = 0 := by omega
          have := i3.2.2.2.2.2
          rw [z0] at this
          have this : tI (F1 235 0) = u := this
          rw [if_pos z0, this]
        · intro z
          rw [if_neg (by omega), i3.2.2.2.2.1 0 (by omega)]
          by_cases z1 : dp = 1
          · have := i3.2.2.2.2.2
            rw [z1] at this
            have this : tI (F1 235 1) = u := this
            rw [this]; exact hf0.1 z1
          · rw [i3.2.2.2.2.1 1 (by omega)]; exact hf0.2 (by omega)
      obtain ⟨F3, G3, r1, r2, r3, r4⟩ := ih (j : Int) w (dcW lf w) f0' (f + sumN (ctM K k u lf) j) F2 G1 _ _ (by omega) (by omega) hlf' (by omega) R2 hfst
      rw [← hcn] at r3 r4
      have c288 : ∀ {kk : HeapP → ResP} {kx : Nat → HeapP → ResP}, cV (callP MP e 288 [.ref 217, .int (zI (j : Int)), .int (zI w)] (mk E F2 G1)) kk kx = kk (mk E F3 G3) := fun {kk kx} => cV_ret r1
      have k2 : KpQ F1 G1 F2 G1 dp u := ⟨fun q a1 a2 a3 => oq q a1 a2, fun x a1 a2 => by rw [o217, uC_ne (by omega), uC_ne (by omega)], fun _ _ => rfl, fun _ _ => rfl, fun x _ => by rw [oq 235 (by decide) (by decide)], by rw [oq 235 (by decide) (by decide)]; exact i3.2.2.2.2.2⟩
      have k3 : KpQ F G F3 G3 dp u := by
        have a : KpQ F G F2 G1 dp u := ⟨fun q x y z => (k2.1 q x y z).trans (i3.1 q x y z), fun q x y => (k2.2.1 q x y).trans (i3.2.1 q x y), i3.2.2.1, i3.2.2.2.1, fun q x => (k2.2.2.2.2.1 q x).trans (i3.2.2.2.2.1 q x), k2.2.2.2.2.2⟩
        exact a.tr r2 (by omega)
      have hpre : ∀ {X : ResP}, (runP MP e 288 (131, [some (.ref 217), some (.int (zI u)), some (.int (zI l)), some (.int (zI (j : Int))), z4], [], mk E F1 G1) = ((rdI (mk E F3 G3) 12 217 41).bind fun q15 => (if decide (q15 = 0) = true then ((rdI (mk E F3 G3) 12 217 36).bind fun q16 => ((wrV (mk E F3 G3) 12 217 36 (.int (q16 - 1))).bind fun h17 => ((rdI h17 12 217 35).bind fun q18 => ((wrV h17 12 217 35 (.int (q18 + 1))).bind fun h19 => ((rdA h19 12 217 32).bind fun q20 => ((aldI h19 0 q20 (zI w)).bind fun q21 => ((astI h19 0 q20 (zI w) (q21 + 1)).bind fun h22 => runP MP e 288 (243, [some (.ref 217), some (.int (zI u)), some (.int (zI l)), some (.int (zI (j : Int))), some (.int (zI w))], [], h22)))))))) else some (Sum.inl none, mk E F3 G3)))) → True := fun _ => trivial
      have ek : ((k + 1 : Nat) : Int) - 1 = (k : Int) := by omega
      have erw2 : ¬ lf w = 0 := cl
      by_cases cs : f + sumN (ctM K k u lf) j ≤ wt ∧ wt < f + sumN (ctM K k u lf) j + ctM K k u lf j
      · left
        obtain ⟨s1, s2, s3⟩ := r4 cs
        have hle := sumN_up (f := ctM K k u lf) (n := (tI (K 1)).toNat) (fun _ _ => ctM_nn) (j + 1) (by omega)
        rw [sumN_s] at hle
        have hmono : ∀ i, i < j → sumN (ctM K k u lf) (i + 1) ≤ sumN (ctM K k u lf) j := fun i hi => sumN_up (f := ctM K k u lf) (n := j) (fun _ _ => ctM_nn) (i + 1) (by omega)
        refine ⟨F3, G3, ?_, k3, fun z => absurd ⟨by omega, by rw [NMz_s]; omega⟩ z, fun _ => ⟨s1, s2, fun i hi => ?_⟩⟩
        · have h35 : tI (uC (F1 217) 35 (zI (k : Int)) 36) = (dp : Int) := by rw [uC_ne (by decide)]; exact h4
          have hw2 : mk E (uR (uR F1 233 (uC (F1 233) w (zI (lf w - 1)))) 217 (uC (uC (F1 217) 35 (zI (k : Int))) 36 (zI ((dp : Int) + 1)))) G1 = mk E F2 G1 := by rw [hF2]
          rw [q_288_131]; (try simp only [↓n_rd, ↓n_rdJ, ↓n_al, ↓n_cI, li_0, li_1, li_12, li_32, li_38, li_63, lj_0, lj_1, lj_12, zJ_add, zJ_sub, zJ_mul, zJ_neg, zJ_l2i, zI_add, zI_sub, zI_mul, zI_neg, ↓Option.bind_some]); simp (disch := (first | assumption | exact tI_rg _ | omega | exact uR_at | exact row_ne hF (by decide) | exact row_ne (row_ne hF (by decide)) (by decide) | exact SnS_18 | exact SnS_30 | exact LdS_44 | exact LdS_46)) only [q_288_0, q_288_44, q_288_63, q_288_68, q_288_89, q_288_94, q_288_115, ↓c214, ↓c229, ↓al_233, ↓as_233, erw, erw2, h3, ek, h35, hw2, ↓c288, s1, ↓n_rd, ↓n_rdJ, ↓n_al, ↓n_cI, li_0, li_1, li_12, li_32, li_38, li_63, lj_0, lj_1, lj_12, zJ_add, zJ_sub, zJ_mul, zJ_neg, zJ_l2i, tJ_zJ, zI_add, zI_sub, zI_mul, zI_neg, ↓Option.bind_some, ↓g12_32, ↓g12_34, ↓g12_35, ↓g12_36, ↓g12_37, ↓g12_38, ↓g12_39, ↓g12_40, ↓g12_41, ↓p12_35, ↓p12_36, ↓p12_37, ↓p12_38, ↓p12_39, ↓pz12_41, ↓al_233, ↓as_233, ↓al_235, ↓as_235, zIt2, uR_at, uR_ne, uR_uR, uC_uC, uC_at, ↓reduceIte, decide_eq_true_eq, leT, leF, ltT, ltF, eqT, eqF, ne_eq, not_true_eq_false, not_false_eq_true, Bool.false_eq_true, tI_zI]
        · cases i with
          | zero =>
            show tI (F3 235 (dp : Int)) = u
            exact k3.2.2.2.2.2
          | succ i =>
            have s3i := s3 i (by omega)
            rw [show dp + 1 + i = dp + (i + 1) by omega] at s3i
            rw [s3i]
            have eq : fndN (fun q => decide (wt - f < sumN (ctM K k u lf) (q + 1))) (tI (K 1)).toNat 0 = (j : Int) := fndN_eq (Nat.zero_le _) (by omega) (decide_eq_true (by rw [sumN_s]; omega)) (fun i _ hi => decide_eq_false (by have := hmono i hi; omega))
            show _ = RMz K k (fndN (fun q => decide (wt - f < sumN (ctM K k u lf) (q + 1))) (tI (K 1)).toNat 0) (dcW lf (wayZ K u (fndN (fun q => decide (wt - f < sumN (ctM K k u lf) (q + 1))) (tI (K 1)).toNat 0))) (wt - f - sumN (ctM K k u lf) (fndN (fun q => decide (wt - f < sumN (ctM K k u lf) (q + 1))) (tI (K 1)).toNat 0).toNat) i
            rw [eq, ← hw, show ((j : Nat) : Int).toNat = j by omega, show wt - (f + sumN (ctM K k u lf) j) = wt - f - sumN (ctM K k u lf) j by omega]
      · right
        obtain ⟨⟨s1, s2, s3, s4, s5, s6, s7, s8, s9⟩, t2⟩ := r3 cs
        have e233 : F3 233 w = zI (lf w - 1) := by rw [t2, o233, uC_at]
        have erw3 : tI (F3 233 w) + 1 = lf w := by rw [e233, tI_zI (by omega)]; omega
        have s4' : tI (F3 217 36) = ((dp + 1 : Nat) : Int) := s4
        have edp : ((dp + 1 : Nat) : Int) - 1 = (dp : Int) := by omega
        obtain ⟨F4, hF4⟩ : ∃ F4, F4 = uR (uR F3 217 (uC (uC (F3 217) 36 (zI (dp : Int))) 35 (zI ((k : Int) + 1)))) 233 (uC (F3 233) w (zI (lf w))) := ⟨_, rfl⟩
        have p233 : F4 233 = F 233 := by
          rw [hF4, uR_at, t2, o233, uC_uC, ← h2 w hw31.1 hw31.2, uC_self]; exact i2
        have p217 : F4 217 = uC (uC (F3 217) 36 (zI (dp : Int))) 35 (zI ((k : Int) + 1)) := by rw [hF4, uR_ne (by decide), uR_at]
        have pq : ∀ q, q ≠ 217 → q ≠ 233 → F4 q = F3 q := fun q a1 a2 => by rw [hF4, uR_ne a2, uR_ne a1]
        refine ⟨F4, G3, some (.int (zI w)), ?_, ⟨⟨?_, fun v hv1 hv2 => ?_, ?_, ?_, ?_, ?_, s7, ?_, ?_⟩, p233, ⟨fun q a1 a2 a3 => by rw [pq q a1 a2]; exact k3.1 q a1 a2 a3, fun x a1 a2 => by rw [p217, uC_ne (by omega), uC_ne (by omega)]; exact k3.2.1 x a1 a2, k3.2.2.1, k3.2.2.2.1, fun x a1 => by rw [pq 235 (by decide) (by decide)]; exact k3.2.2.2.2.1 x a1, by rw [pq 235 (by decide) (by decide)]; exact k3.2.2.2.2.2⟩, ?_⟩⟩
        · have h35 : tI (uC (F1 217) 35 (zI (k : Int)) 36) = (dp : Int) := by rw [uC_ne (by decide)]; exact h4
          have hw2 : mk E (uR (uR F1 233 (uC (F1 233) w (zI (lf w - 1)))) 217 (uC (uC (F1 217) 35 (zI (k : Int))) 36 (zI ((dp : Int) + 1)))) G1 = mk E F2 G1 := by rw [hF2]
          have s3' : tI (uC (F3 217) 36 (zI (dp : Int)) 35) = (k : Int) := by rw [uC_ne (by decide)]; exact s3
          rw [hF4, nsucc]
          rw [q_288_131]; (try simp only [↓n_rd, ↓n_rdJ, ↓n_al, ↓n_cI, li_0, li_1, li_12, li_32, li_38, li_63, lj_0, lj_1, lj_12, zJ_add, zJ_sub, zJ_mul, zJ_neg, zJ_l2i, zI_add, zI_sub, zI_mul, zI_neg, ↓Option.bind_some]); simp (disch := (first | assumption | exact tI_rg _ | omega | exact uR_at | exact row_ne hF (by decide) | exact row_ne (row_ne hF (by decide)) (by decide) | exact SnS_18 | exact SnS_30 | exact LdS_44 | exact LdS_46)) only [q_288_0, q_288_44, q_288_63, q_288_68, q_288_89, q_288_94, q_288_115, q_288_243, ↓c214, ↓c229, ↓al_233, ↓as_233, erw, erw2, h3, ek, h35, hw2, ↓c288, s5, s4', edp, s3', erw3, ↓n_rd, ↓n_rdJ, ↓n_al, ↓n_cI, li_0, li_1, li_12, li_32, li_38, li_63, lj_0, lj_1, lj_12, zJ_add, zJ_sub, zJ_mul, zJ_neg, zJ_l2i, tJ_zJ, zI_add, zI_sub, zI_mul, zI_neg, ↓Option.bind_some, ↓g12_32, ↓g12_34, ↓g12_35, ↓g12_36, ↓g12_37, ↓g12_38, ↓g12_39, ↓g12_40, ↓g12_41, ↓p12_35, ↓p12_36, ↓p12_37, ↓p12_38, ↓p12_39, ↓pz12_41, ↓al_233, ↓as_233, ↓al_235, ↓as_235, zIt2, uR_at, uR_ne, uR_uR, uC_uC, uC_at, ↓reduceIte, decide_eq_true_eq, leT, leF, ltT, ltF, eqT, eqF, ne_eq, not_true_eq_false, not_false_eq_true, Bool.false_eq_true, tI_zI]
        · rw [pq 218 (by decide) (by decide)]; exact s1
        · rw [p233, ← i2]; exact h2 v hv1 hv2
        · rw [p217, uC_at, tI_zI (by omega)]; rfl
        · rw [p217, uC_ne (by decide), uC_at, tI_zI (by omega)]
        · rw [p217, uC_ne (by decide), uC_ne (by decide)]; exact s5
        · rw [s6, sumN_s]; omega
        · rw [p217, uC_ne (by decide), uC_ne (by decide), sumN_s, ← Int.add_assoc]
          refine SuI_ext (fun v => ?_) s8
          show hF v + hPF K k dp u lf f0 j v + HFz K k (dp + 1) (j : Int) (dcW lf w) f0' v = hF v + hPF K k dp u lf f0 (j + 1) v
          unfold hPF
          rw [sumN_s, if_pos hm, ← hw, hf0', ← hw]; omega
        · rw [p217, uC_ne (by decide), uC_ne (by decide), sumN_s, ← Int.add_assoc]
          refine SuI_ext (fun v => ?_) s9
          show hL v + hPL K k u lf j v + NLM K k (j : Int) (dcW lf w) w v = hL v + hPL K k u lf (j + 1) v
          unfold hPL
          rw [sumN_s, if_pos hm, ← hw]; omega
        · rw [sumN_s]; omega
end S94zzzzm
