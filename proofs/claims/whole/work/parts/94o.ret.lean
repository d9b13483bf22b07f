/-! MODEL: going back -/
section S94o
set_option linter.unusedVariables false
set_option linter.unusedSimpArgs false
def rtB (K : Int → Int32) (x : Int) (k : Nat) : Bool := decide (rtO K k = x)
theorem rt_lists {d : Nat} {E : EnQ} {F : Nat → Int → Int32} {G : Nat → Int → Int64} {K : Int → Int32} (hI : InvK K) (hF : F 218 = K) {x : Int} (hx : -2147483648 ≤ x ∧ x ≤ 2147483647) (hd : 4 ≤ d + 1) : ∃ F1, runP MP d 263 (9, [some (.ref 217), some (.int (zI x)), some (.int (zI 0)), some (.int (zI (tI (K 5) - 1))), none, none], [], mk E F G) = runP MP d 263 (61, [some (.ref 217), some (.int (zI x)), some (.int (zI (cntN (rtB K x) (tI (K 5)).toNat))), some (.int (zI 0)), some (.int (zI 0)), none], [], mk E F1 G) ∧ (∀ b, b ≠ 225 → b ≠ 226 → F1 b = F b) ∧
    ∀ k : Nat, (k : Int) < tI (K 5) → rtO K k = x → F1 225 (cntN (rtB K x) k) = zI (fromZ K (rtW K k)) ∧ F1 226 (cntN (rtB K x) k) = zI (tI (K 5) - 1 - k) := by
  have hb5 := hI.1.2.2.2.2.2.1
  have hb4 := hI.1.2.2.2.2.1
  have hb3 := hI.1.2.2.2.1
  have h0 : runP MP d 263 (9, [some (.ref 217), some (.int (zI x)), some (.int (zI 0)), some (.int (zI (tI (K 5) - 1))), none, none], [], mk E F G) = runP MP d 263 (9, [some (.ref 217), some (.int (zI x)), some (.int (zI 0)), some (.int (zI (tI (K 5) - 1 - ((0 : Nat) : Int)))), none, none], [], mk E F G) := by
    rw [show tI (K 5) - 1 - ((0 : Nat) : Int) = tI (K 5) - 1 by omega]
  rw [h0]
  refine loopS (σ := Nat → Int → Int32) (Post := fun r => ∃ F1, r = runP MP d 263 (61, [some (.ref 217), some (.int (zI x)), some (.int (zI (cntN (rtB K x) (tI (K 5)).toNat))), some (.int (zI 0)), some (.int (zI 0)), none], [], mk E F1 G) ∧ (∀ b, b ≠ 225 → b ≠ 226 → F1 b = F b) ∧
      ∀ k : Nat, (k : Int) < tI (K 5) → rtO K k = x → F1 225 (cntN (rtB K x) k) = zI (fromZ K (rtW K k)) ∧ F1 226 (cntN (rtB K x) k) = zI (tI (K 5) - 1 - k))
    (fun m s => runP MP d 263 (9, [some (.ref 217), some (.int (zI x)), some (.int (zI (cntN (rtB K x) m))), some (.int (zI (tI (K 5) - 1 - (m : Int)))), none, none], [], mk E s G))
    (fun m s => (∀ b, b ≠ 225 → b ≠ 226 → s b = F b) ∧ ∀ k : Nat, k < m → rtO K k = x → s 225 (cntN (rtB K x) k) = zI (fromZ K (rtW K k)) ∧ s 226 (cntN (rtB K x) k) = zI (tI (K 5) - 1 - k))
    (tI (K 5)).toNat F ⟨fun _ _ _ => rfl, fun k hk => by omega⟩ (fun s hs => ?_) (fun m s hm hs => ?_)
  · refine ⟨s, ?_, hs.1, fun k hk => hs.2 k (by omega)⟩
    show runP MP d 263 _ = runP MP d 263 _
    rw [q_263_9]; (try simp only [↓n_al, ↓n_cI, li_0, li_1, li_9, li_12, li_20, li_210, zI_add, zI_sub, zI_mul, zI_neg, ↓Option.bind_some]); simp (disch := (first | assumption | exact tI_rg _ | omega | exact uR_at | exact row_ne hF (by decide) | exact row_ne (row_ne hF (by decide)) (by decide) | exact SnS_18 | exact SnS_30 | exact LdS_44 | exact LdS_46)) only [q_263_0, q_263_50, q_263_114, ↓n_al, ↓n_cI, li_0, li_1, li_9, li_12, li_20, li_210, zI_add, zI_sub, zI_mul, zI_neg, ↓Option.bind_some, ↓g12_21, ↓g12_20, ↓al_225, ↓as_225, ↓al_226, ↓as_226, zIt2, uR_at, uR_ne, uR_uR, uC_uC, uC_at, ↓reduceIte, decide_eq_true_eq, leT, leF, ltT, ltF, eqT, eqF, ne_eq, not_true_eq_false, not_false_eq_true, Bool.false_eq_true, tI_zI]
  · right
    obtain ⟨s1, s2⟩ := hs
    have hF : s 218 = K := (s1 218 (by decide) (by decide)).trans hF
    have hrt := hI.2.2.2.1 (tI (K 5) - 1 - m) (by omega) (by omega)
    have hb2 := hI.1.2.2.1
    have hO : prO K (tI (K 5) - 1 - m) = rtO K m := rfl
    have hW : prW K (tI (K 5) - 1 - m) = rtW K m := rfl
    rw [hO, hW] at hrt
    have hcn := cntN_rg (rtB K x) m
    by_cases g : rtO K m = x
    · refine ⟨uR (uR s 226 (uC (s 226) (cntN (rtB K x) m) (zI (tI (K 5) - 1 - m)))) 225 (uC (s 225) (cntN (rtB K x) m) (zI (fromZ K (rtW K m)))), ⟨fun b h1 h2 => by rw [uR_ne h1, uR_ne h2]; exact s1 b h1 h2, fun k hk ho => ?_⟩, ?_⟩
      · rw [uR_at, uR_ne (show (226 : Nat) ≠ 225 by decide), uR_at]
        by_cases e : k = m
        · rw [e, uC_at, uC_at]; exact ⟨rfl, rfl⟩
        · have hk2 : cntN (rtB K x) k + 1 ≤ cntN (rtB K x) m := by
            have := cnt_mono (p := rtB K x) (show k + 1 ≤ m by omega)
            rw [cntN_pos (decide_eq_true ho)] at this; exact this
          rw [uC_ne (by omega), uC_ne (by omega)]; exact s2 k (by omega) ho
      · show runP MP d 263 _ = runP MP d 263 _
        rw [cntN_pos (decide_eq_true g), nsucc, show tI (K 5) - 1 - ((m : Int) + 1) = tI (K 5) - 1 - m + -1 by omega]
        rw [q_263_9]; (try simp only [↓n_al, ↓n_cI, li_0, li_1, li_9, li_12, li_20, li_210, zI_add, zI_sub, zI_mul, zI_neg, ↓Option.bind_some]); simp (disch := (first | assumption | exact tI_rg _ | omega | exact uR_at | exact row_ne hF (by decide) | exact row_ne (row_ne hF (by decide)) (by decide) | exact SnS_18 | exact SnS_30 | exact LdS_44 | exact LdS_46)) only [q_263_0, q_263_50, q_263_114, ↓cc_221 hI, ↓cc_211 hI, ↓cc_216 hI, hO, hW, g, ↓n_al, ↓n_cI, li_0, li_1, li_9, li_12, li_20, li_210, zI_add, zI_sub, zI_mul, zI_neg, ↓Option.bind_some, ↓g12_21, ↓g12_20, ↓al_225, ↓as_225, ↓al_226, ↓as_226, zIt2, uR_at, uR_ne, uR_uR, uC_uC, uC_at, ↓reduceIte, decide_eq_true_eq, leT, leF, ltT, ltF, eqT, eqF, ne_eq, not_true_eq_false, not_false_eq_true, Bool.false_eq_true, tI_zI]
    · refine ⟨s, ⟨s1, fun k hk ho => s2 k (by have e : k ≠ m := fun e => g (e ▸ ho); omega) ho⟩, ?_⟩
      show runP MP d 263 _ = runP MP d 263 _
      rw [cntN_neg (by unfold rtB; rw [decide_eq_true_eq]; exact g), nsucc, show tI (K 5) - 1 - ((m : Int) + 1) = tI (K 5) - 1 - m + -1 by omega]
      rw [q_263_9]; (try simp only [↓n_al, ↓n_cI, li_0, li_1, li_9, li_12, li_20, li_210, zI_add, zI_sub, zI_mul, zI_neg, ↓Option.bind_some]); simp (disch := (first | assumption | exact tI_rg _ | omega | exact uR_at | exact row_ne hF (by decide) | exact row_ne (row_ne hF (by decide)) (by decide) | exact SnS_18 | exact SnS_30 | exact LdS_44 | exact LdS_46)) only [q_263_0, q_263_50, q_263_114, ↓cc_221 hI, hO, g, ↓n_al, ↓n_cI, li_0, li_1, li_9, li_12, li_20, li_210, zI_add, zI_sub, zI_mul, zI_neg, ↓Option.bind_some, ↓g12_21, ↓g12_20, ↓al_225, ↓as_225, ↓al_226, ↓as_226, zIt2, uR_at, uR_ne, uR_uR, uC_uC, uC_at, ↓reduceIte, decide_eq_true_eq, leT, leF, ltT, ltF, eqT, eqF, ne_eq, not_true_eq_false, not_false_eq_true, Bool.false_eq_true, tI_zI]
theorem ct_263 {d : Nat} {E : EnQ} {F : Nat → Int → Int32} {G : Nat → Int → Int64} {K : Int → Int32} (hI : InvK K) (hF : F 218 = K) (hc : tI (F 217 18) = 0) (hst : stepsZ K < 1999900000) {x : Int} (hx : -2147483648 ≤ x ∧ x ≤ 2147483647) (hd : 4 ≤ d) : ∃ F1, callP MP d 263 [.ref 217, .int (zI x)] (mk E F G) = some (Sum.inl (some (.int (zI (retN K x)))), mk E (uR F1 218 (retK K x)) G) ∧ (∀ b, b ≠ 225 → b ≠ 226 → F1 b = F b) := by
  have hb5 := hI.1.2.2.2.2.2.1
  have hb4 := hI.1.2.2.2.2.1
  have hb3 := hI.1.2.2.2.1
  have hb1 := hI.1.2.1
  obtain ⟨e, rfl⟩ : ∃ e, d = e + 1 := ⟨d - 1, by omega⟩
  have hin : callP MP (e + 1) 263 [.ref 217, .int (zI x)] (mk E F G) = runP MP e 263 (0, [some (.ref 217), some (.int (zI x)), none, none, none, none], [], mk E F G) := into_eq (by omega) hM_263 (rcv_mk rfl (by decide)) rfl
  obtain ⟨F1, q1, q2, q3⟩ := rt_lists (d := e) (E := E) (G := G) hI hF hx (by omega)
  have hl0 : runP MP e 263 (0, [some (.ref 217), some (.int (zI x)), none, none, none, none], [], mk E F G) = runP MP e 263 (9, [some (.ref 217), some (.int (zI x)), some (.int (zI 0)), some (.int (zI (tI (K 5) - 1))), none, none], [], mk E F G) := by
    rw [q_263_0]; (try simp only [↓n_al, ↓n_cI, li_0, li_1, li_9, li_12, li_20, li_210, zI_add, zI_sub, zI_mul, zI_neg, ↓Option.bind_some]); simp (disch := (first | assumption | exact tI_rg _ | omega | exact uR_at | exact row_ne hF (by decide) | exact row_ne (row_ne hF (by decide)) (by decide) | exact SnS_18 | exact SnS_30 | exact LdS_44 | exact LdS_46)) only [q_263_50, q_263_114, ↓cc_210 hI, ↓n_al, ↓n_cI, li_0, li_1, li_9, li_12, li_20, li_210, zI_add, zI_sub, zI_mul, zI_neg, ↓Option.bind_some, ↓g12_21, ↓g12_20, ↓al_225, ↓as_225, ↓al_226, ↓as_226, zIt2, uR_at, uR_ne, uR_uR, uC_uC, uC_at, ↓reduceIte, decide_eq_true_eq, leT, leF, ltT, ltF, eqT, eqF, ne_eq, not_true_eq_false, not_false_eq_true, Bool.false_eq_true, tI_zI]
  have hF1 : F1 218 = K := (q2 218 (by decide) (by decide)).trans hF
  have hs0 : uR F1 218 K = F1 := by rw [← hF1, uR_self]
  refine ⟨F1, ?_, q2⟩
  rw [hin, hl0, q1]
  have h0 : runP MP e 263 (61, [some (.ref 217), some (.int (zI x)), some (.int (zI (cntN (rtB K x) (tI (K 5)).toNat))), some (.int (zI 0)), some (.int (zI 0)), none], [], mk E F1 G) = runP MP e 263 (61, [some (.ref 217), some (.int (zI x)), some (.int (zI (cntN (rtB K x) (tI (K 5)).toNat))), some (.int (zI (tI (K 5) + (stepsZ (retS K x 0) - stepsZ K) - tI (retS K x 0 5)))), some (.int (zI (cntN (rtB K x) 0))), none], [], mk E (uR F1 218 (retS K x 0)) G) := by
    show _ = runP MP e 263 (61, [_, _, _, some (.int (zI (tI (K 5) + (stepsZ K - stepsZ K) - tI (K 5)))), some (.int (zI 0)), _], [], mk E (uR F1 218 K) G)
    rw [hs0, show tI (K 5) + (stepsZ K - stepsZ K) - tI (K 5) = 0 by omega]
  rw [h0]
  refine loopS (σ := Option Value) (Post := fun r => r = some (Sum.inl (some (.int (zI (retN K x)))), mk E (uR F1 218 (retK K x)) G))
    (fun m z => runP MP e 263 (61, [some (.ref 217), some (.int (zI x)), some (.int (zI (cntN (rtB K x) (tI (K 5)).toNat))), some (.int (zI (tI (K 5) + (stepsZ (retS K x m) - stepsZ K) - tI (retS K x m 5)))), some (.int (zI (cntN (rtB K x) m))), z], [], mk E (uR F1 218 (retS K x m)) G))
    (fun m z => cntN (rtB K x) m = stepsZ (retS K x m) - stepsZ K) (tI (K 5)).toNat none (by show (0 : Int) = stepsZ K - stepsZ K; omega) (fun z hz => ?_) (fun m z hm hz => ?_)
  · show runP MP e 263 _ = some (Sum.inl (some (.int (zI (stepsZ (retS K x (tI (K 5)).toNat) - stepsZ K)))), mk E (uR F1 218 (retS K x (tI (K 5)).toNat)) G)
    have hcn := cntN_rg (rtB K x) (tI (K 5)).toNat
    rw [← hz]
    rw [q_263_61]; (try simp only [↓n_al, ↓n_cI, li_0, li_1, li_9, li_12, li_20, li_210, zI_add, zI_sub, zI_mul, zI_neg, ↓Option.bind_some]); simp (disch := (first | assumption | exact tI_rg _ | omega | exact uR_at | exact row_ne hF (by decide) | exact row_ne (row_ne hF (by decide)) (by decide) | exact SnS_18 | exact SnS_30 | exact LdS_44 | exact LdS_46)) only [q_263_0, q_263_50, q_263_114, ↓n_al, ↓n_cI, li_0, li_1, li_9, li_12, li_20, li_210, zI_add, zI_sub, zI_mul, zI_neg, ↓Option.bind_some, ↓g12_21, ↓g12_20, ↓al_225, ↓as_225, ↓al_226, ↓as_226, zIt2, uR_at, uR_ne, uR_uR, uC_uC, uC_at, ↓reduceIte, decide_eq_true_eq, leT, leF, ltT, ltF, eqT, eqF, ne_eq, not_true_eq_false, not_false_eq_true, Bool.false_eq_true, tI_zI]
  · have hi := retS_I hI hst (x := x) m (by omega)
    have hi' := hi
    obtain ⟨i1, i2, i3, -, -, i6⟩ := hi'
    have hb5' := i1.1.2.2.2.2.2.1
    have hb4' := i1.1.2.2.2.2.1
    have hcn := cntN_rg (rtB K x) m
    have hcn' := cntN_rg (rtB K x) (tI (K 5)).toNat
    by_cases ho : rtO K m = x
    · obtain ⟨a1, a2⟩ := q3 m (by omega) ho
      have hcm := cnt_mono (p := rtB K x) (show m + 1 ≤ (tI (K 5)).toNat by omega)
      rw [cntN_pos (decide_eq_true ho)] at hcm
      by_cases g : stepsZ (retS K x m) - stepsZ K + m < tI (retS K x m 5)
      · right
        have hw := RetI_can hI hi (by omega) ⟨g, ho⟩
        have hr1 : retS K x (m + 1) = goK false (retS K x m) x (fromZ K (rtW K m)) := if_pos ⟨g, ho⟩
        obtain ⟨j1, j2⟩ := go_inv i1 (c := false) hw (by omega)
        obtain ⟨t1, t2, -⟩ := go_top i1 (c := false) hw (by omega)
        have hb5n := j1.1.2.2.2.2.2.1
        have hb4n := j1.1.2.2.2.2.1
        have hp := (why0 hw).2.1
        have e1 : retS K x m 1 = K 1 := i6 1 (by omega)
        rw [e1] at hp
        have h230 : ∀ {kk : HeapP → ResP} {kx : Nat → HeapP → ResP}, cV (callP MP e 230 [.ref 217, .int (zI x), .int (zI (fromZ K (rtW K m)))] (mk E (uR F1 218 (retS K x m)) G)) kk kx = kk (mk E (uR F1 218 (goK false (retS K x m) x (fromZ K (rtW K m)))) G) := fun {kk kx} => by
          rw [cc_230 i1 uR_at (c := false) (by rw [uR_ne (by decide), q2 217 (by decide) (by decide)]; exact hc) hw (by omega) (by omega), uR_uR]
        refine ⟨some (.int (zI (tI (retS K x m 5)))), ?_, ?_⟩
        · rw [cntN_pos (decide_eq_true ho), hr1, hz]; omega
        · show runP MP e 263 _ = runP MP e 263 _
          rw [cntN_pos (decide_eq_true ho), hr1, show tI (K 5) + (stepsZ (goK false (retS K x m) x (fromZ K (rtW K m))) - stepsZ K) - tI (goK false (retS K x m) x (fromZ K (rtW K m)) 5) = tI (K 5) + (stepsZ (retS K x m) - stepsZ K) - tI (retS K x m 5) + (tI (retS K x m 5) + 1 - tI (goK false (retS K x m) x (fromZ K (rtW K m)) 5)) by omega]
          rw [q_263_61]; (try simp only [↓n_al, ↓n_cI, li_0, li_1, li_9, li_12, li_20, li_210, zI_add, zI_sub, zI_mul, zI_neg, ↓Option.bind_some]); simp (disch := (first | assumption | exact tI_rg _ | omega | exact uR_at | exact row_ne hF (by decide) | exact row_ne (row_ne hF (by decide)) (by decide) | exact SnS_18 | exact SnS_30 | exact LdS_44 | exact LdS_46)) only [q_263_0, q_263_50, q_263_114, ↓cc_210 i1, ↓cc_210 j1, ↓h230, a1, a2, ↓n_al, ↓n_cI, li_0, li_1, li_9, li_12, li_20, li_210, zI_add, zI_sub, zI_mul, zI_neg, ↓Option.bind_some, ↓g12_21, ↓g12_20, ↓al_225, ↓as_225, ↓al_226, ↓as_226, zIt2, uR_at, uR_ne, uR_uR, uC_uC, uC_at, ↓reduceIte, decide_eq_true_eq, leT, leF, ltT, ltF, eqT, eqF, ne_eq, not_true_eq_false, not_false_eq_true, Bool.false_eq_true, tI_zI]
      · left
        have hre : retK K x = retS K x m := retS_end g _ (by omega)
        show runP MP e 263 _ = some (Sum.inl (some (.int (zI (stepsZ (retK K x) - stepsZ K)))), mk E (uR F1 218 (retK K x)) G)
        rw [hre, ← hz]
        rw [q_263_61]; (try simp only [↓n_al, ↓n_cI, li_0, li_1, li_9, li_12, li_20, li_210, zI_add, zI_sub, zI_mul, zI_neg, ↓Option.bind_some]); simp (disch := (first | assumption | exact tI_rg _ | omega | exact uR_at | exact row_ne hF (by decide) | exact row_ne (row_ne hF (by decide)) (by decide) | exact SnS_18 | exact SnS_30 | exact LdS_44 | exact LdS_46)) only [q_263_0, q_263_50, q_263_114, ↓cc_210 i1, a1, a2, ↓n_al, ↓n_cI, li_0, li_1, li_9, li_12, li_20, li_210, zI_add, zI_sub, zI_mul, zI_neg, ↓Option.bind_some, ↓g12_21, ↓g12_20, ↓al_225, ↓as_225, ↓al_226, ↓as_226, zIt2, uR_at, uR_ne, uR_uR, uC_uC, uC_at, ↓reduceIte, decide_eq_true_eq, leT, leF, ltT, ltF, eqT, eqF, ne_eq, not_true_eq_false, not_false_eq_true, Bool.false_eq_true, tI_zI]
    · right
      have hr1 : retS K x (m + 1) = retS K x m := if_neg (fun z => ho z.2)
      have hN : cntN (rtB K x) (m + 1) = cntN (rtB K x) m := cntN_neg (by unfold rtB; rw [decide_eq_true_eq]; exact ho)
      refine ⟨z, ?_, ?_⟩
      · rw [hN, hr1]; exact hz
      · show runP MP e 263 _ = runP MP e 263 _
        rw [hN, hr1]
end S94o
