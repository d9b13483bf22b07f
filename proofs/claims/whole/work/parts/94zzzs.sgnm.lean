/-! MODEL: signs, the table -/
section S94zzzs
set_option linter.unusedVariables false
set_option linter.unusedSimpArgs false
theorem and8191 (y : Int32) : y &&& 8191 = zI ((uI y % 8192 : Nat) : Int) := by
  have h := andZ (uI y) 8191
  rw [zI_uI, show (uI y &&& 8191) = uI y % 8192 from Nat.and_two_pow_sub_one_eq_mod (uI y) 13] at h
  exact h
def ow2 (s : Nat) : Nat := uI (zI (s : Int) * 40503 ^^^ o_iushr (zI (s : Int)) 13) % 8192
theorem ow2_lt (s : Nat) : ow2 s < 8192 := Nat.mod_lt _ (by omega)
theorem vpn1 : vp_nar (tyP 2) (zI 1) = zI 1 := by decide
theorem vpn0 : vp_nar (tyP 2) (zI 0) = zI 0 := by decide
def MsR (M : Nat) (F : Nat → Int → Int32) (l : List Nat) : Prop := tI (F 217 45) = (l.length : Int) ∧ TbR M ow2 l (fun j => decide (tI (F 238 j) ≠ 0)) (fun j => ((uI (F 236 j) : Nat) : Int)) ∧ ∀ s, s ∈ l → s < 4294967296
def KpT (F F1 : Nat → Int → Int32) : Prop := (∀ q, q ≠ 217 → q ≠ 236 → q ≠ 238 → F1 q = F q) ∧ (∀ j, j ≠ 45 → F1 217 j = F 217 j)
theorem KpT_rf {F : Nat → Int → Int32} : KpT F F := ⟨fun _ _ _ _ => rfl, fun _ _ => rfl⟩
theorem adL_len {l : List Nat} {s : Nat} (h : l.length ≤ 2001) : (adL l s).length ≤ 2001 := by
  unfold adL
  split
  · exact h
  · split
    · exact h
    · simp only [List.length_cons]; omega
theorem ct_297 {d : Nat} {E : EnQ} {F : Nat → Int → Int32} {G : Nat → Int → Int64} {M s : Nat} {l : List Nat} (hM : M = 8192) (hU : MsR M F l) (hl : l.length ≤ 2001) (hs : s < 4294967296) (hd : 1 ≤ d) : ∃ F1, callP MP d 297 [.ref 217, .int (zI (s : Int))] (mk E F G) = some (Sum.inl none, mk E F1 G) ∧ MsR M F1 (adL l s) ∧ KpT F F1 := by
  have hU1 := hU.1
  by_cases c0 : 2000 < l.length
  · refine ⟨F, ?_, ?_, KpT_rf⟩
    · refine into (D := 0) (by omega) hM_297 (rcv_mk rfl (by decide)) rfl fun d hd => ?_
      show runP MP d 297 (0, [some (.ref 217), some (.int (zI (s : Int))), none], [], _) = _
      rw [q_297_0]; (try simp only [↓n_rd, ↓n_al, li_0, li_1, li_2, li_12, li_13, li_2000, li_8191, li_40503, zI_add, zI_sub, zI_mul, zI_neg, ↓Option.bind_some]); simp (disch := (first | assumption | exact tI_rg _ | omega | exact uR_at | exact row_ne hF (by decide) | exact row_ne (row_ne hF (by decide)) (by decide) | exact SnS_18 | exact SnS_30 | exact LdS_44 | exact LdS_46)) only [hU1, ↓n_rd, ↓n_al, li_0, li_1, li_2, li_12, li_13, li_2000, li_8191, li_40503, zI_add, zI_sub, zI_mul, zI_neg, ↓Option.bind_some, ↓g12_42, ↓g12_44, ↓g12_45, ↓p12_45, ↓al_236, ↓as_236, ↓al_238, ↓as_238, zIt2, uR_at, uR_ne, uR_uR, uC_uC, uC_at, ↓reduceIte, decide_eq_true_eq, leT, leF, ltT, ltF, eqT, eqF, ne_eq, not_true_eq_false, not_false_eq_true, Bool.false_eq_true, tI_zI]
    · unfold adL; rw [if_pos c0]; exact hU
  · have ev : adL l s = if s ∈ l then l else s :: l := if_neg c0
    rw [ev]
    have ho : ∀ s, ow2 s < M := fun s => by have := ow2_lt s; omega
    obtain ⟨i, hi, hb, he⟩ := tb_find ho hU.2.1 (by omega) s
    have how := ow2_lt s
    obtain ⟨e, rfl⟩ : ∃ e, d = e + 1 := ⟨d - 1, by omega⟩
    have hin : callP MP (e + 1) 297 [.ref 217, .int (zI (s : Int))] (mk E F G) = runP MP e 297 (0, [some (.ref 217), some (.int (zI (s : Int))), none], [], mk E F G) := into_eq (by omega) hM_297 (rcv_mk rfl (by decide)) rfl
    have h0 : callP MP (e + 1) 297 [.ref 217, .int (zI (s : Int))] (mk E F G) = runP MP e 297 (26, [some (.ref 217), some (.int (zI (s : Int))), some (.int (zI (((ow2 s + 0) % M : Nat) : Int)))], [], mk E F G) := by
      have e0 : (ow2 s + 0) % M = ow2 s := by rw [Nat.add_zero]; exact Nat.mod_eq_of_lt (ho s)
      rw [hin, e0, q_297_0, and8191]
      show ((rdI (mk E F G) 12 217 45).bind fun q1 => (if decide (q1 ≤ 2000) = true then runP MP e 297 (26, [some (.ref 217), some (.int (zI (s : Int))), some (.int (zI ((ow2 s : Nat) : Int)))], [], mk E F G) else some (Sum.inl none, mk E F G))) = _
      rw [n_rd, g12_45, hU1, li_2000]
      rw [if_pos (decide_eq_true (by rw [leI (by omega)]; omega))]
    rw [h0]
    refine loopS (σ := Unit) (Post := fun r => ∃ F1, r = some (Sum.inl none, mk E F1 G) ∧ MsR M F1 (if s ∈ l then l else s :: l) ∧ KpT F F1)
      (fun j z => runP MP e 297 (26, [some (.ref 217), some (.int (zI (s : Int))), some (.int (zI (((ow2 s + j) % M : Nat) : Int)))], [], mk E F G))
      (fun _ _ => True) i () trivial (fun z _ => ?_) (fun j z hj _ => ?_)
    · have hlt : (ow2 s + i) % M < M := Nat.mod_lt _ (by omega)
      obtain ⟨k, hk⟩ : ∃ k, k = (ow2 s + i) % M := ⟨_, rfl⟩
      rw [← hk] at hlt he ⊢
      have hrg := tI_rg (F 238 (k : Int))
      rcases he with ⟨h1, h2, h3⟩ | ⟨h1, h3⟩
      · rw [if_pos h3]
        have h1' : ¬ tI (F 238 (k : Int)) = 0 := of_decide_eq_true h1
        have h2 : ((uI (F 236 (k : Int)) : Nat) : Int) = (s : Int) := h2
        have h2' : zI (tI (F 236 (k : Int))) = zI (s : Int) := by rw [zI_tI, ← zI_uI (F 236 (k : Int)), h2]
        refine ⟨F, ?_, hU, KpT_rf⟩
        show runP MP e 297 _ = _
        rw [q_297_26]; (try simp only [↓n_rd, ↓n_al, li_0, li_1, li_2, li_12, li_13, li_2000, li_8191, li_40503, zI_add, zI_sub, zI_mul, zI_neg, ↓Option.bind_some]); simp (disch := (first | assumption | exact tI_rg _ | omega | exact uR_at | exact row_ne hF (by decide) | exact row_ne (row_ne hF (by decide)) (by decide) | exact SnS_18 | exact SnS_30 | exact LdS_44 | exact LdS_46)) only [q_297_0, ↓al_238, ↓al_236, h1', h2', ↓n_rd, ↓n_al, li_0, li_1, li_2, li_12, li_13, li_2000, li_8191, li_40503, zI_add, zI_sub, zI_mul, zI_neg, ↓Option.bind_some, ↓g12_42, ↓g12_44, ↓g12_45, ↓p12_45, ↓al_236, ↓as_236, ↓al_238, ↓as_238, zIt2, uR_at, uR_ne, uR_uR, uC_uC, uC_at, ↓reduceIte, decide_eq_true_eq, leT, leF, ltT, ltF, eqT, eqF, ne_eq, not_true_eq_false, not_false_eq_true, Bool.false_eq_true, tI_zI]
      · rw [if_neg h3]
        have h1' : tI (F 238 (k : Int)) = 0 := Decidable.byContradiction (fun z => by
          have : decide (tI (F 238 (k : Int)) ≠ 0) = true := decide_eq_true z
          rw [this] at h1; cases h1)
        refine ⟨uR (uR (uR F 238 (uC (F 238) (k : Int) (zI 1))) 236 (uC (F 236) (k : Int) (zI (s : Int)))) 217 (uC (F 217) 45 (zI ((l.length : Int) + 1))), ?_, ⟨?_, ?_, fun s' hs' => ?_⟩, fun q a1 a2 a3 => ?_, fun j a1 => ?_⟩
        · show runP MP e 297 _ = _
          rw [q_297_26]; (try simp only [↓n_rd, ↓n_al, li_0, li_1, li_2, li_12, li_13, li_2000, li_8191, li_40503, zI_add, zI_sub, zI_mul, zI_neg, ↓Option.bind_some]); simp (disch := (first | assumption | exact tI_rg _ | omega | exact uR_at | exact row_ne hF (by decide) | exact row_ne (row_ne hF (by decide)) (by decide) | exact SnS_18 | exact SnS_30 | exact LdS_44 | exact LdS_46)) only [q_297_0, ↓al_238, ↓as_238, ↓as_236, h1', hU1, vpn1, ↓n_rd, ↓n_al, li_0, li_1, li_2, li_12, li_13, li_2000, li_8191, li_40503, zI_add, zI_sub, zI_mul, zI_neg, ↓Option.bind_some, ↓g12_42, ↓g12_44, ↓g12_45, ↓p12_45, ↓al_236, ↓as_236, ↓al_238, ↓as_238, zIt2, uR_at, uR_ne, uR_uR, uC_uC, uC_at, ↓reduceIte, decide_eq_true_eq, leT, leF, ltT, ltF, eqT, eqF, ne_eq, not_true_eq_false, not_false_eq_true, Bool.false_eq_true, tI_zI]
        · rw [uR_at, uC_at, tI_zI (by omega)]; rfl
        · refine tb_put (s := s) (i := i) ho hU.2.1 hi (fun i' hi' => (hb i' hi').1) (by rw [← hk]; exact h1) ?_ ?_ (fun j hj => ?_) (fun j hj => ?_)
          · rw [← hk]
            show decide (tI (uR (uR (uR F 238 (uC (F 238) (k : Int) (zI 1))) 236 (uC (F 236) (k : Int) (zI (s : Int)))) 217 (uC (F 217) 45 (zI ((l.length : Int) + 1))) 238 (k : Int)) ≠ 0) = true
            rw [uR_ne (by decide), uR_ne (by decide), uR_at, uC_at]; decide
          · rw [← hk]
            show ((uI (uR (uR (uR F 238 (uC (F 238) (k : Int) (zI 1))) 236 (uC (F 236) (k : Int) (zI (s : Int)))) 217 (uC (F 217) 45 (zI ((l.length : Int) + 1))) 236 (k : Int)) : Nat) : Int) = (s : Int)
            rw [uR_ne (by decide), uR_at, uC_at, uI_zI hs]
          · rw [← hk] at hj
            show decide (tI (uR (uR (uR F 238 (uC (F 238) (k : Int) (zI 1))) 236 (uC (F 236) (k : Int) (zI (s : Int)))) 217 (uC (F 217) 45 (zI ((l.length : Int) + 1))) 238 (j : Int)) ≠ 0) = _
            rw [uR_ne (by decide), uR_ne (by decide), uR_at, uC_ne (by omega)]
          · rw [← hk] at hj
            show ((uI (uR (uR (uR F 238 (uC (F 238) (k : Int) (zI 1))) 236 (uC (F 236) (k : Int) (zI (s : Int)))) 217 (uC (F 217) 45 (zI ((l.length : Int) + 1))) 236 (j : Int)) : Nat) : Int) = _
            rw [uR_ne (by decide), uR_at, uC_ne (by omega)]
        · rcases List.mem_cons.mp hs' with e1 | e1
          · rw [e1]; exact hs
          · exact hU.2.2 s' e1
        · rw [uR_ne a1, uR_ne a2, uR_ne a3]
        · rw [uR_at, uC_ne a1]
    · right
      obtain ⟨g1, g2⟩ := hb j hj
      have hlt : (ow2 s + j) % M < M := Nat.mod_lt _ (by omega)
      have hnx : (ow2 s + (j + 1)) % M = ((ow2 s + j) % M + 1) % M := by rw [hM]; omega
      rw [hnx]
      obtain ⟨k, hk⟩ : ∃ k, k = (ow2 s + j) % M := ⟨_, rfl⟩
      rw [← hk] at hlt g1 g2 ⊢
      have hrg := tI_rg (F 238 (k : Int))
      have g1' : ¬ tI (F 238 (k : Int)) = 0 := of_decide_eq_true g1
      have g2 : ¬ ((uI (F 236 (k : Int)) : Nat) : Int) = (s : Int) := g2
      have g2' : (zI (tI (F 236 (k : Int))) = zI (s : Int)) = False := eq_false (fun z => g2 (by
        rw [zI_tI] at z
        rw [z, uI_zI hs]))
      have hand : zI ((k : Int) + 1) &&& zI 8191 = zI (((k + 1) % M : Nat) : Int) := by
        have h := and8191 (zI ((k + 1 : Nat) : Int))
        rw [uI_zI (by omega), ← hM] at h
        exact h
      refine ⟨(), trivial, ?_⟩
      show runP MP e 297 _ = runP MP e 297 _
      rw [q_297_26]; (try simp only [↓n_rd, ↓n_al, li_0, li_1, li_2, li_12, li_13, li_2000, li_8191, li_40503, zI_add, zI_sub, zI_mul, zI_neg, ↓Option.bind_some]); simp (disch := (first | assumption | exact tI_rg _ | omega | exact uR_at | exact row_ne hF (by decide) | exact row_ne (row_ne hF (by decide)) (by decide) | exact SnS_18 | exact SnS_30 | exact LdS_44 | exact LdS_46)) only [q_297_0, ↓al_238, ↓al_236, g1', g2', hand, ↓n_rd, ↓n_al, li_0, li_1, li_2, li_12, li_13, li_2000, li_8191, li_40503, zI_add, zI_sub, zI_mul, zI_neg, ↓Option.bind_some, ↓g12_42, ↓g12_44, ↓g12_45, ↓p12_45, ↓al_236, ↓as_236, ↓al_238, ↓as_238, zIt2, uR_at, uR_ne, uR_uR, uC_uC, uC_at, ↓reduceIte, decide_eq_true_eq, leT, leF, ltT, ltF, eqT, eqF, ne_eq, not_true_eq_false, not_false_eq_true, Bool.false_eq_true, tI_zI]
end S94zzzs
