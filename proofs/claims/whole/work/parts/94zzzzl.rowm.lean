/-! MODEL: rows, a leaf -/
section S94zzzzl
set_option linter.unusedVariables false
set_option linter.unusedSimpArgs false
def SuI (f : Int) (h : Int → Int) (s : Int) : Prop := (∀ v, 0 ≤ h v ∧ h v ≤ f) ∧ (∀ a b, a ≠ b → h a + h b ≤ f) ∧ ((0 < f ∧ h s = f) ∨ (s = -1 ∧ ∀ v, v ≠ -1 → f = 0 ∨ h v < f))
theorem SuI_step {f s v0 : Int} {h : Int → Int} (hf : 0 ≤ f) (H : SuI f h s) : SuI (f + 1) (fun v => h v + (if v = v0 then 1 else 0)) (if f = 0 ∨ s = v0 then v0 else -1) := by
  obtain ⟨h1, h2, h3⟩ := H
  refine ⟨fun v => ?_, fun a b hab => ?_, ?_⟩
  · have := h1 v
    show 0 ≤ h v + (if v = v0 then 1 else 0) ∧ h v + (if v = v0 then 1 else 0) ≤ f + 1
    split <;> omega
  · have := h2 a b hab
    show h a + (if a = v0 then 1 else 0) + (h b + (if b = v0 then 1 else 0)) ≤ f + 1
    split <;> split <;> omega
  · by_cases c0 : f = 0
    · rw [if_pos (Or.inl c0)]
      refine Or.inl ⟨by omega, ?_⟩
      show h v0 + (if v0 = v0 then 1 else 0) = f + 1
      have := h1 v0
      rw [if_pos rfl]; omega
    · by_cases c1 : s = v0
      · rw [if_pos (Or.inr c1)]
        rcases h3 with ⟨a1, a2⟩ | ⟨a1, a2⟩
        · refine Or.inl ⟨by omega, ?_⟩
          show h v0 + (if v0 = v0 then 1 else 0) = f + 1
          rw [if_pos rfl, ← c1]; omega
        · refine Or.inr ⟨by omega, fun v hv => Or.inr ?_⟩
          show h v + (if v = v0 then 1 else 0) < f + 1
          have := h1 v
          have := a2 v hv
          rw [if_neg (by omega)]; omega
      · rw [if_neg (by omega)]
        refine Or.inr ⟨rfl, fun v hv => Or.inr ?_⟩
        show h v + (if v = v0 then 1 else 0) < f + 1
        have := h1 v
        by_cases c2 : v = v0
        · rw [if_pos c2]
          rcases h3 with ⟨a1, a2⟩ | ⟨a1, a2⟩
          · have := h2 s v (by omega); omega
          · have := a2 v hv; omega
        · rw [if_neg c2]; omega
theorem SuI_ext {f s : Int} {h h' : Int → Int} (e : ∀ v, h v = h' v) (H : SuI f h s) : SuI f h' s := by
  have : h = h' := funext e
  rw [← this]; exact H
/-- the search at a place: what is left, how many were found -/
def RgS (F : Nat → Int → Int32) (G : Nat → Int → Int64) (K : Int → Int32) (lf : Int → Int) (k dp : Nat) (f wt : Int) (hF hL : Int → Int) : Prop := F 218 = K ∧ (∀ v : Int, 0 ≤ v → v < 32 → F 233 v = zI (lf v)) ∧ tI (F 217 35) = (k : Int) ∧ tI (F 217 36) = (dp : Int) ∧ tI (F 217 41) = 0 ∧ tJ (G 217 39) = f ∧ tJ (G 217 40) = wt ∧ SuI f hF (tI (F 217 37)) ∧ SuI f hL (tI (F 217 38))
def KpQ (F : Nat → Int → Int32) (G : Nat → Int → Int64) (F1 : Nat → Int → Int32) (G1 : Nat → Int → Int64) (dp : Int) (u : Int) : Prop := (∀ q, q ≠ 217 → q ≠ 233 → q ≠ 235 → F1 q = F q) ∧ (∀ j, j < 35 ∨ 38 < j → j ≠ 41 → F1 217 j = F 217 j) ∧ (∀ q, q ≠ 217 → G1 q = G q) ∧ (∀ j, j ≠ 39 → G1 217 j = G 217 j) ∧ (∀ j, j < dp → F1 235 j = F 235 j) ∧ tI (F1 235 dp) = u
theorem lf_44 {d : Nat} {E : EnQ} {F : Nat → Int → Int32} {G : Nat → Int → Int64} {u l x f s : Int} (hf : tJ (G 217 39) = f) (hf2 : 0 ≤ f ∧ f ≤ 1000000000000000) (hs : tI (F 217 37) = s) (hx : -1 ≤ x ∧ x ≤ 1000) : runP MP d 288 (44, [some (.ref 217), some (.int (zI u)), some (.int (zI l)), none, none], [.int (zI x)], mk E F G) = runP MP d 288 (68, [some (.ref 217), some (.int (zI u)), some (.int (zI l)), some (.int (zI x)), none], [.int (zI (if f = 0 ∨ s = x then x else -1)), .ref 217], mk E F G) := by
  have hr := tI_rg (F 217 37)
  rw [hs] at hr
  by_cases c0 : f = 0
  · rw [if_pos (Or.inl c0)]
    rw [q_288_44]; (try simp only [↓n_rd, ↓n_rdJ, ↓n_al, ↓n_cI, li_0, li_1, li_12, li_32, li_38, li_63, lj_0, lj_1, lj_12, zJ_add, zJ_sub, zJ_mul, zJ_neg, zJ_l2i, zI_add, zI_sub, zI_mul, zI_neg, ↓Option.bind_some]); simp (disch := (first | assumption | exact tI_rg _ | omega | exact uR_at | exact row_ne hF (by decide) | exact row_ne (row_ne hF (by decide)) (by decide) | exact SnS_18 | exact SnS_30 | exact LdS_44 | exact LdS_46)) only [q_288_0, q_288_63, q_288_89, q_288_94, q_288_115, q_288_243, hf, cmpJ_eq, c0, ↓n_rd, ↓n_rdJ, ↓n_al, ↓n_cI, li_0, li_1, li_12, li_32, li_38, li_63, lj_0, lj_1, lj_12, zJ_add, zJ_sub, zJ_mul, zJ_neg, zJ_l2i, tJ_zJ, zI_add, zI_sub, zI_mul, zI_neg, ↓Option.bind_some, ↓g12_32, ↓g12_34, ↓g12_35, ↓g12_36, ↓g12_37, ↓g12_38, ↓g12_39, ↓g12_40, ↓g12_41, ↓p12_35, ↓p12_36, ↓p12_37, ↓p12_38, ↓p12_39, ↓pz12_41, ↓al_233, ↓as_233, ↓al_235, ↓as_235, zIt2, uR_at, uR_ne, uR_uR, uC_uC, uC_at, ↓reduceIte, decide_eq_true_eq, leT, leF, ltT, ltF, eqT, eqF, ne_eq, not_true_eq_false, not_false_eq_true, Bool.false_eq_true, tI_zI]
  · by_cases c1 : s = x
    · rw [if_pos (Or.inr c1)]
      rw [q_288_44]; (try simp only [↓n_rd, ↓n_rdJ, ↓n_al, ↓n_cI, li_0, li_1, li_12, li_32, li_38, li_63, lj_0, lj_1, lj_12, zJ_add, zJ_sub, zJ_mul, zJ_neg, zJ_l2i, zI_add, zI_sub, zI_mul, zI_neg, ↓Option.bind_some]); simp (disch := (first | assumption | exact tI_rg _ | omega | exact uR_at | exact row_ne hF (by decide) | exact row_ne (row_ne hF (by decide)) (by decide) | exact SnS_18 | exact SnS_30 | exact LdS_44 | exact LdS_46)) only [q_288_0, q_288_63, q_288_89, q_288_94, q_288_115, q_288_243, hf, hs, cmpJ_eq, c0, c1, ↓n_rd, ↓n_rdJ, ↓n_al, ↓n_cI, li_0, li_1, li_12, li_32, li_38, li_63, lj_0, lj_1, lj_12, zJ_add, zJ_sub, zJ_mul, zJ_neg, zJ_l2i, tJ_zJ, zI_add, zI_sub, zI_mul, zI_neg, ↓Option.bind_some, ↓g12_32, ↓g12_34, ↓g12_35, ↓g12_36, ↓g12_37, ↓g12_38, ↓g12_39, ↓g12_40, ↓g12_41, ↓p12_35, ↓p12_36, ↓p12_37, ↓p12_38, ↓p12_39, ↓pz12_41, ↓al_233, ↓as_233, ↓al_235, ↓as_235, zIt2, uR_at, uR_ne, uR_uR, uC_uC, uC_at, ↓reduceIte, decide_eq_true_eq, leT, leF, ltT, ltF, eqT, eqF, ne_eq, not_true_eq_false, not_false_eq_true, Bool.false_eq_true, tI_zI]
    · rw [if_neg (by omega)]
      rw [q_288_44]; (try simp only [↓n_rd, ↓n_rdJ, ↓n_al, ↓n_cI, li_0, li_1, li_12, li_32, li_38, li_63, lj_0, lj_1, lj_12, zJ_add, zJ_sub, zJ_mul, zJ_neg, zJ_l2i, zI_add, zI_sub, zI_mul, zI_neg, ↓Option.bind_some]); simp (disch := (first | assumption | exact tI_rg _ | omega | exact uR_at | exact row_ne hF (by decide) | exact row_ne (row_ne hF (by decide)) (by decide) | exact SnS_18 | exact SnS_30 | exact LdS_44 | exact LdS_46)) only [q_288_0, q_288_63, q_288_89, q_288_94, q_288_115, q_288_243, hf, hs, cmpJ_eq, c0, ↓n_rd, ↓n_rdJ, ↓n_al, ↓n_cI, li_0, li_1, li_12, li_32, li_38, li_63, lj_0, lj_1, lj_12, zJ_add, zJ_sub, zJ_mul, zJ_neg, zJ_l2i, tJ_zJ, zI_add, zI_sub, zI_mul, zI_neg, ↓Option.bind_some, ↓g12_32, ↓g12_34, ↓g12_35, ↓g12_36, ↓g12_37, ↓g12_38, ↓g12_39, ↓g12_40, ↓g12_41, ↓p12_35, ↓p12_36, ↓p12_37, ↓p12_38, ↓p12_39, ↓pz12_41, ↓al_233, ↓as_233, ↓al_235, ↓as_235, zIt2, uR_at, uR_ne, uR_uR, uC_uC, uC_at, ↓reduceIte, decide_eq_true_eq, leT, leF, ltT, ltF, eqT, eqF, ne_eq, not_true_eq_false, not_false_eq_true, Bool.false_eq_true, tI_zI]
theorem lf_68 {d : Nat} {E : EnQ} {F : Nat → Int → Int32} {G : Nat → Int → Int64} {u l x y f s : Int} (hf : tJ (G 217 39) = f) (hf2 : 0 ≤ f ∧ f ≤ 1000000000000000) (hs : tI (F 217 38) = s) (hl : -1 ≤ l ∧ l ≤ 1000) : runP MP d 288 (68, [some (.ref 217), some (.int (zI u)), some (.int (zI l)), some (.int (zI x)), none], [.int (zI y), .ref 217], mk E F G) = runP MP d 288 (94, [some (.ref 217), some (.int (zI u)), some (.int (zI l)), some (.int (zI x)), none], [.int (zI (if f = 0 ∨ s = l then l else -1)), .ref 217], mk E (uR F 217 (uC (F 217) 37 (zI y))) G) := by
  have hr := tI_rg (F 217 38)
  rw [hs] at hr
  have hs' : tI (uC (F 217) 37 (zI y) 38) = s := by rw [uC_ne (by decide)]; exact hs
  by_cases c0 : f = 0
  · rw [if_pos (Or.inl c0)]
    rw [q_288_68]; (try simp only [↓n_rd, ↓n_rdJ, ↓n_al, ↓n_cI, li_0, li_1, li_12, li_32, li_38, li_63, lj_0, lj_1, lj_12, zJ_add, zJ_sub, zJ_mul, zJ_neg, zJ_l2i, zI_add, zI_sub, zI_mul, zI_neg, ↓Option.bind_some]); simp (disch := (first | assumption | exact tI_rg _ | omega | exact uR_at | exact row_ne hF (by decide) | exact row_ne (row_ne hF (by decide)) (by decide) | exact SnS_18 | exact SnS_30 | exact LdS_44 | exact LdS_46)) only [q_288_0, q_288_44, q_288_63, q_288_89, q_288_115, q_288_243, hf, cmpJ_eq, c0, ↓n_rd, ↓n_rdJ, ↓n_al, ↓n_cI, li_0, li_1, li_12, li_32, li_38, li_63, lj_0, lj_1, lj_12, zJ_add, zJ_sub, zJ_mul, zJ_neg, zJ_l2i, tJ_zJ, zI_add, zI_sub, zI_mul, zI_neg, ↓Option.bind_some, ↓g12_32, ↓g12_34, ↓g12_35, ↓g12_36, ↓g12_37, ↓g12_38, ↓g12_39, ↓g12_40, ↓g12_41, ↓p12_35, ↓p12_36, ↓p12_37, ↓p12_38, ↓p12_39, ↓pz12_41, ↓al_233, ↓as_233, ↓al_235, ↓as_235, zIt2, uR_at, uR_ne, uR_uR, uC_uC, uC_at, ↓reduceIte, decide_eq_true_eq, leT, leF, ltT, ltF, eqT, eqF, ne_eq, not_true_eq_false, not_false_eq_true, Bool.false_eq_true, tI_zI]
  · by_cases c1 : s = l
    · rw [if_pos (Or.inr c1)]
      rw [q_288_68]; (try simp only [↓n_rd, ↓n_rdJ, ↓n_al, ↓n_cI, li_0, li_1, li_12, li_32, li_38, li_63, lj_0, lj_1, lj_12, zJ_add, zJ_sub, zJ_mul, zJ_neg, zJ_l2i, zI_add, zI_sub, zI_mul, zI_neg, ↓Option.bind_some]); simp (disch := (first | assumption | exact tI_rg _ | omega | exact uR_at | exact row_ne hF (by decide) | exact row_ne (row_ne hF (by decide)) (by decide) | exact SnS_18 | exact SnS_30 | exact LdS_44 | exact LdS_46)) only [q_288_0, q_288_44, q_288_63, q_288_89, q_288_115, q_288_243, hf, hs', cmpJ_eq, c0, c1, ↓n_rd, ↓n_rdJ, ↓n_al, ↓n_cI, li_0, li_1, li_12, li_32, li_38, li_63, lj_0, lj_1, lj_12, zJ_add, zJ_sub, zJ_mul, zJ_neg, zJ_l2i, tJ_zJ, zI_add, zI_sub, zI_mul, zI_neg, ↓Option.bind_some, ↓g12_32, ↓g12_34, ↓g12_35, ↓g12_36, ↓g12_37, ↓g12_38, ↓g12_39, ↓g12_40, ↓g12_41, ↓p12_35, ↓p12_36, ↓p12_37, ↓p12_38, ↓p12_39, ↓pz12_41, ↓al_233, ↓as_233, ↓al_235, ↓as_235, zIt2, uR_at, uR_ne, uR_uR, uC_uC, uC_at, ↓reduceIte, decide_eq_true_eq, leT, leF, ltT, ltF, eqT, eqF, ne_eq, not_true_eq_false, not_false_eq_true, Bool.false_eq_true, tI_zI]
    · rw [if_neg (by omega)]
      rw [q_288_68]; (try simp only [↓n_rd, ↓n_rdJ, ↓n_al, ↓n_cI, li_0, li_1, li_12, li_32, li_38, li_63, lj_0, lj_1, lj_12, zJ_add, zJ_sub, zJ_mul, zJ_neg, zJ_l2i, zI_add, zI_sub, zI_mul, zI_neg, ↓Option.bind_some]); simp (disch := (first | assumption | exact tI_rg _ | omega | exact uR_at | exact row_ne hF (by decide) | exact row_ne (row_ne hF (by decide)) (by decide) | exact SnS_18 | exact SnS_30 | exact LdS_44 | exact LdS_46)) only [q_288_0, q_288_44, q_288_63, q_288_89, q_288_115, q_288_243, hf, hs', cmpJ_eq, c0, ↓n_rd, ↓n_rdJ, ↓n_al, ↓n_cI, li_0, li_1, li_12, li_32, li_38, li_63, lj_0, lj_1, lj_12, zJ_add, zJ_sub, zJ_mul, zJ_neg, zJ_l2i, tJ_zJ, zI_add, zI_sub, zI_mul, zI_neg, ↓Option.bind_some, ↓g12_32, ↓g12_34, ↓g12_35, ↓g12_36, ↓g12_37, ↓g12_38, ↓g12_39, ↓g12_40, ↓g12_41, ↓p12_35, ↓p12_36, ↓p12_37, ↓p12_38, ↓p12_39, ↓pz12_41, ↓al_233, ↓as_233, ↓al_235, ↓as_235, zIt2, uR_at, uR_ne, uR_uR, uC_uC, uC_at, ↓reduceIte, decide_eq_true_eq, leT, leF, ltT, ltF, eqT, eqF, ne_eq, not_true_eq_false, not_false_eq_true, Bool.false_eq_true, tI_zI]
theorem lf_94 {d : Nat} {E : EnQ} {F : Nat → Int → Int32} {G : Nat → Int → Int64} {u l x y f wt : Int} (hf : tJ (G 217 39) = f) (hw : tJ (G 217 40) = wt) (hf2 : 0 ≤ f ∧ f ≤ 1000000000000000) : runP MP d 288 (94, [some (.ref 217), some (.int (zI u)), some (.int (zI l)), some (.int (zI x)), none], [.int (zI y), .ref 217], mk E F G) = some (Sum.inl none, mk E (uR F 217 (uC (uC (F 217) 38 (zI y)) 41 (zI (if f = wt then 1 else 0)))) (uR G 217 (uC (G 217) 39 (zJ (f + 1))))) := by
  have hr := tJ_rg (G 217 40)
  rw [hw] at hr
  by_cases c0 : f = wt
  · rw [if_pos c0]
    rw [q_288_94]; (try simp only [↓n_rd, ↓n_rdJ, ↓n_al, ↓n_cI, li_0, li_1, li_12, li_32, li_38, li_63, lj_0, lj_1, lj_12, zJ_add, zJ_sub, zJ_mul, zJ_neg, zJ_l2i, zI_add, zI_sub, zI_mul, zI_neg, ↓Option.bind_some]); simp (disch := (first | assumption | exact tI_rg _ | omega | exact uR_at | exact row_ne hF (by decide) | exact row_ne (row_ne hF (by decide)) (by decide) | exact SnS_18 | exact SnS_30 | exact LdS_44 | exact LdS_46)) only [q_288_0, q_288_44, q_288_63, q_288_68, q_288_89, q_288_115, q_288_243, hf, hw, cmpJ_eq, c0, ↓n_rd, ↓n_rdJ, ↓n_al, ↓n_cI, li_0, li_1, li_12, li_32, li_38, li_63, lj_0, lj_1, lj_12, zJ_add, zJ_sub, zJ_mul, zJ_neg, zJ_l2i, tJ_zJ, zI_add, zI_sub, zI_mul, zI_neg, ↓Option.bind_some, ↓g12_32, ↓g12_34, ↓g12_35, ↓g12_36, ↓g12_37, ↓g12_38, ↓g12_39, ↓g12_40, ↓g12_41, ↓p12_35, ↓p12_36, ↓p12_37, ↓p12_38, ↓p12_39, ↓pz12_41, ↓al_233, ↓as_233, ↓al_235, ↓as_235, zIt2, uR_at, uR_ne, uR_uR, uC_uC, uC_at, ↓reduceIte, decide_eq_true_eq, leT, leF, ltT, ltF, eqT, eqF, ne_eq, not_true_eq_false, not_false_eq_true, Bool.false_eq_true, tI_zI]
  · rw [if_neg c0]
    rw [q_288_94]; (try simp only [↓n_rd, ↓n_rdJ, ↓n_al, ↓n_cI, li_0, li_1, li_12, li_32, li_38, li_63, lj_0, lj_1, lj_12, zJ_add, zJ_sub, zJ_mul, zJ_neg, zJ_l2i, zI_add, zI_sub, zI_mul, zI_neg, ↓Option.bind_some]); simp (disch := (first | assumption | exact tI_rg _ | omega | exact uR_at | exact row_ne hF (by decide) | exact row_ne (row_ne hF (by decide)) (by decide) | exact SnS_18 | exact SnS_30 | exact LdS_44 | exact LdS_46)) only [q_288_0, q_288_44, q_288_63, q_288_68, q_288_89, q_288_115, q_288_243, hf, hw, cmpJ_eq, c0, ↓n_rd, ↓n_rdJ, ↓n_al, ↓n_cI, li_0, li_1, li_12, li_32, li_38, li_63, lj_0, lj_1, lj_12, zJ_add, zJ_sub, zJ_mul, zJ_neg, zJ_l2i, tJ_zJ, zI_add, zI_sub, zI_mul, zI_neg, ↓Option.bind_some, ↓g12_32, ↓g12_34, ↓g12_35, ↓g12_36, ↓g12_37, ↓g12_38, ↓g12_39, ↓g12_40, ↓g12_41, ↓p12_35, ↓p12_36, ↓p12_37, ↓p12_38, ↓p12_39, ↓pz12_41, ↓al_233, ↓as_233, ↓al_235, ↓as_235, zIt2, uR_at, uR_ne, uR_uR, uC_uC, uC_at, ↓reduceIte, decide_eq_true_eq, leT, leF, ltT, ltF, eqT, eqF, ne_eq, not_true_eq_false, not_false_eq_true, Bool.false_eq_true, tI_zI]
theorem lf_all {d : Nat} {E : EnQ} {F : Nat → Int → Int32} {G : Nat → Int → Int64} {K : Int → Int32} {lf : Int → Int} {dp : Nat} {u l f wt f0 : Int} {hF hL : Int → Int} (hI : InvK K) (hR : RgS F G K lf 0 dp f wt hF hL) (hu : 0 ≤ u ∧ u < tI (K 1)) (hl : -1 ≤ l ∧ l < 32) (hdp : dp ≤ 14) (hf2 : 0 ≤ f ∧ f ≤ 1000000000000000) (hf0 : (dp = 1 → wayZ K (tI (F 235 0)) u = f0) ∧ (2 ≤ dp → wayZ K (tI (F 235 0)) (tI (F 235 1)) = f0)) (hd : 3 ≤ d) :
    ∃ F1 G1, runP MP d 288 (0, [some (.ref 217), some (.int (zI u)), some (.int (zI l)), none, none], [], mk E F G) = some (Sum.inl none, mk E F1 G1) ∧ KpQ F G F1 G1 dp u ∧
      ((¬ (f ≤ wt ∧ wt < f + 1) → RgS F1 G1 K lf 0 dp (f + 1) wt (fun v => hF v + HFz K 0 dp u lf f0 v) (fun v => hL v + NLM K 0 u lf l v) ∧ F1 233 = F 233) ∧ (f ≤ wt ∧ wt < f + 1 → tI (F1 217 41) = 1 ∧ tJ (G1 217 39) = wt + 1)) := by
  obtain ⟨h1, h2, h3, h4, h5, h6, h7, h8, h9⟩ := hR
  have hb2 := hI.1.2.2.1
  have hb1 := hI.1.2.1
  obtain ⟨x, hx⟩ : ∃ x : Int, x = if dp = 0 then -1 else f0 := ⟨_, rfl⟩
  obtain ⟨F0, hF0⟩ : ∃ F0, F0 = uR F 235 (uC (F 235) (dp : Int) (zI u)) := ⟨_, rfl⟩
  have o0 : ∀ q, q ≠ 235 → F0 q = F q := fun q h => by rw [hF0]; exact uR_ne h
  have hF0K : F0 218 = K := (o0 218 (by decide)).trans h1
  have e35 : tI (F 217 35) = 0 := h3
  have hxr : -1 ≤ x ∧ x ≤ 1000 := by
    rw [hx]
    split
    · omega
    · by_cases c : dp = 1
      · have := wayZ_lo hb2 (tI (F 235 0)) u
        rw [hf0.1 c] at this; omega
      · have := wayZ_lo hb2 (tI (F 235 0)) (tI (F 235 1))
        rw [hf0.2 (by omega)] at this; omega
  have h00 : runP MP d 288 (0, [some (.ref 217), some (.int (zI u)), some (.int (zI l)), none, none], [], mk E F G) = runP MP d 288 (44, [some (.ref 217), some (.int (zI u)), some (.int (zI l)), none, none], [.int (zI x)], mk E F0 G) := by
    have hdi : 0 ≤ (dp : Int) ∧ (dp : Int) < 64 := by omega
    by_cases c : dp = 0
    · subst c
      rw [hx, if_pos rfl, hF0, show ((0 : Nat) : Int) = 0 from rfl]
      have h40 : tI (F 217 36) = 0 := h4
      rw [q_288_0]; (try simp only [↓n_rd, ↓n_rdJ, ↓n_al, ↓n_cI, li_0, li_1, li_12, li_32, li_38, li_63, lj_0, lj_1, lj_12, zJ_add, zJ_sub, zJ_mul, zJ_neg, zJ_l2i, zI_add, zI_sub, zI_mul, zI_neg, ↓Option.bind_some]); simp (disch := (first | assumption | exact tI_rg _ | omega | exact uR_at | exact row_ne hF (by decide) | exact row_ne (row_ne hF (by decide)) (by decide) | exact SnS_18 | exact SnS_30 | exact LdS_44 | exact LdS_46)) only [q_288_63, q_288_68, q_288_89, q_288_94, q_288_115, q_288_243, h40, e35, ↓as_235, ↓al_235, ↓n_rd, ↓n_rdJ, ↓n_al, ↓n_cI, li_0, li_1, li_12, li_32, li_38, li_63, lj_0, lj_1, lj_12, zJ_add, zJ_sub, zJ_mul, zJ_neg, zJ_l2i, tJ_zJ, zI_add, zI_sub, zI_mul, zI_neg, ↓Option.bind_some, ↓g12_32, ↓g12_34, ↓g12_35, ↓g12_36, ↓g12_37, ↓g12_38, ↓g12_39, ↓g12_40, ↓g12_41, ↓p12_35, ↓p12_36, ↓p12_37, ↓p12_38, ↓p12_39, ↓pz12_41, ↓al_233, ↓as_233, ↓al_235, ↓as_235, zIt2, uR_at, uR_ne, uR_uR, uC_uC, uC_at, ↓reduceIte, decide_eq_true_eq, leT, leF, ltT, ltF, eqT, eqF, ne_eq, not_true_eq_false, not_false_eq_true, Bool.false_eq_true, tI_zI]
    · have hc : ¬ (dp : Int) = 0 := by omega
      have hrd : ∀ {f : Int → ResP}, (alT (mk E F0 G) 0 235 (zI 0)).bind f = f (tI (F0 235 0)) := fun {f} => al_235 (by omega)
      have hrd1 : ∀ {f : Int → ResP}, (alT (mk E F0 G) 0 235 (zI 1)).bind f = f (tI (F0 235 1)) := fun {f} => al_235 (by omega)
      have r0 := tI_rg (F0 235 0)
      have r1 := tI_rg (F0 235 1)
      have hxx : wayZ K (tI (F0 235 0)) (tI (F0 235 1)) = x := by
        rw [hx, if_neg c]
        have e0 : F0 235 0 = F 235 0 := by rw [hF0, uR_at, uC_ne (by omega)]
        rw [e0]
        by_cases c1 : dp = 1
        · have e1 : tI (F0 235 1) = u := by rw [hF0, uR_at, c1]; show tI (uC (F 235) 1 (zI u) 1) = u; rw [uC_at, tI_zI (by omega)]
          rw [e1]; exact hf0.1 c1
        · have e1 : F0 235 1 = F 235 1 := by rw [hF0, uR_at, uC_ne (by omega)]
          rw [e1]; exact hf0.2 (by omega)
      have c229 : ∀ {kk : Int → HeapP → ResP} {kx : Nat → HeapP → ResP}, cT (callP MP d 229 [.ref 217, .int (zI (tI (F0 235 0))), .int (zI (tI (F0 235 1)))] (mk E F0 G)) kk kx = kk x (mk E F0 G) := fun {kk kx} => by
        rw [cc_229 hI hF0K (by omega) (by omega) (by omega), hxx]
      have has : ∀ {f : HeapP → ResP}, (astI (mk E F G) 0 235 (zI (dp : Int)) (zI u)).bind f = f (mk E F0 G) := fun {f} => by rw [as_235 hdi, hF0]
      have g35 : tI (F0 217 35) = 0 := by rw [o0 217 (by decide)]; exact e35
      have g36 : tI (F0 217 36) = (dp : Int) := by rw [o0 217 (by decide)]; exact h4
      rw [q_288_0]; (try simp only [↓n_rd, ↓n_rdJ, ↓n_al, ↓n_cI, li_0, li_1, li_12, li_32, li_38, li_63, lj_0, lj_1, lj_12, zJ_add, zJ_sub, zJ_mul, zJ_neg, zJ_l2i, zI_add, zI_sub, zI_mul, zI_neg, ↓Option.bind_some]); simp (disch := (first | assumption | exact tI_rg _ | omega | exact uR_at | exact row_ne hF (by decide) | exact row_ne (row_ne hF (by decide)) (by decide) | exact SnS_18 | exact SnS_30 | exact LdS_44 | exact LdS_46)) only [q_288_63, q_288_68, q_288_89, q_288_94, q_288_115, q_288_243, h4, ↓has, g35, g36, hc, ↓hrd, ↓hrd1, ↓c229, ↓n_rd, ↓n_rdJ, ↓n_al, ↓n_cI, li_0, li_1, li_12, li_32, li_38, li_63, lj_0, lj_1, lj_12, zJ_add, zJ_sub, zJ_mul, zJ_neg, zJ_l2i, tJ_zJ, zI_add, zI_sub, zI_mul, zI_neg, ↓Option.bind_some, ↓g12_32, ↓g12_34, ↓g12_35, ↓g12_36, ↓g12_37, ↓g12_38, ↓g12_39, ↓g12_40, ↓g12_41, ↓p12_35, ↓p12_36, ↓p12_37, ↓p12_38, ↓p12_39, ↓pz12_41, ↓al_233, ↓as_233, zIt2, uR_at, uR_ne, uR_uR, uC_uC, uC_at, ↓reduceIte, decide_eq_true_eq, leT, leF, ltT, ltF, eqT, eqF, ne_eq, not_true_eq_false, not_false_eq_true, Bool.false_eq_true, tI_zI]
  have h68 := lf_68 (d := d) (E := E) (F := F0) (G := G) (u := u) (l := l) (x := x) (y := if f = 0 ∨ tI (F 217 37) = x then x else -1) (s := tI (F 217 38)) h6 hf2 (by rw [o0 217 (by decide)]) (by omega)
  have h44 := lf_44 (d := d) (E := E) (F := F0) (G := G) (u := u) (l := l) (x := x) (s := tI (F 217 37)) h6 hf2 (by rw [o0 217 (by decide)]) hxr
  have h94 := lf_94 (d := d) (E := E) (F := uR F0 217 (uC (F0 217) 37 (zI (if f = 0 ∨ tI (F 217 37) = x then x else -1)))) (G := G) (u := u) (l := l) (x := x) (y := if f = 0 ∨ tI (F 217 38) = l then l else -1) h6 h7 hf2
  rw [uR_uR, uR_at, o0 217 (by decide)] at h94
  have x37 : -1 ≤ (if f = 0 ∨ tI (F 217 37) = x then x else -1) ∧ (if f = 0 ∨ tI (F 217 37) = x then x else -1) ≤ 1000 := by split <;> omega
  have x38 : -1 ≤ (if f = 0 ∨ tI (F 217 38) = l then l else -1) ∧ (if f = 0 ∨ tI (F 217 38) = l then l else -1) ≤ 1000 := by split <;> omega
  rw [show uR F0 217 (uC (F0 217) 37 (zI (if f = 0 ∨ tI (F 217 37) = x then x else -1))) = uR F0 217 (uC (F 217) 37 (zI (if f = 0 ∨ tI (F 217 37) = x then x else -1))) by rw [o0 217 (by decide)]] at h68
  refine ⟨_, _, h00.trans (h44.trans (h68.trans h94)), ⟨fun q a1 a2 a3 => ?_, fun j a1 a2 => ?_, fun q a1 => uR_ne a1, fun j a1 => ?_, fun j a1 => ?_, ?_⟩, fun hn => ⟨⟨?_, fun v hv1 hv2 => ?_, ?_, ?_, ?_, ?_, ?_, ?_, ?_⟩, ?_⟩, fun hn => ⟨?_, ?_⟩⟩
  · rw [uR_ne a1, o0 q a3]
  · rw [uR_at, uC_ne a2, uC_ne (by omega), uC_ne (by omega)]
  · rw [uR_at, uC_ne a1]
  · rw [uR_ne (by decide), hF0, uR_at, uC_ne (by omega)]
  · rw [uR_ne (by decide), hF0, uR_at, uC_at, tI_zI (by omega)]
  · rw [uR_ne (by decide)]; exact hF0K
  · rw [uR_ne (by decide), o0 233 (by decide)]; exact h2 v hv1 hv2
  · rw [uR_at, uC_ne (by decide), uC_ne (by decide), uC_ne (by decide)]; exact h3
  · rw [uR_at, uC_ne (by decide), uC_ne (by decide), uC_ne (by decide)]; exact h4
  · rw [uR_at, uC_at, if_neg (by omega)]; exact tI_zI (by omega)
  · rw [uR_at, uC_at, tJ_zJ (by omega)]
  · rw [uR_at, uC_ne (by decide)]; exact h7
  · rw [uR_at, uC_ne (by decide), uC_ne (by decide), uC_at, tI_zI (by omega)]
    refine SuI_ext (fun v => ?_) (SuI_step (v0 := x) hf2.1 h8)
    show hF v + (if v = x then 1 else 0) = hF v + (if v = (if dp = 0 then -1 else f0) then 1 else 0)
    rw [← hx]
  · rw [uR_at, uC_ne (by decide), uC_at, tI_zI (by omega)]
    refine SuI_ext (fun v => ?_) (SuI_step (v0 := l) hf2.1 h9)
    show hL v + (if v = l then 1 else 0) = hL v + (if l = v then 1 else 0)
    by_cases c : v = l
    · rw [if_pos c, if_pos c.symm]
    · rw [if_neg c, if_neg (fun z => c z.symm)]
  · rw [uR_ne (by decide), o0 233 (by decide)]
  · rw [uR_at, uC_at, if_pos (by omega)]; exact tI_zI (by omega)
  · rw [uR_at, uC_at, tJ_zJ (by omega)]; omega
end S94zzzzl
