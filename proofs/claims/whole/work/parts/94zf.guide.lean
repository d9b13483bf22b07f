/-! MODEL: guides come home -/
section S94zf
set_option linter.unusedVariables false
set_option linter.unusedSimpArgs false
theorem ct_283 {d : Nat} {E : EnQ} {F : Nat → Int → Int32} {G : Nat → Int → Int64} {K : Int → Int32} {A : Nat → Int} {s : Nat} (hK : F 218 = K) (hs : s < 16) (hA : ∀ g : Nat, g < 4 → s.testBit g = true → 0 ≤ A g ∧ A g ≤ 30) (hF : ∀ g : Nat, g < 4 → s.testBit g = true → F 231 (g : Int) = zI (A g)) (hd : 1 ≤ d) :
    ∃ r, callP MP d 283 [.ref 217, .int (zI (s : Int))] (mk E F G) = some (Sum.inl (some (.int (zI (okG A s 0 (tI (K 4)) 30)))), mk E (uR F 232 r) G) := by
  obtain ⟨e, rfl⟩ : ∃ e, d = e + 1 := ⟨d - 1, by omega⟩
  have hin : callP MP (e + 1) 283 [.ref 217, .int (zI (s : Int))] (mk E F G) = runP MP e 283 (0, [some (.ref 217), some (.int (zI (s : Int))), none, none, none], [], mk E F G) := into_eq (by omega) hM_283 (rcv_mk rfl (by decide)) rfl
  have ho : (0 : Int) ≤ 0 ∧ (0 : Int) ≤ 9 := by omega
  have hk := tI_rg (K 4)
  have hbit : ∀ g : Nat, g < 4 → o_ishr (zI (s : Int)) (zI (g : Int)) &&& zI 1 = zI (if s.testBit g = true then 1 else 0) := fun g hg => shr_bit (s := s) (p := (g : Int)) (by omega)
  have h1 : runP MP e 283 (0, [some (.ref 217), some (.int (zI (s : Int))), none, none, none], [], mk E F G) = runP MP e 283 (4, [some (.ref 217), some (.int (zI (s : Int))), some (.int (zI (0))), some (.int (zI (0))), none], [], mk E (uR F 232 (F 232)) G) := by
    rw [q_283_0, li_0, uR_self]
  -- out
  let Lf : (Int → Int32) → Nat → Nat → Prop := fun r t g => ∀ h i : Nat, h < 4 → (i < t ∨ (i = t ∧ h < g)) → acG A s i h = true → r (31 * (h : Int) + (i : Int)) = zI (moG A s 0 i h)
  have hac : ∀ i h : Nat, h < 4 → acG A s i h = true → i < 30 := fun i h hh ha => by
    have := ac_1.mp ha
    have := hA h hh this.1
    omega
  have h2in : ∀ (t : Nat) (r : Int → Int32), t < 30 → Lf r t 0 → ∃ r2, Lf r2 (t + 1) 0 ∧ runP MP e 283 (13, [some (.ref 217), some (.int (zI (s : Int))), some (.int (zI (mOG A s 0 t))), some (.int (zI ((t : Int)))), some (.int (zI 0))], [], mk E (uR F 232 r) G) = runP MP e 283 (4, [some (.ref 217), some (.int (zI (s : Int))), some (.int (zI (mOG A s 0 (t + 1)))), some (.int (zI (((t : Int) + 1)))), some (.int (zI 4))], [], mk E (uR F 232 r2) G) := by
    intro t r ht hI
    rw [show mOG A s 0 t = moG A s 0 t 0 from (Int.add_zero _).symm]
    refine loopS (σ := Int → Int32) (Post := fun z => ∃ r2, Lf r2 (t + 1) 0 ∧ z = runP MP e 283 (4, [some (.ref 217), some (.int (zI (s : Int))), some (.int (zI (mOG A s 0 (t + 1)))), some (.int (zI (((t : Int) + 1)))), some (.int (zI 4))], [], mk E (uR F 232 r2) G))
      (fun g s' => runP MP e 283 (13, [some (.ref 217), some (.int (zI (s : Int))), some (.int (zI (moG A s 0 t g))), some (.int (zI ((t : Int)))), some (.int (zI (g : Int)))], [], mk E (uR F 232 s') G))
      (fun g s' => Lf s' t g) 4 r hI (fun s' hs' => ⟨s', fun h i hh hi ha => hs' h i hh (by omega) ha, ?_⟩) (fun g s' hg hs' => ?_)
    · show runP MP e 283 (13, [some (.ref 217), some (.int (zI (s : Int))), some (.int (zI (moG A s 0 t 4))), some (.int (zI ((t : Int)))), some (.int (zI 4))], [], mk E (uR F 232 s') G) = _
      have hm := mo_rg (A := A) (s := s) ho t 4
      rw [show mOG A s 0 (t + 1) = moG A s 0 t 4 from Int.add_zero _]
      rw [q_283_13]; (try simp only [↓n_al, li_0, li_1, li_4, li_12, li_13, li_30, li_31, zI_add, zI_sub, zI_mul, zI_neg, ↓Option.bind_some]); simp (disch := (first | assumption | exact tI_rg _ | omega | exact uR_at | exact row_ne hF (by decide) | exact row_ne (row_ne hF (by decide)) (by decide) | exact SnS_18 | exact SnS_30 | exact LdS_44 | exact LdS_46)) only [q_283_0, q_283_58, q_283_148, ↓n_al, retZ_z, li_0, li_1, li_4, li_12, li_13, li_30, li_31, zI_add, zI_sub, zI_mul, zI_neg, ↓Option.bind_some, ↓g12_0, ↓g12_30, ↓g12_31, ↓al_218, ↓as_218, ↓al_231, ↓as_231, ↓al_232, ↓as_232, zIt2, uR_at, uR_ne, uR_uR, uC_uC, uC_at, ↓reduceIte, decide_eq_true_eq, leT, leF, ltT, ltF, eqT, eqF, ne_eq, not_true_eq_false, not_false_eq_true, Bool.false_eq_true, tI_zI]
    · right
      have hb := hbit g hg
      have hm := mo_rg (A := A) (s := s) ho t g
      by_cases h : s.testBit g = true
      · have a := hA g hg h
        have ef : uR F 232 s' 231 (g : Int) = zI (A g) := by rw [uR_ne (by decide)]; exact hF g hg h
        rw [if_pos h] at hb
        by_cases h3 : (t : Int) < A g
        · have e2 : moG A s 0 t (g + 1) = moG A s 0 t g + 1 := by unfold moG; rw [cntN_pos (ac_1.mpr ⟨h, h3⟩)]; omega
          refine ⟨uC s' (31 * (g : Int) + (t : Int)) (zI (moG A s 0 t g)), fun h' i hh hi ha => ?_, ?_⟩
          · have hi30 := hac i h' hh ha
            by_cases z1 : h' = g ∧ i = t
            · rw [z1.1, z1.2, uC_at]
            · rw [uC_ne (by omega)]; exact hs' h' i hh (by omega) ha
          · show runP MP e 283 _ = runP MP e 283 _
            rw [nsucc, e2]
            rw [q_283_13]; (try simp only [↓n_al, li_0, li_1, li_4, li_12, li_13, li_30, li_31, zI_add, zI_sub, zI_mul, zI_neg, ↓Option.bind_some]); simp (disch := (first | assumption | exact tI_rg _ | omega | exact uR_at | exact row_ne hF (by decide) | exact row_ne (row_ne hF (by decide)) (by decide) | exact SnS_18 | exact SnS_30 | exact LdS_44 | exact LdS_46)) only [q_283_0, q_283_58, q_283_148, hb, ef, ↓n_al, retZ_z, li_0, li_1, li_4, li_12, li_13, li_30, li_31, zI_add, zI_sub, zI_mul, zI_neg, ↓Option.bind_some, ↓g12_0, ↓g12_30, ↓g12_31, ↓al_218, ↓as_218, ↓al_231, ↓as_231, ↓al_232, ↓as_232, zIt2, uR_at, uR_ne, uR_uR, uC_uC, uC_at, ↓reduceIte, decide_eq_true_eq, leT, leF, ltT, ltF, eqT, eqF, ne_eq, not_true_eq_false, not_false_eq_true, Bool.false_eq_true, tI_zI]
        · have e2 : moG A s 0 t (g + 1) = moG A s 0 t g := by unfold moG; rw [cntN_neg (fun z => h3 (ac_1.mp z).2)]
          refine ⟨s', fun h' i hh hi ha => ?_, ?_⟩
          · by_cases z1 : h' = g ∧ i = t
            · rw [z1.1, z1.2] at ha; exact absurd (ac_1.mp ha).2 h3
            · exact hs' h' i hh (by omega) ha
          · show runP MP e 283 _ = runP MP e 283 _
            rw [nsucc, e2]
            rw [q_283_13]; (try simp only [↓n_al, li_0, li_1, li_4, li_12, li_13, li_30, li_31, zI_add, zI_sub, zI_mul, zI_neg, ↓Option.bind_some]); simp (disch := (first | assumption | exact tI_rg _ | omega | exact uR_at | exact row_ne hF (by decide) | exact row_ne (row_ne hF (by decide)) (by decide) | exact SnS_18 | exact SnS_30 | exact LdS_44 | exact LdS_46)) only [q_283_0, q_283_58, q_283_148, hb, ef, ↓n_al, retZ_z, li_0, li_1, li_4, li_12, li_13, li_30, li_31, zI_add, zI_sub, zI_mul, zI_neg, ↓Option.bind_some, ↓g12_0, ↓g12_30, ↓g12_31, ↓al_218, ↓as_218, ↓al_231, ↓as_231, ↓al_232, ↓as_232, zIt2, uR_at, uR_ne, uR_uR, uC_uC, uC_at, ↓reduceIte, decide_eq_true_eq, leT, leF, ltT, ltF, eqT, eqF, ne_eq, not_true_eq_false, not_false_eq_true, Bool.false_eq_true, tI_zI]
      · rw [if_neg h] at hb
        have e2 : moG A s 0 t (g + 1) = moG A s 0 t g := by unfold moG; rw [cntN_neg (fun z => h (ac_1.mp z).1)]
        refine ⟨s', fun h' i hh hi ha => ?_, ?_⟩
        · by_cases z1 : h' = g
          · rw [z1] at ha; exact absurd (ac_1.mp ha).1 h
          · exact hs' h' i hh (by omega) ha
        · show runP MP e 283 _ = runP MP e 283 _
          rw [nsucc, e2]
          rw [q_283_13]; (try simp only [↓n_al, li_0, li_1, li_4, li_12, li_13, li_30, li_31, zI_add, zI_sub, zI_mul, zI_neg, ↓Option.bind_some]); simp (disch := (first | assumption | exact tI_rg _ | omega | exact uR_at | exact row_ne hF (by decide) | exact row_ne (row_ne hF (by decide)) (by decide) | exact SnS_18 | exact SnS_30 | exact LdS_44 | exact LdS_46)) only [q_283_0, q_283_58, q_283_148, hb, ↓n_al, retZ_z, li_0, li_1, li_4, li_12, li_13, li_30, li_31, zI_add, zI_sub, zI_mul, zI_neg, ↓Option.bind_some, ↓g12_0, ↓g12_30, ↓g12_31, ↓al_218, ↓as_218, ↓al_231, ↓as_231, ↓al_232, ↓as_232, zIt2, uR_at, uR_ne, uR_uR, uC_uC, uC_at, ↓reduceIte, decide_eq_true_eq, leT, leF, ltT, ltF, eqT, eqF, ne_eq, not_true_eq_false, not_false_eq_true, Bool.false_eq_true, tI_zI]
  have h2 : ∃ r2, Lf r2 30 0 ∧ ∃ z, runP MP e 283 (4, [some (.ref 217), some (.int (zI (s : Int))), some (.int (zI (0))), some (.int (zI (0))), none], [], mk E (uR F 232 (F 232)) G) = runP MP e 283 (72, [some (.ref 217), some (.int (zI (s : Int))), some (.int (zI (mOG A s 0 30))), some (.int (zI (0))), z], [], mk E (uR F 232 r2) G) := by
    refine loopS (σ := (Int → Int32) × Option Value) (Post := fun z => ∃ r2, Lf r2 30 0 ∧ ∃ y, z = runP MP e 283 (72, [some (.ref 217), some (.int (zI (s : Int))), some (.int (zI (mOG A s 0 30))), some (.int (zI (0))), y], [], mk E (uR F 232 r2) G))
      (fun t s' => runP MP e 283 (4, [some (.ref 217), some (.int (zI (s : Int))), some (.int (zI (mOG A s 0 t))), some (.int (zI ((t : Int)))), s'.2], [], mk E (uR F 232 s'.1) G))
      (fun t s' => Lf s'.1 t 0) 30 (F 232, none) (fun h i _ hi => by omega) (fun s' hs' => ⟨s'.1, hs', s'.2, ?_⟩) (fun t s' ht hs' => ?_)
    · show runP MP e 283 (4, [some (.ref 217), some (.int (zI (s : Int))), some (.int (zI (mOG A s 0 30))), some (.int (zI (30))), s'.2], [], mk E (uR F 232 s'.1) G) = runP MP e 283 _
      have hm := mO_rg (A := A) (s := s) ho 30
      rw [q_283_4]; (try simp only [↓n_al, li_0, li_1, li_4, li_12, li_13, li_30, li_31, zI_add, zI_sub, zI_mul, zI_neg, ↓Option.bind_some]); simp (disch := (first | assumption | exact tI_rg _ | omega | exact uR_at | exact row_ne hF (by decide) | exact row_ne (row_ne hF (by decide)) (by decide) | exact SnS_18 | exact SnS_30 | exact LdS_44 | exact LdS_46)) only [q_283_0, q_283_58, q_283_148, ↓n_al, retZ_z, li_0, li_1, li_4, li_12, li_13, li_30, li_31, zI_add, zI_sub, zI_mul, zI_neg, ↓Option.bind_some, ↓g12_0, ↓g12_30, ↓g12_31, ↓al_218, ↓as_218, ↓al_231, ↓as_231, ↓al_232, ↓as_232, zIt2, uR_at, uR_ne, uR_uR, uC_uC, uC_at, ↓reduceIte, decide_eq_true_eq, leT, leF, ltT, ltF, eqT, eqF, ne_eq, not_true_eq_false, not_false_eq_true, Bool.false_eq_true, tI_zI]
    · right
      obtain ⟨r2, g1, g2⟩ := h2in t s'.1 (by omega) hs'
      have hm := mO_rg (A := A) (s := s) ho t
      refine ⟨(r2, some (.int (zI 4))), g1, ?_⟩
      show runP MP e 283 _ = runP MP e 283 _
      rw [nsucc, ← g2]
      rw [q_283_4]; (try simp only [↓n_al, li_0, li_1, li_4, li_12, li_13, li_30, li_31, zI_add, zI_sub, zI_mul, zI_neg, ↓Option.bind_some]); simp (disch := (first | assumption | exact tI_rg _ | omega | exact uR_at | exact row_ne hF (by decide) | exact row_ne (row_ne hF (by decide)) (by decide) | exact SnS_18 | exact SnS_30 | exact LdS_44 | exact LdS_46)) only [q_283_0, q_283_58, q_283_148, ↓n_al, retZ_z, li_0, li_1, li_4, li_12, li_13, li_30, li_31, zI_add, zI_sub, zI_mul, zI_neg, ↓Option.bind_some, ↓g12_0, ↓g12_30, ↓g12_31, ↓al_218, ↓as_218, ↓al_231, ↓as_231, ↓al_232, ↓as_232, zIt2, uR_at, uR_ne, uR_uR, uC_uC, uC_at, ↓reduceIte, decide_eq_true_eq, leT, leF, ltT, ltF, eqT, eqF, ne_eq, not_true_eq_false, not_false_eq_true, Bool.false_eq_true, tI_zI]
  obtain ⟨r2, hl2, z2, hr2⟩ := h2
  refine ⟨r2, ?_⟩
  rw [hin, h1, hr2]
  have hK2 : uR F 232 r2 218 = K := row_ne hK (by decide)
  -- home
  have hmT := mO_rg (A := A) (s := s) ho 30
  rw [show mOG A s 0 30 = mOG A s 0 30 + mOG A s 0 0 from (Int.add_zero _).symm]
  refine loopS (σ := Option Value) (Post := fun r => r = some (Sum.inl (some (.int (zI (okG A s 0 (tI (K 4)) 30)))), mk E (uR F 232 r2) G))
    (fun t s' => runP MP e 283 (72, [some (.ref 217), some (.int (zI (s : Int))), some (.int (zI (mOG A s 0 30 + mOG A s 0 t))), some (.int (zI ((t : Int)))), s'], [], mk E (uR F 232 r2) G))
    (fun t _ => ∀ t' g, t' < t → g < 4 → bdG A s 0 (tI (K 4)) 30 t' g = false) 30 z2 (fun t' g h => by omega) (fun s' hs' => ?_) (fun t s' ht hs' => ?_)
  · show runP MP e 283 (72, [some (.ref 217), some (.int (zI (s : Int))), some (.int (zI (mOG A s 0 30 + mOG A s 0 30))), some (.int (zI (30))), s'], [], mk E (uR F 232 r2) G) = _
    rw [ok_1 hs']
    rw [q_283_72]; (try simp only [↓n_al, li_0, li_1, li_4, li_12, li_13, li_30, li_31, zI_add, zI_sub, zI_mul, zI_neg, ↓Option.bind_some]); simp (disch := (first | assumption | exact tI_rg _ | omega | exact uR_at | exact row_ne hF (by decide) | exact row_ne (row_ne hF (by decide)) (by decide) | exact SnS_18 | exact SnS_30 | exact LdS_44 | exact LdS_46)) only [q_283_0, q_283_58, q_283_148, ↓n_al, retZ_z, li_0, li_1, li_4, li_12, li_13, li_30, li_31, zI_add, zI_sub, zI_mul, zI_neg, ↓Option.bind_some, ↓g12_0, ↓g12_30, ↓g12_31, ↓al_218, ↓as_218, ↓al_231, ↓as_231, ↓al_232, ↓as_232, zIt2, uR_at, uR_ne, uR_uR, uC_uC, uC_at, ↓reduceIte, decide_eq_true_eq, leT, leF, ltT, ltF, eqT, eqF, ne_eq, not_true_eq_false, not_false_eq_true, Bool.false_eq_true, tI_zI]
  · have hm := mO_rg (A := A) (s := s) ho t
    have h3 : (∃ g, g < 4 ∧ bdG A s 0 (tI (K 4)) 30 t g = true ∧ runP MP e 283 (81, [some (.ref 217), some (.int (zI (s : Int))), some (.int (zI (mOG A s 0 30 + mOG A s 0 t))), some (.int (zI ((t : Int)))), some (.int (zI 0))], [], mk E (uR F 232 r2) G) = some (Sum.inl (some (.int (zI 0))), mk E (uR F 232 r2) G)) ∨ ((∀ g, g < 4 → bdG A s 0 (tI (K 4)) 30 t g = false) ∧ runP MP e 283 (81, [some (.ref 217), some (.int (zI (s : Int))), some (.int (zI (mOG A s 0 30 + mOG A s 0 t))), some (.int (zI ((t : Int)))), some (.int (zI 0))], [], mk E (uR F 232 r2) G) = runP MP e 283 (72, [some (.ref 217), some (.int (zI (s : Int))), some (.int (zI (mOG A s 0 30 + mOG A s 0 (t + 1)))), some (.int (zI (((t : Int) + 1)))), some (.int (zI 4))], [], mk E (uR F 232 r2) G)) := by
      rw [show mOG A s 0 t = moG A s 0 t 0 from (Int.add_zero _).symm]
      refine loopS (σ := Unit) (Post := fun r => (∃ g, g < 4 ∧ bdG A s 0 (tI (K 4)) 30 t g = true ∧ r = some (Sum.inl (some (.int (zI 0))), mk E (uR F 232 r2) G)) ∨ ((∀ g, g < 4 → bdG A s 0 (tI (K 4)) 30 t g = false) ∧ r = runP MP e 283 (72, [some (.ref 217), some (.int (zI (s : Int))), some (.int (zI (mOG A s 0 30 + mOG A s 0 (t + 1)))), some (.int (zI (((t : Int) + 1)))), some (.int (zI 4))], [], mk E (uR F 232 r2) G)))
        (fun g _ => runP MP e 283 (81, [some (.ref 217), some (.int (zI (s : Int))), some (.int (zI (mOG A s 0 30 + moG A s 0 t g))), some (.int (zI ((t : Int)))), some (.int (zI (g : Int)))], [], mk E (uR F 232 r2) G))
        (fun g _ => ∀ h, h < g → bdG A s 0 (tI (K 4)) 30 t h = false) 4 () (fun h hh => by omega) (fun _ hs2 => Or.inr ⟨hs2, ?_⟩) (fun g _ hg hs2 => ?_)
      · show runP MP e 283 (81, [some (.ref 217), some (.int (zI (s : Int))), some (.int (zI (mOG A s 0 30 + moG A s 0 t 4))), some (.int (zI ((t : Int)))), some (.int (zI 4))], [], mk E (uR F 232 r2) G) = runP MP e 283 _
        have hm4 := mo_rg (A := A) (s := s) ho t 4
        rw [show mOG A s 0 (t + 1) = moG A s 0 t 4 from Int.add_zero _]
        rw [q_283_81]; (try simp only [↓n_al, li_0, li_1, li_4, li_12, li_13, li_30, li_31, zI_add, zI_sub, zI_mul, zI_neg, ↓Option.bind_some]); simp (disch := (first | assumption | exact tI_rg _ | omega | exact uR_at | exact row_ne hF (by decide) | exact row_ne (row_ne hF (by decide)) (by decide) | exact SnS_18 | exact SnS_30 | exact LdS_44 | exact LdS_46)) only [q_283_0, q_283_58, q_283_148, ↓n_al, retZ_z, li_0, li_1, li_4, li_12, li_13, li_30, li_31, zI_add, zI_sub, zI_mul, zI_neg, ↓Option.bind_some, ↓g12_0, ↓g12_30, ↓g12_31, ↓al_218, ↓as_218, ↓al_231, ↓as_231, ↓al_232, ↓as_232, zIt2, uR_at, uR_ne, uR_uR, uC_uC, uC_at, ↓reduceIte, decide_eq_true_eq, leT, leF, ltT, ltF, eqT, eqF, ne_eq, not_true_eq_false, not_false_eq_true, Bool.false_eq_true, tI_zI]
      · have hb := hbit g hg
        have hmg := mo_rg (A := A) (s := s) ho t g
        by_cases h : s.testBit g = true
        · have a := hA g hg h
          have ef : uR F 232 r2 231 (g : Int) = zI (A g) := by rw [uR_ne (by decide)]; exact hF g hg h
          rw [if_pos h] at hb
          by_cases h3 : (t : Int) < A g
          · have e2 : moG A s 0 t (g + 1) = moG A s 0 t g + 1 := by unfold moG; rw [cntN_pos (ac_1.mpr ⟨h, h3⟩)]; omega
            have ei : (((A g - 1 - (t : Int)).toNat : Nat) : Int) = A g - 1 - (t : Int) := by omega
            have el := hl2 g (A g - 1 - (t : Int)).toNat hg (Or.inl (by omega)) (ac_1.mpr ⟨h, by omega⟩)
            rw [ei, show 31 * (g : Int) + (A g - 1 - (t : Int)) = 31 * (g : Int) + A g - 1 - (t : Int) by omega] at el
            have hmi := mo_rg (A := A) (s := s) ho (A g - 1 - (t : Int)).toNat g
            by_cases hbd : tI (K 4) < mOG A s 0 30 + moG A s 0 t g - moG A s 0 (A g - 1 - (t : Int)).toNat g
            · left; left
              refine ⟨g, hg, by unfold bdG; rw [Bool.and_eq_true]; exact ⟨ac_1.mpr ⟨h, h3⟩, decide_eq_true hbd⟩, ?_⟩
              show runP MP e 283 _ = _
              rw [q_283_81]; (try simp only [↓n_al, li_0, li_1, li_4, li_12, li_13, li_30, li_31, zI_add, zI_sub, zI_mul, zI_neg, ↓Option.bind_some]); simp (disch := (first | assumption | exact tI_rg _ | omega | exact uR_at | exact row_ne hF (by decide) | exact row_ne (row_ne hF (by decide)) (by decide) | exact SnS_18 | exact SnS_30 | exact LdS_44 | exact LdS_46)) only [q_283_0, q_283_58, q_283_148, hb, ef, el, hK2, ↓n_al, retZ_z, li_0, li_1, li_4, li_12, li_13, li_30, li_31, zI_add, zI_sub, zI_mul, zI_neg, ↓Option.bind_some, ↓g12_0, ↓g12_30, ↓g12_31, ↓al_218, ↓as_218, ↓al_231, ↓as_231, ↓al_232, ↓as_232, zIt2, uR_at, uR_ne, uR_uR, uC_uC, uC_at, ↓reduceIte, decide_eq_true_eq, leT, leF, ltT, ltF, eqT, eqF, ne_eq, not_true_eq_false, not_false_eq_true, Bool.false_eq_true, tI_zI]
            · right
              refine ⟨(), fun h' hh => ?_, ?_⟩
              · by_cases z : h' = g
                · rw [z]; unfold bdG; rw [decide_eq_false hbd, Bool.and_false]
                · exact hs2 h' (by omega)
              · show runP MP e 283 _ = runP MP e 283 _
                rw [nsucc, e2, ← Int.add_assoc]
                rw [q_283_81]; (try simp only [↓n_al, li_0, li_1, li_4, li_12, li_13, li_30, li_31, zI_add, zI_sub, zI_mul, zI_neg, ↓Option.bind_some]); simp (disch := (first | assumption | exact tI_rg _ | omega | exact uR_at | exact row_ne hF (by decide) | exact row_ne (row_ne hF (by decide)) (by decide) | exact SnS_18 | exact SnS_30 | exact LdS_44 | exact LdS_46)) only [q_283_0, q_283_58, q_283_148, hb, ef, el, hK2, ↓n_al, retZ_z, li_0, li_1, li_4, li_12, li_13, li_30, li_31, zI_add, zI_sub, zI_mul, zI_neg, ↓Option.bind_some, ↓g12_0, ↓g12_30, ↓g12_31, ↓al_218, ↓as_218, ↓al_231, ↓as_231, ↓al_232, ↓as_232, zIt2, uR_at, uR_ne, uR_uR, uC_uC, uC_at, ↓reduceIte, decide_eq_true_eq, leT, leF, ltT, ltF, eqT, eqF, ne_eq, not_true_eq_false, not_false_eq_true, Bool.false_eq_true, tI_zI]
          · right
            have e2 : moG A s 0 t (g + 1) = moG A s 0 t g := by unfold moG; rw [cntN_neg (fun z => h3 (ac_1.mp z).2)]
            refine ⟨(), fun h' hh => ?_, ?_⟩
            · by_cases z : h' = g
              · rw [z]; unfold bdG; rw [show acG A s t g = false from Bool.eq_false_iff.mpr (fun z => h3 (ac_1.mp z).2)]; rfl
              · exact hs2 h' (by omega)
            · show runP MP e 283 _ = runP MP e 283 _
              rw [nsucc, e2]
              rw [q_283_81]; (try simp only [↓n_al, li_0, li_1, li_4, li_12, li_13, li_30, li_31, zI_add, zI_sub, zI_mul, zI_neg, ↓Option.bind_some]); simp (disch := (first | assumption | exact tI_rg _ | omega | exact uR_at | exact row_ne hF (by decide) | exact row_ne (row_ne hF (by decide)) (by decide) | exact SnS_18 | exact SnS_30 | exact LdS_44 | exact LdS_46)) only [q_283_0, q_283_58, q_283_148, hb, ef, ↓n_al, retZ_z, li_0, li_1, li_4, li_12, li_13, li_30, li_31, zI_add, zI_sub, zI_mul, zI_neg, ↓Option.bind_some, ↓g12_0, ↓g12_30, ↓g12_31, ↓al_218, ↓as_218, ↓al_231, ↓as_231, ↓al_232, ↓as_232, zIt2, uR_at, uR_ne, uR_uR, uC_uC, uC_at, ↓reduceIte, decide_eq_true_eq, leT, leF, ltT, ltF, eqT, eqF, ne_eq, not_true_eq_false, not_false_eq_true, Bool.false_eq_true, tI_zI]
        · right
          rw [if_neg h] at hb
          have e2 : moG A s 0 t (g + 1) = moG A s 0 t g := by unfold moG; rw [cntN_neg (fun z => h (ac_1.mp z).1)]
          refine ⟨(), fun h' hh => ?_, ?_⟩
          · by_cases z : h' = g
            · rw [z]; unfold bdG; rw [show acG A s t g = false from Bool.eq_false_iff.mpr (fun z => h (ac_1.mp z).1)]; rfl
            · exact hs2 h' (by omega)
          · show runP MP e 283 _ = runP MP e 283 _
            rw [nsucc, e2]
            rw [q_283_81]; (try simp only [↓n_al, li_0, li_1, li_4, li_12, li_13, li_30, li_31, zI_add, zI_sub, zI_mul, zI_neg, ↓Option.bind_some]); simp (disch := (first | assumption | exact tI_rg _ | omega | exact uR_at | exact row_ne hF (by decide) | exact row_ne (row_ne hF (by decide)) (by decide) | exact SnS_18 | exact SnS_30 | exact LdS_44 | exact LdS_46)) only [q_283_0, q_283_58, q_283_148, hb, ↓n_al, retZ_z, li_0, li_1, li_4, li_12, li_13, li_30, li_31, zI_add, zI_sub, zI_mul, zI_neg, ↓Option.bind_some, ↓g12_0, ↓g12_30, ↓g12_31, ↓al_218, ↓as_218, ↓al_231, ↓as_231, ↓al_232, ↓as_232, zIt2, uR_at, uR_ne, uR_uR, uC_uC, uC_at, ↓reduceIte, decide_eq_true_eq, leT, leF, ltT, ltF, eqT, eqF, ne_eq, not_true_eq_false, not_false_eq_true, Bool.false_eq_true, tI_zI]
    rcases h3 with ⟨g, g1, g2, g3⟩ | ⟨g1, g2⟩
    · left
      show runP MP e 283 _ = _
      rw [ok_0 ht g1 g2, ← g3]
      rw [q_283_72]; (try simp only [↓n_al, li_0, li_1, li_4, li_12, li_13, li_30, li_31, zI_add, zI_sub, zI_mul, zI_neg, ↓Option.bind_some]); simp (disch := (first | assumption | exact tI_rg _ | omega | exact uR_at | exact row_ne hF (by decide) | exact row_ne (row_ne hF (by decide)) (by decide) | exact SnS_18 | exact SnS_30 | exact LdS_44 | exact LdS_46)) only [q_283_0, q_283_58, q_283_148, ↓n_al, retZ_z, li_0, li_1, li_4, li_12, li_13, li_30, li_31, zI_add, zI_sub, zI_mul, zI_neg, ↓Option.bind_some, ↓g12_0, ↓g12_30, ↓g12_31, ↓al_218, ↓as_218, ↓al_231, ↓as_231, ↓al_232, ↓as_232, zIt2, uR_at, uR_ne, uR_uR, uC_uC, uC_at, ↓reduceIte, decide_eq_true_eq, leT, leF, ltT, ltF, eqT, eqF, ne_eq, not_true_eq_false, not_false_eq_true, Bool.false_eq_true, tI_zI]
    · right
      refine ⟨some (.int (zI 4)), fun t' g ht' hg => ?_, ?_⟩
      · by_cases z : t' = t
        · rw [z]; exact g1 g hg
        · exact hs' t' g (by omega) hg
      · show runP MP e 283 _ = runP MP e 283 _
        rw [nsucc, ← g2]
        rw [q_283_72]; (try simp only [↓n_al, li_0, li_1, li_4, li_12, li_13, li_30, li_31, zI_add, zI_sub, zI_mul, zI_neg, ↓Option.bind_some]); simp (disch := (first | assumption | exact tI_rg _ | omega | exact uR_at | exact row_ne hF (by decide) | exact row_ne (row_ne hF (by decide)) (by decide) | exact SnS_18 | exact SnS_30 | exact LdS_44 | exact LdS_46)) only [q_283_0, q_283_58, q_283_148, ↓n_al, retZ_z, li_0, li_1, li_4, li_12, li_13, li_30, li_31, zI_add, zI_sub, zI_mul, zI_neg, ↓Option.bind_some, ↓g12_0, ↓g12_30, ↓g12_31, ↓al_218, ↓as_218, ↓al_231, ↓as_231, ↓al_232, ↓as_232, zIt2, uR_at, uR_ne, uR_uR, uC_uC, uC_at, ↓reduceIte, decide_eq_true_eq, leT, leF, ltT, ltF, eqT, eqF, ne_eq, not_true_eq_false, not_false_eq_true, Bool.false_eq_true, tI_zI]
end S94zf
