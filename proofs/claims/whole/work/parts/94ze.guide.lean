/-! guides -/
section S94ze
set_option linter.unusedVariables false
set_option linter.unusedSimpArgs false
/-- who is out at a turn; how many steps were made ahead of it, ahead of one's own -/
def acG (A : Nat → Int) (s t g : Nat) : Bool := s.testBit g && decide ((t : Int) < A g)
def mOG (A : Nat → Int) (s : Nat) (o : Int) : Nat → Int
  | 0 => 0
  | t + 1 => mOG A s o t + cntN (acG A s t) 4 + o
def moG (A : Nat → Int) (s : Nat) (o : Int) (t g : Nat) : Int := mOG A s o t + cntN (acG A s t) g
/-- gone: the print that a guide goes back over -/
def bdG (A : Nat → Int) (s : Nat) (o kp : Int) (T t g : Nat) : Bool := acG A s t g && decide (kp < mOG A s o T + moG A s o t g - moG A s o (A g - 1 - t).toNat g)
def btG (A : Nat → Int) (s : Nat) (o kp : Int) (T t : Nat) : Bool := decide (fndN (bdG A s o kp T t) 4 0 ≠ -1)
def okG (A : Nat → Int) (s : Nat) (o kp : Int) (T : Nat) : Int := if fndN (btG A s o kp T) T 0 = -1 then 1 else 0
def mxG (A : Nat → Int) (s : Nat) : Nat → Int
  | 0 => 0
  | g + 1 => if s.testBit g = true then (if mxG A s g < A g then A g else mxG A s g) else mxG A s g
theorem ac_1 {A : Nat → Int} {s t g : Nat} : acG A s t g = true ↔ s.testBit g = true ∧ (t : Int) < A g := by unfold acG; rw [Bool.and_eq_true, decide_eq_true_eq]
theorem mO_rg {A : Nat → Int} {s : Nat} {o : Int} (ho : 0 ≤ o ∧ o ≤ 9) : ∀ t : Nat, 0 ≤ mOG A s o t ∧ mOG A s o t ≤ 13 * t := by
  intro t
  induction t with
  | zero => exact ⟨Int.le_refl _, Int.le_refl _⟩
  | succ t ih =>
    have h1 := cntN_rg (acG A s t) 4
    have h2 : mOG A s o (t + 1) = mOG A s o t + cntN (acG A s t) 4 + o := rfl
    omega
theorem mo_rg {A : Nat → Int} {s : Nat} {o : Int} (ho : 0 ≤ o ∧ o ≤ 9) (t g : Nat) : 0 ≤ moG A s o t g ∧ moG A s o t g ≤ 13 * t + g := by
  have h1 := mO_rg (A := A) (s := s) ho t
  have h2 := cntN_rg (acG A s t) g
  unfold moG; omega
theorem mx_rg {A : Nat → Int} {s : Nat} (hA : ∀ g : Nat, g < 4 → s.testBit g = true → 0 ≤ A g ∧ A g ≤ 60) : ∀ g, g ≤ 4 → 0 ≤ mxG A s g ∧ mxG A s g ≤ 60 ∧ ∀ h, h < g → s.testBit h = true → A h ≤ mxG A s g := by
  intro g
  induction g with
  | zero => intro _; exact ⟨Int.le_refl _, by show (0 : Int) ≤ 60; omega, fun h hh => by omega⟩
  | succ g ih =>
    intro hg
    obtain ⟨i1, i2, i3⟩ := ih (by omega)
    by_cases e : s.testBit g = true
    · have a := hA g (by omega) e
      have e2 : mxG A s (g + 1) = if mxG A s g < A g then A g else mxG A s g := if_pos e
      rw [e2]
      refine ⟨by split <;> omega, by split <;> omega, fun h hh hb => ?_⟩
      by_cases z : h = g
      · rw [z]; split <;> omega
      · have := i3 h (by omega) hb
        split <;> omega
    · have e2 : mxG A s (g + 1) = mxG A s g := if_neg e
      rw [e2]
      exact ⟨i1, i2, fun h hh hb => by
        by_cases z : h = g
        · rw [z] at hb; exact absurd hb e
        · exact i3 h (by omega) hb⟩
theorem ok_1 {A : Nat → Int} {s : Nat} {o kp : Int} {T : Nat} (h : ∀ t g, t < T → g < 4 → bdG A s o kp T t g = false) : okG A s o kp T = 1 := by
  exact if_pos (fndN_none (p := btG A s o kp T) (fun t _ ht => decide_eq_false (fun z => z (fndN_none (p := bdG A s o kp T t) (fun g _ hg => h t g (by omega) (by omega))))))
theorem ok_0 {A : Nat → Int} {s : Nat} {o kp : Int} {T t g : Nat} (ht : t < T) (hg : g < 4) (h : bdG A s o kp T t g = true) : okG A s o kp T = 0 := by
  unfold okG
  rw [if_neg (fnd_some ht (decide_eq_true (fnd_some hg h)))]
theorem ok_rg (A : Nat → Int) (s : Nat) (o kp : Int) (T : Nat) : okG A s o kp T = 0 ∨ okG A s o kp T = 1 := by unfold okG; split <;> omega
/-- beyond the last turn out nothing happens -/
theorem ac_beyond {A : Nat → Int} {s T : Nat} (hT : ∀ g : Nat, g < 4 → s.testBit g = true → A g ≤ T) {t g : Nat} (ht : T ≤ t) (hg : g < 4) : acG A s t g = false := by
  cases h : acG A s t g with
  | false => rfl
  | true =>
    have := ac_1.mp h
    have := hT g hg this.1
    omega
theorem mO_beyond {A : Nat → Int} {s T : Nat} (hT : ∀ g : Nat, g < 4 → s.testBit g = true → A g ≤ T) : ∀ t, T ≤ t → mOG A s 0 t = mOG A s 0 T := by
  intro t
  induction t with
  | zero => intro h; rw [show T = 0 by omega]
  | succ t ih =>
    intro h
    by_cases e : T = t + 1
    · rw [e]
    · have h1 : mOG A s 0 (t + 1) = mOG A s 0 t + cntN (acG A s t) 4 + 0 := rfl
      rw [h1, ih (by omega), cntN_z.mpr (fun j hj => ac_beyond hT (by omega) hj)]; omega
theorem ok_beyond {A : Nat → Int} {s T T' : Nat} {kp : Int} (hT : ∀ g : Nat, g < 4 → s.testBit g = true → A g ≤ T) (h : T ≤ T') : okG A s 0 kp T' = okG A s 0 kp T := by
  have e : ∀ t g, bdG A s 0 kp T' t g = bdG A s 0 kp T t g := fun t g => by unfold bdG; rw [mO_beyond hT T' h]
  by_cases q : ∃ t g, t < T ∧ g < 4 ∧ bdG A s 0 kp T t g = true
  · obtain ⟨t, g, h1, h2, h3⟩ := q
    rw [ok_0 h1 h2 h3, ok_0 (show t < T' by omega) h2 ((e t g).trans h3)]
  · have q2 : ∀ t g, t < T → g < 4 → bdG A s 0 kp T t g = false := fun t g h1 h2 => Bool.eq_false_iff.mpr (fun z => q ⟨t, g, h1, h2, z⟩)
    rw [ok_1 q2, ok_1 (fun t g h1 h2 => by
      by_cases z : t < T
      · rw [e]; exact q2 t g z h2
      · unfold bdG; rw [ac_beyond hT (by omega) h2]; rfl)]
theorem sh174 {E : EnQ} {g : Nat} (h : g < 4) : shx E (174 + g) = (2, 0, 60) := by
  rcases (show g = 0 ∨ g = 1 ∨ g = 2 ∨ g = 3 by omega) with rfl | rfl | rfl | rfl <;> rfl
theorem ct_12 {d : Nat} {E : EnQ} {F : Nat → Int → Int32} {G : Nat → Int → Int64} {A : Nat → Int} {s : Nat} {o kp : Int} (hL : ∀ g : Nat, g < 4 → E.2.2.2 173 (g : Int) = 174 + g) (hs : s < 16) (hA : ∀ g : Nat, g < 4 → s.testBit g = true → 0 ≤ A g ∧ A g ≤ 60) (hF : ∀ g : Nat, g < 4 → s.testBit g = true → F 172 (g : Int) = zI (A g)) (ho : 0 ≤ o ∧ o ≤ 9) (hk : -2147483648 ≤ kp ∧ kp ≤ 2147483647) (hd : 1 ≤ d) :
    ∃ F1, callP MP d 12 [.ref 171, .int (zI (s : Int)), .int (zI o), .int (zI kp)] (mk E F G) = some (Sum.inl (some (.int (zI (okG A s o kp (mxG A s 4).toNat)))), mk E F1 G) ∧ ∀ q, ¬ (174 ≤ q ∧ q ≤ 177) → F1 q = F q := by
  obtain ⟨e, rfl⟩ : ∃ e, d = e + 1 := ⟨d - 1, by omega⟩
  have hin : callP MP (e + 1) 12 [.ref 171, .int (zI (s : Int)), .int (zI o), .int (zI kp)] (mk E F G) = runP MP e 12 (0, [some (.ref 171), some (.int (zI (s : Int))), some (.int (zI o)), some (.int (zI kp)), none, none, none, none], [], mk E F G) := into_eq (by omega) hM_12 (rcv_mk rfl (by decide)) rfl
  obtain ⟨x0, x60, xle⟩ := mx_rg hA 4 (Nat.le_refl 4)
  have hbit : ∀ g : Nat, g < 4 → o_iushr (zI (s : Int)) (zI (g : Int)) &&& zI 1 = zI (if s.testBit g = true then 1 else 0) := fun g hg => ushr_bit (s := s) (p := (g : Int)) (by omega)
  have h1 : runP MP e 12 (0, [some (.ref 171), some (.int (zI (s : Int))), some (.int (zI o)), some (.int (zI kp)), none, none, none, none], [], mk E F G) = runP MP e 12 (47, [some (.ref 171), some (.int (zI (s : Int))), some (.int (zI o)), some (.int (zI kp)), some (.int (zI (mxG A s 4))), some (.int (zI (0))), some (.int (zI (0))), none], [], mk E F G) := by
    rw [q_12_0, li_0]
    refine (loopN (fun j : Nat => runP MP e 12 (6, [some (.ref 171), some (.int (zI (s : Int))), some (.int (zI o)), some (.int (zI kp)), some (.int (zI (mxG A s j))), some (.int (zI (j : Nat))), none, none], [], mk E F G)) (4) (fun j hj => ?_)).trans ?_
    · show runP MP e 12 (6, [some (.ref 171), some (.int (zI (s : Int))), some (.int (zI o)), some (.int (zI kp)), some (.int (zI (mxG A s j))), some (.int (zI (j : Nat))), none, none], [], mk E F G) = runP MP e 12 (6, [some (.ref 171), some (.int (zI (s : Int))), some (.int (zI o)), some (.int (zI kp)), some (.int (zI (mxG A s (j + 1)))), some (.int (zI ((j + 1) : Nat))), none, none], [], mk E F G)
      have hb := hbit j hj
      obtain ⟨y0, y60, -⟩ := mx_rg hA j (by omega)
      rw [nsucc]
      by_cases h : s.testBit j = true
      · have a := hA j hj h
        have ef := hF j hj h
        have e2 : mxG A s (j + 1) = if mxG A s j < A j then A j else mxG A s j := if_pos h
        rw [e2]
        rw [if_pos h] at hb
        rw [q_12_6]; (try simp only [↓n_al, li_0, li_1, li_4, li_6, li_12, li_57, li_99, li_120, zI_add, zI_sub, zI_mul, zI_neg, ↓Option.bind_some]); simp (disch := (first | assumption | exact tI_rg _ | omega | exact uR_at | exact row_ne hF (by decide) | exact row_ne (row_ne hF (by decide)) (by decide) | exact SnS_18 | exact SnS_30 | exact LdS_44 | exact LdS_46)) only [q_12_0, q_12_35, q_12_99, q_12_189, hb, ef, maxZ, ↓n_al, retZ_z, li_0, li_1, li_4, li_6, li_12, li_57, li_99, li_120, zI_add, zI_sub, zI_mul, zI_neg, ↓Option.bind_some, ↓g0_0, ↓g0_1, ↓al_172, ↓as_172, zIt2, uR_at, uR_ne, uR_uR, uC_uC, uC_at, ↓reduceIte, decide_eq_true_eq, leT, leF, ltT, ltF, eqT, eqF, ne_eq, not_true_eq_false, not_false_eq_true, Bool.false_eq_true, tI_zI]
      · have e2 : mxG A s (j + 1) = mxG A s j := if_neg h
        rw [e2]
        rw [if_neg h] at hb
        rw [q_12_6]; (try simp only [↓n_al, li_0, li_1, li_4, li_6, li_12, li_57, li_99, li_120, zI_add, zI_sub, zI_mul, zI_neg, ↓Option.bind_some]); simp (disch := (first | assumption | exact tI_rg _ | omega | exact uR_at | exact row_ne hF (by decide) | exact row_ne (row_ne hF (by decide)) (by decide) | exact SnS_18 | exact SnS_30 | exact LdS_44 | exact LdS_46)) only [q_12_0, q_12_35, q_12_99, q_12_189, hb, ↓n_al, retZ_z, li_0, li_1, li_4, li_6, li_12, li_57, li_99, li_120, zI_add, zI_sub, zI_mul, zI_neg, ↓Option.bind_some, ↓g0_0, ↓g0_1, ↓al_172, ↓as_172, zIt2, uR_at, uR_ne, uR_uR, uC_uC, uC_at, ↓reduceIte, decide_eq_true_eq, leT, leF, ltT, ltF, eqT, eqF, ne_eq, not_true_eq_false, not_false_eq_true, Bool.false_eq_true, tI_zI]
    · show runP MP e 12 (6, [some (.ref 171), some (.int (zI (s : Int))), some (.int (zI o)), some (.int (zI kp)), some (.int (zI (mxG A s (4)))), some (.int (zI ((4) : Nat))), none, none], [], mk E F G) = _
      show runP MP e 12 (6, [some (.ref 171), some (.int (zI (s : Int))), some (.int (zI o)), some (.int (zI kp)), some (.int (zI (mxG A s 4))), some (.int (zI 4)), none, none], [], mk E F G) = _
      rw [q_12_6]; (try simp only [↓n_al, li_0, li_1, li_4, li_6, li_12, li_57, li_99, li_120, zI_add, zI_sub, zI_mul, zI_neg, ↓Option.bind_some]); simp (disch := (first | assumption | exact tI_rg _ | omega | exact uR_at | exact row_ne hF (by decide) | exact row_ne (row_ne hF (by decide)) (by decide) | exact SnS_18 | exact SnS_30 | exact LdS_44 | exact LdS_46)) only [q_12_0, q_12_35, q_12_99, q_12_189, ↓n_al, retZ_z, li_0, li_1, li_4, li_6, li_12, li_57, li_99, li_120, zI_add, zI_sub, zI_mul, zI_neg, ↓Option.bind_some, ↓g0_0, ↓g0_1, ↓al_172, ↓as_172, zIt2, uR_at, uR_ne, uR_uR, uC_uC, uC_at, ↓reduceIte, decide_eq_true_eq, leT, leF, ltT, ltF, eqT, eqF, ne_eq, not_true_eq_false, not_false_eq_true, Bool.false_eq_true, tI_zI]

  -- out
  have hdR : ∀ {F' : Nat → Int → Int32} {kn : ResP} {ka : Nat → ResP} {g : Nat}, g < 4 → dR (aldR (mk E F' G) 6 173 (zI (g : Int))) kn ka = ka (174 + g) := fun {F' kn ka g} hg => by
    have e := hL g hg
    rw [alR_b (E := E) (a := 173) (ty := 6) (n := 4) rfl (by omega) (by decide) (by rw [e]; omega)]
    unfold rfQ; rw [e]
  let Lf : (Nat → Int → Int32) → Nat → Nat → Prop := fun F' t g => (∀ q, ¬ (174 ≤ q ∧ q ≤ 177) → F' q = F q) ∧ ∀ h i : Nat, h < 4 → (i < t ∨ (i = t ∧ h < g)) → acG A s i h = true → F' (174 + h) (i : Int) = zI (moG A s o i h)
  have h2in : ∀ (t : Nat) (F' : Nat → Int → Int32) (z : Option Value), (t : Int) < mxG A s 4 → Lf F' t 0 → ∃ F2, Lf F2 (t + 1) 0 ∧ runP MP e 12 (57, [some (.ref 171), some (.int (zI (s : Int))), some (.int (zI o)), some (.int (zI kp)), some (.int (zI (mxG A s 4))), some (.int (zI (mOG A s o t))), some (.int (zI ((t : Int)))), some (.int (zI 0))], [], mk E F' G) = runP MP e 12 (47, [some (.ref 171), some (.int (zI (s : Int))), some (.int (zI o)), some (.int (zI kp)), some (.int (zI (mxG A s 4))), some (.int (zI (mOG A s o (t + 1)))), some (.int (zI (((t : Int) + 1)))), some (.int (zI 4))], [], mk E F2 G) := by
    intro t F' z ht hI
    rw [show mOG A s o t = moG A s o t 0 from (Int.add_zero _).symm]
    refine loopS (σ := Nat → Int → Int32) (Post := fun r => ∃ F2, Lf F2 (t + 1) 0 ∧ r = runP MP e 12 (47, [some (.ref 171), some (.int (zI (s : Int))), some (.int (zI o)), some (.int (zI kp)), some (.int (zI (mxG A s 4))), some (.int (zI (mOG A s o (t + 1)))), some (.int (zI (((t : Int) + 1)))), some (.int (zI 4))], [], mk E F2 G))
      (fun g s' => runP MP e 12 (57, [some (.ref 171), some (.int (zI (s : Int))), some (.int (zI o)), some (.int (zI kp)), some (.int (zI (mxG A s 4))), some (.int (zI (moG A s o t g))), some (.int (zI ((t : Int)))), some (.int (zI (g : Int)))], [], mk E s' G))
      (fun g s' => Lf s' t g) 4 F' hI (fun s' hs' => ⟨s', ⟨hs'.1, fun h i hh hi ha => hs'.2 h i hh (by omega) ha⟩, ?_⟩) (fun g s' hg hs' => ?_)
    · show runP MP e 12 (57, [some (.ref 171), some (.int (zI (s : Int))), some (.int (zI o)), some (.int (zI kp)), some (.int (zI (mxG A s 4))), some (.int (zI (moG A s o t 4))), some (.int (zI ((t : Int)))), some (.int (zI 4))], [], mk E s' G) = _
      have hm := mo_rg (A := A) (s := s) ho t 4
      rw [show mOG A s o (t + 1) = moG A s o t 4 + o from rfl]
      rw [q_12_57]; (try simp only [↓n_al, li_0, li_1, li_4, li_6, li_12, li_57, li_99, li_120, zI_add, zI_sub, zI_mul, zI_neg, ↓Option.bind_some]); simp (disch := (first | assumption | exact tI_rg _ | omega | exact uR_at | exact row_ne hF (by decide) | exact row_ne (row_ne hF (by decide)) (by decide) | exact SnS_18 | exact SnS_30 | exact LdS_44 | exact LdS_46)) only [q_12_0, q_12_35, q_12_99, q_12_189, ↓n_al, retZ_z, li_0, li_1, li_4, li_6, li_12, li_57, li_99, li_120, zI_add, zI_sub, zI_mul, zI_neg, ↓Option.bind_some, ↓g0_0, ↓g0_1, ↓al_172, ↓as_172, zIt2, uR_at, uR_ne, uR_uR, uC_uC, uC_at, ↓reduceIte, decide_eq_true_eq, leT, leF, ltT, ltF, eqT, eqF, ne_eq, not_true_eq_false, not_false_eq_true, Bool.false_eq_true, tI_zI]
    · right
      have hb := hbit g hg
      have hm := mo_rg (A := A) (s := s) ho t g
      by_cases h : s.testBit g = true
      · have a := hA g hg h
        have ef : s' 172 (g : Int) = zI (A g) := by rw [hs'.1 172 (by omega)]; exact hF g hg h
        rw [if_pos h] at hb
        by_cases h3 : (t : Int) < A g
        · have e2 : moG A s o t (g + 1) = moG A s o t g + 1 := by unfold moG; rw [cntN_pos (ac_1.mpr ⟨h, h3⟩)]; omega
          have hst : ∀ {x : Int32} {f : HeapP → ResP}, (astI (mk E s' G) 0 (174 + g) (zI (t : Int)) x).bind f = f (mk E (uR s' (174 + g) (uC (s' (174 + g)) (t : Int) x)) G) := fun {x f} => asI_b (n := 60) (sh174 hg) (by omega) (by decide)
          refine ⟨uR s' (174 + g) (uC (s' (174 + g)) (t : Int) (zI (moG A s o t g))), ⟨fun q hq => (uR_ne (by omega)).trans (hs'.1 q hq), fun h' i hh hi ha => ?_⟩, ?_⟩
          · by_cases z1 : h' = g
            · rw [z1, uR_at]
              by_cases z2 : i = t
              · rw [z2, uC_at]
              · rw [uC_ne (by omega)]; exact hs'.2 g i hg (by omega) (z1 ▸ ha)
            · rw [uR_ne (by omega)]; exact hs'.2 h' i hh (by omega) ha
          · show runP MP e 12 _ = runP MP e 12 _
            rw [nsucc, e2]
            rw [q_12_57]; (try simp only [↓n_al, li_0, li_1, li_4, li_6, li_12, li_57, li_99, li_120, zI_add, zI_sub, zI_mul, zI_neg, ↓Option.bind_some]); simp (disch := (first | assumption | exact tI_rg _ | omega | exact uR_at | exact row_ne hF (by decide) | exact row_ne (row_ne hF (by decide)) (by decide) | exact SnS_18 | exact SnS_30 | exact LdS_44 | exact LdS_46)) only [q_12_0, q_12_35, q_12_99, q_12_189, hb, ef, ↓hdR hg, ↓hst, ↓n_al, retZ_z, li_0, li_1, li_4, li_6, li_12, li_57, li_99, li_120, zI_add, zI_sub, zI_mul, zI_neg, ↓Option.bind_some, ↓g0_0, ↓g0_1, ↓al_172, ↓as_172, zIt2, uR_at, uR_ne, uR_uR, uC_uC, uC_at, ↓reduceIte, decide_eq_true_eq, leT, leF, ltT, ltF, eqT, eqF, ne_eq, not_true_eq_false, not_false_eq_true, Bool.false_eq_true, tI_zI]
        · have e2 : moG A s o t (g + 1) = moG A s o t g := by unfold moG; rw [cntN_neg (fun z => h3 (ac_1.mp z).2)]
          refine ⟨s', ⟨hs'.1, fun h' i hh hi ha => ?_⟩, ?_⟩
          · by_cases z1 : h' = g ∧ i = t
            · rw [z1.1, z1.2] at ha; exact absurd (ac_1.mp ha).2 h3
            · exact hs'.2 h' i hh (by omega) ha
          · show runP MP e 12 _ = runP MP e 12 _
            rw [nsucc, e2]
            rw [q_12_57]; (try simp only [↓n_al, li_0, li_1, li_4, li_6, li_12, li_57, li_99, li_120, zI_add, zI_sub, zI_mul, zI_neg, ↓Option.bind_some]); simp (disch := (first | assumption | exact tI_rg _ | omega | exact uR_at | exact row_ne hF (by decide) | exact row_ne (row_ne hF (by decide)) (by decide) | exact SnS_18 | exact SnS_30 | exact LdS_44 | exact LdS_46)) only [q_12_0, q_12_35, q_12_99, q_12_189, hb, ef, ↓n_al, retZ_z, li_0, li_1, li_4, li_6, li_12, li_57, li_99, li_120, zI_add, zI_sub, zI_mul, zI_neg, ↓Option.bind_some, ↓g0_0, ↓g0_1, ↓al_172, ↓as_172, zIt2, uR_at, uR_ne, uR_uR, uC_uC, uC_at, ↓reduceIte, decide_eq_true_eq, leT, leF, ltT, ltF, eqT, eqF, ne_eq, not_true_eq_false, not_false_eq_true, Bool.false_eq_true, tI_zI]
      · rw [if_neg h] at hb
        have e2 : moG A s o t (g + 1) = moG A s o t g := by unfold moG; rw [cntN_neg (fun z => h (ac_1.mp z).1)]
        refine ⟨s', ⟨hs'.1, fun h' i hh hi ha => ?_⟩, ?_⟩
        · by_cases z1 : h' = g
          · rw [z1] at ha; exact absurd (ac_1.mp ha).1 h
          · exact hs'.2 h' i hh (by omega) ha
        · show runP MP e 12 _ = runP MP e 12 _
          rw [nsucc, e2]
          rw [q_12_57]; (try simp only [↓n_al, li_0, li_1, li_4, li_6, li_12, li_57, li_99, li_120, zI_add, zI_sub, zI_mul, zI_neg, ↓Option.bind_some]); simp (disch := (first | assumption | exact tI_rg _ | omega | exact uR_at | exact row_ne hF (by decide) | exact row_ne (row_ne hF (by decide)) (by decide) | exact SnS_18 | exact SnS_30 | exact LdS_44 | exact LdS_46)) only [q_12_0, q_12_35, q_12_99, q_12_189, hb, ↓n_al, retZ_z, li_0, li_1, li_4, li_6, li_12, li_57, li_99, li_120, zI_add, zI_sub, zI_mul, zI_neg, ↓Option.bind_some, ↓g0_0, ↓g0_1, ↓al_172, ↓as_172, zIt2, uR_at, uR_ne, uR_uR, uC_uC, uC_at, ↓reduceIte, decide_eq_true_eq, leT, leF, ltT, ltF, eqT, eqF, ne_eq, not_true_eq_false, not_false_eq_true, Bool.false_eq_true, tI_zI]
  have h2 : ∃ F2, Lf F2 (mxG A s 4).toNat 0 ∧ ∃ z, runP MP e 12 (47, [some (.ref 171), some (.int (zI (s : Int))), some (.int (zI o)), some (.int (zI kp)), some (.int (zI (mxG A s 4))), some (.int (zI (0))), some (.int (zI (0))), none], [], mk E F G) = runP MP e 12 (120, [some (.ref 171), some (.int (zI (s : Int))), some (.int (zI o)), some (.int (zI kp)), some (.int (zI (mxG A s 4))), some (.int (zI (mOG A s o (mxG A s 4).toNat))), some (.int (zI (0))), z], [], mk E F2 G) := by
    refine loopS (σ := (Nat → Int → Int32) × Option Value) (Post := fun r => ∃ F2, Lf F2 (mxG A s 4).toNat 0 ∧ ∃ z, r = runP MP e 12 (120, [some (.ref 171), some (.int (zI (s : Int))), some (.int (zI o)), some (.int (zI kp)), some (.int (zI (mxG A s 4))), some (.int (zI (mOG A s o (mxG A s 4).toNat))), some (.int (zI (0))), z], [], mk E F2 G))
      (fun t s' => runP MP e 12 (47, [some (.ref 171), some (.int (zI (s : Int))), some (.int (zI o)), some (.int (zI kp)), some (.int (zI (mxG A s 4))), some (.int (zI (mOG A s o t))), some (.int (zI ((t : Int)))), s'.2], [], mk E s'.1 G))
      (fun t s' => Lf s'.1 t 0) (mxG A s 4).toNat (F, none) ⟨fun _ _ => rfl, fun h i _ hi => by omega⟩ (fun s' hs' => ⟨s'.1, hs', s'.2, ?_⟩) (fun t s' ht hs' => ?_)
    · show runP MP e 12 _ = runP MP e 12 _
      have hm := mO_rg (A := A) (s := s) ho (mxG A s 4).toNat
      rw [q_12_47]; (try simp only [↓n_al, li_0, li_1, li_4, li_6, li_12, li_57, li_99, li_120, zI_add, zI_sub, zI_mul, zI_neg, ↓Option.bind_some]); simp (disch := (first | assumption | exact tI_rg _ | omega | exact uR_at | exact row_ne hF (by decide) | exact row_ne (row_ne hF (by decide)) (by decide) | exact SnS_18 | exact SnS_30 | exact LdS_44 | exact LdS_46)) only [q_12_0, q_12_35, q_12_99, q_12_189, ↓n_al, retZ_z, li_0, li_1, li_4, li_6, li_12, li_57, li_99, li_120, zI_add, zI_sub, zI_mul, zI_neg, ↓Option.bind_some, ↓g0_0, ↓g0_1, ↓al_172, ↓as_172, zIt2, uR_at, uR_ne, uR_uR, uC_uC, uC_at, ↓reduceIte, decide_eq_true_eq, leT, leF, ltT, ltF, eqT, eqF, ne_eq, not_true_eq_false, not_false_eq_true, Bool.false_eq_true, tI_zI]
    · right
      obtain ⟨F2, g1, g2⟩ := h2in t s'.1 s'.2 (by omega) hs'
      have hm := mO_rg (A := A) (s := s) ho t
      refine ⟨(F2, some (.int (zI 4))), g1, ?_⟩
      show runP MP e 12 _ = runP MP e 12 _
      rw [nsucc, ← g2]
      rw [q_12_47]; (try simp only [↓n_al, li_0, li_1, li_4, li_6, li_12, li_57, li_99, li_120, zI_add, zI_sub, zI_mul, zI_neg, ↓Option.bind_some]); simp (disch := (first | assumption | exact tI_rg _ | omega | exact uR_at | exact row_ne hF (by decide) | exact row_ne (row_ne hF (by decide)) (by decide) | exact SnS_18 | exact SnS_30 | exact LdS_44 | exact LdS_46)) only [q_12_0, q_12_35, q_12_99, q_12_189, ↓n_al, retZ_z, li_0, li_1, li_4, li_6, li_12, li_57, li_99, li_120, zI_add, zI_sub, zI_mul, zI_neg, ↓Option.bind_some, ↓g0_0, ↓g0_1, ↓al_172, ↓as_172, zIt2, uR_at, uR_ne, uR_uR, uC_uC, uC_at, ↓reduceIte, decide_eq_true_eq, leT, leF, ltT, ltF, eqT, eqF, ne_eq, not_true_eq_false, not_false_eq_true, Bool.false_eq_true, tI_zI]
  obtain ⟨F2, ⟨hq2, hl2⟩, z2, hr2⟩ := h2
  refine ⟨F2, ?_, hq2⟩
  rw [hin, h1, hr2]
  -- home
  have hmT := mO_rg (A := A) (s := s) ho (mxG A s 4).toNat
  rw [show mOG A s o (mxG A s 4).toNat = mOG A s o (mxG A s 4).toNat + mOG A s o 0 from (Int.add_zero _).symm]
  refine loopS (σ := Option Value) (Post := fun r => r = some (Sum.inl (some (.int (zI (okG A s o kp (mxG A s 4).toNat)))), mk E F2 G))
    (fun t s' => runP MP e 12 (120, [some (.ref 171), some (.int (zI (s : Int))), some (.int (zI o)), some (.int (zI kp)), some (.int (zI (mxG A s 4))), some (.int (zI (mOG A s o (mxG A s 4).toNat + mOG A s o t))), some (.int (zI ((t : Int)))), s'], [], mk E F2 G))
    (fun t _ => ∀ t' g, t' < t → g < 4 → bdG A s o kp (mxG A s 4).toNat t' g = false) (mxG A s 4).toNat z2 (fun t' g h => by omega) (fun s' hs' => ?_) (fun t s' ht hs' => ?_)
  · show runP MP e 12 _ = _
    rw [ok_1 hs']
    have hm := mO_rg (A := A) (s := s) ho (mxG A s 4).toNat
    rw [q_12_120]; (try simp only [↓n_al, li_0, li_1, li_4, li_6, li_12, li_57, li_99, li_120, zI_add, zI_sub, zI_mul, zI_neg, ↓Option.bind_some]); simp (disch := (first | assumption | exact tI_rg _ | omega | exact uR_at | exact row_ne hF (by decide) | exact row_ne (row_ne hF (by decide)) (by decide) | exact SnS_18 | exact SnS_30 | exact LdS_44 | exact LdS_46)) only [q_12_0, q_12_35, q_12_99, q_12_189, ↓n_al, retZ_z, li_0, li_1, li_4, li_6, li_12, li_57, li_99, li_120, zI_add, zI_sub, zI_mul, zI_neg, ↓Option.bind_some, ↓g0_0, ↓g0_1, ↓al_172, ↓as_172, zIt2, uR_at, uR_ne, uR_uR, uC_uC, uC_at, ↓reduceIte, decide_eq_true_eq, leT, leF, ltT, ltF, eqT, eqF, ne_eq, not_true_eq_false, not_false_eq_true, Bool.false_eq_true, tI_zI]
  · have hm := mO_rg (A := A) (s := s) ho t
    have h3 : (∃ g, g < 4 ∧ bdG A s o kp (mxG A s 4).toNat t g = true ∧ runP MP e 12 (130, [some (.ref 171), some (.int (zI (s : Int))), some (.int (zI o)), some (.int (zI kp)), some (.int (zI (mxG A s 4))), some (.int (zI (mOG A s o (mxG A s 4).toNat + mOG A s o t))), some (.int (zI ((t : Int)))), some (.int (zI 0))], [], mk E F2 G) = some (Sum.inl (some (.int (zI 0))), mk E F2 G)) ∨ ((∀ g, g < 4 → bdG A s o kp (mxG A s 4).toNat t g = false) ∧ runP MP e 12 (130, [some (.ref 171), some (.int (zI (s : Int))), some (.int (zI o)), some (.int (zI kp)), some (.int (zI (mxG A s 4))), some (.int (zI (mOG A s o (mxG A s 4).toNat + mOG A s o t))), some (.int (zI ((t : Int)))), some (.int (zI 0))], [], mk E F2 G) = runP MP e 12 (120, [some (.ref 171), some (.int (zI (s : Int))), some (.int (zI o)), some (.int (zI kp)), some (.int (zI (mxG A s 4))), some (.int (zI (mOG A s o (mxG A s 4).toNat + mOG A s o (t + 1)))), some (.int (zI (((t : Int) + 1)))), some (.int (zI 4))], [], mk E F2 G)) := by
      rw [show mOG A s o t = moG A s o t 0 from (Int.add_zero _).symm]
      refine loopS (σ := Unit) (Post := fun r => (∃ g, g < 4 ∧ bdG A s o kp (mxG A s 4).toNat t g = true ∧ r = some (Sum.inl (some (.int (zI 0))), mk E F2 G)) ∨ ((∀ g, g < 4 → bdG A s o kp (mxG A s 4).toNat t g = false) ∧ r = runP MP e 12 (120, [some (.ref 171), some (.int (zI (s : Int))), some (.int (zI o)), some (.int (zI kp)), some (.int (zI (mxG A s 4))), some (.int (zI (mOG A s o (mxG A s 4).toNat + mOG A s o (t + 1)))), some (.int (zI (((t : Int) + 1)))), some (.int (zI 4))], [], mk E F2 G)))
        (fun g _ => runP MP e 12 (130, [some (.ref 171), some (.int (zI (s : Int))), some (.int (zI o)), some (.int (zI kp)), some (.int (zI (mxG A s 4))), some (.int (zI (mOG A s o (mxG A s 4).toNat + moG A s o t g))), some (.int (zI ((t : Int)))), some (.int (zI (g : Int)))], [], mk E F2 G))
        (fun g _ => ∀ h, h < g → bdG A s o kp (mxG A s 4).toNat t h = false) 4 () (fun h hh => by omega) (fun _ hs2 => Or.inr ⟨hs2, ?_⟩) (fun g _ hg hs2 => ?_)
      · show runP MP e 12 (130, [some (.ref 171), some (.int (zI (s : Int))), some (.int (zI o)), some (.int (zI kp)), some (.int (zI (mxG A s 4))), some (.int (zI (mOG A s o (mxG A s 4).toNat + moG A s o t 4))), some (.int (zI ((t : Int)))), some (.int (zI 4))], [], mk E F2 G) = runP MP e 12 _
        have hm4 := mo_rg (A := A) (s := s) ho t 4
        rw [show mOG A s o (t + 1) = moG A s o t 4 + o from rfl, ← Int.add_assoc]
        rw [q_12_130]; (try simp only [↓n_al, li_0, li_1, li_4, li_6, li_12, li_57, li_99, li_120, zI_add, zI_sub, zI_mul, zI_neg, ↓Option.bind_some]); simp (disch := (first | assumption | exact tI_rg _ | omega | exact uR_at | exact row_ne hF (by decide) | exact row_ne (row_ne hF (by decide)) (by decide) | exact SnS_18 | exact SnS_30 | exact LdS_44 | exact LdS_46)) only [q_12_0, q_12_35, q_12_99, q_12_189, ↓n_al, retZ_z, li_0, li_1, li_4, li_6, li_12, li_57, li_99, li_120, zI_add, zI_sub, zI_mul, zI_neg, ↓Option.bind_some, ↓g0_0, ↓g0_1, ↓al_172, ↓as_172, zIt2, uR_at, uR_ne, uR_uR, uC_uC, uC_at, ↓reduceIte, decide_eq_true_eq, leT, leF, ltT, ltF, eqT, eqF, ne_eq, not_true_eq_false, not_false_eq_true, Bool.false_eq_true, tI_zI]
      · have hb := hbit g hg
        have hmg := mo_rg (A := A) (s := s) ho t g
        by_cases h : s.testBit g = true
        · have a := hA g hg h
          have ef : F2 172 (g : Int) = zI (A g) := by rw [hq2 172 (by omega)]; exact hF g hg h
          rw [if_pos h] at hb
          by_cases h3 : (t : Int) < A g
          · have e2 : moG A s o t (g + 1) = moG A s o t g + 1 := by unfold moG; rw [cntN_pos (ac_1.mpr ⟨h, h3⟩)]; omega
            have hxg := xle g hg h
            have ei : (((A g - 1 - (t : Int)).toNat : Nat) : Int) = A g - 1 - (t : Int) := by omega
            have el := hl2 g (A g - 1 - (t : Int)).toNat hg (Or.inl (by omega)) (ac_1.mpr ⟨h, by omega⟩)
            rw [ei] at el
            have hld : ∀ {f : Int → ResP}, (alT (mk E F2 G) 0 (174 + g) (zI (A g - 1 - (t : Int)))).bind f = f (tI (zI (moG A s o (A g - 1 - (t : Int)).toNat g))) := fun {f} => by
              rw [alT_b (n := 60) (sh174 hg) (by omega) (by decide), el]
            have hmi := mo_rg (A := A) (s := s) ho (A g - 1 - (t : Int)).toNat g
            by_cases hbd : kp < mOG A s o (mxG A s 4).toNat + moG A s o t g - moG A s o (A g - 1 - (t : Int)).toNat g
            · left; left
              refine ⟨g, hg, by unfold bdG; rw [Bool.and_eq_true]; exact ⟨ac_1.mpr ⟨h, h3⟩, decide_eq_true hbd⟩, ?_⟩
              show runP MP e 12 _ = _
              rw [q_12_130]; (try simp only [↓n_al, li_0, li_1, li_4, li_6, li_12, li_57, li_99, li_120, zI_add, zI_sub, zI_mul, zI_neg, ↓Option.bind_some]); simp (disch := (first | assumption | exact tI_rg _ | omega | exact uR_at | exact row_ne hF (by decide) | exact row_ne (row_ne hF (by decide)) (by decide) | exact SnS_18 | exact SnS_30 | exact LdS_44 | exact LdS_46)) only [q_12_0, q_12_35, q_12_99, q_12_189, hb, ef, ↓hdR hg, ↓hld, ↓n_al, retZ_z, li_0, li_1, li_4, li_6, li_12, li_57, li_99, li_120, zI_add, zI_sub, zI_mul, zI_neg, ↓Option.bind_some, ↓g0_0, ↓g0_1, ↓al_172, ↓as_172, zIt2, uR_at, uR_ne, uR_uR, uC_uC, uC_at, ↓reduceIte, decide_eq_true_eq, leT, leF, ltT, ltF, eqT, eqF, ne_eq, not_true_eq_false, not_false_eq_true, Bool.false_eq_true, tI_zI]
            · right
              refine ⟨(), fun h' hh => ?_, ?_⟩
              · by_cases z : h' = g
                · rw [z]; unfold bdG; rw [decide_eq_false hbd, Bool.and_false]
                · exact hs2 h' (by omega)
              · show runP MP e 12 _ = runP MP e 12 _
                rw [nsucc, e2, ← Int.add_assoc]
                rw [q_12_130]; (try simp only [↓n_al, li_0, li_1, li_4, li_6, li_12, li_57, li_99, li_120, zI_add, zI_sub, zI_mul, zI_neg, ↓Option.bind_some]); simp (disch := (first | assumption | exact tI_rg _ | omega | exact uR_at | exact row_ne hF (by decide) | exact row_ne (row_ne hF (by decide)) (by decide) | exact SnS_18 | exact SnS_30 | exact LdS_44 | exact LdS_46)) only [q_12_0, q_12_35, q_12_99, q_12_189, hb, ef, ↓hdR hg, ↓hld, ↓n_al, retZ_z, li_0, li_1, li_4, li_6, li_12, li_57, li_99, li_120, zI_add, zI_sub, zI_mul, zI_neg, ↓Option.bind_some, ↓g0_0, ↓g0_1, ↓al_172, ↓as_172, zIt2, uR_at, uR_ne, uR_uR, uC_uC, uC_at, ↓reduceIte, decide_eq_true_eq, leT, leF, ltT, ltF, eqT, eqF, ne_eq, not_true_eq_false, not_false_eq_true, Bool.false_eq_true, tI_zI]
          · right
            have e2 : moG A s o t (g + 1) = moG A s o t g := by unfold moG; rw [cntN_neg (fun z => h3 (ac_1.mp z).2)]
            refine ⟨(), fun h' hh => ?_, ?_⟩
            · by_cases z : h' = g
              · rw [z]; unfold bdG; rw [show acG A s t g = false from Bool.eq_false_iff.mpr (fun z => h3 (ac_1.mp z).2)]; rfl
              · exact hs2 h' (by omega)
            · show runP MP e 12 _ = runP MP e 12 _
              rw [nsucc, e2]
              rw [q_12_130]; (try simp only [↓n_al, li_0, li_1, li_4, li_6, li_12, li_57, li_99, li_120, zI_add, zI_sub, zI_mul, zI_neg, ↓Option.bind_some]); simp (disch := (first | assumption | exact tI_rg _ | omega | exact uR_at | exact row_ne hF (by decide) | exact row_ne (row_ne hF (by decide)) (by decide) | exact SnS_18 | exact SnS_30 | exact LdS_44 | exact LdS_46)) only [q_12_0, q_12_35, q_12_99, q_12_189, hb, ef, ↓n_al, retZ_z, li_0, li_1, li_4, li_6, li_12, li_57, li_99, li_120, zI_add, zI_sub, zI_mul, zI_neg, ↓Option.bind_some, ↓g0_0, ↓g0_1, ↓al_172, ↓as_172, zIt2, uR_at, uR_ne, uR_uR, uC_uC, uC_at, ↓reduceIte, decide_eq_true_eq, leT, leF, ltT, ltF, eqT, eqF, ne_eq, not_true_eq_false, not_false_eq_true, Bool.false_eq_true, tI_zI]
        · right
          rw [if_neg h] at hb
          have e2 : moG A s o t (g + 1) = moG A s o t g := by unfold moG; rw [cntN_neg (fun z => h (ac_1.mp z).1)]
          refine ⟨(), fun h' hh => ?_, ?_⟩
          · by_cases z : h' = g
            · rw [z]; unfold bdG; rw [show acG A s t g = false from Bool.eq_false_iff.mpr (fun z => h (ac_1.mp z).1)]; rfl
            · exact hs2 h' (by omega)
          · show runP MP e 12 _ = runP MP e 12 _
            rw [nsucc, e2]
            rw [q_12_130]; (try simp only [↓n_al, li_0, li_1, li_4, li_6, li_12, li_57, li_99, li_120, zI_add, zI_sub, zI_mul, zI_neg, ↓Option.bind_some]); simp (disch := (first | assumption | exact tI_rg _ | omega | exact uR_at | exact row_ne hF (by decide) | exact row_ne (row_ne hF (by decide)) (by decide) | exact SnS_18 | exact SnS_30 | exact LdS_44 | exact LdS_46)) only [q_12_0, q_12_35, q_12_99, q_12_189, hb, ↓n_al, retZ_z, li_0, li_1, li_4, li_6, li_12, li_57, li_99, li_120, zI_add, zI_sub, zI_mul, zI_neg, ↓Option.bind_some, ↓g0_0, ↓g0_1, ↓al_172, ↓as_172, zIt2, uR_at, uR_ne, uR_uR, uC_uC, uC_at, ↓reduceIte, decide_eq_true_eq, leT, leF, ltT, ltF, eqT, eqF, ne_eq, not_true_eq_false, not_false_eq_true, Bool.false_eq_true, tI_zI]
    rcases h3 with ⟨g, g1, g2, g3⟩ | ⟨g1, g2⟩
    · left
      show runP MP e 12 _ = _
      rw [ok_0 ht g1 g2, ← g3]
      rw [q_12_120]; (try simp only [↓n_al, li_0, li_1, li_4, li_6, li_12, li_57, li_99, li_120, zI_add, zI_sub, zI_mul, zI_neg, ↓Option.bind_some]); simp (disch := (first | assumption | exact tI_rg _ | omega | exact uR_at | exact row_ne hF (by decide) | exact row_ne (row_ne hF (by decide)) (by decide) | exact SnS_18 | exact SnS_30 | exact LdS_44 | exact LdS_46)) only [q_12_0, q_12_35, q_12_99, q_12_189, ↓n_al, retZ_z, li_0, li_1, li_4, li_6, li_12, li_57, li_99, li_120, zI_add, zI_sub, zI_mul, zI_neg, ↓Option.bind_some, ↓g0_0, ↓g0_1, ↓al_172, ↓as_172, zIt2, uR_at, uR_ne, uR_uR, uC_uC, uC_at, ↓reduceIte, decide_eq_true_eq, leT, leF, ltT, ltF, eqT, eqF, ne_eq, not_true_eq_false, not_false_eq_true, Bool.false_eq_true, tI_zI]
    · right
      refine ⟨some (.int (zI 4)), fun t' g ht' hg => ?_, ?_⟩
      · by_cases z : t' = t
        · rw [z]; exact g1 g hg
        · exact hs' t' g (by omega) hg
      · show runP MP e 12 _ = runP MP e 12 _
        rw [nsucc, ← g2]
        rw [q_12_120]; (try simp only [↓n_al, li_0, li_1, li_4, li_6, li_12, li_57, li_99, li_120, zI_add, zI_sub, zI_mul, zI_neg, ↓Option.bind_some]); simp (disch := (first | assumption | exact tI_rg _ | omega | exact uR_at | exact row_ne hF (by decide) | exact row_ne (row_ne hF (by decide)) (by decide) | exact SnS_18 | exact SnS_30 | exact LdS_44 | exact LdS_46)) only [q_12_0, q_12_35, q_12_99, q_12_189, ↓n_al, retZ_z, li_0, li_1, li_4, li_6, li_12, li_57, li_99, li_120, zI_add, zI_sub, zI_mul, zI_neg, ↓Option.bind_some, ↓g0_0, ↓g0_1, ↓al_172, ↓as_172, zIt2, uR_at, uR_ne, uR_uR, uC_uC, uC_at, ↓reduceIte, decide_eq_true_eq, leT, leF, ltT, ltF, eqT, eqF, ne_eq, not_true_eq_false, not_false_eq_true, Bool.false_eq_true, tI_zI]
end S94ze
