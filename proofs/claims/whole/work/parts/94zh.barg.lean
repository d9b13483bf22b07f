/-! CALLS: bargain -/
section S94zh
set_option linter.unusedVariables false
set_option linter.unusedSimpArgs false
/-- how many steps out, of the guides of a set; the best set of those up to j -/
def soG (A : Nat → Int) (s : Nat) : Nat → Int
  | 0 => 0
  | g + 1 => if s.testBit g = true then soG A s g + A g else soG A s g
def bsN (A : Nat → Int) (kp : Int) : Nat → Nat × Int
  | 0 => (0, 0)
  | j + 1 => if (popZ (bsN A kp j).1 < popZ (j + 1) ∨ (popZ (bsN A kp j).1 = popZ (j + 1) ∧ (bsN A kp j).2 < soG A (j + 1) 4)) ∧ okG A (j + 1) 0 kp 30 = 1 then (j + 1, soG A (j + 1) 4) else bsN A kp j
theorem so_rg {A : Nat → Int} {s : Nat} (hA : ∀ g : Nat, g < 4 → s.testBit g = true → 0 ≤ A g ∧ A g ≤ 30) : ∀ g : Nat, g ≤ 4 → 0 ≤ soG A s g ∧ soG A s g ≤ 30 * g := by
  intro g
  induction g with
  | zero => intro _; exact ⟨Int.le_refl _, Int.le_refl _⟩
  | succ g ih =>
    intro hg
    have h1 := ih (by omega)
    by_cases e : s.testBit g = true
    · have e2 : soG A s (g + 1) = soG A s g + A g := if_pos e
      have := hA g (by omega) e
      rw [e2]; omega
    · have e2 : soG A s (g + 1) = soG A s g := if_neg e
      rw [e2]; omega
theorem bit_hi {s m g : Nat} (hs : s < 2 ^ m) (hg : m ≤ g) : s.testBit g = false :=
  Nat.testBit_lt_two_pow (Nat.lt_of_lt_of_le hs (Nat.pow_le_pow_right (by omega) hg))
theorem bit_in {s m g : Nat} (hs : s < 2 ^ m) (h : s.testBit g = true) : g < m := by
  by_cases e : g < m
  · exact e
  · rw [bit_hi hs (by omega)] at h; cases h
theorem so_hi {A : Nat → Int} {s m : Nat} (hs : s < 2 ^ m) : ∀ g : Nat, m ≤ g → soG A s g = soG A s m := by
  intro g
  induction g with
  | zero => intro h; rw [show m = 0 by omega]
  | succ g ih =>
    intro h
    by_cases e : m = g + 1
    · rw [e]
    · have e2 : soG A s (g + 1) = soG A s g := if_neg (by rw [bit_hi hs (by omega)]; exact Bool.false_ne_true)
      rw [e2, ih (by omega)]
theorem bs_rg {A : Nat → Int} {kp : Int} {m : Nat} (hm : m ≤ 4) (hA : ∀ g : Nat, g < m → 0 ≤ A g ∧ A g ≤ 30) : ∀ j, j < 2 ^ m → (bsN A kp j).1 ≤ j ∧ 0 ≤ (bsN A kp j).2 ∧ (bsN A kp j).2 ≤ 120 := by
  intro j
  induction j with
  | zero => intro _; exact ⟨Nat.le_refl _, Int.le_refl _, by show (0 : Int) ≤ 120; omega⟩
  | succ j ih =>
    intro hj
    have h1 := ih (by omega)
    have h2 := so_rg (A := A) (s := j + 1) (fun g _ hb => hA g (bit_in hj hb)) 4 (Nat.le_refl 4)
    unfold bsN
    split
    · refine ⟨Nat.le_refl _, h2.1, ?_⟩; show soG A (j + 1) 4 ≤ 120; omega
    · omega
theorem bs_yes {A : Nat → Int} {kp : Int} {j : Nat} (h1 : popZ (bsN A kp j).1 < popZ (j + 1) ∨ (popZ (bsN A kp j).1 = popZ (j + 1) ∧ (bsN A kp j).2 < soG A (j + 1) 4)) (h2 : okG A (j + 1) 0 kp 30 = 1) : bsN A kp (j + 1) = (j + 1, soG A (j + 1) 4) := if_pos ⟨h1, h2⟩
theorem bs_no {A : Nat → Int} {kp : Int} {j : Nat} (h : ¬ ((popZ (bsN A kp j).1 < popZ (j + 1) ∨ (popZ (bsN A kp j).1 = popZ (j + 1) ∧ (bsN A kp j).2 < soG A (j + 1) 4)) ∧ okG A (j + 1) 0 kp 30 = 1)) : bsN A kp (j + 1) = bsN A kp j := if_neg h
theorem pop_rg (s : Nat) : 0 ≤ popZ s ∧ popZ s ≤ 32 := by have := cntN_rg (fun i => s.testBit i) 32; unfold popZ; omega
theorem ct_14 {d : Nat} {E : EnQ} {F : Nat → Int → Int32} {G : Nat → Int → Int64} {A : Nat → Int} {s : Nat} (hs : s < 16) (hA : ∀ g : Nat, g < 4 → s.testBit g = true → 0 ≤ A g ∧ A g ≤ 30) (hF : ∀ g : Nat, g < 4 → s.testBit g = true → F 172 (g : Int) = zI (A g)) (hd : 1 ≤ d) : callP MP d 14 [.ref 171, .int (zI (s : Int))] (mk E F G) = some (Sum.inl (some (.int (zI (soG A s 4)))), mk E F G) := by

  refine into (D := 0) (by omega) hM_14 (rcv_mk rfl (by decide)) rfl fun d hd => ?_
  show runP MP d 14 (0, [some (.ref 171), some (.int (zI (s : Int))), none, none], [], _) = _
  rw [q_14_0]
  refine (loopN (fun j : Nat => runP MP d 14 (4, [some (.ref 171), some (.int (zI (s : Int))), some (.int (zI (soG A s j))), some (.int (zI (j : Nat)))], [], mk E F G)) (4) (fun j hj => ?_)).trans ?_
  · show runP MP d 14 (4, [some (.ref 171), some (.int (zI (s : Int))), some (.int (zI (soG A s j))), some (.int (zI (j : Nat)))], [], mk E F G) = runP MP d 14 (4, [some (.ref 171), some (.int (zI (s : Int))), some (.int (zI (soG A s (j + 1)))), some (.int (zI ((j + 1) : Nat)))], [], mk E F G)
    have hb : o_iushr (zI (s : Int)) (zI (j : Int)) &&& zI 1 = zI (if s.testBit j = true then 1 else 0) := ushr_bit (s := s) (p := (j : Int)) (by omega)
    have hr := so_rg hA j (by omega)
    rw [nsucc]
    by_cases h : s.testBit j = true
    · have a := hA j hj h
      have ef := hF j hj h
      have e2 : soG A s (j + 1) = soG A s j + A j := if_pos h
      rw [e2]
      rw [if_pos h] at hb
      rw [q_14_4]; (try simp only [↓n_al, li_0, li_1, li_4, li_14, zI_add, zI_sub, zI_mul, zI_neg, ↓Option.bind_some]); simp (disch := (first | assumption | exact tI_rg _ | omega | exact uR_at | exact row_ne hF (by decide) | exact row_ne (row_ne hF (by decide)) (by decide) | exact SnS_18 | exact SnS_30 | exact LdS_44 | exact LdS_46)) only [q_14_0, q_14_26, hb, ef, ↓n_al, li_0, li_1, li_4, li_14, zI_add, zI_sub, zI_mul, zI_neg, ↓Option.bind_some, ↓g0_0, ↓al_172, ↓as_172, zIt2, uR_at, uR_ne, uR_uR, uC_uC, uC_at, ↓reduceIte, decide_eq_true_eq, leT, leF, ltT, ltF, eqT, eqF, ne_eq, not_true_eq_false, not_false_eq_true, Bool.false_eq_true, tI_zI]
    · have e2 : soG A s (j + 1) = soG A s j := if_neg h
      rw [e2]
      rw [if_neg h] at hb
      rw [q_14_4]; (try simp only [↓n_al, li_0, li_1, li_4, li_14, zI_add, zI_sub, zI_mul, zI_neg, ↓Option.bind_some]); simp (disch := (first | assumption | exact tI_rg _ | omega | exact uR_at | exact row_ne hF (by decide) | exact row_ne (row_ne hF (by decide)) (by decide) | exact SnS_18 | exact SnS_30 | exact LdS_44 | exact LdS_46)) only [q_14_0, q_14_26, hb, ↓n_al, li_0, li_1, li_4, li_14, zI_add, zI_sub, zI_mul, zI_neg, ↓Option.bind_some, ↓g0_0, ↓al_172, ↓as_172, zIt2, uR_at, uR_ne, uR_uR, uC_uC, uC_at, ↓reduceIte, decide_eq_true_eq, leT, leF, ltT, ltF, eqT, eqF, ne_eq, not_true_eq_false, not_false_eq_true, Bool.false_eq_true, tI_zI]
  · show runP MP d 14 (4, [some (.ref 171), some (.int (zI (s : Int))), some (.int (zI (soG A s (4)))), some (.int (zI ((4) : Nat)))], [], mk E F G) = _
    show runP MP d 14 (4, [some (.ref 171), some (.int (zI (s : Int))), some (.int (zI (soG A s 4))), some (.int (zI 4))], [], mk E F G) = _
    rw [q_14_4]; (try simp only [↓n_al, li_0, li_1, li_4, li_14, zI_add, zI_sub, zI_mul, zI_neg, ↓Option.bind_some]); simp (disch := (first | assumption | exact tI_rg _ | omega | exact uR_at | exact row_ne hF (by decide) | exact row_ne (row_ne hF (by decide)) (by decide) | exact SnS_18 | exact SnS_30 | exact LdS_44 | exact LdS_46)) only [q_14_0, q_14_26, ↓n_al, li_0, li_1, li_4, li_14, zI_add, zI_sub, zI_mul, zI_neg, ↓Option.bind_some, ↓g0_0, ↓al_172, ↓as_172, zIt2, uR_at, uR_ne, uR_uR, uC_uC, uC_at, ↓reduceIte, decide_eq_true_eq, leT, leF, ltT, ltF, eqT, eqF, ne_eq, not_true_eq_false, not_false_eq_true, Bool.false_eq_true, tI_zI]
theorem cc_14 {d : Nat} {E : EnQ} {F : Nat → Int → Int32} {G : Nat → Int → Int64} {kk : Int → HeapP → ResP} {kx : Nat → HeapP → ResP} {A : Nat → Int} {s : Nat} (hs : s < 16) (hA : ∀ g : Nat, g < 4 → s.testBit g = true → 0 ≤ A g ∧ A g ≤ 30) (hF : ∀ g : Nat, g < 4 → s.testBit g = true → F 172 (g : Int) = zI (A g)) (hd : 1 ≤ d) : cT (callP MP d 14 [.ref 171, .int (zI (s : Int))] (mk E F G)) kk kx = kk (soG A s 4) (mk E F G) := cT_ret (by apply ct_14 <;> assumption) (by have := so_rg hA 4 (Nat.le_refl 4); omega)
theorem ct_13 {d : Nat} {E : EnQ} {F : Nat → Int → Int32} {G : Nat → Int → Int64} {A : Nat → Int} {m : Nat} {kp : Int} (hL : ∀ g : Nat, g < 4 → E.2.2.2 173 (g : Int) = 174 + g) (hm : 1 ≤ m ∧ m ≤ 4) (hA : ∀ g : Nat, g < m → 0 ≤ A g ∧ A g ≤ 30) (hF : ∀ g : Nat, g < m → F 172 (g : Int) = zI (A g)) (hk : -2147483648 ≤ kp ∧ kp ≤ 2147483647) (hd : 2 ≤ d) :
    ∃ F1, callP MP d 13 [.ref 171, .int (zI (m : Int)), .int (zI kp)] (mk E F G) = some (Sum.inl (some (.int (zI ((bsN A kp (2 ^ m - 1)).1 : Nat)))), mk E F1 G) ∧ ∀ q, ¬ (174 ≤ q ∧ q ≤ 177) → F1 q = F q := by
  obtain ⟨e, rfl⟩ : ∃ e, d = e + 1 := ⟨d - 1, by omega⟩
  have hin : callP MP (e + 1) 13 [.ref 171, .int (zI (m : Int)), .int (zI kp)] (mk E F G) = runP MP e 13 (0, [some (.ref 171), some (.int (zI (m : Int))), some (.int (zI kp)), none, none, none, none, none], [], mk E F G) := into_eq (by omega) hM_13 (rcv_mk rfl (by decide)) rfl
  have hpow : (2 : Nat) ^ m ≤ 2 ^ 4 := Nat.pow_le_pow_right (by omega) (by omega)
  have hpos : 0 < (2 : Nat) ^ m := Nat.two_pow_pos _
  have eb : bitN (m : Int) = 2 ^ m := rfl
  have h0 : runP MP e 13 (0, [some (.ref 171), some (.int (zI (m : Int))), some (.int (zI kp)), none, none, none, none, none], [], mk E F G) = runP MP e 13 (8, [some (.ref 171), some (.int (zI (m : Int))), some (.int (zI kp)), some (.int (zI ((bsN A kp (0)).1 : Nat))), some (.int (zI (bsN A kp (0)).2)), some (.int (zI ((0 + 1 : Nat) : Int))), none, none], [], mk E F G) := by
    rw [q_13_0]; rfl
  rw [hin, h0]
  refine loopS (σ := (Nat → Int → Int32) × Option Value × Option Value) (Post := fun r => ∃ F1, r = some (Sum.inl (some (.int (zI ((bsN A kp (2 ^ m - 1)).1 : Nat)))), mk E F1 G) ∧ ∀ q, ¬ (174 ≤ q ∧ q ≤ 177) → F1 q = F q)
    (fun j s => runP MP e 13 (8, [some (.ref 171), some (.int (zI (m : Int))), some (.int (zI kp)), some (.int (zI ((bsN A kp (j)).1 : Nat))), some (.int (zI (bsN A kp (j)).2)), some (.int (zI ((j + 1 : Nat) : Int))), s.2.1, s.2.2], [], mk E s.1 G))
    (fun j s => ∀ q, ¬ (174 ≤ q ∧ q ≤ 177) → s.1 q = F q) (2 ^ m - 1) (F, none, none) (fun _ _ => rfl) (fun s hs => ⟨s.1, ?_, hs⟩) (fun j s hj hs => ?_)
  · show runP MP e 13 _ = _
    have hb := bs_rg (kp := kp) hm.2 hA (2 ^ m - 1) (by omega)
    rw [show 2 ^ m - 1 + 1 = 2 ^ m by omega]
    rw [q_13_8]; (try simp only [↓n_cI, li_0, li_1, li_4, li_8, li_12, li_13, li_14, zI_add, zI_sub, zI_mul, zI_neg, ↓Option.bind_some]); simp (disch := (first | assumption | exact tI_rg _ | omega | exact uR_at | exact row_ne hF (by decide) | exact row_ne (row_ne hF (by decide)) (by decide) | exact SnS_18 | exact SnS_30 | exact LdS_44 | exact LdS_46)) only [q_13_0, q_13_53, q_13_71, shlB, eb, ↓n_cI, li_0, li_1, li_4, li_8, li_12, li_13, li_14, zI_add, zI_sub, zI_mul, zI_neg, ↓Option.bind_some, zIt2, uR_at, uR_ne, uR_uR, uC_uC, uC_at, ↓reduceIte, decide_eq_true_eq, leT, leF, ltT, ltF, eqT, eqF, ne_eq, not_true_eq_false, not_false_eq_true, Bool.false_eq_true, tI_zI]
  · right
    have hj2 : j + 1 < 2 ^ m := by omega
    have hb := bs_rg (kp := kp) hm.2 hA j (by omega)
    have hb2 := bs_rg (kp := kp) hm.2 hA (j + 1) (by omega)
    have hA4 : ∀ g : Nat, g < 4 → (j + 1).testBit g = true → 0 ≤ A g ∧ A g ≤ 30 := fun g _ h => hA g (bit_in hj2 h)
    have hF4 : ∀ g : Nat, g < 4 → (j + 1).testBit g = true → s.1 172 (g : Int) = zI (A g) := fun g _ h => by rw [hs 172 (by omega)]; exact hF g (bit_in hj2 h)
    have hso := so_rg hA4 4 (Nat.le_refl 4)
    have hp1 := pop_rg (bsN A kp j).1
    have hp2 := pop_rg (j + 1)
    have en : ((j + 1 + 1 : Nat) : Int) = ((j + 1 : Nat) : Int) + 1 := rfl
    have c4 : ∀ {kk : Int → HeapP → ResP} {kx : Nat → HeapP → ResP}, cT (callP MP e 4 [.int (zI ((j + 1 : Nat) : Int))] (mk E s.1 G)) kk kx = kk (popZ (j + 1)) (mk E s.1 G) := fun {kk kx} => cc_4 (by omega) (by omega)
    have c4b : ∀ {kk : Int → HeapP → ResP} {kx : Nat → HeapP → ResP}, cT (callP MP e 4 [.int (zI ((bsN A kp j).1 : Nat))] (mk E s.1 G)) kk kx = kk (popZ (bsN A kp j).1) (mk E s.1 G) := fun {kk kx} => cc_4 (by omega) (by omega)
    have c14 : ∀ {kk : Int → HeapP → ResP} {kx : Nat → HeapP → ResP}, cT (callP MP e 14 [.ref 171, .int (zI ((j + 1 : Nat) : Int))] (mk E s.1 G)) kk kx = kk (soG A (j + 1) 4) (mk E s.1 G) := fun {kk kx} => cc_14 (by omega) hA4 hF4 (by omega)
    obtain ⟨x0, x60, xle⟩ := mx_rg (A := A) (s := j + 1) (fun g hg h => by have := hA4 g hg h; omega) 4 (Nat.le_refl 4)
    have x30 := mx_le (A := A) (s := j + 1) (b := 30) (by omega) (fun g h => (hA g (bit_in hj2 h)).2) 4
    obtain ⟨F2, r12, k12⟩ := ct_12 (d := e) (E := E) (F := s.1) (G := G) (A := A) (s := j + 1) (o := 0) (kp := kp) hL (by omega) (fun g hg h => by have := hA4 g hg h; omega) hF4 (by omega) hk (by omega)
    rw [← ok_beyond (A := A) (s := j + 1) (T := (mxG A (j + 1) 4).toNat) (T' := 30) (fun g hg h => by have := xle g hg h; omega) (by omega)] at r12
    have hor := ok_rg A (j + 1) 0 kp 30
    have c12 : ∀ {kk : Int → HeapP → ResP} {kx : Nat → HeapP → ResP}, cT (callP MP e 12 [.ref 171, .int (zI ((j + 1 : Nat) : Int)), .int (zI 0), .int (zI kp)] (mk E s.1 G)) kk kx = kk (okG A (j + 1) 0 kp 30) (mk E F2 G) := fun {kk kx} => cT_ret r12 (by omega)
    have hs2 : ∀ q, ¬ (174 ≤ q ∧ q ≤ 177) → F2 q = F q := fun q hq => (k12 q hq).trans (hs q hq)
    have hcut : ¬ bitN (m : Int) ≤ j + 1 := by rw [eb]; omega
    by_cases g1 : popZ (bsN A kp j).1 < popZ (j + 1)
    · refine ⟨(F2, some (.int (zI (popZ (j + 1) - popZ (bsN A kp j).1))), some (.int (zI (soG A (j + 1) 4)))), hs2, ?_⟩
      show runP MP e 13 _ = runP MP e 13 _
      by_cases g2 : okG A (j + 1) 0 kp 30 = 1
      · rw [bs_yes (Or.inl g1) g2, en]
        rw [q_13_8]; (try simp only [↓n_cI, li_0, li_1, li_4, li_8, li_12, li_13, li_14, zI_add, zI_sub, zI_mul, zI_neg, ↓Option.bind_some]); simp (disch := (first | assumption | exact tI_rg _ | omega | exact uR_at | exact row_ne hF (by decide) | exact row_ne (row_ne hF (by decide)) (by decide) | exact SnS_18 | exact SnS_30 | exact LdS_44 | exact LdS_46)) only [q_13_0, q_13_53, q_13_71, shlB, ↓c4, ↓c4b, ↓c14, ↓c12, g2, ↓n_cI, li_0, li_1, li_4, li_8, li_12, li_13, li_14, zI_add, zI_sub, zI_mul, zI_neg, ↓Option.bind_some, zIt2, uR_at, uR_ne, uR_uR, uC_uC, uC_at, ↓reduceIte, decide_eq_true_eq, leT, leF, ltT, ltF, eqT, eqF, ne_eq, not_true_eq_false, not_false_eq_true, Bool.false_eq_true, tI_zI]
      · rw [bs_no (fun z => g2 z.2), en]
        have g3 : okG A (j + 1) 0 kp 30 = 0 := by omega
        rw [q_13_8]; (try simp only [↓n_cI, li_0, li_1, li_4, li_8, li_12, li_13, li_14, zI_add, zI_sub, zI_mul, zI_neg, ↓Option.bind_some]); simp (disch := (first | assumption | exact tI_rg _ | omega | exact uR_at | exact row_ne hF (by decide) | exact row_ne (row_ne hF (by decide)) (by decide) | exact SnS_18 | exact SnS_30 | exact LdS_44 | exact LdS_46)) only [q_13_0, q_13_53, q_13_71, shlB, ↓c4, ↓c4b, ↓c14, ↓c12, g3, ↓n_cI, li_0, li_1, li_4, li_8, li_12, li_13, li_14, zI_add, zI_sub, zI_mul, zI_neg, ↓Option.bind_some, zIt2, uR_at, uR_ne, uR_uR, uC_uC, uC_at, ↓reduceIte, decide_eq_true_eq, leT, leF, ltT, ltF, eqT, eqF, ne_eq, not_true_eq_false, not_false_eq_true, Bool.false_eq_true, tI_zI]
    · by_cases g4 : popZ (bsN A kp j).1 = popZ (j + 1) ∧ (bsN A kp j).2 < soG A (j + 1) 4
      · refine ⟨(F2, some (.int (zI (popZ (j + 1) - popZ (bsN A kp j).1))), some (.int (zI (soG A (j + 1) 4)))), hs2, ?_⟩
        show runP MP e 13 _ = runP MP e 13 _
        by_cases g2 : okG A (j + 1) 0 kp 30 = 1
        · rw [bs_yes (Or.inr g4) g2, en]
          rw [q_13_8]; (try simp only [↓n_cI, li_0, li_1, li_4, li_8, li_12, li_13, li_14, zI_add, zI_sub, zI_mul, zI_neg, ↓Option.bind_some]); simp (disch := (first | assumption | exact tI_rg _ | omega | exact uR_at | exact row_ne hF (by decide) | exact row_ne (row_ne hF (by decide)) (by decide) | exact SnS_18 | exact SnS_30 | exact LdS_44 | exact LdS_46)) only [q_13_0, q_13_53, q_13_71, shlB, ↓c4, ↓c4b, ↓c14, ↓c12, g2, ↓n_cI, li_0, li_1, li_4, li_8, li_12, li_13, li_14, zI_add, zI_sub, zI_mul, zI_neg, ↓Option.bind_some, zIt2, uR_at, uR_ne, uR_uR, uC_uC, uC_at, ↓reduceIte, decide_eq_true_eq, leT, leF, ltT, ltF, eqT, eqF, ne_eq, not_true_eq_false, not_false_eq_true, Bool.false_eq_true, tI_zI]
        · rw [bs_no (fun z => g2 z.2), en]
          have g3 : okG A (j + 1) 0 kp 30 = 0 := by omega
          rw [q_13_8]; (try simp only [↓n_cI, li_0, li_1, li_4, li_8, li_12, li_13, li_14, zI_add, zI_sub, zI_mul, zI_neg, ↓Option.bind_some]); simp (disch := (first | assumption | exact tI_rg _ | omega | exact uR_at | exact row_ne hF (by decide) | exact row_ne (row_ne hF (by decide)) (by decide) | exact SnS_18 | exact SnS_30 | exact LdS_44 | exact LdS_46)) only [q_13_0, q_13_53, q_13_71, shlB, ↓c4, ↓c4b, ↓c14, ↓c12, g3, ↓n_cI, li_0, li_1, li_4, li_8, li_12, li_13, li_14, zI_add, zI_sub, zI_mul, zI_neg, ↓Option.bind_some, zIt2, uR_at, uR_ne, uR_uR, uC_uC, uC_at, ↓reduceIte, decide_eq_true_eq, leT, leF, ltT, ltF, eqT, eqF, ne_eq, not_true_eq_false, not_false_eq_true, Bool.false_eq_true, tI_zI]
      · refine ⟨(s.1, some (.int (zI (popZ (j + 1) - popZ (bsN A kp j).1))), some (.int (zI (soG A (j + 1) 4)))), hs, ?_⟩
        show runP MP e 13 _ = runP MP e 13 _
        rw [bs_no (fun z => z.1.elim g1 g4), en]
        by_cases g5 : popZ (bsN A kp j).1 = popZ (j + 1)
        · have g6 : ¬ (bsN A kp j).2 < soG A (j + 1) 4 := fun z => g4 ⟨g5, z⟩
          rw [q_13_8]; (try simp only [↓n_cI, li_0, li_1, li_4, li_8, li_12, li_13, li_14, zI_add, zI_sub, zI_mul, zI_neg, ↓Option.bind_some]); simp (disch := (first | assumption | exact tI_rg _ | omega | exact uR_at | exact row_ne hF (by decide) | exact row_ne (row_ne hF (by decide)) (by decide) | exact SnS_18 | exact SnS_30 | exact LdS_44 | exact LdS_46)) only [q_13_0, q_13_53, q_13_71, shlB, ↓c4, ↓c4b, ↓c14, ↓n_cI, li_0, li_1, li_4, li_8, li_12, li_13, li_14, zI_add, zI_sub, zI_mul, zI_neg, ↓Option.bind_some, zIt2, uR_at, uR_ne, uR_uR, uC_uC, uC_at, ↓reduceIte, decide_eq_true_eq, leT, leF, ltT, ltF, eqT, eqF, ne_eq, not_true_eq_false, not_false_eq_true, Bool.false_eq_true, tI_zI]
        · rw [q_13_8]; (try simp only [↓n_cI, li_0, li_1, li_4, li_8, li_12, li_13, li_14, zI_add, zI_sub, zI_mul, zI_neg, ↓Option.bind_some]); simp (disch := (first | assumption | exact tI_rg _ | omega | exact uR_at | exact row_ne hF (by decide) | exact row_ne (row_ne hF (by decide)) (by decide) | exact SnS_18 | exact SnS_30 | exact LdS_44 | exact LdS_46)) only [q_13_0, q_13_53, q_13_71, shlB, ↓c4, ↓c4b, ↓c14, ↓n_cI, li_0, li_1, li_4, li_8, li_12, li_13, li_14, zI_add, zI_sub, zI_mul, zI_neg, ↓Option.bind_some, zIt2, uR_at, uR_ne, uR_uR, uC_uC, uC_at, ↓reduceIte, decide_eq_true_eq, leT, leF, ltT, ltF, eqT, eqF, ne_eq, not_true_eq_false, not_false_eq_true, Bool.false_eq_true, tI_zI]
/-- the numbers of a tray; the first out of bounds -/
def tnZ (G : Nat → Int → Int64) (x : Int) (i : Nat) : Int := tJ (G 245 (30 * x + (i : Int)))
def nbP (G : Nat → Int → Int64) (x : Int) (i : Nat) : Bool := decide (¬ (0 ≤ tnZ G x i ∧ tnZ G x i ≤ 30))
def a_barg (F : Nat → Int → Int32) (G : Nat → Int → Int64) (K : Int → Int32) (x : Int) : Int × Int := if tfZ F x = 0 then (if 1 ≤ tdM F x ∧ tdM F x ≤ 4 then (if fndN (nbP G x) (tdM F x) 0 = -1 then ((0 : Int), (((bsN (tnZ G x) (tI (K 4)) (2 ^ tdM F x - 1)).1 : Nat) : Int)) else (3, 0)) else (3, 0)) else (tfZ F x, 0)
theorem cl_barg {d : Nat} {E : EnQ} {F : Nat → Int → Int32} {G : Nat → Int → Int64} {K : Int → Int32} (hO : SnO E F 18 K) (hT : TrR E F G) (hL : ∀ g : Nat, g < 4 → E.2.2.2 173 (g : Int) = 174 + g) {x : Int} (hx : -2147483648 ≤ x ∧ x ≤ 2147483647) (hd : 3 ≤ d) : ∃ E1 F1, callP MP d 160 [.ref 16, .int (zI x)] (mk E F G) = some (thrP [0, 1, 2] (a_barg F G K x), mk E1 F1 G) ∧ KeepC E F G E1 F1 G := by
  have hI := hO.2.2.2.2
  have hb4 := hI.1.2.2.2.2.1
  have hs := hO.1.1
  by_cases c1 : 0 ≤ x ∧ x < 4
  · obtain ⟨q1, q2, q3, q4, q5, q6⟩ := TrR_x hT c1
    have ht : TrS E (trH x) := TrS_x c1
    have hst := ht.1
    have q3' : tI (F (trH x) 1) = tdM F x := by rw [q3]; unfold tdM; omega
    have hm30 : tdM F x ≤ 30 := by unfold tdM; omega
    by_cases c2 : tI (F 243 x) = -1
    · have htf : tfZ F x = 2 := (if_pos c1).trans (if_pos c2)
      have ha : a_barg F G K x = (2, 0) := by unfold a_barg; rw [if_neg (by omega), htf]
      rw [ha]
      refine ⟨jE E, F, ?_, KeepC_j⟩
      show (_ : ResP) = some (Sum.inr 1, mk (jE E) F G)
      refine into (D := 2) (by omega) hM_160 (rcv_mk rfl (by decide)) rfl fun d hd => ?_
      show runP MP d 160 (0, [some (.ref 16), some (.int (zI x)), none, none, none, none], [], _) = _
      rw [q_160_0]; (try simp only [↓n_rd, ↓n_cI, ↓n_cJ, li_0, li_1, li_2, li_4, li_5, li_6, li_7, li_13, li_30, lj_0, lj_1, lj_2, lj_4, lj_5, lj_6, lj_30, zJ_add, zJ_sub, zJ_mul, zJ_neg, zJ_l2i, zI_add, zI_sub, zI_mul, zI_neg, ↓Option.bind_some]); simp (disch := (first | assumption | exact tI_rg _ | omega | exact uR_at | exact row_ne hF (by decide) | exact row_ne (row_ne hF (by decide)) (by decide) | exact SnS_18 | exact SnS_30 | exact LdS_44 | exact LdS_46)) only [q_160_22, q_160_22_1, q_160_66, q_160_66_1, ↓cc_137m hT, thr_eq, ↓n_rd, ↓n_cI, ↓n_cJ, jnk_mk, li_0, li_1, li_2, li_4, li_5, li_6, li_7, li_13, li_30, lj_0, lj_1, lj_2, lj_4, lj_5, lj_6, lj_30, zJ_add, zJ_sub, zJ_mul, zJ_neg, zJ_l2i, tJ_zJ, zI_add, zI_sub, zI_mul, zI_neg, ↓Option.bind_some, ↓g0_0, ↓g11_11, ↓g11_4, ↓g5_1, ↓g7_1, ↓al_172, ↓as_172, zIt2, uR_at, uR_ne, uR_uR, uC_uC, uC_at, ↓reduceIte, decide_eq_true_eq, leT, leF, ltT, ltF, eqT, eqF, ne_eq, not_true_eq_false, not_false_eq_true, Bool.false_eq_true, tI_zI]
    · have htf : tfZ F x = 0 := (if_pos c1).trans (if_neg c2)
      by_cases c3 : 1 ≤ tdM F x ∧ tdM F x ≤ 4
      · have hpow : (2 : Nat) ^ tdM F x ≤ 2 ^ 4 := Nat.pow_le_pow_right (by omega) (by omega)
        have hpos : 0 < (2 : Nat) ^ tdM F x := Nat.two_pow_pos _
        have hnum : ∀ i : Nat, i < 30 → tJ (G (trH x + 1) (i : Int)) = tnZ G x i := fun i hi => by rw [q6 (i : Int) (by omega) (by omega)]; rfl
        obtain ⟨e, rfl⟩ : ∃ e, d = e + 1 := ⟨d - 1, by omega⟩
        have hin : callP MP (e + 1) 160 [.ref 16, .int (zI x)] (mk E F G) = runP MP e 160 (0, [some (.ref 16), some (.int (zI x)), none, none, none, none], [], mk E F G) := into_eq (by omega) hM_160 (rcv_mk rfl (by decide)) rfl
        have hl : ∃ E1 F1, runP MP e 160 (35, [some (.ref 16), some (.int (zI x)), some (.ref (trH x)), some (.int (zI 0)), none, none], [], mk E F G) = some (thrP [0, 1, 2] (a_barg F G K x), mk E1 F1 G) ∧ KeepC E F G E1 F1 G := by
          rw [show mk E F G = mk E (uR F 172 (F 172)) G by rw [uR_self]]
          refine loopS (σ := (Int → Int32) × Option Value) (Post := fun r => ∃ E1 F1, r = some (thrP [0, 1, 2] (a_barg F G K x), mk E1 F1 G) ∧ KeepC E F G E1 F1 G)
            (fun j s => runP MP e 160 (35, [some (.ref 16), some (.int (zI x)), some (.ref (trH x)), some (.int (zI (j : Int))), s.2, none], [], mk E (uR F 172 s.1) G))
            (fun j s => (∀ i : Nat, i < j → s.1 (i : Int) = zI (tnZ G x i)) ∧ ∀ i, i < j → nbP G x i = false) (tdM F x) (F 172, none) ⟨fun i hi => by omega, fun i hi => by omega⟩ (fun s hI2 => ?_) (fun j s hj hI2 => ?_)
          · have hno : fndN (nbP G x) (tdM F x) 0 = -1 := fndN_none (fun i _ hi => hI2.2 i (by omega))
            have ha : a_barg F G K x = ((0 : Int), (((bsN (tnZ G x) (tI (K 4)) (2 ^ tdM F x - 1)).1 : Nat) : Int)) := by unfold a_barg; rw [if_pos htf, if_pos c3, if_pos hno]
            have hA : ∀ g : Nat, g < tdM F x → 0 ≤ tnZ G x g ∧ tnZ G x g ≤ 30 := fun g hg => Decidable.not_not.mp (of_decide_eq_false (hI2.2 g hg))
            have hb := bs_rg (kp := tI (K 4)) c3.2 hA (2 ^ tdM F x - 1) (by omega)
            have he1 : tI (F 18 1) = tI (K 4) := by rw [hO.2.2.2.1.1.1]
            have e1 : tI (uR F 172 s.1 18 1) = tI (K 4) := by rw [uR_ne (by decide), hO.2.2.2.1.1.1]
            have e3 : tI (uR F 172 s.1 (trH x) 1) = tdM F x := by rw [uR_ne (by unfold trH; omega)]; exact q3'
            obtain ⟨F2, r13, k13⟩ := ct_13 (d := e) (E := E) (F := uR F 172 s.1) (G := G) (A := tnZ G x) (m := tdM F x) (kp := tI (K 4)) hL c3 hA (fun g hg => by rw [uR_at]; exact hI2.1 g hg) (by omega) (by omega)
            have c13 : ∀ {kk : Int → HeapP → ResP} {kx : Nat → HeapP → ResP}, cT (callP MP e 13 [.ref 171, .int (zI (tdM F x : Int)), .int (zI (tI (K 4)))] (mk E (uR F 172 s.1) G)) kk kx = kk (((bsN (tnZ G x) (tI (K 4)) (2 ^ tdM F x - 1)).1 : Nat) : Int) (mk E F2 G) := fun {kk kx} => cT_ret r13 (by omega)
            refine ⟨E, F2, ?_, ((KeepD_F scr172).tr (KeepD_rows scr174 k13)).c⟩
            rw [ha]
            show runP MP e 160 _ = some (Sum.inl (some (.int (zI (((bsN (tnZ G x) (tI (K 4)) (2 ^ tdM F x - 1)).1 : Nat) : Int)))), mk E F2 G)
            rw [q_160_35_1]; (try simp only [↓n_rd, ↓n_cI, ↓n_cJ, li_0, li_1, li_2, li_4, li_5, li_6, li_7, li_13, li_30, lj_0, lj_1, lj_2, lj_4, lj_5, lj_6, lj_30, zJ_add, zJ_sub, zJ_mul, zJ_neg, zJ_l2i, zI_add, zI_sub, zI_mul, zI_neg, ↓Option.bind_some]); simp (disch := (first | assumption | exact tI_rg _ | omega | exact uR_at | exact row_ne hF (by decide) | exact row_ne (row_ne hF (by decide)) (by decide) | exact SnS_18 | exact SnS_30 | exact LdS_44 | exact LdS_46)) only [q_160_0, q_160_22, q_160_22_1, q_160_66, q_160_66_1, e1, e3, he1, ↓c13, ↓n_rd, ↓n_cI, ↓n_cJ, jnk_mk, li_0, li_1, li_2, li_4, li_5, li_6, li_7, li_13, li_30, lj_0, lj_1, lj_2, lj_4, lj_5, lj_6, lj_30, zJ_add, zJ_sub, zJ_mul, zJ_neg, zJ_l2i, tJ_zJ, zI_add, zI_sub, zI_mul, zI_neg, ↓Option.bind_some, ↓g0_0, ↓g11_11, ↓g11_4, ↓g5_1, ↓g7_1, ↓al_172, ↓as_172, zIt2, uR_at, uR_ne, uR_uR, uC_uC, uC_at, ↓reduceIte, decide_eq_true_eq, leT, leF, ltT, ltF, eqT, eqF, ne_eq, not_true_eq_false, not_false_eq_true, Bool.false_eq_true, tI_zI]
          · have e3 : tI (uR F 172 s.1 (trH x) 1) = tdM F x := by rw [uR_ne (by unfold trH; omega)]; exact q3'
            have hnr := tJ_rg (G 245 (30 * x + (j : Int)))
            have hnr2 : -9223372036854775808 ≤ tnZ G x j ∧ tnZ G x j ≤ 9223372036854775807 := hnr
            have h95 : ∀ {kk : Int → HeapP → ResP} {kx : Nat → HeapP → ResP}, cJT (callP MP e 95 [.ref (trH x), .int (zI (j : Int))] (mk E (uR F 172 s.1) G)) kk kx = kk (tnZ G x j) (mk E (uR F 172 s.1) G) := fun {kk kx} => by
              rw [cc_95 ht (by omega) (by omega), hnum j (by omega)]
            by_cases g : nbP G x j = true
            · left
              have g2 : ¬ (0 ≤ tnZ G x j ∧ tnZ G x j ≤ 30) := of_decide_eq_true g
              have ha : a_barg F G K x = (3, 0) := by unfold a_barg; rw [if_pos htf, if_pos c3, if_neg (fnd_some hj g)]
              refine ⟨jE E, uR F 172 s.1, ?_, ?_⟩
              · rw [ha]
                show runP MP e 160 _ = some (Sum.inr 2, mk (jE E) (uR F 172 s.1) G)
                by_cases g3 : tnZ G x j < 0
                · rw [q_160_35_1]; (try simp only [↓n_rd, ↓n_cI, ↓n_cJ, li_0, li_1, li_2, li_4, li_5, li_6, li_7, li_13, li_30, lj_0, lj_1, lj_2, lj_4, lj_5, lj_6, lj_30, zJ_add, zJ_sub, zJ_mul, zJ_neg, zJ_l2i, zI_add, zI_sub, zI_mul, zI_neg, ↓Option.bind_some]); simp (disch := (first | assumption | exact tI_rg _ | omega | exact uR_at | exact row_ne hF (by decide) | exact row_ne (row_ne hF (by decide)) (by decide) | exact SnS_18 | exact SnS_30 | exact LdS_44 | exact LdS_46)) only [q_160_0, q_160_22, q_160_22_1, q_160_66, q_160_66_1, e3, ↓h95, cmpJ_lt, cmpJ_le, g3, ↓n_rd, ↓n_cI, ↓n_cJ, jnk_mk, li_0, li_1, li_2, li_4, li_5, li_6, li_7, li_13, li_30, lj_0, lj_1, lj_2, lj_4, lj_5, lj_6, lj_30, zJ_add, zJ_sub, zJ_mul, zJ_neg, zJ_l2i, tJ_zJ, zI_add, zI_sub, zI_mul, zI_neg, ↓Option.bind_some, ↓g0_0, ↓g11_11, ↓g11_4, ↓g5_1, ↓g7_1, ↓al_172, ↓as_172, zIt2, uR_at, uR_ne, uR_uR, uC_uC, uC_at, ↓reduceIte, decide_eq_true_eq, leT, leF, ltT, ltF, eqT, eqF, ne_eq, not_true_eq_false, not_false_eq_true, Bool.false_eq_true, tI_zI]
                · have g4 : ¬ tnZ G x j ≤ 30 := by omega
                  rw [q_160_35_1]; (try simp only [↓n_rd, ↓n_cI, ↓n_cJ, li_0, li_1, li_2, li_4, li_5, li_6, li_7, li_13, li_30, lj_0, lj_1, lj_2, lj_4, lj_5, lj_6, lj_30, zJ_add, zJ_sub, zJ_mul, zJ_neg, zJ_l2i, zI_add, zI_sub, zI_mul, zI_neg, ↓Option.bind_some]); simp (disch := (first | assumption | exact tI_rg _ | omega | exact uR_at | exact row_ne hF (by decide) | exact row_ne (row_ne hF (by decide)) (by decide) | exact SnS_18 | exact SnS_30 | exact LdS_44 | exact LdS_46)) only [q_160_0, q_160_22, q_160_22_1, q_160_66, q_160_66_1, e3, ↓h95, cmpJ_lt, cmpJ_le, g3, g4, ↓n_rd, ↓n_cI, ↓n_cJ, jnk_mk, li_0, li_1, li_2, li_4, li_5, li_6, li_7, li_13, li_30, lj_0, lj_1, lj_2, lj_4, lj_5, lj_6, lj_30, zJ_add, zJ_sub, zJ_mul, zJ_neg, zJ_l2i, tJ_zJ, zI_add, zI_sub, zI_mul, zI_neg, ↓Option.bind_some, ↓g0_0, ↓g11_11, ↓g11_4, ↓g5_1, ↓g7_1, ↓al_172, ↓as_172, zIt2, uR_at, uR_ne, uR_uR, uC_uC, uC_at, ↓reduceIte, decide_eq_true_eq, leT, leF, ltT, ltF, eqT, eqF, ne_eq, not_true_eq_false, not_false_eq_true, Bool.false_eq_true, tI_zI]
              · obtain ⟨a1, a2, a3, a4, a5, a6, a7⟩ := KeepD_F (E := E) (F := F) (G := G) (r := s.1) scr172
                exact ⟨a1, a2, a3, a4, a5, ⟨by show E.1 ≤ E.1 + 1; omega, Nat.le_refl _⟩, ⟨by show E.2.1 ≤ E.2.1 + 6; omega, Nat.le_refl _⟩⟩
            · right
              have g2 : 0 ≤ tnZ G x j ∧ tnZ G x j ≤ 30 := Decidable.not_not.mp (of_decide_eq_false (Bool.eq_false_iff.mpr g))
              refine ⟨(uC s.1 (j : Int) (zI (tnZ G x j)), some (.long (zJ (tnZ G x j)))), ⟨fun i hi => ?_, fun i hi => ?_⟩, ?_⟩
              · show uC s.1 (j : Int) (zI (tnZ G x j)) (i : Int) = _
                by_cases e : i = j
                · rw [e, uC_at]
                · rw [uC_ne (by omega)]; exact hI2.1 i (by omega)
              · by_cases e : i = j
                · rw [e]; exact Bool.eq_false_iff.mpr g
                · exact hI2.2 i (by omega)
              · show runP MP e 160 _ = runP MP e 160 _
                rw [nsucc]
                have g5 : ¬ tnZ G x j < 0 := by omega
                have g6 : tnZ G x j ≤ 30 := g2.2
                rw [q_160_35_1]; (try simp only [↓n_rd, ↓n_cI, ↓n_cJ, li_0, li_1, li_2, li_4, li_5, li_6, li_7, li_13, li_30, lj_0, lj_1, lj_2, lj_4, lj_5, lj_6, lj_30, zJ_add, zJ_sub, zJ_mul, zJ_neg, zJ_l2i, zI_add, zI_sub, zI_mul, zI_neg, ↓Option.bind_some]); simp (disch := (first | assumption | exact tI_rg _ | omega | exact uR_at | exact row_ne hF (by decide) | exact row_ne (row_ne hF (by decide)) (by decide) | exact SnS_18 | exact SnS_30 | exact LdS_44 | exact LdS_46)) only [q_160_0, q_160_22, q_160_22_1, q_160_66, q_160_66_1, e3, ↓h95, cmpJ_lt, cmpJ_le, g5, g6, ↓n_rd, ↓n_cI, ↓n_cJ, jnk_mk, li_0, li_1, li_2, li_4, li_5, li_6, li_7, li_13, li_30, lj_0, lj_1, lj_2, lj_4, lj_5, lj_6, lj_30, zJ_add, zJ_sub, zJ_mul, zJ_neg, zJ_l2i, tJ_zJ, zI_add, zI_sub, zI_mul, zI_neg, ↓Option.bind_some, ↓g0_0, ↓g11_11, ↓g11_4, ↓g5_1, ↓g7_1, ↓al_172, ↓as_172, zIt2, uR_at, uR_ne, uR_uR, uC_uC, uC_at, ↓reduceIte, decide_eq_true_eq, leT, leF, ltT, ltF, eqT, eqF, ne_eq, not_true_eq_false, not_false_eq_true, Bool.false_eq_true, tI_zI]
        obtain ⟨E1, F1, r1, k1⟩ := hl
        refine ⟨E1, F1, ?_, k1⟩
        rw [hin, ← r1]
        rw [q_160_0]; (try simp only [↓n_rd, ↓n_cI, ↓n_cJ, li_0, li_1, li_2, li_4, li_5, li_6, li_7, li_13, li_30, lj_0, lj_1, lj_2, lj_4, lj_5, lj_6, lj_30, zJ_add, zJ_sub, zJ_mul, zJ_neg, zJ_l2i, zI_add, zI_sub, zI_mul, zI_neg, ↓Option.bind_some]); simp (disch := (first | assumption | exact tI_rg _ | omega | exact uR_at | exact row_ne hF (by decide) | exact row_ne (row_ne hF (by decide)) (by decide) | exact SnS_18 | exact SnS_30 | exact LdS_44 | exact LdS_46)) only [q_160_22, q_160_22_1, q_160_66, q_160_66_1, ↓cc_137t hT, q3', ↓n_rd, ↓n_cI, ↓n_cJ, jnk_mk, li_0, li_1, li_2, li_4, li_5, li_6, li_7, li_13, li_30, lj_0, lj_1, lj_2, lj_4, lj_5, lj_6, lj_30, zJ_add, zJ_sub, zJ_mul, zJ_neg, zJ_l2i, tJ_zJ, zI_add, zI_sub, zI_mul, zI_neg, ↓Option.bind_some, ↓g0_0, ↓g11_11, ↓g11_4, ↓g5_1, ↓g7_1, ↓al_172, ↓as_172, zIt2, uR_at, uR_ne, uR_uR, uC_uC, uC_at, ↓reduceIte, decide_eq_true_eq, leT, leF, ltT, ltF, eqT, eqF, ne_eq, not_true_eq_false, not_false_eq_true, Bool.false_eq_true, tI_zI]
      · have ha : a_barg F G K x = (3, 0) := (if_pos htf).trans (if_neg c3)
        rw [ha]
        refine ⟨jE E, F, ?_, KeepC_j⟩
        show (_ : ResP) = some (Sum.inr 2, mk (jE E) F G)
        refine into (D := 2) (by omega) hM_160 (rcv_mk rfl (by decide)) rfl fun d hd => ?_
        show runP MP d 160 (0, [some (.ref 16), some (.int (zI x)), none, none, none, none], [], _) = _
        by_cases g3 : (tdM F x : Int) < 1
        · rw [q_160_0]; (try simp only [↓n_rd, ↓n_cI, ↓n_cJ, li_0, li_1, li_2, li_4, li_5, li_6, li_7, li_13, li_30, lj_0, lj_1, lj_2, lj_4, lj_5, lj_6, lj_30, zJ_add, zJ_sub, zJ_mul, zJ_neg, zJ_l2i, zI_add, zI_sub, zI_mul, zI_neg, ↓Option.bind_some]); simp (disch := (first | assumption | exact tI_rg _ | omega | exact uR_at | exact row_ne hF (by decide) | exact row_ne (row_ne hF (by decide)) (by decide) | exact SnS_18 | exact SnS_30 | exact LdS_44 | exact LdS_46)) only [q_160_22, q_160_22_1, q_160_66, q_160_66_1, ↓cc_137t hT, q3', thr_eq, ↓n_rd, ↓n_cI, ↓n_cJ, jnk_mk, li_0, li_1, li_2, li_4, li_5, li_6, li_7, li_13, li_30, lj_0, lj_1, lj_2, lj_4, lj_5, lj_6, lj_30, zJ_add, zJ_sub, zJ_mul, zJ_neg, zJ_l2i, tJ_zJ, zI_add, zI_sub, zI_mul, zI_neg, ↓Option.bind_some, ↓g0_0, ↓g11_11, ↓g11_4, ↓g5_1, ↓g7_1, ↓al_172, ↓as_172, zIt2, uR_at, uR_ne, uR_uR, uC_uC, uC_at, ↓reduceIte, decide_eq_true_eq, leT, leF, ltT, ltF, eqT, eqF, ne_eq, not_true_eq_false, not_false_eq_true, Bool.false_eq_true, tI_zI]
        · rw [q_160_0]; (try simp only [↓n_rd, ↓n_cI, ↓n_cJ, li_0, li_1, li_2, li_4, li_5, li_6, li_7, li_13, li_30, lj_0, lj_1, lj_2, lj_4, lj_5, lj_6, lj_30, zJ_add, zJ_sub, zJ_mul, zJ_neg, zJ_l2i, zI_add, zI_sub, zI_mul, zI_neg, ↓Option.bind_some]); simp (disch := (first | assumption | exact tI_rg _ | omega | exact uR_at | exact row_ne hF (by decide) | exact row_ne (row_ne hF (by decide)) (by decide) | exact SnS_18 | exact SnS_30 | exact LdS_44 | exact LdS_46)) only [q_160_22, q_160_22_1, q_160_66, q_160_66_1, ↓cc_137t hT, q3', thr_eq, ↓n_rd, ↓n_cI, ↓n_cJ, jnk_mk, li_0, li_1, li_2, li_4, li_5, li_6, li_7, li_13, li_30, lj_0, lj_1, lj_2, lj_4, lj_5, lj_6, lj_30, zJ_add, zJ_sub, zJ_mul, zJ_neg, zJ_l2i, tJ_zJ, zI_add, zI_sub, zI_mul, zI_neg, ↓Option.bind_some, ↓g0_0, ↓g11_11, ↓g11_4, ↓g5_1, ↓g7_1, ↓al_172, ↓as_172, zIt2, uR_at, uR_ne, uR_uR, uC_uC, uC_at, ↓reduceIte, decide_eq_true_eq, leT, leF, ltT, ltF, eqT, eqF, ne_eq, not_true_eq_false, not_false_eq_true, Bool.false_eq_true, tI_zI]
  · have htf : tfZ F x = 1 := if_neg c1
    have ha : a_barg F G K x = (1, 0) := by unfold a_barg; rw [if_neg (by omega), htf]
    rw [ha]
    refine ⟨jE E, F, ?_, KeepC_j⟩
    show (_ : ResP) = some (Sum.inr 0, mk (jE E) F G)
    refine into (D := 2) (by omega) hM_160 (rcv_mk rfl (by decide)) rfl fun d hd => ?_
    show runP MP d 160 (0, [some (.ref 16), some (.int (zI x)), none, none, none, none], [], _) = _
    rw [q_160_0]; (try simp only [↓n_rd, ↓n_cI, ↓n_cJ, li_0, li_1, li_2, li_4, li_5, li_6, li_7, li_13, li_30, lj_0, lj_1, lj_2, lj_4, lj_5, lj_6, lj_30, zJ_add, zJ_sub, zJ_mul, zJ_neg, zJ_l2i, zI_add, zI_sub, zI_mul, zI_neg, ↓Option.bind_some]); simp (disch := (first | assumption | exact tI_rg _ | omega | exact uR_at | exact row_ne hF (by decide) | exact row_ne (row_ne hF (by decide)) (by decide) | exact SnS_18 | exact SnS_30 | exact LdS_44 | exact LdS_46)) only [q_160_22, q_160_22_1, q_160_66, q_160_66_1, ↓cc_137f, thr_eq, ↓n_rd, ↓n_cI, ↓n_cJ, jnk_mk, li_0, li_1, li_2, li_4, li_5, li_6, li_7, li_13, li_30, lj_0, lj_1, lj_2, lj_4, lj_5, lj_6, lj_30, zJ_add, zJ_sub, zJ_mul, zJ_neg, zJ_l2i, tJ_zJ, zI_add, zI_sub, zI_mul, zI_neg, ↓Option.bind_some, ↓g0_0, ↓g11_11, ↓g11_4, ↓g5_1, ↓g7_1, ↓al_172, ↓as_172, zIt2, uR_at, uR_ne, uR_uR, uC_uC, uC_at, ↓reduceIte, decide_eq_true_eq, leT, leF, ltT, ltF, eqT, eqF, ne_eq, not_true_eq_false, not_false_eq_true, Bool.false_eq_true, tI_zI]
end S94zh
