/-! CALLS: homes -/
section S94zg
set_option linter.unusedVariables false
set_option linter.unusedSimpArgs false
theorem mx_le {A : Nat → Int} {s : Nat} {b : Int} (hb : 0 ≤ b) (hA : ∀ g : Nat, s.testBit g = true → A g ≤ b) : ∀ g, mxG A s g ≤ b := by
  intro g
  induction g with
  | zero => exact hb
  | succ g ih =>
    by_cases e : s.testBit g = true
    · have e2 : mxG A s (g + 1) = if mxG A s g < A g then A g else mxG A s g := if_pos e
      have := hA g e
      rw [e2]; split <;> omega
    · have e2 : mxG A s (g + 1) = mxG A s g := if_neg e
      rw [e2]; exact ih
theorem full_cnt : ∀ n : Nat, n ≤ 4 → ∀ g : Nat, g ≤ 4 → cntN (fun i => (2 ^ n - 1).testBit i) g = ((if g < n then g else n : Nat) : Int) := by decide +kernel
theorem full_bit : ∀ n : Nat, n ≤ 4 → ∀ g : Nat, g < 4 → ((2 ^ n - 1).testBit g = decide (g < n)) := by decide +kernel
theorem all_ac {n c t g : Nat} (ht : t < c) : acG (fun _ => (c : Int)) (2 ^ n - 1) t g = (2 ^ n - 1).testBit g := by
  unfold acG; rw [decide_eq_true (show (t : Int) < (c : Int) by omega), Bool.and_true]
theorem all_mO {n c : Nat} (hn : n ≤ 4) {o : Int} : ∀ t : Nat, t ≤ c → mOG (fun _ => (c : Int)) (2 ^ n - 1) o t = t * ((n : Int) + o) := by
  intro t
  induction t with
  | zero => intro _; exact (Int.zero_mul _).symm
  | succ t ih =>
    intro h
    have h1 : mOG (fun _ => (c : Int)) (2 ^ n - 1) o (t + 1) = mOG (fun _ => (c : Int)) (2 ^ n - 1) o t + cntN (acG (fun _ => (c : Int)) (2 ^ n - 1) t) 4 + o := rfl
    have h2 : cntN (acG (fun _ => (c : Int)) (2 ^ n - 1) t) 4 = (n : Int) := by
      rw [cntN_congr (q := fun i => (2 ^ n - 1).testBit i) (fun j _ => all_ac (by omega)), full_cnt n hn 4 (Nat.le_refl 4)]
      by_cases z : 4 < n
      · omega
      · rw [if_neg z]
    rw [h1, ih (by omega), h2, nsucc, Int.add_mul, Int.one_mul]; omega
theorem all_bd {n c t g : Nat} (hn : n ≤ 4) {o kp : Int} (ht : t < c) (hg : g < 4) : bdG (fun _ => (c : Int)) (2 ^ n - 1) o kp c t g = (decide (g < n) && decide (kp < (2 * (t : Int) + 1) * ((n : Int) + o))) := by
  have e1 : ((c : Int) - 1 - (t : Int)).toNat = c - 1 - t := by omega
  unfold bdG moG
  rw [all_ac ht, full_bit n hn g hg, e1, all_mO hn c (Nat.le_refl c), all_mO hn t (by omega), all_mO hn (c - 1 - t) (by omega)]
  rw [cntN_congr (q := fun i => (2 ^ n - 1).testBit i) (p := acG (fun _ => (c : Int)) (2 ^ n - 1) t) (fun j _ => all_ac (by omega)), cntN_congr (q := fun i => (2 ^ n - 1).testBit i) (p := acG (fun _ => (c : Int)) (2 ^ n - 1) (c - 1 - t)) (fun j _ => all_ac (by omega))]
  have e2 : ((c - 1 - t : Nat) : Int) = (c : Int) - 1 - (t : Int) := by omega
  rw [e2]
  have e3 : (2 * (t : Int) + 1) * ((n : Int) + o) = (c : Int) * ((n : Int) + o) + (t : Int) * ((n : Int) + o) - ((c : Int) - 1 - (t : Int)) * ((n : Int) + o) := by
    rw [← Int.add_mul, ← Int.sub_mul]
    exact congrArg (fun z => z * ((n : Int) + o)) (by omega)
  rw [e3]
  refine congrArg (fun z => decide (g < n) && z) ?_
  refine decide_eq_decide.mpr ?_
  omega
theorem all_ok {n f : Nat} (hn : 1 ≤ n ∧ n ≤ 4) {o kp : Int} (ho : 0 ≤ o) : okG (fun _ => ((f + 1 : Nat) : Int)) (2 ^ n - 1) o kp (f + 1) = if (2 * (f : Int) + 1) * ((n : Int) + o) ≤ kp then 1 else 0 := by
  by_cases h : (2 * (f : Int) + 1) * ((n : Int) + o) ≤ kp
  · rw [if_pos h]
    refine ok_1 (fun t g ht hg => ?_)
    rw [all_bd hn.2 ht hg]
    have h1 : (2 * (t : Int) + 1) * ((n : Int) + o) ≤ (2 * (f : Int) + 1) * ((n : Int) + o) := Int.mul_le_mul_of_nonneg_right (by omega) (by omega)
    rw [decide_eq_false (show ¬ kp < (2 * (t : Int) + 1) * ((n : Int) + o) by omega), Bool.and_false]
  · rw [if_neg h]
    refine ok_0 (t := f) (g := 0) (by omega) (by omega) ?_
    rw [all_bd hn.2 (by omega) (by omega), decide_eq_true (show 0 < n by omega), decide_eq_true (show kp < (2 * (f : Int) + 1) * ((n : Int) + o) by omega)]; rfl
theorem all_mx {n c : Nat} (hn : 1 ≤ n ∧ n ≤ 4) (hc : c ≤ 60) : mxG (fun _ => (c : Int)) (2 ^ n - 1) 4 = c := by
  have h1 := mx_le (A := fun _ => (c : Int)) (s := 2 ^ n - 1) (b := (c : Int)) (by omega) (fun _ _ => Int.le_refl _) 4
  have h2 := (mx_rg (A := fun _ => (c : Int)) (s := 2 ^ n - 1) (fun g _ _ => by omega) 4 (Nat.le_refl 4)).2.2 0 (by omega) (by rw [full_bit n hn.2 0 (by omega), decide_eq_true (show 0 < n by omega)])
  omega
/-- too far -/
def hmP (K : Int → Int32) (x y : Int) (f : Nat) : Bool := decide (tI (K 4) < (2 * (f : Int) + 1) * (x + y))
def hmZ (K : Int → Int32) (x y : Int) : Int := if fndN (hmP K x y) 60 0 = -1 then 60 else fndN (hmP K x y) 60 0
def a_homes (K : Int → Int32) (x y : Int) : Int × Int := if 1 ≤ x ∧ x ≤ 4 then (if 0 ≤ y ∧ y ≤ 9 then (0, hmZ K x y) else (1, 0)) else (1, 0)
theorem hm_rg (K : Int → Int32) (x y : Int) : 0 ≤ hmZ K x y ∧ hmZ K x y ≤ 60 := by
  have := fndN_rg (hmP K x y) 60 0
  unfold hmZ; split <;> omega
theorem pr_rg {j x y : Int} (hj : 0 ≤ j ∧ j ≤ 60) (hx : 1 ≤ x ∧ x ≤ 4) (hy : 0 ≤ y ∧ y ≤ 9) : 0 ≤ (2 * j + 1) * (x + y) ∧ (2 * j + 1) * (x + y) ≤ 121 * (x + y) :=
  ⟨Int.mul_nonneg (by omega) (by omega), Int.mul_le_mul_of_nonneg_right (by omega) (by omega)⟩
theorem ml_homes {d : Nat} {E : EnQ} {F : Nat → Int → Int32} {G : Nat → Int → Int64} {K : Int → Int32} (hI : InvK K) (hF : F 218 = K) {x y : Int} (hx : -2147483648 ≤ x ∧ x ≤ 2147483647) (hy : -2147483648 ≤ y ∧ y ≤ 2147483647) (hd : 2 ≤ d) : callP MP d 281 [.ref 217, .int (zI x), .int (zI y)] (mk E F G) = some (Sum.inl (some (.int (zI (a_homes K x y).2))), mk E (uR F 217 (uC (F 217) 5 (zI (a_homes K x y).1))) G) := by
  have hb4 := hI.1.2.2.2.2.1
  by_cases c1 : 1 ≤ x ∧ x ≤ 4
  · by_cases c2 : 0 ≤ y ∧ y ≤ 9
    · have ha : a_homes K x y = (0, hmZ K x y) := (if_pos c1).trans (if_pos c2)
      rw [ha]
      show (_ : ResP) = some (Sum.inl (some (.int (zI (hmZ K x y)))), mk E (uR F 217 (uC (F 217) 5 (zI 0))) G)
      refine into (D := 1) (by omega) hM_281 (rcv_mk rfl (by decide)) rfl fun d hd => ?_
      show runP MP d 281 (0, [some (.ref 217), some (.int (zI x)), some (.int (zI y)), none], [], _) = _
      have hF1 : uR F 217 (uC (F 217) 5 (zI 0)) 218 = K := row_ne hF (by decide)
      have hl : runP MP d 281 (37, [some (.ref 217), some (.int (zI x)), some (.int (zI y)), some (.int (zI 0))], [], mk E (uR F 217 (uC (F 217) 5 (zI 0))) G) = some (Sum.inl (some (.int (zI (hmZ K x y)))), mk E (uR F 217 (uC (F 217) 5 (zI 0))) G) := by
        refine loopS (σ := Unit) (Post := fun r => r = some (Sum.inl (some (.int (zI (hmZ K x y)))), mk E (uR F 217 (uC (F 217) 5 (zI 0))) G))
          (fun j _ => runP MP d 281 (37, [some (.ref 217), some (.int (zI x)), some (.int (zI y)), some (.int (zI (j : Int)))], [], mk E (uR F 217 (uC (F 217) 5 (zI 0))) G))
          (fun j _ => ∀ i, i < j → hmP K x y i = false) 60 () (fun i hi => by omega) (fun s hI2 => ?_) (fun j s hj hI2 => ?_)
        · show runP MP d 281 (37, [some (.ref 217), some (.int (zI x)), some (.int (zI y)), some (.int (zI 60))], [], mk E (uR F 217 (uC (F 217) 5 (zI 0))) G) = _
          have e : hmZ K x y = 60 := if_pos (fndN_none (fun i _ hi => hI2 i (by omega)))
          rw [e]
          rw [q_281_37]; (try simp only [↓n_al, ↓n_cI, li_0, li_1, li_2, li_4, li_5, li_9, li_12, li_60, lj_0, lj_1, lj_2, lj_4, lj_5, lj_9, lj_12, lj_60, zJ_add, zJ_sub, zJ_mul, zJ_neg, zJ_l2i, zI_add, zI_sub, zI_mul, zI_neg, ↓Option.bind_some]); simp (disch := (first | assumption | exact tI_rg _ | omega | exact uR_at | exact row_ne hF (by decide) | exact row_ne (row_ne hF (by decide)) (by decide) | exact SnS_18 | exact SnS_30 | exact LdS_44 | exact LdS_46)) only [q_281_0, q_281_29, q_281_67, ↓n_al, ↓n_cI, li_0, li_1, li_2, li_4, li_5, li_9, li_12, li_60, lj_0, lj_1, lj_2, lj_4, lj_5, lj_9, lj_12, lj_60, zJ_add, zJ_sub, zJ_mul, zJ_neg, zJ_l2i, tJ_zJ, zI_add, zI_sub, zI_mul, zI_neg, ↓Option.bind_some, ↓g12_0, ↓p12_5, ↓al_218, ↓as_218, zIt2, uR_at, uR_ne, uR_uR, uC_uC, uC_at, ↓reduceIte, decide_eq_true_eq, leT, leF, ltT, ltF, eqT, eqF, ne_eq, not_true_eq_false, not_false_eq_true, Bool.false_eq_true, tI_zI]
        · have hp := pr_rg (j := (j : Int)) (by omega) c1 c2
          by_cases g : hmP K x y j = true
          · left
            have g2 : tI (K 4) < (2 * (j : Int) + 1) * (x + y) := of_decide_eq_true g
            have e0 : fndN (hmP K x y) 60 0 = (j : Int) := fndN_eq (by omega) (by omega) g (fun i _ hi => hI2 i hi)
            have e : hmZ K x y = (j : Int) := by unfold hmZ; rw [e0, if_neg (by omega)]
            rw [e]
            show runP MP d 281 _ = _
            rw [q_281_37]; (try simp only [↓n_al, ↓n_cI, li_0, li_1, li_2, li_4, li_5, li_9, li_12, li_60, lj_0, lj_1, lj_2, lj_4, lj_5, lj_9, lj_12, lj_60, zJ_add, zJ_sub, zJ_mul, zJ_neg, zJ_l2i, zI_add, zI_sub, zI_mul, zI_neg, ↓Option.bind_some]); simp (disch := (first | assumption | exact tI_rg _ | omega | exact uR_at | exact row_ne hF (by decide) | exact row_ne (row_ne hF (by decide)) (by decide) | exact SnS_18 | exact SnS_30 | exact LdS_44 | exact LdS_46)) only [q_281_0, q_281_29, q_281_67, hF1, ↓n_al, ↓n_cI, li_0, li_1, li_2, li_4, li_5, li_9, li_12, li_60, lj_0, lj_1, lj_2, lj_4, lj_5, lj_9, lj_12, lj_60, zJ_add, zJ_sub, zJ_mul, zJ_neg, zJ_l2i, tJ_zJ, zI_add, zI_sub, zI_mul, zI_neg, ↓Option.bind_some, ↓g12_0, ↓p12_5, ↓al_218, ↓as_218, zIt2, uR_at, uR_ne, uR_uR, uC_uC, uC_at, ↓reduceIte, decide_eq_true_eq, leT, leF, ltT, ltF, eqT, eqF, ne_eq, not_true_eq_false, not_false_eq_true, Bool.false_eq_true, tI_zI]
          · right
            have g2 : ¬ tI (K 4) < (2 * (j : Int) + 1) * (x + y) := fun z => g (decide_eq_true z)
            refine ⟨(), fun i hi => ?_, ?_⟩
            · by_cases e : i = j
              · rw [e]; exact Bool.eq_false_iff.mpr g
              · exact hI2 i (by omega)
            · show runP MP d 281 _ = runP MP d 281 _
              rw [nsucc]
              rw [q_281_37]; (try simp only [↓n_al, ↓n_cI, li_0, li_1, li_2, li_4, li_5, li_9, li_12, li_60, lj_0, lj_1, lj_2, lj_4, lj_5, lj_9, lj_12, lj_60, zJ_add, zJ_sub, zJ_mul, zJ_neg, zJ_l2i, zI_add, zI_sub, zI_mul, zI_neg, ↓Option.bind_some]); simp (disch := (first | assumption | exact tI_rg _ | omega | exact uR_at | exact row_ne hF (by decide) | exact row_ne (row_ne hF (by decide)) (by decide) | exact SnS_18 | exact SnS_30 | exact LdS_44 | exact LdS_46)) only [q_281_0, q_281_29, q_281_67, hF1, ↓n_al, ↓n_cI, li_0, li_1, li_2, li_4, li_5, li_9, li_12, li_60, lj_0, lj_1, lj_2, lj_4, lj_5, lj_9, lj_12, lj_60, zJ_add, zJ_sub, zJ_mul, zJ_neg, zJ_l2i, tJ_zJ, zI_add, zI_sub, zI_mul, zI_neg, ↓Option.bind_some, ↓g12_0, ↓p12_5, ↓al_218, ↓as_218, zIt2, uR_at, uR_ne, uR_uR, uC_uC, uC_at, ↓reduceIte, decide_eq_true_eq, leT, leF, ltT, ltF, eqT, eqF, ne_eq, not_true_eq_false, not_false_eq_true, Bool.false_eq_true, tI_zI]
      rw [q_281_0]; (try simp only [↓n_al, ↓n_cI, li_0, li_1, li_2, li_4, li_5, li_9, li_12, li_60, lj_0, lj_1, lj_2, lj_4, lj_5, lj_9, lj_12, lj_60, zJ_add, zJ_sub, zJ_mul, zJ_neg, zJ_l2i, zI_add, zI_sub, zI_mul, zI_neg, ↓Option.bind_some]); simp (disch := (first | assumption | exact tI_rg _ | omega | exact uR_at | exact row_ne hF (by decide) | exact row_ne (row_ne hF (by decide)) (by decide) | exact SnS_18 | exact SnS_30 | exact LdS_44 | exact LdS_46)) only [q_281_29, q_281_67, ↓cc_188t, zI_i2l, ↓hl, ↓n_al, ↓n_cI, li_0, li_1, li_2, li_4, li_5, li_9, li_12, li_60, lj_0, lj_1, lj_2, lj_4, lj_5, lj_9, lj_12, lj_60, zJ_add, zJ_sub, zJ_mul, zJ_neg, zJ_l2i, tJ_zJ, zI_add, zI_sub, zI_mul, zI_neg, ↓Option.bind_some, ↓g12_0, ↓p12_5, ↓al_218, ↓as_218, zIt2, uR_at, uR_ne, uR_uR, uC_uC, uC_at, ↓reduceIte, decide_eq_true_eq, leT, leF, ltT, ltF, eqT, eqF, ne_eq, not_true_eq_false, not_false_eq_true, Bool.false_eq_true, tI_zI]
    · have ha : a_homes K x y = (1, 0) := (if_pos c1).trans (if_neg c2)
      rw [ha]
      show (_ : ResP) = some (Sum.inl (some (.int (zI 0))), mk E (uR F 217 (uC (F 217) 5 (zI 1))) G)
      refine into (D := 1) (by omega) hM_281 (rcv_mk rfl (by decide)) rfl fun d hd => ?_
      show runP MP d 281 (0, [some (.ref 217), some (.int (zI x)), some (.int (zI y)), none], [], _) = _
      rw [q_281_0]; (try simp only [↓n_al, ↓n_cI, li_0, li_1, li_2, li_4, li_5, li_9, li_12, li_60, lj_0, lj_1, lj_2, lj_4, lj_5, lj_9, lj_12, lj_60, zJ_add, zJ_sub, zJ_mul, zJ_neg, zJ_l2i, zI_add, zI_sub, zI_mul, zI_neg, ↓Option.bind_some]); simp (disch := (first | assumption | exact tI_rg _ | omega | exact uR_at | exact row_ne hF (by decide) | exact row_ne (row_ne hF (by decide)) (by decide) | exact SnS_18 | exact SnS_30 | exact LdS_44 | exact LdS_46)) only [q_281_29, q_281_67, ↓cc_188t, ↓cc_188f, ↓cc_189, zI_i2l, ↓n_al, ↓n_cI, li_0, li_1, li_2, li_4, li_5, li_9, li_12, li_60, lj_0, lj_1, lj_2, lj_4, lj_5, lj_9, lj_12, lj_60, zJ_add, zJ_sub, zJ_mul, zJ_neg, zJ_l2i, tJ_zJ, zI_add, zI_sub, zI_mul, zI_neg, ↓Option.bind_some, ↓g12_0, ↓p12_5, ↓al_218, ↓as_218, zIt2, uR_at, uR_ne, uR_uR, uC_uC, uC_at, ↓reduceIte, decide_eq_true_eq, leT, leF, ltT, ltF, eqT, eqF, ne_eq, not_true_eq_false, not_false_eq_true, Bool.false_eq_true, tI_zI]
  · have ha : a_homes K x y = (1, 0) := if_neg c1
    rw [ha]
    show (_ : ResP) = some (Sum.inl (some (.int (zI 0))), mk E (uR F 217 (uC (F 217) 5 (zI 1))) G)
    refine into (D := 1) (by omega) hM_281 (rcv_mk rfl (by decide)) rfl fun d hd => ?_
    show runP MP d 281 (0, [some (.ref 217), some (.int (zI x)), some (.int (zI y)), none], [], _) = _
    rw [q_281_0]; (try simp only [↓n_al, ↓n_cI, li_0, li_1, li_2, li_4, li_5, li_9, li_12, li_60, lj_0, lj_1, lj_2, lj_4, lj_5, lj_9, lj_12, lj_60, zJ_add, zJ_sub, zJ_mul, zJ_neg, zJ_l2i, zI_add, zI_sub, zI_mul, zI_neg, ↓Option.bind_some]); simp (disch := (first | assumption | exact tI_rg _ | omega | exact uR_at | exact row_ne hF (by decide) | exact row_ne (row_ne hF (by decide)) (by decide) | exact SnS_18 | exact SnS_30 | exact LdS_44 | exact LdS_46)) only [q_281_29, q_281_67, ↓cc_188f, ↓cc_189, zI_i2l, ↓n_al, ↓n_cI, li_0, li_1, li_2, li_4, li_5, li_9, li_12, li_60, lj_0, lj_1, lj_2, lj_4, lj_5, lj_9, lj_12, lj_60, zJ_add, zJ_sub, zJ_mul, zJ_neg, zJ_l2i, tJ_zJ, zI_add, zI_sub, zI_mul, zI_neg, ↓Option.bind_some, ↓g12_0, ↓p12_5, ↓al_218, ↓as_218, zIt2, uR_at, uR_ne, uR_uR, uC_uC, uC_at, ↓reduceIte, decide_eq_true_eq, leT, leF, ltT, ltF, eqT, eqF, ne_eq, not_true_eq_false, not_false_eq_true, Bool.false_eq_true, tI_zI]
theorem ct_11 {d : Nat} {E : EnQ} {F : Nat → Int → Int32} {G : Nat → Int → Int64} {x : Int} (hx : 0 ≤ x ∧ x ≤ 60) (hd : 2 ≤ d) : callP MP d 11 [.ref 171, .int (zI x)] (mk E F G) = some (Sum.inl (none), mk E (uR F 172 (zrI (F 172) 4 x)) G) := by

  refine into (D := 1) (by omega) hM_11 (rcv_mk rfl (by decide)) rfl fun d hd => ?_
  show runP MP d 11 (0, [some (.ref 171), some (.int (zI x))], [], _) = _
  have h0 : ∀ {kk : HeapP → ResP} {kx : Nat → HeapP → ResP}, cV (callP MP d 0 [.ref 172, .int (zI x)] (mk E F G)) kk kx = kk (mk E (uR F 172 (zrI (F 172) 4 x)) G) := fun {kk kx} => cc_0 (E := E) (a := 172) (n := 4) rfl (by decide) (by omega)
  rw [q_11_0]; (try simp only [li_0, li_60, zI_add, zI_sub, zI_mul, zI_neg, ↓Option.bind_some]); simp (disch := (first | assumption | exact tI_rg _ | omega | exact uR_at | exact row_ne hF (by decide) | exact row_ne (row_ne hF (by decide)) (by decide) | exact SnS_18 | exact SnS_30 | exact LdS_44 | exact LdS_46)) only [↓h0, minZ, li_0, li_60, zI_add, zI_sub, zI_mul, zI_neg, ↓Option.bind_some, ↓g0_0, ↓al_172, ↓as_172, zIt2, uR_at, uR_ne, uR_uR, uC_uC, uC_at, ↓reduceIte, decide_eq_true_eq, leT, leF, ltT, ltF, eqT, eqF, ne_eq, not_true_eq_false, not_false_eq_true, Bool.false_eq_true, tI_zI]
theorem cc_11 {d : Nat} {E : EnQ} {F : Nat → Int → Int32} {G : Nat → Int → Int64} {kk : HeapP → ResP} {kx : Nat → HeapP → ResP} {x : Int} (hx : 0 ≤ x ∧ x ≤ 60) (hd : 2 ≤ d) : cV (callP MP d 11 [.ref 171, .int (zI x)] (mk E F G)) kk kx = kk (mk E (uR F 172 (zrI (F 172) 4 x)) G) := cV_ret (by apply ct_11 <;> assumption)
theorem KeepD_rows {E : EnQ} {F F1 : Nat → Int → Int32} {G : Nat → Int → Int64} {p : Nat → Prop} (hp : ∀ q, p q → scrC q) (h : ∀ q, ¬ p q → F1 q = F q) : KeepD E F G E F1 G :=
  ⟨fun q _ h2 => h q (fun z => h2 (hp q z)), fun j _ _ => by rw [h 16 (fun z => by have := hp 16 z; unfold scrC at this; omega)], fun _ _ _ _ => rfl, fun _ _ _ _ => rfl, rfl, rfl, rfl⟩
theorem scr172 : scrC 172 := by unfold scrC; omega
theorem scr174 : ∀ q, (174 ≤ q ∧ q ≤ 177) → scrC q := fun q h => by unfold scrC; omega
theorem cl_homes {d : Nat} {E : EnQ} {F : Nat → Int → Int32} {G : Nat → Int → Int64} {K : Int → Int32} (hO : SnO E F 18 K) (hD : SepP E 18) (hL : ∀ g : Nat, g < 4 → E.2.2.2 173 (g : Int) = 174 + g) {x y : Int} (hx : -2147483648 ≤ x ∧ x ≤ 2147483647) (hy : -2147483648 ≤ y ∧ y ≤ 2147483647) (hd : 3 ≤ d) : ∃ E1 F1, callP MP d 159 [.ref 16, .int (zI x), .int (zI y)] (mk E F G) = some (thrP [2] (a_homes K x y), mk E1 F1 G) ∧ KeepC E F G E1 F1 G := by
  have hI := hO.2.2.2.2
  have hb4 := hI.1.2.2.2.2.1
  have hs := hO.1.1
  by_cases c1 : 1 ≤ x ∧ x ≤ 4
  · by_cases c2 : 0 ≤ y ∧ y ≤ 9
    · have ha : a_homes K x y = (0, hmZ K x y) := (if_pos c1).trans (if_pos c2)
      rw [ha]
      obtain ⟨e, rfl⟩ : ∃ e, d = e + 1 := ⟨d - 1, by omega⟩
      have hin : callP MP (e + 1) 159 [.ref 16, .int (zI x), .int (zI y)] (mk E F G) = runP MP e 159 (0, [some (.ref 16), some (.int (zI x)), some (.int (zI y)), none, none, none], [], mk E F G) := into_eq (by omega) hM_159 (rcv_mk rfl (by decide)) rfl
      have hpow : (2 : Nat) ^ x.toNat ≤ 2 ^ 4 := Nat.pow_le_pow_right (by omega) (by omega)
      have hpos : 0 < (2 : Nat) ^ x.toNat := Nat.two_pow_pos _
      have es : ((bitN x : Nat) : Int) - 1 = ((2 ^ x.toNat - 1 : Nat) : Int) := by unfold bitN; omega
      have hn : 1 ≤ x.toNat ∧ x.toNat ≤ 4 := by omega
      have hmr := hm_rg K x y
      have hl : ∃ F1, runP MP e 159 (25, [some (.ref 16), some (.int (zI x)), some (.int (zI y)), some (.int (zI ((2 ^ x.toNat - 1 : Nat) : Int))), some (.int (zI 0)), some (.int (zI 1))], [], mk E F G) = some (Sum.inl (some (.int (zI (hmZ K x y)))), mk E F1 G) ∧ KeepD E F G E F1 G := by
        refine loopS (σ := Nat → Int → Int32) (Post := fun r => ∃ F1, r = some (Sum.inl (some (.int (zI (hmZ K x y)))), mk E F1 G) ∧ KeepD E F G E F1 G)
          (fun j s => runP MP e 159 (25, [some (.ref 16), some (.int (zI x)), some (.int (zI y)), some (.int (zI ((2 ^ x.toNat - 1 : Nat) : Int))), some (.int (zI (j : Int))), some (.int (zI 1))], [], mk E s G))
          (fun j s => KeepD E F G E s G ∧ ∀ i, i < j → hmP K x y i = false) 60 F ⟨KeepD_rf, fun i hi => by omega⟩ (fun s hI2 => ⟨s, ?_, hI2.1⟩) (fun j s hj hI2 => ?_)
        · show runP MP e 159 (25, [some (.ref 16), some (.int (zI x)), some (.int (zI y)), some (.int (zI ((2 ^ x.toNat - 1 : Nat) : Int))), some (.int (zI 60)), some (.int (zI 1))], [], mk E s G) = _
          have e : hmZ K x y = 60 := if_pos (fndN_none (fun i _ hi => hI2.2 i (by omega)))
          rw [e]
          rw [q_159_25]; (try simp only [↓n_rd, ↓n_cI, li_0, li_1, li_4, li_5, li_9, li_12, li_60, li_124, zI_add, zI_sub, zI_mul, zI_neg, ↓Option.bind_some]); simp (disch := (first | assumption | exact tI_rg _ | omega | exact uR_at | exact row_ne hF (by decide) | exact row_ne (row_ne hF (by decide)) (by decide) | exact SnS_18 | exact SnS_30 | exact LdS_44 | exact LdS_46)) only [q_159_0, q_159_77, ↓n_rd, ↓n_cI, li_0, li_1, li_4, li_5, li_9, li_12, li_60, li_124, zI_add, zI_sub, zI_mul, zI_neg, ↓Option.bind_some, ↓g11_11, ↓g11_4, ↓g5_1, zIt2, uR_at, uR_ne, uR_uR, uC_uC, uC_at, ↓reduceIte, decide_eq_true_eq, leT, leF, ltT, ltF, eqT, eqF, ne_eq, not_true_eq_false, not_false_eq_true, Bool.false_eq_true, tI_zI]
        · have hO2 := (SnO_keep hO hD hI2.1.c).1
          have e1 : tI (s 18 1) = tI (K 4) := by rw [hO2.2.2.2.1.1.1]
          obtain ⟨F2, r12, k12⟩ := ct_12 (d := e) (E := E) (F := uR s 172 (zrI (s 172) 4 ((j : Int) + 1))) (G := G) (A := fun _ => ((j + 1 : Nat) : Int)) (s := 2 ^ x.toNat - 1) (o := y) (kp := tI (K 4)) hL (by omega) (fun g _ _ => by omega) (fun g hg _ => by rw [uR_at]; exact if_pos (by omega)) c2 (by omega) (by omega)
          rw [all_mx hn (by omega), show (((j + 1 : Nat) : Int)).toNat = j + 1 by omega, all_ok hn c2.1, show ((x.toNat : Nat) : Int) = x by omega] at r12
          have h11 : ∀ {kk : HeapP → ResP} {kx : Nat → HeapP → ResP}, cV (callP MP e 11 [.ref 171, .int (zI ((j : Int) + 1))] (mk E s G)) kk kx = kk (mk E (uR s 172 (zrI (s 172) 4 ((j : Int) + 1))) G) := fun {kk kx} => cc_11 (by omega) (by omega)
          have hK2 : KeepD E F G E F2 G := hI2.1.tr ((KeepD_F scr172).tr (KeepD_rows scr174 k12))
          have e2 : tI (uR s 172 (zrI (s 172) 4 ((j : Int) + 1)) 18 1) = tI (K 4) := by rw [uR_ne (by decide)]; exact e1
          have hp := pr_rg (j := (j : Int)) (by omega) c1 c2
          by_cases g : hmP K x y j = true
          · left
            have g2 : tI (K 4) < (2 * (j : Int) + 1) * (x + y) := of_decide_eq_true g
            have e0 : fndN (hmP K x y) 60 0 = (j : Int) := fndN_eq (by omega) (by omega) g (fun i _ hi => hI2.2 i hi)
            have e3 : hmZ K x y = (j : Int) := by unfold hmZ; rw [e0, if_neg (by omega)]
            rw [if_neg (by omega)] at r12
            have h12 : ∀ {kk : Int → HeapP → ResP} {kx : Nat → HeapP → ResP}, cT (callP MP e 12 [.ref 171, .int (zI ((2 ^ x.toNat - 1 : Nat) : Int)), .int (zI y), .int (zI (tI (K 4)))] (mk E (uR s 172 (zrI (s 172) 4 ((j : Int) + 1))) G)) kk kx = kk 0 (mk E F2 G) := fun {kk kx} => cT_ret r12 (by omega)
            refine ⟨F2, ?_, hK2⟩
            rw [e3]
            show runP MP e 159 _ = _
            rw [q_159_25]; (try simp only [↓n_rd, ↓n_cI, li_0, li_1, li_4, li_5, li_9, li_12, li_60, li_124, zI_add, zI_sub, zI_mul, zI_neg, ↓Option.bind_some]); simp (disch := (first | assumption | exact tI_rg _ | omega | exact uR_at | exact row_ne hF (by decide) | exact row_ne (row_ne hF (by decide)) (by decide) | exact SnS_18 | exact SnS_30 | exact LdS_44 | exact LdS_46)) only [q_159_0, q_159_77, ↓h11, e2, e1, ↓h12, ↓n_rd, ↓n_cI, li_0, li_1, li_4, li_5, li_9, li_12, li_60, li_124, zI_add, zI_sub, zI_mul, zI_neg, ↓Option.bind_some, ↓g11_11, ↓g11_4, ↓g5_1, zIt2, uR_at, uR_ne, uR_uR, uC_uC, uC_at, ↓reduceIte, decide_eq_true_eq, leT, leF, ltT, ltF, eqT, eqF, ne_eq, not_true_eq_false, not_false_eq_true, Bool.false_eq_true, tI_zI]
            rw [q_159_25]; (try simp only [↓n_rd, ↓n_cI, li_0, li_1, li_4, li_5, li_9, li_12, li_60, li_124, zI_add, zI_sub, zI_mul, zI_neg, ↓Option.bind_some]); simp (disch := (first | assumption | exact tI_rg _ | omega | exact uR_at | exact row_ne hF (by decide) | exact row_ne (row_ne hF (by decide)) (by decide) | exact SnS_18 | exact SnS_30 | exact LdS_44 | exact LdS_46)) only [q_159_0, q_159_77, ↓n_rd, ↓n_cI, li_0, li_1, li_4, li_5, li_9, li_12, li_60, li_124, zI_add, zI_sub, zI_mul, zI_neg, ↓Option.bind_some, ↓g11_11, ↓g11_4, ↓g5_1, zIt2, uR_at, uR_ne, uR_uR, uC_uC, uC_at, ↓reduceIte, decide_eq_true_eq, leT, leF, ltT, ltF, eqT, eqF, ne_eq, not_true_eq_false, not_false_eq_true, Bool.false_eq_true, tI_zI]
          · right
            have g2 : ¬ tI (K 4) < (2 * (j : Int) + 1) * (x + y) := fun z => g (decide_eq_true z)
            rw [if_pos (by omega)] at r12
            have h12 : ∀ {kk : Int → HeapP → ResP} {kx : Nat → HeapP → ResP}, cT (callP MP e 12 [.ref 171, .int (zI ((2 ^ x.toNat - 1 : Nat) : Int)), .int (zI y), .int (zI (tI (K 4)))] (mk E (uR s 172 (zrI (s 172) 4 ((j : Int) + 1))) G)) kk kx = kk 1 (mk E F2 G) := fun {kk kx} => cT_ret r12 (by omega)
            refine ⟨F2, ⟨hK2, fun i hi => ?_⟩, ?_⟩
            · by_cases e : i = j
              · rw [e]; exact Bool.eq_false_iff.mpr g
              · exact hI2.2 i (by omega)
            · show runP MP e 159 _ = runP MP e 159 _
              rw [nsucc]
              rw [q_159_25]; (try simp only [↓n_rd, ↓n_cI, li_0, li_1, li_4, li_5, li_9, li_12, li_60, li_124, zI_add, zI_sub, zI_mul, zI_neg, ↓Option.bind_some]); simp (disch := (first | assumption | exact tI_rg _ | omega | exact uR_at | exact row_ne hF (by decide) | exact row_ne (row_ne hF (by decide)) (by decide) | exact SnS_18 | exact SnS_30 | exact LdS_44 | exact LdS_46)) only [q_159_0, q_159_77, ↓h11, e2, e1, ↓h12, ↓n_rd, ↓n_cI, li_0, li_1, li_4, li_5, li_9, li_12, li_60, li_124, zI_add, zI_sub, zI_mul, zI_neg, ↓Option.bind_some, ↓g11_11, ↓g11_4, ↓g5_1, zIt2, uR_at, uR_ne, uR_uR, uC_uC, uC_at, ↓reduceIte, decide_eq_true_eq, leT, leF, ltT, ltF, eqT, eqF, ne_eq, not_true_eq_false, not_false_eq_true, Bool.false_eq_true, tI_zI]
      obtain ⟨F1, r1, k1⟩ := hl
      refine ⟨E, F1, ?_, k1.c⟩
      show (_ : ResP) = some (Sum.inl (some (.int (zI (hmZ K x y)))), mk E F1 G)
      rw [hin, ← r1]
      rw [q_159_0]; (try simp only [↓n_rd, ↓n_cI, li_0, li_1, li_4, li_5, li_9, li_12, li_60, li_124, zI_add, zI_sub, zI_mul, zI_neg, ↓Option.bind_some]); simp (disch := (first | assumption | exact tI_rg _ | omega | exact uR_at | exact row_ne hF (by decide) | exact row_ne (row_ne hF (by decide)) (by decide) | exact SnS_18 | exact SnS_30 | exact LdS_44 | exact LdS_46)) only [q_159_77, ↓cc_124t, shlB, es, ↓n_rd, ↓n_cI, li_0, li_1, li_4, li_5, li_9, li_12, li_60, li_124, zI_add, zI_sub, zI_mul, zI_neg, ↓Option.bind_some, ↓g11_11, ↓g11_4, ↓g5_1, zIt2, uR_at, uR_ne, uR_uR, uC_uC, uC_at, ↓reduceIte, decide_eq_true_eq, leT, leF, ltT, ltF, eqT, eqF, ne_eq, not_true_eq_false, not_false_eq_true, Bool.false_eq_true, tI_zI]
    · have ha : a_homes K x y = (1, 0) := (if_pos c1).trans (if_neg c2)
      rw [ha]
      refine ⟨jE E, F, ?_, KeepC_j⟩
      show (_ : ResP) = some (Sum.inr 2, mk (jE E) F G)
      refine into (D := 2) (by omega) hM_159 (rcv_mk rfl (by decide)) rfl fun d hd => ?_
      show runP MP d 159 (0, [some (.ref 16), some (.int (zI x)), some (.int (zI y)), none, none, none], [], _) = _
      rw [q_159_0]; (try simp only [↓n_rd, ↓n_cI, li_0, li_1, li_4, li_5, li_9, li_12, li_60, li_124, zI_add, zI_sub, zI_mul, zI_neg, ↓Option.bind_some]); simp (disch := (first | assumption | exact tI_rg _ | omega | exact uR_at | exact row_ne hF (by decide) | exact row_ne (row_ne hF (by decide)) (by decide) | exact SnS_18 | exact SnS_30 | exact LdS_44 | exact LdS_46)) only [q_159_77, ↓cc_124t, ↓cc_124f, thr_eq, ↓n_rd, ↓n_cI, li_0, li_1, li_4, li_5, li_9, li_12, li_60, li_124, zI_add, zI_sub, zI_mul, zI_neg, ↓Option.bind_some, ↓g11_11, ↓g11_4, ↓g5_1, zIt2, uR_at, uR_ne, uR_uR, uC_uC, uC_at, ↓reduceIte, decide_eq_true_eq, leT, leF, ltT, ltF, eqT, eqF, ne_eq, not_true_eq_false, not_false_eq_true, Bool.false_eq_true, tI_zI]
  · have ha : a_homes K x y = (1, 0) := if_neg c1
    rw [ha]
    refine ⟨jE E, F, ?_, KeepC_j⟩
    show (_ : ResP) = some (Sum.inr 2, mk (jE E) F G)
    refine into (D := 2) (by omega) hM_159 (rcv_mk rfl (by decide)) rfl fun d hd => ?_
    show runP MP d 159 (0, [some (.ref 16), some (.int (zI x)), some (.int (zI y)), none, none, none], [], _) = _
    rw [q_159_0]; (try simp only [↓n_rd, ↓n_cI, li_0, li_1, li_4, li_5, li_9, li_12, li_60, li_124, zI_add, zI_sub, zI_mul, zI_neg, ↓Option.bind_some]); simp (disch := (first | assumption | exact tI_rg _ | omega | exact uR_at | exact row_ne hF (by decide) | exact row_ne (row_ne hF (by decide)) (by decide) | exact SnS_18 | exact SnS_30 | exact LdS_44 | exact LdS_46)) only [q_159_77, ↓cc_124f, thr_eq, ↓n_rd, ↓n_cI, li_0, li_1, li_4, li_5, li_9, li_12, li_60, li_124, zI_add, zI_sub, zI_mul, zI_neg, ↓Option.bind_some, ↓g11_11, ↓g11_4, ↓g5_1, zIt2, uR_at, uR_ne, uR_uR, uC_uC, uC_at, ↓reduceIte, decide_eq_true_eq, leT, leF, ltT, ltF, eqT, eqF, ne_eq, not_true_eq_false, not_false_eq_true, Bool.false_eq_true, tI_zI]
end S94zg
