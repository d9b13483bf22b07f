/-! reading: tokens -/
section S94zzb
set_option linter.unusedVariables false
set_option linter.unusedSimpArgs false
abbrev TkS : Type := Int × Int × Int × Int
def isB (b : Int) : Bool := decide (b = 10 ∨ b = 32)
def isL (b : Int) : Bool := decide (97 ≤ b ∧ b ≤ 122)
def isD (b : Int) : Bool := decide (48 ≤ b ∧ b ≤ 57)
/-- the first from i on that isn't such a one, or the end -/
def scN (p : Nat → Bool) (n i : Nat) : Nat := if fndN (fun j => !(p j)) (n - i) i = -1 then n else (fndN (fun j => !(p j)) (n - i) i).toNat
theorem sc_is {p : Nat → Bool} {n i : Nat} (hi : i ≤ n) : i ≤ scN p n i ∧ scN p n i ≤ n ∧ (∀ j, i ≤ j → j < scN p n i → p j = true) ∧ (scN p n i < n → p (scN p n i) = false) := by
  unfold scN
  rcases fndN_is (fun j => !(p j)) (n - i) i with ⟨h1, h2⟩ | ⟨k, h1, h2, h3, h4, h5⟩
  · rw [if_pos h1]
    exact ⟨hi, Nat.le_refl _, fun j j1 j2 => by have := h2 j j1 (by omega); rw [Bool.not_eq_false'] at this; exact this, fun h => by omega⟩
  · rw [h3, if_neg (by omega), show ((k : Int)).toNat = k by omega]
    exact ⟨h1, by omega, fun j j1 j2 => by have := h5 j j1 j2; rw [Bool.not_eq_false'] at this; exact this, fun _ => by rw [Bool.not_eq_true'] at h4; exact h4⟩
def vlN (T : Nat → Int) (b : Nat) : Nat → Int
  | 0 => 0
  | k + 1 => if k < 3 then 10 * vlN T b k + T (b + k) - 48 else vlN T b k
def adv (T : Nat → Int) (n : Nat) (t : TkS) : TkS :=
  if n ≤ scN (fun j => isB (T j)) n t.2.2.1.toNat then (0, (scN (fun j => isB (T j)) n t.2.2.1.toNat : Nat), (scN (fun j => isB (T j)) n t.2.2.1.toNat : Nat), t.2.2.2)
  else if isL (T (scN (fun j => isB (T j)) n t.2.2.1.toNat)) = true then (1, (scN (fun j => isB (T j)) n t.2.2.1.toNat : Nat), (scN (fun j => isL (T j)) n (scN (fun j => isB (T j)) n t.2.2.1.toNat) : Nat), t.2.2.2)
  else if isD (T (scN (fun j => isB (T j)) n t.2.2.1.toNat)) = true then (if scN (fun j => isD (T j)) n (scN (fun j => isB (T j)) n t.2.2.1.toNat) - scN (fun j => isB (T j)) n t.2.2.1.toNat ≤ 3 then 2 else 4, (scN (fun j => isB (T j)) n t.2.2.1.toNat : Nat), (scN (fun j => isD (T j)) n (scN (fun j => isB (T j)) n t.2.2.1.toNat) : Nat), vlN T (scN (fun j => isB (T j)) n t.2.2.1.toNat) (scN (fun j => isD (T j)) n (scN (fun j => isB (T j)) n t.2.2.1.toNat) - scN (fun j => isB (T j)) n t.2.2.1.toNat))
  else (if T (scN (fun j => isB (T j)) n t.2.2.1.toNat) = 59 then 3 else 4, (scN (fun j => isB (T j)) n t.2.2.1.toNat : Nat), (scN (fun j => isB (T j)) n t.2.2.1.toNat : Nat) + 1, t.2.2.2)
/-- a token within a text of n bytes -/
def TkI (n : Nat) (t : TkS) : Prop := (0 ≤ t.1 ∧ t.1 ≤ 4) ∧ 0 ≤ t.2.1 ∧ t.2.1 ≤ t.2.2.1 ∧ t.2.2.1 ≤ n ∧ -2147483648 ≤ t.2.2.2 ∧ t.2.2.2 ≤ 2147483647
theorem vl_rg {T : Nat → Int} {b : Nat} : ∀ k, (∀ j, j < k → isD (T (b + j)) = true) → 0 ≤ vlN T b k ∧ vlN T b k ≤ 999 ∧ (k ≤ 3 → vlN T b k < 10 ^ k) := by
  intro k
  induction k with
  | zero => intro _; exact ⟨Int.le_refl _, by show (0 : Int) ≤ 999; omega, fun _ => by show (0 : Int) < 1; omega⟩
  | succ k ih =>
    intro h
    obtain ⟨i1, i2, i3⟩ := ih (fun j hj => h j (by omega))
    have hd := h k (by omega)
    unfold isD at hd
    rw [decide_eq_true_eq] at hd
    unfold vlN
    by_cases g : k < 3
    · rw [if_pos g]
      have i4 := i3 (by omega)
      rcases (show k = 0 ∨ k = 1 ∨ k = 2 by omega) with rfl | rfl | rfl
      · have e : (10 : Int) ^ 0 = 1 := rfl
        have e1 : (10 : Int) ^ (0 + 1) = 10 := rfl
        rw [e] at i4
        refine ⟨by omega, by omega, fun _ => by rw [e1]; omega⟩
      · have e : (10 : Int) ^ 1 = 10 := rfl
        have e1 : (10 : Int) ^ (1 + 1) = 100 := rfl
        rw [e] at i4
        refine ⟨by omega, by omega, fun _ => by rw [e1]; omega⟩
      · have e : (10 : Int) ^ 2 = 100 := rfl
        have e1 : (10 : Int) ^ (2 + 1) = 1000 := rfl
        rw [e] at i4
        refine ⟨by omega, by omega, fun _ => by rw [e1]; omega⟩
    · rw [if_neg g]
      exact ⟨i1, i2, fun h => by omega⟩
theorem adv_inv {T : Nat → Int} {n : Nat} {t : TkS} (h : TkI n t) : TkI n (adv T n t) ∧ t.2.2.1 ≤ (adv T n t).2.1 ∧ ((adv T n t).1 ≠ 0 → (adv T n t).2.1 < (adv T n t).2.2.1) := by
  obtain ⟨h1, h2, h3, h4, h5, h6⟩ := h
  obtain ⟨s1, s2, s3, s4⟩ := sc_is (p := fun j => isB (T j)) (n := n) (i := t.2.2.1.toNat) (by omega)
  unfold adv
  generalize scN (fun j => isB (T j)) n t.2.2.1.toNat = b at *
  by_cases c1 : n ≤ b
  · rw [if_pos c1]
    exact ⟨⟨by show (0 : Int) ≤ 0 ∧ (0 : Int) ≤ 4; omega, by show (0 : Int) ≤ (b : Int); omega, Int.le_refl _, by show (b : Int) ≤ n; omega, h5, h6⟩, by show t.2.2.1 ≤ (b : Int); omega, fun z => absurd rfl z⟩
  · rw [if_neg c1]
    by_cases c2 : isL (T b) = true
    · rw [if_pos c2]
      obtain ⟨u1, u2, u3, u4⟩ := sc_is (p := fun j => isL (T j)) (n := n) (i := b) (by omega)
      have u5 : b < scN (fun j => isL (T j)) n b := by
        by_cases z : scN (fun j => isL (T j)) n b = b
        · have := u4 (by omega)
          rw [z] at this
          rw [c2] at this; cases this
        · omega
      refine ⟨⟨by show (0 : Int) ≤ 1 ∧ (1 : Int) ≤ 4; omega, by show (0 : Int) ≤ (b : Int); omega, by show (b : Int) ≤ (scN (fun j => isL (T j)) n b : Nat); omega, by show ((scN (fun j => isL (T j)) n b : Nat) : Int) ≤ n; omega, h5, h6⟩, by show t.2.2.1 ≤ (b : Int); omega, fun _ => by show (b : Int) < (scN (fun j => isL (T j)) n b : Nat); omega⟩
    · rw [if_neg c2]
      by_cases c3 : isD (T b) = true
      · rw [if_pos c3]
        obtain ⟨u1, u2, u3, u4⟩ := sc_is (p := fun j => isD (T j)) (n := n) (i := b) (by omega)
        have u5 : b < scN (fun j => isD (T j)) n b := by
          by_cases z : scN (fun j => isD (T j)) n b = b
          · have := u4 (by omega)
            rw [z] at this
            rw [c3] at this; cases this
          · omega
        have hv := vl_rg (T := T) (b := b) (scN (fun j => isD (T j)) n b - b) (fun j hj => u3 (b + j) (by omega) (by omega))
        refine ⟨⟨?_, by show (0 : Int) ≤ (b : Int); omega, by show (b : Int) ≤ (scN (fun j => isD (T j)) n b : Nat); omega, by show ((scN (fun j => isD (T j)) n b : Nat) : Int) ≤ n; omega, Int.le_trans (by omega) hv.1, Int.le_trans hv.2.1 (by omega)⟩, by show t.2.2.1 ≤ (b : Int); omega, fun _ => by show (b : Int) < (scN (fun j => isD (T j)) n b : Nat); omega⟩
        show 0 ≤ (if scN (fun j => isD (T j)) n b - b ≤ 3 then (2 : Int) else 4) ∧ (if scN (fun j => isD (T j)) n b - b ≤ 3 then (2 : Int) else 4) ≤ 4
        split <;> omega
      · rw [if_neg c3]
        refine ⟨⟨?_, by show (0 : Int) ≤ (b : Int); omega, by show (b : Int) ≤ (b : Int) + 1; omega, by show (b : Int) + 1 ≤ n; omega, h5, h6⟩, by show t.2.2.1 ≤ (b : Int); omega, fun _ => by show (b : Int) < (b : Int) + 1; omega⟩
        show 0 ≤ (if T b = 59 then (3 : Int) else 4) ∧ (if T b = 59 then (3 : Int) else 4) ≤ 4
        split <;> omega
/-- the texts: bytes of the class, of the model -/
def TxR (F : Nat → Int → Int32) (T : Nat → Int) (n : Nat) : Prop := n ≤ 600 ∧ ∀ j : Nat, j < n → (0 ≤ T j ∧ T j < 256) ∧ tI (F 17 (j : Int)) = if T j < 128 then T j else T j - 256
def TxM (F : Nat → Int → Int32) (T : Nat → Int) (n : Nat) : Prop := n ≤ 600 ∧ ∀ j : Nat, j < n → (0 ≤ T j ∧ T j < 256) ∧ tI (F 223 (j : Int)) = T j
def tkR (r : Int → Int32) (t : TkS) : Int → Int32 := uC (uC (uC (uC r 2 (zI t.1)) 3 (zI t.2.1)) 4 (zI t.2.2.1)) 5 (zI t.2.2.2)
theorem tk_at {r : Int → Int32} {t : TkS} : tkR r t 2 = zI t.1 ∧ tkR r t 3 = zI t.2.1 ∧ tkR r t 4 = zI t.2.2.1 ∧ tkR r t 5 = zI t.2.2.2 := by
  unfold tkR
  exact ⟨by rw [uC_ne (by decide), uC_ne (by decide), uC_ne (by decide), uC_at], by rw [uC_ne (by decide), uC_ne (by decide), uC_at], by rw [uC_ne (by decide), uC_at], uC_at⟩
theorem tk_ne {r : Int → Int32} {t : TkS} {j : Int} (h : j < 2 ∨ 5 < j) : tkR r t j = r j := by
  unfold tkR
  rw [uC_ne (by omega), uC_ne (by omega), uC_ne (by omega), uC_ne (by omega)]
theorem tk_is {r : Int → Int32} {t : TkS} {s : Int → Int32} (h2 : s 2 = zI t.1) (h3 : s 3 = zI t.2.1) (h4 : s 4 = zI t.2.2.1) (h5 : s 5 = zI t.2.2.2) (hn : ∀ j, j < 2 ∨ 5 < j → s j = r j) : s = tkR r t := by
  obtain ⟨a2, a3, a4, a5⟩ := tk_at (r := r) (t := t)
  funext j
  by_cases e2 : j = 2
  · rw [e2, h2, a2]
  · by_cases e3 : j = 3
    · rw [e3, h3, a3]
    · by_cases e4 : j = 4
      · rw [e4, h4, a4]
      · by_cases e5 : j = 5
        · rw [e5, h5, a5]
        · rw [hn j (by omega), tk_ne (by omega)]
theorem ct_39 {d : Nat} {E : EnQ} {F : Nat → Int → Int32} {G : Nat → Int → Int64} {x b : Int} (hb : 0 ≤ b ∧ b < 256) (hx : x = b ∨ (128 ≤ b ∧ x = b - 256)) (hd : 1 ≤ d) : callP MP d 39 [.int (zI x)] (mk E F G) = some (Sum.inl (some (.int (zI (if isL b = true then 1 else 0)))), mk E F G) := by

  refine into (D := 0) (by omega) hM_39 rfl rfl fun d hd => ?_
  show runP MP d 39 (0, [some (.int (zI x))], [], _) = _
  unfold isL
  by_cases h : 97 ≤ b ∧ b ≤ 122
  · rw [if_pos (decide_eq_true h)]
    have e : x = b := by omega
    rw [e]
    rw [q_39_0]; (try simp only [li_0, li_1, li_16, li_97, li_122, zI_add, zI_sub, zI_mul, zI_neg, ↓Option.bind_some]); simp (disch := (first | assumption | exact tI_rg _ | omega | exact uR_at | exact row_ne hF (by decide) | exact row_ne (row_ne hF (by decide)) (by decide) | exact SnS_18 | exact SnS_30 | exact LdS_44 | exact LdS_46)) only [q_39_16, q_39_17, retZ_z, li_0, li_1, li_16, li_97, li_122, zI_add, zI_sub, zI_mul, zI_neg, ↓Option.bind_some, zIt2, uR_at, uR_ne, uR_uR, uC_uC, uC_at, ↓reduceIte, decide_eq_true_eq, leT, leF, ltT, ltF, eqT, eqF, ne_eq, not_true_eq_false, not_false_eq_true, Bool.false_eq_true, tI_zI]
  · rw [if_neg (fun z => h (of_decide_eq_true z))]
    by_cases g : x < 97
    · rw [q_39_0]; (try simp only [li_0, li_1, li_16, li_97, li_122, zI_add, zI_sub, zI_mul, zI_neg, ↓Option.bind_some]); simp (disch := (first | assumption | exact tI_rg _ | omega | exact uR_at | exact row_ne hF (by decide) | exact row_ne (row_ne hF (by decide)) (by decide) | exact SnS_18 | exact SnS_30 | exact LdS_44 | exact LdS_46)) only [q_39_16, q_39_17, retZ_z, li_0, li_1, li_16, li_97, li_122, zI_add, zI_sub, zI_mul, zI_neg, ↓Option.bind_some, zIt2, uR_at, uR_ne, uR_uR, uC_uC, uC_at, ↓reduceIte, decide_eq_true_eq, leT, leF, ltT, ltF, eqT, eqF, ne_eq, not_true_eq_false, not_false_eq_true, Bool.false_eq_true, tI_zI]
    · rw [q_39_0]; (try simp only [li_0, li_1, li_16, li_97, li_122, zI_add, zI_sub, zI_mul, zI_neg, ↓Option.bind_some]); simp (disch := (first | assumption | exact tI_rg _ | omega | exact uR_at | exact row_ne hF (by decide) | exact row_ne (row_ne hF (by decide)) (by decide) | exact SnS_18 | exact SnS_30 | exact LdS_44 | exact LdS_46)) only [q_39_16, q_39_17, retZ_z, li_0, li_1, li_16, li_97, li_122, zI_add, zI_sub, zI_mul, zI_neg, ↓Option.bind_some, zIt2, uR_at, uR_ne, uR_uR, uC_uC, uC_at, ↓reduceIte, decide_eq_true_eq, leT, leF, ltT, ltF, eqT, eqF, ne_eq, not_true_eq_false, not_false_eq_true, Bool.false_eq_true, tI_zI]
theorem cc_39 {d : Nat} {E : EnQ} {F : Nat → Int → Int32} {G : Nat → Int → Int64} {kk : Int → HeapP → ResP} {kx : Nat → HeapP → ResP} {x b : Int} (hb : 0 ≤ b ∧ b < 256) (hx : x = b ∨ (128 ≤ b ∧ x = b - 256)) (hd : 1 ≤ d) : cT (callP MP d 39 [.int (zI x)] (mk E F G)) kk kx = kk (if isL b = true then 1 else 0) (mk E F G) := cT_ret (by apply ct_39 <;> assumption) (by split <;> omega)
theorem ct_40 {d : Nat} {E : EnQ} {F : Nat → Int → Int32} {G : Nat → Int → Int64} {x b : Int} (hb : 0 ≤ b ∧ b < 256) (hx : x = b ∨ (128 ≤ b ∧ x = b - 256)) (hd : 1 ≤ d) : callP MP d 40 [.int (zI x)] (mk E F G) = some (Sum.inl (some (.int (zI (if isD b = true then 1 else 0)))), mk E F G) := by

  refine into (D := 0) (by omega) hM_40 rfl rfl fun d hd => ?_
  show runP MP d 40 (0, [some (.int (zI x))], [], _) = _
  unfold isD
  by_cases h : 48 ≤ b ∧ b ≤ 57
  · rw [if_pos (decide_eq_true h)]
    have e : x = b := by omega
    rw [e]
    rw [q_40_0]; (try simp only [li_0, li_1, li_16, li_48, li_57, zI_add, zI_sub, zI_mul, zI_neg, ↓Option.bind_some]); simp (disch := (first | assumption | exact tI_rg _ | omega | exact uR_at | exact row_ne hF (by decide) | exact row_ne (row_ne hF (by decide)) (by decide) | exact SnS_18 | exact SnS_30 | exact LdS_44 | exact LdS_46)) only [q_40_16, q_40_17, retZ_z, li_0, li_1, li_16, li_48, li_57, zI_add, zI_sub, zI_mul, zI_neg, ↓Option.bind_some, zIt2, uR_at, uR_ne, uR_uR, uC_uC, uC_at, ↓reduceIte, decide_eq_true_eq, leT, leF, ltT, ltF, eqT, eqF, ne_eq, not_true_eq_false, not_false_eq_true, Bool.false_eq_true, tI_zI]
  · rw [if_neg (fun z => h (of_decide_eq_true z))]
    by_cases g : x < 48
    · rw [q_40_0]; (try simp only [li_0, li_1, li_16, li_48, li_57, zI_add, zI_sub, zI_mul, zI_neg, ↓Option.bind_some]); simp (disch := (first | assumption | exact tI_rg _ | omega | exact uR_at | exact row_ne hF (by decide) | exact row_ne (row_ne hF (by decide)) (by decide) | exact SnS_18 | exact SnS_30 | exact LdS_44 | exact LdS_46)) only [q_40_16, q_40_17, retZ_z, li_0, li_1, li_16, li_48, li_57, zI_add, zI_sub, zI_mul, zI_neg, ↓Option.bind_some, zIt2, uR_at, uR_ne, uR_uR, uC_uC, uC_at, ↓reduceIte, decide_eq_true_eq, leT, leF, ltT, ltF, eqT, eqF, ne_eq, not_true_eq_false, not_false_eq_true, Bool.false_eq_true, tI_zI]
    · rw [q_40_0]; (try simp only [li_0, li_1, li_16, li_48, li_57, zI_add, zI_sub, zI_mul, zI_neg, ↓Option.bind_some]); simp (disch := (first | assumption | exact tI_rg _ | omega | exact uR_at | exact row_ne hF (by decide) | exact row_ne (row_ne hF (by decide)) (by decide) | exact SnS_18 | exact SnS_30 | exact LdS_44 | exact LdS_46)) only [q_40_16, q_40_17, retZ_z, li_0, li_1, li_16, li_48, li_57, zI_add, zI_sub, zI_mul, zI_neg, ↓Option.bind_some, zIt2, uR_at, uR_ne, uR_uR, uC_uC, uC_at, ↓reduceIte, decide_eq_true_eq, leT, leF, ltT, ltF, eqT, eqF, ne_eq, not_true_eq_false, not_false_eq_true, Bool.false_eq_true, tI_zI]
theorem cc_40 {d : Nat} {E : EnQ} {F : Nat → Int → Int32} {G : Nat → Int → Int64} {kk : Int → HeapP → ResP} {kx : Nat → HeapP → ResP} {x b : Int} (hb : 0 ≤ b ∧ b < 256) (hx : x = b ∨ (128 ≤ b ∧ x = b - 256)) (hd : 1 ≤ d) : cT (callP MP d 40 [.int (zI x)] (mk E F G)) kk kx = kk (if isD b = true then 1 else 0) (mk E F G) := cT_ret (by apply ct_40 <;> assumption) (by split <;> omega)
theorem ct_191 {d : Nat} {E : EnQ} {F : Nat → Int → Int32} {G : Nat → Int → Int64} {x b : Int} (hb : 0 ≤ b ∧ b < 256) (hx : x = b ∨ (128 ≤ b ∧ x = b - 256)) (hd : 1 ≤ d) : callP MP d 191 [.int (zI x)] (mk E F G) = some (Sum.inl (some (.int (zI (if isL b = true then 1 else 0)))), mk E F G) := by

  refine into (D := 0) (by omega) hM_191 rfl rfl fun d hd => ?_
  show runP MP d 191 (0, [some (.int (zI x))], [], _) = _
  unfold isL
  by_cases h : 97 ≤ b ∧ b ≤ 122
  · rw [if_pos (decide_eq_true h)]
    have e : x = b := by omega
    rw [e]
    rw [q_191_0]; (try simp only [li_0, li_1, li_16, li_97, li_122, zI_add, zI_sub, zI_mul, zI_neg, ↓Option.bind_some]); simp (disch := (first | assumption | exact tI_rg _ | omega | exact uR_at | exact row_ne hF (by decide) | exact row_ne (row_ne hF (by decide)) (by decide) | exact SnS_18 | exact SnS_30 | exact LdS_44 | exact LdS_46)) only [q_191_16, q_191_17, retZ_z, li_0, li_1, li_16, li_97, li_122, zI_add, zI_sub, zI_mul, zI_neg, ↓Option.bind_some, zIt2, uR_at, uR_ne, uR_uR, uC_uC, uC_at, ↓reduceIte, decide_eq_true_eq, leT, leF, ltT, ltF, eqT, eqF, ne_eq, not_true_eq_false, not_false_eq_true, Bool.false_eq_true, tI_zI]
  · rw [if_neg (fun z => h (of_decide_eq_true z))]
    by_cases g : x < 97
    · rw [q_191_0]; (try simp only [li_0, li_1, li_16, li_97, li_122, zI_add, zI_sub, zI_mul, zI_neg, ↓Option.bind_some]); simp (disch := (first | assumption | exact tI_rg _ | omega | exact uR_at | exact row_ne hF (by decide) | exact row_ne (row_ne hF (by decide)) (by decide) | exact SnS_18 | exact SnS_30 | exact LdS_44 | exact LdS_46)) only [q_191_16, q_191_17, retZ_z, li_0, li_1, li_16, li_97, li_122, zI_add, zI_sub, zI_mul, zI_neg, ↓Option.bind_some, zIt2, uR_at, uR_ne, uR_uR, uC_uC, uC_at, ↓reduceIte, decide_eq_true_eq, leT, leF, ltT, ltF, eqT, eqF, ne_eq, not_true_eq_false, not_false_eq_true, Bool.false_eq_true, tI_zI]
    · rw [q_191_0]; (try simp only [li_0, li_1, li_16, li_97, li_122, zI_add, zI_sub, zI_mul, zI_neg, ↓Option.bind_some]); simp (disch := (first | assumption | exact tI_rg _ | omega | exact uR_at | exact row_ne hF (by decide) | exact row_ne (row_ne hF (by decide)) (by decide) | exact SnS_18 | exact SnS_30 | exact LdS_44 | exact LdS_46)) only [q_191_16, q_191_17, retZ_z, li_0, li_1, li_16, li_97, li_122, zI_add, zI_sub, zI_mul, zI_neg, ↓Option.bind_some, zIt2, uR_at, uR_ne, uR_uR, uC_uC, uC_at, ↓reduceIte, decide_eq_true_eq, leT, leF, ltT, ltF, eqT, eqF, ne_eq, not_true_eq_false, not_false_eq_true, Bool.false_eq_true, tI_zI]
theorem cc_191 {d : Nat} {E : EnQ} {F : Nat → Int → Int32} {G : Nat → Int → Int64} {kk : Int → HeapP → ResP} {kx : Nat → HeapP → ResP} {x b : Int} (hb : 0 ≤ b ∧ b < 256) (hx : x = b ∨ (128 ≤ b ∧ x = b - 256)) (hd : 1 ≤ d) : cT (callP MP d 191 [.int (zI x)] (mk E F G)) kk kx = kk (if isL b = true then 1 else 0) (mk E F G) := cT_ret (by apply ct_191 <;> assumption) (by split <;> omega)
theorem ct_193 {d : Nat} {E : EnQ} {F : Nat → Int → Int32} {G : Nat → Int → Int64} {x b : Int} (hb : 0 ≤ b ∧ b < 256) (hx : x = b ∨ (128 ≤ b ∧ x = b - 256)) (hd : 1 ≤ d) : callP MP d 193 [.int (zI x)] (mk E F G) = some (Sum.inl (some (.int (zI (if isD b = true then 1 else 0)))), mk E F G) := by

  refine into (D := 0) (by omega) hM_193 rfl rfl fun d hd => ?_
  show runP MP d 193 (0, [some (.int (zI x))], [], _) = _
  unfold isD
  by_cases h : 48 ≤ b ∧ b ≤ 57
  · rw [if_pos (decide_eq_true h)]
    have e : x = b := by omega
    rw [e]
    rw [q_193_0]; (try simp only [li_0, li_1, li_16, li_48, li_57, zI_add, zI_sub, zI_mul, zI_neg, ↓Option.bind_some]); simp (disch := (first | assumption | exact tI_rg _ | omega | exact uR_at | exact row_ne hF (by decide) | exact row_ne (row_ne hF (by decide)) (by decide) | exact SnS_18 | exact SnS_30 | exact LdS_44 | exact LdS_46)) only [q_193_16, q_193_17, retZ_z, li_0, li_1, li_16, li_48, li_57, zI_add, zI_sub, zI_mul, zI_neg, ↓Option.bind_some, zIt2, uR_at, uR_ne, uR_uR, uC_uC, uC_at, ↓reduceIte, decide_eq_true_eq, leT, leF, ltT, ltF, eqT, eqF, ne_eq, not_true_eq_false, not_false_eq_true, Bool.false_eq_true, tI_zI]
  · rw [if_neg (fun z => h (of_decide_eq_true z))]
    by_cases g : x < 48
    · rw [q_193_0]; (try simp only [li_0, li_1, li_16, li_48, li_57, zI_add, zI_sub, zI_mul, zI_neg, ↓Option.bind_some]); simp (disch := (first | assumption | exact tI_rg _ | omega | exact uR_at | exact row_ne hF (by decide) | exact row_ne (row_ne hF (by decide)) (by decide) | exact SnS_18 | exact SnS_30 | exact LdS_44 | exact LdS_46)) only [q_193_16, q_193_17, retZ_z, li_0, li_1, li_16, li_48, li_57, zI_add, zI_sub, zI_mul, zI_neg, ↓Option.bind_some, zIt2, uR_at, uR_ne, uR_uR, uC_uC, uC_at, ↓reduceIte, decide_eq_true_eq, leT, leF, ltT, ltF, eqT, eqF, ne_eq, not_true_eq_false, not_false_eq_true, Bool.false_eq_true, tI_zI]
    · rw [q_193_0]; (try simp only [li_0, li_1, li_16, li_48, li_57, zI_add, zI_sub, zI_mul, zI_neg, ↓Option.bind_some]); simp (disch := (first | assumption | exact tI_rg _ | omega | exact uR_at | exact row_ne hF (by decide) | exact row_ne (row_ne hF (by decide)) (by decide) | exact SnS_18 | exact SnS_30 | exact LdS_44 | exact LdS_46)) only [q_193_16, q_193_17, retZ_z, li_0, li_1, li_16, li_48, li_57, zI_add, zI_sub, zI_mul, zI_neg, ↓Option.bind_some, zIt2, uR_at, uR_ne, uR_uR, uC_uC, uC_at, ↓reduceIte, decide_eq_true_eq, leT, leF, ltT, ltF, eqT, eqF, ne_eq, not_true_eq_false, not_false_eq_true, Bool.false_eq_true, tI_zI]
theorem cc_193 {d : Nat} {E : EnQ} {F : Nat → Int → Int32} {G : Nat → Int → Int64} {kk : Int → HeapP → ResP} {kx : Nat → HeapP → ResP} {x b : Int} (hb : 0 ≤ b ∧ b < 256) (hx : x = b ∨ (128 ≤ b ∧ x = b - 256)) (hd : 1 ≤ d) : cT (callP MP d 193 [.int (zI x)] (mk E F G)) kk kx = kk (if isD b = true then 1 else 0) (mk E F G) := cT_ret (by apply ct_193 <;> assumption) (by split <;> omega)
end S94zzb
