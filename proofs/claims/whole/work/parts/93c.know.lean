/-! 93c_know -/
section S93c
set_option linter.unusedVariables false
set_option linter.unusedSimpArgs false
/-- counting, the last, the first of those below n -/
def cntN (p : Nat → Bool) : Nat → Int
  | 0 => 0
  | n + 1 => cntN p n + (if p n = true then 1 else 0)
def lstN (p : Nat → Bool) : Nat → Int
  | 0 => -1
  | n + 1 => if p n = true then (n : Int) else lstN p n
def fndN (p : Nat → Bool) : Nat → Nat → Int
  | 0, _ => -1
  | m + 1, j => if p j = true then (j : Int) else fndN p m (j + 1)
def sumN (f : Nat → Int) : Nat → Int
  | 0 => 0
  | n + 1 => sumN f n + f n
theorem cntN_rg (p : Nat → Bool) (n : Nat) : 0 ≤ cntN p n ∧ cntN p n ≤ n := by
  induction n with
  | zero => exact ⟨Int.le_refl _, Int.le_refl _⟩
  | succ n ih =>
    unfold cntN
    by_cases h : p n = true
    · rw [if_pos h]; omega
    · rw [if_neg h]; omega
theorem lstN_rg (p : Nat → Bool) (n : Nat) : -1 ≤ lstN p n ∧ lstN p n < n := by
  induction n with
  | zero => exact ⟨Int.le_refl _, by show (-1 : Int) < 0; omega⟩
  | succ n ih =>
    unfold lstN
    by_cases h : p n = true
    · rw [if_pos h]; omega
    · rw [if_neg h]; omega
theorem lstN_is (p : Nat → Bool) (n : Nat) : (lstN p n = -1 ∧ ∀ j, j < n → p j = false) ∨ (∃ k, k < n ∧ lstN p n = (k : Int) ∧ p k = true ∧ ∀ j, k < j → j < n → p j = false) := by
  induction n with
  | zero => exact Or.inl ⟨rfl, fun j h => by omega⟩
  | succ n ih =>
    unfold lstN
    by_cases h : p n = true
    · rw [if_pos h]
      exact Or.inr ⟨n, by omega, rfl, h, fun j h1 h2 => by omega⟩
    · rw [if_neg h]
      have hf : p n = false := by cases hp : p n with
        | true => exact absurd hp h
        | false => rfl
      rcases ih with ⟨h1, h2⟩ | ⟨k, h1, h2, h3, h4⟩
      · refine Or.inl ⟨h1, fun j hj => ?_⟩
        by_cases e : j = n
        · rw [e]; exact hf
        · exact h2 j (by omega)
      · refine Or.inr ⟨k, by omega, h2, h3, fun j hj1 hj2 => ?_⟩
        by_cases e : j = n
        · rw [e]; exact hf
        · exact h4 j hj1 (by omega)
theorem fndN_is (p : Nat → Bool) (m j : Nat) : (fndN p m j = -1 ∧ ∀ i, j ≤ i → i < j + m → p i = false) ∨ (∃ k, j ≤ k ∧ k < j + m ∧ fndN p m j = (k : Int) ∧ p k = true ∧ ∀ i, j ≤ i → i < k → p i = false) := by
  induction m generalizing j with
  | zero => exact Or.inl ⟨rfl, fun i h1 h2 => by omega⟩
  | succ m ih =>
    unfold fndN
    by_cases h : p j = true
    · rw [if_pos h]
      exact Or.inr ⟨j, by omega, by omega, rfl, h, fun i h1 h2 => by omega⟩
    · rw [if_neg h]
      have hf : p j = false := by cases hp : p j with
        | true => exact absurd hp h
        | false => rfl
      rcases ih (j + 1) with ⟨h1, h2⟩ | ⟨k, h1, h2, h3, h4, h5⟩
      · refine Or.inl ⟨h1, fun i hi1 hi2 => ?_⟩
        by_cases e : i = j
        · rw [e]; exact hf
        · exact h2 i (by omega) (by omega)
      · refine Or.inr ⟨k, by omega, by omega, h3, h4, fun i hi1 hi2 => ?_⟩
        by_cases e : i = j
        · rw [e]; exact hf
        · exact h5 i (by omega) hi2
theorem fndN_rg (p : Nat → Bool) (m j : Nat) : fndN p m j = -1 ∨ ((j : Int) ≤ fndN p m j ∧ fndN p m j < j + m) := by
  rcases fndN_is p m j with ⟨h, -⟩ | ⟨k, h1, h2, h3, -⟩
  · exact Or.inl h
  · rw [h3]; omega
/-- the first, told by what it is -/
theorem fndN_eq {p : Nat → Bool} {m j k : Nat} (h1 : j ≤ k) (h2 : k < j + m) (h3 : p k = true) (h4 : ∀ i, j ≤ i → i < k → p i = false) : fndN p m j = (k : Int) := by
  rcases fndN_is p m j with ⟨-, h⟩ | ⟨k', g1, g2, g3, g4, g5⟩
  · rw [h k h1 h2] at h3; cases h3
  · rw [g3]
    by_cases e : k' = k
    · rw [e]
    · exfalso
      by_cases l : k' < k
      · rw [h4 k' g1 l] at g4; cases g4
      · rw [g5 k h1 (by omega)] at h3; cases h3
theorem fndN_none {p : Nat → Bool} {m j : Nat} (h : ∀ i, j ≤ i → i < j + m → p i = false) : fndN p m j = -1 := by
  rcases fndN_is p m j with ⟨h, -⟩ | ⟨k, h1, h2, -, h4, -⟩
  · exact h
  · rw [h k h1 h2] at h4; cases h4
theorem lstN_eq {p : Nat → Bool} {n k : Nat} (h2 : k < n) (h3 : p k = true) (h4 : ∀ i, k < i → i < n → p i = false) : lstN p n = (k : Int) := by
  rcases lstN_is p n with ⟨-, h⟩ | ⟨k', g1, g2, g3, g4⟩
  · rw [h k h2] at h3; cases h3
  · rw [g2]
    by_cases e : k' = k
    · rw [e]
    · exfalso
      by_cases l : k' < k
      · rw [g4 k l h2] at h3; cases h3
      · rw [h4 k' (by omega) g1] at g3; cases g3
theorem cntN_congr {p q : Nat → Bool} {n : Nat} (h : ∀ j, j < n → p j = q j) : cntN p n = cntN q n := by
  induction n with
  | zero => rfl
  | succ n ih => unfold cntN; rw [ih (fun j hj => h j (by omega)), h n (by omega)]
theorem lstN_congr {p q : Nat → Bool} {n : Nat} (h : ∀ j, j < n → p j = q j) : lstN p n = lstN q n := by
  induction n with
  | zero => rfl
  | succ n ih => unfold lstN; rw [ih (fun j hj => h j (by omega)), h n (by omega)]
theorem fndN_congr {p q : Nat → Bool} {m j : Nat} (h : ∀ i, j ≤ i → i < j + m → p i = q i) : fndN p m j = fndN q m j := by
  induction m generalizing j with
  | zero => rfl
  | succ m ih => unfold fndN; rw [ih (fun i h1 h2 => h i (by omega) (by omega)), h j (by omega) (by omega)]
theorem sumN_congr {f g : Nat → Int} {n : Nat} (h : ∀ j, j < n → f j = g j) : sumN f n = sumN g n := by
  induction n with
  | zero => rfl
  | succ n ih => unfold sumN; rw [ih (fun j hj => h j (by omega)), h n (by omega)]
/-! what is known of a plain, a row of numbers -/
def isP (K : Int → Int32) (a b : Int) (k : Nat) : Bool := (tI (K (6 + 2 * k)) == a && tI (K (7 + 2 * k)) == b) || (tI (K (6 + 2 * k)) == b && tI (K (7 + 2 * k)) == a)
def pathZ (K : Int → Int32) (a b : Int) : Int := fndN (isP K a b) (tI (K 2)).toNat 0
def wayZ (K : Int → Int32) (a b : Int) : Int := if pathZ K a b = -1 then -1 else 2 * pathZ K a b + (if tI (K (6 + 2 * pathZ K a b)) = a then 0 else 1)
def flipZ (w : Int) : Int := if w % 2 = 0 then w + 1 else w - 1
def fromZ (K : Int → Int32) (w : Int) : Int := tI (K (6 + w))
def toZ (K : Int → Int32) (w : Int) : Int := tI (K (6 + flipZ w))
def prW (K : Int → Int32) (i : Int) : Int := tI (K (46 + 2 * i))
def prO (K : Int → Int32) (i : Int) : Int := tI (K (47 + 2 * i))
def woW (K : Int → Int32) (i : Int) : Int := tI (K (210 + 2 * i))
def woO (K : Int → Int32) (i : Int) : Int := tI (K (211 + 2 * i))
def nxO (K : Int → Int32) (x : Int) (i : Nat) : Int := fndN (fun j => prO K j == x) ((tI (K 5)).toNat - i) i
def InvA (K : Int → Int32) : Prop := (0 ≤ tI (K 0) ∧ tI (K 0) ≤ 600) ∧ (0 ≤ tI (K 1) ∧ tI (K 1) ≤ 10) ∧ (0 ≤ tI (K 2) ∧ tI (K 2) ≤ 16) ∧ (0 ≤ tI (K 3) ∧ tI (K 3) ≤ 4) ∧ (1 ≤ tI (K 4) ∧ tI (K 4) ≤ 60) ∧ (0 ≤ tI (K 5) ∧ tI (K 5) ≤ tI (K 4)) ∧ (0 ≤ tI (K 166) ∧ tI (K 166) ≤ 99) ∧ (0 ≤ tI (K 167) ∧ tI (K 167) ≤ 60) ∧ (1 ≤ tI (K 168) ∧ tI (K 168) ≤ 99) ∧ (0 ≤ tI (K 169) ∧ tI (K 169) ≤ tI (K 168))
def InvP (K : Int → Int32) : Prop := (∀ k, 0 ≤ k → k < 2 * tI (K 2) → 0 ≤ tI (K (6 + k)) ∧ tI (K (6 + k)) < tI (K 1)) ∧ (∀ k, 0 ≤ k → k < tI (K 2) → tI (K (6 + 2 * k)) ≠ tI (K (7 + 2 * k))) ∧
  (∀ i j : Nat, (i : Int) < tI (K 2) → (j : Int) < tI (K 2) → isP K (tI (K (6 + 2 * i))) (tI (K (7 + 2 * i))) j = true → i = j)
def InvB (K : Int → Int32) : Prop := ∀ x, 0 ≤ x → x < 4 → (0 ≤ tI (K (170 + 9 * x)) ∧ tI (K (170 + 9 * x)) ≤ 8) ∧ (∀ k, 0 ≤ k → k < tI (K (170 + 9 * x)) → 0 ≤ tI (K (171 + 9 * x + k)) ∧ tI (K (171 + 9 * x + k)) < tI (K 1)) ∧
  0 ≤ tI (K (206 + x)) ∧ (tI (K (206 + x)) < tI (K (170 + 9 * x)) ∨ (tI (K (206 + x)) = 0 ∧ tI (K (170 + 9 * x)) = 0)) ∧ 0 ≤ tI (K (39 + 2 * x)) ∧ (x < tI (K 3) → 0 ≤ tI (K (38 + 2 * x)) ∧ tI (K (38 + 2 * x)) < tI (K 1))
def InvR (K : Int → Int32) : Prop := (∀ i, 0 ≤ i → i < tI (K 5) → (0 ≤ prW K i ∧ prW K i < 2 * tI (K 2)) ∧ 0 ≤ prO K i ∧ prO K i < tI (K 3)) ∧ (∀ i, 0 ≤ i → i < tI (K 169) → (0 ≤ woW K i ∧ woW K i < 2 * tI (K 2)) ∧ 0 ≤ woO K i ∧ woO K i < tI (K 3)) ∧
  (∀ i, 0 ≤ i → i < tI (K 5) → (∀ j, i < j → j < tI (K 5) → prO K j ≠ prO K i) → toZ K (prW K i) = tI (K (38 + 2 * prO K i))) ∧
  (∀ i j, 0 ≤ i → i < j → j < tI (K 5) → prO K i = prO K j → (∀ k, i < k → k < j → prO K k ≠ prO K i) → toZ K (prW K i) = fromZ K (prW K j))
def stepsZ (K : Int → Int32) : Int := sumN (fun x => tI (K (39 + 2 * x))) (tI (K 3)).toNat
def InvK (K : Int → Int32) : Prop := InvA K ∧ InvP K ∧ InvB K ∧ InvR K
/-! what changes it -/
def losK (K : Int → Int32) (n : Int) : Int → Int32 := fun j => if j = 5 then zI (tI (K 5) - n) else if 46 ≤ j ∧ j < 166 then (if j < 46 + 2 * (tI (K 5) - n) then K (j + 2 * n) else 0) else K j
def remK (K : Int → Int32) (v x : Int) : Int → Int32 := if tI (K 169) = tI (K 168) then (fun j => if 210 ≤ j ∧ j < 208 + 2 * tI (K 169) then K (j + 2) else if j = 208 + 2 * tI (K 169) then zI v else if j = 209 + 2 * tI (K 169) then zI x else K j)
  else fun j => if j = 169 then zI (tI (K 169) + 1) else if j = 210 + 2 * tI (K 169) then zI v else if j = 211 + 2 * tI (K 169) then zI x else K j
def addK (K : Int → Int32) (v x : Int) : Int → Int32 := fun j => if j = 5 then zI (tI (K 5) + 1) else if j = 46 + 2 * tI (K 5) then zI v else if j = 47 + 2 * tI (K 5) then zI x else K j
def movK (K : Int → Int32) (x p : Int) : Int → Int32 := uC (uC K (38 + 2 * x) (zI p)) (39 + 2 * x) (zI (tI (K (39 + 2 * x)) + 1))
def fulK (K : Int → Int32) : Int → Int32 := if tI (K 5) = tI (K 4) then losK K 1 else K
def stpK (K : Int → Int32) (x p : Int) : Int → Int32 := movK (addK (fulK (remK K (wayZ K (tI (K (38 + 2 * x))) p) x)) (wayZ K (tI (K (38 + 2 * x))) p) x) x p
def goK (calm : Bool) (K : Int → Int32) (x p : Int) : Int → Int32 := if calm = false ∧ 0 < tI (K 166) ∧ stepsZ (stpK K x p) % tI (K 166) = 0 then losK (stpK K x p) (if tI (stpK K x p 5) ≤ tI (K 167) then tI (stpK K x p 5) else tI (K 167)) else stpK K x p
/-- why a step can't be -/
def whyZ (K : Int → Int32) (x p : Int) : Int := if ¬ (0 ≤ x ∧ x < tI (K 3)) then 1 else if ¬ (0 ≤ p ∧ p < tI (K 1)) ∨ wayZ K (tI (K (38 + 2 * x))) p = -1 then 2 else 0
end S93c
