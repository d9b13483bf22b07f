/-! digits of a code -/
section S94zzzm
set_option linter.unusedVariables false
set_option linter.unusedSimpArgs false
/-! digits of a code -/
def shN (nd : Nat → Nat) : Nat → Nat
  | 0 => 0
  | s + 1 => shN nd s + nd s
def encN (nd c : Nat → Nat) : Nat → Nat
  | 0 => 0
  | s + 1 => encN nd c s + c s * 2 ^ shN nd s
def dgN (nd : Nat → Nat) (x s : Nat) : Nat := x / 2 ^ shN nd s % 2 ^ nd s
theorem shN_mono {nd : Nat → Nat} {s : Nat} : ∀ {n : Nat}, s ≤ n → shN nd s ≤ shN nd n
  | 0, h => by have : s = 0 := by omega
               rw [this]; exact Nat.le_refl _
  | n + 1, h => by
    by_cases e : s = n + 1
    · rw [e]; exact Nat.le_refl _
    · exact Nat.le_trans (shN_mono (n := n) (by omega)) (Nat.le_add_right _ _)
theorem enc_lt {nd c : Nat → Nat} : ∀ n : Nat, (∀ t, t < n → c t < 2 ^ nd t) → encN nd c n < 2 ^ shN nd n
  | 0, _ => by show 0 < 2 ^ 0; exact Nat.one_pos
  | n + 1, h => by
    have h1 := enc_lt n (fun t ht => h t (by omega))
    have h2 := h n (by omega)
    show encN nd c n + c n * 2 ^ shN nd n < 2 ^ (shN nd n + nd n)
    rw [Nat.pow_add]
    have h3 : (c n + 1) * 2 ^ shN nd n ≤ 2 ^ nd n * 2 ^ shN nd n := Nat.mul_le_mul_right _ h2
    rw [Nat.add_mul, Nat.one_mul] at h3
    rw [Nat.mul_comm (2 ^ shN nd n)]
    omega
theorem enc_div {nd c : Nat → Nat} {s : Nat} (h : ∀ t, t < s → c t < 2 ^ nd t) : ∀ n : Nat, s < n → encN nd c n / 2 ^ shN nd s % 2 ^ nd s = c s % 2 ^ nd s
  | 0, hs => by omega
  | n + 1, hs => by
    show (encN nd c n + c n * 2 ^ shN nd n) / 2 ^ shN nd s % 2 ^ nd s = _
    by_cases e : s = n
    · subst e
      rw [Nat.add_mul_div_right _ _ (Nat.two_pow_pos _), Nat.div_eq_of_lt (enc_lt s h), Nat.zero_add]
    · have hsn : shN nd s + nd s ≤ shN nd n := shN_mono (s := s + 1) (n := n) (by omega)
      obtain ⟨r, hr⟩ : ∃ r, shN nd n = shN nd s + (nd s + r) := ⟨shN nd n - (shN nd s + nd s), by omega⟩
      rw [hr, Nat.pow_add, Nat.pow_add, show c n * (2 ^ shN nd s * (2 ^ nd s * 2 ^ r)) = (c n * 2 ^ r * 2 ^ nd s) * 2 ^ shN nd s by
        rw [Nat.mul_comm (2 ^ shN nd s), ← Nat.mul_assoc, Nat.mul_comm (2 ^ nd s), ← Nat.mul_assoc], Nat.add_mul_div_right _ _ (Nat.two_pow_pos _), Nat.add_mul_mod_self_right]
      exact enc_div h n (by omega)
theorem dg_enc {nd c : Nat → Nat} {n s : Nat} (h : ∀ t, t < n → c t < 2 ^ nd t) (hs : s < n) : dgN nd (encN nd c n) s = c s := by
  unfold dgN
  rw [enc_div (fun t ht => h t (by omega)) n hs, Nat.mod_eq_of_lt (h s hs)]
theorem enc_dg {nd : Nat → Nat} {x : Nat} : ∀ n : Nat, encN nd (dgN nd x) n = x % 2 ^ shN nd n
  | 0 => by show 0 = x % 2 ^ 0; rw [Nat.pow_zero, Nat.mod_one]
  | n + 1 => by
    show encN nd (dgN nd x) n + dgN nd x n * 2 ^ shN nd n = x % 2 ^ (shN nd n + nd n)
    rw [enc_dg n, Nat.pow_add, Nat.mod_mul]
    unfold dgN
    rw [Nat.mul_comm]
theorem enc_dg' {nd : Nat → Nat} {x n : Nat} (h : x < 2 ^ shN nd n) : encN nd (dgN nd x) n = x := by rw [enc_dg, Nat.mod_eq_of_lt h]
theorem dg_lt {nd : Nat → Nat} {x s : Nat} : dgN nd x s < 2 ^ nd s := Nat.mod_lt _ (Nat.two_pow_pos _)
def inc1 (c : Nat → Nat) (s : Nat) : Nat → Nat := fun t => if t = s then c t + 1 else c t
def dec1 (c : Nat → Nat) (s : Nat) : Nat → Nat := fun t => if t = s then c t - 1 else c t
theorem enc_congr {nd c c' : Nat → Nat} : ∀ n : Nat, (∀ t, t < n → c t = c' t) → encN nd c n = encN nd c' n
  | 0, _ => rfl
  | n + 1, h => by
    show encN nd c n + c n * 2 ^ shN nd n = encN nd c' n + c' n * 2 ^ shN nd n
    rw [enc_congr n (fun t ht => h t (by omega)), h n (by omega)]
theorem enc_inc {nd c : Nat → Nat} {s : Nat} : ∀ n : Nat, encN nd (inc1 c s) n = encN nd c n + if s < n then 2 ^ shN nd s else 0
  | 0 => rfl
  | n + 1 => by
    show encN nd (inc1 c s) n + inc1 c s n * 2 ^ shN nd n = encN nd c n + c n * 2 ^ shN nd n + _
    rw [enc_inc n]
    by_cases e : n = s
    · subst e
      rw [if_neg (by omega), if_pos (by omega), show inc1 c n n = c n + 1 from if_pos rfl, Nat.add_mul, Nat.one_mul]; omega
    · rw [show inc1 c s n = c n from if_neg e]
      by_cases g : s < n
      · rw [if_pos g, if_pos (by omega)]; omega
      · rw [if_neg g, if_neg (by omega)]; omega
theorem dg_add {nd : Nat → Nat} {x n s : Nat} (hx : x < 2 ^ shN nd n) (hs : s < n) (h : dgN nd x s + 1 < 2 ^ nd s) : x + 2 ^ shN nd s < 2 ^ shN nd n ∧ ∀ t, t < n → dgN nd (x + 2 ^ shN nd s) t = inc1 (dgN nd x) s t := by
  have e : encN nd (inc1 (dgN nd x) s) n = x + 2 ^ shN nd s := by rw [enc_inc, if_pos hs, enc_dg' hx]
  have hc : ∀ t, t < n → inc1 (dgN nd x) s t < 2 ^ nd t := fun t _ => by
    unfold inc1; split
    · rename_i z; rw [z]; exact h
    · exact dg_lt
  rw [← e]
  exact ⟨enc_lt n hc, fun t ht => dg_enc hc ht⟩
theorem dg_sub {nd : Nat → Nat} {x n s : Nat} (hx : x < 2 ^ shN nd n) (hs : s < n) (h : 0 < dgN nd x s) : 2 ^ shN nd s ≤ x ∧ ∀ t, t < n → dgN nd (x - 2 ^ shN nd s) t = dec1 (dgN nd x) s t := by
  have hc : ∀ t, t < n → dec1 (dgN nd x) s t < 2 ^ nd t := fun t _ => by
    have := dg_lt (nd := nd) (x := x) (s := t)
    unfold dec1; split <;> omega
  have e : encN nd (inc1 (dec1 (dgN nd x) s) s) n = x := by
    rw [enc_congr (c' := dgN nd x) n (fun t _ => ?_), enc_dg' hx]
    unfold inc1 dec1
    by_cases z : t = s
    · rw [if_pos z, if_pos z, z]; omega
    · rw [if_neg z, if_neg z]
  rw [enc_inc, if_pos hs] at e
  refine ⟨by omega, fun t ht => ?_⟩
  rw [show x - 2 ^ shN nd s = encN nd (dec1 (dgN nd x) s) n by omega]
  exact dg_enc hc ht
theorem enc_add {nd c c' : Nat → Nat} : ∀ n : Nat, encN nd (fun t => c t + c' t) n = encN nd c n + encN nd c' n
  | 0 => rfl
  | n + 1 => by
    show encN nd (fun t => c t + c' t) n + (c n + c' n) * 2 ^ shN nd n = encN nd c n + c n * 2 ^ shN nd n + (encN nd c' n + c' n * 2 ^ shN nd n)
    rw [enc_add n, Nat.add_mul]; omega
theorem dg_compl {nd st : Nat → Nat} {x n : Nat} (hst : ∀ t, t < n → st t < 2 ^ nd t) (hx : x < 2 ^ shN nd n) (h : ∀ t, t < n → dgN nd x t ≤ st t) : x ≤ encN nd st n ∧ ∀ t, t < n → dgN nd (encN nd st n - x) t = st t - dgN nd x t := by
  have e : encN nd (fun t => dgN nd x t + (st t - dgN nd x t)) n = encN nd (dgN nd x) n + encN nd (fun t => st t - dgN nd x t) n := enc_add n
  rw [enc_congr (c' := st) n (fun t ht => by have := h t ht; omega), enc_dg' hx] at e
  refine ⟨by omega, fun t ht => ?_⟩
  rw [show encN nd st n - x = encN nd (fun t => st t - dgN nd x t) n by omega]
  exact dg_enc (c := fun t => st t - dgN nd x t) (fun t ht => by have := hst t ht; show st t - dgN nd x t < _; omega) ht
theorem enc_zero {nd : Nat → Nat} {x : Nat} : ∀ n : Nat, x < 2 ^ shN nd n → (∀ t, t < n → dgN nd x t = 0) → x = 0 := by
  intro n hx h
  have e := enc_dg' hx
  rw [enc_congr (c' := fun _ => 0) n h] at e
  rw [← e]
  clear e h hx
  induction n with
  | zero => rfl
  | succ n ih => show encN nd (fun _ => 0) n + 0 * _ = 0; rw [ih]; omega
end S94zzzm
