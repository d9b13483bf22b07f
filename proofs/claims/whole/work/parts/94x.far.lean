/-! how far: theory -/
section S94x
set_option linter.unusedVariables false
set_option linter.unusedSimpArgs false
/-- how far in at most k goes: along the ways v < n that are open -/
def farN (fr to : Nat → Int) (ok : Nat → Bool) (n : Nat) (x : Int) : Nat → Int → Int
  | 0, p => if p = x then 0 else -1
  | k + 1, p => if farN fr to ok n x k p ≠ -1 then farN fr to ok n x k p else if fndN (fun v => ok v && decide (to v = p) && decide (farN fr to ok n x k (fr v) = k)) n 0 ≠ -1 then ((k : Int) + 1) else -1
theorem far_rg {fr to : Nat → Int} {ok : Nat → Bool} {n : Nat} {x : Int} : ∀ (k : Nat) (p : Int), farN fr to ok n x k p = -1 ∨ (0 ≤ farN fr to ok n x k p ∧ farN fr to ok n x k p ≤ k) := by
  intro k
  induction k with
  | zero => intro p; show (if p = x then (0 : Int) else -1) = -1 ∨ (0 ≤ (if p = x then (0 : Int) else -1) ∧ (if p = x then (0 : Int) else -1) ≤ ((0 : Nat) : Int)); split <;> omega
  | succ k ih =>
    intro p
    have := ih p
    by_cases e : farN fr to ok n x k p ≠ -1
    · rw [show farN fr to ok n x (k + 1) p = farN fr to ok n x k p from if_pos e]; omega
    · by_cases g : fndN (fun v => ok v && decide (to v = p) && decide (farN fr to ok n x k (fr v) = k)) n 0 ≠ -1
      · rw [show farN fr to ok n x (k + 1) p = (k : Int) + 1 from (if_neg e).trans (if_pos g)]; omega
      · rw [show farN fr to ok n x (k + 1) p = -1 from (if_neg e).trans (if_neg g)]; omega
theorem far_up {fr to : Nat → Int} {ok : Nat → Bool} {n : Nat} {x p : Int} {k : Nat} (h : farN fr to ok n x k p ≠ -1) : ∀ m : Nat, k ≤ m → farN fr to ok n x m p = farN fr to ok n x k p := by
  intro m
  induction m with
  | zero => intro hm; rw [show k = 0 by omega]
  | succ m ih =>
    intro hm
    by_cases e : k = m + 1
    · rw [e]
    · have := ih (by omega)
      rw [show farN fr to ok n x (m + 1) p = farN fr to ok n x m p from if_pos (by rw [this]; exact h), this]
theorem far_at {fr to : Nat → Int} {ok : Nat → Bool} {n : Nat} {x p : Int} : ∀ k : Nat, farN fr to ok n x k p ≠ -1 → farN fr to ok n x (farN fr to ok n x k p).toNat p = farN fr to ok n x k p := by
  intro k
  induction k with
  | zero =>
    intro h
    have := far_rg (fr := fr) (to := to) (ok := ok) (n := n) (x := x) 0 p
    rw [show (farN fr to ok n x 0 p).toNat = 0 by omega]
  | succ k ih =>
    intro h
    by_cases e : farN fr to ok n x k p ≠ -1
    · rw [show farN fr to ok n x (k + 1) p = farN fr to ok n x k p from if_pos e]; exact ih e
    · by_cases g : fndN (fun v => ok v && decide (to v = p) && decide (farN fr to ok n x k (fr v) = k)) n 0 ≠ -1
      · have e2 : farN fr to ok n x (k + 1) p = (k : Int) + 1 := (if_neg e).trans (if_pos g)
        rw [e2, show ((k : Int) + 1).toNat = k + 1 by omega, e2]
      · exact absurd ((if_neg e).trans (if_neg g)) h
theorem far_step {fr to : Nat → Int} {ok : Nat → Bool} {n : Nat} {x p : Int} {k : Nat} (h : farN fr to ok n x (k + 1) p = (k : Int) + 1) : farN fr to ok n x k p = -1 ∧ ∃ v : Nat, v < n ∧ ok v = true ∧ to v = p ∧ farN fr to ok n x k (fr v) = k := by
  by_cases e : farN fr to ok n x k p ≠ -1
  · rw [show farN fr to ok n x (k + 1) p = farN fr to ok n x k p from if_pos e] at h
    have := far_rg (fr := fr) (to := to) (ok := ok) (n := n) (x := x) k p
    omega
  · refine ⟨Decidable.not_not.mp e, ?_⟩
    by_cases g : fndN (fun v => ok v && decide (to v = p) && decide (farN fr to ok n x k (fr v) = k)) n 0 ≠ -1
    · rcases fndN_is (fun v => ok v && decide (to v = p) && decide (farN fr to ok n x k (fr v) = k)) n 0 with ⟨e1, -⟩ | ⟨v, -, hv, -, hp, -⟩
      · exact absurd e1 g
      · rw [Bool.and_eq_true, Bool.and_eq_true, decide_eq_true_eq, decide_eq_true_eq] at hp
        exact ⟨v, by omega, hp.1.1, hp.1.2, hp.2⟩
    · rw [show farN fr to ok n x (k + 1) p = -1 from (if_neg e).trans (if_neg g)] at h; omega
theorem far_new {fr to : Nat → Int} {ok : Nat → Bool} {n : Nat} {x p : Int} {k v : Nat} (h : farN fr to ok n x k p = -1) (hv : v < n) (h1 : ok v = true) (h2 : to v = p) (h3 : farN fr to ok n x k (fr v) = k) : farN fr to ok n x (k + 1) p = (k : Int) + 1 :=
  (if_neg (fun z => z h)).trans (if_pos (fnd_some hv (by rw [Bool.and_eq_true, Bool.and_eq_true, decide_eq_true_eq, decide_eq_true_eq]; exact ⟨⟨h1, h2⟩, h3⟩)))
theorem cnt_lt {p q : Nat → Bool} {j : Nat} (hp : p j = false) (hq : q j = true) : ∀ n : Nat, j < n → (∀ i, i < n → p i = true → q i = true) → cntN p n + 1 ≤ cntN q n := by
  intro n
  induction n with
  | zero => intro h; omega
  | succ n ih =>
    intro hj hs
    have hle : ∀ m, m ≤ n → cntN p m ≤ cntN q m := by
      intro m
      induction m with
      | zero => intro _; exact Int.le_refl _
      | succ m ih2 =>
        intro hm
        have := ih2 (by omega)
        by_cases e : p m = true
        · rw [cntN_pos e, cntN_pos (hs m (by omega) e)]; omega
        · rw [cntN_neg e]
          by_cases g : q m = true
          · rw [cntN_pos g]; omega
          · rw [cntN_neg g]; exact this
    by_cases e : j = n
    · subst e
      rw [cntN_neg (by rw [hp]; exact Bool.false_ne_true), cntN_pos hq]
      have := hle j (Nat.le_refl _); omega
    · have := ih (by omega) (fun i hi => hs i (by omega))
      by_cases g : p n = true
      · rw [cntN_pos g, cntN_pos (hs n (by omega) g)]; omega
      · rw [cntN_neg g]
        by_cases g2 : q n = true
        · rw [cntN_pos g2]; omega
        · rw [cntN_neg g2]; exact this
theorem far_cnt {fr to : Nat → Int} {ok : Nat → Bool} {n m : Nat} {x : Int} (hf : ∀ v, v < n → 0 ≤ fr v ∧ fr v < m) : ∀ (k : Nat) (p : Nat), p < m → farN fr to ok n x k p = k → (k : Int) + 1 ≤ cntN (fun q : Nat => decide (farN fr to ok n x k q ≠ -1)) m := by
  intro k
  induction k with
  | zero =>
    intro p hp h
    have := cnt_lt (p := fun _ => false) (q := fun q : Nat => decide (farN fr to ok n x 0 q ≠ -1)) (j := p) rfl (decide_eq_true (by rw [h]; decide)) m hp (fun i _ z => by cases z)
    have := cntN_rg (fun _ => false) m
    omega
  | succ k ih =>
    intro p hp h
    obtain ⟨h1, v, v1, v2, v3, v4⟩ := far_step (k := k) h
    have hr := hf v v1
    have hi := ih (fr v).toNat (by omega) (by rw [show (((fr v).toNat : Nat) : Int) = fr v by omega]; exact v4)
    have := cnt_lt (p := fun q : Nat => decide (farN fr to ok n x k q ≠ -1)) (q := fun q : Nat => decide (farN fr to ok n x (k + 1) q ≠ -1)) (j := p) (decide_eq_false (fun z => z h1)) (decide_eq_true (by rw [h]; omega)) m hp (fun i _ z => by
      rw [decide_eq_true_eq] at z ⊢
      rw [far_up z (k + 1) (by omega)]; exact z)
    omega
theorem far_lt {fr to : Nat → Int} {ok : Nat → Bool} {n m : Nat} {x : Int} (hf : ∀ v, v < n → 0 ≤ fr v ∧ fr v < m) (k : Nat) (p : Nat) (hp : p < m) : farN fr to ok n x k p < m := by
  have hr := far_rg (fr := fr) (to := to) (ok := ok) (n := n) (x := x) k p
  by_cases e : farN fr to ok n x k p = -1
  · omega
  · have h1 := far_at k e
    have h2 := far_cnt (to := to) (ok := ok) (x := x) hf (farN fr to ok n x k p).toNat p hp (by rw [h1]; omega)
    have h3 := cntN_rg (fun q : Nat => decide (farN fr to ok n x (farN fr to ok n x k p).toNat q ≠ -1)) m
    omega
theorem far_end {fr to : Nat → Int} {ok : Nat → Bool} {n m : Nat} {x : Int} (hf : ∀ v, v < n → 0 ≤ fr v ∧ fr v < m) {a b : Nat} (ha : m ≤ a + 1) (hab : a ≤ b) (p : Nat) (hp : p < m) : farN fr to ok n x b p = farN fr to ok n x a p := by
  by_cases e : farN fr to ok n x a p = -1
  · by_cases g : farN fr to ok n x b p = -1
    · rw [e, g]
    · have h1 := far_at b g
      have h2 := far_lt (to := to) (ok := ok) (x := x) hf b p hp
      have hr := far_rg (fr := fr) (to := to) (ok := ok) (n := n) (x := x) b p
      have h3 := far_up (k := (farN fr to ok n x b p).toNat) (by rw [h1]; exact g) a (by omega)
      rw [h1, e] at h3
      exact absurd h3.symm g
  · exact far_up e b hab
end S94x
