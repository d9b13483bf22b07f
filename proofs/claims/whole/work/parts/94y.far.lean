/-! MODEL: how far -/
section S94y
set_option linter.unusedVariables false
set_option linter.unusedSimpArgs false
def farM (fr to : Nat → Int) (ok : Nat → Bool) (n : Nat) (x : Int) (k v : Nat) (p : Int) : Int := if farN fr to ok n x k p ≠ -1 then farN fr to ok n x k p else if fndN (fun v => ok v && decide (to v = p) && decide (farN fr to ok n x k (fr v) = k)) v 0 ≠ -1 then ((k : Int) + 1) else -1
theorem fnd_succ {p : Nat → Bool} {v : Nat} : fndN p (v + 1) 0 ≠ -1 ↔ fndN p v 0 ≠ -1 ∨ p v = true := by
  constructor
  · intro h
    rcases fndN_is p (v + 1) 0 with ⟨e, -⟩ | ⟨q, -, hq, -, hp, -⟩
    · exact absurd e h
    · by_cases e : q = v
      · exact Or.inr (e ▸ hp)
      · exact Or.inl (fnd_some (k := q) (by omega) hp)
  · rintro (h | h)
    · rcases fndN_is p v 0 with ⟨e, -⟩ | ⟨q, -, hq, -, hp, -⟩
      · exact absurd e h
      · exact fnd_some (k := q) (by omega) hp
    · exact fnd_some (k := v) (by omega) h
theorem farM_0 {fr to : Nat → Int} {ok : Nat → Bool} {n : Nat} {x : Int} {k : Nat} {p : Int} : farM fr to ok n x k 0 p = farN fr to ok n x k p := by
  unfold farM
  by_cases e : farN fr to ok n x k p ≠ -1
  · rw [if_pos e]
  · rw [if_neg e, Decidable.not_not.mp e]; rfl
theorem farM_n {fr to : Nat → Int} {ok : Nat → Bool} {n : Nat} {x : Int} {k : Nat} {p : Int} : farM fr to ok n x k n p = farN fr to ok n x (k + 1) p := rfl
theorem farM_rg {fr to : Nat → Int} {ok : Nat → Bool} {n : Nat} {x : Int} {k v : Nat} {p : Int} : -1 ≤ farM fr to ok n x k v p ∧ farM fr to ok n x k v p ≤ k + 1 ∧ (farM fr to ok n x k v p = k ↔ farN fr to ok n x k p = k) := by
  have hr := far_rg (fr := fr) (to := to) (ok := ok) (n := n) (x := x) k p
  unfold farM
  by_cases e : farN fr to ok n x k p ≠ -1
  · rw [if_pos e]; omega
  · rw [if_neg e]
    split <;> omega
theorem farM_s {fr to : Nat → Int} {ok : Nat → Bool} {n : Nat} {x : Int} {k v : Nat} {p : Int} : farM fr to ok n x k (v + 1) p = if (ok v = true ∧ farN fr to ok n x k (fr v) = k ∧ farM fr to ok n x k v (to v) = -1) ∧ p = to v then (k : Int) + 1 else farM fr to ok n x k v p := by
  by_cases e : farN fr to ok n x k p ≠ -1
  · have a1 : farM fr to ok n x k (v + 1) p = farN fr to ok n x k p := if_pos e
    have a2 : farM fr to ok n x k v p = farN fr to ok n x k p := if_pos e
    rw [a1, a2]
    rw [if_neg (fun z => by rw [← z.2, a2] at z; exact e z.1.2.2)]
  · have hp : (fun v => ok v && decide (to v = p) && decide (farN fr to ok n x k (fr v) = k)) v = true ↔ (ok v = true ∧ to v = p ∧ farN fr to ok n x k (fr v) = k) := by
      show (ok v && decide (to v = p) && decide (farN fr to ok n x k (fr v) = k)) = true ↔ _
      rw [Bool.and_eq_true, Bool.and_eq_true, decide_eq_true_eq, decide_eq_true_eq]
      exact ⟨fun z => ⟨z.1.1, z.1.2, z.2⟩, fun z => ⟨⟨z.1, z.2.1⟩, z.2.2⟩⟩
    by_cases g : fndN (fun v => ok v && decide (to v = p) && decide (farN fr to ok n x k (fr v) = k)) v 0 ≠ -1
    · have a1 : farM fr to ok n x k (v + 1) p = (k : Int) + 1 := (if_neg e).trans (if_pos (fnd_succ.mpr (Or.inl g)))
      have a2 : farM fr to ok n x k v p = (k : Int) + 1 := (if_neg e).trans (if_pos g)
      rw [a1, a2]; split <;> rfl
    · have a2 : farM fr to ok n x k v p = -1 := (if_neg e).trans (if_neg g)
      by_cases h : ok v = true ∧ to v = p ∧ farN fr to ok n x k (fr v) = k
      · have a1 : farM fr to ok n x k (v + 1) p = (k : Int) + 1 := (if_neg e).trans (if_pos (fnd_succ.mpr (Or.inr (hp.mpr h))))
        rw [a1, if_pos ⟨⟨h.1, h.2.2, by rw [h.2.1]; exact a2⟩, h.2.1.symm⟩]
      · have a1 : farM fr to ok n x k (v + 1) p = -1 := (if_neg e).trans (if_neg (fun z => by
          rcases fnd_succ.mp z with z | z
          · exact g z
          · exact h (hp.mp z)))
        rw [a1, a2, if_neg (fun z => h ⟨z.1.1, z.2.symm, z.1.2.1⟩)]
def wFr (K : Int → Int32) (v : Nat) : Int := fromZ K v
def wTo (K : Int → Int32) (v : Nat) : Int := toZ K v
def wOk (K : Int → Int32) (f : Int) (v : Nat) : Bool := decide (f = 0 ∨ wcN K v ≠ 0)
def farZ (K : Int → Int32) (f x : Int) (k : Nat) (p : Int) : Int := farN (wFr K) (wTo K) (wOk K f) (2 * tI (K 2)).toNat x k p
def farV (K : Int → Int32) (f x : Int) (k v : Nat) (p : Int) : Int := farM (wFr K) (wTo K) (wOk K f) (2 * tI (K 2)).toNat x k v p
end S94y
