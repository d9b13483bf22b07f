/-! a table of sets -/
section S94zzzp
set_option linter.unusedVariables false
set_option linter.unusedSimpArgs false
/-! a table of places: the first free one from a set's own on -/
def TbR (M : Nat) (own : Nat → Nat) (l : List Nat) (occ : Nat → Bool) (val : Nat → Int) : Prop :=
  (∀ j, j < M → occ j = true → ∃ s, s ∈ l ∧ val j = (s : Int)) ∧ (∀ s, s ∈ l → ∃ i, i < M ∧ (∀ i', i' ≤ i → occ ((own s + i') % M) = true) ∧ val ((own s + i) % M) = (s : Int)) ∧ cntN occ M = (l.length : Int)
theorem cnt_all {p : Nat → Bool} : ∀ n : Nat, (∀ j, j < n → p j = true) → cntN p n = (n : Int)
  | 0, _ => rfl
  | n + 1, h => by
    show cntN p n + (if p n = true then 1 else 0) = ((n + 1 : Nat) : Int)
    rw [if_pos (h n (by omega)), cnt_all n (fun j hj => h j (by omega))]; rfl
theorem cnt_set {p q : Nat → Bool} {t : Nat} (h0 : p t = false) (h1 : q t = true) (h2 : ∀ j, j ≠ t → q j = p j) : ∀ n : Nat, cntN q n = cntN p n + (if t < n then 1 else 0)
  | 0 => rfl
  | n + 1 => by
    show cntN q n + (if q n = true then 1 else 0) = cntN p n + (if p n = true then 1 else 0) + _
    rw [cnt_set h0 h1 h2 n]
    by_cases e : n = t
    · subst e
      rw [h0, h1, if_neg (show ¬ n < n by omega), if_pos (show n < n + 1 by omega), if_pos rfl, if_neg (show ¬ false = true by decide)]
    · rw [h2 n e]
      by_cases g : t < n
      · rw [if_pos g, if_pos (show t < n + 1 by omega)]; omega
      · rw [if_neg g, if_neg (show ¬ t < n + 1 by omega)]; omega
theorem tb_at {M o j : Nat} (ho : o < M) (hj : j < M) : ∃ i, i < M ∧ (o + i) % M = j := by
  by_cases h : o ≤ j
  · exact ⟨j - o, by omega, by rw [show o + (j - o) = j by omega, Nat.mod_eq_of_lt hj]⟩
  · refine ⟨M - o + j, by omega, ?_⟩
    rw [show o + (M - o + j) = j + M by omega, Nat.add_mod_right, Nat.mod_eq_of_lt hj]
theorem tb_find {M : Nat} {own : Nat → Nat} {l : List Nat} {occ : Nat → Bool} {val : Nat → Int} (ho : ∀ s, own s < M) (h : TbR M own l occ val) (hl : l.length < M) (s : Nat) :
    ∃ i, i < M ∧ (∀ i', i' < i → occ ((own s + i') % M) = true ∧ val ((own s + i') % M) ≠ (s : Int)) ∧ ((occ ((own s + i) % M) = true ∧ val ((own s + i) % M) = (s : Int) ∧ s ∈ l) ∨ (occ ((own s + i) % M) = false ∧ ¬ s ∈ l)) := by
  have hM : 0 < M := by have := ho s; omega
  rcases fndN_is (fun i => !(occ ((own s + i) % M)) || (val ((own s + i) % M) == (s : Int))) M 0 with ⟨-, h2⟩ | ⟨k, -, h2, -, h4, h5⟩
  · exfalso
    have hall : ∀ j, j < M → occ j = true := fun j hj => by
      obtain ⟨i, hi, e⟩ := tb_at (ho s) hj
      have := h2 i (by omega) (by omega)
      rw [Bool.or_eq_false_iff, Bool.not_eq_false'] at this
      rw [← e]; exact this.1
    have := cnt_all M hall
    rw [h.2.2] at this
    omega
  · refine ⟨k, by omega, fun i' hi' => ?_, ?_⟩
    · have := h5 i' (by omega) hi'
      rw [Bool.or_eq_false_iff, Bool.not_eq_false', beq_eq_false_iff_ne] at this
      exact this
    · cases hk : occ ((own s + k) % M) with
      | true =>
        rw [Bool.or_eq_true, Bool.not_eq_true', beq_iff_eq, hk] at h4
        have hv : val ((own s + k) % M) = (s : Int) := by
          rcases h4 with h4 | h4
          · cases h4
          · exact h4
        obtain ⟨s', h6, h7⟩ := h.1 _ (Nat.mod_lt _ hM) hk
        have : s' = s := by omega
        exact Or.inl ⟨rfl, hv, this ▸ h6⟩
      | false =>
        refine Or.inr ⟨rfl, fun hs => ?_⟩
        obtain ⟨i0, a1, a2, a3⟩ := h.2.1 s hs
        by_cases g : i0 < k
        · have := h5 i0 (by omega) g
          rw [Bool.or_eq_false_iff, beq_eq_false_iff_ne] at this
          exact this.2 a3
        · have := a2 k (by omega)
          rw [hk] at this; cases this
theorem tb_put {M : Nat} {own : Nat → Nat} {l : List Nat} {occ occ' : Nat → Bool} {val val' : Nat → Int} (ho : ∀ s, own s < M) (h : TbR M own l occ val) {s i : Nat} (hi : i < M) (hb : ∀ i', i' < i → occ ((own s + i') % M) = true) (hf : occ ((own s + i) % M) = false)
    (h1 : occ' ((own s + i) % M) = true) (h2 : val' ((own s + i) % M) = (s : Int)) (h3 : ∀ j, j ≠ (own s + i) % M → occ' j = occ j) (h4 : ∀ j, j ≠ (own s + i) % M → val' j = val j) : TbR M own (s :: l) occ' val' := by
  have hM : 0 < M := by have := ho s; omega
  refine ⟨fun j hj hjo => ?_, fun s' hs' => ?_, ?_⟩
  · by_cases e : j = (own s + i) % M
    · exact ⟨s, List.mem_cons_self, by rw [e]; exact h2⟩
    · rw [h3 j e] at hjo
      obtain ⟨s', a1, a2⟩ := h.1 j hj hjo
      exact ⟨s', List.mem_cons_of_mem _ a1, by rw [h4 j e]; exact a2⟩
  · have hup : ∀ j, occ j = true → occ' j = true := fun j hjo => by
      by_cases e : j = (own s + i) % M
      · rw [e]; exact h1
      · rw [h3 j e]; exact hjo
    rcases List.mem_cons.mp hs' with e | e
    · rw [e]
      refine ⟨i, hi, fun i' hi' => ?_, h2⟩
      by_cases g : i' = i
      · rw [g]; exact h1
      · exact hup _ (hb i' (by omega))
    · obtain ⟨i0, a1, a2, a3⟩ := h.2.1 s' e
      refine ⟨i0, a1, fun i' hi' => hup _ (a2 i' hi'), ?_⟩
      rw [h4 _ (fun z => ?_)]
      · exact a3
      · have := a2 i0 (Nat.le_refl _)
        rw [z, hf] at this; cases this
  · rw [cnt_set hf h1 h3 M, if_pos (Nat.mod_lt _ hM), h.2.2]; simp only [List.length_cons]; omega
/-- a set comes to those that are there, as long as they are few -/
def adL (l : List Nat) (s : Nat) : List Nat := if 2000 < l.length then l else if s ∈ l then l else s :: l
end S94zzzp
