/-! TOP: the loop -/
section S94zzzzzo
set_option linter.unusedVariables false
set_option linter.unusedSimpArgs false
theorem TurnP_b {d L pc : Nat} {b b1 k : Int} {z5 z6 : Option Value} {E : EnQ} {F : Nat → Int → Int32} {G : Nat → Int → Int64} (h : TurnP d b L k pc z5 z6 E F G) (hb : b ≤ b1) : TurnP d b1 L k pc z5 z6 E F G := by
  obtain ⟨y5, y6, E1, F1, G1, hr, hC, hz⟩ := h
  exact ⟨y5, y6, E1, F1, G1, hr, CLS_b hC hb, hz⟩
def AllS (P : ResP → Prop) (f : Nat → ResP) : List (Int32 × Nat) → Prop
  | [] => True
  | (_, q) :: t => P (f q) ∧ AllS P f t
theorem swP_all {P : ResP → Prop} {f : Nat → ResP} {x : Int32} {e : Nat} (h0 : P (f e)) : ∀ l, AllS P f l → P (swP x l e f) := by
  intro l
  induction l with
  | nil => intro _; exact h0
  | cons a t ih =>
    obtain ⟨v, q⟩ := a
    intro h
    show P (if x = v then f q else swP x t e f)
    by_cases g : x = v
    · rw [if_pos g]; exact h.1
    · rw [if_neg g]; exact ih h.2
/-- where a turn ends -/
def TuE (d : Nat) (b1 : Int) (L : Nat) (k : Int) (E : EnQ) (r : ResP) : Prop := ∃ y5 y6 E1 F1 G1, r = runP MP d 368 (3740, lwL (zI k) y5 y6, [], mk E1 F1 G1) ∧ CLS b1 L E1 F1 G1 ∧ E1.1 ≤ E.1 + 40 ∧ E1.2.1 ≤ E.2.1 + 1000
theorem aldk {α : Type} {E : EnQ} {F : Nat → Int → Int32} {G : Nat → Int → Int64} {L : Nat} {k : Int} {f : Int32 → Option α} (hE : E.2.2.1 0 = (2, 9, L)) (hL : L ≤ 3072) (hk : 0 ≤ k ∧ k < L) : (aldI (mk E F G) 9 0 (zI k)).bind f = f (F 0 k) := by
  have h := ald0 (F := F) (G := G) (k := k) (j := 0) (f := f) hE hL (by omega)
  rw [zI_add, Int.add_zero] at h
  exact h
theorem tu_len {α : Type} {E : EnQ} {F : Nat → Int → Int32} {G : Nat → Int → Int64} {L : Nat} {f : Int32 → Option α} (hE : E.2.2.1 0 = (2, 9, L)) (hL : L ≤ 3072) : (alenP (mk E F G) 0).bind f = f (zI L) := by
  rw [n_len, len_I (n := L) (show shx E 0 = (2, 9, L) from hE) (by omega)]
theorem tu_23 {d L : Nat} {b k : Int} {E : EnQ} {F : Nat → Int → Int32} {G : Nat → Int → Int64} {z5 z6 : Option Value} (hC : CLS b L E F G) (hb : b < 1999000000) (hk : 0 ≤ k ∧ k + 6 ≤ L ∧ L ≤ 3072) (hd : 100 ≤ d) : TuE d (b + 300) L k E (runP MP d 368 (23, lwL (zI k) z5 z6, [], mk E F G)) := by
  have hE := hC.2.2.2.2.2.2
  unfold lwL
  rw [q_368_23, tu_len hE (by omega), li_6, zI_sub, if_neg (by rw [decide_eq_true_eq, ltI (by omega)]; omega), aldk hE (by omega) (by omega)]
  refine swP_all (P := TuE d (b + 300) L k E) ?_ _ ?_
  · exact ⟨z5, z6, E, F, G, rfl, CLS_b hC (by omega), by omega, by omega⟩
  · exact ⟨TurnP_b (tn_0 hC hb hk hd) (by omega), TurnP_b (tn_1 hC hb hk hd) (by omega), TurnP_b (tn_2 hC hb hk hd) (by omega), TurnP_b (tn_3 hC hb hk hd) (by omega), TurnP_b (tn_4 hC hb hk hd) (by omega), TurnP_b (tn_5 hC hb hk hd) (by omega), TurnP_b (tn_6 hC hb hk hd) (by omega), tn_7 hC hb hk hd, tn_8 hC hb hk hd, tn_9 hC hb hk hd, tn_10 hC hb hk hd, tn_11 hC hb hk hd, TurnP_b (tn_12 hC hb hk hd) (by omega), TurnP_b (tn_13 hC hb hk hd) (by omega), TurnP_b (tn_14 hC hb hk hd) (by omega), tn_15 hC hb hk hd, tn_16 hC hb hk hd, TurnP_b (tn_17 hC hb hk hd) (by omega), TurnP_b (tn_18 hC hb hk hd) (by omega), TurnP_b (tn_19 hC hb hk hd) (by omega), TurnP_b (tn_20 hC hb hk hd) (by omega), TurnP_b (tn_21 hC hb hk hd) (by omega), TurnP_b (tn_22 hC hb hk hd) (by omega), TurnP_b (tn_23 hC hb hk hd) (by omega), TurnP_b (tn_24 hC hb hk hd) (by omega), TurnP_b (tn_25 hC hb hk hd) (by omega), TurnP_b (tn_26 hC hb hk hd) (by omega), TurnP_b (tn_27 hC hb hk hd) (by omega), TurnP_b (tn_28 hC hb hk hd) (by omega), TurnP_b (tn_29 hC hb hk hd) (by omega), TurnP_b (tn_30 hC hb hk hd) (by omega), TurnP_b (tn_31 hC hb hk hd) (by omega), TurnP_b (tn_32 hC hb hk hd) (by omega), TurnP_b (tn_33 hC hb hk hd) (by omega), TurnP_b (tn_34 hC hb hk hd) (by omega), TurnP_b (tn_35 hC hb hk hd) (by omega), TurnP_b (tn_36 hC hb hk hd) (by omega), tn_37 hC hb hk hd, TurnP_b (tn_38 hC hb hk hd) (by omega), TurnP_b (tn_39 hC hb hk hd) (by omega), TurnP_b (tn_40 hC hb hk hd) (by omega), TurnP_b (tn_41 hC hb hk hd) (by omega), TurnP_b (tn_42 hC hb hk hd) (by omega), TurnP_b (tn_43 hC hb hk hd) (by omega), TurnP_b (tn_44 hC hb hk hd) (by omega), TurnP_b (tn_45 hC hb hk hd) (by omega), TurnP_b (tn_46 hC hb hk hd) (by omega), TurnP_b (tn_47 hC hb hk hd) (by omega), TurnP_b (tn_48 hC hb hk hd) (by omega), TurnP_b (tn_49 hC hb hk hd) (by omega), TurnP_b (tn_50 hC hb hk hd) (by omega), TurnP_b (tn_51 hC hb hk hd) (by omega), TurnP_b (tn_52 hC hb hk hd) (by omega), TurnP_b (tn_53 hC hb hk hd) (by omega), TurnP_b (tn_54 hC hb hk hd) (by omega), TurnP_b (tn_55 hC hb hk hd) (by omega), TurnP_b (tn_56 hC hb hk hd) (by omega), trivial⟩
theorem tu_end {d L : Nat} {b k : Int} {E : EnQ} {F : Nat → Int → Int32} {G : Nat → Int → Int64} {z5 z6 : Option Value} (hC : CLS b L E F G) (hk : 0 ≤ k ∧ (L : Int) < k + 6 ∧ k ≤ 4000 ∧ L ≤ 3072) : runP MP d 368 (23, lwL (zI k) z5 z6, [], mk E F G) = some (Sum.inl (some (.int 1)), mk E F G) := by
  have hE := hC.2.2.2.2.2.2
  unfold lwL
  rw [q_368_23, tu_len hE (by omega), li_6, zI_sub, if_pos (by rw [decide_eq_true_eq, ltI (by omega)]; omega)]
  rfl
theorem tu_loop {d L : Nat} (hL : L ≤ 3072) (hd : 100 ≤ d) : ∀ (m : Nat) (b k : Int) (E : EnQ) (F : Nat → Int → Int32) (G : Nat → Int → Int64) (z5 z6 : Option Value), CLS b L E F G → b + 300 * m < 1999000000 → 0 ≤ k → k + 6 * m ≤ 3500 → (L : Int) < k + 6 * m + 6 → ∃ h1, runP MP d 368 (23, lwL (zI k) z5 z6, [], mk E F G) = some (Sum.inl (some (.int 1)), h1) ∧ h1.1 ≤ E.1 + 40 * m ∧ h1.2.1 ≤ E.2.1 + 1000 * m := by
  intro m
  induction m with
  | zero =>
    intro b k E F G z5 z6 hC hb hk h1 h2
    exact ⟨_, tu_end hC (by omega), by show E.1 ≤ _; omega, by show E.2.1 ≤ _; omega⟩
  | succ m ih =>
    intro b k E F G z5 z6 hC hb hk h1 h2
    by_cases g : k + 6 ≤ L
    · obtain ⟨y5, y6, E1, F1, G1, hr, hC1, e1, e2⟩ := tu_23 (z5 := z5) (z6 := z6) (d := d) hC (by omega) ⟨hk, g, hL⟩ hd
      obtain ⟨h9, i1, i2, i3⟩ := ih (b + 300) (k + 6) E1 F1 G1 y5 y6 hC1 (by omega) (by omega) (by omega) (by omega)
      refine ⟨h9, ?_, by omega, by omega⟩
      rw [hr]
      unfold lwL at i1 ⊢
      rw [q_368_3740, li_6, zI_add]
      exact i1
    · exact ⟨_, tu_end hC (by omega), by show E.1 ≤ _; omega, by show E.2.1 ≤ _; omega⟩
end S94zzzzzo
