/-! going back: theory -/
section S94l
set_option linter.unusedVariables false
set_option linter.unusedSimpArgs false
theorem fnd_some {p : Nat → Bool} {n k : Nat} (h : k < n) (hk : p k = true) : fndN p n 0 ≠ -1 := by
  rcases fndN_is p n 0 with ⟨-, g⟩ | ⟨q, -, -, e, -, -⟩
  · have := g k (by omega) (by omega); rw [hk] at this; cases this
  · omega
theorem way_flip {K : Int → Int32} {v : Int} (hv : 0 ≤ v ∧ v < 2 * tI (K 2)) : wayZ K (toZ K v) (fromZ K v) ≠ -1 := by
  have hk : isP K (toZ K v) (fromZ K v) (v / 2).toNat = true := by
    unfold isP toZ fromZ flipZ
    have e0 : 2 * ((v / 2).toNat : Int) = 2 * (v / 2) := by omega
    rw [e0]
    by_cases e : v % 2 = 0
    · rw [if_pos e, show 2 * (v / 2) = v by omega, show 6 + (v + 1) = 7 + v by omega]
      rw [Bool.or_eq_true, Bool.and_eq_true, Bool.and_eq_true]; exact Or.inr ⟨beq_self_eq_true _, beq_self_eq_true _⟩
    · rw [if_neg e, show 2 * (v / 2) = v - 1 by omega, show 7 + (v - 1) = 6 + v by omega]
      rw [Bool.or_eq_true, Bool.and_eq_true, Bool.and_eq_true]; exact Or.inl ⟨beq_self_eq_true _, beq_self_eq_true _⟩
  have hp : pathZ K (toZ K v) (fromZ K v) ≠ -1 := fnd_some (by omega) hk
  have hr := fndN_rg (isP K (toZ K v) (fromZ K v)) (tI (K 2)).toNat 0
  unfold wayZ
  rw [if_neg hp]
  have : 0 ≤ pathZ K (toZ K v) (fromZ K v) := by unfold pathZ at hp ⊢; omega
  split <;> omega
/-- the owner of the print m from the newest, where its way begins -/
def rtO (K : Int → Int32) (m : Nat) : Int := prO K (tI (K 5) - 1 - m)
def rtW (K : Int → Int32) (m : Nat) : Int := prW K (tI (K 5) - 1 - m)
def retS (K : Int → Int32) (x : Int) : Nat → Int → Int32
  | 0 => K
  | m + 1 => if stepsZ (retS K x m) - stepsZ K + m < tI (retS K x m 5) ∧ rtO K m = x then goK false (retS K x m) x (fromZ K (rtW K m)) else retS K x m
def retK (K : Int → Int32) (x : Int) : Int → Int32 := retS K x (tI (K 5)).toNat
def retN (K : Int → Int32) (x : Int) : Int := stepsZ (retK K x) - stepsZ K
def RetI (K : Int → Int32) (x : Int) (m : Nat) (L : Int → Int32) : Prop := InvK L ∧ (stepsZ K ≤ stepsZ L ∧ stepsZ L ≤ stepsZ K + m) ∧ tI (L 5) ≤ tI (K 5) + (stepsZ L - stepsZ K) ∧
  (∀ k : Nat, stepsZ L - stepsZ K + k < tI (L 5) → L (46 + 2 * (tI (L 5) - 1 - (stepsZ L - stepsZ K + k))) = K (46 + 2 * (tI (K 5) - 1 - k)) ∧ L (47 + 2 * (tI (L 5) - 1 - (stepsZ L - stepsZ K + k))) = K (47 + 2 * (tI (K 5) - 1 - k))) ∧
  (∀ k : Nat, m ≤ k → stepsZ L - stepsZ K + k < tI (L 5) → rtO K k = x → (∀ l : Nat, m ≤ l → l < k → rtO K l ≠ x) → tI (L (38 + 2 * x)) = toZ K (rtW K k)) ∧
  (∀ j, (j < 38 ∧ j ≠ 5) ∨ (166 ≤ j ∧ j < 169) ∨ (170 ≤ j ∧ j < 206) → L j = K j)
theorem RetI_0 {K : Int → Int32} (hI : InvK K) {x : Int} : RetI K x 0 K := by
  refine ⟨hI, ⟨Int.le_refl _, by omega⟩, by omega, fun k hk => ?_, fun k _ hk ho hn => ?_, fun _ _ => rfl⟩
  · rw [show stepsZ K - stepsZ K + (k : Int) = k by omega]; exact ⟨rfl, rfl⟩
  · obtain ⟨r1, r2, r3, r4⟩ := hI.2.2.2
    have := r3 (tI (K 5) - 1 - k) (by omega) (by omega) (fun j h1 h2 e => ?_)
    · unfold rtO at ho; rw [ho] at this; exact this.symm
    · refine hn (tI (K 5) - 1 - j).toNat (by omega) (by omega) ?_
      unfold rtO at ho ⊢
      rw [show tI (K 5) - 1 - ((tI (K 5) - 1 - j).toNat : Int) = j by omega, e, ho]
theorem RetI_can {K L : Int → Int32} (hI : InvK K) {x : Int} {m : Nat} (h : RetI K x m L) (hm : (m : Int) < tI (K 5)) (hn : stepsZ L - stepsZ K + m < tI (L 5) ∧ rtO K m = x) : whyZ L x (fromZ K (rtW K m)) = 0 := by
  obtain ⟨i1, i2, i3, i4, i5, i6⟩ := h
  obtain ⟨r1, r2, r3, r4⟩ := hI.2.2.2
  obtain ⟨a1, a2, a3⟩ := r1 (tI (K 5) - 1 - m) (by omega) (by omega)
  have ho : prO K (tI (K 5) - 1 - m) = x := hn.2
  have b2 := hI.1.2.2.1
  have hw : 0 ≤ rtW K m ∧ rtW K m < 2 * tI (K 2) := a1
  have hp := hI.2.1.1 (rtW K m) hw.1 hw.2
  have e1 : L 1 = K 1 := i6 1 (by omega)
  have e3 : L 3 = K 3 := i6 3 (by omega)
  refine why0_of (by rw [e3]; omega) (by rw [e1]; exact hp) ?_
  rw [i5 m (Nat.le_refl _) hn.1 hn.2 (fun l h1 h2 => by omega), wayZ_congr b2 (fun j hj => i6 j (by omega))]
  exact way_flip hw
theorem RetI_go {K L : Int → Int32} (hI : InvK K) (hst : stepsZ K < 1999900000) {x : Int} {m : Nat} (h : RetI K x m L) (hm : (m : Int) < tI (K 5)) (hn : stepsZ L - stepsZ K + m < tI (L 5) ∧ rtO K m = x) : RetI K x (m + 1) (goK false L x (fromZ K (rtW K m))) := by
  have hw := RetI_can hI h hm hn
  obtain ⟨i1, i2, i3, i4, i5, i6⟩ := h
  have hb5 := hI.1.2.2.2.2.2.1
  have hb4 := hI.1.2.2.2.2.1
  obtain ⟨j1, j2⟩ := go_inv i1 (c := false) hw (by omega)
  obtain ⟨t1, t2, t3, -, -, t6, -⟩ := go_top i1 (c := false) hw (by omega)
  have hx := (why0 hw).1
  have hc3 := i1.1.2.2.2.1
  have hle : newN L ≤ tI (L 5) + 1 := by unfold newN; split <;> omega
  refine ⟨j1, ⟨by omega, by omega⟩, by omega, fun k hk => ?_, fun k hk1 hk2 ho hno => ?_, fun j hj => (go_lo i1 (by omega) hw (by omega)).trans (i6 j hj)⟩
  · obtain ⟨q1, q2⟩ := t3 (stepsZ L + 1 - stepsZ K + k) (by omega) (by rw [j2] at hk; exact hk)
    obtain ⟨p1, p2⟩ := i4 k (by omega)
    rw [j2]
    rw [if_neg (by omega)] at q1 q2
    rw [q1, q2, show tI (L 5) - (stepsZ L + 1 - stepsZ K + k) = tI (L 5) - 1 - (stepsZ L - stepsZ K + k) by omega]
    exact ⟨p1, p2⟩
  · rw [t6]
    obtain ⟨r1, r2, r3, r4⟩ := hI.2.2.2
    have ho2 : rtO K m = x := hn.2
    have := r4 (tI (K 5) - 1 - k) (tI (K 5) - 1 - m) (by omega) (by omega) (by omega) (by show rtO K k = rtO K m; rw [ho, ho2]) (fun l h1 h2 e => ?_)
    · have hp := hI.2.1.1 (rtW K m) (r1 (tI (K 5) - 1 - m) (by omega) (by omega)).1.1 (r1 (tI (K 5) - 1 - m) (by omega) (by omega)).1.2
      have b1 := hI.1.2.1
      rw [tI_zI (by show -2147483648 ≤ tI (K (6 + rtW K m)) ∧ tI (K (6 + rtW K m)) ≤ 2147483647; omega)]
      exact this.symm
    · refine hno (tI (K 5) - 1 - l).toNat (by omega) (by omega) ?_
      unfold rtO at ho ⊢
      rw [show tI (K 5) - 1 - ((tI (K 5) - 1 - l).toNat : Int) = l by omega, e, ho]
theorem RetI_no {K L : Int → Int32} {x : Int} {m : Nat} (h : RetI K x m L) (hn : ¬ (stepsZ L - stepsZ K + m < tI (L 5) ∧ rtO K m = x)) : RetI K x (m + 1) L := by
  obtain ⟨i1, i2, i3, i4, i5, i6⟩ := h
  refine ⟨i1, ⟨by omega, by omega⟩, i3, i4, fun k hk1 hk2 ho hno => ?_, i6⟩
  refine i5 k (by omega) hk2 ho (fun l h1 h2 e => ?_)
  by_cases g : l = m
  · subst g; exact hn ⟨by omega, e⟩
  · exact hno l (by omega) h2 e
theorem retS_I {K : Int → Int32} (hI : InvK K) (hst : stepsZ K < 1999900000) {x : Int} : ∀ m : Nat, (m : Int) ≤ tI (K 5) → RetI K x m (retS K x m) := by
  intro m
  induction m with
  | zero => intro _; exact RetI_0 hI
  | succ m ih =>
    intro hm
    have hi := ih (by omega)
    by_cases g : stepsZ (retS K x m) - stepsZ K + m < tI (retS K x m 5) ∧ rtO K m = x
    · rw [show retS K x (m + 1) = goK false (retS K x m) x (fromZ K (rtW K m)) from if_pos g]
      exact RetI_go hI hst hi (by omega) g
    · rw [show retS K x (m + 1) = retS K x m from if_neg g]
      exact RetI_no hi g
theorem retS_end {K : Int → Int32} {x : Int} {m : Nat} (h : ¬ stepsZ (retS K x m) - stepsZ K + m < tI (retS K x m 5)) : ∀ n : Nat, m ≤ n → retS K x n = retS K x m := by
  intro n hn
  induction n with
  | zero => rw [show m = 0 by omega]
  | succ n ih =>
    by_cases e : m = n + 1
    · rw [e]
    · have hi := ih (by omega)
      rw [show retS K x (n + 1) = retS K x n from if_neg (fun g => by rw [hi] at g; omega)]
      exact hi
end S94l
