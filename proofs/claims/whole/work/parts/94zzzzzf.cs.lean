/-! TOP: no more prints than steps -/
section S94zzzzzf
set_option linter.unusedVariables false
set_option linter.unusedSimpArgs false
def CsK (K : Int → Int32) : Prop := tI (K 5) ≤ stepsZ K
theorem cs_go {K : Int → Int32} (hI : InvK K) {c : Bool} {x p : Int} (hw : whyZ K x p = 0) (hst : stepsZ K < 2000000000) (h : CsK K) : CsK (goK c K x p) := by
  have h1 := (go_top hI (c := c) hw hst)
  have h2 := (go_inv hI (c := c) hw hst).2
  have h3 := h1.1
  have h4 := h1.2.1
  unfold CsK at *
  unfold newN at *
  split at h3 <;> split at h4 <;> omega
theorem st_los {K : Int → Int32} (hI : InvK K) {n : Int} : stepsZ (losK K n) = stepsZ K := by
  have h3 := hI.1.2.2.2.1
  unfold stepsZ
  rw [losK_lo (by omega) (by omega)]
  exact sumN_congr (fun j hj => by rw [losK_lo (by omega) (by omega)])
theorem cs_los {K : Int → Int32} (hI : InvK K) {n : Int} (hn : 0 ≤ n ∧ n ≤ tI (K 5)) (h : CsK K) : CsK (losK K n) := by
  unfold CsK at *
  rw [st_los hI, losK_5 hn]; omega
theorem cs_trn1 {K : Int → Int32} (hI : InvK K) {x : Int} (hx : 0 ≤ x ∧ x < tI (K 3)) (hst : stepsZ K < 2000000000) (h : CsK K) : CsK (trn1 K x) := by
  have b2 := hI.1.2.2.1
  have b3 := hI.1.2.2.2.1
  unfold trn1
  by_cases e : tI (K (170 + 9 * x)) = 0
  · rw [if_pos e]; exact h
  · rw [if_neg e]
    have hn := InvK_next hI (by omega) (nxt_rg hI (by omega) e)
    have hw := why_set (K := K) (j := 206 + x) (x := x) (p := btP K x) (z := zI (nxtZ K x)) b2 b3.2 (by omega)
    have hs := steps_set (K := K) (j := 206 + x) (z := zI (nxtZ K x)) b3.2 (by omega)
    have hc : CsK (uC K (206 + x) (zI (nxtZ K x))) := by unfold CsK at *; rw [hs, uC_ne (by omega)]; exact h
    by_cases g : whyZ K x (btP K x) = 0
    · rw [if_pos g]
      exact cs_go hn (by rw [hw]; exact g) (by rw [hs]; exact hst) hc
    · rw [if_neg g]; exact hc
theorem cs_trnK {K : Int → Int32} (hI : InvK K) (hst : stepsZ K < 1999999000) (h : CsK K) : ∀ n : Nat, (n : Int) ≤ tI (K 3) → CsK (trnK K n) := by
  have b3 := hI.1.2.2.2.1
  intro n
  induction n with
  | zero => intro _; exact h
  | succ n ih =>
    intro hn
    obtain ⟨i1, i2, i3, i4⟩ := trnK_inv hI hst n (by omega)
    exact cs_trn1 i1 (by rw [i4 3 (by omega)]; omega) (by omega) (ih (by omega))
theorem cs_turK {K : Int → Int32} (hI : InvK K) (hst : stepsZ K < 1999999000) (h : CsK K) : CsK (turK K) := by
  have b3 := hI.1.2.2.2.1
  exact cs_trnK hI hst h _ (by omega)
theorem cs_rndK {K : Int → Int32} (hI : InvK K) (hst : stepsZ K < 1999900000) (h : CsK K) : ∀ n : Nat, n ≤ 200 → CsK (rndK K n) := by
  intro n
  induction n with
  | zero => intro _; exact h
  | succ n ih =>
    intro hn
    obtain ⟨i1, i2, i3, i4⟩ := rndK_inv hI hst n (by omega)
    exact cs_turK i1 (by omega) (ih (by omega))
theorem cs_tolS {K : Int → Int32} (hI : InvK K) (hst : stepsZ K < 1999900000) (hc : CsK K) {a : Int → Int} : ∀ n : Nat, n ≤ 30 → (∀ i, i < n → whyT (tolS K a i) (a i) = 0) → CsK (tolS K a n) := by
  intro n
  induction n with
  | zero => intro _ _; exact hc
  | succ n ih =>
    intro hn h
    obtain ⟨i1, i2⟩ := tolS_inv hI hst n (by omega) (fun i hi => h i (by omega))
    obtain ⟨h1, h2⟩ := whyT0 (h n (by omega))
    exact cs_go i1 h2 (by omega) (ih (by omega) (fun i hi => h i (by omega)))
theorem cs_tolK {K : Int → Int32} (hI : InvK K) (hst : stepsZ K < 1999900000) (hc : CsK K) {a : Int → Int} {m : Nat} (hm : m ≤ 30) : CsK (tolK K a m) := by
  have hr := tolC_rg K a m
  exact cs_tolS hI hst hc _ (by omega) tolC_ok
theorem cs_dayS {K : Int → Int32} (hI : InvK K) (hst : stepsZ K < 1999900000) (h3 : 1 ≤ tI (K 3)) (s : Int32) (hc : CsK K) : ∀ n : Nat, n ≤ 60 → CsK (dayS s K n).2 := by
  intro n
  induction n with
  | zero => intro _; exact hc
  | succ n ih =>
    intro hn
    obtain ⟨i1, i2, i3⟩ := dayS_inv hI hst h3 s n (by omega)
    have e3 : (dayS s K n).2 3 = K 3 := i3 3 (by omega)
    show CsK (day1 (dayS s K n)).2
    unfold day1
    by_cases e : nearZ (dayS s K n).2 (dayP (dayS s K n).2 (dayS s K n).1) = 0
    · rw [if_pos e]; exact ih (by omega)
    · obtain ⟨k1, k2, k3, k4⟩ := day1_ok i1 (by rw [e3]; exact h3) e
      rw [if_neg e]
      exact cs_go i1 k4 (by omega) (ih (by omega))
theorem cs_retK {K : Int → Int32} (hI : InvK K) (hst : stepsZ K < 1999900000) {x : Int} (hc : CsK K) : CsK (retK K x) := by
  have h := retK_I hI hst (x := x)
  unfold CsK at *
  have h1 := h.2.2.1
  omega
end S94zzzzzf
