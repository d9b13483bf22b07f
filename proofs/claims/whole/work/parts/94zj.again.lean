/-! again, theory -/
section S94zj
set_option linter.unusedVariables false
set_option linter.unusedSimpArgs false
/-- what turns leave alone -/
theorem trn1_rest {K : Int → Int32} (hI : InvK K) {x : Int} (hx : 0 ≤ x ∧ x < tI (K 3)) (hst : stepsZ K < 2000000000) {j : Int} (hj : j < 0 ∨ 408 ≤ j ∨ (38 + 2 * tI (K 3) ≤ j ∧ j < 46) ∨ (206 + tI (K 3) ≤ j ∧ j < 210)) : trn1 K x j = K j := by
  have b2 := hI.1.2.2.1
  have b3 := hI.1.2.2.2.1
  unfold trn1
  by_cases e : tI (K (170 + 9 * x)) = 0
  · rw [if_pos e]
  · rw [if_neg e]
    have hn := InvK_next hI (by omega) (nxt_rg hI (by omega) e)
    have hw := why_set (K := K) (j := 206 + x) (x := x) (p := btP K x) (z := zI (nxtZ K x)) b2 b3.2 (by omega)
    by_cases g : whyZ K x (btP K x) = 0
    · rw [if_pos g]
      have hw2 : whyZ (uC K (206 + x) (zI (nxtZ K x))) x (btP K x) = 0 := by rw [hw]; exact g
      by_cases z : j < 0 ∨ 408 ≤ j
      · rw [go_out hn hw2 z, uC_ne (by omega)]
      · rw [go_lo hn (by omega) hw2 (by omega), uC_ne (by omega)]
    · rw [if_neg g, uC_ne (by omega)]
theorem trnK_rest {K : Int → Int32} (hI : InvK K) (hst : stepsZ K < 1999999000) {j : Int} (hj : j < 0 ∨ 408 ≤ j ∨ (38 + 2 * tI (K 3) ≤ j ∧ j < 46) ∨ (206 + tI (K 3) ≤ j ∧ j < 210)) : ∀ n : Nat, (n : Int) ≤ tI (K 3) → trnK K n j = K j := by
  have b3 := hI.1.2.2.2.1
  intro n
  induction n with
  | zero => intro _; rfl
  | succ n ih =>
    intro hn
    obtain ⟨i1, i2, i3, i4⟩ := trnK_inv hI hst n (by omega)
    have e3 : trnK K n 3 = K 3 := i4 3 (by omega)
    show trn1 (trnK K n) n j = _
    rw [trn1_rest i1 (x := (n : Int)) (by rw [e3]; omega) (by omega) (by rw [e3]; exact hj), ih (by omega)]
theorem rndK_rest {K : Int → Int32} (hI : InvK K) (hst : stepsZ K < 1999900000) {j : Int} (hj : j < 0 ∨ 408 ≤ j ∨ (38 + 2 * tI (K 3) ≤ j ∧ j < 46) ∨ (206 + tI (K 3) ≤ j ∧ j < 210)) : ∀ n : Nat, n ≤ 200 → rndK K n j = K j := by
  have b3 := hI.1.2.2.2.1
  intro n
  induction n with
  | zero => intro _; rfl
  | succ n ih =>
    intro hn
    obtain ⟨i1, i2, i3, i4⟩ := rndK_inv hI hst n (by omega)
    have e3 : rndK K n 3 = K 3 := i4 3 (by omega)
    show turK (rndK K n) j = _
    unfold turK
    rw [trnK_rest i1 (by omega) (by rw [e3]; exact hj) _ (by rw [e3]; omega), ih (by omega)]
/-- the pictures that are held against each other -/
def rsZ (K : Int → Int32) : Int := if tI (K 166) = 0 then 0 else stepsZ K % tI (K 166)
def pcC (K : Int → Int32) (i : Int) : Int := if i = 0 then rsZ K else if i = 1 then tI (K 5) else if i < 10 then (if i % 2 = 0 then tI (K (36 + i)) else tI (K (206 + (i - 3) / 2))) else if i - 10 < tI (K 5) then 4 * prW K (i - 10) + prO K (i - 10) else 0
def pcM (K : Int → Int32) (i : Int) : Int := if i = 0 then tI (K 5) else if i ≤ 2 * tI (K 5) then tI (K (45 + i)) else if 121 ≤ i ∧ i < 121 + tI (K 3) then tI (K (38 + 2 * (i - 121))) else if 125 ≤ i ∧ i < 125 + tI (K 3) then tI (K (206 + (i - 125))) else if i = 129 then rsZ K else 0
def smC (K L : Int → Int32) : Bool := decide (fndN (fun i : Nat => decide (pcC K i ≠ pcC L i)) 70 0 = -1)
def smM (K L : Int → Int32) : Bool := decide (fndN (fun i : Nat => decide (pcM K i ≠ pcM L i)) 134 0 = -1)
theorem sm_all {p : Nat → Bool} {n : Nat} : fndN p n 0 = -1 ↔ ∀ i, i < n → p i = false := by
  constructor
  · intro h i hi
    cases e : p i with
    | false => rfl
    | true => exact absurd h (fnd_some hi e)
  · intro h; exact fndN_none (fun i _ hi => h i (by omega))
theorem smC_iff {K L : Int → Int32} : smC K L = true ↔ ∀ i : Nat, i < 70 → pcC K i = pcC L i := by
  unfold smC
  rw [decide_eq_true_eq, sm_all]
  exact ⟨fun h i hi => Decidable.not_not.mp (of_decide_eq_false (h i hi)), fun h i hi => decide_eq_false (fun z => z (h i hi))⟩
theorem smM_iff {K L : Int → Int32} : smM K L = true ↔ ∀ i : Nat, i < 134 → pcM K i = pcM L i := by
  unfold smM
  rw [decide_eq_true_eq, sm_all]
  exact ⟨fun h i hi => Decidable.not_not.mp (of_decide_eq_false (h i hi)), fun h i hi => decide_eq_false (fun z => z (h i hi))⟩
theorem pcC_0 {K : Int → Int32} : pcC K 0 = rsZ K := rfl
theorem pcC_1 {K : Int → Int32} : pcC K 1 = tI (K 5) := rfl
theorem pcC_w {K : Int → Int32} {x : Int} (hx : 0 ≤ x ∧ x < 4) : pcC K (2 + 2 * x) = tI (K (38 + 2 * x)) ∧ pcC K (3 + 2 * x) = tI (K (206 + x)) := by
  constructor
  · unfold pcC
    rw [if_neg (by omega), if_neg (by omega), if_pos (by omega), if_pos (by omega), show 36 + (2 + 2 * x) = 38 + 2 * x by omega]
  · unfold pcC
    rw [if_neg (by omega), if_neg (by omega), if_pos (by omega), if_neg (by omega), show (3 + 2 * x - 3) / 2 = x by omega]
theorem pcC_k {K : Int → Int32} {k : Int} (hk : 0 ≤ k) : pcC K (10 + k) = if k < tI (K 5) then 4 * prW K k + prO K k else 0 := by
  unfold pcC
  rw [if_neg (by omega), if_neg (by omega), if_neg (by omega), show 10 + k - 10 = k by omega]
theorem sm_same {K L : Int → Int32} (hK : InvK K) (hL : InvK L) (h3 : tI (L 3) = tI (K 3)) (hr : ∀ x, tI (K 3) ≤ x → x < 4 → L (38 + 2 * x) = K (38 + 2 * x) ∧ L (206 + x) = K (206 + x)) : smM K L = smC K L := by
  have k3 := hK.1.2.2.2.1
  have k5 := hK.1.2.2.2.2.2.1
  have k4 := hK.1.2.2.2.2.1
  have l5 := hL.1.2.2.2.2.2.1
  have l4 := hL.1.2.2.2.2.1
  rw [Bool.eq_iff_iff, smM_iff, smC_iff]
  constructor
  · intro h i hi
    have h0 := h 0 (by omega)
    have e5 : tI (K 5) = tI (L 5) := h0
    have ers : rsZ K = rsZ L := by
      have := h 129 (by omega)
      unfold pcM at this
      rw [if_neg (by omega), if_neg (by omega), if_neg (by omega), if_neg (by omega), if_pos (by omega), if_neg (by omega), if_neg (by omega), if_neg (by omega), if_neg (by omega), if_pos (by omega)] at this
      exact this
    have epr : ∀ k : Nat, 1 ≤ k → (k : Int) ≤ 2 * tI (K 5) → tI (K (45 + (k : Int))) = tI (L (45 + (k : Int))) := fun k k1 k2 => by
      have := h k (by omega)
      unfold pcM at this
      rw [if_neg (by omega), if_pos (by omega), if_neg (by omega), if_pos (by omega)] at this
      exact this
    by_cases c0 : i = 0
    · rw [c0]; exact ers
    · by_cases c1 : i = 1
      · rw [c1]; exact e5
      · by_cases c2 : i < 10
        · obtain ⟨x, hx, hi2⟩ : ∃ x : Nat, x < 4 ∧ (i = 2 + 2 * x ∨ i = 3 + 2 * x) := ⟨(i - 2) / 2, by omega, by omega⟩
          have eb : tI (K (38 + 2 * (x : Int))) = tI (L (38 + 2 * (x : Int))) ∧ tI (K (206 + (x : Int))) = tI (L (206 + (x : Int))) := by
            by_cases g : (x : Int) < tI (K 3)
            · have a1 := h (121 + x) (by omega)
              have a2 := h (125 + x) (by omega)
              have n1 : ((121 + x : Nat) : Int) = 121 + (x : Int) := by omega
              have n2 : ((125 + x : Nat) : Int) = 125 + (x : Int) := by omega
              rw [n1] at a1
              rw [n2] at a2
              unfold pcM at a1 a2
              rw [if_neg (by omega), if_neg (by omega), if_pos (by omega), if_neg (by omega), if_neg (by omega), if_pos (by omega), show 121 + (x : Int) - 121 = x by omega] at a1
              rw [if_neg (by omega), if_neg (by omega), if_neg (by omega), if_pos (by omega), if_neg (by omega), if_neg (by omega), if_neg (by omega), if_pos (by omega), show 125 + (x : Int) - 125 = x by omega] at a2
              exact ⟨a1, a2⟩
            · have := hr x (by omega) (by omega)
              rw [this.1, this.2]; exact ⟨rfl, rfl⟩
          have p1 := pcC_w (K := K) (x := (x : Int)) (by omega)
          have p2 := pcC_w (K := L) (x := (x : Int)) (by omega)
          rcases hi2 with z | z
          · rw [z, show ((2 + 2 * x : Nat) : Int) = 2 + 2 * (x : Int) by omega, p1.1, p2.1]; exact eb.1
          · rw [z, show ((3 + 2 * x : Nat) : Int) = 3 + 2 * (x : Int) by omega, p1.2, p2.2]; exact eb.2
        · obtain ⟨k, rfl⟩ : ∃ k : Nat, i = 10 + k := ⟨i - 10, by omega⟩
          rw [show ((10 + k : Nat) : Int) = 10 + (k : Int) by omega, pcC_k (by omega), pcC_k (by omega), e5]
          by_cases g : (k : Int) < tI (L 5)
          · rw [if_pos g, if_pos g]
            have a1 := epr (1 + 2 * k) (by omega) (by omega)
            have a2 := epr (2 + 2 * k) (by omega) (by omega)
            rw [show 45 + ((1 + 2 * k : Nat) : Int) = 46 + 2 * (k : Int) by omega] at a1
            rw [show 45 + ((2 + 2 * k : Nat) : Int) = 47 + 2 * (k : Int) by omega] at a2
            unfold prW prO
            omega
          · rw [if_neg g, if_neg g]
  · intro h i hi
    have ers : rsZ K = rsZ L := h 0 (by omega)
    have e5 : tI (K 5) = tI (L 5) := h 1 (by omega)
    have eb : ∀ x : Nat, x < 4 → tI (K (38 + 2 * (x : Int))) = tI (L (38 + 2 * (x : Int))) ∧ tI (K (206 + (x : Int))) = tI (L (206 + (x : Int))) := fun x hx => by
      have a1 := h (2 + 2 * x) (by omega)
      have a2 := h (3 + 2 * x) (by omega)
      have p1 := pcC_w (K := K) (x := (x : Int)) (by omega)
      have p2 := pcC_w (K := L) (x := (x : Int)) (by omega)
      rw [show ((2 + 2 * x : Nat) : Int) = 2 + 2 * (x : Int) by omega, p1.1, p2.1] at a1
      rw [show ((3 + 2 * x : Nat) : Int) = 3 + 2 * (x : Int) by omega, p1.2, p2.2] at a2
      exact ⟨a1, a2⟩
    have ek : ∀ k : Nat, (k : Int) < tI (K 5) → prW K k = prW L k ∧ prO K k = prO L k := fun k hk => by
      have a := h (10 + k) (by omega)
      rw [show ((10 + k : Nat) : Int) = 10 + (k : Int) by omega, pcC_k (by omega), pcC_k (by omega), if_pos hk, if_pos (by omega)] at a
      have r1 := (pr_in hK (i := (k : Int)) (by omega) hk).2
      have r2 := (pr_in hL (i := (k : Int)) (by omega) (by omega)).2
      omega
    unfold pcM
    rw [e5, h3, ers]
    by_cases c0 : (i : Int) = 0
    · rw [if_pos c0, if_pos c0]
    · rw [if_neg c0, if_neg c0]
      by_cases c1 : (i : Int) ≤ 2 * tI (L 5)
      · rw [if_pos c1, if_pos c1]
        have := ek ((i - 1) / 2) (by omega)
        unfold prW prO at this
        by_cases g : i % 2 = 1
        · have e : (45 : Int) + (i : Int) = 46 + 2 * (((i - 1) / 2 : Nat) : Int) := by omega
          rw [e]; exact this.1
        · have e : (45 : Int) + (i : Int) = 47 + 2 * (((i - 1) / 2 : Nat) : Int) := by omega
          rw [e]; exact this.2
      · rw [if_neg c1, if_neg c1]
        by_cases c2 : 121 ≤ (i : Int) ∧ (i : Int) < 121 + tI (K 3)
        · rw [if_pos c2, if_pos c2]
          have := (eb (i - 121) (by omega)).1
          rw [show ((i - 121 : Nat) : Int) = (i : Int) - 121 by omega] at this
          exact this
        · rw [if_neg c2, if_neg c2]
          by_cases c3 : 125 ≤ (i : Int) ∧ (i : Int) < 125 + tI (K 3)
          · rw [if_pos c3, if_pos c3]
            have := (eb (i - 125) (by omega)).2
            rw [show ((i - 125 : Nat) : Int) = (i : Int) - 125 by omega] at this
            exact this
          · rw [if_neg c3, if_neg c3]
/-- when it comes again; the first like it -/
def agI (K : Int → Int32) (k : Nat) : Int := fndN (fun i => smC (rndK K i) (rndK K k)) k 0
def agK (K : Int → Int32) : Int := fndN (fun k => decide (agI K k ≠ -1)) 121 0
def a_again (K : Int → Int32) (x : Int) : Int × Int := if 0 ≤ x ∧ x ≤ 1 then (0, if agK K = -1 then -1 else if x = 0 then agK K - agI K (agK K).toNat else agI K (agK K).toNat) else (1, 0)
theorem agI_rg (K : Int → Int32) (k : Nat) : agI K k = -1 ∨ (0 ≤ agI K k ∧ agI K k < k) := by
  have := fndN_rg (fun i => smC (rndK K i) (rndK K k)) k 0
  unfold agI; omega
theorem agK_rg (K : Int → Int32) : agK K = -1 ∨ (0 ≤ agK K ∧ agK K < 121) := by
  have := fndN_rg (fun k => decide (agI K k ≠ -1)) 121 0
  unfold agK; omega
theorem sh50 {E : EnQ} : ∀ t : Nat, t < 121 → shx E (50 + t) = (2, 0, 70) := by
  intro t ht
  have : ∀ t : Nat, t < 121 → (bif Nat.ble 16 (50 + t) && Nat.ble (50 + t) 246 then sh0 (50 + t) else (0, 0, 0)) = (2, 0, 70) := by decide +kernel
  have h := this t ht
  unfold shx
  have hb : (Nat.ble 16 (50 + t) && Nat.ble (50 + t) 246) = true := by
    rw [Bool.and_eq_true]; exact ⟨Nat.ble_eq.mpr (by omega), Nat.ble_eq.mpr (by omega)⟩
  rw [hb] at h ⊢
  exact h
theorem SnO_same {E : EnQ} {F F' : Nat → Int → Int32} {a : Nat} {K : Int → Int32} (hO : SnO E F a K) (h : ∀ b, (a ≤ b ∧ b ≤ a + 11) ∨ (rfQ E a 0 ≤ b ∧ b ≤ rfQ E a 0 + 5) → F' b = F b) : SnO E F' a K := by
  obtain ⟨hS, hP, hR, hN, hI⟩ := hO
  refine ⟨hS, hP, PlR_move hI (fun b h1 h2 => h b (Or.inr ⟨h1, h2⟩)) (fun j _ => rfl) hR, ?_, hI⟩
  unfold SnR
  rw [h a (by omega), h (a + 7) (by omega), h (a + 8) (by omega), h (a + 9) (by omega), h (a + 10) (by omega), h (a + 11) (by omega)]
  exact hN
end S94zj
