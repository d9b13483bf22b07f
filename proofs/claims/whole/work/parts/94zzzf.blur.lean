/-! blur: what is kept behind a row -/
section S94zzzf
set_option linter.unusedVariables false
set_option linter.unusedSimpArgs false
/-- behind the steps of a row, the snow calm -/
def blK (K : Int → Int32) (x : Int) : List Int → (Int → Int32)
  | [] => K
  | [_] => K
  | q :: u :: t => goK true (blK K x (u :: t)) x q
theorem stp_pr {K : Int → Int32} (hI : InvK K) {x p g : Int} (hw : whyZ K x p = 0) (hg : g = if tI (K 5) = tI (K 4) then 1 else 0) : tI (goK true K x p 5) = tI (K 5) - g + 1 ∧ (∀ i, 0 ≤ i → i < tI (K 5) - g → prW (goK true K x p) i = prW K (i + g)) ∧ prW (goK true K x p) (tI (K 5) - g) = wayZ K (tI (K (38 + 2 * x))) p ∧ tI (goK true K x p (38 + 2 * x)) = p := by
  obtain ⟨b0, b1, b2, b3, b4, b5, b6, b7, b8, b9⟩ := hI.1
  obtain ⟨w1, w2, w3⟩ := why0 hw
  have hwv := (wayZ_ends hI w3).1
  obtain ⟨v, hv⟩ : ∃ v, v = wayZ K (tI (K (38 + 2 * x))) p := ⟨_, rfl⟩
  rw [← hv] at hwv
  have e0 : goK true K x p = admK (fulK (remK K v x)) v x p := by
    unfold goK
    rw [if_neg (by rintro ⟨z, -⟩; cases z)]
    unfold stpK admK
    rw [hv]
  obtain ⟨i1, i2, i3⟩ := pre_inv hI (v := v) (x := x) hwv w1
  have i5 := i1.1.2.2.2.2.2.1
  have h169 : 0 ≤ tI (K 169) ∧ 1 ≤ tI (K 168) := by omega
  have r5 : tI (remK K v x 5) = tI (K 5) := by rw [remK_lo (by omega) h169]
  have r4 : tI (remK K v x 4) = tI (K 4) := by rw [remK_lo (by omega) h169]
  have n5 : tI (fulK (remK K v x) 5) = tI (K 5) - g := by rw [i3, hg]; split <;> omega
  rw [e0]
  refine ⟨?_, fun i h1 h2 => ?_, ?_, ?_⟩
  · rw [admK_5 (by omega) (by omega), n5]
  · unfold prW
    rw [admK_lo (by omega) (by omega) (by omega) (by omega)]
    unfold fulK
    rw [r5, r4]
    by_cases c : tI (K 5) = tI (K 4)
    · rw [if_pos c] at hg ⊢
      rw [losK_pr (by omega) (by omega) (by omega), remK_lo (by omega) h169, show 46 + 2 * i + 2 * 1 = 46 + 2 * (i + g) by omega]
    · rw [if_neg c] at hg ⊢
      rw [remK_lo (by omega) h169, show 46 + 2 * i = 46 + 2 * (i + g) by omega]
  · have := admK_W (K := fulK (remK K v x)) (v := v) (x := x) (p := p) (by omega) (by omega)
    rw [n5] at this
    unfold prW
    rw [this, tI_zI (by omega), hv]
  · rw [admK_p, tI_zI (by omega)]
/-- the prints and the steps of a row, one behind the other -/
def sbZ (K : Int → Int32) (p : List Int) (j : Int) : Int := if j < tI (K 5) then prW K j else pwZ K p (j - tI (K 5))
def gnZ (K : Int → Int32) (p : List Int) : Int := if 0 < tI (K 5) + p.length - 1 - tI (K 4) then tI (K 5) + p.length - 1 - tI (K 4) else 0
def BlI (K : Int → Int32) (x : Int) (p : List Int) (L : Int → Int32) : Prop := InvK L ∧ stepsZ L = stepsZ K + p.length - 1 ∧ (∀ j, j < 38 → j ≠ 5 → L j = K j) ∧ tI (L (38 + 2 * x)) = hdL p ∧ tI (L 5) = tI (K 5) + p.length - 1 - gnZ K p ∧ (∀ i, 0 ≤ i → i < tI (L 5) → prW L i = sbZ K p (i + gnZ K p)) ∧ (∀ j, j < 0 ∨ 408 ≤ j → L j = K j)
theorem bl_inv {K : Int → Int32} (hI : InvK K) (hst : stepsZ K < 1999000000) {x : Int} (hx : 0 ≤ x ∧ x < tI (K 3)) : ∀ {p : List Int}, p ≠ [] → p.length ≤ 100 → VaP K p → plZ p 0 = tI (K (38 + 2 * x)) → BlI K x p (blK K x p)
  | [], h, _, _, _ => absurd rfl h
  | [u], _, _, hv, hs => by
    obtain ⟨b0, b1, b2, b3, b4, b5, b6, b7, b8, b9⟩ := hI.1
    have hl : (([u] : List Int).length : Int) = 1 := rfl
    have e : gnZ K [u] = 0 := by unfold gnZ; rw [hl]; split <;> omega
    refine ⟨hI, ?_, fun _ _ _ => rfl, ?_, ?_, fun i h1 h2 => ?_, fun _ _ => rfl⟩
    · show stepsZ K = _; rw [hl]; omega
    · rw [plZ_one] at hs; exact hs.symm
    · rw [e, hl]; show tI (K 5) = _; omega
    · rw [e]; unfold sbZ
      have h2 : i < tI (K 5) := h2
      rw [if_pos (by omega)]; show prW K i = _; rw [show i + 0 = i by omega]
  | q :: u :: t, _, hl, hv, hs => by
    obtain ⟨b0, b1, b2, b3, b4, b5, b6, b7, b8, b9⟩ := hI.1
    have l1 : ((q :: u :: t).length : Int) = (u :: t).length + 1 := rfl
    have l2 : ((u :: t).length : Int) = t.length + 1 := rfl
    obtain ⟨i1, i2, i3, i4, i5, i6, i7⟩ := bl_inv hI hst hx (p := u :: t) (by intro z; cases z) (by omega) hv.2.2 (by rw [← hs, plZ_lo (q := q) (t := u :: t) (by omega)])
    show BlI K x (q :: u :: t) (goK true (blK K x (u :: t)) x q)
    obtain ⟨L, hL⟩ : ∃ L, L = blK K x (u :: t) := ⟨_, rfl⟩
    rw [← hL] at i1 i2 i3 i4 i5 i6 i7 ⊢
    have i4 : tI (L (38 + 2 * x)) = u := i4
    have c3 : tI (L 3) = tI (K 3) := by rw [i3 3 (by omega) (by omega)]
    have c1 : tI (L 1) = tI (K 1) := by rw [i3 1 (by omega) (by omega)]
    have c4 : tI (L 4) = tI (K 4) := by rw [i3 4 (by omega) (by omega)]
    have cw : ∀ a b, wayZ L a b = wayZ K a b := fun a b => wayZ_congr hI.1.2.2.1 (fun j hj => i3 j (by omega) (by omega)) a b
    have hwy : whyZ L x q = 0 := why0_of (by omega) (by rw [c1]; exact hv.1) (by rw [i4, cw]; exact hv.2.1 (by intro z; cases z))
    obtain ⟨j1, j2⟩ := go_inv i1 (c := true) hwy (by omega)
    obtain ⟨g, hg⟩ : ∃ g : Int, g = if tI (L 5) = tI (L 4) then 1 else 0 := ⟨_, rfl⟩
    obtain ⟨k1, k2, k3, k4⟩ := stp_pr i1 hwy hg
    have m5 := i1.1.2.2.2.2.2.1
    have e1 : gnZ K (q :: u :: t) = gnZ K (u :: t) + g := by
      rw [c4] at hg
      unfold gnZ at i5 ⊢
      rw [l1]
      by_cases z : tI (L 5) = tI (K 4)
      · rw [if_pos z] at hg
        split at i5 <;> (repeat' split) <;> omega
      · rw [if_neg z] at hg
        split at i5 <;> (repeat' split) <;> omega
    refine ⟨j1, ?_, fun j h1 h2 => ?_, k4, ?_, fun i h1 h2 => ?_, fun j hj => ?_⟩
    · rw [j2, i2, l1]; omega
    · rw [go_lo i1 (by omega) hwy (by omega)]; exact i3 j h1 h2
    · rw [k1, i5, e1, l1]; omega
    · rw [k1] at h2
      rw [e1]
      by_cases z : i < tI (L 5) - g
      · rw [k2 i h1 z, i6 (i + g) (by omega) (by omega), show i + g + gnZ K (u :: t) = i + (gnZ K (u :: t) + g) by omega]
        unfold sbZ
        by_cases y : i + (gnZ K (u :: t) + g) < tI (K 5)
        · rw [if_pos y, if_pos y]
        · rw [if_neg y, if_neg y, pwZ_lo (q := q) (t := u :: t) (by omega)]
      · have z' : i = tI (L 5) - g := by omega
        rw [z', k3, i4, cw]
        unfold sbZ
        rw [if_neg (by omega), pwZ_top (by omega)]; rfl
    · rw [go_out i1 hwy hj]; exact i7 j hj
/-- at how many places the hunter may be -/
def szB (K : Int → Int32) (x n : Int) (p : List Int) : Int := popZ (itN (onN (blK K x p)) (bitN (tI (K (38 + 2 * x)))) n.toNat)
def vB (K : Int → Int32) (x n : Int) (p : List Int) (a : Int × List Int) : Int × List Int := if a.1 < szB K x n p ∨ (a.1 = szB K x n p ∧ p.length < a.2.length) then (szB K x n p, p) else a
def bFr (K : Int → Int32) (p : List Int) (k : Nat) : Int := fromZ K (sbZ K p (gnZ K p + k))
def bTo (K : Int → Int32) (p : List Int) (k : Nat) : Int := toZ K (sbZ K p (gnZ K p + k))
theorem sb_in {K : Int → Int32} (hI : InvK K) {p : List Int} (hv : VaP K p) {j : Int} (h0 : 0 ≤ j) (h : j < tI (K 5) + p.length - 1) : 0 ≤ sbZ K p j ∧ sbZ K p j < 2 * tI (K 2) := by
  unfold sbZ
  by_cases c : j < tI (K 5)
  · rw [if_pos c]; exact (pr_in hI h0 c).1
  · rw [if_neg c]
    obtain ⟨a, b, g1, g2, -⟩ := pwZ_ne hv (j - tI (K 5)) (by omega) (by omega)
    rw [g2]; exact (wayZ_ends hI g1).1
theorem gnZ_rg {K : Int → Int32} {p : List Int} : 0 ≤ gnZ K p := by unfold gnZ; split <;> omega
theorem b_rg {K : Int → Int32} (hI : InvK K) {p : List Int} (hv : VaP K p) : ∀ k : Nat, k < (tI (K 5) + p.length - 1 - gnZ K p).toNat → (0 ≤ bFr K p k ∧ bFr K p k < 10) ∧ 0 ≤ bTo K p k ∧ bTo K p k < 10 := fun k hk => by
  have hg := gnZ_rg (K := K) (p := p)
  have h0 := sb_in hI hv (j := gnZ K p + k) (by omega) (by omega)
  have h1 := from_in hI h0
  have h2 := to_in hI h0
  have := hI.1.2.1
  unfold bFr bTo; omega
theorem b_on {K : Int → Int32} (hI : InvK K) (hst : stepsZ K < 1999000000) {x : Int} (hx : 0 ≤ x ∧ x < tI (K 3)) {p : List Int} (hp : p ≠ []) (hl : p.length ≤ 100) (hv : VaP K p) (hs : plZ p 0 = tI (K (38 + 2 * x))) : gonN (bFr K p) (bTo K p) (tI (K 5) + p.length - 1 - gnZ K p).toNat = onN (blK K x p) := by
  obtain ⟨i1, i2, i3, i4, i5, i6, i7⟩ := bl_inv hI hst hx hp hl hv hs
  have hb2 := hI.1.2.2.1
  have hg := gnZ_rg (K := K) (p := p)
  funext s
  unfold gonN onN
  rw [i5]
  refine orN_congr (fun k hk => ?_)
  have h0 := sb_in hI hv (j := gnZ K p + k) (by omega) (by omega)
  have e : prW (blK K x p) (k : Int) = sbZ K p (gnZ K p + k) := by rw [i6 k (by omega) (by omega), Int.add_comm]
  rw [e, fromZ_congr (K := K) (fun j hj => i3 j (by omega) (by omega)) (by omega), toZ_congr (K := K) (fun j hj => i3 j (by omega) (by omega)) (by omega)]
  rfl
theorem popZ_rg {s : Nat} (h : s < 1024) : 0 ≤ popZ s ∧ popZ s ≤ 32 := by
  by_cases z : s = 0
  · rw [z, pop_zero]; omega
  · have := pop_pos z (by omega); omega
theorem szB_rg {K : Int → Int32} (hI : InvK K) (hst : stepsZ K < 1999000000) {x n : Int} (hx : 0 ≤ x ∧ x < tI (K 3)) {p : List Int} (hp : p ≠ []) (hl : p.length ≤ 100) (hv : VaP K p) (hs : plZ p 0 = tI (K (38 + 2 * x))) : itN (onN (blK K x p)) (bitN (tI (K (38 + 2 * x)))) n.toNat < 1024 ∧ 0 ≤ szB K x n p ∧ szB K x n p ≤ 32 := by
  obtain ⟨i1, -⟩ := bl_inv hI hst hx hp hl hv hs
  have hb1 := hI.1.2.1
  have hv0 := plZ_rg hv 0 (by omega) (by have := len_pos hp; omega)
  rw [hs] at hv0
  have := itN_lt (bit_lt (x := tI (K (38 + 2 * x))) (by omega)) (onN_lt i1) n.toNat
  exact ⟨this, popZ_rg this⟩
end S94zzzf
