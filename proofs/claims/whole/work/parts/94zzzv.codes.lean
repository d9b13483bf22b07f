/-! rows by codes -/
section S94zzzv
set_option linter.unusedVariables false
set_option linter.unusedSimpArgs false
/-! rows by codes: what is used of each slot -/
def cIx (nd : Nat → Nat) (n x : Nat) : Nat → Int := fun t => if t < n then ((dgN nd x t : Nat) : Int) else 0
def tdx (nd : Nat → Nat) (n x : Nat) : Nat := (sumN (cIx nd n x) n).toNat
def Wx (n : Nat) (nd : Nat → Nat) (fr to : Nat → Int) (u : Int) (x : Nat) : Int := NW n fr to (tdx nd n x) u (cIx nd n x)
def whx (n : Nat) (nd : Nat → Nat) (fr to : Nat → Int) (u : Int) (x : Nat) : Int := whI n fr to u (cIx nd n x)
theorem cIx_in {nd : Nat → Nat} {n x t : Nat} (h : t < n) : cIx nd n x t = ((dgN nd x t : Nat) : Int) := if_pos h
theorem cIx_out {nd : Nat → Nat} {n x t : Nat} (h : n ≤ t) : cIx nd n x t = 0 := if_neg (by omega)
theorem cIx_nn {nd : Nat → Nat} {n x t : Nat} : 0 ≤ cIx nd n x t := by unfold cIx; split <;> omega
theorem cIx_sub {nd : Nat → Nat} {n x s : Nat} (hx : x < 2 ^ shN nd n) (hs : s < n) (h : 0 < dgN nd x s) : cIx nd n (x - 2 ^ shN nd s) = dcI (cIx nd n x) s := by
  funext t
  by_cases ht : t < n
  · rw [cIx_in ht, (dg_sub hx hs h).2 t ht]
    unfold dec1 dcI
    by_cases e : t = s
    · rw [if_pos e, if_pos e, cIx_in ht, e]; omega
    · rw [if_neg e, if_neg e, cIx_in ht]
  · rw [cIx_out (by omega), dcI_ne (by omega), cIx_out (by omega)]
theorem sum_dcI {c : Nat → Int} {n s : Nat} (hs : s < n) : sumN c n = sumN (dcI c s) n + 1 := by
  have e := sumN_congr (f := c) (g := fun j => dcI c s j + (if j = s then 1 else 0)) (n := n) (fun j _ => by
    by_cases z : j = s
    · show c j = dcI c s j + (if j = s then 1 else 0); rw [if_pos z, z, dcI_at]; omega
    · show c j = dcI c s j + (if j = s then 1 else 0); rw [if_neg z, dcI_ne z]; omega)
  rw [sumN_add, sumN_single (f := fun j => if j = s then (1 : Int) else 0) hs (fun j _ h => if_neg h)] at e
  have e : sumN c n = sumN (dcI c s) n + (if s = s then 1 else 0) := e
  rw [if_pos rfl] at e
  exact e
theorem tdx_i {nd : Nat → Nat} {n x : Nat} : ((tdx nd n x : Nat) : Int) = sumN (cIx nd n x) n := by
  have := sumN_nneg (f := cIx nd n x) (n := n) (fun _ _ => cIx_nn)
  unfold tdx; omega
theorem tdx_sub {nd : Nat → Nat} {n x s : Nat} (hx : x < 2 ^ shN nd n) (hs : s < n) (h : 0 < dgN nd x s) : tdx nd n x = tdx nd n (x - 2 ^ shN nd s) + 1 := by
  have e1 := tdx_i (nd := nd) (n := n) (x := x)
  have e2 := tdx_i (nd := nd) (n := n) (x := x - 2 ^ shN nd s)
  rw [cIx_sub hx hs h] at e2
  have := sum_dcI (c := cIx nd n x) hs
  omega
theorem dg_0 {nd : Nat → Nat} {t : Nat} : dgN nd 0 t = 0 := by unfold dgN; rw [Nat.zero_div, Nat.zero_mod]
theorem tdx_0 {nd : Nat → Nat} {n : Nat} : tdx nd n 0 = 0 := by
  have e := tdx_i (nd := nd) (n := n) (x := 0)
  rw [sumN_z (fun t ht => by rw [cIx_in ht, dg_0]; rfl)] at e
  omega
theorem Wx_0 {n : Nat} {nd : Nat → Nat} {fr to : Nat → Int} {u : Int} : Wx n nd fr to u 0 = 1 := by unfold Wx; rw [tdx_0]; rfl
theorem whx_0 {n : Nat} {nd : Nat → Nat} {fr to : Nat → Int} {u : Int} : whx n nd fr to u 0 = u := by
  unfold whx whI
  rw [sumN_z (fun t ht => by rw [cIx_in ht, dg_0]; exact Int.zero_mul _)]; omega
theorem tdx_pos {nd : Nat → Nat} {n x : Nat} (hx : x < 2 ^ shN nd n) (h : x ≠ 0) : 0 < tdx nd n x := by
  refine Nat.pos_of_ne_zero (fun z => h ?_)
  refine enc_zero n hx (fun t ht => ?_)
  have e := tdx_i (nd := nd) (n := n) (x := x)
  have h1 := sumN_le1 (f := cIx nd n x) ht (fun _ _ => cIx_nn)
  rw [cIx_in ht] at h1
  omega
theorem Wx_nn {n : Nat} {nd : Nat → Nat} {fr to : Nat → Int} {u : Int} {x : Nat} : 0 ≤ Wx n nd fr to u x := NW_nn _ _ _
/-- the last step -/
def Tx (n : Nat) (nd : Nat → Nat) (fr to : Nat → Int) (u : Int) (x t : Nat) : Int := if 0 < dgN nd x t ∧ whx n nd fr to u (x - 2 ^ shN nd t) = fr t then Wx n nd fr to u (x - 2 ^ shN nd t) else 0
theorem Tx_nn {n : Nat} {nd : Nat → Nat} {fr to : Nat → Int} {u : Int} {x t : Nat} : 0 ≤ Tx n nd fr to u x t := by
  unfold Tx; split
  · exact Wx_nn
  · exact Int.le_refl _
theorem Wx_last {n : Nat} {nd : Nat → Nat} {fr to : Nat → Int} {u : Int} {x : Nat} (hx : x < 2 ^ shN nd n) (h : x ≠ 0) : Wx n nd fr to u x = sumN (Tx n nd fr to u x) n := by
  obtain ⟨k, hk⟩ : ∃ k, tdx nd n x = k + 1 := ⟨tdx nd n x - 1, by have := tdx_pos hx h; omega⟩
  unfold Wx
  rw [hk, NW_last (fun _ => cIx_nn) (fun t ht => cIx_out ht) (by rw [← tdx_i, hk])]
  refine sumN_congr (fun t ht => ?_)
  unfold Tx
  rw [cIx_in ht]
  by_cases c : 0 < dgN nd x t
  · have e1 := cIx_sub hx ht c
    have e2 := tdx_sub hx ht c
    unfold whx Wx
    rw [e1, show tdx nd n (x - 2 ^ shN nd t) = k by omega]
    by_cases c2 : whI n fr to u (dcI (cIx nd n x) t) = fr t
    · rw [if_pos ⟨by omega, c2⟩, if_pos ⟨c, c2⟩]
    · rw [if_neg (fun z => c2 z.2), if_neg (fun z => c2 z.2)]
  · rw [if_neg (fun z => c (by have := z.1; omega)), if_neg (fun z => c z.1)]
/-- what has come there so far -/
def Ax (n : Nat) (nd : Nat → Nat) (fr to : Nat → Int) (u : Int) (c s x : Nat) : Int := sumN (fun t => if x - 2 ^ shN nd t < c ∨ (x - 2 ^ shN nd t = c ∧ t < s) then Tx n nd fr to u x t else 0) n + (if x = 0 then 1 else 0)
theorem Tx_z {n : Nat} {nd : Nat → Nat} {fr to : Nat → Int} {u : Int} {x t : Nat} (h : dgN nd x t = 0) : Tx n nd fr to u x t = 0 := if_neg (fun z => by have := z.1; omega)
theorem Ax_done {n : Nat} {nd : Nat → Nat} {fr to : Nat → Int} {u : Int} {c s x : Nat} (hx : x < 2 ^ shN nd n) (hc : x ≤ c) : Ax n nd fr to u c s x = Wx n nd fr to u x := by
  unfold Ax
  by_cases h : x = 0
  · rw [if_pos h, h, Wx_0, sumN_z (fun t _ => by rw [Tx_z dg_0]; split <;> rfl)]; rfl
  · rw [if_neg h, Wx_last hx h, sumN_congr (g := Tx n nd fr to u x) (fun t ht => ?_)]
    · omega
    · by_cases e : dgN nd x t = 0
      · rw [Tx_z e]; split <;> rfl
      · have h1 := (dg_sub hx ht (by omega)).1
        have h2 := Nat.two_pow_pos (shN nd t)
        exact if_pos (Or.inl (by omega))
theorem Ax_next {n : Nat} {nd : Nat → Nat} {fr to : Nat → Int} {u : Int} {c x : Nat} : Ax n nd fr to u c n x = Ax n nd fr to u (c + 1) 0 x := by
  unfold Ax
  rw [sumN_congr (fun t ht => ?_)]
  by_cases g : x - 2 ^ shN nd t < c + 1
  · have : x - 2 ^ shN nd t < c ∨ (x - 2 ^ shN nd t = c ∧ t < n) := by omega
    rw [if_pos this, if_pos (Or.inl g)]
  · rw [if_neg (by omega), if_neg (by omega)]
theorem Ax_same {n : Nat} {nd : Nat → Nat} {fr to : Nat → Int} {u : Int} {c s x : Nat} (h : x - 2 ^ shN nd s = c → Tx n nd fr to u x s = 0) : Ax n nd fr to u c (s + 1) x = Ax n nd fr to u c s x := by
  unfold Ax
  rw [sumN_congr (fun t ht => ?_)]
  by_cases e : t = s
  · subst e
    by_cases g : x - 2 ^ shN nd t = c
    · rw [h g]; split <;> split <;> rfl
    · by_cases g2 : x - 2 ^ shN nd t < c
      · rw [if_pos (Or.inl g2), if_pos (Or.inl g2)]
      · rw [if_neg (by omega), if_neg (by omega)]
  · by_cases g : x - 2 ^ shN nd t < c ∨ (x - 2 ^ shN nd t = c ∧ t < s)
    · rw [if_pos g, if_pos (by omega)]
    · rw [if_neg g, if_neg (by omega)]
theorem Ax_skip {n : Nat} {nd : Nat → Nat} {fr to : Nat → Int} {u : Int} {c x : Nat} (h : ∀ t, t < n → x - 2 ^ shN nd t = c → Tx n nd fr to u x t = 0) : Ax n nd fr to u (c + 1) 0 x = Ax n nd fr to u c 0 x := by
  rw [← Ax_next]
  have : ∀ s, s ≤ n → Ax n nd fr to u c s x = Ax n nd fr to u c 0 x := by
    intro s
    induction s with
    | zero => intro _; rfl
    | succ s ih => intro hs; rw [Ax_same (h s (by omega)), ih (by omega)]
  exact this n (Nat.le_refl _)
theorem Ax_more {n : Nat} {nd : Nat → Nat} {fr to : Nat → Int} {u : Int} {c s x : Nat} (hs : s < n) (h : x - 2 ^ shN nd s = c) : Ax n nd fr to u c (s + 1) x = Ax n nd fr to u c s x + Tx n nd fr to u x s := by
  unfold Ax
  have e := sumN_congr (f := fun t => if x - 2 ^ shN nd t < c ∨ (x - 2 ^ shN nd t = c ∧ t < s + 1) then Tx n nd fr to u x t else 0) (g := fun t => (if x - 2 ^ shN nd t < c ∨ (x - 2 ^ shN nd t = c ∧ t < s) then Tx n nd fr to u x t else 0) + (if t = s then Tx n nd fr to u x s else 0)) (n := n) (fun t ht => by
    show (if x - 2 ^ shN nd t < c ∨ (x - 2 ^ shN nd t = c ∧ t < s + 1) then Tx n nd fr to u x t else 0) = (if x - 2 ^ shN nd t < c ∨ (x - 2 ^ shN nd t = c ∧ t < s) then Tx n nd fr to u x t else 0) + (if t = s then Tx n nd fr to u x s else 0)
    by_cases z : t = s
    · subst z
      rw [if_pos (by omega), if_neg (by omega), if_pos rfl]; omega
    · rw [if_neg z]
      by_cases g : x - 2 ^ shN nd t < c ∨ (x - 2 ^ shN nd t = c ∧ t < s)
      · rw [if_pos g, if_pos (by omega)]; omega
      · rw [if_neg g, if_neg (by omega)]; omega)
  rw [e, sumN_add, sumN_single (f := fun t => if t = s then Tx n nd fr to u x s else 0) hs (fun j _ h => if_neg h)]
  rw [if_pos rfl]; omega
/-- codes of what may be used -/
def Vdx (n : Nat) (nd st : Nat → Nat) (x : Nat) : Prop := ∀ t, t < n → dgN nd x t ≤ st t
theorem Vdx_sub {n : Nat} {nd st : Nat → Nat} {x s : Nat} (hx : x < 2 ^ shN nd n) (hs : s < n) (h : 0 < dgN nd x s) (hv : Vdx n nd st x) : Vdx n nd st (x - 2 ^ shN nd s) := fun t ht => by
  rw [(dg_sub hx hs h).2 t ht]
  have := hv t ht
  unfold dec1; split <;> omega
theorem Vdx_add {n : Nat} {nd st : Nat → Nat} {x s : Nat} (hst : ∀ t, t < n → st t < 2 ^ nd t) (hx : x < 2 ^ shN nd n) (hs : s < n) (h : dgN nd x s < st s) (hv : Vdx n nd st x) : x + 2 ^ shN nd s < 2 ^ shN nd n ∧ Vdx n nd st (x + 2 ^ shN nd s) ∧ dgN nd (x + 2 ^ shN nd s) s = dgN nd x s + 1 := by
  have h1 := dg_add hx hs (by have := hst s hs; omega)
  refine ⟨h1.1, fun t ht => ?_, ?_⟩
  · rw [h1.2 t ht]
    unfold inc1
    by_cases e : t = s
    · rw [if_pos e, e]; omega
    · rw [if_neg e]; exact hv t ht
  · rw [h1.2 s hs]; exact if_pos rfl
theorem Vdx_0 {n : Nat} {nd st : Nat → Nat} : Vdx n nd st 0 := fun t _ => by rw [dg_0]; omega
theorem whx_add {n : Nat} {nd : Nat → Nat} {fr to : Nat → Int} {u : Int} {x s : Nat} (hx : x + 2 ^ shN nd s < 2 ^ shN nd n) (hs : s < n) (h : 0 < dgN nd (x + 2 ^ shN nd s) s) : whx n nd fr to u (x + 2 ^ shN nd s) = whx n nd fr to u x + (to s - fr s) := by
  unfold whx
  rw [whI_dc hs]
  have := cIx_sub hx hs h
  rw [show x + 2 ^ shN nd s - 2 ^ shN nd s = x by omega] at this
  rw [this]
theorem Wx_up {n : Nat} {nd : Nat → Nat} {fr to : Nat → Int} {u : Int} {x s : Nat} (hx : x + 2 ^ shN nd s < 2 ^ shN nd n) (hs : s < n) (h : 0 < dgN nd (x + 2 ^ shN nd s) s) (hw : whx n nd fr to u x = fr s) : Wx n nd fr to u x ≤ Wx n nd fr to u (x + 2 ^ shN nd s) := by
  have h2 := Nat.two_pow_pos (shN nd s)
  rw [Wx_last (x := x + 2 ^ shN nd s) hx (by omega)]
  have h3 := sumN_le1 (f := Tx n nd fr to u (x + 2 ^ shN nd s)) hs (fun _ _ => Tx_nn)
  have e : Tx n nd fr to u (x + 2 ^ shN nd s) s = Wx n nd fr to u x := by
    unfold Tx
    rw [show x + 2 ^ shN nd s - 2 ^ shN nd s = x by omega]
    exact if_pos ⟨h, hw⟩
  omega
theorem shN_ge {nd : Nat → Nat} : ∀ n : Nat, (∀ t, t < n → 0 < nd t) → n ≤ shN nd n
  | 0, _ => Nat.zero_le _
  | n + 1, h => by
    have h1 := shN_ge n (fun t ht => h t (by omega))
    have h2 := h n (by omega)
    show n + 1 ≤ shN nd n + nd n
    omega
theorem Wx_bd {n : Nat} {nd : Nat → Nat} {fr to : Nat → Int} {u : Int} {x : Nat} (hn : n ≤ 14) (ht : tdx nd n x ≤ 14) : Wx n nd fr to u x ≤ 11112006825558016 := by
  have h := NW_bd (n := n) (fr := fr) (to := to) (b := 14) (by omega) (by omega) (tdx nd n x) u (cIx nd n x)
  have hm : ∀ k, k ≤ 14 → pwT 14 k ≤ 11112006825558016 := by decide
  exact Int.le_trans h (hm _ ht)
end S94zzzv
