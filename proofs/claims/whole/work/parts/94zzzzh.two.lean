/-! rows of two -/
section S94zzzzh
set_option linter.unusedVariables false
set_option linter.unusedSimpArgs false
/-- all partings of what is left, way by way -/
def smW (lf : Int → Int) : Nat := (sumN (fun v : Nat => lf (v : Int)) 32).toNat
def stW (f : Int → Int) (w k : Int) : Int → Int := fun v => if v = w then k else f v
def PTz (K : Int → Int32) (p q : Int) : Nat → (Int → Int) → (Int → Int) → Int
  | 0, tk, lf => NMz K (smW tk) p tk * NMz K (smW lf) q lf
  | r + 1, tk, lf => sumN (fun k => PTz K p q r (stW tk (31 - (r : Int)) (k : Int)) (stW lf (31 - (r : Int)) (lf (31 - (r : Int)) - (k : Int)))) (lf (31 - (r : Int)) + 1).toNat
theorem sumN_app {f : Nat → Int} {a : Nat} : ∀ b : Nat, sumN f (a + b) = sumN f a + sumN (fun d => f (a + d)) b
  | 0 => by show sumN f a = sumN f a + 0; omega
  | b + 1 => by
    show sumN f (a + b) + f (a + b) = sumN f a + (sumN (fun d => f (a + d)) b + f (a + b))
    rw [sumN_app b]; omega
theorem sumN_block {f : Nat → Int} {a : Nat} : ∀ b : Nat, sumN f (a * b) = sumN (fun y => sumN (fun d => f (d + a * y)) a) b
  | 0 => rfl
  | b + 1 => by
    show sumN f (a * b + a) = sumN (fun y => sumN (fun d => f (d + a * y)) a) b + sumN (fun d => f (d + a * b)) a
    rw [sumN_app, sumN_block b, sumN_congr (f := fun d => f (a * b + d)) (g := fun d => f (d + a * b)) (fun d _ => by show f (a * b + d) = f (d + a * b); rw [Nat.add_comm])]
theorem sumN_cut {f : Nat → Int} {a b : Nat} (hab : a ≤ b) (h : ∀ j, a ≤ j → j < b → f j = 0) : sumN f b = sumN f a := by
  have := sumN_app (f := f) (a := a) (b - a)
  rw [show a + (b - a) = b by omega, sumN_z (f := fun d => f (a + d)) (fun j hj => h (a + j) (by omega) (by omega))] at this
  omega
def spC (n : Nat) (sw : Nat → Nat) (c : Nat → Int) : Int → Int := fun v => sumN (fun t => if (sw t : Int) = v then c t else 0) n
theorem spC_at {K : Int → Int32} {n : Nat} {sw nd st : Nat → Nat} (hS : SxI K n sw nd st) {c : Nat → Int} {s : Nat} (hs : s < n) : spC n sw c (sw s : Int) = c s := by
  unfold spC
  rw [sumN_single hs (fun j hj hjs => if_neg (fun z => hjs (hS.2.1 j s hj hs (by omega))))]
  exact if_pos rfl
theorem spC_no {n : Nat} {sw : Nat → Nat} {c : Nat → Int} {v : Int} (h : ∀ s, s < n → (sw s : Int) ≠ v) : spC n sw c v = 0 := sumN_z (fun s hs => if_neg (h s hs))
theorem spC_sum {n : Nat} {sw : Nat → Nat} {c : Nat → Int} (hsw : ∀ s, s < n → sw s < 32) : sumN (fun v : Nat => spC n sw c (v : Int)) 32 = sumN c n := by
  show sumN (fun v : Nat => sumN (fun t => if (sw t : Int) = (v : Int) then c t else 0) n) 32 = _
  rw [sumN_swap]
  refine sumN_congr (fun t ht => ?_)
  rw [sumN_single (k := sw t) (hsw t ht) (fun j _ hj => if_neg (by omega))]
  exact if_pos rfl
theorem spC_ext {K : Int → Int32} {n : Nat} {sw nd st : Nat → Nat} (hS : SxI K n sw nd st) {c c' : Nat → Int} (h : ∀ t, t < n → c t = c' t) : spC n sw c = spC n sw c' := by
  funext v
  exact sumN_congr (fun t ht => by show (if (sw t : Int) = v then c t else 0) = (if (sw t : Int) = v then c' t else 0); rw [h t ht])
theorem spC_set {K : Int → Int32} {n : Nat} {sw nd st : Nat → Nat} (hS : SxI K n sw nd st) {c c' : Nat → Int} {s : Nat} {k : Int} (hs : s < n) (h1 : c' s = k) (h2 : ∀ t, t < n → t ≠ s → c' t = c t) : spC n sw c' = stW (spC n sw c) (sw s : Int) k := by
  funext v
  unfold stW
  by_cases e : ∃ t, t < n ∧ (sw t : Int) = v
  · obtain ⟨t, ht, e⟩ := e
    rw [← e, spC_at hS ht]
    by_cases z : t = s
    · rw [if_pos (by rw [z]), z, h1]
    · rw [if_neg (fun y => z (hS.2.1 t s ht hs (by omega))), spC_at hS ht, h2 t ht z]
  · have e' : ∀ t, t < n → (sw t : Int) ≠ v := fun t ht z => e ⟨t, ht, z⟩
    rw [spC_no e', if_neg (fun y => e' s hs y.symm), spC_no e']
theorem spC_T {K : Int → Int32} {n : Nat} {sw nd st : Nat → Nat} (hS : SxI K n sw nd st) {c : Nat → Int} : SlT K n (fun s => (sw s : Int)) (spC n sw c) := by
  refine ⟨fun s t hs ht e => hS.2.1 s t hs ht (by have e : (sw s : Int) = (sw t : Int) := e; omega), fun s hs => ⟨Int.natCast_nonneg _, (hS.1 s hs).1⟩, fun v hv => ?_⟩
  refine Classical.byContradiction (fun z => ?_)
  rw [spC_no (fun s hs e => z ⟨s, hs, e⟩)] at hv
  omega
theorem sp_NM {K : Int → Int32} (hI : InvK K) {n : Nat} {sw nd st : Nat → Nat} (hS : SxI K n sw nd st) {x : Nat} {u : Int} : NMz K (smW (spC n sw (cIx nd n x))) u (spC n sw (cIx nd n x)) = Wx n nd (fgS K sw) (tgS K sw) u x := by
  have hb2 := hI.1.2.2.1
  have e : smW (spC n sw (cIx nd n x)) = tdx nd n x := by
    unfold smW
    rw [spC_sum (fun s hs => by have := (hS.1 s hs).1; omega), ← tdx_i]; omega
  rw [e, NM_NW hI _ _ _ (spC_T hS)]
  unfold Wx
  exact NW_congr _ _ _ _ (fun t ht => spC_at hS ht)
def hiX (nd : Nat → Nat) (n s : Nat) : Nat := 2 ^ (shN nd n - shN nd s)
theorem dg_top {nd : Nat → Nat} {x k s t : Nat} (hx : x < 2 ^ shN nd s) (hk : k < 2 ^ nd s) : dgN nd (x + k * 2 ^ shN nd s) s = k ∧ (t < s → dgN nd (x + k * 2 ^ shN nd s) t = dgN nd x t) := by
  constructor
  · unfold dgN
    rw [Nat.add_mul_div_right _ _ (Nat.two_pow_pos _), Nat.div_eq_of_lt hx, Nat.zero_add, Nat.mod_eq_of_lt hk]
  · intro ht
    have h1 : shN nd t + nd t ≤ shN nd s := shN_mono (s := t + 1) (n := s) (by omega)
    obtain ⟨r, hr⟩ : ∃ r, shN nd s = shN nd t + (nd t + r) := ⟨shN nd s - (shN nd t + nd t), by omega⟩
    unfold dgN
    rw [hr, Nat.pow_add, Nat.pow_add, show k * (2 ^ shN nd t * (2 ^ nd t * 2 ^ r)) = (k * 2 ^ r * 2 ^ nd t) * 2 ^ shN nd t by
      rw [Nat.mul_comm (2 ^ shN nd t), ← Nat.mul_assoc, Nat.mul_comm (2 ^ nd t), ← Nat.mul_assoc], Nat.add_mul_div_right _ _ (Nat.two_pow_pos _), Nat.add_mul_mod_self_right]
theorem dg_above {nd : Nat → Nat} {x s t : Nat} (hx : x < 2 ^ shN nd s) (ht : s ≤ t) : dgN nd x t = 0 := by
  have := Nat.pow_le_pow_right (n := 2) (by omega) (shN_mono (nd := nd) ht)
  unfold dgN
  rw [Nat.div_eq_of_lt (by omega), Nat.zero_mod]
theorem low_lt {nd : Nat → Nat} {x k s : Nat} (hx : x < 2 ^ shN nd s) (hk : k < 2 ^ nd s) : x + k * 2 ^ shN nd s < 2 ^ shN nd (s + 1) := by
  show _ < 2 ^ (shN nd s + nd s)
  rw [Nat.pow_add]
  have h := Nat.mul_le_mul_right (2 ^ shN nd s) (show k + 1 ≤ 2 ^ nd s from hk)
  rw [Nat.add_mul, Nat.one_mul] at h
  rw [Nat.mul_comm (2 ^ shN nd s)]; omega
/-- sums over the codes that go on from a low part -/
def RSx (nd : Nat → Nat) (n : Nat) (f : Nat → Int) (s x : Nat) : Int := sumN (fun y => f (x + 2 ^ shN nd s * y)) (hiX nd n s)
theorem RSx_n {nd : Nat → Nat} {n x : Nat} {f : Nat → Int} : RSx nd n f n x = f x := by
  unfold RSx hiX
  rw [Nat.sub_self]
  show 0 + f (x + 2 ^ shN nd n * 0) = f x
  rw [Nat.mul_zero, Nat.add_zero]; omega
theorem RSx_s {nd : Nat → Nat} {n s x : Nat} {f : Nat → Int} (hs : s < n) : RSx nd n f s x = sumN (fun k => RSx nd n f (s + 1) (x + k * 2 ^ shN nd s)) (2 ^ nd s) := by
  have h1 : shN nd s + nd s ≤ shN nd n := shN_mono (s := s + 1) (n := n) (by omega)
  have e : hiX nd n s = 2 ^ nd s * hiX nd n (s + 1) := by
    unfold hiX
    rw [← Nat.pow_add]
    show 2 ^ (shN nd n - shN nd s) = 2 ^ (nd s + (shN nd n - (shN nd s + nd s)))
    rw [show nd s + (shN nd n - (shN nd s + nd s)) = shN nd n - shN nd s by omega]
  unfold RSx
  rw [e, sumN_block, sumN_swap]
  refine sumN_congr (fun k _ => sumN_congr (fun y _ => ?_))
  show f (x + 2 ^ shN nd s * (k + 2 ^ nd s * y)) = f (x + k * 2 ^ shN nd s + 2 ^ (shN nd s + nd s) * y)
  rw [Nat.mul_add, Nat.pow_add, Nat.mul_assoc, Nat.mul_comm k, Nat.add_assoc]
theorem RSx_z {nd st : Nat → Nat} {n s x k : Nat} {f : Nat → Int} (hs : s < n) (hx : x < 2 ^ shN nd s) (hk : st s < k ∧ k < 2 ^ nd s) (hf : ∀ y, ¬ Vdx n nd st y → f y = 0) : RSx nd n f (s + 1) (x + k * 2 ^ shN nd s) = 0 := sumN_z (fun y _ => hf _ (fun z => by
  have h1 := z s hs
  have h2 : dgN nd (x + k * 2 ^ shN nd s + 2 ^ shN nd (s + 1) * y) s = k := by
    have h3 := (dg_top (nd := nd) (t := 0) hx hk.2).1
    unfold dgN at h3 ⊢
    rw [show 2 ^ shN nd (s + 1) = 2 ^ nd s * 2 ^ shN nd s by show 2 ^ (shN nd s + nd s) = _; rw [Nat.pow_add, Nat.mul_comm], show 2 ^ nd s * 2 ^ shN nd s * y = (y * 2 ^ nd s) * 2 ^ shN nd s by rw [Nat.mul_comm (2 ^ nd s * 2 ^ shN nd s), ← Nat.mul_assoc], Nat.add_mul_div_right _ _ (Nat.two_pow_pos _), Nat.add_mul_mod_self_right]
    exact h3
  omega))
theorem cIx_top {nd : Nat → Nat} {n s x k : Nat} (hs : s < n) (hx : x < 2 ^ shN nd s) (hk : k < 2 ^ nd s) : (cIx nd n (x + k * 2 ^ shN nd s) s = (k : Int)) ∧ ∀ t, t < n → t ≠ s → cIx nd n (x + k * 2 ^ shN nd s) t = cIx nd n x t := by
  refine ⟨by rw [cIx_in hs, (dg_top (t := 0) hx hk).1], fun t ht hts => ?_⟩
  rw [cIx_in ht, cIx_in ht]
  by_cases c : t < s
  · rw [(dg_top hx hk).2 c]
  · rw [dg_above (s := s + 1) (low_lt hx hk) (by omega), dg_above hx (by omega)]
def rsI (st : Nat → Nat) (nd : Nat → Nat) (n x : Nat) : Nat → Int := fun t => (st t : Int) - cIx nd n x t
/-- rows of two, by codes -/
theorem PT_RS {K : Int → Int32} (hI : InvK K) {n : Nat} {sw nd st : Nat → Nat} (hS : SxI K n sw nd st) (hmono : ∀ s t, s < t → t < n → sw s < sw t) {p q : Int} {f : Nat → Int} (hf : ∀ y, ¬ Vdx n nd st y → f y = 0) (hf2 : ∀ x, x < 2 ^ shN nd n → Vdx n nd st x → f x = Wx n nd (fgS K sw) (tgS K sw) p x * Wx n nd (fgS K sw) (tgS K sw) q (encN nd st n - x)) :
    ∀ (r s x : Nat), r ≤ 32 → s ≤ n → (∀ t, t < n → (sw t + r < 32 ↔ t < s)) → x < 2 ^ shN nd s → Vdx n nd st x → PTz K p q r (spC n sw (cIx nd n x)) (spC n sw (rsI st nd n x)) = RSx nd n f s x
  | 0, s, x, _, hsn, hsl, hx, hv => by
    have hb2 := hI.1.2.2.1
    have hs : s = n := by
      by_cases c : s < n
      · have := (hsl s c).mp (by have := (hS.1 s c).1; omega); omega
      · omega
    subst hs
    rw [RSx_n, hf2 x hx hv, ← sp_NM hI hS (u := p)]
    have e : spC s sw (rsI st nd s x) = spC s sw (cIx nd s (encN nd st s - x)) := spC_ext hS (fun t ht => by
      have h1 := (dg_compl (fun t ht => (hS.1 t ht).2.2.1) hx hv).2 t ht
      have h2 := hv t ht
      unfold rsI
      rw [cIx_in ht, cIx_in ht, h1]; omega)
    show NMz K (smW (spC s sw (cIx nd s x))) p (spC s sw (cIx nd s x)) * NMz K (smW (spC s sw (rsI st nd s x))) q (spC s sw (rsI st nd s x)) = _
    rw [e, sp_NM hI hS (u := q)]
  | r + 1, s, x, hr, hsn, hsl, hx, hv => by
    show sumN (fun k => PTz K p q r (stW (spC n sw (cIx nd n x)) (31 - (r : Int)) (k : Int)) (stW (spC n sw (rsI st nd n x)) (31 - (r : Int)) (spC n sw (rsI st nd n x) (31 - (r : Int)) - (k : Int)))) (spC n sw (rsI st nd n x) (31 - (r : Int)) + 1).toNat = _
    by_cases c : ∃ t, t < n ∧ (sw t : Int) = 31 - (r : Int)
    · obtain ⟨t, ht, e⟩ := c
      have hts : t = s := by
        have h1 : ¬ t < s := fun z => by have := (hsl t ht).mpr z; omega
        by_cases z : s < t
        · have h2 := hmono s t z ht
          have h3 := (hsl s (by omega)).mp (by omega)
          omega
        · omega
      subst hts
      obtain ⟨f1, f2, f3, f4, f5⟩ := hS.1 t ht
      have hd0 : cIx nd n x t = 0 := by rw [cIx_in ht, dg_above hx (Nat.le_refl _)]; rfl
      have el : spC n sw (rsI st nd n x) (31 - (r : Int)) = (st t : Int) := by
        rw [← e, spC_at hS ht]; unfold rsI; rw [hd0]; omega
      rw [el, RSx_s ht, sumN_cut (a := st t + 1) (b := 2 ^ nd t) (by omega) (fun k hk1 hk2 => RSx_z ht hx ⟨by omega, hk2⟩ hf), show ((st t : Int) + 1).toNat = st t + 1 by omega]
      refine sumN_congr (fun k hk => ?_)
      have hk2 : k < 2 ^ nd t := by omega
      have hct := cIx_top (n := n) ht hx hk2
      have e1 : spC n sw (cIx nd n (x + k * 2 ^ shN nd t)) = stW (spC n sw (cIx nd n x)) (sw t : Int) (k : Int) := spC_set hS ht hct.1 hct.2
      have e2 : spC n sw (rsI st nd n (x + k * 2 ^ shN nd t)) = stW (spC n sw (rsI st nd n x)) (sw t : Int) ((st t : Int) - (k : Int)) := spC_set hS ht (by unfold rsI; rw [hct.1]) (fun j hj hjt => by unfold rsI; rw [hct.2 j hj hjt])
      rw [← e, ← e1, ← e2]
      refine PT_RS hI hS hmono hf hf2 r (t + 1) (x + k * 2 ^ shN nd t) (by omega) (by omega) (fun j hj => ?_) (low_lt hx hk2) (fun j hj => ?_)
      · constructor
        · intro h
          by_cases z : j ≤ t
          · omega
          · have := hmono t j (by omega) hj; omega
        · intro h
          by_cases z : j = t
          · rw [z]; omega
          · have := hmono j t (by omega) ht; omega
      · by_cases z : j = t
        · rw [z, (dg_top (t := 0) hx hk2).1]; omega
        · have h1 := hct.2 j hj z
          rw [cIx_in hj, cIx_in hj] at h1
          have := hv j hj
          omega
    · have c' : ∀ t, t < n → (sw t : Int) ≠ 31 - (r : Int) := fun t ht z => c ⟨t, ht, z⟩
      have e0 : spC n sw (rsI st nd n x) (31 - (r : Int)) = 0 := spC_no c'
      have e1 : spC n sw (cIx nd n x) (31 - (r : Int)) = 0 := spC_no c'
      have s1 : stW (spC n sw (cIx nd n x)) (31 - (r : Int)) 0 = spC n sw (cIx nd n x) := by
        funext v; unfold stW
        split
        · rename_i z; rw [z, e1]
        · rfl
      have s2 : stW (spC n sw (rsI st nd n x)) (31 - (r : Int)) (0 - 0) = spC n sw (rsI st nd n x) := by
        funext v; unfold stW
        split
        · rename_i z; rw [z, e0]; rfl
        · rfl
      rw [e0]
      show 0 + PTz K p q r (stW (spC n sw (cIx nd n x)) (31 - (r : Int)) 0) (stW (spC n sw (rsI st nd n x)) (31 - (r : Int)) (0 - 0)) = _
      rw [s1, s2, PT_RS hI hS hmono hf hf2 r s x (by omega) hsn (fun j hj => by
        have h1 := hsl j hj
        have h2 := c' j hj
        constructor
        · intro h
          exact h1.mp (by omega)
        · intro h
          have := h1.mpr h
          omega) hx hv]
      omega
end S94zzzzh
