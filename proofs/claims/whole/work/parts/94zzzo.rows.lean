/-! how many rows, by places -/
section S94zzzo
set_option linter.unusedVariables false
set_option linter.unusedSimpArgs false
/-! how many rows there are, by places: how often each way is left -/
def dcW (lf : Int → Int) (w : Int) : Int → Int := fun v => if v = w then lf v - 1 else lf v
theorem dcW_at {lf : Int → Int} {w : Int} : dcW lf w w = lf w - 1 := if_pos rfl
theorem dcW_ne {lf : Int → Int} {w v : Int} (h : v ≠ w) : dcW lf w v = lf v := if_neg h
theorem dcW_le {lf : Int → Int} {w v : Int} : dcW lf w v ≤ lf v := by unfold dcW; split <;> omega
abbrev mayQ (K : Int → Int32) (u : Int) (lf : Int → Int) (q : Nat) : Prop := wyB K u q = true ∧ 0 < lf (wayZ K u q)
def NMz (K : Int → Int32) : Nat → Int → (Int → Int) → Int
  | 0, _, _ => 1
  | k + 1, u, lf => sumN (fun q => if mayQ K u lf q then NMz K k (q : Int) (dcW lf (wayZ K u q)) else 0) (tI (K 1)).toNat
def ctM (K : Int → Int32) (k : Nat) (u : Int) (lf : Int → Int) (q : Nat) : Int := if mayQ K u lf q then NMz K k (q : Int) (dcW lf (wayZ K u q)) else 0
theorem NMz_s {K : Int → Int32} {k : Nat} {u : Int} {lf : Int → Int} : NMz K (k + 1) u lf = sumN (ctM K k u lf) (tI (K 1)).toNat := rfl
/-- by the way taken last -/
def NLM (K : Int → Int32) : Nat → Int → (Int → Int) → Int → Int → Int
  | 0, _, _, l, w => if l = w then 1 else 0
  | k + 1, u, lf, _, w => sumN (fun q => if mayQ K u lf q then NLM K k (q : Int) (dcW lf (wayZ K u q)) (wayZ K u q) w else 0) (tI (K 1)).toNat
/-- by the way taken first: dp steps are made, f0 is the first of them -/
def HFz (K : Int → Int32) : Nat → Nat → Int → (Int → Int) → Int → Int → Int
  | 0, dp, _, _, f0, w => if w = (if dp = 0 then -1 else f0) then 1 else 0
  | k + 1, dp, u, lf, f0, w => sumN (fun q => if mayQ K u lf q then HFz K k (dp + 1) (q : Int) (dcW lf (wayZ K u q)) (if dp = 0 then wayZ K u q else f0) w else 0) (tI (K 1)).toNat
/-- the place behind i steps of the x-th row -/
def RMz (K : Int → Int32) : Nat → Int → (Int → Int) → Int → Nat → Int
  | 0, u, _, _, _ => u
  | _ + 1, u, _, _, 0 => u
  | k + 1, u, lf, x, i + 1 => RMz K k (fndN (fun q => decide (x < sumN (ctM K k u lf) (q + 1))) (tI (K 1)).toNat 0) (dcW lf (wayZ K u (fndN (fun q => decide (x < sumN (ctM K k u lf) (q + 1))) (tI (K 1)).toNat 0))) (x - sumN (ctM K k u lf) (fndN (fun q => decide (x < sumN (ctM K k u lf) (q + 1))) (tI (K 1)).toNat 0).toNat) i
theorem NMz_nn {K : Int → Int32} : ∀ (k : Nat) (u : Int) (lf : Int → Int), 0 ≤ NMz K k u lf
  | 0, _, _ => by show (0 : Int) ≤ 1; omega
  | k + 1, u, lf => sumN_nneg (fun q _ => by
      show 0 ≤ (if mayQ K u lf q then NMz K k (q : Int) (dcW lf (wayZ K u q)) else 0)
      split
      · exact NMz_nn k _ _
      · exact Int.le_refl _)
theorem ctM_nn {K : Int → Int32} {k : Nat} {u : Int} {lf : Int → Int} {q : Nat} : 0 ≤ ctM K k u lf q := by
  unfold ctM; split
  · exact NMz_nn _ _ _
  · exact Int.le_refl _
theorem NMz_bd {K : Int → Int32} (h10 : tI (K 1) ≤ 10) : ∀ (k : Nat) (u : Int) (lf : Int → Int), NMz K k u lf ≤ pwT 10 k
  | 0, _, _ => Int.le_refl _
  | k + 1, u, lf => by
    have hp := pwT_pos (b := 10) (by omega) k
    have h := sumN_bd (f := ctM K k u lf) (n := (tI (K 1)).toNat) (b := pwT 10 k) (fun q _ => by
      unfold ctM; split
      · exact NMz_bd h10 k _ _
      · omega)
    have hn : (((tI (K 1)).toNat : Nat) : Int) ≤ 10 := by omega
    have h2 := Int.mul_le_mul_of_nonneg_right hn (show 0 ≤ pwT 10 k by omega)
    show sumN (ctM K k u lf) (tI (K 1)).toNat ≤ 10 * pwT 10 k
    omega
theorem ctM_bd {K : Int → Int32} (h10 : tI (K 1) ≤ 10) {k : Nat} {u : Int} {lf : Int → Int} {q : Nat} : ctM K k u lf q ≤ pwT 10 k := by
  have hp := pwT_pos (b := 10) (by omega) k
  unfold ctM; split
  · exact NMz_bd h10 k _ _
  · omega
theorem NLM_z {K : Int → Int32} : ∀ (k : Nat) (u : Int) (lf : Int → Int) (l w : Int), l ≠ w → lf w ≤ 0 → NLM K k u lf l w = 0
  | 0, _, _, l, w, h, _ => if_neg h
  | k + 1, u, lf, l, w, _, h => sumN_z (fun q _ => by
      show (if mayQ K u lf q then NLM K k (q : Int) (dcW lf (wayZ K u q)) (wayZ K u q) w else 0) = 0
      by_cases c : mayQ K u lf q
      · rw [if_pos c]
        have hw : wayZ K u q ≠ w := fun z => by have := c.2; rw [z] at this; omega
        exact NLM_z k _ _ _ w hw (Int.le_trans dcW_le h)
      · exact if_neg c)
theorem HFz_s {K : Int → Int32} : ∀ (k dp : Nat) (u : Int) (lf : Int → Int) (f0 w : Int), HFz K k (dp + 1) u lf f0 w = if w = f0 then NMz K k u lf else 0
  | 0, dp, u, lf, f0, w => by
    show (if w = (if dp + 1 = 0 then -1 else f0) then (1 : Int) else 0) = _
    rw [if_neg (show ¬ dp + 1 = 0 by omega)]; rfl
  | k + 1, dp, u, lf, f0, w => by
    show sumN (fun q => if mayQ K u lf q then HFz K k (dp + 1 + 1) (q : Int) (dcW lf (wayZ K u q)) (if dp + 1 = 0 then wayZ K u q else f0) w else 0) _ = _
    by_cases c : w = f0
    · rw [if_pos c]
      refine sumN_congr (fun q _ => ?_)
      by_cases c2 : mayQ K u lf q
      · rw [if_pos c2, if_pos c2, HFz_s, if_neg (show ¬ dp + 1 = 0 by omega), if_pos c]
      · rw [if_neg c2, if_neg c2]
    · rw [if_neg c]
      refine sumN_z (fun q _ => ?_)
      by_cases c2 : mayQ K u lf q
      · rw [if_pos c2, HFz_s, if_neg (show ¬ dp + 1 = 0 by omega), if_neg c]
      · rw [if_neg c2]
theorem HFz_top {K : Int → Int32} (hI : InvK K) {k : Nat} {u : Int} {lf : Int → Int} {f0 w : Int} : HFz K (k + 1) 0 u lf f0 w = if (0 ≤ w ∧ w < 2 * tI (K 2)) ∧ fromZ K w = u ∧ 0 < lf w then NMz K k (toZ K w) (dcW lf w) else 0 := by
  show sumN (fun q => if mayQ K u lf q then HFz K k (0 + 1) (q : Int) (dcW lf (wayZ K u q)) (if 0 = 0 then wayZ K u q else f0) w else 0) _ = _
  have e : ∀ q : Nat, (if mayQ K u lf q then HFz K k (0 + 1) (q : Int) (dcW lf (wayZ K u q)) (if 0 = 0 then wayZ K u q else f0) w else 0) = if mayQ K u lf q ∧ w = wayZ K u q then NMz K k (q : Int) (dcW lf w) else 0 := fun q => by
    by_cases c : mayQ K u lf q
    · rw [if_pos c, HFz_s, if_pos rfl]
      by_cases c2 : w = wayZ K u q
      · rw [if_pos c2, if_pos ⟨c, c2⟩, c2]
      · rw [if_neg c2, if_neg (fun h => c2 h.2)]
    · rw [if_neg c, if_neg (fun h => c h.1)]
  rw [sumN_congr (fun q _ => e q)]
  by_cases c : (0 ≤ w ∧ w < 2 * tI (K 2)) ∧ fromZ K w = u ∧ 0 < lf w
  · have ht := to_in hI c.1
    have hw := wayZ_of hI c.1
    rw [c.2.1] at hw
    have hq : (((toZ K w).toNat : Nat) : Int) = toZ K w := by omega
    have hm : mayQ K u lf (toZ K w).toNat := ⟨by rw [wyB_t, hq, hw]; omega, by rw [hq, hw]; exact c.2.2⟩
    rw [sumN_single (k := (toZ K w).toNat) (by omega) (fun j _ hj => if_neg (fun h => hj (by
      have h1 := (wayZ_ends hI (wyB_t.mp h.1.1)).2.2
      rw [← h.2] at h1; omega))), if_pos c]
    show (if mayQ K u lf (toZ K w).toNat ∧ w = wayZ K u ((toZ K w).toNat : Nat) then NMz K k ((toZ K w).toNat : Nat) (dcW lf w) else 0) = _
    rw [if_pos ⟨hm, by rw [hq, hw]⟩, hq]
  · rw [if_neg c]
    refine sumN_z (fun q _ => if_neg (fun h => c ?_))
    have h1 := wayZ_ends hI (wyB_t.mp h.1.1)
    rw [← h.2] at h1
    exact ⟨h1.1, h1.2.1, by have := h.1.2; rw [← h.2] at this; exact this⟩
/-- sums over places are sums over slots -/
theorem sum_conv {K : Int → Int32} (hI : InvK K) {n : Nat} {sw : Nat → Int} (hi : ∀ s t, s < n → t < n → sw s = sw t → s = t) (hv : ∀ s, s < n → 0 ≤ sw s ∧ sw s < 2 * tI (K 2)) {g : Int → Int} (hg : ∀ v, (∀ s, s < n → sw s ≠ v) → g v = 0) {u : Int} :
    sumN (fun q : Nat => if wyB K u q = true then g (wayZ K u q) else 0) (tI (K 1)).toNat = sumN (fun s => if fromZ K (sw s) = u then g (sw s) else 0) n := by
  have e1 : ∀ q : Nat, (if wyB K u q = true then g (wayZ K u q) else 0) = sumN (fun s => if wyB K u q = true ∧ wayZ K u q = sw s then g (sw s) else 0) n := fun q => by
    by_cases c : wyB K u q = true
    · rw [if_pos c]
      by_cases h : ∃ s, s < n ∧ sw s = wayZ K u q
      · obtain ⟨s, h1, h2⟩ := h
        rw [sumN_single h1 (fun j hj hjs => if_neg (fun z => hjs (hi j s hj h1 (z.2.symm.trans h2.symm))))]
        show _ = if wyB K u q = true ∧ wayZ K u q = sw s then g (sw s) else 0
        rw [if_pos ⟨c, h2.symm⟩, h2]
      · rw [hg _ (fun s hs z => h ⟨s, hs, z⟩), sumN_z (fun s hs => if_neg (fun z => h ⟨s, hs, z.2.symm⟩))]
    · rw [if_neg c, sumN_z (fun s _ => if_neg (fun z => c z.1))]
  rw [sumN_congr (fun q _ => e1 q), sumN_swap]
  refine sumN_congr (fun s hs => ?_)
  have hv := hv s hs
  have ht := to_in hI hv
  have hw := wayZ_of hI hv
  have hq : (((toZ K (sw s)).toNat : Nat) : Int) = toZ K (sw s) := by omega
  by_cases c : fromZ K (sw s) = u
  · rw [c] at hw
    rw [if_pos c, sumN_single (k := (toZ K (sw s)).toNat) (by omega) (fun j _ hj => if_neg (fun h => hj (by
      have h1 := (wayZ_ends hI (wyB_t.mp h.1)).2.2
      rw [h.2] at h1; omega)))]
    show (if wyB K u (toZ K (sw s)).toNat = true ∧ wayZ K u ((toZ K (sw s)).toNat : Nat) = sw s then g (sw s) else 0) = _
    rw [if_pos ⟨by rw [wyB_t, hq, hw]; omega, by rw [hq, hw]⟩]
  · rw [if_neg c]
    refine sumN_z (fun q _ => if_neg (fun h => c ?_))
    have h1 := wayZ_ends hI (wyB_t.mp h.1)
    rw [h.2] at h1
    exact h1.2.1
theorem NW_congr {n : Nat} {fr to : Nat → Int} : ∀ (k : Nat) (u : Int) (c c' : Nat → Int), (∀ t, t < n → c t = c' t) → NW n fr to k u c = NW n fr to k u c'
  | 0, _, _, _, _ => rfl
  | k + 1, u, c, c', h => sumN_congr (fun s hs => by
      show (if fr s = u ∧ 0 < c s then NW n fr to k (to s) (dcI c s) else 0) = (if fr s = u ∧ 0 < c' s then NW n fr to k (to s) (dcI c' s) else 0)
      rw [h s hs, NW_congr k (to s) (dcI c s) (dcI c' s) (fun t ht => by unfold dcI; rw [h t ht])])
theorem NL_congr {n : Nat} {fr to : Nat → Int} : ∀ (k : Nat) (u : Int) (c c' : Nat → Int) (l w : Nat), (∀ t, t < n → c t = c' t) → NL n fr to k u c l w = NL n fr to k u c' l w
  | 0, _, _, _, _, _, _ => rfl
  | k + 1, u, c, c', l, w, h => sumN_congr (fun s hs => by
      show (if fr s = u ∧ 0 < c s then NL n fr to k (to s) (dcI c s) s w else 0) = (if fr s = u ∧ 0 < c' s then NL n fr to k (to s) (dcI c' s) s w else 0)
      rw [h s hs, NL_congr k (to s) (dcI c s) (dcI c' s) s w (fun t ht => by unfold dcI; rw [h t ht])])
/-- slots: unlike ways, among them all that are left -/
def SlT (K : Int → Int32) (n : Nat) (sw : Nat → Int) (lf : Int → Int) : Prop := (∀ s t, s < n → t < n → sw s = sw t → s = t) ∧ (∀ s, s < n → 0 ≤ sw s ∧ sw s < 2 * tI (K 2)) ∧ ∀ v, 0 < lf v → ∃ s, s < n ∧ sw s = v
theorem SlT_dc {K : Int → Int32} {n : Nat} {sw : Nat → Int} {lf : Int → Int} {w : Int} (h : SlT K n sw lf) : SlT K n sw (dcW lf w) := ⟨h.1, h.2.1, fun v hv => h.2.2 v (Int.lt_of_lt_of_le hv dcW_le)⟩
theorem dcW_sw {K : Int → Int32} {n : Nat} {sw : Nat → Int} {lf : Int → Int} (h : SlT K n sw lf) {s t : Nat} (hs : s < n) (ht : t < n) : dcW lf (sw s) (sw t) = dcI (fun t => lf (sw t)) s t := by
  by_cases e : t = s
  · rw [e, dcW_at, dcI_at]
  · rw [dcW_ne (fun z => e (h.1 t s ht hs z)), dcI_ne e]
theorem NM_NW {K : Int → Int32} (hI : InvK K) {n : Nat} {sw : Nat → Int} : ∀ (k : Nat) (u : Int) (lf : Int → Int), SlT K n sw lf → NMz K k u lf = NW n (fun s => fromZ K (sw s)) (fun s => toZ K (sw s)) k u (fun s => lf (sw s))
  | 0, _, _, _ => rfl
  | k + 1, u, lf, h => by
    have e : ∀ q : Nat, ctM K k u lf q = if wyB K u q = true then (fun v => if 0 < lf v then NMz K k (toZ K v) (dcW lf v) else 0) (wayZ K u q) else 0 := fun q => by
      unfold ctM
      by_cases c : wyB K u q = true
      · rw [if_pos c]
        show _ = if 0 < lf (wayZ K u q) then NMz K k (toZ K (wayZ K u q)) (dcW lf (wayZ K u q)) else 0
        rw [(wayZ_ends hI (wyB_t.mp c)).2.2]
        by_cases c2 : 0 < lf (wayZ K u q)
        · rw [if_pos (show mayQ K u lf q from ⟨c, c2⟩), if_pos c2]
        · rw [if_neg (fun z : mayQ K u lf q => c2 z.2), if_neg c2]
      · rw [if_neg c, if_neg (fun z : mayQ K u lf q => c z.1)]
    rw [NMz_s, sumN_congr (fun q _ => e q), sum_conv hI h.1 h.2.1 (g := fun v => if 0 < lf v then NMz K k (toZ K v) (dcW lf v) else 0) (fun v hv => if_neg (fun z => by
      obtain ⟨s, h1, h2⟩ := h.2.2 v z
      exact hv s h1 h2))]
    refine sumN_congr (fun s hs => ?_)
    show (if fromZ K (sw s) = u then (if 0 < lf (sw s) then NMz K k (toZ K (sw s)) (dcW lf (sw s)) else 0) else 0) = if fromZ K (sw s) = u ∧ 0 < lf (sw s) then NW n (fun s => fromZ K (sw s)) (fun s => toZ K (sw s)) k (toZ K (sw s)) (dcI (fun t => lf (sw t)) s) else 0
    by_cases c : fromZ K (sw s) = u
    · by_cases c2 : 0 < lf (sw s)
      · rw [if_pos c, if_pos c2, if_pos ⟨c, c2⟩, NM_NW hI k _ _ (SlT_dc h)]
        exact NW_congr k _ _ _ (fun t ht => dcW_sw h hs ht)
      · rw [if_pos c, if_neg c2, if_neg (fun z => c2 z.2)]
    · rw [if_neg c, if_neg (fun z => c z.1)]
theorem NLM_NL {K : Int → Int32} (hI : InvK K) {n : Nat} {sw : Nat → Int} : ∀ (k : Nat) (u : Int) (lf : Int → Int) (l w : Nat), SlT K n sw lf → l < n → w < n → NLM K k u lf (sw l) (sw w) = NL n (fun s => fromZ K (sw s)) (fun s => toZ K (sw s)) k u (fun s => lf (sw s)) l w
  | 0, _, _, l, w, h, hl, hw => by
    show (if sw l = sw w then (1 : Int) else 0) = if l = w then 1 else 0
    by_cases e : l = w
    · rw [e, if_pos rfl, if_pos rfl]
    · rw [if_neg e, if_neg (fun z => e (h.1 l w hl hw z))]
  | k + 1, u, lf, l, w, h, hl, hw => by
    have e : ∀ q : Nat, (if mayQ K u lf q then NLM K k (q : Int) (dcW lf (wayZ K u q)) (wayZ K u q) (sw w) else 0) = if wyB K u q = true then (fun v => if 0 < lf v then NLM K k (toZ K v) (dcW lf v) v (sw w) else 0) (wayZ K u q) else 0 := fun q => by
      by_cases c : wyB K u q = true
      · rw [if_pos c]
        show _ = if 0 < lf (wayZ K u q) then NLM K k (toZ K (wayZ K u q)) (dcW lf (wayZ K u q)) (wayZ K u q) (sw w) else 0
        rw [(wayZ_ends hI (wyB_t.mp c)).2.2]
        by_cases c2 : 0 < lf (wayZ K u q)
        · rw [if_pos (show mayQ K u lf q from ⟨c, c2⟩), if_pos c2]
        · rw [if_neg (fun z : mayQ K u lf q => c2 z.2), if_neg c2]
      · rw [if_neg c, if_neg (fun z : mayQ K u lf q => c z.1)]
    show sumN (fun q => if mayQ K u lf q then NLM K k (q : Int) (dcW lf (wayZ K u q)) (wayZ K u q) (sw w) else 0) _ = _
    rw [sumN_congr (fun q _ => e q), sum_conv hI h.1 h.2.1 (g := fun v => if 0 < lf v then NLM K k (toZ K v) (dcW lf v) v (sw w) else 0) (fun v hv => if_neg (fun z => by
      obtain ⟨s, h1, h2⟩ := h.2.2 v z
      exact hv s h1 h2))]
    refine sumN_congr (fun s hs => ?_)
    show (if fromZ K (sw s) = u then (if 0 < lf (sw s) then NLM K k (toZ K (sw s)) (dcW lf (sw s)) (sw s) (sw w) else 0) else 0) = if fromZ K (sw s) = u ∧ 0 < lf (sw s) then NL n (fun s => fromZ K (sw s)) (fun s => toZ K (sw s)) k (toZ K (sw s)) (dcI (fun t => lf (sw t)) s) s w else 0
    by_cases c : fromZ K (sw s) = u
    · by_cases c2 : 0 < lf (sw s)
      · rw [if_pos c, if_pos c2, if_pos ⟨c, c2⟩, NLM_NL hI k _ _ s w (SlT_dc h) hs hw]
        exact NL_congr k _ _ _ s w (fun t ht => dcW_sw h hs ht)
      · rw [if_pos c, if_neg c2, if_neg (fun z => c2 z.2)]
    · rw [if_neg c, if_neg (fun z => c z.1)]
end S94zzzo
