/-! how many rows -/
section S94zzzn
set_option linter.unusedVariables false
set_option linter.unusedSimpArgs false
/-! how many rows there are, by slots: from, to, how often each is left -/
def dcI (c : Nat → Int) (s : Nat) : Nat → Int := fun t => if t = s then c t - 1 else c t
theorem dcI_at {c : Nat → Int} {s : Nat} : dcI c s s = c s - 1 := if_pos rfl
theorem dcI_ne {c : Nat → Int} {s t : Nat} (h : t ≠ s) : dcI c s t = c t := if_neg h
theorem dcI_comm {c : Nat → Int} {s w : Nat} : dcI (dcI c s) w = dcI (dcI c w) s := by
  funext t
  unfold dcI
  by_cases h1 : t = w
  · by_cases h2 : t = s
    · rw [if_pos h1, if_pos h2, if_pos h2, if_pos h1]
    · rw [if_pos h1, if_neg h2, if_neg h2, if_pos h1]
  · by_cases h2 : t = s
    · rw [if_neg h1, if_pos h2, if_pos h2, if_neg h1]
    · rw [if_neg h1, if_neg h2, if_neg h2, if_neg h1]
def NW (n : Nat) (fr to : Nat → Int) : Nat → Int → (Nat → Int) → Int
  | 0, _, _ => 1
  | k + 1, u, c => sumN (fun s => if fr s = u ∧ 0 < c s then NW n fr to k (to s) (dcI c s) else 0) n
def NL (n : Nat) (fr to : Nat → Int) : Nat → Int → (Nat → Int) → Nat → Nat → Int
  | 0, _, _, l, w => if l = w then 1 else 0
  | k + 1, u, c, _, w => sumN (fun s => if fr s = u ∧ 0 < c s then NL n fr to k (to s) (dcI c s) s w else 0) n
theorem sumN_z {f : Nat → Int} {n : Nat} (h : ∀ j, j < n → f j = 0) : sumN f n = 0 := by
  induction n with
  | zero => rfl
  | succ n ih => show sumN f n + f n = 0; rw [ih (fun j hj => h j (by omega)), h n (by omega)]; rfl
theorem sumN_single {f : Nat → Int} {n k : Nat} (hk : k < n) (h : ∀ j, j < n → j ≠ k → f j = 0) : sumN f n = f k := by
  induction n with
  | zero => omega
  | succ n ih =>
    show sumN f n + f n = f k
    by_cases e : k = n
    · subst e; rw [sumN_z (fun j hj => h j (by omega) (by omega))]; omega
    · rw [ih (by omega) (fun j hj => h j (by omega)), h n (by omega) (Ne.symm e)]; omega
theorem sumN_add {f g : Nat → Int} {n : Nat} : sumN (fun j => f j + g j) n = sumN f n + sumN g n := by
  induction n with
  | zero => rfl
  | succ n ih => show sumN (fun j => f j + g j) n + (f n + g n) = sumN f n + f n + (sumN g n + g n); rw [ih]; omega
theorem sumN_mul {f : Nat → Int} {n : Nat} {c : Int} : sumN (fun j => c * f j) n = c * sumN f n := by
  induction n with
  | zero => show 0 = c * 0; rw [Int.mul_zero]
  | succ n ih => show sumN (fun j => c * f j) n + c * f n = c * (sumN f n + f n); rw [ih, Int.mul_add]
theorem sumN_swap {f : Nat → Nat → Int} {n m : Nat} : sumN (fun i => sumN (fun j => f i j) m) n = sumN (fun j => sumN (fun i => f i j) n) m := by
  induction n with
  | zero => show 0 = sumN (fun j => 0) m; rw [sumN_z (fun _ _ => rfl)]
  | succ n ih => show sumN (fun i => sumN (fun j => f i j) m) n + sumN (fun j => f n j) m = sumN (fun j => sumN (fun i => f i j) n + f n j) m; rw [ih, sumN_add]
theorem sumN_nneg {f : Nat → Int} {n : Nat} (h : ∀ j, j < n → 0 ≤ f j) : 0 ≤ sumN f n := by
  induction n with
  | zero => exact Int.le_refl _
  | succ n ih => show 0 ≤ sumN f n + f n; have := ih (fun j hj => h j (by omega)); have := h n (by omega); omega
theorem sumN_bd {f : Nat → Int} {n : Nat} {b : Int} (h : ∀ j, j < n → f j ≤ b) : sumN f n ≤ n * b := by
  induction n with
  | zero => show (0 : Int) ≤ (0 : Nat) * b; rw [show ((0 : Nat) : Int) = 0 from rfl, Int.zero_mul]; exact Int.le_refl _
  | succ n ih =>
    show sumN f n + f n ≤ ((n + 1 : Nat) : Int) * b
    have h1 := ih (fun j hj => h j (by omega))
    have h2 := h n (by omega)
    rw [show ((n + 1 : Nat) : Int) = (n : Int) + 1 from rfl, Int.add_mul, Int.one_mul]; omega
theorem sumN_le1 {f : Nat → Int} {n k : Nat} (hk : k < n) (h : ∀ j, j < n → 0 ≤ f j) : f k ≤ sumN f n := by
  induction n with
  | zero => omega
  | succ n ih =>
    show f k ≤ sumN f n + f n
    have h1 := sumN_nneg (f := f) (n := n) (fun j hj => h j (by omega))
    have h2 := h n (by omega)
    by_cases e : k = n
    · subst e; omega
    · have := ih (by omega) (fun j hj => h j (by omega)); omega
def whI (n : Nat) (fr to : Nat → Int) (u : Int) (c : Nat → Int) : Int := u + sumN (fun s => c s * (to s - fr s)) n
theorem whI_dc {n : Nat} {fr to : Nat → Int} {u : Int} {c : Nat → Int} {s : Nat} (hs : s < n) : whI n fr to u c = whI n fr to u (dcI c s) + (to s - fr s) := by
  unfold whI
  have e : sumN (fun t => c t * (to t - fr t)) n = sumN (fun t => dcI c s t * (to t - fr t) + (if t = s then to s - fr s else 0)) n := sumN_congr (fun t ht => by
    by_cases z : t = s
    · subst z
      rw [dcI_at, if_pos rfl, Int.sub_mul, Int.one_mul]; omega
    · rw [dcI_ne z, if_neg z]; omega)
  rw [e, sumN_add, sumN_single (f := fun t => if t = s then to s - fr s else 0) hs (fun j _ h => if_neg h)]
  show u + (_ + (if s = s then to s - fr s else 0)) = _
  rw [if_pos rfl]; omega
theorem whI_u {n : Nat} {fr to : Nat → Int} {u v : Int} {c : Nat → Int} : whI n fr to u c = whI n fr to v c + (u - v) := by unfold whI; omega
theorem NW_nn {n : Nat} {fr to : Nat → Int} : ∀ (k : Nat) (u : Int) (c : Nat → Int), 0 ≤ NW n fr to k u c
  | 0, _, _ => by show (0 : Int) ≤ 1; omega
  | k + 1, u, c => sumN_nneg (fun s _ => by
      show 0 ≤ (if fr s = u ∧ 0 < c s then NW n fr to k (to s) (dcI c s) else 0)
      split
      · exact NW_nn k _ _
      · exact Int.le_refl _)
theorem NL_nn {n : Nat} {fr to : Nat → Int} : ∀ (k : Nat) (u : Int) (c : Nat → Int) (l w : Nat), 0 ≤ NL n fr to k u c l w
  | 0, _, _, l, w => by show (0 : Int) ≤ (if l = w then 1 else 0); split <;> omega
  | k + 1, u, c, l, w => sumN_nneg (fun s _ => by
      show 0 ≤ (if fr s = u ∧ 0 < c s then NL n fr to k (to s) (dcI c s) s w else 0)
      split
      · exact NL_nn k _ _ _ _
      · exact Int.le_refl _)
def pwT (b : Int) : Nat → Int
  | 0 => 1
  | k + 1 => b * pwT b k
theorem pwT_pos {b : Int} (hb : 1 ≤ b) : ∀ k, 1 ≤ pwT b k
  | 0 => Int.le_refl _
  | k + 1 => by
    have h := pwT_pos hb k
    show 1 ≤ b * pwT b k
    have := Int.mul_le_mul hb h (by omega) (by omega)
    rw [Int.one_mul] at this
    exact this
theorem NW_bd {n : Nat} {fr to : Nat → Int} {b : Int} (hn : (n : Int) ≤ b) (hb : 1 ≤ b) : ∀ (k : Nat) (u : Int) (c : Nat → Int), NW n fr to k u c ≤ pwT b k
  | 0, _, _ => Int.le_refl _
  | k + 1, u, c => by
    have hp := pwT_pos hb k
    have h := sumN_bd (f := fun s => if fr s = u ∧ 0 < c s then NW n fr to k (to s) (dcI c s) else 0) (n := n) (b := pwT b k) (fun s _ => by
      show (if fr s = u ∧ 0 < c s then NW n fr to k (to s) (dcI c s) else 0) ≤ _
      split
      · exact NW_bd hn hb k _ _
      · omega)
    have h2 := Int.mul_le_mul_of_nonneg_right hn (show 0 ≤ pwT b k by omega)
    show sumN (fun s => if fr s = u ∧ 0 < c s then NW n fr to k (to s) (dcI c s) else 0) n ≤ b * pwT b k
    omega
/-- rows by the slot that they take last -/
theorem NL_last {n : Nat} {fr to : Nat → Int} : ∀ (k : Nat) (u : Int) (c : Nat → Int) (l w : Nat), w < n → (∀ t, 0 ≤ c t) → (∀ t, n ≤ t → c t = 0) → sumN c n = (k + 1 : Nat) →
    NL n fr to (k + 1) u c l w = if 0 < c w ∧ whI n fr to u (dcI c w) = fr w then NW n fr to k u (dcI c w) else 0
  | 0, u, c, l, w, hw, h0, h1, hk => by
    show sumN (fun s => if fr s = u ∧ 0 < c s then (if s = w then 1 else 0) else 0) n = _
    rw [sumN_single hw (fun j hj hjw => by
      show (if fr j = u ∧ 0 < c j then (if j = w then (1 : Int) else 0) else 0) = 0
      rw [if_neg hjw]; split <;> rfl)]
    show (if fr w = u ∧ 0 < c w then (if w = w then (1 : Int) else 0) else 0) = (if _ then 1 else 0)
    rw [if_pos rfl]
    by_cases c1 : 0 < c w
    · have hz : ∀ t, t < n → dcI c w t = 0 := fun t ht => by
        have h2 := sumN_le1 (f := c) hw (fun j _ => h0 j)
        by_cases z : t = w
        · rw [z, dcI_at]; omega
        · rw [dcI_ne z]
          have h3 := sumN_congr (f := c) (g := fun j => (if j = w then c w else 0) + (if j = w then 0 else c j)) (n := n) (fun j _ => by
            by_cases e : j = w
            · subst e; show c j = (if j = j then c j else 0) + (if j = j then 0 else c j); rw [if_pos rfl, if_pos rfl]; omega
            · show c j = (if j = w then c w else 0) + (if j = w then 0 else c j); rw [if_neg e, if_neg e]; omega)
          rw [sumN_add, sumN_single (f := fun j => if j = w then c w else 0) hw (fun j _ h => if_neg h)] at h3
          have h4 := sumN_le1 (f := fun j => if j = w then 0 else c j) ht (fun j _ => by show 0 ≤ (if j = w then 0 else c j); have := h0 j; split <;> omega)
          have h5 : (if w = w then c w else 0) = c w := if_pos rfl
          have h6 : (if t = w then 0 else c t) = c t := if_neg z
          have h4 : (if t = w then 0 else c t) ≤ sumN (fun j => if j = w then 0 else c j) n := h4
          have h3 : sumN c n = (if w = w then c w else 0) + sumN (fun j => if j = w then 0 else c j) n := h3
          have := h0 t
          omega
      have e : whI n fr to u (dcI c w) = u := by
        unfold whI
        rw [sumN_z (fun t ht => by rw [hz t ht, Int.zero_mul])]; omega
      rw [e]
      by_cases c2 : fr w = u
      · rw [if_pos ⟨c2, c1⟩, if_pos ⟨c1, c2.symm⟩]
      · rw [if_neg (fun h => c2 h.1), if_neg (fun h => c2 h.2.symm)]
    · rw [if_neg (fun h => c1 h.2), if_neg (fun h => c1 h.1)]
  | k + 1, u, c, l, w, hw, h0, h1, hk => by
    have ih : ∀ s, s < n → 0 < c s → NL n fr to (k + 1) (to s) (dcI c s) s w = if 0 < dcI c s w ∧ whI n fr to (to s) (dcI (dcI c s) w) = fr w then NW n fr to k (to s) (dcI (dcI c s) w) else 0 := fun s hs hc => by
      refine NL_last k (to s) (dcI c s) s w hw (fun t => ?_) (fun t ht => ?_) ?_
      · by_cases z : t = s
        · rw [z, dcI_at]; omega
        · rw [dcI_ne z]; exact h0 t
      · rw [dcI_ne (by omega)]; exact h1 t ht
      · have e := sumN_congr (f := c) (g := fun j => dcI c s j + (if j = s then 1 else 0)) (n := n) (fun j _ => by
          by_cases z : j = s
          · show c j = dcI c s j + (if j = s then 1 else 0); rw [if_pos z, z, dcI_at]; omega
          · show c j = dcI c s j + (if j = s then 1 else 0); rw [if_neg z, dcI_ne z]; omega)
        rw [sumN_add, sumN_single (f := fun j => if j = s then (1 : Int) else 0) hs (fun j _ h => if_neg h)] at e
        have e : sumN c n = sumN (dcI c s) n + (if s = s then 1 else 0) := e
        rw [if_pos rfl] at e
        rw [hk] at e
        show sumN (dcI c s) n = _
        omega
    show sumN (fun s => if fr s = u ∧ 0 < c s then NL n fr to (k + 1) (to s) (dcI c s) s w else 0) n = if 0 < c w ∧ whI n fr to u (dcI c w) = fr w then sumN (fun s => if fr s = u ∧ 0 < dcI c w s then NW n fr to k (to s) (dcI (dcI c w) s) else 0) n else 0
    have key : ∀ s, s < n → (if fr s = u ∧ 0 < c s then NL n fr to (k + 1) (to s) (dcI c s) s w else 0) = if 0 < c w ∧ whI n fr to u (dcI c w) = fr w then (if fr s = u ∧ 0 < dcI c w s then NW n fr to k (to s) (dcI (dcI c w) s) else 0) else 0 := fun s hs => by
      have hcond : (0 < c s ∧ 0 < dcI c s w) ↔ (0 < c w ∧ 0 < dcI c w s) := by
        have a1 := h0 s
        have a2 := h0 w
        by_cases z : w = s
        · subst z; exact Iff.rfl
        · rw [dcI_ne z, dcI_ne (Ne.symm z)]; exact ⟨fun h => ⟨h.2, h.1⟩, fun h => ⟨h.2, h.1⟩⟩
      by_cases c1 : fr s = u
      · by_cases c2 : 0 < c s ∧ 0 < dcI c s w
        · have c3 := hcond.mp c2
          have hwh : whI n fr to (to s) (dcI (dcI c s) w) = whI n fr to u (dcI c w) := by
            rw [dcI_comm, whI_dc (c := dcI c w) hs, whI_u (u := to s) (v := u), ← c1]
          rw [if_pos ⟨c1, c2.1⟩, ih s hs c2.1, hwh, dcI_comm]
          by_cases c4 : whI n fr to u (dcI c w) = fr w
          · rw [if_pos ⟨c2.2, c4⟩, if_pos ⟨c3.1, c4⟩, if_pos ⟨c1, c3.2⟩]
          · rw [if_neg (fun h => c4 h.2), if_neg (fun h => c4 h.2)]
        · have c3 : ¬ (0 < c w ∧ 0 < dcI c w s) := fun h => c2 (hcond.mpr h)
          have e1 : (if fr s = u ∧ 0 < c s then NL n fr to (k + 1) (to s) (dcI c s) s w else 0) = 0 := by
            by_cases c5 : 0 < c s
            · rw [if_pos ⟨c1, c5⟩, ih s hs c5, if_neg (fun h => c2 ⟨c5, h.1⟩)]
            · exact if_neg (fun h => c5 h.2)
          rw [e1]
          split
          · rename_i h
            rw [if_neg (fun h2 => c3 ⟨h.1, h2.2⟩)]
          · rfl
      · rw [if_neg (fun h => c1 h.1)]
        split
        · rw [if_neg (fun h => c1 h.1)]
        · rfl
    rw [sumN_congr key]
    split
    · rfl
    · exact sumN_z (fun _ _ => rfl)
theorem NW_NL {n : Nat} {fr to : Nat → Int} : ∀ (k : Nat) (u : Int) (c : Nat → Int) (l : Nat), (k = 0 → l < n) → NW n fr to k u c = sumN (fun w => NL n fr to k u c l w) n
  | 0, u, c, l, h => by
    show (1 : Int) = sumN (fun w => if l = w then 1 else 0) n
    rw [sumN_single (f := fun w => if l = w then (1 : Int) else 0) (h rfl) (fun j _ hj => if_neg (Ne.symm hj))]
    exact (if_pos rfl).symm
  | k + 1, u, c, l, _ => by
    show sumN (fun s => if fr s = u ∧ 0 < c s then NW n fr to k (to s) (dcI c s) else 0) n = sumN (fun w => sumN (fun s => if fr s = u ∧ 0 < c s then NL n fr to k (to s) (dcI c s) s w else 0) n) n
    rw [sumN_swap]
    refine sumN_congr (fun s hs => ?_)
    by_cases c1 : fr s = u ∧ 0 < c s
    · rw [if_pos c1, sumN_congr (g := fun w => NL n fr to k (to s) (dcI c s) s w) (fun w _ => if_pos c1)]
      exact NW_NL k _ _ s (fun _ => hs)
    · rw [if_neg c1, sumN_z (fun w _ => if_neg c1)]
/-- rows by their last step -/
theorem NW_last {n : Nat} {fr to : Nat → Int} {k : Nat} {u : Int} {c : Nat → Int} (h0 : ∀ t, 0 ≤ c t) (h1 : ∀ t, n ≤ t → c t = 0) (hk : sumN c n = (k + 1 : Nat)) : NW n fr to (k + 1) u c = sumN (fun w => if 0 < c w ∧ whI n fr to u (dcI c w) = fr w then NW n fr to k u (dcI c w) else 0) n := by
  rw [NW_NL (k + 1) u c 0 (fun h => by omega)]
  exact sumN_congr (fun w hw => NL_last k u c 0 w hw h0 h1 hk)
end S94zzzn
