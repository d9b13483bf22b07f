/-! CORE: pictures of the heap by handles, instructions as functions, their running. Pure: no machine here. -/
abbrev CellP : Type := (Nat × List Value) ⊕ ((Nat × Nat × (Nat → Int32)) ⊕ ((Nat × (Nat → Int64)) ⊕ (Nat × Nat × (Nat → Option Nat))))
def pO (c : Nat) (fs : List Value) : CellP := Sum.inl (c, fs)
def pI (ty n : Nat) (f : Nat → Int32) : CellP := Sum.inr (Sum.inl (ty, n, f))
def pJ (n : Nat) (f : Nat → Int64) : CellP := Sum.inr (Sum.inr (Sum.inl (n, f)))
def pR (ty n : Nat) (f : Nat → Option Nat) : CellP := Sum.inr (Sum.inr (Sum.inr (ty, n, f)))
/-- next handle, slots used, cells -/
abbrev HeapP : Type := Nat × Nat × (Nat → Option CellP)
abbrev LocP : Type := List (Option Value)
/-- pc, locals, stack, heap -/
abbrev CfgP : Type := Nat × LocP × List Value × HeapP
abbrev OutP : Type := Option Value ⊕ Nat
abbrev ResP : Type := Option (OutP × HeapP)
def hset (h : HeapP) (a : Nat) (c : CellP) : HeapP := (h.1, h.2.1, fun q => if q = a then some c else h.2.2 q)
def hnew (h : HeapP) (sz : Nat) (c : CellP) : HeapP := (h.1 + 1, h.2.1 + sz, fun q => if q = h.1 then some c else h.2.2 q)
def hjnk (h : HeapP) (n sz : Nat) : HeapP := (h.1 + n, h.2.1 + sz, h.2.2)
/-- n rows of k places behind each other -/
def hrows (h : HeapP) (n : Nat) (k : Nat) : HeapP := (h.1 + n, h.2.1 + n * k, fun q => if h.1 ≤ q ∧ q < h.1 + n then some (pI 0 k (fun _ => 0)) else h.2.2 q)
def inb (i : Int32) (n : Nat) : Bool := decide (0 ≤ i) && decide (i.toNatClampNeg < n)
def rdV (h : HeapP) (ci a k : Nat) : Option Value := match h.2.2 a with
  | some (Sum.inl (c, fs)) => if c = ci then fs[k]? else none
  | _ => none
def rdI (h : HeapP) (ci a k : Nat) : Option Int32 := match rdV h ci a k with
  | some (.int x) => some x
  | _ => none
def rdJ (h : HeapP) (ci a k : Nat) : Option Int64 := match rdV h ci a k with
  | some (.long x) => some x
  | _ => none
def rdA (h : HeapP) (ci a k : Nat) : Option Nat := match rdV h ci a k with
  | some (.ref x) => some x
  | _ => none
def wrV (h : HeapP) (ci a k : Nat) (v : Value) : Option HeapP := match h.2.2 a with
  | some (Sum.inl (c, fs)) => if c = ci ∧ k < fs.length then some (hset h a (pO c (fs.set k v))) else none
  | _ => none
def wrZ (h : HeapP) (ci a k : Nat) (x : Int32) : Option HeapP := if x = 0 ∨ x = 1 then wrV h ci a k (.int x) else none
def aldI (h : HeapP) (ty a : Nat) (i : Int32) : Option Int32 := match h.2.2 a with
  | some (Sum.inr (Sum.inl (t, n, f))) => if t = ty ∧ inb i n = true then some (f i.toNatClampNeg) else none
  | _ => none
def aldJ (h : HeapP) (a : Nat) (i : Int32) : Option Int64 := match h.2.2 a with
  | some (Sum.inr (Sum.inr (Sum.inl (n, f)))) => if inb i n = true then some (f i.toNatClampNeg) else none
  | _ => none
def aldR (h : HeapP) (ty a : Nat) (i : Int32) : Option (Option Nat) := match h.2.2 a with
  | some (Sum.inr (Sum.inr (Sum.inr (t, n, f)))) => if t = ty ∧ inb i n = true then some (f i.toNatClampNeg) else none
  | _ => none
def upR (f : Nat → Option Nat) (k : Nat) (x : Option Nat) : Nat → Option Nat := fun j => if j = k then x else f j
def astI (h : HeapP) (ty a : Nat) (i x : Int32) : Option HeapP := match h.2.2 a with
  | some (Sum.inr (Sum.inl (t, n, f))) => if t = ty ∧ inb i n = true then some (hset h a (pI t n (upd f i.toNatClampNeg x))) else none
  | _ => none
def astJ (h : HeapP) (a : Nat) (i : Int32) (x : Int64) : Option HeapP := match h.2.2 a with
  | some (Sum.inr (Sum.inr (Sum.inl (n, f)))) => if inb i n = true then some (hset h a (pJ n (vp_updL f i.toNatClampNeg x))) else none
  | _ => none
/-- the stored object is of class ci -/
def astR (h : HeapP) (ty ci a : Nat) (i : Int32) (x : Nat) : Option HeapP := match h.2.2 a, h.2.2 x with
  | some (Sum.inr (Sum.inr (Sum.inr (t, n, f)))), some (Sum.inl (c, _)) => if t = ty ∧ inb i n = true ∧ c = ci then some (hset h a (pR t n (upR f i.toNatClampNeg (some x)))) else none
  | _, _ => none
def alenP (h : HeapP) (a : Nat) : Option Int32 := match h.2.2 a with
  | some (Sum.inr (Sum.inl (_, n, _))) => some (nI n)
  | some (Sum.inr (Sum.inr (Sum.inl (n, _)))) => some (nI n)
  | some (Sum.inr (Sum.inr (Sum.inr (_, n, _)))) => some (nI n)
  | _ => none
def newI (h : HeapP) (ty : Nat) (n : Int32) : Option HeapP := if inb n 100000 = true then some (hnew h n.toNatClampNeg (pI ty n.toNatClampNeg (fun _ => 0))) else none
def newJ (h : HeapP) (n : Int32) : Option HeapP := if inb n 100000 = true then some (hnew h n.toNatClampNeg (pJ n.toNatClampNeg (fun _ => 0))) else none
def newR (h : HeapP) (ty : Nat) (n : Int32) : Option HeapP := if inb n 100000 = true then some (hnew h n.toNatClampNeg (pR ty n.toNatClampNeg (fun _ => none))) else none
/-- new int[n][k] -/
def newM (h : HeapP) (n k : Int32) : Option HeapP := if inb n 1000 = true ∧ inb k 1000 = true then
    some (hrows (hnew h n.toNatClampNeg (pR 6 n.toNatClampNeg (fun i => if i < n.toNatClampNeg then some (h.1 + 1 + i) else none))) n.toNatClampNeg k.toNatClampNeg) else none
/-- System.arraycopy over int arrays -/
def acpI (h : HeapP) (a0 : Nat) (sp : Int32) (a : Nat) (dp n : Int32) : Option HeapP := match h.2.2 a0, h.2.2 a with
  | some (Sum.inr (Sum.inl (t0, n0, f))), some (Sum.inr (Sum.inl (t1, n1, g))) => if t0 = 0 ∧ t1 = 0 ∧ 0 ≤ sp ∧ 0 ≤ dp ∧ 0 ≤ n ∧ sp.toNatClampNeg + n.toNatClampNeg ≤ n0 ∧ dp.toNatClampNeg + n.toNatClampNeg ≤ n1 then
      some (hset h a (pI 0 n1 (va_cpy f g sp.toNatClampNeg dp.toNatClampNeg n.toNatClampNeg))) else none
  | _, _ => none
/-- what an instruction does: an end; a goto; a branch; a read of an int, a long, a reference, a reference or null; a change of the heap; a switch; a call -/
abbrev RetP : Type := (HeapP → CfgP) ⊕ ((Int32 → HeapP → CfgP) ⊕ ((Int64 → HeapP → CfgP) ⊕ ((HeapP → CfgP) × (Nat → HeapP → CfgP))))
abbrev NxP : Type := ResP ⊕ (CfgP ⊕ ((Bool × CfgP × CfgP) ⊕ ((Option Int32 × (Int32 → CfgP)) ⊕ ((Option Int64 × (Int64 → CfgP)) ⊕ ((Option Nat × (Nat → CfgP)) ⊕ ((Option (Option Nat) × CfgP × (Nat → CfgP)) ⊕ ((Option HeapP × (HeapP → CfgP)) ⊕ ((Int32 × List (Int32 × Nat) × Nat × (Nat → CfgP)) ⊕ (Nat × List Value × HeapP × RetP × (Nat → HeapP → ResP ⊕ CfgP))))))))))
def xHalt (r : ResP) : NxP := .inl r
def xGoto (c : CfgP) : NxP := .inr (.inl c)
def xIf (b : Bool) (c1 c2 : CfgP) : NxP := .inr (.inr (.inl (b, c1, c2)))
def xI (o : Option Int32) (k : Int32 → CfgP) : NxP := .inr (.inr (.inr (.inl (o, k))))
def xJ (o : Option Int64) (k : Int64 → CfgP) : NxP := .inr (.inr (.inr (.inr (.inl (o, k)))))
def xA (o : Option Nat) (k : Nat → CfgP) : NxP := .inr (.inr (.inr (.inr (.inr (.inl (o, k))))))
def xR (o : Option (Option Nat)) (c : CfgP) (k : Nat → CfgP) : NxP := .inr (.inr (.inr (.inr (.inr (.inr (.inl (o, c, k)))))))
def xH (o : Option HeapP) (k : HeapP → CfgP) : NxP := .inr (.inr (.inr (.inr (.inr (.inr (.inr (.inl (o, k))))))))
def xSw (x : Int32) (t : List (Int32 × Nat)) (d : Nat) (k : Nat → CfgP) : NxP := .inr (.inr (.inr (.inr (.inr (.inr (.inr (.inr (.inl (x, t, d, k)))))))))
def xC (m : Nat) (as : List Value) (h : HeapP) (kt : RetP) (kx : Nat → HeapP → ResP ⊕ CfgP) : NxP := .inr (.inr (.inr (.inr (.inr (.inr (.inr (.inr (.inr (m, as, h, kt, kx)))))))))
/-- where a call goes on: by its answer -/
def cV (r : ResP) (k : HeapP → ResP) (kx : Nat → HeapP → ResP) : ResP := match r with
  | some (Sum.inl none, h) => k h
  | some (Sum.inr e, h) => kx e h
  | _ => none
def cI (r : ResP) (k : Int32 → HeapP → ResP) (kx : Nat → HeapP → ResP) : ResP := match r with
  | some (Sum.inl (some (.int i)), h) => k i h
  | some (Sum.inr e, h) => kx e h
  | _ => none
def cJ (r : ResP) (k : Int64 → HeapP → ResP) (kx : Nat → HeapP → ResP) : ResP := match r with
  | some (Sum.inl (some (.long i)), h) => k i h
  | some (Sum.inr e, h) => kx e h
  | _ => none
def cR (r : ResP) (kn : HeapP → ResP) (ka : Nat → HeapP → ResP) (kx : Nat → HeapP → ResP) : ResP := match r with
  | some (Sum.inl (some .null), h) => kn h
  | some (Sum.inl (some (.ref a)), h) => ka a h
  | some (Sum.inr e, h) => kx e h
  | _ => none
def dR (o : Option (Option Nat)) (kn : ResP) (ka : Nat → ResP) : ResP := match o with
  | some none => kn
  | some (some a) => ka a
  | none => none
def thruP : Nat → HeapP → ResP := fun e h => some (Sum.inr e, h)
def swP (x : Int32) : List (Int32 × Nat) → Nat → (Nat → ResP) → ResP
  | [], d, k => k d
  | (v, q) :: t, d, k => if x = v then k q else swP x t d k
def kxP (rec : CfgP → ResP) (x : ResP ⊕ CfgP) : ResP := match x with
  | .inl r => r
  | .inr c => rec c
def stp (rec : CfgP → ResP) (call : Nat → List Value → HeapP → ResP) (x : NxP) : ResP := match x with
  | .inl r => r
  | .inr (.inl c) => rec c
  | .inr (.inr (.inl (b, c1, c2))) => if b = true then rec c1 else rec c2
  | .inr (.inr (.inr (.inl (o, k)))) => o.bind fun i => rec (k i)
  | .inr (.inr (.inr (.inr (.inl (o, k))))) => o.bind fun i => rec (k i)
  | .inr (.inr (.inr (.inr (.inr (.inl (o, k)))))) => o.bind fun i => rec (k i)
  | .inr (.inr (.inr (.inr (.inr (.inr (.inl (o, c, k))))))) => dR o (rec c) fun i => rec (k i)
  | .inr (.inr (.inr (.inr (.inr (.inr (.inr (.inl (o, k)))))))) => o.bind fun i => rec (k i)
  | .inr (.inr (.inr (.inr (.inr (.inr (.inr (.inr (.inl (x, t, d, k))))))))) => swP x t d fun q => rec (k q)
  | .inr (.inr (.inr (.inr (.inr (.inr (.inr (.inr (.inr (m, as, h, .inl k, kx))))))))) => cV (call m as h) (fun h' => rec (k h')) (fun e h' => kxP rec (kx e h'))
  | .inr (.inr (.inr (.inr (.inr (.inr (.inr (.inr (.inr (m, as, h, .inr (.inl k), kx))))))))) => cI (call m as h) (fun i h' => rec (k i h')) (fun e h' => kxP rec (kx e h'))
  | .inr (.inr (.inr (.inr (.inr (.inr (.inr (.inr (.inr (m, as, h, .inr (.inr (.inl k)), kx))))))))) => cJ (call m as h) (fun i h' => rec (k i h')) (fun e h' => kxP rec (kx e h'))
  | .inr (.inr (.inr (.inr (.inr (.inr (.inr (.inr (.inr (m, as, h, .inr (.inr (.inr (kn, ka))), kx))))))))) => cR (call m as h) (fun h' => rec (kn h')) (fun a h' => rec (ka a h')) (fun e h' => kxP rec (kx e h'))
def LeP (r r' : ResP) : Prop := ∀ q, r = some q → r' = some q
theorem stp_mono {rec rec' : CfgP → ResP} {call call' : Nat → List Value → HeapP → ResP} (h1 : ∀ c, LeP (rec c) (rec' c)) (h2 : ∀ m as h, LeP (call m as h) (call' m as h)) (x : NxP) : LeP (stp rec call x) (stp rec' call' x) := by
  intro q hq
  have hkx : ∀ y, kxP rec y = some q → kxP rec' y = some q := by
    intro y hy
    rcases y with r | c
    · exact hy
    · exact h1 c q hy
  rcases x with r | c | ⟨b, c1, c2⟩ | ⟨o, k⟩ | ⟨o, k⟩ | ⟨o, k⟩ | ⟨o, c, k⟩ | ⟨o, k⟩ | ⟨x, t, d, k⟩ | ⟨m, as, h, kt, kx⟩
  · exact hq
  · exact h1 c q hq
  · cases b
    · exact h1 c2 q hq
    · exact h1 c1 q hq
  · cases o with
    | none => cases hq
    | some i => exact h1 _ q hq
  · cases o with
    | none => cases hq
    | some i => exact h1 _ q hq
  · cases o with
    | none => cases hq
    | some i => exact h1 _ q hq
  · rcases o with _ | _ | i
    · cases hq
    · exact h1 _ q hq
    · exact h1 _ q hq
  · cases o with
    | none => cases hq
    | some i => exact h1 _ q hq
  · show swP x t d (fun q => rec' (k q)) = some q
    have hq : swP x t d (fun q => rec (k q)) = some q := hq
    induction t with
    | nil => exact h1 _ q hq
    | cons v t ih =>
      obtain ⟨v, p⟩ := v
      simp only [swP] at hq ⊢
      split at hq
      · rename_i hx
        rw [if_pos hx]; exact h1 _ q hq
      · rename_i hx
        rw [if_neg hx]; exact ih hq hq
  · rcases kt with k | k | k | ⟨kn, ka⟩
    · show cV (call' m as h) _ _ = some q
      have hq : cV (call m as h) _ _ = some q := hq
      cases hc : call m as h with
      | none => rw [hc] at hq; cases hq
      | some z =>
        rw [h2 m as h z hc]
        rw [hc] at hq
        rcases z with ⟨(_ | v) | e, h'⟩
        · exact h1 _ q hq
        · cases hq
        · exact hkx _ hq
    · show cI (call' m as h) _ _ = some q
      have hq : cI (call m as h) _ _ = some q := hq
      cases hc : call m as h with
      | none => rw [hc] at hq; cases hq
      | some z =>
        rw [h2 m as h z hc]
        rw [hc] at hq
        rcases z with ⟨(_ | v) | e, h'⟩
        · cases hq
        · cases v <;> first | exact h1 _ q hq | cases hq
        · exact hkx _ hq
    · show cJ (call' m as h) _ _ = some q
      have hq : cJ (call m as h) _ _ = some q := hq
      cases hc : call m as h with
      | none => rw [hc] at hq; cases hq
      | some z =>
        rw [h2 m as h z hc]
        rw [hc] at hq
        rcases z with ⟨(_ | v) | e, h'⟩
        · cases hq
        · cases v <;> first | exact h1 _ q hq | cases hq
        · exact hkx _ hq
    · show cR (call' m as h) _ _ _ = some q
      have hq : cR (call m as h) _ _ _ = some q := hq
      cases hc : call m as h with
      | none => rw [hc] at hq; cases hq
      | some z =>
        rw [h2 m as h z hc]
        rw [hc] at hq
        rcases z with ⟨(_ | v) | e, h'⟩
        · cases hq
        · cases v <;> first | exact h1 _ q hq | cases hq
        · exact hkx _ hq
/-- what is reached in the limit is reached somewhere -/
theorem stp_cont {F : Nat → CfgP → ResP} {G : Nat → Nat → List Value → HeapP → ResP} {R : CfgP → ResP} {K : Nat → List Value → HeapP → ResP}
    (hF : ∀ n m c, n ≤ m → LeP (F n c) (F m c)) (hG : ∀ n m y as h, n ≤ m → LeP (G n y as h) (G m y as h))
    (hR : ∀ c q, R c = some q → ∃ n, F n c = some q) (hK : ∀ y as h q, K y as h = some q → ∃ n, G n y as h = some q) (x : NxP) (q : OutP × HeapP) (hq : stp R K x = some q) : ∃ n, stp (F n) (G n) x = some q := by
  have hkx : ∀ y, kxP R y = some q → ∃ n, ∀ m, n ≤ m → kxP (F m) y = some q := by
    intro y hy
    rcases y with r | c
    · exact ⟨0, fun _ _ => hy⟩
    · obtain ⟨n, hn⟩ := hR c q hy
      exact ⟨n, fun m hm => hF n m c hm q hn⟩
  have hR' : ∀ c, R c = some q → ∃ n, ∀ m, n ≤ m → F m c = some q := by
    intro c hc
    obtain ⟨n, hn⟩ := hR c q hc
    exact ⟨n, fun m hm => hF n m c hm q hn⟩
  rcases x with r | c | ⟨b, c1, c2⟩ | ⟨o, k⟩ | ⟨o, k⟩ | ⟨o, k⟩ | ⟨o, c, k⟩ | ⟨o, k⟩ | ⟨x, t, d, k⟩ | ⟨m, as, h, kt, kx⟩
  · exact ⟨0, hq⟩
  · exact hR c q hq
  · cases b
    · exact hR c2 q hq
    · exact hR c1 q hq
  · cases o with
    | none => cases hq
    | some i => exact hR _ q hq
  · cases o with
    | none => cases hq
    | some i => exact hR _ q hq
  · cases o with
    | none => cases hq
    | some i => exact hR _ q hq
  · rcases o with _ | _ | i
    · cases hq
    · exact hR _ q hq
    · exact hR _ q hq
  · cases o with
    | none => cases hq
    | some i => exact hR _ q hq
  · show ∃ n, swP x t d (fun q => F n (k q)) = some q
    have hq : swP x t d (fun q => R (k q)) = some q := hq
    induction t with
    | nil => exact hR _ q hq
    | cons v t ih =>
      obtain ⟨v, p⟩ := v
      simp only [swP] at hq ⊢
      split at hq
      · rename_i hx
        simp only [if_pos hx]; exact hR _ q hq
      · rename_i hx
        simp only [if_neg hx]; exact ih hq hq
  · have go : ∀ (z : OutP × HeapP), K m as h = some z → ∀ (P : Nat → ResP → Prop), (∃ n, ∀ j, n ≤ j → P j (some z)) → ∃ n, P n (G n m as h) := by
      intro z hz P hP
      obtain ⟨n1, h1⟩ := hK m as h z hz
      obtain ⟨n2, h2⟩ := hP
      refine ⟨max n1 n2, ?_⟩
      rw [hG n1 (max n1 n2) m as h (Nat.le_max_left _ _) z h1]
      exact h2 _ (Nat.le_max_right _ _)
    rcases kt with k | k | k | ⟨kn, ka⟩
    · have hq : cV (K m as h) _ _ = some q := hq
      cases hc : K m as h with
      | none => rw [hc] at hq; cases hq
      | some z =>
        rw [hc] at hq
        refine go z hc (fun n r => cV r (fun h' => F n (k h')) (fun e h' => kxP (F n) (kx e h')) = some q) ?_
        rcases z with ⟨(_ | v) | e, h'⟩
        · exact hR' _ hq
        · cases hq
        · exact hkx _ hq
    · have hq : cI (K m as h) _ _ = some q := hq
      cases hc : K m as h with
      | none => rw [hc] at hq; cases hq
      | some z =>
        rw [hc] at hq
        refine go z hc (fun n r => cI r (fun i h' => F n (k i h')) (fun e h' => kxP (F n) (kx e h')) = some q) ?_
        rcases z with ⟨(_ | v) | e, h'⟩
        · cases hq
        · cases v <;> first | exact hR' _ hq | cases hq
        · exact hkx _ hq
    · have hq : cJ (K m as h) _ _ = some q := hq
      cases hc : K m as h with
      | none => rw [hc] at hq; cases hq
      | some z =>
        rw [hc] at hq
        refine go z hc (fun n r => cJ r (fun i h' => F n (k i h')) (fun e h' => kxP (F n) (kx e h')) = some q) ?_
        rcases z with ⟨(_ | v) | e, h'⟩
        · cases hq
        · cases v <;> first | exact hR' _ hq | cases hq
        · exact hkx _ hq
    · have hq : cR (K m as h) _ _ _ = some q := hq
      cases hc : K m as h with
      | none => rw [hc] at hq; cases hq
      | some z =>
        rw [hc] at hq
        refine go z hc (fun n r => cR r (fun h' => F n (kn h')) (fun a h' => F n (ka a h')) (fun e h' => kxP (F n) (kx e h')) = some q) ?_
        rcases z with ⟨(_ | v) | e, h'⟩
        · cases hq
        · cases v <;> first | exact hR' _ hq | cases hq
        · exact hkx _ hq
abbrev SemP : Type := LocP → List Value → HeapP → NxP
/-- a method: how many locals, its receiver's class (100: a word of the text), its code -/
abbrev TabP : Type := Nat → Option (Nat × Option Nat × List (Nat × SemP))
def rcvP (rc : Option Nat) (as : List Value) (h : HeapP) : Bool := match rc with
  | none => true
  | some ci => match as with
    | .ref a :: _ => bif Nat.beq ci 100 then Nat.ble 1 a && Nat.ble a 7 else match h.2.2 a with
      | some (Sum.inl (c, _)) => Nat.beq c ci
      | _ => false
    | _ => false
def lkP : List (Nat × SemP) → Nat → Option SemP
  | [], _ => none
  | (k, s) :: t, pc => bif Nat.beq k pc then some s else lkP t pc
def entL : List Value → LocP
  | [] => []
  | v :: vs => bif Nat.beq v.category 2 then some v :: none :: entL vs else some v :: entL vs
def entP (n : Nat) (as : List Value) (h : HeapP) : CfgP := (0, entL as ++ List.replicate (n - (entL as).length) none, [], h)
/-- a call, with so many levels left -/
def clP (M : TabP) (F : Nat → Nat → CfgP → ResP) (d m : Nat) (as : List Value) (h : HeapP) : ResP := match d with
  | 0 => none
  | d' + 1 => match M m with
    | none => none
    | some q => bif rcvP q.2.1 as h && Nat.ble (entL as).length q.1 then F d' m (entP q.1 as h) else none
def semP (M : TabP) (mi pc : Nat) : Option SemP := match M mi with
  | none => none
  | some q => lkP q.2.2 pc
def runF (M : TabP) : Nat → Nat → Nat → CfgP → ResP
  | 0, _, _, _ => none
  | n + 1, d, mi, c => match semP M mi c.1 with
    | none => none
    | some s => stp (runF M n d mi) (clP M (runF M n) d) (s c.2.1 c.2.2.1 c.2.2.2)
theorem runF_succ (M : TabP) (n : Nat) : ∀ d mi c, LeP (runF M n d mi c) (runF M (n + 1) d mi c) := by
  induction n with
  | zero => intro d mi c q h; cases h
  | succ n ih =>
    intro d mi c q h
    rw [runF] at h ⊢
    cases hs : semP M mi c.1 with
    | none => rw [hs] at h; cases h
    | some s =>
      rw [hs] at h
      refine stp_mono (fun c => ih d mi c) (fun m as hp => ?_) _ q h
      intro q hq
      cases d with
      | zero => cases hq
      | succ d =>
        unfold clP at hq ⊢
        cases hm : M m with
        | none => rw [hm] at hq; cases hq
        | some y =>
          rw [hm] at hq
          cases hr : (rcvP y.2.1 as hp && Nat.ble (entL as).length y.1) with
          | false => simp only [hr] at hq; cases hq
          | true => simp only [hr, cond_true] at hq ⊢; exact ih _ _ _ q hq
theorem runF_mono (M : TabP) {n m : Nat} (hnm : n ≤ m) (d mi : Nat) (c : CfgP) : LeP (runF M n d mi c) (runF M m d mi c) := by
  induction hnm with
  | refl => exact fun _ h => h
  | step _ ih => exact fun q h => runF_succ M _ d mi c q (ih q h)
noncomputable def runP (M : TabP) (d mi : Nat) (c : CfgP) : ResP := @dite _ (∃ n, ∃ q, runF M n d mi c = some q) (Classical.propDecidable _) (fun h => runF M (Classical.choose h) d mi c) (fun _ => none)
theorem runP_iff {M : TabP} {d mi : Nat} {c : CfgP} {q : OutP × HeapP} : runP M d mi c = some q ↔ ∃ n, runF M n d mi c = some q := by
  constructor
  · intro h
    unfold runP at h
    split at h
    · exact ⟨_, h⟩
    · cases h
  · rintro ⟨n, hn⟩
    have hex : ∃ n, ∃ q, runF M n d mi c = some q := ⟨n, q, hn⟩
    unfold runP
    rw [dif_pos hex]
    obtain ⟨q', hq'⟩ := Classical.choose_spec hex
    rw [hq']
    rcases Nat.le_total n (Classical.choose hex) with h | h
    · have := runF_mono M h d mi c q hn
      rw [this] at hq'
      exact hq'.symm
    · have := runF_mono M h d mi c q' hq'
      rw [this] at hn
      exact hn
noncomputable def callP (M : TabP) (d m : Nat) (as : List Value) (h : HeapP) : ResP := clP M (runP M) d m as h
theorem opt_ext {α : Type} {a b : Option α} (h : ∀ q, a = some q ↔ b = some q) : a = b := by
  cases a with
  | none =>
    cases b with
    | none => rfl
    | some y => exact absurd ((h y).mpr rfl) (by simp)
  | some x => exact ((h x).mp rfl).symm
theorem callP_ex {M : TabP} {d m : Nat} {as : List Value} {h : HeapP} {q : OutP × HeapP} (hq : callP M d m as h = some q) : ∃ n, clP M (runF M n) d m as h = some q := by
  unfold callP at hq
  cases d with
  | zero => cases hq
  | succ d =>
    unfold clP at hq ⊢
    cases hm : M m with
    | none => rw [hm] at hq; cases hq
    | some y =>
      rw [hm] at hq
      cases hr : (rcvP y.2.1 as h && Nat.ble (entL as).length y.1) with
      | false => simp only [hr] at hq; cases hq
      | true => simp only [hr, cond_true] at hq ⊢; exact runP_iff.mp hq
theorem clP_le {M : TabP} {n d m : Nat} {as : List Value} {h : HeapP} : LeP (clP M (runF M n) d m as h) (callP M d m as h) := by
  intro q hq
  unfold callP
  cases d with
  | zero => cases hq
  | succ d =>
    unfold clP at hq ⊢
    cases hm : M m with
    | none => rw [hm] at hq; cases hq
    | some y =>
      rw [hm] at hq
      cases hr : (rcvP y.2.1 as h && Nat.ble (entL as).length y.1) with
      | false => simp only [hr] at hq; cases hq
      | true => simp only [hr, cond_true] at hq ⊢; exact runP_iff.mpr ⟨n, hq⟩
theorem clP_mono {M : TabP} {n n' d m : Nat} {as : List Value} {h : HeapP} (hn : n ≤ n') : LeP (clP M (runF M n) d m as h) (clP M (runF M n') d m as h) := by
  intro q hq
  cases d with
  | zero => cases hq
  | succ d =>
    unfold clP at hq ⊢
    cases hm : M m with
    | none => rw [hm] at hq; cases hq
    | some y =>
      rw [hm] at hq
      cases hr : (rcvP y.2.1 as h && Nat.ble (entL as).length y.1) with
      | false => simp only [hr] at hq; cases hq
      | true => simp only [hr, cond_true] at hq ⊢; exact runF_mono M hn _ _ _ q hq
theorem runP_eq (M : TabP) (d mi : Nat) (c : CfgP) : runP M d mi c = match semP M mi c.1 with
    | none => none
    | some s => stp (runP M d mi) (callP M d) (s c.2.1 c.2.2.1 c.2.2.2) := by
  refine opt_ext fun q => ⟨fun h => ?_, fun h => ?_⟩
  · obtain ⟨n, hn⟩ := runP_iff.mp h
    cases n with
    | zero => cases hn
    | succ n =>
      rw [runF] at hn
      cases hs : semP M mi c.1 with
      | none => rw [hs] at hn; cases hn
      | some s =>
        rw [hs] at hn
        exact stp_mono (fun c q h => runP_iff.mpr ⟨n, h⟩) (fun m as h => clP_le) _ q hn
  · cases hs : semP M mi c.1 with
    | none => rw [hs] at h; cases h
    | some s =>
      rw [hs] at h
      obtain ⟨n, hn⟩ := stp_cont (F := fun n => runF M n d mi) (G := fun n => clP M (runF M n) d) (fun n m c hnm => runF_mono M hnm d mi c) (fun n m y as h hnm => clP_mono hnm)
        (fun c q h => runP_iff.mp h) (fun y as h q hq => callP_ex hq) _ q h
      exact runP_iff.mpr ⟨n + 1, by rw [runF, hs]; exact hn⟩
/-- as many steps as one likes, up to the places 'cuts' -/
def blkP (code : List (Nat × SemP)) (cuts : List Nat) (rec : CfgP → ResP) (call : Nat → List Value → HeapP → ResP) : Nat → CfgP → ResP
  | 0, c => rec c
  | k + 1, c => match lkP code c.1 with
    | none => none
    | some s => stp (fun c' => bif cuts.any (Nat.beq c'.1) then rec c' else blkP code cuts rec call k c') call (s c.2.1 c.2.2.1 c.2.2.2)
theorem run_blk {M : TabP} {mi ml : Nat} {rc : Option Nat} {code : List (Nat × SemP)} (hM : M mi = some (ml, rc, code)) (cuts : List Nat) (k d : Nat) (c : CfgP) : runP M d mi c = blkP code cuts (runP M d mi) (callP M d) k c := by
  induction k generalizing c with
  | zero => rfl
  | succ k ih =>
    rw [runP_eq, blkP]
    have hs : semP M mi c.1 = lkP code c.1 := by simp [semP, hM]
    rw [hs]
    cases lkP code c.1 with
    | none => rfl
    | some s =>
      have e : (fun c' : CfgP => bif cuts.any (Nat.beq c'.1) then runP M d mi c' else blkP code cuts (runP M d mi) (callP M d) k c') = runP M d mi := by
        funext c'
        rw [← ih c']
        cases cuts.any (Nat.beq c'.1) <;> rfl
      show stp (runP M d mi) _ _ = stp _ _ _
      rw [e]
/-- the call answers so, whatever level there is from D on -/
def CtP (M : TabP) (D m : Nat) (as : List Value) (h : HeapP) (o : OutP) (h' : HeapP) : Prop := ∀ d, D ≤ d → callP M d m as h = some (o, h')
theorem ctP_intro {M : TabP} {D m ml : Nat} {rc : Option Nat} {code : List (Nat × SemP)} {as : List Value} {h : HeapP} {o : OutP} {h' : HeapP} (hM : M m = some (ml, rc, code)) (hr : rcvP rc as h = true) (hl : Nat.ble (entL as).length ml = true) (k : ∀ d, D ≤ d → runP M d m (entP ml as h) = some (o, h')) : CtP M (D + 1) m as h o h' := by
  intro d hd
  obtain ⟨d', rfl⟩ : ∃ d', d = d' + 1 := ⟨d - 1, by omega⟩
  unfold callP clP
  simp only [hM, hr, hl, Bool.and_self, cond_true]
  exact k d' (by omega)
theorem CtP.le {M : TabP} {D D' m : Nat} {as : List Value} {h : HeapP} {o : OutP} {h' : HeapP} (hc : CtP M D m as h o h') (hD : D ≤ D') : CtP M D' m as h o h' := fun d hd => hc d (Nat.le_trans hD hd)
theorem cV_ret {r : ResP} {h' : HeapP} {k : HeapP → ResP} {kx : Nat → HeapP → ResP} (h : r = some (Sum.inl none, h')) : cV r k kx = k h' := by rw [h]; rfl
theorem cI_ret {r : ResP} {i : Int32} {h' : HeapP} {k : Int32 → HeapP → ResP} {kx : Nat → HeapP → ResP} (h : r = some (Sum.inl (some (.int i)), h')) : cI r k kx = k i h' := by rw [h]; rfl
theorem cJ_ret {r : ResP} {i : Int64} {h' : HeapP} {k : Int64 → HeapP → ResP} {kx : Nat → HeapP → ResP} (h : r = some (Sum.inl (some (.long i)), h')) : cJ r k kx = k i h' := by rw [h]; rfl
theorem cR_ref {r : ResP} {a : Nat} {h' : HeapP} {kn : HeapP → ResP} {ka : Nat → HeapP → ResP} {kx : Nat → HeapP → ResP} (h : r = some (Sum.inl (some (.ref a)), h')) : cR r kn ka kx = ka a h' := by rw [h]; rfl
theorem cR_null {r : ResP} {h' : HeapP} {kn : HeapP → ResP} {ka : Nat → HeapP → ResP} {kx : Nat → HeapP → ResP} (h : r = some (Sum.inl (some .null), h')) : cR r kn ka kx = kn h' := by rw [h]; rfl
theorem cV_thr {r : ResP} {e : Nat} {h' : HeapP} {k : HeapP → ResP} {kx : Nat → HeapP → ResP} (h : r = some (Sum.inr e, h')) : cV r k kx = kx e h' := by rw [h]; rfl
theorem cI_thr {r : ResP} {e : Nat} {h' : HeapP} {k : Int32 → HeapP → ResP} {kx : Nat → HeapP → ResP} (h : r = some (Sum.inr e, h')) : cI r k kx = kx e h' := by rw [h]; rfl
theorem cJ_thr {r : ResP} {e : Nat} {h' : HeapP} {k : Int64 → HeapP → ResP} {kx : Nat → HeapP → ResP} (h : r = some (Sum.inr e, h')) : cJ r k kx = kx e h' := by rw [h]; rfl
theorem cR_thr {r : ResP} {e : Nat} {h' : HeapP} {kn : HeapP → ResP} {ka : Nat → HeapP → ResP} {kx : Nat → HeapP → ResP} (h : r = some (Sum.inr e, h')) : cR r kn ka kx = kx e h' := by rw [h]; rfl
