/-! START: a heap that grows -/
section S94zzzzzp
set_option linter.unusedVariables false
set_option linter.unusedSimpArgs false
/-- the rows of the start, by codes -/
def rw0 (c : Nat) : Int → Int32 := bif Nat.ble 100 c then snRw (c - 100) else bif Nat.beq c 1 then (fun i => if i = 3 then -1 else 0) else bif Nat.beq c 2 then (fun i => if i = 2 then -1 else 0) else bif Nat.beq c 3 then (fun i => if i = 0 then -1 else 0) else bif Nat.beq c 4 then (fun i => if i = 16 then -1 else 0) else bif Nat.beq c 5 then (fun i => if 0 ≤ i ∧ i < 4 then -1 else 0) else (fun _ => 0)
def cd0 (q : Nat) : Nat := bif Nat.ble 18 q && Nat.ble q 29 then q - 18 + 100 else bif Nat.ble 30 q && Nat.ble q 41 then q - 30 + 100 else bif Nat.ble 179 q && Nat.ble q 184 then q - 179 + 101 else bif Nat.ble 193 q && Nat.ble q 198 then q - 193 + 101 else bif Nat.beq q 16 then 1 else bif Nat.beq q 201 then 2 else bif Nat.beq q 209 then 3 else bif Nat.beq q 211 then 3 else bif Nat.beq q 213 then 3 else bif Nat.beq q 215 then 3 else bif Nat.beq q 217 then 4 else bif Nat.beq q 243 then 5 else 0
def R00 (q : Nat) : Int → Nat := bif Nat.beq q 18 then (fun _ => 19) else bif Nat.beq q 30 then (fun _ => 31) else bif Nat.beq q 178 then (fun _ => 179) else bif Nat.beq q 192 then (fun _ => 193) else bif Nat.beq q 49 then (fun i => if 0 ≤ i ∧ i < 121 then 50 + i.toNat else 0) else bif Nat.beq q 173 then (fun i => if 0 ≤ i ∧ i < 4 then 174 + i.toNat else 0) else (fun _ => 0)
/-- the cell of a handle when its object is done -/
def cF (q : Nat) : Option CellP := cellP (sh0 q) q (rw0 (cd0 q)) (fun _ => 0) (R00 q)
/-- grown up to a handle -/
def grw (h : HeapP) (n s : Nat) : HeapP := (n, s, fun q => if h.1 ≤ q ∧ q < n then cF q else h.2.2 q)
theorem grw_1 {h : HeapP} {n s : Nat} : (grw h n s).1 = n := rfl
theorem grw_grw {h : HeapP} {n1 s1 n2 s2 : Nat} (h1 : h.1 ≤ n1) (h2 : n1 ≤ n2) : grw (grw h n1 s1) n2 s2 = grw h n2 s2 := by
  refine congrArg (fun z => (n2, s2, z)) (funext fun q => ?_)
  show (if n1 ≤ q ∧ q < n2 then cF q else if h.1 ≤ q ∧ q < n1 then cF q else h.2.2 q) = if h.1 ≤ q ∧ q < n2 then cF q else h.2.2 q
  by_cases a : h.1 ≤ q ∧ q < n2
  · rw [if_pos a]
    by_cases b : n1 ≤ q
    · rw [if_pos (by omega)]
    · rw [if_neg (by omega), if_pos (by omega)]
  · rw [if_neg a, if_neg (by omega), if_neg (by omega)]
theorem grw_set {h : HeapP} {a n s : Nat} {c : CellP} (ha : a < h.1) : grw (hset h a c) n s = hset (grw h n s) a c := by
  refine congrArg (fun z => (n, s, z)) (funext fun q => ?_)
  show (if h.1 ≤ q ∧ q < n then cF q else if q = a then some c else h.2.2 q) = if q = a then some c else if h.1 ≤ q ∧ q < n then cF q else h.2.2 q
  by_cases e : q = a
  · rw [if_pos e, if_neg (by omega), if_pos e]
  · rw [if_neg e, if_neg e]
theorem grw_fin {h : HeapP} {a n s : Nat} {c : CellP} (ha : h.1 ≤ a ∧ a < n) (hc : cF a = some c) : hset (grw h n s) a c = grw h n s := by
  refine congrArg (fun z => (n, s, z)) (funext fun q => ?_)
  show (if q = a then some c else if h.1 ≤ q ∧ q < n then cF q else h.2.2 q) = if h.1 ≤ q ∧ q < n then cF q else h.2.2 q
  by_cases e : q = a
  · rw [if_pos e, if_pos (by omega), e, hc]
  · rw [if_neg e]
theorem new_A {h : HeapP} {n n' s s' sz : Nat} {c : CellP} (hn : h.1 ≤ n) (hn' : n + 1 = n') (hs' : s + sz = s') (hc : cF n = some c) : hnew (grw h n s) sz c = grw h n' s' := by
  subst hn' hs'
  refine congrArg (fun z => (n + 1, s + sz, z)) (funext fun q => ?_)
  show (if q = n then some c else if h.1 ≤ q ∧ q < n then cF q else h.2.2 q) = if h.1 ≤ q ∧ q < n + 1 then cF q else h.2.2 q
  by_cases e : q = n
  · rw [if_pos e, if_pos (by omega), e, hc]
  · rw [if_neg e]
    by_cases a : h.1 ≤ q ∧ q < n
    · rw [if_pos a, if_pos (by omega)]
    · rw [if_neg a, if_neg (by omega)]
theorem new_O {h : HeapP} {n s sz : Nat} {x : CellP} (hn : h.1 ≤ n) : hnew (grw h n s) sz x = hset (grw h (n + 1) (s + sz)) n x := by
  refine congrArg (fun z => (n + 1, s + sz, z)) (funext fun q => ?_)
  show (if q = n then some x else if h.1 ≤ q ∧ q < n then cF q else h.2.2 q) = if q = n then some x else if h.1 ≤ q ∧ q < n + 1 then cF q else h.2.2 q
  by_cases e : q = n
  · rw [if_pos e, if_pos e]
  · rw [if_neg e, if_neg e]
    by_cases a : h.1 ≤ q ∧ q < n
    · rw [if_pos a, if_pos (by omega)]
    · rw [if_neg a, if_neg (by omega)]
theorem new_T {h : HeapP} {sz : Nat} {x : CellP} : hnew h sz x = hset (grw h (h.1 + 1) (h.2.1 + sz)) h.1 x := by
  refine congrArg (fun z => (h.1 + 1, h.2.1 + sz, z)) (funext fun q => ?_)
  show (if q = h.1 then some x else h.2.2 q) = if q = h.1 then some x else if h.1 ≤ q ∧ q < h.1 + 1 then cF q else h.2.2 q
  by_cases e : q = h.1
  · rw [if_pos e, if_pos e]
  · rw [if_neg e, if_neg e, if_neg (by omega)]
/-! steps of a block -/
theorem st_b {α β : Type} {h : α} {f : α → Option β} : (some h).bind f = f h := rfl
theorem st_w {h : HeapP} {a ci k : Nat} {fs : List Value} {v : Value} {f : HeapP → ResP} (fs' : List Value) (v' : Value) (hv : v = v') (hk : k < fs.length) (hs : fs.set k v' = fs') : (wrV (hset h a (pO ci fs)) ci a k v).bind f = f (hset h a (pO ci fs')) := by
  subst hs hv; exact wrr hk
theorem st_I {h : HeapP} {n s a ty : Nat} {k : Int32} {c : CellP} {f : HeapP → ResP} (m n' s' : Nat) (hb : h.1 ≤ n) (ha : a < n) (hk : inb k 100000 = true) (hm : k.toNatClampNeg = m) (hn' : n + 1 = n') (hs' : s + m = s') (hc : cF n = some (pI ty m (fun _ => 0))) : (newI (hset (grw h n s) a c) ty k).bind f = f (hset (grw h n' s') a c) := by
  unfold newI
  rw [if_pos hk, hm, hnew_hset (show a ≠ (grw h n s).1 by rw [grw_1]; omega), new_A hb hn' hs' hc]; rfl
theorem st_J {h : HeapP} {n s a : Nat} {k : Int32} {c : CellP} {f : HeapP → ResP} (m n' s' : Nat) (hb : h.1 ≤ n) (ha : a < n) (hk : inb k 100000 = true) (hm : k.toNatClampNeg = m) (hn' : n + 1 = n') (hs' : s + m = s') (hc : cF n = some (pJ m (fun _ => 0))) : (newJ (hset (grw h n s) a c) k).bind f = f (hset (grw h n' s') a c) := by
  unfold newJ
  rw [if_pos hk, hm, hnew_hset (show a ≠ (grw h n s).1 by rw [grw_1]; omega), new_A hb hn' hs' hc]; rfl
theorem st_R {h : HeapP} {n s a ty : Nat} {k : Int32} {c : CellP} {f : HeapP → ResP} (m n' s' : Nat) (hb : h.1 ≤ n) (ha : a < n) (hk : inb k 100000 = true) (hm : k.toNatClampNeg = m) (hn' : n + 1 = n') (hs' : s + m = s') (hc : cF n = some (pR ty m (fun _ => none))) : (newR (hset (grw h n s) a c) ty k).bind f = f (hset (grw h n' s') a c) := by
  unfold newR
  rw [if_pos hk, hm, hnew_hset (show a ≠ (grw h n s).1 by rw [grw_1]; omega), new_A hb hn' hs' hc]; rfl
theorem hrows_hset {h : HeapP} {a n k : Nat} {c : CellP} (ha : a < h.1) : hrows (hset h a c) n k = hset (hrows h n k) a c := by
  refine congrArg (fun z => (h.1 + n, h.2.1 + n * k, z)) (funext fun q => ?_)
  show (if h.1 ≤ q ∧ q < h.1 + n then some (pI 0 k (fun _ => 0)) else if q = a then some c else h.2.2 q) = if q = a then some c else if h.1 ≤ q ∧ q < h.1 + n then some (pI 0 k (fun _ => 0)) else h.2.2 q
  by_cases e : q = a
  · rw [if_pos e, if_neg (by omega), if_pos e]
  · rw [if_neg e, if_neg e]
theorem hrows_A {h : HeapP} {n m k s n' s' : Nat} (hb : h.1 ≤ n) (hn' : n + m = n') (hs' : s + m * k = s') (hc : ∀ q, n ≤ q → q < n' → cF q = some (pI 0 k (fun _ => 0))) : hrows (grw h n s) m k = grw h n' s' := by
  subst hn' hs'
  refine congrArg (fun z => (n + m, s + m * k, z)) (funext fun q => ?_)
  show (if n ≤ q ∧ q < n + m then some (pI 0 k (fun _ => 0)) else if h.1 ≤ q ∧ q < n then cF q else h.2.2 q) = if h.1 ≤ q ∧ q < n + m then cF q else h.2.2 q
  by_cases e : n ≤ q ∧ q < n + m
  · rw [if_pos e, if_pos (by omega), hc q e.1 e.2]
  · rw [if_neg e]
    by_cases g : h.1 ≤ q ∧ q < n
    · rw [if_pos g, if_pos (by omega)]
    · rw [if_neg g, if_neg (by omega)]
theorem st_M {h : HeapP} {n s a : Nat} {k l : Int32} {c : CellP} {f : HeapP → ResP} (m m2 n' s' : Nat) (hb : h.1 ≤ n) (ha : a < n) (hk : inb k 1000 = true ∧ inb l 1000 = true) (hm : k.toNatClampNeg = m) (hm2 : l.toNatClampNeg = m2) (hn' : n + 1 + m = n') (hs' : s + m + m * m2 = s') (hc : cF n = some (pR 6 m (fun i => if i < m then some (n + 1 + i) else none))) (hr : ∀ q, n + 1 ≤ q → q < n' → cF q = some (pI 0 m2 (fun _ => 0))) : (newM (hset (grw h n s) a c) k l).bind f = f (hset (grw h n' s') a c) := by
  unfold newM
  rw [if_pos hk, hm, hm2, hnew_hset (show a ≠ (grw h n s).1 by rw [grw_1]; omega)]
  have e : hnew (grw h n s) m (pR 6 m (fun i => if i < m then some ((hset (grw h n s) a c).1 + 1 + i) else none)) = grw h (n + 1) (s + m) := new_A hb rfl rfl hc
  rw [e, hrows_hset (by rw [grw_1]; omega), hrows_A (by omega) hn' hs' hr]; rfl
/-- a constructor that leaves its object done -/
def CtN (m n n' z sz : Nat) (x : CellP) (D : Nat) : Prop := ∀ (d : Nat) (h : HeapP), D ≤ d → h.1 = n → callP MP d m [.ref n] (hnew h sz x) = some (Sum.inl none, grw h n' (h.2.1 + z))
theorem st_C {m n n' z sz D : Nat} {x : CellP} (hK : CtN m n n' z sz x D) {d s a : Nat} {r : Nat} {h : HeapP} {c : CellP} {kk : HeapP → ResP} {kx : Nat → HeapP → ResP} (hd : D ≤ d) (s' : Nat) (hb : h.1 ≤ n) (ha : a < n) (hn : n ≤ n') (hs' : s + z = s') (hr : r = n) : cV (callP MP d m [.ref r] (hnew (hset (grw h n s) a c) sz x)) kk kx = kk (hset (grw h n' s') a c) := by
  rw [hr, cV_ret (hK d (hset (grw h n s) a c) hd rfl), grw_set (show a < (grw h n s).1 by rw [grw_1]; exact ha), grw_grw hb hn]
  subst hs'; rfl
theorem ct_N {m n n1 s1 z sz D ml ci : Nat} {fs fs' : List Value} {code : List (Nat × SemP)} (hM : MP m = some (ml, some ci, code)) (hci : ci < 100) (hl : Nat.ble 1 ml = true) (hf : cF n = some (pO ci fs')) (hn1 : n < n1)
    (hrun : ∀ (d s : Nat) (h : HeapP), D ≤ d → h.1 ≤ n → h.1 = n → runP MP d m (entP ml [.ref n] (hset (grw h (n + 1) s) n (pO ci fs))) = some (Sum.inl none, hset (grw h n1 (s + z)) n (pO ci fs'))) : CtN m n n1 (sz + z) sz (pO ci fs) (D + 1) := by
  intro d h hd hh
  subst hh
  rw [new_T]
  refine into hd hM (rcv_raw hset_at hci) hl fun d hd => ?_
  rw [hrun d _ h hd (Nat.le_refl _) rfl, grw_fin ⟨Nat.le_refl _, hn1⟩ hf, Nat.add_assoc]
end S94zzzzzp
