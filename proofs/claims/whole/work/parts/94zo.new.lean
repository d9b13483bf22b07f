/-! new objects -/
section S94zo
set_option linter.unusedVariables false
set_option linter.unusedSimpArgs false
theorem hset_hset {h : HeapP} {a : Nat} {c c' : CellP} : hset (hset h a c) a c' = hset h a c' := by
  unfold hset
  refine congrArg (fun z => (h.1, h.2.1, z)) (funext fun q => ?_)
  by_cases e : q = a
  · rw [if_pos e, if_pos e]
  · rw [if_neg e, if_neg e]; exact if_neg e
theorem hnew_hset {h : HeapP} {a sz : Nat} {c x : CellP} (ha : a ≠ h.1) : hnew (hset h a c) sz x = hset (hnew h sz x) a c := by
  unfold hset hnew
  refine congrArg (fun z => (h.1 + 1, h.2.1 + sz, z)) (funext fun q => ?_)
  show (if q = h.1 then some x else if q = a then some c else h.2.2 q) = if q = a then some c else if q = h.1 then some x else h.2.2 q
  by_cases e : q = a
  · rw [if_neg (fun z => ha (e.symm.trans z)), if_pos e, if_pos e]
  · by_cases g : q = h.1
    · rw [if_pos g, if_neg e, if_pos g]
    · rw [if_neg g, if_neg e, if_neg e, if_neg g]
theorem hset_at {h : HeapP} {a : Nat} {c : CellP} : (hset h a c).2.2 a = some c := if_pos rfl
theorem hset_ne {h : HeapP} {a b : Nat} {c : CellP} (hb : b ≠ a) : (hset h a c).2.2 b = h.2.2 b := if_neg hb
theorem hset_1 {h : HeapP} {a : Nat} {c : CellP} : (hset h a c).1 = h.1 := rfl
theorem hnew_1 {h : HeapP} {sz : Nat} {c : CellP} : (hnew h sz c).1 = h.1 + 1 := rfl
theorem hnew_set {h : HeapP} {sz : Nat} {c : CellP} : hnew h sz c = hset (hjnk h 1 sz) h.1 c := rfl
theorem wrr {h : HeapP} {a ci k : Nat} {fs : List Value} {v : Value} {α : Type} {f : HeapP → Option α} (hk : k < fs.length) : (wrV (hset h a (pO ci fs)) ci a k v).bind f = f (hset h a (pO ci (fs.set k v))) := by
  unfold wrV; rw [hset_at]
  show (if ci = ci ∧ k < fs.length then some (hset (hset h a (pO ci fs)) a (pO ci (fs.set k v))) else none).bind f = _
  rw [if_pos ⟨rfl, hk⟩, hset_hset]; rfl
def z0 (n : Nat) : CellP := pI 0 n (fun _ => 0)
theorem nir {h : HeapP} {a : Nat} {c : CellP} {n : Int32} {m : Nat} {α : Type} {f : HeapP → Option α} (ha : a ≠ h.1) (hn : inb n 100000 = true) (hm : n.toNatClampNeg = m) : (newI (hset h a c) 0 n).bind f = f (hset (hnew h m (z0 m)) a c) := by
  unfold newI
  rw [if_pos hn, hm]
  show f (hnew (hset h a c) m (pI 0 m (fun _ => 0))) = _
  rw [hnew_hset ha]; rfl
theorem nir4 {h : HeapP} {a : Nat} {c : CellP} {α : Type} {f : HeapP → Option α} (ha : a ≠ h.1) : (newI (hset h a c) 0 4).bind f = f (hset (hnew h 4 (z0 4)) a c) := nir ha (by decide) (by decide)
theorem nir32 {h : HeapP} {a : Nat} {c : CellP} {α : Type} {f : HeapP → Option α} (ha : a ≠ h.1) : (newI (hset h a c) 0 32).bind f = f (hset (hnew h 32 (z0 32)) a c) := nir ha (by decide) (by decide)
theorem nir99 {h : HeapP} {a : Nat} {c : CellP} {α : Type} {f : HeapP → Option α} (ha : a ≠ h.1) : (newI (hset h a c) 0 99).bind f = f (hset (hnew h 99 (z0 99)) a c) := nir ha (by decide) (by decide)
theorem nir100 {h : HeapP} {a : Nat} {c : CellP} {α : Type} {f : HeapP → Option α} (ha : a ≠ h.1) : (newI (hset h a c) 0 100).bind f = f (hset (hnew h 100 (z0 100)) a c) := nir ha (by decide) (by decide)
theorem rdr {h : HeapP} {a ci k r : Nat} {fs : List Value} {α : Type} {f : Nat → Option α} (hk : fs[k]? = some (.ref r)) : (rdA (hset h a (pO ci fs)) ci a k).bind f = f r := by
  unfold rdA rdV; rw [hset_at]
  show ((match (if ci = ci then fs[k]? else none) with | some (Value.ref x) => some x | _ => none) : Option Nat).bind f = _
  rw [if_pos rfl, hk]; rfl
theorem rcv_raw {h : HeapP} {a ci : Nat} {fs : List Value} {as : List Value} (hc : h.2.2 a = some (pO ci fs)) (hci : ci < 100) : rcvP (some ci) (.ref a :: as) h = true := by
  unfold rcvP
  have hn : Nat.beq ci 100 = false := by
    cases h : Nat.beq ci 100 with
    | false => rfl
    | true => exact absurd (Nat.eq_of_beq_eq_true h) (by omega)
  simp only [hn, cond_false]
  rw [hc]
  exact Nat.beq_refl ci
/-- all places of a row -/
def flf (v : Int32) (f : Nat → Int32) (j : Nat) : Nat → Int32 := fun i => if i < j then v else f i
theorem flf_0 {v : Int32} {f : Nat → Int32} : flf v f 0 = f := by funext i; exact if_neg (by omega)
theorem flf_s {v : Int32} {f : Nat → Int32} {j : Nat} : upd (flf v f j) j v = flf v f (j + 1) := by
  funext i
  unfold upd flf
  by_cases e : i = j
  · rw [if_pos e, if_pos (by omega)]
  · rw [if_neg e]
    by_cases g : i < j
    · rw [if_pos g, if_pos (by omega)]
    · rw [if_neg g, if_neg (by omega)]
theorem clampN {j : Nat} (h : j < 2147483648) : (zI (j : Int)).toNatClampNeg = j := by
  have := clamp_z (i := (j : Int)) (by omega)
  omega
theorem ct_0r {d : Nat} {h : HeapP} {a n : Nat} {f : Nat → Int32} {v : Int32} (hn : n < 2147483648) (hd : 1 ≤ d) : callP MP d 0 [.ref a, .int v] (hset h a (pI 0 n f)) = some (Sum.inl none, hset h a (pI 0 n (flf v f n))) := by
  refine into (D := 0) (by omega) hM_0 rfl rfl fun d hd => ?_
  show runP MP d 0 (0, [some (.ref a), some (.int v), none, none], [], hset h a (pI 0 n f)) = _
  have h0 : runP MP d 0 (0, [some (.ref a), some (.int v), none, none], [], hset h a (pI 0 n f)) = runP MP d 0 (5, [some (.ref a), some (.int v), some (.int (zI ((0 : Nat) : Int))), some (.int (zI n))], [], hset h a (pI 0 n (flf v f 0))) := by
    rw [flf_0, q_0_0]
    have : alenP (hset h a (pI 0 n f)) a = some (nI n) := by unfold alenP; rw [hset_at]; rfl
    rw [this]
    have e : nI n = zI n := (Int32.ofInt_eq_ofNat (n := n)).symm
    rw [e]; rfl
  rw [h0]
  refine (loopN (fun j : Nat => runP MP d 0 (5, [some (.ref a), some (.int v), some (.int (zI (j : Int))), some (.int (zI n))], [], hset h a (pI 0 n (flf v f j)))) n (fun j hj => ?_)).trans ?_
  · show runP MP d 0 (5, [some (.ref a), some (.int v), some (.int (zI (j : Int))), some (.int (zI n))], [], hset h a (pI 0 n (flf v f j))) = runP MP d 0 (5, [some (.ref a), some (.int v), some (.int (zI ((j + 1 : Nat) : Int))), some (.int (zI n))], [], hset h a (pI 0 n (flf v f (j + 1))))
    rw [q_0_5]
    have hg : ¬ (zI (n : Int) ≤ zI (j : Int)) := by rw [leI (by omega)]; omega
    rw [if_neg (by rw [decide_eq_true_eq]; exact hg)]
    have hs : astI (hset h a (pI 0 n (flf v f j))) 0 a (zI (j : Int)) v = some (hset h a (pI 0 n (flf v f (j + 1)))) := by
      unfold astI; rw [hset_at]
      show (if 0 = 0 ∧ inb (zI (j : Int)) n = true then some (hset (hset h a (pI 0 n (flf v f j))) a (pI 0 n (upd (flf v f j) (zI (j : Int)).toNatClampNeg v))) else none) = _
      rw [if_pos ⟨rfl, inb_z (by omega) hn⟩, hset_hset, clampN (by omega), flf_s]
    rw [hs, nsucc]
    show runP MP d 0 (5, [some (.ref a), some (.int v), some (.int (zI (j : Int) + 1)), some (.int (zI n))], [], _) = _
    rw [litI, zI_add]
  · show runP MP d 0 (5, [some (.ref a), some (.int v), some (.int (zI (n : Int))), some (.int (zI n))], [], hset h a (pI 0 n (flf v f n))) = _
    rw [q_0_5, if_pos (by rw [decide_eq_true_eq, leI (by omega)]; omega)]
/-- a plain of no lines -/
def plL (n : Nat) : List Value := [.int 0, .int 0, .int 0, .int 0, .int 20, .int 20, .int 0, .int 0, .ref n, .ref (n + 1), .ref (n + 2), .ref (n + 3), .ref (n + 4)]
def plH (h : HeapP) (a : Nat) : HeapP := hset (hset (hnew (hnew (hnew (hnew (hnew h 32 (z0 32)) 100 (z0 100)) 4 (z0 4)) 4 (z0 4)) 32 (z0 32)) a (pO 2 (plL h.1))) (h.1 + 1) (pI 0 100 (flf (-1) (fun _ => 0) 100))
theorem ct_24r {d : Nat} {h : HeapP} {a : Nat} (ha : a < h.1) (hd : 2 ≤ d) : callP MP d 24 [.ref a] (hset h a (pO 2 fs_2)) = some (Sum.inl none, plH h a) := by
  refine into (D := 1) (by omega) hM_24 (rcv_raw hset_at (by decide)) rfl fun d hd => ?_
  show runP MP d 24 (0, [some (.ref a)], [], hset h a (pO 2 fs_2)) = _
  rw [q_24_0]
  simp (disch := first | decide | (simp only [List.length_set]; decide) | omega | (simp only [hnew_1]; omega)) only [wrr, nir32, nir100, nir4, Option.bind_some, hset_1, hnew_1]
  rw [rdr (r := h.1 + 1) rfl]
  have hx : ∀ (H : HeapP) (L : List Value) (x : CellP), H.2.2 (h.1 + 1) = some x → hset H a (pO 2 L) = hset (hset H a (pO 2 L)) (h.1 + 1) x := fun H L x hx => by
    unfold hset
    refine congrArg (fun z => (H.1, H.2.1, z)) (funext fun q => ?_)
    show (if q = a then some (pO 2 L) else H.2.2 q) = if q = h.1 + 1 then some x else if q = a then some (pO 2 L) else H.2.2 q
    by_cases e : q = h.1 + 1
    · rw [if_pos e, if_neg (by omega), e, hx]
    · rw [if_neg e]
  rw [hx _ _ (pI 0 100 (fun _ => 0)) (by
    show (if h.1 + 1 = h.1 + 1 + 1 + 1 + 1 then _ else if h.1 + 1 = h.1 + 1 + 1 + 1 then _ else if h.1 + 1 = h.1 + 1 + 1 then _ else if h.1 + 1 = h.1 + 1 then some (z0 100) else _) = _
    rw [if_neg (by omega), if_neg (by omega), if_neg (by omega), if_pos rfl]; rfl)]
  rw [cV_ret (ct_0r (by decide) (by omega))]
  rfl
end S94zo
