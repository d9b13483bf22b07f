/-! new snows -/
section S94zp
set_option linter.unusedVariables false
set_option linter.unusedSimpArgs false
theorem hj_1 {h : HeapP} {n s : Nat} : (hjnk h n s).1 = h.1 + n := rfl
theorem mk_1 {E : EnQ} {F : Nat → Int → Int32} {G : Nat → Int → Int64} : (mk E F G).1 = E.1 := rfl
theorem hj_2 {h : HeapP} {n s q : Nat} : (hjnk h n s).2.2 q = h.2.2 q := rfl
theorem hs_eq {h : HeapP} {a q : Nat} {c : CellP} (hq : q = a) : (hset h a c).2.2 q = some c := if_pos hq
theorem hn_eq {h : HeapP} {s q : Nat} {c : CellP} (hq : q = h.1) : (hnew h s c).2.2 q = some c := if_pos hq
theorem hn_ne {h : HeapP} {s q : Nat} {c : CellP} (hq : q ≠ h.1) : (hnew h s c).2.2 q = h.2.2 q := if_neg hq
theorem hset_comm {h : HeapP} {a b : Nat} {c x : CellP} (hab : a ≠ b) : hset (hset h a c) b x = hset (hset h b x) a c := by
  unfold hset
  refine congrArg (fun z => (h.1, h.2.1, z)) (funext fun q => ?_)
  show (if q = b then some x else if q = a then some c else h.2.2 q) = if q = a then some c else if q = b then some x else h.2.2 q
  by_cases e : q = a
  · rw [if_neg (fun z => hab (e.symm.trans z)), if_pos e, if_pos e]
  · by_cases g : q = b
    · rw [if_pos g, if_neg e, if_pos g]
    · rw [if_neg g, if_neg e, if_neg e, if_neg g]
theorem plH_set {h : HeapP} {a n : Nat} {c : CellP} (ha : a < h.1) (hn : n ≠ a) : plH (hset h a c) n = hset (plH h n) a c := by
  unfold plH
  rw [hset_1, hnew_hset (by omega), hnew_hset (by simp only [hnew_1]; omega), hnew_hset (by simp only [hnew_1]; omega), hnew_hset (by simp only [hnew_1]; omega), hnew_hset (by simp only [hnew_1]; omega), hset_comm (Ne.symm hn), hset_comm (show a ≠ h.1 + 1 by omega)]
theorem plH_1 {h : HeapP} {n : Nat} : (plH h n).1 = h.1 + 5 := rfl
def snL (n : Nat) : List Value := [.ref n, .int 20, .int 0, .int 0, .int 0, .ref (n + 6), .ref (n + 7), .ref (n + 8), .ref (n + 9), .ref (n + 10)]
def snH (h : HeapP) (a : Nat) : HeapP := hset (hnew (hnew (hnew (hnew (hnew (plH (hjnk h 1 13) h.1) 99 (z0 99)) 99 (z0 99)) 4 (z0 4)) 4 (z0 4)) 4 (z0 4)) a (pO 5 (snL h.1))
theorem rdI_raw {h : HeapP} {ci b k : Nat} {x : Int32} {fs : List Value} {α : Type} {f : Int32 → Option α} (hb : h.2.2 b = some (pO ci fs)) (hk : fs[k]? = some (.int x)) : (rdI h ci b k).bind f = f x := by
  unfold rdI rdV; rw [hb]
  show ((match (if ci = ci then fs[k]? else none) with | some (Value.int x) => some x | _ => none) : Option Int32).bind f = _
  rw [if_pos rfl, hk]; rfl
theorem plH_at {h : HeapP} {n : Nat} (hn : n < h.1) : (plH h n).2.2 n = some (pO 2 (plL h.1)) := by
  unfold plH
  rw [hset_ne (show n ≠ h.1 + 1 by omega), hset_at]
theorem ct_59r {d : Nat} {h : HeapP} {a : Nat} (ha : a < h.1) (hd : 3 ≤ d) : callP MP d 59 [.ref a] (hset h a (pO 5 fs_5)) = some (Sum.inl none, snH h a) := by
  refine into (D := 2) (by omega) hM_59 (rcv_raw hset_at (by decide)) rfl fun d hd => ?_
  show runP MP d 59 (0, [some (.ref a)], [], hset h a (pO 5 fs_5)) = _
  rw [q_59_0]
  have h24 : ∀ {kk : HeapP → ResP} {kx : Nat → HeapP → ResP}, cV (callP MP d 24 [.ref h.1] (hnew (hset h a (pO 5 fs_5)) 13 (pO 2 fs_2))) kk kx = kk (hset (plH (hjnk h 1 13) h.1) a (pO 5 fs_5)) := fun {kk kx} => by
    rw [hnew_set, hset_1, cV_ret (ct_24r (h := hjnk (hset h a (pO 5 fs_5)) 1 13) (a := h.1) (by show h.1 < h.1 + 1; omega) (by omega))]
    rw [show hjnk (hset h a (pO 5 fs_5)) 1 13 = hset (hjnk h 1 13) a (pO 5 fs_5) from rfl, plH_set (by show a < h.1 + 1; omega) (by omega)]
  have h20 : ∀ {L : List Value} {f : Int32 → ResP}, (rdI (hset (plH (hjnk h 1 13) h.1) a (pO 5 L)) 2 h.1 4).bind f = f 20 := fun {L f} => rdI_raw (fs := plL (h.1 + 1)) (by rw [hset_ne (by omega), plH_at (by show h.1 < h.1 + 1; omega)]; rfl) rfl
  have hr0 : ∀ {f : Nat → ResP}, (rdA (hset (plH (hjnk h 1 13) h.1) a (pO 5 (fs_5.set 0 (.ref h.1)))) 5 a 0).bind f = f h.1 := fun {f} => rdr rfl
  simp only [Option.bind_some, hset_1]
  rw [h24, wrr (by decide), hr0, h20]
  simp (disch := first | decide | (simp only [List.length_set]; decide) | (simp only [hset_1, hnew_1, plH_1, hj_1]; omega)) only [wrr, nir99, nir4, Option.bind_some, hset_1, hnew_1, plH_1, hj_1]
  unfold snH
  rfl
/-- a snow more, in the memory -/
def snRw (k : Nat) : Int → Int32 := match k with
  | 0 => uC (fun _ => 0) 1 20
  | 1 => uC (uC (fun _ => 0) 4 20) 5 20
  | 3 => fun i => if i < 100 then -1 else 0
  | _ => fun _ => 0
def snE (E : EnQ) : EnQ := (E.1 + 12, E.2.1 + 405, fun q => if E.1 ≤ q ∧ q < E.1 + 12 then sh0 (18 + (q - E.1)) else E.2.2.1 q, uR E.2.2.2 E.1 (fun _ => E.1 + 1))
def snF (E : EnQ) (F : Nat → Int → Int32) : Nat → Int → Int32 := fun q => if E.1 ≤ q ∧ q < E.1 + 12 then snRw (q - E.1) else F q
theorem shx_hi {E : EnQ} {q : Nat} (h : 247 ≤ q) : shx E q = E.2.2.1 q := by
  unfold shx
  have hb : (Nat.ble 16 q && Nat.ble q 246) = false := by
    rw [Bool.and_eq_false_iff]
    right
    cases hh : Nat.ble q 246 with
    | false => rfl
    | true => have := Nat.le_of_ble_eq_true hh; omega
  rw [hb]; rfl
theorem shx_lo {E E' : EnQ} {q : Nat} (h : 16 ≤ q ∧ q ≤ 246) : shx E' q = shx E q := by
  unfold shx
  have hb : (Nat.ble 16 q && Nat.ble q 246) = true := by
    rw [Bool.and_eq_true]; exact ⟨Nat.ble_eq.mpr (by omega), Nat.ble_eq.mpr (by omega)⟩
  rw [hb]; rfl
theorem snH_at {h : HeapP} {n : Nat} (hn : h.1 = n + 1) (k : Nat) (hk : k < 12) : (snH h n).2.2 (n + k) = some (match k with
  | 0 => pO 5 (snL h.1)
  | 1 => pO 2 (plL (h.1 + 1))
  | 2 => z0 32
  | 3 => pI 0 100 (flf (-1) (fun _ => 0) 100)
  | 4 => z0 4
  | 5 => z0 4
  | 6 => z0 32
  | 7 => z0 99
  | 8 => z0 99
  | _ => z0 4) := by
  unfold snH plH
  rcases (show k = 0 ∨ k = 1 ∨ k = 2 ∨ k = 3 ∨ k = 4 ∨ k = 5 ∨ k = 6 ∨ k = 7 ∨ k = 8 ∨ k = 9 ∨ k = 10 ∨ k = 11 by omega) with rfl | rfl | rfl | rfl | rfl | rfl | rfl | rfl | rfl | rfl | rfl | rfl <;> simp (disch := first | omega | (simp only [hset_1, hnew_1, hj_1]; omega)) only [hs_eq, hset_ne, hn_eq, hn_ne, hj_2, hj_1]
theorem snH_ne {h : HeapP} {n q : Nat} (hn : h.1 = n + 1) (hq : q < n ∨ n + 12 ≤ q) : (snH h n).2.2 q = h.2.2 q := by
  unfold snH plH
  simp (disch := first | omega | (simp only [hset_1, hnew_1, hj_1]; omega)) only [hset_ne, hn_ne, hj_2]
theorem snH_mk {E : EnQ} {F : Nat → Int → Int32} {G : Nat → Int → Int64} (hE : 247 ≤ E.1) : snH (hjnk (mk E F G) 1 10) E.1 = mk (snE E) (snF E F) G := by
  have h1 : (hjnk (mk E F G) 1 10).1 = E.1 + 1 := rfl
  have hc : ∀ q, (snH (hjnk (mk E F G) 1 10) E.1).2.2 q = (mk (snE E) (snF E F) G).2.2 q := by
    intro q
    by_cases g : E.1 ≤ q ∧ q < E.1 + 12
    · obtain ⟨k, rfl⟩ : ∃ k, q = E.1 + k := ⟨q - E.1, by omega⟩
      have hk : k < 12 := by omega
      rw [snH_at h1 k hk, h1]
      have es : shx (snE E) (E.1 + k) = sh0 (18 + k) := by
        rw [shx_hi (by omega)]
        show (if E.1 ≤ E.1 + k ∧ E.1 + k < E.1 + 12 then sh0 (18 + (E.1 + k - E.1)) else _) = _
        rw [if_pos g, show E.1 + k - E.1 = k by omega]
      have ef : snF E F (E.1 + k) = snRw k := by
        show (if E.1 ≤ E.1 + k ∧ E.1 + k < E.1 + 12 then snRw (E.1 + k - E.1) else _) = _
        rw [if_pos g, show E.1 + k - E.1 = k by omega]
      rw [mk_at es, ef]
      rcases (show k = 0 ∨ k = 1 ∨ k = 2 ∨ k = 3 ∨ k = 4 ∨ k = 5 ∨ k = 6 ∨ k = 7 ∨ k = 8 ∨ k = 9 ∨ k = 10 ∨ k = 11 by omega) with rfl | rfl | rfl | rfl | rfl | rfl | rfl | rfl | rfl | rfl | rfl | rfl
      · have er : (snE E).2.2.2 (E.1 + 0) = fun _ => E.1 + 1 := uR_at
        rw [er]; rfl
      · rfl
      · rfl
      · refine congrArg some ?_
        show pI 0 100 (flf (-1) (fun _ => 0) 100) = pI 0 100 (fun i : Nat => if (i : Int) < 100 then -1 else 0)
        refine congrArg (pI 0 100) (funext fun i => ?_)
        unfold flf
        by_cases z : i < 100
        · rw [if_pos z, if_pos (by omega)]
        · rw [if_neg z, if_neg (by omega)]
      all_goals rfl
    · rw [snH_ne h1 (by omega), hj_2]
      have es : shx (snE E) q = shx E q := by
        by_cases z : 16 ≤ q ∧ q ≤ 246
        · exact shx_lo z
        · have : ∀ E' : EnQ, shx E' q = E'.2.2.1 q := fun E' => by
            unfold shx
            have hb : (Nat.ble 16 q && Nat.ble q 246) = false := by
              cases h1 : Nat.ble 16 q with
              | false => rfl
              | true =>
                cases h2 : Nat.ble q 246 with
                | false => rfl
                | true => exact absurd ⟨Nat.le_of_ble_eq_true h1, Nat.le_of_ble_eq_true h2⟩ z
            rw [hb]; rfl
          rw [this, this]
          exact if_neg g
      have ef : snF E F q = F q := if_neg g
      have er : (snE E).2.2.2 q = E.2.2.2 q := uR_ne (by omega)
      rw [mk_at es, ef, er]; exact mk_at rfl
  have h3 : (snH (hjnk (mk E F G) 1 10) E.1) = ((snH (hjnk (mk E F G) 1 10) E.1).1, (snH (hjnk (mk E F G) 1 10) E.1).2.1, (snH (hjnk (mk E F G) 1 10) E.1).2.2) := rfl
  rw [h3, funext hc]
  rfl
theorem SnS_new {E : EnQ} (hE : 247 ≤ E.1) : SnS (snE E) E.1 := by
  have es : ∀ k, k < 12 → shx (snE E) (E.1 + k) = sh0 (18 + k) := fun k hk => by
    rw [shx_hi (by omega)]
    show (if E.1 ≤ E.1 + k ∧ E.1 + k < E.1 + 12 then sh0 (18 + (E.1 + k - E.1)) else _) = _
    rw [if_pos (by omega), show E.1 + k - E.1 = k by omega]
  exact ⟨es 0 (by omega), es 7 (by omega), es 8 (by omega), es 9 (by omega), es 10 (by omega), es 11 (by omega)⟩
end S94zp
