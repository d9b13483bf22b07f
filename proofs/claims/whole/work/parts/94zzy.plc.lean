/-! CLASS: reading a plain 6 -/
section S94zzy
set_option linter.unusedVariables false
set_option linter.unusedSimpArgs false
theorem shx_same {E E' : EnQ} {q : Nat} (h : E'.2.2.1 q = E.2.2.1 q) : shx E' q = shx E q := by
  by_cases z : 16 ≤ q ∧ q ≤ 246
  · exact shx_lo z
  · have : ∀ E' : EnQ, shx E' q = E'.2.2.1 q := fun E' => by
      unfold shx
      have hb : (Nat.ble 16 q && Nat.ble q 246) = false := by
        cases h1 : Nat.ble 16 q with
        | false => rfl
        | true =>
          cases h2 : Nat.ble q 246 with
          | false => rfl
          | true => exact absurd ⟨Nat.le_of_ble_eq_true h1, Nat.le_of_ble_eq_true h2⟩ z
      rw [hb]; rfl
    rw [this, this]
    exact h
/-- a reader more -/
def rdE (E : EnQ) : EnQ := (E.1 + 1, E.2.1 + 8, fun q => if q = E.1 then (1, 3, 0) else E.2.2.1 q, uR E.2.2.2 E.1 (fun _ => 17))
def rdW (x : Int) : Int → Int32 := uC (uC (fun _ => 0) 1 (zI x)) 7 (zI (-1))
def rdL (x : Int) : List Value := [.ref 17, .int (zI x), .int 0, .int 0, .int 0, .int 0, .int 0, .int (zI (-1))]
theorem rd_mk {E : EnQ} {F : Nat → Int → Int32} {G : Nat → Int → Int64} {x : Int} (hE : 247 ≤ E.1) : hset (hjnk (mk E F G) 1 8) E.1 (pO 3 (rdL x)) = mk (rdE E) (uR F E.1 (rdW x)) G := by
  have hc : ∀ q, (hset (hjnk (mk E F G) 1 8) E.1 (pO 3 (rdL x))).2.2 q = (mk (rdE E) (uR F E.1 (rdW x)) G).2.2 q := by
    intro q
    by_cases g : q = E.1
    · rw [g, hset_at]
      have es : shx (rdE E) E.1 = (1, 3, 0) := by rw [shx_hi hE]; exact if_pos rfl
      have er : (rdE E).2.2.2 E.1 = fun _ => 17 := uR_at
      rw [mk_at es, uR_at, er]; rfl
    · rw [hset_ne g, hj_2]
      have es : shx (rdE E) q = shx E q := shx_same (if_neg g)
      have er : (rdE E).2.2.2 q = E.2.2.2 q := uR_ne g
      rw [mk_at es, uR_ne g, er]; exact mk_at rfl
  have h3 : hset (hjnk (mk E F G) 1 8) E.1 (pO 3 (rdL x)) = ((hset (hjnk (mk E F G) 1 8) E.1 (pO 3 (rdL x))).1, (hset (hjnk (mk E F G) 1 8) E.1 (pO 3 (rdL x))).2.1, (hset (hjnk (mk E F G) 1 8) E.1 (pO 3 (rdL x))).2.2) := rfl
  rw [h3, funext hc]
  rfl
/-- a plain more -/
def plE (E : EnQ) : EnQ := (E.1 + 6, E.2.1 + 185, fun q => if E.1 ≤ q ∧ q < E.1 + 6 then sh0 (19 + (q - E.1)) else E.2.2.1 q, E.2.2.2)
def plF (E : EnQ) (F : Nat → Int → Int32) : Nat → Int → Int32 := fun q => if E.1 ≤ q ∧ q < E.1 + 6 then snRw (q - E.1 + 1) else F q
theorem plH_k {h : HeapP} {n : Nat} (hn : h.1 = n + 1) (k : Nat) (hk : k < 6) : (plH h n).2.2 (n + k) = some (match k with
  | 0 => pO 2 (plL h.1)
  | 1 => z0 32
  | 2 => pI 0 100 (flf (-1) (fun _ => 0) 100)
  | 3 => z0 4
  | 4 => z0 4
  | _ => z0 32) := by
  unfold plH
  rcases (show k = 0 ∨ k = 1 ∨ k = 2 ∨ k = 3 ∨ k = 4 ∨ k = 5 by omega) with rfl | rfl | rfl | rfl | rfl | rfl <;> simp (disch := first | omega | (simp only [hset_1, hnew_1, hj_1]; omega)) only [hs_eq, hset_ne, hn_eq, hn_ne, hj_2, hj_1]
theorem plH_ne {h : HeapP} {n q : Nat} (hn : h.1 = n + 1) (hq : q < n ∨ n + 6 ≤ q) : (plH h n).2.2 q = h.2.2 q := by
  unfold plH
  simp (disch := first | omega | (simp only [hset_1, hnew_1, hj_1]; omega)) only [hset_ne, hn_ne, hj_2]
theorem plS_k {E : EnQ} (hE : 247 ≤ E.1) (k : Nat) (hk : k < 6) : shx (plE E) (E.1 + k) = sh0 (19 + k) := by
  rw [shx_hi (by omega)]
  show (if E.1 ≤ E.1 + k ∧ E.1 + k < E.1 + 6 then sh0 (19 + (E.1 + k - E.1)) else _) = _
  rw [if_pos (by omega), show E.1 + k - E.1 = k by omega]
theorem plF_k {E : EnQ} {F : Nat → Int → Int32} (k : Nat) (hk : k < 6) : plF E F (E.1 + k) = snRw (k + 1) := by
  show (if E.1 ≤ E.1 + k ∧ E.1 + k < E.1 + 6 then snRw (E.1 + k - E.1 + 1) else _) = _
  rw [if_pos (by omega), show E.1 + k - E.1 = k by omega]
theorem pl_mk {E : EnQ} {F : Nat → Int → Int32} {G : Nat → Int → Int64} (hE : 247 ≤ E.1) : plH (hjnk (mk E F G) 1 13) E.1 = mk (plE E) (plF E F) G := by
  have h1 : (hjnk (mk E F G) 1 13).1 = E.1 + 1 := rfl
  have hc : ∀ q, (plH (hjnk (mk E F G) 1 13) E.1).2.2 q = (mk (plE E) (plF E F) G).2.2 q := by
    intro q
    by_cases g : E.1 ≤ q ∧ q < E.1 + 6
    · obtain ⟨k, rfl⟩ : ∃ k, q = E.1 + k := ⟨q - E.1, by omega⟩
      have hk : k < 6 := by omega
      rw [plH_k h1 k hk, h1, mk_at (plS_k hE k hk), plF_k k hk]
      rcases (show k = 0 ∨ k = 1 ∨ k = 2 ∨ k = 3 ∨ k = 4 ∨ k = 5 by omega) with rfl | rfl | rfl | rfl | rfl | rfl
      · rfl
      · rfl
      · refine congrArg some ?_
        show pI 0 100 (flf (-1) (fun _ => 0) 100) = pI 0 100 (fun i : Nat => if (i : Int) < 100 then -1 else 0)
        refine congrArg (pI 0 100) (funext fun i => ?_)
        unfold flf
        by_cases z : i < 100
        · rw [if_pos z, if_pos (by omega)]
        · rw [if_neg z, if_neg (by omega)]
      all_goals rfl
    · rw [plH_ne h1 (by omega), hj_2]
      have es : shx (plE E) q = shx E q := shx_same (if_neg g)
      have ef : plF E F q = F q := if_neg g
      rw [mk_at es, ef]; exact mk_at rfl
  have h3 : (plH (hjnk (mk E F G) 1 13) E.1) = ((plH (hjnk (mk E F G) 1 13) E.1).1, (plH (hjnk (mk E F G) 1 13) E.1).2.1, (plH (hjnk (mk E F G) 1 13) E.1).2.2) := rfl
  rw [h3, funext hc]
  rfl
theorem rd_new {E : EnQ} (hE : 247 ≤ E.1) : RdE (plE (rdE E)) E.1 (E.1 + 1) := by
  have hE2 : 247 ≤ (rdE E).1 := by show 247 ≤ E.1 + 1; omega
  have hk : ∀ k, k < 6 → shx (plE (rdE E)) (E.1 + 1 + k) = sh0 (19 + k) := fun k hk => plS_k hE2 k hk
  refine ⟨?_, ?_, ⟨hk 0 (by omega), hk 1 (by omega), hk 2 (by omega), hk 3 (by omega), hk 4 (by omega), hk 5 (by omega)⟩, by omega, by omega, by omega⟩
  · rw [shx_hi hE]
    show (if E.1 + 1 ≤ E.1 ∧ E.1 < E.1 + 1 + 6 then _ else if E.1 = E.1 then ((1, 3, 0) : ShP) else _) = _
    rw [if_neg (by omega), if_pos rfl]
  · show uR E.2.2.2 E.1 (fun _ => 17) E.1 0 = 17
    rw [uR_at]
end S94zzy
