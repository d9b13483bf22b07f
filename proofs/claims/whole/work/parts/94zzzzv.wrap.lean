/-! TOP: the wrappers with handlers -/
section S94zzzzv
set_option linter.unusedVariables false
set_option linter.unusedSimpArgs false
def outG (G : Nat → Int → Int64) (c : Int) (v : Int64) : Nat → Int → Int64 := if c = 0 then uR G 246 (uC (G 246) 0 v) else G
theorem outG_0 {G : Nat → Int → Int64} {v : Int64} : outG G 0 v = uR G 246 (uC (G 246) 0 v) := if_pos rfl
theorem outG_n {G : Nat → Int → Int64} {c : Int} {v : Int64} (h : c ≠ 0) : outG G c v = G := if_neg h
theorem outG_ne {G : Nat → Int → Int64} {c : Int} {v : Int64} {q : Nat} (h : q ≠ 246) : outG G c v q = G q := by
  unfold outG; split
  · exact uR_ne h
  · rfl
theorem as_out {E : EnQ} {F : Nat → Int → Int32} {G : Nat → Int → Int64} {x : Int64} : ((astJ (mk E F G) 246 0 x).bind fun h4 => (some (Sum.inl (some (.int 0)), h4) : ResP)) = some (Sum.inl (some (.int (zI 0))), mk E F (outG G 0 x)) := by
  rw [li_0, asJ_b (E := E) (a := 246) (z := 0) (n := 1) (i := 0) (by rfl) (by omega) (by decide), outG_0]
theorem cal1 {m ml : Nat} {rc : Option Nat} {code : List (Nat × SemP)} {as : List Value} {h : HeapP} {d : Nat} {r : ResP} (hM : MP m = some (ml, rc, code)) (hr : rcvP rc as h = true) (hl : Nat.ble (entL as).length ml = true) (k : runP MP d m (entP ml as h) = r) : callP MP (d + 1) m as h = r := by
  unfold callP clP
  simp only [hM, hr, hl, Bool.and_self, cond_true]
  exact k
theorem wx_319 {d : Nat}  {al0 : Nat} {xl1 : Int32}  {h : HeapP} {E : EnQ} {F : Nat → Int → Int32} {G : Nat → Int → Int64} {a : Int × Int} (hc : callP MP d 123 [.ref al0, .int xl1] h = some (thrP [2] a, mk E F G)) (ha : 0 ≤ a.1 ∧ a.1 ≤ 1) : callP MP (d + 1) 319 [.ref al0, .int xl1, .ref 246] h = some (Sum.inl (some (.int (zI a.1))), mk E F (outG G a.1 (Int32.toInt64 (zI a.2)))) := by
  refine cal1 hM_319 rfl rfl ?_
  show runP MP d 319 (0, [some (.ref al0), some (.int xl1), some (.ref 246), none], [], h) = _
  obtain ⟨c, b⟩ := a
  dsimp only at ha ⊢
  have h3 : c = 0 ∨ c = 1 := by omega
  rcases h3 with rfl | rfl
  · rw [show thrP [2] ((0 : Int), b) = Sum.inl (some (.int (zI b))) from if_pos rfl] at hc
    rw [q_319_0 hc]; exact as_out
  · rw [show thrP [2] ((1 : Int), b) = Sum.inr 2 from if_neg (show ¬ ((1 : Int) = 0) by decide)] at hc
    rw [x_319_0_2 hc, q_319_13, outG_n (by decide)]; rfl
theorem wx_320 {d : Nat}  {al0 : Nat} {xl1 : Int32} {xl2 : Int32}  {h : HeapP} {E : EnQ} {F : Nat → Int → Int32} {G : Nat → Int → Int64} {a : Int × Int} (hc : callP MP d 125 [.ref al0, .int xl1, .int xl2] h = some (thrP [0, 2] a, mk E F G)) (ha : 0 ≤ a.1 ∧ a.1 ≤ 2) : callP MP (d + 1) 320 [.ref al0, .int xl1, .int xl2, .ref 246] h = some (Sum.inl (some (.int (zI a.1))), mk E F (outG G a.1 (Int32.toInt64 (zI a.2)))) := by
  refine cal1 hM_320 rfl rfl ?_
  show runP MP d 320 (0, [some (.ref al0), some (.int xl1), some (.int xl2), some (.ref 246), none], [], h) = _
  obtain ⟨c, b⟩ := a
  dsimp only at ha ⊢
  have h3 : c = 0 ∨ c = 1 ∨ c = 2 := by omega
  rcases h3 with rfl | rfl | rfl
  · rw [show thrP [0, 2] ((0 : Int), b) = Sum.inl (some (.int (zI b))) from if_pos rfl] at hc
    rw [q_320_0 hc]; exact as_out
  · rw [show thrP [0, 2] ((1 : Int), b) = Sum.inr 0 from if_neg (show ¬ ((1 : Int) = 0) by decide)] at hc
    rw [x_320_0_0 hc, q_320_15, outG_n (by decide)]; rfl
  · rw [show thrP [0, 2] ((2 : Int), b) = Sum.inr 2 from if_neg (show ¬ ((2 : Int) = 0) by decide)] at hc
    rw [x_320_0_2 hc, q_320_19, outG_n (by decide)]; rfl
theorem wx_321 {d : Nat}  {al0 : Nat} {xl1 : Int32} {xl2 : Int32}  {h : HeapP} {E : EnQ} {F : Nat → Int → Int32} {G : Nat → Int → Int64} {a : Int × Int} (hc : callP MP d 126 [.ref al0, .int xl1, .int xl2] h = some (thrP [0] a, mk E F G)) (ha : 0 ≤ a.1 ∧ a.1 ≤ 1) : callP MP (d + 1) 321 [.ref al0, .int xl1, .int xl2, .ref 246] h = some (Sum.inl (some (.int (zI a.1))), mk E F (outG G a.1 (Int32.toInt64 (zI a.2)))) := by
  refine cal1 hM_321 rfl rfl ?_
  show runP MP d 321 (0, [some (.ref al0), some (.int xl1), some (.int xl2), some (.ref 246), none], [], h) = _
  obtain ⟨c, b⟩ := a
  dsimp only at ha ⊢
  have h3 : c = 0 ∨ c = 1 := by omega
  rcases h3 with rfl | rfl
  · rw [show thrP [0] ((0 : Int), b) = Sum.inl (some (.int (zI b))) from if_pos rfl] at hc
    rw [q_321_0 hc]; exact as_out
  · rw [show thrP [0] ((1 : Int), b) = Sum.inr 0 from if_neg (show ¬ ((1 : Int) = 0) by decide)] at hc
    rw [x_321_0_0 hc, q_321_15, outG_n (by decide)]; rfl
theorem wx_322 {d : Nat}  {al0 : Nat} {xl1 : Int32} {xl2 : Int32}  {h : HeapP} {E : EnQ} {F : Nat → Int → Int32} {G : Nat → Int → Int64} {a : Int × Int} (hc : callP MP d 128 [.ref al0, .int xl1, .int xl2] h = some (thrP [0, 2] a, mk E F G)) (ha : 0 ≤ a.1 ∧ a.1 ≤ 2) : callP MP (d + 1) 322 [.ref al0, .int xl1, .int xl2, .ref 246] h = some (Sum.inl (some (.int (zI a.1))), mk E F (outG G a.1 (Int32.toInt64 (zI a.2)))) := by
  refine cal1 hM_322 rfl rfl ?_
  show runP MP d 322 (0, [some (.ref al0), some (.int xl1), some (.int xl2), some (.ref 246), none], [], h) = _
  obtain ⟨c, b⟩ := a
  dsimp only at ha ⊢
  have h3 : c = 0 ∨ c = 1 ∨ c = 2 := by omega
  rcases h3 with rfl | rfl | rfl
  · rw [show thrP [0, 2] ((0 : Int), b) = Sum.inl (some (.int (zI b))) from if_pos rfl] at hc
    rw [q_322_0 hc]; exact as_out
  · rw [show thrP [0, 2] ((1 : Int), b) = Sum.inr 0 from if_neg (show ¬ ((1 : Int) = 0) by decide)] at hc
    rw [x_322_0_0 hc, q_322_15, outG_n (by decide)]; rfl
  · rw [show thrP [0, 2] ((2 : Int), b) = Sum.inr 2 from if_neg (show ¬ ((2 : Int) = 0) by decide)] at hc
    rw [x_322_0_2 hc, q_322_19, outG_n (by decide)]; rfl
theorem wx_323 {d : Nat}  {al0 : Nat} {xl1 : Int32} {xl2 : Int32}  {h : HeapP} {E : EnQ} {F : Nat → Int → Int32} {G : Nat → Int → Int64} {a : Int × Int} (hc : callP MP d 130 [.ref al0, .int xl1, .int xl2] h = some (thrP [0, 2] a, mk E F G)) (ha : 0 ≤ a.1 ∧ a.1 ≤ 2) : callP MP (d + 1) 323 [.ref al0, .int xl1, .int xl2, .ref 246] h = some (Sum.inl (some (.int (zI a.1))), mk E F (outG G a.1 (Int32.toInt64 (zI a.2)))) := by
  refine cal1 hM_323 rfl rfl ?_
  show runP MP d 323 (0, [some (.ref al0), some (.int xl1), some (.int xl2), some (.ref 246), none], [], h) = _
  obtain ⟨c, b⟩ := a
  dsimp only at ha ⊢
  have h3 : c = 0 ∨ c = 1 ∨ c = 2 := by omega
  rcases h3 with rfl | rfl | rfl
  · rw [show thrP [0, 2] ((0 : Int), b) = Sum.inl (some (.int (zI b))) from if_pos rfl] at hc
    rw [q_323_0 hc]; exact as_out
  · rw [show thrP [0, 2] ((1 : Int), b) = Sum.inr 0 from if_neg (show ¬ ((1 : Int) = 0) by decide)] at hc
    rw [x_323_0_0 hc, q_323_15, outG_n (by decide)]; rfl
  · rw [show thrP [0, 2] ((2 : Int), b) = Sum.inr 2 from if_neg (show ¬ ((2 : Int) = 0) by decide)] at hc
    rw [x_323_0_2 hc, q_323_19, outG_n (by decide)]; rfl
theorem wx_324 {d : Nat}  {al0 : Nat} {xl1 : Int32}  {h : HeapP} {E : EnQ} {F : Nat → Int → Int32} {G : Nat → Int → Int64} {a : Int × Int} (hc : callP MP d 131 [.ref al0, .int xl1] h = some (thrP [2] a, mk E F G)) (ha : 0 ≤ a.1 ∧ a.1 ≤ 1) : callP MP (d + 1) 324 [.ref al0, .int xl1, .ref 246] h = some (Sum.inl (some (.int (zI a.1))), mk E F (outG G a.1 (Int32.toInt64 (zI a.2)))) := by
  refine cal1 hM_324 rfl rfl ?_
  show runP MP d 324 (0, [some (.ref al0), some (.int xl1), some (.ref 246), none], [], h) = _
  obtain ⟨c, b⟩ := a
  dsimp only at ha ⊢
  have h3 : c = 0 ∨ c = 1 := by omega
  rcases h3 with rfl | rfl
  · rw [show thrP [2] ((0 : Int), b) = Sum.inl (some (.int (zI b))) from if_pos rfl] at hc
    rw [q_324_0 hc]; exact as_out
  · rw [show thrP [2] ((1 : Int), b) = Sum.inr 2 from if_neg (show ¬ ((1 : Int) = 0) by decide)] at hc
    rw [x_324_0_2 hc, q_324_13, outG_n (by decide)]; rfl
theorem wx_325 {d : Nat}  {al0 : Nat} {xl1 : Int32}  {h : HeapP} {E : EnQ} {F : Nat → Int → Int32} {G : Nat → Int → Int64} {a : Int × Int} (hc : callP MP d 132 [.ref al0, .int xl1] h = some (thrP [2] a, mk E F G)) (ha : 0 ≤ a.1 ∧ a.1 ≤ 1) : callP MP (d + 1) 325 [.ref al0, .int xl1, .ref 246] h = some (Sum.inl (some (.int (zI a.1))), mk E F (outG G a.1 (Int32.toInt64 (zI a.2)))) := by
  refine cal1 hM_325 rfl rfl ?_
  show runP MP d 325 (0, [some (.ref al0), some (.int xl1), some (.ref 246), none], [], h) = _
  obtain ⟨c, b⟩ := a
  dsimp only at ha ⊢
  have h3 : c = 0 ∨ c = 1 := by omega
  rcases h3 with rfl | rfl
  · rw [show thrP [2] ((0 : Int), b) = Sum.inl (some (.int (zI b))) from if_pos rfl] at hc
    rw [q_325_0 hc]; exact as_out
  · rw [show thrP [2] ((1 : Int), b) = Sum.inr 2 from if_neg (show ¬ ((1 : Int) = 0) by decide)] at hc
    rw [x_325_0_2 hc, q_325_13, outG_n (by decide)]; rfl
theorem wx_326 {d : Nat}  {al0 : Nat} {xl1 : Int32}  {h : HeapP} {E : EnQ} {F : Nat → Int → Int32} {G : Nat → Int → Int64} {a : Int × Int} (hc : callP MP d 133 [.ref al0, .int xl1] h = some (thrP [2] a, mk E F G)) (ha : 0 ≤ a.1 ∧ a.1 ≤ 1) : callP MP (d + 1) 326 [.ref al0, .int xl1, .ref 246] h = some (Sum.inl (some (.int (zI a.1))), mk E F (outG G a.1 (Int32.toInt64 (zI a.2)))) := by
  refine cal1 hM_326 rfl rfl ?_
  show runP MP d 326 (0, [some (.ref al0), some (.int xl1), some (.ref 246), none], [], h) = _
  obtain ⟨c, b⟩ := a
  dsimp only at ha ⊢
  have h3 : c = 0 ∨ c = 1 := by omega
  rcases h3 with rfl | rfl
  · rw [show thrP [2] ((0 : Int), b) = Sum.inl (some (.int (zI b))) from if_pos rfl] at hc
    rw [q_326_0 hc]; exact as_out
  · rw [show thrP [2] ((1 : Int), b) = Sum.inr 2 from if_neg (show ¬ ((1 : Int) = 0) by decide)] at hc
    rw [x_326_0_2 hc, q_326_13, outG_n (by decide)]; rfl
theorem wx_327 {d : Nat}  {al0 : Nat} {xl1 : Int32} {xl2 : Int32}  {h : HeapP} {E : EnQ} {F : Nat → Int → Int32} {G : Nat → Int → Int64} {a : Int × Int} (hc : callP MP d 134 [.ref al0, .int xl1, .int xl2] h = some (thrP [0, 2] a, mk E F G)) (ha : 0 ≤ a.1 ∧ a.1 ≤ 2) : callP MP (d + 1) 327 [.ref al0, .int xl1, .int xl2, .ref 246] h = some (Sum.inl (some (.int (zI a.1))), mk E F (outG G a.1 (Int32.toInt64 (zI a.2)))) := by
  refine cal1 hM_327 rfl rfl ?_
  show runP MP d 327 (0, [some (.ref al0), some (.int xl1), some (.int xl2), some (.ref 246), none], [], h) = _
  obtain ⟨c, b⟩ := a
  dsimp only at ha ⊢
  have h3 : c = 0 ∨ c = 1 ∨ c = 2 := by omega
  rcases h3 with rfl | rfl | rfl
  · rw [show thrP [0, 2] ((0 : Int), b) = Sum.inl (some (.int (zI b))) from if_pos rfl] at hc
    rw [q_327_0 hc]; exact as_out
  · rw [show thrP [0, 2] ((1 : Int), b) = Sum.inr 0 from if_neg (show ¬ ((1 : Int) = 0) by decide)] at hc
    rw [x_327_0_0 hc, q_327_15, outG_n (by decide)]; rfl
  · rw [show thrP [0, 2] ((2 : Int), b) = Sum.inr 2 from if_neg (show ¬ ((2 : Int) = 0) by decide)] at hc
    rw [x_327_0_2 hc, q_327_19, outG_n (by decide)]; rfl
theorem wx_328 {d : Nat}  {al0 : Nat} {xl1 : Int32}  {h : HeapP} {E : EnQ} {F : Nat → Int → Int32} {G : Nat → Int → Int64} {a : Int × Int} (hc : callP MP d 135 [.ref al0, .int xl1] h = some (thrP [2] a, mk E F G)) (ha : 0 ≤ a.1 ∧ a.1 ≤ 1) : callP MP (d + 1) 328 [.ref al0, .int xl1, .ref 246] h = some (Sum.inl (some (.int (zI a.1))), mk E F (outG G a.1 (Int32.toInt64 (zI a.2)))) := by
  refine cal1 hM_328 rfl rfl ?_
  show runP MP d 328 (0, [some (.ref al0), some (.int xl1), some (.ref 246), none], [], h) = _
  obtain ⟨c, b⟩ := a
  dsimp only at ha ⊢
  have h3 : c = 0 ∨ c = 1 := by omega
  rcases h3 with rfl | rfl
  · rw [show thrP [2] ((0 : Int), b) = Sum.inl (some (.int (zI b))) from if_pos rfl] at hc
    rw [q_328_0 hc]; exact as_out
  · rw [show thrP [2] ((1 : Int), b) = Sum.inr 2 from if_neg (show ¬ ((1 : Int) = 0) by decide)] at hc
    rw [x_328_0_2 hc, q_328_13, outG_n (by decide)]; rfl
theorem wx_329 {d : Nat}  {al0 : Nat} {xl1 : Int32} {xl2 : Int32}  {h : HeapP} {E : EnQ} {F : Nat → Int → Int32} {G : Nat → Int → Int64} {a : Int × Int} (hc : callP MP d 136 [.ref al0, .int xl1, .int xl2] h = some (thrP [0, 1, 2] a, mk E F G)) (ha : 0 ≤ a.1 ∧ a.1 ≤ 3) : callP MP (d + 1) 329 [.ref al0, .int xl1, .int xl2, .ref 246] h = some (Sum.inl (some (.int (zI a.1))), mk E F (outG G a.1 (Int32.toInt64 (zI a.2)))) := by
  refine cal1 hM_329 rfl rfl ?_
  show runP MP d 329 (0, [some (.ref al0), some (.int xl1), some (.int xl2), some (.ref 246), none], [], h) = _
  obtain ⟨c, b⟩ := a
  dsimp only at ha ⊢
  have h3 : c = 0 ∨ c = 1 ∨ c = 2 ∨ c = 3 := by omega
  rcases h3 with rfl | rfl | rfl | rfl
  · rw [show thrP [0, 1, 2] ((0 : Int), b) = Sum.inl (some (.int (zI b))) from if_pos rfl] at hc
    rw [q_329_0 hc]; exact as_out
  · rw [show thrP [0, 1, 2] ((1 : Int), b) = Sum.inr 0 from if_neg (show ¬ ((1 : Int) = 0) by decide)] at hc
    rw [x_329_0_0 hc, q_329_15, outG_n (by decide)]; rfl
  · rw [show thrP [0, 1, 2] ((2 : Int), b) = Sum.inr 1 from if_neg (show ¬ ((2 : Int) = 0) by decide)] at hc
    rw [x_329_0_1 hc, q_329_19, outG_n (by decide)]; rfl
  · rw [show thrP [0, 1, 2] ((3 : Int), b) = Sum.inr 2 from if_neg (show ¬ ((3 : Int) = 0) by decide)] at hc
    rw [x_329_0_2 hc, q_329_23, outG_n (by decide)]; rfl
theorem wx_330 {d : Nat}  {al0 : Nat} {xl1 : Int32}  {h : HeapP} {E : EnQ} {F : Nat → Int → Int32} {G : Nat → Int → Int64} {a : Int × Int} (hc : callP MP d 141 [.ref al0, .int xl1] h = some (thrP [0, 1] a, mk E F G)) (ha : 0 ≤ a.1 ∧ a.1 ≤ 2) : callP MP (d + 1) 330 [.ref al0, .int xl1, .ref 246] h = some (Sum.inl (some (.int (zI a.1))), mk E F (outG G a.1 (Int32.toInt64 (zI a.2)))) := by
  refine cal1 hM_330 rfl rfl ?_
  show runP MP d 330 (0, [some (.ref al0), some (.int xl1), some (.ref 246), none], [], h) = _
  obtain ⟨c, b⟩ := a
  dsimp only at ha ⊢
  have h3 : c = 0 ∨ c = 1 ∨ c = 2 := by omega
  rcases h3 with rfl | rfl | rfl
  · rw [show thrP [0, 1] ((0 : Int), b) = Sum.inl (some (.int (zI b))) from if_pos rfl] at hc
    rw [q_330_0 hc]; exact as_out
  · rw [show thrP [0, 1] ((1 : Int), b) = Sum.inr 0 from if_neg (show ¬ ((1 : Int) = 0) by decide)] at hc
    rw [x_330_0_0 hc, q_330_13, outG_n (by decide)]; rfl
  · rw [show thrP [0, 1] ((2 : Int), b) = Sum.inr 1 from if_neg (show ¬ ((2 : Int) = 0) by decide)] at hc
    rw [x_330_0_1 hc, q_330_16, outG_n (by decide)]; rfl
theorem wx_331 {d : Nat}  {al0 : Nat} {xl1 : Int32} {xl2 : Int32}  {h : HeapP} {E : EnQ} {F : Nat → Int → Int32} {G : Nat → Int → Int64} {a : Int × Int} (hc : callP MP d 142 [.ref al0, .int xl1, .int xl2] h = some (thrP [2, 1] a, mk E F G)) (ha : 0 ≤ a.1 ∧ a.1 ≤ 2) : callP MP (d + 1) 331 [.ref al0, .int xl1, .int xl2, .ref 246] h = some (Sum.inl (some (.int (zI a.1))), mk E F (outG G a.1 (Int32.toInt64 (zI a.2)))) := by
  refine cal1 hM_331 rfl rfl ?_
  show runP MP d 331 (0, [some (.ref al0), some (.int xl1), some (.int xl2), some (.ref 246), none], [], h) = _
  obtain ⟨c, b⟩ := a
  dsimp only at ha ⊢
  have h3 : c = 0 ∨ c = 1 ∨ c = 2 := by omega
  rcases h3 with rfl | rfl | rfl
  · rw [show thrP [2, 1] ((0 : Int), b) = Sum.inl (some (.int (zI b))) from if_pos rfl] at hc
    rw [q_331_0 hc]; exact as_out
  · rw [show thrP [2, 1] ((1 : Int), b) = Sum.inr 2 from if_neg (show ¬ ((1 : Int) = 0) by decide)] at hc
    rw [x_331_0_2 hc, q_331_15, outG_n (by decide)]; rfl
  · rw [show thrP [2, 1] ((2 : Int), b) = Sum.inr 1 from if_neg (show ¬ ((2 : Int) = 0) by decide)] at hc
    rw [x_331_0_1 hc, q_331_19, outG_n (by decide)]; rfl
theorem wx_332 {d : Nat}  {al0 : Nat} {xl1 : Int32} {xl2 : Int32} {xl3 : Int32}  {h : HeapP} {E : EnQ} {F : Nat → Int → Int32} {G : Nat → Int → Int64} {a : Int × Int} (hc : callP MP d 143 [.ref al0, .int xl1, .int xl2, .int xl3] h = some (thrP [0, 1] a, mk E F G)) (ha : 0 ≤ a.1 ∧ a.1 ≤ 2) : callP MP (d + 1) 332 [.ref al0, .int xl1, .int xl2, .int xl3, .ref 246] h = some (Sum.inl (some (.int (zI a.1))), mk E F (outG G a.1 (Int32.toInt64 (zI a.2)))) := by
  refine cal1 hM_332 rfl rfl ?_
  show runP MP d 332 (0, [some (.ref al0), some (.int xl1), some (.int xl2), some (.int xl3), some (.ref 246), none], [], h) = _
  obtain ⟨c, b⟩ := a
  dsimp only at ha ⊢
  have h3 : c = 0 ∨ c = 1 ∨ c = 2 := by omega
  rcases h3 with rfl | rfl | rfl
  · rw [show thrP [0, 1] ((0 : Int), b) = Sum.inl (some (.int (zI b))) from if_pos rfl] at hc
    rw [q_332_0 hc]; exact as_out
  · rw [show thrP [0, 1] ((1 : Int), b) = Sum.inr 0 from if_neg (show ¬ ((1 : Int) = 0) by decide)] at hc
    rw [x_332_0_0 hc, q_332_17, outG_n (by decide)]; rfl
  · rw [show thrP [0, 1] ((2 : Int), b) = Sum.inr 1 from if_neg (show ¬ ((2 : Int) = 0) by decide)] at hc
    rw [x_332_0_1 hc, q_332_21, outG_n (by decide)]; rfl
theorem wx_333 {d : Nat}  {al0 : Nat} {xl1 : Int32} {xl2 : Int32}  {h : HeapP} {E : EnQ} {F : Nat → Int → Int32} {G : Nat → Int → Int64} {a : Int × Int} (hc : callP MP d 144 [.ref al0, .int xl1, .int xl2] h = some (thrP [0] a, mk E F G)) (ha : 0 ≤ a.1 ∧ a.1 ≤ 1) : callP MP (d + 1) 333 [.ref al0, .int xl1, .int xl2, .ref 246] h = some (Sum.inl (some (.int (zI a.1))), mk E F (outG G a.1 (Int32.toInt64 (zI a.2)))) := by
  refine cal1 hM_333 rfl rfl ?_
  show runP MP d 333 (0, [some (.ref al0), some (.int xl1), some (.int xl2), some (.ref 246), none], [], h) = _
  obtain ⟨c, b⟩ := a
  dsimp only at ha ⊢
  have h3 : c = 0 ∨ c = 1 := by omega
  rcases h3 with rfl | rfl
  · rw [show thrP [0] ((0 : Int), b) = Sum.inl (some (.int (zI b))) from if_pos rfl] at hc
    rw [q_333_0 hc]; exact as_out
  · rw [show thrP [0] ((1 : Int), b) = Sum.inr 0 from if_neg (show ¬ ((1 : Int) = 0) by decide)] at hc
    rw [x_333_0_0 hc, q_333_15, outG_n (by decide)]; rfl
theorem wx_334 {d : Nat}  {al0 : Nat} {xl1 : Int32} {xl2 : Int32}  {h : HeapP} {E : EnQ} {F : Nat → Int → Int32} {G : Nat → Int → Int64} {a : Int × Int} (hc : callP MP d 145 [.ref al0, .int xl1, .int xl2] h = some (thrP [0] a, mk E F G)) (ha : 0 ≤ a.1 ∧ a.1 ≤ 1) : callP MP (d + 1) 334 [.ref al0, .int xl1, .int xl2, .ref 246] h = some (Sum.inl (some (.int (zI a.1))), mk E F (outG G a.1 (Int32.toInt64 (zI a.2)))) := by
  refine cal1 hM_334 rfl rfl ?_
  show runP MP d 334 (0, [some (.ref al0), some (.int xl1), some (.int xl2), some (.ref 246), none], [], h) = _
  obtain ⟨c, b⟩ := a
  dsimp only at ha ⊢
  have h3 : c = 0 ∨ c = 1 := by omega
  rcases h3 with rfl | rfl
  · rw [show thrP [0] ((0 : Int), b) = Sum.inl (some (.int (zI b))) from if_pos rfl] at hc
    rw [q_334_0 hc]; exact as_out
  · rw [show thrP [0] ((1 : Int), b) = Sum.inr 0 from if_neg (show ¬ ((1 : Int) = 0) by decide)] at hc
    rw [x_334_0_0 hc, q_334_15, outG_n (by decide)]; rfl
theorem wx_335 {d : Nat}  {al0 : Nat} {xl1 : Int32} {xl2 : Int32}  {h : HeapP} {E : EnQ} {F : Nat → Int → Int32} {G : Nat → Int → Int64} {a : Int × Int} (hc : callP MP d 146 [.ref al0, .int xl1, .int xl2] h = some (thrP [0] a, mk E F G)) (ha : 0 ≤ a.1 ∧ a.1 ≤ 1) : callP MP (d + 1) 335 [.ref al0, .int xl1, .int xl2, .ref 246] h = some (Sum.inl (some (.int (zI a.1))), mk E F (outG G a.1 (Int32.toInt64 (zI a.2)))) := by
  refine cal1 hM_335 rfl rfl ?_
  show runP MP d 335 (0, [some (.ref al0), some (.int xl1), some (.int xl2), some (.ref 246), none], [], h) = _
  obtain ⟨c, b⟩ := a
  dsimp only at ha ⊢
  have h3 : c = 0 ∨ c = 1 := by omega
  rcases h3 with rfl | rfl
  · rw [show thrP [0] ((0 : Int), b) = Sum.inl (some (.int (zI b))) from if_pos rfl] at hc
    rw [q_335_0 hc]; exact as_out
  · rw [show thrP [0] ((1 : Int), b) = Sum.inr 0 from if_neg (show ¬ ((1 : Int) = 0) by decide)] at hc
    rw [x_335_0_0 hc, q_335_15, outG_n (by decide)]; rfl
theorem wx_336 {d : Nat}  {al0 : Nat} {xl1 : Int32} {xl2 : Int32}  {h : HeapP} {E : EnQ} {F : Nat → Int → Int32} {G : Nat → Int → Int64} {a : Int × Int} (hc : callP MP d 147 [.ref al0, .int xl1, .int xl2] h = some (thrP [0] a, mk E F G)) (ha : 0 ≤ a.1 ∧ a.1 ≤ 1) : callP MP (d + 1) 336 [.ref al0, .int xl1, .int xl2, .ref 246] h = some (Sum.inl (some (.int (zI a.1))), mk E F (outG G a.1 (Int32.toInt64 (zI a.2)))) := by
  refine cal1 hM_336 rfl rfl ?_
  show runP MP d 336 (0, [some (.ref al0), some (.int xl1), some (.int xl2), some (.ref 246), none], [], h) = _
  obtain ⟨c, b⟩ := a
  dsimp only at ha ⊢
  have h3 : c = 0 ∨ c = 1 := by omega
  rcases h3 with rfl | rfl
  · rw [show thrP [0] ((0 : Int), b) = Sum.inl (some (.int (zI b))) from if_pos rfl] at hc
    rw [q_336_0 hc]; exact as_out
  · rw [show thrP [0] ((1 : Int), b) = Sum.inr 0 from if_neg (show ¬ ((1 : Int) = 0) by decide)] at hc
    rw [x_336_0_0 hc, q_336_15, outG_n (by decide)]; rfl
theorem wx_337 {d : Nat}  {al0 : Nat} {xl1 : Int32} {xl2 : Int32}  {h : HeapP} {E : EnQ} {F : Nat → Int → Int32} {G : Nat → Int → Int64} {a : Int × Int} (hc : callP MP d 148 [.ref al0, .int xl1, .int xl2] h = some (thrP [0] a, mk E F G)) (ha : 0 ≤ a.1 ∧ a.1 ≤ 1) : callP MP (d + 1) 337 [.ref al0, .int xl1, .int xl2, .ref 246] h = some (Sum.inl (some (.int (zI a.1))), mk E F (outG G a.1 (Int32.toInt64 (zI a.2)))) := by
  refine cal1 hM_337 rfl rfl ?_
  show runP MP d 337 (0, [some (.ref al0), some (.int xl1), some (.int xl2), some (.ref 246), none], [], h) = _
  obtain ⟨c, b⟩ := a
  dsimp only at ha ⊢
  have h3 : c = 0 ∨ c = 1 := by omega
  rcases h3 with rfl | rfl
  · rw [show thrP [0] ((0 : Int), b) = Sum.inl (some (.int (zI b))) from if_pos rfl] at hc
    rw [q_337_0 hc]; exact as_out
  · rw [show thrP [0] ((1 : Int), b) = Sum.inr 0 from if_neg (show ¬ ((1 : Int) = 0) by decide)] at hc
    rw [x_337_0_0 hc, q_337_15, outG_n (by decide)]; rfl
theorem wx_338 {d : Nat}  {al0 : Nat} {xl1 : Int32}  {h : HeapP} {E : EnQ} {F : Nat → Int → Int32} {G : Nat → Int → Int64} {a : Int × Int} (hc : callP MP d 149 [.ref al0, .int xl1] h = some (thrP [0] a, mk E F G)) (ha : 0 ≤ a.1 ∧ a.1 ≤ 1) : callP MP (d + 1) 338 [.ref al0, .int xl1, .ref 246] h = some (Sum.inl (some (.int (zI a.1))), mk E F (outG G a.1 (Int32.toInt64 (zI a.2)))) := by
  refine cal1 hM_338 rfl rfl ?_
  show runP MP d 338 (0, [some (.ref al0), some (.int xl1), some (.ref 246), none], [], h) = _
  obtain ⟨c, b⟩ := a
  dsimp only at ha ⊢
  have h3 : c = 0 ∨ c = 1 := by omega
  rcases h3 with rfl | rfl
  · rw [show thrP [0] ((0 : Int), b) = Sum.inl (some (.int (zI b))) from if_pos rfl] at hc
    rw [q_338_0 hc]; exact as_out
  · rw [show thrP [0] ((1 : Int), b) = Sum.inr 0 from if_neg (show ¬ ((1 : Int) = 0) by decide)] at hc
    rw [x_338_0_0 hc, q_338_13, outG_n (by decide)]; rfl
theorem wx_339 {d : Nat}  {al0 : Nat} {xl1 : Int32} {xl2 : Int32}  {h : HeapP} {E : EnQ} {F : Nat → Int → Int32} {G : Nat → Int → Int64} {a : Int × Int} (hc : callP MP d 150 [.ref al0, .int xl1, .int xl2] h = some (thrP [0, 2] a, mk E F G)) (ha : 0 ≤ a.1 ∧ a.1 ≤ 2) : callP MP (d + 1) 339 [.ref al0, .int xl1, .int xl2, .ref 246] h = some (Sum.inl (some (.int (zI a.1))), mk E F (outG G a.1 (Int32.toInt64 (zI a.2)))) := by
  refine cal1 hM_339 rfl rfl ?_
  show runP MP d 339 (0, [some (.ref al0), some (.int xl1), some (.int xl2), some (.ref 246), none], [], h) = _
  obtain ⟨c, b⟩ := a
  dsimp only at ha ⊢
  have h3 : c = 0 ∨ c = 1 ∨ c = 2 := by omega
  rcases h3 with rfl | rfl | rfl
  · rw [show thrP [0, 2] ((0 : Int), b) = Sum.inl (some (.int (zI b))) from if_pos rfl] at hc
    rw [q_339_0 hc]; exact as_out
  · rw [show thrP [0, 2] ((1 : Int), b) = Sum.inr 0 from if_neg (show ¬ ((1 : Int) = 0) by decide)] at hc
    rw [x_339_0_0 hc, q_339_15, outG_n (by decide)]; rfl
  · rw [show thrP [0, 2] ((2 : Int), b) = Sum.inr 2 from if_neg (show ¬ ((2 : Int) = 0) by decide)] at hc
    rw [x_339_0_2 hc, q_339_19, outG_n (by decide)]; rfl
theorem wx_340 {d : Nat}  {al0 : Nat} {xl1 : Int32} {xl2 : Int32}  {h : HeapP} {E : EnQ} {F : Nat → Int → Int32} {G : Nat → Int → Int64} {a : Int × Int} (hc : callP MP d 151 [.ref al0, .int xl1, .int xl2] h = some (thrP [0, 2] a, mk E F G)) (ha : 0 ≤ a.1 ∧ a.1 ≤ 2) : callP MP (d + 1) 340 [.ref al0, .int xl1, .int xl2, .ref 246] h = some (Sum.inl (some (.int (zI a.1))), mk E F (outG G a.1 (Int32.toInt64 (zI a.2)))) := by
  refine cal1 hM_340 rfl rfl ?_
  show runP MP d 340 (0, [some (.ref al0), some (.int xl1), some (.int xl2), some (.ref 246), none], [], h) = _
  obtain ⟨c, b⟩ := a
  dsimp only at ha ⊢
  have h3 : c = 0 ∨ c = 1 ∨ c = 2 := by omega
  rcases h3 with rfl | rfl | rfl
  · rw [show thrP [0, 2] ((0 : Int), b) = Sum.inl (some (.int (zI b))) from if_pos rfl] at hc
    rw [q_340_0 hc]; exact as_out
  · rw [show thrP [0, 2] ((1 : Int), b) = Sum.inr 0 from if_neg (show ¬ ((1 : Int) = 0) by decide)] at hc
    rw [x_340_0_0 hc, q_340_15, outG_n (by decide)]; rfl
  · rw [show thrP [0, 2] ((2 : Int), b) = Sum.inr 2 from if_neg (show ¬ ((2 : Int) = 0) by decide)] at hc
    rw [x_340_0_2 hc, q_340_19, outG_n (by decide)]; rfl
theorem wx_341 {d : Nat}  {al0 : Nat} {xl1 : Int32} {xl2 : Int32}  {h : HeapP} {E : EnQ} {F : Nat → Int → Int32} {G : Nat → Int → Int64} {a : Int × Int} (hc : callP MP d 152 [.ref al0, .int xl1, .int xl2] h = some (thrP [0, 2] a, mk E F G)) (ha : 0 ≤ a.1 ∧ a.1 ≤ 2) : callP MP (d + 1) 341 [.ref al0, .int xl1, .int xl2, .ref 246] h = some (Sum.inl (some (.int (zI a.1))), mk E F (outG G a.1 (Int32.toInt64 (zI a.2)))) := by
  refine cal1 hM_341 rfl rfl ?_
  show runP MP d 341 (0, [some (.ref al0), some (.int xl1), some (.int xl2), some (.ref 246), none], [], h) = _
  obtain ⟨c, b⟩ := a
  dsimp only at ha ⊢
  have h3 : c = 0 ∨ c = 1 ∨ c = 2 := by omega
  rcases h3 with rfl | rfl | rfl
  · rw [show thrP [0, 2] ((0 : Int), b) = Sum.inl (some (.int (zI b))) from if_pos rfl] at hc
    rw [q_341_0 hc]; exact as_out
  · rw [show thrP [0, 2] ((1 : Int), b) = Sum.inr 0 from if_neg (show ¬ ((1 : Int) = 0) by decide)] at hc
    rw [x_341_0_0 hc, q_341_15, outG_n (by decide)]; rfl
  · rw [show thrP [0, 2] ((2 : Int), b) = Sum.inr 2 from if_neg (show ¬ ((2 : Int) = 0) by decide)] at hc
    rw [x_341_0_2 hc, q_341_19, outG_n (by decide)]; rfl
theorem wx_342 {d : Nat}  {al0 : Nat} {xl1 : Int32} {xl2 : Int32}  {h : HeapP} {E : EnQ} {F : Nat → Int → Int32} {G : Nat → Int → Int64} {a : Int × Int} (hc : callP MP d 153 [.ref al0, .int xl1, .int xl2] h = some (thrP [0, 2] a, mk E F G)) (ha : 0 ≤ a.1 ∧ a.1 ≤ 2) : callP MP (d + 1) 342 [.ref al0, .int xl1, .int xl2, .ref 246] h = some (Sum.inl (some (.int (zI a.1))), mk E F (outG G a.1 (Int32.toInt64 (zI a.2)))) := by
  refine cal1 hM_342 rfl rfl ?_
  show runP MP d 342 (0, [some (.ref al0), some (.int xl1), some (.int xl2), some (.ref 246), none], [], h) = _
  obtain ⟨c, b⟩ := a
  dsimp only at ha ⊢
  have h3 : c = 0 ∨ c = 1 ∨ c = 2 := by omega
  rcases h3 with rfl | rfl | rfl
  · rw [show thrP [0, 2] ((0 : Int), b) = Sum.inl (some (.int (zI b))) from if_pos rfl] at hc
    rw [q_342_0 hc]; exact as_out
  · rw [show thrP [0, 2] ((1 : Int), b) = Sum.inr 0 from if_neg (show ¬ ((1 : Int) = 0) by decide)] at hc
    rw [x_342_0_0 hc, q_342_15, outG_n (by decide)]; rfl
  · rw [show thrP [0, 2] ((2 : Int), b) = Sum.inr 2 from if_neg (show ¬ ((2 : Int) = 0) by decide)] at hc
    rw [x_342_0_2 hc, q_342_19, outG_n (by decide)]; rfl
theorem wx_343 {d : Nat}  {al0 : Nat} {xl1 : Int32} {xl2 : Int32}  {h : HeapP} {E : EnQ} {F : Nat → Int → Int32} {G : Nat → Int → Int64} {a : Int × Int} (hc : callP MP d 154 [.ref al0, .int xl1, .int xl2] h = some (thrP [0, 2] a, mk E F G)) (ha : 0 ≤ a.1 ∧ a.1 ≤ 2) : callP MP (d + 1) 343 [.ref al0, .int xl1, .int xl2, .ref 246] h = some (Sum.inl (some (.int (zI a.1))), mk E F (outG G a.1 (Int32.toInt64 (zI a.2)))) := by
  refine cal1 hM_343 rfl rfl ?_
  show runP MP d 343 (0, [some (.ref al0), some (.int xl1), some (.int xl2), some (.ref 246), none], [], h) = _
  obtain ⟨c, b⟩ := a
  dsimp only at ha ⊢
  have h3 : c = 0 ∨ c = 1 ∨ c = 2 := by omega
  rcases h3 with rfl | rfl | rfl
  · rw [show thrP [0, 2] ((0 : Int), b) = Sum.inl (some (.int (zI b))) from if_pos rfl] at hc
    rw [q_343_0 hc]; exact as_out
  · rw [show thrP [0, 2] ((1 : Int), b) = Sum.inr 0 from if_neg (show ¬ ((1 : Int) = 0) by decide)] at hc
    rw [x_343_0_0 hc, q_343_15, outG_n (by decide)]; rfl
  · rw [show thrP [0, 2] ((2 : Int), b) = Sum.inr 2 from if_neg (show ¬ ((2 : Int) = 0) by decide)] at hc
    rw [x_343_0_2 hc, q_343_19, outG_n (by decide)]; rfl
theorem wx_344 {d : Nat}  {al0 : Nat} {xl1 : Int32} {xl2 : Int32}  {h : HeapP} {E : EnQ} {F : Nat → Int → Int32} {G : Nat → Int → Int64} {a : Int × Int} (hc : callP MP d 155 [.ref al0, .int xl1, .int xl2] h = some (thrP [0] a, mk E F G)) (ha : 0 ≤ a.1 ∧ a.1 ≤ 1) : callP MP (d + 1) 344 [.ref al0, .int xl1, .int xl2, .ref 246] h = some (Sum.inl (some (.int (zI a.1))), mk E F (outG G a.1 (Int32.toInt64 (zI a.2)))) := by
  refine cal1 hM_344 rfl rfl ?_
  show runP MP d 344 (0, [some (.ref al0), some (.int xl1), some (.int xl2), some (.ref 246), none], [], h) = _
  obtain ⟨c, b⟩ := a
  dsimp only at ha ⊢
  have h3 : c = 0 ∨ c = 1 := by omega
  rcases h3 with rfl | rfl
  · rw [show thrP [0] ((0 : Int), b) = Sum.inl (some (.int (zI b))) from if_pos rfl] at hc
    rw [q_344_0 hc]; exact as_out
  · rw [show thrP [0] ((1 : Int), b) = Sum.inr 0 from if_neg (show ¬ ((1 : Int) = 0) by decide)] at hc
    rw [x_344_0_0 hc, q_344_15, outG_n (by decide)]; rfl
theorem wx_345 {d : Nat}  {al0 : Nat} {xl1 : Int32} {xl2 : Int32}  {h : HeapP} {E : EnQ} {F : Nat → Int → Int32} {G : Nat → Int → Int64} {a : Int × Int} (hc : callP MP d 156 [.ref al0, .int xl1, .int xl2] h = some (thrP [0] a, mk E F G)) (ha : 0 ≤ a.1 ∧ a.1 ≤ 1) : callP MP (d + 1) 345 [.ref al0, .int xl1, .int xl2, .ref 246] h = some (Sum.inl (some (.int (zI a.1))), mk E F (outG G a.1 (Int32.toInt64 (zI a.2)))) := by
  refine cal1 hM_345 rfl rfl ?_
  show runP MP d 345 (0, [some (.ref al0), some (.int xl1), some (.int xl2), some (.ref 246), none], [], h) = _
  obtain ⟨c, b⟩ := a
  dsimp only at ha ⊢
  have h3 : c = 0 ∨ c = 1 := by omega
  rcases h3 with rfl | rfl
  · rw [show thrP [0] ((0 : Int), b) = Sum.inl (some (.int (zI b))) from if_pos rfl] at hc
    rw [q_345_0 hc]; exact as_out
  · rw [show thrP [0] ((1 : Int), b) = Sum.inr 0 from if_neg (show ¬ ((1 : Int) = 0) by decide)] at hc
    rw [x_345_0_0 hc, q_345_15, outG_n (by decide)]; rfl
theorem wx_346 {d : Nat}  {al0 : Nat} {xl1 : Int32} {xl2 : Int32} {xl3 : Int32}  {h : HeapP} {E : EnQ} {F : Nat → Int → Int32} {G : Nat → Int → Int64} {a : Int × Int} (hc : callP MP d 157 [.ref al0, .int xl1, .int xl2, .int xl3] h = some (thrP [0, 2] a, mk E F G)) (ha : 0 ≤ a.1 ∧ a.1 ≤ 2) : callP MP (d + 1) 346 [.ref al0, .int xl1, .int xl2, .int xl3, .ref 246] h = some (Sum.inl (some (.int (zI a.1))), mk E F (outG G a.1 (Int32.toInt64 (zI a.2)))) := by
  refine cal1 hM_346 rfl rfl ?_
  show runP MP d 346 (0, [some (.ref al0), some (.int xl1), some (.int xl2), some (.int xl3), some (.ref 246), none], [], h) = _
  obtain ⟨c, b⟩ := a
  dsimp only at ha ⊢
  have h3 : c = 0 ∨ c = 1 ∨ c = 2 := by omega
  rcases h3 with rfl | rfl | rfl
  · rw [show thrP [0, 2] ((0 : Int), b) = Sum.inl (some (.int (zI b))) from if_pos rfl] at hc
    rw [q_346_0 hc]; exact as_out
  · rw [show thrP [0, 2] ((1 : Int), b) = Sum.inr 0 from if_neg (show ¬ ((1 : Int) = 0) by decide)] at hc
    rw [x_346_0_0 hc, q_346_17, outG_n (by decide)]; rfl
  · rw [show thrP [0, 2] ((2 : Int), b) = Sum.inr 2 from if_neg (show ¬ ((2 : Int) = 0) by decide)] at hc
    rw [x_346_0_2 hc, q_346_21, outG_n (by decide)]; rfl
theorem wx_347 {d : Nat}  {al0 : Nat} {xl1 : Int32} {xl2 : Int32}  {h : HeapP} {E : EnQ} {F : Nat → Int → Int32} {G : Nat → Int → Int64} {a : Int × Int} (hc : callP MP d 159 [.ref al0, .int xl1, .int xl2] h = some (thrP [2] a, mk E F G)) (ha : 0 ≤ a.1 ∧ a.1 ≤ 1) : callP MP (d + 1) 347 [.ref al0, .int xl1, .int xl2, .ref 246] h = some (Sum.inl (some (.int (zI a.1))), mk E F (outG G a.1 (Int32.toInt64 (zI a.2)))) := by
  refine cal1 hM_347 rfl rfl ?_
  show runP MP d 347 (0, [some (.ref al0), some (.int xl1), some (.int xl2), some (.ref 246), none], [], h) = _
  obtain ⟨c, b⟩ := a
  dsimp only at ha ⊢
  have h3 : c = 0 ∨ c = 1 := by omega
  rcases h3 with rfl | rfl
  · rw [show thrP [2] ((0 : Int), b) = Sum.inl (some (.int (zI b))) from if_pos rfl] at hc
    rw [q_347_0 hc]; exact as_out
  · rw [show thrP [2] ((1 : Int), b) = Sum.inr 2 from if_neg (show ¬ ((1 : Int) = 0) by decide)] at hc
    rw [x_347_0_2 hc, q_347_15, outG_n (by decide)]; rfl
theorem wx_348 {d : Nat}  {al0 : Nat} {xl1 : Int32}  {h : HeapP} {E : EnQ} {F : Nat → Int → Int32} {G : Nat → Int → Int64} {a : Int × Int} (hc : callP MP d 160 [.ref al0, .int xl1] h = some (thrP [0, 1, 2] a, mk E F G)) (ha : 0 ≤ a.1 ∧ a.1 ≤ 3) : callP MP (d + 1) 348 [.ref al0, .int xl1, .ref 246] h = some (Sum.inl (some (.int (zI a.1))), mk E F (outG G a.1 (Int32.toInt64 (zI a.2)))) := by
  refine cal1 hM_348 rfl rfl ?_
  show runP MP d 348 (0, [some (.ref al0), some (.int xl1), some (.ref 246), none], [], h) = _
  obtain ⟨c, b⟩ := a
  dsimp only at ha ⊢
  have h3 : c = 0 ∨ c = 1 ∨ c = 2 ∨ c = 3 := by omega
  rcases h3 with rfl | rfl | rfl | rfl
  · rw [show thrP [0, 1, 2] ((0 : Int), b) = Sum.inl (some (.int (zI b))) from if_pos rfl] at hc
    rw [q_348_0 hc]; exact as_out
  · rw [show thrP [0, 1, 2] ((1 : Int), b) = Sum.inr 0 from if_neg (show ¬ ((1 : Int) = 0) by decide)] at hc
    rw [x_348_0_0 hc, q_348_13, outG_n (by decide)]; rfl
  · rw [show thrP [0, 1, 2] ((2 : Int), b) = Sum.inr 1 from if_neg (show ¬ ((2 : Int) = 0) by decide)] at hc
    rw [x_348_0_1 hc, q_348_16, outG_n (by decide)]; rfl
  · rw [show thrP [0, 1, 2] ((3 : Int), b) = Sum.inr 2 from if_neg (show ¬ ((3 : Int) = 0) by decide)] at hc
    rw [x_348_0_2 hc, q_348_19, outG_n (by decide)]; rfl
theorem wx_349 {d : Nat}  {al0 : Nat} {xl1 : Int32} {xl2 : Int32}  {h : HeapP} {E : EnQ} {F : Nat → Int → Int32} {G : Nat → Int → Int64} {a : Int × Int} (hc : callP MP d 161 [.ref al0, .int xl1, .int xl2] h = some (thrP [0, 2] a, mk E F G)) (ha : 0 ≤ a.1 ∧ a.1 ≤ 2) : callP MP (d + 1) 349 [.ref al0, .int xl1, .int xl2, .ref 246] h = some (Sum.inl (some (.int (zI a.1))), mk E F (outG G a.1 (Int32.toInt64 (zI a.2)))) := by
  refine cal1 hM_349 rfl rfl ?_
  show runP MP d 349 (0, [some (.ref al0), some (.int xl1), some (.int xl2), some (.ref 246), none], [], h) = _
  obtain ⟨c, b⟩ := a
  dsimp only at ha ⊢
  have h3 : c = 0 ∨ c = 1 ∨ c = 2 := by omega
  rcases h3 with rfl | rfl | rfl
  · rw [show thrP [0, 2] ((0 : Int), b) = Sum.inl (some (.int (zI b))) from if_pos rfl] at hc
    rw [q_349_0 hc]; exact as_out
  · rw [show thrP [0, 2] ((1 : Int), b) = Sum.inr 0 from if_neg (show ¬ ((1 : Int) = 0) by decide)] at hc
    rw [x_349_0_0 hc, q_349_15, outG_n (by decide)]; rfl
  · rw [show thrP [0, 2] ((2 : Int), b) = Sum.inr 2 from if_neg (show ¬ ((2 : Int) = 0) by decide)] at hc
    rw [x_349_0_2 hc, q_349_19, outG_n (by decide)]; rfl
theorem wx_350 {d : Nat}  {al0 : Nat} {xl1 : Int32}  {h : HeapP} {E : EnQ} {F : Nat → Int → Int32} {G : Nat → Int → Int64} {a : Int × Int} (hc : callP MP d 162 [.ref al0, .int xl1] h = some (thrP [0] a, mk E F G)) (ha : 0 ≤ a.1 ∧ a.1 ≤ 1) : callP MP (d + 1) 350 [.ref al0, .int xl1, .ref 246] h = some (Sum.inl (some (.int (zI a.1))), mk E F (outG G a.1 (Int32.toInt64 (zI a.2)))) := by
  refine cal1 hM_350 rfl rfl ?_
  show runP MP d 350 (0, [some (.ref al0), some (.int xl1), some (.ref 246), none], [], h) = _
  obtain ⟨c, b⟩ := a
  dsimp only at ha ⊢
  have h3 : c = 0 ∨ c = 1 := by omega
  rcases h3 with rfl | rfl
  · rw [show thrP [0] ((0 : Int), b) = Sum.inl (some (.int (zI b))) from if_pos rfl] at hc
    rw [q_350_0 hc]; exact as_out
  · rw [show thrP [0] ((1 : Int), b) = Sum.inr 0 from if_neg (show ¬ ((1 : Int) = 0) by decide)] at hc
    rw [x_350_0_0 hc, q_350_13, outG_n (by decide)]; rfl
theorem wx_351 {d : Nat}  {al0 : Nat} {xl1 : Int32}  {h : HeapP} {E : EnQ} {F : Nat → Int → Int32} {G : Nat → Int → Int64} {a : Int × Int} (hc : callP MP d 163 [.ref al0, .int xl1] h = some (thrJ [0] a, mk E F G)) (ha : 0 ≤ a.1 ∧ a.1 ≤ 1) : callP MP (d + 1) 351 [.ref al0, .int xl1, .ref 246] h = some (Sum.inl (some (.int (zI a.1))), mk E F (outG G a.1 (zJ a.2))) := by
  refine cal1 hM_351 rfl rfl ?_
  show runP MP d 351 (0, [some (.ref al0), some (.int xl1), some (.ref 246), none], [], h) = _
  obtain ⟨c, b⟩ := a
  dsimp only at ha ⊢
  have h3 : c = 0 ∨ c = 1 := by omega
  rcases h3 with rfl | rfl
  · rw [show thrJ [0] ((0 : Int), b) = Sum.inl (some (.long (zJ b))) from if_pos rfl] at hc
    rw [q_351_0 hc]; exact as_out
  · rw [show thrJ [0] ((1 : Int), b) = Sum.inr 0 from if_neg (show ¬ ((1 : Int) = 0) by decide)] at hc
    rw [x_351_0_0 hc, q_351_12, outG_n (by decide)]; rfl
theorem wx_352 {d : Nat}  {al0 : Nat} {xl1 : Int32} {jl2 : Int64} {xl4 : Int32}  {h : HeapP} {E : EnQ} {F : Nat → Int → Int32} {G : Nat → Int → Int64} {a : Int × Int} (hc : callP MP d 164 [.ref al0, .int xl1, .long jl2, .int xl4] h = some (thrP [0] a, mk E F G)) (ha : 0 ≤ a.1 ∧ a.1 ≤ 1) : callP MP (d + 1) 352 [.ref al0, .int xl1, .long jl2, .int xl4, .ref 246] h = some (Sum.inl (some (.int (zI a.1))), mk E F (outG G a.1 (Int32.toInt64 (zI a.2)))) := by
  refine cal1 hM_352 rfl rfl ?_
  show runP MP d 352 (0, [some (.ref al0), some (.int xl1), some (.long jl2), none, some (.int xl4), some (.ref 246), none], [], h) = _
  obtain ⟨c, b⟩ := a
  dsimp only at ha ⊢
  have h3 : c = 0 ∨ c = 1 := by omega
  rcases h3 with rfl | rfl
  · rw [show thrP [0] ((0 : Int), b) = Sum.inl (some (.int (zI b))) from if_pos rfl] at hc
    rw [q_352_0 hc]; exact as_out
  · rw [show thrP [0] ((1 : Int), b) = Sum.inr 0 from if_neg (show ¬ ((1 : Int) = 0) by decide)] at hc
    rw [x_352_0_0 hc, q_352_18, outG_n (by decide)]; rfl
theorem wx_353 {d : Nat}  {al0 : Nat} {xl1 : Int32} {xl2 : Int32}  {h : HeapP} {E : EnQ} {F : Nat → Int → Int32} {G : Nat → Int → Int64} {a : Int × Int} (hc : callP MP d 165 [.ref al0, .int xl1, .int xl2] h = some (thrP [0] a, mk E F G)) (ha : 0 ≤ a.1 ∧ a.1 ≤ 1) : callP MP (d + 1) 353 [.ref al0, .int xl1, .int xl2, .ref 246] h = some (Sum.inl (some (.int (zI a.1))), mk E F (outG G a.1 (Int32.toInt64 (zI a.2)))) := by
  refine cal1 hM_353 rfl rfl ?_
  show runP MP d 353 (0, [some (.ref al0), some (.int xl1), some (.int xl2), some (.ref 246), none], [], h) = _
  obtain ⟨c, b⟩ := a
  dsimp only at ha ⊢
  have h3 : c = 0 ∨ c = 1 := by omega
  rcases h3 with rfl | rfl
  · rw [show thrP [0] ((0 : Int), b) = Sum.inl (some (.int (zI b))) from if_pos rfl] at hc
    rw [q_353_0 hc]; exact as_out
  · rw [show thrP [0] ((1 : Int), b) = Sum.inr 0 from if_neg (show ¬ ((1 : Int) = 0) by decide)] at hc
    rw [x_353_0_0 hc, q_353_15, outG_n (by decide)]; rfl
theorem wx_354 {d : Nat}  {al0 : Nat} {xl1 : Int32} {xl2 : Int32}  {h : HeapP} {E : EnQ} {F : Nat → Int → Int32} {G : Nat → Int → Int64} {a : Int × Int} (hc : callP MP d 166 [.ref al0, .int xl1, .int xl2] h = some (thrJ [0] a, mk E F G)) (ha : 0 ≤ a.1 ∧ a.1 ≤ 1) : callP MP (d + 1) 354 [.ref al0, .int xl1, .int xl2, .ref 246] h = some (Sum.inl (some (.int (zI a.1))), mk E F (outG G a.1 (zJ a.2))) := by
  refine cal1 hM_354 rfl rfl ?_
  show runP MP d 354 (0, [some (.ref al0), some (.int xl1), some (.int xl2), some (.ref 246), none], [], h) = _
  obtain ⟨c, b⟩ := a
  dsimp only at ha ⊢
  have h3 : c = 0 ∨ c = 1 := by omega
  rcases h3 with rfl | rfl
  · rw [show thrJ [0] ((0 : Int), b) = Sum.inl (some (.long (zJ b))) from if_pos rfl] at hc
    rw [q_354_0 hc]; exact as_out
  · rw [show thrJ [0] ((1 : Int), b) = Sum.inr 0 from if_neg (show ¬ ((1 : Int) = 0) by decide)] at hc
    rw [x_354_0_0 hc, q_354_14, outG_n (by decide)]; rfl
theorem wx_355 {d : Nat}  {al0 : Nat} {xl1 : Int32} {xl2 : Int32} {xl3 : Int32}  {h : HeapP} {E : EnQ} {F : Nat → Int → Int32} {G : Nat → Int → Int64} {a : Int × Int} (hc : callP MP d 167 [.ref al0, .int xl1, .int xl2, .int xl3] h = some (thrP [0, 2] a, mk E F G)) (ha : 0 ≤ a.1 ∧ a.1 ≤ 2) : callP MP (d + 1) 355 [.ref al0, .int xl1, .int xl2, .int xl3, .ref 246] h = some (Sum.inl (some (.int (zI a.1))), mk E F (outG G a.1 (Int32.toInt64 (zI a.2)))) := by
  refine cal1 hM_355 rfl rfl ?_
  show runP MP d 355 (0, [some (.ref al0), some (.int xl1), some (.int xl2), some (.int xl3), some (.ref 246), none], [], h) = _
  obtain ⟨c, b⟩ := a
  dsimp only at ha ⊢
  have h3 : c = 0 ∨ c = 1 ∨ c = 2 := by omega
  rcases h3 with rfl | rfl | rfl
  · rw [show thrP [0, 2] ((0 : Int), b) = Sum.inl (some (.int (zI b))) from if_pos rfl] at hc
    rw [q_355_0 hc]; exact as_out
  · rw [show thrP [0, 2] ((1 : Int), b) = Sum.inr 0 from if_neg (show ¬ ((1 : Int) = 0) by decide)] at hc
    rw [x_355_0_0 hc, q_355_17, outG_n (by decide)]; rfl
  · rw [show thrP [0, 2] ((2 : Int), b) = Sum.inr 2 from if_neg (show ¬ ((2 : Int) = 0) by decide)] at hc
    rw [x_355_0_2 hc, q_355_21, outG_n (by decide)]; rfl
theorem wx_356 {d : Nat}  {al0 : Nat} {xl1 : Int32} {xl2 : Int32}  {h : HeapP} {E : EnQ} {F : Nat → Int → Int32} {G : Nat → Int → Int64} {a : Int × Int} (hc : callP MP d 169 [.ref al0, .int xl1, .int xl2] h = some (thrP [0, 2] a, mk E F G)) (ha : 0 ≤ a.1 ∧ a.1 ≤ 2) : callP MP (d + 1) 356 [.ref al0, .int xl1, .int xl2, .ref 246] h = some (Sum.inl (some (.int (zI a.1))), mk E F (outG G a.1 (Int32.toInt64 (zI a.2)))) := by
  refine cal1 hM_356 rfl rfl ?_
  show runP MP d 356 (0, [some (.ref al0), some (.int xl1), some (.int xl2), some (.ref 246), none], [], h) = _
  obtain ⟨c, b⟩ := a
  dsimp only at ha ⊢
  have h3 : c = 0 ∨ c = 1 ∨ c = 2 := by omega
  rcases h3 with rfl | rfl | rfl
  · rw [show thrP [0, 2] ((0 : Int), b) = Sum.inl (some (.int (zI b))) from if_pos rfl] at hc
    rw [q_356_0 hc]; exact as_out
  · rw [show thrP [0, 2] ((1 : Int), b) = Sum.inr 0 from if_neg (show ¬ ((1 : Int) = 0) by decide)] at hc
    rw [x_356_0_0 hc, q_356_15, outG_n (by decide)]; rfl
  · rw [show thrP [0, 2] ((2 : Int), b) = Sum.inr 2 from if_neg (show ¬ ((2 : Int) = 0) by decide)] at hc
    rw [x_356_0_2 hc, q_356_19, outG_n (by decide)]; rfl
theorem wx_357 {d : Nat}  {al0 : Nat} {xl1 : Int32} {xl2 : Int32}  {h : HeapP} {E : EnQ} {F : Nat → Int → Int32} {G : Nat → Int → Int64} {a : Int × Int} (hc : callP MP d 170 [.ref al0, .int xl1, .int xl2] h = some (thrP [0, 1, 2] a, mk E F G)) (ha : 0 ≤ a.1 ∧ a.1 ≤ 3) : callP MP (d + 1) 357 [.ref al0, .int xl1, .int xl2, .ref 246] h = some (Sum.inl (some (.int (zI a.1))), mk E F (outG G a.1 (Int32.toInt64 (zI a.2)))) := by
  refine cal1 hM_357 rfl rfl ?_
  show runP MP d 357 (0, [some (.ref al0), some (.int xl1), some (.int xl2), some (.ref 246), none], [], h) = _
  obtain ⟨c, b⟩ := a
  dsimp only at ha ⊢
  have h3 : c = 0 ∨ c = 1 ∨ c = 2 ∨ c = 3 := by omega
  rcases h3 with rfl | rfl | rfl | rfl
  · rw [show thrP [0, 1, 2] ((0 : Int), b) = Sum.inl (some (.int (zI b))) from if_pos rfl] at hc
    rw [q_357_0 hc]; exact as_out
  · rw [show thrP [0, 1, 2] ((1 : Int), b) = Sum.inr 0 from if_neg (show ¬ ((1 : Int) = 0) by decide)] at hc
    rw [x_357_0_0 hc, q_357_15, outG_n (by decide)]; rfl
  · rw [show thrP [0, 1, 2] ((2 : Int), b) = Sum.inr 1 from if_neg (show ¬ ((2 : Int) = 0) by decide)] at hc
    rw [x_357_0_1 hc, q_357_19, outG_n (by decide)]; rfl
  · rw [show thrP [0, 1, 2] ((3 : Int), b) = Sum.inr 2 from if_neg (show ¬ ((3 : Int) = 0) by decide)] at hc
    rw [x_357_0_2 hc, q_357_23, outG_n (by decide)]; rfl
theorem wx_358 {d : Nat}  {al0 : Nat} {xl1 : Int32}  {h : HeapP} {E : EnQ} {F : Nat → Int → Int32} {G : Nat → Int → Int64} {a : Int × Int} (hc : callP MP d 173 [.ref al0, .int xl1] h = some (thrP [0, 1, 2] a, mk E F G)) (ha : 0 ≤ a.1 ∧ a.1 ≤ 3) : callP MP (d + 1) 358 [.ref al0, .int xl1, .ref 246] h = some (Sum.inl (some (.int (zI a.1))), mk E F (outG G a.1 (Int32.toInt64 (zI a.2)))) := by
  refine cal1 hM_358 rfl rfl ?_
  show runP MP d 358 (0, [some (.ref al0), some (.int xl1), some (.ref 246), none], [], h) = _
  obtain ⟨c, b⟩ := a
  dsimp only at ha ⊢
  have h3 : c = 0 ∨ c = 1 ∨ c = 2 ∨ c = 3 := by omega
  rcases h3 with rfl | rfl | rfl | rfl
  · rw [show thrP [0, 1, 2] ((0 : Int), b) = Sum.inl (some (.int (zI b))) from if_pos rfl] at hc
    rw [q_358_0 hc]; exact as_out
  · rw [show thrP [0, 1, 2] ((1 : Int), b) = Sum.inr 0 from if_neg (show ¬ ((1 : Int) = 0) by decide)] at hc
    rw [x_358_0_0 hc, q_358_13, outG_n (by decide)]; rfl
  · rw [show thrP [0, 1, 2] ((2 : Int), b) = Sum.inr 1 from if_neg (show ¬ ((2 : Int) = 0) by decide)] at hc
    rw [x_358_0_1 hc, q_358_16, outG_n (by decide)]; rfl
  · rw [show thrP [0, 1, 2] ((3 : Int), b) = Sum.inr 2 from if_neg (show ¬ ((3 : Int) = 0) by decide)] at hc
    rw [x_358_0_2 hc, q_358_19, outG_n (by decide)]; rfl
theorem wx_359 {d : Nat}  {al0 : Nat} {xl1 : Int32}  {h : HeapP} {E : EnQ} {F : Nat → Int → Int32} {G : Nat → Int → Int64} {a : Int × Int} (hc : callP MP d 174 [.ref al0, .int xl1] h = some (thrP [0, 1, 2] a, mk E F G)) (ha : 0 ≤ a.1 ∧ a.1 ≤ 3) : callP MP (d + 1) 359 [.ref al0, .int xl1, .ref 246] h = some (Sum.inl (some (.int (zI a.1))), mk E F (outG G a.1 (Int32.toInt64 (zI a.2)))) := by
  refine cal1 hM_359 rfl rfl ?_
  show runP MP d 359 (0, [some (.ref al0), some (.int xl1), some (.ref 246), none], [], h) = _
  obtain ⟨c, b⟩ := a
  dsimp only at ha ⊢
  have h3 : c = 0 ∨ c = 1 ∨ c = 2 ∨ c = 3 := by omega
  rcases h3 with rfl | rfl | rfl | rfl
  · rw [show thrP [0, 1, 2] ((0 : Int), b) = Sum.inl (some (.int (zI b))) from if_pos rfl] at hc
    rw [q_359_0 hc]; exact as_out
  · rw [show thrP [0, 1, 2] ((1 : Int), b) = Sum.inr 0 from if_neg (show ¬ ((1 : Int) = 0) by decide)] at hc
    rw [x_359_0_0 hc, q_359_13, outG_n (by decide)]; rfl
  · rw [show thrP [0, 1, 2] ((2 : Int), b) = Sum.inr 1 from if_neg (show ¬ ((2 : Int) = 0) by decide)] at hc
    rw [x_359_0_1 hc, q_359_16, outG_n (by decide)]; rfl
  · rw [show thrP [0, 1, 2] ((3 : Int), b) = Sum.inr 2 from if_neg (show ¬ ((3 : Int) = 0) by decide)] at hc
    rw [x_359_0_2 hc, q_359_19, outG_n (by decide)]; rfl
theorem wx_361 {d : Nat}  {al0 : Nat} {xl1 : Int32}  {h : HeapP} {E : EnQ} {F : Nat → Int → Int32} {G : Nat → Int → Int64} {a : Int × Int} (hc : callP MP d 176 [.ref al0, .int xl1] h = some (thrP [0, 1, 2] a, mk E F G)) (ha : 0 ≤ a.1 ∧ a.1 ≤ 3) : callP MP (d + 1) 361 [.ref al0, .int xl1, .ref 246] h = some (Sum.inl (some (.int (zI a.1))), mk E F (outG G a.1 (Int32.toInt64 (zI a.2)))) := by
  refine cal1 hM_361 rfl rfl ?_
  show runP MP d 361 (0, [some (.ref al0), some (.int xl1), some (.ref 246), none], [], h) = _
  obtain ⟨c, b⟩ := a
  dsimp only at ha ⊢
  have h3 : c = 0 ∨ c = 1 ∨ c = 2 ∨ c = 3 := by omega
  rcases h3 with rfl | rfl | rfl | rfl
  · rw [show thrP [0, 1, 2] ((0 : Int), b) = Sum.inl (some (.int (zI b))) from if_pos rfl] at hc
    rw [q_361_0 hc]; exact as_out
  · rw [show thrP [0, 1, 2] ((1 : Int), b) = Sum.inr 0 from if_neg (show ¬ ((1 : Int) = 0) by decide)] at hc
    rw [x_361_0_0 hc, q_361_13, outG_n (by decide)]; rfl
  · rw [show thrP [0, 1, 2] ((2 : Int), b) = Sum.inr 1 from if_neg (show ¬ ((2 : Int) = 0) by decide)] at hc
    rw [x_361_0_1 hc, q_361_16, outG_n (by decide)]; rfl
  · rw [show thrP [0, 1, 2] ((3 : Int), b) = Sum.inr 2 from if_neg (show ¬ ((3 : Int) = 0) by decide)] at hc
    rw [x_361_0_2 hc, q_361_19, outG_n (by decide)]; rfl
theorem wx_362 {d : Nat}  {al0 : Nat} {xl1 : Int32}  {h : HeapP} {E : EnQ} {F : Nat → Int → Int32} {G : Nat → Int → Int64} {a : Int × Int} (hc : callP MP d 177 [.ref al0, .int xl1] h = some (thrP [0, 1, 2] a, mk E F G)) (ha : 0 ≤ a.1 ∧ a.1 ≤ 3) : callP MP (d + 1) 362 [.ref al0, .int xl1, .ref 246] h = some (Sum.inl (some (.int (zI a.1))), mk E F (outG G a.1 (Int32.toInt64 (zI a.2)))) := by
  refine cal1 hM_362 rfl rfl ?_
  show runP MP d 362 (0, [some (.ref al0), some (.int xl1), some (.ref 246), none], [], h) = _
  obtain ⟨c, b⟩ := a
  dsimp only at ha ⊢
  have h3 : c = 0 ∨ c = 1 ∨ c = 2 ∨ c = 3 := by omega
  rcases h3 with rfl | rfl | rfl | rfl
  · rw [show thrP [0, 1, 2] ((0 : Int), b) = Sum.inl (some (.int (zI b))) from if_pos rfl] at hc
    rw [q_362_0 hc]; exact as_out
  · rw [show thrP [0, 1, 2] ((1 : Int), b) = Sum.inr 0 from if_neg (show ¬ ((1 : Int) = 0) by decide)] at hc
    rw [x_362_0_0 hc, q_362_13, outG_n (by decide)]; rfl
  · rw [show thrP [0, 1, 2] ((2 : Int), b) = Sum.inr 1 from if_neg (show ¬ ((2 : Int) = 0) by decide)] at hc
    rw [x_362_0_1 hc, q_362_16, outG_n (by decide)]; rfl
  · rw [show thrP [0, 1, 2] ((3 : Int), b) = Sum.inr 2 from if_neg (show ¬ ((3 : Int) = 0) by decide)] at hc
    rw [x_362_0_2 hc, q_362_19, outG_n (by decide)]; rfl
theorem wx_363 {d : Nat}  {al0 : Nat} {xl1 : Int32}  {h : HeapP} {E : EnQ} {F : Nat → Int → Int32} {G : Nat → Int → Int64} {a : Int × Int} (hc : callP MP d 178 [.ref al0, .int xl1] h = some (thrP [0, 1] a, mk E F G)) (ha : 0 ≤ a.1 ∧ a.1 ≤ 2) : callP MP (d + 1) 363 [.ref al0, .int xl1, .ref 246] h = some (Sum.inl (some (.int (zI a.1))), mk E F (outG G a.1 (Int32.toInt64 (zI a.2)))) := by
  refine cal1 hM_363 rfl rfl ?_
  show runP MP d 363 (0, [some (.ref al0), some (.int xl1), some (.ref 246), none], [], h) = _
  obtain ⟨c, b⟩ := a
  dsimp only at ha ⊢
  have h3 : c = 0 ∨ c = 1 ∨ c = 2 := by omega
  rcases h3 with rfl | rfl | rfl
  · rw [show thrP [0, 1] ((0 : Int), b) = Sum.inl (some (.int (zI b))) from if_pos rfl] at hc
    rw [q_363_0 hc]; exact as_out
  · rw [show thrP [0, 1] ((1 : Int), b) = Sum.inr 0 from if_neg (show ¬ ((1 : Int) = 0) by decide)] at hc
    rw [x_363_0_0 hc, q_363_13, outG_n (by decide)]; rfl
  · rw [show thrP [0, 1] ((2 : Int), b) = Sum.inr 1 from if_neg (show ¬ ((2 : Int) = 0) by decide)] at hc
    rw [x_363_0_1 hc, q_363_16, outG_n (by decide)]; rfl
theorem wx_365 {d : Nat}  {al0 : Nat} {xl1 : Int32} {xl2 : Int32} {jl3 : Int64}  {h : HeapP} {E : EnQ} {F : Nat → Int → Int32} {G : Nat → Int → Int64} {a : Int × Int} (hc : callP MP d 180 [.ref al0, .int xl1, .int xl2, .long jl3] h = some (thrJ [0, 1, 3] a, mk E F G)) (ha : 0 ≤ a.1 ∧ a.1 ≤ 3) : callP MP (d + 1) 365 [.ref al0, .int xl1, .int xl2, .long jl3, .ref 246] h = some (Sum.inl (some (.int (zI a.1))), mk E F (outG G a.1 (zJ a.2))) := by
  refine cal1 hM_365 rfl rfl ?_
  show runP MP d 365 (0, [some (.ref al0), some (.int xl1), some (.int xl2), some (.long jl3), none, some (.ref 246), none], [], h) = _
  obtain ⟨c, b⟩ := a
  dsimp only at ha ⊢
  have h3 : c = 0 ∨ c = 1 ∨ c = 2 ∨ c = 3 := by omega
  rcases h3 with rfl | rfl | rfl | rfl
  · rw [show thrJ [0, 1, 3] ((0 : Int), b) = Sum.inl (some (.long (zJ b))) from if_pos rfl] at hc
    rw [q_365_0 hc]; exact as_out
  · rw [show thrJ [0, 1, 3] ((1 : Int), b) = Sum.inr 0 from if_neg (show ¬ ((1 : Int) = 0) by decide)] at hc
    rw [x_365_0_0 hc, q_365_16, outG_n (by decide)]; rfl
  · rw [show thrJ [0, 1, 3] ((2 : Int), b) = Sum.inr 1 from if_neg (show ¬ ((2 : Int) = 0) by decide)] at hc
    rw [x_365_0_1 hc, q_365_20, outG_n (by decide)]; rfl
  · rw [show thrJ [0, 1, 3] ((3 : Int), b) = Sum.inr 3 from if_neg (show ¬ ((3 : Int) = 0) by decide)] at hc
    rw [x_365_0_3 hc, q_365_24, outG_n (by decide)]; rfl
end S94zzzzv
