/-! TOP: the other turns of the law -/
section S94zzzzx
set_option linter.unusedVariables false
set_option linter.unusedSimpArgs false
def tnJ (x : Int32) : Int64 := if x = 0 then 0 else 1
def bZ (x : Int32) : Int := if x = 0 then 0 else 1
theorem bZ_01 (x : Int32) : bZ x = 0 ∨ bZ x = 1 := by unfold bZ; split <;> simp
/-- a long of two cells -/
def lgJ (x y : Int32) : Int64 := (o_lshl (Int32.toInt64 x) 32) ||| ((Int32.toInt64 y) &&& 4294967295)
theorem ald0n {α : Type} {E : EnQ} {F : Nat → Int → Int32} {G : Nat → Int → Int64} {L : Nat} {k j : Int} {c : Int32} {f : Int32 → Option α} (hj : c = zI j) (hE : E.2.2.1 0 = (2, 9, L)) (hL : L ≤ 3072) (hk : 0 ≤ k + j ∧ k + j < L) : (aldI (mk E F G) 9 0 (zI k + c)).bind f = f (F 0 (k + j)) := by rw [hj]; exact ald0 hE hL hk
theorem as_outx {E : EnQ} {F : Nat → Int → Int32} {G : Nat → Int → Int64} {x : Int64} {i : Int32} (h : i = 0) : ((astJ (mk E F G) 246 i x).bind fun h4 => (some (Sum.inl (some (.int 0)), h4) : ResP)) = some (Sum.inl (some (.int (zI 0))), mk E F (outG G 0 x)) := by rw [h]; exact as_out
theorem wx_360 {d : Nat} {al0 : Nat} {xl1 : Int32} {h : HeapP} {E : EnQ} {F : Nat → Int → Int32} {G : Nat → Int → Int64} {a : Int × Int} (hc : callP MP d 175 [.ref al0, .int xl1] h = some (thrP [0, 1, 2] a, mk E F G)) (ha : 0 ≤ a.1 ∧ a.1 ≤ 3) : callP MP (d + 1) 360 [.ref al0, .int xl1, .ref 246] h = some (Sum.inl (some (.int (zI a.1))), mk E F (outG G a.1 (tnJ (zI a.2)))) := by
  refine cal1 hM_360 rfl rfl ?_
  show runP MP d 360 (0, [some (.ref al0), some (.int xl1), some (.ref 246), none], [], h) = _
  obtain ⟨c, b⟩ := a
  dsimp only at ha ⊢
  have h3 : c = 0 ∨ c = 1 ∨ c = 2 ∨ c = 3 := by omega
  rcases h3 with rfl | rfl | rfl | rfl
  · rw [show thrP [0, 1, 2] ((0 : Int), b) = Sum.inl (some (.int (zI b))) from if_pos rfl] at hc
    rw [q_360_0 hc]
    unfold tnJ
    by_cases e : zI b = 0
    · rw [if_pos (decide_eq_true e), if_pos e, q_360_15]; exact as_out
    · rw [if_neg (by simpa using e), if_neg e, q_360_15]; exact as_out
  · rw [show thrP [0, 1, 2] ((1 : Int), b) = Sum.inr 0 from if_neg (show ¬ ((1 : Int) = 0) by decide)] at hc
    rw [x_360_0_0 hc, q_360_20, outG_n (by decide)]; rfl
  · rw [show thrP [0, 1, 2] ((2 : Int), b) = Sum.inr 1 from if_neg (show ¬ ((2 : Int) = 0) by decide)] at hc
    rw [x_360_0_1 hc, q_360_23, outG_n (by decide)]; rfl
  · rw [show thrP [0, 1, 2] ((3 : Int), b) = Sum.inr 2 from if_neg (show ¬ ((3 : Int) = 0) by decide)] at hc
    rw [x_360_0_2 hc, q_360_26, outG_n (by decide)]; rfl
theorem wx_364_0 {d : Nat} {a : Nat} {x0 : Int32} {x1 : Int32} {x2 : Int32} {h h2 : HeapP} (hc : callP MP d 179 [.ref a, .int x0, .int x1, .int x2] h = some (Sum.inl none, h2)) : callP MP (d + 1) 364 [.ref a, .int x0, .int x1, .int x2] h = some (Sum.inl (some (.int (zI 0))), h2) := by
  refine cal1 hM_364 rfl rfl ?_
  show runP MP d 364 (0, [some (.ref a), some (.int x0), some (.int x1), some (.int x2), none], [], h) = _
  rw [q_364_0 hc]; rfl
theorem wx_364_1 {d : Nat} {a : Nat} {x0 : Int32} {x1 : Int32} {x2 : Int32} {h h2 : HeapP} (hc : callP MP d 179 [.ref a, .int x0, .int x1, .int x2] h = some (Sum.inr 0, h2)) : callP MP (d + 1) 364 [.ref a, .int x0, .int x1, .int x2] h = some (Sum.inl (some (.int (zI 1))), h2) := by
  refine cal1 hM_364 rfl rfl ?_
  show runP MP d 364 (0, [some (.ref a), some (.int x0), some (.int x1), some (.int x2), none], [], h) = _
  rw [x_364_0_0 hc, q_364_12]; rfl
theorem wx_364_2 {d : Nat} {a : Nat} {x0 : Int32} {x1 : Int32} {x2 : Int32} {h h2 : HeapP} (hc : callP MP d 179 [.ref a, .int x0, .int x1, .int x2] h = some (Sum.inr 2, h2)) : callP MP (d + 1) 364 [.ref a, .int x0, .int x1, .int x2] h = some (Sum.inl (some (.int (zI 2))), h2) := by
  refine cal1 hM_364 rfl rfl ?_
  show runP MP d 364 (0, [some (.ref a), some (.int x0), some (.int x1), some (.int x2), none], [], h) = _
  rw [x_364_0_2 hc, q_364_16]; rfl
theorem wx_366_0 {d : Nat} {a : Nat} {x0 : Int32} {h h2 : HeapP} (hc : callP MP d 181 [.ref a, .int x0] h = some (Sum.inl none, h2)) : callP MP (d + 1) 366 [.ref a, .int x0] h = some (Sum.inl (some (.int (zI 0))), h2) := by
  refine cal1 hM_366 rfl rfl ?_
  show runP MP d 366 (0, [some (.ref a), some (.int x0), none], [], h) = _
  rw [q_366_0 hc]; rfl
theorem wx_366_1 {d : Nat} {a : Nat} {x0 : Int32} {h h2 : HeapP} (hc : callP MP d 181 [.ref a, .int x0] h = some (Sum.inr 0, h2)) : callP MP (d + 1) 366 [.ref a, .int x0] h = some (Sum.inl (some (.int (zI 1))), h2) := by
  refine cal1 hM_366 rfl rfl ?_
  show runP MP d 366 (0, [some (.ref a), some (.int x0), none], [], h) = _
  rw [x_366_0_0 hc, q_366_9]; rfl
theorem wx_367_0 {d : Nat} {a : Nat} {x0 : Int32} {h h2 : HeapP} (hc : callP MP d 183 [.ref a, .int x0] h = some (Sum.inl none, h2)) : callP MP (d + 1) 367 [.ref a, .int x0] h = some (Sum.inl (some (.int (zI 0))), h2) := by
  refine cal1 hM_367 rfl rfl ?_
  show runP MP d 367 (0, [some (.ref a), some (.int x0), none], [], h) = _
  rw [q_367_0 hc]; rfl
theorem wx_367_1 {d : Nat} {a : Nat} {x0 : Int32} {h h2 : HeapP} (hc : callP MP d 183 [.ref a, .int x0] h = some (Sum.inr 0, h2)) : callP MP (d + 1) 367 [.ref a, .int x0] h = some (Sum.inl (some (.int (zI 1))), h2) := by
  refine cal1 hM_367 rfl rfl ?_
  show runP MP d 367 (0, [some (.ref a), some (.int x0), none], [], h) = _
  rw [x_367_0_0 hc, q_367_9]; rfl
theorem wx_367_2 {d : Nat} {a : Nat} {x0 : Int32} {h h2 : HeapP} (hc : callP MP d 183 [.ref a, .int x0] h = some (Sum.inr 1, h2)) : callP MP (d + 1) 367 [.ref a, .int x0] h = some (Sum.inl (some (.int (zI 2))), h2) := by
  refine cal1 hM_367 rfl rfl ?_
  show runP MP d 367 (0, [some (.ref a), some (.int x0), none], [], h) = _
  rw [x_367_0_1 hc, q_367_12]; rfl
theorem tq_284 {d L : Nat} {k : Int} {E : EnQ} {F : Nat → Int → Int32} {G : Nat → Int → Int64} {z5 z6 : Option Value} (hE : E.2.2.1 0 = (2, 9, L)) (hk : 0 ≤ k ∧ k + 6 ≤ L ∧ L ≤ 3072) {E1 : EnQ} {F1 F2 : Nat → Int → Int32} {G1 G2 : Nat → Int → Int64} {v : Int32} (hc : callP MP d 113 [.ref 16, .int (F 0 (k + 1)), .int (F 0 (k + 2)), .int (F 0 (k + 3)), .int (F 0 (k + 4)), .int (F 0 (k + 5))] (mk E F G) = some (Sum.inl (some (.int v)), mk E1 F1 G1)) (he : E1.2.2.1 = E.2.2.1) (hf : F1 0 = F 0) (hm : callP MP d 186 [.ref 217, .int (F 0 (k + 1)), .int (F 0 (k + 2)), .int (F 0 (k + 3)), .int (F 0 (k + 4)), .int (F 0 (k + 5))] (mk E1 F1 G1) = some (Sum.inl (some (.int v)), mk E1 F2 G2)) : ∃ y5 y6, runP MP d 368 (284, lwL (zI k) z5 z6, [], mk E F G) = runP MP d 368 (3740, lwL (zI k) y5 y6, [], mk E1 F2 G2) := by
  refine ⟨z5, z6, ?_⟩
  unfold lwL
  rw [q_368_284]
  try simp only [li_1, li_2, li_3, li_4, li_5]
  rw [ald0 hE (by omega) (by omega), ald0 hE (by omega) (by omega), ald0 hE (by omega) (by omega), ald0 hE (by omega) (by omega), ald0 hE (by omega) (by omega)]
  rw [cI_ret hc]
  rw [ald0 (E := E1) (F := F1) (L := L) (by rw [he]; exact hE) (by omega) (by omega), ald0 (E := E1) (F := F1) (L := L) (by rw [he]; exact hE) (by omega) (by omega), ald0 (E := E1) (F := F1) (L := L) (by rw [he]; exact hE) (by omega) (by omega), ald0 (E := E1) (F := F1) (L := L) (by rw [he]; exact hE) (by omega) (by omega), ald0 (E := E1) (F := F1) (L := L) (by rw [he]; exact hE) (by omega) (by omega), hf]
  rw [cI_ret hm]
  exact if_pos (decide_eq_true rfl)
theorem tq_413 {d L : Nat} {k : Int} {E : EnQ} {F : Nat → Int → Int32} {G : Nat → Int → Int64} {z5 z6 : Option Value} (hE : E.2.2.1 0 = (2, 9, L)) (hk : 0 ≤ k ∧ k + 6 ≤ L ∧ L ≤ 3072) {E1 : EnQ} {F1 F2 : Nat → Int → Int32} {G1 G2 : Nat → Int → Int64} {v : Int32} (hc : callP MP d 115 [.ref 16, .int (F 0 (k + 1))] (mk E F G) = some (Sum.inl (some (.int v)), mk E1 F1 G1)) (he : E1.2.2.1 = E.2.2.1) (hf : F1 0 = F 0) (hm : callP MP d 207 [.ref 217, .int (F 0 (k + 1))] (mk E1 F1 G1) = some (Sum.inl (some (.int v)), mk E1 F2 G2)) : ∃ y5 y6, runP MP d 368 (413, lwL (zI k) z5 z6, [], mk E F G) = runP MP d 368 (3740, lwL (zI k) y5 y6, [], mk E1 F2 G2) := by
  refine ⟨z5, z6, ?_⟩
  unfold lwL
  rw [q_368_413]
  try simp only [li_1, li_2, li_3, li_4, li_5]
  rw [ald0 hE (by omega) (by omega)]
  rw [cI_ret hc]
  rw [ald0 (E := E1) (F := F1) (L := L) (by rw [he]; exact hE) (by omega) (by omega), hf]
  rw [cI_ret hm]
  exact if_pos (decide_eq_true rfl)
theorem tq_766 {d L : Nat} {k : Int} {E : EnQ} {F : Nat → Int → Int32} {G : Nat → Int → Int64} {z5 z6 : Option Value} (hE : E.2.2.1 0 = (2, 9, L)) (hk : 0 ≤ k ∧ k + 6 ≤ L ∧ L ≤ 3072) {E1 : EnQ} {F1 F2 : Nat → Int → Int32} {G1 G2 : Nat → Int → Int64} {v : Int32} (hc : callP MP d 116 [.ref 16, .int (F 0 (k + 1)), .int (F 0 (k + 2))] (mk E F G) = some (Sum.inl (some (.int v)), mk E1 F1 G1)) (he : E1.2.2.1 = E.2.2.1) (hf : F1 0 = F 0) (hm : callP MP d 226 [.ref 217, .int (F 0 (k + 1)), .int (F 0 (k + 2))] (mk E1 F1 G1) = some (Sum.inl (some (.int v)), mk E1 F2 G2)) : ∃ y5 y6, runP MP d 368 (766, lwL (zI k) z5 z6, [], mk E F G) = runP MP d 368 (3740, lwL (zI k) y5 y6, [], mk E1 F2 G2) := by
  refine ⟨z5, z6, ?_⟩
  unfold lwL
  rw [q_368_766]
  try simp only [li_1, li_2, li_3, li_4, li_5]
  rw [ald0 hE (by omega) (by omega), ald0 hE (by omega) (by omega)]
  rw [cI_ret hc]
  rw [ald0 (E := E1) (F := F1) (L := L) (by rw [he]; exact hE) (by omega) (by omega), ald0 (E := E1) (F := F1) (L := L) (by rw [he]; exact hE) (by omega) (by omega), hf]
  rw [cI_ret hm]
  exact if_pos (decide_eq_true rfl)
theorem tq_859 {d L : Nat} {k : Int} {E : EnQ} {F : Nat → Int → Int32} {G : Nat → Int → Int64} {z5 z6 : Option Value} (hE : E.2.2.1 0 = (2, 9, L)) (hk : 0 ≤ k ∧ k + 6 ≤ L ∧ L ≤ 3072) {E1 : EnQ} {F1 F2 : Nat → Int → Int32} {G1 G2 : Nat → Int → Int64} {v : Int32} (hc : callP MP d 117 [.ref 16] (mk E F G) = some (Sum.inl (some (.int v)), mk E1 F1 G1)) (he : E1.2.2.1 = E.2.2.1) (hf : F1 0 = F 0) (hm : callP MP d 265 [.ref 217] (mk E1 F1 G1) = some (Sum.inl (some (.int v)), mk E1 F2 G2)) : ∃ y5 y6, runP MP d 368 (859, lwL (zI k) z5 z6, [], mk E F G) = runP MP d 368 (3740, lwL (zI k) y5 y6, [], mk E1 F2 G2) := by
  refine ⟨z5, z6, ?_⟩
  unfold lwL
  rw [q_368_859]
  try simp only [li_1, li_2, li_3, li_4, li_5]
  skip
  rw [cI_ret hc]
  skip
  rw [cI_ret hm]
  exact if_pos (decide_eq_true rfl)
theorem tq_1544 {d L : Nat} {k : Int} {E : EnQ} {F : Nat → Int → Int32} {G : Nat → Int → Int64} {z5 z6 : Option Value} (hE : E.2.2.1 0 = (2, 9, L)) (hk : 0 ≤ k ∧ k + 6 ≤ L ∧ L ≤ 3072) {E1 : EnQ} {F1 F2 : Nat → Int → Int32} {G1 G2 : Nat → Int → Int64} {v : Int32} (hc : callP MP d 118 [.ref 16] (mk E F G) = some (Sum.inl (some (.int v)), mk E1 F1 G1)) (he : E1.2.2.1 = E.2.2.1) (hf : F1 0 = F 0) (hm : callP MP d 251 [.ref 217] (mk E1 F1 G1) = some (Sum.inl (some (.int v)), mk E1 F2 G2)) : ∃ y5 y6, runP MP d 368 (1544, lwL (zI k) z5 z6, [], mk E F G) = runP MP d 368 (3740, lwL (zI k) y5 y6, [], mk E1 F2 G2) := by
  refine ⟨z5, z6, ?_⟩
  unfold lwL
  rw [q_368_1544]
  try simp only [li_1, li_2, li_3, li_4, li_5]
  skip
  rw [cI_ret hc]
  skip
  rw [cI_ret hm]
  exact if_pos (decide_eq_true rfl)
theorem tq_1885 {d L : Nat} {k : Int} {E : EnQ} {F : Nat → Int → Int32} {G : Nat → Int → Int64} {z5 z6 : Option Value} (hE : E.2.2.1 0 = (2, 9, L)) (hk : 0 ≤ k ∧ k + 6 ≤ L ∧ L ≤ 3072) {E1 : EnQ} {F1 F2 : Nat → Int → Int32} {G1 G2 : Nat → Int → Int64} {v : Int32} (hc : callP MP d 119 [.ref 16] (mk E F G) = some (Sum.inl (some (.int v)), mk E1 F1 G1)) (he : E1.2.2.1 = E.2.2.1) (hf : F1 0 = F 0) (hm : callP MP d 274 [.ref 217] (mk E1 F1 G1) = some (Sum.inl (some (.int v)), mk E1 F2 G2)) : ∃ y5 y6, runP MP d 368 (1885, lwL (zI k) z5 z6, [], mk E F G) = runP MP d 368 (3740, lwL (zI k) y5 y6, [], mk E1 F2 G2) := by
  refine ⟨z5, z6, ?_⟩
  unfold lwL
  rw [q_368_1885]
  try simp only [li_1, li_2, li_3, li_4, li_5]
  skip
  rw [cI_ret hc]
  skip
  rw [cI_ret hm]
  exact if_pos (decide_eq_true rfl)
theorem tq_2733 {d L : Nat} {k : Int} {E : EnQ} {F : Nat → Int → Int32} {G : Nat → Int → Int64} {z5 z6 : Option Value} (hE : E.2.2.1 0 = (2, 9, L)) (hk : 0 ≤ k ∧ k + 6 ≤ L ∧ L ≤ 3072) {E1 : EnQ} {F1 F2 : Nat → Int → Int32} {G1 G2 : Nat → Int → Int64} {v : Int32} (hc : callP MP d 120 [.ref 16] (mk E F G) = some (Sum.inl (some (.int v)), mk E1 F1 G1)) (he : E1.2.2.1 = E.2.2.1) (hf : F1 0 = F 0) (hm : callP MP d 290 [.ref 217] (mk E1 F1 G1) = some (Sum.inl (some (.int v)), mk E1 F2 G2)) : ∃ y5 y6, runP MP d 368 (2733, lwL (zI k) z5 z6, [], mk E F G) = runP MP d 368 (3740, lwL (zI k) y5 y6, [], mk E1 F2 G2) := by
  refine ⟨z5, z6, ?_⟩
  unfold lwL
  rw [q_368_2733]
  try simp only [li_1, li_2, li_3, li_4, li_5]
  skip
  rw [cI_ret hc]
  skip
  rw [cI_ret hm]
  exact if_pos (decide_eq_true rfl)
theorem tq_3715 {d L : Nat} {k : Int} {E : EnQ} {F : Nat → Int → Int32} {G : Nat → Int → Int64} {z5 z6 : Option Value} (hE : E.2.2.1 0 = (2, 9, L)) (hk : 0 ≤ k ∧ k + 6 ≤ L ∧ L ≤ 3072) {E1 : EnQ} {F1 F2 : Nat → Int → Int32} {G1 G2 : Nat → Int → Int64} {v : Int32} (hc : callP MP d 122 [.ref 16, .int (F 0 (k + 1))] (mk E F G) = some (Sum.inl (some (.int v)), mk E1 F1 G1)) (he : E1.2.2.1 = E.2.2.1) (hf : F1 0 = F 0) (hm : callP MP d 318 [.ref 217, .int (F 0 (k + 1))] (mk E1 F1 G1) = some (Sum.inl (some (.int v)), mk E1 F2 G2)) : ∃ y5 y6, runP MP d 368 (3715, lwL (zI k) z5 z6, [], mk E F G) = runP MP d 368 (3740, lwL (zI k) y5 y6, [], mk E1 F2 G2) := by
  refine ⟨z5, z6, ?_⟩
  unfold lwL
  rw [q_368_3715]
  try simp only [li_1, li_2, li_3, li_4, li_5]
  rw [ald0 hE (by omega) (by omega)]
  rw [cI_ret hc]
  rw [ald0 (E := E1) (F := F1) (L := L) (by rw [he]; exact hE) (by omega) (by omega), hf]
  rw [cI_ret hm]
  exact if_pos (decide_eq_true rfl)
theorem tq_3472 {d L : Nat} {k : Int} {E : EnQ} {F : Nat → Int → Int32} {G : Nat → Int → Int64} {z5 z6 : Option Value} (hE : E.2.2.1 0 = (2, 9, L)) (hk : 0 ≤ k ∧ k + 6 ≤ L ∧ L ≤ 3072) {E1 : EnQ} {F1 F2 : Nat → Int → Int32} {G1 G2 : Nat → Int → Int64} {v : Int32} (hc : callP MP d 364 [.ref 16, .int (F 0 (k + 1)), .int (F 0 (k + 2)), .int (F 0 (k + 3))] (mk E F G) = some (Sum.inl (some (.int v)), mk E1 F1 G1)) (he : E1.2.2.1 = E.2.2.1) (hf : F1 0 = F 0) (hm : callP MP d 314 [.ref 217, .int (F 0 (k + 1)), .int (F 0 (k + 2)), .int (F 0 (k + 3))] (mk E1 F1 G1) = some (Sum.inl none, mk E1 F2 G2)) (h5 : F2 217 5 = v) (hd : 1 ≤ d) : ∃ y5 y6, runP MP d 368 (3472, lwL (zI k) z5 z6, [], mk E F G) = runP MP d 368 (3740, lwL (zI k) y5 y6, [], mk E1 F2 G2) := by
  refine ⟨some (.int v), z6, ?_⟩
  unfold lwL
  rw [q_368_3472]
  try simp only [li_1, li_2, li_3, li_4, li_5]
  rw [ald0 hE (by omega) (by omega), ald0 hE (by omega) (by omega), ald0 hE (by omega) (by omega)]
  rw [cI_ret hc]
  rw [ald0 (E := E1) (F := F1) (L := L) (by rw [he]; exact hE) (by omega) (by omega), ald0 (E := E1) (F := F1) (L := L) (by rw [he]; exact hE) (by omega) (by omega), ald0 (E := E1) (F := F1) (L := L) (by rw [he]; exact hE) (by omega) (by omega), hf]
  rw [cV_ret hm]
  rw [cI_ret (ct_185 hd)]
  exact if_pos (decide_eq_true h5)
theorem tq_3643 {d L : Nat} {k : Int} {E : EnQ} {F : Nat → Int → Int32} {G : Nat → Int → Int64} {z5 z6 : Option Value} (hE : E.2.2.1 0 = (2, 9, L)) (hk : 0 ≤ k ∧ k + 6 ≤ L ∧ L ≤ 3072) {E1 : EnQ} {F1 F2 : Nat → Int → Int32} {G1 G2 : Nat → Int → Int64} {v : Int32} (hc : callP MP d 366 [.ref 16, .int (F 0 (k + 1))] (mk E F G) = some (Sum.inl (some (.int v)), mk E1 F1 G1)) (he : E1.2.2.1 = E.2.2.1) (hf : F1 0 = F 0) (hm : callP MP d 316 [.ref 217, .int (F 0 (k + 1))] (mk E1 F1 G1) = some (Sum.inl none, mk E1 F2 G2)) (h5 : F2 217 5 = v) (hd : 1 ≤ d) : ∃ y5 y6, runP MP d 368 (3643, lwL (zI k) z5 z6, [], mk E F G) = runP MP d 368 (3740, lwL (zI k) y5 y6, [], mk E1 F2 G2) := by
  refine ⟨some (.int v), z6, ?_⟩
  unfold lwL
  rw [q_368_3643]
  try simp only [li_1, li_2, li_3, li_4, li_5]
  rw [ald0 hE (by omega) (by omega)]
  rw [cI_ret hc]
  rw [ald0 (E := E1) (F := F1) (L := L) (by rw [he]; exact hE) (by omega) (by omega), hf]
  rw [cV_ret hm]
  rw [cI_ret (ct_185 hd)]
  exact if_pos (decide_eq_true h5)
theorem tq_3679 {d L : Nat} {k : Int} {E : EnQ} {F : Nat → Int → Int32} {G : Nat → Int → Int64} {z5 z6 : Option Value} (hE : E.2.2.1 0 = (2, 9, L)) (hk : 0 ≤ k ∧ k + 6 ≤ L ∧ L ≤ 3072) {E1 : EnQ} {F1 F2 : Nat → Int → Int32} {G1 G2 : Nat → Int → Int64} {v : Int32} (hc : callP MP d 367 [.ref 16, .int (F 0 (k + 1))] (mk E F G) = some (Sum.inl (some (.int v)), mk E1 F1 G1)) (he : E1.2.2.1 = E.2.2.1) (hf : F1 0 = F 0) (hm : callP MP d 317 [.ref 217, .int (F 0 (k + 1))] (mk E1 F1 G1) = some (Sum.inl none, mk E1 F2 G2)) (h5 : F2 217 5 = v) (hd : 1 ≤ d) : ∃ y5 y6, runP MP d 368 (3679, lwL (zI k) z5 z6, [], mk E F G) = runP MP d 368 (3740, lwL (zI k) y5 y6, [], mk E1 F2 G2) := by
  refine ⟨some (.int v), z6, ?_⟩
  unfold lwL
  rw [q_368_3679]
  try simp only [li_1, li_2, li_3, li_4, li_5]
  rw [ald0 hE (by omega) (by omega)]
  rw [cI_ret hc]
  rw [ald0 (E := E1) (F := F1) (L := L) (by rw [he]; exact hE) (by omega) (by omega), hf]
  rw [cV_ret hm]
  rw [cI_ret (ct_185 hd)]
  exact if_pos (decide_eq_true h5)
theorem tq_2621 {d L : Nat} {k : Int} {E : EnQ} {F : Nat → Int → Int32} {G : Nat → Int → Int64} {z5 z6 : Option Value} (hE : E.2.2.1 0 = (2, 9, L)) (hk : 0 ≤ k ∧ k + 6 ≤ L ∧ L ≤ 3072) {E1 : EnQ} {F1 F2 : Nat → Int → Int32} {G1 G2 : Nat → Int → Int64} {a : Int × Int} (ha : 0 ≤ a.1 ∧ a.1 ≤ 5) (hc : callP MP d 352 [.ref 16, .int (F 0 (k + 1)), .long (lgJ (F 0 (k + 2)) (F 0 (k + 3))), .int (F 0 (k + 4)), .ref 246] (mk E F G) = some (Sum.inl (some (.int (zI a.1))), mk E1 F1 (outG G1 a.1 (Int32.toInt64 (zI a.2))))) (he : E1.2.2.1 = E.2.2.1) (hf : F1 0 = F 0) (hm : callP MP d 289 [.ref 217, .int (F 0 (k + 1)), .long (lgJ (F 0 (k + 2)) (F 0 (k + 3))), .int (F 0 (k + 4))] (mk E1 F1 (outG G1 a.1 (Int32.toInt64 (zI a.2)))) = some (Sum.inl (some (.int (zI a.2))), mk E1 F2 G2)) (h5 : F2 217 5 = zI a.1) (hg : G2 246 = outG G1 a.1 (Int32.toInt64 (zI a.2)) 246) (hd : 1 ≤ d) : ∃ y5 y6, runP MP d 368 (2621, lwL (zI k) z5 z6, [], mk E F G) = runP MP d 368 (3740, lwL (zI k) y5 y6, [], mk E1 F2 G2) := by
  refine ⟨some (.int (zI a.1)), some (.int (zI a.2)), ?_⟩
  unfold lgJ at hc hm
  unfold lwL
  rw [q_368_2621]
  rw [ald0n (j := 1) (c := 1) rfl hE (by omega) (by omega), ald0n (j := 2) (c := 2) rfl hE (by omega) (by omega), ald0n (j := 3) (c := 3) rfl hE (by omega) (by omega), ald0n (j := 4) (c := 4) rfl hE (by omega) (by omega)]
  rw [cI_ret hc]
  rw [ald0n (j := 1) (c := 1) rfl (E := E1) (F := F1) (L := L) (by rw [he]; exact hE) (by omega) (by omega), ald0n (j := 2) (c := 2) rfl (E := E1) (F := F1) (L := L) (by rw [he]; exact hE) (by omega) (by omega), ald0n (j := 3) (c := 3) rfl (E := E1) (F := F1) (L := L) (by rw [he]; exact hE) (by omega) (by omega), ald0n (j := 4) (c := 4) rfl (E := E1) (F := F1) (L := L) (by rw [he]; exact hE) (by omega) (by omega), hf]
  rw [cI_ret hm]
  rw [cI_ret (ct_185 hd)]
  rw [tl_lg ha h5 (fun h => by rw [hg]; exact outG_at h)]
  exact q_368_2730
theorem tq_3532 {d L : Nat} {k : Int} {E : EnQ} {F : Nat → Int → Int32} {G : Nat → Int → Int64} {z5 z6 : Option Value} (hE : E.2.2.1 0 = (2, 9, L)) (hk : 0 ≤ k ∧ k + 6 ≤ L ∧ L ≤ 3072) {E1 : EnQ} {F1 F2 : Nat → Int → Int32} {G1 G2 : Nat → Int → Int64} {a : Int × Int} (ha : 0 ≤ a.1 ∧ a.1 ≤ 5) (hc : callP MP d 365 [.ref 16, .int (F 0 (k + 1)), .int (F 0 (k + 2)), .long (lgJ (F 0 (k + 3)) (F 0 (k + 4))), .ref 246] (mk E F G) = some (Sum.inl (some (.int (zI a.1))), mk E1 F1 (outG G1 a.1 (zJ a.2)))) (he : E1.2.2.1 = E.2.2.1) (hf : F1 0 = F 0) (hm : callP MP d 315 [.ref 217, .int (F 0 (k + 1)), .int (F 0 (k + 2)), .long (lgJ (F 0 (k + 3)) (F 0 (k + 4)))] (mk E1 F1 (outG G1 a.1 (zJ a.2))) = some (Sum.inl (some (.long (zJ a.2))), mk E1 F2 G2)) (h5 : F2 217 5 = zI a.1) (hg : G2 246 = outG G1 a.1 (zJ a.2) 246) (hd : 1 ≤ d) : ∃ y5 y6, runP MP d 368 (3532, lwL (zI k) z5 z6, [], mk E F G) = runP MP d 368 (3740, lwL (zI k) y5 y6, [], mk E1 F2 G2) := by
  refine ⟨some (.int (zI a.1)), some (.long (zJ a.2)), ?_⟩
  unfold lgJ at hc hm
  unfold lwL
  rw [q_368_3532]
  rw [ald0n (j := 1) (c := 1) rfl hE (by omega) (by omega), ald0n (j := 2) (c := 2) rfl hE (by omega) (by omega), ald0n (j := 3) (c := 3) rfl hE (by omega) (by omega), ald0n (j := 4) (c := 4) rfl hE (by omega) (by omega)]
  rw [cI_ret hc]
  rw [ald0n (j := 1) (c := 1) rfl (E := E1) (F := F1) (L := L) (by rw [he]; exact hE) (by omega) (by omega), ald0n (j := 2) (c := 2) rfl (E := E1) (F := F1) (L := L) (by rw [he]; exact hE) (by omega) (by omega), ald0n (j := 3) (c := 3) rfl (E := E1) (F := F1) (L := L) (by rw [he]; exact hE) (by omega) (by omega), ald0n (j := 4) (c := 4) rfl (E := E1) (F := F1) (L := L) (by rw [he]; exact hE) (by omega) (by omega), hf]
  rw [cJ_ret hm]
  rw [cI_ret (ct_185 hd)]
  rw [tl_lg ha h5 (fun h => by rw [hg]; exact outG_at h)]
  exact q_368_3640
theorem bz_run {x : Int32} {f : Int32 → ResP} : (if decide (x = 0) = true then f 0 else f (zI 1)) = f (zI (bZ x)) := by
  unfold bZ
  by_cases e : x = 0
  · rw [if_pos (decide_eq_true e), if_pos e, ← li_0]
  · rw [if_neg (by simpa using e), if_neg e]
theorem tq_1460 {d L : Nat} {k : Int} {E : EnQ} {F : Nat → Int → Int32} {G : Nat → Int → Int64} {z5 z6 : Option Value} (hE : E.2.2.1 0 = (2, 9, L)) (hk : 0 ≤ k ∧ k + 6 ≤ L ∧ L ≤ 3072) {E1 : EnQ} {F1 F2 : Nat → Int → Int32} {G1 G2 : Nat → Int → Int64} {a : Int × Int} (ha : 0 ≤ a.1 ∧ a.1 ≤ 5) (hc : callP MP d 335 [.ref 16, .int (F 0 (k + 1)), .int (zI (bZ (F 0 (k + 2)))), .ref 246] (mk E F G) = some (Sum.inl (some (.int (zI a.1))), mk E1 F1 (outG G1 a.1 (Int32.toInt64 (zI a.2))))) (he : E1.2.2.1 = E.2.2.1) (hf : F1 0 = F 0) (hm : callP MP d 250 [.ref 217, .int (F 0 (k + 1)), .int (zI (bZ (F 0 (k + 2))))] (mk E1 F1 (outG G1 a.1 (Int32.toInt64 (zI a.2)))) = some (Sum.inl (some (.int (zI a.2))), mk E1 F2 G2)) (h5 : F2 217 5 = zI a.1) (hg : G2 246 = outG G1 a.1 (Int32.toInt64 (zI a.2)) 246) (hd : 1 ≤ d) : ∃ y5 y6, runP MP d 368 (1460, lwL (zI k) z5 z6, [], mk E F G) = runP MP d 368 (3740, lwL (zI k) y5 y6, [], mk E1 F2 G2) := by
  refine ⟨some (.int (zI a.1)), some (.int (zI a.2)), ?_⟩
  unfold lwL
  rw [q_368_1460]
  simp only [li_1, li_2, li_3]
  rw [ald0 hE (by omega) (by omega), ald0 hE (by omega) (by omega)]
  rw [bz_run (f := fun b => runP MP d 368 (1481, [some (.ref 0), some (.ref 16), some (.ref 217), some (.ref 246), some (.int (zI k)), z5, z6, none], [.int b, .int (F 0 (k + 1)), .ref 16], mk E F G))]
  rw [q_368_1481, cI_ret hc]
  simp only [li_1, li_2, li_3]
  rw [ald0 (E := E1) (F := F1) (L := L) (by rw [he]; exact hE) (by omega) (by omega), ald0 (E := E1) (F := F1) (L := L) (by rw [he]; exact hE) (by omega) (by omega), hf]
  rw [bz_run (f := fun b => runP MP d 368 (1508, [some (.ref 0), some (.ref 16), some (.ref 217), some (.ref 246), some (.int (zI k)), some (.int (zI a.1)), z6, none], [.int b, .int (F 0 (k + 1)), .ref 217], mk E1 F1 (outG G1 a.1 (Int32.toInt64 (zI a.2)))))]
  rw [q_368_1508, cI_ret hm, cI_ret (ct_185 hd)]
  rw [tl_lg ha h5 (fun h => by rw [hg]; exact outG_at h)]
  exact q_368_1541
theorem tq_2746 {d L : Nat} {k : Int} {E : EnQ} {F : Nat → Int → Int32} {G : Nat → Int → Int64} {z5 z6 : Option Value} (hE : E.2.2.1 0 = (2, 9, L)) (hk : 0 ≤ k ∧ k + 6 ≤ L ∧ L ≤ 3072) {E1 : EnQ} {F1 F2 : Nat → Int → Int32} {G1 G2 : Nat → Int → Int64} {a : Int × Int} (ha : 0 ≤ a.1 ∧ a.1 ≤ 5) (hc : callP MP d 353 [.ref 16, .int (F 0 (k + 1)), .int (zI (bZ (F 0 (k + 2)))), .ref 246] (mk E F G) = some (Sum.inl (some (.int (zI a.1))), mk E1 F1 (outG G1 a.1 (Int32.toInt64 (zI a.2))))) (he : E1.2.2.1 = E.2.2.1) (hf : F1 0 = F 0) (hm : callP MP d 291 [.ref 217, .int (F 0 (k + 1)), .int (zI (bZ (F 0 (k + 2))))] (mk E1 F1 (outG G1 a.1 (Int32.toInt64 (zI a.2)))) = some (Sum.inl (some (.int (zI a.2))), mk E1 F2 G2)) (h5 : F2 217 5 = zI a.1) (hg : G2 246 = outG G1 a.1 (Int32.toInt64 (zI a.2)) 246) (hd : 1 ≤ d) : ∃ y5 y6, runP MP d 368 (2746, lwL (zI k) z5 z6, [], mk E F G) = runP MP d 368 (3740, lwL (zI k) y5 y6, [], mk E1 F2 G2) := by
  refine ⟨some (.int (zI a.1)), some (.int (zI a.2)), ?_⟩
  unfold lwL
  rw [q_368_2746]
  simp only [li_1, li_2, li_3]
  rw [ald0 hE (by omega) (by omega), ald0 hE (by omega) (by omega)]
  rw [bz_run (f := fun b => runP MP d 368 (2767, [some (.ref 0), some (.ref 16), some (.ref 217), some (.ref 246), some (.int (zI k)), z5, z6, none], [.int b, .int (F 0 (k + 1)), .ref 16], mk E F G))]
  rw [q_368_2767, cI_ret hc]
  simp only [li_1, li_2, li_3]
  rw [ald0 (E := E1) (F := F1) (L := L) (by rw [he]; exact hE) (by omega) (by omega), ald0 (E := E1) (F := F1) (L := L) (by rw [he]; exact hE) (by omega) (by omega), hf]
  rw [bz_run (f := fun b => runP MP d 368 (2794, [some (.ref 0), some (.ref 16), some (.ref 217), some (.ref 246), some (.int (zI k)), some (.int (zI a.1)), z6, none], [.int b, .int (F 0 (k + 1)), .ref 217], mk E1 F1 (outG G1 a.1 (Int32.toInt64 (zI a.2)))))]
  rw [q_368_2794, cI_ret hm, cI_ret (ct_185 hd)]
  rw [tl_lg ha h5 (fun h => by rw [hg]; exact outG_at h)]
  exact q_368_2827
theorem tq_2897 {d L : Nat} {k : Int} {E : EnQ} {F : Nat → Int → Int32} {G : Nat → Int → Int64} {z5 z6 : Option Value} (hE : E.2.2.1 0 = (2, 9, L)) (hk : 0 ≤ k ∧ k + 6 ≤ L ∧ L ≤ 3072) {E1 : EnQ} {F1 F2 : Nat → Int → Int32} {G1 G2 : Nat → Int → Int64} {a : Int × Int} (ha : 0 ≤ a.1 ∧ a.1 ≤ 5) (hc : callP MP d 355 [.ref 16, .int (F 0 (k + 1)), .int (F 0 (k + 2)), .int (zI (bZ (F 0 (k + 3)))), .ref 246] (mk E F G) = some (Sum.inl (some (.int (zI a.1))), mk E1 F1 (outG G1 a.1 (Int32.toInt64 (zI a.2))))) (he : E1.2.2.1 = E.2.2.1) (hf : F1 0 = F 0) (hm : callP MP d 309 [.ref 217, .int (F 0 (k + 1)), .int (F 0 (k + 2)), .int (zI (bZ (F 0 (k + 3))))] (mk E1 F1 (outG G1 a.1 (Int32.toInt64 (zI a.2)))) = some (Sum.inl (some (.int (zI a.2))), mk E1 F2 G2)) (h5 : F2 217 5 = zI a.1) (hg : G2 246 = outG G1 a.1 (Int32.toInt64 (zI a.2)) 246) (hd : 1 ≤ d) : ∃ y5 y6, runP MP d 368 (2897, lwL (zI k) z5 z6, [], mk E F G) = runP MP d 368 (3740, lwL (zI k) y5 y6, [], mk E1 F2 G2) := by
  refine ⟨some (.int (zI a.1)), some (.int (zI a.2)), ?_⟩
  unfold lwL
  rw [q_368_2897]
  simp only [li_1, li_2, li_3]
  rw [ald0 hE (by omega) (by omega), ald0 hE (by omega) (by omega), ald0 hE (by omega) (by omega)]
  rw [bz_run (f := fun b => runP MP d 368 (2924, [some (.ref 0), some (.ref 16), some (.ref 217), some (.ref 246), some (.int (zI k)), z5, z6, none], [.int b, .int (F 0 (k + 2)), .int (F 0 (k + 1)), .ref 16], mk E F G))]
  rw [q_368_2924, cI_ret hc]
  simp only [li_1, li_2, li_3]
  rw [ald0 (E := E1) (F := F1) (L := L) (by rw [he]; exact hE) (by omega) (by omega), ald0 (E := E1) (F := F1) (L := L) (by rw [he]; exact hE) (by omega) (by omega), ald0 (E := E1) (F := F1) (L := L) (by rw [he]; exact hE) (by omega) (by omega), hf]
  rw [bz_run (f := fun b => runP MP d 368 (2957, [some (.ref 0), some (.ref 16), some (.ref 217), some (.ref 246), some (.int (zI k)), some (.int (zI a.1)), z6, none], [.int b, .int (F 0 (k + 2)), .int (F 0 (k + 1)), .ref 217], mk E1 F1 (outG G1 a.1 (Int32.toInt64 (zI a.2)))))]
  rw [q_368_2957, cI_ret hm, cI_ret (ct_185 hd)]
  rw [tl_lg ha h5 (fun h => by rw [hg]; exact outG_at h)]
  exact q_368_2990
theorem tq_3241 {d L : Nat} {k : Int} {E : EnQ} {F : Nat → Int → Int32} {G : Nat → Int → Int64} {z5 z6 : Option Value} (hE : E.2.2.1 0 = (2, 9, L)) (hk : 0 ≤ k ∧ k + 6 ≤ L ∧ L ≤ 3072) {E1 : EnQ} {F1 F2 : Nat → Int → Int32} {G1 G2 : Nat → Int → Int64} {a : Int × Int} (ha : 0 ≤ a.1 ∧ a.1 ≤ 5) (hc : callP MP d 360 [.ref 16, .int (F 0 (k + 1)), .ref 246] (mk E F G) = some (Sum.inl (some (.int (zI a.1))), mk E1 F1 (outG G1 a.1 (tnJ (zI a.2))))) (he : E1.2.2.1 = E.2.2.1) (hf : F1 0 = F 0) (hm : callP MP d 306 [.ref 217, .int (F 0 (k + 1))] (mk E1 F1 (outG G1 a.1 (tnJ (zI a.2)))) = some (Sum.inl (some (.int (zI a.2))), mk E1 F2 G2)) (h5 : F2 217 5 = zI a.1) (hg : G2 246 = outG G1 a.1 (tnJ (zI a.2)) 246) (hd : 1 ≤ d) : ∃ y5 y6, runP MP d 368 (3241, lwL (zI k) z5 z6, [], mk E F G) = runP MP d 368 (3740, lwL (zI k) y5 y6, [], mk E1 F2 G2) := by
  refine ⟨some (.int (zI a.1)), some (.int (zI a.2)), ?_⟩
  unfold lwL
  rw [q_368_3241]
  rw [ald0n (j := 1) (c := 1) rfl hE (by omega) (by omega)]
  rw [cI_ret hc]
  rw [ald0n (j := 1) (c := 1) rfl (E := E1) (F := F1) (L := L) (by rw [he]; exact hE) (by omega) (by omega), hf]
  rw [cI_ret hm]
  rw [cI_ret (ct_185 hd)]
  rw [if_pos (decide_eq_true h5)]
  by_cases h : a.1 = 0
  · rw [if_neg (by rw [h]; decide), aldJ_out, hg, outG_at h]
    unfold tnJ
    by_cases e : zI a.2 = 0
    · rw [if_pos (decide_eq_true e), if_pos e, q_368_3295, lg_self]
      exact q_368_3301
    · rw [if_neg (by simpa using e), if_neg e, q_368_3295, lg_self]
      exact q_368_3301
  · rw [if_pos (decide_eq_true (by rw [li_0]; intro e; have := congrArg tI e; rw [tI_zI (by omega), tI_zI (by omega)] at this; exact h this))]
    exact q_368_3301
end S94zzzzx
