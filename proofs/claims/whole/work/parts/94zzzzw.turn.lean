/-! TOP: the turns of the law, by blocks -/
section S94zzzzw
set_option linter.unusedVariables false
set_option linter.unusedSimpArgs false
/-- the locals of the law at a turn -/
def lwL (k : Int32) (z5 z6 : Option Value) : LocP := [some (.ref 0), some (.ref 16), some (.ref 217), some (.ref 246), some (.int k), z5, z6, none]
theorem ald0 {α : Type} {E : EnQ} {F : Nat → Int → Int32} {G : Nat → Int → Int64} {L : Nat} {k j : Int} {f : Int32 → Option α} (hE : E.2.2.1 0 = (2, 9, L)) (hL : L ≤ 3072) (hk : 0 ≤ k + j ∧ k + j < L) : (aldI (mk E F G) 9 0 (zI k + zI j)).bind f = f (F 0 (k + j)) := by
  rw [zI_add]
  unfold aldI
  rw [mk_at (show shx E 0 = (2, 9, L) from hE)]
  show (if (9 : Nat) = 9 ∧ inb (zI (k + j)) L = true then some (F 0 ((zI (k + j)).toNatClampNeg : Nat)) else none).bind f = _
  rw [if_pos ⟨rfl, inb_z hk (by omega)⟩, clamp_z (by omega)]; rfl
theorem ct_185 {d : Nat} {E : EnQ} {F : Nat → Int → Int32} {G : Nat → Int → Int64} (hd : 1 ≤ d) : callP MP d 185 [.ref 217] (mk E F G) = some (Sum.inl (some (.int (F 217 5))), mk E F G) := by
  refine into (D := 0) (by omega) hM_185 (rcv_mk rfl (by decide)) rfl fun d hd => ?_
  show runP MP d 185 (0, [some (.ref 217)], [], _) = _
  rw [q_185_0]
  unfold rdI
  rw [rdV_mk (E := E) (a := 217) (ci := 12) rfl rfl]
  rfl
theorem lg_self (v : Int64) : lg_cmp v v = 0 := by
  rw [← zJ_tJ v, cmpJ (by have := tJ_rg v; omega), if_neg (by omega), if_pos rfl]; rfl
theorem aldJ_out {α : Type} {E : EnQ} {F : Nat → Int → Int32} {G : Nat → Int → Int64} {f : Int64 → Option α} : (aldJ (mk E F G) 246 0).bind f = f (G 246 0) := by
  unfold aldJ
  rw [mk_at (show shx E 246 = (3, 0, 1) by rfl)]
  rfl
theorem tl_lg {c : Int} (hc : 0 ≤ c ∧ c ≤ 5) {E : EnQ} {F : Nat → Int → Int32} {G : Nat → Int → Int64} {q : Int32} {w : Int64} {R1 R0 : ResP} (hq : q = zI c) (hv : c = 0 → G 246 0 = w) : (if decide (q = zI c) = true then (if decide (zI c ≠ 0) = true then R1 else ((aldJ (mk E F G) 246 0).bind fun q9 => (if decide ((lg_cmp q9 w) = 0) = true then R1 else R0))) else R0) = R1 := by
  rw [if_pos (decide_eq_true hq)]
  by_cases h : c = 0
  · rw [if_neg (by rw [h]; decide), aldJ_out, hv h, lg_self]; rfl
  · rw [if_pos (decide_eq_true (by rw [li_0]; intro e; have := congrArg tI e; rw [tI_zI (by omega), tI_zI (by omega)] at this; exact h this))]
theorem outG_at {G : Nat → Int → Int64} {c : Int} {v : Int64} (h : c = 0) : outG G c v 246 0 = v := by rw [h, outG_0, uR_at, uC_at]
theorem tq_357 {d L : Nat} {k : Int} {E : EnQ} {F : Nat → Int → Int32} {G : Nat → Int → Int64} {z5 z6 : Option Value} (hE : E.2.2.1 0 = (2, 9, L)) (hk : 0 ≤ k ∧ k + 6 ≤ L ∧ L ≤ 3072) {E1 : EnQ} {F1 F2 : Nat → Int → Int32} {G1 G2 : Nat → Int → Int64} {a : Int × Int} (ha : 0 ≤ a.1 ∧ a.1 ≤ 5) (hc : callP MP d 319 [.ref 16, .int (F 0 (k + 1)), .ref 246] (mk E F G) = some (Sum.inl (some (.int (zI a.1))), mk E1 F1 (outG G1 a.1 (Int32.toInt64 (zI a.2))))) (he : E1.2.2.1 = E.2.2.1) (hf : F1 0 = F 0) (hm : callP MP d 187 [.ref 217, .int (F 0 (k + 1))] (mk E1 F1 (outG G1 a.1 (Int32.toInt64 (zI a.2)))) = some (Sum.inl (some (.int (zI a.2))), mk E1 F2 G2)) (h5 : F2 217 5 = zI a.1) (hg : G2 246 = outG G1 a.1 (Int32.toInt64 (zI a.2)) 246) (hd : 1 ≤ d) : ∃ y5 y6, runP MP d 368 (357, lwL (zI k) z5 z6, [], mk E F G) = runP MP d 368 (3740, lwL (zI k) y5 y6, [], mk E1 F2 G2) := by
  refine ⟨some (.int (zI a.1)), some (.int (zI a.2)), ?_⟩
  unfold lwL
  rw [q_368_357]
  simp only [li_1, li_2, li_3]
  rw [ald0 hE (by omega) (by omega)]
  rw [cI_ret hc]
  rw [ald0 (E := E1) (F := F1) (L := L) (by rw [he]; exact hE) (by omega) (by omega), hf]
  rw [cI_ret hm]
  rw [cI_ret (ct_185 hd)]
  rw [tl_lg ha h5 (fun h => by rw [hg]; exact outG_at h)]
  exact q_368_410
theorem tq_438 {d L : Nat} {k : Int} {E : EnQ} {F : Nat → Int → Int32} {G : Nat → Int → Int64} {z5 z6 : Option Value} (hE : E.2.2.1 0 = (2, 9, L)) (hk : 0 ≤ k ∧ k + 6 ≤ L ∧ L ≤ 3072) {E1 : EnQ} {F1 F2 : Nat → Int → Int32} {G1 G2 : Nat → Int → Int64} {a : Int × Int} (ha : 0 ≤ a.1 ∧ a.1 ≤ 5) (hc : callP MP d 320 [.ref 16, .int (F 0 (k + 1)), .int (F 0 (k + 2)), .ref 246] (mk E F G) = some (Sum.inl (some (.int (zI a.1))), mk E1 F1 (outG G1 a.1 (Int32.toInt64 (zI a.2))))) (he : E1.2.2.1 = E.2.2.1) (hf : F1 0 = F 0) (hm : callP MP d 208 [.ref 217, .int (F 0 (k + 1)), .int (F 0 (k + 2))] (mk E1 F1 (outG G1 a.1 (Int32.toInt64 (zI a.2)))) = some (Sum.inl (some (.int (zI a.2))), mk E1 F2 G2)) (h5 : F2 217 5 = zI a.1) (hg : G2 246 = outG G1 a.1 (Int32.toInt64 (zI a.2)) 246) (hd : 1 ≤ d) : ∃ y5 y6, runP MP d 368 (438, lwL (zI k) z5 z6, [], mk E F G) = runP MP d 368 (3740, lwL (zI k) y5 y6, [], mk E1 F2 G2) := by
  refine ⟨some (.int (zI a.1)), some (.int (zI a.2)), ?_⟩
  unfold lwL
  rw [q_368_438]
  simp only [li_1, li_2, li_3]
  rw [ald0 hE (by omega) (by omega), ald0 hE (by omega) (by omega)]
  rw [cI_ret hc]
  rw [ald0 (E := E1) (F := F1) (L := L) (by rw [he]; exact hE) (by omega) (by omega), ald0 (E := E1) (F := F1) (L := L) (by rw [he]; exact hE) (by omega) (by omega), hf]
  rw [cI_ret hm]
  rw [cI_ret (ct_185 hd)]
  rw [tl_lg ha h5 (fun h => by rw [hg]; exact outG_at h)]
  exact q_368_503
theorem tq_506 {d L : Nat} {k : Int} {E : EnQ} {F : Nat → Int → Int32} {G : Nat → Int → Int64} {z5 z6 : Option Value} (hE : E.2.2.1 0 = (2, 9, L)) (hk : 0 ≤ k ∧ k + 6 ≤ L ∧ L ≤ 3072) {E1 : EnQ} {F1 F2 : Nat → Int → Int32} {G1 G2 : Nat → Int → Int64} {a : Int × Int} (ha : 0 ≤ a.1 ∧ a.1 ≤ 5) (hc : callP MP d 321 [.ref 16, .int (F 0 (k + 1)), .int (F 0 (k + 2)), .ref 246] (mk E F G) = some (Sum.inl (some (.int (zI a.1))), mk E1 F1 (outG G1 a.1 (Int32.toInt64 (zI a.2))))) (he : E1.2.2.1 = E.2.2.1) (hf : F1 0 = F 0) (hm : callP MP d 212 [.ref 217, .int (F 0 (k + 1)), .int (F 0 (k + 2))] (mk E1 F1 (outG G1 a.1 (Int32.toInt64 (zI a.2)))) = some (Sum.inl (some (.int (zI a.2))), mk E1 F2 G2)) (h5 : F2 217 5 = zI a.1) (hg : G2 246 = outG G1 a.1 (Int32.toInt64 (zI a.2)) 246) (hd : 1 ≤ d) : ∃ y5 y6, runP MP d 368 (506, lwL (zI k) z5 z6, [], mk E F G) = runP MP d 368 (3740, lwL (zI k) y5 y6, [], mk E1 F2 G2) := by
  refine ⟨some (.int (zI a.1)), some (.int (zI a.2)), ?_⟩
  unfold lwL
  rw [q_368_506]
  simp only [li_1, li_2, li_3]
  rw [ald0 hE (by omega) (by omega), ald0 hE (by omega) (by omega)]
  rw [cI_ret hc]
  rw [ald0 (E := E1) (F := F1) (L := L) (by rw [he]; exact hE) (by omega) (by omega), ald0 (E := E1) (F := F1) (L := L) (by rw [he]; exact hE) (by omega) (by omega), hf]
  rw [cI_ret hm]
  rw [cI_ret (ct_185 hd)]
  rw [tl_lg ha h5 (fun h => by rw [hg]; exact outG_at h)]
  exact q_368_571
theorem tq_574 {d L : Nat} {k : Int} {E : EnQ} {F : Nat → Int → Int32} {G : Nat → Int → Int64} {z5 z6 : Option Value} (hE : E.2.2.1 0 = (2, 9, L)) (hk : 0 ≤ k ∧ k + 6 ≤ L ∧ L ≤ 3072) {E1 : EnQ} {F1 F2 : Nat → Int → Int32} {G1 G2 : Nat → Int → Int64} {a : Int × Int} (ha : 0 ≤ a.1 ∧ a.1 ≤ 5) (hc : callP MP d 322 [.ref 16, .int (F 0 (k + 1)), .int (F 0 (k + 2)), .ref 246] (mk E F G) = some (Sum.inl (some (.int (zI a.1))), mk E1 F1 (outG G1 a.1 (Int32.toInt64 (zI a.2))))) (he : E1.2.2.1 = E.2.2.1) (hf : F1 0 = F 0) (hm : callP MP d 218 [.ref 217, .int (F 0 (k + 1)), .int (F 0 (k + 2))] (mk E1 F1 (outG G1 a.1 (Int32.toInt64 (zI a.2)))) = some (Sum.inl (some (.int (zI a.2))), mk E1 F2 G2)) (h5 : F2 217 5 = zI a.1) (hg : G2 246 = outG G1 a.1 (Int32.toInt64 (zI a.2)) 246) (hd : 1 ≤ d) : ∃ y5 y6, runP MP d 368 (574, lwL (zI k) z5 z6, [], mk E F G) = runP MP d 368 (3740, lwL (zI k) y5 y6, [], mk E1 F2 G2) := by
  refine ⟨some (.int (zI a.1)), some (.int (zI a.2)), ?_⟩
  unfold lwL
  rw [q_368_574]
  simp only [li_1, li_2, li_3]
  rw [ald0 hE (by omega) (by omega), ald0 hE (by omega) (by omega)]
  rw [cI_ret hc]
  rw [ald0 (E := E1) (F := F1) (L := L) (by rw [he]; exact hE) (by omega) (by omega), ald0 (E := E1) (F := F1) (L := L) (by rw [he]; exact hE) (by omega) (by omega), hf]
  rw [cI_ret hm]
  rw [cI_ret (ct_185 hd)]
  rw [tl_lg ha h5 (fun h => by rw [hg]; exact outG_at h)]
  exact q_368_639
theorem tq_642 {d L : Nat} {k : Int} {E : EnQ} {F : Nat → Int → Int32} {G : Nat → Int → Int64} {z5 z6 : Option Value} (hE : E.2.2.1 0 = (2, 9, L)) (hk : 0 ≤ k ∧ k + 6 ≤ L ∧ L ≤ 3072) {E1 : EnQ} {F1 F2 : Nat → Int → Int32} {G1 G2 : Nat → Int → Int64} {a : Int × Int} (ha : 0 ≤ a.1 ∧ a.1 ≤ 5) (hc : callP MP d 323 [.ref 16, .int (F 0 (k + 1)), .int (F 0 (k + 2)), .ref 246] (mk E F G) = some (Sum.inl (some (.int (zI a.1))), mk E1 F1 (outG G1 a.1 (Int32.toInt64 (zI a.2))))) (he : E1.2.2.1 = E.2.2.1) (hf : F1 0 = F 0) (hm : callP MP d 223 [.ref 217, .int (F 0 (k + 1)), .int (F 0 (k + 2))] (mk E1 F1 (outG G1 a.1 (Int32.toInt64 (zI a.2)))) = some (Sum.inl (some (.int (zI a.2))), mk E1 F2 G2)) (h5 : F2 217 5 = zI a.1) (hg : G2 246 = outG G1 a.1 (Int32.toInt64 (zI a.2)) 246) (hd : 1 ≤ d) : ∃ y5 y6, runP MP d 368 (642, lwL (zI k) z5 z6, [], mk E F G) = runP MP d 368 (3740, lwL (zI k) y5 y6, [], mk E1 F2 G2) := by
  refine ⟨some (.int (zI a.1)), some (.int (zI a.2)), ?_⟩
  unfold lwL
  rw [q_368_642]
  simp only [li_1, li_2, li_3]
  rw [ald0 hE (by omega) (by omega), ald0 hE (by omega) (by omega)]
  rw [cI_ret hc]
  rw [ald0 (E := E1) (F := F1) (L := L) (by rw [he]; exact hE) (by omega) (by omega), ald0 (E := E1) (F := F1) (L := L) (by rw [he]; exact hE) (by omega) (by omega), hf]
  rw [cI_ret hm]
  rw [cI_ret (ct_185 hd)]
  rw [tl_lg ha h5 (fun h => by rw [hg]; exact outG_at h)]
  exact q_368_707
theorem tq_710 {d L : Nat} {k : Int} {E : EnQ} {F : Nat → Int → Int32} {G : Nat → Int → Int64} {z5 z6 : Option Value} (hE : E.2.2.1 0 = (2, 9, L)) (hk : 0 ≤ k ∧ k + 6 ≤ L ∧ L ≤ 3072) {E1 : EnQ} {F1 F2 : Nat → Int → Int32} {G1 G2 : Nat → Int → Int64} {a : Int × Int} (ha : 0 ≤ a.1 ∧ a.1 ≤ 5) (hc : callP MP d 324 [.ref 16, .int (F 0 (k + 1)), .ref 246] (mk E F G) = some (Sum.inl (some (.int (zI a.1))), mk E1 F1 (outG G1 a.1 (Int32.toInt64 (zI a.2))))) (he : E1.2.2.1 = E.2.2.1) (hf : F1 0 = F 0) (hm : callP MP d 224 [.ref 217, .int (F 0 (k + 1))] (mk E1 F1 (outG G1 a.1 (Int32.toInt64 (zI a.2)))) = some (Sum.inl (some (.int (zI a.2))), mk E1 F2 G2)) (h5 : F2 217 5 = zI a.1) (hg : G2 246 = outG G1 a.1 (Int32.toInt64 (zI a.2)) 246) (hd : 1 ≤ d) : ∃ y5 y6, runP MP d 368 (710, lwL (zI k) z5 z6, [], mk E F G) = runP MP d 368 (3740, lwL (zI k) y5 y6, [], mk E1 F2 G2) := by
  refine ⟨some (.int (zI a.1)), some (.int (zI a.2)), ?_⟩
  unfold lwL
  rw [q_368_710]
  simp only [li_1, li_2, li_3]
  rw [ald0 hE (by omega) (by omega)]
  rw [cI_ret hc]
  rw [ald0 (E := E1) (F := F1) (L := L) (by rw [he]; exact hE) (by omega) (by omega), hf]
  rw [cI_ret hm]
  rw [cI_ret (ct_185 hd)]
  rw [tl_lg ha h5 (fun h => by rw [hg]; exact outG_at h)]
  exact q_368_763
theorem tq_803 {d L : Nat} {k : Int} {E : EnQ} {F : Nat → Int → Int32} {G : Nat → Int → Int64} {z5 z6 : Option Value} (hE : E.2.2.1 0 = (2, 9, L)) (hk : 0 ≤ k ∧ k + 6 ≤ L ∧ L ≤ 3072) {E1 : EnQ} {F1 F2 : Nat → Int → Int32} {G1 G2 : Nat → Int → Int64} {a : Int × Int} (ha : 0 ≤ a.1 ∧ a.1 ≤ 5) (hc : callP MP d 325 [.ref 16, .int (F 0 (k + 1)), .ref 246] (mk E F G) = some (Sum.inl (some (.int (zI a.1))), mk E1 F1 (outG G1 a.1 (Int32.toInt64 (zI a.2))))) (he : E1.2.2.1 = E.2.2.1) (hf : F1 0 = F 0) (hm : callP MP d 233 [.ref 217, .int (F 0 (k + 1))] (mk E1 F1 (outG G1 a.1 (Int32.toInt64 (zI a.2)))) = some (Sum.inl (some (.int (zI a.2))), mk E1 F2 G2)) (h5 : F2 217 5 = zI a.1) (hg : G2 246 = outG G1 a.1 (Int32.toInt64 (zI a.2)) 246) (hd : 1 ≤ d) : ∃ y5 y6, runP MP d 368 (803, lwL (zI k) z5 z6, [], mk E F G) = runP MP d 368 (3740, lwL (zI k) y5 y6, [], mk E1 F2 G2) := by
  refine ⟨some (.int (zI a.1)), some (.int (zI a.2)), ?_⟩
  unfold lwL
  rw [q_368_803]
  simp only [li_1, li_2, li_3]
  rw [ald0 hE (by omega) (by omega)]
  rw [cI_ret hc]
  rw [ald0 (E := E1) (F := F1) (L := L) (by rw [he]; exact hE) (by omega) (by omega), hf]
  rw [cI_ret hm]
  rw [cI_ret (ct_185 hd)]
  rw [tl_lg ha h5 (fun h => by rw [hg]; exact outG_at h)]
  exact q_368_856
theorem tq_872 {d L : Nat} {k : Int} {E : EnQ} {F : Nat → Int → Int32} {G : Nat → Int → Int64} {z5 z6 : Option Value} (hE : E.2.2.1 0 = (2, 9, L)) (hk : 0 ≤ k ∧ k + 6 ≤ L ∧ L ≤ 3072) {E1 : EnQ} {F1 F2 : Nat → Int → Int32} {G1 G2 : Nat → Int → Int64} {a : Int × Int} (ha : 0 ≤ a.1 ∧ a.1 ≤ 5) (hc : callP MP d 326 [.ref 16, .int (F 0 (k + 1)), .ref 246] (mk E F G) = some (Sum.inl (some (.int (zI a.1))), mk E1 F1 (outG G1 a.1 (Int32.toInt64 (zI a.2))))) (he : E1.2.2.1 = E.2.2.1) (hf : F1 0 = F 0) (hm : callP MP d 266 [.ref 217, .int (F 0 (k + 1))] (mk E1 F1 (outG G1 a.1 (Int32.toInt64 (zI a.2)))) = some (Sum.inl (some (.int (zI a.2))), mk E1 F2 G2)) (h5 : F2 217 5 = zI a.1) (hg : G2 246 = outG G1 a.1 (Int32.toInt64 (zI a.2)) 246) (hd : 1 ≤ d) : ∃ y5 y6, runP MP d 368 (872, lwL (zI k) z5 z6, [], mk E F G) = runP MP d 368 (3740, lwL (zI k) y5 y6, [], mk E1 F2 G2) := by
  refine ⟨some (.int (zI a.1)), some (.int (zI a.2)), ?_⟩
  unfold lwL
  rw [q_368_872]
  simp only [li_1, li_2, li_3]
  rw [ald0 hE (by omega) (by omega)]
  rw [cI_ret hc]
  rw [ald0 (E := E1) (F := F1) (L := L) (by rw [he]; exact hE) (by omega) (by omega), hf]
  rw [cI_ret hm]
  rw [cI_ret (ct_185 hd)]
  rw [tl_lg ha h5 (fun h => by rw [hg]; exact outG_at h)]
  exact q_368_925
theorem tq_928 {d L : Nat} {k : Int} {E : EnQ} {F : Nat → Int → Int32} {G : Nat → Int → Int64} {z5 z6 : Option Value} (hE : E.2.2.1 0 = (2, 9, L)) (hk : 0 ≤ k ∧ k + 6 ≤ L ∧ L ≤ 3072) {E1 : EnQ} {F1 F2 : Nat → Int → Int32} {G1 G2 : Nat → Int → Int64} {a : Int × Int} (ha : 0 ≤ a.1 ∧ a.1 ≤ 5) (hc : callP MP d 327 [.ref 16, .int (F 0 (k + 1)), .int (F 0 (k + 2)), .ref 246] (mk E F G) = some (Sum.inl (some (.int (zI a.1))), mk E1 F1 (outG G1 a.1 (Int32.toInt64 (zI a.2))))) (he : E1.2.2.1 = E.2.2.1) (hf : F1 0 = F 0) (hm : callP MP d 269 [.ref 217, .int (F 0 (k + 1)), .int (F 0 (k + 2))] (mk E1 F1 (outG G1 a.1 (Int32.toInt64 (zI a.2)))) = some (Sum.inl (some (.int (zI a.2))), mk E1 F2 G2)) (h5 : F2 217 5 = zI a.1) (hg : G2 246 = outG G1 a.1 (Int32.toInt64 (zI a.2)) 246) (hd : 1 ≤ d) : ∃ y5 y6, runP MP d 368 (928, lwL (zI k) z5 z6, [], mk E F G) = runP MP d 368 (3740, lwL (zI k) y5 y6, [], mk E1 F2 G2) := by
  refine ⟨some (.int (zI a.1)), some (.int (zI a.2)), ?_⟩
  unfold lwL
  rw [q_368_928]
  simp only [li_1, li_2, li_3]
  rw [ald0 hE (by omega) (by omega), ald0 hE (by omega) (by omega)]
  rw [cI_ret hc]
  rw [ald0 (E := E1) (F := F1) (L := L) (by rw [he]; exact hE) (by omega) (by omega), ald0 (E := E1) (F := F1) (L := L) (by rw [he]; exact hE) (by omega) (by omega), hf]
  rw [cI_ret hm]
  rw [cI_ret (ct_185 hd)]
  rw [tl_lg ha h5 (fun h => by rw [hg]; exact outG_at h)]
  exact q_368_993
theorem tq_996 {d L : Nat} {k : Int} {E : EnQ} {F : Nat → Int → Int32} {G : Nat → Int → Int64} {z5 z6 : Option Value} (hE : E.2.2.1 0 = (2, 9, L)) (hk : 0 ≤ k ∧ k + 6 ≤ L ∧ L ≤ 3072) {E1 : EnQ} {F1 F2 : Nat → Int → Int32} {G1 G2 : Nat → Int → Int64} {a : Int × Int} (ha : 0 ≤ a.1 ∧ a.1 ≤ 5) (hc : callP MP d 328 [.ref 16, .int (F 0 (k + 1)), .ref 246] (mk E F G) = some (Sum.inl (some (.int (zI a.1))), mk E1 F1 (outG G1 a.1 (Int32.toInt64 (zI a.2))))) (he : E1.2.2.1 = E.2.2.1) (hf : F1 0 = F 0) (hm : callP MP d 270 [.ref 217, .int (F 0 (k + 1))] (mk E1 F1 (outG G1 a.1 (Int32.toInt64 (zI a.2)))) = some (Sum.inl (some (.int (zI a.2))), mk E1 F2 G2)) (h5 : F2 217 5 = zI a.1) (hg : G2 246 = outG G1 a.1 (Int32.toInt64 (zI a.2)) 246) (hd : 1 ≤ d) : ∃ y5 y6, runP MP d 368 (996, lwL (zI k) z5 z6, [], mk E F G) = runP MP d 368 (3740, lwL (zI k) y5 y6, [], mk E1 F2 G2) := by
  refine ⟨some (.int (zI a.1)), some (.int (zI a.2)), ?_⟩
  unfold lwL
  rw [q_368_996]
  simp only [li_1, li_2, li_3]
  rw [ald0 hE (by omega) (by omega)]
  rw [cI_ret hc]
  rw [ald0 (E := E1) (F := F1) (L := L) (by rw [he]; exact hE) (by omega) (by omega), hf]
  rw [cI_ret hm]
  rw [cI_ret (ct_185 hd)]
  rw [tl_lg ha h5 (fun h => by rw [hg]; exact outG_at h)]
  exact q_368_1049
theorem tq_1052 {d L : Nat} {k : Int} {E : EnQ} {F : Nat → Int → Int32} {G : Nat → Int → Int64} {z5 z6 : Option Value} (hE : E.2.2.1 0 = (2, 9, L)) (hk : 0 ≤ k ∧ k + 6 ≤ L ∧ L ≤ 3072) {E1 : EnQ} {F1 F2 : Nat → Int → Int32} {G1 G2 : Nat → Int → Int64} {a : Int × Int} (ha : 0 ≤ a.1 ∧ a.1 ≤ 5) (hc : callP MP d 329 [.ref 16, .int (F 0 (k + 1)), .int (F 0 (k + 2)), .ref 246] (mk E F G) = some (Sum.inl (some (.int (zI a.1))), mk E1 F1 (outG G1 a.1 (Int32.toInt64 (zI a.2))))) (he : E1.2.2.1 = E.2.2.1) (hf : F1 0 = F 0) (hm : callP MP d 234 [.ref 217, .int (F 0 (k + 1)), .int (F 0 (k + 2))] (mk E1 F1 (outG G1 a.1 (Int32.toInt64 (zI a.2)))) = some (Sum.inl (some (.int (zI a.2))), mk E1 F2 G2)) (h5 : F2 217 5 = zI a.1) (hg : G2 246 = outG G1 a.1 (Int32.toInt64 (zI a.2)) 246) (hd : 1 ≤ d) : ∃ y5 y6, runP MP d 368 (1052, lwL (zI k) z5 z6, [], mk E F G) = runP MP d 368 (3740, lwL (zI k) y5 y6, [], mk E1 F2 G2) := by
  refine ⟨some (.int (zI a.1)), some (.int (zI a.2)), ?_⟩
  unfold lwL
  rw [q_368_1052]
  simp only [li_1, li_2, li_3]
  rw [ald0 hE (by omega) (by omega), ald0 hE (by omega) (by omega)]
  rw [cI_ret hc]
  rw [ald0 (E := E1) (F := F1) (L := L) (by rw [he]; exact hE) (by omega) (by omega), ald0 (E := E1) (F := F1) (L := L) (by rw [he]; exact hE) (by omega) (by omega), hf]
  rw [cI_ret hm]
  rw [cI_ret (ct_185 hd)]
  rw [tl_lg ha h5 (fun h => by rw [hg]; exact outG_at h)]
  exact q_368_1117
theorem tq_1120 {d L : Nat} {k : Int} {E : EnQ} {F : Nat → Int → Int32} {G : Nat → Int → Int64} {z5 z6 : Option Value} (hE : E.2.2.1 0 = (2, 9, L)) (hk : 0 ≤ k ∧ k + 6 ≤ L ∧ L ≤ 3072) {E1 : EnQ} {F1 F2 : Nat → Int → Int32} {G1 G2 : Nat → Int → Int64} {a : Int × Int} (ha : 0 ≤ a.1 ∧ a.1 ≤ 5) (hc : callP MP d 330 [.ref 16, .int (F 0 (k + 1)), .ref 246] (mk E F G) = some (Sum.inl (some (.int (zI a.1))), mk E1 F1 (outG G1 a.1 (Int32.toInt64 (zI a.2))))) (he : E1.2.2.1 = E.2.2.1) (hf : F1 0 = F 0) (hm : callP MP d 241 [.ref 217, .int (F 0 (k + 1))] (mk E1 F1 (outG G1 a.1 (Int32.toInt64 (zI a.2)))) = some (Sum.inl (some (.int (zI a.2))), mk E1 F2 G2)) (h5 : F2 217 5 = zI a.1) (hg : G2 246 = outG G1 a.1 (Int32.toInt64 (zI a.2)) 246) (hd : 1 ≤ d) : ∃ y5 y6, runP MP d 368 (1120, lwL (zI k) z5 z6, [], mk E F G) = runP MP d 368 (3740, lwL (zI k) y5 y6, [], mk E1 F2 G2) := by
  refine ⟨some (.int (zI a.1)), some (.int (zI a.2)), ?_⟩
  unfold lwL
  rw [q_368_1120]
  simp only [li_1, li_2, li_3]
  rw [ald0 hE (by omega) (by omega)]
  rw [cI_ret hc]
  rw [ald0 (E := E1) (F := F1) (L := L) (by rw [he]; exact hE) (by omega) (by omega), hf]
  rw [cI_ret hm]
  rw [cI_ret (ct_185 hd)]
  rw [tl_lg ha h5 (fun h => by rw [hg]; exact outG_at h)]
  exact q_368_1173
theorem tq_1176 {d L : Nat} {k : Int} {E : EnQ} {F : Nat → Int → Int32} {G : Nat → Int → Int64} {z5 z6 : Option Value} (hE : E.2.2.1 0 = (2, 9, L)) (hk : 0 ≤ k ∧ k + 6 ≤ L ∧ L ≤ 3072) {E1 : EnQ} {F1 F2 : Nat → Int → Int32} {G1 G2 : Nat → Int → Int64} {a : Int × Int} (ha : 0 ≤ a.1 ∧ a.1 ≤ 5) (hc : callP MP d 331 [.ref 16, .int (F 0 (k + 1)), .int (F 0 (k + 2)), .ref 246] (mk E F G) = some (Sum.inl (some (.int (zI a.1))), mk E1 F1 (outG G1 a.1 (Int32.toInt64 (zI a.2))))) (he : E1.2.2.1 = E.2.2.1) (hf : F1 0 = F 0) (hm : callP MP d 242 [.ref 217, .int (F 0 (k + 1)), .int (F 0 (k + 2))] (mk E1 F1 (outG G1 a.1 (Int32.toInt64 (zI a.2)))) = some (Sum.inl (some (.int (zI a.2))), mk E1 F2 G2)) (h5 : F2 217 5 = zI a.1) (hg : G2 246 = outG G1 a.1 (Int32.toInt64 (zI a.2)) 246) (hd : 1 ≤ d) : ∃ y5 y6, runP MP d 368 (1176, lwL (zI k) z5 z6, [], mk E F G) = runP MP d 368 (3740, lwL (zI k) y5 y6, [], mk E1 F2 G2) := by
  refine ⟨some (.int (zI a.1)), some (.int (zI a.2)), ?_⟩
  unfold lwL
  rw [q_368_1176]
  simp only [li_1, li_2, li_3]
  rw [ald0 hE (by omega) (by omega), ald0 hE (by omega) (by omega)]
  rw [cI_ret hc]
  rw [ald0 (E := E1) (F := F1) (L := L) (by rw [he]; exact hE) (by omega) (by omega), ald0 (E := E1) (F := F1) (L := L) (by rw [he]; exact hE) (by omega) (by omega), hf]
  rw [cI_ret hm]
  rw [cI_ret (ct_185 hd)]
  rw [tl_lg ha h5 (fun h => by rw [hg]; exact outG_at h)]
  exact q_368_1241
theorem tq_1244 {d L : Nat} {k : Int} {E : EnQ} {F : Nat → Int → Int32} {G : Nat → Int → Int64} {z5 z6 : Option Value} (hE : E.2.2.1 0 = (2, 9, L)) (hk : 0 ≤ k ∧ k + 6 ≤ L ∧ L ≤ 3072) {E1 : EnQ} {F1 F2 : Nat → Int → Int32} {G1 G2 : Nat → Int → Int64} {a : Int × Int} (ha : 0 ≤ a.1 ∧ a.1 ≤ 5) (hc : callP MP d 332 [.ref 16, .int (F 0 (k + 1)), .int (F 0 (k + 2)), .int (F 0 (k + 3)), .ref 246] (mk E F G) = some (Sum.inl (some (.int (zI a.1))), mk E1 F1 (outG G1 a.1 (Int32.toInt64 (zI a.2))))) (he : E1.2.2.1 = E.2.2.1) (hf : F1 0 = F 0) (hm : callP MP d 245 [.ref 217, .int (F 0 (k + 1)), .int (F 0 (k + 2)), .int (F 0 (k + 3))] (mk E1 F1 (outG G1 a.1 (Int32.toInt64 (zI a.2)))) = some (Sum.inl (some (.int (zI a.2))), mk E1 F2 G2)) (h5 : F2 217 5 = zI a.1) (hg : G2 246 = outG G1 a.1 (Int32.toInt64 (zI a.2)) 246) (hd : 1 ≤ d) : ∃ y5 y6, runP MP d 368 (1244, lwL (zI k) z5 z6, [], mk E F G) = runP MP d 368 (3740, lwL (zI k) y5 y6, [], mk E1 F2 G2) := by
  refine ⟨some (.int (zI a.1)), some (.int (zI a.2)), ?_⟩
  unfold lwL
  rw [q_368_1244]
  simp only [li_1, li_2, li_3]
  rw [ald0 hE (by omega) (by omega), ald0 hE (by omega) (by omega), ald0 hE (by omega) (by omega)]
  rw [cI_ret hc]
  rw [ald0 (E := E1) (F := F1) (L := L) (by rw [he]; exact hE) (by omega) (by omega), ald0 (E := E1) (F := F1) (L := L) (by rw [he]; exact hE) (by omega) (by omega), ald0 (E := E1) (F := F1) (L := L) (by rw [he]; exact hE) (by omega) (by omega), hf]
  rw [cI_ret hm]
  rw [cI_ret (ct_185 hd)]
  rw [tl_lg ha h5 (fun h => by rw [hg]; exact outG_at h)]
  exact q_368_1321
theorem tq_1324 {d L : Nat} {k : Int} {E : EnQ} {F : Nat → Int → Int32} {G : Nat → Int → Int64} {z5 z6 : Option Value} (hE : E.2.2.1 0 = (2, 9, L)) (hk : 0 ≤ k ∧ k + 6 ≤ L ∧ L ≤ 3072) {E1 : EnQ} {F1 F2 : Nat → Int → Int32} {G1 G2 : Nat → Int → Int64} {a : Int × Int} (ha : 0 ≤ a.1 ∧ a.1 ≤ 5) (hc : callP MP d 333 [.ref 16, .int (F 0 (k + 1)), .int (F 0 (k + 2)), .ref 246] (mk E F G) = some (Sum.inl (some (.int (zI a.1))), mk E1 F1 (outG G1 a.1 (Int32.toInt64 (zI a.2))))) (he : E1.2.2.1 = E.2.2.1) (hf : F1 0 = F 0) (hm : callP MP d 247 [.ref 217, .int (F 0 (k + 1)), .int (F 0 (k + 2))] (mk E1 F1 (outG G1 a.1 (Int32.toInt64 (zI a.2)))) = some (Sum.inl (some (.int (zI a.2))), mk E1 F2 G2)) (h5 : F2 217 5 = zI a.1) (hg : G2 246 = outG G1 a.1 (Int32.toInt64 (zI a.2)) 246) (hd : 1 ≤ d) : ∃ y5 y6, runP MP d 368 (1324, lwL (zI k) z5 z6, [], mk E F G) = runP MP d 368 (3740, lwL (zI k) y5 y6, [], mk E1 F2 G2) := by
  refine ⟨some (.int (zI a.1)), some (.int (zI a.2)), ?_⟩
  unfold lwL
  rw [q_368_1324]
  simp only [li_1, li_2, li_3]
  rw [ald0 hE (by omega) (by omega), ald0 hE (by omega) (by omega)]
  rw [cI_ret hc]
  rw [ald0 (E := E1) (F := F1) (L := L) (by rw [he]; exact hE) (by omega) (by omega), ald0 (E := E1) (F := F1) (L := L) (by rw [he]; exact hE) (by omega) (by omega), hf]
  rw [cI_ret hm]
  rw [cI_ret (ct_185 hd)]
  rw [tl_lg ha h5 (fun h => by rw [hg]; exact outG_at h)]
  exact q_368_1389
theorem tq_1392 {d L : Nat} {k : Int} {E : EnQ} {F : Nat → Int → Int32} {G : Nat → Int → Int64} {z5 z6 : Option Value} (hE : E.2.2.1 0 = (2, 9, L)) (hk : 0 ≤ k ∧ k + 6 ≤ L ∧ L ≤ 3072) {E1 : EnQ} {F1 F2 : Nat → Int → Int32} {G1 G2 : Nat → Int → Int64} {a : Int × Int} (ha : 0 ≤ a.1 ∧ a.1 ≤ 5) (hc : callP MP d 334 [.ref 16, .int (F 0 (k + 1)), .int (F 0 (k + 2)), .ref 246] (mk E F G) = some (Sum.inl (some (.int (zI a.1))), mk E1 F1 (outG G1 a.1 (Int32.toInt64 (zI a.2))))) (he : E1.2.2.1 = E.2.2.1) (hf : F1 0 = F 0) (hm : callP MP d 248 [.ref 217, .int (F 0 (k + 1)), .int (F 0 (k + 2))] (mk E1 F1 (outG G1 a.1 (Int32.toInt64 (zI a.2)))) = some (Sum.inl (some (.int (zI a.2))), mk E1 F2 G2)) (h5 : F2 217 5 = zI a.1) (hg : G2 246 = outG G1 a.1 (Int32.toInt64 (zI a.2)) 246) (hd : 1 ≤ d) : ∃ y5 y6, runP MP d 368 (1392, lwL (zI k) z5 z6, [], mk E F G) = runP MP d 368 (3740, lwL (zI k) y5 y6, [], mk E1 F2 G2) := by
  refine ⟨some (.int (zI a.1)), some (.int (zI a.2)), ?_⟩
  unfold lwL
  rw [q_368_1392]
  simp only [li_1, li_2, li_3]
  rw [ald0 hE (by omega) (by omega), ald0 hE (by omega) (by omega)]
  rw [cI_ret hc]
  rw [ald0 (E := E1) (F := F1) (L := L) (by rw [he]; exact hE) (by omega) (by omega), ald0 (E := E1) (F := F1) (L := L) (by rw [he]; exact hE) (by omega) (by omega), hf]
  rw [cI_ret hm]
  rw [cI_ret (ct_185 hd)]
  rw [tl_lg ha h5 (fun h => by rw [hg]; exact outG_at h)]
  exact q_368_1457
theorem tq_1557 {d L : Nat} {k : Int} {E : EnQ} {F : Nat → Int → Int32} {G : Nat → Int → Int64} {z5 z6 : Option Value} (hE : E.2.2.1 0 = (2, 9, L)) (hk : 0 ≤ k ∧ k + 6 ≤ L ∧ L ≤ 3072) {E1 : EnQ} {F1 F2 : Nat → Int → Int32} {G1 G2 : Nat → Int → Int64} {a : Int × Int} (ha : 0 ≤ a.1 ∧ a.1 ≤ 5) (hc : callP MP d 336 [.ref 16, .int (F 0 (k + 1)), .int (F 0 (k + 2)), .ref 246] (mk E F G) = some (Sum.inl (some (.int (zI a.1))), mk E1 F1 (outG G1 a.1 (Int32.toInt64 (zI a.2))))) (he : E1.2.2.1 = E.2.2.1) (hf : F1 0 = F 0) (hm : callP MP d 252 [.ref 217, .int (F 0 (k + 1)), .int (F 0 (k + 2))] (mk E1 F1 (outG G1 a.1 (Int32.toInt64 (zI a.2)))) = some (Sum.inl (some (.int (zI a.2))), mk E1 F2 G2)) (h5 : F2 217 5 = zI a.1) (hg : G2 246 = outG G1 a.1 (Int32.toInt64 (zI a.2)) 246) (hd : 1 ≤ d) : ∃ y5 y6, runP MP d 368 (1557, lwL (zI k) z5 z6, [], mk E F G) = runP MP d 368 (3740, lwL (zI k) y5 y6, [], mk E1 F2 G2) := by
  refine ⟨some (.int (zI a.1)), some (.int (zI a.2)), ?_⟩
  unfold lwL
  rw [q_368_1557]
  simp only [li_1, li_2, li_3]
  rw [ald0 hE (by omega) (by omega), ald0 hE (by omega) (by omega)]
  rw [cI_ret hc]
  rw [ald0 (E := E1) (F := F1) (L := L) (by rw [he]; exact hE) (by omega) (by omega), ald0 (E := E1) (F := F1) (L := L) (by rw [he]; exact hE) (by omega) (by omega), hf]
  rw [cI_ret hm]
  rw [cI_ret (ct_185 hd)]
  rw [tl_lg ha h5 (fun h => by rw [hg]; exact outG_at h)]
  exact q_368_1622
theorem tq_1625 {d L : Nat} {k : Int} {E : EnQ} {F : Nat → Int → Int32} {G : Nat → Int → Int64} {z5 z6 : Option Value} (hE : E.2.2.1 0 = (2, 9, L)) (hk : 0 ≤ k ∧ k + 6 ≤ L ∧ L ≤ 3072) {E1 : EnQ} {F1 F2 : Nat → Int → Int32} {G1 G2 : Nat → Int → Int64} {a : Int × Int} (ha : 0 ≤ a.1 ∧ a.1 ≤ 5) (hc : callP MP d 337 [.ref 16, .int (F 0 (k + 1)), .int (F 0 (k + 2)), .ref 246] (mk E F G) = some (Sum.inl (some (.int (zI a.1))), mk E1 F1 (outG G1 a.1 (Int32.toInt64 (zI a.2))))) (he : E1.2.2.1 = E.2.2.1) (hf : F1 0 = F 0) (hm : callP MP d 254 [.ref 217, .int (F 0 (k + 1)), .int (F 0 (k + 2))] (mk E1 F1 (outG G1 a.1 (Int32.toInt64 (zI a.2)))) = some (Sum.inl (some (.int (zI a.2))), mk E1 F2 G2)) (h5 : F2 217 5 = zI a.1) (hg : G2 246 = outG G1 a.1 (Int32.toInt64 (zI a.2)) 246) (hd : 1 ≤ d) : ∃ y5 y6, runP MP d 368 (1625, lwL (zI k) z5 z6, [], mk E F G) = runP MP d 368 (3740, lwL (zI k) y5 y6, [], mk E1 F2 G2) := by
  refine ⟨some (.int (zI a.1)), some (.int (zI a.2)), ?_⟩
  unfold lwL
  rw [q_368_1625]
  simp only [li_1, li_2, li_3]
  rw [ald0 hE (by omega) (by omega), ald0 hE (by omega) (by omega)]
  rw [cI_ret hc]
  rw [ald0 (E := E1) (F := F1) (L := L) (by rw [he]; exact hE) (by omega) (by omega), ald0 (E := E1) (F := F1) (L := L) (by rw [he]; exact hE) (by omega) (by omega), hf]
  rw [cI_ret hm]
  rw [cI_ret (ct_185 hd)]
  rw [tl_lg ha h5 (fun h => by rw [hg]; exact outG_at h)]
  exact q_368_1690
theorem tq_1693 {d L : Nat} {k : Int} {E : EnQ} {F : Nat → Int → Int32} {G : Nat → Int → Int64} {z5 z6 : Option Value} (hE : E.2.2.1 0 = (2, 9, L)) (hk : 0 ≤ k ∧ k + 6 ≤ L ∧ L ≤ 3072) {E1 : EnQ} {F1 F2 : Nat → Int → Int32} {G1 G2 : Nat → Int → Int64} {a : Int × Int} (ha : 0 ≤ a.1 ∧ a.1 ≤ 5) (hc : callP MP d 338 [.ref 16, .int (F 0 (k + 1)), .ref 246] (mk E F G) = some (Sum.inl (some (.int (zI a.1))), mk E1 F1 (outG G1 a.1 (Int32.toInt64 (zI a.2))))) (he : E1.2.2.1 = E.2.2.1) (hf : F1 0 = F 0) (hm : callP MP d 256 [.ref 217, .int (F 0 (k + 1))] (mk E1 F1 (outG G1 a.1 (Int32.toInt64 (zI a.2)))) = some (Sum.inl (some (.int (zI a.2))), mk E1 F2 G2)) (h5 : F2 217 5 = zI a.1) (hg : G2 246 = outG G1 a.1 (Int32.toInt64 (zI a.2)) 246) (hd : 1 ≤ d) : ∃ y5 y6, runP MP d 368 (1693, lwL (zI k) z5 z6, [], mk E F G) = runP MP d 368 (3740, lwL (zI k) y5 y6, [], mk E1 F2 G2) := by
  refine ⟨some (.int (zI a.1)), some (.int (zI a.2)), ?_⟩
  unfold lwL
  rw [q_368_1693]
  simp only [li_1, li_2, li_3]
  rw [ald0 hE (by omega) (by omega)]
  rw [cI_ret hc]
  rw [ald0 (E := E1) (F := F1) (L := L) (by rw [he]; exact hE) (by omega) (by omega), hf]
  rw [cI_ret hm]
  rw [cI_ret (ct_185 hd)]
  rw [tl_lg ha h5 (fun h => by rw [hg]; exact outG_at h)]
  exact q_368_1746
theorem tq_1749 {d L : Nat} {k : Int} {E : EnQ} {F : Nat → Int → Int32} {G : Nat → Int → Int64} {z5 z6 : Option Value} (hE : E.2.2.1 0 = (2, 9, L)) (hk : 0 ≤ k ∧ k + 6 ≤ L ∧ L ≤ 3072) {E1 : EnQ} {F1 F2 : Nat → Int → Int32} {G1 G2 : Nat → Int → Int64} {a : Int × Int} (ha : 0 ≤ a.1 ∧ a.1 ≤ 5) (hc : callP MP d 339 [.ref 16, .int (F 0 (k + 1)), .int (F 0 (k + 2)), .ref 246] (mk E F G) = some (Sum.inl (some (.int (zI a.1))), mk E1 F1 (outG G1 a.1 (Int32.toInt64 (zI a.2))))) (he : E1.2.2.1 = E.2.2.1) (hf : F1 0 = F 0) (hm : callP MP d 258 [.ref 217, .int (F 0 (k + 1)), .int (F 0 (k + 2))] (mk E1 F1 (outG G1 a.1 (Int32.toInt64 (zI a.2)))) = some (Sum.inl (some (.int (zI a.2))), mk E1 F2 G2)) (h5 : F2 217 5 = zI a.1) (hg : G2 246 = outG G1 a.1 (Int32.toInt64 (zI a.2)) 246) (hd : 1 ≤ d) : ∃ y5 y6, runP MP d 368 (1749, lwL (zI k) z5 z6, [], mk E F G) = runP MP d 368 (3740, lwL (zI k) y5 y6, [], mk E1 F2 G2) := by
  refine ⟨some (.int (zI a.1)), some (.int (zI a.2)), ?_⟩
  unfold lwL
  rw [q_368_1749]
  simp only [li_1, li_2, li_3]
  rw [ald0 hE (by omega) (by omega), ald0 hE (by omega) (by omega)]
  rw [cI_ret hc]
  rw [ald0 (E := E1) (F := F1) (L := L) (by rw [he]; exact hE) (by omega) (by omega), ald0 (E := E1) (F := F1) (L := L) (by rw [he]; exact hE) (by omega) (by omega), hf]
  rw [cI_ret hm]
  rw [cI_ret (ct_185 hd)]
  rw [tl_lg ha h5 (fun h => by rw [hg]; exact outG_at h)]
  exact q_368_1814
theorem tq_1817 {d L : Nat} {k : Int} {E : EnQ} {F : Nat → Int → Int32} {G : Nat → Int → Int64} {z5 z6 : Option Value} (hE : E.2.2.1 0 = (2, 9, L)) (hk : 0 ≤ k ∧ k + 6 ≤ L ∧ L ≤ 3072) {E1 : EnQ} {F1 F2 : Nat → Int → Int32} {G1 G2 : Nat → Int → Int64} {a : Int × Int} (ha : 0 ≤ a.1 ∧ a.1 ≤ 5) (hc : callP MP d 340 [.ref 16, .int (F 0 (k + 1)), .int (F 0 (k + 2)), .ref 246] (mk E F G) = some (Sum.inl (some (.int (zI a.1))), mk E1 F1 (outG G1 a.1 (Int32.toInt64 (zI a.2))))) (he : E1.2.2.1 = E.2.2.1) (hf : F1 0 = F 0) (hm : callP MP d 273 [.ref 217, .int (F 0 (k + 1)), .int (F 0 (k + 2))] (mk E1 F1 (outG G1 a.1 (Int32.toInt64 (zI a.2)))) = some (Sum.inl (some (.int (zI a.2))), mk E1 F2 G2)) (h5 : F2 217 5 = zI a.1) (hg : G2 246 = outG G1 a.1 (Int32.toInt64 (zI a.2)) 246) (hd : 1 ≤ d) : ∃ y5 y6, runP MP d 368 (1817, lwL (zI k) z5 z6, [], mk E F G) = runP MP d 368 (3740, lwL (zI k) y5 y6, [], mk E1 F2 G2) := by
  refine ⟨some (.int (zI a.1)), some (.int (zI a.2)), ?_⟩
  unfold lwL
  rw [q_368_1817]
  simp only [li_1, li_2, li_3]
  rw [ald0 hE (by omega) (by omega), ald0 hE (by omega) (by omega)]
  rw [cI_ret hc]
  rw [ald0 (E := E1) (F := F1) (L := L) (by rw [he]; exact hE) (by omega) (by omega), ald0 (E := E1) (F := F1) (L := L) (by rw [he]; exact hE) (by omega) (by omega), hf]
  rw [cI_ret hm]
  rw [cI_ret (ct_185 hd)]
  rw [tl_lg ha h5 (fun h => by rw [hg]; exact outG_at h)]
  exact q_368_1882
theorem tq_1898 {d L : Nat} {k : Int} {E : EnQ} {F : Nat → Int → Int32} {G : Nat → Int → Int64} {z5 z6 : Option Value} (hE : E.2.2.1 0 = (2, 9, L)) (hk : 0 ≤ k ∧ k + 6 ≤ L ∧ L ≤ 3072) {E1 : EnQ} {F1 F2 : Nat → Int → Int32} {G1 G2 : Nat → Int → Int64} {a : Int × Int} (ha : 0 ≤ a.1 ∧ a.1 ≤ 5) (hc : callP MP d 341 [.ref 16, .int (F 0 (k + 1)), .int (F 0 (k + 2)), .ref 246] (mk E F G) = some (Sum.inl (some (.int (zI a.1))), mk E1 F1 (outG G1 a.1 (Int32.toInt64 (zI a.2))))) (he : E1.2.2.1 = E.2.2.1) (hf : F1 0 = F 0) (hm : callP MP d 275 [.ref 217, .int (F 0 (k + 1)), .int (F 0 (k + 2))] (mk E1 F1 (outG G1 a.1 (Int32.toInt64 (zI a.2)))) = some (Sum.inl (some (.int (zI a.2))), mk E1 F2 G2)) (h5 : F2 217 5 = zI a.1) (hg : G2 246 = outG G1 a.1 (Int32.toInt64 (zI a.2)) 246) (hd : 1 ≤ d) : ∃ y5 y6, runP MP d 368 (1898, lwL (zI k) z5 z6, [], mk E F G) = runP MP d 368 (3740, lwL (zI k) y5 y6, [], mk E1 F2 G2) := by
  refine ⟨some (.int (zI a.1)), some (.int (zI a.2)), ?_⟩
  unfold lwL
  rw [q_368_1898]
  simp only [li_1, li_2, li_3]
  rw [ald0 hE (by omega) (by omega), ald0 hE (by omega) (by omega)]
  rw [cI_ret hc]
  rw [ald0 (E := E1) (F := F1) (L := L) (by rw [he]; exact hE) (by omega) (by omega), ald0 (E := E1) (F := F1) (L := L) (by rw [he]; exact hE) (by omega) (by omega), hf]
  rw [cI_ret hm]
  rw [cI_ret (ct_185 hd)]
  rw [tl_lg ha h5 (fun h => by rw [hg]; exact outG_at h)]
  exact q_368_1963
theorem tq_1966 {d L : Nat} {k : Int} {E : EnQ} {F : Nat → Int → Int32} {G : Nat → Int → Int64} {z5 z6 : Option Value} (hE : E.2.2.1 0 = (2, 9, L)) (hk : 0 ≤ k ∧ k + 6 ≤ L ∧ L ≤ 3072) {E1 : EnQ} {F1 F2 : Nat → Int → Int32} {G1 G2 : Nat → Int → Int64} {a : Int × Int} (ha : 0 ≤ a.1 ∧ a.1 ≤ 5) (hc : callP MP d 342 [.ref 16, .int (F 0 (k + 1)), .int (F 0 (k + 2)), .ref 246] (mk E F G) = some (Sum.inl (some (.int (zI a.1))), mk E1 F1 (outG G1 a.1 (Int32.toInt64 (zI a.2))))) (he : E1.2.2.1 = E.2.2.1) (hf : F1 0 = F 0) (hm : callP MP d 259 [.ref 217, .int (F 0 (k + 1)), .int (F 0 (k + 2))] (mk E1 F1 (outG G1 a.1 (Int32.toInt64 (zI a.2)))) = some (Sum.inl (some (.int (zI a.2))), mk E1 F2 G2)) (h5 : F2 217 5 = zI a.1) (hg : G2 246 = outG G1 a.1 (Int32.toInt64 (zI a.2)) 246) (hd : 1 ≤ d) : ∃ y5 y6, runP MP d 368 (1966, lwL (zI k) z5 z6, [], mk E F G) = runP MP d 368 (3740, lwL (zI k) y5 y6, [], mk E1 F2 G2) := by
  refine ⟨some (.int (zI a.1)), some (.int (zI a.2)), ?_⟩
  unfold lwL
  rw [q_368_1966]
  simp only [li_1, li_2, li_3]
  rw [ald0 hE (by omega) (by omega), ald0 hE (by omega) (by omega)]
  rw [cI_ret hc]
  rw [ald0 (E := E1) (F := F1) (L := L) (by rw [he]; exact hE) (by omega) (by omega), ald0 (E := E1) (F := F1) (L := L) (by rw [he]; exact hE) (by omega) (by omega), hf]
  rw [cI_ret hm]
  rw [cI_ret (ct_185 hd)]
  rw [tl_lg ha h5 (fun h => by rw [hg]; exact outG_at h)]
  exact q_368_2031
theorem tq_2034 {d L : Nat} {k : Int} {E : EnQ} {F : Nat → Int → Int32} {G : Nat → Int → Int64} {z5 z6 : Option Value} (hE : E.2.2.1 0 = (2, 9, L)) (hk : 0 ≤ k ∧ k + 6 ≤ L ∧ L ≤ 3072) {E1 : EnQ} {F1 F2 : Nat → Int → Int32} {G1 G2 : Nat → Int → Int64} {a : Int × Int} (ha : 0 ≤ a.1 ∧ a.1 ≤ 5) (hc : callP MP d 343 [.ref 16, .int (F 0 (k + 1)), .int (F 0 (k + 2)), .ref 246] (mk E F G) = some (Sum.inl (some (.int (zI a.1))), mk E1 F1 (outG G1 a.1 (Int32.toInt64 (zI a.2))))) (he : E1.2.2.1 = E.2.2.1) (hf : F1 0 = F 0) (hm : callP MP d 260 [.ref 217, .int (F 0 (k + 1)), .int (F 0 (k + 2))] (mk E1 F1 (outG G1 a.1 (Int32.toInt64 (zI a.2)))) = some (Sum.inl (some (.int (zI a.2))), mk E1 F2 G2)) (h5 : F2 217 5 = zI a.1) (hg : G2 246 = outG G1 a.1 (Int32.toInt64 (zI a.2)) 246) (hd : 1 ≤ d) : ∃ y5 y6, runP MP d 368 (2034, lwL (zI k) z5 z6, [], mk E F G) = runP MP d 368 (3740, lwL (zI k) y5 y6, [], mk E1 F2 G2) := by
  refine ⟨some (.int (zI a.1)), some (.int (zI a.2)), ?_⟩
  unfold lwL
  rw [q_368_2034]
  simp only [li_1, li_2, li_3]
  rw [ald0 hE (by omega) (by omega), ald0 hE (by omega) (by omega)]
  rw [cI_ret hc]
  rw [ald0 (E := E1) (F := F1) (L := L) (by rw [he]; exact hE) (by omega) (by omega), ald0 (E := E1) (F := F1) (L := L) (by rw [he]; exact hE) (by omega) (by omega), hf]
  rw [cI_ret hm]
  rw [cI_ret (ct_185 hd)]
  rw [tl_lg ha h5 (fun h => by rw [hg]; exact outG_at h)]
  exact q_368_2099
theorem tq_2102 {d L : Nat} {k : Int} {E : EnQ} {F : Nat → Int → Int32} {G : Nat → Int → Int64} {z5 z6 : Option Value} (hE : E.2.2.1 0 = (2, 9, L)) (hk : 0 ≤ k ∧ k + 6 ≤ L ∧ L ≤ 3072) {E1 : EnQ} {F1 F2 : Nat → Int → Int32} {G1 G2 : Nat → Int → Int64} {a : Int × Int} (ha : 0 ≤ a.1 ∧ a.1 ≤ 5) (hc : callP MP d 344 [.ref 16, .int (F 0 (k + 1)), .int (F 0 (k + 2)), .ref 246] (mk E F G) = some (Sum.inl (some (.int (zI a.1))), mk E1 F1 (outG G1 a.1 (Int32.toInt64 (zI a.2))))) (he : E1.2.2.1 = E.2.2.1) (hf : F1 0 = F 0) (hm : callP MP d 261 [.ref 217, .int (F 0 (k + 1)), .int (F 0 (k + 2))] (mk E1 F1 (outG G1 a.1 (Int32.toInt64 (zI a.2)))) = some (Sum.inl (some (.int (zI a.2))), mk E1 F2 G2)) (h5 : F2 217 5 = zI a.1) (hg : G2 246 = outG G1 a.1 (Int32.toInt64 (zI a.2)) 246) (hd : 1 ≤ d) : ∃ y5 y6, runP MP d 368 (2102, lwL (zI k) z5 z6, [], mk E F G) = runP MP d 368 (3740, lwL (zI k) y5 y6, [], mk E1 F2 G2) := by
  refine ⟨some (.int (zI a.1)), some (.int (zI a.2)), ?_⟩
  unfold lwL
  rw [q_368_2102]
  simp only [li_1, li_2, li_3]
  rw [ald0 hE (by omega) (by omega), ald0 hE (by omega) (by omega)]
  rw [cI_ret hc]
  rw [ald0 (E := E1) (F := F1) (L := L) (by rw [he]; exact hE) (by omega) (by omega), ald0 (E := E1) (F := F1) (L := L) (by rw [he]; exact hE) (by omega) (by omega), hf]
  rw [cI_ret hm]
  rw [cI_ret (ct_185 hd)]
  rw [tl_lg ha h5 (fun h => by rw [hg]; exact outG_at h)]
  exact q_368_2167
theorem tq_2170 {d L : Nat} {k : Int} {E : EnQ} {F : Nat → Int → Int32} {G : Nat → Int → Int64} {z5 z6 : Option Value} (hE : E.2.2.1 0 = (2, 9, L)) (hk : 0 ≤ k ∧ k + 6 ≤ L ∧ L ≤ 3072) {E1 : EnQ} {F1 F2 : Nat → Int → Int32} {G1 G2 : Nat → Int → Int64} {a : Int × Int} (ha : 0 ≤ a.1 ∧ a.1 ≤ 5) (hc : callP MP d 345 [.ref 16, .int (F 0 (k + 1)), .int (F 0 (k + 2)), .ref 246] (mk E F G) = some (Sum.inl (some (.int (zI a.1))), mk E1 F1 (outG G1 a.1 (Int32.toInt64 (zI a.2))))) (he : E1.2.2.1 = E.2.2.1) (hf : F1 0 = F 0) (hm : callP MP d 277 [.ref 217, .int (F 0 (k + 1)), .int (F 0 (k + 2))] (mk E1 F1 (outG G1 a.1 (Int32.toInt64 (zI a.2)))) = some (Sum.inl (some (.int (zI a.2))), mk E1 F2 G2)) (h5 : F2 217 5 = zI a.1) (hg : G2 246 = outG G1 a.1 (Int32.toInt64 (zI a.2)) 246) (hd : 1 ≤ d) : ∃ y5 y6, runP MP d 368 (2170, lwL (zI k) z5 z6, [], mk E F G) = runP MP d 368 (3740, lwL (zI k) y5 y6, [], mk E1 F2 G2) := by
  refine ⟨some (.int (zI a.1)), some (.int (zI a.2)), ?_⟩
  unfold lwL
  rw [q_368_2170]
  simp only [li_1, li_2, li_3]
  rw [ald0 hE (by omega) (by omega), ald0 hE (by omega) (by omega)]
  rw [cI_ret hc]
  rw [ald0 (E := E1) (F := F1) (L := L) (by rw [he]; exact hE) (by omega) (by omega), ald0 (E := E1) (F := F1) (L := L) (by rw [he]; exact hE) (by omega) (by omega), hf]
  rw [cI_ret hm]
  rw [cI_ret (ct_185 hd)]
  rw [tl_lg ha h5 (fun h => by rw [hg]; exact outG_at h)]
  exact q_368_2235
theorem tq_2238 {d L : Nat} {k : Int} {E : EnQ} {F : Nat → Int → Int32} {G : Nat → Int → Int64} {z5 z6 : Option Value} (hE : E.2.2.1 0 = (2, 9, L)) (hk : 0 ≤ k ∧ k + 6 ≤ L ∧ L ≤ 3072) {E1 : EnQ} {F1 F2 : Nat → Int → Int32} {G1 G2 : Nat → Int → Int64} {a : Int × Int} (ha : 0 ≤ a.1 ∧ a.1 ≤ 5) (hc : callP MP d 346 [.ref 16, .int (F 0 (k + 1)), .int (F 0 (k + 2)), .int (F 0 (k + 3)), .ref 246] (mk E F G) = some (Sum.inl (some (.int (zI a.1))), mk E1 F1 (outG G1 a.1 (Int32.toInt64 (zI a.2))))) (he : E1.2.2.1 = E.2.2.1) (hf : F1 0 = F 0) (hm : callP MP d 279 [.ref 217, .int (F 0 (k + 1)), .int (F 0 (k + 2)), .int (F 0 (k + 3))] (mk E1 F1 (outG G1 a.1 (Int32.toInt64 (zI a.2)))) = some (Sum.inl (some (.int (zI a.2))), mk E1 F2 G2)) (h5 : F2 217 5 = zI a.1) (hg : G2 246 = outG G1 a.1 (Int32.toInt64 (zI a.2)) 246) (hd : 1 ≤ d) : ∃ y5 y6, runP MP d 368 (2238, lwL (zI k) z5 z6, [], mk E F G) = runP MP d 368 (3740, lwL (zI k) y5 y6, [], mk E1 F2 G2) := by
  refine ⟨some (.int (zI a.1)), some (.int (zI a.2)), ?_⟩
  unfold lwL
  rw [q_368_2238]
  simp only [li_1, li_2, li_3]
  rw [ald0 hE (by omega) (by omega), ald0 hE (by omega) (by omega), ald0 hE (by omega) (by omega)]
  rw [cI_ret hc]
  rw [ald0 (E := E1) (F := F1) (L := L) (by rw [he]; exact hE) (by omega) (by omega), ald0 (E := E1) (F := F1) (L := L) (by rw [he]; exact hE) (by omega) (by omega), ald0 (E := E1) (F := F1) (L := L) (by rw [he]; exact hE) (by omega) (by omega), hf]
  rw [cI_ret hm]
  rw [cI_ret (ct_185 hd)]
  rw [tl_lg ha h5 (fun h => by rw [hg]; exact outG_at h)]
  exact q_368_2315
theorem tq_2318 {d L : Nat} {k : Int} {E : EnQ} {F : Nat → Int → Int32} {G : Nat → Int → Int64} {z5 z6 : Option Value} (hE : E.2.2.1 0 = (2, 9, L)) (hk : 0 ≤ k ∧ k + 6 ≤ L ∧ L ≤ 3072) {E1 : EnQ} {F1 F2 : Nat → Int → Int32} {G1 G2 : Nat → Int → Int64} {a : Int × Int} (ha : 0 ≤ a.1 ∧ a.1 ≤ 5) (hc : callP MP d 347 [.ref 16, .int (F 0 (k + 1)), .int (F 0 (k + 2)), .ref 246] (mk E F G) = some (Sum.inl (some (.int (zI a.1))), mk E1 F1 (outG G1 a.1 (Int32.toInt64 (zI a.2))))) (he : E1.2.2.1 = E.2.2.1) (hf : F1 0 = F 0) (hm : callP MP d 281 [.ref 217, .int (F 0 (k + 1)), .int (F 0 (k + 2))] (mk E1 F1 (outG G1 a.1 (Int32.toInt64 (zI a.2)))) = some (Sum.inl (some (.int (zI a.2))), mk E1 F2 G2)) (h5 : F2 217 5 = zI a.1) (hg : G2 246 = outG G1 a.1 (Int32.toInt64 (zI a.2)) 246) (hd : 1 ≤ d) : ∃ y5 y6, runP MP d 368 (2318, lwL (zI k) z5 z6, [], mk E F G) = runP MP d 368 (3740, lwL (zI k) y5 y6, [], mk E1 F2 G2) := by
  refine ⟨some (.int (zI a.1)), some (.int (zI a.2)), ?_⟩
  unfold lwL
  rw [q_368_2318]
  simp only [li_1, li_2, li_3]
  rw [ald0 hE (by omega) (by omega), ald0 hE (by omega) (by omega)]
  rw [cI_ret hc]
  rw [ald0 (E := E1) (F := F1) (L := L) (by rw [he]; exact hE) (by omega) (by omega), ald0 (E := E1) (F := F1) (L := L) (by rw [he]; exact hE) (by omega) (by omega), hf]
  rw [cI_ret hm]
  rw [cI_ret (ct_185 hd)]
  rw [tl_lg ha h5 (fun h => by rw [hg]; exact outG_at h)]
  exact q_368_2383
theorem tq_2386 {d L : Nat} {k : Int} {E : EnQ} {F : Nat → Int → Int32} {G : Nat → Int → Int64} {z5 z6 : Option Value} (hE : E.2.2.1 0 = (2, 9, L)) (hk : 0 ≤ k ∧ k + 6 ≤ L ∧ L ≤ 3072) {E1 : EnQ} {F1 F2 : Nat → Int → Int32} {G1 G2 : Nat → Int → Int64} {a : Int × Int} (ha : 0 ≤ a.1 ∧ a.1 ≤ 5) (hc : callP MP d 348 [.ref 16, .int (F 0 (k + 1)), .ref 246] (mk E F G) = some (Sum.inl (some (.int (zI a.1))), mk E1 F1 (outG G1 a.1 (Int32.toInt64 (zI a.2))))) (he : E1.2.2.1 = E.2.2.1) (hf : F1 0 = F 0) (hm : callP MP d 282 [.ref 217, .int (F 0 (k + 1))] (mk E1 F1 (outG G1 a.1 (Int32.toInt64 (zI a.2)))) = some (Sum.inl (some (.int (zI a.2))), mk E1 F2 G2)) (h5 : F2 217 5 = zI a.1) (hg : G2 246 = outG G1 a.1 (Int32.toInt64 (zI a.2)) 246) (hd : 1 ≤ d) : ∃ y5 y6, runP MP d 368 (2386, lwL (zI k) z5 z6, [], mk E F G) = runP MP d 368 (3740, lwL (zI k) y5 y6, [], mk E1 F2 G2) := by
  refine ⟨some (.int (zI a.1)), some (.int (zI a.2)), ?_⟩
  unfold lwL
  rw [q_368_2386]
  simp only [li_1, li_2, li_3]
  rw [ald0 hE (by omega) (by omega)]
  rw [cI_ret hc]
  rw [ald0 (E := E1) (F := F1) (L := L) (by rw [he]; exact hE) (by omega) (by omega), hf]
  rw [cI_ret hm]
  rw [cI_ret (ct_185 hd)]
  rw [tl_lg ha h5 (fun h => by rw [hg]; exact outG_at h)]
  exact q_368_2439
theorem tq_2442 {d L : Nat} {k : Int} {E : EnQ} {F : Nat → Int → Int32} {G : Nat → Int → Int64} {z5 z6 : Option Value} (hE : E.2.2.1 0 = (2, 9, L)) (hk : 0 ≤ k ∧ k + 6 ≤ L ∧ L ≤ 3072) {E1 : EnQ} {F1 F2 : Nat → Int → Int32} {G1 G2 : Nat → Int → Int64} {a : Int × Int} (ha : 0 ≤ a.1 ∧ a.1 ≤ 5) (hc : callP MP d 349 [.ref 16, .int (F 0 (k + 1)), .int (F 0 (k + 2)), .ref 246] (mk E F G) = some (Sum.inl (some (.int (zI a.1))), mk E1 F1 (outG G1 a.1 (Int32.toInt64 (zI a.2))))) (he : E1.2.2.1 = E.2.2.1) (hf : F1 0 = F 0) (hm : callP MP d 262 [.ref 217, .int (F 0 (k + 1)), .int (F 0 (k + 2))] (mk E1 F1 (outG G1 a.1 (Int32.toInt64 (zI a.2)))) = some (Sum.inl (some (.int (zI a.2))), mk E1 F2 G2)) (h5 : F2 217 5 = zI a.1) (hg : G2 246 = outG G1 a.1 (Int32.toInt64 (zI a.2)) 246) (hd : 1 ≤ d) : ∃ y5 y6, runP MP d 368 (2442, lwL (zI k) z5 z6, [], mk E F G) = runP MP d 368 (3740, lwL (zI k) y5 y6, [], mk E1 F2 G2) := by
  refine ⟨some (.int (zI a.1)), some (.int (zI a.2)), ?_⟩
  unfold lwL
  rw [q_368_2442]
  simp only [li_1, li_2, li_3]
  rw [ald0 hE (by omega) (by omega), ald0 hE (by omega) (by omega)]
  rw [cI_ret hc]
  rw [ald0 (E := E1) (F := F1) (L := L) (by rw [he]; exact hE) (by omega) (by omega), ald0 (E := E1) (F := F1) (L := L) (by rw [he]; exact hE) (by omega) (by omega), hf]
  rw [cI_ret hm]
  rw [cI_ret (ct_185 hd)]
  rw [tl_lg ha h5 (fun h => by rw [hg]; exact outG_at h)]
  exact q_368_2507
theorem tq_2510 {d L : Nat} {k : Int} {E : EnQ} {F : Nat → Int → Int32} {G : Nat → Int → Int64} {z5 z6 : Option Value} (hE : E.2.2.1 0 = (2, 9, L)) (hk : 0 ≤ k ∧ k + 6 ≤ L ∧ L ≤ 3072) {E1 : EnQ} {F1 F2 : Nat → Int → Int32} {G1 G2 : Nat → Int → Int64} {a : Int × Int} (ha : 0 ≤ a.1 ∧ a.1 ≤ 5) (hc : callP MP d 350 [.ref 16, .int (F 0 (k + 1)), .ref 246] (mk E F G) = some (Sum.inl (some (.int (zI a.1))), mk E1 F1 (outG G1 a.1 (Int32.toInt64 (zI a.2))))) (he : E1.2.2.1 = E.2.2.1) (hf : F1 0 = F 0) (hm : callP MP d 264 [.ref 217, .int (F 0 (k + 1))] (mk E1 F1 (outG G1 a.1 (Int32.toInt64 (zI a.2)))) = some (Sum.inl (some (.int (zI a.2))), mk E1 F2 G2)) (h5 : F2 217 5 = zI a.1) (hg : G2 246 = outG G1 a.1 (Int32.toInt64 (zI a.2)) 246) (hd : 1 ≤ d) : ∃ y5 y6, runP MP d 368 (2510, lwL (zI k) z5 z6, [], mk E F G) = runP MP d 368 (3740, lwL (zI k) y5 y6, [], mk E1 F2 G2) := by
  refine ⟨some (.int (zI a.1)), some (.int (zI a.2)), ?_⟩
  unfold lwL
  rw [q_368_2510]
  simp only [li_1, li_2, li_3]
  rw [ald0 hE (by omega) (by omega)]
  rw [cI_ret hc]
  rw [ald0 (E := E1) (F := F1) (L := L) (by rw [he]; exact hE) (by omega) (by omega), hf]
  rw [cI_ret hm]
  rw [cI_ret (ct_185 hd)]
  rw [tl_lg ha h5 (fun h => by rw [hg]; exact outG_at h)]
  exact q_368_2563
theorem tq_2566 {d L : Nat} {k : Int} {E : EnQ} {F : Nat → Int → Int32} {G : Nat → Int → Int64} {z5 z6 : Option Value} (hE : E.2.2.1 0 = (2, 9, L)) (hk : 0 ≤ k ∧ k + 6 ≤ L ∧ L ≤ 3072) {E1 : EnQ} {F1 F2 : Nat → Int → Int32} {G1 G2 : Nat → Int → Int64} {a : Int × Int} (ha : 0 ≤ a.1 ∧ a.1 ≤ 5) (hc : callP MP d 351 [.ref 16, .int (F 0 (k + 1)), .ref 246] (mk E F G) = some (Sum.inl (some (.int (zI a.1))), mk E1 F1 (outG G1 a.1 (zJ a.2)))) (he : E1.2.2.1 = E.2.2.1) (hf : F1 0 = F 0) (hm : callP MP d 284 [.ref 217, .int (F 0 (k + 1))] (mk E1 F1 (outG G1 a.1 (zJ a.2))) = some (Sum.inl (some (.long (zJ a.2))), mk E1 F2 G2)) (h5 : F2 217 5 = zI a.1) (hg : G2 246 = outG G1 a.1 (zJ a.2) 246) (hd : 1 ≤ d) : ∃ y5 y6, runP MP d 368 (2566, lwL (zI k) z5 z6, [], mk E F G) = runP MP d 368 (3740, lwL (zI k) y5 y6, [], mk E1 F2 G2) := by
  refine ⟨some (.int (zI a.1)), some (.long (zJ a.2)), ?_⟩
  unfold lwL
  rw [q_368_2566]
  simp only [li_1, li_2, li_3]
  rw [ald0 hE (by omega) (by omega)]
  rw [cI_ret hc]
  rw [ald0 (E := E1) (F := F1) (L := L) (by rw [he]; exact hE) (by omega) (by omega), hf]
  rw [cJ_ret hm]
  rw [cI_ret (ct_185 hd)]
  rw [tl_lg ha h5 (fun h => by rw [hg]; exact outG_at h)]
  exact q_368_2618
theorem tq_2830 {d L : Nat} {k : Int} {E : EnQ} {F : Nat → Int → Int32} {G : Nat → Int → Int64} {z5 z6 : Option Value} (hE : E.2.2.1 0 = (2, 9, L)) (hk : 0 ≤ k ∧ k + 6 ≤ L ∧ L ≤ 3072) {E1 : EnQ} {F1 F2 : Nat → Int → Int32} {G1 G2 : Nat → Int → Int64} {a : Int × Int} (ha : 0 ≤ a.1 ∧ a.1 ≤ 5) (hc : callP MP d 354 [.ref 16, .int (F 0 (k + 1)), .int (F 0 (k + 2)), .ref 246] (mk E F G) = some (Sum.inl (some (.int (zI a.1))), mk E1 F1 (outG G1 a.1 (zJ a.2)))) (he : E1.2.2.1 = E.2.2.1) (hf : F1 0 = F 0) (hm : callP MP d 292 [.ref 217, .int (F 0 (k + 1)), .int (F 0 (k + 2))] (mk E1 F1 (outG G1 a.1 (zJ a.2))) = some (Sum.inl (some (.long (zJ a.2))), mk E1 F2 G2)) (h5 : F2 217 5 = zI a.1) (hg : G2 246 = outG G1 a.1 (zJ a.2) 246) (hd : 1 ≤ d) : ∃ y5 y6, runP MP d 368 (2830, lwL (zI k) z5 z6, [], mk E F G) = runP MP d 368 (3740, lwL (zI k) y5 y6, [], mk E1 F2 G2) := by
  refine ⟨some (.int (zI a.1)), some (.long (zJ a.2)), ?_⟩
  unfold lwL
  rw [q_368_2830]
  simp only [li_1, li_2, li_3]
  rw [ald0 hE (by omega) (by omega), ald0 hE (by omega) (by omega)]
  rw [cI_ret hc]
  rw [ald0 (E := E1) (F := F1) (L := L) (by rw [he]; exact hE) (by omega) (by omega), ald0 (E := E1) (F := F1) (L := L) (by rw [he]; exact hE) (by omega) (by omega), hf]
  rw [cJ_ret hm]
  rw [cI_ret (ct_185 hd)]
  rw [tl_lg ha h5 (fun h => by rw [hg]; exact outG_at h)]
  exact q_368_2894
theorem tq_2993 {d L : Nat} {k : Int} {E : EnQ} {F : Nat → Int → Int32} {G : Nat → Int → Int64} {z5 z6 : Option Value} (hE : E.2.2.1 0 = (2, 9, L)) (hk : 0 ≤ k ∧ k + 6 ≤ L ∧ L ≤ 3072) {E1 : EnQ} {F1 F2 : Nat → Int → Int32} {G1 G2 : Nat → Int → Int64} {a : Int × Int} (ha : 0 ≤ a.1 ∧ a.1 ≤ 5) (hc : callP MP d 356 [.ref 16, .int (F 0 (k + 1)), .int (F 0 (k + 2)), .ref 246] (mk E F G) = some (Sum.inl (some (.int (zI a.1))), mk E1 F1 (outG G1 a.1 (Int32.toInt64 (zI a.2))))) (he : E1.2.2.1 = E.2.2.1) (hf : F1 0 = F 0) (hm : callP MP d 295 [.ref 217, .int (F 0 (k + 1)), .int (F 0 (k + 2))] (mk E1 F1 (outG G1 a.1 (Int32.toInt64 (zI a.2)))) = some (Sum.inl (some (.int (zI a.2))), mk E1 F2 G2)) (h5 : F2 217 5 = zI a.1) (hg : G2 246 = outG G1 a.1 (Int32.toInt64 (zI a.2)) 246) (hd : 1 ≤ d) : ∃ y5 y6, runP MP d 368 (2993, lwL (zI k) z5 z6, [], mk E F G) = runP MP d 368 (3740, lwL (zI k) y5 y6, [], mk E1 F2 G2) := by
  refine ⟨some (.int (zI a.1)), some (.int (zI a.2)), ?_⟩
  unfold lwL
  rw [q_368_2993]
  simp only [li_1, li_2, li_3]
  rw [ald0 hE (by omega) (by omega), ald0 hE (by omega) (by omega)]
  rw [cI_ret hc]
  rw [ald0 (E := E1) (F := F1) (L := L) (by rw [he]; exact hE) (by omega) (by omega), ald0 (E := E1) (F := F1) (L := L) (by rw [he]; exact hE) (by omega) (by omega), hf]
  rw [cI_ret hm]
  rw [cI_ret (ct_185 hd)]
  rw [tl_lg ha h5 (fun h => by rw [hg]; exact outG_at h)]
  exact q_368_3058
theorem tq_3061 {d L : Nat} {k : Int} {E : EnQ} {F : Nat → Int → Int32} {G : Nat → Int → Int64} {z5 z6 : Option Value} (hE : E.2.2.1 0 = (2, 9, L)) (hk : 0 ≤ k ∧ k + 6 ≤ L ∧ L ≤ 3072) {E1 : EnQ} {F1 F2 : Nat → Int → Int32} {G1 G2 : Nat → Int → Int64} {a : Int × Int} (ha : 0 ≤ a.1 ∧ a.1 ≤ 5) (hc : callP MP d 357 [.ref 16, .int (F 0 (k + 1)), .int (F 0 (k + 2)), .ref 246] (mk E F G) = some (Sum.inl (some (.int (zI a.1))), mk E1 F1 (outG G1 a.1 (Int32.toInt64 (zI a.2))))) (he : E1.2.2.1 = E.2.2.1) (hf : F1 0 = F 0) (hm : callP MP d 298 [.ref 217, .int (F 0 (k + 1)), .int (F 0 (k + 2))] (mk E1 F1 (outG G1 a.1 (Int32.toInt64 (zI a.2)))) = some (Sum.inl (some (.int (zI a.2))), mk E1 F2 G2)) (h5 : F2 217 5 = zI a.1) (hg : G2 246 = outG G1 a.1 (Int32.toInt64 (zI a.2)) 246) (hd : 1 ≤ d) : ∃ y5 y6, runP MP d 368 (3061, lwL (zI k) z5 z6, [], mk E F G) = runP MP d 368 (3740, lwL (zI k) y5 y6, [], mk E1 F2 G2) := by
  refine ⟨some (.int (zI a.1)), some (.int (zI a.2)), ?_⟩
  unfold lwL
  rw [q_368_3061]
  simp only [li_1, li_2, li_3]
  rw [ald0 hE (by omega) (by omega), ald0 hE (by omega) (by omega)]
  rw [cI_ret hc]
  rw [ald0 (E := E1) (F := F1) (L := L) (by rw [he]; exact hE) (by omega) (by omega), ald0 (E := E1) (F := F1) (L := L) (by rw [he]; exact hE) (by omega) (by omega), hf]
  rw [cI_ret hm]
  rw [cI_ret (ct_185 hd)]
  rw [tl_lg ha h5 (fun h => by rw [hg]; exact outG_at h)]
  exact q_368_3126
theorem tq_3129 {d L : Nat} {k : Int} {E : EnQ} {F : Nat → Int → Int32} {G : Nat → Int → Int64} {z5 z6 : Option Value} (hE : E.2.2.1 0 = (2, 9, L)) (hk : 0 ≤ k ∧ k + 6 ≤ L ∧ L ≤ 3072) {E1 : EnQ} {F1 F2 : Nat → Int → Int32} {G1 G2 : Nat → Int → Int64} {a : Int × Int} (ha : 0 ≤ a.1 ∧ a.1 ≤ 5) (hc : callP MP d 358 [.ref 16, .int (F 0 (k + 1)), .ref 246] (mk E F G) = some (Sum.inl (some (.int (zI a.1))), mk E1 F1 (outG G1 a.1 (Int32.toInt64 (zI a.2))))) (he : E1.2.2.1 = E.2.2.1) (hf : F1 0 = F 0) (hm : callP MP d 303 [.ref 217, .int (F 0 (k + 1))] (mk E1 F1 (outG G1 a.1 (Int32.toInt64 (zI a.2)))) = some (Sum.inl (some (.int (zI a.2))), mk E1 F2 G2)) (h5 : F2 217 5 = zI a.1) (hg : G2 246 = outG G1 a.1 (Int32.toInt64 (zI a.2)) 246) (hd : 1 ≤ d) : ∃ y5 y6, runP MP d 368 (3129, lwL (zI k) z5 z6, [], mk E F G) = runP MP d 368 (3740, lwL (zI k) y5 y6, [], mk E1 F2 G2) := by
  refine ⟨some (.int (zI a.1)), some (.int (zI a.2)), ?_⟩
  unfold lwL
  rw [q_368_3129]
  simp only [li_1, li_2, li_3]
  rw [ald0 hE (by omega) (by omega)]
  rw [cI_ret hc]
  rw [ald0 (E := E1) (F := F1) (L := L) (by rw [he]; exact hE) (by omega) (by omega), hf]
  rw [cI_ret hm]
  rw [cI_ret (ct_185 hd)]
  rw [tl_lg ha h5 (fun h => by rw [hg]; exact outG_at h)]
  exact q_368_3182
theorem tq_3185 {d L : Nat} {k : Int} {E : EnQ} {F : Nat → Int → Int32} {G : Nat → Int → Int64} {z5 z6 : Option Value} (hE : E.2.2.1 0 = (2, 9, L)) (hk : 0 ≤ k ∧ k + 6 ≤ L ∧ L ≤ 3072) {E1 : EnQ} {F1 F2 : Nat → Int → Int32} {G1 G2 : Nat → Int → Int64} {a : Int × Int} (ha : 0 ≤ a.1 ∧ a.1 ≤ 5) (hc : callP MP d 359 [.ref 16, .int (F 0 (k + 1)), .ref 246] (mk E F G) = some (Sum.inl (some (.int (zI a.1))), mk E1 F1 (outG G1 a.1 (Int32.toInt64 (zI a.2))))) (he : E1.2.2.1 = E.2.2.1) (hf : F1 0 = F 0) (hm : callP MP d 304 [.ref 217, .int (F 0 (k + 1))] (mk E1 F1 (outG G1 a.1 (Int32.toInt64 (zI a.2)))) = some (Sum.inl (some (.int (zI a.2))), mk E1 F2 G2)) (h5 : F2 217 5 = zI a.1) (hg : G2 246 = outG G1 a.1 (Int32.toInt64 (zI a.2)) 246) (hd : 1 ≤ d) : ∃ y5 y6, runP MP d 368 (3185, lwL (zI k) z5 z6, [], mk E F G) = runP MP d 368 (3740, lwL (zI k) y5 y6, [], mk E1 F2 G2) := by
  refine ⟨some (.int (zI a.1)), some (.int (zI a.2)), ?_⟩
  unfold lwL
  rw [q_368_3185]
  simp only [li_1, li_2, li_3]
  rw [ald0 hE (by omega) (by omega)]
  rw [cI_ret hc]
  rw [ald0 (E := E1) (F := F1) (L := L) (by rw [he]; exact hE) (by omega) (by omega), hf]
  rw [cI_ret hm]
  rw [cI_ret (ct_185 hd)]
  rw [tl_lg ha h5 (fun h => by rw [hg]; exact outG_at h)]
  exact q_368_3238
theorem tq_3304 {d L : Nat} {k : Int} {E : EnQ} {F : Nat → Int → Int32} {G : Nat → Int → Int64} {z5 z6 : Option Value} (hE : E.2.2.1 0 = (2, 9, L)) (hk : 0 ≤ k ∧ k + 6 ≤ L ∧ L ≤ 3072) {E1 : EnQ} {F1 F2 : Nat → Int → Int32} {G1 G2 : Nat → Int → Int64} {a : Int × Int} (ha : 0 ≤ a.1 ∧ a.1 ≤ 5) (hc : callP MP d 361 [.ref 16, .int (F 0 (k + 1)), .ref 246] (mk E F G) = some (Sum.inl (some (.int (zI a.1))), mk E1 F1 (outG G1 a.1 (Int32.toInt64 (zI a.2))))) (he : E1.2.2.1 = E.2.2.1) (hf : F1 0 = F 0) (hm : callP MP d 307 [.ref 217, .int (F 0 (k + 1))] (mk E1 F1 (outG G1 a.1 (Int32.toInt64 (zI a.2)))) = some (Sum.inl (some (.int (zI a.2))), mk E1 F2 G2)) (h5 : F2 217 5 = zI a.1) (hg : G2 246 = outG G1 a.1 (Int32.toInt64 (zI a.2)) 246) (hd : 1 ≤ d) : ∃ y5 y6, runP MP d 368 (3304, lwL (zI k) z5 z6, [], mk E F G) = runP MP d 368 (3740, lwL (zI k) y5 y6, [], mk E1 F2 G2) := by
  refine ⟨some (.int (zI a.1)), some (.int (zI a.2)), ?_⟩
  unfold lwL
  rw [q_368_3304]
  simp only [li_1, li_2, li_3]
  rw [ald0 hE (by omega) (by omega)]
  rw [cI_ret hc]
  rw [ald0 (E := E1) (F := F1) (L := L) (by rw [he]; exact hE) (by omega) (by omega), hf]
  rw [cI_ret hm]
  rw [cI_ret (ct_185 hd)]
  rw [tl_lg ha h5 (fun h => by rw [hg]; exact outG_at h)]
  exact q_368_3357
theorem tq_3360 {d L : Nat} {k : Int} {E : EnQ} {F : Nat → Int → Int32} {G : Nat → Int → Int64} {z5 z6 : Option Value} (hE : E.2.2.1 0 = (2, 9, L)) (hk : 0 ≤ k ∧ k + 6 ≤ L ∧ L ≤ 3072) {E1 : EnQ} {F1 F2 : Nat → Int → Int32} {G1 G2 : Nat → Int → Int64} {a : Int × Int} (ha : 0 ≤ a.1 ∧ a.1 ≤ 5) (hc : callP MP d 362 [.ref 16, .int (F 0 (k + 1)), .ref 246] (mk E F G) = some (Sum.inl (some (.int (zI a.1))), mk E1 F1 (outG G1 a.1 (Int32.toInt64 (zI a.2))))) (he : E1.2.2.1 = E.2.2.1) (hf : F1 0 = F 0) (hm : callP MP d 308 [.ref 217, .int (F 0 (k + 1))] (mk E1 F1 (outG G1 a.1 (Int32.toInt64 (zI a.2)))) = some (Sum.inl (some (.int (zI a.2))), mk E1 F2 G2)) (h5 : F2 217 5 = zI a.1) (hg : G2 246 = outG G1 a.1 (Int32.toInt64 (zI a.2)) 246) (hd : 1 ≤ d) : ∃ y5 y6, runP MP d 368 (3360, lwL (zI k) z5 z6, [], mk E F G) = runP MP d 368 (3740, lwL (zI k) y5 y6, [], mk E1 F2 G2) := by
  refine ⟨some (.int (zI a.1)), some (.int (zI a.2)), ?_⟩
  unfold lwL
  rw [q_368_3360]
  simp only [li_1, li_2, li_3]
  rw [ald0 hE (by omega) (by omega)]
  rw [cI_ret hc]
  rw [ald0 (E := E1) (F := F1) (L := L) (by rw [he]; exact hE) (by omega) (by omega), hf]
  rw [cI_ret hm]
  rw [cI_ret (ct_185 hd)]
  rw [tl_lg ha h5 (fun h => by rw [hg]; exact outG_at h)]
  exact q_368_3413
theorem tq_3416 {d L : Nat} {k : Int} {E : EnQ} {F : Nat → Int → Int32} {G : Nat → Int → Int64} {z5 z6 : Option Value} (hE : E.2.2.1 0 = (2, 9, L)) (hk : 0 ≤ k ∧ k + 6 ≤ L ∧ L ≤ 3072) {E1 : EnQ} {F1 F2 : Nat → Int → Int32} {G1 G2 : Nat → Int → Int64} {a : Int × Int} (ha : 0 ≤ a.1 ∧ a.1 ≤ 5) (hc : callP MP d 363 [.ref 16, .int (F 0 (k + 1)), .ref 246] (mk E F G) = some (Sum.inl (some (.int (zI a.1))), mk E1 F1 (outG G1 a.1 (Int32.toInt64 (zI a.2))))) (he : E1.2.2.1 = E.2.2.1) (hf : F1 0 = F 0) (hm : callP MP d 312 [.ref 217, .int (F 0 (k + 1))] (mk E1 F1 (outG G1 a.1 (Int32.toInt64 (zI a.2)))) = some (Sum.inl (some (.int (zI a.2))), mk E1 F2 G2)) (h5 : F2 217 5 = zI a.1) (hg : G2 246 = outG G1 a.1 (Int32.toInt64 (zI a.2)) 246) (hd : 1 ≤ d) : ∃ y5 y6, runP MP d 368 (3416, lwL (zI k) z5 z6, [], mk E F G) = runP MP d 368 (3740, lwL (zI k) y5 y6, [], mk E1 F2 G2) := by
  refine ⟨some (.int (zI a.1)), some (.int (zI a.2)), ?_⟩
  unfold lwL
  rw [q_368_3416]
  simp only [li_1, li_2, li_3]
  rw [ald0 hE (by omega) (by omega)]
  rw [cI_ret hc]
  rw [ald0 (E := E1) (F := F1) (L := L) (by rw [he]; exact hE) (by omega) (by omega), hf]
  rw [cI_ret hm]
  rw [cI_ret (ct_185 hd)]
  rw [tl_lg ha h5 (fun h => by rw [hg]; exact outG_at h)]
  exact q_368_3469
end S94zzzzw
