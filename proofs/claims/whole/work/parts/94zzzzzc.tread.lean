/-! TOP: the turns that only read -/
section S94zzzzzc
set_option linter.unusedVariables false
set_option linter.unusedSimpArgs false
/-- a turn of the law from pc on: it goes on at the next row -/
def TurnP (d : Nat) (b1 : Int) (L : Nat) (k : Int) (pc : Nat) (z5 z6 : Option Value) (E : EnQ) (F : Nat → Int → Int32) (G : Nat → Int → Int64) : Prop := ∃ y5 y6 E1 F1 G1, runP MP d 368 (pc, lwL (zI k) z5 z6, [], mk E F G) = runP MP d 368 (3740, lwL (zI k) y5 y6, [], mk E1 F1 G1) ∧ CLS b1 L E1 F1 G1 ∧ E1.1 ≤ E.1 + 40 ∧ E1.2.1 ≤ E.2.1 + 1000
theorem tn_3 {d L : Nat} {b k : Int} {E : EnQ} {F : Nat → Int → Int32} {G : Nat → Int → Int64} {z5 z6 : Option Value} (hC : CLS b L E F G) (hb : b < 1999000000) (hk : 0 ≤ k ∧ k + 6 ≤ L ∧ L ≤ 3072) (hd : 100 ≤ d) : TurnP d b L k 438 z5 z6 E F G := by
  obtain ⟨d, rfl⟩ : ∃ e, d = e + 1 := ⟨d - 1, by omega⟩
  obtain ⟨⟨hO, hcs, hsb⟩, ⟨hu, -⟩, -, ⟨hT, -, -, -, h18⟩, ⟨hL1, hL2⟩, ⟨-, hE⟩⟩ := id hC
  have hD := InU_D hu
  have hI := hO.2.2.2.2
  have hst : stepsZ (F 218) < 1999000000 := by omega
  obtain ⟨E1, F1, G1, hc, hKC⟩ : ∃ E1 F1 G1, callP MP d 125 [.ref 16, .int (F 0 (k + 1)), .int (F 0 (k + 2))] (mk E F G) = some (thrP [0, 2] (a_path (F 218) (tI (F 0 (k + 1))) (tI (F 0 (k + 2)))), mk E1 F1 G1) ∧ KeepC E F G E1 F1 G1 := by
    have H := cl_path (d := d) (E := E) (F := F) (G := G) (x := tI (F 0 (k + 1))) (y := tI (F 0 (k + 2))) hO (tI_rg _) (tI_rg _) (by omega)
    obtain ⟨E1, hE1, hc⟩ := H; rw [zI_tI, zI_tI] at hc; exact ⟨E1, F, G, hc, KeepC_ej hE1⟩
  have co : 0 ≤ (a_path (F 218) (tI (F 0 (k + 1))) (tI (F 0 (k + 2)))).1 ∧ (a_path (F 218) (tI (F 0 (k + 1))) (tI (F 0 (k + 2)))).1 ≤ 2 := co_path
  have hw := wx_320 hc ⟨co.1, co.2⟩
  have hC2 := CLS_O (c := (a_path (F 218) (tI (F 0 (k + 1))) (tI (F 0 (k + 2)))).1) (v := (Int32.toInt64 (zI (a_path (F 218) (tI (F 0 (k + 1))) (tI (F 0 (k + 2)))).2))) (CLS_C hC hKC)
  obtain ⟨-, -, -, ⟨hT2, -, -, -, h182⟩, -, -⟩ := id hC2
  have hTm := TmA_O (c := (a_path (F 218) (tI (F 0 (k + 1))) (tI (F 0 (k + 2)))).1) (v := (Int32.toInt64 (zI (a_path (F 218) (tI (F 0 (k + 1))) (tI (F 0 (k + 2)))).2))) (TmA_C hKC)
  have e218 : F1 218 = F 218 := hKC.1 218 (by omega) (by unfold scrC; omega)
  have e0 : F1 0 = F 0 := hKC.1 0 (by omega) (by unfold scrC; omega)
  obtain ⟨F2, G2, hm, h5, hKM⟩ : ∃ F2 G2, callP MP (d + 1) 208 [.ref 217, .int (F 0 (k + 1)), .int (F 0 (k + 2))] (mk E1 F1 (outG G1 (a_path (F 218) (tI (F 0 (k + 1))) (tI (F 0 (k + 2)))).1 (Int32.toInt64 (zI (a_path (F 218) (tI (F 0 (k + 1))) (tI (F 0 (k + 2)))).2)))) = some (Sum.inl (some (.int (zI (a_path (F 218) (tI (F 0 (k + 1))) (tI (F 0 (k + 2)))).2))), mk E1 F2 G2) ∧ F2 217 5 = zI (a_path (F 218) (tI (F 0 (k + 1))) (tI (F 0 (k + 2)))).1 ∧ KeepM F1 (outG G1 (a_path (F 218) (tI (F 0 (k + 1))) (tI (F 0 (k + 2)))).1 (Int32.toInt64 (zI (a_path (F 218) (tI (F 0 (k + 1))) (tI (F 0 (k + 2)))).2))) F2 G2 := by
    have H := ml_path (d := d + 1) (E := E1) (F := F1) (G := outG G1 (a_path (F 218) (tI (F 0 (k + 1))) (tI (F 0 (k + 2)))).1 (Int32.toInt64 (zI (a_path (F 218) (tI (F 0 (k + 1))) (tI (F 0 (k + 2)))).2))) (x := tI (F 0 (k + 1))) (y := tI (F 0 (k + 2))) hI e218 (tI_rg _) (tI_rg _) (by omega)
    rw [zI_tI, zI_tI] at H; exact ⟨_, _, H, by rw [uR_at, uC_at], KeepM_c⟩
  obtain ⟨y5, y6, hr⟩ := tq_438 (z5 := z5) (z6 := z6) hE hk ⟨co.1, by omega⟩ hw hKC.2.2.2.2.1 e0 hm h5 (hKM.2.2 246 (by omega)) (by omega)
  exact ⟨y5, y6, E1, F2, G2, hr, CLS_M hC2 hKM, by have := hKC.2.2.2.2.2.1; omega, by have := hKC.2.2.2.2.2.2; omega⟩
theorem tn_4 {d L : Nat} {b k : Int} {E : EnQ} {F : Nat → Int → Int32} {G : Nat → Int → Int64} {z5 z6 : Option Value} (hC : CLS b L E F G) (hb : b < 1999000000) (hk : 0 ≤ k ∧ k + 6 ≤ L ∧ L ≤ 3072) (hd : 100 ≤ d) : TurnP d b L k 506 z5 z6 E F G := by
  obtain ⟨d, rfl⟩ : ∃ e, d = e + 1 := ⟨d - 1, by omega⟩
  obtain ⟨⟨hO, hcs, hsb⟩, ⟨hu, -⟩, -, ⟨hT, -, -, -, h18⟩, ⟨hL1, hL2⟩, ⟨-, hE⟩⟩ := id hC
  have hD := InU_D hu
  have hI := hO.2.2.2.2
  have hst : stepsZ (F 218) < 1999000000 := by omega
  obtain ⟨E1, F1, G1, hc, hKC⟩ : ∃ E1 F1 G1, callP MP d 126 [.ref 16, .int (F 0 (k + 1)), .int (F 0 (k + 2))] (mk E F G) = some (thrP [0] (a_dist (F 218) (tI (F 0 (k + 1))) (tI (F 0 (k + 2)))), mk E1 F1 G1) ∧ KeepC E F G E1 F1 G1 := by
    have H := cl_dist (d := d) (E := E) (F := F) (G := G) (x := tI (F 0 (k + 1))) (y := tI (F 0 (k + 2))) hO hD (tI_rg _) (tI_rg _) (by omega)
    obtain ⟨E1, F1, hc, h⟩ := H; rw [zI_tI, zI_tI] at hc; exact ⟨E1, F1, G, hc, h⟩
  have co : 0 ≤ (a_dist (F 218) (tI (F 0 (k + 1))) (tI (F 0 (k + 2)))).1 ∧ (a_dist (F 218) (tI (F 0 (k + 1))) (tI (F 0 (k + 2)))).1 ≤ 1 := co_dist
  have hw := wx_321 hc ⟨co.1, co.2⟩
  have hC2 := CLS_O (c := (a_dist (F 218) (tI (F 0 (k + 1))) (tI (F 0 (k + 2)))).1) (v := (Int32.toInt64 (zI (a_dist (F 218) (tI (F 0 (k + 1))) (tI (F 0 (k + 2)))).2))) (CLS_C hC hKC)
  obtain ⟨-, -, -, ⟨hT2, -, -, -, h182⟩, -, -⟩ := id hC2
  have hTm := TmA_O (c := (a_dist (F 218) (tI (F 0 (k + 1))) (tI (F 0 (k + 2)))).1) (v := (Int32.toInt64 (zI (a_dist (F 218) (tI (F 0 (k + 1))) (tI (F 0 (k + 2)))).2))) (TmA_C hKC)
  have e218 : F1 218 = F 218 := hKC.1 218 (by omega) (by unfold scrC; omega)
  have e0 : F1 0 = F 0 := hKC.1 0 (by omega) (by unfold scrC; omega)
  obtain ⟨F2, G2, hm, h5, hKM⟩ : ∃ F2 G2, callP MP (d + 1) 212 [.ref 217, .int (F 0 (k + 1)), .int (F 0 (k + 2))] (mk E1 F1 (outG G1 (a_dist (F 218) (tI (F 0 (k + 1))) (tI (F 0 (k + 2)))).1 (Int32.toInt64 (zI (a_dist (F 218) (tI (F 0 (k + 1))) (tI (F 0 (k + 2)))).2)))) = some (Sum.inl (some (.int (zI (a_dist (F 218) (tI (F 0 (k + 1))) (tI (F 0 (k + 2)))).2))), mk E1 F2 G2) ∧ F2 217 5 = zI (a_dist (F 218) (tI (F 0 (k + 1))) (tI (F 0 (k + 2)))).1 ∧ KeepM F1 (outG G1 (a_dist (F 218) (tI (F 0 (k + 1))) (tI (F 0 (k + 2)))).1 (Int32.toInt64 (zI (a_dist (F 218) (tI (F 0 (k + 1))) (tI (F 0 (k + 2)))).2))) F2 G2 := by
    have H := ml_dist (d := d + 1) (E := E1) (F := F1) (G := outG G1 (a_dist (F 218) (tI (F 0 (k + 1))) (tI (F 0 (k + 2)))).1 (Int32.toInt64 (zI (a_dist (F 218) (tI (F 0 (k + 1))) (tI (F 0 (k + 2)))).2))) (x := tI (F 0 (k + 1))) (y := tI (F 0 (k + 2))) hI e218 (tI_rg _) (tI_rg _) (by omega)
    obtain ⟨F2, hm, h5, hk2⟩ := H; rw [zI_tI, zI_tI] at hm; exact ⟨F2, _, hm, h5, hk2⟩
  obtain ⟨y5, y6, hr⟩ := tq_506 (z5 := z5) (z6 := z6) hE hk ⟨co.1, by omega⟩ hw hKC.2.2.2.2.1 e0 hm h5 (hKM.2.2 246 (by omega)) (by omega)
  exact ⟨y5, y6, E1, F2, G2, hr, CLS_M hC2 hKM, by have := hKC.2.2.2.2.2.1; omega, by have := hKC.2.2.2.2.2.2; omega⟩
theorem tn_5 {d L : Nat} {b k : Int} {E : EnQ} {F : Nat → Int → Int32} {G : Nat → Int → Int64} {z5 z6 : Option Value} (hC : CLS b L E F G) (hb : b < 1999000000) (hk : 0 ≤ k ∧ k + 6 ≤ L ∧ L ≤ 3072) (hd : 100 ≤ d) : TurnP d b L k 574 z5 z6 E F G := by
  obtain ⟨d, rfl⟩ : ∃ e, d = e + 1 := ⟨d - 1, by omega⟩
  obtain ⟨⟨hO, hcs, hsb⟩, ⟨hu, -⟩, -, ⟨hT, -, -, -, h18⟩, ⟨hL1, hL2⟩, ⟨-, hE⟩⟩ := id hC
  have hD := InU_D hu
  have hI := hO.2.2.2.2
  have hst : stepsZ (F 218) < 1999000000 := by omega
  obtain ⟨E1, F1, G1, hc, hKC⟩ : ∃ E1 F1 G1, callP MP d 128 [.ref 16, .int (F 0 (k + 1)), .int (F 0 (k + 2))] (mk E F G) = some (thrP [0, 2] (a_walker (F 218) (tI (F 0 (k + 1))) (tI (F 0 (k + 2)))), mk E1 F1 G1) ∧ KeepC E F G E1 F1 G1 := by
    have H := cl_walker (d := d) (E := E) (F := F) (G := G) (x := tI (F 0 (k + 1))) (y := tI (F 0 (k + 2))) hO (tI_rg _) (tI_rg _) (by omega)
    obtain ⟨E1, hE1, hc⟩ := H; rw [zI_tI, zI_tI] at hc; exact ⟨E1, F, G, hc, KeepC_ej hE1⟩
  have co : 0 ≤ (a_walker (F 218) (tI (F 0 (k + 1))) (tI (F 0 (k + 2)))).1 ∧ (a_walker (F 218) (tI (F 0 (k + 1))) (tI (F 0 (k + 2)))).1 ≤ 2 := co_walker
  have hw := wx_322 hc ⟨co.1, co.2⟩
  have hC2 := CLS_O (c := (a_walker (F 218) (tI (F 0 (k + 1))) (tI (F 0 (k + 2)))).1) (v := (Int32.toInt64 (zI (a_walker (F 218) (tI (F 0 (k + 1))) (tI (F 0 (k + 2)))).2))) (CLS_C hC hKC)
  obtain ⟨-, -, -, ⟨hT2, -, -, -, h182⟩, -, -⟩ := id hC2
  have hTm := TmA_O (c := (a_walker (F 218) (tI (F 0 (k + 1))) (tI (F 0 (k + 2)))).1) (v := (Int32.toInt64 (zI (a_walker (F 218) (tI (F 0 (k + 1))) (tI (F 0 (k + 2)))).2))) (TmA_C hKC)
  have e218 : F1 218 = F 218 := hKC.1 218 (by omega) (by unfold scrC; omega)
  have e0 : F1 0 = F 0 := hKC.1 0 (by omega) (by unfold scrC; omega)
  obtain ⟨F2, G2, hm, h5, hKM⟩ : ∃ F2 G2, callP MP (d + 1) 218 [.ref 217, .int (F 0 (k + 1)), .int (F 0 (k + 2))] (mk E1 F1 (outG G1 (a_walker (F 218) (tI (F 0 (k + 1))) (tI (F 0 (k + 2)))).1 (Int32.toInt64 (zI (a_walker (F 218) (tI (F 0 (k + 1))) (tI (F 0 (k + 2)))).2)))) = some (Sum.inl (some (.int (zI (a_walker (F 218) (tI (F 0 (k + 1))) (tI (F 0 (k + 2)))).2))), mk E1 F2 G2) ∧ F2 217 5 = zI (a_walker (F 218) (tI (F 0 (k + 1))) (tI (F 0 (k + 2)))).1 ∧ KeepM F1 (outG G1 (a_walker (F 218) (tI (F 0 (k + 1))) (tI (F 0 (k + 2)))).1 (Int32.toInt64 (zI (a_walker (F 218) (tI (F 0 (k + 1))) (tI (F 0 (k + 2)))).2))) F2 G2 := by
    have H := ml_walker (d := d + 1) (E := E1) (F := F1) (G := outG G1 (a_walker (F 218) (tI (F 0 (k + 1))) (tI (F 0 (k + 2)))).1 (Int32.toInt64 (zI (a_walker (F 218) (tI (F 0 (k + 1))) (tI (F 0 (k + 2)))).2))) (x := tI (F 0 (k + 1))) (y := tI (F 0 (k + 2))) hI e218 (tI_rg _) (tI_rg _) (by omega)
    rw [zI_tI, zI_tI] at H; exact ⟨_, _, H, by rw [uR_at, uC_at], KeepM_c⟩
  obtain ⟨y5, y6, hr⟩ := tq_574 (z5 := z5) (z6 := z6) hE hk ⟨co.1, by omega⟩ hw hKC.2.2.2.2.1 e0 hm h5 (hKM.2.2 246 (by omega)) (by omega)
  exact ⟨y5, y6, E1, F2, G2, hr, CLS_M hC2 hKM, by have := hKC.2.2.2.2.2.1; omega, by have := hKC.2.2.2.2.2.2; omega⟩
theorem tn_6 {d L : Nat} {b k : Int} {E : EnQ} {F : Nat → Int → Int32} {G : Nat → Int → Int64} {z5 z6 : Option Value} (hC : CLS b L E F G) (hb : b < 1999000000) (hk : 0 ≤ k ∧ k + 6 ≤ L ∧ L ≤ 3072) (hd : 100 ≤ d) : TurnP d b L k 642 z5 z6 E F G := by
  obtain ⟨d, rfl⟩ : ∃ e, d = e + 1 := ⟨d - 1, by omega⟩
  obtain ⟨⟨hO, hcs, hsb⟩, ⟨hu, -⟩, -, ⟨hT, -, -, -, h18⟩, ⟨hL1, hL2⟩, ⟨-, hE⟩⟩ := id hC
  have hD := InU_D hu
  have hI := hO.2.2.2.2
  have hst : stepsZ (F 218) < 1999000000 := by omega
  obtain ⟨E1, F1, G1, hc, hKC⟩ : ∃ E1 F1 G1, callP MP d 130 [.ref 16, .int (F 0 (k + 1)), .int (F 0 (k + 2))] (mk E F G) = some (thrP [0, 2] (a_print (F 218) (tI (F 0 (k + 1))) (tI (F 0 (k + 2)))), mk E1 F1 G1) ∧ KeepC E F G E1 F1 G1 := by
    have H := cl_print (d := d) (E := E) (F := F) (G := G) (x := tI (F 0 (k + 1))) (y := tI (F 0 (k + 2))) hO (tI_rg _) (tI_rg _) (by omega)
    obtain ⟨E1, hE1, hc⟩ := H; rw [zI_tI, zI_tI] at hc; exact ⟨E1, F, G, hc, KeepC_ej hE1⟩
  have co : 0 ≤ (a_print (F 218) (tI (F 0 (k + 1))) (tI (F 0 (k + 2)))).1 ∧ (a_print (F 218) (tI (F 0 (k + 1))) (tI (F 0 (k + 2)))).1 ≤ 2 := co_print
  have hw := wx_323 hc ⟨co.1, co.2⟩
  have hC2 := CLS_O (c := (a_print (F 218) (tI (F 0 (k + 1))) (tI (F 0 (k + 2)))).1) (v := (Int32.toInt64 (zI (a_print (F 218) (tI (F 0 (k + 1))) (tI (F 0 (k + 2)))).2))) (CLS_C hC hKC)
  obtain ⟨-, -, -, ⟨hT2, -, -, -, h182⟩, -, -⟩ := id hC2
  have hTm := TmA_O (c := (a_print (F 218) (tI (F 0 (k + 1))) (tI (F 0 (k + 2)))).1) (v := (Int32.toInt64 (zI (a_print (F 218) (tI (F 0 (k + 1))) (tI (F 0 (k + 2)))).2))) (TmA_C hKC)
  have e218 : F1 218 = F 218 := hKC.1 218 (by omega) (by unfold scrC; omega)
  have e0 : F1 0 = F 0 := hKC.1 0 (by omega) (by unfold scrC; omega)
  obtain ⟨F2, G2, hm, h5, hKM⟩ : ∃ F2 G2, callP MP (d + 1) 223 [.ref 217, .int (F 0 (k + 1)), .int (F 0 (k + 2))] (mk E1 F1 (outG G1 (a_print (F 218) (tI (F 0 (k + 1))) (tI (F 0 (k + 2)))).1 (Int32.toInt64 (zI (a_print (F 218) (tI (F 0 (k + 1))) (tI (F 0 (k + 2)))).2)))) = some (Sum.inl (some (.int (zI (a_print (F 218) (tI (F 0 (k + 1))) (tI (F 0 (k + 2)))).2))), mk E1 F2 G2) ∧ F2 217 5 = zI (a_print (F 218) (tI (F 0 (k + 1))) (tI (F 0 (k + 2)))).1 ∧ KeepM F1 (outG G1 (a_print (F 218) (tI (F 0 (k + 1))) (tI (F 0 (k + 2)))).1 (Int32.toInt64 (zI (a_print (F 218) (tI (F 0 (k + 1))) (tI (F 0 (k + 2)))).2))) F2 G2 := by
    have H := ml_print (d := d + 1) (E := E1) (F := F1) (G := outG G1 (a_print (F 218) (tI (F 0 (k + 1))) (tI (F 0 (k + 2)))).1 (Int32.toInt64 (zI (a_print (F 218) (tI (F 0 (k + 1))) (tI (F 0 (k + 2)))).2))) (x := tI (F 0 (k + 1))) (y := tI (F 0 (k + 2))) hI e218 (tI_rg _) (tI_rg _) (by omega)
    rw [zI_tI, zI_tI] at H; exact ⟨_, _, H, by rw [uR_at, uC_at], KeepM_c⟩
  obtain ⟨y5, y6, hr⟩ := tq_642 (z5 := z5) (z6 := z6) hE hk ⟨co.1, by omega⟩ hw hKC.2.2.2.2.1 e0 hm h5 (hKM.2.2 246 (by omega)) (by omega)
  exact ⟨y5, y6, E1, F2, G2, hr, CLS_M hC2 hKM, by have := hKC.2.2.2.2.2.1; omega, by have := hKC.2.2.2.2.2.2; omega⟩
theorem tn_12 {d L : Nat} {b k : Int} {E : EnQ} {F : Nat → Int → Int32} {G : Nat → Int → Int64} {z5 z6 : Option Value} (hC : CLS b L E F G) (hb : b < 1999000000) (hk : 0 ≤ k ∧ k + 6 ≤ L ∧ L ≤ 3072) (hd : 100 ≤ d) : TurnP d b L k 928 z5 z6 E F G := by
  obtain ⟨d, rfl⟩ : ∃ e, d = e + 1 := ⟨d - 1, by omega⟩
  obtain ⟨⟨hO, hcs, hsb⟩, ⟨hu, -⟩, -, ⟨hT, -, -, -, h18⟩, ⟨hL1, hL2⟩, ⟨-, hE⟩⟩ := id hC
  have hD := InU_D hu
  have hI := hO.2.2.2.2
  have hst : stepsZ (F 218) < 1999000000 := by omega
  obtain ⟨E1, F1, G1, hc, hKC⟩ : ∃ E1 F1 G1, callP MP d 134 [.ref 16, .int (F 0 (k + 1)), .int (F 0 (k + 2))] (mk E F G) = some (thrP [0, 2] (a_beat (F 218) (tI (F 0 (k + 1))) (tI (F 0 (k + 2)))), mk E1 F1 G1) ∧ KeepC E F G E1 F1 G1 := by
    have H := cl_beat (d := d) (E := E) (F := F) (G := G) (x := tI (F 0 (k + 1))) (y := tI (F 0 (k + 2))) hO (tI_rg _) (tI_rg _) (by omega)
    obtain ⟨E1, hE1, hc⟩ := H; rw [zI_tI, zI_tI] at hc; exact ⟨E1, F, G, hc, KeepC_ej hE1⟩
  have co : 0 ≤ (a_beat (F 218) (tI (F 0 (k + 1))) (tI (F 0 (k + 2)))).1 ∧ (a_beat (F 218) (tI (F 0 (k + 1))) (tI (F 0 (k + 2)))).1 ≤ 2 := co_beat
  have hw := wx_327 hc ⟨co.1, co.2⟩
  have hC2 := CLS_O (c := (a_beat (F 218) (tI (F 0 (k + 1))) (tI (F 0 (k + 2)))).1) (v := (Int32.toInt64 (zI (a_beat (F 218) (tI (F 0 (k + 1))) (tI (F 0 (k + 2)))).2))) (CLS_C hC hKC)
  obtain ⟨-, -, -, ⟨hT2, -, -, -, h182⟩, -, -⟩ := id hC2
  have hTm := TmA_O (c := (a_beat (F 218) (tI (F 0 (k + 1))) (tI (F 0 (k + 2)))).1) (v := (Int32.toInt64 (zI (a_beat (F 218) (tI (F 0 (k + 1))) (tI (F 0 (k + 2)))).2))) (TmA_C hKC)
  have e218 : F1 218 = F 218 := hKC.1 218 (by omega) (by unfold scrC; omega)
  have e0 : F1 0 = F 0 := hKC.1 0 (by omega) (by unfold scrC; omega)
  obtain ⟨F2, G2, hm, h5, hKM⟩ : ∃ F2 G2, callP MP (d + 1) 269 [.ref 217, .int (F 0 (k + 1)), .int (F 0 (k + 2))] (mk E1 F1 (outG G1 (a_beat (F 218) (tI (F 0 (k + 1))) (tI (F 0 (k + 2)))).1 (Int32.toInt64 (zI (a_beat (F 218) (tI (F 0 (k + 1))) (tI (F 0 (k + 2)))).2)))) = some (Sum.inl (some (.int (zI (a_beat (F 218) (tI (F 0 (k + 1))) (tI (F 0 (k + 2)))).2))), mk E1 F2 G2) ∧ F2 217 5 = zI (a_beat (F 218) (tI (F 0 (k + 1))) (tI (F 0 (k + 2)))).1 ∧ KeepM F1 (outG G1 (a_beat (F 218) (tI (F 0 (k + 1))) (tI (F 0 (k + 2)))).1 (Int32.toInt64 (zI (a_beat (F 218) (tI (F 0 (k + 1))) (tI (F 0 (k + 2)))).2))) F2 G2 := by
    have H := ml_beat (d := d + 1) (E := E1) (F := F1) (G := outG G1 (a_beat (F 218) (tI (F 0 (k + 1))) (tI (F 0 (k + 2)))).1 (Int32.toInt64 (zI (a_beat (F 218) (tI (F 0 (k + 1))) (tI (F 0 (k + 2)))).2))) (x := tI (F 0 (k + 1))) (y := tI (F 0 (k + 2))) hI e218 (tI_rg _) (tI_rg _) (by omega)
    rw [zI_tI, zI_tI] at H; exact ⟨_, _, H, by rw [uR_at, uC_at], KeepM_c⟩
  obtain ⟨y5, y6, hr⟩ := tq_928 (z5 := z5) (z6 := z6) hE hk ⟨co.1, by omega⟩ hw hKC.2.2.2.2.1 e0 hm h5 (hKM.2.2 246 (by omega)) (by omega)
  exact ⟨y5, y6, E1, F2, G2, hr, CLS_M hC2 hKM, by have := hKC.2.2.2.2.2.1; omega, by have := hKC.2.2.2.2.2.2; omega⟩
theorem tn_13 {d L : Nat} {b k : Int} {E : EnQ} {F : Nat → Int → Int32} {G : Nat → Int → Int64} {z5 z6 : Option Value} (hC : CLS b L E F G) (hb : b < 1999000000) (hk : 0 ≤ k ∧ k + 6 ≤ L ∧ L ≤ 3072) (hd : 100 ≤ d) : TurnP d b L k 996 z5 z6 E F G := by
  obtain ⟨d, rfl⟩ : ∃ e, d = e + 1 := ⟨d - 1, by omega⟩
  obtain ⟨⟨hO, hcs, hsb⟩, ⟨hu, -⟩, -, ⟨hT, -, -, -, h18⟩, ⟨hL1, hL2⟩, ⟨-, hE⟩⟩ := id hC
  have hD := InU_D hu
  have hI := hO.2.2.2.2
  have hst : stepsZ (F 218) < 1999000000 := by omega
  obtain ⟨E1, F1, G1, hc, hKC⟩ : ∃ E1 F1 G1, callP MP d 135 [.ref 16, .int (F 0 (k + 1))] (mk E F G) = some (thrP [2] (a_again (F 218) (tI (F 0 (k + 1)))), mk E1 F1 G1) ∧ KeepC E F G E1 F1 G1 := by
    have H := cl_again (d := d) (E := E) (F := F) (G := G) (x := tI (F 0 (k + 1))) hO hD hL2 hst (tI_rg _) (by omega)
    obtain ⟨E1, F1, hc, h⟩ := H; rw [zI_tI] at hc; exact ⟨E1, F1, G, hc, h⟩
  have co : 0 ≤ (a_again (F 218) (tI (F 0 (k + 1)))).1 ∧ (a_again (F 218) (tI (F 0 (k + 1)))).1 ≤ 1 := co_again
  have hw := wx_328 hc ⟨co.1, co.2⟩
  have hC2 := CLS_O (c := (a_again (F 218) (tI (F 0 (k + 1)))).1) (v := (Int32.toInt64 (zI (a_again (F 218) (tI (F 0 (k + 1)))).2))) (CLS_C hC hKC)
  obtain ⟨-, -, -, ⟨hT2, -, -, -, h182⟩, -, -⟩ := id hC2
  have hTm := TmA_O (c := (a_again (F 218) (tI (F 0 (k + 1)))).1) (v := (Int32.toInt64 (zI (a_again (F 218) (tI (F 0 (k + 1)))).2))) (TmA_C hKC)
  have e218 : F1 218 = F 218 := hKC.1 218 (by omega) (by unfold scrC; omega)
  have e0 : F1 0 = F 0 := hKC.1 0 (by omega) (by unfold scrC; omega)
  obtain ⟨F2, G2, hm, h5, hKM⟩ : ∃ F2 G2, callP MP (d + 1) 270 [.ref 217, .int (F 0 (k + 1))] (mk E1 F1 (outG G1 (a_again (F 218) (tI (F 0 (k + 1)))).1 (Int32.toInt64 (zI (a_again (F 218) (tI (F 0 (k + 1)))).2)))) = some (Sum.inl (some (.int (zI (a_again (F 218) (tI (F 0 (k + 1)))).2))), mk E1 F2 G2) ∧ F2 217 5 = zI (a_again (F 218) (tI (F 0 (k + 1)))).1 ∧ KeepM F1 (outG G1 (a_again (F 218) (tI (F 0 (k + 1)))).1 (Int32.toInt64 (zI (a_again (F 218) (tI (F 0 (k + 1)))).2))) F2 G2 := by
    have H := ml_again (d := d + 1) (E := E1) (F := F1) (G := outG G1 (a_again (F 218) (tI (F 0 (k + 1)))).1 (Int32.toInt64 (zI (a_again (F 218) (tI (F 0 (k + 1)))).2))) (x := tI (F 0 (k + 1))) hI e218 h182 hst (tI_rg _) (by omega)
    obtain ⟨F2, hm, h5, hk2⟩ := H; rw [zI_tI] at hm; exact ⟨F2, _, hm, h5, hk2⟩
  obtain ⟨y5, y6, hr⟩ := tq_996 (z5 := z5) (z6 := z6) hE hk ⟨co.1, by omega⟩ hw hKC.2.2.2.2.1 e0 hm h5 (hKM.2.2 246 (by omega)) (by omega)
  exact ⟨y5, y6, E1, F2, G2, hr, CLS_M hC2 hKM, by have := hKC.2.2.2.2.2.1; omega, by have := hKC.2.2.2.2.2.2; omega⟩
theorem tn_14 {d L : Nat} {b k : Int} {E : EnQ} {F : Nat → Int → Int32} {G : Nat → Int → Int64} {z5 z6 : Option Value} (hC : CLS b L E F G) (hb : b < 1999000000) (hk : 0 ≤ k ∧ k + 6 ≤ L ∧ L ≤ 3072) (hd : 100 ≤ d) : TurnP d b L k 1052 z5 z6 E F G := by
  obtain ⟨d, rfl⟩ : ∃ e, d = e + 1 := ⟨d - 1, by omega⟩
  obtain ⟨⟨hO, hcs, hsb⟩, ⟨hu, -⟩, -, ⟨hT, -, -, -, h18⟩, ⟨hL1, hL2⟩, ⟨-, hE⟩⟩ := id hC
  have hD := InU_D hu
  have hI := hO.2.2.2.2
  have hst : stepsZ (F 218) < 1999000000 := by omega
  obtain ⟨E1, F1, G1, hc, hKC⟩ : ∃ E1 F1 G1, callP MP d 136 [.ref 16, .int (F 0 (k + 1)), .int (F 0 (k + 2))] (mk E F G) = some (thrP [0, 1, 2] (a_judge (F 218) F G (tI (F 0 (k + 1))) (tI (F 0 (k + 2)))), mk E1 F1 G1) ∧ KeepC E F G E1 F1 G1 := by
    have H := cl_judge (d := d) (E := E) (F := F) (G := G) (x := tI (F 0 (k + 1))) (y := tI (F 0 (k + 2))) hO hD hst hT (tI_rg _) (tI_rg _) (by omega)
    obtain ⟨E1, F1, G1, hc, h⟩ := H; rw [zI_tI, zI_tI] at hc; exact ⟨E1, F1, G1, hc, h⟩
  have co : 0 ≤ (a_judge (F 218) F G (tI (F 0 (k + 1))) (tI (F 0 (k + 2)))).1 ∧ (a_judge (F 218) F G (tI (F 0 (k + 1))) (tI (F 0 (k + 2)))).1 ≤ 3 := co_judge
  have hw := wx_329 hc ⟨co.1, co.2⟩
  have hC2 := CLS_O (c := (a_judge (F 218) F G (tI (F 0 (k + 1))) (tI (F 0 (k + 2)))).1) (v := (Int32.toInt64 (zI (a_judge (F 218) F G (tI (F 0 (k + 1))) (tI (F 0 (k + 2)))).2))) (CLS_C hC hKC)
  obtain ⟨-, -, -, ⟨hT2, -, -, -, h182⟩, -, -⟩ := id hC2
  have hTm := TmA_O (c := (a_judge (F 218) F G (tI (F 0 (k + 1))) (tI (F 0 (k + 2)))).1) (v := (Int32.toInt64 (zI (a_judge (F 218) F G (tI (F 0 (k + 1))) (tI (F 0 (k + 2)))).2))) (TmA_C hKC)
  have e218 : F1 218 = F 218 := hKC.1 218 (by omega) (by unfold scrC; omega)
  have e0 : F1 0 = F 0 := hKC.1 0 (by omega) (by unfold scrC; omega)
  obtain ⟨F2, G2, hm, h5, hKM⟩ : ∃ F2 G2, callP MP (d + 1) 234 [.ref 217, .int (F 0 (k + 1)), .int (F 0 (k + 2))] (mk E1 F1 (outG G1 (a_judge (F 218) F G (tI (F 0 (k + 1))) (tI (F 0 (k + 2)))).1 (Int32.toInt64 (zI (a_judge (F 218) F G (tI (F 0 (k + 1))) (tI (F 0 (k + 2)))).2)))) = some (Sum.inl (some (.int (zI (a_judge (F 218) F G (tI (F 0 (k + 1))) (tI (F 0 (k + 2)))).2))), mk E1 F2 G2) ∧ F2 217 5 = zI (a_judge (F 218) F G (tI (F 0 (k + 1))) (tI (F 0 (k + 2)))).1 ∧ KeepM F1 (outG G1 (a_judge (F 218) F G (tI (F 0 (k + 1))) (tI (F 0 (k + 2)))).1 (Int32.toInt64 (zI (a_judge (F 218) F G (tI (F 0 (k + 1))) (tI (F 0 (k + 2)))).2))) F2 G2 := by
    have H := ml_judge (d := d + 1) (E := E1) (F := F1) (G := outG G1 (a_judge (F 218) F G (tI (F 0 (k + 1))) (tI (F 0 (k + 2)))).1 (Int32.toInt64 (zI (a_judge (F 218) F G (tI (F 0 (k + 1))) (tI (F 0 (k + 2)))).2))) (x := tI (F 0 (k + 1))) (y := tI (F 0 (k + 2))) hI e218 h182 hst (CLS_44 hT2) (tI_rg _) (tI_rg _) (by omega)
    obtain ⟨F2, G2, hm, h5, hk2⟩ := H; rw [zI_tI, zI_tI] at hm; rw [tm_judge hTm] at hm h5; exact ⟨F2, G2, hm, h5, hk2⟩
  obtain ⟨y5, y6, hr⟩ := tq_1052 (z5 := z5) (z6 := z6) hE hk ⟨co.1, by omega⟩ hw hKC.2.2.2.2.1 e0 hm h5 (hKM.2.2 246 (by omega)) (by omega)
  exact ⟨y5, y6, E1, F2, G2, hr, CLS_M hC2 hKM, by have := hKC.2.2.2.2.2.1; omega, by have := hKC.2.2.2.2.2.2; omega⟩
theorem tn_17 {d L : Nat} {b k : Int} {E : EnQ} {F : Nat → Int → Int32} {G : Nat → Int → Int64} {z5 z6 : Option Value} (hC : CLS b L E F G) (hb : b < 1999000000) (hk : 0 ≤ k ∧ k + 6 ≤ L ∧ L ≤ 3072) (hd : 100 ≤ d) : TurnP d b L k 1244 z5 z6 E F G := by
  obtain ⟨d, rfl⟩ : ∃ e, d = e + 1 := ⟨d - 1, by omega⟩
  obtain ⟨⟨hO, hcs, hsb⟩, ⟨hu, -⟩, -, ⟨hT, -, -, -, h18⟩, ⟨hL1, hL2⟩, ⟨-, hE⟩⟩ := id hC
  have hD := InU_D hu
  have hI := hO.2.2.2.2
  have hst : stepsZ (F 218) < 1999000000 := by omega
  obtain ⟨E1, F1, G1, hc, hKC⟩ : ∃ E1 F1 G1, callP MP d 143 [.ref 16, .int (F 0 (k + 1)), .int (F 0 (k + 2)), .int (F 0 (k + 3))] (mk E F G) = some (thrP [0, 1] (a_behind (F 218) F G (tI (F 0 (k + 1))) (tI (F 0 (k + 2))) (tI (F 0 (k + 3)))), mk E1 F1 G1) ∧ KeepC E F G E1 F1 G1 := by
    have H := cl_behind (d := d) (E := E) (F := F) (G := G) (x := tI (F 0 (k + 1))) (y := tI (F 0 (k + 2))) (z := tI (F 0 (k + 3))) hO hD hst hT (tI_rg _) (tI_rg _) (tI_rg _) (by omega)
    obtain ⟨E1, F1, G1, hc, h⟩ := H; rw [zI_tI, zI_tI, zI_tI] at hc; exact ⟨E1, F1, G1, hc, h⟩
  have co : 0 ≤ (a_behind (F 218) F G (tI (F 0 (k + 1))) (tI (F 0 (k + 2))) (tI (F 0 (k + 3)))).1 ∧ (a_behind (F 218) F G (tI (F 0 (k + 1))) (tI (F 0 (k + 2))) (tI (F 0 (k + 3)))).1 ≤ 2 := co_behind
  have hw := wx_332 hc ⟨co.1, co.2⟩
  have hC2 := CLS_O (c := (a_behind (F 218) F G (tI (F 0 (k + 1))) (tI (F 0 (k + 2))) (tI (F 0 (k + 3)))).1) (v := (Int32.toInt64 (zI (a_behind (F 218) F G (tI (F 0 (k + 1))) (tI (F 0 (k + 2))) (tI (F 0 (k + 3)))).2))) (CLS_C hC hKC)
  obtain ⟨-, -, -, ⟨hT2, -, -, -, h182⟩, -, -⟩ := id hC2
  have hTm := TmA_O (c := (a_behind (F 218) F G (tI (F 0 (k + 1))) (tI (F 0 (k + 2))) (tI (F 0 (k + 3)))).1) (v := (Int32.toInt64 (zI (a_behind (F 218) F G (tI (F 0 (k + 1))) (tI (F 0 (k + 2))) (tI (F 0 (k + 3)))).2))) (TmA_C hKC)
  have e218 : F1 218 = F 218 := hKC.1 218 (by omega) (by unfold scrC; omega)
  have e0 : F1 0 = F 0 := hKC.1 0 (by omega) (by unfold scrC; omega)
  obtain ⟨F2, G2, hm, h5, hKM⟩ : ∃ F2 G2, callP MP (d + 1) 245 [.ref 217, .int (F 0 (k + 1)), .int (F 0 (k + 2)), .int (F 0 (k + 3))] (mk E1 F1 (outG G1 (a_behind (F 218) F G (tI (F 0 (k + 1))) (tI (F 0 (k + 2))) (tI (F 0 (k + 3)))).1 (Int32.toInt64 (zI (a_behind (F 218) F G (tI (F 0 (k + 1))) (tI (F 0 (k + 2))) (tI (F 0 (k + 3)))).2)))) = some (Sum.inl (some (.int (zI (a_behind (F 218) F G (tI (F 0 (k + 1))) (tI (F 0 (k + 2))) (tI (F 0 (k + 3)))).2))), mk E1 F2 G2) ∧ F2 217 5 = zI (a_behind (F 218) F G (tI (F 0 (k + 1))) (tI (F 0 (k + 2))) (tI (F 0 (k + 3)))).1 ∧ KeepM F1 (outG G1 (a_behind (F 218) F G (tI (F 0 (k + 1))) (tI (F 0 (k + 2))) (tI (F 0 (k + 3)))).1 (Int32.toInt64 (zI (a_behind (F 218) F G (tI (F 0 (k + 1))) (tI (F 0 (k + 2))) (tI (F 0 (k + 3)))).2))) F2 G2 := by
    have H := ml_behind (d := d + 1) (E := E1) (F := F1) (G := outG G1 (a_behind (F 218) F G (tI (F 0 (k + 1))) (tI (F 0 (k + 2))) (tI (F 0 (k + 3)))).1 (Int32.toInt64 (zI (a_behind (F 218) F G (tI (F 0 (k + 1))) (tI (F 0 (k + 2))) (tI (F 0 (k + 3)))).2))) (x := tI (F 0 (k + 1))) (y := tI (F 0 (k + 2))) (z := tI (F 0 (k + 3))) hI e218 h182 hst (CLS_44 hT2) (tI_rg _) (tI_rg _) (tI_rg _) (by omega)
    obtain ⟨F2, G2, hm, h5, hk2⟩ := H; rw [zI_tI, zI_tI, zI_tI] at hm; rw [tm_behind hTm] at hm h5; exact ⟨F2, G2, hm, h5, hk2⟩
  obtain ⟨y5, y6, hr⟩ := tq_1244 (z5 := z5) (z6 := z6) hE hk ⟨co.1, by omega⟩ hw hKC.2.2.2.2.1 e0 hm h5 (hKM.2.2 246 (by omega)) (by omega)
  exact ⟨y5, y6, E1, F2, G2, hr, CLS_M hC2 hKM, by have := hKC.2.2.2.2.2.1; omega, by have := hKC.2.2.2.2.2.2; omega⟩
theorem tn_18 {d L : Nat} {b k : Int} {E : EnQ} {F : Nat → Int → Int32} {G : Nat → Int → Int64} {z5 z6 : Option Value} (hC : CLS b L E F G) (hb : b < 1999000000) (hk : 0 ≤ k ∧ k + 6 ≤ L ∧ L ≤ 3072) (hd : 100 ≤ d) : TurnP d b L k 1324 z5 z6 E F G := by
  obtain ⟨d, rfl⟩ : ∃ e, d = e + 1 := ⟨d - 1, by omega⟩
  obtain ⟨⟨hO, hcs, hsb⟩, ⟨hu, -⟩, -, ⟨hT, -, -, -, h18⟩, ⟨hL1, hL2⟩, ⟨-, hE⟩⟩ := id hC
  have hD := InU_D hu
  have hI := hO.2.2.2.2
  have hst : stepsZ (F 218) < 1999000000 := by omega
  obtain ⟨E1, F1, G1, hc, hKC⟩ : ∃ E1 F1 G1, callP MP d 144 [.ref 16, .int (F 0 (k + 1)), .int (F 0 (k + 2))] (mk E F G) = some (thrP [0] (a_prints (F 218) (tI (F 0 (k + 1))) (tI (F 0 (k + 2)))), mk E1 F1 G1) ∧ KeepC E F G E1 F1 G1 := by
    have H := cl_prints (d := d) (E := E) (F := F) (G := G) (x := tI (F 0 (k + 1))) (y := tI (F 0 (k + 2))) hO (tI_rg _) (tI_rg _) (by omega)
    obtain ⟨E1, hE1, hc⟩ := H; rw [zI_tI, zI_tI] at hc; exact ⟨E1, F, G, hc, KeepC_ej hE1⟩
  have co : 0 ≤ (a_prints (F 218) (tI (F 0 (k + 1))) (tI (F 0 (k + 2)))).1 ∧ (a_prints (F 218) (tI (F 0 (k + 1))) (tI (F 0 (k + 2)))).1 ≤ 1 := co_prints
  have hw := wx_333 hc ⟨co.1, co.2⟩
  have hC2 := CLS_O (c := (a_prints (F 218) (tI (F 0 (k + 1))) (tI (F 0 (k + 2)))).1) (v := (Int32.toInt64 (zI (a_prints (F 218) (tI (F 0 (k + 1))) (tI (F 0 (k + 2)))).2))) (CLS_C hC hKC)
  obtain ⟨-, -, -, ⟨hT2, -, -, -, h182⟩, -, -⟩ := id hC2
  have hTm := TmA_O (c := (a_prints (F 218) (tI (F 0 (k + 1))) (tI (F 0 (k + 2)))).1) (v := (Int32.toInt64 (zI (a_prints (F 218) (tI (F 0 (k + 1))) (tI (F 0 (k + 2)))).2))) (TmA_C hKC)
  have e218 : F1 218 = F 218 := hKC.1 218 (by omega) (by unfold scrC; omega)
  have e0 : F1 0 = F 0 := hKC.1 0 (by omega) (by unfold scrC; omega)
  obtain ⟨F2, G2, hm, h5, hKM⟩ : ∃ F2 G2, callP MP (d + 1) 247 [.ref 217, .int (F 0 (k + 1)), .int (F 0 (k + 2))] (mk E1 F1 (outG G1 (a_prints (F 218) (tI (F 0 (k + 1))) (tI (F 0 (k + 2)))).1 (Int32.toInt64 (zI (a_prints (F 218) (tI (F 0 (k + 1))) (tI (F 0 (k + 2)))).2)))) = some (Sum.inl (some (.int (zI (a_prints (F 218) (tI (F 0 (k + 1))) (tI (F 0 (k + 2)))).2))), mk E1 F2 G2) ∧ F2 217 5 = zI (a_prints (F 218) (tI (F 0 (k + 1))) (tI (F 0 (k + 2)))).1 ∧ KeepM F1 (outG G1 (a_prints (F 218) (tI (F 0 (k + 1))) (tI (F 0 (k + 2)))).1 (Int32.toInt64 (zI (a_prints (F 218) (tI (F 0 (k + 1))) (tI (F 0 (k + 2)))).2))) F2 G2 := by
    have H := ml_prints (d := d + 1) (E := E1) (F := F1) (G := outG G1 (a_prints (F 218) (tI (F 0 (k + 1))) (tI (F 0 (k + 2)))).1 (Int32.toInt64 (zI (a_prints (F 218) (tI (F 0 (k + 1))) (tI (F 0 (k + 2)))).2))) (x := tI (F 0 (k + 1))) (y := tI (F 0 (k + 2))) hI e218 (tI_rg _) (tI_rg _) (by omega)
    rw [zI_tI, zI_tI] at H; exact ⟨_, _, H, by rw [uR_at, uC_at], KeepM_c⟩
  obtain ⟨y5, y6, hr⟩ := tq_1324 (z5 := z5) (z6 := z6) hE hk ⟨co.1, by omega⟩ hw hKC.2.2.2.2.1 e0 hm h5 (hKM.2.2 246 (by omega)) (by omega)
  exact ⟨y5, y6, E1, F2, G2, hr, CLS_M hC2 hKM, by have := hKC.2.2.2.2.2.1; omega, by have := hKC.2.2.2.2.2.2; omega⟩
theorem tn_19 {d L : Nat} {b k : Int} {E : EnQ} {F : Nat → Int → Int32} {G : Nat → Int → Int64} {z5 z6 : Option Value} (hC : CLS b L E F G) (hb : b < 1999000000) (hk : 0 ≤ k ∧ k + 6 ≤ L ∧ L ≤ 3072) (hd : 100 ≤ d) : TurnP d b L k 1392 z5 z6 E F G := by
  obtain ⟨d, rfl⟩ : ∃ e, d = e + 1 := ⟨d - 1, by omega⟩
  obtain ⟨⟨hO, hcs, hsb⟩, ⟨hu, -⟩, -, ⟨hT, -, -, -, h18⟩, ⟨hL1, hL2⟩, ⟨-, hE⟩⟩ := id hC
  have hD := InU_D hu
  have hI := hO.2.2.2.2
  have hst : stepsZ (F 218) < 1999000000 := by omega
  obtain ⟨E1, F1, G1, hc, hKC⟩ : ∃ E1 F1 G1, callP MP d 145 [.ref 16, .int (F 0 (k + 1)), .int (F 0 (k + 2))] (mk E F G) = some (thrP [0] (a_age (F 218) (tI (F 0 (k + 1))) (tI (F 0 (k + 2)))), mk E1 F1 G1) ∧ KeepC E F G E1 F1 G1 := by
    have H := cl_age (d := d) (E := E) (F := F) (G := G) (x := tI (F 0 (k + 1))) (y := tI (F 0 (k + 2))) hO (tI_rg _) (tI_rg _) (by omega)
    obtain ⟨E1, hE1, hc⟩ := H; rw [zI_tI, zI_tI] at hc; exact ⟨E1, F, G, hc, KeepC_ej hE1⟩
  have co : 0 ≤ (a_age (F 218) (tI (F 0 (k + 1))) (tI (F 0 (k + 2)))).1 ∧ (a_age (F 218) (tI (F 0 (k + 1))) (tI (F 0 (k + 2)))).1 ≤ 1 := co_age
  have hw := wx_334 hc ⟨co.1, co.2⟩
  have hC2 := CLS_O (c := (a_age (F 218) (tI (F 0 (k + 1))) (tI (F 0 (k + 2)))).1) (v := (Int32.toInt64 (zI (a_age (F 218) (tI (F 0 (k + 1))) (tI (F 0 (k + 2)))).2))) (CLS_C hC hKC)
  obtain ⟨-, -, -, ⟨hT2, -, -, -, h182⟩, -, -⟩ := id hC2
  have hTm := TmA_O (c := (a_age (F 218) (tI (F 0 (k + 1))) (tI (F 0 (k + 2)))).1) (v := (Int32.toInt64 (zI (a_age (F 218) (tI (F 0 (k + 1))) (tI (F 0 (k + 2)))).2))) (TmA_C hKC)
  have e218 : F1 218 = F 218 := hKC.1 218 (by omega) (by unfold scrC; omega)
  have e0 : F1 0 = F 0 := hKC.1 0 (by omega) (by unfold scrC; omega)
  obtain ⟨F2, G2, hm, h5, hKM⟩ : ∃ F2 G2, callP MP (d + 1) 248 [.ref 217, .int (F 0 (k + 1)), .int (F 0 (k + 2))] (mk E1 F1 (outG G1 (a_age (F 218) (tI (F 0 (k + 1))) (tI (F 0 (k + 2)))).1 (Int32.toInt64 (zI (a_age (F 218) (tI (F 0 (k + 1))) (tI (F 0 (k + 2)))).2)))) = some (Sum.inl (some (.int (zI (a_age (F 218) (tI (F 0 (k + 1))) (tI (F 0 (k + 2)))).2))), mk E1 F2 G2) ∧ F2 217 5 = zI (a_age (F 218) (tI (F 0 (k + 1))) (tI (F 0 (k + 2)))).1 ∧ KeepM F1 (outG G1 (a_age (F 218) (tI (F 0 (k + 1))) (tI (F 0 (k + 2)))).1 (Int32.toInt64 (zI (a_age (F 218) (tI (F 0 (k + 1))) (tI (F 0 (k + 2)))).2))) F2 G2 := by
    have H := ml_age (d := d + 1) (E := E1) (F := F1) (G := outG G1 (a_age (F 218) (tI (F 0 (k + 1))) (tI (F 0 (k + 2)))).1 (Int32.toInt64 (zI (a_age (F 218) (tI (F 0 (k + 1))) (tI (F 0 (k + 2)))).2))) (x := tI (F 0 (k + 1))) (y := tI (F 0 (k + 2))) hI e218 (tI_rg _) (tI_rg _) (by omega)
    rw [zI_tI, zI_tI] at H; exact ⟨_, _, H, by rw [uR_at, uC_at], KeepM_c⟩
  obtain ⟨y5, y6, hr⟩ := tq_1392 (z5 := z5) (z6 := z6) hE hk ⟨co.1, by omega⟩ hw hKC.2.2.2.2.1 e0 hm h5 (hKM.2.2 246 (by omega)) (by omega)
  exact ⟨y5, y6, E1, F2, G2, hr, CLS_M hC2 hKM, by have := hKC.2.2.2.2.2.1; omega, by have := hKC.2.2.2.2.2.2; omega⟩
theorem tn_22 {d L : Nat} {b k : Int} {E : EnQ} {F : Nat → Int → Int32} {G : Nat → Int → Int64} {z5 z6 : Option Value} (hC : CLS b L E F G) (hb : b < 1999000000) (hk : 0 ≤ k ∧ k + 6 ≤ L ∧ L ≤ 3072) (hd : 100 ≤ d) : TurnP d b L k 1557 z5 z6 E F G := by
  obtain ⟨d, rfl⟩ : ∃ e, d = e + 1 := ⟨d - 1, by omega⟩
  obtain ⟨⟨hO, hcs, hsb⟩, ⟨hu, -⟩, -, ⟨hT, -, -, -, h18⟩, ⟨hL1, hL2⟩, ⟨-, hE⟩⟩ := id hC
  have hD := InU_D hu
  have hI := hO.2.2.2.2
  have hst : stepsZ (F 218) < 1999000000 := by omega
  obtain ⟨E1, F1, G1, hc, hKC⟩ : ∃ E1 F1 G1, callP MP d 147 [.ref 16, .int (F 0 (k + 1)), .int (F 0 (k + 2))] (mk E F G) = some (thrP [0] (a_crossing (F 218) (tI (F 0 (k + 1))) (tI (F 0 (k + 2)))), mk E1 F1 G1) ∧ KeepC E F G E1 F1 G1 := by
    have H := cl_crossing (d := d) (E := E) (F := F) (G := G) (x := tI (F 0 (k + 1))) (y := tI (F 0 (k + 2))) hO (tI_rg _) (tI_rg _) (by omega)
    obtain ⟨E1, hE1, hc⟩ := H; rw [zI_tI, zI_tI] at hc; exact ⟨E1, F, G, hc, KeepC_ej hE1⟩
  have co : 0 ≤ (a_crossing (F 218) (tI (F 0 (k + 1))) (tI (F 0 (k + 2)))).1 ∧ (a_crossing (F 218) (tI (F 0 (k + 1))) (tI (F 0 (k + 2)))).1 ≤ 1 := co_crossing
  have hw := wx_336 hc ⟨co.1, co.2⟩
  have hC2 := CLS_O (c := (a_crossing (F 218) (tI (F 0 (k + 1))) (tI (F 0 (k + 2)))).1) (v := (Int32.toInt64 (zI (a_crossing (F 218) (tI (F 0 (k + 1))) (tI (F 0 (k + 2)))).2))) (CLS_C hC hKC)
  obtain ⟨-, -, -, ⟨hT2, -, -, -, h182⟩, -, -⟩ := id hC2
  have hTm := TmA_O (c := (a_crossing (F 218) (tI (F 0 (k + 1))) (tI (F 0 (k + 2)))).1) (v := (Int32.toInt64 (zI (a_crossing (F 218) (tI (F 0 (k + 1))) (tI (F 0 (k + 2)))).2))) (TmA_C hKC)
  have e218 : F1 218 = F 218 := hKC.1 218 (by omega) (by unfold scrC; omega)
  have e0 : F1 0 = F 0 := hKC.1 0 (by omega) (by unfold scrC; omega)
  obtain ⟨F2, G2, hm, h5, hKM⟩ : ∃ F2 G2, callP MP (d + 1) 252 [.ref 217, .int (F 0 (k + 1)), .int (F 0 (k + 2))] (mk E1 F1 (outG G1 (a_crossing (F 218) (tI (F 0 (k + 1))) (tI (F 0 (k + 2)))).1 (Int32.toInt64 (zI (a_crossing (F 218) (tI (F 0 (k + 1))) (tI (F 0 (k + 2)))).2)))) = some (Sum.inl (some (.int (zI (a_crossing (F 218) (tI (F 0 (k + 1))) (tI (F 0 (k + 2)))).2))), mk E1 F2 G2) ∧ F2 217 5 = zI (a_crossing (F 218) (tI (F 0 (k + 1))) (tI (F 0 (k + 2)))).1 ∧ KeepM F1 (outG G1 (a_crossing (F 218) (tI (F 0 (k + 1))) (tI (F 0 (k + 2)))).1 (Int32.toInt64 (zI (a_crossing (F 218) (tI (F 0 (k + 1))) (tI (F 0 (k + 2)))).2))) F2 G2 := by
    have H := ml_crossing (d := d + 1) (E := E1) (F := F1) (G := outG G1 (a_crossing (F 218) (tI (F 0 (k + 1))) (tI (F 0 (k + 2)))).1 (Int32.toInt64 (zI (a_crossing (F 218) (tI (F 0 (k + 1))) (tI (F 0 (k + 2)))).2))) (x := tI (F 0 (k + 1))) (y := tI (F 0 (k + 2))) hI e218 (tI_rg _) (tI_rg _) (by omega)
    rw [zI_tI, zI_tI] at H; exact ⟨_, _, H, by rw [uR_at, uC_at], KeepM_c⟩
  obtain ⟨y5, y6, hr⟩ := tq_1557 (z5 := z5) (z6 := z6) hE hk ⟨co.1, by omega⟩ hw hKC.2.2.2.2.1 e0 hm h5 (hKM.2.2 246 (by omega)) (by omega)
  exact ⟨y5, y6, E1, F2, G2, hr, CLS_M hC2 hKM, by have := hKC.2.2.2.2.2.1; omega, by have := hKC.2.2.2.2.2.2; omega⟩
theorem tn_23 {d L : Nat} {b k : Int} {E : EnQ} {F : Nat → Int → Int32} {G : Nat → Int → Int64} {z5 z6 : Option Value} (hC : CLS b L E F G) (hb : b < 1999000000) (hk : 0 ≤ k ∧ k + 6 ≤ L ∧ L ≤ 3072) (hd : 100 ≤ d) : TurnP d b L k 1625 z5 z6 E F G := by
  obtain ⟨d, rfl⟩ : ∃ e, d = e + 1 := ⟨d - 1, by omega⟩
  obtain ⟨⟨hO, hcs, hsb⟩, ⟨hu, -⟩, -, ⟨hT, -, -, -, h18⟩, ⟨hL1, hL2⟩, ⟨-, hE⟩⟩ := id hC
  have hD := InU_D hu
  have hI := hO.2.2.2.2
  have hst : stepsZ (F 218) < 1999000000 := by omega
  obtain ⟨E1, F1, G1, hc, hKC⟩ : ∃ E1 F1 G1, callP MP d 148 [.ref 16, .int (F 0 (k + 1)), .int (F 0 (k + 2))] (mk E F G) = some (thrP [0] (a_fades (F 218) (tI (F 0 (k + 1))) (tI (F 0 (k + 2)))), mk E1 F1 G1) ∧ KeepC E F G E1 F1 G1 := by
    have H := cl_fades (d := d) (E := E) (F := F) (G := G) (x := tI (F 0 (k + 1))) (y := tI (F 0 (k + 2))) hO (tI_rg _) (tI_rg _) (by omega)
    obtain ⟨E1, hE1, hc⟩ := H; rw [zI_tI, zI_tI] at hc; exact ⟨E1, F, G, hc, KeepC_ej hE1⟩
  have co : 0 ≤ (a_fades (F 218) (tI (F 0 (k + 1))) (tI (F 0 (k + 2)))).1 ∧ (a_fades (F 218) (tI (F 0 (k + 1))) (tI (F 0 (k + 2)))).1 ≤ 1 := co_fades
  have hw := wx_337 hc ⟨co.1, co.2⟩
  have hC2 := CLS_O (c := (a_fades (F 218) (tI (F 0 (k + 1))) (tI (F 0 (k + 2)))).1) (v := (Int32.toInt64 (zI (a_fades (F 218) (tI (F 0 (k + 1))) (tI (F 0 (k + 2)))).2))) (CLS_C hC hKC)
  obtain ⟨-, -, -, ⟨hT2, -, -, -, h182⟩, -, -⟩ := id hC2
  have hTm := TmA_O (c := (a_fades (F 218) (tI (F 0 (k + 1))) (tI (F 0 (k + 2)))).1) (v := (Int32.toInt64 (zI (a_fades (F 218) (tI (F 0 (k + 1))) (tI (F 0 (k + 2)))).2))) (TmA_C hKC)
  have e218 : F1 218 = F 218 := hKC.1 218 (by omega) (by unfold scrC; omega)
  have e0 : F1 0 = F 0 := hKC.1 0 (by omega) (by unfold scrC; omega)
  obtain ⟨F2, G2, hm, h5, hKM⟩ : ∃ F2 G2, callP MP (d + 1) 254 [.ref 217, .int (F 0 (k + 1)), .int (F 0 (k + 2))] (mk E1 F1 (outG G1 (a_fades (F 218) (tI (F 0 (k + 1))) (tI (F 0 (k + 2)))).1 (Int32.toInt64 (zI (a_fades (F 218) (tI (F 0 (k + 1))) (tI (F 0 (k + 2)))).2)))) = some (Sum.inl (some (.int (zI (a_fades (F 218) (tI (F 0 (k + 1))) (tI (F 0 (k + 2)))).2))), mk E1 F2 G2) ∧ F2 217 5 = zI (a_fades (F 218) (tI (F 0 (k + 1))) (tI (F 0 (k + 2)))).1 ∧ KeepM F1 (outG G1 (a_fades (F 218) (tI (F 0 (k + 1))) (tI (F 0 (k + 2)))).1 (Int32.toInt64 (zI (a_fades (F 218) (tI (F 0 (k + 1))) (tI (F 0 (k + 2)))).2))) F2 G2 := by
    have H := ml_fades (d := d + 1) (E := E1) (F := F1) (G := outG G1 (a_fades (F 218) (tI (F 0 (k + 1))) (tI (F 0 (k + 2)))).1 (Int32.toInt64 (zI (a_fades (F 218) (tI (F 0 (k + 1))) (tI (F 0 (k + 2)))).2))) (x := tI (F 0 (k + 1))) (y := tI (F 0 (k + 2))) hI e218 (tI_rg _) (tI_rg _) (by omega)
    rw [zI_tI, zI_tI] at H; exact ⟨_, _, H, by rw [uR_at, uC_at], KeepM_c⟩
  obtain ⟨y5, y6, hr⟩ := tq_1625 (z5 := z5) (z6 := z6) hE hk ⟨co.1, by omega⟩ hw hKC.2.2.2.2.1 e0 hm h5 (hKM.2.2 246 (by omega)) (by omega)
  exact ⟨y5, y6, E1, F2, G2, hr, CLS_M hC2 hKM, by have := hKC.2.2.2.2.2.1; omega, by have := hKC.2.2.2.2.2.2; omega⟩
theorem tn_24 {d L : Nat} {b k : Int} {E : EnQ} {F : Nat → Int → Int32} {G : Nat → Int → Int64} {z5 z6 : Option Value} (hC : CLS b L E F G) (hb : b < 1999000000) (hk : 0 ≤ k ∧ k + 6 ≤ L ∧ L ≤ 3072) (hd : 100 ≤ d) : TurnP d b L k 1693 z5 z6 E F G := by
  obtain ⟨d, rfl⟩ : ∃ e, d = e + 1 := ⟨d - 1, by omega⟩
  obtain ⟨⟨hO, hcs, hsb⟩, ⟨hu, -⟩, -, ⟨hT, -, -, -, h18⟩, ⟨hL1, hL2⟩, ⟨-, hE⟩⟩ := id hC
  have hD := InU_D hu
  have hI := hO.2.2.2.2
  have hst : stepsZ (F 218) < 1999000000 := by omega
  obtain ⟨E1, F1, G1, hc, hKC⟩ : ∃ E1 F1 G1, callP MP d 149 [.ref 16, .int (F 0 (k + 1))] (mk E F G) = some (thrP [0] (a_hired (F 218) (tI (F 0 (k + 1)))), mk E1 F1 G1) ∧ KeepC E F G E1 F1 G1 := by
    have H := cl_hired (d := d) (E := E) (F := F) (G := G) (x := tI (F 0 (k + 1))) hO (tI_rg _) (by omega)
    obtain ⟨E1, hE1, hc⟩ := H; rw [zI_tI] at hc; exact ⟨E1, F, G, hc, KeepC_ej hE1⟩
  have co : 0 ≤ (a_hired (F 218) (tI (F 0 (k + 1)))).1 ∧ (a_hired (F 218) (tI (F 0 (k + 1)))).1 ≤ 1 := co_hired
  have hw := wx_338 hc ⟨co.1, co.2⟩
  have hC2 := CLS_O (c := (a_hired (F 218) (tI (F 0 (k + 1)))).1) (v := (Int32.toInt64 (zI (a_hired (F 218) (tI (F 0 (k + 1)))).2))) (CLS_C hC hKC)
  obtain ⟨-, -, -, ⟨hT2, -, -, -, h182⟩, -, -⟩ := id hC2
  have hTm := TmA_O (c := (a_hired (F 218) (tI (F 0 (k + 1)))).1) (v := (Int32.toInt64 (zI (a_hired (F 218) (tI (F 0 (k + 1)))).2))) (TmA_C hKC)
  have e218 : F1 218 = F 218 := hKC.1 218 (by omega) (by unfold scrC; omega)
  have e0 : F1 0 = F 0 := hKC.1 0 (by omega) (by unfold scrC; omega)
  obtain ⟨F2, G2, hm, h5, hKM⟩ : ∃ F2 G2, callP MP (d + 1) 256 [.ref 217, .int (F 0 (k + 1))] (mk E1 F1 (outG G1 (a_hired (F 218) (tI (F 0 (k + 1)))).1 (Int32.toInt64 (zI (a_hired (F 218) (tI (F 0 (k + 1)))).2)))) = some (Sum.inl (some (.int (zI (a_hired (F 218) (tI (F 0 (k + 1)))).2))), mk E1 F2 G2) ∧ F2 217 5 = zI (a_hired (F 218) (tI (F 0 (k + 1)))).1 ∧ KeepM F1 (outG G1 (a_hired (F 218) (tI (F 0 (k + 1)))).1 (Int32.toInt64 (zI (a_hired (F 218) (tI (F 0 (k + 1)))).2))) F2 G2 := by
    have H := ml_hired (d := d + 1) (E := E1) (F := F1) (G := outG G1 (a_hired (F 218) (tI (F 0 (k + 1)))).1 (Int32.toInt64 (zI (a_hired (F 218) (tI (F 0 (k + 1)))).2))) (x := tI (F 0 (k + 1))) hI e218 (tI_rg _) (by omega)
    rw [zI_tI] at H; exact ⟨_, _, H, by rw [uR_at, uC_at], KeepM_c⟩
  obtain ⟨y5, y6, hr⟩ := tq_1693 (z5 := z5) (z6 := z6) hE hk ⟨co.1, by omega⟩ hw hKC.2.2.2.2.1 e0 hm h5 (hKM.2.2 246 (by omega)) (by omega)
  exact ⟨y5, y6, E1, F2, G2, hr, CLS_M hC2 hKM, by have := hKC.2.2.2.2.2.1; omega, by have := hKC.2.2.2.2.2.2; omega⟩
theorem tn_25 {d L : Nat} {b k : Int} {E : EnQ} {F : Nat → Int → Int32} {G : Nat → Int → Int64} {z5 z6 : Option Value} (hC : CLS b L E F G) (hb : b < 1999000000) (hk : 0 ≤ k ∧ k + 6 ≤ L ∧ L ≤ 3072) (hd : 100 ≤ d) : TurnP d b L k 1749 z5 z6 E F G := by
  obtain ⟨d, rfl⟩ : ∃ e, d = e + 1 := ⟨d - 1, by omega⟩
  obtain ⟨⟨hO, hcs, hsb⟩, ⟨hu, -⟩, -, ⟨hT, -, -, -, h18⟩, ⟨hL1, hL2⟩, ⟨-, hE⟩⟩ := id hC
  have hD := InU_D hu
  have hI := hO.2.2.2.2
  have hst : stepsZ (F 218) < 1999000000 := by omega
  obtain ⟨E1, F1, G1, hc, hKC⟩ : ∃ E1 F1 G1, callP MP d 150 [.ref 16, .int (F 0 (k + 1)), .int (F 0 (k + 2))] (mk E F G) = some (thrP [0, 2] (a_remains (F 218) (tI (F 0 (k + 1))) (tI (F 0 (k + 2)))), mk E1 F1 G1) ∧ KeepC E F G E1 F1 G1 := by
    have H := cl_remains (d := d) (E := E) (F := F) (G := G) (x := tI (F 0 (k + 1))) (y := tI (F 0 (k + 2))) hO (tI_rg _) (tI_rg _) (by omega)
    obtain ⟨E1, hE1, hc⟩ := H; rw [zI_tI, zI_tI] at hc; exact ⟨E1, F, G, hc, KeepC_ej hE1⟩
  have co : 0 ≤ (a_remains (F 218) (tI (F 0 (k + 1))) (tI (F 0 (k + 2)))).1 ∧ (a_remains (F 218) (tI (F 0 (k + 1))) (tI (F 0 (k + 2)))).1 ≤ 2 := co_remains
  have hw := wx_339 hc ⟨co.1, co.2⟩
  have hC2 := CLS_O (c := (a_remains (F 218) (tI (F 0 (k + 1))) (tI (F 0 (k + 2)))).1) (v := (Int32.toInt64 (zI (a_remains (F 218) (tI (F 0 (k + 1))) (tI (F 0 (k + 2)))).2))) (CLS_C hC hKC)
  obtain ⟨-, -, -, ⟨hT2, -, -, -, h182⟩, -, -⟩ := id hC2
  have hTm := TmA_O (c := (a_remains (F 218) (tI (F 0 (k + 1))) (tI (F 0 (k + 2)))).1) (v := (Int32.toInt64 (zI (a_remains (F 218) (tI (F 0 (k + 1))) (tI (F 0 (k + 2)))).2))) (TmA_C hKC)
  have e218 : F1 218 = F 218 := hKC.1 218 (by omega) (by unfold scrC; omega)
  have e0 : F1 0 = F 0 := hKC.1 0 (by omega) (by unfold scrC; omega)
  obtain ⟨F2, G2, hm, h5, hKM⟩ : ∃ F2 G2, callP MP (d + 1) 258 [.ref 217, .int (F 0 (k + 1)), .int (F 0 (k + 2))] (mk E1 F1 (outG G1 (a_remains (F 218) (tI (F 0 (k + 1))) (tI (F 0 (k + 2)))).1 (Int32.toInt64 (zI (a_remains (F 218) (tI (F 0 (k + 1))) (tI (F 0 (k + 2)))).2)))) = some (Sum.inl (some (.int (zI (a_remains (F 218) (tI (F 0 (k + 1))) (tI (F 0 (k + 2)))).2))), mk E1 F2 G2) ∧ F2 217 5 = zI (a_remains (F 218) (tI (F 0 (k + 1))) (tI (F 0 (k + 2)))).1 ∧ KeepM F1 (outG G1 (a_remains (F 218) (tI (F 0 (k + 1))) (tI (F 0 (k + 2)))).1 (Int32.toInt64 (zI (a_remains (F 218) (tI (F 0 (k + 1))) (tI (F 0 (k + 2)))).2))) F2 G2 := by
    have H := ml_remains (d := d + 1) (E := E1) (F := F1) (G := outG G1 (a_remains (F 218) (tI (F 0 (k + 1))) (tI (F 0 (k + 2)))).1 (Int32.toInt64 (zI (a_remains (F 218) (tI (F 0 (k + 1))) (tI (F 0 (k + 2)))).2))) (x := tI (F 0 (k + 1))) (y := tI (F 0 (k + 2))) hI e218 (tI_rg _) (tI_rg _) (by omega)
    rw [zI_tI, zI_tI] at H; exact ⟨_, _, H, by rw [uR_at, uC_at], KeepM_c⟩
  obtain ⟨y5, y6, hr⟩ := tq_1749 (z5 := z5) (z6 := z6) hE hk ⟨co.1, by omega⟩ hw hKC.2.2.2.2.1 e0 hm h5 (hKM.2.2 246 (by omega)) (by omega)
  exact ⟨y5, y6, E1, F2, G2, hr, CLS_M hC2 hKM, by have := hKC.2.2.2.2.2.1; omega, by have := hKC.2.2.2.2.2.2; omega⟩
theorem tn_26 {d L : Nat} {b k : Int} {E : EnQ} {F : Nat → Int → Int32} {G : Nat → Int → Int64} {z5 z6 : Option Value} (hC : CLS b L E F G) (hb : b < 1999000000) (hk : 0 ≤ k ∧ k + 6 ≤ L ∧ L ≤ 3072) (hd : 100 ≤ d) : TurnP d b L k 1817 z5 z6 E F G := by
  obtain ⟨d, rfl⟩ : ∃ e, d = e + 1 := ⟨d - 1, by omega⟩
  obtain ⟨⟨hO, hcs, hsb⟩, ⟨hu, -⟩, -, ⟨hT, -, -, -, h18⟩, ⟨hL1, hL2⟩, ⟨-, hE⟩⟩ := id hC
  have hD := InU_D hu
  have hI := hO.2.2.2.2
  have hst : stepsZ (F 218) < 1999000000 := by omega
  obtain ⟨E1, F1, G1, hc, hKC⟩ : ∃ E1 F1 G1, callP MP d 151 [.ref 16, .int (F 0 (k + 1)), .int (F 0 (k + 2))] (mk E F G) = some (thrP [0, 2] (a_hires (F 218) (tI (F 0 (k + 1))) (tI (F 0 (k + 2)))), mk E1 F1 G1) ∧ KeepC E F G E1 F1 G1 := by
    have H := cl_hires (d := d) (E := E) (F := F) (G := G) (x := tI (F 0 (k + 1))) (y := tI (F 0 (k + 2))) hO (tI_rg _) (tI_rg _) (by omega)
    obtain ⟨E1, hE1, hc⟩ := H; rw [zI_tI, zI_tI] at hc; exact ⟨E1, F, G, hc, KeepC_ej hE1⟩
  have co : 0 ≤ (a_hires (F 218) (tI (F 0 (k + 1))) (tI (F 0 (k + 2)))).1 ∧ (a_hires (F 218) (tI (F 0 (k + 1))) (tI (F 0 (k + 2)))).1 ≤ 2 := co_hires
  have hw := wx_340 hc ⟨co.1, co.2⟩
  have hC2 := CLS_O (c := (a_hires (F 218) (tI (F 0 (k + 1))) (tI (F 0 (k + 2)))).1) (v := (Int32.toInt64 (zI (a_hires (F 218) (tI (F 0 (k + 1))) (tI (F 0 (k + 2)))).2))) (CLS_C hC hKC)
  obtain ⟨-, -, -, ⟨hT2, -, -, -, h182⟩, -, -⟩ := id hC2
  have hTm := TmA_O (c := (a_hires (F 218) (tI (F 0 (k + 1))) (tI (F 0 (k + 2)))).1) (v := (Int32.toInt64 (zI (a_hires (F 218) (tI (F 0 (k + 1))) (tI (F 0 (k + 2)))).2))) (TmA_C hKC)
  have e218 : F1 218 = F 218 := hKC.1 218 (by omega) (by unfold scrC; omega)
  have e0 : F1 0 = F 0 := hKC.1 0 (by omega) (by unfold scrC; omega)
  obtain ⟨F2, G2, hm, h5, hKM⟩ : ∃ F2 G2, callP MP (d + 1) 273 [.ref 217, .int (F 0 (k + 1)), .int (F 0 (k + 2))] (mk E1 F1 (outG G1 (a_hires (F 218) (tI (F 0 (k + 1))) (tI (F 0 (k + 2)))).1 (Int32.toInt64 (zI (a_hires (F 218) (tI (F 0 (k + 1))) (tI (F 0 (k + 2)))).2)))) = some (Sum.inl (some (.int (zI (a_hires (F 218) (tI (F 0 (k + 1))) (tI (F 0 (k + 2)))).2))), mk E1 F2 G2) ∧ F2 217 5 = zI (a_hires (F 218) (tI (F 0 (k + 1))) (tI (F 0 (k + 2)))).1 ∧ KeepM F1 (outG G1 (a_hires (F 218) (tI (F 0 (k + 1))) (tI (F 0 (k + 2)))).1 (Int32.toInt64 (zI (a_hires (F 218) (tI (F 0 (k + 1))) (tI (F 0 (k + 2)))).2))) F2 G2 := by
    have H := ml_hires (d := d + 1) (E := E1) (F := F1) (G := outG G1 (a_hires (F 218) (tI (F 0 (k + 1))) (tI (F 0 (k + 2)))).1 (Int32.toInt64 (zI (a_hires (F 218) (tI (F 0 (k + 1))) (tI (F 0 (k + 2)))).2))) (x := tI (F 0 (k + 1))) (y := tI (F 0 (k + 2))) hI e218 (tI_rg _) (tI_rg _) (by omega)
    rw [zI_tI, zI_tI] at H; exact ⟨_, _, H, by rw [uR_at, uC_at], KeepM_c⟩
  obtain ⟨y5, y6, hr⟩ := tq_1817 (z5 := z5) (z6 := z6) hE hk ⟨co.1, by omega⟩ hw hKC.2.2.2.2.1 e0 hm h5 (hKM.2.2 246 (by omega)) (by omega)
  exact ⟨y5, y6, E1, F2, G2, hr, CLS_M hC2 hKM, by have := hKC.2.2.2.2.2.1; omega, by have := hKC.2.2.2.2.2.2; omega⟩
theorem tn_28 {d L : Nat} {b k : Int} {E : EnQ} {F : Nat → Int → Int32} {G : Nat → Int → Int64} {z5 z6 : Option Value} (hC : CLS b L E F G) (hb : b < 1999000000) (hk : 0 ≤ k ∧ k + 6 ≤ L ∧ L ≤ 3072) (hd : 100 ≤ d) : TurnP d b L k 1898 z5 z6 E F G := by
  obtain ⟨d, rfl⟩ : ∃ e, d = e + 1 := ⟨d - 1, by omega⟩
  obtain ⟨⟨hO, hcs, hsb⟩, ⟨hu, -⟩, -, ⟨hT, -, -, -, h18⟩, ⟨hL1, hL2⟩, ⟨-, hE⟩⟩ := id hC
  have hD := InU_D hu
  have hI := hO.2.2.2.2
  have hst : stepsZ (F 218) < 1999000000 := by omega
  obtain ⟨E1, F1, G1, hc, hKC⟩ : ∃ E1 F1 G1, callP MP d 152 [.ref 16, .int (F 0 (k + 1)), .int (F 0 (k + 2))] (mk E F G) = some (thrP [0, 2] (a_wolf (F 218) (tI (F 0 (k + 1))) (tI (F 0 (k + 2)))), mk E1 F1 G1) ∧ KeepC E F G E1 F1 G1 := by
    have H := cl_wolf (d := d) (E := E) (F := F) (G := G) (x := tI (F 0 (k + 1))) (y := tI (F 0 (k + 2))) hO (tI_rg _) (tI_rg _) (by omega)
    obtain ⟨E1, hE1, hc⟩ := H; rw [zI_tI, zI_tI] at hc; exact ⟨E1, F, G, hc, KeepC_ej hE1⟩
  have co : 0 ≤ (a_wolf (F 218) (tI (F 0 (k + 1))) (tI (F 0 (k + 2)))).1 ∧ (a_wolf (F 218) (tI (F 0 (k + 1))) (tI (F 0 (k + 2)))).1 ≤ 2 := co_wolf
  have hw := wx_341 hc ⟨co.1, co.2⟩
  have hC2 := CLS_O (c := (a_wolf (F 218) (tI (F 0 (k + 1))) (tI (F 0 (k + 2)))).1) (v := (Int32.toInt64 (zI (a_wolf (F 218) (tI (F 0 (k + 1))) (tI (F 0 (k + 2)))).2))) (CLS_C hC hKC)
  obtain ⟨-, -, -, ⟨hT2, -, -, -, h182⟩, -, -⟩ := id hC2
  have hTm := TmA_O (c := (a_wolf (F 218) (tI (F 0 (k + 1))) (tI (F 0 (k + 2)))).1) (v := (Int32.toInt64 (zI (a_wolf (F 218) (tI (F 0 (k + 1))) (tI (F 0 (k + 2)))).2))) (TmA_C hKC)
  have e218 : F1 218 = F 218 := hKC.1 218 (by omega) (by unfold scrC; omega)
  have e0 : F1 0 = F 0 := hKC.1 0 (by omega) (by unfold scrC; omega)
  obtain ⟨F2, G2, hm, h5, hKM⟩ : ∃ F2 G2, callP MP (d + 1) 275 [.ref 217, .int (F 0 (k + 1)), .int (F 0 (k + 2))] (mk E1 F1 (outG G1 (a_wolf (F 218) (tI (F 0 (k + 1))) (tI (F 0 (k + 2)))).1 (Int32.toInt64 (zI (a_wolf (F 218) (tI (F 0 (k + 1))) (tI (F 0 (k + 2)))).2)))) = some (Sum.inl (some (.int (zI (a_wolf (F 218) (tI (F 0 (k + 1))) (tI (F 0 (k + 2)))).2))), mk E1 F2 G2) ∧ F2 217 5 = zI (a_wolf (F 218) (tI (F 0 (k + 1))) (tI (F 0 (k + 2)))).1 ∧ KeepM F1 (outG G1 (a_wolf (F 218) (tI (F 0 (k + 1))) (tI (F 0 (k + 2)))).1 (Int32.toInt64 (zI (a_wolf (F 218) (tI (F 0 (k + 1))) (tI (F 0 (k + 2)))).2))) F2 G2 := by
    have H := ml_wolf (d := d + 1) (E := E1) (F := F1) (G := outG G1 (a_wolf (F 218) (tI (F 0 (k + 1))) (tI (F 0 (k + 2)))).1 (Int32.toInt64 (zI (a_wolf (F 218) (tI (F 0 (k + 1))) (tI (F 0 (k + 2)))).2))) (x := tI (F 0 (k + 1))) (y := tI (F 0 (k + 2))) hI e218 (tI_rg _) (tI_rg _) (by omega)
    rw [zI_tI, zI_tI] at H; exact ⟨_, _, H, by rw [uR_at, uC_at], KeepM_c⟩
  obtain ⟨y5, y6, hr⟩ := tq_1898 (z5 := z5) (z6 := z6) hE hk ⟨co.1, by omega⟩ hw hKC.2.2.2.2.1 e0 hm h5 (hKM.2.2 246 (by omega)) (by omega)
  exact ⟨y5, y6, E1, F2, G2, hr, CLS_M hC2 hKM, by have := hKC.2.2.2.2.2.1; omega, by have := hKC.2.2.2.2.2.2; omega⟩
theorem tn_29 {d L : Nat} {b k : Int} {E : EnQ} {F : Nat → Int → Int32} {G : Nat → Int → Int64} {z5 z6 : Option Value} (hC : CLS b L E F G) (hb : b < 1999000000) (hk : 0 ≤ k ∧ k + 6 ≤ L ∧ L ≤ 3072) (hd : 100 ≤ d) : TurnP d b L k 1966 z5 z6 E F G := by
  obtain ⟨d, rfl⟩ : ∃ e, d = e + 1 := ⟨d - 1, by omega⟩
  obtain ⟨⟨hO, hcs, hsb⟩, ⟨hu, -⟩, -, ⟨hT, -, -, -, h18⟩, ⟨hL1, hL2⟩, ⟨-, hE⟩⟩ := id hC
  have hD := InU_D hu
  have hI := hO.2.2.2.2
  have hst : stepsZ (F 218) < 1999000000 := by omega
  obtain ⟨E1, F1, G1, hc, hKC⟩ : ∃ E1 F1 G1, callP MP d 153 [.ref 16, .int (F 0 (k + 1)), .int (F 0 (k + 2))] (mk E F G) = some (thrP [0, 2] (a_hound (F 218) (tI (F 0 (k + 1))) (tI (F 0 (k + 2)))), mk E1 F1 G1) ∧ KeepC E F G E1 F1 G1 := by
    have H := cl_hound (d := d) (E := E) (F := F) (G := G) (x := tI (F 0 (k + 1))) (y := tI (F 0 (k + 2))) hO (tI_rg _) (tI_rg _) (by omega)
    obtain ⟨E1, hE1, hc⟩ := H; rw [zI_tI, zI_tI] at hc; exact ⟨E1, F, G, hc, KeepC_ej hE1⟩
  have co : 0 ≤ (a_hound (F 218) (tI (F 0 (k + 1))) (tI (F 0 (k + 2)))).1 ∧ (a_hound (F 218) (tI (F 0 (k + 1))) (tI (F 0 (k + 2)))).1 ≤ 2 := co_hound
  have hw := wx_342 hc ⟨co.1, co.2⟩
  have hC2 := CLS_O (c := (a_hound (F 218) (tI (F 0 (k + 1))) (tI (F 0 (k + 2)))).1) (v := (Int32.toInt64 (zI (a_hound (F 218) (tI (F 0 (k + 1))) (tI (F 0 (k + 2)))).2))) (CLS_C hC hKC)
  obtain ⟨-, -, -, ⟨hT2, -, -, -, h182⟩, -, -⟩ := id hC2
  have hTm := TmA_O (c := (a_hound (F 218) (tI (F 0 (k + 1))) (tI (F 0 (k + 2)))).1) (v := (Int32.toInt64 (zI (a_hound (F 218) (tI (F 0 (k + 1))) (tI (F 0 (k + 2)))).2))) (TmA_C hKC)
  have e218 : F1 218 = F 218 := hKC.1 218 (by omega) (by unfold scrC; omega)
  have e0 : F1 0 = F 0 := hKC.1 0 (by omega) (by unfold scrC; omega)
  obtain ⟨F2, G2, hm, h5, hKM⟩ : ∃ F2 G2, callP MP (d + 1) 259 [.ref 217, .int (F 0 (k + 1)), .int (F 0 (k + 2))] (mk E1 F1 (outG G1 (a_hound (F 218) (tI (F 0 (k + 1))) (tI (F 0 (k + 2)))).1 (Int32.toInt64 (zI (a_hound (F 218) (tI (F 0 (k + 1))) (tI (F 0 (k + 2)))).2)))) = some (Sum.inl (some (.int (zI (a_hound (F 218) (tI (F 0 (k + 1))) (tI (F 0 (k + 2)))).2))), mk E1 F2 G2) ∧ F2 217 5 = zI (a_hound (F 218) (tI (F 0 (k + 1))) (tI (F 0 (k + 2)))).1 ∧ KeepM F1 (outG G1 (a_hound (F 218) (tI (F 0 (k + 1))) (tI (F 0 (k + 2)))).1 (Int32.toInt64 (zI (a_hound (F 218) (tI (F 0 (k + 1))) (tI (F 0 (k + 2)))).2))) F2 G2 := by
    have H := ml_hound (d := d + 1) (E := E1) (F := F1) (G := outG G1 (a_hound (F 218) (tI (F 0 (k + 1))) (tI (F 0 (k + 2)))).1 (Int32.toInt64 (zI (a_hound (F 218) (tI (F 0 (k + 1))) (tI (F 0 (k + 2)))).2))) (x := tI (F 0 (k + 1))) (y := tI (F 0 (k + 2))) hI e218 (tI_rg _) (tI_rg _) (by omega)
    rw [zI_tI, zI_tI] at H; exact ⟨_, _, H, by rw [uR_at, uC_at], KeepM_c⟩
  obtain ⟨y5, y6, hr⟩ := tq_1966 (z5 := z5) (z6 := z6) hE hk ⟨co.1, by omega⟩ hw hKC.2.2.2.2.1 e0 hm h5 (hKM.2.2 246 (by omega)) (by omega)
  exact ⟨y5, y6, E1, F2, G2, hr, CLS_M hC2 hKM, by have := hKC.2.2.2.2.2.1; omega, by have := hKC.2.2.2.2.2.2; omega⟩
theorem tn_30 {d L : Nat} {b k : Int} {E : EnQ} {F : Nat → Int → Int32} {G : Nat → Int → Int64} {z5 z6 : Option Value} (hC : CLS b L E F G) (hb : b < 1999000000) (hk : 0 ≤ k ∧ k + 6 ≤ L ∧ L ≤ 3072) (hd : 100 ≤ d) : TurnP d b L k 2034 z5 z6 E F G := by
  obtain ⟨d, rfl⟩ : ∃ e, d = e + 1 := ⟨d - 1, by omega⟩
  obtain ⟨⟨hO, hcs, hsb⟩, ⟨hu, -⟩, -, ⟨hT, -, -, -, h18⟩, ⟨hL1, hL2⟩, ⟨-, hE⟩⟩ := id hC
  have hD := InU_D hu
  have hI := hO.2.2.2.2
  have hst : stepsZ (F 218) < 1999000000 := by omega
  obtain ⟨E1, F1, G1, hc, hKC⟩ : ∃ E1 F1 G1, callP MP d 154 [.ref 16, .int (F 0 (k + 1)), .int (F 0 (k + 2))] (mk E F G) = some (thrP [0, 2] (a_hunter (F 218) (tI (F 0 (k + 1))) (tI (F 0 (k + 2)))), mk E1 F1 G1) ∧ KeepC E F G E1 F1 G1 := by
    have H := cl_hunter (d := d) (E := E) (F := F) (G := G) (x := tI (F 0 (k + 1))) (y := tI (F 0 (k + 2))) hO hD (tI_rg _) (tI_rg _) (by omega)
    obtain ⟨E1, F1, hc, h⟩ := H; rw [zI_tI, zI_tI] at hc; exact ⟨E1, F1, G, hc, h⟩
  have co : 0 ≤ (a_hunter (F 218) (tI (F 0 (k + 1))) (tI (F 0 (k + 2)))).1 ∧ (a_hunter (F 218) (tI (F 0 (k + 1))) (tI (F 0 (k + 2)))).1 ≤ 2 := co_hunter
  have hw := wx_343 hc ⟨co.1, co.2⟩
  have hC2 := CLS_O (c := (a_hunter (F 218) (tI (F 0 (k + 1))) (tI (F 0 (k + 2)))).1) (v := (Int32.toInt64 (zI (a_hunter (F 218) (tI (F 0 (k + 1))) (tI (F 0 (k + 2)))).2))) (CLS_C hC hKC)
  obtain ⟨-, -, -, ⟨hT2, -, -, -, h182⟩, -, -⟩ := id hC2
  have hTm := TmA_O (c := (a_hunter (F 218) (tI (F 0 (k + 1))) (tI (F 0 (k + 2)))).1) (v := (Int32.toInt64 (zI (a_hunter (F 218) (tI (F 0 (k + 1))) (tI (F 0 (k + 2)))).2))) (TmA_C hKC)
  have e218 : F1 218 = F 218 := hKC.1 218 (by omega) (by unfold scrC; omega)
  have e0 : F1 0 = F 0 := hKC.1 0 (by omega) (by unfold scrC; omega)
  obtain ⟨F2, G2, hm, h5, hKM⟩ : ∃ F2 G2, callP MP (d + 1) 260 [.ref 217, .int (F 0 (k + 1)), .int (F 0 (k + 2))] (mk E1 F1 (outG G1 (a_hunter (F 218) (tI (F 0 (k + 1))) (tI (F 0 (k + 2)))).1 (Int32.toInt64 (zI (a_hunter (F 218) (tI (F 0 (k + 1))) (tI (F 0 (k + 2)))).2)))) = some (Sum.inl (some (.int (zI (a_hunter (F 218) (tI (F 0 (k + 1))) (tI (F 0 (k + 2)))).2))), mk E1 F2 G2) ∧ F2 217 5 = zI (a_hunter (F 218) (tI (F 0 (k + 1))) (tI (F 0 (k + 2)))).1 ∧ KeepM F1 (outG G1 (a_hunter (F 218) (tI (F 0 (k + 1))) (tI (F 0 (k + 2)))).1 (Int32.toInt64 (zI (a_hunter (F 218) (tI (F 0 (k + 1))) (tI (F 0 (k + 2)))).2))) F2 G2 := by
    have H := ml_hunter (d := d + 1) (E := E1) (F := F1) (G := outG G1 (a_hunter (F 218) (tI (F 0 (k + 1))) (tI (F 0 (k + 2)))).1 (Int32.toInt64 (zI (a_hunter (F 218) (tI (F 0 (k + 1))) (tI (F 0 (k + 2)))).2))) (x := tI (F 0 (k + 1))) (y := tI (F 0 (k + 2))) hI e218 (tI_rg _) (tI_rg _) (by omega)
    rw [zI_tI, zI_tI] at H; exact ⟨_, _, H, by rw [uR_at, uC_at], KeepM_c⟩
  obtain ⟨y5, y6, hr⟩ := tq_2034 (z5 := z5) (z6 := z6) hE hk ⟨co.1, by omega⟩ hw hKC.2.2.2.2.1 e0 hm h5 (hKM.2.2 246 (by omega)) (by omega)
  exact ⟨y5, y6, E1, F2, G2, hr, CLS_M hC2 hKM, by have := hKC.2.2.2.2.2.1; omega, by have := hKC.2.2.2.2.2.2; omega⟩
theorem tn_31 {d L : Nat} {b k : Int} {E : EnQ} {F : Nat → Int → Int32} {G : Nat → Int → Int64} {z5 z6 : Option Value} (hC : CLS b L E F G) (hb : b < 1999000000) (hk : 0 ≤ k ∧ k + 6 ≤ L ∧ L ≤ 3072) (hd : 100 ≤ d) : TurnP d b L k 2102 z5 z6 E F G := by
  obtain ⟨d, rfl⟩ : ∃ e, d = e + 1 := ⟨d - 1, by omega⟩
  obtain ⟨⟨hO, hcs, hsb⟩, ⟨hu, -⟩, -, ⟨hT, -, -, -, h18⟩, ⟨hL1, hL2⟩, ⟨-, hE⟩⟩ := id hC
  have hD := InU_D hu
  have hI := hO.2.2.2.2
  have hst : stepsZ (F 218) < 1999000000 := by omega
  obtain ⟨E1, F1, G1, hc, hKC⟩ : ∃ E1 F1 G1, callP MP d 155 [.ref 16, .int (F 0 (k + 1)), .int (F 0 (k + 2))] (mk E F G) = some (thrP [0] (a_hunts (F 218) (tI (F 0 (k + 1))) (tI (F 0 (k + 2)))), mk E1 F1 G1) ∧ KeepC E F G E1 F1 G1 := by
    have H := cl_hunts (d := d) (E := E) (F := F) (G := G) (x := tI (F 0 (k + 1))) (y := tI (F 0 (k + 2))) hO hD (tI_rg _) (tI_rg _) (by omega)
    obtain ⟨E1, F1, hc, h⟩ := H; rw [zI_tI, zI_tI] at hc; exact ⟨E1, F1, G, hc, h⟩
  have co : 0 ≤ (a_hunts (F 218) (tI (F 0 (k + 1))) (tI (F 0 (k + 2)))).1 ∧ (a_hunts (F 218) (tI (F 0 (k + 1))) (tI (F 0 (k + 2)))).1 ≤ 1 := co_hunts
  have hw := wx_344 hc ⟨co.1, co.2⟩
  have hC2 := CLS_O (c := (a_hunts (F 218) (tI (F 0 (k + 1))) (tI (F 0 (k + 2)))).1) (v := (Int32.toInt64 (zI (a_hunts (F 218) (tI (F 0 (k + 1))) (tI (F 0 (k + 2)))).2))) (CLS_C hC hKC)
  obtain ⟨-, -, -, ⟨hT2, -, -, -, h182⟩, -, -⟩ := id hC2
  have hTm := TmA_O (c := (a_hunts (F 218) (tI (F 0 (k + 1))) (tI (F 0 (k + 2)))).1) (v := (Int32.toInt64 (zI (a_hunts (F 218) (tI (F 0 (k + 1))) (tI (F 0 (k + 2)))).2))) (TmA_C hKC)
  have e218 : F1 218 = F 218 := hKC.1 218 (by omega) (by unfold scrC; omega)
  have e0 : F1 0 = F 0 := hKC.1 0 (by omega) (by unfold scrC; omega)
  obtain ⟨F2, G2, hm, h5, hKM⟩ : ∃ F2 G2, callP MP (d + 1) 261 [.ref 217, .int (F 0 (k + 1)), .int (F 0 (k + 2))] (mk E1 F1 (outG G1 (a_hunts (F 218) (tI (F 0 (k + 1))) (tI (F 0 (k + 2)))).1 (Int32.toInt64 (zI (a_hunts (F 218) (tI (F 0 (k + 1))) (tI (F 0 (k + 2)))).2)))) = some (Sum.inl (some (.int (zI (a_hunts (F 218) (tI (F 0 (k + 1))) (tI (F 0 (k + 2)))).2))), mk E1 F2 G2) ∧ F2 217 5 = zI (a_hunts (F 218) (tI (F 0 (k + 1))) (tI (F 0 (k + 2)))).1 ∧ KeepM F1 (outG G1 (a_hunts (F 218) (tI (F 0 (k + 1))) (tI (F 0 (k + 2)))).1 (Int32.toInt64 (zI (a_hunts (F 218) (tI (F 0 (k + 1))) (tI (F 0 (k + 2)))).2))) F2 G2 := by
    have H := ml_hunts (d := d + 1) (E := E1) (F := F1) (G := outG G1 (a_hunts (F 218) (tI (F 0 (k + 1))) (tI (F 0 (k + 2)))).1 (Int32.toInt64 (zI (a_hunts (F 218) (tI (F 0 (k + 1))) (tI (F 0 (k + 2)))).2))) (x := tI (F 0 (k + 1))) (y := tI (F 0 (k + 2))) hI e218 (tI_rg _) (tI_rg _) (by omega)
    obtain ⟨F2, hm, h5, hk2⟩ := H; rw [zI_tI, zI_tI] at hm; exact ⟨F2, _, hm, h5, hk2⟩
  obtain ⟨y5, y6, hr⟩ := tq_2102 (z5 := z5) (z6 := z6) hE hk ⟨co.1, by omega⟩ hw hKC.2.2.2.2.1 e0 hm h5 (hKM.2.2 246 (by omega)) (by omega)
  exact ⟨y5, y6, E1, F2, G2, hr, CLS_M hC2 hKM, by have := hKC.2.2.2.2.2.1; omega, by have := hKC.2.2.2.2.2.2; omega⟩
theorem tn_32 {d L : Nat} {b k : Int} {E : EnQ} {F : Nat → Int → Int32} {G : Nat → Int → Int64} {z5 z6 : Option Value} (hC : CLS b L E F G) (hb : b < 1999000000) (hk : 0 ≤ k ∧ k + 6 ≤ L ∧ L ≤ 3072) (hd : 100 ≤ d) : TurnP d b L k 2170 z5 z6 E F G := by
  obtain ⟨d, rfl⟩ : ∃ e, d = e + 1 := ⟨d - 1, by omega⟩
  obtain ⟨⟨hO, hcs, hsb⟩, ⟨hu, -⟩, -, ⟨hT, -, -, -, h18⟩, ⟨hL1, hL2⟩, ⟨-, hE⟩⟩ := id hC
  have hD := InU_D hu
  have hI := hO.2.2.2.2
  have hst : stepsZ (F 218) < 1999000000 := by omega
  obtain ⟨E1, F1, G1, hc, hKC⟩ : ∃ E1 F1 G1, callP MP d 156 [.ref 16, .int (F 0 (k + 1)), .int (F 0 (k + 2))] (mk E F G) = some (thrP [0] (a_meets (F 218) (tI (F 0 (k + 1))) (tI (F 0 (k + 2)))), mk E1 F1 G1) ∧ KeepC E F G E1 F1 G1 := by
    have H := cl_meets (d := d) (E := E) (F := F) (G := G) (x := tI (F 0 (k + 1))) (y := tI (F 0 (k + 2))) hO hD (tI_rg _) (tI_rg _) (by omega)
    obtain ⟨E1, F1, hc, h⟩ := H; rw [zI_tI, zI_tI] at hc; exact ⟨E1, F1, G, hc, h⟩
  have co : 0 ≤ (a_meets (F 218) (tI (F 0 (k + 1))) (tI (F 0 (k + 2)))).1 ∧ (a_meets (F 218) (tI (F 0 (k + 1))) (tI (F 0 (k + 2)))).1 ≤ 1 := co_meets
  have hw := wx_345 hc ⟨co.1, co.2⟩
  have hC2 := CLS_O (c := (a_meets (F 218) (tI (F 0 (k + 1))) (tI (F 0 (k + 2)))).1) (v := (Int32.toInt64 (zI (a_meets (F 218) (tI (F 0 (k + 1))) (tI (F 0 (k + 2)))).2))) (CLS_C hC hKC)
  obtain ⟨-, -, -, ⟨hT2, -, -, -, h182⟩, -, -⟩ := id hC2
  have hTm := TmA_O (c := (a_meets (F 218) (tI (F 0 (k + 1))) (tI (F 0 (k + 2)))).1) (v := (Int32.toInt64 (zI (a_meets (F 218) (tI (F 0 (k + 1))) (tI (F 0 (k + 2)))).2))) (TmA_C hKC)
  have e218 : F1 218 = F 218 := hKC.1 218 (by omega) (by unfold scrC; omega)
  have e0 : F1 0 = F 0 := hKC.1 0 (by omega) (by unfold scrC; omega)
  obtain ⟨F2, G2, hm, h5, hKM⟩ : ∃ F2 G2, callP MP (d + 1) 277 [.ref 217, .int (F 0 (k + 1)), .int (F 0 (k + 2))] (mk E1 F1 (outG G1 (a_meets (F 218) (tI (F 0 (k + 1))) (tI (F 0 (k + 2)))).1 (Int32.toInt64 (zI (a_meets (F 218) (tI (F 0 (k + 1))) (tI (F 0 (k + 2)))).2)))) = some (Sum.inl (some (.int (zI (a_meets (F 218) (tI (F 0 (k + 1))) (tI (F 0 (k + 2)))).2))), mk E1 F2 G2) ∧ F2 217 5 = zI (a_meets (F 218) (tI (F 0 (k + 1))) (tI (F 0 (k + 2)))).1 ∧ KeepM F1 (outG G1 (a_meets (F 218) (tI (F 0 (k + 1))) (tI (F 0 (k + 2)))).1 (Int32.toInt64 (zI (a_meets (F 218) (tI (F 0 (k + 1))) (tI (F 0 (k + 2)))).2))) F2 G2 := by
    have H := ml_meets (d := d + 1) (E := E1) (F := F1) (G := outG G1 (a_meets (F 218) (tI (F 0 (k + 1))) (tI (F 0 (k + 2)))).1 (Int32.toInt64 (zI (a_meets (F 218) (tI (F 0 (k + 1))) (tI (F 0 (k + 2)))).2))) (x := tI (F 0 (k + 1))) (y := tI (F 0 (k + 2))) hI e218 (tI_rg _) (tI_rg _) (by omega)
    rw [zI_tI, zI_tI] at H; exact ⟨_, _, H, by rw [uR_at, uC_at], KeepM_c⟩
  obtain ⟨y5, y6, hr⟩ := tq_2170 (z5 := z5) (z6 := z6) hE hk ⟨co.1, by omega⟩ hw hKC.2.2.2.2.1 e0 hm h5 (hKM.2.2 246 (by omega)) (by omega)
  exact ⟨y5, y6, E1, F2, G2, hr, CLS_M hC2 hKM, by have := hKC.2.2.2.2.2.1; omega, by have := hKC.2.2.2.2.2.2; omega⟩
theorem tn_33 {d L : Nat} {b k : Int} {E : EnQ} {F : Nat → Int → Int32} {G : Nat → Int → Int64} {z5 z6 : Option Value} (hC : CLS b L E F G) (hb : b < 1999000000) (hk : 0 ≤ k ∧ k + 6 ≤ L ∧ L ≤ 3072) (hd : 100 ≤ d) : TurnP d b L k 2238 z5 z6 E F G := by
  obtain ⟨d, rfl⟩ : ∃ e, d = e + 1 := ⟨d - 1, by omega⟩
  obtain ⟨⟨hO, hcs, hsb⟩, ⟨hu, -⟩, -, ⟨hT, -, -, -, h18⟩, ⟨hL1, hL2⟩, ⟨-, hE⟩⟩ := id hC
  have hD := InU_D hu
  have hI := hO.2.2.2.2
  have hst : stepsZ (F 218) < 1999000000 := by omega
  obtain ⟨E1, F1, G1, hc, hKC⟩ : ∃ E1 F1 G1, callP MP d 157 [.ref 16, .int (F 0 (k + 1)), .int (F 0 (k + 2)), .int (F 0 (k + 3))] (mk E F G) = some (thrP [0, 2] (a_blur (F 218) (tI (F 0 (k + 1))) (tI (F 0 (k + 2))) (tI (F 0 (k + 3)))), mk E1 F1 G1) ∧ KeepC E F G E1 F1 G1 := by
    have H := cl_blur (d := d) (E := E) (F := F) (G := G) (x := tI (F 0 (k + 1))) (y := tI (F 0 (k + 2))) (z := tI (F 0 (k + 3))) hO hD hst (tI_rg _) (tI_rg _) (tI_rg _) (by omega)
    obtain ⟨E1, F1, hc, h⟩ := H; rw [zI_tI, zI_tI, zI_tI] at hc; exact ⟨E1, F1, G, hc, h⟩
  have co : 0 ≤ (a_blur (F 218) (tI (F 0 (k + 1))) (tI (F 0 (k + 2))) (tI (F 0 (k + 3)))).1 ∧ (a_blur (F 218) (tI (F 0 (k + 1))) (tI (F 0 (k + 2))) (tI (F 0 (k + 3)))).1 ≤ 2 := co_blur
  have hw := wx_346 hc ⟨co.1, co.2⟩
  have hC2 := CLS_O (c := (a_blur (F 218) (tI (F 0 (k + 1))) (tI (F 0 (k + 2))) (tI (F 0 (k + 3)))).1) (v := (Int32.toInt64 (zI (a_blur (F 218) (tI (F 0 (k + 1))) (tI (F 0 (k + 2))) (tI (F 0 (k + 3)))).2))) (CLS_C hC hKC)
  obtain ⟨-, -, -, ⟨hT2, -, -, -, h182⟩, -, -⟩ := id hC2
  have hTm := TmA_O (c := (a_blur (F 218) (tI (F 0 (k + 1))) (tI (F 0 (k + 2))) (tI (F 0 (k + 3)))).1) (v := (Int32.toInt64 (zI (a_blur (F 218) (tI (F 0 (k + 1))) (tI (F 0 (k + 2))) (tI (F 0 (k + 3)))).2))) (TmA_C hKC)
  have e218 : F1 218 = F 218 := hKC.1 218 (by omega) (by unfold scrC; omega)
  have e0 : F1 0 = F 0 := hKC.1 0 (by omega) (by unfold scrC; omega)
  obtain ⟨F2, G2, hm, h5, hKM⟩ : ∃ F2 G2, callP MP (d + 1) 279 [.ref 217, .int (F 0 (k + 1)), .int (F 0 (k + 2)), .int (F 0 (k + 3))] (mk E1 F1 (outG G1 (a_blur (F 218) (tI (F 0 (k + 1))) (tI (F 0 (k + 2))) (tI (F 0 (k + 3)))).1 (Int32.toInt64 (zI (a_blur (F 218) (tI (F 0 (k + 1))) (tI (F 0 (k + 2))) (tI (F 0 (k + 3)))).2)))) = some (Sum.inl (some (.int (zI (a_blur (F 218) (tI (F 0 (k + 1))) (tI (F 0 (k + 2))) (tI (F 0 (k + 3)))).2))), mk E1 F2 G2) ∧ F2 217 5 = zI (a_blur (F 218) (tI (F 0 (k + 1))) (tI (F 0 (k + 2))) (tI (F 0 (k + 3)))).1 ∧ KeepM F1 (outG G1 (a_blur (F 218) (tI (F 0 (k + 1))) (tI (F 0 (k + 2))) (tI (F 0 (k + 3)))).1 (Int32.toInt64 (zI (a_blur (F 218) (tI (F 0 (k + 1))) (tI (F 0 (k + 2))) (tI (F 0 (k + 3)))).2))) F2 G2 := by
    have H := ml_blur (d := d + 1) (E := E1) (F := F1) (G := outG G1 (a_blur (F 218) (tI (F 0 (k + 1))) (tI (F 0 (k + 2))) (tI (F 0 (k + 3)))).1 (Int32.toInt64 (zI (a_blur (F 218) (tI (F 0 (k + 1))) (tI (F 0 (k + 2))) (tI (F 0 (k + 3)))).2))) (x := tI (F 0 (k + 1))) (y := tI (F 0 (k + 2))) (z := tI (F 0 (k + 3))) hI e218 hst h182 (tI_rg _) (tI_rg _) (tI_rg _) (by omega)
    obtain ⟨F2, hm, h5, hk2⟩ := H; rw [zI_tI, zI_tI, zI_tI] at hm; exact ⟨F2, _, hm, h5, hk2⟩
  obtain ⟨y5, y6, hr⟩ := tq_2238 (z5 := z5) (z6 := z6) hE hk ⟨co.1, by omega⟩ hw hKC.2.2.2.2.1 e0 hm h5 (hKM.2.2 246 (by omega)) (by omega)
  exact ⟨y5, y6, E1, F2, G2, hr, CLS_M hC2 hKM, by have := hKC.2.2.2.2.2.1; omega, by have := hKC.2.2.2.2.2.2; omega⟩
theorem tn_34 {d L : Nat} {b k : Int} {E : EnQ} {F : Nat → Int → Int32} {G : Nat → Int → Int64} {z5 z6 : Option Value} (hC : CLS b L E F G) (hb : b < 1999000000) (hk : 0 ≤ k ∧ k + 6 ≤ L ∧ L ≤ 3072) (hd : 100 ≤ d) : TurnP d b L k 2318 z5 z6 E F G := by
  obtain ⟨d, rfl⟩ : ∃ e, d = e + 1 := ⟨d - 1, by omega⟩
  obtain ⟨⟨hO, hcs, hsb⟩, ⟨hu, -⟩, -, ⟨hT, -, -, -, h18⟩, ⟨hL1, hL2⟩, ⟨-, hE⟩⟩ := id hC
  have hD := InU_D hu
  have hI := hO.2.2.2.2
  have hst : stepsZ (F 218) < 1999000000 := by omega
  obtain ⟨E1, F1, G1, hc, hKC⟩ : ∃ E1 F1 G1, callP MP d 159 [.ref 16, .int (F 0 (k + 1)), .int (F 0 (k + 2))] (mk E F G) = some (thrP [2] (a_homes (F 218) (tI (F 0 (k + 1))) (tI (F 0 (k + 2)))), mk E1 F1 G1) ∧ KeepC E F G E1 F1 G1 := by
    have H := cl_homes (d := d) (E := E) (F := F) (G := G) (x := tI (F 0 (k + 1))) (y := tI (F 0 (k + 2))) hO hD hL1 (tI_rg _) (tI_rg _) (by omega)
    obtain ⟨E1, F1, hc, h⟩ := H; rw [zI_tI, zI_tI] at hc; exact ⟨E1, F1, G, hc, h⟩
  have co : 0 ≤ (a_homes (F 218) (tI (F 0 (k + 1))) (tI (F 0 (k + 2)))).1 ∧ (a_homes (F 218) (tI (F 0 (k + 1))) (tI (F 0 (k + 2)))).1 ≤ 1 := co_homes
  have hw := wx_347 hc ⟨co.1, co.2⟩
  have hC2 := CLS_O (c := (a_homes (F 218) (tI (F 0 (k + 1))) (tI (F 0 (k + 2)))).1) (v := (Int32.toInt64 (zI (a_homes (F 218) (tI (F 0 (k + 1))) (tI (F 0 (k + 2)))).2))) (CLS_C hC hKC)
  obtain ⟨-, -, -, ⟨hT2, -, -, -, h182⟩, -, -⟩ := id hC2
  have hTm := TmA_O (c := (a_homes (F 218) (tI (F 0 (k + 1))) (tI (F 0 (k + 2)))).1) (v := (Int32.toInt64 (zI (a_homes (F 218) (tI (F 0 (k + 1))) (tI (F 0 (k + 2)))).2))) (TmA_C hKC)
  have e218 : F1 218 = F 218 := hKC.1 218 (by omega) (by unfold scrC; omega)
  have e0 : F1 0 = F 0 := hKC.1 0 (by omega) (by unfold scrC; omega)
  obtain ⟨F2, G2, hm, h5, hKM⟩ : ∃ F2 G2, callP MP (d + 1) 281 [.ref 217, .int (F 0 (k + 1)), .int (F 0 (k + 2))] (mk E1 F1 (outG G1 (a_homes (F 218) (tI (F 0 (k + 1))) (tI (F 0 (k + 2)))).1 (Int32.toInt64 (zI (a_homes (F 218) (tI (F 0 (k + 1))) (tI (F 0 (k + 2)))).2)))) = some (Sum.inl (some (.int (zI (a_homes (F 218) (tI (F 0 (k + 1))) (tI (F 0 (k + 2)))).2))), mk E1 F2 G2) ∧ F2 217 5 = zI (a_homes (F 218) (tI (F 0 (k + 1))) (tI (F 0 (k + 2)))).1 ∧ KeepM F1 (outG G1 (a_homes (F 218) (tI (F 0 (k + 1))) (tI (F 0 (k + 2)))).1 (Int32.toInt64 (zI (a_homes (F 218) (tI (F 0 (k + 1))) (tI (F 0 (k + 2)))).2))) F2 G2 := by
    have H := ml_homes (d := d + 1) (E := E1) (F := F1) (G := outG G1 (a_homes (F 218) (tI (F 0 (k + 1))) (tI (F 0 (k + 2)))).1 (Int32.toInt64 (zI (a_homes (F 218) (tI (F 0 (k + 1))) (tI (F 0 (k + 2)))).2))) (x := tI (F 0 (k + 1))) (y := tI (F 0 (k + 2))) hI e218 (tI_rg _) (tI_rg _) (by omega)
    rw [zI_tI, zI_tI] at H; exact ⟨_, _, H, by rw [uR_at, uC_at], KeepM_c⟩
  obtain ⟨y5, y6, hr⟩ := tq_2318 (z5 := z5) (z6 := z6) hE hk ⟨co.1, by omega⟩ hw hKC.2.2.2.2.1 e0 hm h5 (hKM.2.2 246 (by omega)) (by omega)
  exact ⟨y5, y6, E1, F2, G2, hr, CLS_M hC2 hKM, by have := hKC.2.2.2.2.2.1; omega, by have := hKC.2.2.2.2.2.2; omega⟩
theorem tn_35 {d L : Nat} {b k : Int} {E : EnQ} {F : Nat → Int → Int32} {G : Nat → Int → Int64} {z5 z6 : Option Value} (hC : CLS b L E F G) (hb : b < 1999000000) (hk : 0 ≤ k ∧ k + 6 ≤ L ∧ L ≤ 3072) (hd : 100 ≤ d) : TurnP d b L k 2386 z5 z6 E F G := by
  obtain ⟨d, rfl⟩ : ∃ e, d = e + 1 := ⟨d - 1, by omega⟩
  obtain ⟨⟨hO, hcs, hsb⟩, ⟨hu, -⟩, -, ⟨hT, -, -, -, h18⟩, ⟨hL1, hL2⟩, ⟨-, hE⟩⟩ := id hC
  have hD := InU_D hu
  have hI := hO.2.2.2.2
  have hst : stepsZ (F 218) < 1999000000 := by omega
  obtain ⟨E1, F1, G1, hc, hKC⟩ : ∃ E1 F1 G1, callP MP d 160 [.ref 16, .int (F 0 (k + 1))] (mk E F G) = some (thrP [0, 1, 2] (a_barg F G (F 218) (tI (F 0 (k + 1)))), mk E1 F1 G1) ∧ KeepC E F G E1 F1 G1 := by
    have H := cl_barg (d := d) (E := E) (F := F) (G := G) (x := tI (F 0 (k + 1))) hO hT hL1 (tI_rg _) (by omega)
    obtain ⟨E1, F1, hc, h⟩ := H; rw [zI_tI] at hc; exact ⟨E1, F1, G, hc, h⟩
  have co : 0 ≤ (a_barg F G (F 218) (tI (F 0 (k + 1)))).1 ∧ (a_barg F G (F 218) (tI (F 0 (k + 1)))).1 ≤ 3 := co_barg
  have hw := wx_348 hc ⟨co.1, co.2⟩
  have hC2 := CLS_O (c := (a_barg F G (F 218) (tI (F 0 (k + 1)))).1) (v := (Int32.toInt64 (zI (a_barg F G (F 218) (tI (F 0 (k + 1)))).2))) (CLS_C hC hKC)
  obtain ⟨-, -, -, ⟨hT2, -, -, -, h182⟩, -, -⟩ := id hC2
  have hTm := TmA_O (c := (a_barg F G (F 218) (tI (F 0 (k + 1)))).1) (v := (Int32.toInt64 (zI (a_barg F G (F 218) (tI (F 0 (k + 1)))).2))) (TmA_C hKC)
  have e218 : F1 218 = F 218 := hKC.1 218 (by omega) (by unfold scrC; omega)
  have e0 : F1 0 = F 0 := hKC.1 0 (by omega) (by unfold scrC; omega)
  obtain ⟨F2, G2, hm, h5, hKM⟩ : ∃ F2 G2, callP MP (d + 1) 282 [.ref 217, .int (F 0 (k + 1))] (mk E1 F1 (outG G1 (a_barg F G (F 218) (tI (F 0 (k + 1)))).1 (Int32.toInt64 (zI (a_barg F G (F 218) (tI (F 0 (k + 1)))).2)))) = some (Sum.inl (some (.int (zI (a_barg F G (F 218) (tI (F 0 (k + 1)))).2))), mk E1 F2 G2) ∧ F2 217 5 = zI (a_barg F G (F 218) (tI (F 0 (k + 1)))).1 ∧ KeepM F1 (outG G1 (a_barg F G (F 218) (tI (F 0 (k + 1)))).1 (Int32.toInt64 (zI (a_barg F G (F 218) (tI (F 0 (k + 1)))).2))) F2 G2 := by
    have H := ml_barg (d := d + 1) (E := E1) (F := F1) (G := outG G1 (a_barg F G (F 218) (tI (F 0 (k + 1)))).1 (Int32.toInt64 (zI (a_barg F G (F 218) (tI (F 0 (k + 1)))).2))) (x := tI (F 0 (k + 1))) hI e218 (CLS_44 hT2) (tI_rg _) (by omega)
    obtain ⟨F2, hm, h5, hk2⟩ := H; rw [zI_tI] at hm; rw [tm_barg hTm] at hm h5; exact ⟨F2, _, hm, h5, hk2⟩
  obtain ⟨y5, y6, hr⟩ := tq_2386 (z5 := z5) (z6 := z6) hE hk ⟨co.1, by omega⟩ hw hKC.2.2.2.2.1 e0 hm h5 (hKM.2.2 246 (by omega)) (by omega)
  exact ⟨y5, y6, E1, F2, G2, hr, CLS_M hC2 hKM, by have := hKC.2.2.2.2.2.1; omega, by have := hKC.2.2.2.2.2.2; omega⟩
theorem tn_36 {d L : Nat} {b k : Int} {E : EnQ} {F : Nat → Int → Int32} {G : Nat → Int → Int64} {z5 z6 : Option Value} (hC : CLS b L E F G) (hb : b < 1999000000) (hk : 0 ≤ k ∧ k + 6 ≤ L ∧ L ≤ 3072) (hd : 100 ≤ d) : TurnP d b L k 2442 z5 z6 E F G := by
  obtain ⟨d, rfl⟩ : ∃ e, d = e + 1 := ⟨d - 1, by omega⟩
  obtain ⟨⟨hO, hcs, hsb⟩, ⟨hu, -⟩, -, ⟨hT, -, -, -, h18⟩, ⟨hL1, hL2⟩, ⟨-, hE⟩⟩ := id hC
  have hD := InU_D hu
  have hI := hO.2.2.2.2
  have hst : stepsZ (F 218) < 1999000000 := by omega
  obtain ⟨E1, F1, G1, hc, hKC⟩ : ∃ E1 F1 G1, callP MP d 161 [.ref 16, .int (F 0 (k + 1)), .int (F 0 (k + 2))] (mk E F G) = some (thrP [0, 2] (a_tryb (F 218) (tI (F 0 (k + 1))) (tI (F 0 (k + 2)))), mk E1 F1 G1) ∧ KeepC E F G E1 F1 G1 := by
    have H := cl_tryb (d := d) (E := E) (F := F) (G := G) (x := tI (F 0 (k + 1))) (y := tI (F 0 (k + 2))) hO hD hcs hst (tI_rg _) (tI_rg _) (by omega)
    obtain ⟨E1, F1, hc, h⟩ := H; rw [zI_tI, zI_tI] at hc; exact ⟨E1, F1, G, hc, h⟩
  have co : 0 ≤ (a_tryb (F 218) (tI (F 0 (k + 1))) (tI (F 0 (k + 2)))).1 ∧ (a_tryb (F 218) (tI (F 0 (k + 1))) (tI (F 0 (k + 2)))).1 ≤ 2 := co_tryb
  have hw := wx_349 hc ⟨co.1, co.2⟩
  have hC2 := CLS_O (c := (a_tryb (F 218) (tI (F 0 (k + 1))) (tI (F 0 (k + 2)))).1) (v := (Int32.toInt64 (zI (a_tryb (F 218) (tI (F 0 (k + 1))) (tI (F 0 (k + 2)))).2))) (CLS_C hC hKC)
  obtain ⟨-, -, -, ⟨hT2, -, -, -, h182⟩, -, -⟩ := id hC2
  have hTm := TmA_O (c := (a_tryb (F 218) (tI (F 0 (k + 1))) (tI (F 0 (k + 2)))).1) (v := (Int32.toInt64 (zI (a_tryb (F 218) (tI (F 0 (k + 1))) (tI (F 0 (k + 2)))).2))) (TmA_C hKC)
  have e218 : F1 218 = F 218 := hKC.1 218 (by omega) (by unfold scrC; omega)
  have e0 : F1 0 = F 0 := hKC.1 0 (by omega) (by unfold scrC; omega)
  obtain ⟨F2, G2, hm, h5, hKM⟩ : ∃ F2 G2, callP MP (d + 1) 262 [.ref 217, .int (F 0 (k + 1)), .int (F 0 (k + 2))] (mk E1 F1 (outG G1 (a_tryb (F 218) (tI (F 0 (k + 1))) (tI (F 0 (k + 2)))).1 (Int32.toInt64 (zI (a_tryb (F 218) (tI (F 0 (k + 1))) (tI (F 0 (k + 2)))).2)))) = some (Sum.inl (some (.int (zI (a_tryb (F 218) (tI (F 0 (k + 1))) (tI (F 0 (k + 2)))).2))), mk E1 F2 G2) ∧ F2 217 5 = zI (a_tryb (F 218) (tI (F 0 (k + 1))) (tI (F 0 (k + 2)))).1 ∧ KeepM F1 (outG G1 (a_tryb (F 218) (tI (F 0 (k + 1))) (tI (F 0 (k + 2)))).1 (Int32.toInt64 (zI (a_tryb (F 218) (tI (F 0 (k + 1))) (tI (F 0 (k + 2)))).2))) F2 G2 := by
    have H := ml_tryb (d := d + 1) (E := E1) (F := F1) (G := outG G1 (a_tryb (F 218) (tI (F 0 (k + 1))) (tI (F 0 (k + 2)))).1 (Int32.toInt64 (zI (a_tryb (F 218) (tI (F 0 (k + 1))) (tI (F 0 (k + 2)))).2))) (x := tI (F 0 (k + 1))) (y := tI (F 0 (k + 2))) hI e218 h182 hst (tI_rg _) (tI_rg _) (by omega)
    obtain ⟨F2, hm, h5, hk2⟩ := H; rw [zI_tI, zI_tI] at hm; exact ⟨F2, _, hm, h5, hk2⟩
  obtain ⟨y5, y6, hr⟩ := tq_2442 (z5 := z5) (z6 := z6) hE hk ⟨co.1, by omega⟩ hw hKC.2.2.2.2.1 e0 hm h5 (hKM.2.2 246 (by omega)) (by omega)
  exact ⟨y5, y6, E1, F2, G2, hr, CLS_M hC2 hKM, by have := hKC.2.2.2.2.2.1; omega, by have := hKC.2.2.2.2.2.2; omega⟩
theorem tn_38 {d L : Nat} {b k : Int} {E : EnQ} {F : Nat → Int → Int32} {G : Nat → Int → Int64} {z5 z6 : Option Value} (hC : CLS b L E F G) (hb : b < 1999000000) (hk : 0 ≤ k ∧ k + 6 ≤ L ∧ L ≤ 3072) (hd : 100 ≤ d) : TurnP d b L k 2566 z5 z6 E F G := by
  obtain ⟨d, rfl⟩ : ∃ e, d = e + 1 := ⟨d - 1, by omega⟩
  obtain ⟨⟨hO, hcs, hsb⟩, ⟨hu, -⟩, -, ⟨hT, -, -, -, h18⟩, ⟨hL1, hL2⟩, ⟨-, hE⟩⟩ := id hC
  have hD := InU_D hu
  have hI := hO.2.2.2.2
  have hst : stepsZ (F 218) < 1999000000 := by omega
  obtain ⟨E1, F1, G1, hc, hKC⟩ : ∃ E1 F1 G1, callP MP d 163 [.ref 16, .int (F 0 (k + 1))] (mk E F G) = some (thrJ [0] (a_rows (F 218) (tI (F 0 (k + 1)))), mk E1 F1 G1) ∧ KeepC E F G E1 F1 G1 := by
    have H := cl_rows (d := d) (E := E) (F := F) (G := G) (x := tI (F 0 (k + 1))) hO hD (tI_rg _) (by omega)
    obtain ⟨E1, F1, G1, hc, h⟩ := H; rw [zI_tI] at hc; exact ⟨E1, F1, G1, hc, h⟩
  have co : 0 ≤ (a_rows (F 218) (tI (F 0 (k + 1)))).1 ∧ (a_rows (F 218) (tI (F 0 (k + 1)))).1 ≤ 1 := co_rows
  have hw := wx_351 hc ⟨co.1, co.2⟩
  have hC2 := CLS_O (c := (a_rows (F 218) (tI (F 0 (k + 1)))).1) (v := (zJ (a_rows (F 218) (tI (F 0 (k + 1)))).2)) (CLS_C hC hKC)
  obtain ⟨-, -, -, ⟨hT2, -, -, -, h182⟩, -, -⟩ := id hC2
  have hTm := TmA_O (c := (a_rows (F 218) (tI (F 0 (k + 1)))).1) (v := (zJ (a_rows (F 218) (tI (F 0 (k + 1)))).2)) (TmA_C hKC)
  have e218 : F1 218 = F 218 := hKC.1 218 (by omega) (by unfold scrC; omega)
  have e0 : F1 0 = F 0 := hKC.1 0 (by omega) (by unfold scrC; omega)
  obtain ⟨F2, G2, hm, h5, hKM⟩ : ∃ F2 G2, callP MP (d + 1) 284 [.ref 217, .int (F 0 (k + 1))] (mk E1 F1 (outG G1 (a_rows (F 218) (tI (F 0 (k + 1)))).1 (zJ (a_rows (F 218) (tI (F 0 (k + 1)))).2))) = some (Sum.inl (some (.long (zJ (a_rows (F 218) (tI (F 0 (k + 1)))).2))), mk E1 F2 G2) ∧ F2 217 5 = zI (a_rows (F 218) (tI (F 0 (k + 1)))).1 ∧ KeepM F1 (outG G1 (a_rows (F 218) (tI (F 0 (k + 1)))).1 (zJ (a_rows (F 218) (tI (F 0 (k + 1)))).2)) F2 G2 := by
    have H := ml_rows (d := d + 1) (E := E1) (F := F1) (G := outG G1 (a_rows (F 218) (tI (F 0 (k + 1)))).1 (zJ (a_rows (F 218) (tI (F 0 (k + 1)))).2)) (x := tI (F 0 (k + 1))) hI e218 (tI_rg _) (by omega)
    obtain ⟨F2, G2, hm, h5, hk2⟩ := H; rw [zI_tI] at hm; exact ⟨F2, G2, hm, h5, hk2⟩
  obtain ⟨y5, y6, hr⟩ := tq_2566 (z5 := z5) (z6 := z6) hE hk ⟨co.1, by omega⟩ hw hKC.2.2.2.2.1 e0 hm h5 (hKM.2.2 246 (by omega)) (by omega)
  exact ⟨y5, y6, E1, F2, G2, hr, CLS_M hC2 hKM, by have := hKC.2.2.2.2.2.1; omega, by have := hKC.2.2.2.2.2.2; omega⟩
theorem tn_42 {d L : Nat} {b k : Int} {E : EnQ} {F : Nat → Int → Int32} {G : Nat → Int → Int64} {z5 z6 : Option Value} (hC : CLS b L E F G) (hb : b < 1999000000) (hk : 0 ≤ k ∧ k + 6 ≤ L ∧ L ≤ 3072) (hd : 100 ≤ d) : TurnP d b L k 2830 z5 z6 E F G := by
  obtain ⟨d, rfl⟩ : ∃ e, d = e + 1 := ⟨d - 1, by omega⟩
  obtain ⟨⟨hO, hcs, hsb⟩, ⟨hu, -⟩, -, ⟨hT, -, -, -, h18⟩, ⟨hL1, hL2⟩, ⟨-, hE⟩⟩ := id hC
  have hD := InU_D hu
  have hI := hO.2.2.2.2
  have hst : stepsZ (F 218) < 1999000000 := by omega
  obtain ⟨E1, F1, G1, hc, hKC⟩ : ∃ E1 F1 G1, callP MP d 166 [.ref 16, .int (F 0 (k + 1)), .int (F 0 (k + 2))] (mk E F G) = some (thrJ [0] (a_two (F 218) (tI (F 0 (k + 1))) (tI (F 0 (k + 2)))), mk E1 F1 G1) ∧ KeepC E F G E1 F1 G1 := by
    have H := cl_two (d := d) (E := E) (F := F) (G := G) (x := tI (F 0 (k + 1))) (y := tI (F 0 (k + 2))) hO hD (tI_rg _) (tI_rg _) (by omega)
    obtain ⟨E1, F1, G1, hc, h⟩ := H; rw [zI_tI, zI_tI] at hc; exact ⟨E1, F1, G1, hc, h⟩
  have co : 0 ≤ (a_two (F 218) (tI (F 0 (k + 1))) (tI (F 0 (k + 2)))).1 ∧ (a_two (F 218) (tI (F 0 (k + 1))) (tI (F 0 (k + 2)))).1 ≤ 1 := co_two
  have hw := wx_354 hc ⟨co.1, co.2⟩
  have hC2 := CLS_O (c := (a_two (F 218) (tI (F 0 (k + 1))) (tI (F 0 (k + 2)))).1) (v := (zJ (a_two (F 218) (tI (F 0 (k + 1))) (tI (F 0 (k + 2)))).2)) (CLS_C hC hKC)
  obtain ⟨-, -, -, ⟨hT2, -, -, -, h182⟩, -, -⟩ := id hC2
  have hTm := TmA_O (c := (a_two (F 218) (tI (F 0 (k + 1))) (tI (F 0 (k + 2)))).1) (v := (zJ (a_two (F 218) (tI (F 0 (k + 1))) (tI (F 0 (k + 2)))).2)) (TmA_C hKC)
  have e218 : F1 218 = F 218 := hKC.1 218 (by omega) (by unfold scrC; omega)
  have e0 : F1 0 = F 0 := hKC.1 0 (by omega) (by unfold scrC; omega)
  obtain ⟨F2, G2, hm, h5, hKM⟩ : ∃ F2 G2, callP MP (d + 1) 292 [.ref 217, .int (F 0 (k + 1)), .int (F 0 (k + 2))] (mk E1 F1 (outG G1 (a_two (F 218) (tI (F 0 (k + 1))) (tI (F 0 (k + 2)))).1 (zJ (a_two (F 218) (tI (F 0 (k + 1))) (tI (F 0 (k + 2)))).2))) = some (Sum.inl (some (.long (zJ (a_two (F 218) (tI (F 0 (k + 1))) (tI (F 0 (k + 2)))).2))), mk E1 F2 G2) ∧ F2 217 5 = zI (a_two (F 218) (tI (F 0 (k + 1))) (tI (F 0 (k + 2)))).1 ∧ KeepM F1 (outG G1 (a_two (F 218) (tI (F 0 (k + 1))) (tI (F 0 (k + 2)))).1 (zJ (a_two (F 218) (tI (F 0 (k + 1))) (tI (F 0 (k + 2)))).2)) F2 G2 := by
    have H := ml_two (d := d + 1) (E := E1) (F := F1) (G := outG G1 (a_two (F 218) (tI (F 0 (k + 1))) (tI (F 0 (k + 2)))).1 (zJ (a_two (F 218) (tI (F 0 (k + 1))) (tI (F 0 (k + 2)))).2)) (x := tI (F 0 (k + 1))) (y := tI (F 0 (k + 2))) hI e218 (tI_rg _) (tI_rg _) (by omega)
    obtain ⟨F2, G2, hm, h5, hk2⟩ := H; rw [zI_tI, zI_tI] at hm; exact ⟨F2, G2, hm, h5, hk2⟩
  obtain ⟨y5, y6, hr⟩ := tq_2830 (z5 := z5) (z6 := z6) hE hk ⟨co.1, by omega⟩ hw hKC.2.2.2.2.1 e0 hm h5 (hKM.2.2 246 (by omega)) (by omega)
  exact ⟨y5, y6, E1, F2, G2, hr, CLS_M hC2 hKM, by have := hKC.2.2.2.2.2.1; omega, by have := hKC.2.2.2.2.2.2; omega⟩
theorem tn_44 {d L : Nat} {b k : Int} {E : EnQ} {F : Nat → Int → Int32} {G : Nat → Int → Int64} {z5 z6 : Option Value} (hC : CLS b L E F G) (hb : b < 1999000000) (hk : 0 ≤ k ∧ k + 6 ≤ L ∧ L ≤ 3072) (hd : 100 ≤ d) : TurnP d b L k 2993 z5 z6 E F G := by
  obtain ⟨d, rfl⟩ : ∃ e, d = e + 1 := ⟨d - 1, by omega⟩
  obtain ⟨⟨hO, hcs, hsb⟩, ⟨hu, -⟩, -, ⟨hT, -, -, -, h18⟩, ⟨hL1, hL2⟩, ⟨-, hE⟩⟩ := id hC
  have hD := InU_D hu
  have hI := hO.2.2.2.2
  have hst : stepsZ (F 218) < 1999000000 := by omega
  obtain ⟨E1, F1, G1, hc, hKC⟩ : ∃ E1 F1 G1, callP MP d 169 [.ref 16, .int (F 0 (k + 1)), .int (F 0 (k + 2))] (mk E F G) = some (thrP [0, 2] (a_signs (F 218) (tI (F 0 (k + 1))) (tI (F 0 (k + 2)))), mk E1 F1 G1) ∧ KeepC E F G E1 F1 G1 := by
    have H := cl_signs (d := d) (E := E) (F := F) (G := G) (x := tI (F 0 (k + 1))) (y := tI (F 0 (k + 2))) hO hD (tI_rg _) (tI_rg _) (by omega)
    obtain ⟨E1, F1, G1, hc, h⟩ := H; rw [zI_tI, zI_tI] at hc; exact ⟨E1, F1, G1, hc, h⟩
  have co : 0 ≤ (a_signs (F 218) (tI (F 0 (k + 1))) (tI (F 0 (k + 2)))).1 ∧ (a_signs (F 218) (tI (F 0 (k + 1))) (tI (F 0 (k + 2)))).1 ≤ 2 := co_signs
  have hw := wx_356 hc ⟨co.1, co.2⟩
  have hC2 := CLS_O (c := (a_signs (F 218) (tI (F 0 (k + 1))) (tI (F 0 (k + 2)))).1) (v := (Int32.toInt64 (zI (a_signs (F 218) (tI (F 0 (k + 1))) (tI (F 0 (k + 2)))).2))) (CLS_C hC hKC)
  obtain ⟨-, -, -, ⟨hT2, -, -, -, h182⟩, -, -⟩ := id hC2
  have hTm := TmA_O (c := (a_signs (F 218) (tI (F 0 (k + 1))) (tI (F 0 (k + 2)))).1) (v := (Int32.toInt64 (zI (a_signs (F 218) (tI (F 0 (k + 1))) (tI (F 0 (k + 2)))).2))) (TmA_C hKC)
  have e218 : F1 218 = F 218 := hKC.1 218 (by omega) (by unfold scrC; omega)
  have e0 : F1 0 = F 0 := hKC.1 0 (by omega) (by unfold scrC; omega)
  obtain ⟨F2, G2, hm, h5, hKM⟩ : ∃ F2 G2, callP MP (d + 1) 295 [.ref 217, .int (F 0 (k + 1)), .int (F 0 (k + 2))] (mk E1 F1 (outG G1 (a_signs (F 218) (tI (F 0 (k + 1))) (tI (F 0 (k + 2)))).1 (Int32.toInt64 (zI (a_signs (F 218) (tI (F 0 (k + 1))) (tI (F 0 (k + 2)))).2)))) = some (Sum.inl (some (.int (zI (a_signs (F 218) (tI (F 0 (k + 1))) (tI (F 0 (k + 2)))).2))), mk E1 F2 G2) ∧ F2 217 5 = zI (a_signs (F 218) (tI (F 0 (k + 1))) (tI (F 0 (k + 2)))).1 ∧ KeepM F1 (outG G1 (a_signs (F 218) (tI (F 0 (k + 1))) (tI (F 0 (k + 2)))).1 (Int32.toInt64 (zI (a_signs (F 218) (tI (F 0 (k + 1))) (tI (F 0 (k + 2)))).2))) F2 G2 := by
    have H := ml_signs (d := d + 1) (E := E1) (F := F1) (G := outG G1 (a_signs (F 218) (tI (F 0 (k + 1))) (tI (F 0 (k + 2)))).1 (Int32.toInt64 (zI (a_signs (F 218) (tI (F 0 (k + 1))) (tI (F 0 (k + 2)))).2))) (x := tI (F 0 (k + 1))) (y := tI (F 0 (k + 2))) hI e218 (tI_rg _) (tI_rg _) (by omega)
    obtain ⟨F2, hm, h5, hk2⟩ := H; rw [zI_tI, zI_tI] at hm; exact ⟨F2, _, hm, h5, hk2⟩
  obtain ⟨y5, y6, hr⟩ := tq_2993 (z5 := z5) (z6 := z6) hE hk ⟨co.1, by omega⟩ hw hKC.2.2.2.2.1 e0 hm h5 (hKM.2.2 246 (by omega)) (by omega)
  exact ⟨y5, y6, E1, F2, G2, hr, CLS_M hC2 hKM, by have := hKC.2.2.2.2.2.1; omega, by have := hKC.2.2.2.2.2.2; omega⟩
theorem tn_45 {d L : Nat} {b k : Int} {E : EnQ} {F : Nat → Int → Int32} {G : Nat → Int → Int64} {z5 z6 : Option Value} (hC : CLS b L E F G) (hb : b < 1999000000) (hk : 0 ≤ k ∧ k + 6 ≤ L ∧ L ≤ 3072) (hd : 100 ≤ d) : TurnP d b L k 3061 z5 z6 E F G := by
  obtain ⟨d, rfl⟩ : ∃ e, d = e + 1 := ⟨d - 1, by omega⟩
  obtain ⟨⟨hO, hcs, hsb⟩, ⟨hu, -⟩, -, ⟨hT, -, -, -, h18⟩, ⟨hL1, hL2⟩, ⟨-, hE⟩⟩ := id hC
  have hD := InU_D hu
  have hI := hO.2.2.2.2
  have hst : stepsZ (F 218) < 1999000000 := by omega
  obtain ⟨E1, F1, G1, hc, hKC⟩ : ∃ E1 F1 G1, callP MP d 170 [.ref 16, .int (F 0 (k + 1)), .int (F 0 (k + 2))] (mk E F G) = some (thrP [0, 1, 2] (a_writes F G (F 218) (tI (F 0 (k + 1))) (tI (F 0 (k + 2)))), mk E1 F1 G1) ∧ KeepC E F G E1 F1 G1 := by
    have H := cl_writes (d := d) (E := E) (F := F) (G := G) (x := tI (F 0 (k + 1))) (y := tI (F 0 (k + 2))) hO hD hT (tI_rg _) (tI_rg _) (by omega)
    obtain ⟨E1, F1, hc, h⟩ := H; rw [zI_tI, zI_tI] at hc; exact ⟨E1, F1, G, hc, h⟩
  have co : 0 ≤ (a_writes F G (F 218) (tI (F 0 (k + 1))) (tI (F 0 (k + 2)))).1 ∧ (a_writes F G (F 218) (tI (F 0 (k + 1))) (tI (F 0 (k + 2)))).1 ≤ 3 := co_writes
  have hw := wx_357 hc ⟨co.1, co.2⟩
  have hC2 := CLS_O (c := (a_writes F G (F 218) (tI (F 0 (k + 1))) (tI (F 0 (k + 2)))).1) (v := (Int32.toInt64 (zI (a_writes F G (F 218) (tI (F 0 (k + 1))) (tI (F 0 (k + 2)))).2))) (CLS_C hC hKC)
  obtain ⟨-, -, -, ⟨hT2, -, -, -, h182⟩, -, -⟩ := id hC2
  have hTm := TmA_O (c := (a_writes F G (F 218) (tI (F 0 (k + 1))) (tI (F 0 (k + 2)))).1) (v := (Int32.toInt64 (zI (a_writes F G (F 218) (tI (F 0 (k + 1))) (tI (F 0 (k + 2)))).2))) (TmA_C hKC)
  have e218 : F1 218 = F 218 := hKC.1 218 (by omega) (by unfold scrC; omega)
  have e0 : F1 0 = F 0 := hKC.1 0 (by omega) (by unfold scrC; omega)
  obtain ⟨F2, G2, hm, h5, hKM⟩ : ∃ F2 G2, callP MP (d + 1) 298 [.ref 217, .int (F 0 (k + 1)), .int (F 0 (k + 2))] (mk E1 F1 (outG G1 (a_writes F G (F 218) (tI (F 0 (k + 1))) (tI (F 0 (k + 2)))).1 (Int32.toInt64 (zI (a_writes F G (F 218) (tI (F 0 (k + 1))) (tI (F 0 (k + 2)))).2)))) = some (Sum.inl (some (.int (zI (a_writes F G (F 218) (tI (F 0 (k + 1))) (tI (F 0 (k + 2)))).2))), mk E1 F2 G2) ∧ F2 217 5 = zI (a_writes F G (F 218) (tI (F 0 (k + 1))) (tI (F 0 (k + 2)))).1 ∧ KeepM F1 (outG G1 (a_writes F G (F 218) (tI (F 0 (k + 1))) (tI (F 0 (k + 2)))).1 (Int32.toInt64 (zI (a_writes F G (F 218) (tI (F 0 (k + 1))) (tI (F 0 (k + 2)))).2))) F2 G2 := by
    have H := ml_writes (d := d + 1) (E := E1) (F := F1) (G := outG G1 (a_writes F G (F 218) (tI (F 0 (k + 1))) (tI (F 0 (k + 2)))).1 (Int32.toInt64 (zI (a_writes F G (F 218) (tI (F 0 (k + 1))) (tI (F 0 (k + 2)))).2))) (x := tI (F 0 (k + 1))) (y := tI (F 0 (k + 2))) hI e218 (CLS_44 hT2) (tI_rg _) (tI_rg _) (by omega)
    obtain ⟨F2, hm, h5, hk2⟩ := H; rw [zI_tI, zI_tI] at hm; rw [tm_writes hTm] at hm h5; exact ⟨F2, _, hm, h5, hk2⟩
  obtain ⟨y5, y6, hr⟩ := tq_3061 (z5 := z5) (z6 := z6) hE hk ⟨co.1, by omega⟩ hw hKC.2.2.2.2.1 e0 hm h5 (hKM.2.2 246 (by omega)) (by omega)
  exact ⟨y5, y6, E1, F2, G2, hr, CLS_M hC2 hKM, by have := hKC.2.2.2.2.2.1; omega, by have := hKC.2.2.2.2.2.2; omega⟩
theorem tn_46 {d L : Nat} {b k : Int} {E : EnQ} {F : Nat → Int → Int32} {G : Nat → Int → Int64} {z5 z6 : Option Value} (hC : CLS b L E F G) (hb : b < 1999000000) (hk : 0 ≤ k ∧ k + 6 ≤ L ∧ L ≤ 3072) (hd : 100 ≤ d) : TurnP d b L k 3129 z5 z6 E F G := by
  obtain ⟨d, rfl⟩ : ∃ e, d = e + 1 := ⟨d - 1, by omega⟩
  obtain ⟨⟨hO, hcs, hsb⟩, ⟨hu, -⟩, -, ⟨hT, -, -, -, h18⟩, ⟨hL1, hL2⟩, ⟨-, hE⟩⟩ := id hC
  have hD := InU_D hu
  have hI := hO.2.2.2.2
  have hst : stepsZ (F 218) < 1999000000 := by omega
  obtain ⟨E1, F1, G1, hc, hKC⟩ : ∃ E1 F1 G1, callP MP d 173 [.ref 16, .int (F 0 (k + 1))] (mk E F G) = some (thrP [0, 1, 2] (a_pens F G (F 218) (tI (F 0 (k + 1)))), mk E1 F1 G1) ∧ KeepC E F G E1 F1 G1 := by
    have H := cl_pens (d := d) (E := E) (F := F) (G := G) (x := tI (F 0 (k + 1))) hO hD hT (tI_rg _) (by omega)
    obtain ⟨E1, F1, hc, h⟩ := H; rw [zI_tI] at hc; exact ⟨E1, F1, G, hc, h⟩
  have co : 0 ≤ (a_pens F G (F 218) (tI (F 0 (k + 1)))).1 ∧ (a_pens F G (F 218) (tI (F 0 (k + 1)))).1 ≤ 3 := co_pens
  have hw := wx_358 hc ⟨co.1, co.2⟩
  have hC2 := CLS_O (c := (a_pens F G (F 218) (tI (F 0 (k + 1)))).1) (v := (Int32.toInt64 (zI (a_pens F G (F 218) (tI (F 0 (k + 1)))).2))) (CLS_C hC hKC)
  obtain ⟨-, -, -, ⟨hT2, -, -, -, h182⟩, -, -⟩ := id hC2
  have hTm := TmA_O (c := (a_pens F G (F 218) (tI (F 0 (k + 1)))).1) (v := (Int32.toInt64 (zI (a_pens F G (F 218) (tI (F 0 (k + 1)))).2))) (TmA_C hKC)
  have e218 : F1 218 = F 218 := hKC.1 218 (by omega) (by unfold scrC; omega)
  have e0 : F1 0 = F 0 := hKC.1 0 (by omega) (by unfold scrC; omega)
  obtain ⟨F2, G2, hm, h5, hKM⟩ : ∃ F2 G2, callP MP (d + 1) 303 [.ref 217, .int (F 0 (k + 1))] (mk E1 F1 (outG G1 (a_pens F G (F 218) (tI (F 0 (k + 1)))).1 (Int32.toInt64 (zI (a_pens F G (F 218) (tI (F 0 (k + 1)))).2)))) = some (Sum.inl (some (.int (zI (a_pens F G (F 218) (tI (F 0 (k + 1)))).2))), mk E1 F2 G2) ∧ F2 217 5 = zI (a_pens F G (F 218) (tI (F 0 (k + 1)))).1 ∧ KeepM F1 (outG G1 (a_pens F G (F 218) (tI (F 0 (k + 1)))).1 (Int32.toInt64 (zI (a_pens F G (F 218) (tI (F 0 (k + 1)))).2))) F2 G2 := by
    have H := ml_pens (d := d + 1) (E := E1) (F := F1) (G := outG G1 (a_pens F G (F 218) (tI (F 0 (k + 1)))).1 (Int32.toInt64 (zI (a_pens F G (F 218) (tI (F 0 (k + 1)))).2))) (x := tI (F 0 (k + 1))) hI e218 (CLS_44 hT2) (tI_rg _) (by omega)
    obtain ⟨F2, hm, h5, hk2⟩ := H; rw [zI_tI] at hm; rw [tm_pens hTm] at hm h5; exact ⟨F2, _, hm, h5, hk2⟩
  obtain ⟨y5, y6, hr⟩ := tq_3129 (z5 := z5) (z6 := z6) hE hk ⟨co.1, by omega⟩ hw hKC.2.2.2.2.1 e0 hm h5 (hKM.2.2 246 (by omega)) (by omega)
  exact ⟨y5, y6, E1, F2, G2, hr, CLS_M hC2 hKM, by have := hKC.2.2.2.2.2.1; omega, by have := hKC.2.2.2.2.2.2; omega⟩
theorem tn_47 {d L : Nat} {b k : Int} {E : EnQ} {F : Nat → Int → Int32} {G : Nat → Int → Int64} {z5 z6 : Option Value} (hC : CLS b L E F G) (hb : b < 1999000000) (hk : 0 ≤ k ∧ k + 6 ≤ L ∧ L ≤ 3072) (hd : 100 ≤ d) : TurnP d b L k 3185 z5 z6 E F G := by
  obtain ⟨d, rfl⟩ : ∃ e, d = e + 1 := ⟨d - 1, by omega⟩
  obtain ⟨⟨hO, hcs, hsb⟩, ⟨hu, -⟩, -, ⟨hT, -, -, -, h18⟩, ⟨hL1, hL2⟩, ⟨-, hE⟩⟩ := id hC
  have hD := InU_D hu
  have hI := hO.2.2.2.2
  have hst : stepsZ (F 218) < 1999000000 := by omega
  obtain ⟨E1, F1, G1, hc, hKC⟩ : ∃ E1 F1 G1, callP MP d 174 [.ref 16, .int (F 0 (k + 1))] (mk E F G) = some (thrP [0, 1, 2] (a_patrol F G (F 218) (tI (F 0 (k + 1)))), mk E1 F1 G1) ∧ KeepC E F G E1 F1 G1 := by
    have H := cl_patrol (d := d) (E := E) (F := F) (G := G) (x := tI (F 0 (k + 1))) hO hD hT (tI_rg _) (by omega)
    obtain ⟨E1, F1, hc, h⟩ := H; rw [zI_tI] at hc; exact ⟨E1, F1, G, hc, h⟩
  have co : 0 ≤ (a_patrol F G (F 218) (tI (F 0 (k + 1)))).1 ∧ (a_patrol F G (F 218) (tI (F 0 (k + 1)))).1 ≤ 3 := co_patrol
  have hw := wx_359 hc ⟨co.1, co.2⟩
  have hC2 := CLS_O (c := (a_patrol F G (F 218) (tI (F 0 (k + 1)))).1) (v := (Int32.toInt64 (zI (a_patrol F G (F 218) (tI (F 0 (k + 1)))).2))) (CLS_C hC hKC)
  obtain ⟨-, -, -, ⟨hT2, -, -, -, h182⟩, -, -⟩ := id hC2
  have hTm := TmA_O (c := (a_patrol F G (F 218) (tI (F 0 (k + 1)))).1) (v := (Int32.toInt64 (zI (a_patrol F G (F 218) (tI (F 0 (k + 1)))).2))) (TmA_C hKC)
  have e218 : F1 218 = F 218 := hKC.1 218 (by omega) (by unfold scrC; omega)
  have e0 : F1 0 = F 0 := hKC.1 0 (by omega) (by unfold scrC; omega)
  obtain ⟨F2, G2, hm, h5, hKM⟩ : ∃ F2 G2, callP MP (d + 1) 304 [.ref 217, .int (F 0 (k + 1))] (mk E1 F1 (outG G1 (a_patrol F G (F 218) (tI (F 0 (k + 1)))).1 (Int32.toInt64 (zI (a_patrol F G (F 218) (tI (F 0 (k + 1)))).2)))) = some (Sum.inl (some (.int (zI (a_patrol F G (F 218) (tI (F 0 (k + 1)))).2))), mk E1 F2 G2) ∧ F2 217 5 = zI (a_patrol F G (F 218) (tI (F 0 (k + 1)))).1 ∧ KeepM F1 (outG G1 (a_patrol F G (F 218) (tI (F 0 (k + 1)))).1 (Int32.toInt64 (zI (a_patrol F G (F 218) (tI (F 0 (k + 1)))).2))) F2 G2 := by
    have H := ml_patrol (d := d + 1) (E := E1) (F := F1) (G := outG G1 (a_patrol F G (F 218) (tI (F 0 (k + 1)))).1 (Int32.toInt64 (zI (a_patrol F G (F 218) (tI (F 0 (k + 1)))).2))) (x := tI (F 0 (k + 1))) hI e218 (CLS_44 hT2) (tI_rg _) (by omega)
    obtain ⟨F2, hm, h5, hk2⟩ := H; rw [zI_tI] at hm; rw [tm_patrol hTm] at hm h5; exact ⟨F2, _, hm, h5, hk2⟩
  obtain ⟨y5, y6, hr⟩ := tq_3185 (z5 := z5) (z6 := z6) hE hk ⟨co.1, by omega⟩ hw hKC.2.2.2.2.1 e0 hm h5 (hKM.2.2 246 (by omega)) (by omega)
  exact ⟨y5, y6, E1, F2, G2, hr, CLS_M hC2 hKM, by have := hKC.2.2.2.2.2.1; omega, by have := hKC.2.2.2.2.2.2; omega⟩
theorem tn_48 {d L : Nat} {b k : Int} {E : EnQ} {F : Nat → Int → Int32} {G : Nat → Int → Int64} {z5 z6 : Option Value} (hC : CLS b L E F G) (hb : b < 1999000000) (hk : 0 ≤ k ∧ k + 6 ≤ L ∧ L ≤ 3072) (hd : 100 ≤ d) : TurnP d b L k 3241 z5 z6 E F G := by
  obtain ⟨d, rfl⟩ : ∃ e, d = e + 1 := ⟨d - 1, by omega⟩
  obtain ⟨⟨hO, hcs, hsb⟩, ⟨hu, -⟩, -, ⟨hT, -, -, -, h18⟩, ⟨hL1, hL2⟩, ⟨-, hE⟩⟩ := id hC
  have hD := InU_D hu
  have hI := hO.2.2.2.2
  have hst : stepsZ (F 218) < 1999000000 := by omega
  obtain ⟨E1, F1, G1, hc, hKC⟩ : ∃ E1 F1 G1, callP MP d 175 [.ref 16, .int (F 0 (k + 1))] (mk E F G) = some (thrP [0, 1, 2] (a_tends F G (F 218) (tI (F 0 (k + 1)))), mk E1 F1 G1) ∧ KeepC E F G E1 F1 G1 := by
    have H := cl_tends (d := d) (E := E) (F := F) (G := G) (x := tI (F 0 (k + 1))) hO hD hT (tI_rg _) (by omega)
    obtain ⟨E1, F1, hc, h⟩ := H; rw [zI_tI] at hc; exact ⟨E1, F1, G, hc, h⟩
  have co : 0 ≤ (a_tends F G (F 218) (tI (F 0 (k + 1)))).1 ∧ (a_tends F G (F 218) (tI (F 0 (k + 1)))).1 ≤ 3 := co_tends
  have hw := wx_360 hc ⟨co.1, co.2⟩
  have hC2 := CLS_O (c := (a_tends F G (F 218) (tI (F 0 (k + 1)))).1) (v := (tnJ (zI (a_tends F G (F 218) (tI (F 0 (k + 1)))).2))) (CLS_C hC hKC)
  obtain ⟨-, -, -, ⟨hT2, -, -, -, h182⟩, -, -⟩ := id hC2
  have hTm := TmA_O (c := (a_tends F G (F 218) (tI (F 0 (k + 1)))).1) (v := (tnJ (zI (a_tends F G (F 218) (tI (F 0 (k + 1)))).2))) (TmA_C hKC)
  have e218 : F1 218 = F 218 := hKC.1 218 (by omega) (by unfold scrC; omega)
  have e0 : F1 0 = F 0 := hKC.1 0 (by omega) (by unfold scrC; omega)
  obtain ⟨F2, G2, hm, h5, hKM⟩ : ∃ F2 G2, callP MP (d + 1) 306 [.ref 217, .int (F 0 (k + 1))] (mk E1 F1 (outG G1 (a_tends F G (F 218) (tI (F 0 (k + 1)))).1 (tnJ (zI (a_tends F G (F 218) (tI (F 0 (k + 1)))).2)))) = some (Sum.inl (some (.int (zI (a_tends F G (F 218) (tI (F 0 (k + 1)))).2))), mk E1 F2 G2) ∧ F2 217 5 = zI (a_tends F G (F 218) (tI (F 0 (k + 1)))).1 ∧ KeepM F1 (outG G1 (a_tends F G (F 218) (tI (F 0 (k + 1)))).1 (tnJ (zI (a_tends F G (F 218) (tI (F 0 (k + 1)))).2))) F2 G2 := by
    have H := ml_tends (d := d + 1) (E := E1) (F := F1) (G := outG G1 (a_tends F G (F 218) (tI (F 0 (k + 1)))).1 (tnJ (zI (a_tends F G (F 218) (tI (F 0 (k + 1)))).2))) (x := tI (F 0 (k + 1))) hI e218 (CLS_44 hT2) (tI_rg _) (by omega)
    obtain ⟨F2, hm, h5, hk2⟩ := H; rw [zI_tI] at hm; rw [tm_tends hTm] at hm h5; exact ⟨F2, _, hm, h5, hk2⟩
  obtain ⟨y5, y6, hr⟩ := tq_3241 (z5 := z5) (z6 := z6) hE hk ⟨co.1, by omega⟩ hw hKC.2.2.2.2.1 e0 hm h5 (hKM.2.2 246 (by omega)) (by omega)
  exact ⟨y5, y6, E1, F2, G2, hr, CLS_M hC2 hKM, by have := hKC.2.2.2.2.2.1; omega, by have := hKC.2.2.2.2.2.2; omega⟩
theorem tn_49 {d L : Nat} {b k : Int} {E : EnQ} {F : Nat → Int → Int32} {G : Nat → Int → Int64} {z5 z6 : Option Value} (hC : CLS b L E F G) (hb : b < 1999000000) (hk : 0 ≤ k ∧ k + 6 ≤ L ∧ L ≤ 3072) (hd : 100 ≤ d) : TurnP d b L k 3304 z5 z6 E F G := by
  obtain ⟨d, rfl⟩ : ∃ e, d = e + 1 := ⟨d - 1, by omega⟩
  obtain ⟨⟨hO, hcs, hsb⟩, ⟨hu, -⟩, -, ⟨hT, -, -, -, h18⟩, ⟨hL1, hL2⟩, ⟨-, hE⟩⟩ := id hC
  have hD := InU_D hu
  have hI := hO.2.2.2.2
  have hst : stepsZ (F 218) < 1999000000 := by omega
  obtain ⟨E1, F1, G1, hc, hKC⟩ : ∃ E1 F1 G1, callP MP d 176 [.ref 16, .int (F 0 (k + 1))] (mk E F G) = some (thrP [0, 1, 2] (a_crowd F G (F 218) (tI (F 0 (k + 1)))), mk E1 F1 G1) ∧ KeepC E F G E1 F1 G1 := by
    have H := cl_crowd (d := d) (E := E) (F := F) (G := G) (x := tI (F 0 (k + 1))) hO hD hT (tI_rg _) (by omega)
    obtain ⟨E1, F1, hc, h⟩ := H; rw [zI_tI] at hc; exact ⟨E1, F1, G, hc, h⟩
  have co : 0 ≤ (a_crowd F G (F 218) (tI (F 0 (k + 1)))).1 ∧ (a_crowd F G (F 218) (tI (F 0 (k + 1)))).1 ≤ 3 := co_crowd
  have hw := wx_361 hc ⟨co.1, co.2⟩
  have hC2 := CLS_O (c := (a_crowd F G (F 218) (tI (F 0 (k + 1)))).1) (v := (Int32.toInt64 (zI (a_crowd F G (F 218) (tI (F 0 (k + 1)))).2))) (CLS_C hC hKC)
  obtain ⟨-, -, -, ⟨hT2, -, -, -, h182⟩, -, -⟩ := id hC2
  have hTm := TmA_O (c := (a_crowd F G (F 218) (tI (F 0 (k + 1)))).1) (v := (Int32.toInt64 (zI (a_crowd F G (F 218) (tI (F 0 (k + 1)))).2))) (TmA_C hKC)
  have e218 : F1 218 = F 218 := hKC.1 218 (by omega) (by unfold scrC; omega)
  have e0 : F1 0 = F 0 := hKC.1 0 (by omega) (by unfold scrC; omega)
  obtain ⟨F2, G2, hm, h5, hKM⟩ : ∃ F2 G2, callP MP (d + 1) 307 [.ref 217, .int (F 0 (k + 1))] (mk E1 F1 (outG G1 (a_crowd F G (F 218) (tI (F 0 (k + 1)))).1 (Int32.toInt64 (zI (a_crowd F G (F 218) (tI (F 0 (k + 1)))).2)))) = some (Sum.inl (some (.int (zI (a_crowd F G (F 218) (tI (F 0 (k + 1)))).2))), mk E1 F2 G2) ∧ F2 217 5 = zI (a_crowd F G (F 218) (tI (F 0 (k + 1)))).1 ∧ KeepM F1 (outG G1 (a_crowd F G (F 218) (tI (F 0 (k + 1)))).1 (Int32.toInt64 (zI (a_crowd F G (F 218) (tI (F 0 (k + 1)))).2))) F2 G2 := by
    have H := ml_crowd (d := d + 1) (E := E1) (F := F1) (G := outG G1 (a_crowd F G (F 218) (tI (F 0 (k + 1)))).1 (Int32.toInt64 (zI (a_crowd F G (F 218) (tI (F 0 (k + 1)))).2))) (x := tI (F 0 (k + 1))) hI e218 (CLS_44 hT2) (tI_rg _) (by omega)
    obtain ⟨F2, hm, h5, hk2⟩ := H; rw [zI_tI] at hm; rw [tm_crowd hTm] at hm h5; exact ⟨F2, _, hm, h5, hk2⟩
  obtain ⟨y5, y6, hr⟩ := tq_3304 (z5 := z5) (z6 := z6) hE hk ⟨co.1, by omega⟩ hw hKC.2.2.2.2.1 e0 hm h5 (hKM.2.2 246 (by omega)) (by omega)
  exact ⟨y5, y6, E1, F2, G2, hr, CLS_M hC2 hKM, by have := hKC.2.2.2.2.2.1; omega, by have := hKC.2.2.2.2.2.2; omega⟩
theorem tn_50 {d L : Nat} {b k : Int} {E : EnQ} {F : Nat → Int → Int32} {G : Nat → Int → Int64} {z5 z6 : Option Value} (hC : CLS b L E F G) (hb : b < 1999000000) (hk : 0 ≤ k ∧ k + 6 ≤ L ∧ L ≤ 3072) (hd : 100 ≤ d) : TurnP d b L k 3360 z5 z6 E F G := by
  obtain ⟨d, rfl⟩ : ∃ e, d = e + 1 := ⟨d - 1, by omega⟩
  obtain ⟨⟨hO, hcs, hsb⟩, ⟨hu, -⟩, -, ⟨hT, -, -, -, h18⟩, ⟨hL1, hL2⟩, ⟨-, hE⟩⟩ := id hC
  have hD := InU_D hu
  have hI := hO.2.2.2.2
  have hst : stepsZ (F 218) < 1999000000 := by omega
  obtain ⟨E1, F1, G1, hc, hKC⟩ : ∃ E1 F1 G1, callP MP d 177 [.ref 16, .int (F 0 (k + 1))] (mk E F G) = some (thrP [0, 1, 2] (a_lasts F G (F 218) (tI (F 0 (k + 1)))), mk E1 F1 G1) ∧ KeepC E F G E1 F1 G1 := by
    have H := cl_lasts (d := d) (E := E) (F := F) (G := G) (x := tI (F 0 (k + 1))) hO hD hT (tI_rg _) (by omega)
    obtain ⟨E1, F1, hc, h⟩ := H; rw [zI_tI] at hc; exact ⟨E1, F1, G, hc, h⟩
  have co : 0 ≤ (a_lasts F G (F 218) (tI (F 0 (k + 1)))).1 ∧ (a_lasts F G (F 218) (tI (F 0 (k + 1)))).1 ≤ 3 := co_lasts
  have hw := wx_362 hc ⟨co.1, co.2⟩
  have hC2 := CLS_O (c := (a_lasts F G (F 218) (tI (F 0 (k + 1)))).1) (v := (Int32.toInt64 (zI (a_lasts F G (F 218) (tI (F 0 (k + 1)))).2))) (CLS_C hC hKC)
  obtain ⟨-, -, -, ⟨hT2, -, -, -, h182⟩, -, -⟩ := id hC2
  have hTm := TmA_O (c := (a_lasts F G (F 218) (tI (F 0 (k + 1)))).1) (v := (Int32.toInt64 (zI (a_lasts F G (F 218) (tI (F 0 (k + 1)))).2))) (TmA_C hKC)
  have e218 : F1 218 = F 218 := hKC.1 218 (by omega) (by unfold scrC; omega)
  have e0 : F1 0 = F 0 := hKC.1 0 (by omega) (by unfold scrC; omega)
  obtain ⟨F2, G2, hm, h5, hKM⟩ : ∃ F2 G2, callP MP (d + 1) 308 [.ref 217, .int (F 0 (k + 1))] (mk E1 F1 (outG G1 (a_lasts F G (F 218) (tI (F 0 (k + 1)))).1 (Int32.toInt64 (zI (a_lasts F G (F 218) (tI (F 0 (k + 1)))).2)))) = some (Sum.inl (some (.int (zI (a_lasts F G (F 218) (tI (F 0 (k + 1)))).2))), mk E1 F2 G2) ∧ F2 217 5 = zI (a_lasts F G (F 218) (tI (F 0 (k + 1)))).1 ∧ KeepM F1 (outG G1 (a_lasts F G (F 218) (tI (F 0 (k + 1)))).1 (Int32.toInt64 (zI (a_lasts F G (F 218) (tI (F 0 (k + 1)))).2))) F2 G2 := by
    have H := ml_lasts (d := d + 1) (E := E1) (F := F1) (G := outG G1 (a_lasts F G (F 218) (tI (F 0 (k + 1)))).1 (Int32.toInt64 (zI (a_lasts F G (F 218) (tI (F 0 (k + 1)))).2))) (x := tI (F 0 (k + 1))) hI e218 (CLS_44 hT2) (tI_rg _) (by omega)
    obtain ⟨F2, hm, h5, hk2⟩ := H; rw [zI_tI] at hm; rw [tm_lasts hTm] at hm h5; exact ⟨F2, _, hm, h5, hk2⟩
  obtain ⟨y5, y6, hr⟩ := tq_3360 (z5 := z5) (z6 := z6) hE hk ⟨co.1, by omega⟩ hw hKC.2.2.2.2.1 e0 hm h5 (hKM.2.2 246 (by omega)) (by omega)
  exact ⟨y5, y6, E1, F2, G2, hr, CLS_M hC2 hKM, by have := hKC.2.2.2.2.2.1; omega, by have := hKC.2.2.2.2.2.2; omega⟩
end S94zzzzzc
