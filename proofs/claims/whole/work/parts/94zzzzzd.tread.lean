/-! TOP: the turns that only read, with booleans and longs; those of two calls -/
section S94zzzzzd
set_option linter.unusedVariables false
set_option linter.unusedSimpArgs false
theorem tn_20 {d L : Nat} {b k : Int} {E : EnQ} {F : Nat → Int → Int32} {G : Nat → Int → Int64} {z5 z6 : Option Value} (hC : CLS b L E F G) (hb : b < 1999000000) (hk : 0 ≤ k ∧ k + 6 ≤ L ∧ L ≤ 3072) (hd : 100 ≤ d) : TurnP d b L k 1460 z5 z6 E F G := by
  obtain ⟨d, rfl⟩ : ∃ e, d = e + 1 := ⟨d - 1, by omega⟩
  obtain ⟨⟨hO, hcs, hsb⟩, ⟨hu, -⟩, -, ⟨hT, -, -, -, h18⟩, ⟨hL1, hL2⟩, ⟨-, hE⟩⟩ := id hC
  have hD := InU_D hu
  have hI := hO.2.2.2.2
  have hst : stepsZ (F 218) < 1999000000 := by omega
  obtain ⟨E1, F1, G1, hc, hKC⟩ : ∃ E1 F1 G1, callP MP d 146 [.ref 16, .int (F 0 (k + 1)), .int (zI (bZ (F 0 (k + 2))))] (mk E F G) = some (thrP [0] (a_seen (F 218) (tI (F 0 (k + 1))) (bZ (F 0 (k + 2)))), mk E1 F1 G1) ∧ KeepC E F G E1 F1 G1 := by
    have H := cl_seen (d := d) (E := E) (F := F) (G := G) (x := (tI (F 0 (k + 1)))) (y := (bZ (F 0 (k + 2)))) hO (tI_rg _) (bZ_01 _) (by omega)
    obtain ⟨E1, hE1, hc⟩ := H; rw [zI_tI] at hc; exact ⟨E1, F, G, hc, KeepC_ej hE1⟩
  have co : 0 ≤ (a_seen (F 218) (tI (F 0 (k + 1))) (bZ (F 0 (k + 2)))).1 ∧ (a_seen (F 218) (tI (F 0 (k + 1))) (bZ (F 0 (k + 2)))).1 ≤ 1 := co_seen
  have hw := wx_335 hc ⟨co.1, co.2⟩
  have hC2 := CLS_O (c := (a_seen (F 218) (tI (F 0 (k + 1))) (bZ (F 0 (k + 2)))).1) (v := (Int32.toInt64 (zI (a_seen (F 218) (tI (F 0 (k + 1))) (bZ (F 0 (k + 2)))).2))) (CLS_C hC hKC)
  obtain ⟨-, -, -, ⟨hT2, -, -, -, h182⟩, -, -⟩ := id hC2
  have hTm := TmA_O (c := (a_seen (F 218) (tI (F 0 (k + 1))) (bZ (F 0 (k + 2)))).1) (v := (Int32.toInt64 (zI (a_seen (F 218) (tI (F 0 (k + 1))) (bZ (F 0 (k + 2)))).2))) (TmA_C hKC)
  have e218 : F1 218 = F 218 := hKC.1 218 (by omega) (by unfold scrC; omega)
  have e0 : F1 0 = F 0 := hKC.1 0 (by omega) (by unfold scrC; omega)
  obtain ⟨F2, G2, hm, h5, hKM⟩ : ∃ F2 G2, callP MP (d + 1) 250 [.ref 217, .int (F 0 (k + 1)), .int (zI (bZ (F 0 (k + 2))))] (mk E1 F1 (outG G1 (a_seen (F 218) (tI (F 0 (k + 1))) (bZ (F 0 (k + 2)))).1 (Int32.toInt64 (zI (a_seen (F 218) (tI (F 0 (k + 1))) (bZ (F 0 (k + 2)))).2)))) = some (Sum.inl (some (.int (zI (a_seen (F 218) (tI (F 0 (k + 1))) (bZ (F 0 (k + 2)))).2))), mk E1 F2 G2) ∧ F2 217 5 = zI (a_seen (F 218) (tI (F 0 (k + 1))) (bZ (F 0 (k + 2)))).1 ∧ KeepM F1 (outG G1 (a_seen (F 218) (tI (F 0 (k + 1))) (bZ (F 0 (k + 2)))).1 (Int32.toInt64 (zI (a_seen (F 218) (tI (F 0 (k + 1))) (bZ (F 0 (k + 2)))).2))) F2 G2 := by
    have H := ml_seen (d := d + 1) (E := E1) (F := F1) (G := outG G1 (a_seen (F 218) (tI (F 0 (k + 1))) (bZ (F 0 (k + 2)))).1 (Int32.toInt64 (zI (a_seen (F 218) (tI (F 0 (k + 1))) (bZ (F 0 (k + 2)))).2))) (x := (tI (F 0 (k + 1)))) (y := (bZ (F 0 (k + 2)))) hI e218 (tI_rg _) (bZ_01 _) (by omega)
    rw [zI_tI] at H; exact ⟨_, _, H, by rw [uR_at, uC_at], KeepM_c⟩
  obtain ⟨y5, y6, hr⟩ := tq_1460 (z5 := z5) (z6 := z6) hE hk ⟨co.1, by omega⟩ hw hKC.2.2.2.2.1 e0 hm h5 (hKM.2.2 246 (by omega)) (by omega)
  exact ⟨y5, y6, E1, F2, G2, hr, CLS_M hC2 hKM, by have := hKC.2.2.2.2.2.1; omega, by have := hKC.2.2.2.2.2.2; omega⟩
theorem tn_41 {d L : Nat} {b k : Int} {E : EnQ} {F : Nat → Int → Int32} {G : Nat → Int → Int64} {z5 z6 : Option Value} (hC : CLS b L E F G) (hb : b < 1999000000) (hk : 0 ≤ k ∧ k + 6 ≤ L ∧ L ≤ 3072) (hd : 100 ≤ d) : TurnP d b L k 2746 z5 z6 E F G := by
  obtain ⟨d, rfl⟩ : ∃ e, d = e + 1 := ⟨d - 1, by omega⟩
  obtain ⟨⟨hO, hcs, hsb⟩, ⟨hu, -⟩, -, ⟨hT, -, -, -, h18⟩, ⟨hL1, hL2⟩, ⟨-, hE⟩⟩ := id hC
  have hD := InU_D hu
  have hI := hO.2.2.2.2
  have hst : stepsZ (F 218) < 1999000000 := by omega
  obtain ⟨E1, F1, G1, hc, hKC⟩ : ∃ E1 F1 G1, callP MP d 165 [.ref 16, .int (F 0 (k + 1)), .int (zI (bZ (F 0 (k + 2))))] (mk E F G) = some (thrP [0] (a_sure (F 218) (tI (F 0 (k + 1))) (bZ (F 0 (k + 2)))), mk E1 F1 G1) ∧ KeepC E F G E1 F1 G1 := by
    have H := cl_sure (d := d) (E := E) (F := F) (G := G) (x := (tI (F 0 (k + 1)))) (y := (bZ (F 0 (k + 2)))) hO hD (tI_rg _) (bZ_01 _) (by omega)
    obtain ⟨E1, F1, G1, hc, h⟩ := H; rw [zI_tI] at hc; exact ⟨E1, F1, G1, hc, h⟩
  have co : 0 ≤ (a_sure (F 218) (tI (F 0 (k + 1))) (bZ (F 0 (k + 2)))).1 ∧ (a_sure (F 218) (tI (F 0 (k + 1))) (bZ (F 0 (k + 2)))).1 ≤ 1 := co_sure
  have hw := wx_353 hc ⟨co.1, co.2⟩
  have hC2 := CLS_O (c := (a_sure (F 218) (tI (F 0 (k + 1))) (bZ (F 0 (k + 2)))).1) (v := (Int32.toInt64 (zI (a_sure (F 218) (tI (F 0 (k + 1))) (bZ (F 0 (k + 2)))).2))) (CLS_C hC hKC)
  obtain ⟨-, -, -, ⟨hT2, -, -, -, h182⟩, -, -⟩ := id hC2
  have hTm := TmA_O (c := (a_sure (F 218) (tI (F 0 (k + 1))) (bZ (F 0 (k + 2)))).1) (v := (Int32.toInt64 (zI (a_sure (F 218) (tI (F 0 (k + 1))) (bZ (F 0 (k + 2)))).2))) (TmA_C hKC)
  have e218 : F1 218 = F 218 := hKC.1 218 (by omega) (by unfold scrC; omega)
  have e0 : F1 0 = F 0 := hKC.1 0 (by omega) (by unfold scrC; omega)
  obtain ⟨F2, G2, hm, h5, hKM⟩ : ∃ F2 G2, callP MP (d + 1) 291 [.ref 217, .int (F 0 (k + 1)), .int (zI (bZ (F 0 (k + 2))))] (mk E1 F1 (outG G1 (a_sure (F 218) (tI (F 0 (k + 1))) (bZ (F 0 (k + 2)))).1 (Int32.toInt64 (zI (a_sure (F 218) (tI (F 0 (k + 1))) (bZ (F 0 (k + 2)))).2)))) = some (Sum.inl (some (.int (zI (a_sure (F 218) (tI (F 0 (k + 1))) (bZ (F 0 (k + 2)))).2))), mk E1 F2 G2) ∧ F2 217 5 = zI (a_sure (F 218) (tI (F 0 (k + 1))) (bZ (F 0 (k + 2)))).1 ∧ KeepM F1 (outG G1 (a_sure (F 218) (tI (F 0 (k + 1))) (bZ (F 0 (k + 2)))).1 (Int32.toInt64 (zI (a_sure (F 218) (tI (F 0 (k + 1))) (bZ (F 0 (k + 2)))).2))) F2 G2 := by
    have H := ml_sure (d := d + 1) (E := E1) (F := F1) (G := outG G1 (a_sure (F 218) (tI (F 0 (k + 1))) (bZ (F 0 (k + 2)))).1 (Int32.toInt64 (zI (a_sure (F 218) (tI (F 0 (k + 1))) (bZ (F 0 (k + 2)))).2))) (x := (tI (F 0 (k + 1)))) (y := (bZ (F 0 (k + 2)))) hI e218 (tI_rg _) (bZ_01 _) (by omega)
    obtain ⟨F2, G2, hm, h5, hk2⟩ := H; rw [zI_tI] at hm; exact ⟨F2, G2, hm, h5, hk2⟩
  obtain ⟨y5, y6, hr⟩ := tq_2746 (z5 := z5) (z6 := z6) hE hk ⟨co.1, by omega⟩ hw hKC.2.2.2.2.1 e0 hm h5 (hKM.2.2 246 (by omega)) (by omega)
  exact ⟨y5, y6, E1, F2, G2, hr, CLS_M hC2 hKM, by have := hKC.2.2.2.2.2.1; omega, by have := hKC.2.2.2.2.2.2; omega⟩
theorem tn_43 {d L : Nat} {b k : Int} {E : EnQ} {F : Nat → Int → Int32} {G : Nat → Int → Int64} {z5 z6 : Option Value} (hC : CLS b L E F G) (hb : b < 1999000000) (hk : 0 ≤ k ∧ k + 6 ≤ L ∧ L ≤ 3072) (hd : 100 ≤ d) : TurnP d b L k 2897 z5 z6 E F G := by
  obtain ⟨d, rfl⟩ : ∃ e, d = e + 1 := ⟨d - 1, by omega⟩
  obtain ⟨⟨hO, hcs, hsb⟩, ⟨hu, -⟩, -, ⟨hT, -, -, -, h18⟩, ⟨hL1, hL2⟩, ⟨-, hE⟩⟩ := id hC
  have hD := InU_D hu
  have hI := hO.2.2.2.2
  have hst : stepsZ (F 218) < 1999000000 := by omega
  obtain ⟨E1, F1, G1, hc, hKC⟩ : ∃ E1 F1 G1, callP MP d 167 [.ref 16, .int (F 0 (k + 1)), .int (F 0 (k + 2)), .int (zI (bZ (F 0 (k + 3))))] (mk E F G) = some (thrP [0, 2] (a_clear (F 218) (tI (F 0 (k + 1))) (tI (F 0 (k + 2))) (bZ (F 0 (k + 3)))), mk E1 F1 G1) ∧ KeepC E F G E1 F1 G1 := by
    have H := cl_clear (d := d) (E := E) (F := F) (G := G) (x := (tI (F 0 (k + 1)))) (z := (tI (F 0 (k + 2)))) (y := (bZ (F 0 (k + 3)))) hO hD (tI_rg _) (tI_rg _) (bZ_01 _) (by omega)
    obtain ⟨E1, F1, G1, hc, h⟩ := H; rw [zI_tI, zI_tI] at hc; exact ⟨E1, F1, G1, hc, h⟩
  have co : 0 ≤ (a_clear (F 218) (tI (F 0 (k + 1))) (tI (F 0 (k + 2))) (bZ (F 0 (k + 3)))).1 ∧ (a_clear (F 218) (tI (F 0 (k + 1))) (tI (F 0 (k + 2))) (bZ (F 0 (k + 3)))).1 ≤ 2 := co_clear
  have hw := wx_355 hc ⟨co.1, co.2⟩
  have hC2 := CLS_O (c := (a_clear (F 218) (tI (F 0 (k + 1))) (tI (F 0 (k + 2))) (bZ (F 0 (k + 3)))).1) (v := (Int32.toInt64 (zI (a_clear (F 218) (tI (F 0 (k + 1))) (tI (F 0 (k + 2))) (bZ (F 0 (k + 3)))).2))) (CLS_C hC hKC)
  obtain ⟨-, -, -, ⟨hT2, -, -, -, h182⟩, -, -⟩ := id hC2
  have hTm := TmA_O (c := (a_clear (F 218) (tI (F 0 (k + 1))) (tI (F 0 (k + 2))) (bZ (F 0 (k + 3)))).1) (v := (Int32.toInt64 (zI (a_clear (F 218) (tI (F 0 (k + 1))) (tI (F 0 (k + 2))) (bZ (F 0 (k + 3)))).2))) (TmA_C hKC)
  have e218 : F1 218 = F 218 := hKC.1 218 (by omega) (by unfold scrC; omega)
  have e0 : F1 0 = F 0 := hKC.1 0 (by omega) (by unfold scrC; omega)
  obtain ⟨F2, G2, hm, h5, hKM⟩ : ∃ F2 G2, callP MP (d + 1) 309 [.ref 217, .int (F 0 (k + 1)), .int (F 0 (k + 2)), .int (zI (bZ (F 0 (k + 3))))] (mk E1 F1 (outG G1 (a_clear (F 218) (tI (F 0 (k + 1))) (tI (F 0 (k + 2))) (bZ (F 0 (k + 3)))).1 (Int32.toInt64 (zI (a_clear (F 218) (tI (F 0 (k + 1))) (tI (F 0 (k + 2))) (bZ (F 0 (k + 3)))).2)))) = some (Sum.inl (some (.int (zI (a_clear (F 218) (tI (F 0 (k + 1))) (tI (F 0 (k + 2))) (bZ (F 0 (k + 3)))).2))), mk E1 F2 G2) ∧ F2 217 5 = zI (a_clear (F 218) (tI (F 0 (k + 1))) (tI (F 0 (k + 2))) (bZ (F 0 (k + 3)))).1 ∧ KeepM F1 (outG G1 (a_clear (F 218) (tI (F 0 (k + 1))) (tI (F 0 (k + 2))) (bZ (F 0 (k + 3)))).1 (Int32.toInt64 (zI (a_clear (F 218) (tI (F 0 (k + 1))) (tI (F 0 (k + 2))) (bZ (F 0 (k + 3)))).2))) F2 G2 := by
    have H := ml_clear (d := d + 1) (E := E1) (F := F1) (G := outG G1 (a_clear (F 218) (tI (F 0 (k + 1))) (tI (F 0 (k + 2))) (bZ (F 0 (k + 3)))).1 (Int32.toInt64 (zI (a_clear (F 218) (tI (F 0 (k + 1))) (tI (F 0 (k + 2))) (bZ (F 0 (k + 3)))).2))) (x := (tI (F 0 (k + 1)))) (z := (tI (F 0 (k + 2)))) (y := (bZ (F 0 (k + 3)))) hI e218 (tI_rg _) (tI_rg _) (bZ_01 _) (by omega)
    obtain ⟨F2, G2, hm, h5, hk2⟩ := H; rw [zI_tI, zI_tI] at hm; exact ⟨F2, G2, hm, h5, hk2⟩
  obtain ⟨y5, y6, hr⟩ := tq_2897 (z5 := z5) (z6 := z6) hE hk ⟨co.1, by omega⟩ hw hKC.2.2.2.2.1 e0 hm h5 (hKM.2.2 246 (by omega)) (by omega)
  exact ⟨y5, y6, E1, F2, G2, hr, CLS_M hC2 hKM, by have := hKC.2.2.2.2.2.1; omega, by have := hKC.2.2.2.2.2.2; omega⟩
theorem tn_39 {d L : Nat} {b k : Int} {E : EnQ} {F : Nat → Int → Int32} {G : Nat → Int → Int64} {z5 z6 : Option Value} (hC : CLS b L E F G) (hb : b < 1999000000) (hk : 0 ≤ k ∧ k + 6 ≤ L ∧ L ≤ 3072) (hd : 100 ≤ d) : TurnP d b L k 2621 z5 z6 E F G := by
  obtain ⟨d, rfl⟩ : ∃ e, d = e + 1 := ⟨d - 1, by omega⟩
  obtain ⟨⟨hO, hcs, hsb⟩, ⟨hu, -⟩, -, ⟨hT, -, -, -, h18⟩, ⟨hL1, hL2⟩, ⟨-, hE⟩⟩ := id hC
  have hD := InU_D hu
  have hI := hO.2.2.2.2
  have hst : stepsZ (F 218) < 1999000000 := by omega
  obtain ⟨E1, F1, G1, hc, hKC⟩ : ∃ E1 F1 G1, callP MP d 164 [.ref 16, .int (F 0 (k + 1)), .long (lgJ (F 0 (k + 2)) (F 0 (k + 3))), .int (F 0 (k + 4))] (mk E F G) = some (thrP [0] (a_row (F 218) (tI (F 0 (k + 1))) (tJ (lgJ (F 0 (k + 2)) (F 0 (k + 3)))) (tI (F 0 (k + 4)))), mk E1 F1 G1) ∧ KeepC E F G E1 F1 G1 := by
    have H := cl_row (d := d) (E := E) (F := F) (G := G) (x := (tI (F 0 (k + 1)))) (kk := (tJ (lgJ (F 0 (k + 2)) (F 0 (k + 3))))) (y := (tI (F 0 (k + 4)))) hO hD (tI_rg _) (tJ_rg _) (tI_rg _) (by omega)
    obtain ⟨E1, F1, G1, hc, h⟩ := H; rw [zI_tI, zJ_tJ, zI_tI] at hc; exact ⟨E1, F1, G1, hc, h⟩
  have co : 0 ≤ (a_row (F 218) (tI (F 0 (k + 1))) (tJ (lgJ (F 0 (k + 2)) (F 0 (k + 3)))) (tI (F 0 (k + 4)))).1 ∧ (a_row (F 218) (tI (F 0 (k + 1))) (tJ (lgJ (F 0 (k + 2)) (F 0 (k + 3)))) (tI (F 0 (k + 4)))).1 ≤ 1 := co_row
  have hw := wx_352 hc ⟨co.1, co.2⟩
  have hC2 := CLS_O (c := (a_row (F 218) (tI (F 0 (k + 1))) (tJ (lgJ (F 0 (k + 2)) (F 0 (k + 3)))) (tI (F 0 (k + 4)))).1) (v := (Int32.toInt64 (zI (a_row (F 218) (tI (F 0 (k + 1))) (tJ (lgJ (F 0 (k + 2)) (F 0 (k + 3)))) (tI (F 0 (k + 4)))).2))) (CLS_C hC hKC)
  obtain ⟨-, -, -, ⟨hT2, -, -, -, h182⟩, -, -⟩ := id hC2
  have hTm := TmA_O (c := (a_row (F 218) (tI (F 0 (k + 1))) (tJ (lgJ (F 0 (k + 2)) (F 0 (k + 3)))) (tI (F 0 (k + 4)))).1) (v := (Int32.toInt64 (zI (a_row (F 218) (tI (F 0 (k + 1))) (tJ (lgJ (F 0 (k + 2)) (F 0 (k + 3)))) (tI (F 0 (k + 4)))).2))) (TmA_C hKC)
  have e218 : F1 218 = F 218 := hKC.1 218 (by omega) (by unfold scrC; omega)
  have e0 : F1 0 = F 0 := hKC.1 0 (by omega) (by unfold scrC; omega)
  obtain ⟨F2, G2, hm, h5, hKM⟩ : ∃ F2 G2, callP MP (d + 1) 289 [.ref 217, .int (F 0 (k + 1)), .long (lgJ (F 0 (k + 2)) (F 0 (k + 3))), .int (F 0 (k + 4))] (mk E1 F1 (outG G1 (a_row (F 218) (tI (F 0 (k + 1))) (tJ (lgJ (F 0 (k + 2)) (F 0 (k + 3)))) (tI (F 0 (k + 4)))).1 (Int32.toInt64 (zI (a_row (F 218) (tI (F 0 (k + 1))) (tJ (lgJ (F 0 (k + 2)) (F 0 (k + 3)))) (tI (F 0 (k + 4)))).2)))) = some (Sum.inl (some (.int (zI (a_row (F 218) (tI (F 0 (k + 1))) (tJ (lgJ (F 0 (k + 2)) (F 0 (k + 3)))) (tI (F 0 (k + 4)))).2))), mk E1 F2 G2) ∧ F2 217 5 = zI (a_row (F 218) (tI (F 0 (k + 1))) (tJ (lgJ (F 0 (k + 2)) (F 0 (k + 3)))) (tI (F 0 (k + 4)))).1 ∧ KeepM F1 (outG G1 (a_row (F 218) (tI (F 0 (k + 1))) (tJ (lgJ (F 0 (k + 2)) (F 0 (k + 3)))) (tI (F 0 (k + 4)))).1 (Int32.toInt64 (zI (a_row (F 218) (tI (F 0 (k + 1))) (tJ (lgJ (F 0 (k + 2)) (F 0 (k + 3)))) (tI (F 0 (k + 4)))).2))) F2 G2 := by
    have H := ml_row (d := d + 1) (E := E1) (F := F1) (G := outG G1 (a_row (F 218) (tI (F 0 (k + 1))) (tJ (lgJ (F 0 (k + 2)) (F 0 (k + 3)))) (tI (F 0 (k + 4)))).1 (Int32.toInt64 (zI (a_row (F 218) (tI (F 0 (k + 1))) (tJ (lgJ (F 0 (k + 2)) (F 0 (k + 3)))) (tI (F 0 (k + 4)))).2))) (x := (tI (F 0 (k + 1)))) (k := (tJ (lgJ (F 0 (k + 2)) (F 0 (k + 3))))) (y := (tI (F 0 (k + 4)))) hI e218 (tI_rg _) (tJ_rg _) (tI_rg _) (by omega)
    obtain ⟨F2, G2, hm, h5, hk2⟩ := H; rw [zI_tI, zJ_tJ, zI_tI] at hm; exact ⟨F2, G2, hm, h5, hk2⟩
  obtain ⟨y5, y6, hr⟩ := tq_2621 (z5 := z5) (z6 := z6) hE hk ⟨co.1, by omega⟩ hw hKC.2.2.2.2.1 e0 hm h5 (hKM.2.2 246 (by omega)) (by omega)
  exact ⟨y5, y6, E1, F2, G2, hr, CLS_M hC2 hKM, by have := hKC.2.2.2.2.2.1; omega, by have := hKC.2.2.2.2.2.2; omega⟩
theorem al_st0 {K : Int → Int32} (hI : InvK K) : 0 ≤ stepsZ K := by
  unfold stepsZ
  exact sumN_nn (fun j hj => by
    have h3 := hI.1.2.2.2.1
    exact (hI.2.2.1 (j : Int) (by omega) (by omega)).2.2.2.2.1)
theorem co0_bare {K : Int → Int32} : (a_bare K).1 = 0 := by
  unfold a_bare
  (repeat' split) <;> rfl
theorem co0_wolves {K : Int → Int32} : (a_wolves K).1 = 0 := by
  unfold a_wolves
  (repeat' split) <;> rfl
theorem co0_count {K : Int → Int32} {t x : Int} : (a_count K t x).1 = 0 := by
  unfold a_count
  (repeat' split) <;> rfl
theorem co0_fault {f g x : Int} : (a_fault f g x).1 = 0 := by
  unfold a_fault
  (repeat' split) <;> rfl
theorem tn_21 {d L : Nat} {b k : Int} {E : EnQ} {F : Nat → Int → Int32} {G : Nat → Int → Int64} {z5 z6 : Option Value} (hC : CLS b L E F G) (hb : b < 1999000000) (hk : 0 ≤ k ∧ k + 6 ≤ L ∧ L ≤ 3072) (hd : 100 ≤ d) : TurnP d b L k 1544 z5 z6 E F G := by
  obtain ⟨⟨hO, hcs, hsb⟩, ⟨hu, -⟩, -, ⟨hT, ⟨t, ht⟩, hf1, hf2, h18⟩, -, ⟨-, hE⟩⟩ := id hC
  have hD := InU_D hu
  have hI := hO.2.2.2.2
  have hst : stepsZ (F 218) < 1999000000 := by omega
  obtain ⟨E1, hE1, hc⟩ := cl_bare (d := d) (E := E) (F := F) (G := G) hO (by omega)
  have hm := ml_bare (d := d) (E := E1) (F := F) (G := G) hI rfl (by omega)
  have c0 : (a_bare (F 218)).1 = 0 := by first | rfl | exact co0_bare
  have hc' : callP MP d 118 [.ref 16] (mk E F G) = some (Sum.inl (some (.int (zI (a_bare (F 218)).2))), mk E1 F G) := by rw [hc]; unfold thrP; rw [if_pos c0]
  have hKC : KeepC E F G E1 F G := KeepC_ej hE1
  obtain ⟨y5, y6, hr⟩ := tq_1544 (z5 := z5) (z6 := z6) hE hk hc' hKC.2.2.2.2.1 rfl hm
  exact ⟨y5, y6, E1, _, G, hr, CLS_M (CLS_C hC hKC) KeepM_c, by have := hKC.2.2.2.2.2.1; omega, by have := hKC.2.2.2.2.2.2; omega⟩
theorem tn_27 {d L : Nat} {b k : Int} {E : EnQ} {F : Nat → Int → Int32} {G : Nat → Int → Int64} {z5 z6 : Option Value} (hC : CLS b L E F G) (hb : b < 1999000000) (hk : 0 ≤ k ∧ k + 6 ≤ L ∧ L ≤ 3072) (hd : 100 ≤ d) : TurnP d b L k 1885 z5 z6 E F G := by
  obtain ⟨⟨hO, hcs, hsb⟩, ⟨hu, -⟩, -, ⟨hT, ⟨t, ht⟩, hf1, hf2, h18⟩, -, ⟨-, hE⟩⟩ := id hC
  have hD := InU_D hu
  have hI := hO.2.2.2.2
  have hst : stepsZ (F 218) < 1999000000 := by omega
  obtain ⟨E1, hE1, hc⟩ := cl_wolves (d := d) (E := E) (F := F) (G := G) hO (by omega)
  have hm := ml_wolves (d := d) (E := E1) (F := F) (G := G) hI rfl (by omega)
  have c0 : (a_wolves (F 218)).1 = 0 := by first | rfl | exact co0_wolves
  have hc' : callP MP d 119 [.ref 16] (mk E F G) = some (Sum.inl (some (.int (zI (a_wolves (F 218)).2))), mk E1 F G) := by rw [hc]; unfold thrP; rw [if_pos c0]
  have hKC : KeepC E F G E1 F G := KeepC_ej hE1
  obtain ⟨y5, y6, hr⟩ := tq_1885 (z5 := z5) (z6 := z6) hE hk hc' hKC.2.2.2.2.1 rfl hm
  exact ⟨y5, y6, E1, _, G, hr, CLS_M (CLS_C hC hKC) KeepM_c, by have := hKC.2.2.2.2.2.1; omega, by have := hKC.2.2.2.2.2.2; omega⟩
theorem tn_56 {d L : Nat} {b k : Int} {E : EnQ} {F : Nat → Int → Int32} {G : Nat → Int → Int64} {z5 z6 : Option Value} (hC : CLS b L E F G) (hb : b < 1999000000) (hk : 0 ≤ k ∧ k + 6 ≤ L ∧ L ≤ 3072) (hd : 100 ≤ d) : TurnP d b L k 3715 z5 z6 E F G := by
  obtain ⟨⟨hO, hcs, hsb⟩, ⟨hu, -⟩, -, ⟨hT, ⟨t, ht⟩, hf1, hf2, h18⟩, -, ⟨-, hE⟩⟩ := id hC
  have hD := InU_D hu
  have hI := hO.2.2.2.2
  have hst : stepsZ (F 218) < 1999000000 := by omega
  have htc : tI (F 16 1) = t := by rw [ht.2.1, tI_zI (by have := ht.1; omega)]
  have htm : tI (F 217 7) = t := by rw [ht.2.2.1, tI_zI (by have := ht.1; omega)]
  obtain ⟨E1, hE1, hc⟩ := cl_count (d := d) (E := E) (F := F) (G := G) hO hst (x := tI (F 0 (k + 1))) htc (tI_rg _) (by omega)
  have hm := ml_count (d := d) (E := E1) (F := F) (G := G) hI rfl ⟨al_st0 hI, hst⟩ (x := tI (F 0 (k + 1))) htm (tI_rg _) (by omega)
  rw [zI_tI] at hc; rw [zI_tI] at hm; have c0 : (a_count (F 218) t (tI (F 0 (k + 1)))).1 = 0 := by first | rfl | exact co0_count
  have hc' : callP MP d 122 [.ref 16, .int (F 0 (k + 1))] (mk E F G) = some (Sum.inl (some (.int (zI (a_count (F 218) t (tI (F 0 (k + 1)))).2))), mk E1 F G) := by rw [hc]; unfold thrP; rw [if_pos c0]
  have hKC : KeepC E F G E1 F G := KeepC_ej hE1
  obtain ⟨y5, y6, hr⟩ := tq_3715 (z5 := z5) (z6 := z6) hE hk hc' hKC.2.2.2.2.1 rfl hm
  exact ⟨y5, y6, E1, _, G, hr, CLS_M (CLS_C hC hKC) KeepM_c, by have := hKC.2.2.2.2.2.1; omega, by have := hKC.2.2.2.2.2.2; omega⟩
theorem tn_2 {d L : Nat} {b k : Int} {E : EnQ} {F : Nat → Int → Int32} {G : Nat → Int → Int64} {z5 z6 : Option Value} (hC : CLS b L E F G) (hb : b < 1999000000) (hk : 0 ≤ k ∧ k + 6 ≤ L ∧ L ≤ 3072) (hd : 100 ≤ d) : TurnP d b L k 413 z5 z6 E F G := by
  obtain ⟨⟨hO, hcs, hsb⟩, ⟨hu, -⟩, -, ⟨hT, ⟨t, ht⟩, hf1, hf2, h18⟩, -, ⟨-, hE⟩⟩ := id hC
  have hD := InU_D hu
  have hI := hO.2.2.2.2
  have hst : stepsZ (F 218) < 1999000000 := by omega
  obtain ⟨E1, hE1, hc⟩ := cl_fault (d := d) (E := E) (F := F) (G := G) (f := tI (F 16 2)) (g := tI (F 16 3)) (x := tI (F 0 (k + 1))) rfl rfl (tI_rg _) (by omega)
  have hm := ml_fault (d := d) (E := E1) (F := F) (G := G) (f := tI (F 16 2)) (g := tI (F 16 3)) (x := tI (F 0 (k + 1))) (by rw [hf1]) (by rw [hf2]) (tI_rg _) (by omega)
  rw [zI_tI] at hc; rw [zI_tI] at hm; have c0 : (a_fault (tI (F 16 2)) (tI (F 16 3)) (tI (F 0 (k + 1)))).1 = 0 := by first | rfl | exact co0_fault
  have hc' : callP MP d 115 [.ref 16, .int (F 0 (k + 1))] (mk E F G) = some (Sum.inl (some (.int (zI (a_fault (tI (F 16 2)) (tI (F 16 3)) (tI (F 0 (k + 1)))).2))), mk E1 F G) := by rw [hc]; unfold thrP; rw [if_pos c0]
  have hKC : KeepC E F G E1 F G := KeepC_ej hE1
  obtain ⟨y5, y6, hr⟩ := tq_413 (z5 := z5) (z6 := z6) hE hk hc' hKC.2.2.2.2.1 rfl hm
  exact ⟨y5, y6, E1, _, G, hr, CLS_M (CLS_C hC hKC) KeepM_c, by have := hKC.2.2.2.2.2.1; omega, by have := hKC.2.2.2.2.2.2; omega⟩
theorem tn_40 {d L : Nat} {b k : Int} {E : EnQ} {F : Nat → Int → Int32} {G : Nat → Int → Int64} {z5 z6 : Option Value} (hC : CLS b L E F G) (hb : b < 1999000000) (hk : 0 ≤ k ∧ k + 6 ≤ L ∧ L ≤ 3072) (hd : 100 ≤ d) : TurnP d b L k 2733 z5 z6 E F G := by
  obtain ⟨⟨hO, hcs, hsb⟩, ⟨hu, -⟩, -, ⟨hT, ⟨t, ht⟩, hf1, hf2, h18⟩, -, ⟨-, hE⟩⟩ := id hC
  have hD := InU_D hu
  have hI := hO.2.2.2.2
  have hst : stepsZ (F 218) < 1999000000 := by omega
  obtain ⟨E1, F1, G1, hc, hKC⟩ := cl_starts (d := d) (E := E) (F := F) (G := G) hO hD (by omega)
  have e218 : F1 218 = F 218 := hKC.1 218 (by omega) (by unfold scrC; omega)
  have e0 : F1 0 = F 0 := hKC.1 0 (by omega) (by unfold scrC; omega)
  obtain ⟨F2, G2, hm, h5, hKM⟩ := ml_starts (d := d) (E := E1) (F := F1) (G := G1) hI e218 (by omega)
  obtain ⟨y5, y6, hr⟩ := tq_2733 (z5 := z5) (z6 := z6) hE hk hc hKC.2.2.2.2.1 e0 hm
  exact ⟨y5, y6, E1, F2, G2, hr, CLS_M (CLS_C hC hKC) hKM, by have := hKC.2.2.2.2.2.1; omega, by have := hKC.2.2.2.2.2.2; omega⟩
end S94zzzzzd
