/-! TOP: tray -/
section S94zzzzzi
set_option linter.unusedVariables false
set_option linter.unusedSimpArgs false
theorem trH_rg {x : Int} (h : 0 ≤ x ∧ x < 4) : 209 ≤ trH x ∧ trH x ≤ 215 := by unfold trH; omega
theorem tray_0 {x y z : Int} (h : a_tray x y z = 0) : (0 ≤ x ∧ x < 4) ∧ (0 ≤ y ∧ y ≤ 3) ∧ (0 ≤ z ∧ z ≤ 30) := by
  unfold a_tray at h
  split at h
  · split at h
    · split at h
      · exact ⟨by assumption, by assumption, by assumption⟩
      · omega
    · omega
  · omega
theorem tray_rg (x y z : Int) : a_tray x y z = 0 ∨ a_tray x y z = 1 ∨ a_tray x y z = 2 := by
  unfold a_tray
  (repeat' split) <;> omega
theorem tn_52 {d L : Nat} {b k : Int} {E : EnQ} {F : Nat → Int → Int32} {G : Nat → Int → Int64} {z5 z6 : Option Value} (hC : CLS b L E F G) (hb : b < 1999000000) (hk : 0 ≤ k ∧ k + 6 ≤ L ∧ L ≤ 3072) (hd : 100 ≤ d) : TurnP d b L k 3472 z5 z6 E F G := by
  obtain ⟨d, rfl⟩ : ∃ e, d = e + 1 := ⟨d - 1, by omega⟩
  obtain ⟨-, -, -, ⟨hT, ⟨t, ht⟩, -, -, -⟩, -, ⟨-, hE⟩⟩ := id hC
  obtain ⟨E1, hE1, hc⟩ := cl_tray (d := d) (E := E) (F := F) (G := G) hT (x := tI (F 0 (k + 1))) (y := tI (F 0 (k + 2))) (z := tI (F 0 (k + 3))) (tI_rg _) (tI_rg _) (tI_rg _) (by omega)
  rw [zI_tI, zI_tI, zI_tI] at hc
  have he : E1.2.2 = E.2.2 := by rcases hE1 with rfl | rfl <;> rfl
  have hr1 : E.1 ≤ E1.1 ∧ E1.1 ≤ E.1 + 40 ∧ E1.2.1 ≤ E.2.1 + 1000 := by
    rcases hE1 with rfl | rfl
    · omega
    · exact ⟨by show E.1 ≤ E.1 + 1; omega, by show E.1 + 1 ≤ _; omega, by show E.2.1 + 6 ≤ _; omega⟩
  generalize hx : tI (F 0 (k + 1)) = x at hc
  generalize hy : tI (F 0 (k + 2)) = y at hc
  generalize hz : tI (F 0 (k + 3)) = z at hc
  have ex : F 0 (k + 1) = zI x := by rw [← hx, zI_tI]
  have ey : F 0 (k + 2) = zI y := by rw [← hy, zI_tI]
  have ez : F 0 (k + 3) = zI z := by rw [← hz, zI_tI]
  by_cases g : a_tray x y z = 0
  · obtain ⟨g1, g2, g3⟩ := tray_0 g
    have hg := trH_rg g1
    rw [if_pos g, if_pos g, if_pos g] at hc
    have hw := wx_364_0 hc
    have hm := ml_tray (d := d + 1) (E := E1) (F := trF F x y z) (G := trG G x) (x := x) (y := y) (z := z) (by omega) (by omega) (by omega) (by omega)
    rw [if_pos g, if_pos g] at hm
    rw [← ex, ← ey, ← ez] at hm
    have hq : ∀ q, q ≠ trH x → q ≠ 217 → q ≠ 243 → q ≠ 244 → tmF (trF F x y z) x y z q = F q := fun q a1 a2 a3 a4 => by
      unfold tmF trF; rw [uR_ne a4, uR_ne a3, uR_ne a2, uR_ne a1]
    obtain ⟨y5, y6, hr⟩ := tq_3472 (z5 := z5) (z6 := z6) hE hk hw (by rw [he]) (by unfold trF; exact uR_ne (by omega)) hm (by unfold tmF; rw [uR_ne (by decide), uR_ne (by decide), uR_at, uC_at]) (by omega)
    refine ⟨y5, y6, E1, _, _, hr, CLS_frameX hC ?_ ⟨t, ?_⟩ (fun q hq' => hq q (by omega) (by omega) (by omega) (by omega)) ?_ ?_ he hr1.1, hr1.2⟩
    · exact TrR_keep (TrR_tray hT g1 g2 g3) (fun _ _ => by rw [he]) (fun _ _ _ => ⟨rfl, rfl⟩) ⟨rfl, rfl, rfl⟩
    · obtain ⟨c1, c2, c3, c4⟩ := ht
      refine ⟨c1, by rw [hq 16 (by omega) (by omega) (by omega) (by omega)]; exact c2, ?_, by rw [hq 17 (by omega) (by omega) (by omega) (by omega), hq 223 (by omega) (by omega) (by omega) (by omega)]; exact c4⟩
      unfold tmF trF; rw [uR_ne (by decide), uR_ne (by decide), uR_at, uC_ne (by decide), uR_ne (by omega)]; exact c3
    · rw [hq 16 (by omega) (by omega) (by omega) (by omega)]; exact ⟨rfl, rfl⟩
    · unfold tmF trF; rw [uR_ne (by decide), uR_ne (by decide), uR_at, uC_ne (by decide), uC_ne (by decide), uC_ne (by decide), uR_ne (by omega)]; exact ⟨rfl, rfl, rfl⟩
  · rw [if_neg g, if_neg g, if_neg g] at hc
    have hm := ml_tray (d := d + 1) (E := E1) (F := F) (G := G) (x := x) (y := y) (z := z) (by rw [← hx]; exact tI_rg _) (by rw [← hy]; exact tI_rg _) (by rw [← hz]; exact tI_rg _) (by omega)
    rw [if_neg g, if_neg g] at hm
    have hKC : KeepC E F G E1 F G := KeepC_ej hE1
    rw [← ex, ← ey, ← ez] at hm
    have hw : callP MP (d + 1) 364 [.ref 16, .int (F 0 (k + 1)), .int (F 0 (k + 2)), .int (F 0 (k + 3))] (mk E F G) = some (Sum.inl (some (.int (zI (a_tray x y z)))), mk E1 F G) := by
      rcases tray_rg x y z with h | h | h
      · exact absurd h g
      · rw [if_pos h] at hc; rw [wx_364_1 hc, h]
      · rw [if_neg (by omega)] at hc; rw [wx_364_2 hc, h]
    obtain ⟨y5, y6, hr⟩ := tq_3472 (z5 := z5) (z6 := z6) hE hk hw (by rw [he]) rfl hm (by rw [uR_at, uC_at]) (by omega)
    exact ⟨y5, y6, E1, _, _, hr, CLS_M (CLS_C hC hKC) KeepM_c, hr1.2⟩
end S94zzzzzi
