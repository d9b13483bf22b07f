/-! reading a plain, theory 3 -/
section S94zzj
set_option linter.unusedVariables false
set_option linter.unusedSimpArgs false
theorem PaJ_mono {D : Int → Int32} {w v : Int} (h : PaJ D w) (hv : w ≤ v) : PaJ D v :=
  ⟨h.1, h.2.1, h.2.2.1, h.2.2.2.1, fun x x0 x1 x2 => h.2.2.2.2 x x0 (by omega) x2⟩
theorem beg_id {D : Int → Int32} (h : PaJ D (tI (D 3))) (h4 : tI (D 3) < 4) : begWk D = D := by
  have h0 := h.1.1.2.2.2.1
  funext j
  unfold begWk
  by_cases e : j = 170 + 9 * tI (D 3)
  · rw [e, uC_at, h.2.2.2.2 _ h0.1 (Int.le_refl _) h4]
  · rw [uC_ne e]
theorem PaJ_bt {D : Int → Int32} {v : Int} (h : PaJ D (tI (D 3) + 1)) (h4 : tI (D 3) < 4) (hl : tI (D (170 + 9 * tI (D 3))) < 8) (hv : 0 ≤ v ∧ v < tI (D 1)) : PaJ (addBt D (170 + 9 * tI (D 3)) v) (tI (D 3) + 1) := by
  obtain ⟨⟨hA, hP, hB, hR⟩, h5, h9, hz, hbt⟩ := h
  have hA' := hA
  obtain ⟨a0, a1, a2, a3, a4, a5, a6, a7, a8, a9⟩ := hA
  generalize hw : tI (D 3) = w at *
  have hBw := hB w (by omega) (by omega)
  have l0 := hBw.1
  have eq : addBt D (170 + 9 * w) v (170 + 9 * w) = zI (tI (D (170 + 9 * w)) + 1) := by
    unfold addBt; rw [uC_ne (by omega), uC_at]
  have ev : addBt D (170 + 9 * w) v (171 + 9 * w + tI (D (170 + 9 * w))) = zI v := by
    unfold addBt; rw [show 171 + 9 * w + tI (D (170 + 9 * w)) = 170 + 9 * w + (tI (D (170 + 9 * w)) + 1) by omega, uC_at]
  have nn : ∀ j, j ≠ 170 + 9 * w → j ≠ 171 + 9 * w + tI (D (170 + 9 * w)) → addBt D (170 + 9 * w) v j = D j := fun j j1 j2 => by
    unfold addBt; rw [uC_ne (by omega), uC_ne j1]
  have lo : ∀ j, j < 170 → addBt D (170 + 9 * w) v j = D j := fun j hj => nn j (by omega) (by omega)
  have hi : ∀ j, 206 ≤ j → addBt D (170 + 9 * w) v j = D j := fun j hj => nn j (by omega) (by omega)
  have e5 : addBt D (170 + 9 * w) v 5 = zI 0 := by rw [lo 5 (by omega), h5]
  have e9 : addBt D (170 + 9 * w) v 169 = zI 0 := by rw [lo 169 (by omega), h9]
  refine ⟨⟨?_, ?_, fun x x1 x2 => ?_, InvR_0 e5 e9⟩, e5, e9, fun x x1 x2 => ?_, fun x x0 x1 x2 => ?_⟩
  · unfold InvA
    rw [lo 0 (by omega), lo 1 (by omega), lo 2 (by omega), lo 3 (by omega), lo 4 (by omega), lo 5 (by omega), lo 166 (by omega), lo 167 (by omega), lo 168 (by omega), lo 169 (by omega)]
    exact hA'
  · exact InvP_c (by omega) (lo 1 (by omega)) (lo 2 (by omega)) (fun k k1 k2 => lo k (by omega)) hP
  · obtain ⟨b1, b2, b3, b4, b5, b6⟩ := hB x x1 x2
    rw [lo 1 (by omega), lo 3 (by omega), hi (206 + x) (by omega), lo (39 + 2 * x) (by omega), lo (38 + 2 * x) (by omega)]
    by_cases z : x = w
    · rw [z, eq, tI_zI (by omega)]
      rw [z] at b3 b4 b5 b6
      refine ⟨by omega, fun k k1 k2 => ?_, b3, by omega, b5, b6⟩
      by_cases zk : k = tI (D (170 + 9 * w))
      · rw [zk, ev, tI_zI (by omega)]; exact hv
      · rw [nn _ (by omega) (by omega)]; exact hBw.2.1 k k1 (by omega)
    · rw [nn (170 + 9 * x) (by omega) (by omega)]
      refine ⟨b1, fun k k1 k2 => ?_, b3, b4, b5, b6⟩
      rw [nn _ (by omega) (by omega)]; exact b2 k k1 k2
  · rw [lo _ (by omega), hi _ (by omega)]; exact hz x x1 x2
  · rw [nn _ (by omega) (by omega)]; exact hbt x x0 x1 x2
theorem bt_3 {D : Int → Int32} {v : Int} (h3 : 0 ≤ tI (D 3)) (hl : 0 ≤ tI (D (170 + 9 * tI (D 3)))) : addBt D (170 + 9 * tI (D 3)) v 3 = D 3 ∧ addBt D (170 + 9 * tI (D 3)) v 1 = D 1 ∧ addBt D (170 + 9 * tI (D 3)) v 0 = D 0 := by
  unfold addBt
  exact ⟨by rw [uC_ne (by omega), uC_ne (by omega)], by rw [uC_ne (by omega), uC_ne (by omega)], by rw [uC_ne (by omega), uC_ne (by omega)]⟩
theorem PaJ_wk {D : Int → Int32} {v : Int} (h : PaJ D (tI (D 3) + 1)) (h4 : tI (D 3) < 4) (hv : 0 ≤ v ∧ v < tI (D 1)) : PaJ (addWk D v) (tI (addWk D v 3)) ∧ addWk D v 3 = zI (tI (D 3) + 1) := by
  obtain ⟨⟨hA, hP, hB, hR⟩, h5, h9, hz, hbt⟩ := h
  obtain ⟨a0, a1, a2, a3, a4, a5, a6, a7, a8, a9⟩ := hA
  have e3 : addWk D v 3 = zI (tI (D 3) + 1) := uC_at
  refine ⟨?_, e3⟩
  rw [e3, tI_zI (by omega)]
  generalize hw : tI (D 3) = w at *
  have nn : ∀ j, j ≠ 3 → j ≠ 38 + 2 * w → addWk D v j = D j := fun j j1 j2 => by
    unfold addWk; rw [uC_ne j1, hw, uC_ne j2]
  have eh : addWk D v (38 + 2 * w) = zI v := by
    unfold addWk; rw [uC_ne (by omega), hw, uC_at]
  have e5 : addWk D v 5 = zI 0 := by rw [nn 5 (by omega) (by omega), h5]
  have e9 : addWk D v 169 = zI 0 := by rw [nn 169 (by omega) (by omega), h9]
  refine ⟨⟨?_, ?_, fun x x1 x2 => ?_, InvR_0 e5 e9⟩, e5, e9, fun x x1 x2 => ?_, fun x x0 x1 x2 => ?_⟩
  · unfold InvA
    rw [nn 0 (by omega) (by omega), nn 1 (by omega) (by omega), nn 2 (by omega) (by omega), e3, nn 4 (by omega) (by omega), nn 5 (by omega) (by omega), nn 166 (by omega) (by omega), nn 167 (by omega) (by omega), nn 168 (by omega) (by omega), nn 169 (by omega) (by omega), tI_zI (by omega)]
    exact ⟨a0, a1, a2, by omega, a4, a5, a6, a7, a8, a9⟩
  · exact InvP_c (by omega) (nn 1 (by omega) (by omega)) (nn 2 (by omega) (by omega)) (fun k k1 k2 => nn k (by omega) (by omega)) hP
  · obtain ⟨b1, b2, b3, b4, b5, b6⟩ := hB x x1 x2
    rw [nn 1 (by omega) (by omega), e3, tI_zI (by omega), nn (206 + x) (by omega) (by omega), nn (39 + 2 * x) (by omega) (by omega), nn (170 + 9 * x) (by omega) (by omega)]
    refine ⟨b1, fun k k1 k2 => ?_, b3, b4, b5, fun z => ?_⟩
    · rw [nn _ (by omega) (by omega)]; exact b2 k k1 k2
    · by_cases zx : x = w
      · rw [zx, eh, tI_zI (by omega)]; exact hv
      · rw [nn _ (by omega) (by omega)]; exact b6 (by omega)
  · rw [nn _ (by omega) (by omega), nn _ (by omega) (by omega)]; exact hz x x1 x2
  · rw [nn _ (by omega) (by omega)]; exact hbt x x0 x1 x2
theorem wk_01 {D : Int → Int32} {v : Int} (h3 : 0 ≤ tI (D 3)) : addWk D v 0 = D 0 ∧ addWk D v 1 = D 1 := by
  unfold addWk
  exact ⟨by rw [uC_ne (by omega), uC_ne (by omega)], by rw [uC_ne (by omega), uC_ne (by omega)]⟩
end S94zzj
