/-! TOP: the turns that walk -/
section S94zzzzzg
set_option linter.unusedVariables false
set_option linter.unusedSimpArgs false
theorem sb_step {K : Int → Int32} (hI : InvK K) (hst : stepsZ K < 1999000000) (h : CsK K) {x y : Int} : CsK (s_step K x y) ∧ stepsZ (s_step K x y) ≤ stepsZ K + 300 := by
  unfold s_step
  by_cases g : whyZ K x y = 0
  · rw [if_pos g]; exact ⟨cs_go hI g (by omega) h, by rw [(go_inv hI g (by omega)).2]; omega⟩
  · rw [if_neg g]; exact ⟨h, by omega⟩
theorem sb_noon {K : Int → Int32} (hI : InvK K) (hst : stepsZ K < 1999000000) (h : CsK K) : CsK (s_noon K) ∧ stepsZ (s_noon K) ≤ stepsZ K + 300 := by
  have h5 := hI.1.2.2.2.2.2.1
  unfold s_noon
  exact ⟨cs_los hI (by omega) h, by rw [st_los hI]; omega⟩
theorem sb_storm {K : Int → Int32} (hI : InvK K) (hst : stepsZ K < 1999000000) (h : CsK K) {x : Int} : CsK (s_storm K x) ∧ stepsZ (s_storm K x) ≤ stepsZ K + 300 := by
  unfold s_storm
  by_cases g : 0 ≤ x ∧ x ≤ tI (K 5)
  · rw [if_pos g]; exact ⟨cs_los hI g h, by rw [st_los hI]; omega⟩
  · rw [if_neg g]; exact ⟨h, by omega⟩
theorem sb_keep {K : Int → Int32} (hI : InvK K) (hst : stepsZ K < 1999000000) (h : CsK K) {x : Int} : CsK (s_keep K x) ∧ stepsZ (s_keep K x) ≤ stepsZ K + 300 := by
  have h5 := hI.1.2.2.2.2.2.1
  unfold s_keep
  by_cases g : 1 ≤ x ∧ x ≤ 60
  · rw [if_pos g]
    have hn : 0 ≤ (if 0 < tI (K 5) - x then tI (K 5) - x else 0) ∧ (if 0 < tI (K 5) - x then tI (K 5) - x else 0) ≤ tI (K 5) := by split <;> omega
    have hs : ∀ z, stepsZ (uC (losK K (if 0 < tI (K 5) - x then tI (K 5) - x else 0)) 4 z) = stepsZ K := fun z => by
      rw [← st_los hI (n := if 0 < tI (K 5) - x then tI (K 5) - x else 0)]
      unfold stepsZ
      rw [uC_ne (by omega)]
      exact sumN_congr (fun j hj => by rw [uC_ne (by omega)])
    unfold keepK
    refine ⟨?_, by rw [hs]; omega⟩
    have := cs_los hI hn h
    unfold CsK at *
    rw [hs, uC_ne (by omega)]; rw [st_los hI] at this; exact this
  · rw [if_neg g]; exact ⟨h, by omega⟩
theorem sb_rounds {K : Int → Int32} (hI : InvK K) (hst : stepsZ K < 1999000000) (h : CsK K) {x : Int} : CsK (s_rounds K x) ∧ stepsZ (s_rounds K x) ≤ stepsZ K + 300 := by
  unfold s_rounds
  by_cases g : 1 ≤ x ∧ x ≤ 60
  · rw [if_pos g]; exact ⟨cs_rndK hI (by omega) h _ (by omega), by have := (rndK_inv hI (by omega) x.toNat (by omega)).2.2.1; omega⟩
  · rw [if_neg g]; exact ⟨h, by omega⟩
theorem sb_perform {K : Int → Int32} {F : Nat → Int → Int32} {G : Nat → Int → Int64} (hI : InvK K) (hst : stepsZ K < 1999000000) (h : CsK K) (h44 : ∀ x, 0 ≤ x → x < 4 → 0 ≤ tI (F 244 x) ∧ tI (F 244 x) ≤ 30) {x : Int} : CsK (s_perform K F G x) ∧ stepsZ (s_perform K F G x) ≤ stepsZ K + 300 := by
  unfold s_perform
  by_cases g : 0 ≤ x ∧ x < 4
  · rw [if_pos g]
    have hm : tdM F x ≤ 30 := by have := h44 x g.1 g.2; unfold tdM; omega
    by_cases e : tI (F 243 x) = -1
    · rw [if_pos e]; exact ⟨h, by omega⟩
    · rw [if_neg e]; exact ⟨cs_tolK hI (by omega) h hm, by have := (tolK_inv hI (by omega) (a := tdA G x) hm).2.2; omega⟩
  · rw [if_neg g]; exact ⟨h, by omega⟩
theorem sb_day {K : Int → Int32} (hI : InvK K) (hst : stepsZ K < 1999000000) (h : CsK K) {s : Int32} {x : Int} : CsK (s_day K s x) ∧ stepsZ (s_day K s x) ≤ stepsZ K + 300 := by
  unfold s_day
  by_cases g : 1 ≤ x ∧ x ≤ 60
  · rw [if_pos g]
    by_cases e : 1 ≤ tI (K 3)
    · rw [if_pos e]; exact ⟨cs_dayS hI (by omega) e s h _ (by omega), by have := (dayS_inv hI (by omega) e s x.toNat (by omega)).2.1.2; omega⟩
    · rw [if_neg e]; exact ⟨h, by omega⟩
  · rw [if_neg g]; exact ⟨h, by omega⟩
theorem sb_back {K : Int → Int32} (hI : InvK K) (hst : stepsZ K < 1999000000) (h : CsK K) {x : Int} : CsK (s_back K x) ∧ stepsZ (s_back K x) ≤ stepsZ K + 300 := by
  unfold s_back
  by_cases g : 0 ≤ x ∧ x < tI (K 3)
  · rw [if_pos g]; exact ⟨cs_retK hI (by omega) h, by have := (retK_I hI (by omega) (x := x)).2.1.2; omega⟩
  · rw [if_neg g]; exact ⟨h, by omega⟩
theorem tm_sperform {F F1 : Nat → Int → Int32} {G G1 : Nat → Int → Int64} (h : TmA F G F1 G1) {K : Int → Int32} {x : Int} : s_perform K F1 G1 x = s_perform K F G x := by unfold s_perform; rw [tm_dA h, tm_dM h, h.1]
theorem tn_7 {d L : Nat} {b k : Int} {E : EnQ} {F : Nat → Int → Int32} {G : Nat → Int → Int64} {z5 z6 : Option Value} (hC : CLS b L E F G) (hb : b < 1999000000) (hk : 0 ≤ k ∧ k + 6 ≤ L ∧ L ≤ 3072) (hd : 100 ≤ d) : TurnP d (b + 300) L k 710 z5 z6 E F G := by
  obtain ⟨d, rfl⟩ : ∃ e, d = e + 1 := ⟨d - 1, by omega⟩
  obtain ⟨⟨hO, hcs, hsb⟩, ⟨hu, -⟩, -, ⟨hT, -, -, -, h18⟩, -, ⟨-, hE⟩⟩ := id hC
  have hD := InU_D hu
  have hI := hO.2.2.2.2
  have hst : stepsZ (F 218) < 1999000000 := by omega
  obtain ⟨E1, F1, hE1, hc, hO', ho⟩ := cl_keep (d := d) (E := E) (F := F) (G := G) hO hD hst (x := (tI (F 0 (k + 1)))) (tI_rg _) (by omega)
  rw [zI_tI] at hc
  have e218 : F1 218 = F 218 := ho 218 (by omega) (by omega) (by omega) (by omega) (by omega) (by omega)
  have e0 : F1 0 = F 0 := ho 0 (by omega) (by omega) (by omega) (by omega) (by omega) (by omega)
  have h18' : tI (F1 217 18) = 0 := by rw [ho 217 (by omega) (by omega) (by omega) (by omega) (by omega) (by omega)]; exact h18
  have hTm : TmA F G F1 (outG G (a_keep (F 218) (tI (F 0 (k + 1)))).1 (Int32.toInt64 (zI (a_keep (F 218) (tI (F 0 (k + 1)))).2))) := ⟨ho 243 (by omega) (by omega) (by omega) (by omega) (by omega) (by omega), ho 244 (by omega) (by omega) (by omega) (by omega) (by omega) (by omega), by rw [outG_ne (by omega)]⟩
  have h44 : ∀ x, 0 ≤ x → x < 4 → 0 ≤ tI (F1 244 x) ∧ tI (F1 244 x) ≤ 30 := by rw [hTm.2.1]; exact CLS_44 hT
  have he : E1.2.2.1 = E.2.2.1 := by rcases hE1 with rfl | rfl <;> rfl
  have hr1 : E1.1 ≤ E.1 + 40 ∧ E1.2.1 ≤ E.2.1 + 1000 := by
    rcases hE1 with rfl | rfl
    · omega
    · exact ⟨by show E.1 + 1 ≤ _; omega, by show E.2.1 + 6 ≤ _; omega⟩
  have sb := sb_keep hI hst hcs (x := (tI (F 0 (k + 1))))
  have hm := ml_keep (d := d + 1) (E := E1) (F := F1) (G := (outG G (a_keep (F 218) (tI (F 0 (k + 1)))).1 (Int32.toInt64 (zI (a_keep (F 218) (tI (F 0 (k + 1)))).2)))) hI e218 h18' hst (x := (tI (F 0 (k + 1)))) (tI_rg _) (by omega)
  rw [zI_tI] at hm
  have hw := wx_324 hc (show 0 ≤ (a_keep (F 218) (tI (F 0 (k + 1)))).1 ∧ (a_keep (F 218) (tI (F 0 (k + 1)))).1 ≤ 1 from co_keep)
  obtain ⟨y5, y6, hr⟩ := tq_710 (z5 := z5) (z6 := z6) hE hk (a := (a_keep (F 218) (tI (F 0 (k + 1))))) (by have h : 0 ≤ (a_keep (F 218) (tI (F 0 (k + 1)))).1 ∧ (a_keep (F 218) (tI (F 0 (k + 1)))).1 ≤ 1 := co_keep; omega) hw he e0 hm (by rw [uR_ne (by decide), uR_at, uC_at]) rfl (by omega)
  exact ⟨y5, y6, E1, _, _, hr, CLS_mut hC hE1 hO' ho (fun q hq => outG_ne hq) sb.1 (by omega) (by omega) KeepM_c, hr1.1, hr1.2⟩
theorem tn_9 {d L : Nat} {b k : Int} {E : EnQ} {F : Nat → Int → Int32} {G : Nat → Int → Int64} {z5 z6 : Option Value} (hC : CLS b L E F G) (hb : b < 1999000000) (hk : 0 ≤ k ∧ k + 6 ≤ L ∧ L ≤ 3072) (hd : 100 ≤ d) : TurnP d (b + 300) L k 803 z5 z6 E F G := by
  obtain ⟨d, rfl⟩ : ∃ e, d = e + 1 := ⟨d - 1, by omega⟩
  obtain ⟨⟨hO, hcs, hsb⟩, ⟨hu, -⟩, -, ⟨hT, -, -, -, h18⟩, -, ⟨-, hE⟩⟩ := id hC
  have hD := InU_D hu
  have hI := hO.2.2.2.2
  have hst : stepsZ (F 218) < 1999000000 := by omega
  obtain ⟨E1, F1, hE1, hc, hO', ho⟩ := cl_storm (d := d) (E := E) (F := F) (G := G) hO hD hst (x := (tI (F 0 (k + 1)))) (tI_rg _) (by omega)
  rw [zI_tI] at hc
  have e218 : F1 218 = F 218 := ho 218 (by omega) (by omega) (by omega) (by omega) (by omega) (by omega)
  have e0 : F1 0 = F 0 := ho 0 (by omega) (by omega) (by omega) (by omega) (by omega) (by omega)
  have h18' : tI (F1 217 18) = 0 := by rw [ho 217 (by omega) (by omega) (by omega) (by omega) (by omega) (by omega)]; exact h18
  have hTm : TmA F G F1 (outG G (a_storm (F 218) (tI (F 0 (k + 1)))).1 (Int32.toInt64 (zI (a_storm (F 218) (tI (F 0 (k + 1)))).2))) := ⟨ho 243 (by omega) (by omega) (by omega) (by omega) (by omega) (by omega), ho 244 (by omega) (by omega) (by omega) (by omega) (by omega) (by omega), by rw [outG_ne (by omega)]⟩
  have h44 : ∀ x, 0 ≤ x → x < 4 → 0 ≤ tI (F1 244 x) ∧ tI (F1 244 x) ≤ 30 := by rw [hTm.2.1]; exact CLS_44 hT
  have he : E1.2.2.1 = E.2.2.1 := by rcases hE1 with rfl | rfl <;> rfl
  have hr1 : E1.1 ≤ E.1 + 40 ∧ E1.2.1 ≤ E.2.1 + 1000 := by
    rcases hE1 with rfl | rfl
    · omega
    · exact ⟨by show E.1 + 1 ≤ _; omega, by show E.2.1 + 6 ≤ _; omega⟩
  have sb := sb_storm hI hst hcs (x := (tI (F 0 (k + 1))))
  have hm := ml_storm (d := d + 1) (E := E1) (F := F1) (G := (outG G (a_storm (F 218) (tI (F 0 (k + 1)))).1 (Int32.toInt64 (zI (a_storm (F 218) (tI (F 0 (k + 1)))).2)))) hI e218 h18' hst (x := (tI (F 0 (k + 1)))) (tI_rg _) (by omega)
  rw [zI_tI] at hm
  have hw := wx_325 hc (show 0 ≤ (a_storm (F 218) (tI (F 0 (k + 1)))).1 ∧ (a_storm (F 218) (tI (F 0 (k + 1)))).1 ≤ 1 from co_storm)
  obtain ⟨y5, y6, hr⟩ := tq_803 (z5 := z5) (z6 := z6) hE hk (a := (a_storm (F 218) (tI (F 0 (k + 1))))) (by have h : 0 ≤ (a_storm (F 218) (tI (F 0 (k + 1)))).1 ∧ (a_storm (F 218) (tI (F 0 (k + 1)))).1 ≤ 1 := co_storm; omega) hw he e0 hm (by rw [uR_ne (by decide), uR_at, uC_at]) rfl (by omega)
  exact ⟨y5, y6, E1, _, _, hr, CLS_mut hC hE1 hO' ho (fun q hq => outG_ne hq) sb.1 (by omega) (by omega) KeepM_c, hr1.1, hr1.2⟩
theorem tn_11 {d L : Nat} {b k : Int} {E : EnQ} {F : Nat → Int → Int32} {G : Nat → Int → Int64} {z5 z6 : Option Value} (hC : CLS b L E F G) (hb : b < 1999000000) (hk : 0 ≤ k ∧ k + 6 ≤ L ∧ L ≤ 3072) (hd : 100 ≤ d) : TurnP d (b + 300) L k 872 z5 z6 E F G := by
  obtain ⟨d, rfl⟩ : ∃ e, d = e + 1 := ⟨d - 1, by omega⟩
  obtain ⟨⟨hO, hcs, hsb⟩, ⟨hu, -⟩, -, ⟨hT, -, -, -, h18⟩, -, ⟨-, hE⟩⟩ := id hC
  have hD := InU_D hu
  have hI := hO.2.2.2.2
  have hst : stepsZ (F 218) < 1999000000 := by omega
  obtain ⟨E1, F1, hE1, hc, hO', ho⟩ := cl_rounds (d := d) (E := E) (F := F) (G := G) hO hD hst (x := (tI (F 0 (k + 1)))) (tI_rg _) (by omega)
  rw [zI_tI] at hc
  have e218 : F1 218 = F 218 := ho 218 (by omega) (by omega) (by omega) (by omega) (by omega) (by omega)
  have e0 : F1 0 = F 0 := ho 0 (by omega) (by omega) (by omega) (by omega) (by omega) (by omega)
  have h18' : tI (F1 217 18) = 0 := by rw [ho 217 (by omega) (by omega) (by omega) (by omega) (by omega) (by omega)]; exact h18
  have hTm : TmA F G F1 (outG G (a_rounds (F 218) (tI (F 0 (k + 1)))).1 (Int32.toInt64 (zI (a_rounds (F 218) (tI (F 0 (k + 1)))).2))) := ⟨ho 243 (by omega) (by omega) (by omega) (by omega) (by omega) (by omega), ho 244 (by omega) (by omega) (by omega) (by omega) (by omega) (by omega), by rw [outG_ne (by omega)]⟩
  have h44 : ∀ x, 0 ≤ x → x < 4 → 0 ≤ tI (F1 244 x) ∧ tI (F1 244 x) ≤ 30 := by rw [hTm.2.1]; exact CLS_44 hT
  have he : E1.2.2.1 = E.2.2.1 := by rcases hE1 with rfl | rfl <;> rfl
  have hr1 : E1.1 ≤ E.1 + 40 ∧ E1.2.1 ≤ E.2.1 + 1000 := by
    rcases hE1 with rfl | rfl
    · omega
    · exact ⟨by show E.1 + 1 ≤ _; omega, by show E.2.1 + 6 ≤ _; omega⟩
  have sb := sb_rounds hI hst hcs (x := (tI (F 0 (k + 1))))
  have hm := ml_rounds (d := d + 1) (E := E1) (F := F1) (G := (outG G (a_rounds (F 218) (tI (F 0 (k + 1)))).1 (Int32.toInt64 (zI (a_rounds (F 218) (tI (F 0 (k + 1)))).2)))) hI e218 h18' hst (x := (tI (F 0 (k + 1)))) (tI_rg _) (by omega)
  rw [zI_tI] at hm
  have hw := wx_326 hc (show 0 ≤ (a_rounds (F 218) (tI (F 0 (k + 1)))).1 ∧ (a_rounds (F 218) (tI (F 0 (k + 1)))).1 ≤ 1 from co_rounds)
  obtain ⟨y5, y6, hr⟩ := tq_872 (z5 := z5) (z6 := z6) hE hk (a := (a_rounds (F 218) (tI (F 0 (k + 1))))) (by have h : 0 ≤ (a_rounds (F 218) (tI (F 0 (k + 1)))).1 ∧ (a_rounds (F 218) (tI (F 0 (k + 1)))).1 ≤ 1 := co_rounds; omega) hw he e0 hm (by rw [uR_ne (by decide), uR_at, uC_at]) rfl (by omega)
  exact ⟨y5, y6, E1, _, _, hr, CLS_mut hC hE1 hO' ho (fun q hq => outG_ne hq) sb.1 (by omega) (by omega) KeepM_c, hr1.1, hr1.2⟩
theorem tn_15 {d L : Nat} {b k : Int} {E : EnQ} {F : Nat → Int → Int32} {G : Nat → Int → Int64} {z5 z6 : Option Value} (hC : CLS b L E F G) (hb : b < 1999000000) (hk : 0 ≤ k ∧ k + 6 ≤ L ∧ L ≤ 3072) (hd : 100 ≤ d) : TurnP d (b + 300) L k 1120 z5 z6 E F G := by
  obtain ⟨d, rfl⟩ : ∃ e, d = e + 1 := ⟨d - 1, by omega⟩
  obtain ⟨⟨hO, hcs, hsb⟩, ⟨hu, -⟩, -, ⟨hT, -, -, -, h18⟩, -, ⟨-, hE⟩⟩ := id hC
  have hD := InU_D hu
  have hI := hO.2.2.2.2
  have hst : stepsZ (F 218) < 1999000000 := by omega
  obtain ⟨E1, F1, hE1, hc, hO', ho⟩ := cl_perform (d := d) (E := E) (F := F) (G := G) hO hD hst hT (x := (tI (F 0 (k + 1)))) (tI_rg _) (by omega)
  rw [zI_tI] at hc
  have e218 : F1 218 = F 218 := ho 218 (by omega) (by omega) (by omega) (by omega) (by omega) (by omega)
  have e0 : F1 0 = F 0 := ho 0 (by omega) (by omega) (by omega) (by omega) (by omega) (by omega)
  have h18' : tI (F1 217 18) = 0 := by rw [ho 217 (by omega) (by omega) (by omega) (by omega) (by omega) (by omega)]; exact h18
  have hTm : TmA F G F1 (outG G (a_perform (F 218) F G (tI (F 0 (k + 1)))).1 (Int32.toInt64 (zI (a_perform (F 218) F G (tI (F 0 (k + 1)))).2))) := ⟨ho 243 (by omega) (by omega) (by omega) (by omega) (by omega) (by omega), ho 244 (by omega) (by omega) (by omega) (by omega) (by omega) (by omega), by rw [outG_ne (by omega)]⟩
  have h44 : ∀ x, 0 ≤ x → x < 4 → 0 ≤ tI (F1 244 x) ∧ tI (F1 244 x) ≤ 30 := by rw [hTm.2.1]; exact CLS_44 hT
  have he : E1.2.2.1 = E.2.2.1 := by rcases hE1 with rfl | rfl <;> rfl
  have hr1 : E1.1 ≤ E.1 + 40 ∧ E1.2.1 ≤ E.2.1 + 1000 := by
    rcases hE1 with rfl | rfl
    · omega
    · exact ⟨by show E.1 + 1 ≤ _; omega, by show E.2.1 + 6 ≤ _; omega⟩
  have sb := sb_perform hI hst hcs (CLS_44 hT) (x := (tI (F 0 (k + 1)))) (F := F) (G := G)
  have hm := ml_perform (d := d + 1) (E := E1) (F := F1) (G := (outG G (a_perform (F 218) F G (tI (F 0 (k + 1)))).1 (Int32.toInt64 (zI (a_perform (F 218) F G (tI (F 0 (k + 1)))).2)))) hI e218 h18' hst h44 (x := (tI (F 0 (k + 1)))) (tI_rg _) (by omega)
  rw [zI_tI] at hm
  rw [tm_perform hTm, tm_sperform hTm] at hm
  have hw := wx_330 hc (show 0 ≤ (a_perform (F 218) F G (tI (F 0 (k + 1)))).1 ∧ (a_perform (F 218) F G (tI (F 0 (k + 1)))).1 ≤ 2 from co_perform)
  obtain ⟨y5, y6, hr⟩ := tq_1120 (z5 := z5) (z6 := z6) hE hk (a := (a_perform (F 218) F G (tI (F 0 (k + 1))))) (by have h : 0 ≤ (a_perform (F 218) F G (tI (F 0 (k + 1)))).1 ∧ (a_perform (F 218) F G (tI (F 0 (k + 1)))).1 ≤ 2 := co_perform; omega) hw he e0 hm (by rw [uR_ne (by decide), uR_at, uC_at]) rfl (by omega)
  exact ⟨y5, y6, E1, _, _, hr, CLS_mut hC hE1 hO' ho (fun q hq => outG_ne hq) sb.1 (by omega) (by omega) KeepM_c, hr1.1, hr1.2⟩
theorem tn_16 {d L : Nat} {b k : Int} {E : EnQ} {F : Nat → Int → Int32} {G : Nat → Int → Int64} {z5 z6 : Option Value} (hC : CLS b L E F G) (hb : b < 1999000000) (hk : 0 ≤ k ∧ k + 6 ≤ L ∧ L ≤ 3072) (hd : 100 ≤ d) : TurnP d (b + 300) L k 1176 z5 z6 E F G := by
  obtain ⟨d, rfl⟩ : ∃ e, d = e + 1 := ⟨d - 1, by omega⟩
  obtain ⟨⟨hO, hcs, hsb⟩, ⟨hu, -⟩, -, ⟨hT, -, -, -, h18⟩, -, ⟨-, hE⟩⟩ := id hC
  have hD := InU_D hu
  have hI := hO.2.2.2.2
  have hst : stepsZ (F 218) < 1999000000 := by omega
  obtain ⟨E1, F1, hE1, hc, hO', ho⟩ := cl_day (d := d) (E := E) (F := F) (G := G) hO hD hst (s0 := F 0 (k + 1)) (x := (tI (F 0 (k + 2)))) (tI_rg _) (by omega)
  rw [zI_tI] at hc
  have e218 : F1 218 = F 218 := ho 218 (by omega) (by omega) (by omega) (by omega) (by omega) (by omega)
  have e0 : F1 0 = F 0 := ho 0 (by omega) (by omega) (by omega) (by omega) (by omega) (by omega)
  have h18' : tI (F1 217 18) = 0 := by rw [ho 217 (by omega) (by omega) (by omega) (by omega) (by omega) (by omega)]; exact h18
  have hTm : TmA F G F1 (outG G (a_day (F 218) (F 0 (k + 1)) (tI (F 0 (k + 2)))).1 (Int32.toInt64 (zI (a_day (F 218) (F 0 (k + 1)) (tI (F 0 (k + 2)))).2))) := ⟨ho 243 (by omega) (by omega) (by omega) (by omega) (by omega) (by omega), ho 244 (by omega) (by omega) (by omega) (by omega) (by omega) (by omega), by rw [outG_ne (by omega)]⟩
  have h44 : ∀ x, 0 ≤ x → x < 4 → 0 ≤ tI (F1 244 x) ∧ tI (F1 244 x) ≤ 30 := by rw [hTm.2.1]; exact CLS_44 hT
  have he : E1.2.2.1 = E.2.2.1 := by rcases hE1 with rfl | rfl <;> rfl
  have hr1 : E1.1 ≤ E.1 + 40 ∧ E1.2.1 ≤ E.2.1 + 1000 := by
    rcases hE1 with rfl | rfl
    · omega
    · exact ⟨by show E.1 + 1 ≤ _; omega, by show E.2.1 + 6 ≤ _; omega⟩
  have sb := sb_day hI hst hcs (s := F 0 (k + 1)) (x := (tI (F 0 (k + 2))))
  obtain ⟨z, hm⟩ := ml_day (d := d + 1) (E := E1) (F := F1) (G := (outG G (a_day (F 218) (F 0 (k + 1)) (tI (F 0 (k + 2)))).1 (Int32.toInt64 (zI (a_day (F 218) (F 0 (k + 1)) (tI (F 0 (k + 2)))).2)))) hI e218 h18' hst (s0 := F 0 (k + 1)) (x := (tI (F 0 (k + 2)))) (tI_rg _) (by omega)
  rw [zI_tI] at hm
  have hw := wx_331 hc (show 0 ≤ (a_day (F 218) (F 0 (k + 1)) (tI (F 0 (k + 2)))).1 ∧ (a_day (F 218) (F 0 (k + 1)) (tI (F 0 (k + 2)))).1 ≤ 2 from co_day)
  obtain ⟨y5, y6, hr⟩ := tq_1176 (z5 := z5) (z6 := z6) hE hk (a := (a_day (F 218) (F 0 (k + 1)) (tI (F 0 (k + 2))))) (by have h : 0 ≤ (a_day (F 218) (F 0 (k + 1)) (tI (F 0 (k + 2)))).1 ∧ (a_day (F 218) (F 0 (k + 1)) (tI (F 0 (k + 2)))).1 ≤ 2 := co_day; omega) hw he e0 hm (by rw [uR_ne (by decide), uR_at, uC_ne (by decide), uC_at]) rfl (by omega)
  exact ⟨y5, y6, E1, _, _, hr, CLS_mut hC hE1 hO' ho (fun q hq => outG_ne hq) sb.1 (by omega) (by omega) ⟨fun q h1 _ _ _ => uR_ne h1, fun j hj => by rw [uR_at, uC_ne (by omega), uC_ne (by omega)], fun _ _ => rfl⟩, hr1.1, hr1.2⟩
theorem tn_37 {d L : Nat} {b k : Int} {E : EnQ} {F : Nat → Int → Int32} {G : Nat → Int → Int64} {z5 z6 : Option Value} (hC : CLS b L E F G) (hb : b < 1999000000) (hk : 0 ≤ k ∧ k + 6 ≤ L ∧ L ≤ 3072) (hd : 100 ≤ d) : TurnP d (b + 300) L k 2510 z5 z6 E F G := by
  obtain ⟨d, rfl⟩ : ∃ e, d = e + 1 := ⟨d - 1, by omega⟩
  obtain ⟨⟨hO, hcs, hsb⟩, ⟨hu, -⟩, -, ⟨hT, -, -, -, h18⟩, -, ⟨-, hE⟩⟩ := id hC
  have hD := InU_D hu
  have hI := hO.2.2.2.2
  have hst : stepsZ (F 218) < 1999000000 := by omega
  obtain ⟨E1, F1, hE1, hc, hO', ho⟩ := cl_back (d := d) (E := E) (F := F) (G := G) hO hD hcs hst (x := (tI (F 0 (k + 1)))) (tI_rg _) (by omega)
  rw [zI_tI] at hc
  have e218 : F1 218 = F 218 := ho 218 (by omega) (by omega) (by omega) (by omega) (by omega) (by omega)
  have e0 : F1 0 = F 0 := ho 0 (by omega) (by omega) (by omega) (by omega) (by omega) (by omega)
  have h18' : tI (F1 217 18) = 0 := by rw [ho 217 (by omega) (by omega) (by omega) (by omega) (by omega) (by omega)]; exact h18
  have hTm : TmA F G F1 (outG G (a_back (F 218) (tI (F 0 (k + 1)))).1 (Int32.toInt64 (zI (a_back (F 218) (tI (F 0 (k + 1)))).2))) := ⟨ho 243 (by omega) (by omega) (by omega) (by omega) (by omega) (by omega), ho 244 (by omega) (by omega) (by omega) (by omega) (by omega) (by omega), by rw [outG_ne (by omega)]⟩
  have h44 : ∀ x, 0 ≤ x → x < 4 → 0 ≤ tI (F1 244 x) ∧ tI (F1 244 x) ≤ 30 := by rw [hTm.2.1]; exact CLS_44 hT
  have he : E1.2.2.1 = E.2.2.1 := by rcases hE1 with rfl | rfl <;> rfl
  have hr1 : E1.1 ≤ E.1 + 40 ∧ E1.2.1 ≤ E.2.1 + 1000 := by
    rcases hE1 with rfl | rfl
    · omega
    · exact ⟨by show E.1 + 1 ≤ _; omega, by show E.2.1 + 6 ≤ _; omega⟩
  have sb := sb_back hI hst hcs (x := (tI (F 0 (k + 1))))
  obtain ⟨F2, hm, h5, hkm⟩ := ml_back (d := d + 1) (E := E1) (F := F1) (G := (outG G (a_back (F 218) (tI (F 0 (k + 1)))).1 (Int32.toInt64 (zI (a_back (F 218) (tI (F 0 (k + 1)))).2)))) hI e218 h18' hst (x := (tI (F 0 (k + 1)))) (tI_rg _) (by omega)
  rw [zI_tI] at hm
  have hw := wx_350 hc (show 0 ≤ (a_back (F 218) (tI (F 0 (k + 1)))).1 ∧ (a_back (F 218) (tI (F 0 (k + 1)))).1 ≤ 1 from co_back)
  obtain ⟨y5, y6, hr⟩ := tq_2510 (z5 := z5) (z6 := z6) hE hk (a := (a_back (F 218) (tI (F 0 (k + 1))))) (by have h : 0 ≤ (a_back (F 218) (tI (F 0 (k + 1)))).1 ∧ (a_back (F 218) (tI (F 0 (k + 1)))).1 ≤ 1 := co_back; omega) hw he e0 hm h5 rfl (by omega)
  exact ⟨y5, y6, E1, _, _, hr, CLS_mut hC hE1 hO' ho (fun q hq => outG_ne hq) sb.1 (by omega) (by omega) hkm, hr1.1, hr1.2⟩
theorem tn_8 {d L : Nat} {b k : Int} {E : EnQ} {F : Nat → Int → Int32} {G : Nat → Int → Int64} {z5 z6 : Option Value} (hC : CLS b L E F G) (hb : b < 1999000000) (hk : 0 ≤ k ∧ k + 6 ≤ L ∧ L ≤ 3072) (hd : 100 ≤ d) : TurnP d (b + 300) L k 766 z5 z6 E F G := by
  obtain ⟨d, rfl⟩ : ∃ e, d = e + 1 := ⟨d - 1, by omega⟩
  obtain ⟨⟨hO, hcs, hsb⟩, ⟨hu, -⟩, -, ⟨hT, -, -, -, h18⟩, -, ⟨-, hE⟩⟩ := id hC
  have hD := InU_D hu
  have hI := hO.2.2.2.2
  have hst : stepsZ (F 218) < 1999000000 := by omega
  obtain ⟨E1, F1, hE1, hc, hO', ho⟩ := cl_step (d := d + 1) (E := E) (F := F) (G := G) hO hD hst (x := (tI (F 0 (k + 1)))) (y := (tI (F 0 (k + 2)))) (tI_rg _) (tI_rg _) (by omega)
  rw [zI_tI, zI_tI] at hc
  have e218 : F1 218 = F 218 := ho 218 (by omega) (by omega) (by omega) (by omega) (by omega) (by omega)
  have e0 : F1 0 = F 0 := ho 0 (by omega) (by omega) (by omega) (by omega) (by omega) (by omega)
  have h18' : tI (F1 217 18) = 0 := by rw [ho 217 (by omega) (by omega) (by omega) (by omega) (by omega) (by omega)]; exact h18
  have hTm : TmA F G F1 G := ⟨ho 243 (by omega) (by omega) (by omega) (by omega) (by omega) (by omega), ho 244 (by omega) (by omega) (by omega) (by omega) (by omega) (by omega), rfl⟩
  have h44 : ∀ x, 0 ≤ x → x < 4 → 0 ≤ tI (F1 244 x) ∧ tI (F1 244 x) ≤ 30 := by rw [hTm.2.1]; exact CLS_44 hT
  have he : E1.2.2.1 = E.2.2.1 := by rcases hE1 with rfl | rfl <;> rfl
  have hr1 : E1.1 ≤ E.1 + 40 ∧ E1.2.1 ≤ E.2.1 + 1000 := by
    rcases hE1 with rfl | rfl
    · omega
    · exact ⟨by show E.1 + 1 ≤ _; omega, by show E.2.1 + 6 ≤ _; omega⟩
  have sb := sb_step hI hst hcs (x := (tI (F 0 (k + 1)))) (y := (tI (F 0 (k + 2))))
  have hm := ml_step (d := d + 1) (E := E1) (F := F1) (G := G) hI e218 h18' hst (x := (tI (F 0 (k + 1)))) (y := (tI (F 0 (k + 2)))) (tI_rg _) (tI_rg _) (by omega)
  rw [zI_tI, zI_tI] at hm
  obtain ⟨y5, y6, hr⟩ := tq_766 (z5 := z5) (z6 := z6) hE hk hc he e0 hm
  exact ⟨y5, y6, E1, _, _, hr, CLS_mut hC hE1 hO' ho (fun q hq => rfl) sb.1 (by omega) (by omega) KeepM_c, hr1.1, hr1.2⟩
theorem tn_10 {d L : Nat} {b k : Int} {E : EnQ} {F : Nat → Int → Int32} {G : Nat → Int → Int64} {z5 z6 : Option Value} (hC : CLS b L E F G) (hb : b < 1999000000) (hk : 0 ≤ k ∧ k + 6 ≤ L ∧ L ≤ 3072) (hd : 100 ≤ d) : TurnP d (b + 300) L k 859 z5 z6 E F G := by
  obtain ⟨d, rfl⟩ : ∃ e, d = e + 1 := ⟨d - 1, by omega⟩
  obtain ⟨⟨hO, hcs, hsb⟩, ⟨hu, -⟩, -, ⟨hT, -, -, -, h18⟩, -, ⟨-, hE⟩⟩ := id hC
  have hD := InU_D hu
  have hI := hO.2.2.2.2
  have hst : stepsZ (F 218) < 1999000000 := by omega
  obtain ⟨E1, F1, hE1, hc, hO', ho⟩ := cl_noon (d := d + 1) (E := E) (F := F) (G := G) hO hD hst (by omega)
  skip
  have e218 : F1 218 = F 218 := ho 218 (by omega) (by omega) (by omega) (by omega) (by omega) (by omega)
  have e0 : F1 0 = F 0 := ho 0 (by omega) (by omega) (by omega) (by omega) (by omega) (by omega)
  have h18' : tI (F1 217 18) = 0 := by rw [ho 217 (by omega) (by omega) (by omega) (by omega) (by omega) (by omega)]; exact h18
  have hTm : TmA F G F1 G := ⟨ho 243 (by omega) (by omega) (by omega) (by omega) (by omega) (by omega), ho 244 (by omega) (by omega) (by omega) (by omega) (by omega) (by omega), rfl⟩
  have h44 : ∀ x, 0 ≤ x → x < 4 → 0 ≤ tI (F1 244 x) ∧ tI (F1 244 x) ≤ 30 := by rw [hTm.2.1]; exact CLS_44 hT
  have he : E1.2.2.1 = E.2.2.1 := by rcases hE1 with rfl | rfl <;> rfl
  have hr1 : E1.1 ≤ E.1 + 40 ∧ E1.2.1 ≤ E.2.1 + 1000 := by
    rcases hE1 with rfl | rfl
    · omega
    · exact ⟨by show E.1 + 1 ≤ _; omega, by show E.2.1 + 6 ≤ _; omega⟩
  have sb := sb_noon hI hst hcs 
  have hm := ml_noon (d := d + 1) (E := E1) (F := F1) (G := G) hI e218 h18' hst (by omega)
  skip
  obtain ⟨y5, y6, hr⟩ := tq_859 (z5 := z5) (z6 := z6) hE hk hc he e0 hm
  exact ⟨y5, y6, E1, _, _, hr, CLS_mut hC hE1 hO' ho (fun q hq => rfl) sb.1 (by omega) (by omega) KeepM_c, hr1.1, hr1.2⟩
end S94zzzzzg
