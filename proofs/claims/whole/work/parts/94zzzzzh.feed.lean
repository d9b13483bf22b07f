/-! TOP: the frame with trays and tape given; feed -/
section S94zzzzzh
set_option linter.unusedVariables false
set_option linter.unusedSimpArgs false
theorem CLS_frameX {b : Int} {L : Nat} {E E1 : EnQ} {F F1 : Nat → Int → Int32} {G G1 : Nat → Int → Int64} (hC : CLS b L E F G)
    (hT : TrR E1 F1 G1) (ht : ∃ t, TpR F1 t)
    (h1 : ∀ q, (18 ≤ q ∧ q ≤ 29) ∨ q = 218 ∨ (221 ≤ q ∧ q ≤ 222) ∨ 247 ≤ q → F1 q = F q)
    (h2 : F1 16 2 = F 16 2 ∧ F1 16 3 = F 16 3) (h3 : F1 217 15 = F 217 15 ∧ F1 217 16 = F 217 16 ∧ F1 217 18 = F 217 18)
    (h5 : E1.2.2 = E.2.2) (h7 : E.1 ≤ E1.1) : CLS b L E1 F1 G1 := by
  obtain ⟨⟨s1, s2, s3⟩, ⟨u1, u2⟩, ⟨i1, i2⟩, ⟨-, -, t3, t4, t5⟩, ⟨r1, r2⟩, ⟨v1, v2⟩⟩ := hC
  have es : ∀ q, shx E1 q = shx E q := fun q => by unfold shx; rw [h5]
  have er : rfQ E1 18 0 = rfQ E 18 0 := by unfold rfQ; rw [h5]
  have e218 := h1 218 (by omega)
  refine ⟨⟨?_, by rw [e218]; exact s2, by rw [e218]; exact s3⟩, ⟨by rw [er]; exact u1.m h7, by rw [er]; unfold ApI; rw [h5]; exact u2⟩, ⟨fun i hi => ?_, by rw [h5]; exact i2⟩, ⟨hT, ht, by rw [h2.1, h3.1]; exact t3, by rw [h2.2, h3.2.1]; exact t4, by rw [h3.2.2]; exact t5⟩, ⟨by rw [h5]; exact r1, by rw [h5]; exact r2⟩, ⟨by omega, by rw [h5]; exact v2⟩⟩
  · rw [e218]
    refine SnO_mv s1 (by rw [h5]) (fun q hq => ⟨h1 q ?_, es q⟩)
    unfold InU at u1; omega
  · rw [h5, h1 222 (by omega)]
    rcases i1 i hi with g | g
    · exact Or.inl g
    · right
      have ga := g.2.1
      have gu := g.2.2.2.1
      refine g.m hi (by omega) h7 (by rw [h5]) (by rw [h5]) ⟨h1 221 (by omega), h1 222 (by omega)⟩ (fun q hq => ⟨h1 q ?_, es q⟩)
      unfold InU at gu; omega
theorem tn_0 {d L : Nat} {b k : Int} {E : EnQ} {F : Nat → Int → Int32} {G : Nat → Int → Int64} {z5 z6 : Option Value} (hC : CLS b L E F G) (hb : b < 1999000000) (hk : 0 ≤ k ∧ k + 6 ≤ L ∧ L ≤ 3072) (hd : 100 ≤ d) : TurnP d b L k 284 z5 z6 E F G := by
  obtain ⟨-, -, -, ⟨hT, ⟨t, ht⟩, -, -, -⟩, -, ⟨-, hE⟩⟩ := id hC
  obtain ⟨c1, c2, c3, c4⟩ := id ht
  by_cases g : t ≤ 580
  · have hc := cl_feed (d := d) (E := E) (F := F) (G := G) (x1 := F 0 (k + 1)) (x2 := F 0 (k + 2)) (x3 := F 0 (k + 3)) (x4 := F 0 (k + 4)) (x5 := F 0 (k + 5)) c2 c1 (by omega)
    rw [if_pos g] at hc
    have f217 : fdF F t (F 0 (k + 1)) (F 0 (k + 2)) (F 0 (k + 3)) (F 0 (k + 4)) (F 0 (k + 5)) 217 = F 217 := by unfold fdF; rw [uR_ne (by decide), uR_ne (by decide)]
    have hm := ml_feed (d := d) (E := E) (F := fdF F t (F 0 (k + 1)) (F 0 (k + 2)) (F 0 (k + 3)) (F 0 (k + 4)) (F 0 (k + 5))) (G := G) (x1 := F 0 (k + 1)) (x2 := F 0 (k + 2)) (x3 := F 0 (k + 3)) (x4 := F 0 (k + 4)) (x5 := F 0 (k + 5)) (t := t) (by rw [f217]; exact c3) c1 (by omega)
    rw [if_pos g] at hm
    obtain ⟨y5, y6, hr⟩ := tq_284 (z5 := z5) (z6 := z6) hE hk hc rfl (by unfold fdF; rw [uR_ne (by decide), uR_ne (by decide)]) hm
    have hk2 : ∀ q, q ≠ 16 → q ≠ 17 → q ≠ 217 → q ≠ 223 → fmF (fdF F t (F 0 (k + 1)) (F 0 (k + 2)) (F 0 (k + 3)) (F 0 (k + 4)) (F 0 (k + 5))) t (F 0 (k + 1)) (F 0 (k + 2)) (F 0 (k + 3)) (F 0 (k + 4)) (F 0 (k + 5)) q = F q := fun q a1 a2 a3 a4 => by
      unfold fmF fdF; rw [uR_ne a3, uR_ne a4, uR_ne a1, uR_ne a2]
    refine ⟨y5, y6, E, _, G, hr, CLS_frameX hC ?_ ⟨t + 20, ?_⟩ (fun q hq => hk2 q (by omega) (by omega) (by omega) (by omega)) ?_ ?_ rfl (by omega), by omega, by omega⟩
    · exact TrR_keep hT (fun _ _ => rfl) (fun q q1 q2 => ⟨hk2 q (by omega) (by omega) (by omega) (by omega), rfl⟩) ⟨hk2 243 (by omega) (by omega) (by omega) (by omega), hk2 244 (by omega) (by omega) (by omega) (by omega), rfl⟩
    · refine ⟨by omega, ?_, ?_, ?_⟩
      · unfold fmF fdF; rw [uR_ne (by decide), uR_ne (by decide), uR_at, uC_at]
      · unfold fmF; rw [uR_at, uC_at]
      · have e17 : fmF (fdF F t (F 0 (k + 1)) (F 0 (k + 2)) (F 0 (k + 3)) (F 0 (k + 4)) (F 0 (k + 5))) t (F 0 (k + 1)) (F 0 (k + 2)) (F 0 (k + 3)) (F 0 (k + 4)) (F 0 (k + 5)) 17 = f20 bcZ (F 17) t (F 0 (k + 1)) (F 0 (k + 2)) (F 0 (k + 3)) (F 0 (k + 4)) (F 0 (k + 5)) := by
          unfold fmF fdF; rw [uR_ne (by decide), uR_ne (by decide), uR_ne (by decide), uR_at]
        have e23 : fmF (fdF F t (F 0 (k + 1)) (F 0 (k + 2)) (F 0 (k + 3)) (F 0 (k + 4)) (F 0 (k + 5))) t (F 0 (k + 1)) (F 0 (k + 2)) (F 0 (k + 3)) (F 0 (k + 4)) (F 0 (k + 5)) 223 = f20 bmZ (F 223) t (F 0 (k + 1)) (F 0 (k + 2)) (F 0 (k + 3)) (F 0 (k + 4)) (F 0 (k + 5)) := by
          unfold fmF; rw [uR_ne (by decide), uR_at]; unfold fdF; rw [uR_ne (by decide), uR_ne (by decide)]
        rw [e17, e23]
        exact f20_rel c1.1 c4
    · unfold fmF fdF; rw [uR_ne (by decide), uR_ne (by decide), uR_at, uC_ne (by decide), uC_ne (by decide)]; exact ⟨rfl, rfl⟩
    · unfold fmF; rw [uR_at, f217]; rw [uC_ne (by decide), uC_ne (by decide), uC_ne (by decide), uC_ne (by decide), uC_ne (by decide), uC_ne (by decide)]; exact ⟨rfl, rfl, rfl⟩
  · have hc := cl_feed (d := d) (E := E) (F := F) (G := G) (x1 := F 0 (k + 1)) (x2 := F 0 (k + 2)) (x3 := F 0 (k + 3)) (x4 := F 0 (k + 4)) (x5 := F 0 (k + 5)) c2 c1 (by omega)
    rw [if_neg g] at hc
    have hm := ml_feed (d := d) (E := E) (F := F) (G := G) (x1 := F 0 (k + 1)) (x2 := F 0 (k + 2)) (x3 := F 0 (k + 3)) (x4 := F 0 (k + 4)) (x5 := F 0 (k + 5)) c3 c1 (by omega)
    rw [if_neg g] at hm
    obtain ⟨y5, y6, hr⟩ := tq_284 (z5 := z5) (z6 := z6) hE hk hc rfl rfl hm
    exact ⟨y5, y6, E, _, G, hr, CLS_M hC KeepM_c, by omega, by omega⟩
end S94zzzzzh
