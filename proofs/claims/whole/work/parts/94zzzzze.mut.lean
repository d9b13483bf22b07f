/-! TOP: the invariant behind a call that walks -/
section S94zzzzze
set_option linter.unusedVariables false
set_option linter.unusedSimpArgs false
theorem CLS_mut {b b1 : Int} {L : Nat} {E E1 : EnQ} {F F1 F2 : Nat → Int → Int32} {G G1 G2 : Nat → Int → Int64} {K' : Int → Int32} (hC : CLS b L E F G) (hE1 : E1 = E ∨ E1 = jE E) (hO' : SnO E F1 18 K') (ho : OthS 18 F F1) (hg : ∀ q, q ≠ 246 → G1 q = G q) (h5 : tI (K' 5) ≤ stepsZ K') (hb1 : stepsZ K' ≤ b1) (hbb : b ≤ b1) (hM : KeepM F1 G1 F2 G2) : CLS b1 L E1 (uR F2 218 K') G2 := by
  obtain ⟨⟨s1, s2, s3⟩, ⟨u1, u2⟩, ⟨i1, i2⟩, ⟨t1, ⟨t, t2⟩, t3, t4, t5⟩, ⟨r1, r2⟩, ⟨v1, v2⟩⟩ := hC
  obtain ⟨m1, m2, m3⟩ := hM
  have ee : E1.2.2 = E.2.2 ∧ E.1 ≤ E1.1 := by
    rcases hE1 with rfl | rfl
    · exact ⟨rfl, Nat.le_refl _⟩
    · exact ⟨rfl, by show E.1 ≤ E.1 + 1; omega⟩
  obtain ⟨ee, el⟩ := ee
  have es : ∀ q, shx E1 q = shx E q := fun q => by unfold shx; rw [ee]
  have er : ∀ a k, rfQ E1 a k = rfQ E a k := fun a k => by unfold rfQ; rw [ee]
  have hk : ∀ q, q ≠ 18 → q ≠ 25 → q ≠ 26 → q ≠ 27 → q ≠ 28 → q ≠ 29 → q ≠ 217 → q ≠ 218 → q ≠ 219 → q ≠ 220 → ¬ (224 ≤ q ∧ q ≤ 242) → uR F2 218 K' q = F q := fun q a1 a2 a3 a4 a5 a6 a7 a8 a9 a10 a11 => by
    rw [uR_ne a8, m1 q a7 a9 a10 a11, ho q a1 a2 a3 a4 a5 a6]
  have hk1 : ∀ q, q ≠ 217 → q ≠ 218 → q ≠ 219 → q ≠ 220 → ¬ (224 ≤ q ∧ q ≤ 242) → uR F2 218 K' q = F1 q := fun q a7 a8 a9 a10 a11 => by
    rw [uR_ne a8, m1 q a7 a9 a10 a11]
  have h7 : ∀ j, j = 7 ∨ j = 15 ∨ j = 16 ∨ j = 18 → uR F2 218 K' 217 j = F 217 j := fun j hj => by
    rw [uR_ne (by omega), m2 j hj, ho 217 (by omega) (by omega) (by omega) (by omega) (by omega) (by omega)]
  have h16 : uR F2 218 K' 16 = F 16 := hk 16 (by omega) (by omega) (by omega) (by omega) (by omega) (by omega) (by omega) (by omega) (by omega) (by omega) (by omega)
  have hG : ∀ q, q ≠ 217 → q ≠ 246 → G2 q = G q := fun q a b => (m3 q a).trans (hg q b)
  refine ⟨⟨?_, by rw [uR_at]; exact h5, by rw [uR_at]; exact hb1⟩, ⟨by rw [er]; exact u1.m el, by rw [er]; unfold ApI; rw [ee]; exact u2⟩, ⟨fun i hi => ?_, by rw [ee]; exact i2⟩, ⟨?_, ⟨t, ?_⟩, by rw [h16, h7 15 (by omega)]; exact t3, by rw [h16, h7 16 (by omega)]; exact t4, by rw [h7 18 (by omega)]; exact t5⟩, ⟨by rw [ee]; exact r1, by rw [ee]; exact r2⟩, ⟨by omega, by rw [ee]; exact v2⟩⟩
  · rw [uR_at]
    refine SnO_mv hO' (by rw [ee]) (fun q hq => ⟨hk1 q ?_ ?_ ?_ ?_ ?_, es q⟩) <;> (unfold InU at u1; omega)
  · rw [ee]
    rcases i1 i hi with ⟨g, g'⟩ | g
    · left; exact ⟨g, by rw [hk 222 (by omega) (by omega) (by omega) (by omega) (by omega) (by omega) (by omega) (by omega) (by omega) (by omega) (by omega)]; exact g'⟩
    · right
      have ga := g.2.1
      have gu := g.2.2.2.1
      refine g.m hi hbb el (by rw [ee]) (by rw [ee]) ⟨hk 221 (by omega) (by omega) (by omega) (by omega) (by omega) (by omega) (by omega) (by omega) (by omega) (by omega) (by omega), hk 222 (by omega) (by omega) (by omega) (by omega) (by omega) (by omega) (by omega) (by omega) (by omega) (by omega) (by omega)⟩ (fun q hq => ⟨hk q ?_ ?_ ?_ ?_ ?_ ?_ ?_ ?_ ?_ ?_ ?_, es q⟩) <;> (unfold InU at gu; omega)
  · refine TrR_keep t1 (fun t _ => by rw [ee]) (fun q q1 q2 => ⟨hk q ?_ ?_ ?_ ?_ ?_ ?_ ?_ ?_ ?_ ?_ ?_, hG q ?_ ?_⟩) ⟨hk 243 ?_ ?_ ?_ ?_ ?_ ?_ ?_ ?_ ?_ ?_ ?_, hk 244 ?_ ?_ ?_ ?_ ?_ ?_ ?_ ?_ ?_ ?_ ?_, hG 245 ?_ ?_⟩ <;> omega
  · obtain ⟨c1, c2, c3, c4⟩ := t2
    refine ⟨c1, by rw [h16]; exact c2, by rw [h7 7 (by omega)]; exact c3, ?_⟩
    rw [hk 17 (by omega) (by omega) (by omega) (by omega) (by omega) (by omega) (by omega) (by omega) (by omega) (by omega) (by omega), hk 223 (by omega) (by omega) (by omega) (by omega) (by omega) (by omega) (by omega) (by omega) (by omega) (by omega) (by omega)]
    exact c4
end S94zzzzze
