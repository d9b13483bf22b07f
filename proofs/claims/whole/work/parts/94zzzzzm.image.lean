/-! TOP: image -/
section S94zzzzzm
set_option linter.unusedVariables false
set_option linter.unusedSimpArgs false
theorem tk_SnR {F F1 : Nat → Int → Int32} {a : Nat} {K : Int → Int32} (h : ∀ q, a ≤ q → q ≤ a + 11 → F1 q = F q) (hN : SnR F a K) : SnR F1 a K := by
  unfold SnR
  rw [h a (by omega) (by omega), h (a + 7) (by omega) (by omega), h (a + 8) (by omega) (by omega), h (a + 9) (by omega) (by omega), h (a + 10) (by omega) (by omega), h (a + 11) (by omega) (by omega)]
  exact hN
theorem PlS_mv {E E1 : EnQ} {p : Nat} (h : ∀ q, p ≤ q → q ≤ p + 5 → shx E1 q = shx E q) (hP : PlS E p) : PlS E1 p := by
  unfold PlS at hP ⊢
  rw [h p (by omega) (by omega), h (p + 1) (by omega) (by omega), h (p + 2) (by omega) (by omega), h (p + 3) (by omega) (by omega), h (p + 4) (by omega) (by omega), h (p + 5) (by omega) (by omega)]
  exact hP
theorem SnS_mv {E E1 : EnQ} {a : Nat} (h : ∀ q, a ≤ q → q ≤ a + 11 → shx E1 q = shx E q) (hP : SnS E a) : SnS E1 a := by
  unfold SnS at hP ⊢
  rw [h a (by omega) (by omega), h (a + 7) (by omega) (by omega), h (a + 8) (by omega) (by omega), h (a + 9) (by omega) (by omega), h (a + 10) (by omega) (by omega), h (a + 11) (by omega) (by omega)]
  exact hP
theorem sl_at {r k : Int → Int32} {x j : Int} (h : 0 ≤ j ∧ j < 408) : slR r k x 408 (408 * x + j) = k j := by
  unfold slR
  rw [if_pos (by omega), show 408 * x + j - 408 * x = j by omega]
theorem sl_ne {r k : Int → Int32} {x i j : Int} (hi : i ≠ x) (h : 0 ≤ j ∧ j < 408) : slR r k x 408 (408 * i + j) = r (408 * i + j) := by
  unfold slR
  rw [if_neg (by omega)]
/-- where an image lies, the memory behind the class -/
theorem im_facts {b : Int} {E : EnQ} {F : Nat → Int → Int32} {K : Int → Int32} {x : Int} (hE : 247 ≤ E.1) (hO : SnO E F 18 K) (hu : InU E (rfQ E 18 0)) (hap : ApI E (rfQ E 18 0)) (him : ImR E F b) (hx : 0 ≤ x ∧ x < 3) : ∃ a E1 Fc, imA E x = a ∧ uE (imE E x) (imA E x) 0 (rfQ (imE E x) 18 0) = E1 ∧ tkF (imF E F x) (imA E x) 18 = Fc ∧
    (247 ≤ a ∧ a + 12 ≤ E1.1 ∧ E.1 ≤ E1.1 ∧ E1.1 ≤ E.1 + 12 ∧ E1.2.1 ≤ E.2.1 + 405) ∧ (E1.2.2.2 42 x = a ∧ ∀ i, i ≠ x → E1.2.2.2 42 i = E.2.2.2 42 i) ∧ (∀ q, q ≠ 42 → q ≠ a → q < E.1 → E1.2.2.2 q = E.2.2.2 q) ∧ rfQ E1 a 0 = rfQ E 18 0 ∧ (∀ q, q < E.1 → E1.2.2.1 q = E.2.2.1 q) ∧
    (∀ q, q < E.1 → q < a ∨ a + 12 ≤ q → Fc q = F q) ∧ SnS E1 a ∧ SnR Fc a K ∧
    (∀ i : Nat, i < 3 → (i : Int) ≠ x → E.2.2.2 42 (i : Int) ≠ 0 → (E.2.2.2 42 (i : Int) + 12 ≤ a ∨ a + 12 ≤ E.2.2.2 42 (i : Int)) ∧ (rfQ E (E.2.2.2 42 (i : Int)) 0 + 6 ≤ a ∨ a + 12 ≤ rfQ E (E.2.2.2 42 (i : Int)) 0)) ∧ (rfQ E 18 0 + 6 ≤ a ∨ a + 12 ≤ rfQ E 18 0) := by
  obtain ⟨hS, hP, hR, hN, hI⟩ := hO
  have h5 := hI.1.2.2.2.2.2.1.1
  by_cases c : E.2.2.2 42 x = 0
  · have ea : imA E x = E.1 := if_pos c
    have ee : imE E x = uE (snE E) 42 x E.1 := if_pos c
    have ef : imF E F x = snF E F := if_pos c
    rw [ea, ee, ef]
    have hf : ∀ q, q < E.1 → snF E F q = F q := fun q z => if_neg (by omega)
    have e42 : (uE (uE (snE E) 42 x E.1) E.1 0 (rfQ (uE (snE E) 42 x E.1) 18 0)).2.2.2 42 = uC (E.2.2.2 42) x E.1 := by
      show uR (uR (uR E.2.2.2 E.1 (fun _ => E.1 + 1)) 42 (uC ((uR E.2.2.2 E.1 (fun _ => E.1 + 1)) 42) x E.1)) E.1 _ 42 = _
      rw [uR_ne (by omega), uR_at, uR_ne (by omega)]
    have e18 : rfQ (uE (snE E) 42 x E.1) 18 0 = rfQ E 18 0 := by
      show uR (uR E.2.2.2 E.1 (fun _ => E.1 + 1)) 42 (uC ((uR E.2.2.2 E.1 (fun _ => E.1 + 1)) 42) x E.1) 18 0 = _
      rw [uR_ne (by omega), uR_ne (by omega)]; rfl
    refine ⟨E.1, _, _, rfl, rfl, rfl, ⟨hE, Nat.le_refl _, Nat.le_add_right _ _, Nat.le_refl _, Nat.le_refl _⟩, ⟨by rw [e42, uC_at], fun i hi => by rw [e42, uC_ne hi]⟩, fun q z1 z2 z3 => ?_, ?_, fun q hq => ?_, fun q z1 z2 => ?_, ?_, ?_, fun i hi hn hz => ?_, ?_⟩
    · show uR (uR (uR E.2.2.2 E.1 (fun _ => E.1 + 1)) 42 _) E.1 _ q = _
      rw [uR_ne z2, uR_ne z1, uR_ne z2]
    · show uR (uR (uR E.2.2.2 E.1 (fun _ => E.1 + 1)) 42 _) E.1 (uC _ 0 (rfQ (uE (snE E) 42 x E.1) 18 0)) E.1 0 = _
      rw [uR_at, uC_at, e18]
    · show (if E.1 ≤ q ∧ q < E.1 + 12 then _ else E.2.2.1 q) = _
      rw [if_neg (by omega)]
    · rw [tkF_ne (by omega)]; exact hf q z1
    · exact SnS_mv (fun q z1 z2 => by rfl) (SnS_new hE)
    · exact SnR_tk (tk_SnR (fun q z1 z2 => hf q (by omega)) hN) h5
    · rcases him.1 i hi with z | z
      · exact absurd z.1 hz
      · have z2 := z.2.1
        have z4 := z.2.2.2.1
        refine ⟨by omega, ?_⟩
        unfold InU at z4; omega
    · unfold InU at hu; omega
  · have ea : imA E x = E.2.2.2 42 x := if_neg c
    have ee : imE E x = E := if_neg c
    have ef : imF E F x = F := if_neg c
    rw [ea, ee, ef]
    have hxn : ((x.toNat : Nat) : Int) = x := by omega
    have hIm : ImO E F b x.toNat (E.2.2.2 42 x) := by
      have := him.1 x.toNat (by omega)
      rw [hxn] at this
      rcases this with z | z
      · exact absurd z.1 c
      · exact z
    obtain ⟨-, m2, m3, m4, m5, -, -⟩ := hIm
    generalize hA : E.2.2.2 42 x = a at *
    refine ⟨a, _, _, rfl, rfl, rfl, ⟨m2.1, m2.2, Nat.le_refl _, Nat.le_add_right _ _, Nat.le_add_right _ _⟩, ⟨?_, fun i hi => ?_⟩, fun q z1 z2 z3 => ?_, ?_, fun q hq => rfl, fun q z1 z2 => tkF_ne (by omega), m3.1, ?_, fun i hi hn hz => ?_, ?_⟩
    · show uR E.2.2.2 a _ 42 x = a
      rw [uR_ne (by omega)]; exact hA
    · show uR E.2.2.2 a _ 42 i = _
      rw [uR_ne (by omega)]
    · show uR E.2.2.2 a _ q = _
      exact uR_ne z2
    · show uR E.2.2.2 a (uC (E.2.2.2 a) 0 (rfQ E 18 0)) a 0 = _
      rw [uR_at, uC_at]
    · exact SnR_tk hN h5
    · have h2 := him.2 i x.toNat hi (by omega) (by omega) hz (by rw [hxn, hA]; omega)
      rw [hxn, hA] at h2
      refine ⟨h2, ?_⟩
      rcases him.1 i hi with z | z
      · exact absurd z.1 hz
      · have z5 := z.2.2.2.2.1 x.toNat (by omega) (by rw [hxn, hA]; omega)
        rw [hxn, hA] at z5
        exact z5
    · have h2 := hap x.toNat (by omega) (by rw [hxn, hA]; omega)
      rw [hxn, hA] at h2
      exact h2
theorem imM_ne {F : Nat → Int → Int32} {x : Int} {q : Nat} (h : q ≠ 217 ∧ q ≠ 221 ∧ q ≠ 222) : imM F x q = F q := by
  unfold imM; rw [uR_ne h.2.1, uR_ne h.2.2, uR_ne h.1]
theorem im_in {b : Int} {E : EnQ} {F : Nat → Int → Int32} (him : ImR E F b) {x : Int} (hx : 0 ≤ x ∧ x < 3) : (E.2.2.2 42 x = 0 ∧ F 222 x = zI 0) ∨ ImO E F b x.toNat (E.2.2.2 42 x) := by
  have := him.1 x.toNat (by omega)
  rw [show ((x.toNat : Nat) : Int) = x by omega] at this
  exact this
theorem tn_54 {d L : Nat} {b k : Int} {E : EnQ} {F : Nat → Int → Int32} {G : Nat → Int → Int64} {z5 z6 : Option Value} (hC : CLS b L E F G) (hb : b < 1999000000) (hk : 0 ≤ k ∧ k + 6 ≤ L ∧ L ≤ 3072) (hd : 100 ≤ d) : TurnP d b L k 3643 z5 z6 E F G := by
  obtain ⟨d, rfl⟩ : ∃ e, d = e + 1 := ⟨d - 1, by omega⟩
  obtain ⟨⟨hO, hcs, hsb⟩, ⟨hu, hap⟩, him, ⟨hT, ⟨t, ht⟩, t3, t4, h18⟩, ⟨r1, r2⟩, ⟨v1, hE⟩⟩ := id hC
  generalize hx : tI (F 0 (k + 1)) = x
  have ex : F 0 (k + 1) = zI x := by rw [← hx, zI_tI]
  have hxr : -2147483648 ≤ x ∧ x ≤ 2147483647 := by rw [← hx]; exact tI_rg _
  have hc := cl_image (d := d) (E := E) (F := F) (G := G) v1 (x := x) hxr (fun h => by
    rcases im_in him h with z | z
    · exact Or.inl z.1
    · exact Or.inr ⟨z.2.2.1.1, z.2.1.1⟩) (by omega)
  by_cases c : 0 ≤ x ∧ x < 3
  · have ha : a_image x = 0 := if_pos c
    rw [if_pos ha] at hc
    obtain ⟨a, E1, Fc, f1, f2, f3, ⟨fa, fb, fc, fd, fe⟩, ⟨f5, f6⟩, f7, f8, f9, f10, f11, f12, f13, f14⟩ := im_facts v1 hO hu hap him c
    rw [f2, f3] at hc
    have hw := wx_366_0 hc
    have hm := ml_image (d := d + 1) (E := E1) (F := Fc) (G := G) (x := x) hxr (by omega)
    rw [if_pos ha] at hm
    rw [← ex] at hw hm
    have k1 : ∀ q, q < 247 → Fc q = F q := fun q z => f10 q (by omega) (by omega)
    obtain ⟨y5, y6, hr⟩ := tq_3643x (z5 := z5) (z6 := z6) hE hk hw (f9 0 (by omega)) (k1 0 (by omega)) hm (by unfold imM; rw [uR_ne (by decide), uR_ne (by decide), uR_at, uC_at]) (by omega)
    have hxn : ((x.toNat : Nat) : Int) = x := by omega
    have kk : ∀ q, q ≠ 217 → q ≠ 221 → q ≠ 222 → q < E.1 → q < a ∨ a + 12 ≤ q → imM Fc x q = F q := fun q z1 z2 z3 z4 z5 => by rw [imM_ne ⟨z1, z2, z3⟩]; exact f10 q z4 z5
    have k217 : imM Fc x 217 = uC (F 217) 5 (zI 0) := by unfold imM; rw [uR_ne (by decide), uR_ne (by decide), uR_at, k1 217 (by omega)]
    have k221 : imM Fc x 221 = slR (F 221) (F 218) x 408 := by unfold imM; rw [uR_at, k1 221 (by omega), k1 218 (by omega)]
    have k222 : imM Fc x 222 = uC (F 222) x (zI 1) := by unfold imM; rw [uR_ne (by decide), uR_at, k1 222 (by omega)]
    have e218 := kk 218 (by omega) (by omega) (by omega) (by omega) (by omega)
    have er : rfQ E1 18 0 = rfQ E 18 0 := by unfold rfQ; rw [f7 18 (by omega) (by omega) (by omega)]
    have hfS : ∀ q, 247 ≤ q → q < E.1 → E1.2.2.1 q = E.2.2.1 q := fun q _ z => f9 q z
    have hpE : ∀ q, rfQ E 18 0 ≤ q → q ≤ rfQ E 18 0 + 5 → imM Fc x q = F q ∧ shx E1 q = shx E q := fun q z1 z2 => by
      refine ⟨kk q ?_ ?_ ?_ ?_ ?_, shx_k hfS ?_⟩ <;> (unfold InU at hu; omega)
    have hap1 : ∀ p : Nat, ApI E p → (p + 6 ≤ a ∨ a + 12 ≤ p) → ApI E1 p := fun p z1 z2 i hi hn => by
      by_cases e : (i : Int) = x
      · rw [e, f5]; exact z2
      · rw [f6 _ e] at hn ⊢; exact z1 i hi hn
    obtain ⟨hS, hP, hR, hN, hI⟩ := id hO
    have hal : AlK (imK (imM Fc x) x.toNat) (F 218) := fun j j0 j1 => by
      unfold imK; rw [k221, hxn]; exact sl_at ⟨j0, j1⟩
    have hOa : SnO E1 (imM Fc x) a (F 218) := by
      refine ⟨f11, ?_, ?_, tk_SnR (fun q z1 z2 => imM_ne (by omega)) f12, hI⟩
      · rw [f8]; exact PlS_mv (fun q z1 z2 => (hpE q z1 z2).2) hP
      · rw [f8]; exact PlR_move hI (fun q z1 z2 => (hpE q z1 z2).1) (fun _ _ => rfl) hR
    refine ⟨y5, y6, _, _, _, hr, CLS_new hC ⟨?_, by rw [e218]; exact hcs, by rw [e218]; exact hsb⟩ ⟨by rw [er]; exact hu.m fc, by rw [er]; exact hap1 _ hap f14⟩ ⟨fun i hi => ?_, fun i j hi hj hij hin hjn => ?_⟩ (fun q hq => kk q (by omega) (by omega) (by omega) (by omega) (by omega)) (fun _ _ => rfl) ⟨f7 43 (by omega) (by omega) (by omega), f7 49 (by omega) (by omega) (by omega), f7 173 (by omega) (by omega) (by omega)⟩ (f9 0 (by omega)) fc ⟨⟨t, ?_⟩, ?_, ?_, ?_⟩, by omega, by omega⟩
    · rw [e218]
      refine SnO_mv hO (f7 18 (by omega) (by omega) (by omega)) (fun q hq => ?_)
      rcases hq with hq | hq
      · exact ⟨kk q (by omega) (by omega) (by omega) (by omega) (by omega), shx_k hfS (by omega)⟩
      · exact hpE q hq.1 hq.2
    · by_cases e : (i : Int) = x
      · right
        have ei : i = x.toNat := by omega
        rw [e, f5]
        refine ⟨by rw [k222, e, uC_at], ⟨fa, fb⟩, ?_, by rw [f8]; exact hu.m fc, by rw [f8]; exact hap1 _ hap f14, ?_, ?_⟩
        · rw [ei]; exact al_SnO hal hOa
        · rw [ei, hal 5 (by omega) (by omega), al_steps hal hI.1]; exact hcs
        · rw [ei, al_steps hal hI.1]; exact hsb
      · rw [f6 _ e, k222, uC_ne e]
        rcases him.1 i hi with g | g
        · exact Or.inl g
        · right
          have ga := g.2.1
          have gu := g.2.2.2.1
          have gp := g.2.2.2.2.1
          have hz : E.2.2.2 42 (i : Int) ≠ 0 := by omega
          obtain ⟨w1, w2⟩ := f13 i hi e hz
          refine ImO_mv g (by omega) fc (hap1 _ gp w2) (f7 _ (by omega) (by omega) (by omega)) (by rw [k222, uC_ne e]) (fun j j0 j1 => ?_) (fun q hq => ⟨kk q ?_ ?_ ?_ ?_ ?_, shx_k hfS ?_⟩)
          · unfold imK; rw [k221]; exact sl_ne e ⟨j0, j1⟩
          all_goals (unfold InU at gu; omega)
    · by_cases e : (i : Int) = x
      · have e' : (j : Int) ≠ x := by omega
        rw [f6 _ e'] at hjn ⊢
        rw [e, f5]
        have := (f13 j hj e' hjn).1
        omega
      · rw [f6 _ e] at hin ⊢
        by_cases e' : (j : Int) = x
        · rw [e', f5]; exact (f13 i hi e hin).1
        · rw [f6 _ e'] at hjn ⊢
          exact him.2 i j hi hj hij hin hjn
    · obtain ⟨c1, c2, c3, c4⟩ := ht
      refine ⟨c1, by rw [kk 16 (by omega) (by omega) (by omega) (by omega) (by omega)]; exact c2, by rw [k217, uC_ne (by decide)]; exact c3, ?_⟩
      rw [kk 17 (by omega) (by omega) (by omega) (by omega) (by omega), kk 223 (by omega) (by omega) (by omega) (by omega) (by omega)]; exact c4
    · rw [kk 16 (by omega) (by omega) (by omega) (by omega) (by omega), k217, uC_ne (by decide)]; exact t3
    · rw [kk 16 (by omega) (by omega) (by omega) (by omega) (by omega), k217, uC_ne (by decide)]; exact t4
    · rw [k217, uC_ne (by decide)]; exact h18
  · have ha : a_image x = 1 := if_neg c
    have hn : ¬ a_image x = 0 := by omega
    rw [if_neg hn] at hc
    have hw := wx_366_1 hc
    have hm := ml_image (d := d + 1) (E := jE E) (F := F) (G := G) (x := x) hxr (by omega)
    rw [if_neg hn] at hm
    rw [← ex] at hw hm
    obtain ⟨y5, y6, hr⟩ := tq_3643 (z5 := z5) (z6 := z6) hE hk hw rfl rfl hm (by rw [uR_at, uC_at]) (by omega)
    exact ⟨y5, y6, _, _, _, hr, CLS_M (CLS_C hC KeepC_j) KeepM_c, by show E.1 + 1 ≤ _; omega, by show E.2.1 + 6 ≤ _; omega⟩
end S94zzzzzm
