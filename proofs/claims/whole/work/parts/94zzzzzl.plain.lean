/-! TOP: the invariant anew; plain -/
section S94zzzzzl
set_option linter.unusedVariables false
set_option linter.unusedSimpArgs false
theorem tq_357x {d L : Nat} {k : Int} {E : EnQ} {F : Nat → Int → Int32} {G : Nat → Int → Int64} {z5 z6 : Option Value} (hE : E.2.2.1 0 = (2, 9, L)) (hk : 0 ≤ k ∧ k + 6 ≤ L ∧ L ≤ 3072) {E1 : EnQ} {F1 F2 : Nat → Int → Int32} {G1 G2 : Nat → Int → Int64} {a : Int × Int} (ha : 0 ≤ a.1 ∧ a.1 ≤ 5) (hc : callP MP d 319 [.ref 16, .int (F 0 (k + 1)), .ref 246] (mk E F G) = some (Sum.inl (some (.int (zI a.1))), mk E1 F1 (outG G1 a.1 (Int32.toInt64 (zI a.2))))) (he : E1.2.2.1 0 = E.2.2.1 0) (hf : F1 0 = F 0) (hm : callP MP d 187 [.ref 217, .int (F 0 (k + 1))] (mk E1 F1 (outG G1 a.1 (Int32.toInt64 (zI a.2)))) = some (Sum.inl (some (.int (zI a.2))), mk E1 F2 G2)) (h5 : F2 217 5 = zI a.1) (hg : G2 246 = outG G1 a.1 (Int32.toInt64 (zI a.2)) 246) (hd : 1 ≤ d) : ∃ y5 y6, runP MP d 368 (357, lwL (zI k) z5 z6, [], mk E F G) = runP MP d 368 (3740, lwL (zI k) y5 y6, [], mk E1 F2 G2) := by
  refine ⟨some (.int (zI a.1)), some (.int (zI a.2)), ?_⟩
  unfold lwL
  rw [q_368_357]
  simp only [li_1, li_2, li_3]
  rw [ald0 hE (by omega) (by omega)]
  rw [cI_ret hc]
  rw [ald0 (E := E1) (F := F1) (L := L) (by rw [he]; exact hE) (by omega) (by omega), hf]
  rw [cI_ret hm]
  rw [cI_ret (ct_185 hd)]
  rw [tl_lg ha h5 (fun h => by rw [hg]; exact outG_at h)]
  exact q_368_410
theorem tq_3643x {d L : Nat} {k : Int} {E : EnQ} {F : Nat → Int → Int32} {G : Nat → Int → Int64} {z5 z6 : Option Value} (hE : E.2.2.1 0 = (2, 9, L)) (hk : 0 ≤ k ∧ k + 6 ≤ L ∧ L ≤ 3072) {E1 : EnQ} {F1 F2 : Nat → Int → Int32} {G1 G2 : Nat → Int → Int64} {v : Int32} (hc : callP MP d 366 [.ref 16, .int (F 0 (k + 1))] (mk E F G) = some (Sum.inl (some (.int v)), mk E1 F1 G1)) (he : E1.2.2.1 0 = E.2.2.1 0) (hf : F1 0 = F 0) (hm : callP MP d 316 [.ref 217, .int (F 0 (k + 1))] (mk E1 F1 G1) = some (Sum.inl none, mk E1 F2 G2)) (h5 : F2 217 5 = v) (hd : 1 ≤ d) : ∃ y5 y6, runP MP d 368 (3643, lwL (zI k) z5 z6, [], mk E F G) = runP MP d 368 (3740, lwL (zI k) y5 y6, [], mk E1 F2 G2) := by
  refine ⟨some (.int v), z6, ?_⟩
  unfold lwL
  rw [q_368_3643]
  try simp only [li_1, li_2, li_3, li_4, li_5]
  rw [ald0 hE (by omega) (by omega)]
  rw [cI_ret hc]
  rw [ald0 (E := E1) (F := F1) (L := L) (by rw [he]; exact hE) (by omega) (by omega), hf]
  rw [cV_ret hm]
  rw [cI_ret (ct_185 hd)]
  exact if_pos (decide_eq_true h5)
theorem shx_k {E E1 : EnQ} (hR : ∀ q, 247 ≤ q → q < E.1 → E1.2.2.1 q = E.2.2.1 q) {q : Nat} (h : (16 ≤ q ∧ q ≤ 246) ∨ (247 ≤ q ∧ q < E.1)) : shx E1 q = shx E q := by
  rcases h with h | h
  · exact shx_lo h
  · rw [shx_hi h.1, shx_hi h.1]; exact hR q h.1 h.2
/-- an image stays as it is -/
theorem ImO_mv {E E1 : EnQ} {F F1 : Nat → Int → Int32} {b b1 : Int} {i a : Nat} (h : ImO E F b i a) (hb : b ≤ b1) (he : E.1 ≤ E1.1) (hap : ApI E1 (rfQ E a 0)) (hr : E1.2.2.2 a = E.2.2.2 a) (h2 : F1 222 (i : Int) = F 222 (i : Int)) (hk : AlK (imK F1 i) (imK F i))
    (hq : ∀ q, (a ≤ q ∧ q ≤ a + 11) ∨ (rfQ E a 0 ≤ q ∧ q ≤ rfQ E a 0 + 5) → F1 q = F q ∧ shx E1 q = shx E q) : ImO E1 F1 b1 i a := by
  obtain ⟨a1, a2, a3, a4, a5, a6, a7⟩ := h
  have er : rfQ E1 a 0 = rfQ E a 0 := by unfold rfQ; rw [hr]
  have hA := a3.2.2.2.2.1
  refine ⟨by rw [h2]; exact a1, ⟨a2.1, by omega⟩, al_SnO hk (SnO_mv a3 hr hq), by rw [er]; exact a4.m he, by rw [er]; exact hap, ?_, ?_⟩
  · rw [hk 5 (by omega) (by omega), al_steps hk hA]; exact a6
  · rw [al_steps hk hA]; omega
theorem ImR_keep {E E1 : EnQ} {F F1 : Nat → Int → Int32} {b b1 : Int} (h : ImR E F b) (hb : b ≤ b1) (he : E.1 ≤ E1.1) (h42 : E1.2.2.2 42 = E.2.2.2 42) (hR : ∀ q, 247 ≤ q → q < E.1 → E1.2.2.2 q = E.2.2.2 q) (hS : ∀ q, 247 ≤ q → q < E.1 → E1.2.2.1 q = E.2.2.1 q)
    (hF : ∀ q, (19 ≤ q ∧ q ≤ 24) ∨ q = 221 ∨ q = 222 ∨ (247 ≤ q ∧ q < E.1) → F1 q = F q) : ImR E1 F1 b1 := by
  obtain ⟨i1, i2⟩ := h
  refine ⟨fun i hi => ?_, by rw [h42]; exact i2⟩
  rw [h42, hF 222 (by omega)]
  rcases i1 i hi with g | g
  · exact Or.inl g
  · right
    have ga := g.2.1
    have gu := g.2.2.2.1
    have gp := g.2.2.2.2.1
    have ek : imK F1 i = imK F i := by unfold imK; rw [hF 221 (by omega)]
    refine ImO_mv g hb he (by unfold ApI; rw [h42]; exact gp) (hR _ (by omega) (by omega)) (by rw [hF 222 (by omega)]) (by rw [ek]; exact fun _ _ _ => rfl) (fun q hq => ⟨hF q ?_, shx_k hS ?_⟩)
    · unfold InU at gu; omega
    · unfold InU at gu; omega
theorem CLS_new {b b1 : Int} {L : Nat} {E E1 : EnQ} {F F1 : Nat → Int → Int32} {G G1 : Nat → Int → Int64} (hC : CLS b L E F G) (hO : SnO E1 F1 18 (F1 218) ∧ tI (F1 218 5) ≤ stepsZ (F1 218) ∧ stepsZ (F1 218) ≤ b1) (hU : InU E1 (rfQ E1 18 0) ∧ ApI E1 (rfQ E1 18 0)) (hI : ImR E1 F1 b1)
    (hF : ∀ q, (209 ≤ q ∧ q ≤ 216) ∨ q = 243 ∨ q = 244 → F1 q = F q) (hG : ∀ q, (209 ≤ q ∧ q ≤ 216) ∨ q = 245 → G1 q = G q) (hR : E1.2.2.2 43 = E.2.2.2 43 ∧ E1.2.2.2 49 = E.2.2.2 49 ∧ E1.2.2.2 173 = E.2.2.2 173) (hS : E1.2.2.1 0 = E.2.2.1 0) (hz : E.1 ≤ E1.1)
    (hT : (∃ t, TpR F1 t) ∧ F1 16 2 = F1 217 15 ∧ F1 16 3 = F1 217 16 ∧ tI (F1 217 18) = 0) : CLS b1 L E1 F1 G1 := by
  obtain ⟨-, -, -, ⟨t1, -, -, -, -⟩, ⟨r1, r2⟩, ⟨v1, v2⟩⟩ := hC
  refine ⟨hO, hU, hI, ⟨?_, hT⟩, ⟨by rw [hR.2.2]; exact r1, by rw [hR.2.1]; exact r2⟩, ⟨by omega, by rw [hS]; exact v2⟩⟩
  exact TrR_keep t1 (fun t _ => by rw [hR.1]) (fun q q1 q2 => ⟨hF q (by omega), hG q (by omega)⟩) ⟨hF 243 (by omega), hF 244 (by omega), hG 245 (by omega)⟩
theorem bgF_ne {F : Nat → Int → Int32} {a p q : Nat} (h : q ≠ a ∧ q ≠ a + 9 ∧ q ≠ a + 10 ∧ q ≠ a + 11) : bgF F a p q = F q := by
  unfold bgF; rw [uR_ne (by omega), uR_ne (by omega), uR_ne (by omega), uR_ne (by omega)]
theorem pl_E {E : EnQ} : (plE (rdE E)).1 = E.1 + 7 ∧ (plE (rdE E)).2.1 = E.2.1 + 193 ∧ (∀ q, q < E.1 → (plE (rdE E)).2.2.1 q = E.2.2.1 q) ∧ (∀ q, q ≠ E.1 → (plE (rdE E)).2.2.2 q = E.2.2.2 q) := by
  refine ⟨rfl, ?_, fun q hq => ?_, fun q hq => ?_⟩
  · show E.2.1 + 8 + 185 = _; omega
  · show (if E.1 + 1 ≤ q ∧ q < E.1 + 1 + 6 then _ else (if q = E.1 then _ else E.2.2.1 q)) = _
    rw [if_neg (by omega), if_neg (by omega)]
  · show uR E.2.2.2 E.1 (fun _ => 17) q = _
    exact uR_ne hq
theorem TpR_0 {F : Nat → Int → Int32} (h1 : F 16 1 = zI 0) (h2 : F 217 7 = zI 0) : ∃ t, TpR F t := ⟨0, by omega, h1, h2, fun i i0 i1 => by omega⟩
theorem st_nn {E : EnQ} {F : Nat → Int → Int32} {a : Nat} {K : Int → Int32} (hO : SnO E F a K) (h : tI (K 5) ≤ stepsZ K) : 0 ≤ stepsZ K := by
  have := hO.2.2.2.2.1.2.2.2.2.2.1
  omega
theorem tn_1 {d L : Nat} {b k : Int} {E : EnQ} {F : Nat → Int → Int32} {G : Nat → Int → Int64} {z5 z6 : Option Value} (hC : CLS b L E F G) (hb : b < 1999000000) (hk : 0 ≤ k ∧ k + 6 ≤ L ∧ L ≤ 3072) (hd : 100 ≤ d) : TurnP d b L k 357 z5 z6 E F G := by
  obtain ⟨d, rfl⟩ : ∃ e, d = e + 1 := ⟨d - 1, by omega⟩
  obtain ⟨⟨hO, hcs, hsb⟩, ⟨hu, hap⟩, him, ⟨hT, ⟨t, ht⟩, t3, t4, h18⟩, ⟨r1, r2⟩, ⟨v1, hE⟩⟩ := id hC
  obtain ⟨c1, c2, c3, c4⟩ := id ht
  have hnn := st_nn hO hcs
  generalize hx : tI (F 0 (k + 1)) = x
  have ex : F 0 (k + 1) = zI x := by rw [← hx, zI_tI]
  have hxr : -2147483648 ≤ x ∧ x ≤ 2147483647 := by rw [← hx]; exact tI_rg _
  obtain ⟨e1, e2, e3, e4⟩ := pl_E (E := E)
  by_cases g : 0 ≤ x ∧ x ≤ t
  · cases ha : a_plain F x with
    | inl f =>
      obtain ⟨F1, hc, hf, hk1⟩ := cl_plain_f (G := G) v1 ht g ha
      have hc' : callP MP d 123 [.ref 16, .int (zI x)] (mk E F G) = some (thrP [2] ((0 : Int), -10 - f.1), mk (plE (rdE E)) (uR F1 16 (uC (uC (uC (F1 16) 1 (zI 0)) 2 (zI f.1)) 3 (zI f.2))) G) := hc d (by omega)
      generalize hFc : uR F1 16 (uC (uC (uC (F1 16) 1 (zI 0)) 2 (zI f.1)) 3 (zI f.2)) = Fc at hc'
      have k1 : ∀ q, q ≠ 16 → q < E.1 → Fc q = F q := fun q z1 z2 => by rw [← hFc, uR_ne z1]; exact hk1 q z2
      have k2 : Fc 16 1 = zI 0 ∧ Fc 16 2 = zI f.1 ∧ Fc 16 3 = zI f.2 := by
        rw [← hFc, uR_at]
        exact ⟨by rw [uC_ne (by decide), uC_ne (by decide), uC_at], by rw [uC_ne (by decide), uC_at], uC_at⟩
      have hw := wx_319 hc' (show (0 : Int) ≤ 0 ∧ (0 : Int) ≤ 1 by omega)
      have hTM := TpM_of (F1 := Fc) ht (by rw [k1 217 (by omega) (by omega)]) (k1 223 (by omega) (by omega))
      have ha' : a_plain Fc x = .inl f := by rw [pl_same (k1 219 (by omega) (by omega)) (k1 223 (by omega) (by omega))]; exact ha
      obtain ⟨F2, hm, ⟨m5, m7, m15, m16, m18⟩, -, hk2⟩ := ml_plain_fB (E := plE (rdE E)) (G := outG G 0 (Int32.toInt64 (zI (-10 - f.1)))) hTM g ha'
      rw [← ex] at hw
      have hm' := hm (d + 1) (by omega)
      rw [← ex] at hm'
      obtain ⟨y5, y6, hr⟩ := tq_357x (z5 := z5) (z6 := z6) hE hk (a := ((0 : Int), -10 - f.1)) (show (0 : Int) ≤ 0 ∧ (0 : Int) ≤ 5 by omega) hw (e3 0 (by omega)) (k1 0 (by omega) (by omega)) hm' m5 rfl (by omega)
      have kk : ∀ q, q ≠ 16 → q ≠ 217 → q ≠ 219 → q < E.1 → F2 q = F q := fun q z1 z2 z3 z4 => by rw [hk2 q z2 z3]; exact k1 q z1 z4
      have k216 : F2 16 = Fc 16 := hk2 16 (by omega) (by omega)
      have e218 := kk 218 (by omega) (by omega) (by omega) (by omega)
      have er : rfQ (plE (rdE E)) 18 0 = rfQ E 18 0 := by unfold rfQ; rw [e4 18 (by omega)]
      have e42 := e4 42 (by omega)
      refine ⟨y5, y6, _, _, _, hr, CLS_new hC ⟨?_, by rw [e218]; exact hcs, by rw [e218]; exact hsb⟩ ⟨by rw [er]; exact hu.m (by omega), by rw [er]; unfold ApI; rw [e42]; exact hap⟩ ?_ (fun q hq => kk q (by omega) (by omega) (by omega) (by omega)) (fun q hq => outG_ne (by omega)) ⟨e4 43 (by omega), e4 49 (by omega), e4 173 (by omega)⟩ (e3 0 (by omega)) (by omega) ⟨TpR_0 (by rw [k216]; exact k2.1) m7, by rw [k216, k2.2.1, m15], by rw [k216, k2.2.2, m16], ?_⟩, by omega, by omega⟩
      · rw [e218]
        refine SnO_mv hO (e4 18 (by omega)) (fun q hq => ⟨kk q ?_ ?_ ?_ ?_, shx_k (fun q z1 z2 => e3 q z2) ?_⟩) <;> (unfold InU at hu; omega)
      · refine ImR_keep him (by omega) (by omega) e42 (fun q z1 z2 => e4 q (by omega)) (fun q z1 z2 => e3 q z2) (fun q hq => kk q (by omega) (by omega) (by omega) (by omega))
      · rw [m18, k1 217 (by omega) (by omega)]; exact h18
    | inr s =>
      obtain ⟨F1, hc, ⟨hOs, hst⟩, hk1⟩ := cl_plain_s (G := G) v1 ht g ha
      generalize hFb : uR F1 16 (uC (uC (uC (F1 16) 1 (zI 0)) 2 (zI 0)) 3 (zI (-1))) = Fb at hc hOs
      have hc' : callP MP d 123 [.ref 16, .int (zI x)] (mk E F G) = some (thrP [2] ((0 : Int), tI (s.1 0)), mk (uE (plE (rdE E)) 18 0 (E.1 + 1)) (bgF Fb 18 (E.1 + 1)) G) := hc d (by omega)
      have k5 : s.1 5 = zI 0 := by
        rw [← hOs.2.2.2.1.1.2.1]
        unfold bgF
        rw [uR_ne (by omega), uR_ne (by omega), uR_ne (by omega), uR_at, uC_ne (by decide), uC_ne (by decide), uC_at]
      generalize hFc : bgF Fb 18 (E.1 + 1) = Fc at hc' hOs
      have k1 : ∀ q, q ≠ 16 → q ≠ 18 → q ≠ 27 → q ≠ 28 → q ≠ 29 → q < E.1 → Fc q = F q := fun q z1 z2 z3 z4 z5 z6 => by
        rw [← hFc, bgF_ne (by omega), ← hFb, uR_ne z1]; exact hk1 q z6
      have k2 : Fc 16 1 = zI 0 ∧ Fc 16 2 = zI 0 ∧ Fc 16 3 = zI (-1) := by
        rw [← hFc, bgF_ne (by omega), ← hFb, uR_at]
        exact ⟨by rw [uC_ne (by decide), uC_ne (by decide), uC_at], by rw [uC_ne (by decide), uC_at], uC_at⟩
      generalize hE1 : uE (plE (rdE E)) 18 0 (E.1 + 1) = E1 at hc' hOs
      have d1 : E1.1 = E.1 + 7 := by rw [← hE1]; rfl
      have d2 : E1.2.1 = E.2.1 + 193 := by rw [← hE1]; exact e2
      have d3 : ∀ q, q < E.1 → E1.2.2.1 q = E.2.2.1 q := fun q z => by rw [← hE1]; exact e3 q z
      have d4 : ∀ q, q ≠ 18 → q ≠ E.1 → E1.2.2.2 q = E.2.2.2 q := fun q z1 z2 => by
        rw [← hE1]
        show uR (plE (rdE E)).2.2.2 18 _ q = _
        rw [uR_ne z1]; exact e4 q z2
      have er : rfQ E1 18 0 = E.1 + 1 := by
        rw [← hE1]
        show uR (plE (rdE E)).2.2.2 18 (uC ((plE (rdE E)).2.2.2 18) 0 (E.1 + 1)) 18 0 = _
        rw [uR_at, uC_at]
      have hw := wx_319 hc' (show (0 : Int) ≤ 0 ∧ (0 : Int) ≤ 1 by omega)
      have hTM := TpM_of (F1 := Fc) ht (by rw [k1 217 (by omega) (by omega) (by omega) (by omega) (by omega) (by omega)]) (k1 223 (by omega) (by omega) (by omega) (by omega) (by omega) (by omega))
      have ha' : a_plain Fc x = .inr s := by rw [pl_same (k1 219 (by omega) (by omega) (by omega) (by omega) (by omega) (by omega)) (k1 223 (by omega) (by omega) (by omega) (by omega) (by omega) (by omega))]; exact ha
      obtain ⟨F2, hm, ⟨m5, m7, m15, m16, m18⟩, m218, hk2⟩ := ml_plain_sB (E := E1) (G := outG G 0 (Int32.toInt64 (zI (tI (s.1 0))))) hTM g ha'
      rw [← ex] at hw
      have hm' := hm (d + 1) (by omega)
      rw [← ex] at hm'
      obtain ⟨y5, y6, hr⟩ := tq_357x (z5 := z5) (z6 := z6) hE hk (a := ((0 : Int), tI (s.1 0))) (show (0 : Int) ≤ 0 ∧ (0 : Int) ≤ 5 by omega) hw (d3 0 (by omega)) (k1 0 (by omega) (by omega) (by omega) (by omega) (by omega) (by omega)) hm' m5 rfl (by omega)
      have kk : ∀ q, q ≠ 16 → q ≠ 18 → q ≠ 27 → q ≠ 28 → q ≠ 29 → q ≠ 217 → q ≠ 218 → q ≠ 219 → q < E.1 → F2 q = F q := fun q z1 z2 z3 z4 z5 z6 z7 z8 z9 => by rw [hk2 q z6 z7 z8]; exact k1 q z1 z2 z3 z4 z5 z9
      have k216 : F2 16 = Fc 16 := hk2 16 (by omega) (by omega) (by omega)
      have hal : AlK (F2 218) s.1 := fun j j0 j1 => by rw [m218]; exact if_pos ⟨j0, j1⟩
      have hA := hOs.2.2.2.2.1
      have e42 := d4 42 (by omega) (by omega)
      refine ⟨y5, y6, _, _, _, hr, CLS_new hC ⟨al_SnO hal (SnO_mv hOs rfl (fun q hq => ⟨hk2 q ?_ ?_ ?_, rfl⟩)), ?_, ?_⟩ ⟨by rw [er]; right; omega, ?_⟩ ?_ (fun q hq => kk q (by omega) (by omega) (by omega) (by omega) (by omega) (by omega) (by omega) (by omega) (by omega)) (fun q hq => outG_ne (by omega)) ⟨d4 43 (by omega) (by omega), d4 49 (by omega) (by omega), d4 173 (by omega) (by omega)⟩ (d3 0 (by omega)) (by omega) ⟨TpR_0 (by rw [k216]; exact k2.1) m7, by rw [k216, k2.2.1, m15], by rw [k216, k2.2.2, m16], ?_⟩, by omega, by omega⟩
      · rw [er] at hq; omega
      · rw [er] at hq; omega
      · rw [er] at hq; omega
      · have h0 : tI (zI 0) = 0 := tI_zI (by omega)
        rw [hal 5 (by omega) (by omega), al_steps hal hA, hst, k5]; omega
      · rw [al_steps hal hA, hst]; omega
      · rw [er]
        unfold ApI
        rw [e42]
        intro i hi hn
        rcases him.1 i hi with z | z
        · exact absurd z.1 hn
        · have := z.2.1; omega
      · refine ImR_keep him (by omega) (by omega) e42 (fun q z1 z2 => d4 q (by omega) (by omega)) (fun q z1 z2 => d3 q z2) (fun q hq => kk q (by omega) (by omega) (by omega) (by omega) (by omega) (by omega) (by omega) (by omega) (by omega))
      · rw [m18, k1 217 (by omega) (by omega) (by omega) (by omega) (by omega) (by omega)]; exact h18
  · have hc := cl_plain_no (d := d) (E := E) (F := F) (G := G) ht hxr g (by omega)
    have hc' : callP MP d 123 [.ref 16, .int (zI x)] (mk E F G) = some (thrP [2] ((1 : Int), (0 : Int)), mk (jE E) F G) := hc
    have hw := wx_319 hc' (show (0 : Int) ≤ 1 ∧ (1 : Int) ≤ 1 by omega)
    have hm := ml_plain_no (E := jE E) (F := F) (G := outG G 1 (Int32.toInt64 (zI 0))) ht hxr g (d + 1) (by omega)
    rw [← ex] at hw hm
    obtain ⟨y5, y6, hr⟩ := tq_357 (z5 := z5) (z6 := z6) hE hk (a := ((1 : Int), (0 : Int))) (show (0 : Int) ≤ 1 ∧ (1 : Int) ≤ 5 by omega) hw rfl rfl hm (by rw [uR_at, uC_at]) rfl (by omega)
    exact ⟨y5, y6, _, _, _, hr, CLS_M (CLS_O (CLS_C hC KeepC_j)) KeepM_c, by show E.1 + 1 ≤ _; omega, by show E.2.1 + 6 ≤ _; omega⟩
end S94zzzzzl
