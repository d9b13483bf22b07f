/-! CLASS: plain, the answer -/
section S94zzzc
set_option linter.unusedVariables false
set_option linter.unusedSimpArgs false
theorem cl_plain_f {E : EnQ} {F : Nat → Int → Int32} {G : Nat → Int → Int64} {t x : Int} {f : Int × Int} (hE : 247 ≤ E.1) (hT : TpR F t) (hx : 0 ≤ x ∧ x ≤ t) (h : a_plain F x = .inl f) : ∃ F1, CtP MP 8 123 [.ref 16, .int (zI x)] (mk E F G) (Sum.inl (some (.int (zI (-10 - f.1))))) (mk (plE (rdE E)) (uR F1 16 (uC (uC (uC (F1 16) 1 (zI 0)) 2 (zI f.1)) 3 (zI f.2))) G) ∧ (1 ≤ f.1 ∧ f.1 ≤ 4) ∧ ∀ q, q < E.1 → F1 q = F q := by
  obtain ⟨F1, c1, r1, k1⟩ := go_37 (G := G) hE hT hx
  rw [h] at r1 c1
  obtain ⟨b1, b2, b3, b4⟩ := (show BaR F1 E.1 f from r1)
  have hs : shx (plE (rdE E)) E.1 = (1, 3, 0) := (rd_new hE).1
  refine ⟨F1, fun d hd => ?_, ⟨b3, b4⟩, fun q hq => ?_⟩
  · refine into (D := 7) (by omega) hM_123 (rcv_mk rfl (by decide)) rfl fun d hd => ?_
    show runP MP d 123 (0, [some (.ref 16), some (.int (zI x)), none, none], [], _) = _
    rw [q123 hE hT hx (by omega)]
    rw [cR_null (show callP MP d 37 [.ref E.1] (mk (rdE E) (uR F E.1 (rdW x)) G) = some (Sum.inl (some .null), mk (plE (rdE E)) F1 G) from c1 d (by omega))]
    have n16 : (E.1 : Nat) ≠ 16 := by omega
    simp (disch := (first | assumption | exact tI_rg _ | omega)) only [↓n_rd, li_0, li_10, ↓p11_1, ↓p11_2, ↓p11_3, ↓g3_6, ↓g3_7, ↓g11_2, uR_at, uR_ne, uR_uR, uC_at, zIt2, tI_zI, zI_neg, zI_sub, zI_tI, b1, b2, uC_ne (show (2 : Int) ≠ 3 by decide), uC_ne (show (2 : Int) ≠ 1 by decide)]
  · rw [k1 q (by omega) (by omega)]
    show (if E.1 + 1 ≤ q ∧ q < E.1 + 1 + 6 then _ else uR F E.1 (rdW x) q) = _
    rw [if_neg (by omega), uR_ne (by omega)]
theorem cl_plain_s {E : EnQ} {F : Nat → Int → Int32} {G : Nat → Int → Int64} {t x : Int} {s : PrS} (hE : 247 ≤ E.1) (hT : TpR F t) (hx : 0 ≤ x ∧ x ≤ t) (h : a_plain F x = .inr s) : ∃ F1, CtP MP 8 123 [.ref 16, .int (zI x)] (mk E F G) (Sum.inl (some (.int (zI (tI (s.1 0)))))) (mk (uE (plE (rdE E)) 18 0 (E.1 + 1)) (bgF (uR F1 16 (uC (uC (uC (F1 16) 1 (zI 0)) 2 (zI 0)) 3 (zI (-1)))) 18 (E.1 + 1)) G) ∧ (SnO (uE (plE (rdE E)) 18 0 (E.1 + 1)) (bgF (uR F1 16 (uC (uC (uC (F1 16) 1 (zI 0)) 2 (zI 0)) 3 (zI (-1)))) 18 (E.1 + 1)) 18 s.1 ∧ stepsZ s.1 = 0) ∧ ∀ q, q < E.1 → F1 q = F q := by
  obtain ⟨F1, c1, r1, k1⟩ := go_37 (G := G) hE hT hx
  rw [h] at r1 c1
  obtain ⟨b1, ⟨b2, b3, b4⟩, b5, b6⟩ := (show RdR F1 (txT F) x.toNat E.1 (E.1 + 1) s.1 s.2 from r1)
  have hs : shx (plE (rdE E)) E.1 = (1, 3, 0) := (rd_new hE).1
  have hP : PlS (plE (rdE E)) (E.1 + 1) := (rd_new hE).2.2.1
  have hs2 : shx (uE (plE (rdE E)) 18 0 (E.1 + 1)) (E.1 + 1) = (1, 2, 0) := hP.1
  have hm := tx_m hT hx
  obtain ⟨i1, -⟩ := i_tell (r := F 219) (T := txT F) (n := x.toNat) (t := (0, 0, 0, 0)) rfl hm.1 h
  have hW := PlW_a (a := 16) (X := uC (uC (uC (F1 16) 1 (zI 0)) 2 (zI 0)) 3 (zI (-1))) b6 (by omega)
  have e0 : bgF (uR F1 16 (uC (uC (uC (F1 16) 1 (zI 0)) 2 (zI 0)) 3 (zI (-1)))) 18 (E.1 + 1) (E.1 + 1) 0 = s.1 0 := by
    unfold bgF
    rw [uR_ne (by omega), uR_ne (by omega), uR_ne (by omega), uR_ne (by omega), uR_ne (by omega)]
    exact b6.1.1.1
  refine ⟨F1, fun d hd => ?_, bg_SnO SnS_18 hP (by omega) hW i1.1, fun q hq => ?_⟩
  · refine into (D := 7) (by omega) hM_123 (rcv_mk rfl (by decide)) rfl fun d hd => ?_
    show runP MP d 123 (0, [some (.ref 16), some (.int (zI x)), none, none], [], _) = _
    rw [q123 hE hT hx (by omega)]
    rw [cR_ref (show callP MP d 37 [.ref E.1] (mk (rdE E) (uR F E.1 (rdW x)) G) = some (Sum.inl (some (.ref (E.1 + 1))), mk (plE (rdE E)) F1 G) from c1 d (by omega))]
    have n16 : (E.1 : Nat) ≠ 16 := by omega
    have c67 : ∀ {kk : HeapP → ResP} {kx : Nat → HeapP → ResP}, cV (callP MP d 67 [.ref 18, .ref (E.1 + 1)] (mk (plE (rdE E)) (uR F1 16 (uC (uC (uC (F1 16) 1 (zI 0)) 2 (zI 0)) 3 (zI (-1)))) G)) kk kx = kk (mk (uE (plE (rdE E)) 18 0 (E.1 + 1)) (bgF (uR F1 16 (uC (uC (uC (F1 16) 1 (zI 0)) 2 (zI 0)) 3 (zI (-1)))) 18 (E.1 + 1)) G) := fun {kk kx} => cV_ret (ct_67 SnS_18 hP (by omega) (by omega))
    simp (disch := (first | assumption | exact tI_rg _ | omega)) only [↓n_rd, li_0, ↓p11_1, ↓p11_2, ↓p11_3, ↓g3_6, ↓g3_7, ↓g11_4, ↓c67, ↓g2_0, uR_at, uR_ne, uR_uR, zIt2, zI_tI, b3, b4, e0]
  · rw [k1 q (by omega) (by omega)]
    show (if E.1 + 1 ≤ q ∧ q < E.1 + 1 + 6 then _ else uR F E.1 (rdW x) q) = _
    rw [if_neg (by omega), uR_ne (by omega)]
end S94zzzc
