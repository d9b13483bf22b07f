/-! CLASS: reading a plain 7 -/
section S94zzz
set_option linter.unusedVariables false
set_option linter.unusedSimpArgs false
theorem zi0 : (0 : Int32) = zI 0 := rfl
theorem fr_pl {F : Nat → Int → Int32} {p : Nat} {r : Int → Int32} (h : ∀ k, k < 6 → F (p + k) = snRw (k + 1)) : PlW F p (frD r) := by
  have f0 : ∀ j, 0 ≤ j → j < 408 → j ≠ 4 → j ≠ 168 → frD r j = zI 0 := fun j h1 h2 h3 h4 => fr_0 ⟨h1, h2⟩ h3 h4
  have r0 : F p = uC (uC (fun _ => 0) 4 20) 5 20 := h 0 (by omega)
  have r1 : F (p + 1) = fun _ => 0 := h 1 (by omega)
  have r2 : F (p + 2) = fun i => if i < 100 then -1 else 0 := h 2 (by omega)
  have r3 : F (p + 3) = fun _ => 0 := h 3 (by omega)
  have r4 : F (p + 4) = fun _ => 0 := h 4 (by omega)
  have r5 : F (p + 5) = fun _ => 0 := h 5 (by omega)
  have e2 : tI (frD r 2) = 0 := by rw [f0 2 (by omega) (by omega) (by omega) (by omega), tz0]
  have e1 : tI (frD r 1) = 0 := by rw [f0 1 (by omega) (by omega) (by omega) (by omega), tz0]
  have hw : ∀ a b, wayZ (frD r) a b = -1 := fun a b => by
    rw [way_m1]; unfold pathZ; rw [e2]; rfl
  unfold PlW PlR
  rw [r0, r1, r2, r3, r4, r5]
  refine ⟨⟨⟨?_, ?_, ?_, ?_, ?_, ?_, ?_⟩, fun j j1 j2 => ?_, fun u v u1 u2 v1 v2 => ?_, fun u u1 u2 => ?_, fun u j u1 u2 j1 j2 => ?_⟩, ?_, fun u u1 u2 => ?_, fun u v u1 u2 v1 v2 => ?_⟩
  · rw [f0 0 (by omega) (by omega) (by omega) (by omega)]; rfl
  · rw [f0 1 (by omega) (by omega) (by omega) (by omega)]; rfl
  · rw [f0 2 (by omega) (by omega) (by omega) (by omega)]; rfl
  · rw [f0 3 (by omega) (by omega) (by omega) (by omega)]; rfl
  · rw [fr_at (by omega), if_pos (by omega)]; rfl
  · rw [f0 166 (by omega) (by omega) (by omega) (by omega)]; rfl
  · rw [f0 167 (by omega) (by omega) (by omega) (by omega)]; rfl
  · rw [e2] at j2; omega
  · rw [e1] at u2; omega
  · rw [f0 _ (by omega) (by omega) (by omega) (by omega)]; rfl
  · rw [f0 (170 + 9 * u) (by omega) (by omega) (by omega) (by omega), tz0] at j2; omega
  · rw [fr_at (by omega), if_pos (by omega)]; rfl
  · rw [f0 _ (by omega) (by omega) (by omega) (by omega)]; rfl
  · show (if 10 * u + v < 100 then (-1 : Int32) else 0) = zI (wayZ (frD r) u v)
    rw [if_pos (by omega), hw]; rfl
theorem rd_start {E : EnQ} {F : Nat → Int → Int32} {t x : Int} (hE : 247 ≤ E.1) (hT : TpR F t) (hx : 0 ≤ x ∧ x ≤ t) : RdR (plF (rdE E) (uR F E.1 (rdW x))) (txT F) x.toNat E.1 (E.1 + 1) (frD (F 219)) (0, 0, 0, 0) := by
  have hr := tx_r hT hx
  have e0 : ∀ q, q < E.1 + 1 → plF (rdE E) (uR F E.1 (rdW x)) q = uR F E.1 (rdW x) q := fun q hq => if_neg (by show ¬ (E.1 + 1 ≤ q ∧ q < E.1 + 1 + 6); omega)
  have ea : plF (rdE E) (uR F E.1 (rdW x)) E.1 = rdW x := by rw [e0 _ (by omega), uR_at]
  have e17 : plF (rdE E) (uR F E.1 (rdW x)) 17 = F 17 := by rw [e0 17 (by omega), uR_ne (by omega)]
  refine ⟨⟨hr.1, fun j hj => by rw [e17]; exact hr.2 j hj⟩, ?_, ?_, fr_pl (fun k hk => plF_k (E := rdE E) k hk)⟩
  · rw [ea]; unfold rdW; exact ⟨by rw [uC_ne (by decide), uC_at]; exact congrArg zI (by omega), rfl, uC_at⟩
  · rw [ea]; exact ⟨rfl, rfl, rfl, fun _ => rfl⟩
theorem go_37 {E : EnQ} {F : Nat → Int → Int32} {G : Nat → Int → Int64} {t x : Int} (hE : 247 ≤ E.1) (hT : TpR F t) (hx : 0 ≤ x ∧ x ≤ t) : ∃ F1, CtP MP 7 37 [.ref E.1] (mk (rdE E) (uR F E.1 (rdW x)) G) (Sum.inl (some (rfV (E.1 + 1) (a_plain F x)))) (mk (plE (rdE E)) F1 G) ∧ OuR F1 (txT F) x.toNat E.1 (E.1 + 1) (a_plain F x) ∧ KpR E.1 (E.1 + 1) (plF (rdE E) (uR F E.1 (rdW x))) F1 := by
  have hR := rd_start (E := E) hE hT hx
  have hN := rd_new hE
  have hm := tx_m hT hx
  have hE2 : 247 ≤ (rdE E).1 := by show 247 ≤ E.1 + 1; omega
  have t0 : TkI x.toNat ((0, 0, 0, 0) : TkS) := ⟨⟨by show (0 : Int) ≤ 0; omega, by show (0 : Int) ≤ 4; omega⟩, by show (0 : Int) ≤ 0; omega, by show (0 : Int) ≤ 0; omega, by show (0 : Int) ≤ (x.toNat : Int); omega, by show (-2147483648 : Int) ≤ 0; omega, by show (0 : Int) ≤ 2147483647; omega⟩
  obtain ⟨F1, c1, r1, k1⟩ := go_38 (G := G) hN hR t0
  have hin := fr_in (r := F 219) (T := txT F) (n := x.toNat) (t := (0, 0, 0, 0)) rfl hm.1
  have d2 : tI (frD (F 219) 2) = 0 := by rw [fr_0 (by omega) (by omega) (by omega), tz0]
  have d3 : tI (frD (F 219) 3) = 0 := by rw [fr_0 (by omega) (by omega) (by omega), tz0]
  obtain ⟨F2, c2, r2, k2⟩ := go_42 (G := G) hN r1 hin ⟨d2, d3⟩
  have hs : shx (rdE E) E.1 = (1, 3, 0) := by rw [shx_hi hE]; exact if_pos rfl
  have h24 : ∀ {d : Nat} {kk : HeapP → ResP} {kx : Nat → HeapP → ResP}, 2 ≤ d → cV (callP MP d 24 [.ref (mk (rdE E) (uR F E.1 (rdW x)) G).1] (hnew (mk (rdE E) (uR F E.1 (rdW x)) G) 13 (pO 2 fs_2))) kk kx = kk (mk (plE (rdE E)) (plF (rdE E) (uR F E.1 (rdW x))) G) := fun {d kk kx} hd => by
    rw [hnew_set, mk_1]
    rw [cV_ret (ct_24r (h := hjnk (mk (rdE E) (uR F E.1 (rdW x)) G) 1 13) (a := (rdE E).1) (by show (rdE E).1 < (rdE E).1 + 1; omega) hd), pl_mk hE2]
  have hrun : ∀ d, 7 ≤ d + 1 → runP MP d 37 (0, [some (.ref E.1), none, none], [], mk (rdE E) (uR F E.1 (rdW x)) G) = cI (callP MP d 42 [.ref E.1, .ref (E.1 + 1)] (mk (plE (rdE E)) F1 G)) (fun q5 h4 => (if decide (q5 ≠ 0) = true then runP MP d 37 (24, [some (.ref E.1), some (.ref (E.1 + 1)), some (.int 0)], [], h4) else some (Sum.inl (some (.null)), h4))) thruP := fun d hd => by
    rw [q_37_0, Option.bind_some, h24 (by omega), ctV c1 (by omega)]
    rfl
  cases hy : pFirst (txT F) x.toNat (frD (F 219)) (av (txT F) x.toNat (0, 0, 0, 0)) with
  | inl f =>
    rw [hy] at c2 r2
    have c3 : CtP MP 5 42 [.ref E.1, .ref (E.1 + 1)] (mk (plE (rdE E)) F1 G) (Sum.inl (some (.int (zI 0)))) (mk (plE (rdE E)) F2 G) := c2
    have e : a_plain F x = .inl f := by unfold a_plain pTell; rw [hy]; rfl
    rw [e]
    refine ⟨F2, fun d hd => ?_, r2, k1.tr k2⟩
    show (_ : ResP) = some (Sum.inl (some .null), mk (plE (rdE E)) F2 G)
    refine into (D := 6) (by omega) hM_37 (rcv_mk hs (by decide)) rfl fun d hd => ?_
    show runP MP d 37 (0, [some (.ref E.1), none, none], [], _) = _
    rw [hrun d (by omega), c3 d (by omega)]
    rfl
  | inr s =>
    rw [hy] at c2 r2
    have c3 : CtP MP 5 42 [.ref E.1, .ref (E.1 + 1)] (mk (plE (rdE E)) F1 G) (Sum.inl (some (.int (zI 1)))) (mk (plE (rdE E)) F2 G) := c2
    obtain ⟨i1, i2⟩ := i_first hin d2 d3 hy
    obtain ⟨F3, c4, r4, k4⟩ := go_37l (E := plE (rdE E)) (G := G) hN x.toNat 0 s.1 s.2 F2 (by omega) r2 i1
    have e : a_plain F x = pLines (txT F) x.toNat x.toNat s.1 s.2 := by unfold a_plain pTell; rw [hy]; rfl
    rw [e]
    refine ⟨F3, fun d hd => ?_, r4, (k1.tr k2).tr k4⟩
    refine into (D := 6) (by omega) hM_37 (rcv_mk hs (by decide)) rfl fun d hd => ?_
    show runP MP d 37 (0, [some (.ref E.1), none, none], [], _) = _
    rw [hrun d (by omega), c3 d (by omega), ← c4 d (by omega)]
    rfl
end S94zzz
