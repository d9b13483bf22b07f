/-! CLASS: rows, starts -/
section S94zzzza
set_option linter.unusedVariables false
set_option linter.unusedSimpArgs false
def lfK (K : Int → Int32) : Int → Int := lfW (wK K) (tI (K 5)).toNat
def rwN (K : Int → Int32) (x : Int) : Int := NMz K (tI (K 5)).toNat x (lfK K)
def a_rows (K : Int → Int32) (x : Int) : Int × Int := if 0 ≤ x ∧ x < tI (K 1) then (0, if tI (K 5) ≤ 14 then rwN K x else -1000) else (1, 0)
def stB (K : Int → Int32) (p : Nat) : Nat := if 0 < rwN K p then bitN p else 0
def a_starts (K : Int → Int32) : Int := if tI (K 5) ≤ 14 then ((orN (stB K) (tI (K 1)).toNat : Nat) : Int) else -1000
theorem pw14 : ∀ k, k ≤ 14 → pwT 10 k ≤ 100000000000000 := by decide
theorem rw_bd {K : Int → Int32} (hI : InvK K) {k : Nat} (hk : k ≤ 14) {u : Int} {lf : Int → Int} : 0 ≤ NMz K k u lf ∧ NMz K k u lf ≤ 100000000000000 := ⟨NMz_nn _ _ _, Int.le_trans (NMz_bd hI.1.2.1.2 k u lf) (pw14 k hk)⟩
theorem scrG : ∀ q : Nat, q = 189 ∨ q = 190 → q = 189 ∨ q = 190 ∨ q = 206 := fun q h => by omega
theorem TrX_keep {E : EnQ} {F F1 : Nat → Int → Int32} {K : Int → Int32} {pl n : Nat} {sw nd st : Nat → Nat} (h : TrX E F K pl n sw nd st) (hk : ∀ q, (q = 178 ∨ q = 185 ∨ q = 186 ∨ q = 187 ∨ q = 188 ∨ (pl ≤ q ∧ q ≤ pl + 5)) → F1 q = F q) : TrX E F1 K pl n sw nd st := by
  obtain ⟨h1, h2, h3, h4, h5, h6, h7⟩ := h
  refine ⟨h1, ?_, PlR_move h6 (fun b b1 b2 => hk b (by omega)) (fun j _ => rfl) h3, h4, h5, h6, h7⟩
  unfold TlM at h2 ⊢
  rw [hk 178 (by omega), hk 185 (by omega), hk 186 (by omega), hk 187 (by omega), hk 188 (by omega)]; exact h2
theorem ct_84 {d : Nat} {E : EnQ} {F : Nat → Int → Int32} {G : Nat → Int → Int64} {K : Int → Int32} {pl n k : Nat} {sw nd st : Nat → Nat} {w : Nat → Int} {u : Int} (hT : TrX E F K pl n sw nd st) (hSl : SlI (bgN w k) 32 n sw nd st) (hw : ∀ i, i < k → 0 ≤ w i ∧ w i < 2 * tI (K 2)) (hu : 0 ≤ u ∧ u < 100) (hd : 4 + 1 ≤ d) :
    ∃ r g, callP MP d 84 [.ref 178, .int (zI u)] (mk E F G) = some (Sum.inl (some (.long (zJ (NMz K k u (lfW w k))))), mk E (uR F 191 r) (uR G 189 g)) := by
  obtain ⟨r, g, r1, r2, -⟩ := ct_85 (d := d - 1) (E := E) (F := F) (G := G) (a := 189) hT (Or.inl rfl) hu (by omega)
  obtain ⟨hq, ⟨t1, t2, t3⟩, hR, hP, hpl, hI, hS⟩ := hT
  have h16 := Sx_16 hS
  have hfl := Sx_full hS
  have hval := (r2 (encN nd st n) (Nat.le_refl _)).1 (V_full hS)
  rw [W_full hI hw hS hSl] at hval
  refine ⟨r, g, ?_⟩
  obtain ⟨e, rfl⟩ : ∃ e, d = e + 1 := ⟨d - 1, by omega⟩
  have hin : callP MP (e + 1) 84 [.ref 178, .int (zI u)] (mk E F G) = runP MP e 84 (0, [some (.ref 178), some (.int (zI u))], [], mk E F G) := into_eq (by omega) hM_84 (rcv_mk rfl (by decide)) rfl
  have r1 : callP MP e 85 [.ref 178, .int (zI u), .ref 189] (mk E F G) = some (Sum.inl none, mk E (uR F 191 r) (uR G 189 g)) := r1
  have c85 : ∀ {kk : HeapP → ResP} {kx : Nat → HeapP → ResP}, cV (callP MP e 85 [.ref 178, .int (zI u), .ref 189] (mk E F G)) kk kx = kk (mk E (uR F 191 r) (uR G 189 g)) := fun {kk kx} => cV_ret r1
  rw [hin]
  rw [q_84_0]; (try simp only [↓n_rd, ↓n_alJ, li_0, li_2, li_6, li_7, zI_add, zI_sub, zI_mul, zI_neg, ↓Option.bind_some]); simp (disch := (first | assumption | exact tI_rg _ | omega | exact uR_at | exact row_ne hF (by decide) | exact row_ne (row_ne hF (by decide)) (by decide) | exact SnS_18 | exact SnS_30 | exact LdS_44 | exact LdS_46)) only [↓c85, t2, ↓al_189, hval, ↓n_rd, ↓n_alJ, li_0, li_2, li_6, li_7, zI_add, zI_sub, zI_mul, zI_neg, ↓Option.bind_some, ↓g6_2, ↓g6_7, ↓al_189, ↓as_189, zIt2, uR_at, uR_ne, uR_uR, uC_uC, uC_at, ↓reduceIte, decide_eq_true_eq, leT, leF, ltT, ltF, eqT, eqF, ne_eq, not_true_eq_false, not_false_eq_true, Bool.false_eq_true, tI_zI]
theorem cl_rows {d : Nat} {E : EnQ} {F : Nat → Int → Int32} {G : Nat → Int → Int64} {K : Int → Int32} (hO : SnO E F 18 K) (hD : SepP E 18) {x : Int} (hx : -2147483648 ≤ x ∧ x ≤ 2147483647) (hd : 5 + 1 ≤ d) : ∃ E1 F1 G1, callP MP d 163 [.ref 16, .int (zI x)] (mk E F G) = some (thrJ [0] (a_rows K x), mk E1 F1 G1) ∧ KeepC E F G E1 F1 G1 := by
  have hI := hO.2.2.2.2
  have hb1 := hI.1.2.1
  have hb5 := hI.1.2.2.2.2.2.1
  have hb4 := hI.1.2.2.2.2.1
  by_cases c1 : 0 ≤ x ∧ x < tI (K 1)
  · by_cases c2 : tI (K 5) ≤ 14
    · have ha : a_rows K x = (0, rwN K x) := (if_pos c1).trans (by rw [if_pos c2])
      obtain ⟨F1, r1, r2, n, sw, nd, st, r3, r4⟩ := ct_121 (d := d - 1) (E := E) (F := F) (G := G) (m := 14) hO hD (by omega) c2 (by omega)
      obtain ⟨r, g, q1⟩ := ct_84 (d := d - 1) (E := uE E 178 0 (rfQ E 18 0)) (F := F1) (G := G) (u := x) r4 r3 (wK_in hI) (by omega) (by omega)
      refine ⟨uE E 178 0 (rfQ E 18 0), uR F1 191 r, uR G 189 g, ?_, ((r2.tr (KeepD_F scr191)).tr (KeepD_G (Or.inl rfl))).c⟩
      rw [show thrJ [0] (a_rows K x) = Sum.inl (some (.long (zJ (rwN K x)))) by rw [ha]; rfl]
      obtain ⟨e, rfl⟩ : ∃ e, d = e + 1 := ⟨d - 1, by omega⟩
      have hin : callP MP (e + 1) 163 [.ref 16, .int (zI x)] (mk E F G) = runP MP e 163 (0, [some (.ref 16), some (.int (zI x))], [], mk E F G) := into_eq (by omega) hM_163 (rcv_mk rfl (by decide)) rfl
      have hb : 0 ≤ rwN K x ∧ rwN K x ≤ 100000000000000 := rw_bd hI (k := (tI (K 5)).toNat) (by omega) (u := x) (lf := lfK K)
      have c121 : ∀ {kk : Int → HeapP → ResP} {kx : Nat → HeapP → ResP}, cT (callP MP e 121 [.ref 16, .int (zI 14)] (mk E F G)) kk kx = kk 1 (mk (uE E 178 0 (rfQ E 18 0)) F1 G) := fun {kk kx} => cT_ret r1 (by omega)
      have c84 : ∀ {kk : Int → HeapP → ResP} {kx : Nat → HeapP → ResP}, cJT (callP MP e 84 [.ref 178, .int (zI x)] (mk (uE E 178 0 (rfQ E 18 0)) F1 G)) kk kx = kk (rwN K x) (mk (uE E 178 0 (rfQ E 18 0)) (uR F1 191 r) (uR G 189 g)) := fun {kk kx} => cJT_ret q1 (by omega)
      rw [hin]
      rw [q_163_0]; (try simp only [↓n_cI, ↓n_cJ, li_0, li_12, li_14, li_121, li_1000, lj_0, lj_12, lj_1000, zJ_add, zJ_sub, zJ_mul, zJ_neg, zJ_l2i, zI_add, zI_sub, zI_mul, zI_neg, ↓Option.bind_some]); simp (disch := (first | assumption | exact tI_rg _ | omega | exact uR_at | exact row_ne hF (by decide) | exact row_ne (row_ne hF (by decide)) (by decide) | exact SnS_18 | exact SnS_30 | exact LdS_44 | exact LdS_46)) only [↓cc_127t hO, ↓c121, ↓n_cJ, ↓c84, ↓n_cI, ↓n_cJ, li_0, li_12, li_14, li_121, li_1000, lj_0, lj_12, lj_1000, zJ_add, zJ_sub, zJ_mul, zJ_neg, zJ_l2i, tJ_zJ, zI_add, zI_sub, zI_mul, zI_neg, ↓Option.bind_some, ↓g11_12, zIt2, uR_at, uR_ne, uR_uR, uC_uC, uC_at, ↓reduceIte, decide_eq_true_eq, leT, leF, ltT, ltF, eqT, eqF, ne_eq, not_true_eq_false, not_false_eq_true, Bool.false_eq_true, tI_zI]
    · have ha : a_rows K x = (0, -1000) := (if_pos c1).trans (by rw [if_neg c2])
      refine ⟨E, F, G, ?_, KeepC_rf⟩
      rw [show thrJ [0] (a_rows K x) = Sum.inl (some (.long (zJ (-1000)))) by rw [ha]; rfl]
      have c121 : ∀ {d : Nat} {kk : Int → HeapP → ResP} {kx : Nat → HeapP → ResP}, 3 ≤ d → cT (callP MP d 121 [.ref 16, .int (zI 14)] (mk E F G)) kk kx = kk 0 (mk E F G) := fun {d kk kx} hd => cT_ret (ct_121f hO (by omega) c2 hd) (by omega)
      refine into (D := 4) (by omega) hM_163 (rcv_mk rfl (by decide)) rfl fun d hd => ?_
      show runP MP d 163 (0, [some (.ref 16), some (.int (zI x))], [], _) = _
      have e1000 : (-1000 : Int64) = zJ (-1000) := by decide
      rw [q_163_0]; (try simp only [↓n_cI, ↓n_cJ, li_0, li_12, li_14, li_121, li_1000, lj_0, lj_12, lj_1000, zJ_add, zJ_sub, zJ_mul, zJ_neg, zJ_l2i, zI_add, zI_sub, zI_mul, zI_neg, ↓Option.bind_some]); simp (disch := (first | assumption | exact tI_rg _ | omega | exact uR_at | exact row_ne hF (by decide) | exact row_ne (row_ne hF (by decide)) (by decide) | exact SnS_18 | exact SnS_30 | exact LdS_44 | exact LdS_46)) only [↓cc_127t hO, ↓c121, e1000, ↓n_cI, ↓n_cJ, li_0, li_12, li_14, li_121, li_1000, lj_0, lj_12, lj_1000, zJ_add, zJ_sub, zJ_mul, zJ_neg, zJ_l2i, tJ_zJ, zI_add, zI_sub, zI_mul, zI_neg, ↓Option.bind_some, ↓g11_12, zIt2, uR_at, uR_ne, uR_uR, uC_uC, uC_at, ↓reduceIte, decide_eq_true_eq, leT, leF, ltT, ltF, eqT, eqF, ne_eq, not_true_eq_false, not_false_eq_true, Bool.false_eq_true, tI_zI]
  · have ha : a_rows K x = (1, 0) := if_neg c1
    refine ⟨jE E, F, G, ?_, KeepC_j⟩
    rw [show thrJ [0] (a_rows K x) = Sum.inr 0 by rw [ha]; rfl]
    refine into (D := 4) (by omega) hM_163 (rcv_mk rfl (by decide)) rfl fun d hd => ?_
    show runP MP d 163 (0, [some (.ref 16), some (.int (zI x))], [], _) = _
    rw [q_163_0]; (try simp only [↓n_cI, ↓n_cJ, li_0, li_12, li_14, li_121, li_1000, lj_0, lj_12, lj_1000, zJ_add, zJ_sub, zJ_mul, zJ_neg, zJ_l2i, zI_add, zI_sub, zI_mul, zI_neg, ↓Option.bind_some]); simp (disch := (first | assumption | exact tI_rg _ | omega | exact uR_at | exact row_ne hF (by decide) | exact row_ne (row_ne hF (by decide)) (by decide) | exact SnS_18 | exact SnS_30 | exact LdS_44 | exact LdS_46)) only [↓cc_127f hO, thr_eq, ↓n_cI, ↓n_cJ, li_0, li_12, li_14, li_121, li_1000, lj_0, lj_12, lj_1000, zJ_add, zJ_sub, zJ_mul, zJ_neg, zJ_l2i, tJ_zJ, zI_add, zI_sub, zI_mul, zI_neg, ↓Option.bind_some, ↓g11_12, zIt2, uR_at, uR_ne, uR_uR, uC_uC, uC_at, ↓reduceIte, decide_eq_true_eq, leT, leF, ltT, ltF, eqT, eqF, ne_eq, not_true_eq_false, not_false_eq_true, Bool.false_eq_true, tI_zI]
theorem cl_starts {d : Nat} {E : EnQ} {F : Nat → Int → Int32} {G : Nat → Int → Int64} {K : Int → Int32} (hO : SnO E F 18 K) (hD : SepP E 18) (hd : 5 + 1 ≤ d) : ∃ E1 F1 G1, callP MP d 120 [.ref 16] (mk E F G) = some (Sum.inl (some (.int (zI (a_starts K)))), mk E1 F1 G1) ∧ KeepC E F G E1 F1 G1 := by
  have hI := hO.2.2.2.2
  have hb1 := hI.1.2.1
  have hb5 := hI.1.2.2.2.2.2.1
  have hb4 := hI.1.2.2.2.2.1
  by_cases c2 : tI (K 5) ≤ 14
  · have ha : a_starts K = ((orN (stB K) (tI (K 1)).toNat : Nat) : Int) := if_pos c2
    obtain ⟨F1, r1, r2, n, sw, nd, st, r3, r4⟩ := ct_121 (d := d - 1) (E := E) (F := F) (G := G) (m := 14) hO hD (by omega) c2 (by omega)
    obtain ⟨E1, hE1⟩ : ∃ E1, E1 = uE E 178 0 (rfQ E 18 0) := ⟨_, rfl⟩
    rw [← hE1] at r1 r2 r4
    have hpl1 : rfQ E1 18 0 = rfQ E 18 0 := by rw [hE1]; show uR E.2.2.2 178 (uC (E.2.2.2 178) 0 (rfQ E 18 0)) 18 0 = E.2.2.2 18 0; rw [uR_ne (by decide)]
    have hlt : ∀ m, m ≤ (tI (K 1)).toNat → orN (stB K) m < 1024 := fun m hm => orN_lt (k := 10) (fun j hj => by
      unfold stB
      split
      · exact Nat.pow_lt_pow_right (by omega) (by omega)
      · omega)
    have hl := hlt _ (Nat.le_refl _)
    have hmain : ∃ r g, runP MP (d - 1) 120 (17, [some (.ref 16), some (.int (zI ((orN (stB K) 0 : Nat) : Int))), some (.int (zI ((0 : Nat) : Int)))], [], mk E1 F1 G) = some (Sum.inl (some (.int (zI (a_starts K)))), mk E1 (uR F1 191 r) (uR G 189 g)) := by
      refine loopS (σ := (Int → Int32) × (Int → Int64)) (Post := fun rr => ∃ r g, rr = some (Sum.inl (some (.int (zI (a_starts K)))), mk E1 (uR F1 191 r) (uR G 189 g)))
        (fun j s => runP MP (d - 1) 120 (17, [some (.ref 16), some (.int (zI ((orN (stB K) j : Nat) : Int))), some (.int (zI (j : Int)))], [], mk E1 (uR F1 191 s.1) (uR G 189 s.2)))
        (fun _ _ => True) (tI (K 1)).toNat (F1 191, G 189) trivial (fun s _ => ?_) (fun j s hj _ => ?_) |> fun h => by
          have h : ∃ r g, runP MP (d - 1) 120 (17, [some (.ref 16), some (.int (zI ((orN (stB K) 0 : Nat) : Int))), some (.int (zI ((0 : Nat) : Int)))], [], mk E1 (uR F1 191 (F1 191)) (uR G 189 (G 189))) = _ := h
          rw [uR_self, uR_self] at h
          exact h
      · refine ⟨s.1, s.2, ?_⟩
        obtain ⟨oo, dd⟩ := SnO_keep hO hD ((r2.tr (KeepD_F (G := G) (r := s.1) scr191)).tr (KeepD_G (r := s.2) (Or.inl rfl))).c
        have hs18 := oo.1.1
        have hs2 := oo.2.1.1
        have e1 : tI (uR F1 191 s.1 (rfQ E1 18 0) 1) = tI (K 1) := by rw [oo.2.2.1.1.2.1]
        rw [ha]
        show runP MP (d - 1) 120 _ = _
        have hle : tI (K 1) ≤ (((tI (K 1)).toNat : Nat) : Int) := by omega
        rw [q_120_17]; (try simp only [↓n_rd, ↓n_cI, ↓n_cJ, li_0, li_1, li_2, li_4, li_5, li_12, li_14, li_120, li_121, li_1000, lj_0, lj_1, lj_2, lj_4, lj_5, lj_12, lj_1000, zJ_add, zJ_sub, zJ_mul, zJ_neg, zJ_l2i, zI_add, zI_sub, zI_mul, zI_neg, ↓Option.bind_some]); simp (disch := (first | assumption | exact tI_rg _ | omega | exact uR_at | exact row_ne hF (by decide) | exact row_ne (row_ne hF (by decide)) (by decide) | exact SnS_18 | exact SnS_30 | exact LdS_44 | exact LdS_46)) only [q_120_0, q_120_50, e1, ↓n_rd, ↓n_cI, ↓n_cJ, li_0, li_1, li_2, li_4, li_5, li_12, li_14, li_120, li_121, li_1000, lj_0, lj_1, lj_2, lj_4, lj_5, lj_12, lj_1000, zJ_add, zJ_sub, zJ_mul, zJ_neg, zJ_l2i, tJ_zJ, zI_add, zI_sub, zI_mul, zI_neg, ↓Option.bind_some, ↓g11_12, ↓g11_4, ↓g2_1, ↓g5_0, zIt2, uR_at, uR_ne, uR_uR, uC_uC, uC_at, ↓reduceIte, decide_eq_true_eq, leT, leF, ltT, ltF, eqT, eqF, ne_eq, not_true_eq_false, not_false_eq_true, Bool.false_eq_true, tI_zI]
      · right
        obtain ⟨oo, dd⟩ := SnO_keep hO hD ((r2.tr (KeepD_F (G := G) (r := s.1) scr191)).tr (KeepD_G (r := s.2) (Or.inl rfl))).c
        have hs18 := oo.1.1
        have hs2 := oo.2.1.1
        have e1 : tI (uR F1 191 s.1 (rfQ E1 18 0) 1) = tI (K 1) := by rw [oo.2.2.1.1.2.1]
        have hT : TrX E1 (uR F1 191 s.1) K (rfQ E 18 0) n sw nd st := TrX_191 r4
        obtain ⟨r, g, q1⟩ := ct_84 (d := d - 1) (E := E1) (F := uR F1 191 s.1) (G := uR G 189 s.2) (u := (j : Int)) hT r3 (wK_in hI) (by omega) (by omega)
        rw [uR_uR, uR_uR] at q1
        have hb : 0 ≤ rwN K j ∧ rwN K j ≤ 100000000000000 := rw_bd hI (k := (tI (K 5)).toNat) (by omega) (u := (j : Int)) (lf := lfK K)
        have c84 : ∀ {kk : Int → HeapP → ResP} {kx : Nat → HeapP → ResP}, cJT (callP MP (d - 1) 84 [.ref 178, .int (zI (j : Int))] (mk E1 (uR F1 191 s.1) (uR G 189 s.2))) kk kx = kk (rwN K j) (mk E1 (uR F1 191 r) (uR G 189 g)) := fun {kk kx} => cJT_ret q1 (by omega)
        have hlj := hlt j (by omega)
        refine ⟨(r, g), trivial, ?_⟩
        show runP MP (d - 1) 120 _ = runP MP (d - 1) 120 _
        have hj2 : (j : Int) < tI (K 1) := by omega
        rw [nsucc, orN_succ]
        by_cases c : 0 < rwN K j
        · have hor := orZ (orN (stB K) j) (bitN (j : Int))
          have hz : ¬ rwN K j ≤ 0 := by omega
          rw [show stB K j = bitN (j : Int) from if_pos c]
          rw [q_120_17]; (try simp only [↓n_rd, ↓n_cI, ↓n_cJ, li_0, li_1, li_2, li_4, li_5, li_12, li_14, li_120, li_121, li_1000, lj_0, lj_1, lj_2, lj_4, lj_5, lj_12, lj_1000, zJ_add, zJ_sub, zJ_mul, zJ_neg, zJ_l2i, zI_add, zI_sub, zI_mul, zI_neg, ↓Option.bind_some]); simp (disch := (first | assumption | exact tI_rg _ | omega | exact uR_at | exact row_ne hF (by decide) | exact row_ne (row_ne hF (by decide)) (by decide) | exact SnS_18 | exact SnS_30 | exact LdS_44 | exact LdS_46)) only [q_120_0, q_120_50, e1, ↓n_cJ, ↓c84, cmpJ_le, hz, shlB, hor, ↓n_rd, ↓n_cI, ↓n_cJ, li_0, li_1, li_2, li_4, li_5, li_12, li_14, li_120, li_121, li_1000, lj_0, lj_1, lj_2, lj_4, lj_5, lj_12, lj_1000, zJ_add, zJ_sub, zJ_mul, zJ_neg, zJ_l2i, tJ_zJ, zI_add, zI_sub, zI_mul, zI_neg, ↓Option.bind_some, ↓g11_12, ↓g11_4, ↓g2_1, ↓g5_0, zIt2, uR_at, uR_ne, uR_uR, uC_uC, uC_at, ↓reduceIte, decide_eq_true_eq, leT, leF, ltT, ltF, eqT, eqF, ne_eq, not_true_eq_false, not_false_eq_true, Bool.false_eq_true, tI_zI]
        · rw [show stB K j = 0 from if_neg c, Nat.or_zero]
          have hz : rwN K j ≤ 0 := by omega
          rw [q_120_17]; (try simp only [↓n_rd, ↓n_cI, ↓n_cJ, li_0, li_1, li_2, li_4, li_5, li_12, li_14, li_120, li_121, li_1000, lj_0, lj_1, lj_2, lj_4, lj_5, lj_12, lj_1000, zJ_add, zJ_sub, zJ_mul, zJ_neg, zJ_l2i, zI_add, zI_sub, zI_mul, zI_neg, ↓Option.bind_some]); simp (disch := (first | assumption | exact tI_rg _ | omega | exact uR_at | exact row_ne hF (by decide) | exact row_ne (row_ne hF (by decide)) (by decide) | exact SnS_18 | exact SnS_30 | exact LdS_44 | exact LdS_46)) only [q_120_0, q_120_50, e1, ↓n_cJ, ↓c84, cmpJ_le, hz, ↓n_rd, ↓n_cI, ↓n_cJ, li_0, li_1, li_2, li_4, li_5, li_12, li_14, li_120, li_121, li_1000, lj_0, lj_1, lj_2, lj_4, lj_5, lj_12, lj_1000, zJ_add, zJ_sub, zJ_mul, zJ_neg, zJ_l2i, tJ_zJ, zI_add, zI_sub, zI_mul, zI_neg, ↓Option.bind_some, ↓g11_12, ↓g11_4, ↓g2_1, ↓g5_0, zIt2, uR_at, uR_ne, uR_uR, uC_uC, uC_at, ↓reduceIte, decide_eq_true_eq, leT, leF, ltT, ltF, eqT, eqF, ne_eq, not_true_eq_false, not_false_eq_true, Bool.false_eq_true, tI_zI]
    obtain ⟨r, g, q1⟩ := hmain
    refine ⟨E1, uR F1 191 r, uR G 189 g, ?_, ((r2.tr (KeepD_F scr191)).tr (KeepD_G (Or.inl rfl))).c⟩
    obtain ⟨e, rfl⟩ : ∃ e, d = e + 1 := ⟨d - 1, by omega⟩
    have hin : callP MP (e + 1) 120 [.ref 16] (mk E F G) = runP MP e 120 (0, [some (.ref 16), none, none], [], mk E F G) := into_eq (by omega) hM_120 (rcv_mk rfl (by decide)) rfl
    have q1 : runP MP e 120 (17, [some (.ref 16), some (.int (zI 0)), some (.int (zI 0))], [], mk E1 F1 G) = some (Sum.inl (some (.int (zI (a_starts K)))), mk E1 (uR F1 191 r) (uR G 189 g)) := q1
    have c121 : ∀ {kk : Int → HeapP → ResP} {kx : Nat → HeapP → ResP}, cT (callP MP e 121 [.ref 16, .int (zI 14)] (mk E F G)) kk kx = kk 1 (mk E1 F1 G) := fun {kk kx} => cT_ret r1 (by omega)
    rw [hin, ← q1]
    rw [q_120_0]; (try simp only [↓n_rd, ↓n_cI, ↓n_cJ, li_0, li_1, li_2, li_4, li_5, li_12, li_14, li_120, li_121, li_1000, lj_0, lj_1, lj_2, lj_4, lj_5, lj_12, lj_1000, zJ_add, zJ_sub, zJ_mul, zJ_neg, zJ_l2i, zI_add, zI_sub, zI_mul, zI_neg, ↓Option.bind_some]); simp (disch := (first | assumption | exact tI_rg _ | omega | exact uR_at | exact row_ne hF (by decide) | exact row_ne (row_ne hF (by decide)) (by decide) | exact SnS_18 | exact SnS_30 | exact LdS_44 | exact LdS_46)) only [q_120_50, ↓c121, ↓n_rd, ↓n_cI, ↓n_cJ, li_0, li_1, li_2, li_4, li_5, li_12, li_14, li_120, li_121, li_1000, lj_0, lj_1, lj_2, lj_4, lj_5, lj_12, lj_1000, zJ_add, zJ_sub, zJ_mul, zJ_neg, zJ_l2i, tJ_zJ, zI_add, zI_sub, zI_mul, zI_neg, ↓Option.bind_some, ↓g11_12, ↓g11_4, ↓g2_1, ↓g5_0, zIt2, uR_at, uR_ne, uR_uR, uC_uC, uC_at, ↓reduceIte, decide_eq_true_eq, leT, leF, ltT, ltF, eqT, eqF, ne_eq, not_true_eq_false, not_false_eq_true, Bool.false_eq_true, tI_zI]
  · have ha : a_starts K = -1000 := if_neg c2
    refine ⟨E, F, G, ?_, KeepC_rf⟩
    rw [ha]
    have c121 : ∀ {d : Nat} {kk : Int → HeapP → ResP} {kx : Nat → HeapP → ResP}, 3 ≤ d → cT (callP MP d 121 [.ref 16, .int (zI 14)] (mk E F G)) kk kx = kk 0 (mk E F G) := fun {d kk kx} hd => cT_ret (ct_121f hO (by omega) c2 hd) (by omega)
    refine into (D := 4) (by omega) hM_120 (rcv_mk rfl (by decide)) rfl fun d hd => ?_
    show runP MP d 120 (0, [some (.ref 16), none, none], [], _) = _
    rw [q_120_0]; (try simp only [↓n_rd, ↓n_cI, ↓n_cJ, li_0, li_1, li_2, li_4, li_5, li_12, li_14, li_120, li_121, li_1000, lj_0, lj_1, lj_2, lj_4, lj_5, lj_12, lj_1000, zJ_add, zJ_sub, zJ_mul, zJ_neg, zJ_l2i, zI_add, zI_sub, zI_mul, zI_neg, ↓Option.bind_some]); simp (disch := (first | assumption | exact tI_rg _ | omega | exact uR_at | exact row_ne hF (by decide) | exact row_ne (row_ne hF (by decide)) (by decide) | exact SnS_18 | exact SnS_30 | exact LdS_44 | exact LdS_46)) only [q_120_50, ↓c121, ↓n_rd, ↓n_cI, ↓n_cJ, li_0, li_1, li_2, li_4, li_5, li_12, li_14, li_120, li_121, li_1000, lj_0, lj_1, lj_2, lj_4, lj_5, lj_12, lj_1000, zJ_add, zJ_sub, zJ_mul, zJ_neg, zJ_l2i, tJ_zJ, zI_add, zI_sub, zI_mul, zI_neg, ↓Option.bind_some, ↓g11_12, ↓g11_4, ↓g2_1, ↓g5_0, zIt2, uR_at, uR_ne, uR_uR, uC_uC, uC_at, ↓reduceIte, decide_eq_true_eq, leT, leF, ltT, ltF, eqT, eqF, ne_eq, not_true_eq_false, not_false_eq_true, Bool.false_eq_true, tI_zI]
end S94zzzza
