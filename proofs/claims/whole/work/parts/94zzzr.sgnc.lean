/-! CLASS: signs -/
section S94zzzr
set_option linter.unusedVariables false
set_option linter.unusedSimpArgs false
/-- the ways of the last steps of a row -/
def swN (K : Int → Int32) (kp : Nat) (p : List Int) : Nat := orN (fun j => bitN (pwZ K p ((p.length - 1 - kp + j : Nat) : Int))) (p.length - 1 - (p.length - 1 - kp))
theorem pw_rg {K : Int → Int32} (hI : InvK K) {p : List Int} (hv : VaP K p) {j : Int} (h0 : 0 ≤ j) (h1 : j + 1 < p.length) : 0 ≤ pwZ K p j ∧ pwZ K p j < 2 * tI (K 2) := by
  obtain ⟨a, b, g1, g2, -⟩ := pwZ_ne hv j h0 h1
  rw [g2]; exact (wayZ_ends hI g1).1
theorem swN_lt {K : Int → Int32} (hI : InvK K) {kp : Nat} {p : List Int} (hv : VaP K p) : swN K kp p < 4294967296 := by
  have hb := hI.1.2.2.1
  unfold swN
  refine orN_lt (k := 32) (fun j hj => ?_)
  have := pw_rg hI hv (j := ((p.length - 1 - kp + j : Nat) : Int)) (by omega) (by omega)
  exact Nat.pow_lt_pow_right (by omega) (by omega)
theorem maxZ1 {a : Int} (h : -2147483648 ≤ a ∧ a ≤ 2147483647) : (if zI 1 < zI a then zI a else zI 1) = zI (if 1 < a then a else 1) := maxZ (a := 1) (by omega)
theorem cT_raw {r : ResP} {v : Int32} {h' : HeapP} {k : Int → HeapP → ResP} {kx : Nat → HeapP → ResP} (h : r = some (Sum.inl (some (.int v)), h')) : cT r k kx = k (tI v) h' := by rw [h]; rfl
def vS (K : Int → Int32) (p : List Int) (l : List Nat) : List Nat := adL l (swN K (tI (K 4)).toNat p)
def slS (K : Int → Int32) (x : Int) (n : Nat) : List Nat := wkF K (vS K) n [x] []
def a_signs (K : Int → Int32) (x y : Int) : Int × Int := if 0 ≤ x ∧ x < tI (K 1) then (if 0 ≤ y ∧ y ≤ 6 then (0, if 2000 < (slS K x y.toNat).length then -1000 else ((slS K x y.toNat).length : Int)) else (2, 0)) else (1, 0)
theorem KeepD_FG {E : EnQ} {F F1 : Nat → Int → Int32} {G G1 : Nat → Int → Int64} {p : Nat → Prop} (hp : ∀ q, p q → scrC q) (h : ∀ q, ¬ p q → F1 q = F q) (hg : ∀ q, q ≠ 189 → q ≠ 190 → q ≠ 206 → G1 q = G q) : KeepD E F G E F1 G1 :=
  ⟨fun q _ h2 => h q (fun z => h2 (hp q z)), fun j _ _ => by rw [h 16 (fun z => by have := hp 16 z; unfold scrC at this; omega)], hg, fun _ _ _ _ => rfl, rfl, rfl, rfl⟩
theorem ct_111 {d : Nat} {E : EnQ} {F : Nat → Int → Int32} {G : Nat → Int → Int64} {K : Int → Int32} {pl kp : Nat} {most : Int} {p : List Int} (hI : InvK K) (hp0 : p ≠ []) (hl : p.length ≤ 7) (hv : VaP K p) (hW : WaR E F K pl most p) (hk : 1 ≤ kp ∧ kp ≤ 60) (hd : 1 ≤ d) : callP MP d 111 [.ref 192, .int (zI (kp : Int))] (mk E F G) = some (Sum.inl (some (.int (zI ((swN K kp p : Nat) : Int)))), mk E F G) := by
  have hl0 := len_pos hp0
  have hb := hI.1.2.2.1
  have ed : tI (F 192 2) = ((p.length - 1 : Nat) : Int) := by rw [hW.2.2.1]; omega
  obtain ⟨lo, hlo⟩ : ∃ lo : Nat, lo = p.length - 1 - kp := ⟨_, rfl⟩
  have em : (if 1 < ((p.length - 1 : Nat) : Int) - (kp : Int) + 1 then ((p.length - 1 : Nat) : Int) - (kp : Int) + 1 else 1) = (lo : Int) + 1 := by split <;> omega
  unfold swN
  rw [← hlo]
  refine into (D := 0) (by omega) hM_111 (rcv_mk rfl (by decide)) rfl fun d hd => ?_
  show runP MP d 111 (0, [some (.ref 192), some (.int (zI (kp : Int))), none, none], [], _) = _
  have h0 : runP MP d 111 (0, [some (.ref 192), some (.int (zI (kp : Int))), none, none], [], mk E F G) = runP MP d 111 (15, [some (.ref 192), some (.int (zI (kp : Int))), some (.int (zI ((orN (fun j => bitN (pwZ K p ((lo + j : Nat) : Int))) 0 : Nat) : Int))), some (.int (zI ((lo : Int) + 1 + ((0 : Nat) : Int))))], [], mk E F G) := by
    rw [show ((orN (fun j => bitN (pwZ K p ((lo + j : Nat) : Int))) 0 : Nat) : Int) = 0 from rfl, show (lo : Int) + 1 + ((0 : Nat) : Int) = (lo : Int) + 1 by omega]
    rw [q_111_0]; (try simp only [↓n_rd, ↓n_al, li_0, li_1, li_2, li_4, li_10, li_15, zI_add, zI_sub, zI_mul, zI_neg, ↓Option.bind_some]); simp (disch := (first | assumption | exact tI_rg _ | omega | exact uR_at | exact row_ne hF (by decide) | exact row_ne (row_ne hF (by decide)) (by decide) | exact SnS_18 | exact SnS_30 | exact LdS_44 | exact LdS_46)) only [ed, maxZ1, em, ↓n_rd, ↓n_al, li_0, li_1, li_2, li_4, li_10, li_15, zI_add, zI_sub, zI_mul, zI_neg, ↓Option.bind_some, ↓g10_2, ↓g10_4, ↓al_200, ↓as_200, zIt2, uR_at, uR_ne, uR_uR, uC_uC, uC_at, ↓reduceIte, decide_eq_true_eq, leT, leF, ltT, ltF, eqT, eqF, ne_eq, not_true_eq_false, not_false_eq_true, Bool.false_eq_true, tI_zI]
  rw [h0]
  refine (loopN (fun j : Nat => runP MP d 111 (15, [some (.ref 192), some (.int (zI (kp : Int))), some (.int (zI ((orN (fun j => bitN (pwZ K p ((lo + j : Nat) : Int))) j : Nat) : Int))), some (.int (zI ((lo : Int) + 1 + ((j : Nat) : Int))))], [], mk E F G)) (p.length - 1 - lo) (fun j hj => ?_)).trans ?_
  · show runP MP d 111 (15, [some (.ref 192), some (.int (zI (kp : Int))), some (.int (zI ((orN (fun j => bitN (pwZ K p ((lo + j : Nat) : Int))) j : Nat) : Int))), some (.int (zI ((lo : Int) + 1 + ((j : Nat) : Int))))], [], mk E F G) = runP MP d 111 (15, [some (.ref 192), some (.int (zI (kp : Int))), some (.int (zI ((orN (fun j => bitN (pwZ K p ((lo + j : Nat) : Int))) (j + 1) : Nat) : Int))), some (.int (zI ((lo : Int) + 1 + (((j + 1) : Nat) : Int))))], [], mk E F G)
    have hr := pw_rg hI hv (j := ((lo + j : Nat) : Int)) (by omega) (by omega)
    have hw : tI (F 200 ((lo : Int) + 1 + (j : Int))) = pwZ K p ((lo + j : Nat) : Int) := by
      rw [show (lo : Int) + 1 + (j : Int) = ((lo + j : Nat) : Int) + 1 by omega]
      exact hW.2.2.2.2 _ (by omega) (by omega)
    have hor := orZ (orN (fun j => bitN (pwZ K p ((lo + j : Nat) : Int))) j) (bitN (pwZ K p ((lo + j : Nat) : Int)))
    rw [orN_succ, show (lo : Int) + 1 + ((j + 1 : Nat) : Int) = (lo : Int) + 1 + (j : Int) + 1 by omega]
    rw [q_111_15]; (try simp only [↓n_rd, ↓n_al, li_0, li_1, li_2, li_4, li_10, li_15, zI_add, zI_sub, zI_mul, zI_neg, ↓Option.bind_some]); simp (disch := (first | assumption | exact tI_rg _ | omega | exact uR_at | exact row_ne hF (by decide) | exact row_ne (row_ne hF (by decide)) (by decide) | exact SnS_18 | exact SnS_30 | exact LdS_44 | exact LdS_46)) only [q_111_0, ed, ↓al_200, hw, shlB, hor, ↓n_rd, ↓n_al, li_0, li_1, li_2, li_4, li_10, li_15, zI_add, zI_sub, zI_mul, zI_neg, ↓Option.bind_some, ↓g10_2, ↓g10_4, ↓al_200, ↓as_200, zIt2, uR_at, uR_ne, uR_uR, uC_uC, uC_at, ↓reduceIte, decide_eq_true_eq, leT, leF, ltT, ltF, eqT, eqF, ne_eq, not_true_eq_false, not_false_eq_true, Bool.false_eq_true, tI_zI]
  · show runP MP d 111 (15, [some (.ref 192), some (.int (zI (kp : Int))), some (.int (zI ((orN (fun j => bitN (pwZ K p ((lo + j : Nat) : Int))) (p.length - 1 - lo) : Nat) : Int))), some (.int (zI ((lo : Int) + 1 + (((p.length - 1 - lo) : Nat) : Int))))], [], mk E F G) = _
    have : ((p.length - 1 : Nat) : Int) < (lo : Int) + 1 + ((p.length - 1 - lo : Nat) : Int) := by omega
    rw [q_111_15]; (try simp only [↓n_rd, ↓n_al, li_0, li_1, li_2, li_4, li_10, li_15, zI_add, zI_sub, zI_mul, zI_neg, ↓Option.bind_some]); simp (disch := (first | assumption | exact tI_rg _ | omega | exact uR_at | exact row_ne hF (by decide) | exact row_ne (row_ne hF (by decide)) (by decide) | exact SnS_18 | exact SnS_30 | exact LdS_44 | exact LdS_46)) only [q_111_0, ed, ↓n_rd, ↓n_al, li_0, li_1, li_2, li_4, li_10, li_15, zI_add, zI_sub, zI_mul, zI_neg, ↓Option.bind_some, ↓g10_2, ↓g10_4, ↓al_200, ↓as_200, zIt2, uR_at, uR_ne, uR_uR, uC_uC, uC_at, ↓reduceIte, decide_eq_true_eq, leT, leF, ltT, ltF, eqT, eqF, ne_eq, not_true_eq_false, not_false_eq_true, Bool.false_eq_true, tI_zI]
theorem sg_run {d : Nat} {E : EnQ} {F F2 F3 : Nat → Int → Int32} {G G2 : Nat → Int → Int64} {x i kp m b : Int} {n s : Nat} (hi : 0 ≤ i ∧ i < 1000000) (hs : shx E 18 = (1, 5, 0)) (e4 : tI (F 18 1) = kp)
    (h111 : ∀ {kk : Int → HeapP → ResP} {kx : Nat → HeapP → ResP}, cT (callP MP d 111 [.ref 192, .int (zI kp)] (mk E F G)) kk kx = kk (tI (zI (s : Int))) (mk E F G))
    (h105 : ∀ {kk : HeapP → ResP} {kx : Nat → HeapP → ResP}, cV (callP MP d 105 [.ref 205, .int (zI (s : Int))] (mk E F G)) kk kx = kk (mk E F2 G2))
    (e0 : tI (F2 205 0) = m) (hm : 0 ≤ m ∧ m ≤ 5000)
    (h109 : ∀ {kk : Int → HeapP → ResP} {kx : Nat → HeapP → ResP}, cT (callP MP d 109 [.ref 192] (mk E F2 G2)) kk kx = kk b (mk E F3 G2)) :
    runP MP d 169 (39, [some (.ref 16), some (.int (zI x)), some (.int (zI (n : Int))), some (.int (zI 1)), some (.int (zI i))], [], mk E F G) = if 2000 < m then some (Sum.inl (some (.int (zI (-1000)))), mk E F2 G2) else runP MP d 169 (39, [some (.ref 16), some (.int (zI x)), some (.int (zI (n : Int))), some (.int (zI b)), some (.int (zI (i + 1)))], [], mk E F3 G2) := by
  by_cases c : 2000 < m
  · rw [if_pos c]
    rw [q_169_39]; (try simp only [↓n_rd, ↓n_cI, li_0, li_1, li_4, li_5, li_6, li_9, li_13, li_15, li_124, li_169, li_1000, li_2000, li_1000000, zI_add, zI_sub, zI_mul, zI_neg, ↓Option.bind_some]); simp (disch := (first | assumption | exact tI_rg _ | omega | exact uR_at | exact row_ne hF (by decide) | exact row_ne (row_ne hF (by decide)) (by decide) | exact SnS_18 | exact SnS_30 | exact LdS_44 | exact LdS_46)) only [q_169_0, q_169_103, e4, ↓h111, ↓h105, e0, ↓n_rd, ↓n_cI, li_0, li_1, li_4, li_5, li_6, li_9, li_13, li_15, li_124, li_169, li_1000, li_2000, li_1000000, zI_add, zI_sub, zI_mul, zI_neg, ↓Option.bind_some, ↓g11_13, ↓g11_15, ↓g11_4, ↓g5_0, ↓g5_1, ↓g9_0, zIt2, uR_at, uR_ne, uR_uR, uC_uC, uC_at, ↓reduceIte, decide_eq_true_eq, leT, leF, ltT, ltF, eqT, eqF, ne_eq, not_true_eq_false, not_false_eq_true, Bool.false_eq_true, tI_zI]
  · rw [if_neg c]
    rw [q_169_39]; (try simp only [↓n_rd, ↓n_cI, li_0, li_1, li_4, li_5, li_6, li_9, li_13, li_15, li_124, li_169, li_1000, li_2000, li_1000000, zI_add, zI_sub, zI_mul, zI_neg, ↓Option.bind_some]); simp (disch := (first | assumption | exact tI_rg _ | omega | exact uR_at | exact row_ne hF (by decide) | exact row_ne (row_ne hF (by decide)) (by decide) | exact SnS_18 | exact SnS_30 | exact LdS_44 | exact LdS_46)) only [q_169_0, q_169_103, e4, ↓h111, ↓h105, e0, ↓h109, ↓n_rd, ↓n_cI, li_0, li_1, li_4, li_5, li_6, li_9, li_13, li_15, li_124, li_169, li_1000, li_2000, li_1000000, zI_add, zI_sub, zI_mul, zI_neg, ↓Option.bind_some, ↓g11_13, ↓g11_15, ↓g11_4, ↓g5_0, ↓g5_1, ↓g9_0, zIt2, uR_at, uR_ne, uR_uR, uC_uC, uC_at, ↓reduceIte, decide_eq_true_eq, leT, leF, ltT, ltF, eqT, eqF, ne_eq, not_true_eq_false, not_false_eq_true, Bool.false_eq_true, tI_zI]
theorem cl_signs {d : Nat} {E : EnQ} {F : Nat → Int → Int32} {G : Nat → Int → Int64} {K : Int → Int32} (hO : SnO E F 18 K) (hD : SepP E 18) {x y : Int} (hx : -2147483648 ≤ x ∧ x ≤ 2147483647) (hy : -2147483648 ≤ y ∧ y ≤ 2147483647) (hd : 5 ≤ d) : ∃ E1 F1 G1, callP MP d 169 [.ref 16, .int (zI x), .int (zI y)] (mk E F G) = some (thrP [0, 2] (a_signs K x y), mk E1 F1 G1) ∧ KeepC E F G E1 F1 G1 := by
  have hI := hO.2.2.2.2
  obtain ⟨b0, b1, b2, b3, b4, b5, b6, b7, b8, b9⟩ := hI.1
  by_cases c1 : 0 ≤ x ∧ x < tI (K 1)
  · by_cases c2 : 0 ≤ y ∧ y ≤ 6
    · obtain ⟨n, hn⟩ : ∃ n : Nat, (n : Int) = y := ⟨y.toNat, by omega⟩
      subst hn
      have ha : a_signs K x n = (0, if 2000 < (slS K x n).length then -1000 else ((slS K x n).length : Int)) := (if_pos c1).trans ((if_pos c2).trans (by rw [show ((n : Nat) : Int).toNat = n by omega]))
      have hs := hO.1.1
      obtain ⟨M, hM⟩ : ∃ M : Nat, M = 4096 := ⟨_, rfl⟩
      obtain ⟨F0, G0, r1, r2, r3, r4⟩ := ct_104 (d := d - 1) (E := E) (F := F) (G := G) hM (by omega)
      have k0 : KeepD E F G E F0 G0 := KeepD_FG (p := fun q => q = 205) (fun q hq => by unfold scrC; omega) (fun q hq => r3 q hq) (fun q h1 h2 h3 => r4 q h3)
      obtain ⟨E1, hE1⟩ : ∃ E1, E1 = uE E 192 0 (rfQ E 18 0) := ⟨_, rfl⟩
      obtain ⟨F1, hF1⟩ : ∃ F1, F1 = bgW F0 x n := ⟨_, rfl⟩
      have k1 : KeepD E F G E1 F1 G0 := by
        rw [hF1, hE1]
        exact (k0.tr (KeepD_E (q := 192) (k := 0) (x := rfQ E 18 0) (by omega))).tr (KeepD_kp3 kp3_bg)
      have hpl2 : rfQ E 18 0 = 19 ∨ 247 ≤ rfQ E 18 0 := hD.2
      have hW0 : WaR E1 F1 K (rfQ E 18 0) n [x] := by rw [hF1, hE1]; exact WaR_bg (by omega) (by omega)
      have hU0 : UnR M F1 G0 [] := by
        unfold UnR at r2 ⊢
        rw [show F1 205 = F0 205 from by rw [hF1]; exact kp3_bg 205 (by decide) (by decide) (by decide)]; exact r2
      have hpl1 : rfQ E1 18 0 = rfQ E 18 0 := by rw [hE1]; show uR E.2.2.2 192 (uC (E.2.2.2 192) 0 (rfQ E 18 0)) 18 0 = E.2.2.2 18 0; rw [uR_ne (by decide)]
      have hv0 : VaP K [x] := ⟨c1, fun z => absurd rfl z, trivial⟩
      have hbk : bkN n ≤ 600000 := by
        have : n = 0 ∨ n = 1 ∨ n = 2 ∨ n = 3 ∨ n = 4 ∨ n = 5 ∨ n = 6 := by omega
        rcases this with rfl | rfl | rfl | rfl | rfl | rfl | rfl <;> decide
      have hloop := wk_run (K := K) (ρ := ResP) (by omega) (wy_self hI) (V := vS K) (most := n) (B := 1000000)
        (fun i (s : (Nat → Int → Int32) × (Nat → Int → Int64) × Bool) (b : Bool) => if s.2.2 = true then some (Sum.inl (some (.int (zI (-1000)))), mk E1 s.1 s.2.1) else runP MP (d - 1) 169 (39, [some (.ref 16), some (.int (zI x)), some (.int (zI (n : Int))), some (.int (zI (if b = true then 1 else 0))), some (.int (zI (i : Int)))], [], mk E1 s.1 s.2.1))
        (fun s l o => KeepD E F G E1 s.1 s.2.1 ∧ ((s.2.2 = true ∧ 2000 < l.length) ∨ (s.2.2 = false ∧ l.length ≤ 2000 ∧ UnR M s.1 s.2.1 l ∧ ∀ p, o = some p → WaR E1 s.1 K (rfQ E 18 0) n p)))
        (fun i s l p hi hp hl hv ⟨j1, j2⟩ => by
          rcases j2 with ⟨h1, h2⟩ | ⟨h1, h2, h3, h4⟩
          · refine ⟨s, ⟨j1, Or.inl ⟨h1, ?_⟩⟩, ?_⟩
            · show 2000 < (adL l _).length
              unfold adL; rw [if_pos h2]; exact h2
            · show (if s.2.2 = true then _ else _) = (if s.2.2 = true then _ else _)
              rw [if_pos h1, if_pos h1]
          · have hw := h4 p rfl
            obtain ⟨oo, dd⟩ := SnO_keep hO hD j1.c
            have hP := oo.2.1
            have hR := oo.2.2.1
            rw [hpl1] at hP hR
            have hsg := swN_lt hI (kp := (tI (K 4)).toNat) hv
            obtain ⟨F2, G2, q1, q2, q3, q4⟩ := ct_105 (d := d - 1) (E := E1) (F := s.1) (G := s.2.1) (M := M) (s := swN K (tI (K 4)).toNat p) hM h3 (by omega) hsg (by omega)
            have hW2 : WaR E1 F2 K (rfQ E 18 0) n p := WaR_oth (q3 _ (by decide)) (q3 _ (by decide)) (q3 _ (by decide)) hw
            have hR2 : PlR F2 (rfQ E 18 0) K := PlR_move hI (fun b h1 h2 => q3 b (by omega)) (fun j _ => rfl) hR
            obtain ⟨F3, t1, t2, t3⟩ := ct_109 (d := d - 1) (E := E1) (F := F2) (G := G2) (most := n) hI hpl2 hP hp hl (by omega) hv hW2 hR2 (by omega)
            have k2 : KeepD E1 s.1 s.2.1 E1 F2 G2 := KeepD_FG (p := fun q => q = 205) (fun q hq => by unfold scrC; omega) (fun q hq => q3 q hq) (fun q h1 h2 h3 => q4 q h3)
            have ev : vS K p l = if swN K (tI (K 4)).toNat p ∈ l then l else swN K (tI (K 4)).toNat p :: l := if_neg (by omega)
            have el : tI (F2 205 0) = ((vS K p l).length : Int) := by rw [ev]; exact q2.1
            have hll : (vS K p l).length ≤ 2001 := by
              rw [ev]; split
              · omega
              · simp only [List.length_cons]; omega
            have hrun := sg_run (d := d - 1) (E := E1) (F := s.1) (F2 := F2) (F3 := F3) (G := s.2.1) (G2 := G2) (x := x) (i := (i : Int)) (kp := tI (K 4)) (n := n) (s := swN K (tI (K 4)).toNat p) (m := ((vS K p l).length : Int)) (b := if (fthZ K n p).isSome = true then 1 else 0) (by omega) oo.1.1 (by rw [oo.2.2.2.1.1.1])
              (by
                intro kk kx
                have := ct_111 (d := d - 1) (E := E1) (F := s.1) (G := s.2.1) (kp := (tI (K 4)).toNat) hI hp (by omega) hv hw (by omega) (by omega)
                rw [show (((tI (K 4)).toNat : Nat) : Int) = tI (K 4) by omega] at this
                exact cT_raw this)
              (cV_ret q1) el (by omega) (cT_ret t1 (by split <;> omega))
            have e1 : (if s.2.2 = true then some (Sum.inl (some (.int (zI (-1000)))), mk E1 s.1 s.2.1) else runP MP (d - 1) 169 (39, [some (.ref 16), some (.int (zI x)), some (.int (zI (n : Int))), some (.int (zI (if true = true then 1 else 0))), some (.int (zI (i : Int)))], [], mk E1 s.1 s.2.1)) = runP MP (d - 1) 169 (39, [some (.ref 16), some (.int (zI x)), some (.int (zI (n : Int))), some (.int (zI 1)), some (.int (zI (i : Int)))], [], mk E1 s.1 s.2.1) := by rw [h1]; rfl
            by_cases c : 2000 < (vS K p l).length
            · rw [if_pos (by omega)] at hrun
              exact ⟨(F2, G2, true), ⟨j1.tr k2, Or.inl ⟨rfl, c⟩⟩, e1.trans hrun⟩
            · rw [if_neg (by omega)] at hrun
              refine ⟨(F3, G2, false), ⟨(j1.tr k2).tr (KeepD_kp3 t2), Or.inr ⟨rfl, by omega, ?_, t3⟩⟩, e1.trans hrun⟩
              rw [← ev] at q2
              show UnR M F3 G2 (vS K p l)
              unfold UnR at q2 ⊢
              rw [show F3 205 = F2 205 from t2 205 (by decide) (by decide) (by decide)]; exact q2)
        n [x] 0 (F1, G0, false) [] (by intro z; cases z) (by show 1 + n = n + 1; omega) hv0 (by omega) ⟨k1, Or.inr ⟨rfl, by show 0 ≤ 2000; omega, hU0, fun p hp => by injection hp with hp; rw [← hp]; exact hW0⟩⟩
      obtain ⟨s', j, l1, l2, ⟨i1, i2⟩, hrun⟩ := hloop
      refine ⟨E1, s'.1, s'.2.1, ?_, i1.c⟩
      rw [show thrP [0, 2] (a_signs K x n) = Sum.inl (some (.int (zI (if 2000 < (slS K x n).length then -1000 else ((slS K x n).length : Int))))) by rw [ha]; rfl]
      obtain ⟨e, rfl⟩ : ∃ e, d = e + 1 := ⟨d - 1, by omega⟩
      have hin : callP MP (e + 1) 169 [.ref 16, .int (zI x), .int (zI (n : Int))] (mk E F G) = runP MP e 169 (0, [some (.ref 16), some (.int (zI x)), some (.int (zI (n : Int))), none, none], [], mk E F G) := into_eq (by omega) hM_169 (rcv_mk rfl (by decide)) rfl
      have c104 : ∀ {kk : HeapP → ResP} {kx : Nat → HeapP → ResP}, cV (callP MP e 104 [.ref 205] (mk E F G)) kk kx = kk (mk E F0 G0) := fun {kk kx} => cV_ret r1
      have c107 : ∀ {kk : Int → HeapP → ResP} {kx : Nat → HeapP → ResP}, cT (callP MP e 107 [.ref 192, .ref (rfQ E 18 0), .int (zI x), .int (zI (n : Int))] (mk E F0 G0)) kk kx = kk 1 (mk E1 F1 G0) := fun {kk kx} => by
        rw [cc_107 (by omega) (by omega), hF1, hE1]
      have h0 : runP MP e 169 (0, [some (.ref 16), some (.int (zI x)), some (.int (zI (n : Int))), none, none], [], mk E F G) = runP MP e 169 (39, [some (.ref 16), some (.int (zI x)), some (.int (zI (n : Int))), some (.int (zI 1)), some (.int (zI 0))], [], mk E1 F1 G0) := by
        rw [q_169_0]; (try simp only [↓n_rd, ↓n_cI, li_0, li_1, li_4, li_5, li_6, li_9, li_13, li_15, li_124, li_169, li_1000, li_2000, li_1000000, zI_add, zI_sub, zI_mul, zI_neg, ↓Option.bind_some]); simp (disch := (first | assumption | exact tI_rg _ | omega | exact uR_at | exact row_ne hF (by decide) | exact row_ne (row_ne hF (by decide)) (by decide) | exact SnS_18 | exact SnS_30 | exact LdS_44 | exact LdS_46)) only [q_169_103, ↓cc_127t hO, ↓cc_124t, ↓c104, ↓c107, ↓n_rd, ↓n_cI, li_0, li_1, li_4, li_5, li_6, li_9, li_13, li_15, li_124, li_169, li_1000, li_2000, li_1000000, zI_add, zI_sub, zI_mul, zI_neg, ↓Option.bind_some, ↓g11_13, ↓g11_15, ↓g11_4, ↓g5_0, ↓g5_1, ↓g9_0, zIt2, uR_at, uR_ne, uR_uR, uC_uC, uC_at, ↓reduceIte, decide_eq_true_eq, leT, leF, ltT, ltF, eqT, eqF, ne_eq, not_true_eq_false, not_false_eq_true, Bool.false_eq_true, tI_zI]
      have hrun : runP MP e 169 (39, [some (.ref 16), some (.int (zI x)), some (.int (zI (n : Int))), some (.int (zI 1)), some (.int (zI 0))], [], mk E1 F1 G0) = if s'.2.2 = true then some (Sum.inl (some (.int (zI (-1000)))), mk E1 s'.1 s'.2.1) else runP MP e 169 (39, [some (.ref 16), some (.int (zI x)), some (.int (zI (n : Int))), some (.int (zI 0)), some (.int (zI (j : Int)))], [], mk E1 s'.1 s'.2.1) := hrun
      rw [hin, h0, hrun]
      have i2 : (s'.2.2 = true ∧ 2000 < (slS K x n).length) ∨ (s'.2.2 = false ∧ (slS K x n).length ≤ 2000 ∧ UnR M s'.1 s'.2.1 (slS K x n) ∧ ∀ p, clmZ K [x] = some p → WaR E1 s'.1 K (rfQ E 18 0) n p) := i2
      rcases i2 with ⟨h1, h2⟩ | ⟨h1, h2, h3, -⟩
      · rw [if_pos h1, if_pos h2]
      · rw [if_neg (by rw [h1]; decide), if_neg (by omega)]
        have e0 := h3.1
        rw [q_169_39]; (try simp only [↓n_rd, ↓n_cI, li_0, li_1, li_4, li_5, li_6, li_9, li_13, li_15, li_124, li_169, li_1000, li_2000, li_1000000, zI_add, zI_sub, zI_mul, zI_neg, ↓Option.bind_some]); simp (disch := (first | assumption | exact tI_rg _ | omega | exact uR_at | exact row_ne hF (by decide) | exact row_ne (row_ne hF (by decide)) (by decide) | exact SnS_18 | exact SnS_30 | exact LdS_44 | exact LdS_46)) only [q_169_0, q_169_103, e0, ↓n_rd, ↓n_cI, li_0, li_1, li_4, li_5, li_6, li_9, li_13, li_15, li_124, li_169, li_1000, li_2000, li_1000000, zI_add, zI_sub, zI_mul, zI_neg, ↓Option.bind_some, ↓g11_13, ↓g11_15, ↓g11_4, ↓g5_0, ↓g5_1, ↓g9_0, zIt2, uR_at, uR_ne, uR_uR, uC_uC, uC_at, ↓reduceIte, decide_eq_true_eq, leT, leF, ltT, ltF, eqT, eqF, ne_eq, not_true_eq_false, not_false_eq_true, Bool.false_eq_true, tI_zI]
    · have ha : a_signs K x y = (2, 0) := (if_pos c1).trans (if_neg c2)
      refine ⟨jE E, F, G, ?_, KeepC_j⟩
      rw [show thrP [0, 2] (a_signs K x y) = Sum.inr 2 by rw [ha]; rfl]
      refine into (D := 4) (by omega) hM_169 (rcv_mk rfl (by decide)) rfl fun d hd => ?_
      show runP MP d 169 (0, [some (.ref 16), some (.int (zI x)), some (.int (zI y)), none, none], [], _) = _
      rw [q_169_0]; (try simp only [↓n_rd, ↓n_cI, li_0, li_1, li_4, li_5, li_6, li_9, li_13, li_15, li_124, li_169, li_1000, li_2000, li_1000000, zI_add, zI_sub, zI_mul, zI_neg, ↓Option.bind_some]); simp (disch := (first | assumption | exact tI_rg _ | omega | exact uR_at | exact row_ne hF (by decide) | exact row_ne (row_ne hF (by decide)) (by decide) | exact SnS_18 | exact SnS_30 | exact LdS_44 | exact LdS_46)) only [q_169_103, ↓cc_127t hO, ↓cc_124f, thr_eq, ↓n_rd, ↓n_cI, li_0, li_1, li_4, li_5, li_6, li_9, li_13, li_15, li_124, li_169, li_1000, li_2000, li_1000000, zI_add, zI_sub, zI_mul, zI_neg, ↓Option.bind_some, ↓g11_13, ↓g11_15, ↓g11_4, ↓g5_0, ↓g5_1, ↓g9_0, zIt2, uR_at, uR_ne, uR_uR, uC_uC, uC_at, ↓reduceIte, decide_eq_true_eq, leT, leF, ltT, ltF, eqT, eqF, ne_eq, not_true_eq_false, not_false_eq_true, Bool.false_eq_true, tI_zI]
  · have ha : a_signs K x y = (1, 0) := if_neg c1
    refine ⟨jE E, F, G, ?_, KeepC_j⟩
    rw [show thrP [0, 2] (a_signs K x y) = Sum.inr 0 by rw [ha]; rfl]
    refine into (D := 4) (by omega) hM_169 (rcv_mk rfl (by decide)) rfl fun d hd => ?_
    show runP MP d 169 (0, [some (.ref 16), some (.int (zI x)), some (.int (zI y)), none, none], [], _) = _
    rw [q_169_0]; (try simp only [↓n_rd, ↓n_cI, li_0, li_1, li_4, li_5, li_6, li_9, li_13, li_15, li_124, li_169, li_1000, li_2000, li_1000000, zI_add, zI_sub, zI_mul, zI_neg, ↓Option.bind_some]); simp (disch := (first | assumption | exact tI_rg _ | omega | exact uR_at | exact row_ne hF (by decide) | exact row_ne (row_ne hF (by decide)) (by decide) | exact SnS_18 | exact SnS_30 | exact LdS_44 | exact LdS_46)) only [q_169_103, ↓cc_127f hO, thr_eq, ↓n_rd, ↓n_cI, li_0, li_1, li_4, li_5, li_6, li_9, li_13, li_15, li_124, li_169, li_1000, li_2000, li_1000000, zI_add, zI_sub, zI_mul, zI_neg, ↓Option.bind_some, ↓g11_13, ↓g11_15, ↓g11_4, ↓g5_0, ↓g5_1, ↓g9_0, zIt2, uR_at, uR_ne, uR_uR, uC_uC, uC_at, ↓reduceIte, decide_eq_true_eq, leT, leF, ltT, ltF, eqT, eqF, ne_eq, not_true_eq_false, not_false_eq_true, Bool.false_eq_true, tI_zI]
end S94zzzr
