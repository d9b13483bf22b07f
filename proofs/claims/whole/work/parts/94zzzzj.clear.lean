/-! CLASS: clear -/
section S94zzzzj
set_option linter.unusedVariables false
set_option linter.unusedSimpArgs false
def pwL (K : Int → Int32) (p : List Int) (j : Nat) : Int := pwZ K p (j : Int)
theorem pwL_in {K : Int → Int32} (hI : InvK K) {p : List Int} (hv : VaP K p) : ∀ i, i < p.length - 1 → 0 ≤ pwL K p i ∧ pwL K p i < 2 * tI (K 2) := fun i hi => pw_rg hI hv (by omega) (by omega)
/-- how many rows leave the same prints -/
def onC (K : Int → Int32) (x : Int) (p : List Int) : Int := NMz K (p.length - 1) x (lfW (pwL K p) (p.length - 1))
def vC (K : Int → Int32) (x : Int) (n : Nat) (y : Int) (p : List Int) (a : Int) : Int := if p.length = n + 1 ∧ (y = 0 ∨ onC K x p = 1) then a + 1 else a
def clN (K : Int → Int32) (x : Int) (n : Nat) (y : Int) : Int := wkF K (vC K x n y) n [x] 0
def a_clear (K : Int → Int32) (x z y : Int) : Int × Int := if 0 ≤ x ∧ x < tI (K 1) then (if 0 ≤ z ∧ z ≤ 5 then (0, clN K x z.toNat y) else (2, 0)) else (1, 0)
def kp8 (F F1 : Nat → Int → Int32) : Prop := ∀ q, q ≠ 178 → ¬ (185 ≤ q ∧ q ≤ 188) → q ≠ 191 → q ≠ 207 → F1 q = F q
theorem ct_168 {d : Nat} {E : EnQ} {F : Nat → Int → Int32} {G : Nat → Int → Int64} {K : Int → Int32} {pl : Nat} {most x : Int} {p : List Int} (hI : InvK K) (hpl2 : pl = 19 ∨ 247 ≤ pl) (hP : PlS E pl) (hR : PlR F pl K) (hpl : rfQ E 18 0 = pl) (hs : shx E 18 = (1, 5, 0)) (hp0 : p ≠ []) (hl : p.length ≤ 6) (hv : VaP K p) (hW : WaR E F K pl most p) (hx : 0 ≤ x ∧ x < 100) (hd : 5 + 1 ≤ d) :
    ∃ F1 G1, callP MP d 168 [.ref 16, .int (zI x)] (mk E F G) = some (Sum.inl (some (.int (zI (if onC K x p = 1 then 1 else 0)))), mk (uE E 178 0 pl) F1 G1) ∧ kp8 F F1 ∧ ∀ q, q ≠ 189 → G1 q = G q := by
  have hl0 := len_pos hp0
  have hb2 := hI.1.2.2.1
  obtain ⟨k, hk⟩ : ∃ k : Nat, k = p.length - 1 := ⟨_, rfl⟩
  have hw := pwL_in hI hv
  have ed : tI (F 192 2) = (k : Int) := by rw [hW.2.2.1]; omega
  have eo : onC K x p = NMz K k x (lfW (pwL K p) k) := by unfold onC; rw [← hk]
  rw [← hk] at hw
  rw [eo]
  have hR2 : PlR (uR F 207 (bgR (F 207) (pwL K p) k)) pl K := PlR_ld hI (by omega) hR
  obtain ⟨F1, r1, r2, n, sw, nd, st, r3, r4⟩ := ct_bag (d := d - 1) (E := E) (F := uR F 207 (bgR (F 207) (pwL K p) k)) (G := G) (G0 := F) (K := K) (pl := pl) (k := k) (w := pwL K p) hI hpl2 hP hR2 hw (by omega) uR_at (by omega)
  obtain ⟨r, g, q1⟩ := ct_84 (d := d - 1) (E := uE E 178 0 pl) (F := F1) (G := G) (u := x) r4 r3 hw hx (by omega)
  have hb := rw_bd hI (k := k) (by omega) (u := x) (lf := lfW (pwL K p) k)
  refine ⟨uR F1 191 r, uR G 189 g, ?_, fun q a1 a2 a3 a4 => ?_, fun q hq => uR_ne hq⟩
  obtain ⟨e, rfl⟩ : ∃ e, d = e + 1 := ⟨d - 1, by omega⟩
  have hin : callP MP (e + 1) 168 [.ref 16, .int (zI x)] (mk E F G) = runP MP e 168 (0, [some (.ref 16), some (.int (zI x)), none], [], mk E F G) := into_eq (by omega) hM_168 (rcv_mk rfl (by decide)) rfl
  · have r1 : callP MP e 82 [.ref 178, .ref pl, .ref 207] (mk E (uR F 207 (bgR (F 207) (pwL K p) k)) G) = some (Sum.inl none, mk (uE E 178 0 pl) F1 G) := r1
    have c82 : ∀ {kk : HeapP → ResP} {kx : Nat → HeapP → ResP}, cV (callP MP e 82 [.ref 178, .ref pl, .ref 207] (mk E (uR F 207 (bgR (F 207) (pwL K p) k)) G)) kk kx = kk (mk (uE E 178 0 pl) F1 G) := fun {kk kx} => cV_ret r1
    have c84 : ∀ {kk : Int → HeapP → ResP} {kx : Nat → HeapP → ResP}, cJT (callP MP e 84 [.ref 178, .int (zI x)] (mk (uE E 178 0 pl) F1 G)) kk kx = kk (NMz K k x (lfW (pwL K p) k)) (mk (uE E 178 0 pl) (uR F1 191 r) (uR G 189 g)) := fun {kk kx} => cJT_ret q1 (by omega)
    have c0 : ∀ {kk : HeapP → ResP} {kx : Nat → HeapP → ResP}, cV (callP MP e 0 [.ref 207, .int (zI 0)] (mk E F G)) kk kx = kk (mk E (uR F 207 (bgR (F 207) (pwL K p) 0)) G) := fun {kk kx} => by
      rw [← bgR_0]
      exact cc_0 (a := 207) (n := 32) rfl (by decide) (by omega)
    have h0 : runP MP e 168 (0, [some (.ref 16), some (.int (zI x)), none], [], mk E F G) = runP MP e 168 (10, [some (.ref 16), some (.int (zI x)), some (.int (zI (((0 : Nat) : Int) + 1)))], [], mk E (uR F 207 (bgR (F 207) (pwL K p) 0)) G) := by
      rw [show ((0 : Nat) : Int) + 1 = 1 from rfl]
      rw [q_168_0]; (try simp only [↓n_rd, ↓n_al, ↓n_cJ, li_0, li_1, li_2, li_4, li_5, li_10, li_12, li_13, li_16, li_168, lj_0, lj_1, lj_2, lj_4, lj_5, lj_10, lj_12, zJ_add, zJ_sub, zJ_mul, zJ_neg, zJ_l2i, zI_add, zI_sub, zI_mul, zI_neg, ↓Option.bind_some]); simp (disch := (first | assumption | exact tI_rg _ | omega | exact uR_at | exact row_ne hF (by decide) | exact row_ne (row_ne hF (by decide)) (by decide) | exact SnS_18 | exact SnS_30 | exact LdS_44 | exact LdS_46)) only [q_168_81, ↓c0, ↓n_rd, ↓n_al, ↓n_cJ, retZ_z, li_0, li_1, li_2, li_4, li_5, li_10, li_12, li_13, li_16, li_168, lj_0, lj_1, lj_2, lj_4, lj_5, lj_10, lj_12, zJ_add, zJ_sub, zJ_mul, zJ_neg, zJ_l2i, tJ_zJ, zI_add, zI_sub, zI_mul, zI_neg, ↓Option.bind_some, ↓g10_2, ↓g10_4, ↓g11_12, ↓g11_13, ↓g11_16, ↓g11_4, ↓g5_0, ↓al_200, ↓as_200, ↓al_207, ↓as_207, zIt2, uR_at, uR_ne, uR_uR, uC_uC, uC_at, ↓reduceIte, decide_eq_true_eq, leT, leF, ltT, ltF, eqT, eqF, ne_eq, not_true_eq_false, not_false_eq_true, Bool.false_eq_true, tI_zI]
    rw [hin, h0]
    refine (loopN (fun j : Nat => runP MP e 168 (10, [some (.ref 16), some (.int (zI x)), some (.int (zI (((j : Nat) : Int) + 1)))], [], mk E (uR F 207 (bgR (F 207) (pwL K p) j)) G)) (k) (fun j hj => ?_)).trans ?_
    · show runP MP e 168 (10, [some (.ref 16), some (.int (zI x)), some (.int (zI (((j : Nat) : Int) + 1)))], [], mk E (uR F 207 (bgR (F 207) (pwL K p) j)) G) = runP MP e 168 (10, [some (.ref 16), some (.int (zI x)), some (.int (zI ((((j + 1) : Nat) : Int) + 1)))], [], mk E (uR F 207 (bgR (F 207) (pwL K p) (j + 1))) G)
      have hwj := hw j hj
      have hr : tI (F 200 ((j : Int) + 1)) = pwL K p j := hW.2.2.2.2 j (by omega) (by omega)
      have hws : bgR (F 207) (pwL K p) (j + 1) = _ := bgR_s (r := F 207) (w := pwL K p) (k := j) (by omega) (by omega)
      rw [nsucc, hws]
      rw [q_168_10]; (try simp only [↓n_rd, ↓n_al, ↓n_cJ, li_0, li_1, li_2, li_4, li_5, li_10, li_12, li_13, li_16, li_168, lj_0, lj_1, lj_2, lj_4, lj_5, lj_10, lj_12, zJ_add, zJ_sub, zJ_mul, zJ_neg, zJ_l2i, zI_add, zI_sub, zI_mul, zI_neg, ↓Option.bind_some]); simp (disch := (first | assumption | exact tI_rg _ | omega | exact uR_at | exact row_ne hF (by decide) | exact row_ne (row_ne hF (by decide)) (by decide) | exact SnS_18 | exact SnS_30 | exact LdS_44 | exact LdS_46)) only [q_168_0, q_168_81, ed, hr, ↓al_200, ↓al_207, ↓as_207, ↓n_rd, ↓n_al, ↓n_cJ, retZ_z, li_0, li_1, li_2, li_4, li_5, li_10, li_12, li_13, li_16, li_168, lj_0, lj_1, lj_2, lj_4, lj_5, lj_10, lj_12, zJ_add, zJ_sub, zJ_mul, zJ_neg, zJ_l2i, tJ_zJ, zI_add, zI_sub, zI_mul, zI_neg, ↓Option.bind_some, ↓g10_2, ↓g10_4, ↓g11_12, ↓g11_13, ↓g11_16, ↓g11_4, ↓g5_0, ↓al_200, ↓as_200, ↓al_207, ↓as_207, zIt2, uR_at, uR_ne, uR_uR, uC_uC, uC_at, ↓reduceIte, decide_eq_true_eq, leT, leF, ltT, ltF, eqT, eqF, ne_eq, not_true_eq_false, not_false_eq_true, Bool.false_eq_true, tI_zI]
    · show runP MP e 168 (10, [some (.ref 16), some (.int (zI x)), some (.int (zI ((((k) : Nat) : Int) + 1)))], [], mk E (uR F 207 (bgR (F 207) (pwL K p) (k))) G) = _
      by_cases c : NMz K k x (lfW (pwL K p) k) = 1
      · rw [if_pos c]
        have hlt : (k : Int) < (k : Int) + 1 := by omega
        rw [q_168_10]; (try simp only [↓n_rd, ↓n_al, ↓n_cJ, li_0, li_1, li_2, li_4, li_5, li_10, li_12, li_13, li_16, li_168, lj_0, lj_1, lj_2, lj_4, lj_5, lj_10, lj_12, zJ_add, zJ_sub, zJ_mul, zJ_neg, zJ_l2i, zI_add, zI_sub, zI_mul, zI_neg, ↓Option.bind_some]); simp (disch := (first | assumption | exact tI_rg _ | omega | exact uR_at | exact row_ne hF (by decide) | exact row_ne (row_ne hF (by decide)) (by decide) | exact SnS_18 | exact SnS_30 | exact LdS_44 | exact LdS_46)) only [q_168_0, q_168_81, ed, hpl, ↓c82, ↓n_cJ, ↓c84, cmpJ_eq, c, ↓n_rd, ↓n_al, ↓n_cJ, retZ_z, li_0, li_1, li_2, li_4, li_5, li_10, li_12, li_13, li_16, li_168, lj_0, lj_1, lj_2, lj_4, lj_5, lj_10, lj_12, zJ_add, zJ_sub, zJ_mul, zJ_neg, zJ_l2i, tJ_zJ, zI_add, zI_sub, zI_mul, zI_neg, ↓Option.bind_some, ↓g10_2, ↓g10_4, ↓g11_12, ↓g11_13, ↓g11_16, ↓g11_4, ↓g5_0, ↓al_200, ↓as_200, ↓al_207, ↓as_207, zIt2, uR_at, uR_ne, uR_uR, uC_uC, uC_at, ↓reduceIte, decide_eq_true_eq, leT, leF, ltT, ltF, eqT, eqF, ne_eq, not_true_eq_false, not_false_eq_true, Bool.false_eq_true, tI_zI]
      · rw [if_neg c]
        have hlt : (k : Int) < (k : Int) + 1 := by omega
        rw [q_168_10]; (try simp only [↓n_rd, ↓n_al, ↓n_cJ, li_0, li_1, li_2, li_4, li_5, li_10, li_12, li_13, li_16, li_168, lj_0, lj_1, lj_2, lj_4, lj_5, lj_10, lj_12, zJ_add, zJ_sub, zJ_mul, zJ_neg, zJ_l2i, zI_add, zI_sub, zI_mul, zI_neg, ↓Option.bind_some]); simp (disch := (first | assumption | exact tI_rg _ | omega | exact uR_at | exact row_ne hF (by decide) | exact row_ne (row_ne hF (by decide)) (by decide) | exact SnS_18 | exact SnS_30 | exact LdS_44 | exact LdS_46)) only [q_168_0, q_168_81, ed, hpl, ↓c82, ↓n_cJ, ↓c84, cmpJ_eq, c, ↓n_rd, ↓n_al, ↓n_cJ, retZ_z, li_0, li_1, li_2, li_4, li_5, li_10, li_12, li_13, li_16, li_168, lj_0, lj_1, lj_2, lj_4, lj_5, lj_10, lj_12, zJ_add, zJ_sub, zJ_mul, zJ_neg, zJ_l2i, tJ_zJ, zI_add, zI_sub, zI_mul, zI_neg, ↓Option.bind_some, ↓g10_2, ↓g10_4, ↓g11_12, ↓g11_13, ↓g11_16, ↓g11_4, ↓g5_0, ↓al_200, ↓as_200, ↓al_207, ↓as_207, zIt2, uR_at, uR_ne, uR_uR, uC_uC, uC_at, ↓reduceIte, decide_eq_true_eq, leT, leF, ltT, ltF, eqT, eqF, ne_eq, not_true_eq_false, not_false_eq_true, Bool.false_eq_true, tI_zI]

  · rw [uR_ne a3, r2 q a1 (by omega) (by omega) (by omega) (by omega), uR_ne a4]
end S94zzzzj
