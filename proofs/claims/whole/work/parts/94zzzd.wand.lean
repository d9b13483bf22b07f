/-! CLASS: one step of a row -/
section S94zzzd
set_option linter.unusedVariables false
set_option linter.unusedSimpArgs false
/-- the first place from f on that a way leads to -/
def nxZ (K : Int → Int32) (u : Int) (f : Nat) : Int := fndN (fun j => !(wayZ K u j == -1)) ((tI (K 1)).toNat - f) f
def gnF (F : Nat → Int → Int32) (m v y : Int) : Nat → Int → Int32 := uR (uR (uR F 192 (uC (F 192) 2 (zI (m + 1)))) 199 (uC (F 199) (m + 1) (zI v))) 200 (uC (F 200) (m + 1) (zI y))
theorem ct_110 {d : Nat} {E : EnQ} {F : Nat → Int → Int32} {G : Nat → Int → Int64} {K : Int → Int32} {p f : Nat} {m u : Int} (hq : rfQ E 192 0 = p) (hR : PlR F p K) (hI : InvK K) (hP : PlS E p) (hm : tI (F 192 2) = m) (hm2 : 0 ≤ m ∧ m < 6) (hu : tI (F 199 m) = u) (hu2 : 0 ≤ u ∧ u < tI (K 1)) (hf : f ≤ 10) (hd : 3 ≤ d) : callP MP d 110 [.ref 192, .int (zI (f : Int))] (mk E F G) = some (Sum.inl (some (.int (zI (if nxZ K u f = -1 then 0 else 1)))), mk E (if nxZ K u f = -1 then F else gnF F m (nxZ K u f) (wayZ K u (nxZ K u f))) G) := by
  have hs2 := hP.1
  have hA := hI.1.2.1
  have hA2 := hI.1.2.2.1
  have e1 : tI (F p 1) = tI (K 1) := by rw [hR.1.2.1]
  refine into (D := 2) (by omega) hM_110 (rcv_mk rfl (by decide)) rfl fun d hd => ?_
  show runP MP d 110 (0, [some (.ref 192), some (.int (zI (f : Int))), none, none], [], _) = _
  have h0 : runP MP d 110 (0, [some (.ref 192), some (.int (zI (f : Int))), none, none], [], mk E F G) = runP MP d 110 (2, [some (.ref 192), some (.int (zI (f : Int))), some (.int (zI ((f + 0 : Nat) : Int))), none], [], mk E F G) := by
    rw [q_110_0]; rfl
  rw [h0]
  refine loopS (σ := Option Value) (Post := fun r => r = some (Sum.inl (some (.int (zI (if nxZ K u f = -1 then 0 else 1)))), mk E (if nxZ K u f = -1 then F else gnF F m (nxZ K u f) (wayZ K u (nxZ K u f))) G))
    (fun j s => runP MP d 110 (2, [some (.ref 192), some (.int (zI (f : Int))), some (.int (zI ((f + j : Nat) : Int))), s], [], mk E F G))
    (fun j _ => ∀ i, f ≤ i → i < f + j → wayZ K u i = -1) ((tI (K 1)).toNat - f) none (fun i h1 h2 => by omega) (fun s hI2 => ?_) (fun j s hj hI2 => ?_)
  · show runP MP d 110 _ = _
    have e : nxZ K u f = -1 := fndN_none (fun i h1 h2 => by rw [hI2 i h1 h2]; rfl)
    rw [if_pos e, if_pos e]
    have g : tI (K 1) ≤ ((f + ((tI (K 1)).toNat - f) : Nat) : Int) := by omega
    rw [q_110_2]; (try simp only [↓n_rd, ↓n_al, ↓n_cI, li_0, li_1, li_2, li_3, li_4, li_6, li_10, zI_add, zI_sub, zI_mul, zI_neg, ↓Option.bind_some]); simp (disch := (first | assumption | exact tI_rg _ | omega | exact uR_at | exact row_ne hF (by decide) | exact row_ne (row_ne hF (by decide)) (by decide) | exact SnS_18 | exact SnS_30 | exact LdS_44 | exact LdS_46)) only [q_110_0, q_110_83, hq, e1, ↓n_rd, ↓n_al, ↓n_cI, retZ_z, li_0, li_1, li_2, li_3, li_4, li_6, li_10, zI_add, zI_sub, zI_mul, zI_neg, ↓Option.bind_some, ↓g10_0, ↓g10_2, ↓g10_3, ↓g10_4, ↓g2_1, ↓p10_2, ↓al_199, ↓as_199, ↓al_200, ↓as_200, zIt2, uR_at, uR_ne, uR_uR, uC_uC, uC_at, ↓reduceIte, decide_eq_true_eq, leT, leF, ltT, ltF, eqT, eqF, ne_eq, not_true_eq_false, not_false_eq_true, Bool.false_eq_true, tI_zI]
  · have hj2 : ((f + j : Nat) : Int) < tI (K 1) := by omega
    have hw := wayZ_lo hA2 u ((f + j : Nat) : Int)
    have c26 : ∀ {kk : Int → HeapP → ResP} {kx : Nat → HeapP → ResP}, cT (callP MP d 26 [.ref p, .int (zI u), .int (zI ((f + j : Nat) : Int))] (mk E F G)) kk kx = kk (wayZ K u ((f + j : Nat) : Int)) (mk E F G) := fun {kk kx} => by
      rw [cc_26 hR hI hP (by omega) (by omega) (by omega), if_pos ⟨hu2, by omega, hj2⟩]
    by_cases c : wayZ K u ((f + j : Nat) : Int) = -1
    · right
      refine ⟨some (.int (zI (-1))), fun i h1 h2 => ?_, ?_⟩
      · by_cases z : i = f + j
        · rw [z]; exact c
        · exact hI2 i h1 (by omega)
      · show runP MP d 110 _ = runP MP d 110 _
        rw [c] at c26
        rw [show ((f + (j + 1) : Nat) : Int) = ((f + j : Nat) : Int) + 1 from rfl]
        rw [q_110_2]; (try simp only [↓n_rd, ↓n_al, ↓n_cI, li_0, li_1, li_2, li_3, li_4, li_6, li_10, zI_add, zI_sub, zI_mul, zI_neg, ↓Option.bind_some]); simp (disch := (first | assumption | exact tI_rg _ | omega | exact uR_at | exact row_ne hF (by decide) | exact row_ne (row_ne hF (by decide)) (by decide) | exact SnS_18 | exact SnS_30 | exact LdS_44 | exact LdS_46)) only [q_110_0, q_110_83, hq, e1, hm, hu, ↓c26, ↓n_rd, ↓n_al, ↓n_cI, retZ_z, li_0, li_1, li_2, li_3, li_4, li_6, li_10, zI_add, zI_sub, zI_mul, zI_neg, ↓Option.bind_some, ↓g10_0, ↓g10_2, ↓g10_3, ↓g10_4, ↓g2_1, ↓p10_2, ↓al_199, ↓as_199, ↓al_200, ↓as_200, zIt2, uR_at, uR_ne, uR_uR, uC_uC, uC_at, ↓reduceIte, decide_eq_true_eq, leT, leF, ltT, ltF, eqT, eqF, ne_eq, not_true_eq_false, not_false_eq_true, Bool.false_eq_true, tI_zI]
    · left
      show runP MP d 110 _ = _
      have e : nxZ K u f = ((f + j : Nat) : Int) := fndN_eq (by omega) (by omega) (by rw [Bool.not_eq_true', beq_eq_false_iff_ne]; exact c) (fun i h1 h2 => by rw [hI2 i h1 h2]; rfl)
      rw [e, if_neg (by omega), if_neg (by omega)]
      unfold gnF
      rw [q_110_2]; (try simp only [↓n_rd, ↓n_al, ↓n_cI, li_0, li_1, li_2, li_3, li_4, li_6, li_10, zI_add, zI_sub, zI_mul, zI_neg, ↓Option.bind_some]); simp (disch := (first | assumption | exact tI_rg _ | omega | exact uR_at | exact row_ne hF (by decide) | exact row_ne (row_ne hF (by decide)) (by decide) | exact SnS_18 | exact SnS_30 | exact LdS_44 | exact LdS_46)) only [q_110_0, q_110_83, hq, e1, hm, hu, ↓c26, ↓n_rd, ↓n_al, ↓n_cI, retZ_z, li_0, li_1, li_2, li_3, li_4, li_6, li_10, zI_add, zI_sub, zI_mul, zI_neg, ↓Option.bind_some, ↓g10_0, ↓g10_2, ↓g10_3, ↓g10_4, ↓g2_1, ↓p10_2, ↓al_199, ↓as_199, ↓al_200, ↓as_200, zIt2, uR_at, uR_ne, uR_uR, uC_uC, uC_at, ↓reduceIte, decide_eq_true_eq, leT, leF, ltT, ltF, eqT, eqF, ne_eq, not_true_eq_false, not_false_eq_true, Bool.false_eq_true, tI_zI]
end S94zzzd
