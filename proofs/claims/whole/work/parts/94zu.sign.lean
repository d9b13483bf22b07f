/-! CLASS: a sign told -/
section S94zu
set_option linter.unusedVariables false
set_option linter.unusedSimpArgs false
/-- the class holds a sign -/
def SgC (F : Nat → Int → Int32) (S : SgS) : Prop := F 201 1 = zI (S.1 : Int) ∧ F 201 2 = zI (sgF1 S) ∧ ∀ w : Int, 0 ≤ w → w < 32 → F 202 w = zI (sgT S w : Nat)
def scF (F : Nat → Int → Int32) (r c : Int → Int32) : Nat → Int → Int32 := uR (uR F 202 r) 201 c
theorem scF_0 {F : Nat → Int → Int32} : scF F (F 202) (F 201) = F := by unfold scF; rw [uR_self, uR_self]
theorem scF_201 {F : Nat → Int → Int32} {r c : Int → Int32} : scF F r c 201 = c := uR_at
theorem scF_202 {F : Nat → Int → Int32} {r c : Int → Int32} : scF F r c 202 = r := (uR_ne (by decide)).trans uR_at
theorem scF_ne {F : Nat → Int → Int32} {r c : Int → Int32} {q : Nat} (h1 : q ≠ 201) (h2 : q ≠ 202) : scF F r c q = F q := (uR_ne h1).trans (uR_ne h2)
theorem scF_w {F : Nat → Int → Int32} {r c r' c' : Int → Int32} : uR (uR (scF F r c) 202 r') 201 c' = scF F r' c' := by
  unfold scF
  rw [uR_comm (by decide : (201 : Nat) ≠ 202), uR_uR, uR_uR]
theorem scF_1 {F : Nat → Int → Int32} {r c c' : Int → Int32} : uR (scF F r c) 201 c' = scF F r c' := uR_uR
theorem scF_2 {F : Nat → Int → Int32} {r c r' : Int → Int32} : uR (scF F r c) 202 r' = scF F r' c := by
  unfold scF
  rw [uR_comm (by decide : (201 : Nat) ≠ 202), uR_uR]
theorem sgF1_new {S : SgS} {w0 : Int} : sgF1 (S.1 + 1, fun k => if k = S.1 then w0 else S.2 k) = if S.1 = 0 then w0 else sgF1 S := by
  unfold sgF1
  rw [if_neg (show ¬ S.1 + 1 = 0 by omega)]
  show (if 0 = S.1 then w0 else S.2 0) = _
  by_cases z : S.1 = 0
  · rw [if_pos z.symm, if_pos z]
  · rw [if_neg (fun y => z y.symm), if_neg z, if_neg z]
theorem ct_55 {d : Nat} {E : EnQ} {F : Nat → Int → Int32} {G : Nat → Int → Int64} {K : Int → Int32} {p b m : Nat} {A : Nat → Int} (hR : PlR F p K) (hI : InvK K) (hP : PlS E p) (hp : p + 5 < 201 ∨ 202 < p) (hT : TrS E b) (hb : b ≠ 201 ∧ b ≠ 202) (hm : tI (F b 1) = m) (hm30 : m ≤ 30) (hA : ∀ i : Nat, i < m → tJ (G (b + 1) (i : Int)) = A i) (hd : 2 ≤ d) :
    ∃ r c, callP MP d 55 [.ref 201, .ref p, .ref b] (mk E F G) = some (Sum.inl (some (.int (zI (if fndN (sgB A (2 * tI (K 2))) m 0 = -1 then 1 else 0)))), mk E (scF F r c) G) ∧ (fndN (sgB A (2 * tI (K 2))) m 0 = -1 → SgC (scF F r c) (sgN A m)) := by
  have hb2 := hI.1.2.2.1
  have hs7 := hT.1
  have hs2 := hP.1
  obtain ⟨e, rfl⟩ : ∃ e, d = e + 1 := ⟨d - 1, by omega⟩
  have hin : callP MP (e + 1) 55 [.ref 201, .ref p, .ref b] (mk E F G) = runP MP e 55 (0, [some (.ref 201), some (.ref p), some (.ref b), none, none, none, none], [], mk E F G) := into_eq (by omega) hM_55 (rcv_mk rfl (by decide)) rfl
  have e2 : ∀ r c, tI (scF F r c p 2) = tI (K 2) := fun r c => by rw [scF_ne (by omega) (by omega), hR.1.2.2.1]
  have eb : ∀ r c, tI (scF F r c b 1) = m := fun r c => by rw [scF_ne hb.1 hb.2]; exact hm
  have h0 : runP MP e 55 (0, [some (.ref 201), some (.ref p), some (.ref b), none, none, none, none], [], mk E F G) = runP MP e 55 (20, [some (.ref 201), some (.ref p), some (.ref b), some (.int (zI 0)), none, none, none], [], mk E (scF F (zrI (F 202) 32 0) (uC (uC (F 201) 1 (zI 0)) 2 (zI (-1)))) G) := by
    have h00 : ∀ {kk : HeapP → ResP} {kx : Nat → HeapP → ResP}, cV (callP MP e 0 [.ref 202, .int (zI 0)] (mk E F G)) kk kx = kk (mk E (uR F 202 (zrI (F 202) 32 0)) G) := fun {kk kx} => cc_0 (E := E) (a := 202) (n := 32) rfl (by decide) (by omega)
    unfold scF
    rw [q_55_0]; (try simp only [↓n_rd, ↓n_al, ↓n_cJ, li_0, li_1, li_2, li_4, li_7, li_8, li_20, li_100, lj_0, lj_1, lj_2, lj_4, lj_100, zJ_add, zJ_sub, zJ_mul, zJ_neg, zJ_l2i, zI_add, zI_sub, zI_mul, zI_neg, ↓Option.bind_some]); simp (disch := (first | assumption | exact tI_rg _ | omega | exact uR_at | exact row_ne hF (by decide) | exact row_ne (row_ne hF (by decide)) (by decide) | exact SnS_18 | exact SnS_30 | exact LdS_44 | exact LdS_46)) only [q_55_55, q_55_100, q_55_126, ↓h00, ↓n_rd, ↓n_al, ↓n_cJ, retZ_z, li_0, li_1, li_2, li_4, li_7, li_8, li_20, li_100, lj_0, lj_1, lj_2, lj_4, lj_100, zJ_add, zJ_sub, zJ_mul, zJ_neg, zJ_l2i, tJ_zJ, zI_add, zI_sub, zI_mul, zI_neg, ↓Option.bind_some, ↓g2_2, ↓g4_0, ↓g4_1, ↓g4_2, ↓g7_1, ↓p4_1, ↓p4_2, ↓al_202, ↓as_202, zIt2, uR_at, uR_ne, uR_uR, uC_uC, uC_at, ↓reduceIte, decide_eq_true_eq, leT, leF, ltT, ltF, eqT, eqF, ne_eq, not_true_eq_false, not_false_eq_true, Bool.false_eq_true, tI_zI]
  rw [hin, h0]
  refine loopS (σ := ((Int → Int32) × (Int → Int32)) × Option Value × Option Value) (Post := fun z => ∃ r c, z = some (Sum.inl (some (.int (zI (if fndN (sgB A (2 * tI (K 2))) m 0 = -1 then 1 else 0)))), mk E (scF F r c) G) ∧ (fndN (sgB A (2 * tI (K 2))) m 0 = -1 → SgC (scF F r c) (sgN A m)))
    (fun j s => runP MP e 55 (20, [some (.ref 201), some (.ref p), some (.ref b), some (.int (zI (j : Int))), s.2.1, none, s.2.2], [], mk E (scF F s.1.1 s.1.2) G))
    (fun j s => SgC (scF F s.1.1 s.1.2) (sgN A j) ∧ ∀ i, i < j → sgB A (2 * tI (K 2)) i = false) m ((zrI (F 202) 32 0, uC (uC (F 201) 1 (zI 0)) 2 (zI (-1))), none, none) ⟨⟨?_, ?_, fun w w0 w1 => ?_⟩, fun i hi => by omega⟩ (fun s hs => ?_) (fun j s hj hs => ?_)
  · rw [scF_201]; show uC (uC (F 201) 1 (zI 0)) 2 (zI (-1)) 1 = _; rw [uC_ne (by decide), uC_at]; rfl
  · rw [scF_201]; show uC (uC (F 201) 1 (zI 0)) 2 (zI (-1)) 2 = _; rw [uC_at]; rfl
  · rw [scF_202]
    have : sgT (sgN A 0) w = 0 := if_pos rfl
    rw [this]; exact if_pos ⟨w0, by omega⟩
  · have ez := sm_all.mpr hs.2
    refine ⟨s.1.1, s.1.2, ?_, fun _ => hs.1⟩
    rw [if_pos ez]
    show runP MP e 55 (20, [some (.ref 201), some (.ref p), some (.ref b), some (.int (zI (m : Int))), s.2.1, none, s.2.2], [], mk E (scF F s.1.1 s.1.2) G) = _
    rw [q_55_20]; (try simp only [↓n_rd, ↓n_al, ↓n_cJ, li_0, li_1, li_2, li_4, li_7, li_8, li_20, li_100, lj_0, lj_1, lj_2, lj_4, lj_100, zJ_add, zJ_sub, zJ_mul, zJ_neg, zJ_l2i, zI_add, zI_sub, zI_mul, zI_neg, ↓Option.bind_some]); simp (disch := (first | assumption | exact tI_rg _ | omega | exact uR_at | exact row_ne hF (by decide) | exact row_ne (row_ne hF (by decide)) (by decide) | exact SnS_18 | exact SnS_30 | exact LdS_44 | exact LdS_46)) only [q_55_0, q_55_55, q_55_100, q_55_126, eb, ↓n_rd, ↓n_al, ↓n_cJ, retZ_z, li_0, li_1, li_2, li_4, li_7, li_8, li_20, li_100, lj_0, lj_1, lj_2, lj_4, lj_100, zJ_add, zJ_sub, zJ_mul, zJ_neg, zJ_l2i, tJ_zJ, zI_add, zI_sub, zI_mul, zI_neg, ↓Option.bind_some, ↓g2_2, ↓g4_0, ↓g4_1, ↓g4_2, ↓g7_1, ↓p4_1, ↓p4_2, ↓al_202, ↓as_202, zIt2, uR_at, uR_ne, uR_uR, uC_uC, uC_at, ↓reduceIte, decide_eq_true_eq, leT, leF, ltT, ltF, eqT, eqF, ne_eq, not_true_eq_false, not_false_eq_true, Bool.false_eq_true, tI_zI]
  · obtain ⟨i1, i2, i3⟩ := sg_inv j hs.2
    obtain ⟨c1, c2, c3⟩ := hs.1
    have e49 : tI (scF F s.1.1 s.1.2 201 1) = ((sgN A j).1 : Int) := by rw [c1, tI_zI (by omega)]
    have e49c : tI (s.1.2 1) = ((sgN A j).1 : Int) := by rw [← scF_201 (F := F) (r := s.1.1) (c := s.1.2)]; exact e49
    have hnr := tJ_rg (G (b + 1) (j : Int))
    rw [hA j hj] at hnr
    have h95 : ∀ {kk : Int → HeapP → ResP} {kx : Nat → HeapP → ResP}, cJT (callP MP e 95 [.ref b, .int (zI (j : Int))] (mk E (scF F s.1.1 s.1.2) G)) kk kx = kk (A j) (mk E (scF F s.1.1 s.1.2) G) := fun {kk kx} => by
      rw [cc_95 hT (by rw [eb]; omega) (by omega), hA j hj]
    by_cases g1 : 0 ≤ A j ∧ A j < 2 * tI (K 2)
    · have hpr := sgP_rg (sgN A j) (A j)
      have g1a : ¬ A j < 0 := by omega
      have g1b : A j < 2 * tI (K 2) := g1.2
      have e202 : s.1.1 (A j) = zI (sgT (sgN A j) (A j) : Nat) := by
        have := c3 (A j) g1.1 (by omega)
        rw [scF_202] at this; exact this
      have htl := sgT_lt i1 (A j)
      by_cases g2 : sgP (sgN A j) (A j) = -1
      · have ht0 : sgT (sgN A j) (A j) = 0 := if_pos g2
        rw [ht0] at e202
        have e202z : tI (s.1.1 (A j)) = 0 := by rw [e202]; exact tI_zI (by omega)
        by_cases g3 : (sgN A j).1 = 8
        · left
          have hbad : sgB A (2 * tI (K 2)) j = true := by unfold sgB; rw [decide_eq_true g2, decide_eq_true g3, Bool.and_self, Bool.or_true]
          refine ⟨s.1.1, s.1.2, ?_, fun z => absurd z (fnd_some hj hbad)⟩
          rw [if_neg (fnd_some hj hbad)]
          show runP MP e 55 _ = _
          rw [q_55_20]; (try simp only [↓n_rd, ↓n_al, ↓n_cJ, li_0, li_1, li_2, li_4, li_7, li_8, li_20, li_100, lj_0, lj_1, lj_2, lj_4, lj_100, zJ_add, zJ_sub, zJ_mul, zJ_neg, zJ_l2i, zI_add, zI_sub, zI_mul, zI_neg, ↓Option.bind_some]); simp (disch := (first | assumption | exact tI_rg _ | omega | exact uR_at | exact row_ne hF (by decide) | exact row_ne (row_ne hF (by decide)) (by decide) | exact SnS_18 | exact SnS_30 | exact LdS_44 | exact LdS_46)) only [q_55_0, q_55_55, q_55_100, q_55_126, eb, ↓h95, cmpJ_lt, g1a, e2, zI_i2l, g1b, scF_201, scF_202, e202z, e49c, g3, ↓n_rd, ↓n_al, ↓n_cJ, retZ_z, li_0, li_1, li_2, li_4, li_7, li_8, li_20, li_100, lj_0, lj_1, lj_2, lj_4, lj_100, zJ_add, zJ_sub, zJ_mul, zJ_neg, zJ_l2i, tJ_zJ, zI_add, zI_sub, zI_mul, zI_neg, ↓Option.bind_some, ↓g2_2, ↓g4_0, ↓g4_1, ↓g4_2, ↓g7_1, ↓p4_1, ↓p4_2, ↓al_202, ↓as_202, zIt2, uR_at, uR_ne, uR_uR, uC_uC, uC_at, ↓reduceIte, decide_eq_true_eq, leT, leF, ltT, ltF, eqT, eqF, ne_eq, not_true_eq_false, not_false_eq_true, Bool.false_eq_true, tI_zI]
        · right
          have en : sgN A (j + 1) = ((sgN A j).1 + 1, fun k => if k = (sgN A j).1 then A j else (sgN A j).2 k) := if_pos g2
          have ok : sgB A (2 * tI (K 2)) j = false := by unfold sgB; rw [decide_eq_false (fun z => z g1), decide_eq_false g3, Bool.and_false]; rfl
          have hsh : o_ishl (zI 1) (zI ((sgN A j).1 : Int)) = zI ((2 ^ (sgN A j).1 : Nat) : Int) := by
            have := shl1 (p := ((sgN A j).1 : Int)) (by omega)
            rw [show (((sgN A j).1 : Int)).toNat = (sgN A j).1 by omega] at this
            exact this
          refine ⟨((uC s.1.1 (A j) (zI ((2 ^ (sgN A j).1 : Nat) : Int)), uC (uC s.1.2 2 (zI (if (sgN A j).1 = 0 then A j else tI (s.1.2 2)))) 1 (zI (((sgN A j).1 : Int) + 1))), some (.long (zJ (A j))), some (.int (zI (A j)))), ⟨?_, fun i hi => ?_⟩, ?_⟩
          · rw [en]
            refine ⟨?_, ?_, fun w w0 w1 => ?_⟩
            · rw [scF_201]
              show uC (uC s.1.2 2 (zI (if (sgN A j).1 = 0 then A j else tI (s.1.2 2)))) 1 (zI (((sgN A j).1 : Int) + 1)) 1 = zI (((sgN A j).1 : Int) + 1)
              rw [uC_at]
            · rw [scF_201, sgF1_new]
              show uC (uC s.1.2 2 (zI (if (sgN A j).1 = 0 then A j else tI (s.1.2 2)))) 1 (zI (((sgN A j).1 : Int) + 1)) 2 = _
              rw [uC_ne (by decide), uC_at]
              by_cases z : (sgN A j).1 = 0
              · rw [if_pos z, if_pos z]
              · rw [if_neg z, if_neg z, zI_tI]
                rw [scF_201] at c2; exact c2
            · rw [scF_202, sgT_new g2]
              show uC s.1.1 (A j) (zI ((2 ^ (sgN A j).1 : Nat) : Int)) w = _
              by_cases z : w = A j
              · rw [if_pos z, z, uC_at]
              · rw [if_neg z, uC_ne z]
                have := c3 w w0 w1
                rw [scF_202] at this; exact this
          · by_cases z : i = j
            · rw [z]; exact ok
            · exact hs.2 i (by omega)
          · show runP MP e 55 _ = runP MP e 55 (20, [some (.ref 201), some (.ref p), some (.ref b), some (.int (zI ((j + 1 : Nat) : Int))), some (.long (zJ (A j))), none, some (.int (zI (A j)))], [], mk E (scF F (uC s.1.1 (A j) (zI ((2 ^ (sgN A j).1 : Nat) : Int))) (uC (uC s.1.2 2 (zI (if (sgN A j).1 = 0 then A j else tI (s.1.2 2)))) 1 (zI (((sgN A j).1 : Int) + 1)))) G)
            have e49d : ∀ y, tI (uC s.1.2 2 y 1) = ((sgN A j).1 : Int) := fun y => by rw [uC_ne (by decide)]; exact e49c
            rw [nsucc]
            by_cases z : (sgN A j).1 = 0
            · rw [if_pos z]
              rw [q_55_20]; (try simp only [↓n_rd, ↓n_al, ↓n_cJ, li_0, li_1, li_2, li_4, li_7, li_8, li_20, li_100, lj_0, lj_1, lj_2, lj_4, lj_100, zJ_add, zJ_sub, zJ_mul, zJ_neg, zJ_l2i, zI_add, zI_sub, zI_mul, zI_neg, ↓Option.bind_some]); simp (disch := (first | assumption | exact tI_rg _ | omega | exact uR_at | exact row_ne hF (by decide) | exact row_ne (row_ne hF (by decide)) (by decide) | exact SnS_18 | exact SnS_30 | exact LdS_44 | exact LdS_46)) only [q_55_0, q_55_55, q_55_100, q_55_126, eb, ↓h95, cmpJ_lt, g1a, e2, zI_i2l, g1b, scF_201, scF_202, scF_1, scF_2, e202z, e49c, e49d, hsh, ↓n_rd, ↓n_al, ↓n_cJ, retZ_z, li_0, li_1, li_2, li_4, li_7, li_8, li_20, li_100, lj_0, lj_1, lj_2, lj_4, lj_100, zJ_add, zJ_sub, zJ_mul, zJ_neg, zJ_l2i, tJ_zJ, zI_add, zI_sub, zI_mul, zI_neg, ↓Option.bind_some, ↓g2_2, ↓g4_0, ↓g4_1, ↓g4_2, ↓g7_1, ↓p4_1, ↓p4_2, ↓al_202, ↓as_202, zIt2, uR_at, uR_ne, uR_uR, uC_uC, uC_at, ↓reduceIte, decide_eq_true_eq, leT, leF, ltT, ltF, eqT, eqF, ne_eq, not_true_eq_false, not_false_eq_true, Bool.false_eq_true, tI_zI]
            · rw [if_neg z]
              rw [q_55_20]; (try simp only [↓n_rd, ↓n_al, ↓n_cJ, li_0, li_1, li_2, li_4, li_7, li_8, li_20, li_100, lj_0, lj_1, lj_2, lj_4, lj_100, zJ_add, zJ_sub, zJ_mul, zJ_neg, zJ_l2i, zI_add, zI_sub, zI_mul, zI_neg, ↓Option.bind_some]); simp (disch := (first | assumption | exact tI_rg _ | omega | exact uR_at | exact row_ne hF (by decide) | exact row_ne (row_ne hF (by decide)) (by decide) | exact SnS_18 | exact SnS_30 | exact LdS_44 | exact LdS_46)) only [q_55_0, q_55_55, q_55_100, q_55_126, eb, ↓h95, cmpJ_lt, g1a, e2, zI_i2l, g1b, scF_201, scF_202, scF_1, scF_2, e202z, e49c, e49d, hsh, ↓n_rd, ↓n_al, ↓n_cJ, retZ_z, li_0, li_1, li_2, li_4, li_7, li_8, li_20, li_100, lj_0, lj_1, lj_2, lj_4, lj_100, zJ_add, zJ_sub, zJ_mul, zJ_neg, zJ_l2i, tJ_zJ, zI_add, zI_sub, zI_mul, zI_neg, ↓Option.bind_some, ↓g2_2, ↓g4_0, ↓g4_1, ↓g4_2, ↓g7_1, ↓p4_1, ↓p4_2, ↓al_202, ↓as_202, zIt2, uR_at, uR_ne, uR_uR, uC_uC, uC_at, ↓reduceIte, decide_eq_true_eq, leT, leF, ltT, ltF, eqT, eqF, ne_eq, not_true_eq_false, not_false_eq_true, Bool.false_eq_true, tI_zI]
      · right
        have en : sgN A (j + 1) = sgN A j := if_neg g2
        have ok : sgB A (2 * tI (K 2)) j = false := by unfold sgB; rw [decide_eq_false (fun z => z g1), decide_eq_false g2, Bool.false_and]; rfl
        have htp : 0 < sgT (sgN A j) (A j) := by unfold sgT; rw [if_neg g2]; exact Nat.two_pow_pos _
        refine ⟨(s.1, some (.long (zJ (A j))), some (.int (zI (A j)))), ⟨by rw [en]; exact hs.1, fun i hi => ?_⟩, ?_⟩
        · by_cases z : i = j
          · rw [z]; exact ok
          · exact hs.2 i (by omega)
        · show runP MP e 55 _ = runP MP e 55 _
          rw [nsucc]
          rw [q_55_20]; (try simp only [↓n_rd, ↓n_al, ↓n_cJ, li_0, li_1, li_2, li_4, li_7, li_8, li_20, li_100, lj_0, lj_1, lj_2, lj_4, lj_100, zJ_add, zJ_sub, zJ_mul, zJ_neg, zJ_l2i, zI_add, zI_sub, zI_mul, zI_neg, ↓Option.bind_some]); simp (disch := (first | assumption | exact tI_rg _ | omega | exact uR_at | exact row_ne hF (by decide) | exact row_ne (row_ne hF (by decide)) (by decide) | exact SnS_18 | exact SnS_30 | exact LdS_44 | exact LdS_46)) only [q_55_0, q_55_55, q_55_100, q_55_126, eb, ↓h95, cmpJ_lt, g1a, e2, zI_i2l, g1b, scF_201, scF_202, e202, ↓n_rd, ↓n_al, ↓n_cJ, retZ_z, li_0, li_1, li_2, li_4, li_7, li_8, li_20, li_100, lj_0, lj_1, lj_2, lj_4, lj_100, zJ_add, zJ_sub, zJ_mul, zJ_neg, zJ_l2i, tJ_zJ, zI_add, zI_sub, zI_mul, zI_neg, ↓Option.bind_some, ↓g2_2, ↓g4_0, ↓g4_1, ↓g4_2, ↓g7_1, ↓p4_1, ↓p4_2, ↓al_202, ↓as_202, zIt2, uR_at, uR_ne, uR_uR, uC_uC, uC_at, ↓reduceIte, decide_eq_true_eq, leT, leF, ltT, ltF, eqT, eqF, ne_eq, not_true_eq_false, not_false_eq_true, Bool.false_eq_true, tI_zI]
    · left
      have hbad : sgB A (2 * tI (K 2)) j = true := by unfold sgB; rw [decide_eq_true g1, Bool.true_or]
      refine ⟨s.1.1, s.1.2, ?_, fun z => absurd z (fnd_some hj hbad)⟩
      rw [if_neg (fnd_some hj hbad)]
      show runP MP e 55 _ = _
      by_cases g3 : A j < 0
      · rw [q_55_20]; (try simp only [↓n_rd, ↓n_al, ↓n_cJ, li_0, li_1, li_2, li_4, li_7, li_8, li_20, li_100, lj_0, lj_1, lj_2, lj_4, lj_100, zJ_add, zJ_sub, zJ_mul, zJ_neg, zJ_l2i, zI_add, zI_sub, zI_mul, zI_neg, ↓Option.bind_some]); simp (disch := (first | assumption | exact tI_rg _ | omega | exact uR_at | exact row_ne hF (by decide) | exact row_ne (row_ne hF (by decide)) (by decide) | exact SnS_18 | exact SnS_30 | exact LdS_44 | exact LdS_46)) only [q_55_0, q_55_55, q_55_100, q_55_126, eb, ↓h95, cmpJ_lt, g3, ↓n_rd, ↓n_al, ↓n_cJ, retZ_z, li_0, li_1, li_2, li_4, li_7, li_8, li_20, li_100, lj_0, lj_1, lj_2, lj_4, lj_100, zJ_add, zJ_sub, zJ_mul, zJ_neg, zJ_l2i, tJ_zJ, zI_add, zI_sub, zI_mul, zI_neg, ↓Option.bind_some, ↓g2_2, ↓g4_0, ↓g4_1, ↓g4_2, ↓g7_1, ↓p4_1, ↓p4_2, ↓al_202, ↓as_202, zIt2, uR_at, uR_ne, uR_uR, uC_uC, uC_at, ↓reduceIte, decide_eq_true_eq, leT, leF, ltT, ltF, eqT, eqF, ne_eq, not_true_eq_false, not_false_eq_true, Bool.false_eq_true, tI_zI]
      · have g4 : ¬ A j < 2 * tI (K 2) := by omega
        rw [q_55_20]; (try simp only [↓n_rd, ↓n_al, ↓n_cJ, li_0, li_1, li_2, li_4, li_7, li_8, li_20, li_100, lj_0, lj_1, lj_2, lj_4, lj_100, zJ_add, zJ_sub, zJ_mul, zJ_neg, zJ_l2i, zI_add, zI_sub, zI_mul, zI_neg, ↓Option.bind_some]); simp (disch := (first | assumption | exact tI_rg _ | omega | exact uR_at | exact row_ne hF (by decide) | exact row_ne (row_ne hF (by decide)) (by decide) | exact SnS_18 | exact SnS_30 | exact LdS_44 | exact LdS_46)) only [q_55_0, q_55_55, q_55_100, q_55_126, eb, ↓h95, cmpJ_lt, g3, e2, zI_i2l, g4, ↓n_rd, ↓n_al, ↓n_cJ, retZ_z, li_0, li_1, li_2, li_4, li_7, li_8, li_20, li_100, lj_0, lj_1, lj_2, lj_4, lj_100, zJ_add, zJ_sub, zJ_mul, zJ_neg, zJ_l2i, tJ_zJ, zI_add, zI_sub, zI_mul, zI_neg, ↓Option.bind_some, ↓g2_2, ↓g4_0, ↓g4_1, ↓g4_2, ↓g7_1, ↓p4_1, ↓p4_2, ↓al_202, ↓as_202, zIt2, uR_at, uR_ne, uR_uR, uC_uC, uC_at, ↓reduceIte, decide_eq_true_eq, leT, leF, ltT, ltF, eqT, eqF, ne_eq, not_true_eq_false, not_false_eq_true, Bool.false_eq_true, tI_zI]
end S94zu
