/-! cutting a number -/
section S94t
set_option linter.unusedVariables false
set_option linter.unusedSimpArgs false
def cutJ (s : Int) (v : Int64) : Int64 := if s = 0 then v.toInt32.toInt8.toInt32.toInt64 else if s = 1 then v.toInt32.toInt16.toInt32.toInt64 else if s = 2 then v.toInt32.toInt64 else v
theorem sx_bits {v : BitVec 64} {k : Nat} (hk : k = 8 ∨ k = 16 ∨ k = 32) : (v <<< (64 - k)).sshiftRight (64 - k) = (v.setWidth k).signExtend 64 := by
  refine BitVec.eq_of_getLsbD_eq fun i hi => ?_
  rw [BitVec.getLsbD_sshiftRight, BitVec.getLsbD_signExtend]
  by_cases h : i < k
  · rw [if_pos (by omega), if_pos h, BitVec.getLsbD_shiftLeft, BitVec.getLsbD_setWidth]
    simp only [hi, h, show 64 - k + i < 64 by omega, show ¬ (64 - k + i < 64 - k) by omega, show 64 - k + i - (64 - k) = i by omega, show ¬ 64 ≤ i by omega, decide_true, decide_false, Bool.not_true, Bool.not_false, Bool.true_and]
  · rw [if_neg h, if_neg (show ¬ 64 - k + i < 64 by omega)]
    simp only [BitVec.msb_eq_getLsbD_last, BitVec.getLsbD_shiftLeft, BitVec.getLsbD_setWidth]
    rcases hk with rfl | rfl | rfl
    all_goals simp [hi]
    all_goals omega
theorem sx2 {x : BitVec 32} {k : Nat} (hk : k = 8 ∨ k = 16) : ((x.setWidth k).signExtend 32).signExtend 64 = (x.setWidth k).signExtend 64 := by
  refine BitVec.eq_of_getLsbD_eq fun i hi => ?_
  simp only [BitVec.getLsbD_signExtend, BitVec.msb_signExtend]
  by_cases h : i < 32
  · rw [if_pos h]
    simp only [hi, h, decide_true, Bool.true_and]
  · rw [if_neg h]
    simp only [hi, decide_true, Bool.true_and]
    rw [if_neg (show ¬ i < k by omega), if_neg (show ¬ k ≥ 32 by omega)]
    rfl
theorem sh_amt : ∀ n : Nat, n < 64 → ((zI (n : Int)).toInt64 &&& 63).toBitVec.smod 64 = BitVec.ofNat 64 n := by decide +kernel
theorem sh_cut {v : Int64} {n : Nat} (hn : n < 64) : (o_lshr (o_lshl v (zI (n : Int))) (zI (n : Int))).toBitVec = (v.toBitVec <<< n).sshiftRight n := by
  show BitVec.sshiftRight' (v.toBitVec <<< (((zI (n : Int)).toInt64 &&& 63).toBitVec.smod 64)) (((zI (n : Int)).toInt64 &&& 63).toBitVec.smod 64) = _
  rw [sh_amt n hn, BitVec.shiftLeft_eq', BitVec.sshiftRight_eq', BitVec.toNat_ofNat, Nat.mod_eq_of_lt (by omega)]
theorem cut_eq {s : Int} {v : Int64} (hs : 0 ≤ s ∧ s ≤ 3) : o_lshr (o_lshl v (zI (64 - 8 * 2 ^ s.toNat))) (zI (64 - 8 * 2 ^ s.toNat)) = cutJ s v := by
  rcases (show s = 0 ∨ s = 1 ∨ s = 2 ∨ s = 3 by omega) with rfl | rfl | rfl | rfl
  · refine Int64.toBitVec_inj.mp ((sh_cut (v := v) (n := 64 - 8) (by omega)).trans ((sx_bits (Or.inl rfl)).trans ?_))
    show _ = ((((v.toBitVec.signExtend 32).signExtend 8).signExtend 32).signExtend 64)
    rw [BitVec.signExtend_eq_setWidth_of_le v.toBitVec (show 32 ≤ 64 by omega), BitVec.signExtend_eq_setWidth_of_le _ (show 8 ≤ 32 by omega)]
    rw [sx2 (Or.inl rfl), BitVec.setWidth_setWidth_of_le _ (by omega)]
  · refine Int64.toBitVec_inj.mp ((sh_cut (v := v) (n := 64 - 16) (by omega)).trans ((sx_bits (Or.inr (Or.inl rfl))).trans ?_))
    show _ = ((((v.toBitVec.signExtend 32).signExtend 16).signExtend 32).signExtend 64)
    rw [BitVec.signExtend_eq_setWidth_of_le v.toBitVec (show 32 ≤ 64 by omega), BitVec.signExtend_eq_setWidth_of_le _ (show 16 ≤ 32 by omega)]
    rw [sx2 (Or.inr rfl), BitVec.setWidth_setWidth_of_le _ (by omega)]
  · refine Int64.toBitVec_inj.mp ((sh_cut (v := v) (n := 64 - 32) (by omega)).trans ((sx_bits (Or.inr (Or.inr rfl))).trans ?_))
    show _ = ((v.toBitVec.signExtend 32).signExtend 64)
    rw [BitVec.signExtend_eq_setWidth_of_le v.toBitVec (show 32 ≤ 64 by omega)]
  · refine Int64.toBitVec_inj.mp ((sh_cut (v := v) (n := 0) (by omega)).trans ?_)
    rw [BitVec.shiftLeft_zero, BitVec.sshiftRight_zero]
    rfl
theorem ct_97 {d : Nat} {E : EnQ} {F : Nat → Int → Int32} {G : Nat → Int → Int64} {a : Nat} (hs : shx E a = (1, 7, 0)) (hr : 0 ≤ tI (F a 0) ∧ tI (F a 0) ≤ 3) {v : Int64} (hd : 1 ≤ d) : callP MP d 97 [.ref a, .long v] (mk E F G) = some (Sum.inl (some (.long (cutJ (tI (F a 0)) v))), mk E F G) := by
  refine into (D := 0) (by omega) hM_97 (rcv_mk hs (by decide)) rfl fun d hd => ?_
  show runP MP d 97 (0, [some (.ref a), some (.long v), none], [], _) = _
  rcases (show tI (F a 0) = 0 ∨ tI (F a 0) = 1 ∨ tI (F a 0) = 2 ∨ tI (F a 0) = 3 by omega) with e | e | e | e
  · rw [e]; show _ = some (Sum.inl (some (Value.long (v.toInt32.toInt8.toInt32.toInt64))), mk E F G)
    rw [q_97_0]; (try simp only [↓n_rd, li_0, li_1, li_2, li_7, li_97, lj_0, lj_1, lj_2, zJ_add, zJ_sub, zJ_mul, zJ_neg, zJ_l2i, zI_add, zI_sub, zI_mul, zI_neg, ↓Option.bind_some]); simp (disch := (first | assumption | exact tI_rg _ | omega | exact uR_at | exact row_ne hF (by decide) | exact row_ne (row_ne hF (by decide)) (by decide) | exact SnS_18 | exact SnS_30 | exact LdS_44 | exact LdS_46)) only [q_97_40, e, ↓n_rd, li_0, li_1, li_2, li_7, li_97, lj_0, lj_1, lj_2, zJ_add, zJ_sub, zJ_mul, zJ_neg, zJ_l2i, tJ_zJ, zI_add, zI_sub, zI_mul, zI_neg, ↓Option.bind_some, ↓g7_0, zIt2, uR_at, uR_ne, uR_uR, uC_uC, uC_at, ↓reduceIte, decide_eq_true_eq, leT, leF, ltT, ltF, eqT, eqF, ne_eq, not_true_eq_false, not_false_eq_true, Bool.false_eq_true, tI_zI]
  · rw [e]; show _ = some (Sum.inl (some (Value.long (v.toInt32.toInt16.toInt32.toInt64))), mk E F G)
    rw [q_97_0]; (try simp only [↓n_rd, li_0, li_1, li_2, li_7, li_97, lj_0, lj_1, lj_2, zJ_add, zJ_sub, zJ_mul, zJ_neg, zJ_l2i, zI_add, zI_sub, zI_mul, zI_neg, ↓Option.bind_some]); simp (disch := (first | assumption | exact tI_rg _ | omega | exact uR_at | exact row_ne hF (by decide) | exact row_ne (row_ne hF (by decide)) (by decide) | exact SnS_18 | exact SnS_30 | exact LdS_44 | exact LdS_46)) only [q_97_40, e, ↓n_rd, li_0, li_1, li_2, li_7, li_97, lj_0, lj_1, lj_2, zJ_add, zJ_sub, zJ_mul, zJ_neg, zJ_l2i, tJ_zJ, zI_add, zI_sub, zI_mul, zI_neg, ↓Option.bind_some, ↓g7_0, zIt2, uR_at, uR_ne, uR_uR, uC_uC, uC_at, ↓reduceIte, decide_eq_true_eq, leT, leF, ltT, ltF, eqT, eqF, ne_eq, not_true_eq_false, not_false_eq_true, Bool.false_eq_true, tI_zI]
  · rw [e]; show _ = some (Sum.inl (some (Value.long (v.toInt32.toInt64))), mk E F G)
    rw [q_97_0]; (try simp only [↓n_rd, li_0, li_1, li_2, li_7, li_97, lj_0, lj_1, lj_2, zJ_add, zJ_sub, zJ_mul, zJ_neg, zJ_l2i, zI_add, zI_sub, zI_mul, zI_neg, ↓Option.bind_some]); simp (disch := (first | assumption | exact tI_rg _ | omega | exact uR_at | exact row_ne hF (by decide) | exact row_ne (row_ne hF (by decide)) (by decide) | exact SnS_18 | exact SnS_30 | exact LdS_44 | exact LdS_46)) only [q_97_40, e, ↓n_rd, li_0, li_1, li_2, li_7, li_97, lj_0, lj_1, lj_2, zJ_add, zJ_sub, zJ_mul, zJ_neg, zJ_l2i, tJ_zJ, zI_add, zI_sub, zI_mul, zI_neg, ↓Option.bind_some, ↓g7_0, zIt2, uR_at, uR_ne, uR_uR, uC_uC, uC_at, ↓reduceIte, decide_eq_true_eq, leT, leF, ltT, ltF, eqT, eqF, ne_eq, not_true_eq_false, not_false_eq_true, Bool.false_eq_true, tI_zI]
  · rw [e]; show _ = some (Sum.inl (some (Value.long v)), mk E F G)
    rw [q_97_0]; (try simp only [↓n_rd, li_0, li_1, li_2, li_7, li_97, lj_0, lj_1, lj_2, zJ_add, zJ_sub, zJ_mul, zJ_neg, zJ_l2i, zI_add, zI_sub, zI_mul, zI_neg, ↓Option.bind_some]); simp (disch := (first | assumption | exact tI_rg _ | omega | exact uR_at | exact row_ne hF (by decide) | exact row_ne (row_ne hF (by decide)) (by decide) | exact SnS_18 | exact SnS_30 | exact LdS_44 | exact LdS_46)) only [q_97_40, e, ↓n_rd, li_0, li_1, li_2, li_7, li_97, lj_0, lj_1, lj_2, zJ_add, zJ_sub, zJ_mul, zJ_neg, zJ_l2i, tJ_zJ, zI_add, zI_sub, zI_mul, zI_neg, ↓Option.bind_some, ↓g7_0, zIt2, uR_at, uR_ne, uR_uR, uC_uC, uC_at, ↓reduceIte, decide_eq_true_eq, leT, leF, ltT, ltF, eqT, eqF, ne_eq, not_true_eq_false, not_false_eq_true, Bool.false_eq_true, tI_zI]
theorem ct_96 {d : Nat} {E : EnQ} {F : Nat → Int → Int32} {G : Nat → Int → Int64} {a : Nat} (ht : TrS E a) (hr : 0 ≤ tI (F a 0) ∧ tI (F a 0) ≤ 3) (hm : tI (F a 1) ≤ 30) {i : Int} (hi : 0 ≤ i ∧ i < tI (F a 1)) {v : Int64} (hd : 2 ≤ d) : callP MP d 96 [.ref a, .int (zI i), .long v] (mk E F G) = some (Sum.inl (some (.long (cutJ (tI (F a 0)) v))), mk E F (uR G (a + 1) (uC (G (a + 1)) i (cutJ (tI (F a 0)) v)))) := by
  have hs := ht.1
  have hlen : ∀ {f : Int → ResP}, (lenT (mk E F G) (a + 1)).bind f = f 30 := fun {f} => len_J (E := E) (a := a + 1) (z := 0) (n := 30) ht.2 (by decide)
  refine into (D := 1) (by omega) hM_96 (rcv_mk hs (by decide)) rfl fun d hd => ?_
  show runP MP d 96 (0, [some (.ref a), some (.int (zI i)), some (.long v), none], [], _) = _
  have h97 : ∀ {kk : Int → HeapP → ResP} {kx : Nat → HeapP → ResP}, cJT (callP MP d 97 [.ref a, .long v] (mk E F G)) kk kx = kk (tJ (cutJ (tI (F a 0)) v)) (mk E F G) := fun {kk kx} => by
    unfold cJT; rw [cJ_ret (ct_97 hs hr (by omega))]
  rw [q_96_0]; (try simp only [↓n_rd, ↓n_alJ, ↓n_len, ↓n_cJ, li_0, li_1, li_2, li_7, li_97, lj_0, lj_1, lj_2, zJ_add, zJ_sub, zJ_mul, zJ_neg, zJ_l2i, zI_add, zI_sub, zI_mul, zI_neg, ↓Option.bind_some]); simp (disch := (first | assumption | exact tI_rg _ | omega | exact uR_at | exact row_ne hF (by decide) | exact row_ne (row_ne hF (by decide)) (by decide) | exact SnS_18 | exact SnS_30 | exact LdS_44 | exact LdS_46)) only [q_96_21, ↓hlen, ↓h97, ↓TrS_s1 ht, ↓TrS_l1 ht, zJ_tJ, ↓n_cJ, ↓n_rd, ↓n_alJ, ↓n_len, ↓n_cJ, li_0, li_1, li_2, li_7, li_97, lj_0, lj_1, lj_2, zJ_add, zJ_sub, zJ_mul, zJ_neg, zJ_l2i, tJ_zJ, zI_add, zI_sub, zI_mul, zI_neg, ↓Option.bind_some, ↓g7_2, ↓TrS_l1, ↓TrS_s1, ↓g7_1, zIt2, uR_at, uR_ne, uR_uR, uC_uC, uC_at, ↓reduceIte, decide_eq_true_eq, leT, leF, ltT, ltF, eqT, eqF, ne_eq, not_true_eq_false, not_false_eq_true, Bool.false_eq_true, tI_zI]
theorem ct_313 {d : Nat} {E : EnQ} {F : Nat → Int → Int32} {G : Nat → Int → Int64} {x i : Int} (hx : 0 ≤ x ∧ x < 4) (hr : 0 ≤ tI (F 243 x) ∧ tI (F 243 x) ≤ 3) (hi : 0 ≤ i ∧ i < 30) {v : Int64} (hd : 1 ≤ d) : callP MP d 313 [.ref 217, .int (zI x), .int (zI i), .long v] (mk E F G) = some (Sum.inl (some (.long (cutJ (tI (F 243 x)) v))), mk E F (uR G 245 (uC (G 245) (30 * x + i) (cutJ (tI (F 243 x)) v)))) := by
  have hsh : o_ishl (zI 8) (zI (tI (F 243 x))) = zI (8 * 2 ^ (tI (F 243 x)).toNat) := by
    have := shlZ 8 (tI (F 243 x)).toNat (by omega)
    rw [show (((tI (F 243 x)).toNat : Nat) : Int) = tI (F 243 x) by omega] at this
    rw [show zI 8 = zI ((8 : Nat) : Int) from rfl, this, Int.natCast_mul, Int.natCast_pow]
    rfl
  have hc := cut_eq (v := v) hr
  refine into (D := 0) (by omega) hM_313 (rcv_mk rfl (by decide)) rfl fun d hd => ?_
  show runP MP d 313 (0, [some (.ref 217), some (.int (zI x)), some (.int (zI i)), some (.long v), none, none], [], _) = _
  rw [q_313_0]; (try simp only [↓n_al, ↓n_alJ, li_0, li_8, li_12, li_30, li_64, lj_0, lj_12, lj_30, zJ_add, zJ_sub, zJ_mul, zJ_neg, zJ_l2i, zI_add, zI_sub, zI_mul, zI_neg, ↓Option.bind_some]); simp (disch := (first | assumption | exact tI_rg _ | omega | exact uR_at | exact row_ne hF (by decide) | exact row_ne (row_ne hF (by decide)) (by decide) | exact SnS_18 | exact SnS_30 | exact LdS_44 | exact LdS_46)) only [hsh, hc, zJ_tJ, ↓n_al, ↓n_alJ, li_0, li_8, li_12, li_30, li_64, lj_0, lj_12, lj_30, zJ_add, zJ_sub, zJ_mul, zJ_neg, zJ_l2i, tJ_zJ, zI_add, zI_sub, zI_mul, zI_neg, ↓Option.bind_some, ↓g12_55, ↓g12_53, ↓al_243, ↓as_243, ↓al_245, ↓as_245, zIt2, uR_at, uR_ne, uR_uR, uC_uC, uC_at, ↓reduceIte, decide_eq_true_eq, leT, leF, ltT, ltF, eqT, eqF, ne_eq, not_true_eq_false, not_false_eq_true, Bool.false_eq_true, tI_zI]
end S94t
