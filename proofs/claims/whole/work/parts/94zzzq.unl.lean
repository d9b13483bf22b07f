/-! CLASS: unlike sets -/
section S94zzzq
set_option linter.unusedVariables false
set_option linter.unusedSimpArgs false
def uI (x : Int32) : Nat := x.toBitVec.toNat
theorem uI_lt (x : Int32) : uI x < 4294967296 := x.toBitVec.isLt
theorem zI_uI (x : Int32) : zI ((uI x : Nat) : Int) = x := Int32.toBitVec_inj.mp (by
  rw [tb_nat]
  refine BitVec.eq_of_toNat_eq ?_
  rw [BitVec.toNat_ofNat]
  exact Nat.mod_eq_of_lt (uI_lt x))
theorem uI_zI {s : Nat} (h : s < 4294967296) : uI (zI (s : Int)) = s := by
  unfold uI
  rw [tb_nat, BitVec.toNat_ofNat]
  exact Nat.mod_eq_of_lt h
theorem ushr20 (x : Int32) : o_iushr x 20 = zI ((uI x / 1048576 : Nat) : Int) := by
  have h := ushrZ (uI x) 20 (uI_lt x) (by omega)
  rw [zI_uI] at h
  exact h
theorem lj_m1 : (-1 : Int64) = zJ (-1) := by decide
def ow1 (s : Nat) : Nat := uI (zI (s : Int) * (-1640531535)) / 1048576
theorem ow1_lt (s : Nat) : ow1 s < 4096 := by
  have := uI_lt (zI (s : Int) * (-1640531535))
  unfold ow1; omega
theorem u2l {s : Nat} (h : s < 4294967296) : Int32.toInt64 (zI (s : Int)) &&& 4294967295 = zJ (s : Int) := Int64.toBitVec_inj.mp (by
  show (zI (s : Int)).toBitVec.signExtend 64 &&& (4294967295 : Int64).toBitVec = BitVec.ofInt 64 (s : Int)
  rw [tb_nat, BitVec.ofInt_natCast]
  refine BitVec.eq_of_getLsbD_eq (fun i hi => ?_)
  have hm : ∀ i : Nat, i < 64 → ((4294967295 : Int64).toBitVec).getLsbD i = decide (i < 32) := by decide
  rw [BitVec.getLsbD_and, hm i hi, BitVec.getLsbD_signExtend, BitVec.getLsbD_ofNat, BitVec.getLsbD_ofNat]
  by_cases g : i < 32
  · rw [if_pos g, decide_eq_true g, decide_eq_true hi]; simp
  · rw [if_neg g, decide_eq_false g, Bool.and_false]
    have : s.testBit i = false := Nat.testBit_lt_two_pow (Nat.lt_of_lt_of_le h (Nat.pow_le_pow_right (n := 2) (i := 32) (by omega) (by omega)))
    rw [this, Bool.and_false])
/-- the class's table -/
def UnR (M : Nat) (F : Nat → Int → Int32) (G : Nat → Int → Int64) (l : List Nat) : Prop := tI (F 205 0) = (l.length : Int) ∧ TbR M ow1 l (fun j => decide (tJ (G 206 j) ≠ -1)) (fun j => tJ (G 206 j)) ∧ ∀ s, s ∈ l → s < 4294967296
def flJ (r : Int → Int64) (n : Nat) (v : Int) : Int → Int64 := fun i => if 0 ≤ i ∧ i < n then zJ v else r i
theorem flJ_0 {r : Int → Int64} {v : Int} : flJ r 0 v = r := by funext i; exact if_neg (by omega)
theorem flJ_s {r : Int → Int64} {n : Nat} {v : Int} : flJ r (n + 1) v = uC (flJ r n v) n (zJ v) := by
  funext i
  by_cases e : i = (n : Int)
  · rw [e, uC_at]; exact if_pos (by omega)
  · rw [uC_ne e]
    unfold flJ
    by_cases g : 0 ≤ i ∧ i < n
    · rw [if_pos g, if_pos (by omega)]
    · rw [if_neg g, if_neg (by omega)]
theorem ct_1u {d : Nat} {E : EnQ} {F : Nat → Int → Int32} {G : Nat → Int → Int64} {n : Nat} (hn : n = 4096) (hd : 1 ≤ d) : callP MP d 1 [.ref 206, .long (zJ (-1))] (mk E F G) = some (Sum.inl none, mk E F (uR G 206 (flJ (G 206) n (-1)))) := by
  have hlen : ∀ {f : Int → ResP}, (lenT (mk E F G) 206).bind f = f n := fun {f} => by rw [hn]; exact len_J (E := E) (a := 206) (z := 0) (n := 4096) rfl (by decide)
  refine into (D := 0) (by omega) hM_1 rfl rfl fun d hd => ?_
  show runP MP d 1 (0, [some (.ref 206), some (.long (zJ (-1))), none, none, none], [], mk E F G) = _
  have h0 : mk E F G = mk E F (uR G 206 (flJ (G 206) 0 (-1))) := by rw [flJ_0, uR_self]
  have h1 : runP MP d 1 (0, [some (.ref 206), some (.long (zJ (-1))), none, none, none], [], mk E F G) = runP MP d 1 (6, [some (.ref 206), some (.long (zJ (-1))), none, some (.int (zI ((0 : Nat) : Int))), some (.int (zI (n : Int)))], [], mk E F (uR G 206 (flJ (G 206) 0 (-1)))) := by
    rw [← h0, show ((0 : Nat) : Int) = 0 from rfl]
    rw [q_1_0]; (try simp only [↓n_len, li_0, li_1, li_6, lj_0, lj_1, lj_6, zJ_add, zJ_sub, zJ_mul, zJ_neg, zJ_l2i, zI_add, zI_sub, zI_mul, zI_neg, ↓Option.bind_some]); simp (disch := (first | assumption | exact tI_rg _ | omega | exact uR_at | exact row_ne hF (by decide) | exact row_ne (row_ne hF (by decide)) (by decide) | exact SnS_18 | exact SnS_30 | exact LdS_44 | exact LdS_46)) only [↓hlen, ↓n_len, li_0, li_1, li_6, lj_0, lj_1, lj_6, zJ_add, zJ_sub, zJ_mul, zJ_neg, zJ_l2i, tJ_zJ, zI_add, zI_sub, zI_mul, zI_neg, ↓Option.bind_some, zIt2, uR_at, uR_ne, uR_uR, uC_uC, uC_at, ↓reduceIte, decide_eq_true_eq, leT, leF, ltT, ltF, eqT, eqF, ne_eq, not_true_eq_false, not_false_eq_true, Bool.false_eq_true, tI_zI]
  rw [h1]
  refine (loopN (fun j : Nat => runP MP d 1 (6, [some (.ref 206), some (.long (zJ (-1))), none, some (.int (zI (j : Int))), some (.int (zI (n : Int)))], [], mk E F (uR G 206 (flJ (G 206) j (-1))))) n (fun j hj => ?_)).trans ?_
  · show runP MP d 1 _ = runP MP d 1 _
    rw [flJ_s, nsucc]
    rw [q_1_6]; (try simp only [↓n_len, li_0, li_1, li_6, lj_0, lj_1, lj_6, zJ_add, zJ_sub, zJ_mul, zJ_neg, zJ_l2i, zI_add, zI_sub, zI_mul, zI_neg, ↓Option.bind_some]); simp (disch := (first | assumption | exact tI_rg _ | omega | exact uR_at | exact row_ne hF (by decide) | exact row_ne (row_ne hF (by decide)) (by decide) | exact SnS_18 | exact SnS_30 | exact LdS_44 | exact LdS_46)) only [q_1_0, ↓as_206, ↓n_len, li_0, li_1, li_6, lj_0, lj_1, lj_6, zJ_add, zJ_sub, zJ_mul, zJ_neg, zJ_l2i, tJ_zJ, zI_add, zI_sub, zI_mul, zI_neg, ↓Option.bind_some, zIt2, uR_at, uR_ne, uR_uR, uC_uC, uC_at, ↓reduceIte, decide_eq_true_eq, leT, leF, ltT, ltF, eqT, eqF, ne_eq, not_true_eq_false, not_false_eq_true, Bool.false_eq_true, tI_zI]
  · show runP MP d 1 (6, [some (.ref 206), some (.long (zJ (-1))), none, some (.int (zI (n : Int))), some (.int (zI (n : Int)))], [], mk E F (uR G 206 (flJ (G 206) n (-1)))) = _
    rw [q_1_6]; (try simp only [↓n_len, li_0, li_1, li_6, lj_0, lj_1, lj_6, zJ_add, zJ_sub, zJ_mul, zJ_neg, zJ_l2i, zI_add, zI_sub, zI_mul, zI_neg, ↓Option.bind_some]); simp (disch := (first | assumption | exact tI_rg _ | omega | exact uR_at | exact row_ne hF (by decide) | exact row_ne (row_ne hF (by decide)) (by decide) | exact SnS_18 | exact SnS_30 | exact LdS_44 | exact LdS_46)) only [q_1_0, ↓n_len, li_0, li_1, li_6, lj_0, lj_1, lj_6, zJ_add, zJ_sub, zJ_mul, zJ_neg, zJ_l2i, tJ_zJ, zI_add, zI_sub, zI_mul, zI_neg, ↓Option.bind_some, zIt2, uR_at, uR_ne, uR_uR, uC_uC, uC_at, ↓reduceIte, decide_eq_true_eq, leT, leF, ltT, ltF, eqT, eqF, ne_eq, not_true_eq_false, not_false_eq_true, Bool.false_eq_true, tI_zI]
theorem ct_104 {d : Nat} {E : EnQ} {F : Nat → Int → Int32} {G : Nat → Int → Int64} {M : Nat} (hM : M = 4096) (hd : 2 ≤ d) : ∃ F1 G1, callP MP d 104 [.ref 205] (mk E F G) = some (Sum.inl none, mk E F1 G1) ∧ UnR M F1 G1 [] ∧ (∀ q, q ≠ 205 → F1 q = F q) ∧ (∀ q, q ≠ 206 → G1 q = G q) := by
  refine ⟨uR F 205 (uC (F 205) 0 (zI 0)), uR G 206 (flJ (G 206) M (-1)), ?_, ⟨?_, ⟨fun j hj hjo => ?_, fun s hs => ?_, ?_⟩, fun s hs => ?_⟩, fun q hq => uR_ne hq, fun q hq => uR_ne hq⟩
  · refine into (D := 1) (by omega) hM_104 (rcv_mk rfl (by decide)) rfl fun d hd => ?_
    show runP MP d 104 (0, [some (.ref 205)], [], _) = _
    have c1 : ∀ {kk : HeapP → ResP} {kx : Nat → HeapP → ResP}, cV (callP MP d 1 [.ref 206, .long (zJ (-1))] (mk E (uR F 205 (uC (F 205) 0 (zI 0))) G)) kk kx = kk (mk E (uR F 205 (uC (F 205) 0 (zI 0))) (uR G 206 (flJ (G 206) M (-1)))) := fun {kk kx} => cV_ret (ct_1u hM (by omega))
    rw [q_104_0]; (try simp only [li_0, li_1, li_9, zI_add, zI_sub, zI_mul, zI_neg, ↓Option.bind_some]); simp (disch := (first | assumption | exact tI_rg _ | omega | exact uR_at | exact row_ne hF (by decide) | exact row_ne (row_ne hF (by decide)) (by decide) | exact SnS_18 | exact SnS_30 | exact LdS_44 | exact LdS_46)) only [lj_m1, ↓c1, li_0, li_1, li_9, zI_add, zI_sub, zI_mul, zI_neg, ↓Option.bind_some, ↓g9_1, ↓p9_0, ↓al_206, ↓as_206, zIt2, uR_at, uR_ne, uR_uR, uC_uC, uC_at, ↓reduceIte, decide_eq_true_eq, leT, leF, ltT, ltF, eqT, eqF, ne_eq, not_true_eq_false, not_false_eq_true, Bool.false_eq_true, tI_zI]
  · rw [uR_at, uC_at]; exact tI_zI (by omega)
  · exfalso
    have : tJ (uR G 206 (flJ (G 206) M (-1)) 206 j) = -1 := by
      rw [uR_at]
      show tJ (if 0 ≤ (j : Int) ∧ (j : Int) < M then zJ (-1) else G 206 j) = -1
      rw [if_pos (by omega), tJ_zJ (by omega)]
    exact of_decide_eq_true hjo this
  · cases hs
  · have : ∀ n : Nat, n ≤ M → cntN (fun j : Nat => decide (tJ (uR G 206 (flJ (G 206) M (-1)) 206 j) ≠ -1)) n = 0 := by
      intro n
      induction n with
      | zero => intro _; rfl
      | succ n ih =>
        intro h
        have e : tJ (uR G 206 (flJ (G 206) M (-1)) 206 n) = -1 := by
          rw [uR_at]
          show tJ (if 0 ≤ (n : Int) ∧ (n : Int) < M then zJ (-1) else G 206 n) = -1
          rw [if_pos (by omega), tJ_zJ (by omega)]
        have e2 : ¬ (decide (tJ (uR G 206 (flJ (G 206) M (-1)) 206 n) ≠ -1) = true) := fun z => of_decide_eq_true z e
        exact (cntN_neg (p := fun j : Nat => decide (tJ (uR G 206 (flJ (G 206) M (-1)) 206 j) ≠ -1)) (j := n) e2).trans (ih (by omega))
    exact this M (Nat.le_refl _)
  · cases hs
theorem ct_105 {d : Nat} {E : EnQ} {F : Nat → Int → Int32} {G : Nat → Int → Int64} {M s : Nat} {l : List Nat} (hM : M = 4096) (hU : UnR M F G l) (hl : l.length < 4096) (hs : s < 4294967296) (hd : 1 ≤ d) : ∃ F1 G1, callP MP d 105 [.ref 205, .int (zI (s : Int))] (mk E F G) = some (Sum.inl none, mk E F1 G1) ∧ UnR M F1 G1 (if s ∈ l then l else s :: l) ∧ (∀ q, q ≠ 205 → F1 q = F q) ∧ (∀ q, q ≠ 206 → G1 q = G q) := by
  have ho : ∀ s, ow1 s < M := fun s => by have := ow1_lt s; omega
  obtain ⟨i, hi, hb, he⟩ := tb_find ho hU.2.1 (by omega) s
  have how := ow1_lt s
  have hat : ∀ j : Nat, ((ow1 s : Nat) : Int) + (j : Int) = ((ow1 s + j : Nat) : Int) := fun j => rfl
  have hmd : ∀ j : Nat, ((ow1 s : Nat) : Int) + (j : Int) = ((ow1 s + j : Nat) : Int) → (((ow1 s : Nat) : Int) + (j : Int)) % 4096 = (((ow1 s + j) % M : Nat) : Int) := fun j _ => by rw [hM]; omega
  obtain ⟨e, rfl⟩ : ∃ e, d = e + 1 := ⟨d - 1, by omega⟩
  have hin : callP MP (e + 1) 105 [.ref 205, .int (zI (s : Int))] (mk E F G) = runP MP e 105 (0, [some (.ref 205), some (.int (zI (s : Int))), none, none, none, none, none], [], mk E F G) := into_eq (by omega) hM_105 (rcv_mk rfl (by decide)) rfl
  have hrun : ∀ z : Option Value, runP MP e 105 (19, [some (.ref 205), some (.int (zI (s : Int))), some (.long (zJ (s : Int))), none, some (.int (zI ((ow1 s : Nat) : Int))), some (.int (zI ((0 : Nat) : Int))), z], [], mk E F G) = callP MP (e + 1) 105 [.ref 205, .int (zI (s : Int))] (mk E F G) ∨ True := fun _ => Or.inr trivial
  have h0 : callP MP (e + 1) 105 [.ref 205, .int (zI (s : Int))] (mk E F G) = runP MP e 105 (19, [some (.ref 205), some (.int (zI (s : Int))), some (.long (zJ (s : Int))), none, some (.int (zI ((ow1 s : Nat) : Int))), some (.int (zI ((0 : Nat) : Int))), none], [], mk E F G) := by
    rw [hin, q_105_0, u2l hs, ushr20]; rfl
  rw [h0]
  refine loopS (σ := Option Value) (Post := fun r => ∃ F1 G1, r = some (Sum.inl none, mk E F1 G1) ∧ UnR M F1 G1 (if s ∈ l then l else s :: l) ∧ (∀ q, q ≠ 205 → F1 q = F q) ∧ (∀ q, q ≠ 206 → G1 q = G q))
    (fun j z => runP MP e 105 (19, [some (.ref 205), some (.int (zI (s : Int))), some (.long (zJ (s : Int))), none, some (.int (zI ((ow1 s : Nat) : Int))), some (.int (zI (j : Int))), z], [], mk E F G))
    (fun _ _ => True) i none trivial (fun z _ => ?_) (fun j z hj _ => ?_)
  · have hmi := hmd i rfl
    have hlt : (ow1 s + i) % M < M := Nat.mod_lt _ (by omega)
    have hrg := tJ_rg (G 206 (((ow1 s + i) % M : Nat) : Int))
    rcases he with ⟨h1, h2, h3⟩ | ⟨h1, h3⟩
    · rw [if_pos h3]
      refine ⟨F, G, ?_, hU, fun _ _ => rfl, fun _ _ => rfl⟩
      have h2 : tJ (G 206 (((ow1 s + i) % M : Nat) : Int)) = (s : Int) := h2
      show runP MP e 105 _ = _
      rw [q_105_19]; (try simp only [↓n_rd, ↓n_alJ, ↓n_irem, li_0, li_1, li_9, li_20, li_4096, li_1640531535, lj_0, lj_1, lj_9, lj_4294967295, zJ_add, zJ_sub, zJ_mul, zJ_neg, zJ_l2i, zI_add, zI_sub, zI_mul, zI_neg, ↓Option.bind_some]); simp (disch := (first | assumption | exact tI_rg _ | omega | exact uR_at | exact row_ne hF (by decide) | exact row_ne (row_ne hF (by decide)) (by decide) | exact SnS_18 | exact SnS_30 | exact LdS_44 | exact LdS_46)) only [q_105_0, hmi, ↓al_206, h2, cmpJ_eq, lj_m1, ↓n_rd, ↓n_alJ, ↓n_irem, ↓b_irem, li_0, li_1, li_9, li_20, li_4096, li_1640531535, lj_0, lj_1, lj_9, lj_4294967295, zJ_add, zJ_sub, zJ_mul, zJ_neg, zJ_l2i, tJ_zJ, zI_add, zI_sub, zI_mul, zI_neg, ↓Option.bind_some, ↓g9_0, ↓g9_1, ↓p9_0, ↓al_206, ↓as_206, zIt2, uR_at, uR_ne, uR_uR, uC_uC, uC_at, ↓reduceIte, decide_eq_true_eq, leT, leF, ltT, ltF, eqT, eqF, ne_eq, not_true_eq_false, not_false_eq_true, Bool.false_eq_true, tI_zI]
    · rw [if_neg h3]
      have h1' : tJ (G 206 (((ow1 s + i) % M : Nat) : Int)) = -1 := Decidable.byContradiction (fun z => by
        have : decide (tJ (G 206 (((ow1 s + i) % M : Nat) : Int)) ≠ -1) = true := decide_eq_true z
        rw [this] at h1; cases h1)
      refine ⟨uR F 205 (uC (F 205) 0 (zI ((l.length : Int) + 1))), uR G 206 (uC (G 206) (((ow1 s + i) % M : Nat) : Int) (zJ (s : Int))), ?_, ⟨?_, ?_, fun s' hs' => ?_⟩, fun q hq => uR_ne hq, fun q hq => uR_ne hq⟩
      · show runP MP e 105 _ = _
        have hU1 := hU.1
        have hns : ¬ (-1 : Int) = (s : Int) := by omega
        rw [q_105_19]; (try simp only [↓n_rd, ↓n_alJ, ↓n_irem, li_0, li_1, li_9, li_20, li_4096, li_1640531535, lj_0, lj_1, lj_9, lj_4294967295, zJ_add, zJ_sub, zJ_mul, zJ_neg, zJ_l2i, zI_add, zI_sub, zI_mul, zI_neg, ↓Option.bind_some]); simp (disch := (first | assumption | exact tI_rg _ | omega | exact uR_at | exact row_ne hF (by decide) | exact row_ne (row_ne hF (by decide)) (by decide) | exact SnS_18 | exact SnS_30 | exact LdS_44 | exact LdS_46)) only [q_105_0, hmi, ↓al_206, ↓as_206, h1', hU1, cmpJ_eq, lj_m1, hns, ↓n_rd, ↓n_alJ, ↓n_irem, ↓b_irem, li_0, li_1, li_9, li_20, li_4096, li_1640531535, lj_0, lj_1, lj_9, lj_4294967295, zJ_add, zJ_sub, zJ_mul, zJ_neg, zJ_l2i, tJ_zJ, zI_add, zI_sub, zI_mul, zI_neg, ↓Option.bind_some, ↓g9_0, ↓g9_1, ↓p9_0, ↓al_206, ↓as_206, zIt2, uR_at, uR_ne, uR_uR, uC_uC, uC_at, ↓reduceIte, decide_eq_true_eq, leT, leF, ltT, ltF, eqT, eqF, ne_eq, not_true_eq_false, not_false_eq_true, Bool.false_eq_true, tI_zI]
      · rw [uR_at, uC_at, tI_zI (by omega)]; rfl
      · refine tb_put ho hU.2.1 hi (fun i' hi' => (hb i' hi').1) h1 ?_ ?_ (fun j hj => ?_) (fun j hj => ?_)
        · show decide (tJ (uR G 206 (uC (G 206) (((ow1 s + i) % M : Nat) : Int) (zJ (s : Int))) 206 (((ow1 s + i) % M : Nat) : Int)) ≠ -1) = true
          rw [uR_at, uC_at, tJ_zJ (by omega)]; exact decide_eq_true (by omega)
        · show tJ (uR G 206 (uC (G 206) (((ow1 s + i) % M : Nat) : Int) (zJ (s : Int))) 206 (((ow1 s + i) % M : Nat) : Int)) = (s : Int)
          rw [uR_at, uC_at, tJ_zJ (by omega)]
        · show decide (tJ (uR G 206 (uC (G 206) (((ow1 s + i) % M : Nat) : Int) (zJ (s : Int))) 206 (j : Int)) ≠ -1) = _
          rw [uR_at, uC_ne (by omega)]
        · show tJ (uR G 206 (uC (G 206) (((ow1 s + i) % M : Nat) : Int) (zJ (s : Int))) 206 (j : Int)) = _
          rw [uR_at, uC_ne (by omega)]
      · rcases List.mem_cons.mp hs' with e1 | e1
        · rw [e1]; exact hs
        · exact hU.2.2 s' e1
  · right
    obtain ⟨g1, g2⟩ := hb j hj
    have g1' : ¬ tJ (G 206 (((ow1 s + j) % M : Nat) : Int)) = -1 := of_decide_eq_true g1
    have g2' : ¬ tJ (G 206 (((ow1 s + j) % M : Nat) : Int)) = (s : Int) := g2
    have hmi := hmd j rfl
    have hlt : (ow1 s + j) % M < M := Nat.mod_lt _ (by omega)
    have hrg := tJ_rg (G 206 (((ow1 s + j) % M : Nat) : Int))
    refine ⟨some (.int (zI (((ow1 s + j) % M : Nat) : Int))), trivial, ?_⟩
    show runP MP e 105 _ = runP MP e 105 _
    rw [nsucc]
    rw [q_105_19]; (try simp only [↓n_rd, ↓n_alJ, ↓n_irem, li_0, li_1, li_9, li_20, li_4096, li_1640531535, lj_0, lj_1, lj_9, lj_4294967295, zJ_add, zJ_sub, zJ_mul, zJ_neg, zJ_l2i, zI_add, zI_sub, zI_mul, zI_neg, ↓Option.bind_some]); simp (disch := (first | assumption | exact tI_rg _ | omega | exact uR_at | exact row_ne hF (by decide) | exact row_ne (row_ne hF (by decide)) (by decide) | exact SnS_18 | exact SnS_30 | exact LdS_44 | exact LdS_46)) only [q_105_0, hmi, ↓al_206, cmpJ_eq, lj_m1, g1', g2', ↓n_rd, ↓n_alJ, ↓n_irem, ↓b_irem, li_0, li_1, li_9, li_20, li_4096, li_1640531535, lj_0, lj_1, lj_9, lj_4294967295, zJ_add, zJ_sub, zJ_mul, zJ_neg, zJ_l2i, tJ_zJ, zI_add, zI_sub, zI_mul, zI_neg, ↓Option.bind_some, ↓g9_0, ↓g9_1, ↓p9_0, ↓al_206, ↓as_206, zIt2, uR_at, uR_ne, uR_uR, uC_uC, uC_at, ↓reduceIte, decide_eq_true_eq, leT, leF, ltT, ltF, eqT, eqF, ne_eq, not_true_eq_false, not_false_eq_true, Bool.false_eq_true, tI_zI]
end S94zzzq
