/-! CLASS: the fewest steps through a sign -/
section S94zw
set_option linter.unusedVariables false
set_option linter.unusedSimpArgs false
def csN (s : Nat) : Nat := (s % 256) * 16 + s / 256
theorem cs_inj {s t : Nat} (hs : s < 2560) (ht : t < 2560) (h : csN s = csN t) : s = t := by unfold csN at h; omega
def BfC (st : BfS) (q r : Int → Int32) : Prop := (∀ x : Nat, x < 2560 → r ((csN x : Nat) : Int) = zI (st.1 x)) ∧ ∀ j : Nat, j < st.2.2 → q (j : Int) = zI ((csN (st.2.1 j) : Nat) : Int)
theorem BfC_push {st : BfS} {q r : Int → Int32} {s : Nat} {v : Int} (h : BfC st q r) (hs : s < 2560) (e : ¬ st.1 s ≠ -1) : BfC (bpush st s v) (uC q (st.2.2 : Int) (zI ((csN s : Nat) : Int))) (uC r ((csN s : Nat) : Int) (zI v)) := by
  unfold bpush
  rw [if_neg e]
  refine ⟨fun x hx => ?_, fun j hj => ?_⟩
  · show uC r ((csN s : Nat) : Int) (zI v) ((csN x : Nat) : Int) = zI (if x = s then v else st.1 x)
    by_cases z : x = s
    · rw [if_pos z, z, uC_at]
    · rw [if_neg z, uC_ne (fun y => z (cs_inj hx hs (by omega)))]; exact h.1 x hx
  · have hj : j < st.2.2 + 1 := hj
    show uC q (st.2.2 : Int) (zI ((csN s : Nat) : Int)) (j : Int) = zI ((csN (if j = st.2.2 then s else st.2.1 j) : Nat) : Int)
    by_cases z : j = st.2.2
    · rw [if_pos z, z, uC_at]
    · rw [if_neg z, uC_ne (by omega)]; exact h.2 j (by omega)
theorem bwk_place {wy : Nat → Nat → Int} {al : Int → Bool} {bt : Int → Nat} (hb : ∀ w, bt w < 256) {n p : Nat} (hp : p < n) : ∀ (L s : Nat), bwk wy al bt n (256 * p) L s → s / 256 < n := by
  intro L s h
  obtain ⟨f, f0, f1, f2⟩ := (wk_pw hb L s).mp h
  have := cvN_lt (wy := wy) (f := f) hb L
  rw [f2]
  cases L with
  | zero => rw [f0]; omega
  | succ L => have := (f1 L (by omega)).1; omega
def ccF (F : Nat → Int → Int32) (q r : Int → Int32) : Nat → Int → Int32 := uR (uR F 204 q) 203 r
theorem ccF_203 {F : Nat → Int → Int32} {q r : Int → Int32} : ccF F q r 203 = r := uR_at
theorem ccF_204 {F : Nat → Int → Int32} {q r : Int → Int32} : ccF F q r 204 = q := (uR_ne (by decide)).trans uR_at
theorem ccF_ne {F : Nat → Int → Int32} {q r : Int → Int32} {a : Nat} (h1 : a ≠ 203) (h2 : a ≠ 204) : ccF F q r a = F a := (uR_ne h1).trans (uR_ne h2)
theorem ccF_w1 {F : Nat → Int → Int32} {q r r' : Int → Int32} : uR (ccF F q r) 203 r' = ccF F q r' := uR_uR
theorem ccF_w0 {F : Nat → Int → Int32} {q r q' : Int → Int32} : uR (ccF F q r) 204 q' = ccF F q' r := by
  unfold ccF
  rw [uR_comm (by decide : (203 : Nat) ≠ 204), uR_uR]
theorem ccF_0 {F : Nat → Int → Int32} : ccF F (F 204) (F 203) = F := by unfold ccF; rw [uR_self, uR_self]
/-- all of it is covered, and (round) one is where one began -/
def goN (z p : Nat) (rd : Int) (s : Nat) : Bool := decide (s % 256 = 2 ^ z - 1) && decide (rd = 0 ∨ s / 256 = p)
theorem or16 {a b : Nat} (h : b < 16) : a * 16 ||| b = a * 16 + b := by
  have := Nat.two_pow_add_eq_or_of_lt (i := 4) (b := b) h a
  rw [show a * 16 = 2 ^ 4 * a by omega]; exact this.symm
theorem ct_57 {d : Nat} {E : EnQ} {F : Nat → Int → Int32} {G : Nat → Int → Int64} {K : Int → Int32} {S : SgS} {a p : Nat} {rd : Int} (hR : PlR F a K) (hI : InvK K) (hP : PlS E a) (ha : a + 5 < 201 ∨ 204 < a) (hC : SgC F S) (hS : SgI (2 * tI (K 2)) S) (hp : (p : Int) < tI (K 1)) (hrd : rd = 0 ∨ rd = 1) (hd : 3 ≤ d) :
    ∃ q r, callP MP d 57 [.ref 201, .ref a, .int (zI (p : Int)), .int (zI rd)] (mk E F G) = some (Sum.inl (some (.int (zI (cres (wyK K) (sgA S (1 - rd)) (sgT S) (tI (K 1)).toNat (256 * p) (goN S.1 p rd))))), mk E (ccF F q r) G) := by
  obtain ⟨zz, hzz⟩ : ∃ zz, zz = 1 - rd := ⟨_, rfl⟩
  rw [← hzz]
  have hb1 := hI.1.2.1
  have hb2 := hI.1.2.2.1
  have hs2 := hP.1
  obtain ⟨g8, gr, gd⟩ := hS
  have hbt : ∀ w, sgT S w < 256 := sgT_lt g8
  have hn : (tI (K 1)).toNat ≤ 10 := by omega
  have hs0 : 256 * p < 2560 := by omega
  have e1 : tI (F a 1) = tI (K 1) := by rw [hR.1.2.1]
  have hpow : (2 : Nat) ^ S.1 ≤ 2 ^ 8 := Nat.pow_le_pow_right (by omega) g8
  have hpos : 0 < (2 : Nat) ^ S.1 := Nat.two_pow_pos _
  have esz : tI (F 201 1) = (S.1 : Int) := by rw [hC.1, tI_zI (by omega)]
  have hcsp : csN (256 * p) = p := by unfold csN; omega
  have hmn := cres_mn (wy := wyK K) (al := sgA S zz) (bt := sgT S) hbt hn hs0 (goN S.1 p rd)
  obtain ⟨e, rfl⟩ : ∃ e, d = e + 1 := ⟨d - 1, by omega⟩
  have hin : callP MP (e + 1) 57 [.ref 201, .ref a, .int (zI (p : Int)), .int (zI rd)] (mk E F G) = runP MP e 57 (0, [some (.ref 201), some (.ref a), some (.int (zI (p : Int))), some (.int (zI rd)), none, none, none, none, none, none, none, none, none], [], mk E F G) := into_eq (by omega) hM_57 (rcv_mk rfl (by decide)) rfl
  have hR2 : ∀ q r, PlR (ccF F q r) a K := fun q r => PlR_move hI (fun b h1 h2 => ccF_ne (by omega) (by omega)) (fun j _ => rfl) hR
  have hC2 : ∀ q r (w : Int), 0 ≤ w → w < 32 → ccF F q r 202 w = zI (sgT S w : Nat) := fun q r w w0 w1 => by rw [ccF_ne (by decide) (by decide)]; exact hC.2.2 w w0 w1
  have hF1 : ∀ q r, tI (ccF F q r a 1) = tI (K 1) := fun q r => by rw [ccF_ne (by omega) (by omega)]; exact e1
  -- nothing is known
  have h0 : ∃ r, runP MP e 57 (0, [some (.ref 201), some (.ref a), some (.int (zI (p : Int))), some (.int (zI rd)), none, none, none, none, none, none, none, none, none], [], mk E F G) = runP MP e 57 (48, [some (.ref 201), some (.ref a), some (.int (zI (p : Int))), some (.int (zI rd)), some (.int (zI ((2 ^ S.1 - 1 : Nat) : Int))), some (.int (zI 1)), some (.int (zI 0)), none, none, none, none, none, none], [], mk E (ccF F (uC (F 204) 0 (zI (p : Int))) r) G) ∧ ∀ x : Nat, x < 2560 → r ((csN x : Nat) : Int) = zI (if x = 256 * p then 0 else -1) := by
    refine ⟨uC (zrI (F 203) 4096 (-1)) (p : Int) (zI 0), ?_, fun x hx => ?_⟩
    · have h27 : ∀ {kk : Int → HeapP → ResP} {kx : Nat → HeapP → ResP}, cT (callP MP e 27 [.ref a, .int (zI (p : Int))] (mk E F G)) kk kx = kk 1 (mk E F G) := fun {kk kx} => by
        rw [cc_27 hP (by omega) (by omega), e1, if_pos (by omega)]
      have h00 : ∀ {kk : HeapP → ResP} {kx : Nat → HeapP → ResP}, cV (callP MP e 0 [.ref 203, .int (zI (-1))] (mk E F G)) kk kx = kk (mk E (uR F 203 (zrI (F 203) 4096 (-1))) G) := fun {kk kx} => cc_0 (E := E) (a := 203) (n := 4096) rfl (by decide) (by omega)
      have hsh : o_ishl (zI 1) (zI (S.1 : Int)) = zI ((2 ^ S.1 : Nat) : Int) := by
        have := shl1 (p := (S.1 : Int)) (by omega)
        rw [show ((S.1 : Int)).toNat = S.1 by omega] at this
        exact this
      have eall : ((2 ^ S.1 : Nat) : Int) - 1 = ((2 ^ S.1 - 1 : Nat) : Int) := by omega
      have ef : ccF F (uC (F 204) 0 (zI (p : Int))) (uC (zrI (F 203) 4096 (-1)) (p : Int) (zI 0)) = uR (uR F 203 (uC (zrI (F 203) 4096 (-1)) (p : Int) (zI 0))) 204 (uC (F 204) 0 (zI (p : Int))) := by
        unfold ccF; rw [uR_comm (by decide : (204 : Nat) ≠ 203)]
      rw [ef]
      rw [q_57_0]; (try simp only [↓n_rd, ↓n_al, ↓n_cI, li_0, li_1, li_2, li_3, li_4, li_15, li_48, li_57, li_4096, zI_add, zI_sub, zI_mul, zI_neg, ↓Option.bind_some]); simp (disch := (first | assumption | exact tI_rg _ | omega | exact uR_at | exact row_ne hF (by decide) | exact row_ne (row_ne hF (by decide)) (by decide) | exact SnS_18 | exact SnS_30 | exact LdS_44 | exact LdS_46)) only [q_57_102, q_57_110, q_57_152, q_57_216, q_57_228, ↓h27, esz, ↓h00, hsh, eall, ↓n_rd, ↓n_al, ↓n_cI, li_0, li_1, li_2, li_3, li_4, li_15, li_48, li_57, li_4096, zI_add, zI_sub, zI_mul, zI_neg, ↓Option.bind_some, ↓g2_1, ↓g4_0, ↓g4_1, ↓g4_3, ↓g4_4, ↓al_202, ↓as_202, ↓al_203, ↓as_203, ↓al_204, ↓as_204, zIt2, uR_at, uR_ne, uR_uR, uC_uC, uC_at, ↓reduceIte, decide_eq_true_eq, leT, leF, ltT, ltF, eqT, eqF, ne_eq, not_true_eq_false, not_false_eq_true, Bool.false_eq_true, tI_zI]
    · by_cases g : x = 256 * p
      · rw [if_pos g, g, hcsp, uC_at]
      · rw [if_neg g, uC_ne (fun y => g (cs_inj hx hs0 (by rw [hcsp]; omega)))]
        have : csN x < 4096 := by unfold csN; omega
        exact if_pos (by omega)
  obtain ⟨r0, h01, h02⟩ := h0
  rw [hin, h01]
  refine loopS (σ := ((Int → Int32) × (Int → Int32)) × (Option Value × Option Value × Option Value × Option Value × Option Value × Option Value)) (Post := fun y => ∃ q r, y = some (Sum.inl (some (.int (zI (cres (wyK K) (sgA S zz) (sgT S) (tI (K 1)).toNat (256 * p) (goN S.1 p rd))))), mk E (ccF F q r) G))
    (fun i s => runP MP e 57 (48, [some (.ref 201), some (.ref a), some (.int (zI (p : Int))), some (.int (zI rd)), some (.int (zI ((2 ^ S.1 - 1 : Nat) : Int))), some (.int (zI ((bfs (wyK K) (sgA S zz) (sgT S) (tI (K 1)).toNat (256 * p) i).2.2 : Nat))), some (.int (zI (i : Int))), s.2.1, s.2.2.1, s.2.2.2.1, s.2.2.2.2.1, s.2.2.2.2.2.1, s.2.2.2.2.2.2], [], mk E (ccF F s.1.1 s.1.2) G))
    (fun i s => BfC (bfs (wyK K) (sgA S zz) (sgT S) (tI (K 1)).toNat (256 * p) i) s.1.1 s.1.2 ∧ ∀ j, j < i → j < (bfs (wyK K) (sgA S zz) (sgT S) (tI (K 1)).toNat (256 * p) i).2.2 → goN S.1 p rd ((bfs (wyK K) (sgA S zz) (sgT S) (tI (K 1)).toNat (256 * p) i).2.1 j) = false) bEnd ((uC (F 204) 0 (zI (p : Int)), r0), none, none, none, none, none, none) ⟨⟨h02, fun j hj => ?_⟩, fun j hj => by omega⟩ (fun s hs => ?_) (fun i s hi hs => ?_)
  · have hj : j < 1 := hj
    rw [show j = 0 by omega]
    show uC (F 204) 0 (zI (p : Int)) 0 = zI ((csN (256 * p) : Nat) : Int)
    rw [uC_at, hcsp]
  · have hm := bfs_m (wy := wyK K) (al := sgA S zz) (bt := sgT S) hbt hn hs0 bEnd
    have hE := bEnd_eq
    have ec : cres (wyK K) (sgA S zz) (sgT S) (tI (K 1)).toNat (256 * p) (goN S.1 p rd) = -1 := if_pos (fndN_none (fun j _ hj => hs.2 j (by omega) (by omega)))
    refine ⟨s.1.1, s.1.2, ?_⟩
    rw [ec]
    show runP MP e 57 _ = _
    rw [q_57_48]; (try simp only [↓n_rd, ↓n_al, ↓n_cI, li_0, li_1, li_2, li_3, li_4, li_15, li_48, li_57, li_4096, zI_add, zI_sub, zI_mul, zI_neg, ↓Option.bind_some]); simp (disch := (first | assumption | exact tI_rg _ | omega | exact uR_at | exact row_ne hF (by decide) | exact row_ne (row_ne hF (by decide)) (by decide) | exact SnS_18 | exact SnS_30 | exact LdS_44 | exact LdS_46)) only [q_57_0, q_57_102, q_57_110, q_57_152, q_57_216, q_57_228, ↓n_rd, ↓n_al, ↓n_cI, li_0, li_1, li_2, li_3, li_4, li_15, li_48, li_57, li_4096, zI_add, zI_sub, zI_mul, zI_neg, ↓Option.bind_some, ↓g2_1, ↓g4_0, ↓g4_1, ↓g4_3, ↓g4_4, ↓al_202, ↓as_202, ↓al_203, ↓as_203, ↓al_204, ↓as_204, zIt2, uR_at, uR_ne, uR_uR, uC_uC, uC_at, ↓reduceIte, decide_eq_true_eq, leT, leF, ltT, ltF, eqT, eqF, ne_eq, not_true_eq_false, not_false_eq_true, Bool.false_eq_true, tI_zI]
  · have hE := bEnd_eq
    have hm := bfs_m (wy := wyK K) (al := sgA S zz) (bt := sgT S) hbt hn hs0 i
    by_cases g : i < (bfs (wyK K) (sgA S zz) (sgT S) (tI (K 1)).toNat (256 * p) i).2.2
    · obtain ⟨i1, -, -, i4⟩ := bfs_inv (wy := wyK K) (al := sgA S zz) (bt := sgT S) hbt hn hs0 i
      obtain ⟨hd0, hsl⟩ := i1.2.1 i g
      have hdl := bfs_le (wy := wyK K) (al := sgA S zz) (bt := sgT S) (n := (tI (K 1)).toNat) (s0 := 256 * p) i ((bfs (wyK K) (sgA S zz) (sgT S) (tI (K 1)).toNat (256 * p) i).2.1 i)
      have hwk := i1.2.2.2.1 ((bfs (wyK K) (sgA S zz) (sgT S) (tI (K 1)).toNat (256 * p) i).2.1 i) (by omega)
      have hpl := bwk_place hbt (show p < (tI (K 1)).toNat by omega) _ _ hwk
      have hXe := (bfs_inv (wy := wyK K) (al := sgA S zz) (bt := sgT S) hbt hn hs0 bEnd).2.1 i (by omega)
      have hXs := (bfs_inv (wy := wyK K) (al := sgA S zz) (bt := sgT S) hbt hn hs0 (i + 1)).2.1 i (by omega)
      have hcs : csN ((bfs (wyK K) (sgA S zz) (sgT S) (tI (K 1)).toNat (256 * p) i).2.1 i) < 4096 := by unfold csN; omega
      have eq9t : tI (s.1.1 (i : Int)) = ((csN ((bfs (wyK K) (sgA S zz) (sgT S) (tI (K 1)).toNat (256 * p) i).2.1 i) : Nat) : Int) := by rw [hs.1.2 i g, tI_zI (by omega)]
      have hand : zI ((csN ((bfs (wyK K) (sgA S zz) (sgT S) (tI (K 1)).toNat (256 * p) i).2.1 i) : Nat) : Int) &&& zI 15 = zI (((bfs (wyK K) (sgA S zz) (sgT S) (tI (K 1)).toNat (256 * p) i).2.1 i / 256 : Nat) : Int) := by
        have h1 := andZ (csN ((bfs (wyK K) (sgA S zz) (sgT S) (tI (K 1)).toNat (256 * p) i).2.1 i)) 15
        have h2 := Nat.and_two_pow_sub_one_eq_mod (csN ((bfs (wyK K) (sgA S zz) (sgT S) (tI (K 1)).toNat (256 * p) i).2.1 i)) 4
        refine h1.trans (congrArg (fun z : Nat => zI (z : Int)) (h2.trans ?_))
        unfold csN; omega
      have hshr : o_iushr (zI ((csN ((bfs (wyK K) (sgA S zz) (sgT S) (tI (K 1)).toNat (256 * p) i).2.1 i) : Nat) : Int)) (zI 4) = zI (((bfs (wyK K) (sgA S zz) (sgT S) (tI (K 1)).toNat (256 * p) i).2.1 i % 256 : Nat) : Int) := by
        have h1 := ushrZ (csN ((bfs (wyK K) (sgA S zz) (sgT S) (tI (K 1)).toNat (256 * p) i).2.1 i)) 4 (by omega) (by omega)
        refine h1.trans (congrArg (fun z : Nat => zI (z : Int)) ?_)
        unfold csN; omega
      by_cases gg : goN S.1 p rd ((bfs (wyK K) (sgA S zz) (sgT S) (tI (K 1)).toNat (256 * p) i).2.1 i) = true
      · left
        have ec : cres (wyK K) (sgA S zz) (sgT S) (tI (K 1)).toNat (256 * p) (goN S.1 p rd) = (bfs (wyK K) (sgA S zz) (sgT S) (tI (K 1)).toNat (256 * p) i).1 ((bfs (wyK K) (sgA S zz) (sgT S) (tI (K 1)).toNat (256 * p) i).2.1 i) := by
          have hf : fndN (fun j => goN S.1 p rd ((bfs (wyK K) (sgA S zz) (sgT S) (tI (K 1)).toNat (256 * p) bEnd).2.1 j)) (bfs (wyK K) (sgA S zz) (sgT S) (tI (K 1)).toNat (256 * p) bEnd).2.2 0 = (i : Int) := fndN_eq (by omega) (by have := hXe.1; omega) (by show goN S.1 p rd ((bfs (wyK K) (sgA S zz) (sgT S) (tI (K 1)).toNat (256 * p) bEnd).2.1 i) = true; rw [hXe.2.2 i g]; exact gg) (fun j _ hj => by show goN S.1 p rd ((bfs (wyK K) (sgA S zz) (sgT S) (tI (K 1)).toNat (256 * p) bEnd).2.1 j) = false; rw [hXe.2.2 j (by omega)]; exact hs.2 j hj (by omega))
          unfold cres
          rw [hf, if_neg (by omega), show ((i : Int)).toNat = i by omega, hXe.2.2 i g]
          unfold bD
          rw [hXe.2.1 _ (by omega)]
        have efar : tI (s.1.2 ((csN ((bfs (wyK K) (sgA S zz) (sgT S) (tI (K 1)).toNat (256 * p) i).2.1 i) : Nat) : Int)) = (bfs (wyK K) (sgA S zz) (sgT S) (tI (K 1)).toNat (256 * p) i).1 ((bfs (wyK K) (sgA S zz) (sgT S) (tI (K 1)).toNat (256 * p) i).2.1 i) := by rw [hs.1.1 _ hsl, tI_zI (by omega)]
        refine ⟨s.1.1, s.1.2, ?_⟩
        rw [ec]
        unfold goN at gg
        rw [Bool.and_eq_true, decide_eq_true_eq, decide_eq_true_eq] at gg
        obtain ⟨gg1, gg2⟩ := gg
        show runP MP e 57 _ = _
        rcases hrd with hr0 | hr1
        · rw [q_57_48]; (try simp only [↓n_rd, ↓n_al, ↓n_cI, li_0, li_1, li_2, li_3, li_4, li_15, li_48, li_57, li_4096, zI_add, zI_sub, zI_mul, zI_neg, ↓Option.bind_some]); simp (disch := (first | assumption | exact tI_rg _ | omega | exact uR_at | exact row_ne hF (by decide) | exact row_ne (row_ne hF (by decide)) (by decide) | exact SnS_18 | exact SnS_30 | exact LdS_44 | exact LdS_46)) only [q_57_0, q_57_102, q_57_110, q_57_152, q_57_216, q_57_228, ccF_204, ccF_203, eq9t, hand, hshr, gg1, hr0, efar, ↓n_rd, ↓n_al, ↓n_cI, li_0, li_1, li_2, li_3, li_4, li_15, li_48, li_57, li_4096, zI_add, zI_sub, zI_mul, zI_neg, ↓Option.bind_some, ↓g2_1, ↓g4_0, ↓g4_1, ↓g4_3, ↓g4_4, ↓al_202, ↓as_202, ↓al_203, ↓as_203, ↓al_204, ↓as_204, zIt2, uR_at, uR_ne, uR_uR, uC_uC, uC_at, ↓reduceIte, decide_eq_true_eq, leT, leF, ltT, ltF, eqT, eqF, ne_eq, not_true_eq_false, not_false_eq_true, Bool.false_eq_true, tI_zI]
        · have gg3 : (bfs (wyK K) (sgA S zz) (sgT S) (tI (K 1)).toNat (256 * p) i).2.1 i / 256 = p := by omega
          rw [q_57_48]; (try simp only [↓n_rd, ↓n_al, ↓n_cI, li_0, li_1, li_2, li_3, li_4, li_15, li_48, li_57, li_4096, zI_add, zI_sub, zI_mul, zI_neg, ↓Option.bind_some]); simp (disch := (first | assumption | exact tI_rg _ | omega | exact uR_at | exact row_ne hF (by decide) | exact row_ne (row_ne hF (by decide)) (by decide) | exact SnS_18 | exact SnS_30 | exact LdS_44 | exact LdS_46)) only [q_57_0, q_57_102, q_57_110, q_57_152, q_57_216, q_57_228, ccF_204, ccF_203, eq9t, hand, hshr, gg1, hr1, gg3, efar, ↓n_rd, ↓n_al, ↓n_cI, li_0, li_1, li_2, li_3, li_4, li_15, li_48, li_57, li_4096, zI_add, zI_sub, zI_mul, zI_neg, ↓Option.bind_some, ↓g2_1, ↓g4_0, ↓g4_1, ↓g4_3, ↓g4_4, ↓al_202, ↓as_202, ↓al_203, ↓as_203, ↓al_204, ↓as_204, zIt2, uR_at, uR_ne, uR_uR, uC_uC, uC_at, ↓reduceIte, decide_eq_true_eq, leT, leF, ltT, ltF, eqT, eqF, ne_eq, not_true_eq_false, not_false_eq_true, Bool.false_eq_true, tI_zI]
      · right
        have eb : bfs (wyK K) (sgA S zz) (sgT S) (tI (K 1)).toNat (256 * p) (i + 1) = bin (wyK K) (sgA S zz) (sgT S) (bfs (wyK K) (sgA S zz) (sgT S) (tI (K 1)).toNat (256 * p) i) ((bfs (wyK K) (sgA S zz) (sgT S) (tI (K 1)).toNat (256 * p) i).2.1 i) ((bfs (wyK K) (sgA S zz) (sgT S) (tI (K 1)).toNat (256 * p) i).1 ((bfs (wyK K) (sgA S zz) (sgT S) (tI (K 1)).toNat (256 * p) i).2.1 i) + 1) (tI (K 1)).toNat := if_pos g
        have hbin := bin_inv hbt hn i1 (s := (bfs (wyK K) (sgA S zz) (sgT S) (tI (K 1)).toNat (256 * p) i).2.1 i) (v := (bfs (wyK K) (sgA S zz) (sgT S) (tI (K 1)).toNat (256 * p) i).1 ((bfs (wyK K) (sgA S zz) (sgT S) (tI (K 1)).toNat (256 * p) i).2.1 i) + 1) (by omega) (fun t ht hg => by
          rw [show ((bfs (wyK K) (sgA S zz) (sgT S) (tI (K 1)).toNat (256 * p) i).1 ((bfs (wyK K) (sgA S zz) (sgT S) (tI (K 1)).toNat (256 * p) i).2.1 i) + 1).toNat = ((bfs (wyK K) (sgA S zz) (sgT S) (tI (K 1)).toNat (256 * p) i).1 ((bfs (wyK K) (sgA S zz) (sgT S) (tI (K 1)).toNat (256 * p) i).2.1 i)).toNat + 1 by omega]
          exact ⟨_, t, hwk, ht, hg, rfl⟩) (fun j hj => i4 i (Nat.le_refl i) g j hj)
        have hnext : ∀ j, j < i + 1 → j < (bfs (wyK K) (sgA S zz) (sgT S) (tI (K 1)).toNat (256 * p) (i + 1)).2.2 → goN S.1 p rd ((bfs (wyK K) (sgA S zz) (sgT S) (tI (K 1)).toNat (256 * p) (i + 1)).2.1 j) = false := fun j hj hjm => by
          rw [hXs.2.2 j (by omega)]
          by_cases z : j = i
          · rw [z]; exact Bool.eq_false_iff.mpr gg
          · exact hs.2 j (by omega) (by omega)
        rw [eb] at hnext ⊢
        have hbl := fun i' x => bfs_le (wy := wyK K) (al := sgA S zz) (bt := sgT S) (n := (tI (K 1)).toNat) (s0 := 256 * p) i' x
        have hbli := hbl i
        -- through the test
        have h113 : ∀ {z7 z8 z9 z10 z11 z12 : Option Value}, runP MP e 57 (48, [some (.ref 201), some (.ref a), some (.int (zI (p : Int))), some (.int (zI rd)), some (.int (zI ((2 ^ S.1 - 1 : Nat) : Int))), some (.int (zI ((bfs (wyK K) (sgA S zz) (sgT S) (tI (K 1)).toNat (256 * p) i).2.2 : Nat))), some (.int (zI (i : Int))), z7, z8, z9, z10, z11, z12], [], mk E (ccF F s.1.1 s.1.2) G) = runP MP e 57 (113, [some (.ref 201), some (.ref a), some (.int (zI (p : Int))), some (.int (zI rd)), some (.int (zI ((2 ^ S.1 - 1 : Nat) : Int))), some (.int (zI ((bfs (wyK K) (sgA S zz) (sgT S) (tI (K 1)).toNat (256 * p) i).2.2 : Nat))), some (.int (zI (i : Int))), some (.int (zI ((csN ((bfs (wyK K) (sgA S zz) (sgT S) (tI (K 1)).toNat (256 * p) i).2.1 i) : Nat) : Int))), some (.int (zI (((bfs (wyK K) (sgA S zz) (sgT S) (tI (K 1)).toNat (256 * p) i).2.1 i / 256 : Nat) : Int))), some (.int (zI (((bfs (wyK K) (sgA S zz) (sgT S) (tI (K 1)).toNat (256 * p) i).2.1 i % 256 : Nat) : Int))), some (.int (zI 0)), z11, z12], [], mk E (ccF F s.1.1 s.1.2) G) := by
          intro z7 z8 z9 z10 z11 z12
          by_cases y1 : (bfs (wyK K) (sgA S zz) (sgT S) (tI (K 1)).toNat (256 * p) i).2.1 i % 256 = 2 ^ S.1 - 1
          · have y2 : rd = 1 ∧ ¬ (bfs (wyK K) (sgA S zz) (sgT S) (tI (K 1)).toNat (256 * p) i).2.1 i / 256 = p := by
              unfold goN at gg
              rw [Bool.and_eq_true, decide_eq_true_eq, decide_eq_true_eq] at gg
              constructor
              · rcases hrd with z | z
                · exact absurd ⟨y1, Or.inl z⟩ gg
                · exact z
              · exact fun z => gg ⟨y1, Or.inr z⟩
            have y3 := y2.1
            have y4 := y2.2
            rw [q_57_48]; (try simp only [↓n_rd, ↓n_al, ↓n_cI, li_0, li_1, li_2, li_3, li_4, li_15, li_48, li_57, li_4096, zI_add, zI_sub, zI_mul, zI_neg, ↓Option.bind_some]); simp (disch := (first | assumption | exact tI_rg _ | omega | exact uR_at | exact row_ne hF (by decide) | exact row_ne (row_ne hF (by decide)) (by decide) | exact SnS_18 | exact SnS_30 | exact LdS_44 | exact LdS_46)) only [q_57_0, q_57_102, q_57_110, q_57_152, q_57_216, q_57_228, ccF_204, eq9t, hand, hshr, y1, y3, ↓n_rd, ↓n_al, ↓n_cI, li_0, li_1, li_2, li_3, li_4, li_15, li_48, li_57, li_4096, zI_add, zI_sub, zI_mul, zI_neg, ↓Option.bind_some, ↓g2_1, ↓g4_0, ↓g4_1, ↓g4_3, ↓g4_4, ↓al_202, ↓as_202, ↓al_203, ↓as_203, ↓al_204, ↓as_204, zIt2, uR_at, uR_ne, uR_uR, uC_uC, uC_at, ↓reduceIte, decide_eq_true_eq, leT, leF, ltT, ltF, eqT, eqF, ne_eq, not_true_eq_false, not_false_eq_true, Bool.false_eq_true, tI_zI]
          · rw [q_57_48]; (try simp only [↓n_rd, ↓n_al, ↓n_cI, li_0, li_1, li_2, li_3, li_4, li_15, li_48, li_57, li_4096, zI_add, zI_sub, zI_mul, zI_neg, ↓Option.bind_some]); simp (disch := (first | assumption | exact tI_rg _ | omega | exact uR_at | exact row_ne hF (by decide) | exact row_ne (row_ne hF (by decide)) (by decide) | exact SnS_18 | exact SnS_30 | exact LdS_44 | exact LdS_46)) only [q_57_0, q_57_102, q_57_110, q_57_152, q_57_216, q_57_228, ccF_204, eq9t, hand, hshr, ↓n_rd, ↓n_al, ↓n_cI, li_0, li_1, li_2, li_3, li_4, li_15, li_48, li_57, li_4096, zI_add, zI_sub, zI_mul, zI_neg, ↓Option.bind_some, ↓g2_1, ↓g4_0, ↓g4_1, ↓g4_3, ↓g4_4, ↓al_202, ↓as_202, ↓al_203, ↓as_203, ↓al_204, ↓as_204, zIt2, uR_at, uR_ne, uR_uR, uC_uC, uC_at, ↓reduceIte, decide_eq_true_eq, leT, leF, ltT, ltF, eqT, eqF, ne_eq, not_true_eq_false, not_false_eq_true, Bool.false_eq_true, tI_zI]
        generalize hs9 : (bfs (wyK K) (sgA S zz) (sgT S) (tI (K 1)).toNat (256 * p) i).2.1 i = s9 at *
        generalize hv9 : (bfs (wyK K) (sgA S zz) (sgT S) (tI (K 1)).toNat (256 * p) i).1 s9 = v9 at *
        generalize hst : bfs (wyK K) (sgA S zz) (sgT S) (tI (K 1)).toNat (256 * p) i = st0 at *
        have hloop : ∃ q r z7 z8 z9 z10 z11 z12, BfC (bin (wyK K) (sgA S zz) (sgT S) st0 s9 (v9 + 1) (tI (K 1)).toNat) q r ∧ runP MP e 57 (113, [some (.ref 201), some (.ref a), some (.int (zI (p : Int))), some (.int (zI rd)), some (.int (zI ((2 ^ S.1 - 1 : Nat) : Int))), some (.int (zI (st0.2.2 : Nat))), some (.int (zI (i : Int))), some (.int (zI ((csN s9 : Nat) : Int))), some (.int (zI ((s9 / 256 : Nat) : Int))), some (.int (zI ((s9 % 256 : Nat) : Int))), some (.int (zI 0)), s.2.2.2.2.2.1, s.2.2.2.2.2.2], [], mk E (ccF F s.1.1 s.1.2) G) = runP MP e 57 (48, [some (.ref 201), some (.ref a), some (.int (zI (p : Int))), some (.int (zI rd)), some (.int (zI ((2 ^ S.1 - 1 : Nat) : Int))), some (.int (zI ((bin (wyK K) (sgA S zz) (sgT S) st0 s9 (v9 + 1) (tI (K 1)).toNat).2.2 : Nat))), some (.int (zI ((i : Int) + 1))), z7, z8, z9, z10, z11, z12], [], mk E (ccF F q r) G) := by
          refine loopS (σ := ((Int → Int32) × (Int → Int32)) × (Option Value × Option Value)) (Post := fun y => ∃ q r z7 z8 z9 z10 z11 z12, BfC (bin (wyK K) (sgA S zz) (sgT S) st0 s9 (v9 + 1) (tI (K 1)).toNat) q r ∧ y = runP MP e 57 (48, [some (.ref 201), some (.ref a), some (.int (zI (p : Int))), some (.int (zI rd)), some (.int (zI ((2 ^ S.1 - 1 : Nat) : Int))), some (.int (zI ((bin (wyK K) (sgA S zz) (sgT S) st0 s9 (v9 + 1) (tI (K 1)).toNat).2.2 : Nat))), some (.int (zI ((i : Int) + 1))), z7, z8, z9, z10, z11, z12], [], mk E (ccF F q r) G))
            (fun t u => runP MP e 57 (113, [some (.ref 201), some (.ref a), some (.int (zI (p : Int))), some (.int (zI rd)), some (.int (zI ((2 ^ S.1 - 1 : Nat) : Int))), some (.int (zI ((bin (wyK K) (sgA S zz) (sgT S) st0 s9 (v9 + 1) t).2.2 : Nat))), some (.int (zI (i : Int))), some (.int (zI ((csN s9 : Nat) : Int))), some (.int (zI ((s9 / 256 : Nat) : Int))), some (.int (zI ((s9 % 256 : Nat) : Int))), some (.int (zI (t : Int))), u.2.1, u.2.2], [], mk E (ccF F u.1.1 u.1.2) G))
            (fun t u => BfC (bin (wyK K) (sgA S zz) (sgT S) st0 s9 (v9 + 1) t) u.1.1 u.1.2) (tI (K 1)).toNat (s.1, s.2.2.2.2.2.1, s.2.2.2.2.2.2) hs.1 (fun u hu => ?_) (fun t u ht hu => ?_)
          · refine ⟨u.1.1, u.1.2, some (.int (zI ((csN s9 : Nat) : Int))), some (.int (zI ((s9 / 256 : Nat) : Int))), some (.int (zI ((s9 % 256 : Nat) : Int))), some (.int (zI ((tI (K 1)).toNat : Int))), u.2.1, u.2.2, hu, ?_⟩
            have hF1 := hF1 u.1.1 u.1.2
            show runP MP e 57 _ = runP MP e 57 _
            rw [q_57_113]; (try simp only [↓n_rd, ↓n_al, ↓n_cI, li_0, li_1, li_2, li_3, li_4, li_15, li_48, li_57, li_4096, zI_add, zI_sub, zI_mul, zI_neg, ↓Option.bind_some]); simp (disch := (first | assumption | exact tI_rg _ | omega | exact uR_at | exact row_ne hF (by decide) | exact row_ne (row_ne hF (by decide)) (by decide) | exact SnS_18 | exact SnS_30 | exact LdS_44 | exact LdS_46)) only [q_57_0, q_57_102, q_57_110, q_57_152, q_57_216, q_57_228, hF1, ↓n_rd, ↓n_al, ↓n_cI, li_0, li_1, li_2, li_3, li_4, li_15, li_48, li_57, li_4096, zI_add, zI_sub, zI_mul, zI_neg, ↓Option.bind_some, ↓g2_1, ↓g4_0, ↓g4_1, ↓g4_3, ↓g4_4, ↓al_202, ↓as_202, ↓al_203, ↓as_203, ↓al_204, ↓as_204, zIt2, uR_at, uR_ne, uR_uR, uC_uC, uC_at, ↓reduceIte, decide_eq_true_eq, leT, leF, ltT, ltF, eqT, eqF, ne_eq, not_true_eq_false, not_false_eq_true, Bool.false_eq_true, tI_zI]
          · obtain ⟨b1, b2, b3, b4⟩ := hbin t (by omega)
            have hF1 := hF1 u.1.1 u.1.2
            have hRu := hR2 u.1.1 u.1.2
            have hdi : (bin (wyK K) (sgA S zz) (sgT S) st0 s9 (v9 + 1) t).1 s9 = v9 := by rw [b2.2.1 s9 (by rw [hv9]; omega), hv9]
            have eud : tI (u.1.2 ((csN s9 : Nat) : Int)) = v9 := by rw [hu.1 s9 hsl, hdi, tI_zI (by omega)]
            have hcnt := b1.1
            have hcr := cntN_rg (fun s => decide ((bin (wyK K) (sgA S zz) (sgT S) st0 s9 (v9 + 1) t).1 s ≠ -1)) 2560
            have hwl := wayZ_lo hb2 ((s9 / 256 : Nat) : Int) (t : Int)
            have c26 : ∀ {kk : Int → HeapP → ResP} {kx : Nat → HeapP → ResP}, cT (callP MP e 26 [.ref a, .int (zI ((s9 / 256 : Nat) : Int)), .int (zI (t : Int))] (mk E (ccF F u.1.1 u.1.2) G)) kk kx = kk (wayZ K ((s9 / 256 : Nat) : Int) (t : Int)) (mk E (ccF F u.1.1 u.1.2) G) := fun {kk kx} => by
              rw [cc_26 hRu hI hP (by omega) (by omega) (by omega), if_pos (by omega)]
            have ebs : ∀ b : Bool, bok (wyK K) (sgA S zz) s9 t = b → bin (wyK K) (sgA S zz) (sgT S) st0 s9 (v9 + 1) (t + 1) = if b = true then bpush (bin (wyK K) (sgA S zz) (sgT S) st0 s9 (v9 + 1) t) (bto (wyK K) (sgT S) s9 t) (v9 + 1) else bin (wyK K) (sgA S zz) (sgT S) st0 s9 (v9 + 1) t := fun b hb => by
              rw [← hb]; rfl
            have hwy : wyK K (s9 / 256) t = wayZ K ((s9 / 256 : Nat) : Int) (t : Int) := rfl
            by_cases g1 : wayZ K ((s9 / 256 : Nat) : Int) (t : Int) = -1
            · have hbk : bok (wyK K) (sgA S zz) s9 t = false := by unfold bok; rw [hwy, decide_eq_false (fun q => q g1)]; rfl
              have en := ebs false hbk
              rw [if_neg Bool.false_ne_true] at en
              right
              refine ⟨(u.1, some (.int (zI (-1))), u.2.2), by rw [en]; exact hu, ?_⟩
              show runP MP e 57 _ = runP MP e 57 (113, [some (.ref 201), some (.ref a), some (.int (zI (p : Int))), some (.int (zI rd)), some (.int (zI ((2 ^ S.1 - 1 : Nat) : Int))), some (.int (zI ((bin (wyK K) (sgA S zz) (sgT S) st0 s9 (v9 + 1) (t + 1)).2.2 : Nat))), some (.int (zI (i : Int))), some (.int (zI ((csN s9 : Nat) : Int))), some (.int (zI ((s9 / 256 : Nat) : Int))), some (.int (zI ((s9 % 256 : Nat) : Int))), some (.int (zI ((t + 1 : Nat) : Int))), some (.int (zI (-1))), u.2.2], [], mk E (ccF F u.1.1 u.1.2) G)
              rw [en, nsucc t]
              rw [q_57_113]; (try simp only [↓n_rd, ↓n_al, ↓n_cI, li_0, li_1, li_2, li_3, li_4, li_15, li_48, li_57, li_4096, zI_add, zI_sub, zI_mul, zI_neg, ↓Option.bind_some]); simp (disch := (first | assumption | exact tI_rg _ | omega | exact uR_at | exact row_ne hF (by decide) | exact row_ne (row_ne hF (by decide)) (by decide) | exact SnS_18 | exact SnS_30 | exact LdS_44 | exact LdS_46)) only [q_57_0, q_57_102, q_57_110, q_57_152, q_57_216, q_57_228, hF1, ↓c26, g1, ↓n_rd, ↓n_al, ↓n_cI, li_0, li_1, li_2, li_3, li_4, li_15, li_48, li_57, li_4096, zI_add, zI_sub, zI_mul, zI_neg, ↓Option.bind_some, ↓g2_1, ↓g4_0, ↓g4_1, ↓g4_3, ↓g4_4, ↓al_202, ↓as_202, ↓al_203, ↓as_203, ↓al_204, ↓as_204, zIt2, uR_at, uR_ne, uR_uR, uC_uC, uC_at, ↓reduceIte, decide_eq_true_eq, leT, leF, ltT, ltF, eqT, eqF, ne_eq, not_true_eq_false, not_false_eq_true, Bool.false_eq_true, tI_zI]
            · generalize hw9 : wayZ K ((s9 / 256 : Nat) : Int) (t : Int) = w9 at *
              have hpr := sgP_rg S w9
              have htw := hbt w9
              have e202 : tI (ccF F u.1.1 u.1.2 202 w9) = ((sgT S w9 : Nat) : Int) := by rw [hC2 _ _ w9 (by omega) (by omega), tI_zI (by omega)]
              have e202b : tI (F 202 w9) = ((sgT S w9 : Nat) : Int) := by rw [← ccF_ne (F := F) (q := u.1.1) (r := u.1.2) (a := 202) (by decide) (by decide)]; exact e202
              have htz : sgT S w9 = 0 ↔ sgP S w9 = -1 := by
                unfold sgT
                by_cases y : sgP S w9 = -1
                · rw [if_pos y]; exact ⟨fun _ => y, fun _ => rfl⟩
                · rw [if_neg y]; exact ⟨fun z => absurd z (Nat.ne_of_gt (Nat.two_pow_pos _)), fun z => absurd z y⟩
              by_cases g2 : rd = 0 ∧ sgP S w9 = -1
              · have hbk : bok (wyK K) (sgA S zz) s9 t = false := by
                  unfold bok sgA; rw [hwy, decide_eq_false (show ¬ (zz = 0 ∨ sgP S w9 ≠ -1) by omega), Bool.and_false]
                have en := ebs false hbk
                rw [if_neg Bool.false_ne_true] at en
                right
                refine ⟨(u.1, some (.int (zI w9)), u.2.2), by rw [en]; exact hu, ?_⟩
                show runP MP e 57 _ = runP MP e 57 (113, [some (.ref 201), some (.ref a), some (.int (zI (p : Int))), some (.int (zI rd)), some (.int (zI ((2 ^ S.1 - 1 : Nat) : Int))), some (.int (zI ((bin (wyK K) (sgA S zz) (sgT S) st0 s9 (v9 + 1) (t + 1)).2.2 : Nat))), some (.int (zI (i : Int))), some (.int (zI ((csN s9 : Nat) : Int))), some (.int (zI ((s9 / 256 : Nat) : Int))), some (.int (zI ((s9 % 256 : Nat) : Int))), some (.int (zI ((t + 1 : Nat) : Int))), some (.int (zI w9)), u.2.2], [], mk E (ccF F u.1.1 u.1.2) G)
                rw [en, nsucc t]
                have g2a := g2.1
                have g2b := htz.mpr g2.2
                rw [g2b] at e202 e202b
                rw [q_57_113]; (try simp only [↓n_rd, ↓n_al, ↓n_cI, li_0, li_1, li_2, li_3, li_4, li_15, li_48, li_57, li_4096, zI_add, zI_sub, zI_mul, zI_neg, ↓Option.bind_some]); simp (disch := (first | assumption | exact tI_rg _ | omega | exact uR_at | exact row_ne hF (by decide) | exact row_ne (row_ne hF (by decide)) (by decide) | exact SnS_18 | exact SnS_30 | exact LdS_44 | exact LdS_46)) only [q_57_0, q_57_102, q_57_110, q_57_152, q_57_216, q_57_228, hF1, ↓c26, g2a, e202, e202b, ↓n_rd, ↓n_al, ↓n_cI, li_0, li_1, li_2, li_3, li_4, li_15, li_48, li_57, li_4096, zI_add, zI_sub, zI_mul, zI_neg, ↓Option.bind_some, ↓g2_1, ↓g4_0, ↓g4_1, ↓g4_3, ↓g4_4, ↓al_202, ↓as_202, ↓al_203, ↓as_203, ↓al_204, ↓as_204, zIt2, uR_at, uR_ne, uR_uR, uC_uC, uC_at, ↓reduceIte, decide_eq_true_eq, leT, leF, ltT, ltF, eqT, eqF, ne_eq, not_true_eq_false, not_false_eq_true, Bool.false_eq_true, tI_zI]
              · have hbk : bok (wyK K) (sgA S zz) s9 t = true := by
                  unfold bok sgA; rw [hwy, decide_eq_true (show zz = 0 ∨ sgP S w9 ≠ -1 by omega), decide_eq_true g1]; rfl
                have en := ebs true hbk
                rw [if_pos rfl] at en
                have hto : bto (wyK K) (sgT S) s9 t = 256 * t + (s9 % 256 ||| sgT S w9) := by unfold bto; rw [hwy]
                have htl := bto_lt (wy := wyK K) hbt hn (s := s9) ht
                have hxl : (s9 % 256 ||| sgT S w9) < 2 ^ 8 := Nat.or_lt_two_pow (Nat.mod_lt _ (by omega)) htw
                rw [hto] at htl en
                have hor := orZ (s9 % 256) (sgT S w9)
                generalize hx9 : (s9 % 256 ||| sgT S w9) = x9 at *
                have hx8 : x9 < 256 := hxl
                have hcs9 : csN (256 * t + x9) = x9 * 16 + t := by unfold csN; omega
                have hshl : o_ishl (zI (x9 : Int)) (zI 4) = zI ((x9 * 16 : Nat) : Int) := shlZ x9 4 (by omega)
                have hor2 : zI ((x9 * 16 : Nat) : Int) ||| zI (t : Int) = zI ((csN (256 * t + x9) : Nat) : Int) := by
                  rw [orZ, or16 (by omega), hcs9]
                have h152 : runP MP e 57 (113, [some (.ref 201), some (.ref a), some (.int (zI (p : Int))), some (.int (zI rd)), some (.int (zI ((2 ^ S.1 - 1 : Nat) : Int))), some (.int (zI ((bin (wyK K) (sgA S zz) (sgT S) st0 s9 (v9 + 1) t).2.2 : Nat))), some (.int (zI (i : Int))), some (.int (zI ((csN s9 : Nat) : Int))), some (.int (zI ((s9 / 256 : Nat) : Int))), some (.int (zI ((s9 % 256 : Nat) : Int))), some (.int (zI (t : Int))), u.2.1, u.2.2], [], mk E (ccF F u.1.1 u.1.2) G) = runP MP e 57 (152, [some (.ref 201), some (.ref a), some (.int (zI (p : Int))), some (.int (zI rd)), some (.int (zI ((2 ^ S.1 - 1 : Nat) : Int))), some (.int (zI ((bin (wyK K) (sgA S zz) (sgT S) st0 s9 (v9 + 1) t).2.2 : Nat))), some (.int (zI (i : Int))), some (.int (zI ((csN s9 : Nat) : Int))), some (.int (zI ((s9 / 256 : Nat) : Int))), some (.int (zI ((s9 % 256 : Nat) : Int))), some (.int (zI (t : Int))), some (.int (zI w9)), u.2.2], [], mk E (ccF F u.1.1 u.1.2) G) := by
                  rcases hrd with y | y
                  · have g3 : sgT S w9 ≠ 0 := fun z => g2 ⟨y, htz.mp z⟩
                    rw [q_57_113]; (try simp only [↓n_rd, ↓n_al, ↓n_cI, li_0, li_1, li_2, li_3, li_4, li_15, li_48, li_57, li_4096, zI_add, zI_sub, zI_mul, zI_neg, ↓Option.bind_some]); simp (disch := (first | assumption | exact tI_rg _ | omega | exact uR_at | exact row_ne hF (by decide) | exact row_ne (row_ne hF (by decide)) (by decide) | exact SnS_18 | exact SnS_30 | exact LdS_44 | exact LdS_46)) only [q_57_0, q_57_102, q_57_110, q_57_216, q_57_228, hF1, ↓c26, y, e202, e202b, ↓n_rd, ↓n_al, ↓n_cI, li_0, li_1, li_2, li_3, li_4, li_15, li_48, li_57, li_4096, zI_add, zI_sub, zI_mul, zI_neg, ↓Option.bind_some, ↓g2_1, ↓g4_0, ↓g4_1, ↓g4_3, ↓g4_4, ↓al_202, ↓as_202, ↓al_203, ↓as_203, ↓al_204, ↓as_204, zIt2, uR_at, uR_ne, uR_uR, uC_uC, uC_at, ↓reduceIte, decide_eq_true_eq, leT, leF, ltT, ltF, eqT, eqF, ne_eq, not_true_eq_false, not_false_eq_true, Bool.false_eq_true, tI_zI]
                  · rw [q_57_113]; (try simp only [↓n_rd, ↓n_al, ↓n_cI, li_0, li_1, li_2, li_3, li_4, li_15, li_48, li_57, li_4096, zI_add, zI_sub, zI_mul, zI_neg, ↓Option.bind_some]); simp (disch := (first | assumption | exact tI_rg _ | omega | exact uR_at | exact row_ne hF (by decide) | exact row_ne (row_ne hF (by decide)) (by decide) | exact SnS_18 | exact SnS_30 | exact LdS_44 | exact LdS_46)) only [q_57_0, q_57_102, q_57_110, q_57_216, q_57_228, hF1, ↓c26, y, ↓n_rd, ↓n_al, ↓n_cI, li_0, li_1, li_2, li_3, li_4, li_15, li_48, li_57, li_4096, zI_add, zI_sub, zI_mul, zI_neg, ↓Option.bind_some, ↓g2_1, ↓g4_0, ↓g4_1, ↓g4_3, ↓g4_4, ↓al_202, ↓as_202, ↓al_203, ↓as_203, ↓al_204, ↓as_204, zIt2, uR_at, uR_ne, uR_uR, uC_uC, uC_at, ↓reduceIte, decide_eq_true_eq, leT, leF, ltT, ltF, eqT, eqF, ne_eq, not_true_eq_false, not_false_eq_true, Bool.false_eq_true, tI_zI]
                have ers := hu.1 (256 * t + x9) htl
                have hdr : -1 ≤ (bin (wyK K) (sgA S zz) (sgT S) st0 s9 (v9 + 1) t).1 (256 * t + x9) ∧ (bin (wyK K) (sgA S zz) (sgT S) st0 s9 (v9 + 1) t).1 (256 * t + x9) ≤ 2561 := by
                  have h2 := bin_le (wy := wyK K) (al := sgA S zz) (bt := sgT S) (st := st0) (s := s9) (v := v9 + 1) (b := 2561) (by omega) (fun x => by have := hbli x; omega) t (256 * t + x9)
                  by_cases y : (bin (wyK K) (sgA S zz) (sgT S) st0 s9 (v9 + 1) t).1 (256 * t + x9) = -1
                  · omega
                  · have := (b1.2.2.1 _ y).1; omega
                have hcl : csN (256 * t + x9) < 4096 := by rw [hcs9]; omega
                right
                by_cases g4 : (bin (wyK K) (sgA S zz) (sgT S) st0 s9 (v9 + 1) t).1 (256 * t + x9) ≠ -1
                · have en2 : bin (wyK K) (sgA S zz) (sgT S) st0 s9 (v9 + 1) (t + 1) = bin (wyK K) (sgA S zz) (sgT S) st0 s9 (v9 + 1) t := by rw [en]; exact if_pos g4
                  refine ⟨(u.1, some (.int (zI w9)), some (.int (zI ((csN (256 * t + x9) : Nat) : Int)))), by rw [en2]; exact hu, ?_⟩
                  show runP MP e 57 _ = runP MP e 57 (113, [some (.ref 201), some (.ref a), some (.int (zI (p : Int))), some (.int (zI rd)), some (.int (zI ((2 ^ S.1 - 1 : Nat) : Int))), some (.int (zI ((bin (wyK K) (sgA S zz) (sgT S) st0 s9 (v9 + 1) (t + 1)).2.2 : Nat))), some (.int (zI (i : Int))), some (.int (zI ((csN s9 : Nat) : Int))), some (.int (zI ((s9 / 256 : Nat) : Int))), some (.int (zI ((s9 % 256 : Nat) : Int))), some (.int (zI ((t + 1 : Nat) : Int))), some (.int (zI w9)), some (.int (zI ((csN (256 * t + x9) : Nat) : Int)))], [], mk E (ccF F u.1.1 u.1.2) G)
                  rw [h152, en2, nsucc t]
                  rw [q_57_152]; (try simp only [↓n_rd, ↓n_al, ↓n_cI, li_0, li_1, li_2, li_3, li_4, li_15, li_48, li_57, li_4096, zI_add, zI_sub, zI_mul, zI_neg, ↓Option.bind_some]); simp (disch := (first | assumption | exact tI_rg _ | omega | exact uR_at | exact row_ne hF (by decide) | exact row_ne (row_ne hF (by decide)) (by decide) | exact SnS_18 | exact SnS_30 | exact LdS_44 | exact LdS_46)) only [q_57_0, q_57_102, q_57_110, q_57_216, q_57_228, e202, e202b, hor, hshl, hor2, ccF_203, ers, ↓n_rd, ↓n_al, ↓n_cI, li_0, li_1, li_2, li_3, li_4, li_15, li_48, li_57, li_4096, zI_add, zI_sub, zI_mul, zI_neg, ↓Option.bind_some, ↓g2_1, ↓g4_0, ↓g4_1, ↓g4_3, ↓g4_4, ↓al_202, ↓as_202, ↓al_203, ↓as_203, ↓al_204, ↓as_204, zIt2, uR_at, uR_ne, uR_uR, uC_uC, uC_at, ↓reduceIte, decide_eq_true_eq, leT, leF, ltT, ltF, eqT, eqF, ne_eq, not_true_eq_false, not_false_eq_true, Bool.false_eq_true, tI_zI]
                · have g5 := Decidable.not_not.mp g4
                  have hpush := BfC_push (v := v9 + 1) hu htl g4
                  have hm2 : (bpush (bin (wyK K) (sgA S zz) (sgT S) st0 s9 (v9 + 1) t) (256 * t + x9) (v9 + 1)).2.2 = (bin (wyK K) (sgA S zz) (sgT S) st0 s9 (v9 + 1) t).2.2 + 1 := by unfold bpush; rw [if_neg g4]
                  refine ⟨((uC u.1.1 ((bin (wyK K) (sgA S zz) (sgT S) st0 s9 (v9 + 1) t).2.2 : Int) (zI ((csN (256 * t + x9) : Nat) : Int)), uC u.1.2 ((csN (256 * t + x9) : Nat) : Int) (zI (v9 + 1))), some (.int (zI w9)), some (.int (zI ((csN (256 * t + x9) : Nat) : Int)))), by rw [en]; exact hpush, ?_⟩
                  show runP MP e 57 _ = runP MP e 57 (113, [some (.ref 201), some (.ref a), some (.int (zI (p : Int))), some (.int (zI rd)), some (.int (zI ((2 ^ S.1 - 1 : Nat) : Int))), some (.int (zI ((bin (wyK K) (sgA S zz) (sgT S) st0 s9 (v9 + 1) (t + 1)).2.2 : Nat))), some (.int (zI (i : Int))), some (.int (zI ((csN s9 : Nat) : Int))), some (.int (zI ((s9 / 256 : Nat) : Int))), some (.int (zI ((s9 % 256 : Nat) : Int))), some (.int (zI ((t + 1 : Nat) : Int))), some (.int (zI w9)), some (.int (zI ((csN (256 * t + x9) : Nat) : Int)))], [], mk E (ccF F (uC u.1.1 ((bin (wyK K) (sgA S zz) (sgT S) st0 s9 (v9 + 1) t).2.2 : Int) (zI ((csN (256 * t + x9) : Nat) : Int))) (uC u.1.2 ((csN (256 * t + x9) : Nat) : Int) (zI (v9 + 1)))) G)
                  rw [h152, en, hm2, nsucc t, nsucc]
                  rw [g5] at ers
                  have erst : tI (u.1.2 ((csN (256 * t + x9) : Nat) : Int)) = -1 := by rw [ers, tI_zI (by omega)]
                  rw [q_57_152]; (try simp only [↓n_rd, ↓n_al, ↓n_cI, li_0, li_1, li_2, li_3, li_4, li_15, li_48, li_57, li_4096, zI_add, zI_sub, zI_mul, zI_neg, ↓Option.bind_some]); simp (disch := (first | assumption | exact tI_rg _ | omega | exact uR_at | exact row_ne hF (by decide) | exact row_ne (row_ne hF (by decide)) (by decide) | exact SnS_18 | exact SnS_30 | exact LdS_44 | exact LdS_46)) only [q_57_0, q_57_102, q_57_110, q_57_216, q_57_228, e202, e202b, hor, hshl, hor2, ccF_203, ccF_204, erst, eud, ccF_w0, ccF_w1, ↓n_rd, ↓n_al, ↓n_cI, li_0, li_1, li_2, li_3, li_4, li_15, li_48, li_57, li_4096, zI_add, zI_sub, zI_mul, zI_neg, ↓Option.bind_some, ↓g2_1, ↓g4_0, ↓g4_1, ↓g4_3, ↓g4_4, ↓al_202, ↓as_202, ↓al_203, ↓as_203, ↓al_204, ↓as_204, zIt2, uR_at, uR_ne, uR_uR, uC_uC, uC_at, ↓reduceIte, decide_eq_true_eq, leT, leF, ltT, ltF, eqT, eqF, ne_eq, not_true_eq_false, not_false_eq_true, Bool.false_eq_true, tI_zI]
        obtain ⟨q, r, z7, z8, z9, z10, z11, z12, l1, l2⟩ := hloop
        refine ⟨((q, r), z7, z8, z9, z10, z11, z12), ⟨l1, hnext⟩, ?_⟩
        show runP MP e 57 _ = runP MP e 57 _
        rw [nsucc, ← l2, h113]
    · left
      have ec : cres (wyK K) (sgA S zz) (sgT S) (tI (K 1)).toNat (256 * p) (goN S.1 p rd) = -1 := by
        have hst := bfs_stop g bEnd (by omega)
        unfold cres
        rw [hst]
        exact if_pos (fndN_none (fun j _ hj => hs.2 j (by omega) (by omega)))
      refine ⟨s.1.1, s.1.2, ?_⟩
      rw [ec]
      show runP MP e 57 _ = _
      rw [q_57_48]; (try simp only [↓n_rd, ↓n_al, ↓n_cI, li_0, li_1, li_2, li_3, li_4, li_15, li_48, li_57, li_4096, zI_add, zI_sub, zI_mul, zI_neg, ↓Option.bind_some]); simp (disch := (first | assumption | exact tI_rg _ | omega | exact uR_at | exact row_ne hF (by decide) | exact row_ne (row_ne hF (by decide)) (by decide) | exact SnS_18 | exact SnS_30 | exact LdS_44 | exact LdS_46)) only [q_57_0, q_57_102, q_57_110, q_57_152, q_57_216, q_57_228, ↓n_rd, ↓n_al, ↓n_cI, li_0, li_1, li_2, li_3, li_4, li_15, li_48, li_57, li_4096, zI_add, zI_sub, zI_mul, zI_neg, ↓Option.bind_some, ↓g2_1, ↓g4_0, ↓g4_1, ↓g4_3, ↓g4_4, ↓al_202, ↓as_202, ↓al_203, ↓as_203, ↓al_204, ↓as_204, zIt2, uR_at, uR_ne, uR_uR, uC_uC, uC_at, ↓reduceIte, decide_eq_true_eq, leT, leF, ltT, ltF, eqT, eqF, ne_eq, not_true_eq_false, not_false_eq_true, Bool.false_eq_true, tI_zI]
end S94zw
