/-! MODEL: written, patrolled -/
section S94zx
set_option linter.unusedVariables false
set_option linter.unusedSimpArgs false
theorem cres_rg {wy : Nat → Nat → Int} {al : Int → Bool} {bt : Int → Nat} (hb : ∀ w, bt w < 256) {n s0 : Nat} (hn : n ≤ 10) (h0 : s0 < 2560) (g : Nat → Bool) : -1 ≤ cres wy al bt n s0 g ∧ cres wy al bt n s0 g ≤ 2560 := by
  rcases cres_mn (wy := wy) (al := al) hb hn h0 g with ⟨h, -⟩ | ⟨⟨s, s1, s2, s3⟩, -⟩
  · omega
  · have h1 := bD_is (wy := wy) (al := al) hb hn h0 (s := s) (by omega)
    have h2 := bfs_le (wy := wy) (al := al) (bt := bt) (n := n) (s0 := s0) bEnd s
    unfold bD at s2 h1
    rw [bEnd_eq] at h2
    rw [← s2]
    rw [bEnd_eq] at h1 ⊢
    omega
theorem bD_rg {wy : Nat → Nat → Int} {al : Int → Bool} {bt : Int → Nat} (hb : ∀ w, bt w < 256) {n s0 : Nat} (hn : n ≤ 10) (h0 : s0 < 2560) (s : Nat) : -1 ≤ bD wy al bt n s0 s ∧ bD wy al bt n s0 s ≤ 2560 := by
  have h2 := bfs_le (wy := wy) (al := al) (bt := bt) (n := n) (s0 := s0) bEnd s
  have h3 : ((bEnd : Nat) : Int) = 2560 := by rw [bEnd_eq]; rfl
  rw [h3] at h2
  by_cases e : bD wy al bt n s0 s = -1
  · omega
  · have h1 := (bD_is (wy := wy) (al := al) hb hn h0 (s := s) e).1
    exact ⟨by omega, h2⟩
noncomputable def wtZ (K : Int → Int32) (S : SgS) (p : Nat) : Int := if cres (wyK K) (sgA S 1) (sgT S) (tI (K 1)).toNat (256 * p) (goN S.1 p 0) ≤ tI (K 4) then cres (wyK K) (sgA S 1) (sgT S) (tI (K 1)).toNat (256 * p) (goN S.1 p 0) else -1
def fpN (K : Int → Int32) (S : SgS) : Nat := (fromZ K (S.2 0)).toNat
noncomputable def paZ (K : Int → Int32) (S : SgS) : Int := if S.1 = 0 then 0 else cres (wyK K) (sgA S 0) (sgT S) (tI (K 1)).toNat (256 * fpN K S) (goN S.1 (fpN K S) 1)
noncomputable def wqZ (K : Int → Int32) (S : SgS) (p q : Nat) : Int := if bD (wyK K) (sgA S 1) (sgT S) (tI (K 1)).toNat (256 * p) (256 * q + (2 ^ S.1 - 1)) = -1 ∨ tI (K 4) < bD (wyK K) (sgA S 1) (sgT S) (tI (K 1)).toNat (256 * p) (256 * q + (2 ^ S.1 - 1)) then -1 else bD (wyK K) (sgA S 1) (sgT S) (tI (K 1)).toNat (256 * p) (256 * q + (2 ^ S.1 - 1))
noncomputable def pqZ (K : Int → Int32) (S : SgS) (q : Nat) : Int := bD (wyK K) (sgA S 0) (sgT S) (tI (K 1)).toNat (256 * q) (256 * q + (2 ^ S.1 - 1))
theorem all_lt {z : Nat} (h : z ≤ 8) : 2 ^ z - 1 < 256 ∧ 0 < 2 ^ z := by
  have := Nat.pow_le_pow_right (n := 2) (by omega) h
  have := Nat.two_pow_pos z
  omega
theorem wr_eq {K : Int → Int32} (hI : InvK K) {S : SgS} (hS : SgI (2 * tI (K 2)) S) {p : Nat} (hp : (p : Int) < tI (K 1)) : mnZ (wqZ K S p) (tI (K 1)).toNat = wtZ K S p := by
  have hb1 := hI.1.2.1
  have hbt : ∀ w, sgT S w < 256 := sgT_lt hS.1
  have hn : (tI (K 1)).toNat ≤ 10 := by omega
  have hs0 : 256 * p < 2560 := by omega
  obtain ⟨a1, a2⟩ := all_lt hS.1
  have hc := cres_mn (wy := wyK K) (al := sgA S 1) (bt := sgT S) hbt hn hs0 (goN S.1 p 0)
  have hg : ∀ q, goN S.1 p 0 (256 * q + (2 ^ S.1 - 1)) = true := fun q => by
    unfold goN
    rw [(st_dm (q := q) a1).2, decide_eq_true rfl, decide_eq_true (Or.inl rfl)]; rfl
  refine IsMn_eq (mnZ_mn _ _) ?_
  unfold wtZ
  rcases hc with ⟨c1, c2⟩ | ⟨⟨s, s1, s2, s3⟩, c2⟩
  · left
    refine ⟨by rw [c1]; split <;> rfl, fun x hx => ?_⟩
    obtain ⟨q, q1, q2, q3⟩ := hx
    unfold wqZ at q2
    by_cases e : bD (wyK K) (sgA S 1) (sgT S) (tI (K 1)).toNat (256 * p) (256 * q + (2 ^ S.1 - 1)) = -1 ∨ tI (K 4) < bD (wyK K) (sgA S 1) (sgT S) (tI (K 1)).toNat (256 * p) (256 * q + (2 ^ S.1 - 1))
    · rw [if_pos e] at q2; omega
    · rw [if_neg e] at q2
      exact c2 x ⟨_, hg q, q2, q3⟩
  · by_cases k : cres (wyK K) (sgA S 1) (sgT S) (tI (K 1)).toNat (256 * p) (goN S.1 p 0) ≤ tI (K 4)
    · rw [if_pos k]
      right
      have hm : s % 256 = 2 ^ S.1 - 1 := by
        unfold goN at s1
        rw [Bool.and_eq_true, decide_eq_true_eq] at s1; exact s1.1
      have hw := bD_is (wy := wyK K) (al := sgA S 1) hbt hn hs0 (s := s) (by omega)
      have hpl := bwk_place hbt (show p < (tI (K 1)).toNat by omega) _ _ hw.2
      have hs : 256 * (s / 256) + (2 ^ S.1 - 1) = s := by omega
      refine ⟨⟨s / 256, hpl, ?_, s3⟩, fun x hx => ?_⟩
      · unfold wqZ
        rw [hs, s2, if_neg (by omega)]
      · obtain ⟨q, q1, q2, q3⟩ := hx
        unfold wqZ at q2
        by_cases e : bD (wyK K) (sgA S 1) (sgT S) (tI (K 1)).toNat (256 * p) (256 * q + (2 ^ S.1 - 1)) = -1 ∨ tI (K 4) < bD (wyK K) (sgA S 1) (sgT S) (tI (K 1)).toNat (256 * p) (256 * q + (2 ^ S.1 - 1))
        · rw [if_pos e] at q2; omega
        · rw [if_neg e] at q2
          exact c2 x ⟨_, hg q, q2, q3⟩
    · rw [if_neg k]
      left
      refine ⟨rfl, fun x hx => ?_⟩
      obtain ⟨q, q1, q2, q3⟩ := hx
      unfold wqZ at q2
      by_cases e : bD (wyK K) (sgA S 1) (sgT S) (tI (K 1)).toNat (256 * p) (256 * q + (2 ^ S.1 - 1)) = -1 ∨ tI (K 4) < bD (wyK K) (sgA S 1) (sgT S) (tI (K 1)).toNat (256 * p) (256 * q + (2 ^ S.1 - 1))
      · rw [if_pos e] at q2; omega
      · rw [if_neg e] at q2
        have := c2 x ⟨_, hg q, q2, q3⟩
        omega
theorem wyK_from {K : Int → Int32} {q t : Nat} {w : Int} (h : wyK K q t = w) (hw : w ≠ -1) : fromZ K w = (q : Int) := by
  unfold wyK wayZ at h
  by_cases e : pathZ K (q : Int) (t : Int) = -1
  · rw [if_pos e] at h; exact absurd h.symm hw
  · rw [if_neg e] at h
    have hp := pathZ_rg K (q : Int) (t : Int)
    unfold pathZ at e hp h
    rcases fndN_is (isP K (q : Int) (t : Int)) (tI (K 2)).toNat 0 with ⟨h1, -⟩ | ⟨k, -, h2, h3, h4, -⟩
    · exact absurd h1 e
    · rw [h3] at h
      have hi := isP_iff.mp h4
      unfold fromZ
      by_cases g : tI (K (6 + 2 * (k : Int))) = (q : Int)
      · rw [if_pos g] at h
        rw [← h, show 6 + (2 * (k : Int) + 0) = 6 + 2 * (k : Int) by omega]; exact g
      · rw [if_neg g] at h
        rw [← h, show 6 + (2 * (k : Int) + 1) = 7 + 2 * (k : Int) by omega]
        rcases hi with z | z
        · exact absurd z.1 g
        · exact z.2
theorem pa_eq {K : Int → Int32} (hI : InvK K) {S : SgS} (hS : SgI (2 * tI (K 2)) S) (h1 : S.1 ≠ 0) : mnZ (pqZ K S) (tI (K 1)).toNat = paZ K S := by
  have hb1 := hI.1.2.1
  have hbt : ∀ w, sgT S w < 256 := sgT_lt hS.1
  have hn : (tI (K 1)).toNat ≤ 10 := by omega
  obtain ⟨a1, a2⟩ := all_lt hS.1
  have h20 := hS.2.1 0 (by omega)
  have hfr := from_in hI h20
  have hfp : fpN K S < (tI (K 1)).toNat := by unfold fpN; omega
  have hs0 : 256 * fpN K S < 2560 := by omega
  have hc := cres_mn (wy := wyK K) (al := sgA S 0) (bt := sgT S) hbt hn hs0 (goN S.1 (fpN K S) 1)
  refine IsMn_eq (mnZ_mn _ _) ?_
  unfold paZ
  rw [if_neg h1]
  -- a goal is the one state
  have hgo : ∀ s, goN S.1 (fpN K S) 1 s = true ↔ s = 256 * fpN K S + (2 ^ S.1 - 1) := fun s => by
    unfold goN
    rw [Bool.and_eq_true, decide_eq_true_eq, decide_eq_true_eq]
    constructor
    · rintro ⟨x1, x2⟩
      have : s / 256 = fpN K S := by omega
      omega
    · intro h
      obtain ⟨y1, y2⟩ := st_dm (q := fpN K S) a1
      rw [h]; exact ⟨y2, Or.inr y1⟩
  have hbits : ∀ i, (2 ^ S.1 - 1).testBit i = decide (i < S.1) := fun i => Nat.testBit_two_pow_sub_one _ _
  have hrot : ∀ q, q < (tI (K 1)).toNat → bD (wyK K) (sgA S 0) (sgT S) (tI (K 1)).toNat (256 * q) (256 * q + (2 ^ S.1 - 1)) ≠ -1 → bD (wyK K) (sgA S 0) (sgT S) (tI (K 1)).toNat (256 * fpN K S) (256 * fpN K S + (2 ^ S.1 - 1)) ≠ -1 ∧ bD (wyK K) (sgA S 0) (sgT S) (tI (K 1)).toNat (256 * fpN K S) (256 * fpN K S + (2 ^ S.1 - 1)) ≤ bD (wyK K) (sgA S 0) (sgT S) (tI (K 1)).toNat (256 * q) (256 * q + (2 ^ S.1 - 1)) := fun q hq hne => by
    obtain ⟨d0, dw⟩ := bD_is (wy := wyK K) (al := sgA S 0) hbt hn (show 256 * q < 2560 by omega) hne
    generalize hL : (bD (wyK K) (sgA S 0) (sgT S) (tI (K 1)).toNat (256 * q) (256 * q + (2 ^ S.1 - 1))).toNat = L at dw
    obtain ⟨f, f0, f1, f2⟩ := (wk_pw hbt L _).mp dw
    have hcl := cvN_lt (wy := wyK K) (f := f) hbt L
    have hfL : f L = q := by omega
    have hcv : cvN (wyK K) (sgT S) f L = 2 ^ S.1 - 1 := by omega
    obtain ⟨g, g0, gL, g1, g2⟩ := round (wy := wyK K) (al := sgA S 0) (bt := sgT S) (n := (tI (K 1)).toNat) (b := fpN K S) (z := S.1) (p := q) (w0 := S.2 0)
      (fun w i hi => by have := sgT_bit.mp hi; have := sgP_rg S w; omega)
      (fun w hi => by
        have h := sgT_bit.mp hi
        have := sgP_at (S := S) (w := w) (by omega)
        rw [h] at this; exact this.symm)
      (fun q' t hw h0 => by
        have := wyK_from hw h0
        unfold fpN; rw [this]; omega)
      (by omega) f0 hfL f1 (fun i => by rw [hcv]; exact hbits i) (by omega)
    have hcg : cvN (wyK K) (sgT S) g L = 2 ^ S.1 - 1 := Nat.eq_of_testBit_eq (fun i => by rw [g2 i, hbits i])
    have hwk := (wk_pw hbt L (256 * fpN K S + (2 ^ S.1 - 1))).mpr ⟨g, g0, g1, by rw [gL, hcg]⟩
    have := bD_walk (wy := wyK K) (al := sgA S 0) hbt hn hs0 L _ hwk
    exact ⟨this.1, by omega⟩
  rcases hc with ⟨c1, c2⟩ | ⟨⟨s, s1, s2, s3⟩, c2⟩
  · left
    refine ⟨c1, fun x hx => ?_⟩
    obtain ⟨q, q1, q2, q3⟩ := hx
    unfold pqZ at q2
    have := hrot q q1 (by omega)
    exact c2 _ ⟨_, (hgo _).mpr rfl, rfl, this.1⟩
  · right
    have hs := (hgo s).mp s1
    refine ⟨⟨fpN K S, hfp, by unfold pqZ; rw [← hs]; exact s2, s3⟩, fun x hx => ?_⟩
    obtain ⟨q, q1, q2, q3⟩ := hx
    unfold pqZ at q2
    have := hrot q q1 (by omega)
    have h3 := c2 _ ⟨_, (hgo _).mpr rfl, rfl, this.1⟩
    omega
theorem mn_rg {f : Nat → Int} {b : Int} (hf : ∀ q, -1 ≤ f q ∧ f q ≤ b) (hb : -1 ≤ b) : ∀ n, -1 ≤ mnZ f n ∧ mnZ f n ≤ b := by
  intro n
  induction n with
  | zero => exact ⟨Int.le_refl _, hb⟩
  | succ n ih =>
    have := hf n
    unfold mnZ
    split
    · exact ih
    · split
      · exact this
      · exact ih
theorem ct_301 {d : Nat} {E : EnQ} {F : Nat → Int → Int32} {G : Nat → Int → Int64} {K : Int → Int32} {S : SgS} (hI : InvK K) (hF : F 218 = K) (hM : SgM F S) (hS : SgI (2 * tI (K 2)) S) {p : Nat} (hp : (p : Int) < tI (K 1)) (hd : 4 ≤ d) : ∃ q r, callP MP d 301 [.ref 217, .int (zI (p : Int))] (mk E F G) = some (Sum.inl (some (.int (zI (wtZ K S p)))), mk E (bmF F q r) G) := by
  have hb1 := hI.1.2.1
  have hb4 := hI.1.2.2.2.2.1
  obtain ⟨a1, a2⟩ := all_lt hS.1
  have hbt : ∀ w, sgT S w < 256 := sgT_lt hS.1
  have hn : (tI (K 1)).toNat ≤ 10 := by omega
  have h8 := hS.1
  obtain ⟨e, rfl⟩ : ∃ e, d = e + 1 := ⟨d - 1, by omega⟩
  have hin : callP MP (e + 1) 301 [.ref 217, .int (zI (p : Int))] (mk E F G) = runP MP e 301 (0, [some (.ref 217), some (.int (zI (p : Int))), none, none, none], [], mk E F G) := into_eq (by omega) hM_301 (rcv_mk rfl (by decide)) rfl
  obtain ⟨q, r, r1, r2⟩ := ct_302 (d := e) (E := E) (G := G) hI hF hM hS hp (Or.inr rfl) (by omega)
  have c302 : ∀ {kk : HeapP → ResP} {kx : Nat → HeapP → ResP}, cV (callP MP e 302 [.ref 217, .int (zI (p : Int)), .int (zI 1)] (mk E F G)) kk kx = kk (mk E (bmF F q r) G) := fun {kk kx} => cV_ret r1
  have hK : bmF F q r 218 = K := (bmF_ne (by decide) (by decide)).trans hF
  have e49 : tI (bmF F q r 217 49) = (S.1 : Int) := by rw [bmF_ne (by decide) (by decide), hM.1, tI_zI (by omega)]
  have e49b : tI (F 217 49) = (S.1 : Int) := by rw [hM.1, tI_zI (by omega)]
  have hsh : o_ishl (zI 1) (zI (S.1 : Int)) = zI ((2 ^ S.1 : Nat) : Int) := by
    have := shl1 (p := (S.1 : Int)) (by omega)
    rw [show ((S.1 : Int)).toNat = S.1 by omega] at this
    exact this
  refine ⟨q, r, ?_⟩
  have h10 : runP MP e 301 (0, [some (.ref 217), some (.int (zI (p : Int))), none, none, none], [], mk E F G) = runP MP e 301 (10, [some (.ref 217), some (.int (zI (p : Int))), some (.int (zI (-1))), some (.int (zI 0)), none], [], mk E (bmF F q r) G) := by
    rw [q_301_0]; (try simp only [↓n_rd, ↓n_al, ↓n_cI, li_0, li_1, li_4, li_10, li_12, li_48, li_70, li_256, zI_add, zI_sub, zI_mul, zI_neg, ↓Option.bind_some]); simp (disch := (first | assumption | exact tI_rg _ | omega | exact uR_at | exact row_ne hF (by decide) | exact row_ne (row_ne hF (by decide)) (by decide) | exact SnS_18 | exact SnS_30 | exact LdS_44 | exact LdS_46)) only [q_301_67, q_301_70, ↓c302, ↓n_rd, ↓n_al, ↓n_cI, li_0, li_1, li_4, li_10, li_12, li_48, li_70, li_256, zI_add, zI_sub, zI_mul, zI_neg, ↓Option.bind_some, ↓g12_0, ↓g12_48, ↓g12_49, ↓al_218, ↓as_218, ↓al_241, ↓as_241, zIt2, uR_at, uR_ne, uR_uR, uC_uC, uC_at, ↓reduceIte, decide_eq_true_eq, leT, leF, ltT, ltF, eqT, eqF, ne_eq, not_true_eq_false, not_false_eq_true, Bool.false_eq_true, tI_zI]
  rw [hin, h10, ← wr_eq hI hS hp]
  have hwr : ∀ i, -1 ≤ wqZ K S p i ∧ wqZ K S p i ≤ 60 := fun i => by
    have hdr := bD_rg (wy := wyK K) (al := sgA S 1) hbt hn (show 256 * p < 2560 by omega) (256 * i + (2 ^ S.1 - 1))
    unfold wqZ; split <;> omega
  refine loopS (σ := Option Value) (Post := fun z => z = some (Sum.inl (some (.int (zI (mnZ (wqZ K S p) (tI (K 1)).toNat)))), mk E (bmF F q r) G))
    (fun j s => runP MP e 301 (10, [some (.ref 217), some (.int (zI (p : Int))), some (.int (zI (mnZ (wqZ K S p) j))), some (.int (zI (j : Nat))), s], [], mk E (bmF F q r) G)) (fun _ _ => True) (tI (K 1)).toNat none trivial (fun s _ => ?_) (fun j s hj _ => ?_)
  · show runP MP e 301 _ = _
    rw [q_301_10]; (try simp only [↓n_rd, ↓n_al, ↓n_cI, li_0, li_1, li_4, li_10, li_12, li_48, li_70, li_256, zI_add, zI_sub, zI_mul, zI_neg, ↓Option.bind_some]); simp (disch := (first | assumption | exact tI_rg _ | omega | exact uR_at | exact row_ne hF (by decide) | exact row_ne (row_ne hF (by decide)) (by decide) | exact SnS_18 | exact SnS_30 | exact LdS_44 | exact LdS_46)) only [q_301_0, q_301_67, q_301_70, ↓cc_214 hI, ↓n_rd, ↓n_al, ↓n_cI, li_0, li_1, li_4, li_10, li_12, li_48, li_70, li_256, zI_add, zI_sub, zI_mul, zI_neg, ↓Option.bind_some, ↓g12_0, ↓g12_48, ↓g12_49, ↓al_218, ↓as_218, ↓al_241, ↓as_241, zIt2, uR_at, uR_ne, uR_uR, uC_uC, uC_at, ↓reduceIte, decide_eq_true_eq, leT, leF, ltT, ltF, eqT, eqF, ne_eq, not_true_eq_false, not_false_eq_true, Bool.false_eq_true, tI_zI]
  · right
    have hdr := bD_rg (wy := wyK K) (al := sgA S 1) hbt hn (show 256 * p < 2560 by omega) (256 * j + (2 ^ S.1 - 1))
    have erd : r (256 * (j : Int) + ((2 ^ S.1 : Nat) : Int) - 1) = zI (bD (wyK K) (sgA S 1) (sgT S) (tI (K 1)).toNat (256 * p) (256 * j + (2 ^ S.1 - 1))) := by
      rw [← r2 (256 * j + (2 ^ S.1 - 1)) (by omega)]; exact congrArg r (by omega)
    have hmr := mn_rg hwr (by omega) j
    have e2 : mnZ (wqZ K S p) (j + 1) = if wqZ K S p j = -1 then mnZ (wqZ K S p) j else if mnZ (wqZ K S p) j = -1 ∨ wqZ K S p j < mnZ (wqZ K S p) j then wqZ K S p j else mnZ (wqZ K S p) j := rfl
    have e3 : wqZ K S p j = if bD (wyK K) (sgA S 1) (sgT S) (tI (K 1)).toNat (256 * p) (256 * j + (2 ^ S.1 - 1)) = -1 ∨ tI (K 4) < bD (wyK K) (sgA S 1) (sgT S) (tI (K 1)).toNat (256 * p) (256 * j + (2 ^ S.1 - 1)) then -1 else bD (wyK K) (sgA S 1) (sgT S) (tI (K 1)).toNat (256 * p) (256 * j + (2 ^ S.1 - 1)) := rfl
    generalize bD (wyK K) (sgA S 1) (sgT S) (tI (K 1)).toNat (256 * p) (256 * j + (2 ^ S.1 - 1)) = b9 at *
    refine ⟨some (.int (zI b9)), trivial, ?_⟩
    have erb : tI (r (256 * (j : Int) + ((2 ^ S.1 : Nat) : Int) - 1)) = b9 := by rw [erd, tI_zI (by omega)]
    show runP MP e 301 _ = runP MP e 301 _
    rw [nsucc, e2, e3]
    generalize mnZ (wqZ K S p) j = m9 at *
    by_cases g1 : b9 = -1
    · rw [if_pos (Or.inl g1), if_pos rfl]
      rw [q_301_10]; (try simp only [↓n_rd, ↓n_al, ↓n_cI, li_0, li_1, li_4, li_10, li_12, li_48, li_70, li_256, zI_add, zI_sub, zI_mul, zI_neg, ↓Option.bind_some]); simp (disch := (first | assumption | exact tI_rg _ | omega | exact uR_at | exact row_ne hF (by decide) | exact row_ne (row_ne hF (by decide)) (by decide) | exact SnS_18 | exact SnS_30 | exact LdS_44 | exact LdS_46)) only [q_301_0, q_301_67, q_301_70, ↓cc_214 hI, e49, e49b, hsh, bmF_241, erb, g1, ↓n_rd, ↓n_al, ↓n_cI, li_0, li_1, li_4, li_10, li_12, li_48, li_70, li_256, zI_add, zI_sub, zI_mul, zI_neg, ↓Option.bind_some, ↓g12_0, ↓g12_48, ↓g12_49, ↓al_218, ↓as_218, ↓al_241, ↓as_241, zIt2, uR_at, uR_ne, uR_uR, uC_uC, uC_at, ↓reduceIte, decide_eq_true_eq, leT, leF, ltT, ltF, eqT, eqF, ne_eq, not_true_eq_false, not_false_eq_true, Bool.false_eq_true, tI_zI]
    · by_cases g2 : tI (K 4) < b9
      · rw [if_pos (Or.inr g2), if_pos rfl]
        rw [q_301_10]; (try simp only [↓n_rd, ↓n_al, ↓n_cI, li_0, li_1, li_4, li_10, li_12, li_48, li_70, li_256, zI_add, zI_sub, zI_mul, zI_neg, ↓Option.bind_some]); simp (disch := (first | assumption | exact tI_rg _ | omega | exact uR_at | exact row_ne hF (by decide) | exact row_ne (row_ne hF (by decide)) (by decide) | exact SnS_18 | exact SnS_30 | exact LdS_44 | exact LdS_46)) only [q_301_0, q_301_67, q_301_70, ↓cc_214 hI, e49, e49b, hsh, bmF_241, erb, hK, ↓n_rd, ↓n_al, ↓n_cI, li_0, li_1, li_4, li_10, li_12, li_48, li_70, li_256, zI_add, zI_sub, zI_mul, zI_neg, ↓Option.bind_some, ↓g12_0, ↓g12_48, ↓g12_49, ↓al_218, ↓as_218, ↓al_241, ↓as_241, zIt2, uR_at, uR_ne, uR_uR, uC_uC, uC_at, ↓reduceIte, decide_eq_true_eq, leT, leF, ltT, ltF, eqT, eqF, ne_eq, not_true_eq_false, not_false_eq_true, Bool.false_eq_true, tI_zI]
      · rw [if_neg (show ¬ (b9 = -1 ∨ tI (K 4) < b9) by omega), if_neg g1]
        by_cases g3 : m9 = -1
        · rw [if_pos (Or.inl g3)]
          rw [q_301_10]; (try simp only [↓n_rd, ↓n_al, ↓n_cI, li_0, li_1, li_4, li_10, li_12, li_48, li_70, li_256, zI_add, zI_sub, zI_mul, zI_neg, ↓Option.bind_some]); simp (disch := (first | assumption | exact tI_rg _ | omega | exact uR_at | exact row_ne hF (by decide) | exact row_ne (row_ne hF (by decide)) (by decide) | exact SnS_18 | exact SnS_30 | exact LdS_44 | exact LdS_46)) only [q_301_0, q_301_67, q_301_70, ↓cc_214 hI, e49, e49b, hsh, bmF_241, erb, hK, g3, ↓n_rd, ↓n_al, ↓n_cI, li_0, li_1, li_4, li_10, li_12, li_48, li_70, li_256, zI_add, zI_sub, zI_mul, zI_neg, ↓Option.bind_some, ↓g12_0, ↓g12_48, ↓g12_49, ↓al_218, ↓as_218, ↓al_241, ↓as_241, zIt2, uR_at, uR_ne, uR_uR, uC_uC, uC_at, ↓reduceIte, decide_eq_true_eq, leT, leF, ltT, ltF, eqT, eqF, ne_eq, not_true_eq_false, not_false_eq_true, Bool.false_eq_true, tI_zI]
        · by_cases g4 : b9 < m9
          · rw [if_pos (Or.inr g4)]
            rw [q_301_10]; (try simp only [↓n_rd, ↓n_al, ↓n_cI, li_0, li_1, li_4, li_10, li_12, li_48, li_70, li_256, zI_add, zI_sub, zI_mul, zI_neg, ↓Option.bind_some]); simp (disch := (first | assumption | exact tI_rg _ | omega | exact uR_at | exact row_ne hF (by decide) | exact row_ne (row_ne hF (by decide)) (by decide) | exact SnS_18 | exact SnS_30 | exact LdS_44 | exact LdS_46)) only [q_301_0, q_301_67, q_301_70, ↓cc_214 hI, e49, e49b, hsh, bmF_241, erb, hK, ↓n_rd, ↓n_al, ↓n_cI, li_0, li_1, li_4, li_10, li_12, li_48, li_70, li_256, zI_add, zI_sub, zI_mul, zI_neg, ↓Option.bind_some, ↓g12_0, ↓g12_48, ↓g12_49, ↓al_218, ↓as_218, ↓al_241, ↓as_241, zIt2, uR_at, uR_ne, uR_uR, uC_uC, uC_at, ↓reduceIte, decide_eq_true_eq, leT, leF, ltT, ltF, eqT, eqF, ne_eq, not_true_eq_false, not_false_eq_true, Bool.false_eq_true, tI_zI]
          · rw [if_neg (by omega)]
            rw [q_301_10]; (try simp only [↓n_rd, ↓n_al, ↓n_cI, li_0, li_1, li_4, li_10, li_12, li_48, li_70, li_256, zI_add, zI_sub, zI_mul, zI_neg, ↓Option.bind_some]); simp (disch := (first | assumption | exact tI_rg _ | omega | exact uR_at | exact row_ne hF (by decide) | exact row_ne (row_ne hF (by decide)) (by decide) | exact SnS_18 | exact SnS_30 | exact LdS_44 | exact LdS_46)) only [q_301_0, q_301_67, q_301_70, ↓cc_214 hI, e49, e49b, hsh, bmF_241, erb, hK, ↓n_rd, ↓n_al, ↓n_cI, li_0, li_1, li_4, li_10, li_12, li_48, li_70, li_256, zI_add, zI_sub, zI_mul, zI_neg, ↓Option.bind_some, ↓g12_0, ↓g12_48, ↓g12_49, ↓al_218, ↓as_218, ↓al_241, ↓as_241, zIt2, uR_at, uR_ne, uR_uR, uC_uC, uC_at, ↓reduceIte, decide_eq_true_eq, leT, leF, ltT, ltF, eqT, eqF, ne_eq, not_true_eq_false, not_false_eq_true, Bool.false_eq_true, tI_zI]
theorem ct_305 {d : Nat} {E : EnQ} {F : Nat → Int → Int32} {G : Nat → Int → Int64} {K : Int → Int32} {S : SgS} (hI : InvK K) (hF : F 218 = K) (hM : SgM F S) (hS : SgI (2 * tI (K 2)) S) (hd : 4 ≤ d) : ∃ q r, callP MP d 305 [.ref 217] (mk E F G) = some (Sum.inl (some (.int (zI (paZ K S)))), mk E (bmF F q r) G) := by
  have hb1 := hI.1.2.1
  obtain ⟨a1, a2⟩ := all_lt hS.1
  have hbt : ∀ w, sgT S w < 256 := sgT_lt hS.1
  have hn : (tI (K 1)).toNat ≤ 10 := by omega
  have h8 := hS.1
  have e49b : tI (F 217 49) = (S.1 : Int) := by rw [hM.1, tI_zI (by omega)]
  obtain ⟨e, rfl⟩ : ∃ e, d = e + 1 := ⟨d - 1, by omega⟩
  have hin : callP MP (e + 1) 305 [.ref 217] (mk E F G) = runP MP e 305 (0, [some (.ref 217), none, none, none], [], mk E F G) := into_eq (by omega) hM_305 (rcv_mk rfl (by decide)) rfl
  by_cases g0 : S.1 = 0
  · refine ⟨F 240, F 241, ?_⟩
    rw [bmF_0, show paZ K S = 0 from if_pos g0, hin]
    rw [q_305_0]; (try simp only [↓n_rd, ↓n_al, ↓n_cI, li_0, li_1, li_12, li_13, li_48, li_64, li_256, zI_add, zI_sub, zI_mul, zI_neg, ↓Option.bind_some]); simp (disch := (first | assumption | exact tI_rg _ | omega | exact uR_at | exact row_ne hF (by decide) | exact row_ne (row_ne hF (by decide)) (by decide) | exact SnS_18 | exact SnS_30 | exact LdS_44 | exact LdS_46)) only [q_305_62, q_305_64, e49b, g0, ↓n_rd, ↓n_al, ↓n_cI, li_0, li_1, li_12, li_13, li_48, li_64, li_256, zI_add, zI_sub, zI_mul, zI_neg, ↓Option.bind_some, ↓g12_48, ↓g12_49, ↓al_241, ↓as_241, zIt2, uR_at, uR_ne, uR_uR, uC_uC, uC_at, ↓reduceIte, decide_eq_true_eq, leT, leF, ltT, ltF, eqT, eqF, ne_eq, not_true_eq_false, not_false_eq_true, Bool.false_eq_true, tI_zI]
  · rw [← pa_eq hI hS g0]
    have h13 : runP MP e 305 (0, [some (.ref 217), none, none, none], [], mk E F G) = runP MP e 305 (13, [some (.ref 217), some (.int (zI (-1))), some (.int (zI 0)), none], [], mk E (bmF F (F 240) (F 241)) G) := by
      rw [bmF_0]
      rw [q_305_0]; (try simp only [↓n_rd, ↓n_al, ↓n_cI, li_0, li_1, li_12, li_13, li_48, li_64, li_256, zI_add, zI_sub, zI_mul, zI_neg, ↓Option.bind_some]); simp (disch := (first | assumption | exact tI_rg _ | omega | exact uR_at | exact row_ne hF (by decide) | exact row_ne (row_ne hF (by decide)) (by decide) | exact SnS_18 | exact SnS_30 | exact LdS_44 | exact LdS_46)) only [q_305_62, q_305_64, e49b, ↓n_rd, ↓n_al, ↓n_cI, li_0, li_1, li_12, li_13, li_48, li_64, li_256, zI_add, zI_sub, zI_mul, zI_neg, ↓Option.bind_some, ↓g12_48, ↓g12_49, ↓al_241, ↓as_241, zIt2, uR_at, uR_ne, uR_uR, uC_uC, uC_at, ↓reduceIte, decide_eq_true_eq, leT, leF, ltT, ltF, eqT, eqF, ne_eq, not_true_eq_false, not_false_eq_true, Bool.false_eq_true, tI_zI]
    rw [hin, h13]
    have hsh : o_ishl (zI 1) (zI (S.1 : Int)) = zI ((2 ^ S.1 : Nat) : Int) := by
      have := shl1 (p := (S.1 : Int)) (by omega)
      rw [show ((S.1 : Int)).toNat = S.1 by omega] at this
      exact this
    have hpr : ∀ i, i < 10 → -1 ≤ pqZ K S i ∧ pqZ K S i ≤ 2560 := fun i hi => bD_rg (wy := wyK K) (al := sgA S 0) hbt hn (show 256 * i < 2560 by omega) (256 * i + (2 ^ S.1 - 1))
    have hmr : ∀ j, j ≤ 10 → -1 ≤ mnZ (pqZ K S) j ∧ mnZ (pqZ K S) j ≤ 2560 := by
      intro j
      induction j with
      | zero => intro _; exact ⟨Int.le_refl _, by show (-1 : Int) ≤ 2560; omega⟩
      | succ j ih =>
        intro hj
        have := hpr j (by omega)
        have := ih (by omega)
        unfold mnZ
        split
        · exact this
        · split <;> omega
    refine loopS (σ := ((Int → Int32) × (Int → Int32)) × Option Value) (Post := fun z => ∃ q r, z = some (Sum.inl (some (.int (zI (mnZ (pqZ K S) (tI (K 1)).toNat)))), mk E (bmF F q r) G))
      (fun j s => runP MP e 305 (13, [some (.ref 217), some (.int (zI (mnZ (pqZ K S) j))), some (.int (zI (j : Nat))), s.2], [], mk E (bmF F s.1.1 s.1.2) G)) (fun _ _ => True) (tI (K 1)).toNat ((F 240, F 241), none) trivial (fun s _ => ?_) (fun j s hj _ => ?_)
    · have hK : bmF F s.1.1 s.1.2 218 = K := (bmF_ne (by decide) (by decide)).trans hF
      refine ⟨s.1.1, s.1.2, ?_⟩
      show runP MP e 305 _ = _
      rw [q_305_13]; (try simp only [↓n_rd, ↓n_al, ↓n_cI, li_0, li_1, li_12, li_13, li_48, li_64, li_256, zI_add, zI_sub, zI_mul, zI_neg, ↓Option.bind_some]); simp (disch := (first | assumption | exact tI_rg _ | omega | exact uR_at | exact row_ne hF (by decide) | exact row_ne (row_ne hF (by decide)) (by decide) | exact SnS_18 | exact SnS_30 | exact LdS_44 | exact LdS_46)) only [q_305_0, q_305_62, q_305_64, ↓cc_214 hI, ↓n_rd, ↓n_al, ↓n_cI, li_0, li_1, li_12, li_13, li_48, li_64, li_256, zI_add, zI_sub, zI_mul, zI_neg, ↓Option.bind_some, ↓g12_48, ↓g12_49, ↓al_241, ↓as_241, zIt2, uR_at, uR_ne, uR_uR, uC_uC, uC_at, ↓reduceIte, decide_eq_true_eq, leT, leF, ltT, ltF, eqT, eqF, ne_eq, not_true_eq_false, not_false_eq_true, Bool.false_eq_true, tI_zI]
    · right
      have hK : bmF F s.1.1 s.1.2 218 = K := (bmF_ne (by decide) (by decide)).trans hF
      have hMs : SgM (bmF F s.1.1 s.1.2) S := ⟨by rw [bmF_ne (by decide) (by decide)]; exact hM.1, fun k hk => by rw [bmF_ne (by decide) (by decide)]; exact hM.2 k hk⟩
      obtain ⟨q, r, r1, r2⟩ := ct_302 (d := e) (E := E) (G := G) hI hK hMs hS (p := j) (by omega) (Or.inl rfl) (by omega)
      have ebb : bmF (bmF F s.1.1 s.1.2) q r = bmF F q r := by
        unfold bmF
        rw [uR_comm (by decide : (241 : Nat) ≠ 240), uR_uR, uR_uR]
      rw [ebb] at r1
      have c302 : ∀ {kk : HeapP → ResP} {kx : Nat → HeapP → ResP}, cV (callP MP e 302 [.ref 217, .int (zI (j : Int)), .int (zI 0)] (mk E (bmF F s.1.1 s.1.2) G)) kk kx = kk (mk E (bmF F q r) G) := fun {kk kx} => cV_ret r1
      have e49 : tI (bmF F q r 217 49) = (S.1 : Int) := by rw [bmF_ne (by decide) (by decide)]; exact e49b
      have erd : r (256 * (j : Int) + ((2 ^ S.1 : Nat) : Int) - 1) = zI (pqZ K S j) := by
        unfold pqZ
        rw [← r2 (256 * j + (2 ^ S.1 - 1)) (by omega)]; exact congrArg r (by omega)
      have hp9 := hpr j (by omega)
      have hm9 := hmr j (by omega)
      have e2 : mnZ (pqZ K S) (j + 1) = if pqZ K S j = -1 then mnZ (pqZ K S) j else if mnZ (pqZ K S) j = -1 ∨ pqZ K S j < mnZ (pqZ K S) j then pqZ K S j else mnZ (pqZ K S) j := rfl
      generalize pqZ K S j = b9 at *
      refine ⟨((q, r), some (.int (zI b9))), trivial, ?_⟩
      have erb : tI (r (256 * (j : Int) + ((2 ^ S.1 : Nat) : Int) - 1)) = b9 := by rw [erd, tI_zI (by omega)]
      show runP MP e 305 _ = runP MP e 305 _
      rw [nsucc, e2]
      generalize mnZ (pqZ K S) j = m9 at *
      by_cases g1 : b9 = -1
      · rw [if_pos g1]
        rw [q_305_13]; (try simp only [↓n_rd, ↓n_al, ↓n_cI, li_0, li_1, li_12, li_13, li_48, li_64, li_256, zI_add, zI_sub, zI_mul, zI_neg, ↓Option.bind_some]); simp (disch := (first | assumption | exact tI_rg _ | omega | exact uR_at | exact row_ne hF (by decide) | exact row_ne (row_ne hF (by decide)) (by decide) | exact SnS_18 | exact SnS_30 | exact LdS_44 | exact LdS_46)) only [q_305_0, q_305_62, q_305_64, ↓cc_214 hI, ↓c302, e49, e49b, hsh, bmF_241, erb, g1, ↓n_rd, ↓n_al, ↓n_cI, li_0, li_1, li_12, li_13, li_48, li_64, li_256, zI_add, zI_sub, zI_mul, zI_neg, ↓Option.bind_some, ↓g12_48, ↓g12_49, ↓al_241, ↓as_241, zIt2, uR_at, uR_ne, uR_uR, uC_uC, uC_at, ↓reduceIte, decide_eq_true_eq, leT, leF, ltT, ltF, eqT, eqF, ne_eq, not_true_eq_false, not_false_eq_true, Bool.false_eq_true, tI_zI]
      · rw [if_neg g1]
        by_cases g3 : m9 = -1
        · rw [if_pos (Or.inl g3)]
          rw [q_305_13]; (try simp only [↓n_rd, ↓n_al, ↓n_cI, li_0, li_1, li_12, li_13, li_48, li_64, li_256, zI_add, zI_sub, zI_mul, zI_neg, ↓Option.bind_some]); simp (disch := (first | assumption | exact tI_rg _ | omega | exact uR_at | exact row_ne hF (by decide) | exact row_ne (row_ne hF (by decide)) (by decide) | exact SnS_18 | exact SnS_30 | exact LdS_44 | exact LdS_46)) only [q_305_0, q_305_62, q_305_64, ↓cc_214 hI, ↓c302, e49, e49b, hsh, bmF_241, erb, g3, ↓n_rd, ↓n_al, ↓n_cI, li_0, li_1, li_12, li_13, li_48, li_64, li_256, zI_add, zI_sub, zI_mul, zI_neg, ↓Option.bind_some, ↓g12_48, ↓g12_49, ↓al_241, ↓as_241, zIt2, uR_at, uR_ne, uR_uR, uC_uC, uC_at, ↓reduceIte, decide_eq_true_eq, leT, leF, ltT, ltF, eqT, eqF, ne_eq, not_true_eq_false, not_false_eq_true, Bool.false_eq_true, tI_zI]
        · by_cases g4 : b9 < m9
          · rw [if_pos (Or.inr g4)]
            rw [q_305_13]; (try simp only [↓n_rd, ↓n_al, ↓n_cI, li_0, li_1, li_12, li_13, li_48, li_64, li_256, zI_add, zI_sub, zI_mul, zI_neg, ↓Option.bind_some]); simp (disch := (first | assumption | exact tI_rg _ | omega | exact uR_at | exact row_ne hF (by decide) | exact row_ne (row_ne hF (by decide)) (by decide) | exact SnS_18 | exact SnS_30 | exact LdS_44 | exact LdS_46)) only [q_305_0, q_305_62, q_305_64, ↓cc_214 hI, ↓c302, e49, e49b, hsh, bmF_241, erb, ↓n_rd, ↓n_al, ↓n_cI, li_0, li_1, li_12, li_13, li_48, li_64, li_256, zI_add, zI_sub, zI_mul, zI_neg, ↓Option.bind_some, ↓g12_48, ↓g12_49, ↓al_241, ↓as_241, zIt2, uR_at, uR_ne, uR_uR, uC_uC, uC_at, ↓reduceIte, decide_eq_true_eq, leT, leF, ltT, ltF, eqT, eqF, ne_eq, not_true_eq_false, not_false_eq_true, Bool.false_eq_true, tI_zI]
          · rw [if_neg (by omega)]
            rw [q_305_13]; (try simp only [↓n_rd, ↓n_al, ↓n_cI, li_0, li_1, li_12, li_13, li_48, li_64, li_256, zI_add, zI_sub, zI_mul, zI_neg, ↓Option.bind_some]); simp (disch := (first | assumption | exact tI_rg _ | omega | exact uR_at | exact row_ne hF (by decide) | exact row_ne (row_ne hF (by decide)) (by decide) | exact SnS_18 | exact SnS_30 | exact LdS_44 | exact LdS_46)) only [q_305_0, q_305_62, q_305_64, ↓cc_214 hI, ↓c302, e49, e49b, hsh, bmF_241, erb, ↓n_rd, ↓n_al, ↓n_cI, li_0, li_1, li_12, li_13, li_48, li_64, li_256, zI_add, zI_sub, zI_mul, zI_neg, ↓Option.bind_some, ↓g12_48, ↓g12_49, ↓al_241, ↓as_241, zIt2, uR_at, uR_ne, uR_uR, uC_uC, uC_at, ↓reduceIte, decide_eq_true_eq, leT, leF, ltT, ltF, eqT, eqF, ne_eq, not_true_eq_false, not_false_eq_true, Bool.false_eq_true, tI_zI]
end S94zx
