/-! MODEL: how far states are -/
section S94zv
set_option linter.unusedVariables false
set_option linter.unusedSimpArgs false
theorem bfs_stop {wy : Nat → Nat → Int} {al : Int → Bool} {bt : Int → Nat} {n s0 i : Nat} (h : ¬ i < (bfs wy al bt n s0 i).2.2) : ∀ k, i ≤ k → bfs wy al bt n s0 k = bfs wy al bt n s0 i := by
  intro k
  induction k with
  | zero => intro hk; rw [show i = 0 by omega]
  | succ k ih =>
    intro hk
    by_cases e : i = k + 1
    · rw [e]
    · have h1 := ih (by omega)
      have h2 : bfs wy al bt n s0 (k + 1) = bfs wy al bt n s0 k := if_neg (by rw [h1]; omega)
      rw [h2, h1]
def sgA (S : SgS) (z : Int) (w : Int) : Bool := decide (z = 0 ∨ sgP S w ≠ -1)
def wyK (K : Int → Int32) (q t : Nat) : Int := wayZ K q t
/-- rows stand for a search -/
def BfM (st : BfS) (q r : Int → Int32) : Prop := (∀ x : Nat, x < 2560 → r (x : Int) = zI (st.1 x)) ∧ ∀ j : Nat, j < st.2.2 → q (j : Int) = zI (st.2.1 j : Nat)
theorem BfM_push {st : BfS} {q r : Int → Int32} {s : Nat} {v : Int} (h : BfM st q r) (e : ¬ st.1 s ≠ -1) : BfM (bpush st s v) (uC q (st.2.2 : Int) (zI (s : Nat))) (uC r (s : Int) (zI v)) := by
  unfold bpush
  rw [if_neg e]
  refine ⟨fun x hx => ?_, fun j hj => ?_⟩
  · show uC r (s : Int) (zI v) (x : Int) = zI (if x = s then v else st.1 x)
    by_cases z : x = s
    · rw [if_pos z, z, uC_at]
    · rw [if_neg z, uC_ne (by omega)]; exact h.1 x hx
  · have hj : j < st.2.2 + 1 := hj
    show uC q (st.2.2 : Int) (zI (s : Nat)) (j : Int) = zI ((if j = st.2.2 then s else st.2.1 j : Nat) : Int)
    by_cases z : j = st.2.2
    · rw [if_pos z, z, uC_at]
    · rw [if_neg z, uC_ne (by omega)]; exact h.2 j (by omega)
def bmF (F : Nat → Int → Int32) (q r : Int → Int32) : Nat → Int → Int32 := uR (uR F 240 q) 241 r
theorem bmF_0 {F : Nat → Int → Int32} : bmF F (F 240) (F 241) = F := by unfold bmF; rw [uR_self, uR_self]
theorem bmF_241 {F : Nat → Int → Int32} {q r : Int → Int32} : bmF F q r 241 = r := uR_at
theorem bmF_240 {F : Nat → Int → Int32} {q r : Int → Int32} : bmF F q r 240 = q := (uR_ne (by decide)).trans uR_at
theorem bmF_ne {F : Nat → Int → Int32} {q r : Int → Int32} {a : Nat} (h1 : a ≠ 240) (h2 : a ≠ 241) : bmF F q r a = F a := (uR_ne h2).trans (uR_ne h1)
theorem bmF_w1 {F : Nat → Int → Int32} {q r r' : Int → Int32} : uR (bmF F q r) 241 r' = bmF F q r' := uR_uR
theorem bmF_w0 {F : Nat → Int → Int32} {q r q' : Int → Int32} : uR (bmF F q r) 240 q' = bmF F q' r := by
  unfold bmF
  rw [uR_comm (by decide : (241 : Nat) ≠ 240), uR_uR]
theorem ct_302 {d : Nat} {E : EnQ} {F : Nat → Int → Int32} {G : Nat → Int → Int64} {K : Int → Int32} {S : SgS} {p : Nat} {z : Int} (hI : InvK K) (hF : F 218 = K) (hM : SgM F S) (hS : SgI (2 * tI (K 2)) S) (hp : (p : Int) < tI (K 1)) (hz : z = 0 ∨ z = 1) (hd : 3 ≤ d) :
    ∃ q r, callP MP d 302 [.ref 217, .int (zI (p : Int)), .int (zI z)] (mk E F G) = some (Sum.inl none, mk E (bmF F q r) G) ∧ ∀ x : Nat, x < 2560 → r (x : Int) = zI (bD (wyK K) (sgA S z) (sgT S) (tI (K 1)).toNat (256 * p) x) := by
  have hb1 := hI.1.2.1
  have hb2 := hI.1.2.2.1
  obtain ⟨g8, gr, gd⟩ := hS
  have hbt : ∀ w, sgT S w < 256 := sgT_lt g8
  have hn : (tI (K 1)).toNat ≤ 10 := by omega
  have hs0 : 256 * p < 2560 := by omega
  obtain ⟨e, rfl⟩ : ∃ e, d = e + 1 := ⟨d - 1, by omega⟩
  have hin : callP MP (e + 1) 302 [.ref 217, .int (zI (p : Int)), .int (zI z)] (mk E F G) = runP MP e 302 (0, [some (.ref 217), some (.int (zI (p : Int))), some (.int (zI z)), none, none, none, none, none, none], [], mk E F G) := into_eq (by omega) hM_302 (rcv_mk rfl (by decide)) rfl
  -- nothing is known
  have h0 : ∃ r, runP MP e 302 (0, [some (.ref 217), some (.int (zI (p : Int))), some (.int (zI z)), none, none, none, none, none, none], [], mk E F G) = runP MP e 302 (49, [some (.ref 217), some (.int (zI (p : Int))), some (.int (zI z)), some (.int (zI 1)), some (.int (zI 0)), none, none, none, none], [], mk E (bmF F (uC (F 240) 0 (zI (256 * (p : Int)))) r) G) ∧ ∀ x : Nat, x < 2560 → r (x : Int) = zI (if x = 256 * p then 0 else -1) := by
    have h00 : runP MP e 302 (0, [some (.ref 217), some (.int (zI (p : Int))), some (.int (zI z)), none, none, none, none, none, none], [], mk E F G) = runP MP e 302 (2, [some (.ref 217), some (.int (zI (p : Int))), some (.int (zI z)), some (.int (zI 0)), none, none, none, none, none], [], mk E (bmF F (F 240) (F 241)) G) := by rw [q_302_0, li_0, bmF_0]
    rw [h00]
    refine loopS (σ := Int → Int32) (Post := fun y => ∃ r, y = runP MP e 302 (49, [some (.ref 217), some (.int (zI (p : Int))), some (.int (zI z)), some (.int (zI 1)), some (.int (zI 0)), none, none, none, none], [], mk E (bmF F (uC (F 240) 0 (zI (256 * (p : Int)))) r) G) ∧ ∀ x : Nat, x < 2560 → r (x : Int) = zI (if x = 256 * p then 0 else -1))
      (fun j r => runP MP e 302 (2, [some (.ref 217), some (.int (zI (p : Int))), some (.int (zI z)), some (.int (zI (j : Int))), none, none, none, none, none], [], mk E (bmF F (F 240) r) G))
      (fun j r => ∀ x : Nat, x < j → r (x : Int) = zI (-1)) bEnd (F 241) (fun x hx => by omega) (fun r hr => ?_) (fun j r hj hr => ?_)
    · rw [bEnd_eq] at hr ⊢
      refine ⟨uC r (256 * (p : Int)) (zI 0), ?_, fun x hx => ?_⟩
      · show runP MP e 302 (2, [some (.ref 217), some (.int (zI (p : Int))), some (.int (zI z)), some (.int (zI 2560)), none, none, none, none, none], [], mk E (bmF F (F 240) r) G) = _
        rw [q_302_2]; (try simp only [↓n_al, ↓n_idiv, ↓n_irem, ↓n_cI, li_0, li_1, li_2, li_12, li_48, li_256, li_2560, zI_add, zI_sub, zI_mul, zI_neg, ↓Option.bind_some]); simp (disch := (first | assumption | exact tI_rg _ | omega | exact uR_at | exact row_ne hF (by decide) | exact row_ne (row_ne hF (by decide)) (by decide) | exact SnS_18 | exact SnS_30 | exact LdS_44 | exact LdS_46)) only [q_302_0, q_302_113, q_302_152, q_302_202, bmF_240, bmF_241, bmF_w0, bmF_w1, ↓n_al, ↓n_idiv, ↓n_irem, ↓n_cI, ↓b_idiv, ↓b_irem, li_0, li_1, li_2, li_12, li_48, li_256, li_2560, zI_add, zI_sub, zI_mul, zI_neg, ↓Option.bind_some, ↓g12_47, ↓g12_48, ↓al_240, ↓as_240, ↓al_241, ↓as_241, zIt2, uR_at, uR_ne, uR_uR, uC_uC, uC_at, ↓reduceIte, decide_eq_true_eq, leT, leF, ltT, ltF, eqT, eqF, ne_eq, not_true_eq_false, not_false_eq_true, Bool.false_eq_true, tI_zI]
      · by_cases g : x = 256 * p
        · rw [if_pos g, uC_eq (by omega)]
        · rw [if_neg g, uC_ne (by omega)]; exact hr x hx
    · right
      rw [bEnd_eq] at hj
      refine ⟨uC r (j : Int) (zI (-1)), fun x hx => ?_, ?_⟩
      · by_cases g : x = j
        · rw [g, uC_at]
        · rw [uC_ne (by omega)]; exact hr x (by omega)
      · show runP MP e 302 _ = runP MP e 302 _
        rw [nsucc]
        rw [q_302_2]; (try simp only [↓n_al, ↓n_idiv, ↓n_irem, ↓n_cI, li_0, li_1, li_2, li_12, li_48, li_256, li_2560, zI_add, zI_sub, zI_mul, zI_neg, ↓Option.bind_some]); simp (disch := (first | assumption | exact tI_rg _ | omega | exact uR_at | exact row_ne hF (by decide) | exact row_ne (row_ne hF (by decide)) (by decide) | exact SnS_18 | exact SnS_30 | exact LdS_44 | exact LdS_46)) only [q_302_0, q_302_113, q_302_152, q_302_202, bmF_240, bmF_241, bmF_w0, bmF_w1, ↓n_al, ↓n_idiv, ↓n_irem, ↓n_cI, ↓b_idiv, ↓b_irem, li_0, li_1, li_2, li_12, li_48, li_256, li_2560, zI_add, zI_sub, zI_mul, zI_neg, ↓Option.bind_some, ↓g12_47, ↓g12_48, ↓al_240, ↓as_240, ↓al_241, ↓as_241, zIt2, uR_at, uR_ne, uR_uR, uC_uC, uC_at, ↓reduceIte, decide_eq_true_eq, leT, leF, ltT, ltF, eqT, eqF, ne_eq, not_true_eq_false, not_false_eq_true, Bool.false_eq_true, tI_zI]
  obtain ⟨r0, h01, h02⟩ := h0
  rw [hin, h01]
  have hK : ∀ q r, bmF F q r 218 = K := fun q r => (bmF_ne (by decide) (by decide)).trans hF
  have hMr : ∀ q r, SgM (bmF F q r) S := fun q r => ⟨by rw [bmF_ne (by decide) (by decide)]; exact hM.1, fun k hk => by rw [bmF_ne (by decide) (by decide)]; exact hM.2 k hk⟩
  refine loopS (σ := ((Int → Int32) × (Int → Int32)) × (Option Value × Option Value × Option Value × Option Value)) (Post := fun y => ∃ q r, y = some (Sum.inl none, mk E (bmF F q r) G) ∧ ∀ x : Nat, x < 2560 → r (x : Int) = zI (bD (wyK K) (sgA S z) (sgT S) (tI (K 1)).toNat (256 * p) x))
    (fun i s => runP MP e 302 (49, [some (.ref 217), some (.int (zI (p : Int))), some (.int (zI z)), some (.int (zI ((bfs (wyK K) (sgA S z) (sgT S) (tI (K 1)).toNat (256 * p) i).2.2 : Nat))), some (.int (zI (i : Int))), s.2.1, s.2.2.1, s.2.2.2.1, s.2.2.2.2], [], mk E (bmF F s.1.1 s.1.2) G))
    (fun i s => BfM (bfs (wyK K) (sgA S z) (sgT S) (tI (K 1)).toNat (256 * p) i) s.1.1 s.1.2) bEnd ((uC (F 240) 0 (zI (256 * (p : Int))), r0), none, none, none, none) ⟨fun x hx => ?_, fun j hj => ?_⟩ (fun s hs => ?_) (fun i s hi hs => ?_)
  · exact h02 x hx
  · have hj : j < 1 := hj
    rw [show j = 0 by omega]
    show uC (F 240) 0 (zI (256 * (p : Int))) 0 = zI ((256 * p : Nat) : Int)
    rw [uC_at]; rfl
  · have hm := bfs_m (wy := wyK K) (al := sgA S z) (bt := sgT S) hbt hn hs0 bEnd
    refine ⟨s.1.1, s.1.2, ?_, hs.1⟩
    have hE := bEnd_eq
    show runP MP e 302 _ = _
    rw [q_302_49]; (try simp only [↓n_al, ↓n_idiv, ↓n_irem, ↓n_cI, li_0, li_1, li_2, li_12, li_48, li_256, li_2560, zI_add, zI_sub, zI_mul, zI_neg, ↓Option.bind_some]); simp (disch := (first | assumption | exact tI_rg _ | omega | exact uR_at | exact row_ne hF (by decide) | exact row_ne (row_ne hF (by decide)) (by decide) | exact SnS_18 | exact SnS_30 | exact LdS_44 | exact LdS_46)) only [q_302_0, q_302_113, q_302_152, q_302_202, ↓n_al, ↓n_idiv, ↓n_irem, ↓n_cI, ↓b_idiv, ↓b_irem, li_0, li_1, li_2, li_12, li_48, li_256, li_2560, zI_add, zI_sub, zI_mul, zI_neg, ↓Option.bind_some, ↓g12_47, ↓g12_48, ↓al_240, ↓as_240, ↓al_241, ↓as_241, zIt2, uR_at, uR_ne, uR_uR, uC_uC, uC_at, ↓reduceIte, decide_eq_true_eq, leT, leF, ltT, ltF, eqT, eqF, ne_eq, not_true_eq_false, not_false_eq_true, Bool.false_eq_true, tI_zI]
  · rw [bEnd_eq] at hi
    have hm := bfs_m (wy := wyK K) (al := sgA S z) (bt := sgT S) hbt hn hs0 i
    by_cases g : i < (bfs (wyK K) (sgA S z) (sgT S) (tI (K 1)).toNat (256 * p) i).2.2
    · right
      obtain ⟨i1, -, -, i4⟩ := bfs_inv (wy := wyK K) (al := sgA S z) (bt := sgT S) hbt hn hs0 i
      obtain ⟨hd0, hsl⟩ := i1.2.1 i g
      have hdl := bfs_le (wy := wyK K) (al := sgA S z) (bt := sgT S) (n := (tI (K 1)).toNat) (s0 := 256 * p) i ((bfs (wyK K) (sgA S z) (sgT S) (tI (K 1)).toNat (256 * p) i).2.1 i)
      have hwk := i1.2.2.2.1 ((bfs (wyK K) (sgA S z) (sgT S) (tI (K 1)).toNat (256 * p) i).2.1 i) (by omega)
      have hbin := bin_inv hbt hn i1 (s := (bfs (wyK K) (sgA S z) (sgT S) (tI (K 1)).toNat (256 * p) i).2.1 i) (v := (bfs (wyK K) (sgA S z) (sgT S) (tI (K 1)).toNat (256 * p) i).1 ((bfs (wyK K) (sgA S z) (sgT S) (tI (K 1)).toNat (256 * p) i).2.1 i) + 1) (by omega) (fun t ht hg => by
        rw [show ((bfs (wyK K) (sgA S z) (sgT S) (tI (K 1)).toNat (256 * p) i).1 ((bfs (wyK K) (sgA S z) (sgT S) (tI (K 1)).toNat (256 * p) i).2.1 i) + 1).toNat = ((bfs (wyK K) (sgA S z) (sgT S) (tI (K 1)).toNat (256 * p) i).1 ((bfs (wyK K) (sgA S z) (sgT S) (tI (K 1)).toNat (256 * p) i).2.1 i)).toNat + 1 by omega]
        exact ⟨_, t, hwk, ht, hg, rfl⟩) (fun j hj => i4 i (Nat.le_refl i) g j hj)
      have eb : bfs (wyK K) (sgA S z) (sgT S) (tI (K 1)).toNat (256 * p) (i + 1) = bin (wyK K) (sgA S z) (sgT S) (bfs (wyK K) (sgA S z) (sgT S) (tI (K 1)).toNat (256 * p) i) ((bfs (wyK K) (sgA S z) (sgT S) (tI (K 1)).toNat (256 * p) i).2.1 i) ((bfs (wyK K) (sgA S z) (sgT S) (tI (K 1)).toNat (256 * p) i).1 ((bfs (wyK K) (sgA S z) (sgT S) (tI (K 1)).toNat (256 * p) i).2.1 i) + 1) (tI (K 1)).toNat := if_pos g
      rw [eb]
      generalize hs9 : (bfs (wyK K) (sgA S z) (sgT S) (tI (K 1)).toNat (256 * p) i).2.1 i = s9 at *
      generalize hv9 : (bfs (wyK K) (sgA S z) (sgT S) (tI (K 1)).toNat (256 * p) i).1 s9 = v9 at *
      have eq9 : s.1.1 (i : Int) = zI (s9 : Nat) := by rw [hs.2 i g, hs9]
      have eq9t : tI (s.1.1 (i : Int)) = (s9 : Int) := by rw [eq9, tI_zI (by omega)]
      have ediv : (s9 : Int) / 256 = ((s9 / 256 : Nat) : Int) := by omega
      have emod : (s9 : Int) % 256 = ((s9 % 256 : Nat) : Int) := by omega
      generalize hst : bfs (wyK K) (sgA S z) (sgT S) (tI (K 1)).toNat (256 * p) i = st0 at *
      have hloop : ∃ q r z5 z6 z7 z8, BfM (bin (wyK K) (sgA S z) (sgT S) st0 s9 (v9 + 1) (tI (K 1)).toNat) q r ∧ runP MP e 302 (71, [some (.ref 217), some (.int (zI (p : Int))), some (.int (zI z)), some (.int (zI (st0.2.2 : Nat))), some (.int (zI (i : Int))), some (.int (zI ((s9 / 256 : Nat) : Int))), some (.int (zI 0)), s.2.2.2.1, s.2.2.2.2], [], mk E (bmF F s.1.1 s.1.2) G) = runP MP e 302 (49, [some (.ref 217), some (.int (zI (p : Int))), some (.int (zI z)), some (.int (zI ((bin (wyK K) (sgA S z) (sgT S) st0 s9 (v9 + 1) (tI (K 1)).toNat).2.2 : Nat))), some (.int (zI ((i : Int) + 1))), z5, z6, z7, z8], [], mk E (bmF F q r) G) := by
        refine loopS (σ := ((Int → Int32) × (Int → Int32)) × (Option Value × Option Value)) (Post := fun y => ∃ q r z5 z6 z7 z8, BfM (bin (wyK K) (sgA S z) (sgT S) st0 s9 (v9 + 1) (tI (K 1)).toNat) q r ∧ y = runP MP e 302 (49, [some (.ref 217), some (.int (zI (p : Int))), some (.int (zI z)), some (.int (zI ((bin (wyK K) (sgA S z) (sgT S) st0 s9 (v9 + 1) (tI (K 1)).toNat).2.2 : Nat))), some (.int (zI ((i : Int) + 1))), z5, z6, z7, z8], [], mk E (bmF F q r) G))
          (fun t u => runP MP e 302 (71, [some (.ref 217), some (.int (zI (p : Int))), some (.int (zI z)), some (.int (zI ((bin (wyK K) (sgA S z) (sgT S) st0 s9 (v9 + 1) t).2.2 : Nat))), some (.int (zI (i : Int))), some (.int (zI ((s9 / 256 : Nat) : Int))), some (.int (zI (t : Int))), u.2.1, u.2.2], [], mk E (bmF F u.1.1 u.1.2) G))
          (fun t u => BfM (bin (wyK K) (sgA S z) (sgT S) st0 s9 (v9 + 1) t) u.1.1 u.1.2) (tI (K 1)).toNat (s.1, s.2.2.2.1, s.2.2.2.2) hs (fun u hu => ?_) (fun t u ht hu => ?_)
        · refine ⟨u.1.1, u.1.2, some (.int (zI ((s9 / 256 : Nat) : Int))), some (.int (zI ((tI (K 1)).toNat : Int))), u.2.1, u.2.2, hu, ?_⟩
          have hK := hK u.1.1 u.1.2
          show runP MP e 302 _ = runP MP e 302 _
          rw [q_302_71]; (try simp only [↓n_al, ↓n_idiv, ↓n_irem, ↓n_cI, li_0, li_1, li_2, li_12, li_48, li_256, li_2560, zI_add, zI_sub, zI_mul, zI_neg, ↓Option.bind_some]); simp (disch := (first | assumption | exact tI_rg _ | omega | exact uR_at | exact row_ne hF (by decide) | exact row_ne (row_ne hF (by decide)) (by decide) | exact SnS_18 | exact SnS_30 | exact LdS_44 | exact LdS_46)) only [q_302_0, q_302_113, q_302_152, q_302_202, ↓cc_214 hI, ↓n_al, ↓n_idiv, ↓n_irem, ↓n_cI, ↓b_idiv, ↓b_irem, li_0, li_1, li_2, li_12, li_48, li_256, li_2560, zI_add, zI_sub, zI_mul, zI_neg, ↓Option.bind_some, ↓g12_47, ↓g12_48, ↓al_240, ↓as_240, ↓al_241, ↓as_241, zIt2, uR_at, uR_ne, uR_uR, uC_uC, uC_at, ↓reduceIte, decide_eq_true_eq, leT, leF, ltT, ltF, eqT, eqF, ne_eq, not_true_eq_false, not_false_eq_true, Bool.false_eq_true, tI_zI]
        · obtain ⟨b1, b2, b3, b4⟩ := hbin t (by omega)
          have hK := hK u.1.1 u.1.2
          have hMu := hMr u.1.1 u.1.2
          have hX0 : st0.2.2 ≤ (bin (wyK K) (sgA S z) (sgT S) st0 s9 (v9 + 1) t).2.2 := b2.1
          have hqi : (bin (wyK K) (sgA S z) (sgT S) st0 s9 (v9 + 1) t).2.1 i = s9 := by rw [b2.2.2 i (by omega), hs9]
          have hdi : (bin (wyK K) (sgA S z) (sgT S) st0 s9 (v9 + 1) t).1 s9 = v9 := by rw [b2.2.1 s9 (by rw [hv9]; omega), hv9]
          have euq : tI (u.1.1 (i : Int)) = (s9 : Int) := by rw [hu.2 i (by omega), hqi, tI_zI (by omega)]
          have eud : tI (u.1.2 (s9 : Int)) = v9 := by rw [hu.1 s9 hsl, hdi, tI_zI (by omega)]
          have hcnt := b1.1
          have hcr := cntN_rg (fun s => decide ((bin (wyK K) (sgA S z) (sgT S) st0 s9 (v9 + 1) t).1 s ≠ -1)) 2560
          have hwl := wayZ_lo hb2 ((s9 / 256 : Nat) : Int) (t : Int)
          have ebs : ∀ b : Bool, bok (wyK K) (sgA S z) s9 t = b → bin (wyK K) (sgA S z) (sgT S) st0 s9 (v9 + 1) (t + 1) = if b = true then bpush (bin (wyK K) (sgA S z) (sgT S) st0 s9 (v9 + 1) t) (bto (wyK K) (sgT S) s9 t) (v9 + 1) else bin (wyK K) (sgA S z) (sgT S) st0 s9 (v9 + 1) t := fun b hb => by
            rw [← hb]; rfl
          have hwy : wyK K (s9 / 256) t = wayZ K ((s9 / 256 : Nat) : Int) (t : Int) := rfl
          by_cases g1 : wayZ K ((s9 / 256 : Nat) : Int) (t : Int) = -1
          · have hbk : bok (wyK K) (sgA S z) s9 t = false := by unfold bok; rw [hwy, decide_eq_false (fun q => q g1)]; rfl
            have en := ebs false hbk
            rw [if_neg Bool.false_ne_true] at en
            right
            refine ⟨(u.1, some (.int (zI (-1))), u.2.2), by rw [en]; exact hu, ?_⟩
            show runP MP e 302 _ = runP MP e 302 (71, [some (.ref 217), some (.int (zI (p : Int))), some (.int (zI z)), some (.int (zI ((bin (wyK K) (sgA S z) (sgT S) st0 s9 (v9 + 1) (t + 1)).2.2 : Nat))), some (.int (zI (i : Int))), some (.int (zI ((s9 / 256 : Nat) : Int))), some (.int (zI ((t + 1 : Nat) : Int))), some (.int (zI (-1))), u.2.2], [], mk E (bmF F u.1.1 u.1.2) G)
            rw [en, nsucc t]
            rw [q_302_71]; (try simp only [↓n_al, ↓n_idiv, ↓n_irem, ↓n_cI, li_0, li_1, li_2, li_12, li_48, li_256, li_2560, zI_add, zI_sub, zI_mul, zI_neg, ↓Option.bind_some]); simp (disch := (first | assumption | exact tI_rg _ | omega | exact uR_at | exact row_ne hF (by decide) | exact row_ne (row_ne hF (by decide)) (by decide) | exact SnS_18 | exact SnS_30 | exact LdS_44 | exact LdS_46)) only [q_302_0, q_302_113, q_302_152, q_302_202, ↓cc_214 hI, ↓cc_229 hI, g1, ↓n_al, ↓n_idiv, ↓n_irem, ↓n_cI, ↓b_idiv, ↓b_irem, li_0, li_1, li_2, li_12, li_48, li_256, li_2560, zI_add, zI_sub, zI_mul, zI_neg, ↓Option.bind_some, ↓g12_47, ↓g12_48, ↓al_240, ↓as_240, ↓al_241, ↓as_241, zIt2, uR_at, uR_ne, uR_uR, uC_uC, uC_at, ↓reduceIte, decide_eq_true_eq, leT, leF, ltT, ltF, eqT, eqF, ne_eq, not_true_eq_false, not_false_eq_true, Bool.false_eq_true, tI_zI]
          · generalize hw9 : wayZ K ((s9 / 256 : Nat) : Int) (t : Int) = w9 at *
            have hpr := sgP_rg S w9
            have c300 : ∀ {kk : Int → HeapP → ResP} {kx : Nat → HeapP → ResP}, cT (callP MP e 300 [.ref 217, .int (zI w9)] (mk E (bmF F u.1.1 u.1.2) G)) kk kx = kk (sgP S w9) (mk E (bmF F u.1.1 u.1.2) G) := fun {kk kx} => cc_300 hMu g8 (fun k hk => by have := gr k hk; omega) (by omega) (by omega)
            by_cases g2 : z = 1 ∧ sgP S w9 = -1
            · have hbk : bok (wyK K) (sgA S z) s9 t = false := by
                unfold bok sgA; rw [hwy, decide_eq_false (show ¬ (z = 0 ∨ sgP S w9 ≠ -1) by omega), Bool.and_false]
              have en := ebs false hbk
              rw [if_neg Bool.false_ne_true] at en
              right
              refine ⟨(u.1, some (.int (zI w9)), u.2.2), by rw [en]; exact hu, ?_⟩
              show runP MP e 302 _ = runP MP e 302 (71, [some (.ref 217), some (.int (zI (p : Int))), some (.int (zI z)), some (.int (zI ((bin (wyK K) (sgA S z) (sgT S) st0 s9 (v9 + 1) (t + 1)).2.2 : Nat))), some (.int (zI (i : Int))), some (.int (zI ((s9 / 256 : Nat) : Int))), some (.int (zI ((t + 1 : Nat) : Int))), some (.int (zI w9)), u.2.2], [], mk E (bmF F u.1.1 u.1.2) G)
              rw [en, nsucc t]
              have g2a := g2.1
              have g2b := g2.2
              rw [q_302_71]; (try simp only [↓n_al, ↓n_idiv, ↓n_irem, ↓n_cI, li_0, li_1, li_2, li_12, li_48, li_256, li_2560, zI_add, zI_sub, zI_mul, zI_neg, ↓Option.bind_some]); simp (disch := (first | assumption | exact tI_rg _ | omega | exact uR_at | exact row_ne hF (by decide) | exact row_ne (row_ne hF (by decide)) (by decide) | exact SnS_18 | exact SnS_30 | exact LdS_44 | exact LdS_46)) only [q_302_0, q_302_113, q_302_152, q_302_202, ↓cc_214 hI, ↓cc_229 hI, hw9, ↓c300, g2b, ↓n_al, ↓n_idiv, ↓n_irem, ↓n_cI, ↓b_idiv, ↓b_irem, li_0, li_1, li_2, li_12, li_48, li_256, li_2560, zI_add, zI_sub, zI_mul, zI_neg, ↓Option.bind_some, ↓g12_47, ↓g12_48, ↓al_240, ↓as_240, ↓al_241, ↓as_241, zIt2, uR_at, uR_ne, uR_uR, uC_uC, uC_at, ↓reduceIte, decide_eq_true_eq, leT, leF, ltT, ltF, eqT, eqF, ne_eq, not_true_eq_false, not_false_eq_true, Bool.false_eq_true, tI_zI]
            · have hbk : bok (wyK K) (sgA S z) s9 t = true := by
                unfold bok sgA; rw [hwy, decide_eq_true (show z = 0 ∨ sgP S w9 ≠ -1 by omega), decide_eq_true g1]; rfl
              have en := ebs true hbk
              rw [if_pos rfl] at en
              have hto : bto (wyK K) (sgT S) s9 t = 256 * t + (s9 % 256 ||| sgT S w9) := by unfold bto; rw [hwy]
              have htl := bto_lt (wy := wyK K) hbt hn (s := s9) ht
              rw [hto] at htl en
              generalize hx9 : (s9 % 256 ||| sgT S w9) = x9 at *
              -- up to the state
              have h152 : ∃ b : Int, b = (sgT S w9 : Nat) ∧ runP MP e 302 (71, [some (.ref 217), some (.int (zI (p : Int))), some (.int (zI z)), some (.int (zI ((bin (wyK K) (sgA S z) (sgT S) st0 s9 (v9 + 1) t).2.2 : Nat))), some (.int (zI (i : Int))), some (.int (zI ((s9 / 256 : Nat) : Int))), some (.int (zI (t : Int))), u.2.1, u.2.2], [], mk E (bmF F u.1.1 u.1.2) G) = runP MP e 302 (152, [some (.ref 217), some (.int (zI (p : Int))), some (.int (zI z)), some (.int (zI ((bin (wyK K) (sgA S z) (sgT S) st0 s9 (v9 + 1) t).2.2 : Nat))), some (.int (zI (i : Int))), some (.int (zI ((s9 / 256 : Nat) : Int))), some (.int (zI (t : Int))), some (.int (zI w9)), u.2.2], [.int (zI b), .int (zI ((s9 % 256 : Nat) : Int)), .int (zI (256 * (t : Int)))], mk E (bmF F u.1.1 u.1.2) G) := by
                refine ⟨_, rfl, ?_⟩
                by_cases g3 : sgP S w9 = -1
                · have ez : z = 0 := by omega
                  have e0 : sgT S w9 = 0 := if_pos g3
                  rw [e0]
                  rw [q_302_71]; (try simp only [↓n_al, ↓n_idiv, ↓n_irem, ↓n_cI, li_0, li_1, li_2, li_12, li_48, li_256, li_2560, zI_add, zI_sub, zI_mul, zI_neg, ↓Option.bind_some]); simp (disch := (first | assumption | exact tI_rg _ | omega | exact uR_at | exact row_ne hF (by decide) | exact row_ne (row_ne hF (by decide)) (by decide) | exact SnS_18 | exact SnS_30 | exact LdS_44 | exact LdS_46)) only [q_302_0, q_302_113, q_302_202, ↓cc_214 hI, ↓cc_229 hI, hw9, ez, bmF_240, euq, emod, ↓c300, g3, ↓n_al, ↓n_idiv, ↓n_irem, ↓n_cI, ↓b_idiv, ↓b_irem, li_0, li_1, li_2, li_12, li_48, li_256, li_2560, zI_add, zI_sub, zI_mul, zI_neg, ↓Option.bind_some, ↓g12_47, ↓g12_48, ↓al_240, ↓as_240, ↓al_241, ↓as_241, zIt2, uR_at, uR_ne, uR_uR, uC_uC, uC_at, ↓reduceIte, decide_eq_true_eq, leT, leF, ltT, ltF, eqT, eqF, ne_eq, not_true_eq_false, not_false_eq_true, Bool.false_eq_true, tI_zI]
                  rfl
                · have e1 : sgT S w9 = 2 ^ (sgP S w9).toNat := if_neg g3
                  rw [e1]
                  have hshl := shl1 (p := sgP S w9) (by omega)
                  rcases hz with ez | ez
                  · rw [q_302_71]; (try simp only [↓n_al, ↓n_idiv, ↓n_irem, ↓n_cI, li_0, li_1, li_2, li_12, li_48, li_256, li_2560, zI_add, zI_sub, zI_mul, zI_neg, ↓Option.bind_some]); simp (disch := (first | assumption | exact tI_rg _ | omega | exact uR_at | exact row_ne hF (by decide) | exact row_ne (row_ne hF (by decide)) (by decide) | exact SnS_18 | exact SnS_30 | exact LdS_44 | exact LdS_46)) only [q_302_0, q_302_113, q_302_202, ↓cc_214 hI, ↓cc_229 hI, hw9, ez, bmF_240, euq, emod, ↓c300, hshl, ↓n_al, ↓n_idiv, ↓n_irem, ↓n_cI, ↓b_idiv, ↓b_irem, li_0, li_1, li_2, li_12, li_48, li_256, li_2560, zI_add, zI_sub, zI_mul, zI_neg, ↓Option.bind_some, ↓g12_47, ↓g12_48, ↓al_240, ↓as_240, ↓al_241, ↓as_241, zIt2, uR_at, uR_ne, uR_uR, uC_uC, uC_at, ↓reduceIte, decide_eq_true_eq, leT, leF, ltT, ltF, eqT, eqF, ne_eq, not_true_eq_false, not_false_eq_true, Bool.false_eq_true, tI_zI]
                  · rw [q_302_71]; (try simp only [↓n_al, ↓n_idiv, ↓n_irem, ↓n_cI, li_0, li_1, li_2, li_12, li_48, li_256, li_2560, zI_add, zI_sub, zI_mul, zI_neg, ↓Option.bind_some]); simp (disch := (first | assumption | exact tI_rg _ | omega | exact uR_at | exact row_ne hF (by decide) | exact row_ne (row_ne hF (by decide)) (by decide) | exact SnS_18 | exact SnS_30 | exact LdS_44 | exact LdS_46)) only [q_302_0, q_302_113, q_302_202, ↓cc_214 hI, ↓cc_229 hI, hw9, ez, bmF_240, euq, emod, ↓c300, hshl, ↓n_al, ↓n_idiv, ↓n_irem, ↓n_cI, ↓b_idiv, ↓b_irem, li_0, li_1, li_2, li_12, li_48, li_256, li_2560, zI_add, zI_sub, zI_mul, zI_neg, ↓Option.bind_some, ↓g12_47, ↓g12_48, ↓al_240, ↓as_240, ↓al_241, ↓as_241, zIt2, uR_at, uR_ne, uR_uR, uC_uC, uC_at, ↓reduceIte, decide_eq_true_eq, leT, leF, ltT, ltF, eqT, eqF, ne_eq, not_true_eq_false, not_false_eq_true, Bool.false_eq_true, tI_zI]
              obtain ⟨b, rfl, h152⟩ := h152
              have hor := orZ (s9 % 256) (sgT S w9)
              rw [hx9] at hor
              have ers := hu.1 (256 * t + x9) htl
              rw [show ((256 * t + x9 : Nat) : Int) = 256 * (t : Int) + (x9 : Int) by omega] at ers
              have hdr : -1 ≤ (bin (wyK K) (sgA S z) (sgT S) st0 s9 (v9 + 1) t).1 (256 * t + x9) ∧ (bin (wyK K) (sgA S z) (sgT S) st0 s9 (v9 + 1) t).1 (256 * t + x9) ≤ 2561 := by
                have h2 := bin_le (wy := wyK K) (al := sgA S z) (bt := sgT S) (st := st0) (s := s9) (v := v9 + 1) (b := 2561) (by omega) (fun x => by have := bfs_le (wy := wyK K) (al := sgA S z) (bt := sgT S) (n := (tI (K 1)).toNat) (s0 := 256 * p) i x; rw [hst] at this; omega) t (256 * t + x9)
                by_cases y : (bin (wyK K) (sgA S z) (sgT S) st0 s9 (v9 + 1) t).1 (256 * t + x9) = -1
                · omega
                · have := (b1.2.2.1 _ y).1; omega
              right
              by_cases g4 : (bin (wyK K) (sgA S z) (sgT S) st0 s9 (v9 + 1) t).1 (256 * t + x9) ≠ -1
              · have en2 : bin (wyK K) (sgA S z) (sgT S) st0 s9 (v9 + 1) (t + 1) = bin (wyK K) (sgA S z) (sgT S) st0 s9 (v9 + 1) t := by rw [en]; exact if_pos g4
                refine ⟨(u.1, some (.int (zI w9)), some (.int (zI (256 * (t : Int) + (x9 : Int))))), by rw [en2]; exact hu, ?_⟩
                show runP MP e 302 _ = runP MP e 302 (71, [some (.ref 217), some (.int (zI (p : Int))), some (.int (zI z)), some (.int (zI ((bin (wyK K) (sgA S z) (sgT S) st0 s9 (v9 + 1) (t + 1)).2.2 : Nat))), some (.int (zI (i : Int))), some (.int (zI ((s9 / 256 : Nat) : Int))), some (.int (zI ((t + 1 : Nat) : Int))), some (.int (zI w9)), some (.int (zI (256 * (t : Int) + (x9 : Int))))], [], mk E (bmF F u.1.1 u.1.2) G)
                rw [h152, en2, nsucc t]
                rw [q_302_152]; (try simp only [↓n_al, ↓n_idiv, ↓n_irem, ↓n_cI, li_0, li_1, li_2, li_12, li_48, li_256, li_2560, zI_add, zI_sub, zI_mul, zI_neg, ↓Option.bind_some]); simp (disch := (first | assumption | exact tI_rg _ | omega | exact uR_at | exact row_ne hF (by decide) | exact row_ne (row_ne hF (by decide)) (by decide) | exact SnS_18 | exact SnS_30 | exact LdS_44 | exact LdS_46)) only [q_302_0, q_302_113, q_302_202, hor, bmF_241, ers, ↓n_al, ↓n_idiv, ↓n_irem, ↓n_cI, ↓b_idiv, ↓b_irem, li_0, li_1, li_2, li_12, li_48, li_256, li_2560, zI_add, zI_sub, zI_mul, zI_neg, ↓Option.bind_some, ↓g12_47, ↓g12_48, ↓al_240, ↓as_240, ↓al_241, ↓as_241, zIt2, uR_at, uR_ne, uR_uR, uC_uC, uC_at, ↓reduceIte, decide_eq_true_eq, leT, leF, ltT, ltF, eqT, eqF, ne_eq, not_true_eq_false, not_false_eq_true, Bool.false_eq_true, tI_zI]
              · have g5 := Decidable.not_not.mp g4
                have hpush := BfM_push (v := v9 + 1) hu g4
                have hm2 : (bpush (bin (wyK K) (sgA S z) (sgT S) st0 s9 (v9 + 1) t) (256 * t + x9) (v9 + 1)).2.2 = (bin (wyK K) (sgA S z) (sgT S) st0 s9 (v9 + 1) t).2.2 + 1 := by unfold bpush; rw [if_neg g4]
                have hcap : (bin (wyK K) (sgA S z) (sgT S) st0 s9 (v9 + 1) t).2.2 < 2560 := by
                  have h5 := (hbin (t + 1) (by omega)).1.1
                  rw [en, hm2] at h5
                  have h6 := cntN_rg (fun s => decide ((bpush (bin (wyK K) (sgA S z) (sgT S) st0 s9 (v9 + 1) t) (256 * t + x9) (v9 + 1)).1 s ≠ -1)) 2560
                  omega
                refine ⟨((uC u.1.1 ((bin (wyK K) (sgA S z) (sgT S) st0 s9 (v9 + 1) t).2.2 : Int) (zI ((256 * t + x9 : Nat) : Int)), uC u.1.2 ((256 * t + x9 : Nat) : Int) (zI (v9 + 1))), some (.int (zI w9)), some (.int (zI (256 * (t : Int) + (x9 : Int))))), by rw [en]; exact hpush, ?_⟩
                show runP MP e 302 _ = runP MP e 302 (71, [some (.ref 217), some (.int (zI (p : Int))), some (.int (zI z)), some (.int (zI ((bin (wyK K) (sgA S z) (sgT S) st0 s9 (v9 + 1) (t + 1)).2.2 : Nat))), some (.int (zI (i : Int))), some (.int (zI ((s9 / 256 : Nat) : Int))), some (.int (zI ((t + 1 : Nat) : Int))), some (.int (zI w9)), some (.int (zI (256 * (t : Int) + (x9 : Int))))], [], mk E (bmF F (uC u.1.1 ((bin (wyK K) (sgA S z) (sgT S) st0 s9 (v9 + 1) t).2.2 : Int) (zI ((256 * t + x9 : Nat) : Int))) (uC u.1.2 ((256 * t + x9 : Nat) : Int) (zI (v9 + 1)))) G)
                rw [h152, en, hm2, nsucc t, nsucc, show ((256 * t + x9 : Nat) : Int) = 256 * (t : Int) + (x9 : Int) by omega]
                rw [g5] at ers
                have erst : tI (u.1.2 (256 * (t : Int) + (x9 : Int))) = -1 := by rw [ers, tI_zI (by omega)]
                rw [q_302_152]; (try simp only [↓n_al, ↓n_idiv, ↓n_irem, ↓n_cI, li_0, li_1, li_2, li_12, li_48, li_256, li_2560, zI_add, zI_sub, zI_mul, zI_neg, ↓Option.bind_some]); simp (disch := (first | assumption | exact tI_rg _ | omega | exact uR_at | exact row_ne hF (by decide) | exact row_ne (row_ne hF (by decide)) (by decide) | exact SnS_18 | exact SnS_30 | exact LdS_44 | exact LdS_46)) only [q_302_0, q_302_113, q_302_202, hor, bmF_241, bmF_240, erst, euq, eud, bmF_w0, bmF_w1, ↓n_al, ↓n_idiv, ↓n_irem, ↓n_cI, ↓b_idiv, ↓b_irem, li_0, li_1, li_2, li_12, li_48, li_256, li_2560, zI_add, zI_sub, zI_mul, zI_neg, ↓Option.bind_some, ↓g12_47, ↓g12_48, ↓al_240, ↓as_240, ↓al_241, ↓as_241, zIt2, uR_at, uR_ne, uR_uR, uC_uC, uC_at, ↓reduceIte, decide_eq_true_eq, leT, leF, ltT, ltF, eqT, eqF, ne_eq, not_true_eq_false, not_false_eq_true, Bool.false_eq_true, tI_zI]
      obtain ⟨q, r, z5, z6, z7, z8, l1, l2⟩ := hloop
      refine ⟨((q, r), z5, z6, z7, z8), l1, ?_⟩
      show runP MP e 302 _ = runP MP e 302 _
      rw [nsucc, ← l2]
      rw [q_302_49]; (try simp only [↓n_al, ↓n_idiv, ↓n_irem, ↓n_cI, li_0, li_1, li_2, li_12, li_48, li_256, li_2560, zI_add, zI_sub, zI_mul, zI_neg, ↓Option.bind_some]); simp (disch := (first | assumption | exact tI_rg _ | omega | exact uR_at | exact row_ne hF (by decide) | exact row_ne (row_ne hF (by decide)) (by decide) | exact SnS_18 | exact SnS_30 | exact LdS_44 | exact LdS_46)) only [q_302_0, q_302_113, q_302_152, q_302_202, bmF_240, eq9t, ediv, ↓n_al, ↓n_idiv, ↓n_irem, ↓n_cI, ↓b_idiv, ↓b_irem, li_0, li_1, li_2, li_12, li_48, li_256, li_2560, zI_add, zI_sub, zI_mul, zI_neg, ↓Option.bind_some, ↓g12_47, ↓g12_48, ↓al_240, ↓as_240, ↓al_241, ↓as_241, zIt2, uR_at, uR_ne, uR_uR, uC_uC, uC_at, ↓reduceIte, decide_eq_true_eq, leT, leF, ltT, ltF, eqT, eqF, ne_eq, not_true_eq_false, not_false_eq_true, Bool.false_eq_true, tI_zI]
    · left
      refine ⟨s.1.1, s.1.2, ?_, fun x hx => ?_⟩
      · show runP MP e 302 _ = _
        rw [q_302_49]; (try simp only [↓n_al, ↓n_idiv, ↓n_irem, ↓n_cI, li_0, li_1, li_2, li_12, li_48, li_256, li_2560, zI_add, zI_sub, zI_mul, zI_neg, ↓Option.bind_some]); simp (disch := (first | assumption | exact tI_rg _ | omega | exact uR_at | exact row_ne hF (by decide) | exact row_ne (row_ne hF (by decide)) (by decide) | exact SnS_18 | exact SnS_30 | exact LdS_44 | exact LdS_46)) only [q_302_0, q_302_113, q_302_152, q_302_202, ↓n_al, ↓n_idiv, ↓n_irem, ↓n_cI, ↓b_idiv, ↓b_irem, li_0, li_1, li_2, li_12, li_48, li_256, li_2560, zI_add, zI_sub, zI_mul, zI_neg, ↓Option.bind_some, ↓g12_47, ↓g12_48, ↓al_240, ↓as_240, ↓al_241, ↓as_241, zIt2, uR_at, uR_ne, uR_uR, uC_uC, uC_at, ↓reduceIte, decide_eq_true_eq, leT, leF, ltT, ltF, eqT, eqF, ne_eq, not_true_eq_false, not_false_eq_true, Bool.false_eq_true, tI_zI]
      · rw [hs.1 x hx]
        unfold bD
        rw [bfs_stop g bEnd (by rw [bEnd_eq]; omega)]
end S94zv
