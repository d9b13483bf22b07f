/-! CLASS: slots of a bag -/
section S94zzzw
set_option linter.unusedVariables false
set_option linter.unusedSimpArgs false
def nbN (c : Nat) : Nat := if c = 0 then 0 else if c < 2 then 1 else if c < 4 then 2 else if c < 8 then 3 else 4
theorem nb_facts : ∀ c, c ≤ 14 → (∀ b, b < nbN c → c / 2 ^ b ≠ 0) ∧ c / 2 ^ nbN c = 0 ∧ nbN c ≤ c ∧ nbN c ≤ 4 ∧ c < 2 ^ nbN c := by decide
theorem nb_pos {c : Nat} (h : 0 < c) : 0 < nbN c := by
  unfold nbN
  rw [if_neg (by omega)]
  split
  · omega
  · split
    · omega
    · split <;> omega
theorem nb_0 : nbN 0 = 0 := rfl
theorem ct_83 {d : Nat} {E : EnQ} {F : Nat → Int → Int32} {G : Nat → Int → Int64} {c : Nat} (hc : c ≤ 14) (hd : 1 ≤ d) : callP MP d 83 [.int (zI (c : Int))] (mk E F G) = some (Sum.inl (some (.int (zI ((nbN c : Nat) : Int)))), mk E F G) := by
  obtain ⟨f1, f2, f3, f4, f5⟩ := nb_facts c hc
  refine into (D := 0) (by omega) hM_83 rfl rfl fun d hd => ?_
  show runP MP d 83 (0, [some (.int (zI (c : Int))), none], [], _) = _
  have h0 : runP MP d 83 (0, [some (.int (zI (c : Int))), none], [], mk E F G) = runP MP d 83 (2, [some (.int (zI (c : Int))), some (.int (zI ((0 : Nat) : Int)))], [], mk E F G) := by
    rw [q_83_0]; rfl
  rw [h0]
  refine (loopN (fun j : Nat => runP MP d 83 (2, [some (.int (zI (c : Int))), some (.int (zI (j : Nat)))], [], mk E F G)) (nbN c) (fun j hj => ?_)).trans ?_
  · show runP MP d 83 (2, [some (.int (zI (c : Int))), some (.int (zI (j : Nat)))], [], mk E F G) = runP MP d 83 (2, [some (.int (zI (c : Int))), some (.int (zI ((j + 1) : Nat)))], [], mk E F G)
    have hu := ushrZ c j (by omega) (by omega)
    have hne0 := f1 j hj
    have hle : c / 2 ^ j ≤ c := Nat.div_le_self _ _
    have hne : ¬ ((c / 2 ^ j : Nat) : Int) = 0 := fun z => hne0 (Int.natCast_eq_zero.mp z)
    have hz : (zI ((c / 2 ^ j : Nat) : Int) = zI 0) = False := by
      revert hne hle
      generalize c / 2 ^ j = q
      intro hne hle
      exact eqF (by omega)
    rw [nsucc]
    rw [q_83_2]; (try simp only [li_0, li_1, li_2, li_14, li_20, zI_add, zI_sub, zI_mul, zI_neg, ↓Option.bind_some]); simp (disch := (first | assumption | exact tI_rg _ | omega | exact uR_at | exact row_ne hF (by decide) | exact row_ne (row_ne hF (by decide)) (by decide) | exact SnS_18 | exact SnS_30 | exact LdS_44 | exact LdS_46)) only [q_83_0, q_83_20, hu, hz, li_0, li_1, li_2, li_14, li_20, zI_add, zI_sub, zI_mul, zI_neg, ↓Option.bind_some, zIt2, uR_at, uR_ne, uR_uR, uC_uC, uC_at, ↓reduceIte, decide_eq_true_eq, leT, leF, ltT, ltF, eqT, eqF, ne_eq, not_true_eq_false, not_false_eq_true, Bool.false_eq_true, tI_zI]
  · show runP MP d 83 (2, [some (.int (zI (c : Int))), some (.int (zI ((nbN c) : Nat)))], [], mk E F G) = _
    have hu := ushrZ c (nbN c) (by omega) (by omega)
    rw [f2] at hu
    have e0 : ((0 : Nat) : Int) = 0 := rfl
    rw [q_83_2]; (try simp only [li_0, li_1, li_2, li_14, li_20, zI_add, zI_sub, zI_mul, zI_neg, ↓Option.bind_some]); simp (disch := (first | assumption | exact tI_rg _ | omega | exact uR_at | exact row_ne hF (by decide) | exact row_ne (row_ne hF (by decide)) (by decide) | exact SnS_18 | exact SnS_30 | exact LdS_44 | exact LdS_46)) only [q_83_0, q_83_20, hu, e0, li_0, li_1, li_2, li_14, li_20, zI_add, zI_sub, zI_mul, zI_neg, ↓Option.bind_some, zIt2, uR_at, uR_ne, uR_uR, uC_uC, uC_at, ↓reduceIte, decide_eq_true_eq, leT, leF, ltT, ltF, eqT, eqF, ne_eq, not_true_eq_false, not_false_eq_true, Bool.false_eq_true, tI_zI]

theorem cc_83 {d : Nat} {E : EnQ} {F : Nat → Int → Int32} {G : Nat → Int → Int64} {kk : Int → HeapP → ResP} {kx : Nat → HeapP → ResP} {c : Nat} (hc : c ≤ 14) (hd : 1 ≤ d) : cT (callP MP d 83 [.int (zI (c : Int))] (mk E F G)) kk kx = kk ((nbN c : Nat) : Int) (mk E F G) := cT_ret (ct_83 hc hd) (by have := nb_facts c hc; omega)
/-- the slots of the ways below j -/
def SlI (lf : Nat → Nat) (j n : Nat) (sw nd st : Nat → Nat) : Prop := (∀ s, s < n → sw s < j ∧ 0 < lf (sw s) ∧ st s = lf (sw s) ∧ nd s = nbN (st s)) ∧ (∀ s t, s < t → t < n → sw s < sw t) ∧ (∀ v, v < j → 0 < lf v → ∃ s, s < n ∧ sw s = v) ∧ (shN nd n : Int) ≤ sumN (fun v => (lf v : Int)) j ∧ sumN (fun s => (st s : Int)) n = sumN (fun v => (lf v : Int)) j
def TlM (F : Nat → Int → Int32) (n : Nat) (sw nd st : Nat → Nat) : Prop := tI (F 178 1) = (n : Int) ∧ tI (F 178 2) = (encN nd st n : Int) ∧ ∀ s : Nat, s < n → tI (F 185 (s : Int)) = (sw s : Int) ∧ tI (F 186 (s : Int)) = (st s : Int) ∧ tI (F 187 (s : Int)) = (shN nd s : Int) ∧ tI (F 188 (s : Int)) = ((2 ^ nd s : Nat) : Int) - 1
def ex1 (f : Nat → Nat) (n v : Nat) : Nat → Nat := fun s => if s = n then v else f s
theorem ex1_at {f : Nat → Nat} {n v : Nat} : ex1 f n v n = v := if_pos rfl
theorem ex1_ne {f : Nat → Nat} {n v s : Nat} (h : s ≠ n) : ex1 f n v s = f s := if_neg h
theorem shN_congr {nd nd' : Nat → Nat} : ∀ n : Nat, (∀ t, t < n → nd t = nd' t) → shN nd n = shN nd' n
  | 0, _ => rfl
  | n + 1, h => by
    show shN nd n + nd n = shN nd' n + nd' n
    rw [shN_congr n (fun t ht => h t (by omega)), h n (by omega)]
theorem enc_congr2 {nd nd' c c' : Nat → Nat} : ∀ n : Nat, (∀ t, t < n → nd t = nd' t ∧ c t = c' t) → encN nd c n = encN nd' c' n
  | 0, _ => rfl
  | n + 1, h => by
    show encN nd c n + c n * 2 ^ shN nd n = encN nd' c' n + c' n * 2 ^ shN nd' n
    rw [enc_congr2 n (fun t ht => h t (by omega)), (h n (by omega)).2, shN_congr n (fun t ht => (h t (by omega)).1)]
theorem SlI_0 {lf sw nd st : Nat → Nat} : SlI lf 0 0 sw nd st := ⟨fun s h => by omega, fun s t _ h => by omega, fun v h => by omega, Int.le_refl _, rfl⟩
theorem SlI_skip {lf : Nat → Nat} {j n : Nat} {sw nd st : Nat → Nat} (h : SlI lf j n sw nd st) (hz : lf j = 0) : SlI lf (j + 1) n sw nd st := by
  obtain ⟨h1, h2, h3, h4, h5⟩ := h
  have e : sumN (fun v => (lf v : Int)) (j + 1) = sumN (fun v => (lf v : Int)) j + (lf j : Int) := rfl
  refine ⟨fun s hs => ⟨by have := (h1 s hs).1; omega, (h1 s hs).2⟩, h2, fun v hv h0 => ?_, by omega, by omega⟩
  by_cases c : v = j
  · rw [c] at h0; omega
  · exact h3 v (by omega) h0
theorem SlI_add {lf : Nat → Nat} {j n : Nat} {sw nd st : Nat → Nat} (h : SlI lf j n sw nd st) (hz : 0 < lf j) (hb : lf j ≤ 14) : SlI lf (j + 1) (n + 1) (ex1 sw n j) (ex1 nd n (nbN (lf j))) (ex1 st n (lf j)) := by
  obtain ⟨h1, h2, h3, h4, h5⟩ := h
  have e : sumN (fun v => (lf v : Int)) (j + 1) = sumN (fun v => (lf v : Int)) j + (lf j : Int) := rfl
  have hnb := (nb_facts (lf j) hb).2.2.1
  refine ⟨fun s hs => ?_, fun s t hst ht => ?_, fun v hv h0 => ?_, ?_, ?_⟩
  · by_cases c : s = n
    · subst c
      rw [ex1_at, ex1_at, ex1_at]; exact ⟨by omega, hz, rfl, rfl⟩
    · rw [ex1_ne c, ex1_ne c, ex1_ne c]
      have := h1 s (by omega)
      exact ⟨by omega, this.2⟩
  · by_cases c : t = n
    · subst c
      rw [ex1_at, ex1_ne (by omega)]; exact (h1 s (by omega)).1
    · rw [ex1_ne c, ex1_ne (by omega)]; exact h2 s t hst (by omega)
  · by_cases c : v = j
    · exact ⟨n, by omega, by rw [ex1_at, c]⟩
    · obtain ⟨s, hs, he⟩ := h3 v (by omega) h0
      exact ⟨s, by omega, by rw [ex1_ne (by omega)]; exact he⟩
  · show ((shN (ex1 nd n (nbN (lf j))) n + ex1 nd n (nbN (lf j)) n : Nat) : Int) ≤ _
    rw [ex1_at, shN_congr (nd' := nd) n (fun t ht => ex1_ne (by omega)), e]; omega
  · show sumN (fun s => ((ex1 st n (lf j) s : Nat) : Int)) n + ((ex1 st n (lf j) n : Nat) : Int) = _
    rw [ex1_at, sumN_congr (g := fun s => (st s : Int)) (fun s hs => by show ((ex1 st n (lf j) s : Nat) : Int) = _; rw [ex1_ne (by omega)]), e]; omega
def kp6 (F F1 : Nat → Int → Int32) : Prop := ∀ q, q ≠ 178 → q ≠ 185 → q ≠ 186 → q ≠ 187 → q ≠ 188 → F1 q = F q
theorem ct_82 {d : Nat} {E : EnQ} {F : Nat → Int → Int32} {G : Nat → Int → Int64} {pl : Nat} {lf : Nat → Nat} (hb : ∀ v : Nat, v < 32 → tI (F 207 (v : Int)) = (lf v : Int)) (hs : sumN (fun v => (lf v : Int)) 32 ≤ 14) (hd : 2 ≤ d) :
    ∃ F1, callP MP d 82 [.ref 178, .ref pl, .ref 207] (mk E F G) = some (Sum.inl none, mk (uE E 178 0 pl) F1 G) ∧ kp6 F F1 ∧ ∃ n sw nd st, SlI lf 32 n sw nd st ∧ TlM F1 n sw nd st := by
  obtain ⟨E1, hE1⟩ : ∃ E1, E1 = uE E 178 0 pl := ⟨_, rfl⟩
  obtain ⟨W, hW⟩ : ∃ W : Nat, W = 32 := ⟨_, rfl⟩
  have hlen : ∀ {F : Nat → Int → Int32} {f : Int → ResP}, (lenT (mk E1 F G) 207).bind f = f (W : Int) := fun {F f} => by rw [hW]; exact len_I (n := 32) (by rfl) (by decide)
  obtain ⟨F0, hF0⟩ : ∃ F0, F0 = uR F 178 (uC (uC (F 178) 1 (zI 0)) 2 (zI 0)) := ⟨_, rfl⟩
  rw [← hE1]
  obtain ⟨e, rfl⟩ : ∃ e, d = e + 1 := ⟨d - 1, by omega⟩
  have hin : callP MP (e + 1) 82 [.ref 178, .ref pl, .ref 207] (mk E F G) = runP MP e 82 (0, [some (.ref 178), some (.ref pl), some (.ref 207), none, none, none], [], mk E F G) := into_eq (by omega) hM_82 (rcv_mk rfl (by decide)) rfl
  have h0 : runP MP e 82 (0, [some (.ref 178), some (.ref pl), some (.ref 207), none, none, none], [], mk E F G) = runP MP e 82 (20, [some (.ref 178), some (.ref pl), some (.ref 207), some (.int (zI 0)), some (.int (zI 0)), none], [], mk E1 F0 G) := by
    rw [hF0, hE1]
    rw [q_82_0]; (try simp only [↓n_rd, ↓n_al, ↓n_len, ↓n_cI, li_0, li_1, li_2, li_3, li_4, li_5, li_6, li_14, li_20, li_129, zI_add, zI_sub, zI_mul, zI_neg, ↓Option.bind_some]); simp (disch := (first | assumption | exact tI_rg _ | omega | exact uR_at | exact row_ne hF (by decide) | exact row_ne (row_ne hF (by decide)) (by decide) | exact SnS_18 | exact SnS_30 | exact LdS_44 | exact LdS_46)) only [q_82_129, ↓n_rd, ↓n_al, ↓n_len, ↓n_cI, li_0, li_1, li_2, li_3, li_4, li_5, li_6, li_14, li_20, li_129, zI_add, zI_sub, zI_mul, zI_neg, ↓Option.bind_some, ↓g6_1, ↓g6_2, ↓g6_3, ↓g6_4, ↓g6_5, ↓g6_6, ↓p6_0, ↓p6_1, ↓p6_2, ↓al_185, ↓as_185, ↓al_186, ↓as_186, ↓al_187, ↓as_187, ↓al_188, ↓as_188, zIt2, uR_at, uR_ne, uR_uR, uC_uC, uC_at, ↓reduceIte, decide_eq_true_eq, leT, leF, ltT, ltF, eqT, eqF, ne_eq, not_true_eq_false, not_false_eq_true, Bool.false_eq_true, tI_zI]
  have hle : ∀ v : Nat, v < 32 → (lf v : Int) ≤ 14 := fun v hv => Int.le_trans (sumN_le1 (f := fun v => (lf v : Int)) hv (fun _ _ => Int.natCast_nonneg _)) hs
  have hmono : ∀ j : Nat, j ≤ 32 → sumN (fun v => (lf v : Int)) j ≤ 14 := fun j hj => by
    have : ∀ m, sumN (fun v => (lf v : Int)) j ≤ sumN (fun v => (lf v : Int)) (j + m) := by
      intro m
      induction m with
      | zero => exact Int.le_refl _
      | succ m ih =>
        show _ ≤ sumN (fun v => (lf v : Int)) (j + m) + (lf (j + m) : Int)
        omega
    have h := this (32 - j)
    rw [show j + (32 - j) = 32 by omega] at h
    omega
  have hmain : ∃ F1, runP MP e 82 (20, [some (.ref 178), some (.ref pl), some (.ref 207), some (.int (zI 0)), some (.int (zI ((0 : Nat) : Int))), none], [], mk E1 F0 G) = some (Sum.inl none, mk E1 F1 G) ∧ kp6 F F1 ∧ ∃ n sw nd st, SlI lf 32 n sw nd st ∧ TlM F1 n sw nd st := by
    refine loopS (σ := (Nat → Int → Int32) × Int × Option Value) (Post := fun r => ∃ F1, r = some (Sum.inl none, mk E1 F1 G) ∧ kp6 F F1 ∧ ∃ n sw nd st, SlI lf 32 n sw nd st ∧ TlM F1 n sw nd st)
      (fun j s => runP MP e 82 (20, [some (.ref 178), some (.ref pl), some (.ref 207), some (.int (zI s.2.1)), some (.int (zI (j : Int))), s.2.2], [], mk E1 s.1 G))
      (fun j s => kp6 F s.1 ∧ ∃ n sw nd st, SlI lf j n sw nd st ∧ TlM s.1 n sw nd st ∧ s.2.1 = (shN nd n : Int)) W (F0, 0, none) ⟨fun q a b c d e => by rw [hF0]; exact uR_ne a, 0, fun _ => 0, fun _ => 0, fun _ => 0, SlI_0, ⟨?_, ?_, fun s h => by omega⟩, rfl⟩ (fun s hI2 => ?_) (fun j s hj hI2 => ?_)
    · show tI (F0 178 1) = 0
      rw [hF0, uR_at, uC_ne (by decide), uC_at]; exact tI_zI (by omega)
    · show tI (F0 178 2) = 0
      rw [hF0, uR_at, uC_at]; exact tI_zI (by omega)
    · obtain ⟨j1, n, sw, nd, st, j2, j3, -⟩ := hI2
      rw [hW] at j2
      refine ⟨s.1, ?_, j1, n, sw, nd, st, j2, j3⟩
      show runP MP e 82 _ = _
      rw [q_82_20]; (try simp only [↓n_rd, ↓n_al, ↓n_len, ↓n_cI, li_0, li_1, li_2, li_3, li_4, li_5, li_6, li_14, li_20, li_129, zI_add, zI_sub, zI_mul, zI_neg, ↓Option.bind_some]); simp (disch := (first | assumption | exact tI_rg _ | omega | exact uR_at | exact row_ne hF (by decide) | exact row_ne (row_ne hF (by decide)) (by decide) | exact SnS_18 | exact SnS_30 | exact LdS_44 | exact LdS_46)) only [q_82_0, q_82_129, ↓hlen, ↓n_rd, ↓n_al, ↓n_len, ↓n_cI, li_0, li_1, li_2, li_3, li_4, li_5, li_6, li_14, li_20, li_129, zI_add, zI_sub, zI_mul, zI_neg, ↓Option.bind_some, ↓g6_1, ↓g6_2, ↓g6_3, ↓g6_4, ↓g6_5, ↓g6_6, ↓p6_0, ↓p6_1, ↓p6_2, ↓al_185, ↓as_185, ↓al_186, ↓as_186, ↓al_187, ↓as_187, ↓al_188, ↓as_188, zIt2, uR_at, uR_ne, uR_uR, uC_uC, uC_at, ↓reduceIte, decide_eq_true_eq, leT, leF, ltT, ltF, eqT, eqF, ne_eq, not_true_eq_false, not_false_eq_true, Bool.false_eq_true, tI_zI]
    · obtain ⟨j1, n, sw, nd, st, j2, j3, j4⟩ := hI2
      right
      have hj32 : j < 32 := by omega
      have hlj := hle j hj32
      have hbj : tI (s.1 207 (j : Int)) = (lf j : Int) := by rw [j1 207 (by decide) (by decide) (by decide) (by decide) (by decide)]; exact hb j hj32
      have hnb := nb_facts (lf j) (by omega)
      obtain ⟨t1, t2, t3⟩ := j3
      have hsum := hmono (j + 1) (by omega)
      have hsum : sumN (fun v => (lf v : Int)) j + (lf j : Int) ≤ 14 := hsum
      have hsh := j2.2.2.2.1
      have hnn := shN_ge (nd := nd) n (fun t ht => by rw [(j2.1 t ht).2.2.2]; exact nb_pos (by rw [(j2.1 t ht).2.2.1]; exact (j2.1 t ht).2.1))
      by_cases c : lf j = 0
      · refine ⟨(s.1, s.2.1, some (.int (zI 0))), ⟨j1, n, sw, nd, st, SlI_skip j2 c, ⟨t1, t2, t3⟩, j4⟩, ?_⟩
        show runP MP e 82 _ = runP MP e 82 _
        have c83 : ∀ {kk : Int → HeapP → ResP} {kx : Nat → HeapP → ResP}, cT (callP MP e 83 [.int (zI (lf j : Int))] (mk E1 s.1 G)) kk kx = kk 0 (mk E1 s.1 G) := fun {kk kx} => by rw [cc_83 (by omega) (by omega), c, nb_0]; rfl
        rw [nsucc]
        rw [q_82_20]; (try simp only [↓n_rd, ↓n_al, ↓n_len, ↓n_cI, li_0, li_1, li_2, li_3, li_4, li_5, li_6, li_14, li_20, li_129, zI_add, zI_sub, zI_mul, zI_neg, ↓Option.bind_some]); simp (disch := (first | assumption | exact tI_rg _ | omega | exact uR_at | exact row_ne hF (by decide) | exact row_ne (row_ne hF (by decide)) (by decide) | exact SnS_18 | exact SnS_30 | exact LdS_44 | exact LdS_46)) only [q_82_0, q_82_129, ↓hlen, ↓al_207, hbj, ↓c83, ↓n_rd, ↓n_al, ↓n_len, ↓n_cI, li_0, li_1, li_2, li_3, li_4, li_5, li_6, li_14, li_20, li_129, zI_add, zI_sub, zI_mul, zI_neg, ↓Option.bind_some, ↓g6_1, ↓g6_2, ↓g6_3, ↓g6_4, ↓g6_5, ↓g6_6, ↓p6_0, ↓p6_1, ↓p6_2, ↓al_185, ↓as_185, ↓al_186, ↓as_186, ↓al_187, ↓as_187, ↓al_188, ↓as_188, zIt2, uR_at, uR_ne, uR_uR, uC_uC, uC_at, ↓reduceIte, decide_eq_true_eq, leT, leF, ltT, ltF, eqT, eqF, ne_eq, not_true_eq_false, not_false_eq_true, Bool.false_eq_true, tI_zI]
      · have c83 : ∀ {kk : Int → HeapP → ResP} {kx : Nat → HeapP → ResP}, cT (callP MP e 83 [.int (zI (lf j : Int))] (mk E1 s.1 G)) kk kx = kk ((nbN (lf j) : Nat) : Int) (mk E1 s.1 G) := fun {kk kx} => cc_83 (by omega) (by omega)
        have hpos := nb_pos (c := lf j) (by omega)
        have hsl := SlI_add j2 (by omega) (by omega)
        have hs1 := shl1 (p := ((nbN (lf j) : Nat) : Int)) (by omega)
        rw [show ((nbN (lf j) : Nat) : Int).toNat = nbN (lf j) by omega] at hs1
        have hs2 := shlZ (lf j) (shN nd n) (by omega)
        rw [← j4] at hs2
        have henc : encN nd st n < 2 ^ shN nd n := enc_lt n (fun t ht => by
          have h := j2.1 t ht
          have hle := hle (sw t) (by omega)
          rw [h.2.2.2]
          exact (nb_facts (st t) (by rw [h.2.2.1]; omega)).2.2.2.2)
        refine ⟨(uR (uR (uR (uR (uR s.1 185 (uC (s.1 185) (n : Int) (zI (j : Int)))) 186 (uC (s.1 186) (n : Int) (zI (lf j : Int)))) 187 (uC (s.1 187) (n : Int) (zI s.2.1))) 188 (uC (s.1 188) (n : Int) (zI (((2 ^ nbN (lf j) : Nat) : Int) - 1)))) 178 (uC (uC (s.1 178) 2 (zI ((encN nd st n : Int) + ((lf j * 2 ^ shN nd n : Nat) : Int)))) 1 (zI ((n : Int) + 1))), s.2.1 + ((nbN (lf j) : Nat) : Int), some (.int (zI ((nbN (lf j) : Nat) : Int)))), ⟨fun q a1 a2 a3 a4 a5 => ?_, n + 1, ex1 sw n j, ex1 nd n (nbN (lf j)), ex1 st n (lf j), hsl, ⟨?_, ?_, fun t ht => ?_⟩, ?_⟩, ?_⟩
        · dsimp only
          rw [uR_ne a1, uR_ne a5, uR_ne a4, uR_ne a3, uR_ne a2]; exact j1 q a1 a2 a3 a4 a5
        · dsimp only
          rw [uR_at, uC_at, tI_zI (by omega)]; rfl
        · dsimp only
          have h14 : shN nd n + nbN (lf j) ≤ 14 := by omega
          have hl2 := hnb.2.2.2.2
          have hmul : lf j * 2 ^ shN nd n < 2 ^ nbN (lf j) * 2 ^ shN nd n := Nat.mul_lt_mul_of_pos_right hl2 (Nat.two_pow_pos _)
          rw [← Nat.pow_add] at hmul
          have hp1 : 2 ^ (nbN (lf j) + shN nd n) ≤ 2 ^ 14 := Nat.pow_le_pow_right (by omega) (by omega)
          have hp2 : 2 ^ shN nd n ≤ 2 ^ 14 := Nat.pow_le_pow_right (by omega) (by omega)
          rw [uR_at, uC_ne (by decide), uC_at, tI_zI (by omega)]
          show _ = ((encN (ex1 nd n (nbN (lf j))) (ex1 st n (lf j)) n + ex1 st n (lf j) n * 2 ^ shN (ex1 nd n (nbN (lf j))) n : Nat) : Int)
          rw [ex1_at, shN_congr (nd' := nd) n (fun t ht => ex1_ne (by omega)), enc_congr2 (nd' := nd) (c' := st) n (fun t ht => ⟨ex1_ne (by omega), ex1_ne (by omega)⟩)]
          rfl
        · have e185 : ∀ r : Int → Int32, uR (uR (uR (uR (uR s.1 185 (uC (s.1 185) (n : Int) (zI (j : Int)))) 186 (uC (s.1 186) (n : Int) (zI (lf j : Int)))) 187 (uC (s.1 187) (n : Int) (zI s.2.1))) 188 (uC (s.1 188) (n : Int) (zI (((2 ^ nbN (lf j) : Nat) : Int) - 1)))) 178 r 185 = uC (s.1 185) (n : Int) (zI (j : Int)) := fun r => by
            rw [uR_ne (by decide), uR_ne (by decide), uR_ne (by decide), uR_ne (by decide), uR_at]
          have e186 : ∀ r : Int → Int32, uR (uR (uR (uR (uR s.1 185 (uC (s.1 185) (n : Int) (zI (j : Int)))) 186 (uC (s.1 186) (n : Int) (zI (lf j : Int)))) 187 (uC (s.1 187) (n : Int) (zI s.2.1))) 188 (uC (s.1 188) (n : Int) (zI (((2 ^ nbN (lf j) : Nat) : Int) - 1)))) 178 r 186 = uC (s.1 186) (n : Int) (zI (lf j : Int)) := fun r => by
            rw [uR_ne (by decide), uR_ne (by decide), uR_ne (by decide), uR_at]
          have e187 : ∀ r : Int → Int32, uR (uR (uR (uR (uR s.1 185 (uC (s.1 185) (n : Int) (zI (j : Int)))) 186 (uC (s.1 186) (n : Int) (zI (lf j : Int)))) 187 (uC (s.1 187) (n : Int) (zI s.2.1))) 188 (uC (s.1 188) (n : Int) (zI (((2 ^ nbN (lf j) : Nat) : Int) - 1)))) 178 r 187 = uC (s.1 187) (n : Int) (zI s.2.1) := fun r => by
            rw [uR_ne (by decide), uR_ne (by decide), uR_at]
          have e188 : ∀ r : Int → Int32, uR (uR (uR (uR (uR s.1 185 (uC (s.1 185) (n : Int) (zI (j : Int)))) 186 (uC (s.1 186) (n : Int) (zI (lf j : Int)))) 187 (uC (s.1 187) (n : Int) (zI s.2.1))) 188 (uC (s.1 188) (n : Int) (zI (((2 ^ nbN (lf j) : Nat) : Int) - 1)))) 178 r 188 = uC (s.1 188) (n : Int) (zI (((2 ^ nbN (lf j) : Nat) : Int) - 1)) := fun r => by
            rw [uR_ne (by decide), uR_at]
          dsimp only
          rw [e185, e186, e187, e188]
          have hp3 : 2 ^ nbN (lf j) ≤ 2 ^ 4 := Nat.pow_le_pow_right (by omega) (by omega)
          have hp4 := Nat.two_pow_pos (nbN (lf j))
          by_cases z : t = n
          · subst z
            rw [uC_at, uC_at, uC_at, uC_at, tI_zI (by omega), tI_zI (by omega), tI_zI (by omega), tI_zI (by omega), ex1_at, ex1_at, ex1_at, shN_congr (nd' := nd) t (fun t ht => ex1_ne (by omega)), j4]
            exact ⟨rfl, rfl, rfl, rfl⟩
          · rw [uC_ne (by omega), uC_ne (by omega), uC_ne (by omega), uC_ne (by omega), ex1_ne z, ex1_ne z, ex1_ne z, shN_congr (nd' := nd) t (fun t ht => ex1_ne (by omega))]
            exact t3 t (by omega)
        · show s.2.1 + ((nbN (lf j) : Nat) : Int) = ((shN (ex1 nd n (nbN (lf j))) n + ex1 nd n (nbN (lf j)) n : Nat) : Int)
          rw [ex1_at, shN_congr (nd' := nd) n (fun t ht => ex1_ne (by omega)), j4]; rfl
        · show runP MP e 82 _ = runP MP e 82 _
          rw [nsucc]
          have hlim : ¬ 14 < s.2.1 + ((nbN (lf j) : Nat) : Int) := by omega
          have hrg : 0 ≤ s.2.1 ∧ s.2.1 ≤ 14 := by omega
          rw [q_82_20]; (try simp only [↓n_rd, ↓n_al, ↓n_len, ↓n_cI, li_0, li_1, li_2, li_3, li_4, li_5, li_6, li_14, li_20, li_129, zI_add, zI_sub, zI_mul, zI_neg, ↓Option.bind_some]); simp (disch := (first | assumption | exact tI_rg _ | omega | exact uR_at | exact row_ne hF (by decide) | exact row_ne (row_ne hF (by decide)) (by decide) | exact SnS_18 | exact SnS_30 | exact LdS_44 | exact LdS_46)) only [q_82_0, q_82_129, ↓hlen, ↓al_207, hbj, ↓c83, t1, t2, hs1, hs2, ↓as_185, ↓as_186, ↓as_187, ↓as_188, uC_ne, ↓n_rd, ↓n_al, ↓n_len, ↓n_cI, li_0, li_1, li_2, li_3, li_4, li_5, li_6, li_14, li_20, li_129, zI_add, zI_sub, zI_mul, zI_neg, ↓Option.bind_some, ↓g6_1, ↓g6_2, ↓g6_3, ↓g6_4, ↓g6_5, ↓g6_6, ↓p6_0, ↓p6_1, ↓p6_2, ↓al_185, ↓as_185, ↓al_186, ↓as_186, ↓al_187, ↓as_187, ↓al_188, ↓as_188, zIt2, uR_at, uR_ne, uR_uR, uC_uC, uC_at, ↓reduceIte, decide_eq_true_eq, leT, leF, ltT, ltF, eqT, eqF, ne_eq, not_true_eq_false, not_false_eq_true, Bool.false_eq_true, tI_zI]
  obtain ⟨F1, r1, r2⟩ := hmain
  refine ⟨F1, ?_, r2⟩
  rw [hin, h0]; exact r1
end S94zzzw
