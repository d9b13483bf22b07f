/-! is it the word -/
section S94zzf
set_option linter.unusedVariables false
set_option linter.unusedSimpArgs false
def sameW (T : Nat → Int) (k b : Nat) : Bool := decide (fndN (fun i => !(T (b + i) == wbyt k i)) (wlen k) 0 = -1)
theorem sameW_t {T : Nat → Int} {k b : Nat} (h : ∀ i, i < wlen k → T (b + i) = wbyt k i) : sameW T k b = true :=
  decide_eq_true (fndN_none (fun i _ hi => by rw [h i (by omega)]; simp))
theorem sameW_f {T : Nat → Int} {k b j : Nat} (hj : j < wlen k) (h : T (b + j) ≠ wbyt k j) : sameW T k b = false := by
  refine decide_eq_false (fun z => ?_)
  rcases fndN_is (fun i => !(T (b + i) == wbyt k i)) (wlen k) 0 with ⟨-, h2⟩ | ⟨k', -, -, h3, -, -⟩
  · have := h2 j (by omega) (by omega)
    rw [Bool.not_eq_false', beq_iff_eq] at this
    exact h this
  · rw [h3] at z; omega
def isW (T : Nat → Int) (k : Nat) (t : TkS) : Bool := decide (t.1 = 1 ∧ t.2.2.1 - t.2.1 = (wlen k : Nat) ∧ sameW T k t.2.1.toNat = true)
def RdT (r : Int → Int32) (t : TkS) : Prop := r 2 = zI t.1 ∧ r 3 = zI t.2.1 ∧ r 4 = zI t.2.2.1 ∧ (t.1 = 2 → r 5 = zI t.2.2.2)
def MoT (r : Int → Int32) (t : TkS) : Prop := r 11 = zI t.1 ∧ r 10 = zI t.2.1 ∧ r 9 = zI t.2.2.1 ∧ (t.1 = 2 → r 12 = zI t.2.2.2)
theorem ct_43 {d : Nat} {E : EnQ} {F : Nat → Int → Int32} {G : Nat → Int → Int64} {T : Nat → Int} {n a k : Nat} {t : TkS} (hs : shx E a = (1, 3, 0)) (hr0 : rfQ E a 0 = 17) (hT : TxR F T n) (ht : TkI n t) (hR : RdT (F a) t) (hk : k < 7) (hd : 3 ≤ d) : callP MP d 43 [.ref a, .ref (1 + k)] (mk E F G) = some (Sum.inl (some (.int (zI (if isW T k t = true then 1 else 0)))), mk E F G) := by

  have hn6 := hT.1
  obtain ⟨r2, r3, r4, -⟩ := hR
  obtain ⟨kd, bg, ed, v⟩ := t
  obtain ⟨h1, h2, h3, h4, -, -⟩ := ht
  replace r2 : F a 2 = zI kd := r2
  replace r3 : F a 3 = zI bg := r3
  replace r4 : F a 4 = zI ed := r4
  replace h1 : 0 ≤ kd ∧ kd ≤ 4 := h1
  replace h2 : 0 ≤ bg := h2
  replace h3 : bg ≤ ed := h3
  replace h4 : ed ≤ n := h4
  obtain ⟨b, rfl⟩ : ∃ m : Nat, bg = (m : Int) := ⟨bg.toNat, by omega⟩
  have hw := wl_rg k
  have e : isW T k (kd, (b : Int), ed, v) = true ↔ (kd = 1 ∧ ed - (b : Int) = (wlen k : Nat) ∧ sameW T k b = true) := by
    unfold isW; rw [decide_eq_true_eq, show ((kd, (b : Int), ed, v) : TkS).2.1.toNat = b from Int.toNat_natCast b]
  refine into (D := 2) (by omega) hM_43 (rcv_mk hs (by decide)) rfl fun d hd => ?_
  show runP MP d 43 (0, [some (.ref a), some (.ref (1 + k)), none], [], _) = _
  by_cases c1 : kd = 1
  · by_cases c2 : ed - (b : Int) = (wlen k : Nat)
    · have h28 : runP MP d 43 (0, [some (.ref a), some (.ref (1 + k)), none], [], mk E F G) = runP MP d 43 (28, [some (.ref a), some (.ref (1 + k)), some (.int (zI ((0 : Nat) : Int)))], [], mk E F G) := by
        rw [q_43_0]; (try simp only [↓n_rd, ↓n_al, ↓n_cI, li_0, li_1, li_2, li_3, li_4, li_7, li_9, li_24, zI_add, zI_sub, zI_mul, zI_neg, ↓Option.bind_some]); simp (disch := (first | assumption | exact tI_rg _ | omega | exact uR_at | exact row_ne hF (by decide) | exact row_ne (row_ne hF (by decide)) (by decide) | exact SnS_18 | exact SnS_30 | exact LdS_44 | exact LdS_46)) only [q_43_24, r2, r3, r4, ↓cc_7 hk, ↓n_rd, ↓n_al, ↓n_cI, retZ_z, li_0, li_1, li_2, li_3, li_4, li_7, li_9, li_24, zI_add, zI_sub, zI_mul, zI_neg, ↓Option.bind_some, ↓g3_0, ↓g3_2, ↓g3_3, ↓g3_4, zIt2, uR_at, uR_ne, uR_uR, uC_uC, uC_at, ↓reduceIte, decide_eq_true_eq, leT, leF, ltT, ltF, eqT, eqF, ne_eq, not_true_eq_false, not_false_eq_true, Bool.false_eq_true, tI_zI]
        rfl
      rw [h28]
      have e2 : (if isW T k (kd, (b : Int), ed, v) = true then (1 : Int) else 0) = if sameW T k b = true then 1 else 0 := by
        by_cases c3 : sameW T k b = true
        · rw [if_pos c3, if_pos (e.mpr ⟨c1, c2, c3⟩)]
        · rw [if_neg c3, if_neg (fun z => c3 (e.mp z).2.2)]
      rw [e2]
      refine loopS (σ := Unit) (Post := fun r => r = some (Sum.inl (some (.int (zI (if sameW T k b = true then 1 else 0)))), mk E F G))
        (fun j _ => runP MP d 43 (28, [some (.ref a), some (.ref (1 + k)), some (.int (zI (j : Int)))], [], mk E F G))
        (fun j _ => ∀ i, i < j → T (b + i) = wbyt k i) (wlen k) () (fun i hi => by omega) (fun s hI2 => ?_) (fun j s hj hI2 => ?_)
      · show runP MP d 43 _ = _
        rw [if_pos (sameW_t hI2)]
        rw [q_43_28]; (try simp only [↓n_rd, ↓n_al, ↓n_cI, li_0, li_1, li_2, li_3, li_4, li_7, li_9, li_24, zI_add, zI_sub, zI_mul, zI_neg, ↓Option.bind_some]); simp (disch := (first | assumption | exact tI_rg _ | omega | exact uR_at | exact row_ne hF (by decide) | exact row_ne (row_ne hF (by decide)) (by decide) | exact SnS_18 | exact SnS_30 | exact LdS_44 | exact LdS_46)) only [q_43_0, q_43_24, ↓cc_7 hk, ↓n_rd, ↓n_al, ↓n_cI, retZ_z, li_0, li_1, li_2, li_3, li_4, li_7, li_9, li_24, zI_add, zI_sub, zI_mul, zI_neg, ↓Option.bind_some, ↓g3_0, ↓g3_2, ↓g3_3, ↓g3_4, zIt2, uR_at, uR_ne, uR_uR, uC_uC, uC_at, ↓reduceIte, decide_eq_true_eq, leT, leF, ltT, ltF, eqT, eqF, ne_eq, not_true_eq_false, not_false_eq_true, Bool.false_eq_true, tI_zI]
      · have hx9 := hT.2 (b + j) (by omega)
        have hb9 := wb_rg k j
        by_cases g : T (b + j) = wbyt k j
        · right
          refine ⟨(), fun i hi => ?_, ?_⟩
          · by_cases z : i = j
            · rw [z]; exact g
            · exact hI2 i (by omega)
          · show runP MP d 43 _ = runP MP d 43 _
            have hx : tI (F 17 ((b : Int) + (j : Int))) = wbyt k j := by
              have := hx9.2
              rw [if_pos (by omega)] at this
              rw [← g, ← this]; rfl
            rw [q_43_28]; (try simp only [↓n_rd, ↓n_al, ↓n_cI, li_0, li_1, li_2, li_3, li_4, li_7, li_9, li_24, zI_add, zI_sub, zI_mul, zI_neg, ↓Option.bind_some]); simp (disch := (first | assumption | exact tI_rg _ | omega | exact uR_at | exact row_ne hF (by decide) | exact row_ne (row_ne hF (by decide)) (by decide) | exact SnS_18 | exact SnS_30 | exact LdS_44 | exact LdS_46)) only [q_43_0, q_43_24, r3, hr0, ↓al_17, ↓cc_7 hk, ↓cc_9 hk hj, hx, nsucc, ↓n_rd, ↓n_al, ↓n_cI, retZ_z, li_0, li_1, li_2, li_3, li_4, li_7, li_9, li_24, zI_add, zI_sub, zI_mul, zI_neg, ↓Option.bind_some, ↓g3_0, ↓g3_2, ↓g3_3, ↓g3_4, zIt2, uR_at, uR_ne, uR_uR, uC_uC, uC_at, ↓reduceIte, decide_eq_true_eq, leT, leF, ltT, ltF, eqT, eqF, ne_eq, not_true_eq_false, not_false_eq_true, Bool.false_eq_true, tI_zI]
        · left
          show runP MP d 43 _ = _
          rw [if_neg (by rw [sameW_f hj g]; exact Bool.false_ne_true)]
          have hx : tI (F 17 ((b : Int) + (j : Int))) ≠ wbyt k j := by
            have := hx9.2
            rw [show ((b + j : Nat) : Int) = (b : Int) + (j : Int) from rfl] at this
            rw [this]
            split <;> omega
          have hy := tI_rg (F 17 ((b : Int) + (j : Int)))
          rw [q_43_28]; (try simp only [↓n_rd, ↓n_al, ↓n_cI, li_0, li_1, li_2, li_3, li_4, li_7, li_9, li_24, zI_add, zI_sub, zI_mul, zI_neg, ↓Option.bind_some]); simp (disch := (first | assumption | exact tI_rg _ | omega | exact uR_at | exact row_ne hF (by decide) | exact row_ne (row_ne hF (by decide)) (by decide) | exact SnS_18 | exact SnS_30 | exact LdS_44 | exact LdS_46)) only [q_43_0, q_43_24, r3, hr0, ↓al_17, ↓cc_7 hk, ↓cc_9 hk hj, hx, nsucc, ↓n_rd, ↓n_al, ↓n_cI, retZ_z, li_0, li_1, li_2, li_3, li_4, li_7, li_9, li_24, zI_add, zI_sub, zI_mul, zI_neg, ↓Option.bind_some, ↓g3_0, ↓g3_2, ↓g3_3, ↓g3_4, zIt2, uR_at, uR_ne, uR_uR, uC_uC, uC_at, ↓reduceIte, decide_eq_true_eq, leT, leF, ltT, ltF, eqT, eqF, ne_eq, not_true_eq_false, not_false_eq_true, Bool.false_eq_true, tI_zI]
    · rw [if_neg (fun z => c2 (e.mp z).2.1)]
      rw [q_43_0]; (try simp only [↓n_rd, ↓n_al, ↓n_cI, li_0, li_1, li_2, li_3, li_4, li_7, li_9, li_24, zI_add, zI_sub, zI_mul, zI_neg, ↓Option.bind_some]); simp (disch := (first | assumption | exact tI_rg _ | omega | exact uR_at | exact row_ne hF (by decide) | exact row_ne (row_ne hF (by decide)) (by decide) | exact SnS_18 | exact SnS_30 | exact LdS_44 | exact LdS_46)) only [q_43_24, r2, r3, r4, ↓cc_7 hk, ↓n_rd, ↓n_al, ↓n_cI, retZ_z, li_0, li_1, li_2, li_3, li_4, li_7, li_9, li_24, zI_add, zI_sub, zI_mul, zI_neg, ↓Option.bind_some, ↓g3_0, ↓g3_2, ↓g3_3, ↓g3_4, zIt2, uR_at, uR_ne, uR_uR, uC_uC, uC_at, ↓reduceIte, decide_eq_true_eq, leT, leF, ltT, ltF, eqT, eqF, ne_eq, not_true_eq_false, not_false_eq_true, Bool.false_eq_true, tI_zI]
  · rw [if_neg (fun z => c1 (e.mp z).1)]
    rw [q_43_0]; (try simp only [↓n_rd, ↓n_al, ↓n_cI, li_0, li_1, li_2, li_3, li_4, li_7, li_9, li_24, zI_add, zI_sub, zI_mul, zI_neg, ↓Option.bind_some]); simp (disch := (first | assumption | exact tI_rg _ | omega | exact uR_at | exact row_ne hF (by decide) | exact row_ne (row_ne hF (by decide)) (by decide) | exact SnS_18 | exact SnS_30 | exact LdS_44 | exact LdS_46)) only [q_43_24, r2, r3, r4, ↓cc_7 hk, ↓n_rd, ↓n_al, ↓n_cI, retZ_z, li_0, li_1, li_2, li_3, li_4, li_7, li_9, li_24, zI_add, zI_sub, zI_mul, zI_neg, ↓Option.bind_some, ↓g3_0, ↓g3_2, ↓g3_3, ↓g3_4, zIt2, uR_at, uR_ne, uR_uR, uC_uC, uC_at, ↓reduceIte, decide_eq_true_eq, leT, leF, ltT, ltF, eqT, eqF, ne_eq, not_true_eq_false, not_false_eq_true, Bool.false_eq_true, tI_zI]
theorem cc_43 {d : Nat} {E : EnQ} {F : Nat → Int → Int32} {G : Nat → Int → Int64} {kk : Int → HeapP → ResP} {kx : Nat → HeapP → ResP} {T : Nat → Int} {n a k : Nat} {t : TkS} (hs : shx E a = (1, 3, 0)) (hr0 : rfQ E a 0 = 17) (hT : TxR F T n) (ht : TkI n t) (hR : RdT (F a) t) (hk : k < 7) (hd : 3 ≤ d) : cT (callP MP d 43 [.ref a, .ref (1 + k)] (mk E F G)) kk kx = kk (if isW T k t = true then 1 else 0) (mk E F G) := cT_ret (by apply ct_43 <;> assumption) (by split <;> omega)
end S94zzf
