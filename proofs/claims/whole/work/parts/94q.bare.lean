/-! CALL: bare -/
section S94q
set_option linter.unusedVariables false
set_option linter.unusedSimpArgs false
theorem cntN_z {p : Nat → Bool} {n : Nat} : cntN p n = 0 ↔ ∀ j, j < n → p j = false := by
  induction n with
  | zero => exact ⟨fun _ j hj => by omega, fun _ => rfl⟩
  | succ n ih =>
    have hc := cntN_rg p n
    constructor
    · intro h j hj
      by_cases e : p n = true
      · rw [cntN_pos e] at h; omega
      · rw [cntN_neg e] at h
        by_cases g : j = n
        · rw [g]; exact Bool.eq_false_iff.mpr e
        · exact ih.mp h j (by omega)
    · intro h
      rw [cntN_neg (by rw [h n (by omega)]; exact Bool.false_ne_true)]
      exact ih.mpr (fun j hj => h j (by omega))
def wcN (K : Int → Int32) (v : Int) : Int := cntN (fun k : Nat => prW K k == v) (tI (K 5)).toNat
theorem wcN_bit {K : Int → Int32} (hI : InvK K) {v : Nat} : wcN K v = 0 ↔ (wysN K).testBit v = false := by
  unfold wcN
  rw [cntN_z, Bool.eq_false_iff]
  unfold wysN
  constructor
  · intro h g
    rw [orN_bit] at g
    obtain ⟨j, h1, h2⟩ := g
    have h3 := h j h1
    have hr := hI.2.2.2.1 j (by omega) (by omega)
    unfold bitN at h2
    rw [Nat.testBit_two_pow, decide_eq_true_eq] at h2
    rw [beq_eq_false_iff_ne] at h3
    omega
  · intro h j hj
    rw [beq_eq_false_iff_ne]
    intro e
    refine h (orN_bit.mpr ⟨j, hj, ?_⟩)
    unfold bitN
    rw [Nat.testBit_two_pow, decide_eq_true_eq, e]; rfl
theorem bit2 {x k : Nat} : x / 2 ^ (2 * k) % 4 = 0 ↔ x.testBit (2 * k) = false ∧ x.testBit (2 * k + 1) = false := by
  rw [Nat.testBit_eq_decide_div_mod_eq, Nat.testBit_eq_decide_div_mod_eq, decide_eq_false_iff_not, decide_eq_false_iff_not, Nat.pow_succ, ← Nat.div_div_eq_div_mul]
  omega
def barN (K : Int → Int32) (n : Nat) : Nat := orN (fun k : Nat => if wcN K (2 * k) + wcN K (2 * k + 1) = 0 then bitN k else 0) n
def a_bare (K : Int → Int32) : Int × Int := (0, (barN K (tI (K 2)).toNat : Nat))
theorem barN_lt {K : Int → Int32} {n : Nat} (hn : n ≤ 16) : barN K n < 65536 := by
  refine orN_lt (k := 16) fun j hj => ?_
  show (if _ then _ else _) < _
  split
  · exact Nat.pow_lt_pow_right (by omega) (by omega)
  · omega
theorem cl_bare {d : Nat} {E : EnQ} {F : Nat → Int → Int32} {G : Nat → Int → Int64} {K : Int → Int32} (hO : SnO E F 18 K) (hd : 4 ≤ d) : ∃ E1, (E1 = E ∨ E1 = jE E) ∧ callP MP d 118 [.ref 16] (mk E F G) = some (thrP [] (a_bare K), mk E1 F G) := by
  have hO' := hO
  obtain ⟨hS, hP, hR, hN, hI⟩ := hO
  have hs := hS.1
  have hs2 := hP.1
  have b2 := hI.1.2.2.1
  have e2 : tI (F (rfQ E 18 0) 2) = tI (K 2) := by rw [hR.1.2.2.1]
  have hwl := wysN_lt hI
  refine ⟨E, Or.inl rfl, ?_⟩
  show (_ : ResP) = some (Sum.inl (some (.int (zI ((barN K (tI (K 2)).toNat : Nat) : Int)))), mk E F G)
  refine into (D := 3) (by omega) hM_118 (rcv_mk rfl (by decide)) rfl fun d hd => ?_
  show runP MP d 118 (0, [some (.ref 16), none, none, none], [], _) = _
  have hz : ∀ {kk : Int → HeapP → ResP} {kx : Nat → HeapP → ResP}, cT (callP MP d 63 [.ref 18] (mk E F G)) kk kx = kk (tI (zI ((wysN K : Nat) : Int))) (mk E F G) := fun {kk kx} => by
    unfold cT; rw [cI_ret (ct_63 hO' (by omega))]
  have hl : runP MP d 118 (12, [some (.ref 16), some (.int (zI ((wysN K : Nat) : Int))), some (.int (zI 0)), some (.int (zI 0))], [], mk E F G) = runP MP d 118 (12, [some (.ref 16), some (.int (zI ((wysN K : Nat) : Int))), some (.int (zI ((barN K (tI (K 2)).toNat : Nat) : Int))), some (.int (zI ((tI (K 2)).toNat : Int)))], [], mk E F G) := by
    refine Eq.trans ?_ (loopN (fun k : Nat => runP MP d 118 (12, [some (.ref 16), some (.int (zI ((wysN K : Nat) : Int))), some (.int (zI ((barN K k : Nat) : Int))), some (.int (zI (k : Int)))], [], mk E F G)) (tI (K 2)).toNat (fun k hk => ?_))
    · rfl
    · show runP MP d 118 _ = runP MP d 118 _
      have hA : o_iushr (zI ((wysN K : Nat) : Int)) (zI (2 * (k : Int))) &&& zI 3 = zI ((wysN K / 2 ^ (2 * k) % 4 : Nat) : Int) := by
        have h1 := ushrZ (wysN K) (2 * k) hwl (by omega)
        have h2 := andZ (wysN K / 2 ^ (2 * k)) 3
        have h3 := Nat.and_two_pow_sub_one_eq_mod (wysN K / 2 ^ (2 * k)) 2
        rw [show (zI (2 * (k : Int))) = zI ((2 * k : Nat) : Int) by rw [Int.natCast_mul]; rfl, h1]
        rw [show zI 3 = zI ((3 : Nat) : Int) from rfl, h2]
        exact congrArg (fun z : Nat => zI (z : Int)) h3
      have hB : barN K (k + 1) = barN K k ||| (if wcN K (2 * k) + wcN K (2 * k + 1) = 0 then bitN k else 0) := rfl
      have hc1 : 0 ≤ wcN K (2 * k) := (cntN_rg _ _).1
      have hc2 : 0 ≤ wcN K (2 * k + 1) := (cntN_rg _ _).1
      have hw1 := wcN_bit hI (v := 2 * k)
      have hw2 := wcN_bit hI (v := 2 * k + 1)
      rw [Int.natCast_mul] at hw1
      rw [Int.natCast_add, Int.natCast_mul] at hw2
      have hw1 : wcN K (2 * (k : Int)) = 0 ↔ (wysN K).testBit (2 * k) = false := hw1
      have hw2 : wcN K (2 * (k : Int) + 1) = 0 ↔ (wysN K).testBit (2 * k + 1) = false := hw2
      have hm : wysN K / 2 ^ (2 * k) % 4 < 4 := Nat.mod_lt _ (by omega)
      by_cases g : wysN K / 2 ^ (2 * k) % 4 = 0
      · have g2 := bit2.mp g
        have g3 : wcN K (2 * (k : Int)) + wcN K (2 * (k : Int) + 1) = 0 := by have := hw1.mpr g2.1; have := hw2.mpr g2.2; omega
        rw [hB, if_pos g3, nsucc]
        rw [q_118_12]; (try simp only [↓n_rd, ↓n_cI, li_0, li_1, li_2, li_3, li_4, li_5, li_12, li_63, zI_add, zI_sub, zI_mul, zI_neg, ↓Option.bind_some]); simp (disch := (first | assumption | exact tI_rg _ | omega | exact uR_at | exact row_ne hF (by decide) | exact row_ne (row_ne hF (by decide)) (by decide) | exact SnS_18 | exact SnS_30 | exact LdS_44 | exact LdS_46)) only [q_118_0, q_118_42, e2, hA, g, shlB, orZ, ↓n_rd, ↓n_cI, li_0, li_1, li_2, li_3, li_4, li_5, li_12, li_63, zI_add, zI_sub, zI_mul, zI_neg, ↓Option.bind_some, ↓g2_2, ↓g5_0, ↓g11_4, zIt2, uR_at, uR_ne, uR_uR, uC_uC, uC_at, ↓reduceIte, decide_eq_true_eq, leT, leF, ltT, ltF, eqT, eqF, ne_eq, not_true_eq_false, not_false_eq_true, Bool.false_eq_true, tI_zI]
      · have g3 : ¬ wcN K (2 * (k : Int)) + wcN K (2 * (k : Int) + 1) = 0 := fun z => g (bit2.mpr ⟨hw1.mp (by omega), hw2.mp (by omega)⟩)
        rw [hB, if_neg g3, Nat.or_zero, nsucc]
        rw [q_118_12]; (try simp only [↓n_rd, ↓n_cI, li_0, li_1, li_2, li_3, li_4, li_5, li_12, li_63, zI_add, zI_sub, zI_mul, zI_neg, ↓Option.bind_some]); simp (disch := (first | assumption | exact tI_rg _ | omega | exact uR_at | exact row_ne hF (by decide) | exact row_ne (row_ne hF (by decide)) (by decide) | exact SnS_18 | exact SnS_30 | exact LdS_44 | exact LdS_46)) only [q_118_0, q_118_42, e2, hA, ↓n_rd, ↓n_cI, li_0, li_1, li_2, li_3, li_4, li_5, li_12, li_63, zI_add, zI_sub, zI_mul, zI_neg, ↓Option.bind_some, ↓g2_2, ↓g5_0, ↓g11_4, zIt2, uR_at, uR_ne, uR_uR, uC_uC, uC_at, ↓reduceIte, decide_eq_true_eq, leT, leF, ltT, ltF, eqT, eqF, ne_eq, not_true_eq_false, not_false_eq_true, Bool.false_eq_true, tI_zI]
  rw [q_118_0]; (try simp only [↓n_rd, ↓n_cI, li_0, li_1, li_2, li_3, li_4, li_5, li_12, li_63, zI_add, zI_sub, zI_mul, zI_neg, ↓Option.bind_some]); simp (disch := (first | assumption | exact tI_rg _ | omega | exact uR_at | exact row_ne hF (by decide) | exact row_ne (row_ne hF (by decide)) (by decide) | exact SnS_18 | exact SnS_30 | exact LdS_44 | exact LdS_46)) only [q_118_42, ↓hz, ↓hl, ↓n_rd, ↓n_cI, li_0, li_1, li_2, li_3, li_4, li_5, li_12, li_63, zI_add, zI_sub, zI_mul, zI_neg, ↓Option.bind_some, ↓g2_2, ↓g5_0, ↓g11_4, zIt2, uR_at, uR_ne, uR_uR, uC_uC, uC_at, ↓reduceIte, decide_eq_true_eq, leT, leF, ltT, ltF, eqT, eqF, ne_eq, not_true_eq_false, not_false_eq_true, Bool.false_eq_true, tI_zI]
  rw [q_118_12]; (try simp only [↓n_rd, ↓n_cI, li_0, li_1, li_2, li_3, li_4, li_5, li_12, li_63, zI_add, zI_sub, zI_mul, zI_neg, ↓Option.bind_some]); simp (disch := (first | assumption | exact tI_rg _ | omega | exact uR_at | exact row_ne hF (by decide) | exact row_ne (row_ne hF (by decide)) (by decide) | exact SnS_18 | exact SnS_30 | exact LdS_44 | exact LdS_46)) only [q_118_0, q_118_42, e2, ↓n_rd, ↓n_cI, li_0, li_1, li_2, li_3, li_4, li_5, li_12, li_63, zI_add, zI_sub, zI_mul, zI_neg, ↓Option.bind_some, ↓g2_2, ↓g5_0, ↓g11_4, zIt2, uR_at, uR_ne, uR_uR, uC_uC, uC_at, ↓reduceIte, decide_eq_true_eq, leT, leF, ltT, ltF, eqT, eqF, ne_eq, not_true_eq_false, not_false_eq_true, Bool.false_eq_true, tI_zI]
theorem ml_bare {d : Nat} {E : EnQ} {F : Nat → Int → Int32} {G : Nat → Int → Int64} {K : Int → Int32} (hI : InvK K) (hF : F 218 = K) (hd : 3 ≤ d) : callP MP d 251 [.ref 217] (mk E F G) = some (Sum.inl (some (.int (zI (a_bare K).2))), mk E (uR F 217 (uC (F 217) 5 (zI (a_bare K).1))) G) := by
  have b2 := hI.1.2.2.1
  have hb5 := hI.1.2.2.2.2.2.1
  have hb4 := hI.1.2.2.2.2.1
  show (_ : ResP) = some (Sum.inl (some (.int (zI ((barN K (tI (K 2)).toNat : Nat) : Int)))), mk E (uR F 217 (uC (F 217) 5 (zI 0))) G)
  refine into (D := 2) (by omega) hM_251 (rcv_mk rfl (by decide)) rfl fun d hd => ?_
  show runP MP d 251 (0, [some (.ref 217), none, none], [], _) = _
  have hF : uR F 217 (uC (F 217) 5 (zI 0)) 218 = K := row_ne hF (by decide)
  have hl : runP MP d 251 (9, [some (.ref 217), some (.int (zI 0)), some (.int (zI 0))], [], mk E (uR F 217 (uC (F 217) 5 (zI 0))) G) = runP MP d 251 (9, [some (.ref 217), some (.int (zI ((barN K (tI (K 2)).toNat : Nat) : Int))), some (.int (zI ((tI (K 2)).toNat : Int)))], [], mk E (uR F 217 (uC (F 217) 5 (zI 0))) G) := by
    refine Eq.trans ?_ (loopN (fun k : Nat => runP MP d 251 (9, [some (.ref 217), some (.int (zI ((barN K k : Nat) : Int))), some (.int (zI (k : Int)))], [], mk E (uR F 217 (uC (F 217) 5 (zI 0))) G)) (tI (K 2)).toNat (fun k hk => ?_))
    · rfl
    · show runP MP d 251 _ = runP MP d 251 _
      have hB : barN K (k + 1) = barN K k ||| (if wcN K (2 * k) + wcN K (2 * k + 1) = 0 then bitN k else 0) := rfl
      have hc1 : 0 ≤ wcN K (2 * k) ∧ wcN K (2 * k) ≤ (tI (K 5)).toNat := cntN_rg _ _
      have hc2 : 0 ≤ wcN K (2 * k + 1) ∧ wcN K (2 * k + 1) ≤ (tI (K 5)).toNat := cntN_rg _ _
      have hu : ∀ v : Int, cntN (fun k : Nat => prW K k == v) (tI (K 5)).toNat = wcN K v := fun v => rfl
      by_cases g : wcN K (2 * (k : Int)) + wcN K (2 * (k : Int) + 1) = 0
      · rw [hB, if_pos g, nsucc]
        rw [q_251_9]; (try simp only [↓n_al, ↓n_cI, li_0, li_1, li_2, li_5, li_9, li_12, zI_add, zI_sub, zI_mul, zI_neg, ↓Option.bind_some]); simp (disch := (first | assumption | exact tI_rg _ | omega | exact uR_at | exact row_ne hF (by decide) | exact row_ne (row_ne hF (by decide)) (by decide) | exact SnS_18 | exact SnS_30 | exact LdS_44 | exact LdS_46)) only [q_251_0, q_251_47, ↓cc_209 hI, hF, hu, g, shlB, orZ, ↓n_al, ↓n_cI, li_0, li_1, li_2, li_5, li_9, li_12, zI_add, zI_sub, zI_mul, zI_neg, ↓Option.bind_some, ↓g12_0, ↓p12_5, ↓al_218, ↓as_218, zIt2, uR_at, uR_ne, uR_uR, uC_uC, uC_at, ↓reduceIte, decide_eq_true_eq, leT, leF, ltT, ltF, eqT, eqF, ne_eq, not_true_eq_false, not_false_eq_true, Bool.false_eq_true, tI_zI]
      · rw [hB, if_neg g, nsucc]
        rw [q_251_9]; (try simp only [↓n_al, ↓n_cI, li_0, li_1, li_2, li_5, li_9, li_12, zI_add, zI_sub, zI_mul, zI_neg, ↓Option.bind_some]); simp (disch := (first | assumption | exact tI_rg _ | omega | exact uR_at | exact row_ne hF (by decide) | exact row_ne (row_ne hF (by decide)) (by decide) | exact SnS_18 | exact SnS_30 | exact LdS_44 | exact LdS_46)) only [q_251_0, q_251_47, ↓cc_209 hI, hF, hu, or0, ↓n_al, ↓n_cI, li_0, li_1, li_2, li_5, li_9, li_12, zI_add, zI_sub, zI_mul, zI_neg, ↓Option.bind_some, ↓g12_0, ↓p12_5, ↓al_218, ↓as_218, zIt2, uR_at, uR_ne, uR_uR, uC_uC, uC_at, ↓reduceIte, decide_eq_true_eq, leT, leF, ltT, ltF, eqT, eqF, ne_eq, not_true_eq_false, not_false_eq_true, Bool.false_eq_true, tI_zI]
  rw [q_251_0]; (try simp only [↓n_al, ↓n_cI, li_0, li_1, li_2, li_5, li_9, li_12, zI_add, zI_sub, zI_mul, zI_neg, ↓Option.bind_some]); simp (disch := (first | assumption | exact tI_rg _ | omega | exact uR_at | exact row_ne hF (by decide) | exact row_ne (row_ne hF (by decide)) (by decide) | exact SnS_18 | exact SnS_30 | exact LdS_44 | exact LdS_46)) only [q_251_47, ↓hl, ↓n_al, ↓n_cI, li_0, li_1, li_2, li_5, li_9, li_12, zI_add, zI_sub, zI_mul, zI_neg, ↓Option.bind_some, ↓g12_0, ↓p12_5, ↓al_218, ↓as_218, zIt2, uR_at, uR_ne, uR_uR, uC_uC, uC_at, ↓reduceIte, decide_eq_true_eq, leT, leF, ltT, ltF, eqT, eqF, ne_eq, not_true_eq_false, not_false_eq_true, Bool.false_eq_true, tI_zI]
  rw [q_251_9]; (try simp only [↓n_al, ↓n_cI, li_0, li_1, li_2, li_5, li_9, li_12, zI_add, zI_sub, zI_mul, zI_neg, ↓Option.bind_some]); simp (disch := (first | assumption | exact tI_rg _ | omega | exact uR_at | exact row_ne hF (by decide) | exact row_ne (row_ne hF (by decide)) (by decide) | exact SnS_18 | exact SnS_30 | exact LdS_44 | exact LdS_46)) only [q_251_0, q_251_47, hF, ↓n_al, ↓n_cI, li_0, li_1, li_2, li_5, li_9, li_12, zI_add, zI_sub, zI_mul, zI_neg, ↓Option.bind_some, ↓g12_0, ↓p12_5, ↓al_218, ↓as_218, zIt2, uR_at, uR_ne, uR_uR, uC_uC, uC_at, ↓reduceIte, decide_eq_true_eq, leT, leF, ltT, ltF, eqT, eqF, ne_eq, not_true_eq_false, not_false_eq_true, Bool.false_eq_true, tI_zI]
end S94q
