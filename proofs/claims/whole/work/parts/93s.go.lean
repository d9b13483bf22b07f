/-! CLASS: log -/
section S93s
set_option linter.unusedVariables false
set_option linter.unusedSimpArgs false
def cpyZ {α : Type} (f g : Int → α) (sp dp n : Int) : Int → α := fun i => if dp ≤ i ∧ i < dp + n then f (sp + (i - dp)) else g i
theorem acp_b {α : Type} {E : EnQ} {F : Nat → Int → Int32} {G : Nat → Int → Int64} {a0 a n0 n1 : Nat} {sp dp n : Int} {f : HeapP → Option α} (hs0 : shx E a0 = (2, 0, n0)) (hs : shx E a = (2, 0, n1)) (h : 0 ≤ sp ∧ 0 ≤ dp ∧ 0 ≤ n ∧ sp + n ≤ n0 ∧ dp + n ≤ n1) (hn : n0 < 2147483648 ∧ n1 < 2147483648) : (acpI (mk E F G) a0 (zI sp) a (zI dp) (zI n)).bind f = f (mk E (uR F a (cpyZ (F a0) (F a) sp dp n)) G) := by
  have c1 := clamp_z (i := sp) (by omega)
  have c2 := clamp_z (i := dp) (by omega)
  have c3 := clamp_z (i := n) (by omega)
  have z1 : (0 : Int32) ≤ zI sp := by rw [li_0, leI (by omega)]; exact h.1
  have z2 : (0 : Int32) ≤ zI dp := by rw [li_0, leI (by omega)]; exact h.2.1
  have z3 : (0 : Int32) ≤ zI n := by rw [li_0, leI (by omega)]; exact h.2.2.1
  unfold acpI
  rw [mk_at hs0, mk_at hs]
  show ((if (0 : Nat) = 0 ∧ (0 : Nat) = 0 ∧ 0 ≤ zI sp ∧ 0 ≤ zI dp ∧ 0 ≤ zI n ∧ (zI sp).toNatClampNeg + (zI n).toNatClampNeg ≤ n0 ∧ (zI dp).toNatClampNeg + (zI n).toNatClampNeg ≤ n1 then
      some (hset (mk E F G) a (pI 0 n1 (va_cpy (fun i : Nat => F a0 i) (fun i : Nat => F a i) (zI sp).toNatClampNeg (zI dp).toNatClampNeg (zI n).toNatClampNeg))) else none)).bind f = _
  rw [if_pos ⟨rfl, rfl, z1, z2, z3, by omega, by omega⟩]
  show f _ = _
  refine congrArg f (hset_F ?_)
  rw [hs]
  refine congrArg (fun z => some (pI 0 n1 z)) (funext fun k => ?_)
  unfold va_cpy cpyZ
  by_cases e : dp ≤ (k : Int) ∧ (k : Int) < dp + n
  · rw [if_pos e, if_pos (by omega)]; exact congrArg (F a0) (by omega)
  · rw [if_neg e, if_neg (by omega)]
theorem coll6 {F : Nat → Int → Int32} {p q a : Nat} {c7 c8 r w o r' : Int → Int32} (h1 : p ≠ q) (h2 : p ≠ a) (h3 : q ≠ a) : uR (uR (uR (uR (uR (uR F p c7) q c8) a r) p w) q o) a r' = uR (uR (uR F p w) q o) a r' := by
  funext b
  unfold uR
  by_cases e1 : b = a
  · simp only [if_pos e1]
  · by_cases e2 : b = q
    · simp only [if_neg e1, if_pos e2]
    · by_cases e3 : b = p
      · simp only [if_neg e1, if_neg e2, if_pos e3]
      · simp only [if_neg e1, if_neg e2, if_neg e3]
theorem SnS_c7 {E : EnQ} {a : Nat} (h : SnS E a) : shx E (a + 7) = (2, 0, 99) := h.2.1
theorem SnS_c8 {E : EnQ} {a : Nat} (h : SnS E a) : shx E (a + 8) = (2, 0, 99) := h.2.2.1
theorem into_eq {m ml : Nat} {rc : Option Nat} {code : List (Nat × SemP)} {as : List Value} {h : HeapP} {d : Nat} (hd : 1 ≤ d) (hM : MP m = some (ml, rc, code)) (hr : rcvP rc as h = true) (hl : Nat.ble (entL as).length ml = true) : callP MP d m as h = runP MP (d - 1) m (entP ml as h) := by
  obtain ⟨d', rfl⟩ : ∃ d', d = d' + 1 := ⟨d - 1, by omega⟩
  unfold callP clP
  simp only [hM, hr, hl, Bool.and_self, cond_true]
  rfl
theorem ct_62a {d : Nat} {E : EnQ} {F : Nat → Int → Int32} {G : Nat → Int → Int64} {a : Nat} {v x : Int} (hS : SnS E a) (hL : 0 ≤ tI (F a 4) ∧ tI (F a 4) < 99) (hd : 1 ≤ d) : callP MP d 62 [.ref a, .int (zI v), .int (zI x)] (mk E F G) = some (Sum.inl (none), mk E (uR (uR (uR F (a + 7) (uC (F (a + 7)) (tI (F a 4)) (zI v))) (a + 8) (uC (F (a + 8)) (tI (F a 4)) (zI x))) a (uC (F a) 4 (zI (tI (F a 4) + 1)))) G) := by

  have hs := hS.1
  refine into (D := 0) (by omega) hM_62 (rcv_mk hs (by decide)) rfl fun d hd => ?_
  show runP MP d 62 (0, [some (.ref a), some (.int (zI v)), some (.int (zI x))], [], _) = _
  rw [q_62_0]; (try simp only [↓n_rd, li_0, li_1, li_4, li_5, li_6, li_98, li_99, zI_add, zI_sub, zI_mul, zI_neg, ↓Option.bind_some]); simp (disch := (first | assumption | exact tI_rg _ | omega | exact uR_at | exact row_ne hF (by decide) | exact row_ne (row_ne hF (by decide)) (by decide) | exact SnS_18 | exact SnS_30 | exact LdS_44 | exact LdS_46)) only [q_62_45, ↓n_rd, li_0, li_1, li_4, li_5, li_6, li_98, li_99, zI_add, zI_sub, zI_mul, zI_neg, ↓Option.bind_some, ↓g5_4, ↓g5_6, ↓SnS_l8, ↓SnS_s8, ↓g5_5, ↓SnS_l7, ↓SnS_s7, ↓p5_4, zIt2, uR_at, uR_ne, uR_uR, uC_uC, uC_at, ↓reduceIte, decide_eq_true_eq, leT, leF, ltT, ltF, eqT, eqF, ne_eq, not_true_eq_false, not_false_eq_true, Bool.false_eq_true, tI_zI]
theorem cc_62a {d : Nat} {E : EnQ} {F : Nat → Int → Int32} {G : Nat → Int → Int64} {kk : HeapP → ResP} {kx : Nat → HeapP → ResP} {a : Nat} {v x : Int} (hS : SnS E a) (hL : 0 ≤ tI (F a 4) ∧ tI (F a 4) < 99) (hd : 1 ≤ d) : cV (callP MP d 62 [.ref a, .int (zI v), .int (zI x)] (mk E F G)) kk kx = kk (mk E (uR (uR (uR F (a + 7) (uC (F (a + 7)) (tI (F a 4)) (zI v))) (a + 8) (uC (F (a + 8)) (tI (F a 4)) (zI x))) a (uC (F a) 4 (zI (tI (F a 4) + 1)))) G) := cV_ret (by apply ct_62a <;> assumption)
theorem ct_62b {d : Nat} {E : EnQ} {F : Nat → Int → Int32} {G : Nat → Int → Int64} {a : Nat} {v x : Int} (hS : SnS E a) (hL : tI (F a 4) = 99) (hd : 1 ≤ d) : callP MP d 62 [.ref a, .int (zI v), .int (zI x)] (mk E F G) = some (Sum.inl (none), mk E (uR (uR (uR F (a + 7) (uC (cpyZ (F (a + 7)) (F (a + 7)) 1 0 98) 98 (zI v))) (a + 8) (uC (cpyZ (F (a + 8)) (F (a + 8)) 1 0 98) 98 (zI x))) a (uC (F a) 4 (zI 99))) G) := by

  have hs := hS.1
  refine into (D := 0) (by omega) hM_62 (rcv_mk hs (by decide)) rfl fun d hd => ?_
  show runP MP d 62 (0, [some (.ref a), some (.int (zI v)), some (.int (zI x))], [], _) = _
  have ha7 : ∀ {F : Nat → Int → Int32} {f : HeapP → ResP}, (acpI (mk E F G) (a + 7) (zI 1) (a + 7) (zI 0) (zI 98)).bind f = f (mk E (uR F (a + 7) (cpyZ (F (a + 7)) (F (a + 7)) 1 0 98)) G) := fun {F f} => acp_b (SnS_c7 hS) (SnS_c7 hS) (by omega) (by omega)
  have ha8 : ∀ {F : Nat → Int → Int32} {f : HeapP → ResP}, (acpI (mk E F G) (a + 8) (zI 1) (a + 8) (zI 0) (zI 98)).bind f = f (mk E (uR F (a + 8) (cpyZ (F (a + 8)) (F (a + 8)) 1 0 98)) G) := fun {F f} => acp_b (SnS_c8 hS) (SnS_c8 hS) (by omega) (by omega)
  rw [q_62_0]; (try simp only [↓n_rd, li_0, li_1, li_4, li_5, li_6, li_98, li_99, zI_add, zI_sub, zI_mul, zI_neg, ↓Option.bind_some]); simp (disch := (first | assumption | exact tI_rg _ | omega | exact uR_at | exact row_ne hF (by decide) | exact row_ne (row_ne hF (by decide)) (by decide) | exact SnS_18 | exact SnS_30 | exact LdS_44 | exact LdS_46)) only [q_62_45, ↓ha7, ↓ha8, ↓n_rd, li_0, li_1, li_4, li_5, li_6, li_98, li_99, zI_add, zI_sub, zI_mul, zI_neg, ↓Option.bind_some, ↓g5_4, ↓g5_6, ↓SnS_l8, ↓SnS_s8, ↓g5_5, ↓SnS_l7, ↓SnS_s7, ↓p5_4, zIt2, uR_at, uR_ne, uR_uR, uC_uC, uC_at, ↓reduceIte, decide_eq_true_eq, leT, leF, ltT, ltF, eqT, eqF, ne_eq, not_true_eq_false, not_false_eq_true, Bool.false_eq_true, tI_zI]
  rw [coll6 (by omega) (by omega) (by omega)]
  rfl
theorem cc_62b {d : Nat} {E : EnQ} {F : Nat → Int → Int32} {G : Nat → Int → Int64} {kk : HeapP → ResP} {kx : Nat → HeapP → ResP} {a : Nat} {v x : Int} (hS : SnS E a) (hL : tI (F a 4) = 99) (hd : 1 ≤ d) : cV (callP MP d 62 [.ref a, .int (zI v), .int (zI x)] (mk E F G)) kk kx = kk (mk E (uR (uR (uR F (a + 7) (uC (cpyZ (F (a + 7)) (F (a + 7)) 1 0 98) 98 (zI v))) (a + 8) (uC (cpyZ (F (a + 8)) (F (a + 8)) 1 0 98) 98 (zI x))) a (uC (F a) 4 (zI 99))) G) := cV_ret (by apply ct_62b <;> assumption)
end S93s
