/-! take, copies -/
section S94b
set_option linter.unusedVariables false
set_option linter.unusedSimpArgs false
def tkF (F : Nat → Int → Int32) (a b : Nat) : Nat → Int → Int32 := uR (uR (uR (uR (uR (uR F a (uC (uC (uC (uC (F a) 1 (F b 1)) 2 (F b 2)) 3 (F b 3)) 4 (F b 4))) (a + 7) (cpyZ (F (b + 7)) (F (a + 7)) 0 0 99)) (a + 8) (cpyZ (F (b + 8)) (F (a + 8)) 0 0 99)) (a + 9) (cpyZ (F (b + 9)) (F (a + 9)) 0 0 4)) (a + 10) (cpyZ (F (b + 10)) (F (a + 10)) 0 0 4)) (a + 11) (cpyZ (F (b + 11)) (F (a + 11)) 0 0 4)
theorem ct_73 {d : Nat} {E : EnQ} {F : Nat → Int → Int32} {G : Nat → Int → Int64} {a b : Nat} (hSa : SnS E a) (hSb : SnS E b) (hab : a + 12 ≤ b ∨ b + 12 ≤ a) (hd : 1 ≤ d) : callP MP d 73 [.ref a, .ref b] (mk E F G) = some (Sum.inl (none), mk (uE E a 0 (rfQ E b 0)) (tkF F a b) G) := by

  have hs := hSa.1
  have hsb := hSb.1
  have hs' : shx (uE E a 0 (rfQ E b 0)) a = (1, 5, 0) := hSa.1
  have hsb' : shx (uE E a 0 (rfQ E b 0)) b = (1, 5, 0) := hSb.1
  have c7 : ∀ {F : Nat → Int → Int32} {f : HeapP → ResP}, (acpI (mk (uE E a 0 (rfQ E b 0)) F G) (b + 7) (zI 0) (a + 7) (zI 0) (zI 99)).bind f = f (mk (uE E a 0 (rfQ E b 0)) (uR F (a + 7) (cpyZ (F (b + 7)) (F (a + 7)) 0 0 99)) G) := fun {F f} => acp_b (n0 := 99) (n1 := 99) hSb.2.1 hSa.2.1 (by omega) (by omega)
  have c8 : ∀ {F : Nat → Int → Int32} {f : HeapP → ResP}, (acpI (mk (uE E a 0 (rfQ E b 0)) F G) (b + 8) (zI 0) (a + 8) (zI 0) (zI 99)).bind f = f (mk (uE E a 0 (rfQ E b 0)) (uR F (a + 8) (cpyZ (F (b + 8)) (F (a + 8)) 0 0 99)) G) := fun {F f} => acp_b (n0 := 99) (n1 := 99) hSb.2.2.1 hSa.2.2.1 (by omega) (by omega)
  have c9 : ∀ {F : Nat → Int → Int32} {f : HeapP → ResP}, (acpI (mk (uE E a 0 (rfQ E b 0)) F G) (b + 9) (zI 0) (a + 9) (zI 0) (zI 4)).bind f = f (mk (uE E a 0 (rfQ E b 0)) (uR F (a + 9) (cpyZ (F (b + 9)) (F (a + 9)) 0 0 4)) G) := fun {F f} => acp_b (n0 := 4) (n1 := 4) hSb.2.2.2.1 hSa.2.2.2.1 (by omega) (by omega)
  have c10 : ∀ {F : Nat → Int → Int32} {f : HeapP → ResP}, (acpI (mk (uE E a 0 (rfQ E b 0)) F G) (b + 10) (zI 0) (a + 10) (zI 0) (zI 4)).bind f = f (mk (uE E a 0 (rfQ E b 0)) (uR F (a + 10) (cpyZ (F (b + 10)) (F (a + 10)) 0 0 4)) G) := fun {F f} => acp_b (n0 := 4) (n1 := 4) hSb.2.2.2.2.1 hSa.2.2.2.2.1 (by omega) (by omega)
  have c11 : ∀ {F : Nat → Int → Int32} {f : HeapP → ResP}, (acpI (mk (uE E a 0 (rfQ E b 0)) F G) (b + 11) (zI 0) (a + 11) (zI 0) (zI 4)).bind f = f (mk (uE E a 0 (rfQ E b 0)) (uR F (a + 11) (cpyZ (F (b + 11)) (F (a + 11)) 0 0 4)) G) := fun {F f} => acp_b (n0 := 4) (n1 := 4) hSb.2.2.2.2.2 hSa.2.2.2.2.2 (by omega) (by omega)
  refine into (D := 0) (by omega) hM_73 (rcv_mk hs (by decide)) rfl fun d hd => ?_
  show runP MP d 73 (0, [some (.ref a), some (.ref b)], [], _) = _
  unfold tkF
  rw [q_73_0]; (try simp only [↓n_rd, li_0, li_1, li_2, li_3, li_4, li_5, li_6, li_7, li_8, li_9, li_99, zI_add, zI_sub, zI_mul, zI_neg, ↓Option.bind_some]); simp (disch := (first | assumption | exact tI_rg _ | omega | exact uR_at | exact row_ne hF (by decide) | exact row_ne (row_ne hF (by decide)) (by decide) | exact SnS_18 | exact SnS_30 | exact LdS_44 | exact LdS_46)) only [↓c7, ↓c8, ↓c9, ↓c10, ↓c11, zI_tI', ↓n_rd, li_0, li_1, li_2, li_3, li_4, li_5, li_6, li_7, li_8, li_9, li_99, zI_add, zI_sub, zI_mul, zI_neg, ↓Option.bind_some, ↓g5_4, ↓g5_2, ↓g5_1, ↓g5_3, ↓g5_9, ↓SnS_l11, ↓SnS_s11, ↓g5_0, ↓g5_7, ↓SnS_l9, ↓SnS_s9, ↓g5_6, ↓SnS_l8, ↓SnS_s8, ↓g5_8, ↓SnS_l10, ↓SnS_s10, ↓g5_5, ↓SnS_l7, ↓SnS_s7, ↓p5_4, ↓p5_2, ↓p5_1, ↓p5_3, ↓p5_0, zIt2, uR_at, uR_ne, uR_uR, uC_uC, uC_at, ↓reduceIte, decide_eq_true_eq, leT, leF, ltT, ltF, eqT, eqF, ne_eq, not_true_eq_false, not_false_eq_true, Bool.false_eq_true, tI_zI]
theorem cc_73 {d : Nat} {E : EnQ} {F : Nat → Int → Int32} {G : Nat → Int → Int64} {kk : HeapP → ResP} {kx : Nat → HeapP → ResP} {a b : Nat} (hSa : SnS E a) (hSb : SnS E b) (hab : a + 12 ≤ b ∨ b + 12 ≤ a) (hd : 1 ≤ d) : cV (callP MP d 73 [.ref a, .ref b] (mk E F G)) kk kx = kk (mk (uE E a 0 (rfQ E b 0)) (tkF F a b) G) := cV_ret (by apply ct_73 <;> assumption)
/-- the rows of a copy stand for the same -/
theorem SnR_tk {F : Nat → Int → Int32} {a b : Nat} {K : Int → Int32} (hN : SnR F b K) (h5 : 0 ≤ tI (K 5)) : SnR (tkF F a b) a K := by
  obtain ⟨⟨n1, n2, n3⟩, n4, n5, n6, n7⟩ := hN
  have r0 : tkF F a b a = uC (uC (uC (uC (F a) 1 (F b 1)) 2 (F b 2)) 3 (F b 3)) 4 (F b 4) := by
    unfold tkF; rw [uR_ne (by omega), uR_ne (by omega), uR_ne (by omega), uR_ne (by omega), uR_ne (by omega), uR_at]
  have r7 : tkF F a b (a + 7) = cpyZ (F (b + 7)) (F (a + 7)) 0 0 99 := by
    unfold tkF; rw [uR_ne (by omega), uR_ne (by omega), uR_ne (by omega), uR_ne (by omega), uR_at]
  have r8 : tkF F a b (a + 8) = cpyZ (F (b + 8)) (F (a + 8)) 0 0 99 := by
    unfold tkF; rw [uR_ne (by omega), uR_ne (by omega), uR_ne (by omega), uR_at]
  have r9 : tkF F a b (a + 9) = cpyZ (F (b + 9)) (F (a + 9)) 0 0 4 := by
    unfold tkF; rw [uR_ne (by omega), uR_ne (by omega), uR_at]
  have r10 : tkF F a b (a + 10) = cpyZ (F (b + 10)) (F (a + 10)) 0 0 4 := by
    unfold tkF; rw [uR_ne (by omega), uR_at]
  have r11 : tkF F a b (a + 11) = cpyZ (F (b + 11)) (F (a + 11)) 0 0 4 := by
    unfold tkF; rw [uR_at]
  have e1 : tkF F a b a 1 = F b 1 := by rw [r0, uC_ne (by omega), uC_ne (by omega), uC_ne (by omega), uC_at]
  have e2 : tkF F a b a 2 = F b 2 := by rw [r0, uC_ne (by omega), uC_ne (by omega), uC_at]
  have e3 : tkF F a b a 3 = F b 3 := by rw [r0, uC_ne (by omega), uC_at]
  have e4 : tkF F a b a 4 = F b 4 := by rw [r0, uC_at]
  have cp : ∀ (f g : Int → Int32) (n i : Int), 0 ≤ i → i < n → cpyZ f g 0 0 n i = f i := fun f g n i h0 h1 => by
    unfold cpyZ; rw [if_pos (by omega)]; exact congrArg f (by omega)
  obtain ⟨l0, l1, l2, l3⟩ := n4
  have l169 : tI (K 169) ≤ tI (F b 4) := by rw [l3]; split <;> omega
  refine ⟨⟨by rw [e1]; exact n1, by rw [e2]; exact n2, by rw [e3]; exact n3⟩, by rw [e4]; exact ⟨l0, l1, l2, l3⟩, fun i i0 i1 => ?_, fun i i0 i1 => ?_, fun y y0 y1 => ?_⟩
  · rw [e4, r7, r8, cp _ _ _ _ (by omega) (by omega), cp _ _ _ _ (by omega) (by omega)]; exact n5 i i0 i1
  · rw [e4, r7, r8, cp _ _ _ _ (by omega) (by omega), cp _ _ _ _ (by omega) (by omega)]; exact n6 i i0 i1
  · rw [r9, r10, r11, cp _ _ _ _ y0 y1, cp _ _ _ _ y0 y1, cp _ _ _ _ y0 y1]; exact n7 y y0 y1
theorem tkF_ne {F : Nat → Int → Int32} {a b q : Nat} (h : q ≠ a ∧ q ≠ a + 7 ∧ q ≠ a + 8 ∧ q ≠ a + 9 ∧ q ≠ a + 10 ∧ q ≠ a + 11) : tkF F a b q = F q := by
  unfold tkF; rw [uR_ne (by omega), uR_ne (by omega), uR_ne (by omega), uR_ne (by omega), uR_ne (by omega), uR_ne (by omega)]
theorem OthS_tk {F : Nat → Int → Int32} {a b : Nat} : OthS a F (tkF F a b) := fun q z1 z2 z3 z4 z5 z6 => tkF_ne ⟨z1, z2, z3, z4, z5, z6⟩
/-- the trial as the state is -/
def tE (E : EnQ) : EnQ := uE E 30 0 (rfQ E 18 0)
theorem tE_30 {E : EnQ} : rfQ (tE E) 30 0 = rfQ E 18 0 := by show uR E.2.2.2 30 (uC (E.2.2.2 30) 0 (E.2.2.2 18 0)) 30 0 = E.2.2.2 18 0; rw [uR_at, uC_at]
theorem tE_18 {E : EnQ} : rfQ (tE E) 18 0 = rfQ E 18 0 := by show uR E.2.2.2 30 (uC (E.2.2.2 30) 0 (E.2.2.2 18 0)) 18 0 = E.2.2.2 18 0; rw [uR_ne (by omega)]
theorem SnO_tk {E : EnQ} {F : Nat → Int → Int32} {K : Int → Int32} (hO : SnO E F 18 K) (hD : SepP E 18) : SnO (tE E) (tkF F 30 18) 30 K ∧ SnO (tE E) (tkF F 30 18) 18 K ∧ SepP (tE E) 30 ∧ SepP (tE E) 18 := by
  obtain ⟨hS, hP, hR, hN, hI⟩ := hO
  obtain ⟨hD1, hD2⟩ := hD
  have hR' : PlR (tkF F 30 18) (rfQ E 18 0) K := PlR_move hI (fun b h1 h2 => tkF_ne (by omega)) (fun j _ => rfl) hR
  have hN' : SnR (tkF F 30 18) 18 K := by
    unfold SnR
    rw [tkF_ne (q := 18) (by omega), tkF_ne (q := 18 + 7) (by omega), tkF_ne (q := 18 + 8) (by omega), tkF_ne (q := 18 + 9) (by omega), tkF_ne (q := 18 + 10) (by omega), tkF_ne (q := 18 + 11) (by omega)]
    exact hN
  refine ⟨⟨SnS_30, ?_, ?_, SnR_tk hN hI.1.2.2.2.2.2.1.1, hI⟩, ⟨SnS_18, ?_, ?_, hN', hI⟩, ⟨Or.inr rfl, ?_⟩, ⟨Or.inl rfl, ?_⟩⟩
  · rw [tE_30]; exact hP
  · rw [tE_30]; exact hR'
  · rw [tE_18]; exact hP
  · rw [tE_18]; exact hR'
  · rw [tE_30]; exact hD2
  · rw [tE_18]; exact hD2
theorem cc_73t {d : Nat} {E : EnQ} {F : Nat → Int → Int32} {G : Nat → Int → Int64} {kk : HeapP → ResP} {kx : Nat → HeapP → ResP} (hd : 1 ≤ d) : cV (callP MP d 73 [.ref 30, .ref 18] (mk E F G)) kk kx = kk (mk (tE E) (tkF F 30 18) G) := cc_73 SnS_30 SnS_18 (by omega) hd
/-! copies -/
def cpK (r s : Int → Int32) : Int → Int32 := fun j => if 0 ≤ j ∧ j < 408 then r j else s j
def cpT (r s : Int → Int32) (n : Nat) : Int → Int32 := fun j => if 0 ≤ j ∧ j < n then r j else s j
theorem cpT_0 {r s : Int → Int32} : cpT r s 0 = s := funext fun j => if_neg (by omega)
theorem cpT_step {r s : Int → Int32} {n : Nat} : uC (cpT r s n) n (r n) = cpT r s (n + 1) := by
  funext j
  unfold uC cpT
  by_cases e : j = (n : Int)
  · rw [if_pos e, if_pos (by omega), e]
  · rw [if_neg e]
    by_cases g : 0 ≤ j ∧ j < (n : Int)
    · rw [if_pos g, if_pos (by omega)]
    · rw [if_neg g, if_neg (by omega)]
theorem ct_206 {d : Nat} {E : EnQ} {F : Nat → Int → Int32} {G : Nat → Int → Int64} {a b : Nat} (ha : shx E a = (2, 0, 408)) (hb : shx E b = (2, 0, 408)) (hab : a ≠ b) (hd : 1 ≤ d) : callP MP d 206 [.ref a, .ref b] (mk E F G) = some (Sum.inl (none), mk E (uR F b (cpK (F a) (F b))) G) := by

  refine into (D := 0) (by omega) hM_206 rfl rfl fun d hd => ?_
  show runP MP d 206 (0, [some (.ref a), some (.ref b), none], [], _) = _
  rw [q_206_0]
  have h0 : mk E F G = mk E (uR F b (cpT (F a) (F b) 0)) G := by rw [cpT_0, uR_self]
  rw [h0]
  refine (loopN (fun j : Nat => runP MP d 206 (2, [some (.ref a), some (.ref b), some (.int (zI ((j : Nat))))], [], mk E (uR F b (cpT (F a) (F b) j)) G)) (408) (fun j hj => ?_)).trans ?_
  · show runP MP d 206 (2, [some (.ref a), some (.ref b), some (.int (zI ((j : Nat))))], [], mk E (uR F b (cpT (F a) (F b) j)) G) = runP MP d 206 (2, [some (.ref a), some (.ref b), some (.int (zI (((j + 1) : Nat))))], [], mk E (uR F b (cpT (F a) (F b) (j + 1))) G)
    rw [nsucc]
    rw [q_206_2]; (try simp only [↓n_al, li_0, li_1, li_2, li_206, li_408, zI_add, zI_sub, zI_mul, zI_neg, ↓Option.bind_some]); simp (disch := (first | assumption | exact tI_rg _ | omega | exact uR_at | exact row_ne hF (by decide) | exact row_ne (row_ne hF (by decide)) (by decide) | exact SnS_18 | exact SnS_30 | exact LdS_44 | exact LdS_46)) only [q_206_0, ↓alK, ↓asK, zI_tI', ↓n_al, li_0, li_1, li_2, li_206, li_408, zI_add, zI_sub, zI_mul, zI_neg, ↓Option.bind_some, zIt2, uR_at, uR_ne, uR_uR, uC_uC, uC_at, ↓reduceIte, decide_eq_true_eq, leT, leF, ltT, ltF, eqT, eqF, ne_eq, not_true_eq_false, not_false_eq_true, Bool.false_eq_true, tI_zI]
    rw [cpT_step]
  · show runP MP d 206 (2, [some (.ref a), some (.ref b), some (.int (zI (((408) : Nat))))], [], mk E (uR F b (cpT (F a) (F b) (408))) G) = _
    have e : cpT (F a) (F b) 408 = cpK (F a) (F b) := rfl
    rw [q_206_2]; (try simp only [↓n_al, li_0, li_1, li_2, li_206, li_408, zI_add, zI_sub, zI_mul, zI_neg, ↓Option.bind_some]); simp (disch := (first | assumption | exact tI_rg _ | omega | exact uR_at | exact row_ne hF (by decide) | exact row_ne (row_ne hF (by decide)) (by decide) | exact SnS_18 | exact SnS_30 | exact LdS_44 | exact LdS_46)) only [q_206_0, e, ↓n_al, li_0, li_1, li_2, li_206, li_408, zI_add, zI_sub, zI_mul, zI_neg, ↓Option.bind_some, zIt2, uR_at, uR_ne, uR_uR, uC_uC, uC_at, ↓reduceIte, decide_eq_true_eq, leT, leF, ltT, ltF, eqT, eqF, ne_eq, not_true_eq_false, not_false_eq_true, Bool.false_eq_true, tI_zI]
theorem cc_206 {d : Nat} {E : EnQ} {F : Nat → Int → Int32} {G : Nat → Int → Int64} {kk : HeapP → ResP} {kx : Nat → HeapP → ResP} {a b : Nat} (ha : shx E a = (2, 0, 408)) (hb : shx E b = (2, 0, 408)) (hab : a ≠ b) (hd : 1 ≤ d) : cV (callP MP d 206 [.ref a, .ref b] (mk E F G)) kk kx = kk (mk E (uR F b (cpK (F a) (F b))) G) := cV_ret (by apply ct_206 <;> assumption)
end S94b
