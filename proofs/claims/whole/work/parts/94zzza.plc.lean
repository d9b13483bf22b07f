/-! CLASS: reading a plain 8 -/
section S94zzza
set_option linter.unusedVariables false
set_option linter.unusedSimpArgs false
/-- a snow begins anew on a plain -/
def bgF (F : Nat → Int → Int32) (a p : Nat) : Nat → Int → Int32 := uR (uR (uR (uR F a (uC (uC (uC (uC (F a) 1 (F p 4)) 2 (zI 0)) 3 (zI 0)) 4 (zI 0))) (a + 9) (cpyZ (F (p + 3)) (F (a + 9)) 0 0 4)) (a + 10) (zrI (F (a + 10)) 4 0)) (a + 11) (zrI (F (a + 11)) 4 0)
theorem ct_67 {d : Nat} {E : EnQ} {F : Nat → Int → Int32} {G : Nat → Int → Int64} {a p : Nat} (hS : SnS E a) (hP : PlS E p) (hap : p + 5 < a ∨ a + 11 < p) (hd : 2 ≤ d) : callP MP d 67 [.ref a, .ref p] (mk E F G) = some (Sum.inl none, mk (uE E a 0 p) (bgF F a p) G) := by
  have hs := hS.1
  have hs2 := hP.1
  have hs' : shx (uE E a 0 p) a = (1, 5, 0) := hs
  have hs2' : shx (uE E a 0 p) p = (1, 2, 0) := hs2
  refine into (D := 1) (by omega) hM_67 (rcv_mk hs (by decide)) rfl fun d hd => ?_
  show runP MP d 67 (0, [some (.ref a), some (.ref p)], [], _) = _
  have c9 : ∀ {F : Nat → Int → Int32} {f : HeapP → ResP}, (acpI (mk (uE E a 0 p) F G) (p + 3) (zI 0) (a + 9) (zI 0) (zI 4)).bind f = f (mk (uE E a 0 p) (uR F (a + 9) (cpyZ (F (p + 3)) (F (a + 9)) 0 0 4)) G) := fun {F f} => acp_b (n0 := 4) (n1 := 4) hP.2.2.2.1 hS.2.2.2.1 (by omega) (by omega)
  have z10 : ∀ {F : Nat → Int → Int32} {kk : HeapP → ResP} {kx : Nat → HeapP → ResP}, cV (callP MP d 0 [.ref (a + 10), .int (zI 0)] (mk (uE E a 0 p) F G)) kk kx = kk (mk (uE E a 0 p) (uR F (a + 10) (zrI (F (a + 10)) 4 0)) G) := fun {F kk kx} => cc_0 (E := uE E a 0 p) (n := 4) hS.2.2.2.2.1 (by omega) (by omega)
  have z11 : ∀ {F : Nat → Int → Int32} {kk : HeapP → ResP} {kx : Nat → HeapP → ResP}, cV (callP MP d 0 [.ref (a + 11), .int (zI 0)] (mk (uE E a 0 p) F G)) kk kx = kk (mk (uE E a 0 p) (uR F (a + 11) (zrI (F (a + 11)) 4 0)) G) := fun {F kk kx} => cc_0 (E := uE E a 0 p) (n := 4) hS.2.2.2.2.2 (by omega) (by omega)
  unfold bgF
  rw [q_67_0]; (try simp only [↓n_rd, li_0, li_1, li_2, li_3, li_4, li_5, li_7, li_8, li_9, li_10, zI_add, zI_sub, zI_mul, zI_neg, ↓Option.bind_some]); simp (disch := (first | assumption | exact tI_rg _ | omega | exact uR_at | exact row_ne hF (by decide) | exact row_ne (row_ne hF (by decide)) (by decide) | exact SnS_18 | exact SnS_30 | exact LdS_44 | exact LdS_46)) only [↓c9, ↓z10, ↓z11, zI_tI, ↓n_rd, li_0, li_1, li_2, li_3, li_4, li_5, li_7, li_8, li_9, li_10, zI_add, zI_sub, zI_mul, zI_neg, ↓Option.bind_some, ↓g2_10, ↓PlS_l3, ↓PlS_s3, ↓g2_4, ↓g5_7, ↓SnS_l9, ↓SnS_s9, ↓g5_8, ↓SnS_l10, ↓SnS_s10, ↓g5_9, ↓SnS_l11, ↓SnS_s11, ↓p5_0, ↓p5_1, ↓p5_2, ↓p5_3, ↓p5_4, zIt2, uR_at, uR_ne, uR_uR, uC_uC, uC_at, ↓reduceIte, decide_eq_true_eq, leT, leF, ltT, ltF, eqT, eqF, ne_eq, not_true_eq_false, not_false_eq_true, Bool.false_eq_true, tI_zI]
theorem sum_0 {f : Nat → Int} : ∀ n, (∀ j, j < n → f j = 0) → sumN f n = 0 := by
  intro n
  induction n with
  | zero => intro _; rfl
  | succ n ih => intro h; unfold sumN; rw [ih (fun j hj => h j (by omega)), h n (by omega)]; rfl
theorem bg_SnO {E : EnQ} {F : Nat → Int → Int32} {a p : Nat} {D : Int → Int32} {w : Int} (hS : SnS E a) (hP : PlS E p) (hap : p + 5 < a ∨ a + 11 < p) (h : PlW F p D) (hD : PaJ D w) : SnO (uE E a 0 p) (bgF F a p) a D ∧ stepsZ D = 0 := by
  obtain ⟨hr, c4, c3, cw⟩ := h
  obtain ⟨hI, h5, h9, hz, hb⟩ := hD
  have hA := hI.1
  have w0 := hI.1.2.2.2.1
  have e0 : rfQ (uE E a 0 p) a 0 = p := by
    show uR E.2.2.2 a (uC (E.2.2.2 a) 0 p) a 0 = p
    rw [uR_at, uC_at]
  have ep : ∀ k, k ≤ 5 → bgF F a p (p + k) = F (p + k) := fun k hk => by
    unfold bgF
    rw [uR_ne (by omega), uR_ne (by omega), uR_ne (by omega), uR_ne (by omega)]
  have ep0 : bgF F a p p = F p := ep 0 (by omega)
  have ea : bgF F a p a = uC (uC (uC (uC (F a) 1 (F p 4)) 2 (zI 0)) 3 (zI 0)) 4 (zI 0) := by
    unfold bgF
    rw [uR_ne (by omega), uR_ne (by omega), uR_ne (by omega), uR_at]
  have e9 : bgF F a p (a + 9) = cpyZ (F (p + 3)) (F (a + 9)) 0 0 4 := by
    unfold bgF
    rw [uR_ne (by omega), uR_ne (by omega), uR_at]
  have e10 : bgF F a p (a + 10) = zrI (F (a + 10)) 4 0 := by
    unfold bgF
    rw [uR_ne (by omega), uR_at]
  have e11 : bgF F a p (a + 11) = zrI (F (a + 11)) 4 0 := by
    unfold bgF
    rw [uR_at]
  have hst : stepsZ D = 0 := by
    unfold stepsZ
    refine sum_0 _ (fun j hj => ?_)
    show tI (D (39 + 2 * (j : Int))) = 0
    rw [(hz (j : Int) (by omega) (by omega)).1, tz0]
  refine ⟨⟨hS, by rw [e0]; exact hP, ?_, ⟨⟨?_, ?_, ?_⟩, ⟨?_, ?_, ?_, ?_⟩, fun i i1 i2 => ?_, fun i i1 i2 => ?_, fun x x1 x2 => ⟨?_, ?_, ?_⟩⟩, hI⟩, hst⟩
  · rw [e0]
    unfold PlR at *
    rw [ep0, ep 1 (by omega), ep 2 (by omega), ep 4 (by omega), ep 5 (by omega)]
    exact hr
  · rw [ea, uC_ne (by decide), uC_ne (by decide), uC_ne (by decide), uC_at]; exact c4
  · rw [ea, uC_ne (by decide), uC_ne (by decide), uC_at, h5]
  · rw [ea, uC_ne (by decide), uC_at, tz0, hst]
  · rw [ea, uC_at, tz0]; omega
  · rw [ea, uC_at, tz0]; omega
  · rw [ea, uC_at, h5, tz0]; omega
  · rw [ea, uC_at, h9, tz0]; have := hA.2.2.2.2.2.2.2.2.1; rw [if_pos (by omega)]
  · rw [h5, tz0] at i2; omega
  · rw [h9, tz0] at i2; omega
  · rw [e9, ← c3 x x1 x2]
    unfold cpyZ
    rw [if_pos (by omega)]; exact congrArg _ (by omega)
  · rw [e10, (hz x x1 x2).1]
    unfold zrI
    rw [if_pos (by omega)]
  · rw [e11, (hz x x1 x2).2]
    unfold zrI
    rw [if_pos (by omega)]
end S94zzza
