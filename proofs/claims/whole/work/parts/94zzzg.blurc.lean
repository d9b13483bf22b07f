/-! CLASS: blur -/
section S94zzzg
set_option linter.unusedVariables false
set_option linter.unusedSimpArgs false
theorem ldR_congr {r : Int → Int32} {fr to fr' to' : Nat → Int} {n : Nat} (h : ∀ k, k < n → fr k = fr' k ∧ to k = to' k) : ldR r fr to n = ldR r fr' to' n := by
  funext i
  have e : ldN fr to n i = ldN fr' to' n i := by
    unfold ldN
    exact orN_congr (fun k hk => by rw [(h k hk).1, (h k hk).2])
  unfold ldR
  rw [e]
def blA (K : Int → Int32) (r0 : Int → Int32) (p : List Int) (j : Nat) : Int → Int32 := ldR r0 (bFr K p) (bTo K p) (tI (K 5) + j - gnZ K p).toNat
theorem gc_root {K : Int → Int32} : ∀ {p : List Int} {f : Nat} {p' : List Int}, gcZ K p f = some p' → plZ p' 0 = plZ p 0
  | [], _, _, h => by cases h
  | u :: t, f, p', h => by
    have l2 : ((u :: t).length : Int) = t.length + 1 := rfl
    by_cases c : nxZ K u f = -1
    · rw [show gcZ K (u :: t) f = gcZ K t (u.toNat + 1) from if_pos c] at h
      cases t with
      | nil => cases h
      | cons w s =>
        have l3 : ((w :: s).length : Int) = s.length + 1 := rfl
        rw [gc_root h, plZ_lo (q := u) (by omega)]
    · rw [show gcZ K (u :: t) f = some (nxZ K u f :: u :: t) from if_neg c] at h
      injection h with h
      rw [← h, plZ_lo (by omega)]
theorem fth_root {K : Int → Int32} {most : Nat} {p p' : List Int} (h : fthZ K most p = some p') : plZ p' 0 = plZ p 0 := by
  unfold fthZ at h
  split at h
  · exact gc_root h
  · cases p with
    | nil => cases h
    | cons u t =>
      have l2 : ((u :: t).length : Int) = t.length + 1 := rfl
      have h : gcZ K t (u.toNat + 1) = some p' := h
      cases t with
      | nil => cases h
      | cons w s =>
        have l3 : ((w :: s).length : Int) = s.length + 1 := rfl
        rw [gc_root h, plZ_lo (q := u) (by omega)]
theorem ct_23 {d : Nat} {E : EnQ} {F : Nat → Int → Int32} {G : Nat → Int → Int64} {K : Int → Int32} {pl : Nat} {most : Int} {p : List Int} {r0 : Int → Int32} (hI : InvK K) (hpl : pl = 19 ∨ 247 ≤ pl) (hP : PlS E pl) (hR : PlR F pl K) (hp0 : p ≠ []) (hl : p.length ≤ 7) (hv : VaP K p) (hW : WaR E F K pl most p) (h45 : F 45 = blA K r0 p 0) (hd : 3 ≤ d) : callP MP d 23 [.ref 44, .ref 192, .int (zI (gnZ K p - tI (K 5)))] (mk E F G) = some (Sum.inl none, mk E (uR F 45 (blA K r0 p (p.length - 1))) G) := by
  have hq := hW.1
  have hl0 : 0 < p.length := len_pos hp0
  have ed : tI (F 192 2) = ((p.length - 1 : Nat) : Int) := by rw [hW.2.2.1]; omega
  obtain ⟨b0, b1, b2, b3, b4, b5, b6, b7, b8, b9⟩ := hI.1
  have hg := gnZ_rg (K := K) (p := p)
  have hg2 : gnZ K p ≤ 200 := by unfold gnZ; split <;> omega
  refine into (D := 2) (by omega) hM_23 (rcv_mk rfl (by decide)) rfl fun d hd => ?_
  show runP MP d 23 (0, [some (.ref 44), some (.ref 192), some (.int (zI (gnZ K p - tI (K 5)))), none], [], _) = _
  have h0 : runP MP d 23 (0, [some (.ref 44), some (.ref 192), some (.int (zI (gnZ K p - tI (K 5)))), none], [], mk E F G) = runP MP d 23 (2, [some (.ref 44), some (.ref 192), some (.int (zI (gnZ K p - tI (K 5)))), some (.int (zI (((0 : Nat) : Int) + 1)))], [], mk E (uR F 45 (blA K r0 p 0)) G) := by
    rw [← h45, uR_self, q_23_0]; rfl
  rw [h0]
  refine (loopN (fun j : Nat => runP MP d 23 (2, [some (.ref 44), some (.ref 192), some (.int (zI (gnZ K p - tI (K 5)))), some (.int (zI (((j : Nat) : Int) + 1)))], [], mk E (uR F 45 (blA K r0 p j)) G)) (p.length - 1) (fun j hj => ?_)).trans ?_
  · show runP MP d 23 (2, [some (.ref 44), some (.ref 192), some (.int (zI (gnZ K p - tI (K 5)))), some (.int (zI (((j : Nat) : Int) + 1)))], [], mk E (uR F 45 (blA K r0 p j)) G) = runP MP d 23 (2, [some (.ref 44), some (.ref 192), some (.int (zI (gnZ K p - tI (K 5)))), some (.int (zI ((((j + 1) : Nat) : Int) + 1)))], [], mk E (uR F 45 (blA K r0 p (j + 1))) G)
    have hr : tI (F 200 ((j : Int) + 1)) = pwZ K p j := hW.2.2.2.2 j (by omega) (by omega)
    rw [nsucc]
    by_cases c : (j : Int) + 1 ≤ gnZ K p - tI (K 5)
    · have e : blA K r0 p (j + 1) = blA K r0 p j := by
        unfold blA
        rw [show (tI (K 5) + ((j + 1 : Nat) : Int) - gnZ K p).toNat = (tI (K 5) + (j : Int) - gnZ K p).toNat by omega]
      rw [e]
      rw [q_23_2]; (try simp only [↓n_rd, ↓n_al, li_0, li_1, li_2, li_4, li_10, zI_add, zI_sub, zI_mul, zI_neg, ↓Option.bind_some]); simp (disch := (first | assumption | exact tI_rg _ | omega | exact uR_at | exact row_ne hF (by decide) | exact row_ne (row_ne hF (by decide)) (by decide) | exact SnS_18 | exact SnS_30 | exact LdS_44 | exact LdS_46)) only [q_23_0, q_23_29, ed, ↓n_rd, ↓n_al, li_0, li_1, li_2, li_4, li_10, zI_add, zI_sub, zI_mul, zI_neg, ↓Option.bind_some, ↓g10_0, ↓g10_2, ↓g10_4, ↓al_200, ↓as_200, zIt2, uR_at, uR_ne, uR_uR, uC_uC, uC_at, ↓reduceIte, decide_eq_true_eq, leT, leF, ltT, ltF, eqT, eqF, ne_eq, not_true_eq_false, not_false_eq_true, Bool.false_eq_true, tI_zI]
    · obtain ⟨x, y, g1, g2, -⟩ := pwZ_ne hv j (by omega) (by omega)
      have hx := (wayZ_ends hI g1).1
      rw [← g2] at hx
      have hs : sbZ K p (tI (K 5) + j) = pwZ K p j := by
        unfold sbZ
        rw [if_neg (by omega), show tI (K 5) + (j : Int) - tI (K 5) = j by omega]
      have hfr := from_in hI hx
      have en : (((tI (K 5) + (j : Int) - gnZ K p).toNat : Nat) : Int) = tI (K 5) + j - gnZ K p := by omega
      have ef : bFr K p (tI (K 5) + (j : Int) - gnZ K p).toNat = fromZ K (pwZ K p j) := by
        unfold bFr; rw [en, show gnZ K p + (tI (K 5) + (j : Int) - gnZ K p) = tI (K 5) + j by omega, hs]
      have et : bTo K p (tI (K 5) + (j : Int) - gnZ K p).toNat = toZ K (pwZ K p j) := by
        unfold bTo; rw [en, show gnZ K p + (tI (K 5) + (j : Int) - gnZ K p) = tI (K 5) + j by omega, hs]
      have h17 : ∀ {kk : HeapP → ResP} {kx : Nat → HeapP → ResP}, cV (callP MP d 17 [.ref 44, .ref pl, .int (zI (pwZ K p j))] (mk E (uR F 45 (blA K r0 p j)) G)) kk kx = kk (mk E (uR F 45 (blA K r0 p (j + 1))) G) := fun {kk kx} => by
        rw [cc_17 (a := 44) (p := pl) (K := K) LdS_44 (PlR_ld hI (by omega) hR) hI hP hx (by omega), uR_uR, uR_at]
        unfold blA
        rw [show (tI (K 5) + ((j + 1 : Nat) : Int) - gnZ K p).toNat = (tI (K 5) + (j : Int) - gnZ K p).toNat + 1 by omega, ldR_s (by rw [ef]; omega), ef, et]
      rw [q_23_2]; (try simp only [↓n_rd, ↓n_al, li_0, li_1, li_2, li_4, li_10, zI_add, zI_sub, zI_mul, zI_neg, ↓Option.bind_some]); simp (disch := (first | assumption | exact tI_rg _ | omega | exact uR_at | exact row_ne hF (by decide) | exact row_ne (row_ne hF (by decide)) (by decide) | exact SnS_18 | exact SnS_30 | exact LdS_44 | exact LdS_46)) only [q_23_0, q_23_29, hq, ed, hr, ↓h17, ↓n_rd, ↓n_al, li_0, li_1, li_2, li_4, li_10, zI_add, zI_sub, zI_mul, zI_neg, ↓Option.bind_some, ↓g10_0, ↓g10_2, ↓g10_4, ↓al_200, ↓as_200, zIt2, uR_at, uR_ne, uR_uR, uC_uC, uC_at, ↓reduceIte, decide_eq_true_eq, leT, leF, ltT, ltF, eqT, eqF, ne_eq, not_true_eq_false, not_false_eq_true, Bool.false_eq_true, tI_zI]
  · show runP MP d 23 (2, [some (.ref 44), some (.ref 192), some (.int (zI (gnZ K p - tI (K 5)))), some (.int (zI ((((p.length - 1) : Nat) : Int) + 1)))], [], mk E (uR F 45 (blA K r0 p (p.length - 1))) G) = _
    rw [q_23_2]; (try simp only [↓n_rd, ↓n_al, li_0, li_1, li_2, li_4, li_10, zI_add, zI_sub, zI_mul, zI_neg, ↓Option.bind_some]); simp (disch := (first | assumption | exact tI_rg _ | omega | exact uR_at | exact row_ne hF (by decide) | exact row_ne (row_ne hF (by decide)) (by decide) | exact SnS_18 | exact SnS_30 | exact LdS_44 | exact LdS_46)) only [q_23_0, q_23_29, ed, ↓n_rd, ↓n_al, li_0, li_1, li_2, li_4, li_10, zI_add, zI_sub, zI_mul, zI_neg, ↓Option.bind_some, ↓g10_0, ↓g10_2, ↓g10_4, ↓al_200, ↓as_200, zIt2, uR_at, uR_ne, uR_uR, uC_uC, uC_at, ↓reduceIte, decide_eq_true_eq, leT, leF, ltT, ltF, eqT, eqF, ne_eq, not_true_eq_false, not_false_eq_true, Bool.false_eq_true, tI_zI]

theorem cc_23 {d : Nat} {E : EnQ} {F : Nat → Int → Int32} {G : Nat → Int → Int64} {K : Int → Int32} {pl : Nat} {most : Int} {p : List Int} {r0 : Int → Int32} {kk : HeapP → ResP} {kx : Nat → HeapP → ResP} (hI : InvK K) (hpl : pl = 19 ∨ 247 ≤ pl) (hP : PlS E pl) (hR : PlR F pl K) (hp0 : p ≠ []) (hl : p.length ≤ 7) (hv : VaP K p) (hW : WaR E F K pl most p) (h45 : F 45 = blA K r0 p 0) (hd : 3 ≤ d) : cV (callP MP d 23 [.ref 44, .ref 192, .int (zI (gnZ K p - tI (K 5)))] (mk E F G)) kk kx = kk (mk E (uR F 45 (blA K r0 p (p.length - 1))) G) := cV_ret (ct_23 hI hpl hP hR hp0 hl hv hW h45 hd)
def cpB (r a : Int → Int32) (n : Nat) : Int → Int32 := fun i => if 0 ≤ i ∧ i < n then zI (tI (a (i + 1))) else r i
theorem cpB_0 {r a : Int → Int32} : cpB r a 0 = r := by funext i; exact if_neg (by omega)
theorem cpB_s {r a : Int → Int32} {n : Nat} : cpB r a (n + 1) = uC (cpB r a n) n (zI (tI (a (n + 1)))) := by
  funext i
  by_cases e : i = (n : Int)
  · rw [e, uC_at]; exact if_pos (by omega)
  · rw [uC_ne e]
    unfold cpB
    by_cases g : 0 ≤ i ∧ i < n
    · rw [if_pos g, if_pos (by omega)]
    · rw [if_neg g, if_neg (by omega)]
theorem ct_108 {d : Nat} {E : EnQ} {F : Nat → Int → Int32} {G : Nat → Int → Int64} {m : Nat} (hm : tI (F 192 2) = m) (hm6 : m ≤ 6) (hd : 1 ≤ d) : callP MP d 108 [.ref 192, .ref 208] (mk E F G) = some (Sum.inl none, mk E (uR F 208 (cpB (F 208) (F 199) m)) G) := by
  have hlen : ∀ {F : Nat → Int → Int32} {f : Int → ResP}, (lenT (mk E F G) 208).bind f = f 6 := fun {F f} => len_I (n := 6) (by rfl) (by decide)
  refine into (D := 0) (by omega) hM_108 (rcv_mk rfl (by decide)) rfl fun d hd => ?_
  show runP MP d 108 (0, [some (.ref 192), some (.ref 208), none], [], _) = _
  have h0 : runP MP d 108 (0, [some (.ref 192), some (.ref 208), none], [], mk E F G) = runP MP d 108 (2, [some (.ref 192), some (.ref 208), some (.int (zI (((0 : Nat) : Int) + 1)))], [], mk E (uR F 208 (cpB (F 208) (F 199) 0)) G) := by
    rw [cpB_0, uR_self, q_108_0]; rfl
  rw [h0]
  refine (loopN (fun j : Nat => runP MP d 108 (2, [some (.ref 192), some (.ref 208), some (.int (zI (((j : Nat) : Int) + 1)))], [], mk E (uR F 208 (cpB (F 208) (F 199) j)) G)) (m) (fun j hj => ?_)).trans ?_
  · show runP MP d 108 (2, [some (.ref 192), some (.ref 208), some (.int (zI (((j : Nat) : Int) + 1)))], [], mk E (uR F 208 (cpB (F 208) (F 199) j)) G) = runP MP d 108 (2, [some (.ref 192), some (.ref 208), some (.int (zI ((((j + 1) : Nat) : Int) + 1)))], [], mk E (uR F 208 (cpB (F 208) (F 199) (j + 1))) G)
    rw [nsucc, cpB_s]
    have e1 : (j : Int) + 1 - 1 = (j : Int) := by omega
    rw [q_108_2]; (try simp only [↓n_rd, ↓n_al, ↓n_len, li_0, li_1, li_2, li_3, li_10, zI_add, zI_sub, zI_mul, zI_neg, ↓Option.bind_some]); simp (disch := (first | assumption | exact tI_rg _ | omega | exact uR_at | exact row_ne hF (by decide) | exact row_ne (row_ne hF (by decide)) (by decide) | exact SnS_18 | exact SnS_30 | exact LdS_44 | exact LdS_46)) only [q_108_0, q_108_33, hm, ↓hlen, ↓al_199, ↓as_208, e1, ↓n_rd, ↓n_al, ↓n_len, li_0, li_1, li_2, li_3, li_10, zI_add, zI_sub, zI_mul, zI_neg, ↓Option.bind_some, ↓g10_2, ↓g10_3, ↓al_199, ↓as_199, zIt2, uR_at, uR_ne, uR_uR, uC_uC, uC_at, ↓reduceIte, decide_eq_true_eq, leT, leF, ltT, ltF, eqT, eqF, ne_eq, not_true_eq_false, not_false_eq_true, Bool.false_eq_true, tI_zI]
  · show runP MP d 108 (2, [some (.ref 192), some (.ref 208), some (.int (zI ((((m) : Nat) : Int) + 1)))], [], mk E (uR F 208 (cpB (F 208) (F 199) (m))) G) = _
    rw [q_108_2]; (try simp only [↓n_rd, ↓n_al, ↓n_len, li_0, li_1, li_2, li_3, li_10, zI_add, zI_sub, zI_mul, zI_neg, ↓Option.bind_some]); simp (disch := (first | assumption | exact tI_rg _ | omega | exact uR_at | exact row_ne hF (by decide) | exact row_ne (row_ne hF (by decide)) (by decide) | exact SnS_18 | exact SnS_30 | exact LdS_44 | exact LdS_46)) only [q_108_0, q_108_33, hm, ↓hlen, ↓n_rd, ↓n_al, ↓n_len, li_0, li_1, li_2, li_3, li_10, zI_add, zI_sub, zI_mul, zI_neg, ↓Option.bind_some, ↓g10_2, ↓g10_3, ↓al_199, ↓as_199, zIt2, uR_at, uR_ne, uR_uR, uC_uC, uC_at, ↓reduceIte, decide_eq_true_eq, leT, leF, ltT, ltF, eqT, eqF, ne_eq, not_true_eq_false, not_false_eq_true, Bool.false_eq_true, tI_zI]
end S94zzzg
