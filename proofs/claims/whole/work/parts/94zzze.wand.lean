/-! CLASS: one step of a row -/
section S94zzze
set_option linter.unusedVariables false
set_option linter.unusedSimpArgs false
def gnF (F : Nat → Int → Int32) (m v y : Int) : Nat → Int → Int32 := uR (uR (uR F 192 (uC (F 192) 2 (zI (m + 1)))) 199 (uC (F 199) (m + 1) (zI v))) 200 (uC (F 200) (m + 1) (zI y))
theorem nx_none {K : Int → Int32} {u : Int} {f : Nat} (h : ∀ i : Nat, f ≤ i → (i : Int) < tI (K 1) → wayZ K u i = -1) : nxZ K u f = -1 := fndN_none (fun i h1 h2 => wyB_f.mpr (h i h1 (by omega)))
theorem nx_eq {K : Int → Int32} {u : Int} {f v : Nat} (h1 : f ≤ v) (h2 : (v : Int) < tI (K 1)) (h3 : wayZ K u v ≠ -1) (h : ∀ i : Nat, f ≤ i → i < v → wayZ K u i = -1) : nxZ K u f = (v : Int) := fndN_eq h1 (by omega) (wyB_t.mpr h3) (fun i g1 g2 => wyB_f.mpr (h i g1 g2))
theorem ct_110 {d : Nat} {E : EnQ} {F : Nat → Int → Int32} {G : Nat → Int → Int64} {K : Int → Int32} {p f : Nat} {m u : Int} (hq : rfQ E 192 0 = p) (hR : PlR F p K) (hI : InvK K) (hP : PlS E p) (hm : tI (F 192 2) = m) (hm2 : 0 ≤ m ∧ m < 6) (hu : tI (F 199 m) = u) (hu2 : 0 ≤ u ∧ u < tI (K 1)) (hf : f ≤ 10) (hd : 3 ≤ d) : callP MP d 110 [.ref 192, .int (zI (f : Int))] (mk E F G) = some (Sum.inl (some (.int (zI (if nxZ K u f = -1 then 0 else 1)))), mk E (if nxZ K u f = -1 then F else gnF F m (nxZ K u f) (wayZ K u (nxZ K u f))) G) := by
  have hs2 := hP.1
  have hA := hI.1.2.1
  have hA2 := hI.1.2.2.1
  have e1 : tI (F p 1) = tI (K 1) := by rw [hR.1.2.1]
  refine into (D := 2) (by omega) hM_110 (rcv_mk rfl (by decide)) rfl fun d hd => ?_
  show runP MP d 110 (0, [some (.ref 192), some (.int (zI (f : Int))), none, none], [], _) = _
  have h0 : runP MP d 110 (0, [some (.ref 192), some (.int (zI (f : Int))), none, none], [], mk E F G) = runP MP d 110 (2, [some (.ref 192), some (.int (zI (f : Int))), some (.int (zI ((f + 0 : Nat) : Int))), none], [], mk E F G) := by
    rw [q_110_0]; rfl
  rw [h0]
  refine loopS (σ := Option Value) (Post := fun r => r = some (Sum.inl (some (.int (zI (if nxZ K u f = -1 then 0 else 1)))), mk E (if nxZ K u f = -1 then F else gnF F m (nxZ K u f) (wayZ K u (nxZ K u f))) G))
    (fun j s => runP MP d 110 (2, [some (.ref 192), some (.int (zI (f : Int))), some (.int (zI ((f + j : Nat) : Int))), s], [], mk E F G))
    (fun j _ => ∀ i, f ≤ i → i < f + j → wayZ K u i = -1) ((tI (K 1)).toNat - f) none (fun i h1 h2 => by omega) (fun s hI2 => ?_) (fun j s hj hI2 => ?_)
  · show runP MP d 110 _ = _
    have e : nxZ K u f = -1 := nx_none (fun i h1 h2 => hI2 i h1 (by omega))
    rw [if_pos e, if_pos e]
    have g : tI (K 1) ≤ ((f + ((tI (K 1)).toNat - f) : Nat) : Int) := by omega
    rw [q_110_2]; (try simp only [↓n_rd, ↓n_al, ↓n_cI, li_0, li_1, li_2, li_3, li_4, li_6, li_10, zI_add, zI_sub, zI_mul, zI_neg, ↓Option.bind_some]); simp (disch := (first | assumption | exact tI_rg _ | omega | exact uR_at | exact row_ne hF (by decide) | exact row_ne (row_ne hF (by decide)) (by decide) | exact SnS_18 | exact SnS_30 | exact LdS_44 | exact LdS_46)) only [q_110_0, q_110_83, hq, e1, ↓n_rd, ↓n_al, ↓n_cI, retZ_z, li_0, li_1, li_2, li_3, li_4, li_6, li_10, zI_add, zI_sub, zI_mul, zI_neg, ↓Option.bind_some, ↓g10_0, ↓g10_2, ↓g10_3, ↓g10_4, ↓g2_1, ↓p10_2, ↓al_199, ↓as_199, ↓al_200, ↓as_200, zIt2, uR_at, uR_ne, uR_uR, uC_uC, uC_at, ↓reduceIte, decide_eq_true_eq, leT, leF, ltT, ltF, eqT, eqF, ne_eq, not_true_eq_false, not_false_eq_true, Bool.false_eq_true, tI_zI]
  · have hj2 : ((f + j : Nat) : Int) < tI (K 1) := by omega
    have hw := wayZ_lo hA2 u ((f + j : Nat) : Int)
    have c26 : ∀ {kk : Int → HeapP → ResP} {kx : Nat → HeapP → ResP}, cT (callP MP d 26 [.ref p, .int (zI u), .int (zI ((f + j : Nat) : Int))] (mk E F G)) kk kx = kk (wayZ K u ((f + j : Nat) : Int)) (mk E F G) := fun {kk kx} => by
      rw [cc_26 hR hI hP (by omega) (by omega) (by omega), if_pos ⟨hu2, by omega, hj2⟩]
    by_cases c : wayZ K u ((f + j : Nat) : Int) = -1
    · right
      refine ⟨some (.int (zI (-1))), fun i h1 h2 => ?_, ?_⟩
      · by_cases z : i = f + j
        · rw [z]; exact c
        · exact hI2 i h1 (by omega)
      · show runP MP d 110 _ = runP MP d 110 _
        rw [c] at c26
        rw [show ((f + (j + 1) : Nat) : Int) = ((f + j : Nat) : Int) + 1 from rfl]
        rw [q_110_2]; (try simp only [↓n_rd, ↓n_al, ↓n_cI, li_0, li_1, li_2, li_3, li_4, li_6, li_10, zI_add, zI_sub, zI_mul, zI_neg, ↓Option.bind_some]); simp (disch := (first | assumption | exact tI_rg _ | omega | exact uR_at | exact row_ne hF (by decide) | exact row_ne (row_ne hF (by decide)) (by decide) | exact SnS_18 | exact SnS_30 | exact LdS_44 | exact LdS_46)) only [q_110_0, q_110_83, hq, e1, hm, hu, ↓c26, ↓n_rd, ↓n_al, ↓n_cI, retZ_z, li_0, li_1, li_2, li_3, li_4, li_6, li_10, zI_add, zI_sub, zI_mul, zI_neg, ↓Option.bind_some, ↓g10_0, ↓g10_2, ↓g10_3, ↓g10_4, ↓g2_1, ↓p10_2, ↓al_199, ↓as_199, ↓al_200, ↓as_200, zIt2, uR_at, uR_ne, uR_uR, uC_uC, uC_at, ↓reduceIte, decide_eq_true_eq, leT, leF, ltT, ltF, eqT, eqF, ne_eq, not_true_eq_false, not_false_eq_true, Bool.false_eq_true, tI_zI]
    · left
      show runP MP d 110 _ = _
      have e : nxZ K u f = ((f + j : Nat) : Int) := nx_eq (by omega) (by omega) c (fun i h1 h2 => hI2 i h1 h2)
      rw [e, if_neg (by omega), if_neg (by omega)]
      unfold gnF
      rw [q_110_2]; (try simp only [↓n_rd, ↓n_al, ↓n_cI, li_0, li_1, li_2, li_3, li_4, li_6, li_10, zI_add, zI_sub, zI_mul, zI_neg, ↓Option.bind_some]); simp (disch := (first | assumption | exact tI_rg _ | omega | exact uR_at | exact row_ne hF (by decide) | exact row_ne (row_ne hF (by decide)) (by decide) | exact SnS_18 | exact SnS_30 | exact LdS_44 | exact LdS_46)) only [q_110_0, q_110_83, hq, e1, hm, hu, ↓c26, ↓n_rd, ↓n_al, ↓n_cI, retZ_z, li_0, li_1, li_2, li_3, li_4, li_6, li_10, zI_add, zI_sub, zI_mul, zI_neg, ↓Option.bind_some, ↓g10_0, ↓g10_2, ↓g10_3, ↓g10_4, ↓g2_1, ↓p10_2, ↓al_199, ↓as_199, ↓al_200, ↓as_200, zIt2, uR_at, uR_ne, uR_uR, uC_uC, uC_at, ↓reduceIte, decide_eq_true_eq, leT, leF, ltT, ltF, eqT, eqF, ne_eq, not_true_eq_false, not_false_eq_true, Bool.false_eq_true, tI_zI]
theorem cc_110 {d : Nat} {E : EnQ} {F : Nat → Int → Int32} {G : Nat → Int → Int64} {K : Int → Int32} {p f : Nat} {m u : Int} {kk : Int → HeapP → ResP} {kx : Nat → HeapP → ResP} (hq : rfQ E 192 0 = p) (hR : PlR F p K) (hI : InvK K) (hP : PlS E p) (hm : tI (F 192 2) = m) (hm2 : 0 ≤ m ∧ m < 6) (hu : tI (F 199 m) = u) (hu2 : 0 ≤ u ∧ u < tI (K 1)) (hf : f ≤ 10) (hd : 3 ≤ d) : cT (callP MP d 110 [.ref 192, .int (zI (f : Int))] (mk E F G)) kk kx = kk (if nxZ K u f = -1 then 0 else 1) (mk E (if nxZ K u f = -1 then F else gnF F m (nxZ K u f) (wayZ K u (nxZ K u f))) G) := cT_ret (ct_110 hq hR hI hP hm hm2 hu hu2 hf hd) (by split <;> omega)
/-- the row that stands -/
def WaR (E : EnQ) (F : Nat → Int → Int32) (K : Int → Int32) (pl : Nat) (most : Int) (p : List Int) : Prop := rfQ E 192 0 = pl ∧ tI (F 192 1) = most ∧ tI (F 192 2) = p.length - 1 ∧ (∀ j : Int, 0 ≤ j → j < p.length → tI (F 199 j) = plZ p j) ∧ (∀ j : Int, 0 ≤ j → j + 1 < p.length → tI (F 200 (j + 1)) = pwZ K p j)
theorem WaR_gn {E : EnQ} {F : Nat → Int → Int32} {K : Int → Int32} {pl : Nat} {most v : Int} {p : List Int} {m : Int} (h : WaR E F K pl most p) (hp : p ≠ []) (hl : p.length ≤ 6) (hm : m = p.length - 1) (hv : -1 ≤ v ∧ v < 2147483647) (hw : ∀ a b, -1 ≤ wayZ K a b ∧ wayZ K a b ≤ 100) : WaR E (gnF F m v (wayZ K (hdL p) v)) K pl most (v :: p) := by
  have hl0 : 0 < p.length := len_pos hp
  have hl1 : ((v :: p).length : Int) = p.length + 1 := rfl
  have e192 : gnF F m v (wayZ K (hdL p) v) 192 = uC (F 192) 2 (zI (m + 1)) := (uR_ne (by decide)).trans ((uR_ne (by decide)).trans uR_at)
  have e199 : gnF F m v (wayZ K (hdL p) v) 199 = uC (F 199) (m + 1) (zI v) := (uR_ne (by decide)).trans uR_at
  have e200 : gnF F m v (wayZ K (hdL p) v) 200 = uC (F 200) (m + 1) (zI (wayZ K (hdL p) v)) := uR_at
  refine ⟨h.1, ?_, ?_, fun j h1 h2 => ?_, fun j h1 h2 => ?_⟩
  · rw [e192, uC_ne (by decide)]; exact h.2.1
  · rw [e192, uC_at, tI_zI (by omega)]; omega
  · rw [e199]
    by_cases e : j = p.length
    · rw [plZ_top e, uC_eq (by omega), tI_zI (by omega)]
    · rw [plZ_lo e, uC_ne (by omega)]; exact h.2.2.2.1 j h1 (by omega)
  · rw [e200]
    by_cases e : j + 1 = p.length
    · have := hw (hdL p) v
      rw [pwZ_top e, uC_eq (by omega), tI_zI (by omega)]
    · rw [pwZ_lo e, uC_ne (by omega)]; exact h.2.2.2.2 j h1 (by omega)
theorem WaR_back {E : EnQ} {F : Nat → Int → Int32} {K : Int → Int32} {pl : Nat} {most u m : Int} {p : List Int} (h : WaR E F K pl most (u :: p)) (hl : p.length ≤ 6) (hm : m = p.length - 1) : WaR E (uR F 192 (uC (F 192) 2 (zI m))) K pl most p := by
  have hl1 : ((u :: p).length : Int) = p.length + 1 := rfl
  refine ⟨h.1, ?_, ?_, fun j h1 h2 => ?_, fun j h1 h2 => ?_⟩
  · rw [uR_at, uC_ne (by decide)]; exact h.2.1
  · rw [uR_at, uC_at, tI_zI (by omega)]; exact hm
  · rw [uR_ne (by decide), h.2.2.2.1 j h1 (by omega), plZ_lo (by omega)]
  · rw [uR_ne (by decide), h.2.2.2.2 j h1 (by omega), pwZ_lo (by omega)]
def kp3 (F F1 : Nat → Int → Int32) : Prop := ∀ q, q ≠ 192 → q ≠ 199 → q ≠ 200 → F1 q = F q
theorem kp3_gn {F : Nat → Int → Int32} {m v y : Int} : kp3 F (gnF F m v y) := fun q h1 h2 h3 => (uR_ne h3).trans ((uR_ne h2).trans (uR_ne h1))
theorem PlR_kp3 {F F1 : Nat → Int → Int32} {K : Int → Int32} {p : Nat} (hI : InvK K) (hp : p = 19 ∨ 247 ≤ p) (h : kp3 F F1) (hR : PlR F p K) : PlR F1 p K := PlR_move hI (fun b h1 h2 => h b (by omega) (by omega) (by omega)) (fun j _ => rfl) hR
theorem go_clm {d : Nat} {E : EnQ} {G : Nat → Int → Int64} {K : Int → Int32} {pl : Nat} {most : Int} (hI : InvK K) (hp : pl = 19 ∨ 247 ≤ pl) (hP : PlS E pl) (hd : 3 ≤ d) : ∀ (p : List Int) (F : Nat → Int → Int32) (z : Option Value), p ≠ [] → p.length ≤ 7 → VaP K p → WaR E F K pl most p → PlR F pl K →
    ∃ F1, runP MP d 109 (21, [some (.ref 192), z], [], mk E F G) = some (Sum.inl (some (.int (zI (if (clmZ K p).isSome = true then 1 else 0)))), mk E F1 G) ∧ kp3 F F1 ∧ ∀ p', clmZ K p = some p' → WaR E F1 K pl most p' := by
  intro p
  induction p with
  | nil => intro F z h; exact absurd rfl h
  | cons u t ih =>
    intro F z _ hl hv hW hR
    have hl1 : (u :: t).length = t.length + 1 := rfl
    have hb1 := hI.1.2.1
    have hm : tI (F 192 2) = (t.length : Int) := by rw [hW.2.2.1, hl1]; omega
    by_cases ht : t = []
    · have e : clmZ K (u :: t) = none := by rw [ht]; rfl
      have hm0 : tI (F 192 2) = 0 := by rw [hm, ht]; rfl
      refine ⟨F, ?_, fun _ _ _ _ => rfl, fun p' h => by rw [e] at h; cases h⟩
      rw [e, if_neg (by decide)]
      rw [q_109_21]; (try simp only [↓n_rd, ↓n_al, ↓n_cI, li_0, li_1, li_2, li_3, li_10, zI_add, zI_sub, zI_mul, zI_neg, ↓Option.bind_some]); simp (disch := (first | assumption | exact tI_rg _ | omega | exact uR_at | exact row_ne hF (by decide) | exact row_ne (row_ne hF (by decide)) (by decide) | exact SnS_18 | exact SnS_30 | exact LdS_44 | exact LdS_46)) only [q_109_0, hm0, ↓n_rd, ↓n_al, ↓n_cI, retZ_z, li_0, li_1, li_2, li_3, li_10, zI_add, zI_sub, zI_mul, zI_neg, ↓Option.bind_some, ↓g10_1, ↓g10_2, ↓g10_3, ↓p10_2, ↓al_199, ↓as_199, zIt2, uR_at, uR_ne, uR_uR, uC_uC, uC_at, ↓reduceIte, decide_eq_true_eq, leT, leF, ltT, ltF, eqT, eqF, ne_eq, not_true_eq_false, not_false_eq_true, Bool.false_eq_true, tI_zI]
    · have hl0 : 0 < t.length := len_pos ht
      have hu : tI (F 199 (t.length : Int)) = u := by rw [hW.2.2.2.1 t.length (by omega) (by omega), plZ_top rfl]
      have hu2 := hv.1
      obtain ⟨w, s, rfl⟩ : ∃ w s, t = w :: s := by
        cases t with
        | nil => exact absurd rfl ht
        | cons w s => exact ⟨w, s, rfl⟩
      have hl2 : (w :: s).length = s.length + 1 := rfl
      have hW2 := WaR_back (m := (s.length : Int)) hW (by omega) (by omega)
      have k2 : kp3 F (uR F 192 (uC (F 192) 2 (zI (s.length : Int)))) := fun q h1 _ _ => uR_ne h1
      have hR2 := PlR_kp3 hI hp k2 hR
      have hw2 : tI (uR F 192 (uC (F 192) 2 (zI (s.length : Int))) 199 (s.length : Int)) = w := by rw [hW2.2.2.2.1 s.length (by omega) (by omega), plZ_top rfl]
      have hu3 : u = ((u.toNat : Nat) : Int) := by omega
      have c110 : ∀ {kk : Int → HeapP → ResP} {kx : Nat → HeapP → ResP}, cT (callP MP d 110 [.ref 192, .int (zI (u + 1))] (mk E (uR F 192 (uC (F 192) 2 (zI (s.length : Int)))) G)) kk kx = kk (if nxZ K w (u.toNat + 1) = -1 then 0 else 1) (mk E (if nxZ K w (u.toNat + 1) = -1 then (uR F 192 (uC (F 192) 2 (zI (s.length : Int)))) else gnF (uR F 192 (uC (F 192) 2 (zI (s.length : Int)))) (s.length : Int) (nxZ K w (u.toNat + 1)) (wayZ K w (nxZ K w (u.toNat + 1)))) G) := fun {kk kx} => by
        have := cc_110 (d := d) (G := G) (kk := kk) (kx := kx) (f := u.toNat + 1) (m := (s.length : Int)) hW2.1 hR2 hI hP (by rw [hW2.2.2.1]; omega) (by omega) hw2 hv.2.2.1 (by omega) hd
        rw [show ((u.toNat + 1 : Nat) : Int) = u + 1 by omega] at this
        exact this
      by_cases c : nxZ K w (u.toNat + 1) = -1
      · have e : clmZ K (u :: w :: s) = clmZ K (w :: s) := if_pos c
        rw [if_pos c, if_pos c] at c110
        obtain ⟨F1, h1, h2, h3⟩ := ih (uR F 192 (uC (F 192) 2 (zI (s.length : Int)))) (some (.int (zI u))) (by intro z; cases z) (by omega) hv.2.2 hW2 hR2
        refine ⟨F1, ?_, fun q a b c => (h2 q a b c).trans (k2 q a b c), fun p' h => h3 p' (by rw [← e]; exact h)⟩
        rw [e, ← h1]
        have em : ((s.length + 1 : Nat) : Int) - 1 = (s.length : Int) := by omega
        rw [hl2] at hm hu
        rw [q_109_21]; (try simp only [↓n_rd, ↓n_al, ↓n_cI, li_0, li_1, li_2, li_3, li_10, zI_add, zI_sub, zI_mul, zI_neg, ↓Option.bind_some]); simp (disch := (first | assumption | exact tI_rg _ | omega | exact uR_at | exact row_ne hF (by decide) | exact row_ne (row_ne hF (by decide)) (by decide) | exact SnS_18 | exact SnS_30 | exact LdS_44 | exact LdS_46)) only [q_109_0, hm, hu, em, ↓c110, ↓n_rd, ↓n_al, ↓n_cI, retZ_z, li_0, li_1, li_2, li_3, li_10, zI_add, zI_sub, zI_mul, zI_neg, ↓Option.bind_some, ↓g10_1, ↓g10_2, ↓g10_3, ↓p10_2, ↓al_199, ↓as_199, zIt2, uR_at, uR_ne, uR_uR, uC_uC, uC_at, ↓reduceIte, decide_eq_true_eq, leT, leF, ltT, ltF, eqT, eqF, ne_eq, not_true_eq_false, not_false_eq_true, Bool.false_eq_true, tI_zI]
      · have e : clmZ K (u :: w :: s) = some (nxZ K w (u.toNat + 1) :: w :: s) := if_neg c
        rw [if_neg c, if_neg c] at c110
        have hr := nxZ_rg K w (u.toNat + 1)
        refine ⟨gnF (uR F 192 (uC (F 192) 2 (zI (s.length : Int)))) (s.length : Int) (nxZ K w (u.toNat + 1)) (wayZ K w (nxZ K w (u.toNat + 1))), ?_, fun q a b c => (kp3_gn q a b c).trans (k2 q a b c), fun p' h => ?_⟩
        · rw [e, if_pos (by rfl)]
          have em : ((s.length + 1 : Nat) : Int) - 1 = (s.length : Int) := by omega
          rw [hl2] at hm hu
          rw [q_109_21]; (try simp only [↓n_rd, ↓n_al, ↓n_cI, li_0, li_1, li_2, li_3, li_10, zI_add, zI_sub, zI_mul, zI_neg, ↓Option.bind_some]); simp (disch := (first | assumption | exact tI_rg _ | omega | exact uR_at | exact row_ne hF (by decide) | exact row_ne (row_ne hF (by decide)) (by decide) | exact SnS_18 | exact SnS_30 | exact LdS_44 | exact LdS_46)) only [q_109_0, hm, hu, em, ↓c110, ↓n_rd, ↓n_al, ↓n_cI, retZ_z, li_0, li_1, li_2, li_3, li_10, zI_add, zI_sub, zI_mul, zI_neg, ↓Option.bind_some, ↓g10_1, ↓g10_2, ↓g10_3, ↓p10_2, ↓al_199, ↓as_199, zIt2, uR_at, uR_ne, uR_uR, uC_uC, uC_at, ↓reduceIte, decide_eq_true_eq, leT, leF, ltT, ltF, eqT, eqF, ne_eq, not_true_eq_false, not_false_eq_true, Bool.false_eq_true, tI_zI]
        · rw [e] at h
          injection h with h
          rw [← h]
          exact WaR_gn (p := w :: s) hW2 (by intro z; cases z) (by omega) (by omega) (by omega) (fun a b => by have := wayZ_lo hI.1.2.2.1 a b; omega)
theorem ct_109 {d : Nat} {E : EnQ} {F : Nat → Int → Int32} {G : Nat → Int → Int64} {K : Int → Int32} {pl most : Nat} {p : List Int} (hI : InvK K) (hp : pl = 19 ∨ 247 ≤ pl) (hP : PlS E pl) (hp0 : p ≠ []) (hl : p.length ≤ most + 1) (hm6 : most ≤ 6) (hv : VaP K p) (hW : WaR E F K pl most p) (hR : PlR F pl K) (hd : 4 ≤ d) :
    ∃ F1, callP MP d 109 [.ref 192] (mk E F G) = some (Sum.inl (some (.int (zI (if (fthZ K most p).isSome = true then 1 else 0)))), mk E F1 G) ∧ kp3 F F1 ∧ ∀ p', fthZ K most p = some p' → WaR E F1 K pl most p' := by
  obtain ⟨e, rfl⟩ : ∃ e, d = e + 1 := ⟨d - 1, by omega⟩
  have hin : callP MP (e + 1) 109 [.ref 192] (mk E F G) = runP MP e 109 (0, [some (.ref 192), none], [], mk E F G) := into_eq (by omega) hM_109 (rcv_mk rfl (by decide)) rfl
  have hl0 : 0 < p.length := len_pos hp0
  have hb1 := hI.1.2.1
  have e1 := hW.2.1
  have e2 := hW.2.2.1
  rw [hin]
  by_cases c : p.length ≤ most
  · obtain ⟨u, t, rfl⟩ : ∃ u t, p = u :: t := by
      cases p with
      | nil => exact absurd rfl hp0
      | cons u t => exact ⟨u, t, rfl⟩
    have hl2 : (u :: t).length = t.length + 1 := rfl
    have hw2 : tI (F 199 (t.length : Int)) = u := by rw [hW.2.2.2.1 t.length (by omega) (by omega), plZ_top rfl]
    have e3 : tI (F 192 2) = (t.length : Int) := by rw [e2]; omega
    have c110 : ∀ {kk : Int → HeapP → ResP} {kx : Nat → HeapP → ResP}, cT (callP MP e 110 [.ref 192, .int (zI 0)] (mk E F G)) kk kx = kk (if nxZ K u 0 = -1 then 0 else 1) (mk E (if nxZ K u 0 = -1 then F else gnF F (t.length : Int) (nxZ K u 0) (wayZ K u (nxZ K u 0))) G) := fun {kk kx} => cc_110 (d := e) (G := G) (f := 0) (m := (t.length : Int)) hW.1 hR hI hP e3 (by omega) hw2 hv.1 (by omega) (by omega)
    have ef : fthZ K most (u :: t) = gcZ K (u :: t) 0 := if_pos c
    by_cases c2 : nxZ K u 0 = -1
    · have eg : gcZ K (u :: t) 0 = clmZ K (u :: t) := if_pos c2
      obtain ⟨F1, h1, h2, h3⟩ := go_clm (d := e) (G := G) (most := most) hI hp hP (by omega) (u :: t) F none hp0 (by omega) hv hW hR
      rw [if_pos c2, if_pos c2] at c110
      refine ⟨F1, ?_, h2, fun p' h => h3 p' (by rw [← eg, ← ef]; exact h)⟩
      rw [ef, eg, ← h1]
      have e4 : ((t.length : Nat) : Int) < (most : Int) := by omega
      rw [q_109_0]; (try simp only [↓n_rd, ↓n_al, ↓n_cI, li_0, li_1, li_2, li_3, li_10, zI_add, zI_sub, zI_mul, zI_neg, ↓Option.bind_some]); simp (disch := (first | assumption | exact tI_rg _ | omega | exact uR_at | exact row_ne hF (by decide) | exact row_ne (row_ne hF (by decide)) (by decide) | exact SnS_18 | exact SnS_30 | exact LdS_44 | exact LdS_46)) only [e1, e3, ↓c110, ↓n_rd, ↓n_al, ↓n_cI, retZ_z, li_0, li_1, li_2, li_3, li_10, zI_add, zI_sub, zI_mul, zI_neg, ↓Option.bind_some, ↓g10_1, ↓g10_2, ↓g10_3, ↓p10_2, ↓al_199, ↓as_199, zIt2, uR_at, uR_ne, uR_uR, uC_uC, uC_at, ↓reduceIte, decide_eq_true_eq, leT, leF, ltT, ltF, eqT, eqF, ne_eq, not_true_eq_false, not_false_eq_true, Bool.false_eq_true, tI_zI]
    · have eg : gcZ K (u :: t) 0 = some (nxZ K u 0 :: u :: t) := if_neg c2
      have hr := nxZ_rg K u 0
      rw [if_neg c2, if_neg c2] at c110
      refine ⟨gnF F (t.length : Int) (nxZ K u 0) (wayZ K u (nxZ K u 0)), ?_, kp3_gn, fun p' h => ?_⟩
      · rw [ef, eg, if_pos (by rfl)]
        have e4 : ((t.length : Nat) : Int) < (most : Int) := by omega
        rw [q_109_0]; (try simp only [↓n_rd, ↓n_al, ↓n_cI, li_0, li_1, li_2, li_3, li_10, zI_add, zI_sub, zI_mul, zI_neg, ↓Option.bind_some]); simp (disch := (first | assumption | exact tI_rg _ | omega | exact uR_at | exact row_ne hF (by decide) | exact row_ne (row_ne hF (by decide)) (by decide) | exact SnS_18 | exact SnS_30 | exact LdS_44 | exact LdS_46)) only [e1, e3, ↓c110, ↓n_rd, ↓n_al, ↓n_cI, retZ_z, li_0, li_1, li_2, li_3, li_10, zI_add, zI_sub, zI_mul, zI_neg, ↓Option.bind_some, ↓g10_1, ↓g10_2, ↓g10_3, ↓p10_2, ↓al_199, ↓as_199, zIt2, uR_at, uR_ne, uR_uR, uC_uC, uC_at, ↓reduceIte, decide_eq_true_eq, leT, leF, ltT, ltF, eqT, eqF, ne_eq, not_true_eq_false, not_false_eq_true, Bool.false_eq_true, tI_zI]
      · rw [ef, eg] at h
        injection h with h
        rw [← h]
        exact WaR_gn (p := u :: t) hW hp0 (by omega) (by omega) (by omega) (fun a b => by have := wayZ_lo hI.1.2.2.1 a b; omega)
  · have ef : fthZ K most p = clmZ K p := if_neg c
    obtain ⟨F1, h1, h2, h3⟩ := go_clm (d := e) (G := G) (most := most) hI hp hP (by omega) p F none hp0 (by omega) hv hW hR
    refine ⟨F1, ?_, h2, fun p' h => h3 p' (by rw [← ef]; exact h)⟩
    rw [ef, ← h1]
    have e3 : tI (F 192 2) = (most : Int) := by rw [e2]; omega
    rw [q_109_0]; (try simp only [↓n_rd, ↓n_al, ↓n_cI, li_0, li_1, li_2, li_3, li_10, zI_add, zI_sub, zI_mul, zI_neg, ↓Option.bind_some]); simp (disch := (first | assumption | exact tI_rg _ | omega | exact uR_at | exact row_ne hF (by decide) | exact row_ne (row_ne hF (by decide)) (by decide) | exact SnS_18 | exact SnS_30 | exact LdS_44 | exact LdS_46)) only [e1, e3, ↓n_rd, ↓n_al, ↓n_cI, retZ_z, li_0, li_1, li_2, li_3, li_10, zI_add, zI_sub, zI_mul, zI_neg, ↓Option.bind_some, ↓g10_1, ↓g10_2, ↓g10_3, ↓p10_2, ↓al_199, ↓as_199, zIt2, uR_at, uR_ne, uR_uR, uC_uC, uC_at, ↓reduceIte, decide_eq_true_eq, leT, leF, ltT, ltF, eqT, eqF, ne_eq, not_true_eq_false, not_false_eq_true, Bool.false_eq_true, tI_zI]
def bgW (F : Nat → Int → Int32) (s n : Int) : Nat → Int → Int32 := uR (uR F 192 (uC (uC (F 192) 1 (zI n)) 2 (zI 0))) 199 (uC (F 199) 0 (zI s))
theorem kp3_bg {F : Nat → Int → Int32} {s n : Int} : kp3 F (bgW F s n) := fun q h1 h2 _ => (uR_ne h2).trans (uR_ne h1)
theorem ct_107 {d : Nat} {E : EnQ} {F : Nat → Int → Int32} {G : Nat → Int → Int64} {p : Nat} {s n : Int} (hn : 0 ≤ n ∧ n ≤ 6) (hd : 1 ≤ d) : callP MP d 107 [.ref 192, .ref p, .int (zI s), .int (zI n)] (mk E F G) = some (Sum.inl (some (.int (zI 1))), mk (uE E 192 0 p) (bgW F s n) G) := by
  refine into (D := 0) (by omega) hM_107 (rcv_mk rfl (by decide)) rfl fun d hd => ?_
  show runP MP d 107 (0, [some (.ref 192), some (.ref p), some (.int (zI s)), some (.int (zI n))], [], _) = _
  unfold bgW
  rw [q_107_0]; (try simp only [li_0, li_1, li_2, li_3, li_6, li_10, zI_add, zI_sub, zI_mul, zI_neg, ↓Option.bind_some]); simp (disch := (first | assumption | exact tI_rg _ | omega | exact uR_at | exact row_ne hF (by decide) | exact row_ne (row_ne hF (by decide)) (by decide) | exact SnS_18 | exact SnS_30 | exact LdS_44 | exact LdS_46)) only [retZ_z, li_0, li_1, li_2, li_3, li_6, li_10, zI_add, zI_sub, zI_mul, zI_neg, ↓Option.bind_some, ↓g10_3, ↓p10_0, ↓p10_1, ↓p10_2, ↓al_199, ↓as_199, zIt2, uR_at, uR_ne, uR_uR, uC_uC, uC_at, ↓reduceIte, decide_eq_true_eq, leT, leF, ltT, ltF, eqT, eqF, ne_eq, not_true_eq_false, not_false_eq_true, Bool.false_eq_true, tI_zI]
theorem cc_107 {d : Nat} {E : EnQ} {F : Nat → Int → Int32} {G : Nat → Int → Int64} {p : Nat} {s n : Int} {kk : Int → HeapP → ResP} {kx : Nat → HeapP → ResP} (hn : 0 ≤ n ∧ n ≤ 6) (hd : 1 ≤ d) : cT (callP MP d 107 [.ref 192, .ref p, .int (zI s), .int (zI n)] (mk E F G)) kk kx = kk 1 (mk (uE E 192 0 p) (bgW F s n) G) := cT_ret (ct_107 hn hd) (by omega)
theorem WaR_bg {E : EnQ} {F : Nat → Int → Int32} {K : Int → Int32} {pl : Nat} {s n : Int} (hn : 0 ≤ n ∧ n ≤ 6) (hs : 0 ≤ s ∧ s < 100) : WaR (uE E 192 0 pl) (bgW F s n) K pl n [s] := by
  have e192 : bgW F s n 192 = uC (uC (F 192) 1 (zI n)) 2 (zI 0) := (uR_ne (by decide)).trans uR_at
  have e199 : bgW F s n 199 = uC (F 199) 0 (zI s) := uR_at
  have hl : (([s] : List Int).length : Int) = 1 := rfl
  refine ⟨?_, ?_, ?_, fun j h1 h2 => ?_, fun j h1 h2 => ?_⟩
  · show uR E.2.2.2 192 (uC (E.2.2.2 192) 0 pl) 192 0 = pl
    rw [uR_at, uC_at]
  · rw [e192, uC_ne (by decide), uC_at, tI_zI (by omega)]
  · rw [e192, uC_at, tI_zI (by omega)]; rfl
  · have : j = 0 := by omega
    rw [e199, this, uC_at, tI_zI (by omega)]; rfl
  · exfalso; omega
end S94zzze
