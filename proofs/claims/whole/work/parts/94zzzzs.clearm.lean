/-! MODEL: clear, one row at least -/
section S94zzzzs
set_option linter.unusedVariables false
set_option linter.unusedSimpArgs false
/-- how often a row takes each way -/
def cP (K : Int → Int32) (p : List Int) : Int → Int := lfW (pwL K p) (p.length - 1)
theorem cP_1 {K : Int → Int32} {u : Int} : cP K [u] = fun _ => 0 := rfl
theorem lfW_congr {f g : Nat → Int} {k : Nat} (h : ∀ i, i < k → f i = g i) : lfW f k = lfW g k := by
  funext v
  exact cntN_congr (fun i hi => by show (f i == v) = (g i == v); rw [h i hi])
theorem cP_s {K : Int → Int32} {q u : Int} {t : List Int} : ∀ v, cP K (q :: u :: t) v = cP K (u :: t) v + (if wayZ K u q = v then 1 else 0) := fun v => by
  have l1 : (q :: u :: t).length - 1 = t.length + 1 := rfl
  have l2 : (u :: t).length - 1 = t.length := rfl
  unfold cP
  rw [l1, l2]
  have e1 : pwL K (q :: u :: t) t.length = wayZ K u q := pwZ_top (by show (t.length : Int) + 1 = ((u :: t).length : Int); rfl)
  have e2 : lfW (pwL K (q :: u :: t)) t.length = lfW (pwL K (u :: t)) t.length := lfW_congr (fun i hi => pwZ_lo (by
    have : ((u :: t).length : Int) = (t.length : Int) + 1 := rfl
    omega))
  rw [← e2]
  by_cases c : wayZ K u q = v
  · rw [if_pos c]; exact cntN_pos (p := fun i => pwL K (q :: u :: t) i == v) (beq_iff_eq.mpr (e1.trans c))
  · rw [if_neg c, Int.add_zero]; exact cntN_neg (p := fun i => pwL K (q :: u :: t) i == v) (fun z => c (by rw [← e1]; exact beq_iff_eq.mp z))
theorem one_row {K : Int → Int32} (hI : InvK K) {x : Int} : ∀ {p : List Int}, p ≠ [] → VaP K p → plZ p 0 = x →
    (whI (2 * tI (K 2)).toNat (fun s => fromZ K (s : Int)) (fun s => toZ K (s : Int)) x (fun s => cP K p (s : Int)) = hdL p ∧ 1 ≤ NW (2 * tI (K 2)).toNat (fun s => fromZ K (s : Int)) (fun s => toZ K (s : Int)) (p.length - 1) x (fun s => cP K p (s : Int)) ∧ sumN (fun s : Nat => cP K p (s : Int)) (2 * tI (K 2)).toNat = ((p.length - 1 : Nat) : Int) ∧ ∀ v, 0 < cP K p v → 0 ≤ v ∧ v < 2 * tI (K 2))
  | [], h, _, _ => absurd rfl h
  | [u], _, _, hx => by
    rw [plZ_one] at hx
    refine ⟨?_, by show (1 : Int) ≤ 1; omega, ?_, fun v hv => ?_⟩
    · unfold whI
      rw [sumN_z (fun s _ => by show (0 : Int) * _ = 0; exact Int.zero_mul _), ← hx]; show u + 0 = u; omega
    · exact sumN_z (fun s _ => rfl)
    · have hv : (0 : Int) < 0 := hv
      omega
  | q :: u :: t, _, hv, hx => by
    have l2 : ((u :: t).length : Int) = t.length + 1 := rfl
    have lk : (q :: u :: t).length - 1 = ((u :: t).length - 1) + 1 := rfl
    obtain ⟨a1, a2, a3, a4⟩ := one_row hI (x := x) (p := u :: t) (by intro z; cases z) hv.2.2 (by rw [← hx, plZ_lo (q := q) (t := u :: t) (by omega)])
    have a1 : whI (2 * tI (K 2)).toNat (fun s => fromZ K (s : Int)) (fun s => toZ K (s : Int)) x (fun s => cP K (u :: t) (s : Int)) = u := a1
    have hw := wayZ_ends hI (hv.2.1 (by intro z; cases z))
    have hw : (0 ≤ wayZ K u q ∧ wayZ K u q < 2 * tI (K 2)) ∧ fromZ K (wayZ K u q) = u ∧ toZ K (wayZ K u q) = q := hw
    obtain ⟨s0, hs0⟩ : ∃ s0 : Nat, (s0 : Int) = wayZ K u q := ⟨(wayZ K u q).toNat, by omega⟩
    have hs1 : s0 < (2 * tI (K 2)).toNat := by omega
    have hdc : dcI (fun s => cP K (q :: u :: t) (s : Int)) s0 = fun s : Nat => cP K (u :: t) (s : Int) := by
      funext s
      unfold dcI
      by_cases c : s = s0
      · rw [if_pos c, c]
        show cP K (q :: u :: t) (s0 : Int) - 1 = cP K (u :: t) (s0 : Int)
        rw [cP_s, hs0, if_pos rfl]; omega
      · rw [if_neg c]
        show cP K (q :: u :: t) (s : Int) = cP K (u :: t) (s : Int)
        rw [cP_s, if_neg (by omega)]; omega
    have h0 : ∀ s : Nat, 0 ≤ cP K (q :: u :: t) (s : Int) := fun s => lfW_nn
    have hsup : ∀ v, 0 < cP K (q :: u :: t) v → 0 ≤ v ∧ v < 2 * tI (K 2) := fun v h => by
      rw [cP_s] at h
      by_cases c : wayZ K u q = v
      · rw [← c]; exact hw.1
      · rw [if_neg c, Int.add_zero] at h; exact a4 v h
    have hsum := sum_dcI (c := fun s => cP K (q :: u :: t) (s : Int)) hs1
    rw [hdc, a3] at hsum
    have hpos : 0 < cP K (q :: u :: t) (s0 : Int) := by
      rw [cP_s, hs0, if_pos rfl]
      have := lfW_nn (w := pwL K (u :: t)) (k := (u :: t).length - 1) (v := wayZ K u q)
      have h : 0 ≤ cP K (u :: t) (wayZ K u q) := this
      omega
    refine ⟨?_, ?_, by rw [lk]; exact hsum, hsup⟩
    · rw [whI_dc hs1, hdc, a1, hs0, hw.2.1, hw.2.2]; show u + (q - u) = q; omega
    · rw [lk, NW_last h0 (fun s hs => by
        by_cases c : 0 < cP K (q :: u :: t) (s : Int)
        · have := hsup _ c; omega
        · have := h0 s; omega) (by rw [hsum]; rfl)]
      have hle := sumN_le1 (f := fun w => if 0 < cP K (q :: u :: t) (w : Int) ∧ whI (2 * tI (K 2)).toNat (fun s => fromZ K (s : Int)) (fun s => toZ K (s : Int)) x (dcI (fun s => cP K (q :: u :: t) (s : Int)) w) = fromZ K (w : Int) then NW (2 * tI (K 2)).toNat (fun s => fromZ K (s : Int)) (fun s => toZ K (s : Int)) ((u :: t).length - 1) x (dcI (fun s => cP K (q :: u :: t) (s : Int)) w) else 0) hs1 (fun j _ => by
        show 0 ≤ (if 0 < cP K (q :: u :: t) (j : Int) ∧ whI (2 * tI (K 2)).toNat (fun s => fromZ K (s : Int)) (fun s => toZ K (s : Int)) x (dcI (fun s => cP K (q :: u :: t) (s : Int)) j) = fromZ K (j : Int) then NW (2 * tI (K 2)).toNat (fun s => fromZ K (s : Int)) (fun s => toZ K (s : Int)) ((u :: t).length - 1) x (dcI (fun s => cP K (q :: u :: t) (s : Int)) j) else 0)
        split
        · exact NW_nn _ _ _
        · exact Int.le_refl _)
      have e : (if 0 < cP K (q :: u :: t) (s0 : Int) ∧ whI (2 * tI (K 2)).toNat (fun s => fromZ K (s : Int)) (fun s => toZ K (s : Int)) x (dcI (fun s => cP K (q :: u :: t) (s : Int)) s0) = fromZ K (s0 : Int) then NW (2 * tI (K 2)).toNat (fun s => fromZ K (s : Int)) (fun s => toZ K (s : Int)) ((u :: t).length - 1) x (dcI (fun s => cP K (q :: u :: t) (s : Int)) s0) else 0) = NW (2 * tI (K 2)).toNat (fun s => fromZ K (s : Int)) (fun s => toZ K (s : Int)) ((u :: t).length - 1) x (fun s => cP K (u :: t) (s : Int)) := by
        rw [hdc, a1, if_pos ⟨hpos, by rw [hs0]; exact hw.2.1.symm⟩]
      have hle : (if 0 < cP K (q :: u :: t) (s0 : Int) ∧ whI (2 * tI (K 2)).toNat (fun s => fromZ K (s : Int)) (fun s => toZ K (s : Int)) x (dcI (fun s => cP K (q :: u :: t) (s : Int)) s0) = fromZ K (s0 : Int) then NW (2 * tI (K 2)).toNat (fun s => fromZ K (s : Int)) (fun s => toZ K (s : Int)) ((u :: t).length - 1) x (dcI (fun s => cP K (q :: u :: t) (s : Int)) s0) else 0) ≤ _ := hle
      rw [e] at hle
      exact Int.le_trans a2 hle
theorem onC_1 {K : Int → Int32} (hI : InvK K) {x : Int} {p : List Int} (hp : p ≠ []) (hv : VaP K p) (hx : plZ p 0 = x) : 1 ≤ onC K x p := by
  obtain ⟨-, a2, -, a4⟩ := one_row hI hp hv hx
  have hT : SlT K (2 * tI (K 2)).toNat (fun s => (s : Int)) (cP K p) := by
    refine ⟨fun s t _ _ e => by have e : (s : Int) = (t : Int) := e; omega, fun s hs => by show 0 ≤ (s : Int) ∧ (s : Int) < 2 * tI (K 2); omega, fun v hv => ⟨v.toNat, by have := a4 v hv; omega, by have := a4 v hv; show ((v.toNat : Nat) : Int) = v; omega⟩⟩
  have e := NM_NW hI (sw := fun s : Nat => (s : Int)) (p.length - 1) x (cP K p) hT
  have e2 : onC K x p = NMz K (p.length - 1) x (cP K p) := rfl
  rw [e2, e]; exact a2
theorem ct_311 {d : Nat} {E : EnQ} {F : Nat → Int → Int32} {G : Nat → Int → Int64} {K : Int → Int32} {x : Int} {p : List Int} (hI : InvK K) (hF : F 218 = K) (hp0 : p ≠ []) (hl : p.length ≤ 6) (hv : VaP K p) (hr : plZ p 0 = x) (hx : 0 ≤ x ∧ x < tI (K 1)) (h242 : ∀ v : Int, 0 ≤ v → v < 32 → F 242 v = zI (cP K p v)) (h52 : tI (F 217 52) = ((p.length - 1 : Nat) : Int)) (hd : 13 ≤ d) :
    ∃ F1 G1, callP MP d 311 [.ref 217, .int (zI x)] (mk E F G) = some (Sum.inl (some (.int (zI (if onC K x p = 1 then 1 else 0)))), mk E F1 G1) ∧ KpW F G F1 G1 := by
  have hon := onC_1 hI hp0 hv hr
  obtain ⟨k, hk⟩ : ∃ k : Nat, k = p.length - 1 := ⟨_, rfl⟩
  rw [← hk] at h52
  have eo : onC K x p = NMz K k x (cP K p) := by unfold onC cP; rw [← hk]
  obtain ⟨W, hW⟩ : ∃ W : Nat, W = 32 := ⟨_, rfl⟩
  obtain ⟨F0, hF0⟩ : ∃ F0, F0 = uR (uR F 233 (xcN (F 233) (F 242) W)) 217 (uC (F 217) 35 (zI (k : Int))) := ⟨_, rfl⟩
  have g218 : F0 218 = K := by rw [hF0, uR_ne (by decide), uR_ne (by decide)]; exact hF
  have hlf : ∀ v, 0 ≤ cP K p v ∧ cP K p v ≤ 100 := fun v => by
    have := cntN_rg (fun i => pwL K p i == v) (p.length - 1)
    unfold cP lfW
    omega
  have hbd := rw_bd hI (k := k) (by omega) (u := x) (lf := cP K p)
  obtain ⟨F1, G1, r1, r2, r3, r4, r5⟩ := ct_287 (d := d - 1) (E := E) (F := F0) (G := G) (lf := cP K p) (k := k) (u := x) (wt := 1) hI g218 (fun v h1 h2 => by rw [hF0, uR_ne (by decide), uR_at, xcN_in (by omega)]; exact h242 v h1 h2) (by rw [hF0, uR_at, uC_at, tI_zI (by omega)]) hlf (by omega) hx (by omega) (by omega)
  have hk0 : KpW F G F0 G := ⟨fun q a1 a2 a3 => by rw [hF0, uR_ne a1, uR_ne a2], fun j a1 a2 => by rw [hF0, uR_at, uC_ne (by omega)], fun _ _ => rfl, fun _ _ _ => rfl⟩
  obtain ⟨V, hV⟩ : ∃ V, V = if 0 ≤ (1 : Int) ∧ 1 < NMz K k x (cP K p) then (1 : Int) + 1 else NMz K k x (cP K p) := ⟨_, rfl⟩
  rw [← hV] at r1
  refine ⟨F1, G1, ?_, hk0.tr r2⟩
  obtain ⟨e, rfl⟩ : ∃ e, d = e + 1 := ⟨d - 1, by omega⟩
  have hin : callP MP (e + 1) 311 [.ref 217, .int (zI x)] (mk E F G) = runP MP e 311 (0, [some (.ref 217), some (.int (zI x)), none], [], mk E F G) := into_eq (by omega) hM_311 (rcv_mk rfl (by decide)) rfl
  have c287 : ∀ {kk : Int → HeapP → ResP} {kx : Nat → HeapP → ResP}, cJT (callP MP e 287 [.ref 217, .int (zI x), .long (zJ 1)] (mk E (uR (uR F 233 (xcN (F 233) (F 242) W)) 217 (uC (F 217) 35 (zI (k : Int)))) G)) kk kx = kk V (mk E F1 G1) := fun {kk kx} => by rw [← hF0]; exact cJT_ret r1 (by rw [hV]; split <;> omega)
  have h0 : runP MP e 311 (0, [some (.ref 217), some (.int (zI x)), none], [], mk E F G) = runP MP e 311 (2, [some (.ref 217), some (.int (zI x)), some (.int (zI ((0 : Nat) : Int)))], [], mk E (uR F 233 (xcN (F 233) (F 242) 0)) G) := by
    rw [xcN_0, uR_self, q_311_0]; rfl
  have h2 : runP MP e 311 (2, [some (.ref 217), some (.int (zI x)), some (.int (zI ((0 : Nat) : Int)))], [], mk E (uR F 233 (xcN (F 233) (F 242) 0)) G) = runP MP e 311 (2, [some (.ref 217), some (.int (zI x)), some (.int (zI (W : Int)))], [], mk E (uR F 233 (xcN (F 233) (F 242) W)) G) := by
    refine (loopN (fun j : Nat => runP MP e 311 (2, [some (.ref 217), some (.int (zI x)), some (.int (zI (j : Nat)))], [], mk E (uR F 233 (xcN (F 233) (F 242) j)) G)) (W) (fun j hj => ?_)).trans ?_
    · show runP MP e 311 (2, [some (.ref 217), some (.int (zI x)), some (.int (zI (j : Nat)))], [], mk E (uR F 233 (xcN (F 233) (F 242) j)) G) = runP MP e 311 (2, [some (.ref 217), some (.int (zI x)), some (.int (zI ((j + 1) : Nat)))], [], mk E (uR F 233 (xcN (F 233) (F 242) (j + 1))) G)
      rw [nsucc, xcN_s]
      rw [q_311_2]; (try simp only [↓n_rd, ↓n_al, ↓n_cJ, li_0, li_1, li_2, li_12, li_32, lj_0, lj_1, lj_2, lj_12, zJ_add, zJ_sub, zJ_mul, zJ_neg, zJ_l2i, zI_add, zI_sub, zI_mul, zI_neg, ↓Option.bind_some]); simp (disch := (first | assumption | exact tI_rg _ | omega | exact uR_at | exact row_ne hF (by decide) | exact row_ne (row_ne hF (by decide)) (by decide) | exact SnS_18 | exact SnS_30 | exact LdS_44 | exact LdS_46)) only [q_311_0, q_311_53, ↓al_242, ↓as_233, ↓n_rd, ↓n_al, ↓n_cJ, retZ_z, li_0, li_1, li_2, li_12, li_32, lj_0, lj_1, lj_2, lj_12, zJ_add, zJ_sub, zJ_mul, zJ_neg, zJ_l2i, tJ_zJ, zI_add, zI_sub, zI_mul, zI_neg, ↓Option.bind_some, ↓g12_32, ↓g12_41, ↓g12_51, ↓g12_52, ↓p12_35, ↓al_233, ↓as_233, ↓al_242, ↓as_242, zIt2, uR_at, uR_ne, uR_uR, uC_uC, uC_at, ↓reduceIte, decide_eq_true_eq, leT, leF, ltT, ltF, eqT, eqF, ne_eq, not_true_eq_false, not_false_eq_true, Bool.false_eq_true, tI_zI]
    · show runP MP e 311 (2, [some (.ref 217), some (.int (zI x)), some (.int (zI ((W) : Nat)))], [], mk E (uR F 233 (xcN (F 233) (F 242) (W))) G) = _
      rfl

  rw [hin, h0, h2, eo]
  by_cases c : NMz K k x (cP K p) = 1
  · have s1 := (r4 (by omega)).1
    rw [if_pos c]
    rw [q_311_2]; (try simp only [↓n_rd, ↓n_al, ↓n_cJ, li_0, li_1, li_2, li_12, li_32, lj_0, lj_1, lj_2, lj_12, zJ_add, zJ_sub, zJ_mul, zJ_neg, zJ_l2i, zI_add, zI_sub, zI_mul, zI_neg, ↓Option.bind_some]); simp (disch := (first | assumption | exact tI_rg _ | omega | exact uR_at | exact row_ne hF (by decide) | exact row_ne (row_ne hF (by decide)) (by decide) | exact SnS_18 | exact SnS_30 | exact LdS_44 | exact LdS_46)) only [q_311_0, q_311_53, h52, ↓n_cJ, ↓c287, s1, ↓n_rd, ↓n_al, ↓n_cJ, retZ_z, li_0, li_1, li_2, li_12, li_32, lj_0, lj_1, lj_2, lj_12, zJ_add, zJ_sub, zJ_mul, zJ_neg, zJ_l2i, tJ_zJ, zI_add, zI_sub, zI_mul, zI_neg, ↓Option.bind_some, ↓g12_32, ↓g12_41, ↓g12_51, ↓g12_52, ↓p12_35, ↓al_233, ↓as_233, ↓al_242, ↓as_242, zIt2, uR_at, uR_ne, uR_uR, uC_uC, uC_at, ↓reduceIte, decide_eq_true_eq, leT, leF, ltT, ltF, eqT, eqF, ne_eq, not_true_eq_false, not_false_eq_true, Bool.false_eq_true, tI_zI]
  · have s1 := (r5 (by rw [eo] at hon; omega)).1
    rw [if_neg c]
    rw [q_311_2]; (try simp only [↓n_rd, ↓n_al, ↓n_cJ, li_0, li_1, li_2, li_12, li_32, lj_0, lj_1, lj_2, lj_12, zJ_add, zJ_sub, zJ_mul, zJ_neg, zJ_l2i, zI_add, zI_sub, zI_mul, zI_neg, ↓Option.bind_some]); simp (disch := (first | assumption | exact tI_rg _ | omega | exact uR_at | exact row_ne hF (by decide) | exact row_ne (row_ne hF (by decide)) (by decide) | exact SnS_18 | exact SnS_30 | exact LdS_44 | exact LdS_46)) only [q_311_0, q_311_53, h52, ↓n_cJ, ↓c287, s1, ↓n_rd, ↓n_al, ↓n_cJ, retZ_z, li_0, li_1, li_2, li_12, li_32, lj_0, lj_1, lj_2, lj_12, zJ_add, zJ_sub, zJ_mul, zJ_neg, zJ_l2i, tJ_zJ, zI_add, zI_sub, zI_mul, zI_neg, ↓Option.bind_some, ↓g12_32, ↓g12_41, ↓g12_51, ↓g12_52, ↓p12_35, ↓al_233, ↓as_233, ↓al_242, ↓as_242, zIt2, uR_at, uR_ne, uR_uR, uC_uC, uC_at, ↓reduceIte, decide_eq_true_eq, leT, leF, ltT, ltF, eqT, eqF, ne_eq, not_true_eq_false, not_false_eq_true, Bool.false_eq_true, tI_zI]
end S94zzzzs
