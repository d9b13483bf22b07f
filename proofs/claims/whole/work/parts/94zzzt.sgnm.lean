/-! MODEL: signs -/
section S94zzzt
set_option linter.unusedVariables false
set_option linter.unusedSimpArgs false
def MwR (M : Nat) (F : Nat → Int → Int32) (K : Int → Int32) (p : List Int) (l : List Nat) : Prop := F 218 = K ∧ MsR M F l ∧ ∀ j : Int, 0 ≤ j → j + 1 < p.length → tI (F 237 j) = pwZ K p j
def KpS (F F1 : Nat → Int → Int32) (m : Int) : Prop := (∀ q, q ≠ 217 → q ≠ 236 → q ≠ 237 → q ≠ 238 → F1 q = F q) ∧ (∀ j, j ≠ 45 → F1 217 j = F 217 j) ∧ (∀ j, j < m → F1 237 j = F 237 j)
theorem KpS_rf {F : Nat → Int → Int32} {m : Int} : KpS F F m := ⟨fun _ _ _ _ _ => rfl, fun _ _ => rfl, fun _ _ => rfl⟩
theorem KpS.tr {F F1 F2 : Nat → Int → Int32} {m m' : Int} (h : KpS F F1 m) (k : KpS F1 F2 m') (hm : m ≤ m') : KpS F F2 m := ⟨fun q a b c e => (k.1 q a b c e).trans (h.1 q a b c e), fun j a => (k.2.1 j a).trans (h.2.1 j a), fun j hj => (k.2.2 j (by omega)).trans (h.2.2 j hj)⟩
theorem KpT.s {F F1 : Nat → Int → Int32} {m : Int} (h : KpT F F1) : KpS F F1 m := ⟨fun q a b _ e => h.1 q a b e, h.2, fun j _ => by rw [h.1 237 (by decide) (by decide) (by decide)]⟩
theorem mw_visit {d : Nat} {E : EnQ} {F : Nat → Int → Int32} {G : Nat → Int → Int64} {K : Int → Int32} {M : Nat} {u m : Int} {n : Nat} {p : List Int} {l : List Nat} (hI : InvK K) (hM : M = 8192) (hp0 : p ≠ []) (hl : p.length ≤ 7) (hm : m = (p.length : Int) - 1) (hv : VaP K p) (hg : l.length ≤ 2001) (hW : MwR M F K p l) (hd : 3 ≤ d) :
    ∃ F1 y4 y5, runP MP d 296 (0, [some (.ref 217), some (.int (zI u)), some (.int (zI m)), some (.int (zI (n : Int))), none, none, none], [], mk E F G) = (if ¬ zI m = zI (n : Int) then runP MP d 296 (58, [some (.ref 217), some (.int (zI u)), some (.int (zI m)), some (.int (zI (n : Int))), some (.int y4), some (.int (zI 0)), none], [], mk E F1 G) else some (Sum.inl none, mk E F1 G)) ∧ y5 = 0 ∧ MwR M F1 K p (vS K p l) ∧ KpT F F1 := by
  obtain ⟨b0, b1, b2, b3, b4, b5, b6, b7, b8, b9⟩ := hI.1
  have hl0 := len_pos hp0
  have hF := hW.1
  obtain ⟨kp, hkp⟩ : ∃ kp : Nat, (kp : Int) = tI (K 4) := ⟨(tI (K 4)).toNat, by omega⟩
  have e4 : tI (F 218 4) = (kp : Int) := by rw [hF, hkp]
  obtain ⟨lo, hlo⟩ : ∃ lo : Nat, lo = p.length - 1 - kp := ⟨_, rfl⟩
  have em : (if 0 < m - (kp : Int) then m - (kp : Int) else 0) = (lo : Int) := by split <;> omega
  have hsw := swN_lt hI (kp := kp) hv
  have hsd : swN K kp p = orN (fun j => bitN (pwZ K p ((lo + j : Nat) : Int))) (p.length - 1 - lo) := by unfold swN; rw [← hlo]
  obtain ⟨F1, r1, r2, r3⟩ := ct_297 (d := d) (E := E) (F := F) (G := G) (s := swN K kp p) hM hW.2.1 hg hsw (by omega)
  have c297 : ∀ {kk : HeapP → ResP} {kx : Nat → HeapP → ResP}, cV (callP MP d 297 [.ref 217, .int (zI ((orN (fun j => bitN (pwZ K p ((lo + j : Nat) : Int))) (p.length - 1 - lo) : Nat) : Int))] (mk E F G)) kk kx = kk (mk E F1 G) := fun {kk kx} => by rw [← hsd]; exact cV_ret r1
  have ev : vS K p l = adL l (swN K kp p) := by unfold vS; rw [show (tI (K 4)).toNat = kp by omega]
  refine ⟨F1, zI ((orN (fun j => bitN (pwZ K p ((lo + j : Nat) : Int))) (p.length - 1 - lo) : Nat) : Int), 0, ?_, rfl, ⟨?_, ?_, fun j h1 h2 => ?_⟩, r3⟩
  · have h0 : runP MP d 296 (0, [some (.ref 217), some (.int (zI u)), some (.int (zI m)), some (.int (zI (n : Int))), none, none, none], [], mk E F G) = runP MP d 296 (17, [some (.ref 217), some (.int (zI u)), some (.int (zI m)), some (.int (zI (n : Int))), some (.int (zI ((orN (fun j => bitN (pwZ K p ((lo + j : Nat) : Int))) 0 : Nat) : Int))), some (.int (zI ((lo : Int) + ((0 : Nat) : Int)))), none], [], mk E F G) := by
      rw [show ((orN (fun j => bitN (pwZ K p ((lo + j : Nat) : Int))) 0 : Nat) : Int) = 0 from rfl, show (lo : Int) + ((0 : Nat) : Int) = (lo : Int) by omega]
      rw [q_296_0]; (try simp only [↓n_al, ↓n_cI, li_0, li_1, li_4, li_12, zI_add, zI_sub, zI_mul, zI_neg, ↓Option.bind_some]); simp (disch := (first | assumption | exact tI_rg _ | omega | exact uR_at | exact row_ne hF (by decide) | exact row_ne (row_ne hF (by decide)) (by decide) | exact SnS_18 | exact SnS_30 | exact LdS_44 | exact LdS_46)) only [q_296_103, e4, maxZ0, em, ↓n_al, ↓n_cI, li_0, li_1, li_4, li_12, zI_add, zI_sub, zI_mul, zI_neg, ↓Option.bind_some, ↓g12_0, ↓g12_43, ↓al_218, ↓as_218, ↓al_237, ↓as_237, zIt2, uR_at, uR_ne, uR_uR, uC_uC, uC_at, ↓reduceIte, decide_eq_true_eq, leT, leF, ltT, ltF, eqT, eqF, ne_eq, not_true_eq_false, not_false_eq_true, Bool.false_eq_true, tI_zI]
    rw [h0]
    refine (loopN (fun j : Nat => runP MP d 296 (17, [some (.ref 217), some (.int (zI u)), some (.int (zI m)), some (.int (zI (n : Int))), some (.int (zI ((orN (fun j => bitN (pwZ K p ((lo + j : Nat) : Int))) (j) : Nat) : Int))), some (.int (zI ((lo : Int) + ((j : Nat) : Int)))), none], [], mk E F G)) (p.length - 1 - lo) (fun j hj => ?_)).trans ?_
    · show runP MP d 296 (17, [some (.ref 217), some (.int (zI u)), some (.int (zI m)), some (.int (zI (n : Int))), some (.int (zI ((orN (fun j => bitN (pwZ K p ((lo + j : Nat) : Int))) (j) : Nat) : Int))), some (.int (zI ((lo : Int) + ((j : Nat) : Int)))), none], [], mk E F G) = runP MP d 296 (17, [some (.ref 217), some (.int (zI u)), some (.int (zI m)), some (.int (zI (n : Int))), some (.int (zI ((orN (fun j => bitN (pwZ K p ((lo + j : Nat) : Int))) ((j + 1)) : Nat) : Int))), some (.int (zI ((lo : Int) + (((j + 1) : Nat) : Int)))), none], [], mk E F G)
      have hr := pw_rg hI hv (j := ((lo + j : Nat) : Int)) (by omega) (by omega)
      have hw : tI (F 237 ((lo : Int) + (j : Int))) = pwZ K p ((lo + j : Nat) : Int) := hW.2.2 _ (by omega) (by omega)
      have hor := orZ (orN (fun j => bitN (pwZ K p ((lo + j : Nat) : Int))) j) (bitN (pwZ K p ((lo + j : Nat) : Int)))
      rw [orN_succ, show (lo : Int) + ((j + 1 : Nat) : Int) = (lo : Int) + (j : Int) + 1 by omega]
      rw [q_296_17]; (try simp only [↓n_al, ↓n_cI, li_0, li_1, li_4, li_12, zI_add, zI_sub, zI_mul, zI_neg, ↓Option.bind_some]); simp (disch := (first | assumption | exact tI_rg _ | omega | exact uR_at | exact row_ne hF (by decide) | exact row_ne (row_ne hF (by decide)) (by decide) | exact SnS_18 | exact SnS_30 | exact LdS_44 | exact LdS_46)) only [q_296_0, q_296_103, ↓al_237, hw, shlB, hor, ↓n_al, ↓n_cI, li_0, li_1, li_4, li_12, zI_add, zI_sub, zI_mul, zI_neg, ↓Option.bind_some, ↓g12_0, ↓g12_43, ↓al_218, ↓as_218, ↓al_237, ↓as_237, zIt2, uR_at, uR_ne, uR_uR, uC_uC, uC_at, ↓reduceIte, decide_eq_true_eq, leT, leF, ltT, ltF, eqT, eqF, ne_eq, not_true_eq_false, not_false_eq_true, Bool.false_eq_true, tI_zI]
    · show runP MP d 296 (17, [some (.ref 217), some (.int (zI u)), some (.int (zI m)), some (.int (zI (n : Int))), some (.int (zI ((orN (fun j => bitN (pwZ K p ((lo + j : Nat) : Int))) ((p.length - 1 - lo)) : Nat) : Int))), some (.int (zI ((lo : Int) + (((p.length - 1 - lo) : Nat) : Int)))), none], [], mk E F G) = _
      have : m ≤ (lo : Int) + ((p.length - 1 - lo : Nat) : Int) := by omega
      rw [q_296_17]; (try simp only [↓n_al, ↓n_cI, li_0, li_1, li_4, li_12, zI_add, zI_sub, zI_mul, zI_neg, ↓Option.bind_some]); simp (disch := (first | assumption | exact tI_rg _ | omega | exact uR_at | exact row_ne hF (by decide) | exact row_ne (row_ne hF (by decide)) (by decide) | exact SnS_18 | exact SnS_30 | exact LdS_44 | exact LdS_46)) only [q_296_0, q_296_103, ↓c297, ↓n_al, ↓n_cI, li_0, li_1, li_4, li_12, zI_add, zI_sub, zI_mul, zI_neg, ↓Option.bind_some, ↓g12_0, ↓g12_43, ↓al_218, ↓as_218, ↓al_237, ↓as_237, zIt2, uR_at, uR_ne, uR_uR, uC_uC, uC_at, ↓reduceIte, decide_eq_true_eq, leT, leF, ltT, ltF, eqT, eqF, ne_eq, not_true_eq_false, not_false_eq_true, Bool.false_eq_true, tI_zI]

  · rw [r3.1 218 (by decide) (by decide) (by decide)]; exact hF
  · rw [ev]; exact r2
  · rw [r3.1 237 (by decide) (by decide) (by decide)]; exact hW.2.2 j h1 h2
theorem go_296 {E : EnQ} {G : Nat → Int → Int64} {K : Int → Int32} {M n : Nat} (hI : InvK K) (hM : M = 8192) (hn : n ≤ 6) : ∀ (k : Nat) (d : Nat) (p : List Int) (F : Nat → Int → Int32) (l : List Nat) (m u : Int), p ≠ [] → p.length + k = n + 1 → m = (p.length : Int) - 1 → u = hdL p → VaP K p → l.length ≤ 2001 → MwR M F K p l → 5 + k ≤ d →
    ∃ F1, callP MP d 296 [.ref 217, .int (zI u), .int (zI m), .int (zI (n : Int))] (mk E F G) = some (Sum.inl none, mk E F1 G) ∧ MwR M F1 K p (wkF K (vS K) k p l) ∧ (wkF K (vS K) k p l).length ≤ 2001 ∧ KpS F F1 m := by
  intro k
  induction k with
  | zero =>
    intro d p F l m u hp0 hl hm hu hv hg hW hd
    obtain ⟨e, rfl⟩ : ∃ e, d = e + 1 := ⟨d - 1, by omega⟩
    have hin : callP MP (e + 1) 296 [.ref 217, .int (zI u), .int (zI m), .int (zI (n : Int))] (mk E F G) = runP MP e 296 (0, [some (.ref 217), some (.int (zI u)), some (.int (zI m)), some (.int (zI (n : Int))), none, none, none], [], mk E F G) := into_eq (by omega) hM_296 (rcv_mk rfl (by decide)) rfl
    obtain ⟨F1, y4, y5, h1, -, h2, h3⟩ := mw_visit (d := e) (E := E) (G := G) (u := u) (n := n) hI hM hp0 (by omega) hm hv hg hW (by omega)
    refine ⟨F1, ?_, h2, adL_len hg, h3.s⟩
    rw [hin, h1, if_neg (fun z => z (by rw [show m = (n : Int) by omega]))]
  | succ k ih =>
    intro d p F l m u hp0 hl hm hu hv hg hW hd
    obtain ⟨u', t, rfl⟩ : ∃ u t, p = u :: t := by
      cases p with
      | nil => exact absurd rfl hp0
      | cons u t => exact ⟨u, t, rfl⟩
    have hu : u = u' := hu
    subst hu
    obtain ⟨b0, b1, b2, b3, b4, b5, b6, b7, b8, b9⟩ := hI.1
    have l2 : ((u :: t).length : Int) = t.length + 1 := rfl
    have hmt : m = (t.length : Int) := by omega
    have hu := hv.1
    obtain ⟨e, rfl⟩ : ∃ e, d = e + 1 := ⟨d - 1, by omega⟩
    have hin : callP MP (e + 1) 296 [.ref 217, .int (zI u), .int (zI m), .int (zI (n : Int))] (mk E F G) = runP MP e 296 (0, [some (.ref 217), some (.int (zI u)), some (.int (zI m)), some (.int (zI (n : Int))), none, none, none], [], mk E F G) := into_eq (by omega) hM_296 (rcv_mk rfl (by decide)) rfl
    obtain ⟨F0, y4, y5, h1, -, h2, h3⟩ := mw_visit (d := e) (E := E) (G := G) (u := u) (n := n) hI hM hp0 (by omega) hm hv hg hW (by omega)
    rw [if_pos (by rw [eqI (by omega)]; omega)] at h1
    have hg1 : (vS K (u :: t) l).length ≤ 2001 := adL_len hg
    have hmain : ∃ F1, runP MP e 296 (58, [some (.ref 217), some (.int (zI u)), some (.int (zI m)), some (.int (zI (n : Int))), some (.int y4), some (.int (zI ((0 : Nat) : Int))), none], [], mk E F0 G) = some (Sum.inl none, mk E F1 G) ∧ MwR M F1 K (u :: t) (wkF K (vS K) (k + 1) (u :: t) l) ∧ (wkF K (vS K) (k + 1) (u :: t) l).length ≤ 2001 ∧ KpS F F1 m := by
      refine loopS (σ := (Nat → Int → Int32) × Option Value) (Post := fun r => ∃ F1, r = some (Sum.inl none, mk E F1 G) ∧ MwR M F1 K (u :: t) (wkF K (vS K) (k + 1) (u :: t) l) ∧ (wkF K (vS K) (k + 1) (u :: t) l).length ≤ 2001 ∧ KpS F F1 m)
        (fun j s => runP MP e 296 (58, [some (.ref 217), some (.int (zI u)), some (.int (zI m)), some (.int (zI (n : Int))), some (.int y4), some (.int (zI (j : Int))), s.2], [], mk E s.1 G))
        (fun j s => MwR M s.1 K (u :: t) (fo (wyB K u) (fun q a => wkF K (vS K) k ((q : Int) :: u :: t) a) j (vS K (u :: t) l)) ∧ (fo (wyB K u) (fun q a => wkF K (vS K) k ((q : Int) :: u :: t) a) j (vS K (u :: t) l)).length ≤ 2001 ∧ KpS F s.1 m) (tI (K 1)).toNat (F0, none) ⟨h2, hg1, h3.s⟩ (fun s hI2 => ?_) (fun j s hj hI2 => ?_)
      · obtain ⟨j1, j2, j3⟩ := hI2
        refine ⟨s.1, ?_, j1, j2, j3⟩
        show runP MP e 296 _ = _
        have c214 : ∀ {kk : Int → HeapP → ResP} {kx : Nat → HeapP → ResP}, cT (callP MP e 214 [.ref 217] (mk E s.1 G)) kk kx = kk (tI (K 1)) (mk E s.1 G) := fun {kk kx} => by rw [cc_214 hI j1.1 (by omega)]
        rw [q_296_58]; (try simp only [↓n_al, ↓n_cI, li_0, li_1, li_4, li_12, zI_add, zI_sub, zI_mul, zI_neg, ↓Option.bind_some]); simp (disch := (first | assumption | exact tI_rg _ | omega | exact uR_at | exact row_ne hF (by decide) | exact row_ne (row_ne hF (by decide)) (by decide) | exact SnS_18 | exact SnS_30 | exact LdS_44 | exact LdS_46)) only [q_296_0, q_296_103, ↓c214, ↓n_al, ↓n_cI, li_0, li_1, li_4, li_12, zI_add, zI_sub, zI_mul, zI_neg, ↓Option.bind_some, ↓g12_0, ↓g12_43, ↓al_218, ↓as_218, ↓al_237, ↓as_237, zIt2, uR_at, uR_ne, uR_uR, uC_uC, uC_at, ↓reduceIte, decide_eq_true_eq, leT, leF, ltT, ltF, eqT, eqF, ne_eq, not_true_eq_false, not_false_eq_true, Bool.false_eq_true, tI_zI]
      · obtain ⟨j1, j2, j3⟩ := hI2
        have hj2 : (j : Int) < tI (K 1) := by omega
        right
        have c214 : ∀ {kk : Int → HeapP → ResP} {kx : Nat → HeapP → ResP}, cT (callP MP e 214 [.ref 217] (mk E s.1 G)) kk kx = kk (tI (K 1)) (mk E s.1 G) := fun {kk kx} => by rw [cc_214 hI j1.1 (by omega)]
        have c229 : ∀ {kk : Int → HeapP → ResP} {kx : Nat → HeapP → ResP}, cT (callP MP e 229 [.ref 217, .int (zI u), .int (zI (j : Int))] (mk E s.1 G)) kk kx = kk (wayZ K u j) (mk E s.1 G) := fun {kk kx} => by rw [cc_229 hI j1.1 (by omega) (by omega) (by omega)]
        have hwl := wayZ_lo b2 u j
        by_cases c : wyB K u j = true
        · have hw := wyB_t.mp c
          have e1 : fo (wyB K u) (fun q a => wkF K (vS K) k ((q : Int) :: u :: t) a) (j + 1) (vS K (u :: t) l) = wkF K (vS K) k ((j : Int) :: u :: t) (fo (wyB K u) (fun q a => wkF K (vS K) k ((q : Int) :: u :: t) a) j (vS K (u :: t) l)) := if_pos c
          rw [e1]
          have l3 : (((j : Int) :: u :: t).length) = (u :: t).length + 1 := rfl
          have M2 : MwR M (uR s.1 237 (uC (s.1 237) m (zI (wayZ K u j)))) K ((j : Int) :: u :: t) (fo (wyB K u) (fun q a => wkF K (vS K) k ((q : Int) :: u :: t) a) j (vS K (u :: t) l)) := by
            refine ⟨(uR_ne (by decide)).trans j1.1, ?_, fun i i1 i2 => ?_⟩
            · have := j1.2.1
              unfold MsR at this ⊢
              exact this
            · rw [uR_at]
              by_cases z : i = m
              · rw [z, uC_at, tI_zI (by omega), pwZ_top (by omega)]; rfl
              · rw [uC_ne z, pwZ_lo (by omega)]; exact j1.2.2 i i1 (by omega)
          obtain ⟨F1, r1, r2, r3, r4⟩ := ih e ((j : Int) :: u :: t) (uR s.1 237 (uC (s.1 237) m (zI (wayZ K u j)))) _ (m + 1) (j : Int) (by intro z; cases z) (by omega) (by omega) rfl ⟨by omega, fun _ => hw, hv⟩ j2 M2 (by omega)
          have k1 : KpS s.1 (uR s.1 237 (uC (s.1 237) m (zI (wayZ K u j)))) m := ⟨fun q _ _ a3 _ => uR_ne a3, fun i _ => by rw [uR_ne (by decide)], fun i hi => by rw [uR_at, uC_ne (by omega)]⟩
          have c296 : ∀ {kk : HeapP → ResP} {kx : Nat → HeapP → ResP}, cV (callP MP e 296 [.ref 217, .int (zI (j : Int)), .int (zI (m + 1)), .int (zI (n : Int))] (mk E (uR s.1 237 (uC (s.1 237) m (zI (wayZ K u j)))) G)) kk kx = kk (mk E F1 G) := fun {kk kx} => cV_ret r1
          refine ⟨(F1, some (.int (zI (wayZ K u j)))), ⟨⟨r2.1, r2.2.1, fun i i1 i2 => ?_⟩, r3, j3.tr (k1.tr r4 (by omega)) (by omega)⟩, ?_⟩
          · rw [r2.2.2 i i1 (by omega), pwZ_lo (q := (j : Int)) (t := u :: t) (by omega)]
          · show runP MP e 296 _ = runP MP e 296 _
            rw [nsucc]
            rw [q_296_58]; (try simp only [↓n_al, ↓n_cI, li_0, li_1, li_4, li_12, zI_add, zI_sub, zI_mul, zI_neg, ↓Option.bind_some]); simp (disch := (first | assumption | exact tI_rg _ | omega | exact uR_at | exact row_ne hF (by decide) | exact row_ne (row_ne hF (by decide)) (by decide) | exact SnS_18 | exact SnS_30 | exact LdS_44 | exact LdS_46)) only [q_296_0, q_296_103, ↓c214, ↓c229, ↓as_237, ↓c296, ↓n_al, ↓n_cI, li_0, li_1, li_4, li_12, zI_add, zI_sub, zI_mul, zI_neg, ↓Option.bind_some, ↓g12_0, ↓g12_43, ↓al_218, ↓as_218, ↓al_237, ↓as_237, zIt2, uR_at, uR_ne, uR_uR, uC_uC, uC_at, ↓reduceIte, decide_eq_true_eq, leT, leF, ltT, ltF, eqT, eqF, ne_eq, not_true_eq_false, not_false_eq_true, Bool.false_eq_true, tI_zI]
        · have hw : wayZ K u j = -1 := wyB_f.mp (Bool.eq_false_iff.mpr c)
          have e1 : fo (wyB K u) (fun q a => wkF K (vS K) k ((q : Int) :: u :: t) a) (j + 1) (vS K (u :: t) l) = (fo (wyB K u) (fun q a => wkF K (vS K) k ((q : Int) :: u :: t) a) j (vS K (u :: t) l)) := if_neg c
          rw [e1]
          rw [hw] at c229
          refine ⟨(s.1, some (.int (zI (-1)))), ⟨j1, j2, j3⟩, ?_⟩
          show runP MP e 296 _ = runP MP e 296 _
          rw [nsucc]
          rw [q_296_58]; (try simp only [↓n_al, ↓n_cI, li_0, li_1, li_4, li_12, zI_add, zI_sub, zI_mul, zI_neg, ↓Option.bind_some]); simp (disch := (first | assumption | exact tI_rg _ | omega | exact uR_at | exact row_ne hF (by decide) | exact row_ne (row_ne hF (by decide)) (by decide) | exact SnS_18 | exact SnS_30 | exact LdS_44 | exact LdS_46)) only [q_296_0, q_296_103, ↓c214, ↓c229, ↓n_al, ↓n_cI, li_0, li_1, li_4, li_12, zI_add, zI_sub, zI_mul, zI_neg, ↓Option.bind_some, ↓g12_0, ↓g12_43, ↓al_218, ↓as_218, ↓al_237, ↓as_237, zIt2, uR_at, uR_ne, uR_uR, uC_uC, uC_at, ↓reduceIte, decide_eq_true_eq, leT, leF, ltT, ltF, eqT, eqF, ne_eq, not_true_eq_false, not_false_eq_true, Bool.false_eq_true, tI_zI]
    obtain ⟨F1, r1, r2⟩ := hmain
    refine ⟨F1, ?_, r2⟩
    rw [hin, h1, ← r1]; rfl
end S94zzzt
