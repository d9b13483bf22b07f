/-! CLASS: the bag of what is kept -/
section S94zzzz
set_option linter.unusedVariables false
set_option linter.unusedSimpArgs false
/-- how often each way is there -/
def lfW (w : Nat → Int) (k : Nat) : Int → Int := fun v => cntN (fun i => w i == v) k
def bgN (w : Nat → Int) (k : Nat) (v : Nat) : Nat := (lfW w k (v : Int)).toNat
theorem lfW_nn {w : Nat → Int} {k : Nat} {v : Int} : 0 ≤ lfW w k v := (cntN_rg _ _).1
theorem lfW_pos {w : Nat → Int} {v : Int} : ∀ {k : Nat}, 0 < lfW w k v → ∃ i, i < k ∧ w i = v
  | 0, h => by exact absurd h (by show ¬ (0 : Int) < 0; omega)
  | k + 1, h => by
    by_cases c : (w k == v) = true
    · exact ⟨k, by omega, beq_iff_eq.mp c⟩
    · have e : lfW w (k + 1) v = lfW w k v := cntN_neg (p := fun i => w i == v) c
      rw [e] at h
      obtain ⟨i, hi, he⟩ := lfW_pos h
      exact ⟨i, by omega, he⟩
theorem bg_i {w : Nat → Int} {k v : Nat} : ((bgN w k v : Nat) : Int) = lfW w k (v : Int) := by
  have := lfW_nn (w := w) (k := k) (v := (v : Int))
  unfold bgN; omega
theorem bg_sum {w : Nat → Int} : ∀ {k : Nat}, (∀ i, i < k → 0 ≤ w i ∧ w i < 32) → sumN (fun v => ((bgN w k v : Nat) : Int)) 32 = (k : Int)
  | 0, _ => sumN_z (fun v _ => by rw [bg_i]; rfl)
  | k + 1, h => by
    have e := sumN_congr (f := fun v => ((bgN w (k + 1) v : Nat) : Int)) (g := fun v => ((bgN w k v : Nat) : Int) + (if v = (w k).toNat then 1 else 0)) (n := 32) (fun v _ => by
      show ((bgN w (k + 1) v : Nat) : Int) = ((bgN w k v : Nat) : Int) + (if v = (w k).toNat then 1 else 0)
      rw [bg_i, bg_i]
      have hk := h k (by omega)
      by_cases c : w k = (v : Int)
      · rw [if_pos (by omega)]; exact cntN_pos (p := fun i => w i == (v : Int)) (beq_iff_eq.mpr c)
      · rw [if_neg (by omega)]
        have : lfW w (k + 1) (v : Int) = lfW w k (v : Int) := cntN_neg (p := fun i => w i == (v : Int)) (fun z => c (beq_iff_eq.mp z))
        omega)
    have hk := h k (by omega)
    rw [e, sumN_add, bg_sum (fun i hi => h i (by omega)), sumN_single (f := fun v => if v = (w k).toNat then (1 : Int) else 0) (k := (w k).toNat) (by omega) (fun j _ hj => if_neg hj), if_pos rfl]
    rfl
theorem Sl_Sx {K : Int → Int32} {w : Nat → Int} {k n : Nat} {sw nd st : Nat → Nat} (hw : ∀ i, i < k → 0 ≤ w i ∧ w i < 2 * tI (K 2)) (h2 : tI (K 2) ≤ 16) (hk : k ≤ 14) (h : SlI (bgN w k) 32 n sw nd st) : SxI K n sw nd st := by
  obtain ⟨h1, hm, h3, h4, h5⟩ := h
  have hs := bg_sum (w := w) (k := k) (fun i hi => by have := hw i hi; omega)
  rw [hs] at h4 h5
  have hle : ∀ v, v < 32 → bgN w k v ≤ 14 := fun v hv => by
    have := sumN_le1 (f := fun v => ((bgN w k v : Nat) : Int)) hv (fun _ _ => Int.natCast_nonneg _)
    omega
  refine ⟨fun s hs => ?_, fun s t hs ht e => ?_, by omega, by omega⟩
  · obtain ⟨a1, a2, a3, a4⟩ := h1 s hs
    have hb := hle (sw s) a1
    have hnb := nb_facts (st s) (by omega)
    obtain ⟨i, hi, he⟩ := lfW_pos (w := w) (k := k) (v := (sw s : Int)) (by have := bg_i (w := w) (k := k) (v := sw s); omega)
    have := hw i hi
    refine ⟨by omega, by omega, by rw [a4]; exact hnb.2.2.2.2, by rw [a4]; exact nb_pos (by omega), by omega⟩
  · rcases Nat.lt_trichotomy s t with c | c | c
    · have := hm s t c ht; omega
    · exact c
    · have := hm t s c hs; omega
theorem Sl_T {K : Int → Int32} {w : Nat → Int} {k n : Nat} {sw nd st : Nat → Nat} (hw : ∀ i, i < k → 0 ≤ w i ∧ w i < 2 * tI (K 2)) (h2 : tI (K 2) ≤ 16) (hS : SxI K n sw nd st) (h : SlI (bgN w k) 32 n sw nd st) : SlT K n (fun s => (sw s : Int)) (lfW w k) := by
  refine ⟨fun s t hs ht e => hS.2.1 s t hs ht (by have e : (sw s : Int) = (sw t : Int) := e; omega), fun s hs => ⟨Int.natCast_nonneg _, (hS.1 s hs).1⟩, fun v hv => ?_⟩
  obtain ⟨i, hi, he⟩ := lfW_pos hv
  have := hw i hi
  obtain ⟨s, hs, e⟩ := h.2.2.1 v.toNat (by omega) (by
    have hb := bg_i (w := w) (k := k) (v := v.toNat)
    rw [show ((v.toNat : Nat) : Int) = v by omega] at hb
    omega)
  exact ⟨s, hs, by show (sw s : Int) = v; omega⟩
theorem Sl_st {w : Nat → Int} {k n : Nat} {sw nd st : Nat → Nat} (h : SlI (bgN w k) 32 n sw nd st) {s : Nat} (hs : s < n) : lfW w k (sw s : Int) = (st s : Int) := by
  rw [(h.1 s hs).2.2.1, bg_i]
theorem dg_full {K : Int → Int32} {n : Nat} {sw nd st : Nat → Nat} (hS : SxI K n sw nd st) {t : Nat} (ht : t < n) : dgN nd (encN nd st n) t = st t := dg_enc (fun t ht => (hS.1 t ht).2.2.1) ht
theorem td_full {K : Int → Int32} {w : Nat → Int} {k n : Nat} {sw nd st : Nat → Nat} (hw : ∀ i, i < k → 0 ≤ w i ∧ w i < 2 * tI (K 2)) (h2 : tI (K 2) ≤ 16) (hS : SxI K n sw nd st) (h : SlI (bgN w k) 32 n sw nd st) : tdx nd n (encN nd st n) = k := by
  have e := tdx_i (nd := nd) (n := n) (x := encN nd st n)
  rw [sumN_congr (g := fun s => (st s : Int)) (fun t ht => by rw [cIx_in ht, dg_full hS ht]), h.2.2.2.2, bg_sum (fun i hi => by have := hw i hi; omega)] at e
  omega
/-- all rows: by codes, by places -/
theorem W_full {K : Int → Int32} (hI : InvK K) {w : Nat → Int} {k n : Nat} {sw nd st : Nat → Nat} {u : Int} (hw : ∀ i, i < k → 0 ≤ w i ∧ w i < 2 * tI (K 2)) (hS : SxI K n sw nd st) (h : SlI (bgN w k) 32 n sw nd st) : Wx n nd (fgS K sw) (tgS K sw) u (encN nd st n) = NMz K k u (lfW w k) := by
  rw [NM_NW hI k u (lfW w k) (Sl_T hw hI.1.2.2.1.2 hS h)]
  unfold Wx
  rw [td_full hw hI.1.2.2.1.2 hS h]
  exact NW_congr k u _ _ (fun t ht => by
    rw [cIx_in ht, dg_full hS ht]
    exact (Sl_st h ht).symm)
theorem V_full {K : Int → Int32} {n : Nat} {sw nd st : Nat → Nat} (hS : SxI K n sw nd st) : Vdx n nd st (encN nd st n) := fun t ht => by rw [dg_full hS ht]; exact Nat.le_refl _
def bgR (r : Int → Int32) (w : Nat → Int) (k : Nat) : Int → Int32 := fun v => if 0 ≤ v ∧ v < 32 then zI (lfW w k v) else r v
theorem bgR_0 {r : Int → Int32} {w : Nat → Int} : zrI r 32 0 = bgR r w 0 := rfl
theorem bgR_s {r : Int → Int32} {w : Nat → Int} {k : Nat} (h : 0 ≤ w k ∧ w k < 32) (hk : k < 100) : bgR r w (k + 1) = uC (bgR r w k) (w k) (zI (tI (bgR r w k (w k)) + 1)) := by
  funext v
  by_cases e : v = w k
  · rw [e, uC_at]
    have hc := cntN_rg (fun i => w i == w k) k
    have e1 : bgR r w k (w k) = zI (lfW w k (w k)) := if_pos h
    have e2 : bgR r w (k + 1) (w k) = zI (lfW w (k + 1) (w k)) := if_pos h
    rw [e1, e2, tI_zI (by unfold lfW; omega)]
    exact congrArg zI (cntN_pos (p := fun i => w i == w k) (beq_iff_eq.mpr rfl))
  · rw [uC_ne e]
    show (if 0 ≤ v ∧ v < 32 then zI (lfW w (k + 1) v) else r v) = (if 0 ≤ v ∧ v < 32 then zI (lfW w k v) else r v)
    have : lfW w (k + 1) v = lfW w k v := cntN_neg (p := fun i => w i == v) (fun z => e (beq_iff_eq.mp z).symm)
    rw [this]
theorem KeepD_kp6 {E : EnQ} {F F1 : Nat → Int → Int32} {G : Nat → Int → Int64} (h : kp6 F F1) : KeepD E F G E F1 G := KeepD_rows (p := fun q => q = 178 ∨ q = 185 ∨ q = 186 ∨ q = 187 ∨ q = 188) (fun q hq => by unfold scrC; omega) (fun q hq => h q (by omega) (by omega) (by omega) (by omega) (by omega))
theorem scr207 : scrC 207 := by unfold scrC; omega
theorem scr191 : scrC 191 := by unfold scrC; omega
def wK (K : Int → Int32) (i : Nat) : Int := prW K (i : Int)
theorem wK_in {K : Int → Int32} (hI : InvK K) : ∀ i, i < (tI (K 5)).toNat → 0 ≤ wK K i ∧ wK K i < 2 * tI (K 2) := fun i hi => (pr_in hI (i := (i : Int)) (by omega) (by omega)).1
theorem ct_bag {d : Nat} {E : EnQ} {F : Nat → Int → Int32} {G : Nat → Int → Int64} {K : Int → Int32} {pl k : Nat} {w : Nat → Int} {G0 : Nat → Int → Int32} (hI : InvK K) (hpl : pl = 19 ∨ 247 ≤ pl) (hP : PlS E pl) (hR : PlR F pl K) (hw : ∀ i, i < k → 0 ≤ w i ∧ w i < 2 * tI (K 2)) (hk : k ≤ 14) (h207 : F 207 = bgR (G0 207) w k) (hd : 2 ≤ d) :
    ∃ F1, callP MP d 82 [.ref 178, .ref pl, .ref 207] (mk E F G) = some (Sum.inl none, mk (uE E 178 0 pl) F1 G) ∧ kp6 F F1 ∧ ∃ n sw nd st, SlI (bgN w k) 32 n sw nd st ∧ TrX (uE E 178 0 pl) F1 K pl n sw nd st := by
  have h2 := hI.1.2.2.1
  have hs := bg_sum (w := w) (k := k) (fun i hi => by have := hw i hi; omega)
  obtain ⟨F1, r1, r2, n, sw, nd, st, r3, r4⟩ := ct_82 (d := d) (E := E) (F := F) (G := G) (pl := pl) (lf := bgN w k) (fun v hv => by
    rw [h207, bg_i]
    have hc := cntN_rg (fun i => w i == (v : Int)) k
    show tI (if 0 ≤ (v : Int) ∧ (v : Int) < 32 then zI (lfW w k (v : Int)) else G0 207 (v : Int)) = _
    rw [if_pos (by omega), tI_zI (by unfold lfW; omega)]) (by omega) hd
  refine ⟨F1, r1, r2, n, sw, nd, st, r3, ?_, r4, PlR_move hI (fun b h1 h2 => r2 b (by omega) (by omega) (by omega) (by omega) (by omega)) (fun j _ => rfl) hR, hP, hpl, hI, Sl_Sx hw h2.2 hk r3⟩
  show uR E.2.2.2 178 (uC (E.2.2.2 178) 0 pl) 178 0 = pl
  rw [uR_at, uC_at]
theorem ct_121f {d : Nat} {E : EnQ} {F : Nat → Int → Int32} {G : Nat → Int → Int64} {K : Int → Int32} {m : Int} (hO : SnO E F 18 K) (hm : 0 ≤ m ∧ m ≤ 60) (hk : ¬ tI (K 5) ≤ m) (hd : 3 ≤ d) : callP MP d 121 [.ref 16, .int (zI m)] (mk E F G) = some (Sum.inl (some (.int (zI 0))), mk E F G) := by
  have e5 : tI (F 18 2) = tI (K 5) := by rw [hO.2.2.2.1.1.2.1]
  have hs := hO.1.1
  have hb := hO.2.2.2.2.1.2.2.2.2.2.1
  have hb4 := hO.2.2.2.2.1.2.2.2.2.1
  refine into (D := 2) (by omega) hM_121 (rcv_mk rfl (by decide)) rfl fun d hd => ?_
  show runP MP d 121 (0, [some (.ref 16), some (.int (zI m)), none, none], [], _) = _
  rw [q_121_0]; (try simp only [↓n_rd, ↓n_al, ↓n_cI, li_0, li_1, li_2, li_4, li_5, li_12, li_16, li_32, li_63, li_64, li_121, zI_add, zI_sub, zI_mul, zI_neg, ↓Option.bind_some]); simp (disch := (first | assumption | exact tI_rg _ | omega | exact uR_at | exact row_ne hF (by decide) | exact row_ne (row_ne hF (by decide)) (by decide) | exact SnS_18 | exact SnS_30 | exact LdS_44 | exact LdS_46)) only [q_121_63, e5, ↓n_rd, ↓n_al, ↓n_cI, retZ_z, li_0, li_1, li_2, li_4, li_5, li_12, li_16, li_32, li_63, li_64, li_121, zI_add, zI_sub, zI_mul, zI_neg, ↓Option.bind_some, ↓g11_12, ↓g11_16, ↓g11_4, ↓g5_0, ↓g5_2, ↓al_207, ↓as_207, zIt2, uR_at, uR_ne, uR_uR, uC_uC, uC_at, ↓reduceIte, decide_eq_true_eq, leT, leF, ltT, ltF, eqT, eqF, ne_eq, not_true_eq_false, not_false_eq_true, Bool.false_eq_true, tI_zI]
theorem ct_121 {d : Nat} {E : EnQ} {F : Nat → Int → Int32} {G : Nat → Int → Int64} {K : Int → Int32} {m : Int} (hO : SnO E F 18 K) (hD : SepP E 18) (hm : 0 ≤ m ∧ m ≤ 14) (hk : tI (K 5) ≤ m) (hd : 3 ≤ d) :
    ∃ F1, callP MP d 121 [.ref 16, .int (zI m)] (mk E F G) = some (Sum.inl (some (.int (zI 1))), mk (uE E 178 0 (rfQ E 18 0)) F1 G) ∧ KeepD E F G (uE E 178 0 (rfQ E 18 0)) F1 G ∧ ∃ n sw nd st, SlI (bgN (wK K) (tI (K 5)).toNat) 32 n sw nd st ∧ TrX (uE E 178 0 (rfQ E 18 0)) F1 K (rfQ E 18 0) n sw nd st := by
  have hO' := hO
  obtain ⟨hS, hP, hR, hN, hI⟩ := hO
  have e5 : tI (F 18 2) = tI (K 5) := by rw [hN.1.2.1]
  have hs := hS.1
  obtain ⟨b0, b1, b2, b3, b4, b5, b6, b7, b8, b9⟩ := hI.1
  obtain ⟨k, hkk⟩ : ∃ k : Nat, (k : Int) = tI (K 5) := ⟨(tI (K 5)).toNat, by omega⟩
  have hkn : (tI (K 5)).toNat = k := by omega
  have hw := wK_in hI
  rw [hkn] at hw ⊢
  have hR2 : PlR (uR F 207 (bgR (F 207) (wK K) k)) (rfQ E 18 0) K := PlR_ld hI (by have := hD.2; omega) hR
  obtain ⟨F1, r1, r2, n, sw, nd, st, r3, r4⟩ := ct_bag (d := d - 1) (E := E) (F := uR F 207 (bgR (F 207) (wK K) k)) (G := G) (G0 := F) (K := K) (pl := rfQ E 18 0) (k := k) (w := wK K) hI hD.2 hP hR2 hw (by omega) uR_at (by omega)
  refine ⟨F1, ?_, ((KeepD_F scr207).tr (KeepD_kp6 r2)).tr (KeepD_E (by omega)), n, sw, nd, st, r3, r4⟩
  obtain ⟨e, rfl⟩ : ∃ e, d = e + 1 := ⟨d - 1, by omega⟩
  have hin : callP MP (e + 1) 121 [.ref 16, .int (zI m)] (mk E F G) = runP MP e 121 (0, [some (.ref 16), some (.int (zI m)), none, none], [], mk E F G) := into_eq (by omega) hM_121 (rcv_mk rfl (by decide)) rfl
  have c0 : ∀ {kk : HeapP → ResP} {kx : Nat → HeapP → ResP}, cV (callP MP e 0 [.ref 207, .int (zI 0)] (mk E F G)) kk kx = kk (mk E (uR F 207 (bgR (F 207) (wK K) 0)) G) := fun {kk kx} => by
    rw [← bgR_0]
    exact cc_0 (a := 207) (n := 32) rfl (by decide) (by omega)
  have h0 : runP MP e 121 (0, [some (.ref 16), some (.int (zI m)), none, none], [], mk E F G) = runP MP e 121 (23, [some (.ref 16), some (.int (zI m)), some (.int (zI ((0 : Nat) : Int))), none], [], mk E (uR F 207 (bgR (F 207) (wK K) 0)) G) := by
    rw [show ((0 : Nat) : Int) = 0 from rfl]
    rw [q_121_0]; (try simp only [↓n_rd, ↓n_al, ↓n_cI, li_0, li_1, li_2, li_4, li_5, li_12, li_16, li_32, li_63, li_64, li_121, zI_add, zI_sub, zI_mul, zI_neg, ↓Option.bind_some]); simp (disch := (first | assumption | exact tI_rg _ | omega | exact uR_at | exact row_ne hF (by decide) | exact row_ne (row_ne hF (by decide)) (by decide) | exact SnS_18 | exact SnS_30 | exact LdS_44 | exact LdS_46)) only [q_121_63, e5, ↓c0, ↓n_rd, ↓n_al, ↓n_cI, retZ_z, li_0, li_1, li_2, li_4, li_5, li_12, li_16, li_32, li_63, li_64, li_121, zI_add, zI_sub, zI_mul, zI_neg, ↓Option.bind_some, ↓g11_12, ↓g11_16, ↓g11_4, ↓g5_0, ↓g5_2, ↓al_207, ↓as_207, zIt2, uR_at, uR_ne, uR_uR, uC_uC, uC_at, ↓reduceIte, decide_eq_true_eq, leT, leF, ltT, ltF, eqT, eqF, ne_eq, not_true_eq_false, not_false_eq_true, Bool.false_eq_true, tI_zI]
  rw [hin, h0]
  refine loopS (σ := Option Value) (Post := fun r => r = some (Sum.inl (some (.int (zI 1))), mk (uE E 178 0 (rfQ E 18 0)) F1 G))
    (fun j z => runP MP e 121 (23, [some (.ref 16), some (.int (zI m)), some (.int (zI (j : Int))), z], [], mk E (uR F 207 (bgR (F 207) (wK K) j)) G))
    (fun _ _ => True) k none trivial (fun z _ => ?_) (fun j z hj _ => ?_)
  · show runP MP e 121 _ = _
    have r1 : callP MP e 82 [.ref 178, .ref (rfQ E 18 0), .ref 207] (mk E (uR F 207 (bgR (F 207) (wK K) k)) G) = some (Sum.inl none, mk (uE E 178 0 (rfQ E 18 0)) F1 G) := r1
    have c82 : ∀ {kk : HeapP → ResP} {kx : Nat → HeapP → ResP}, cV (callP MP e 82 [.ref 178, .ref (rfQ E 18 0), .ref 207] (mk E (uR F 207 (bgR (F 207) (wK K) k)) G)) kk kx = kk (mk (uE E 178 0 (rfQ E 18 0)) F1 G) := fun {kk kx} => cV_ret r1
    rw [q_121_23]; (try simp only [↓n_rd, ↓n_al, ↓n_cI, li_0, li_1, li_2, li_4, li_5, li_12, li_16, li_32, li_63, li_64, li_121, zI_add, zI_sub, zI_mul, zI_neg, ↓Option.bind_some]); simp (disch := (first | assumption | exact tI_rg _ | omega | exact uR_at | exact row_ne hF (by decide) | exact row_ne (row_ne hF (by decide)) (by decide) | exact SnS_18 | exact SnS_30 | exact LdS_44 | exact LdS_46)) only [q_121_0, q_121_63, e5, ↓c82, ↓n_rd, ↓n_al, ↓n_cI, retZ_z, li_0, li_1, li_2, li_4, li_5, li_12, li_16, li_32, li_63, li_64, li_121, zI_add, zI_sub, zI_mul, zI_neg, ↓Option.bind_some, ↓g11_12, ↓g11_16, ↓g11_4, ↓g5_0, ↓g5_2, ↓al_207, ↓as_207, zIt2, uR_at, uR_ne, uR_uR, uC_uC, uC_at, ↓reduceIte, decide_eq_true_eq, leT, leF, ltT, ltF, eqT, eqF, ne_eq, not_true_eq_false, not_false_eq_true, Bool.false_eq_true, tI_zI]
  · right
    have hO2 := SnO_row (G := G) (r := bgR (F 207) (wK K) j) hO' hD scr207
    have hwj := hw j hj
    have hws : bgR (F 207) (wK K) (j + 1) = _ := bgR_s (r := F 207) (w := wK K) (k := j) (by omega) (by omega)
    have c64 : ∀ {kk : Int → HeapP → ResP} {kx : Nat → HeapP → ResP}, cT (callP MP e 64 [.ref 18, .int (zI (j : Int))] (mk E (uR F 207 (bgR (F 207) (wK K) j)) G)) kk kx = kk (wK K j) (mk E (uR F 207 (bgR (F 207) (wK K) j)) G) := fun {kk kx} => cc_64 hO2 (by omega) (by omega)
    refine ⟨some (.int (zI (wK K j))), trivial, ?_⟩
    show runP MP e 121 _ = runP MP e 121 _
    rw [nsucc, hws]
    rw [q_121_23]; (try simp only [↓n_rd, ↓n_al, ↓n_cI, li_0, li_1, li_2, li_4, li_5, li_12, li_16, li_32, li_63, li_64, li_121, zI_add, zI_sub, zI_mul, zI_neg, ↓Option.bind_some]); simp (disch := (first | assumption | exact tI_rg _ | omega | exact uR_at | exact row_ne hF (by decide) | exact row_ne (row_ne hF (by decide)) (by decide) | exact SnS_18 | exact SnS_30 | exact LdS_44 | exact LdS_46)) only [q_121_0, q_121_63, e5, ↓c64, ↓al_207, ↓as_207, ↓n_rd, ↓n_al, ↓n_cI, retZ_z, li_0, li_1, li_2, li_4, li_5, li_12, li_16, li_32, li_63, li_64, li_121, zI_add, zI_sub, zI_mul, zI_neg, ↓Option.bind_some, ↓g11_12, ↓g11_16, ↓g11_4, ↓g5_0, ↓g5_2, ↓al_207, ↓as_207, zIt2, uR_at, uR_ne, uR_uR, uC_uC, uC_at, ↓reduceIte, decide_eq_true_eq, leT, leF, ltT, ltF, eqT, eqF, ne_eq, not_true_eq_false, not_false_eq_true, Bool.false_eq_true, tI_zI]
end S94zzzz
