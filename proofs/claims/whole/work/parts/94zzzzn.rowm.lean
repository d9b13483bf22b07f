/-! MODEL: rows from a place -/
section S94zzzzn
set_option linter.unusedVariables false
set_option linter.unusedSimpArgs false
theorem go_288 {E : EnQ} {K : Int → Int32} (hI : InvK K) {wt : Int} : ∀ (k d : Nat) (u l : Int) (lf : Int → Int) (dp : Nat) (f0 f : Int) (F : Nat → Int → Int32) (G : Nat → Int → Int64) (hF hL : Int → Int), 0 ≤ u ∧ u < tI (K 1) → (-1 ≤ l ∧ l < 32) → (∀ v, 0 ≤ lf v ∧ lf v ≤ 100) → dp + k ≤ 14 → (0 ≤ f ∧ f + pwT 10 k ≤ 1000000000000000) → RgS F G K lf k dp f wt hF hL → ((dp = 1 → wayZ K (tI (F 235 0)) u = f0) ∧ (2 ≤ dp → wayZ K (tI (F 235 0)) (tI (F 235 1)) = f0)) → 5 + k ≤ d →
    ∃ F1 G1, callP MP d 288 [.ref 217, .int (zI u), .int (zI l)] (mk E F G) = some (Sum.inl none, mk E F1 G1) ∧ RgP F G F1 G1 K lf k dp u l f wt f0 hF hL := by
  intro k
  induction k with
  | zero =>
    intro d u l lf dp f0 f F G hF hL hu hl hlf hdp hf2 hR hf0 hd
    obtain ⟨e, rfl⟩ : ∃ e, d = e + 1 := ⟨d - 1, by omega⟩
    have hin : callP MP (e + 1) 288 [.ref 217, .int (zI u), .int (zI l)] (mk E F G) = runP MP e 288 (0, [some (.ref 217), some (.int (zI u)), some (.int (zI l)), none, none], [], mk E F G) := into_eq (by omega) hM_288 (rcv_mk rfl (by decide)) rfl
    have hp1 : pwT 10 0 = 1 := rfl
    obtain ⟨F1, G1, r1, r2, r3, r4⟩ := lf_all (d := e) (E := E) (F := F) (G := G) hI hR hu hl (by omega) (by omega) hf0 (by omega)
    refine ⟨F1, G1, by rw [hin, r1], r2, r3, fun h => ⟨(r4 h).1, (r4 h).2, fun i hi => ?_⟩⟩
    have : i = 0 := by omega
    subst this
    exact r2.2.2.2.2.2
  | succ k ih =>
    intro d u l lf dp f0 f F G hF hL hu hl hlf hdp hf2 hR hf0 hd
    obtain ⟨e, rfl⟩ : ∃ e, d = e + 1 := ⟨d - 1, by omega⟩
    have hin : callP MP (e + 1) 288 [.ref 217, .int (zI u), .int (zI l)] (mk E F G) = runP MP e 288 (0, [some (.ref 217), some (.int (zI u)), some (.int (zI l)), none, none], [], mk E F G) := into_eq (by omega) hM_288 (rcv_mk rfl (by decide)) rfl
    have hb1 := hI.1.2.1
    have hR0 := hR
    obtain ⟨h1, h2, h3, h4, h5, h6, h7, h8, h9⟩ := hR
    obtain ⟨F0, hF0⟩ : ∃ F0, F0 = uR F 235 (uC (F 235) (dp : Int) (zI u)) := ⟨_, rfl⟩
    have o0 : ∀ q, q ≠ 235 → F0 q = F q := fun q h => by rw [hF0]; exact uR_ne h
    have hdi : 0 ≤ (dp : Int) ∧ (dp : Int) < 64 := by omega
    have h00 : runP MP e 288 (0, [some (.ref 217), some (.int (zI u)), some (.int (zI l)), none, none], [], mk E F G) = runP MP e 288 (131, [some (.ref 217), some (.int (zI u)), some (.int (zI l)), some (.int (zI ((0 : Nat) : Int))), none], [], mk E F0 G) := by
      have h3' : ¬ ((k + 1 : Nat) : Int) = 0 := by omega
      rw [hF0, show ((0 : Nat) : Int) = 0 from rfl]
      rw [q_288_0]; (try simp only [↓n_rd, ↓n_rdJ, ↓n_al, ↓n_cI, li_0, li_1, li_12, li_32, li_38, li_63, lj_0, lj_1, lj_12, zJ_add, zJ_sub, zJ_mul, zJ_neg, zJ_l2i, zI_add, zI_sub, zI_mul, zI_neg, ↓Option.bind_some]); simp (disch := (first | assumption | exact tI_rg _ | omega | exact uR_at | exact row_ne hF (by decide) | exact row_ne (row_ne hF (by decide)) (by decide) | exact SnS_18 | exact SnS_30 | exact LdS_44 | exact LdS_46)) only [q_288_44, q_288_63, q_288_68, q_288_89, q_288_94, q_288_115, q_288_243, h4, h3, ↓as_235 hdi, ↓n_rd, ↓n_rdJ, ↓n_al, ↓n_cI, li_0, li_1, li_12, li_32, li_38, li_63, lj_0, lj_1, lj_12, zJ_add, zJ_sub, zJ_mul, zJ_neg, zJ_l2i, tJ_zJ, zI_add, zI_sub, zI_mul, zI_neg, ↓Option.bind_some, ↓g12_32, ↓g12_34, ↓g12_35, ↓g12_36, ↓g12_37, ↓g12_38, ↓g12_39, ↓g12_40, ↓g12_41, ↓p12_35, ↓p12_36, ↓p12_37, ↓p12_38, ↓p12_39, ↓pz12_41, ↓al_233, ↓as_233, ↓al_235, ↓as_235, zIt2, uR_at, uR_ne, uR_uR, uC_uC, uC_at, ↓reduceIte, decide_eq_true_eq, leT, leF, ltT, ltF, eqT, eqF, ne_eq, not_true_eq_false, not_false_eq_true, Bool.false_eq_true, tI_zI]
    have R0 : RgL F G F0 G K lf k dp u f wt f0 hF hL 0 := by
      refine ⟨⟨?_, fun v hv1 hv2 => ?_, ?_, ?_, ?_, ?_, h7, ?_, ?_⟩, o0 233 (by decide), ⟨fun q _ _ a3 => o0 q a3, fun j _ _ => by rw [o0 217 (by decide)], fun _ _ => rfl, fun _ _ => rfl, fun j hj => by rw [hF0, uR_at, uC_ne (by omega)], by rw [hF0, uR_at, uC_at, tI_zI (by omega)]⟩, ?_⟩
      · rw [o0 218 (by decide)]; exact h1
      · rw [o0 233 (by decide)]; exact h2 v hv1 hv2
      · rw [o0 217 (by decide)]; exact h3
      · rw [o0 217 (by decide)]; exact h4
      · rw [o0 217 (by decide)]; exact h5
      · show _ = f + 0; omega
      · rw [o0 217 (by decide)]
        show SuI (f + 0) _ _
        rw [Int.add_zero]
        exact SuI_ext (fun v => by show hF v = hF v + 0; omega) h8
      · rw [o0 217 (by decide)]
        show SuI (f + 0) _ _
        rw [Int.add_zero]
        exact SuI_ext (fun v => by show hL v = hL v + 0; omega) h9
      · show ¬ (f ≤ wt ∧ wt < f + 0)
        omega
    have hmain : ∃ F1 G1, runP MP e 288 (131, [some (.ref 217), some (.int (zI u)), some (.int (zI l)), some (.int (zI ((0 : Nat) : Int))), none], [], mk E F0 G) = some (Sum.inl none, mk E F1 G1) ∧ RgP F G F1 G1 K lf (k + 1) dp u l f wt f0 hF hL := by
      refine loopS (σ := (Nat → Int → Int32) × (Nat → Int → Int64) × Option Value) (Post := fun r => ∃ F1 G1, r = some (Sum.inl none, mk E F1 G1) ∧ RgP F G F1 G1 K lf (k + 1) dp u l f wt f0 hF hL)
        (fun j s => runP MP e 288 (131, [some (.ref 217), some (.int (zI u)), some (.int (zI l)), some (.int (zI (j : Int))), s.2.2], [], mk E s.1 s.2.1))
        (fun j s => RgL F G s.1 s.2.1 K lf k dp u f wt f0 hF hL j) (tI (K 1)).toNat (F0, G, none) R0 (fun s hL2 => ?_) (fun j s hj hL2 => ?_)
      · obtain ⟨i1, i2, i3, i4⟩ := hL2
        refine ⟨s.1, s.2.1, ?_, i3, fun _ => ⟨i1, i2⟩, fun z => absurd z i4⟩
        show runP MP e 288 _ = _
        have c214 : ∀ {kk : Int → HeapP → ResP} {kx : Nat → HeapP → ResP}, cT (callP MP e 214 [.ref 217] (mk E s.1 s.2.1)) kk kx = kk (tI (K 1)) (mk E s.1 s.2.1) := fun {kk kx} => by rw [cc_214 hI i1.1 (by omega)]
        have hle : tI (K 1) ≤ (((tI (K 1)).toNat : Nat) : Int) := by omega
        rw [q_288_131]; (try simp only [↓n_rd, ↓n_rdJ, ↓n_al, ↓n_cI, li_0, li_1, li_12, li_32, li_38, li_63, lj_0, lj_1, lj_12, zJ_add, zJ_sub, zJ_mul, zJ_neg, zJ_l2i, zI_add, zI_sub, zI_mul, zI_neg, ↓Option.bind_some]); simp (disch := (first | assumption | exact tI_rg _ | omega | exact uR_at | exact row_ne hF (by decide) | exact row_ne (row_ne hF (by decide)) (by decide) | exact SnS_18 | exact SnS_30 | exact LdS_44 | exact LdS_46)) only [q_288_0, q_288_44, q_288_63, q_288_68, q_288_89, q_288_94, q_288_115, q_288_243, ↓c214, ↓n_rd, ↓n_rdJ, ↓n_al, ↓n_cI, li_0, li_1, li_12, li_32, li_38, li_63, lj_0, lj_1, lj_12, zJ_add, zJ_sub, zJ_mul, zJ_neg, zJ_l2i, tJ_zJ, zI_add, zI_sub, zI_mul, zI_neg, ↓Option.bind_some, ↓g12_32, ↓g12_34, ↓g12_35, ↓g12_36, ↓g12_37, ↓g12_38, ↓g12_39, ↓g12_40, ↓g12_41, ↓p12_35, ↓p12_36, ↓p12_37, ↓p12_38, ↓p12_39, ↓pz12_41, ↓al_233, ↓as_233, ↓al_235, ↓as_235, zIt2, uR_at, uR_ne, uR_uR, uC_uC, uC_at, ↓reduceIte, decide_eq_true_eq, leT, leF, ltT, ltF, eqT, eqF, ne_eq, not_true_eq_false, not_false_eq_true, Bool.false_eq_true, tI_zI]
      · rcases rg_turn (e := e) (E := E) (l := l) (z4 := s.2.2) hI hu hlf hdp hf2 hf0 (by omega) (by omega) (fun u' l' lf' f0' f' F2 G2 hF' hL' a1 a2 a3 a4 a5 a6 => ih e u' l' lf' (dp + 1) f0' f' F2 G2 hF' hL' a1 a2 a3 (by omega) a4 a5 a6 (by omega)) hL2 with ⟨F3, G3, e1, e2⟩ | ⟨F3, G3, y4, e1, e2⟩
        · exact Or.inl ⟨F3, G3, e1, e2⟩
        · exact Or.inr ⟨(F3, G3, y4), e2, e1⟩
    obtain ⟨F1, G1, r1, r2⟩ := hmain
    exact ⟨F1, G1, by rw [hin, h00, r1], r2⟩
def KpW (F : Nat → Int → Int32) (G : Nat → Int → Int64) (F1 : Nat → Int → Int32) (G1 : Nat → Int → Int64) : Prop := (∀ q, q ≠ 217 → q ≠ 233 → q ≠ 235 → F1 q = F q) ∧ (∀ j, j < 35 ∨ 38 < j → j ≠ 41 → F1 217 j = F 217 j) ∧ (∀ q, q ≠ 217 → G1 q = G q) ∧ (∀ j, j ≠ 39 → j ≠ 40 → G1 217 j = G 217 j)
theorem KpW_rf {F : Nat → Int → Int32} {G : Nat → Int → Int64} : KpW F G F G := ⟨fun _ _ _ _ => rfl, fun _ _ _ => rfl, fun _ _ => rfl, fun _ _ _ => rfl⟩
theorem KpW.tr {F F1 F2 : Nat → Int → Int32} {G G1 G2 : Nat → Int → Int64} (h : KpW F G F1 G1) (k : KpW F1 G1 F2 G2) : KpW F G F2 G2 := ⟨fun q a b c => (k.1 q a b c).trans (h.1 q a b c), fun j a b => (k.2.1 j a b).trans (h.2.1 j a b), fun q a => (k.2.2.1 q a).trans (h.2.2.1 q a), fun j a b => (k.2.2.2 j a b).trans (h.2.2.2 j a b)⟩
theorem KpW.m {F F1 : Nat → Int → Int32} {G G1 : Nat → Int → Int64} (h : KpW F G F1 G1) : KeepM F G F1 G1 := ⟨fun q a1 a2 a3 a4 => h.1 q a1 (by omega) (by omega), fun j hj => h.2.1 j (by omega) (by omega), h.2.2.1⟩
theorem ct_287 {d : Nat} {E : EnQ} {F : Nat → Int → Int32} {G : Nat → Int → Int64} {K : Int → Int32} {lf : Int → Int} {k : Nat} {u wt : Int} (hI : InvK K) (hF : F 218 = K) (h233 : ∀ v : Int, 0 ≤ v → v < 32 → F 233 v = zI (lf v)) (h35 : tI (F 217 35) = (k : Int)) (hlf : ∀ v, 0 ≤ lf v ∧ lf v ≤ 100) (hk : k ≤ 14) (hu : 0 ≤ u ∧ u < tI (K 1)) (hwt : -9223372036854775808 ≤ wt ∧ wt ≤ 9223372036854775807) (hd : 6 + k ≤ d) :
    ∃ F1 G1, callP MP d 287 [.ref 217, .int (zI u), .long (zJ wt)] (mk E F G) = some (Sum.inl (some (.long (zJ (if 0 ≤ wt ∧ wt < NMz K k u lf then wt + 1 else NMz K k u lf)))), mk E F1 G1) ∧ KpW F G F1 G1 ∧ F1 218 = K ∧
      (¬ (0 ≤ wt ∧ wt < NMz K k u lf) → tI (F1 217 41) = 0 ∧ F1 233 = F 233 ∧ tI (F1 217 35) = (k : Int) ∧ tJ (G1 217 39) = NMz K k u lf ∧ SuI (NMz K k u lf) (fun v => HFz K k 0 u lf (-1) v) (tI (F1 217 37)) ∧ SuI (NMz K k u lf) (fun v => NLM K k u lf (-1) v) (tI (F1 217 38))) ∧
      (0 ≤ wt ∧ wt < NMz K k u lf → tI (F1 217 41) = 1 ∧ ∀ i : Nat, i ≤ k → tI (F1 235 (i : Int)) = RMz K k u lf wt i) := by
  have hbd := rw_bd hI hk (u := u) (lf := lf)
  have hpw := pw14 k hk
  obtain ⟨F0, hF0⟩ : ∃ F0, F0 = uR F 217 (uC (uC (uC (uC (F 217) 36 (zI 0)) 41 (zI 0)) 37 (zI (-1))) 38 (zI (-1))) := ⟨_, rfl⟩
  obtain ⟨G0, hG0⟩ : ∃ G0, G0 = uR G 217 (uC (uC (G 217) 39 (zJ 0)) 40 (zJ wt)) := ⟨_, rfl⟩
  have o217 : F0 217 = uC (uC (uC (uC (F 217) 36 (zI 0)) 41 (zI 0)) 37 (zI (-1))) 38 (zI (-1)) := by rw [hF0, uR_at]
  have oq : ∀ q, q ≠ 217 → F0 q = F q := fun q h => by rw [hF0, uR_ne h]
  have og : G0 217 = uC (uC (G 217) 39 (zJ 0)) 40 (zJ wt) := by rw [hG0, uR_at]
  have hsu : SuI 0 (fun _ => 0) (-1) := ⟨fun v => by show 0 ≤ (0 : Int) ∧ (0 : Int) ≤ 0; omega, fun a b _ => by show (0 : Int) + 0 ≤ 0; omega, Or.inr ⟨rfl, fun v _ => Or.inl rfl⟩⟩
  have R0 : RgS F0 G0 K lf k 0 0 wt (fun _ => 0) (fun _ => 0) := by
    refine ⟨?_, fun v hv1 hv2 => ?_, ?_, ?_, ?_, ?_, ?_, ?_, ?_⟩
    · rw [oq 218 (by decide)]; exact hF
    · rw [oq 233 (by decide)]; exact h233 v hv1 hv2
    · rw [o217, uC_ne (by decide), uC_ne (by decide), uC_ne (by decide), uC_ne (by decide)]; exact h35
    · rw [o217, uC_ne (by decide), uC_ne (by decide), uC_ne (by decide), uC_at]; exact tI_zI (by omega)
    · rw [o217, uC_ne (by decide), uC_ne (by decide), uC_at]; exact tI_zI (by omega)
    · rw [og, uC_ne (by decide), uC_at]; exact tJ_zJ (by omega)
    · rw [og, uC_at]; exact tJ_zJ hwt
    · rw [o217, uC_ne (by decide), uC_at, tI_zI (by omega)]; exact hsu
    · rw [o217, uC_at, tI_zI (by omega)]; exact hsu
  obtain ⟨F1, G1, r1, r2, r3, r4⟩ := go_288 (E := E) (wt := wt) hI k (d - 1) u (-1) lf 0 (-1) 0 F0 G0 _ _ hu (by omega) hlf (by omega) (by omega) R0 ⟨fun z => by omega, fun z => by omega⟩ (by omega)
  rw [Int.zero_add] at r3 r4
  have hkp : KpW F G F1 G1 := by
    refine ⟨fun q a1 a2 a3 => (r2.1 q a1 a2 a3).trans (oq q a1), fun j a1 a2 => ?_, fun q a1 => (r2.2.2.1 q a1).trans (by rw [hG0, uR_ne a1]), fun j a1 a2 => ?_⟩
    · rw [r2.2.1 j a1 a2, o217, uC_ne (by omega), uC_ne (by omega), uC_ne a2, uC_ne (by omega)]
    · rw [r2.2.2.2.1 j a1, og, uC_ne a2, uC_ne a1]
  have hrun : ∀ v, tJ (G1 217 39) = v → callP MP d 287 [.ref 217, .int (zI u), .long (zJ wt)] (mk E F G) = some (Sum.inl (some (.long (zJ v))), mk E F1 G1) := fun v hv => by
    obtain ⟨e, rfl⟩ : ∃ e, d = e + 1 := ⟨d - 1, by omega⟩
    have hin : callP MP (e + 1) 287 [.ref 217, .int (zI u), .long (zJ wt)] (mk E F G) = runP MP e 287 (0, [some (.ref 217), some (.int (zI u)), some (.long (zJ wt)), none], [], mk E F G) := into_eq (by omega) hM_287 (rcv_mk rfl (by decide)) rfl
    have r1 : callP MP e 288 [.ref 217, .int (zI u), .int (zI (-1))] (mk E F0 G0) = some (Sum.inl none, mk E F1 G1) := r1
    have c288 : ∀ {kk : HeapP → ResP} {kx : Nat → HeapP → ResP}, cV (callP MP e 288 [.ref 217, .int (zI u), .int (zI (-1))] (mk E (uR F 217 (uC (uC (uC (uC (F 217) 36 (zI 0)) 41 (zI 0)) 37 (zI (-1))) 38 (zI (-1)))) (uR G 217 (uC (uC (G 217) 39 (zJ 0)) 40 (zJ wt))))) kk kx = kk (mk E F1 G1) := fun {kk kx} => by rw [← hF0, ← hG0]; exact cV_ret r1
    rw [hin]
    rw [q_287_0]; (try simp only [↓n_rdJ, li_0, li_1, li_12, li_38, lj_0, lj_1, lj_12, zJ_add, zJ_sub, zJ_mul, zJ_neg, zJ_l2i, zI_add, zI_sub, zI_mul, zI_neg, ↓Option.bind_some]); simp (disch := (first | assumption | exact tI_rg _ | omega | exact uR_at | exact row_ne hF (by decide) | exact row_ne (row_ne hF (by decide)) (by decide) | exact SnS_18 | exact SnS_30 | exact LdS_44 | exact LdS_46)) only [↓c288, hv, ↓n_rdJ, li_0, li_1, li_12, li_38, lj_0, lj_1, lj_12, zJ_add, zJ_sub, zJ_mul, zJ_neg, zJ_l2i, tJ_zJ, zI_add, zI_sub, zI_mul, zI_neg, ↓Option.bind_some, ↓g12_39, ↓p12_36, ↓p12_37, ↓p12_38, ↓p12_39, ↓p12_40, ↓pz12_41, zIt2, uR_at, uR_ne, uR_uR, uC_uC, uC_at, ↓reduceIte, decide_eq_true_eq, leT, leF, ltT, ltF, eqT, eqF, ne_eq, not_true_eq_false, not_false_eq_true, Bool.false_eq_true, tI_zI]
  by_cases c : 0 ≤ wt ∧ wt < NMz K k u lf
  · obtain ⟨s1, s2, s3⟩ := r4 c
    refine ⟨F1, G1, by rw [if_pos c]; exact hrun _ s2, hkp, by rw [hkp.1 218 (by decide) (by decide) (by decide)]; exact hF, fun z => absurd c z, fun _ => ⟨s1, fun i hi => ?_⟩⟩
    have := s3 i hi
    rw [Nat.zero_add, Int.sub_zero] at this
    exact this
  · obtain ⟨⟨s1, s2, s3, s4, s5, s6, s7, s8, s9⟩, t1⟩ := r3 c
    refine ⟨F1, G1, by rw [if_neg c]; exact hrun _ s6, hkp, s1, fun _ => ⟨s5, t1.trans (oq 233 (by decide)), s3, s6, ?_, ?_⟩, fun z => absurd z c⟩
    · exact SuI_ext (fun v => by show 0 + HFz K k 0 u lf (-1) v = HFz K k 0 u lf (-1) v; omega) s8
    · exact SuI_ext (fun v => by show 0 + NLM K k u lf (-1) v = NLM K k u lf (-1) v; omega) s9
end S94zzzzn
