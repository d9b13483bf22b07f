/-! signs told -/
section S94zt
set_option linter.unusedVariables false
set_option linter.unusedSimpArgs false
abbrev SgS : Type := Nat × (Nat → Int)
def sgP (S : SgS) (w : Int) : Int := fndN (fun k => S.2 k == w) S.1 0
def sgN (A : Nat → Int) : Nat → SgS
  | 0 => (0, fun _ => 0)
  | j + 1 => if sgP (sgN A j) (A j) = -1 then ((sgN A j).1 + 1, fun k => if k = (sgN A j).1 then A j else (sgN A j).2 k) else sgN A j
def sgB (A : Nat → Int) (P : Int) (j : Nat) : Bool := decide (¬ (0 ≤ A j ∧ A j < P)) || (decide (sgP (sgN A j) (A j) = -1) && decide ((sgN A j).1 = 8))
def sgT (S : SgS) (w : Int) : Nat := if sgP S w = -1 then 0 else 2 ^ (sgP S w).toNat
def sgF1 (S : SgS) : Int := if S.1 = 0 then -1 else S.2 0
def SgI (P : Int) (S : SgS) : Prop := S.1 ≤ 8 ∧ (∀ k, k < S.1 → 0 ≤ S.2 k ∧ S.2 k < P) ∧ ∀ k l, k < l → l < S.1 → S.2 k ≠ S.2 l
theorem sgP_rg (S : SgS) (w : Int) : sgP S w = -1 ∨ (0 ≤ sgP S w ∧ sgP S w < S.1) := by
  have := fndN_rg (fun k => S.2 k == w) S.1 0
  unfold sgP; omega
theorem sgP_at {S : SgS} {w : Int} (h : sgP S w ≠ -1) : S.2 (sgP S w).toNat = w := by
  rcases fndN_is (fun k => S.2 k == w) S.1 0 with ⟨h1, -⟩ | ⟨k, -, h2, h3, h4, -⟩
  · exact absurd h1 h
  · unfold sgP
    rw [h3, show ((k : Int)).toNat = k by omega]
    exact beq_iff_eq.mp h4
theorem sgP_new {S : SgS} {w0 w : Int} (h : sgP S w0 = -1) : sgP (S.1 + 1, fun k => if k = S.1 then w0 else S.2 k) w = if w = w0 then (S.1 : Int) else sgP S w := by
  by_cases e : w = w0
  · rw [if_pos e]
    refine fndN_eq (by omega) (by show S.1 < 0 + (S.1 + 1); omega) ?_ (fun i _ hi => ?_)
    · show ((if S.1 = S.1 then w0 else S.2 S.1) == w) = true
      rw [if_pos rfl, beq_iff_eq]; exact e.symm
    · show ((if i = S.1 then w0 else S.2 i) == w) = false
      rw [if_neg (by omega), e]
      exact sm_all.mp h i hi
  · rw [if_neg e]
    rcases fndN_is (fun k => S.2 k == w) S.1 0 with ⟨h1, h2⟩ | ⟨k, -, h2, h3, h4, h5⟩
    · rw [show sgP S w = -1 from h1]
      refine fndN_none (fun i _ hi => ?_)
      have hi : i < 0 + (S.1 + 1) := hi
      show ((if i = S.1 then w0 else S.2 i) == w) = false
      by_cases z : i = S.1
      · rw [if_pos z, beq_eq_false_iff_ne]; exact fun y => e y.symm
      · rw [if_neg z]; exact h2 i (by omega) (by omega)
    · rw [show sgP S w = (k : Int) from h3]
      refine fndN_eq (by omega) (by show k < 0 + (S.1 + 1); omega) ?_ (fun i _ hi => ?_)
      · show ((if k = S.1 then w0 else S.2 k) == w) = true
        rw [if_neg (by omega)]; exact h4
      · show ((if i = S.1 then w0 else S.2 i) == w) = false
        rw [if_neg (by omega)]; exact h5 i (by omega) hi
theorem sg_in {A : Nat → Int} {P : Int} {j : Nat} (h : sgB A P j = false) : 0 ≤ A j ∧ A j < P ∧ (sgP (sgN A j) (A j) = -1 → (sgN A j).1 ≠ 8) := by
  unfold sgB at h
  rw [Bool.or_eq_false_iff, Bool.and_eq_false_iff, decide_eq_false_iff_not] at h
  refine ⟨(Decidable.not_not.mp h.1).1, (Decidable.not_not.mp h.1).2, fun h1 h2 => ?_⟩
  rcases h.2 with z | z
  · exact of_decide_eq_false z h1
  · exact of_decide_eq_false z h2
theorem sg_inv {A : Nat → Int} {P : Int} : ∀ j, (∀ i, i < j → sgB A P i = false) → SgI P (sgN A j) := by
  intro j
  induction j with
  | zero => intro _; exact ⟨Nat.zero_le _, fun k hk => absurd hk (Nat.not_lt_zero _), fun k l _ hl => absurd hl (Nat.not_lt_zero _)⟩
  | succ j ih =>
    intro h
    obtain ⟨i1, i2, i3⟩ := ih (fun i hi => h i (by omega))
    obtain ⟨a1, a2, a3⟩ := sg_in (h j (by omega))
    by_cases e : sgP (sgN A j) (A j) = -1
    · rw [show sgN A (j + 1) = ((sgN A j).1 + 1, fun k => if k = (sgN A j).1 then A j else (sgN A j).2 k) from if_pos e]
      have := a3 e
      refine ⟨by show (sgN A j).1 + 1 ≤ 8; omega, fun k hk => ?_, fun k l hkl hl => ?_⟩
      · have hk : k < (sgN A j).1 + 1 := hk
        show 0 ≤ (if k = (sgN A j).1 then A j else (sgN A j).2 k) ∧ (if k = (sgN A j).1 then A j else (sgN A j).2 k) < P
        by_cases z : k = (sgN A j).1
        · rw [if_pos z]; exact ⟨a1, a2⟩
        · rw [if_neg z]; exact i2 k (by omega)
      · have hl : l < (sgN A j).1 + 1 := hl
        show (if k = (sgN A j).1 then A j else (sgN A j).2 k) ≠ (if l = (sgN A j).1 then A j else (sgN A j).2 l)
        rw [if_neg (by omega)]
        by_cases z : l = (sgN A j).1
        · rw [if_pos z]
          have := sm_all.mp e k (by omega)
          exact beq_eq_false_iff_ne.mp this
        · rw [if_neg z]; exact i3 k l hkl (by omega)
    · rw [show sgN A (j + 1) = sgN A j from if_neg e]; exact ⟨i1, i2, i3⟩
theorem sgT_new {S : SgS} {w0 w : Int} (h : sgP S w0 = -1) : sgT (S.1 + 1, fun k => if k = S.1 then w0 else S.2 k) w = if w = w0 then 2 ^ S.1 else sgT S w := by
  unfold sgT
  rw [sgP_new h]
  by_cases e : w = w0
  · rw [if_pos e, if_pos e, if_neg (by omega), show ((S.1 : Int)).toNat = S.1 by omega]
  · rw [if_neg e, if_neg e]
theorem sgT_lt {S : SgS} (h8 : S.1 ≤ 8) (w : Int) : sgT S w < 256 := by
  have hr := sgP_rg S w
  unfold sgT
  by_cases e : sgP S w = -1
  · rw [if_pos e]; omega
  · rw [if_neg e]
    exact Nat.pow_lt_pow_right (a := 2) (m := (sgP S w).toNat) (n := 8) (by omega) (by omega)
theorem sgT_bit {S : SgS} {w : Int} {i : Nat} : (sgT S w).testBit i = true ↔ sgP S w = (i : Int) := by
  have hr := sgP_rg S w
  unfold sgT
  by_cases e : sgP S w = -1
  · rw [if_pos e, e]
    constructor
    · intro h; simp at h
    · intro h; omega
  · rw [if_neg e, Nat.testBit_two_pow, decide_eq_true_eq]; omega
def sgF (F : Nat → Int → Int32) (r : Int → Int32) (v : Int32) : Nat → Int → Int32 := uR (uR F 239 r) 217 (uC (F 217) 49 v)
theorem sgF_0 {F : Nat → Int → Int32} : sgF F (F 239) (F 217 49) = F := by
  unfold sgF
  rw [uR_self, uC_self, uR_self]
theorem sgF_239 {F : Nat → Int → Int32} {r : Int → Int32} {v : Int32} : sgF F r v 239 = r := (uR_ne (by decide)).trans uR_at
theorem sgF_49 {F : Nat → Int → Int32} {r : Int → Int32} {v : Int32} : sgF F r v 217 49 = v := by unfold sgF; rw [uR_at, uC_at]
theorem sgF_217 {F : Nat → Int → Int32} {r : Int → Int32} {v : Int32} {j : Int} (h : j ≠ 49) : sgF F r v 217 j = F 217 j := by unfold sgF; rw [uR_at, uC_ne h]
theorem sgF_ne {F : Nat → Int → Int32} {r : Int → Int32} {v : Int32} {q : Nat} (h1 : q ≠ 217) (h2 : q ≠ 239) : sgF F r v q = F q := by unfold sgF; rw [uR_ne h1, uR_ne h2]
theorem sgF_w {F : Nat → Int → Int32} {r X : Int → Int32} {v y : Int32} : uR (uR (sgF F r v) 239 X) 217 (uC (sgF F r v 217) 49 y) = sgF F X y := by
  unfold sgF
  rw [uR_at, uC_uC, uR_comm (by decide : (217 : Nat) ≠ 239), uR_uR, uR_uR]
/-- the model holds a sign -/
def SgM (F : Nat → Int → Int32) (S : SgS) : Prop := F 217 49 = zI (S.1 : Int) ∧ ∀ k : Nat, k < S.1 → F 239 (k : Int) = zI (S.2 k)
def sgZ (F : Nat → Int → Int32) (G : Nat → Int → Int64) (K : Int → Int32) (x : Int) : Int := if tfZ F x = 0 then (if fndN (sgB (tnZ G x) (2 * tI (K 2))) (tdM F x) 0 = -1 then 0 else 3) else tfZ F x
theorem sgZ_0 {F : Nat → Int → Int32} {G : Nat → Int → Int64} {K : Int → Int32} {x : Int} (h : sgZ F G K x = 0) : (0 ≤ x ∧ x < 4) ∧ tfZ F x = 0 ∧ (∀ i, i < tdM F x → sgB (tnZ G x) (2 * tI (K 2)) i = false) ∧ SgI (2 * tI (K 2)) (sgN (tnZ G x) (tdM F x)) := by
  unfold sgZ at h
  by_cases c0 : tfZ F x = 0
  · rw [if_pos c0] at h
    have c1 : 0 ≤ x ∧ x < 4 := by
      by_cases z : 0 ≤ x ∧ x < 4
      · exact z
      · rw [show tfZ F x = 1 from if_neg z] at c0; omega
    by_cases c2 : fndN (sgB (tnZ G x) (2 * tI (K 2))) (tdM F x) 0 = -1
    · have := sm_all.mp c2
      exact ⟨c1, c0, this, sg_inv _ this⟩
    · rw [if_neg c2] at h; omega
  · rw [if_neg c0] at h; exact absurd h c0
theorem ct_300 {d : Nat} {E : EnQ} {F : Nat → Int → Int32} {G : Nat → Int → Int64} {S : SgS} {x : Int} (hM : SgM F S) (h8 : S.1 ≤ 8) (hr : ∀ k, k < S.1 → -2147483648 ≤ S.2 k ∧ S.2 k ≤ 2147483647) (hx : -2147483648 ≤ x ∧ x ≤ 2147483647) (hd : 1 ≤ d) : callP MP d 300 [.ref 217, .int (zI x)] (mk E F G) = some (Sum.inl (some (.int (zI (sgP S x)))), mk E F G) := by

  refine into (D := 0) (by omega) hM_300 (rcv_mk rfl (by decide)) rfl fun d hd => ?_
  show runP MP d 300 (0, [some (.ref 217), some (.int (zI x)), none], [], _) = _
  have e49 : tI (F 217 49) = (S.1 : Int) := by rw [hM.1, tI_zI (by omega)]
  rw [q_300_0, li_0]
  refine loopS (σ := Unit) (Post := fun r => r = some (Sum.inl (some (.int (zI (sgP S x)))), mk E F G))
    (fun j _ => runP MP d 300 (2, [some (.ref 217), some (.int (zI x)), some (.int (zI (j : Int)))], [], mk E F G))
    (fun j _ => ∀ i : Nat, i < j → (S.2 i == x) = false) S.1 () (fun i hi => by omega) (fun s hs => ?_) (fun j s hj hs => ?_)
  · show runP MP d 300 _ = _
    have e : sgP S x = -1 := fndN_none (fun i _ hi => hs i (by omega))
    rw [e]
    rw [q_300_2]; (try simp only [↓n_rd, ↓n_al, li_0, li_1, li_2, li_12, li_46, zI_add, zI_sub, zI_mul, zI_neg, ↓Option.bind_some]); simp (disch := (first | assumption | exact tI_rg _ | omega | exact uR_at | exact row_ne hF (by decide) | exact row_ne (row_ne hF (by decide)) (by decide) | exact SnS_18 | exact SnS_30 | exact LdS_44 | exact LdS_46)) only [q_300_0, e49, ↓n_rd, ↓n_al, li_0, li_1, li_2, li_12, li_46, zI_add, zI_sub, zI_mul, zI_neg, ↓Option.bind_some, ↓g12_46, ↓g12_49, ↓al_239, ↓as_239, zIt2, uR_at, uR_ne, uR_uR, uC_uC, uC_at, ↓reduceIte, decide_eq_true_eq, leT, leF, ltT, ltF, eqT, eqF, ne_eq, not_true_eq_false, not_false_eq_true, Bool.false_eq_true, tI_zI]
  · have r1 := hr j hj
    have er : F 239 (j : Int) = zI (S.2 j) := hM.2 j hj
    by_cases g : S.2 j = x
    · left
      show runP MP d 300 _ = _
      have e : sgP S x = (j : Int) := fndN_eq (by omega) (by omega) (beq_iff_eq.mpr g) (fun i _ hi => hs i hi)
      rw [e]
      rw [q_300_2]; (try simp only [↓n_rd, ↓n_al, li_0, li_1, li_2, li_12, li_46, zI_add, zI_sub, zI_mul, zI_neg, ↓Option.bind_some]); simp (disch := (first | assumption | exact tI_rg _ | omega | exact uR_at | exact row_ne hF (by decide) | exact row_ne (row_ne hF (by decide)) (by decide) | exact SnS_18 | exact SnS_30 | exact LdS_44 | exact LdS_46)) only [q_300_0, e49, er, ↓n_rd, ↓n_al, li_0, li_1, li_2, li_12, li_46, zI_add, zI_sub, zI_mul, zI_neg, ↓Option.bind_some, ↓g12_46, ↓g12_49, ↓al_239, ↓as_239, zIt2, uR_at, uR_ne, uR_uR, uC_uC, uC_at, ↓reduceIte, decide_eq_true_eq, leT, leF, ltT, ltF, eqT, eqF, ne_eq, not_true_eq_false, not_false_eq_true, Bool.false_eq_true, tI_zI]
    · right
      refine ⟨(), fun i hi => ?_, ?_⟩
      · by_cases z : i = j
        · rw [z]; exact beq_eq_false_iff_ne.mpr g
        · exact hs i (by omega)
      · show runP MP d 300 _ = runP MP d 300 _
        rw [nsucc]
        rw [q_300_2]; (try simp only [↓n_rd, ↓n_al, li_0, li_1, li_2, li_12, li_46, zI_add, zI_sub, zI_mul, zI_neg, ↓Option.bind_some]); simp (disch := (first | assumption | exact tI_rg _ | omega | exact uR_at | exact row_ne hF (by decide) | exact row_ne (row_ne hF (by decide)) (by decide) | exact SnS_18 | exact SnS_30 | exact LdS_44 | exact LdS_46)) only [q_300_0, e49, er, ↓n_rd, ↓n_al, li_0, li_1, li_2, li_12, li_46, zI_add, zI_sub, zI_mul, zI_neg, ↓Option.bind_some, ↓g12_46, ↓g12_49, ↓al_239, ↓as_239, zIt2, uR_at, uR_ne, uR_uR, uC_uC, uC_at, ↓reduceIte, decide_eq_true_eq, leT, leF, ltT, ltF, eqT, eqF, ne_eq, not_true_eq_false, not_false_eq_true, Bool.false_eq_true, tI_zI]
theorem cc_300 {d : Nat} {E : EnQ} {F : Nat → Int → Int32} {G : Nat → Int → Int64} {kk : Int → HeapP → ResP} {kx : Nat → HeapP → ResP} {S : SgS} {x : Int} (hM : SgM F S) (h8 : S.1 ≤ 8) (hr : ∀ k, k < S.1 → -2147483648 ≤ S.2 k ∧ S.2 k ≤ 2147483647) (hx : -2147483648 ≤ x ∧ x ≤ 2147483647) (hd : 1 ≤ d) : cT (callP MP d 300 [.ref 217, .int (zI x)] (mk E F G)) kk kx = kk (sgP S x) (mk E F G) := cT_ret (by apply ct_300 <;> assumption) (by have := sgP_rg S x; omega)
theorem ct_299 {d : Nat} {E : EnQ} {F : Nat → Int → Int32} {G : Nat → Int → Int64} {K : Int → Int32} (hI : InvK K) (hF : F 218 = K) (h44 : ∀ x, 0 ≤ x → x < 4 → 0 ≤ tI (F 244 x) ∧ tI (F 244 x) ≤ 30) {x : Int} (hx : -2147483648 ≤ x ∧ x ≤ 2147483647) (hd : 4 ≤ d) : ∃ r v, callP MP d 299 [.ref 217, .int (zI x)] (mk E F G) = some (Sum.inl (some (.int (zI (sgZ F G K x)))), mk E (sgF F r v) G) ∧ (sgZ F G K x = 0 → SgM (sgF F r v) (sgN (tnZ G x) (tdM F x))) := by
  have hb2 := hI.1.2.2.1
  by_cases c0 : tfZ F x = 0
  · have c1 : 0 ≤ x ∧ x < 4 := by
      by_cases z : 0 ≤ x ∧ x < 4
      · exact z
      · rw [show tfZ F x = 1 from if_neg z] at c0; omega
    have h4 := h44 x c1.1 c1.2
    have hm30 : tdM F x ≤ 30 := by unfold tdM; omega
    have em : tI (F 244 x) = tdM F x := by unfold tdM; omega
    obtain ⟨e, rfl⟩ : ∃ e, d = e + 1 := ⟨d - 1, by omega⟩
    have hin : callP MP (e + 1) 299 [.ref 217, .int (zI x)] (mk E F G) = runP MP e 299 (0, [some (.ref 217), some (.int (zI x)), none, none, none, none], [], mk E F G) := into_eq (by omega) hM_299 (rcv_mk rfl (by decide)) rfl
    have h0 : runP MP e 299 (0, [some (.ref 217), some (.int (zI x)), none, none, none, none], [], mk E F G) = runP MP e 299 (19, [some (.ref 217), some (.int (zI x)), some (.int (zI 0)), some (.int (zI 0)), none, none], [], mk E (sgF F (F 239) (zI 0)) G) := by
      have : sgF F (F 239) (zI 0) = uR F 217 (uC (F 217) 49 (zI 0)) := by unfold sgF; rw [uR_self]
      rw [this]
      rw [q_299_0]; (try simp only [↓n_rd, ↓n_al, ↓n_alJ, ↓n_cI, li_0, li_1, li_2, li_3, li_8, li_12, li_30, li_46, lj_0, lj_1, lj_2, lj_3, lj_12, lj_30, zJ_add, zJ_sub, zJ_mul, zJ_neg, zJ_l2i, zI_add, zI_sub, zI_mul, zI_neg, ↓Option.bind_some]); simp (disch := (first | assumption | exact tI_rg _ | omega | exact uR_at | exact row_ne hF (by decide) | exact row_ne (row_ne hF (by decide)) (by decide) | exact SnS_18 | exact SnS_30 | exact LdS_44 | exact LdS_46)) only [q_299_111, ↓cc_235, c0, ↓n_rd, ↓n_al, ↓n_alJ, ↓n_cI, li_0, li_1, li_2, li_3, li_8, li_12, li_30, li_46, lj_0, lj_1, lj_2, lj_3, lj_12, lj_30, zJ_add, zJ_sub, zJ_mul, zJ_neg, zJ_l2i, tJ_zJ, zI_add, zI_sub, zI_mul, zI_neg, ↓Option.bind_some, ↓g12_0, ↓g12_46, ↓g12_49, ↓g12_54, ↓g12_55, ↓p12_49, ↓al_218, ↓as_218, ↓al_239, ↓as_239, ↓al_244, ↓as_244, ↓al_245, ↓as_245, zIt2, uR_at, uR_ne, uR_uR, uC_uC, uC_at, ↓reduceIte, decide_eq_true_eq, leT, leF, ltT, ltF, eqT, eqF, ne_eq, not_true_eq_false, not_false_eq_true, Bool.false_eq_true, tI_zI]
    rw [hin, h0]
    refine loopS (σ := ((Int → Int32) × Int32) × Option Value) (Post := fun z => ∃ r v, z = some (Sum.inl (some (.int (zI (sgZ F G K x)))), mk E (sgF F r v) G) ∧ (sgZ F G K x = 0 → SgM (sgF F r v) (sgN (tnZ G x) (tdM F x))))
      (fun j s => runP MP e 299 (19, [some (.ref 217), some (.int (zI x)), some (.int (zI 0)), some (.int (zI (j : Int))), s.2, none], [], mk E (sgF F s.1.1 s.1.2) G))
      (fun j s => SgM (sgF F s.1.1 s.1.2) (sgN (tnZ G x) j) ∧ ∀ i, i < j → sgB (tnZ G x) (2 * tI (K 2)) i = false) (tdM F x) ((F 239, zI 0), none) ⟨⟨sgF_49, fun k hk => absurd hk (Nat.not_lt_zero _)⟩, fun i hi => by omega⟩ (fun s hs => ?_) (fun j s hj hs => ?_)
    · have ez : sgZ F G K x = 0 := by unfold sgZ; rw [if_pos c0, if_pos (sm_all.mpr hs.2)]
      refine ⟨s.1.1, s.1.2, ?_, fun _ => hs.1⟩
      rw [ez]
      have e44 : tI (sgF F s.1.1 s.1.2 244 x) = tdM F x := by rw [sgF_ne (by decide) (by decide)]; exact em
      show runP MP e 299 (19, [some (.ref 217), some (.int (zI x)), some (.int (zI 0)), some (.int (zI (tdM F x : Int))), s.2, none], [], mk E (sgF F s.1.1 s.1.2) G) = _
      rw [q_299_19]; (try simp only [↓n_rd, ↓n_al, ↓n_alJ, ↓n_cI, li_0, li_1, li_2, li_3, li_8, li_12, li_30, li_46, lj_0, lj_1, lj_2, lj_3, lj_12, lj_30, zJ_add, zJ_sub, zJ_mul, zJ_neg, zJ_l2i, zI_add, zI_sub, zI_mul, zI_neg, ↓Option.bind_some]); simp (disch := (first | assumption | exact tI_rg _ | omega | exact uR_at | exact row_ne hF (by decide) | exact row_ne (row_ne hF (by decide)) (by decide) | exact SnS_18 | exact SnS_30 | exact LdS_44 | exact LdS_46)) only [q_299_0, q_299_111, e44, ↓n_rd, ↓n_al, ↓n_alJ, ↓n_cI, li_0, li_1, li_2, li_3, li_8, li_12, li_30, li_46, lj_0, lj_1, lj_2, lj_3, lj_12, lj_30, zJ_add, zJ_sub, zJ_mul, zJ_neg, zJ_l2i, tJ_zJ, zI_add, zI_sub, zI_mul, zI_neg, ↓Option.bind_some, ↓g12_0, ↓g12_46, ↓g12_49, ↓g12_54, ↓g12_55, ↓p12_49, ↓al_218, ↓as_218, ↓al_239, ↓as_239, ↓al_244, ↓as_244, ↓al_245, ↓as_245, zIt2, uR_at, uR_ne, uR_uR, uC_uC, uC_at, ↓reduceIte, decide_eq_true_eq, leT, leF, ltT, ltF, eqT, eqF, ne_eq, not_true_eq_false, not_false_eq_true, Bool.false_eq_true, tI_zI]
    · have e44 : tI (sgF F s.1.1 s.1.2 244 x) = tdM F x := by rw [sgF_ne (by decide) (by decide)]; exact em
      have eK : sgF F s.1.1 s.1.2 218 = K := by rw [sgF_ne (by decide) (by decide)]; exact hF
      obtain ⟨i1, i2, i3⟩ := sg_inv j hs.2
      have e49 : tI (sgF F s.1.1 s.1.2 217 49) = ((sgN (tnZ G x) j).1 : Int) := by rw [hs.1.1, tI_zI (by omega)]
      have hnr := tJ_rg (G 245 (30 * x + (j : Int)))
      have hnr2 : -9223372036854775808 ≤ tnZ G x j ∧ tnZ G x j ≤ 9223372036854775807 := hnr
      have ld : ∀ {F' : Nat → Int → Int32} {f : Int → ResP}, (alJT (mk E F' G) 245 (zI (30 * x + (j : Int)))).bind f = f (tnZ G x j) := fun {F' f} => alJ_b (E := E) (a := 245) (z := 0) (n := 120) rfl (by omega) (by decide)
      by_cases g1 : 0 ≤ tnZ G x j ∧ tnZ G x j < 2 * tI (K 2)
      · have c300 : ∀ {kk : Int → HeapP → ResP} {kx : Nat → HeapP → ResP}, cT (callP MP e 300 [.ref 217, .int (zI (tnZ G x j))] (mk E (sgF F s.1.1 s.1.2) G)) kk kx = kk (sgP (sgN (tnZ G x) j) (tnZ G x j)) (mk E (sgF F s.1.1 s.1.2) G) := fun {kk kx} => cc_300 hs.1 i1 (fun k hk => by have := i2 k hk; omega) (by omega) (by omega)
        have hpr := sgP_rg (sgN (tnZ G x) j) (tnZ G x j)
        have g1b : 0 ≤ tnZ G x j ∧ tnZ G x j ≤ 2 * tI (K 2) - 1 := by omega
        by_cases g2 : sgP (sgN (tnZ G x) j) (tnZ G x j) = -1
        · by_cases g3 : (sgN (tnZ G x) j).1 = 8
          · left
            have hbad : sgB (tnZ G x) (2 * tI (K 2)) j = true := by unfold sgB; rw [decide_eq_true g2, decide_eq_true g3, Bool.and_self, Bool.or_true]
            have ez : sgZ F G K x = 3 := by unfold sgZ; rw [if_pos c0, if_neg (fnd_some hj hbad)]
            refine ⟨s.1.1, s.1.2, ?_, fun z => by omega⟩
            rw [ez]
            show runP MP e 299 _ = _
            rw [q_299_19]; (try simp only [↓n_rd, ↓n_al, ↓n_alJ, ↓n_cI, li_0, li_1, li_2, li_3, li_8, li_12, li_30, li_46, lj_0, lj_1, lj_2, lj_3, lj_12, lj_30, zJ_add, zJ_sub, zJ_mul, zJ_neg, zJ_l2i, zI_add, zI_sub, zI_mul, zI_neg, ↓Option.bind_some]); simp (disch := (first | assumption | exact tI_rg _ | omega | exact uR_at | exact row_ne hF (by decide) | exact row_ne (row_ne hF (by decide)) (by decide) | exact SnS_18 | exact SnS_30 | exact LdS_44 | exact LdS_46)) only [q_299_0, q_299_111, e44, ↓ld, eK, ↓cc_188t, zI_i2l, ↓c300, g2, e49, g3, ↓n_rd, ↓n_al, ↓n_alJ, ↓n_cI, li_0, li_1, li_2, li_3, li_8, li_12, li_30, li_46, lj_0, lj_1, lj_2, lj_3, lj_12, lj_30, zJ_add, zJ_sub, zJ_mul, zJ_neg, zJ_l2i, tJ_zJ, zI_add, zI_sub, zI_mul, zI_neg, ↓Option.bind_some, ↓g12_0, ↓g12_46, ↓g12_49, ↓g12_54, ↓g12_55, ↓p12_49, ↓al_218, ↓as_218, ↓al_239, ↓as_239, ↓al_244, ↓as_244, ↓al_245, ↓as_245, zIt2, uR_at, uR_ne, uR_uR, uC_uC, uC_at, ↓reduceIte, decide_eq_true_eq, leT, leF, ltT, ltF, eqT, eqF, ne_eq, not_true_eq_false, not_false_eq_true, Bool.false_eq_true, tI_zI]
          · right
            have en : sgN (tnZ G x) (j + 1) = ((sgN (tnZ G x) j).1 + 1, fun k => if k = (sgN (tnZ G x) j).1 then tnZ G x j else (sgN (tnZ G x) j).2 k) := if_pos g2
            have ok : sgB (tnZ G x) (2 * tI (K 2)) j = false := by unfold sgB; rw [decide_eq_false (fun z => z g1), decide_eq_false g3, Bool.and_false]; rfl
            refine ⟨((uC s.1.1 ((sgN (tnZ G x) j).1 : Int) (zI (tnZ G x j)), zI (((sgN (tnZ G x) j).1 : Int) + 1)), some (.long (zJ (tnZ G x j)))), ⟨?_, fun i hi => ?_⟩, ?_⟩
            · rw [en]
              refine ⟨by rw [sgF_49]; rfl, fun k hk => ?_⟩
              have hk : k < (sgN (tnZ G x) j).1 + 1 := hk
              rw [sgF_239]
              show uC s.1.1 ((sgN (tnZ G x) j).1 : Int) (zI (tnZ G x j)) (k : Int) = zI (if k = (sgN (tnZ G x) j).1 then tnZ G x j else (sgN (tnZ G x) j).2 k)
              by_cases z : k = (sgN (tnZ G x) j).1
              · rw [if_pos z, z, uC_at]
              · rw [if_neg z, uC_ne (by omega)]
                have := hs.1.2 k (by omega)
                rw [sgF_239] at this; exact this
            · by_cases z : i = j
              · rw [z]; exact ok
              · exact hs.2 i (by omega)
            · show runP MP e 299 _ = runP MP e 299 (19, [some (.ref 217), some (.int (zI x)), some (.int (zI 0)), some (.int (zI ((j + 1 : Nat) : Int))), some (.long (zJ (tnZ G x j))), none], [], mk E (sgF F (uC s.1.1 ((sgN (tnZ G x) j).1 : Int) (zI (tnZ G x j))) (zI (((sgN (tnZ G x) j).1 : Int) + 1))) G)
              rw [nsucc]
              rw [q_299_19]; (try simp only [↓n_rd, ↓n_al, ↓n_alJ, ↓n_cI, li_0, li_1, li_2, li_3, li_8, li_12, li_30, li_46, lj_0, lj_1, lj_2, lj_3, lj_12, lj_30, zJ_add, zJ_sub, zJ_mul, zJ_neg, zJ_l2i, zI_add, zI_sub, zI_mul, zI_neg, ↓Option.bind_some]); simp (disch := (first | assumption | exact tI_rg _ | omega | exact uR_at | exact row_ne hF (by decide) | exact row_ne (row_ne hF (by decide)) (by decide) | exact SnS_18 | exact SnS_30 | exact LdS_44 | exact LdS_46)) only [q_299_0, q_299_111, e44, ↓ld, eK, ↓cc_188t, zI_i2l, ↓c300, g2, e49, ↓n_rd, ↓n_al, ↓n_alJ, ↓n_cI, li_0, li_1, li_2, li_3, li_8, li_12, li_30, li_46, lj_0, lj_1, lj_2, lj_3, lj_12, lj_30, zJ_add, zJ_sub, zJ_mul, zJ_neg, zJ_l2i, tJ_zJ, zI_add, zI_sub, zI_mul, zI_neg, ↓Option.bind_some, ↓g12_0, ↓g12_46, ↓g12_49, ↓g12_54, ↓g12_55, ↓p12_49, ↓al_218, ↓as_218, ↓al_239, ↓as_239, ↓al_244, ↓as_244, ↓al_245, ↓as_245, zIt2, uR_at, uR_ne, uR_uR, uC_uC, uC_at, ↓reduceIte, decide_eq_true_eq, leT, leF, ltT, ltF, eqT, eqF, ne_eq, not_true_eq_false, not_false_eq_true, Bool.false_eq_true, tI_zI]
              rw [sgF_239, sgF_w]
        · right
          have en : sgN (tnZ G x) (j + 1) = sgN (tnZ G x) j := if_neg g2
          have ok : sgB (tnZ G x) (2 * tI (K 2)) j = false := by unfold sgB; rw [decide_eq_false (fun z => z g1), decide_eq_false g2, Bool.false_and]; rfl
          refine ⟨(s.1, some (.long (zJ (tnZ G x j)))), ⟨by rw [en]; exact hs.1, fun i hi => ?_⟩, ?_⟩
          · by_cases z : i = j
            · rw [z]; exact ok
            · exact hs.2 i (by omega)
          · show runP MP e 299 _ = runP MP e 299 _
            rw [nsucc]
            rw [q_299_19]; (try simp only [↓n_rd, ↓n_al, ↓n_alJ, ↓n_cI, li_0, li_1, li_2, li_3, li_8, li_12, li_30, li_46, lj_0, lj_1, lj_2, lj_3, lj_12, lj_30, zJ_add, zJ_sub, zJ_mul, zJ_neg, zJ_l2i, zI_add, zI_sub, zI_mul, zI_neg, ↓Option.bind_some]); simp (disch := (first | assumption | exact tI_rg _ | omega | exact uR_at | exact row_ne hF (by decide) | exact row_ne (row_ne hF (by decide)) (by decide) | exact SnS_18 | exact SnS_30 | exact LdS_44 | exact LdS_46)) only [q_299_0, q_299_111, e44, ↓ld, eK, ↓cc_188t, zI_i2l, ↓c300, ↓n_rd, ↓n_al, ↓n_alJ, ↓n_cI, li_0, li_1, li_2, li_3, li_8, li_12, li_30, li_46, lj_0, lj_1, lj_2, lj_3, lj_12, lj_30, zJ_add, zJ_sub, zJ_mul, zJ_neg, zJ_l2i, tJ_zJ, zI_add, zI_sub, zI_mul, zI_neg, ↓Option.bind_some, ↓g12_0, ↓g12_46, ↓g12_49, ↓g12_54, ↓g12_55, ↓p12_49, ↓al_218, ↓as_218, ↓al_239, ↓as_239, ↓al_244, ↓as_244, ↓al_245, ↓as_245, zIt2, uR_at, uR_ne, uR_uR, uC_uC, uC_at, ↓reduceIte, decide_eq_true_eq, leT, leF, ltT, ltF, eqT, eqF, ne_eq, not_true_eq_false, not_false_eq_true, Bool.false_eq_true, tI_zI]
      · left
        have hbad : sgB (tnZ G x) (2 * tI (K 2)) j = true := by unfold sgB; rw [decide_eq_true g1, Bool.true_or]
        have ez : sgZ F G K x = 3 := by unfold sgZ; rw [if_pos c0, if_neg (fnd_some hj hbad)]
        have g1b : ¬ (0 ≤ tnZ G x j ∧ tnZ G x j ≤ 2 * tI (K 2) - 1) := by omega
        refine ⟨s.1.1, s.1.2, ?_, fun z => by omega⟩
        rw [ez]
        show runP MP e 299 _ = _
        rw [q_299_19]; (try simp only [↓n_rd, ↓n_al, ↓n_alJ, ↓n_cI, li_0, li_1, li_2, li_3, li_8, li_12, li_30, li_46, lj_0, lj_1, lj_2, lj_3, lj_12, lj_30, zJ_add, zJ_sub, zJ_mul, zJ_neg, zJ_l2i, zI_add, zI_sub, zI_mul, zI_neg, ↓Option.bind_some]); simp (disch := (first | assumption | exact tI_rg _ | omega | exact uR_at | exact row_ne hF (by decide) | exact row_ne (row_ne hF (by decide)) (by decide) | exact SnS_18 | exact SnS_30 | exact LdS_44 | exact LdS_46)) only [q_299_0, q_299_111, e44, ↓ld, eK, ↓cc_188f, zI_i2l, ↓n_rd, ↓n_al, ↓n_alJ, ↓n_cI, li_0, li_1, li_2, li_3, li_8, li_12, li_30, li_46, lj_0, lj_1, lj_2, lj_3, lj_12, lj_30, zJ_add, zJ_sub, zJ_mul, zJ_neg, zJ_l2i, tJ_zJ, zI_add, zI_sub, zI_mul, zI_neg, ↓Option.bind_some, ↓g12_0, ↓g12_46, ↓g12_49, ↓g12_54, ↓g12_55, ↓p12_49, ↓al_218, ↓as_218, ↓al_239, ↓as_239, ↓al_244, ↓as_244, ↓al_245, ↓as_245, zIt2, uR_at, uR_ne, uR_uR, uC_uC, uC_at, ↓reduceIte, decide_eq_true_eq, leT, leF, ltT, ltF, eqT, eqF, ne_eq, not_true_eq_false, not_false_eq_true, Bool.false_eq_true, tI_zI]
  · have ez : sgZ F G K x = tfZ F x := if_neg c0
    have htr : tfZ F x = 1 ∨ tfZ F x = 2 := by revert c0; unfold tfZ; split <;> (try split) <;> omega
    refine ⟨F 239, F 217 49, ?_, fun z => by omega⟩
    rw [ez, sgF_0]
    refine into (D := 3) (by omega) hM_299 (rcv_mk rfl (by decide)) rfl fun d hd => ?_
    show runP MP d 299 (0, [some (.ref 217), some (.int (zI x)), none, none, none, none], [], _) = _
    rw [q_299_0]; (try simp only [↓n_rd, ↓n_al, ↓n_alJ, ↓n_cI, li_0, li_1, li_2, li_3, li_8, li_12, li_30, li_46, lj_0, lj_1, lj_2, lj_3, lj_12, lj_30, zJ_add, zJ_sub, zJ_mul, zJ_neg, zJ_l2i, zI_add, zI_sub, zI_mul, zI_neg, ↓Option.bind_some]); simp (disch := (first | assumption | exact tI_rg _ | omega | exact uR_at | exact row_ne hF (by decide) | exact row_ne (row_ne hF (by decide)) (by decide) | exact SnS_18 | exact SnS_30 | exact LdS_44 | exact LdS_46)) only [q_299_111, ↓cc_235, ↓n_rd, ↓n_al, ↓n_alJ, ↓n_cI, li_0, li_1, li_2, li_3, li_8, li_12, li_30, li_46, lj_0, lj_1, lj_2, lj_3, lj_12, lj_30, zJ_add, zJ_sub, zJ_mul, zJ_neg, zJ_l2i, tJ_zJ, zI_add, zI_sub, zI_mul, zI_neg, ↓Option.bind_some, ↓g12_0, ↓g12_46, ↓g12_49, ↓g12_54, ↓g12_55, ↓p12_49, ↓al_218, ↓as_218, ↓al_239, ↓as_239, ↓al_244, ↓as_244, ↓al_245, ↓as_245, zIt2, uR_at, uR_ne, uR_uR, uC_uC, uC_at, ↓reduceIte, decide_eq_true_eq, leT, leF, ltT, ltF, eqT, eqF, ne_eq, not_true_eq_false, not_false_eq_true, Bool.false_eq_true, tI_zI]
end S94zt
