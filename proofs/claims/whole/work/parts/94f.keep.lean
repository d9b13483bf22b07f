/-! what a call leaves alone; perform, judge, behind -/
section S94f
set_option linter.unusedVariables false
set_option linter.unusedSimpArgs false
/-- rows that calls of the class may leave with anything -/
def scrC (q : Nat) : Prop := q = 30 ∨ (37 ≤ q ∧ q ≤ 41) ∨ q = 45 ∨ (47 ≤ q ∧ q ≤ 48) ∨ (50 ≤ q ∧ q ≤ 170) ∨ q = 172 ∨ (174 ≤ q ∧ q ≤ 178) ∨ (185 ≤ q ∧ q ≤ 192) ∨ (199 ≤ q ∧ q ≤ 208)
def KeepC (E : EnQ) (F : Nat → Int → Int32) (G : Nat → Int → Int64) (E1 : EnQ) (F1 : Nat → Int → Int32) (G1 : Nat → Int → Int64) : Prop :=
  (∀ q, q ≠ 16 → ¬ scrC q → F1 q = F q) ∧ (∀ j, j ≠ 18 → j ≠ 19 → F1 16 j = F 16 j) ∧ (∀ q, q ≠ 189 → q ≠ 190 → q ≠ 206 → G1 q = G q) ∧
  (∀ q, q ≠ 30 → q ≠ 178 → q ≠ 192 → E1.2.2.2 q = E.2.2.2 q) ∧ E1.2.2.1 = E.2.2.1 ∧ (E.1 ≤ E1.1 ∧ E1.1 ≤ E.1 + 1) ∧ (E.2.1 ≤ E1.2.1 ∧ E1.2.1 ≤ E.2.1 + 6)
theorem KeepC_rf {E : EnQ} {F : Nat → Int → Int32} {G : Nat → Int → Int64} : KeepC E F G E F G := ⟨fun _ _ _ => rfl, fun _ _ _ => rfl, fun _ _ _ _ => rfl, fun _ _ _ _ => rfl, rfl, ⟨Nat.le_refl _, by omega⟩, ⟨Nat.le_refl _, by omega⟩⟩
theorem KeepC_j {E : EnQ} {F : Nat → Int → Int32} {G : Nat → Int → Int64} : KeepC E F G (jE E) F G := ⟨fun _ _ _ => rfl, fun _ _ _ => rfl, fun _ _ _ _ => rfl, fun _ _ _ _ => rfl, rfl, ⟨by show E.1 ≤ E.1 + 1; omega, Nat.le_refl _⟩, ⟨by show E.2.1 ≤ E.2.1 + 6; omega, Nat.le_refl _⟩⟩
theorem KeepC_ej {E E1 : EnQ} {F : Nat → Int → Int32} {G : Nat → Int → Int64} (h : E1 = E ∨ E1 = jE E) : KeepC E F G E1 F G := by
  rcases h with rfl | rfl
  · exact KeepC_rf
  · exact KeepC_j
/-- in the same room, then one throw at most -/
def KeepD (E : EnQ) (F : Nat → Int → Int32) (G : Nat → Int → Int64) (E1 : EnQ) (F1 : Nat → Int → Int32) (G1 : Nat → Int → Int64) : Prop :=
  (∀ q, q ≠ 16 → ¬ scrC q → F1 q = F q) ∧ (∀ j, j ≠ 18 → j ≠ 19 → F1 16 j = F 16 j) ∧ (∀ q, q ≠ 189 → q ≠ 190 → q ≠ 206 → G1 q = G q) ∧
  (∀ q, q ≠ 30 → q ≠ 178 → q ≠ 192 → E1.2.2.2 q = E.2.2.2 q) ∧ E1.2.2.1 = E.2.2.1 ∧ E1.1 = E.1 ∧ E1.2.1 = E.2.1
theorem KeepD_rf {E : EnQ} {F : Nat → Int → Int32} {G : Nat → Int → Int64} : KeepD E F G E F G := ⟨fun _ _ _ => rfl, fun _ _ _ => rfl, fun _ _ _ _ => rfl, fun _ _ _ _ => rfl, rfl, rfl, rfl⟩
theorem KeepD.tr {E E1 E2 : EnQ} {F F1 F2 : Nat → Int → Int32} {G G1 G2 : Nat → Int → Int64} (h : KeepD E F G E1 F1 G1) (k : KeepD E1 F1 G1 E2 F2 G2) : KeepD E F G E2 F2 G2 := by
  obtain ⟨a1, a2, a3, a4, a5, a6, a7⟩ := h
  obtain ⟨b1, b2, b3, b4, b5, b6, b7⟩ := k
  exact ⟨fun q h1 h2 => (b1 q h1 h2).trans (a1 q h1 h2), fun j h1 h2 => (b2 j h1 h2).trans (a2 j h1 h2), fun q h1 h2 h3 => (b3 q h1 h2 h3).trans (a3 q h1 h2 h3), fun q h1 h2 h3 => (b4 q h1 h2 h3).trans (a4 q h1 h2 h3), b5.trans a5, b6.trans a6, b7.trans a7⟩
theorem KeepD.c {E E1 : EnQ} {F F1 : Nat → Int → Int32} {G G1 : Nat → Int → Int64} (h : KeepD E F G E1 F1 G1) : KeepC E F G E1 F1 G1 := by
  obtain ⟨a1, a2, a3, a4, a5, a6, a7⟩ := h
  exact ⟨a1, a2, a3, a4, a5, ⟨by omega, by omega⟩, ⟨by omega, by omega⟩⟩
theorem KeepD_F {E : EnQ} {F : Nat → Int → Int32} {G : Nat → Int → Int64} {q : Nat} {r : Int → Int32} (h : scrC q) : KeepD E F G E (uR F q r) G := by
  refine ⟨fun b _ h2 => uR_ne (fun e => h2 (by rw [e]; exact h)), fun j _ _ => ?_, fun _ _ _ _ => rfl, fun _ _ _ _ => rfl, rfl, rfl, rfl⟩
  rw [uR_ne (fun e => by unfold scrC at h; omega)]
theorem KeepD_G {E : EnQ} {F : Nat → Int → Int32} {G : Nat → Int → Int64} {q : Nat} {r : Int → Int64} (h : q = 189 ∨ q = 190 ∨ q = 206) : KeepD E F G E F (uR G q r) :=
  ⟨fun _ _ _ => rfl, fun _ _ _ => rfl, fun b h1 h2 h3 => uR_ne (by omega), fun _ _ _ _ => rfl, rfl, rfl, rfl⟩
theorem KeepD_E {E : EnQ} {F : Nat → Int → Int32} {G : Nat → Int → Int64} {q : Nat} {k : Int} {x : Nat} (h : q = 30 ∨ q = 178 ∨ q = 192) : KeepD E F G (uE E q k x) F G :=
  ⟨fun _ _ _ => rfl, fun _ _ _ => rfl, fun _ _ _ _ => rfl, fun b h1 h2 h3 => (uR_ne (by omega) : uR E.2.2.2 q _ b = _), rfl, rfl, rfl⟩
theorem KeepD_16 {E : EnQ} {F : Nat → Int → Int32} {G : Nat → Int → Int64} {k : Int} {x : Int32} (h : k = 18 ∨ k = 19) : KeepD E F G E (uR F 16 (uC (F 16) k x)) G :=
  ⟨fun b h1 _ => uR_ne h1, fun j h1 h2 => by rw [uR_at, uC_ne (by omega)], fun _ _ _ _ => rfl, fun _ _ _ _ => rfl, rfl, rfl, rfl⟩
theorem KeepD_oth {E : EnQ} {F F1 : Nat → Int → Int32} {G : Nat → Int → Int64} (h : OthS 30 F F1) : KeepD E F G E F1 G := by
  refine ⟨fun q h1 h2 => ?_, fun j _ _ => ?_, fun _ _ _ _ => rfl, fun _ _ _ _ => rfl, rfl, rfl, rfl⟩
  · unfold scrC at h2
    exact h q (by omega) (by omega) (by omega) (by omega) (by omega) (by omega)
  · rw [h 16 (by omega) (by omega) (by omega) (by omega) (by omega) (by omega)]
theorem KeepD_t {E : EnQ} {F : Nat → Int → Int32} {G : Nat → Int → Int64} : KeepD E F G (tE E) (tkF F 30 18) G := KeepD.tr (KeepD_E (q := 30) (Or.inl rfl)) (KeepD_oth OthS_tk)
/-- the state stands still -/
theorem SnO_keep {E E1 : EnQ} {F F1 : Nat → Int → Int32} {G G1 : Nat → Int → Int64} {K : Int → Int32} (hO : SnO E F 18 K) (hD : SepP E 18) (h : KeepC E F G E1 F1 G1) : SnO E1 F1 18 K ∧ SepP E1 18 := by
  obtain ⟨a1, a2, a3, a4, a5, a6, a7⟩ := h
  obtain ⟨hS, hP, hR, hN, hI⟩ := hO
  obtain ⟨hD1, hD2⟩ := hD
  have er : rfQ E1 18 0 = rfQ E 18 0 := by unfold rfQ; rw [a4 18 (by omega) (by omega) (by omega)]
  have es : ∀ q, shx E1 q = shx E q := fun q => by unfold shx; rw [a5]
  refine ⟨⟨SnS_18, ?_, ?_, ?_, hI⟩, hD1, by rw [er]; exact hD2⟩
  · rw [er]; unfold PlS at hP ⊢; simp only [es]; exact hP
  · rw [er]; exact PlR_move hI (fun b h1 h2 => a1 b (by omega) (by unfold scrC; omega)) (fun j _ => rfl) hR
  · unfold SnR
    rw [a1 18 (by omega) (by unfold scrC; omega), a1 (18 + 7) (by omega) (by unfold scrC; omega), a1 (18 + 8) (by omega) (by unfold scrC; omega), a1 (18 + 9) (by omega) (by unfold scrC; omega), a1 (18 + 10) (by omega) (by unfold scrC; omega), a1 (18 + 11) (by omega) (by unfold scrC; omega)]
    exact hN
/-- what a call of the model leaves alone -/
def KeepM (F : Nat → Int → Int32) (G : Nat → Int → Int64) (F1 : Nat → Int → Int32) (G1 : Nat → Int → Int64) : Prop :=
  (∀ q, q ≠ 217 → q ≠ 219 → q ≠ 220 → ¬ (224 ≤ q ∧ q ≤ 242) → F1 q = F q) ∧ (∀ j, j = 7 ∨ j = 15 ∨ j = 16 ∨ j = 18 → F1 217 j = F 217 j) ∧ (∀ q, q ≠ 217 → G1 q = G q)
theorem KeepM_rf {F : Nat → Int → Int32} {G : Nat → Int → Int64} : KeepM F G F G := ⟨fun _ _ _ _ _ => rfl, fun _ _ => rfl, fun _ _ => rfl⟩
theorem KeepM.tr {F F1 F2 : Nat → Int → Int32} {G G1 G2 : Nat → Int → Int64} (h : KeepM F G F1 G1) (k : KeepM F1 G1 F2 G2) : KeepM F G F2 G2 :=
  ⟨fun q h1 h2 h3 h4 => (k.1 q h1 h2 h3 h4).trans (h.1 q h1 h2 h3 h4), fun j hj => (k.2.1 j hj).trans (h.2.1 j hj), fun q hq => (k.2.2 q hq).trans (h.2.2 q hq)⟩
theorem KeepM_217 {F : Nat → Int → Int32} {G : Nat → Int → Int64} {k : Int} {x : Int32} (h : ¬ (k = 7 ∨ k = 15 ∨ k = 16 ∨ k = 18)) : KeepM F G (uR F 217 (uC (F 217) k x)) G :=
  ⟨fun q h1 _ _ _ => uR_ne h1, fun j hj => by rw [uR_at, uC_ne (by omega)], fun _ _ => rfl⟩
theorem KeepM_row {F : Nat → Int → Int32} {G : Nat → Int → Int64} {q : Nat} {r : Int → Int32} (h : q = 219 ∨ q = 220 ∨ (224 ≤ q ∧ q ≤ 242)) : KeepM F G (uR F q r) G :=
  ⟨fun b h1 h2 h3 h4 => uR_ne (by omega), fun j _ => by rw [uR_ne (by omega)], fun _ _ => rfl⟩
theorem KeepM_G {F : Nat → Int → Int32} {G : Nat → Int → Int64} {r : Int → Int64} : KeepM F G F (uR G 217 r) := ⟨fun _ _ _ _ _ => rfl, fun _ _ => rfl, fun q hq => uR_ne hq⟩
/-- outside the row's places nothing changes -/
theorem go_out {K : Int → Int32} (hI : InvK K) {c : Bool} {x p j : Int} (hw : whyZ K x p = 0) (hj : j < 0 ∨ 408 ≤ j) : goK c K x p j = K j := by
  obtain ⟨h1, h2, h3⟩ := why0 hw
  obtain ⟨hv, hf, ht⟩ := wayZ_ends hI h3
  obtain ⟨p1, p2, p3⟩ := pre_inv hI hv h1
  obtain ⟨b0, b1, b2, b3, b4, b5, b6, b7, b8, b9⟩ := hI.1
  rcases hj with hj | hj
  · exact go_lo hI (by omega) hw (by omega)
  · have q5 := p1.1.2.2.2.2.2.1.1
    have q6 : tI (fulK (remK K (wayZ K (tI (K (38 + 2 * x))) p) x) 5) < 60 := by omega
    have er : remK K (wayZ K (tI (K (38 + 2 * x))) p) x j = K j := by
      unfold remK
      by_cases e : tI (K 169) = tI (K 168)
      · rw [if_pos e]; show (if _ then _ else _) = _; rw [if_neg (by omega), if_neg (by omega), if_neg (by omega)]
      · rw [if_neg e]; show (if _ then _ else _) = _; rw [if_neg (by omega), if_neg (by omega), if_neg (by omega)]
    have e : stpK K x p j = K j := (admK_lo (by omega) (by omega) q5 (by omega)).trans ((pre_hi (by omega)).trans er)
    unfold goK
    by_cases g : c = false ∧ 0 < tI (K 166) ∧ stepsZ (stpK K x p) % tI (K 166) = 0
    · rw [if_pos g, losK_lo (by omega) (by omega)]; exact e
    · rw [if_neg g]; exact e
theorem tolS_out {K : Int → Int32} (hI : InvK K) (hst : stepsZ K < 1999900000) {a : Int → Int} {j : Int} (hj : j < 0 ∨ 408 ≤ j) : ∀ n : Nat, n ≤ 30 → (∀ i, i < n → whyT (tolS K a i) (a i) = 0) → tolS K a n j = K j := by
  intro n
  induction n with
  | zero => intro _ _; rfl
  | succ n ih =>
    intro hn h
    obtain ⟨i1, i2⟩ := tolS_inv hI hst (a := a) n (by omega) (fun i hi => h i (by omega))
    exact (go_out i1 (whyT0 (h n (by omega))).2 hj).trans (ih (by omega) (fun i hi => h i (by omega)))
theorem tolK_out {K : Int → Int32} (hI : InvK K) (hst : stepsZ K < 1999900000) {a : Int → Int} {m : Nat} (hm : m ≤ 30) {j : Int} (hj : j < 0 ∨ 408 ≤ j) : tolK K a m j = K j := by
  have hr := tolC_rg K a m
  exact tolS_out hI hst hj _ (by omega) tolC_ok
theorem cp_back {K L s : Int → Int32} (h : ∀ j, (j < 0 ∨ 408 ≤ j) → L j = K j) : cpK (cpK K s) L = K := by
  funext j
  unfold cpK
  by_cases e : 0 ≤ j ∧ j < 408
  · rw [if_pos e, if_pos e]
  · rw [if_neg e]; exact h j (by omega)
end S94f
