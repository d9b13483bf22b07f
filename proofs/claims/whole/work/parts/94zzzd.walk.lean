/-! walks in order -/
section S94zzzd
set_option linter.unusedVariables false
set_option linter.unusedSimpArgs false
/-- through those of below n that are meant, in order -/
def fo {α : Type} (p : Nat → Bool) (g : Nat → α → α) : Nat → α → α
  | 0, a => a
  | n + 1, a => if p n = true then g n (fo p g n a) else fo p g n a
theorem fo_none {α : Type} {p : Nat → Bool} {g : Nat → α → α} {f : Nat} {a : α} : ∀ n : Nat, (∀ i, f ≤ i → i < f + n → p i = false) → fo p g (f + n) a = fo p g f a := by
  intro n
  induction n with
  | zero => intro _; rfl
  | succ n ih =>
    intro h
    have h1 := h (f + n) (by omega) (by omega)
    show (if p (f + n) = true then g (f + n) (fo p g (f + n) a) else fo p g (f + n) a) = _
    rw [if_neg (by rw [h1]; decide), ih (fun i hi1 hi2 => h i hi1 (by omega))]
theorem fo_skip {α : Type} {p : Nat → Bool} {g : Nat → α → α} {f v : Nat} {a : α} (hf : f ≤ v) (h : ∀ i, f ≤ i → i < v → p i = false) : fo p g v a = fo p g f a := by
  have := fo_none (p := p) (g := g) (f := f) (a := a) (v - f) (fun i h1 h2 => h i h1 (by omega))
  rw [show f + (v - f) = v by omega] at this
  exact this
def wyB (K : Int → Int32) (u : Int) (q : Nat) : Bool := !(wayZ K u q == -1)
theorem wyB_t {K : Int → Int32} {u : Int} {q : Nat} : wyB K u q = true ↔ wayZ K u q ≠ -1 := by
  unfold wyB; rw [Bool.not_eq_true', beq_eq_false_iff_ne]
theorem wyB_f {K : Int → Int32} {u : Int} {q : Nat} : wyB K u q = false ↔ wayZ K u q = -1 := by
  unfold wyB; rw [Bool.not_eq_false', beq_iff_eq]
/-- the first place from f on that a way leads to -/
def nxZ (K : Int → Int32) (u : Int) (f : Nat) : Int := fndN (wyB K u) ((tI (K 1)).toNat - f) f
theorem nxZ_is (K : Int → Int32) (u : Int) (f : Nat) : (nxZ K u f = -1 ∧ ∀ i : Nat, f ≤ i → (i : Int) < tI (K 1) → wyB K u i = false) ∨ (∃ v : Nat, f ≤ v ∧ (v : Int) < tI (K 1) ∧ nxZ K u f = (v : Int) ∧ wyB K u v = true ∧ ∀ i : Nat, f ≤ i → i < v → wyB K u i = false) := by
  rcases fndN_is (wyB K u) ((tI (K 1)).toNat - f) f with ⟨h1, h2⟩ | ⟨k, h1, h2, h3, h4, h5⟩
  · exact Or.inl ⟨h1, fun i hi1 hi2 => h2 i hi1 (by omega)⟩
  · exact Or.inr ⟨k, h1, by omega, h3, h4, h5⟩
theorem nxZ_rg (K : Int → Int32) (u : Int) (f : Nat) : nxZ K u f = -1 ∨ (0 ≤ nxZ K u f ∧ nxZ K u f < tI (K 1)) := by
  rcases nxZ_is K u f with ⟨h, -⟩ | ⟨v, -, h2, h3, -⟩
  · exact Or.inl h
  · exact Or.inr ⟨by omega, by omega⟩
theorem len_pos {p : List Int} (h : p ≠ []) : 0 < p.length := by
  cases p with
  | nil => exact absurd rfl h
  | cons u t => exact Nat.succ_pos _
def hdL : List Int → Int
  | [] => 0
  | q :: _ => q
/-- all rows that go on from one by at most so many steps, in order -/
def wkF {α : Type} (K : Int → Int32) (V : List Int → α → α) : Nat → List Int → α → α
  | 0, p, a => V p a
  | k + 1, p, a => fo (wyB K (hdL p)) (fun q a => wkF K V k ((q : Int) :: p) a) (tI (K 1)).toNat (V p a)
/-- the row that a place from f on makes of one, or the next behind it -/
def gcZ (K : Int → Int32) : List Int → Nat → Option (List Int)
  | [], _ => none
  | u :: t, f => if nxZ K u f = -1 then gcZ K t (u.toNat + 1) else some (nxZ K u f :: u :: t)
def clmZ (K : Int → Int32) : List Int → Option (List Int)
  | [] => none
  | u :: t => gcZ K t (u.toNat + 1)
def fthZ (K : Int → Int32) (most : Nat) (p : List Int) : Option (List Int) := if p.length ≤ most then gcZ K p 0 else clmZ K p
def VaP (K : Int → Int32) : List Int → Prop
  | [] => True
  | q :: t => (0 ≤ q ∧ q < tI (K 1)) ∧ (t ≠ [] → wayZ K (hdL t) q ≠ -1) ∧ VaP K t
def bkN : Nat → Nat
  | 0 => 1
  | k + 1 => 1 + 9 * bkN k
theorem wk_run {σ α ρ : Type} {K : Int → Int32} (h10 : tI (K 1) ≤ 10) (hself : ∀ u : Nat, wyB K u u = false) {V : List Int → α → α} (R : Nat → σ → Bool → ρ) (I : σ → α → Option (List Int) → Prop) {most B : Nat}
    (step : ∀ i s a p, i < B → p ≠ [] → p.length ≤ most + 1 → VaP K p → I s a (some p) → ∃ s', I s' (V p a) (fthZ K most p) ∧ R i s true = R (i + 1) s' (fthZ K most p).isSome) :
    ∀ k p i s a, p ≠ [] → p.length + k = most + 1 → VaP K p → i + bkN k ≤ B → I s a (some p) → ∃ s' j, i ≤ j ∧ j ≤ i + bkN k ∧ I s' (wkF K V k p a) (clmZ K p) ∧ R i s true = R j s' (clmZ K p).isSome := by
  intro k
  induction k with
  | zero =>
    intro p i s a hp hl hv hB hI
    obtain ⟨s', h1, h2⟩ := step i s a p (by show i < B; have : bkN 0 = 1 := rfl; omega) hp (by omega) hv hI
    have e : fthZ K most p = clmZ K p := by unfold fthZ; rw [if_neg (by omega)]
    rw [e] at h1 h2
    exact ⟨s', i + 1, by omega, by have : bkN 0 = 1 := rfl; omega, h1, h2⟩
  | succ k ih =>
    intro p i s a hp hl hv hB hI
    have hb : bkN (k + 1) = 1 + 9 * bkN k := rfl
    obtain ⟨s0, h1, h2⟩ := step i s a p (by omega) hp (by omega) hv hI
    have e : fthZ K most p = gcZ K p 0 := by unfold fthZ; rw [if_pos (by omega)]
    rw [e] at h1 h2
    obtain ⟨u, t, rfl⟩ : ∃ u t, p = u :: t := by
      cases p with
      | nil => exact absurd rfl hp
      | cons u t => exact ⟨u, t, rfl⟩
    have hu := hv.1
    have sub : ∀ m f, (tI (K 1)).toNat = f + m ∨ ((tI (K 1)).toNat < f ∧ m = 0) → ∀ i s a0, i + (m - (if (f : Int) ≤ u then 1 else 0)) * bkN k ≤ B → I s (fo (wyB K u) (fun q a => wkF K V k ((q : Int) :: u :: t) a) f a0) (gcZ K (u :: t) f) →
        ∃ s' j, i ≤ j ∧ j ≤ i + (m - (if (f : Int) ≤ u then 1 else 0)) * bkN k ∧ I s' (fo (wyB K u) (fun q a => wkF K V k ((q : Int) :: u :: t) a) (f + m) a0) (gcZ K t (u.toNat + 1)) ∧ R i s (gcZ K (u :: t) f).isSome = R j s' (gcZ K t (u.toNat + 1)).isSome := by
      intro m
      induction m using Nat.strongRecOn with
      | ind m ihm =>
        intro f hf i s a0 hB hI
        rcases nxZ_is K u f with ⟨g1, g2⟩ | ⟨v, g1, g2, g3, g4, g5⟩
        · have e : gcZ K (u :: t) f = gcZ K t (u.toNat + 1) := if_pos g1
          rw [e] at hI ⊢
          refine ⟨s, i, Nat.le_refl _, Nat.le_add_right _ _, ?_, rfl⟩
          rw [fo_none m (fun i h1 h2 => g2 i h1 (by omega))]; exact hI
        · have e : gcZ K (u :: t) f = some ((v : Int) :: u :: t) := by
            show (if nxZ K u f = -1 then _ else some (nxZ K u f :: u :: t)) = _
            rw [if_neg (by omega), g3]
          rw [e] at hI ⊢
          have hvu : (v : Int) ≠ u := fun z => by
            have h0 := hself v
            rw [z] at h0; rw [h0] at g4; cases g4
          have hq : ((v : Int) :: u :: t).length + k = most + 1 := by
            have : ((v : Int) :: u :: t).length = (u :: t).length + 1 := rfl
            omega
          have hcount : 1 + ((m - (v + 1 - f)) - (if ((v + 1 : Nat) : Int) ≤ u then 1 else 0)) ≤ m - (if (f : Int) ≤ u then 1 else 0) := by
            split <;> split <;> omega
          have hmul := Nat.mul_le_mul_right (bkN k) hcount
          rw [Nat.add_mul, Nat.one_mul] at hmul
          obtain ⟨s1, j1, a1, a2, a3, a4⟩ := ih ((v : Int) :: u :: t) i s _ (by intro z; cases z) hq ⟨⟨by omega, g2⟩, fun _ => wyB_t.mp g4, hv⟩ (by omega) hI
          have a3' : I s1 (fo (wyB K u) (fun q a => wkF K V k ((q : Int) :: u :: t) a) (v + 1) a0) (gcZ K (u :: t) (v + 1)) := by
            have e1 : fo (wyB K u) (fun q a => wkF K V k ((q : Int) :: u :: t) a) (v + 1) a0 = wkF K V k ((v : Int) :: u :: t) (fo (wyB K u) (fun q a => wkF K V k ((q : Int) :: u :: t) a) f a0) := by
              rw [← fo_skip g1 g5]
              show (if wyB K u v = true then _ else _) = _
              rw [if_pos g4]
            rw [e1]
            exact a3
          obtain ⟨s2, j2, b1, b2, b3, b4⟩ := ihm (m - (v + 1 - f)) (by omega) (v + 1) (by omega) j1 s1 a0 (by omega) a3'
          refine ⟨s2, j2, by omega, by omega, ?_, ?_⟩
          · rw [show f + m = v + 1 + (m - (v + 1 - f)) by omega]; exact b3
          · rw [show (some ((v : Int) :: u :: t)).isSome = true from rfl, a4]
            exact b4
    have hm : (tI (K 1)).toNat - (if ((0 : Nat) : Int) ≤ u then 1 else 0) ≤ 9 := by rw [if_pos (show ((0 : Nat) : Int) ≤ u from hu.1)]; omega
    have hmul := Nat.mul_le_mul_right (bkN k) hm
    obtain ⟨s', j, b1, b2, b3, b4⟩ := sub (tI (K 1)).toNat 0 (Or.inl (by omega)) (i + 1) s0 (V (u :: t) a) (by omega) h1
    refine ⟨s', j, by omega, by omega, ?_, h2.trans b4⟩
    have e2 : wkF K V (k + 1) (u :: t) a = fo (wyB K u) (fun q a => wkF K V k ((q : Int) :: u :: t) a) (0 + (tI (K 1)).toNat) (V (u :: t) a) := by rw [Nat.zero_add]; rfl
    rw [e2]; exact b3
/-- the place behind j steps, the way of step j -/
def plZ : List Int → Int → Int
  | [], _ => 0
  | q :: t, j => if j = t.length then q else plZ t j
def pwZ (K : Int → Int32) : List Int → Int → Int
  | [], _ => 0
  | q :: t, j => if j + 1 = t.length then wayZ K (hdL t) q else pwZ K t j
theorem plZ_top {q : Int} {t : List Int} {j : Int} (h : j = t.length) : plZ (q :: t) j = q := if_pos h
theorem plZ_lo {q : Int} {t : List Int} {j : Int} (h : j ≠ t.length) : plZ (q :: t) j = plZ t j := if_neg h
theorem pwZ_top {K : Int → Int32} {q : Int} {t : List Int} {j : Int} (h : j + 1 = t.length) : pwZ K (q :: t) j = wayZ K (hdL t) q := if_pos h
theorem pwZ_lo {K : Int → Int32} {q : Int} {t : List Int} {j : Int} (h : j + 1 ≠ t.length) : pwZ K (q :: t) j = pwZ K t j := if_neg h
theorem plZ_one {u : Int} : plZ [u] 0 = u := if_pos rfl
theorem plZ_rg {K : Int → Int32} : ∀ {p : List Int}, VaP K p → ∀ j : Int, 0 ≤ j → j < p.length → 0 ≤ plZ p j ∧ plZ p j < tI (K 1)
  | [], _, j, h1, h2 => by exfalso; have : (([] : List Int).length : Int) = 0 := rfl; omega
  | q :: t, h, j, h1, h2 => by
    by_cases e : j = t.length
    · rw [plZ_top e]; exact h.1
    · rw [plZ_lo e]
      have : ((q :: t).length : Int) = t.length + 1 := rfl
      exact plZ_rg h.2.2 j h1 (by omega)
theorem pwZ_ne {K : Int → Int32} : ∀ {p : List Int}, VaP K p → ∀ j : Int, 0 ≤ j → j + 1 < p.length → ∃ a b, wayZ K a b ≠ -1 ∧ pwZ K p j = wayZ K a b ∧ a = plZ p j ∧ b = plZ p (j + 1)
  | [], _, j, h1, h2 => by exfalso; have : (([] : List Int).length : Int) = 0 := rfl; omega
  | q :: t, h, j, h1, h2 => by
    have hl : ((q :: t).length : Int) = t.length + 1 := rfl
    by_cases e : j + 1 = t.length
    · have ht : t ≠ [] := by
        intro z; rw [z] at e; have : (([] : List Int).length : Int) = 0 := rfl; omega
      refine ⟨hdL t, q, h.2.1 ht, pwZ_top e, ?_, (plZ_top e).symm⟩
      rw [plZ_lo (by omega)]
      obtain ⟨u, s, rfl⟩ : ∃ u s, t = u :: s := by
        cases t with
        | nil => exact absurd rfl ht
        | cons u s => exact ⟨u, s, rfl⟩
      have : ((u :: s).length : Int) = s.length + 1 := rfl
      rw [plZ_top (by omega)]; rfl
    · obtain ⟨a, b, g1, g2, g3, g4⟩ := pwZ_ne h.2.2 j h1 (by omega)
      refine ⟨a, b, g1, (pwZ_lo e).trans g2, ?_, ?_⟩
      · rw [plZ_lo (by omega)]; exact g3
      · rw [plZ_lo (by omega)]; exact g4
theorem way_self {K : Int → Int32} (hI : InvK K) {v : Int} (hv : 0 ≤ v ∧ v < 2 * tI (K 2)) : fromZ K v ≠ toZ K v := by
  have h := hI.2.1.2.1 (v / 2) (by omega) (by omega)
  unfold fromZ toZ flipZ
  by_cases e : v % 2 = 0
  · rw [if_pos e, show 6 + v = 6 + 2 * (v / 2) by omega, show 6 + (v + 1) = 7 + 2 * (v / 2) by omega]; exact h
  · rw [if_neg e, show 6 + v = 7 + 2 * (v / 2) by omega, show 6 + (v - 1) = 6 + 2 * (v / 2) by omega]; exact fun z => h z.symm
theorem wy_self {K : Int → Int32} (hI : InvK K) (u : Nat) : wyB K u u = false := wyB_f.mpr (Decidable.byContradiction (fun z => by
  obtain ⟨h1, h2, h3⟩ := wayZ_ends hI z
  exact way_self hI h1 (h2.trans h3.symm)))
end S94zzzd
