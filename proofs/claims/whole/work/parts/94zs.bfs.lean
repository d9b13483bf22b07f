/-! searching by a queue: the least, rounds -/
section S94zs
set_option linter.unusedVariables false
set_option linter.unusedSimpArgs false
/-- the first in the queue that is a goal -/
noncomputable def cres (wy : Nat → Nat → Int) (al : Int → Bool) (bt : Int → Nat) (n s0 : Nat) (g : Nat → Bool) : Int := if fndN (fun j => g ((bfs wy al bt n s0 bEnd).2.1 j)) (bfs wy al bt n s0 bEnd).2.2 0 = -1 then -1 else bD wy al bt n s0 ((bfs wy al bt n s0 bEnd).2.1 (fndN (fun j => g ((bfs wy al bt n s0 bEnd).2.1 j)) (bfs wy al bt n s0 bEnd).2.2 0).toNat)
def IsMn (X : Int → Prop) (u : Int) : Prop := (u = -1 ∧ ∀ x, ¬ X x) ∨ (X u ∧ ∀ x, X x → u ≤ x)
theorem IsMn_eq {X : Int → Prop} {u v : Int} (hu : IsMn X u) (hv : IsMn X v) : u = v := by
  rcases hu with ⟨u1, u2⟩ | ⟨u1, u2⟩
  · rcases hv with ⟨v1, v2⟩ | ⟨v1, v2⟩
    · rw [u1, v1]
    · exact absurd v1 (u2 v)
  · rcases hv with ⟨v1, v2⟩ | ⟨v1, v2⟩
    · exact absurd u1 (v2 u)
    · have := u2 v v1; have := v2 u u1; omega
theorem cres_mn {wy : Nat → Nat → Int} {al : Int → Bool} {bt : Int → Nat} (hb : ∀ w, bt w < 256) {n s0 : Nat} (hn : n ≤ 10) (h0 : s0 < 2560) (g : Nat → Bool) : IsMn (fun x => ∃ s, g s = true ∧ bD wy al bt n s0 s = x ∧ x ≠ -1) (cres wy al bt n s0 g) := by
  obtain ⟨i1, i2, i3, -⟩ := bfs_inv (wy := wy) (al := al) (bt := bt) hb hn h0 bEnd
  rcases fndN_is (fun j => g ((bfs wy al bt n s0 bEnd).2.1 j)) (bfs wy al bt n s0 bEnd).2.2 0 with ⟨h1, h2⟩ | ⟨k, -, h2, h3, h4, h5⟩
  · left
    refine ⟨if_pos h1, fun x hx => ?_⟩
    obtain ⟨s, s1, s2, s3⟩ := hx
    obtain ⟨-, j, j1, j2⟩ := i1.2.2.1 s (by unfold bD at s2; rw [s2]; exact s3)
    have := h2 j (by omega) (by omega)
    rw [j2, s1] at this; cases this
  · right
    have e : cres wy al bt n s0 g = bD wy al bt n s0 ((bfs wy al bt n s0 bEnd).2.1 k) := by
      unfold cres
      rw [h3, if_neg (by omega), show ((k : Int)).toNat = k by omega]
    have hk := (i1.2.1 k (by omega)).1
    refine ⟨⟨_, h4, e.symm, ?_⟩, fun x hx => ?_⟩
    · rw [e]; unfold bD; omega
    · obtain ⟨s, s1, s2, s3⟩ := hx
      obtain ⟨-, j, j1, j2⟩ := i1.2.2.1 s (by unfold bD at s2; rw [s2]; exact s3)
      rw [e, ← s2, ← j2]
      by_cases z : j < k
      · have := h5 j (by omega) z
        rw [j2, s1] at this; cases this
      · by_cases z2 : j = k
        · rw [z2]; exact Int.le_refl _
        · exact i1.2.2.2.2 k j (by omega) j1
/-- the least of some, none -/
def mnZ (f : Nat → Int) : Nat → Int
  | 0 => -1
  | n + 1 => if f n = -1 then mnZ f n else if mnZ f n = -1 ∨ f n < mnZ f n then f n else mnZ f n
theorem mnZ_mn (f : Nat → Int) : ∀ n, IsMn (fun x => ∃ q, q < n ∧ f q = x ∧ x ≠ -1) (mnZ f n) := by
  intro n
  induction n with
  | zero => exact Or.inl ⟨rfl, fun x hx => by obtain ⟨q, h, -⟩ := hx; omega⟩
  | succ n ih =>
    by_cases e : f n = -1
    · rw [show mnZ f (n + 1) = mnZ f n from if_pos e]
      have hx : ∀ x, (∃ q, q < n + 1 ∧ f q = x ∧ x ≠ -1) → ∃ q, q < n ∧ f q = x ∧ x ≠ -1 := fun x ⟨q, h1, h2, h3⟩ => ⟨q, by
        by_cases z : q = n
        · rw [z, e] at h2; exact absurd h2.symm h3
        · omega, h2, h3⟩
      rcases ih with ⟨h1, h2⟩ | ⟨⟨q, q1, q2, q3⟩, h2⟩
      · exact Or.inl ⟨h1, fun x hh => h2 x (hx x hh)⟩
      · exact Or.inr ⟨⟨q, by omega, q2, q3⟩, fun x hh => h2 x (hx x hh)⟩
    · have e1 : mnZ f (n + 1) = if mnZ f n = -1 ∨ f n < mnZ f n then f n else mnZ f n := if_neg e
      rw [e1]
      right
      rcases ih with ⟨h1, h2⟩ | ⟨⟨q, q1, q2, q3⟩, h2⟩
      · rw [if_pos (Or.inl h1)]
        refine ⟨⟨n, by omega, rfl, e⟩, fun x ⟨q, g1, g2, g3⟩ => ?_⟩
        by_cases z : q = n
        · rw [z] at g2; omega
        · exact absurd ⟨q, by omega, g2, g3⟩ (h2 x)
      · by_cases g : f n < mnZ f n
        · rw [if_pos (Or.inr g)]
          refine ⟨⟨n, by omega, rfl, e⟩, fun x ⟨q', g1, g2, g3⟩ => ?_⟩
          by_cases z : q' = n
          · rw [z] at g2; omega
          · have := h2 x ⟨q', by omega, g2, g3⟩; omega
        · rw [if_neg (by omega)]
          refine ⟨⟨q, by omega, q2, q3⟩, fun x ⟨q', g1, g2, g3⟩ => ?_⟩
          by_cases z : q' = n
          · rw [z] at g2; omega
          · exact h2 x ⟨q', by omega, g2, g3⟩
/-! walks as rows of places -/
def cvN (wy : Nat → Nat → Int) (bt : Int → Nat) (f : Nat → Nat) (L : Nat) : Nat := orN (fun i => bt (wy (f i) (f (i + 1)))) L
def pwk (wy : Nat → Nat → Int) (al : Int → Bool) (n : Nat) (f : Nat → Nat) (L : Nat) : Prop := ∀ i, i < L → f (i + 1) < n ∧ wy (f i) (f (i + 1)) ≠ -1 ∧ al (wy (f i) (f (i + 1))) = true
theorem cvN_lt {wy : Nat → Nat → Int} {bt : Int → Nat} (hb : ∀ w, bt w < 256) {f : Nat → Nat} (L : Nat) : cvN wy bt f L < 256 := orN_lt (k := 8) (fun j _ => hb _)
theorem st_dm {q c : Nat} (hc : c < 256) : (256 * q + c) / 256 = q ∧ (256 * q + c) % 256 = c := by omega
theorem wk_pw {wy : Nat → Nat → Int} {al : Int → Bool} {bt : Int → Nat} (hb : ∀ w, bt w < 256) {n p : Nat} : ∀ (L s : Nat), bwk wy al bt n (256 * p) L s ↔ ∃ f, f 0 = p ∧ pwk wy al n f L ∧ s = 256 * f L + cvN wy bt f L := by
  intro L
  induction L with
  | zero =>
    intro s
    constructor
    · intro h; exact ⟨fun _ => p, rfl, fun i hi => by omega, h⟩
    · rintro ⟨f, f0, -, f2⟩
      rw [f0] at f2; exact f2
  | succ L ih =>
    intro s
    constructor
    · rintro ⟨s1, t, h1, h2, h3, h4⟩
      obtain ⟨f, f0, f1, f2⟩ := (ih s1).mp h1
      obtain ⟨d1, d2⟩ := st_dm (q := f L) (cvN_lt (wy := wy) (f := f) hb L)
      rw [← f2] at d1 d2
      unfold bok at h3
      rw [Bool.and_eq_true, decide_eq_true_eq, d1] at h3
      refine ⟨fun i => if i ≤ L then f i else t, (if_pos (Nat.zero_le L)).trans f0, fun i hi => ?_, ?_⟩
      · by_cases z : i = L
        · rw [z]
          show (if L + 1 ≤ L then f (L + 1) else t) < n ∧ wy (if L ≤ L then f L else t) (if L + 1 ≤ L then f (L + 1) else t) ≠ -1 ∧ al (wy (if L ≤ L then f L else t) (if L + 1 ≤ L then f (L + 1) else t)) = true
          rw [if_neg (by omega), if_pos (Nat.le_refl _)]
          exact ⟨h2, h3.1, h3.2⟩
        · show (if i + 1 ≤ L then f (i + 1) else t) < n ∧ wy (if i ≤ L then f i else t) (if i + 1 ≤ L then f (i + 1) else t) ≠ -1 ∧ al (wy (if i ≤ L then f i else t) (if i + 1 ≤ L then f (i + 1) else t)) = true
          rw [if_pos (by omega), if_pos (by omega)]
          exact f1 i (by omega)
      · have e1 : cvN wy bt (fun i => if i ≤ L then f i else t) (L + 1) = cvN wy bt f L ||| bt (wy (f L) t) := by
          unfold cvN
          rw [orN_succ]
          have : orN (fun i => bt (wy (if i ≤ L then f i else t) (if i + 1 ≤ L then f (i + 1) else t))) L = orN (fun i => bt (wy (f i) (f (i + 1)))) L := orN_congr (fun j hj => by rw [if_pos (by omega), if_pos (by omega)])
          rw [this]
          show _ ||| bt (wy (if L ≤ L then f L else t) (if L + 1 ≤ L then f (L + 1) else t)) = _
          rw [if_pos (Nat.le_refl L), if_neg (show ¬ L + 1 ≤ L by omega)]
        rw [e1, h4]
        unfold bto
        show 256 * t + _ = 256 * (if L + 1 ≤ L then f (L + 1) else t) + _
        rw [d1, d2, if_neg (by omega)]
    · rintro ⟨f, f0, f1, f2⟩
      have hL := f1 L (by omega)
      obtain ⟨d1, d2⟩ := st_dm (q := f L) (cvN_lt (wy := wy) (f := f) hb L)
      refine ⟨256 * f L + cvN wy bt f L, f (L + 1), (ih _).mpr ⟨f, f0, fun i hi => f1 i (by omega), rfl⟩, hL.1, ?_, ?_⟩
      · unfold bok
        rw [Bool.and_eq_true, decide_eq_true_eq, d1]; exact ⟨hL.2.1, hL.2.2⟩
      · unfold bto
        rw [d1, d2, f2]
        unfold cvN
        rw [orN_succ]
/-- a round may begin where any of its ways does -/
theorem round {wy : Nat → Nat → Int} {al : Int → Bool} {bt : Int → Nat} {n b z p : Nat} {w0 : Int} (hz : ∀ w i, (bt w).testBit i = true → i < z) (hw0 : ∀ w, (bt w).testBit 0 = true → w = w0) (hfr : ∀ q t, wy q t = w0 → w0 ≠ -1 → q = b) (h0 : w0 ≠ -1) {f : Nat → Nat} {L : Nat} (f0 : f 0 = p) (fL : f L = p) (hf : pwk wy al n f L) (hc : ∀ i, (cvN wy bt f L).testBit i = decide (i < z)) (hz1 : 1 ≤ z) :
    ∃ g, g 0 = b ∧ g L = b ∧ pwk wy al n g L ∧ ∀ i, (cvN wy bt g L).testBit i = decide (i < z) := by
  have hb0 : (cvN wy bt f L).testBit 0 = true := by rw [hc 0, decide_eq_true (by omega)]
  unfold cvN at hb0
  rw [orN_bit] at hb0
  obtain ⟨k, k1, k2⟩ := hb0
  have hk := hfr (f k) (f (k + 1)) (hw0 _ k2) h0
  have hs : ∀ j, j < L → ∃ i, i < L ∧ (if k + j ≤ L then f (k + j) else f (k + j - L)) = f i ∧ (if k + (j + 1) ≤ L then f (k + (j + 1)) else f (k + (j + 1) - L)) = f (i + 1) := fun j hj => by
    by_cases z1 : k + j < L
    · exact ⟨k + j, z1, by rw [if_pos (by omega)], by rw [if_pos (by omega)]; rfl⟩
    · by_cases z2 : k + j = L
      · exact ⟨0, by omega, by rw [if_pos (by omega), z2, fL, f0], by rw [if_neg (by omega), show k + (j + 1) - L = 0 + 1 by omega]⟩
      · exact ⟨k + j - L, by omega, by rw [if_neg (by omega)], by rw [if_neg (by omega), show k + (j + 1) - L = k + j - L + 1 by omega]⟩
  refine ⟨fun j => if k + j ≤ L then f (k + j) else f (k + j - L), ?_, ?_, fun j hj => ?_, fun i => ?_⟩
  · show (if k + 0 ≤ L then f (k + 0) else _) = b
    rw [if_pos (by omega)]; exact hk
  · show (if k + L ≤ L then f (k + L) else f (k + L - L)) = b
    by_cases z1 : k = 0
    · rw [if_pos (by omega), show k + L = L by omega, fL, ← f0, ← z1]; exact hk
    · rw [if_neg (by omega), show k + L - L = k by omega]; exact hk
  · obtain ⟨i, i1, i2, i3⟩ := hs j hj
    show (if k + (j + 1) ≤ L then f (k + (j + 1)) else f (k + (j + 1) - L)) < n ∧ wy (if k + j ≤ L then f (k + j) else f (k + j - L)) (if k + (j + 1) ≤ L then f (k + (j + 1)) else f (k + (j + 1) - L)) ≠ -1 ∧ al (wy (if k + j ≤ L then f (k + j) else f (k + j - L)) (if k + (j + 1) ≤ L then f (k + (j + 1)) else f (k + (j + 1) - L))) = true
    rw [i2, i3]; exact hf i i1
  · rw [← hc i, Bool.eq_iff_iff]
    unfold cvN
    constructor
    · intro h
      have : i < z := by
        rw [orN_bit] at h
        obtain ⟨j, -, h2⟩ := h
        exact hz _ i h2
      have h3 := hc i
      unfold cvN at h3
      rw [h3, decide_eq_true this]
    · intro h
      rw [orN_bit] at h ⊢
      obtain ⟨j, j1, j2⟩ := h
      by_cases z1 : k ≤ j
      · refine ⟨j - k, by omega, ?_⟩
        show (bt (wy (if k + (j - k) ≤ L then f (k + (j - k)) else _) (if k + (j - k + 1) ≤ L then f (k + (j - k + 1)) else _))).testBit i = true
        rw [if_pos (by omega), if_pos (by omega), show k + (j - k) = j by omega, show k + (j - k + 1) = j + 1 by omega]; exact j2
      · refine ⟨L - k + j, by omega, ?_⟩
        show (bt (wy (if k + (L - k + j) ≤ L then f (k + (L - k + j)) else f (k + (L - k + j) - L)) (if k + (L - k + j + 1) ≤ L then f (k + (L - k + j + 1)) else f (k + (L - k + j + 1) - L)))).testBit i = true
        rw [if_neg (show ¬ k + (L - k + j + 1) ≤ L by omega), show k + (L - k + j + 1) - L = j + 1 by omega]
        by_cases z2 : j = 0
        · rw [if_pos (by omega), show k + (L - k + j) = L by omega, fL, ← f0, z2]
          rw [z2] at j2; exact j2
        · rw [if_neg (by omega), show k + (L - k + j) - L = j by omega]; exact j2
end S94zs
