/-! searching by a queue, theory -/
section S94zr
set_option linter.unusedVariables false
set_option linter.unusedSimpArgs false
abbrev BfS : Type := (Nat → Int) × (Nat → Nat) × Nat
def bpush (st : BfS) (s : Nat) (v : Int) : BfS := if st.1 s ≠ -1 then st else (fun x => if x = s then v else st.1 x, fun k => if k = st.2.2 then s else st.2.1 k, st.2.2 + 1)
/-- one goes from a state to a place -/
def bok (wy : Nat → Nat → Int) (al : Int → Bool) (s t : Nat) : Bool := decide (wy (s / 256) t ≠ -1) && al (wy (s / 256) t)
def bto (wy : Nat → Nat → Int) (bt : Int → Nat) (s t : Nat) : Nat := 256 * t + (s % 256 ||| bt (wy (s / 256) t))
def bin (wy : Nat → Nat → Int) (al : Int → Bool) (bt : Int → Nat) (st : BfS) (s : Nat) (v : Int) : Nat → BfS
  | 0 => st
  | t + 1 => if bok wy al s t = true then bpush (bin wy al bt st s v t) (bto wy bt s t) v else bin wy al bt st s v t
def bfs (wy : Nat → Nat → Int) (al : Int → Bool) (bt : Int → Nat) (n s0 : Nat) : Nat → BfS
  | 0 => (fun x => if x = s0 then 0 else -1, fun _ => s0, 1)
  | i + 1 => if i < (bfs wy al bt n s0 i).2.2 then bin wy al bt (bfs wy al bt n s0 i) ((bfs wy al bt n s0 i).2.1 i) ((bfs wy al bt n s0 i).1 ((bfs wy al bt n s0 i).2.1 i) + 1) n else bfs wy al bt n s0 i
def bwk (wy : Nat → Nat → Int) (al : Int → Bool) (bt : Int → Nat) (n s0 : Nat) : Nat → Nat → Prop
  | 0, s => s = s0
  | L + 1, s => ∃ s1 t, bwk wy al bt n s0 L s1 ∧ t < n ∧ bok wy al s1 t = true ∧ s = bto wy bt s1 t
theorem cnt_one {p q : Nat → Bool} {k : Nat} (hp : p k = false) (h : ∀ i, q i = (p i || decide (i = k))) : ∀ n, k < n → cntN q n = cntN p n + 1 := by
  intro n
  induction n with
  | zero => intro h; omega
  | succ n ih =>
    intro hk
    by_cases e : k = n
    · subst e
      have hlo : cntN q k = cntN p k := cntN_congr (fun j hj => by rw [h j, decide_eq_false (by omega), Bool.or_false])
      rw [cntN_pos (show q k = true by rw [h k, decide_eq_true rfl, Bool.or_true]), cntN_neg (by rw [hp]; exact Bool.false_ne_true), hlo]
    · have hq : q n = p n := by rw [h n, decide_eq_false (by omega), Bool.or_false]
      have := ih (by omega)
      by_cases g : p n = true
      · rw [cntN_pos g, cntN_pos (hq.trans g), this]
      · rw [cntN_neg g, cntN_neg (by rw [hq]; exact g), this]
/-- what holds of a search: i have been gone on from; v, the last's distance -/
def BfI (wy : Nat → Nat → Int) (al : Int → Bool) (bt : Int → Nat) (n s0 : Nat) (st : BfS) : Prop :=
  cntN (fun s => decide (st.1 s ≠ -1)) 2560 = st.2.2 ∧ (∀ j, j < st.2.2 → 0 ≤ st.1 (st.2.1 j) ∧ st.2.1 j < 2560) ∧ (∀ s, st.1 s ≠ -1 → 0 ≤ st.1 s ∧ ∃ j, j < st.2.2 ∧ st.2.1 j = s) ∧
  (∀ s, st.1 s ≠ -1 → bwk wy al bt n s0 (st.1 s).toNat s) ∧ (∀ j k, j < k → k < st.2.2 → st.1 (st.2.1 j) ≤ st.1 (st.2.1 k))
def BfX (st st' : BfS) : Prop := st.2.2 ≤ st'.2.2 ∧ (∀ s, st.1 s ≠ -1 → st'.1 s = st.1 s) ∧ (∀ j, j < st.2.2 → st'.2.1 j = st.2.1 j)
theorem BfX_rf {st : BfS} : BfX st st := ⟨Nat.le_refl _, fun _ _ => rfl, fun _ _ => rfl⟩
theorem BfX_tr {a b c : BfS} (h1 : BfX a b) (h2 : BfX b c) : BfX a c :=
  ⟨Nat.le_trans h1.1 h2.1, fun s hs => (h2.2.1 s (by rw [h1.2.1 s hs]; exact hs)).trans (h1.2.1 s hs), fun j hj => (h2.2.2 j (Nat.lt_of_lt_of_le hj h1.1)).trans (h1.2.2 j hj)⟩
theorem bpush_inv {wy : Nat → Nat → Int} {al : Int → Bool} {bt : Int → Nat} {n s0 : Nat} {st : BfS} (h : BfI wy al bt n s0 st) {s : Nat} {v : Int} (hs : s < 2560) (hv : 0 ≤ v) (hw : bwk wy al bt n s0 v.toNat s) (hmax : ∀ j, j < st.2.2 → st.1 (st.2.1 j) ≤ v) :
    BfI wy al bt n s0 (bpush st s v) ∧ BfX st (bpush st s v) ∧ (bpush st s v).1 s ≠ -1 ∧ (bpush st s v).1 s ≤ v ∧ (∀ j, j < (bpush st s v).2.2 → (bpush st s v).1 ((bpush st s v).2.1 j) ≤ v) := by
  obtain ⟨i1, i2, i3, i4, i5⟩ := h
  unfold bpush
  by_cases e : st.1 s ≠ -1
  · rw [if_pos e]
    obtain ⟨j, j1, j2⟩ := (i3 s e).2
    exact ⟨⟨i1, i2, i3, i4, i5⟩, BfX_rf, e, by rw [← j2]; exact hmax j j1, hmax⟩
  · rw [if_neg e]
    have e0 : st.1 s = -1 := Decidable.not_not.mp e
    have hne : ∀ j, j < st.2.2 → st.2.1 j ≠ s := fun j hj z => by
      have := (i2 j hj).1
      rw [z] at this; omega
    have hq : ∀ j, j < st.2.2 → (if j = st.2.2 then s else st.2.1 j) = st.2.1 j := fun j hj => if_neg (by omega)
    have hd : ∀ x, x ≠ s → (if x = s then v else st.1 x) = st.1 x := fun x hx => if_neg hx
    refine ⟨⟨?_, fun j hj => ?_, fun x hx => ?_, fun x hx => ?_, fun j k hjk hk => ?_⟩, ⟨by show st.2.2 ≤ st.2.2 + 1; omega, fun x hx => hd x (fun z => by rw [z] at hx; exact e hx), hq⟩, ?_, ?_, fun j hj => ?_⟩
    · have := cnt_one (p := fun x => decide (st.1 x ≠ -1)) (q := fun x => decide ((if x = s then v else st.1 x) ≠ -1)) (k := s) (decide_eq_false e) (fun x => by
        by_cases z : x = s
        · rw [z, if_pos rfl, decide_eq_true (show v ≠ -1 by omega), decide_eq_true rfl, Bool.or_true]
        · rw [if_neg z, decide_eq_false (fun y => z y), Bool.or_false]) 2560 hs
      show cntN (fun x => decide ((if x = s then v else st.1 x) ≠ -1)) 2560 = ((st.2.2 + 1 : Nat) : Int)
      rw [this, i1]; rfl
    · show 0 ≤ (if (if j = st.2.2 then s else st.2.1 j) = s then v else st.1 (if j = st.2.2 then s else st.2.1 j)) ∧ (if j = st.2.2 then s else st.2.1 j) < 2560
      have hj : j < st.2.2 + 1 := hj
      by_cases z : j = st.2.2
      · rw [if_pos z, if_pos rfl]; exact ⟨hv, hs⟩
      · rw [if_neg z, hd _ (hne j (by omega))]; exact i2 j (by omega)
    · show 0 ≤ (if x = s then v else st.1 x) ∧ ∃ j, j < st.2.2 + 1 ∧ (if j = st.2.2 then s else st.2.1 j) = x
      by_cases z : x = s
      · rw [if_pos z]; exact ⟨hv, st.2.2, by omega, by rw [if_pos rfl, z]⟩
      · have hx : st.1 x ≠ -1 := by rw [← hd x z]; exact hx
        rw [if_neg z]
        obtain ⟨a1, j, a2, a3⟩ := i3 x hx
        exact ⟨a1, j, by omega, by rw [if_neg (by omega)]; exact a3⟩
    · show bwk wy al bt n s0 (if x = s then v else st.1 x).toNat x
      by_cases z : x = s
      · rw [if_pos z, z]; exact hw
      · have hx : st.1 x ≠ -1 := by rw [← hd x z]; exact hx
        rw [if_neg z]; exact i4 x hx
    · show (if (if j = st.2.2 then s else st.2.1 j) = s then v else st.1 (if j = st.2.2 then s else st.2.1 j)) ≤ (if (if k = st.2.2 then s else st.2.1 k) = s then v else st.1 (if k = st.2.2 then s else st.2.1 k))
      have hk : k < st.2.2 + 1 := hk
      rw [hq j (by omega), hd _ (hne j (by omega))]
      by_cases z : k = st.2.2
      · rw [if_pos z, if_pos rfl]; exact hmax j (by omega)
      · rw [if_neg z, hd _ (hne k (by omega))]; exact i5 j k hjk (by omega)
    · show (if s = s then v else st.1 s) ≠ -1; rw [if_pos rfl]; omega
    · show (if s = s then v else st.1 s) ≤ v; rw [if_pos rfl]; exact Int.le_refl _
    · show (if (if j = st.2.2 then s else st.2.1 j) = s then v else st.1 (if j = st.2.2 then s else st.2.1 j)) ≤ v
      have hj : j < st.2.2 + 1 := hj
      by_cases z : j = st.2.2
      · rw [if_pos z, if_pos rfl]; exact Int.le_refl _
      · rw [if_neg z, hd _ (hne j (by omega))]; exact hmax j (by omega)
theorem bto_lt {wy : Nat → Nat → Int} {bt : Int → Nat} (hb : ∀ w, bt w < 256) {n : Nat} (hn : n ≤ 10) {s t : Nat} (ht : t < n) : bto wy bt s t < 2560 := by
  have h1 : (s % 256 ||| bt (wy (s / 256) t)) < 2 ^ 8 := Nat.or_lt_two_pow (Nat.mod_lt _ (by omega)) (hb _)
  have e8 : (2 : Nat) ^ 8 = 256 := rfl
  unfold bto; omega
theorem bin_inv {wy : Nat → Nat → Int} {al : Int → Bool} {bt : Int → Nat} (hb : ∀ w, bt w < 256) {n s0 : Nat} (hn : n ≤ 10) {st : BfS} (h : BfI wy al bt n s0 st) {s : Nat} {v : Int} (hv : 0 ≤ v) (hw : ∀ t, t < n → bok wy al s t = true → bwk wy al bt n s0 v.toNat (bto wy bt s t)) (hmax : ∀ j, j < st.2.2 → st.1 (st.2.1 j) ≤ v) :
    ∀ t, t ≤ n → BfI wy al bt n s0 (bin wy al bt st s v t) ∧ BfX st (bin wy al bt st s v t) ∧ (∀ u, u < t → bok wy al s u = true → (bin wy al bt st s v t).1 (bto wy bt s u) ≠ -1 ∧ (bin wy al bt st s v t).1 (bto wy bt s u) ≤ v) ∧ (∀ j, j < (bin wy al bt st s v t).2.2 → (bin wy al bt st s v t).1 ((bin wy al bt st s v t).2.1 j) ≤ v) := by
  intro t
  induction t with
  | zero => intro _; exact ⟨h, BfX_rf, fun u hu => by omega, hmax⟩
  | succ t ih =>
    intro ht
    obtain ⟨i1, i2, i3, i4⟩ := ih (by omega)
    by_cases g : bok wy al s t = true
    · rw [show bin wy al bt st s v (t + 1) = bpush (bin wy al bt st s v t) (bto wy bt s t) v from if_pos g]
      obtain ⟨p1, p2, p3, p4, p5⟩ := bpush_inv i1 (bto_lt (wy := wy) hb hn (s := s) (show t < n by omega)) hv (hw t (by omega) g) i4
      refine ⟨p1, BfX_tr i2 p2, fun u hu hg => ?_, p5⟩
      by_cases z : u = t
      · rw [z]; exact ⟨p3, p4⟩
      · have := i3 u (by omega) hg
        rw [p2.2.1 _ this.1]; exact this
    · rw [show bin wy al bt st s v (t + 1) = bin wy al bt st s v t from if_neg g]
      refine ⟨i1, i2, fun u hu hg => ?_, i4⟩
      by_cases z : u = t
      · rw [z] at hg; exact absurd hg g
      · exact i3 u (by omega) hg
theorem bfs_inv {wy : Nat → Nat → Int} {al : Int → Bool} {bt : Int → Nat} (hb : ∀ w, bt w < 256) {n s0 : Nat} (hn : n ≤ 10) (h0 : s0 < 2560) : ∀ i, BfI wy al bt n s0 (bfs wy al bt n s0 i) ∧ (∀ i', i' ≤ i → BfX (bfs wy al bt n s0 i') (bfs wy al bt n s0 i)) ∧
    (∀ j, j < i → j < (bfs wy al bt n s0 i).2.2 → ∀ u, u < n → bok wy al ((bfs wy al bt n s0 i).2.1 j) u = true → (bfs wy al bt n s0 i).1 (bto wy bt ((bfs wy al bt n s0 i).2.1 j) u) ≠ -1 ∧ (bfs wy al bt n s0 i).1 (bto wy bt ((bfs wy al bt n s0 i).2.1 j) u) ≤ (bfs wy al bt n s0 i).1 ((bfs wy al bt n s0 i).2.1 j) + 1) ∧
    (∀ j, i ≤ j → j < (bfs wy al bt n s0 i).2.2 → ∀ k, k < (bfs wy al bt n s0 i).2.2 → (bfs wy al bt n s0 i).1 ((bfs wy al bt n s0 i).2.1 k) ≤ (bfs wy al bt n s0 i).1 ((bfs wy al bt n s0 i).2.1 j) + 1) := by
  intro i
  induction i with
  | zero =>
    refine ⟨⟨?_, fun j hj => ?_, fun s hs => ?_, fun s hs => ?_, fun j k hjk hk => ?_⟩, fun i' hi => by rw [show i' = 0 by omega]; exact BfX_rf, fun j hj => by omega, fun j _ hj k hk => ?_⟩
    · have := cnt_one (p := fun _ => false) (q := fun x => decide ((if x = s0 then (0 : Int) else -1) ≠ -1)) (k := s0) rfl (fun x => by
        by_cases z : x = s0
        · rw [if_pos z, decide_eq_true (show (0 : Int) ≠ -1 by omega), decide_eq_true z]; rfl
        · rw [if_neg z, decide_eq_false (fun y => y rfl), decide_eq_false z]; rfl) 2560 h0
      show cntN (fun x => decide ((if x = s0 then (0 : Int) else -1) ≠ -1)) 2560 = ((1 : Nat) : Int)
      rw [this, cntN_z.mpr (fun _ _ => rfl)]; rfl
    · show 0 ≤ (if s0 = s0 then (0 : Int) else -1) ∧ s0 < 2560
      rw [if_pos rfl]; exact ⟨Int.le_refl _, h0⟩
    · have hs : (if s = s0 then (0 : Int) else -1) ≠ -1 := hs
      have e : s = s0 := by
        by_cases z : s = s0
        · exact z
        · rw [if_neg z] at hs; exact absurd rfl hs
      show 0 ≤ (if s = s0 then (0 : Int) else -1) ∧ ∃ j, j < 1 ∧ s0 = s
      rw [if_pos e]; exact ⟨Int.le_refl _, 0, by omega, e.symm⟩
    · have hs : (if s = s0 then (0 : Int) else -1) ≠ -1 := hs
      have e : s = s0 := by
        by_cases z : s = s0
        · exact z
        · rw [if_neg z] at hs; exact absurd rfl hs
      show bwk wy al bt n s0 (if s = s0 then (0 : Int) else -1).toNat s
      rw [if_pos e]; exact e
    · have hk : k < 1 := hk
      omega
    · show (if s0 = s0 then (0 : Int) else -1) ≤ (if s0 = s0 then (0 : Int) else -1) + 1
      rw [if_pos rfl]; omega
  | succ i ih =>
    obtain ⟨i1, i2, i3, i4⟩ := ih
    by_cases g : i < (bfs wy al bt n s0 i).2.2
    · have eb : bfs wy al bt n s0 (i + 1) = bin wy al bt (bfs wy al bt n s0 i) ((bfs wy al bt n s0 i).2.1 i) ((bfs wy al bt n s0 i).1 ((bfs wy al bt n s0 i).2.1 i) + 1) n := if_pos g
      have hd0 := (i1.2.1 i g).1
      have hwk := i1.2.2.2.1 ((bfs wy al bt n s0 i).2.1 i) (by omega)
      obtain ⟨p1, p2, p3, p4⟩ := bin_inv hb hn i1 (s := (bfs wy al bt n s0 i).2.1 i) (v := (bfs wy al bt n s0 i).1 ((bfs wy al bt n s0 i).2.1 i) + 1) (by omega) (fun t ht hg => by
        rw [show ((bfs wy al bt n s0 i).1 ((bfs wy al bt n s0 i).2.1 i) + 1).toNat = ((bfs wy al bt n s0 i).1 ((bfs wy al bt n s0 i).2.1 i)).toNat + 1 by omega]
        exact ⟨_, t, hwk, ht, hg, rfl⟩) (fun j hj => i4 i (Nat.le_refl i) g j hj) n (Nat.le_refl n)
      rw [← eb] at p1 p2 p3 p4
      have hdj : ∀ j, j < (bfs wy al bt n s0 i).2.2 → (bfs wy al bt n s0 (i + 1)).1 ((bfs wy al bt n s0 (i + 1)).2.1 j) = (bfs wy al bt n s0 i).1 ((bfs wy al bt n s0 i).2.1 j) := fun j hj => by
        rw [p2.2.2 j hj, p2.2.1 _ (by have := (i1.2.1 j hj).1; omega)]
      refine ⟨p1, fun i' hi => ?_, fun j hj hjm u hu hg => ?_, fun j hj hjm k hk => ?_⟩
      · by_cases z : i' = i + 1
        · rw [z]; exact BfX_rf
        · exact BfX_tr (i2 i' (by omega)) p2
      · by_cases z : j = i
        · rw [z] at hg ⊢
          rw [p2.2.2 i g] at hg ⊢
          have := p3 u hu hg
          rw [p2.2.1 ((bfs wy al bt n s0 i).2.1 i) (by omega)]
          exact this
        · have hjl : j < (bfs wy al bt n s0 i).2.2 := by omega
          rw [p2.2.2 j hjl] at hg ⊢
          have := i3 j (by omega) hjl u hu hg
          rw [p2.2.1 _ this.1, p2.2.1 _ (by have := (i1.2.1 j hjl).1; omega)]
          exact this
      · have h1 := p4 k hk
        have h2 := p1.2.2.2.2 i j (by omega) hjm
        rw [hdj i g] at h2
        omega
    · have eb : bfs wy al bt n s0 (i + 1) = bfs wy al bt n s0 i := if_neg g
      rw [eb]
      refine ⟨i1, fun i' hi => ?_, fun j hj hjm => i3 j (by omega) hjm, fun j hj => i4 j (by omega)⟩
      by_cases z : i' = i + 1
      · rw [z, eb]; exact BfX_rf
      · exact i2 i' (by omega)
theorem bfs_m {wy : Nat → Nat → Int} {al : Int → Bool} {bt : Int → Nat} (hb : ∀ w, bt w < 256) {n s0 : Nat} (hn : n ≤ 10) (h0 : s0 < 2560) (i : Nat) : 1 ≤ (bfs wy al bt n s0 i).2.2 ∧ (bfs wy al bt n s0 i).2.2 ≤ 2560 := by
  obtain ⟨i1, i2, -, -⟩ := bfs_inv (wy := wy) (al := al) (bt := bt) hb hn h0 i
  have h1 := i1.1
  have h2 := cntN_rg (fun s => decide ((bfs wy al bt n s0 i).1 s ≠ -1)) 2560
  have h3 : 1 ≤ (bfs wy al bt n s0 i).2.2 := (i2 0 (Nat.zero_le _)).1
  omega
/-- how far states are; whom one comes to at all, by a walk of least steps -/
theorem bEnd_ex : ∃ n : Nat, n = 2560 := ⟨2560, rfl⟩
noncomputable def bEnd : Nat := Classical.choose bEnd_ex
theorem bEnd_eq : bEnd = 2560 := Classical.choose_spec bEnd_ex
theorem bEnd_le : 2560 ≤ bEnd := by rw [bEnd_eq]; omega
theorem bin_le {wy : Nat → Nat → Int} {al : Int → Bool} {bt : Int → Nat} {st : BfS} {s : Nat} {v b : Int} (hv : v ≤ b) (h : ∀ x, st.1 x ≤ b) : ∀ t x, (bin wy al bt st s v t).1 x ≤ b := by
  intro t
  induction t with
  | zero => exact h
  | succ t ih =>
    intro x
    by_cases g : bok wy al s t = true
    · rw [show bin wy al bt st s v (t + 1) = bpush (bin wy al bt st s v t) (bto wy bt s t) v from if_pos g]
      unfold bpush
      split
      · exact ih x
      · show (if x = bto wy bt s t then v else (bin wy al bt st s v t).1 x) ≤ b
        split
        · exact hv
        · exact ih x
    · rw [show bin wy al bt st s v (t + 1) = bin wy al bt st s v t from if_neg g]; exact ih x
theorem bfs_le {wy : Nat → Nat → Int} {al : Int → Bool} {bt : Int → Nat} {n s0 : Nat} : ∀ (i x : Nat), (bfs wy al bt n s0 i).1 x ≤ i := by
  intro i
  induction i with
  | zero => intro x; show (if x = s0 then (0 : Int) else -1) ≤ ((0 : Nat) : Int); split <;> omega
  | succ i ih =>
    intro x
    by_cases g : i < (bfs wy al bt n s0 i).2.2
    · rw [show bfs wy al bt n s0 (i + 1) = bin wy al bt (bfs wy al bt n s0 i) ((bfs wy al bt n s0 i).2.1 i) ((bfs wy al bt n s0 i).1 ((bfs wy al bt n s0 i).2.1 i) + 1) n from if_pos g]
      refine bin_le ?_ (fun y => ?_) n x
      · have := ih ((bfs wy al bt n s0 i).2.1 i); rw [nsucc]; omega
      · have := ih y; rw [nsucc]; omega
    · rw [show bfs wy al bt n s0 (i + 1) = bfs wy al bt n s0 i from if_neg g]
      have := ih x; rw [nsucc]; omega
noncomputable def bD (wy : Nat → Nat → Int) (al : Int → Bool) (bt : Int → Nat) (n s0 s : Nat) : Int := (bfs wy al bt n s0 bEnd).1 s
theorem bD_walk {wy : Nat → Nat → Int} {al : Int → Bool} {bt : Int → Nat} (hb : ∀ w, bt w < 256) {n s0 : Nat} (hn : n ≤ 10) (h0 : s0 < 2560) : ∀ (L s : Nat), bwk wy al bt n s0 L s → bD wy al bt n s0 s ≠ -1 ∧ bD wy al bt n s0 s ≤ L := by
  obtain ⟨i1, i2, i3, -⟩ := bfs_inv (wy := wy) (al := al) (bt := bt) hb hn h0 bEnd
  have hm := bfs_m (wy := wy) (al := al) (bt := bt) hb hn h0 bEnd
  have hE := bEnd_le
  intro L
  induction L with
  | zero =>
    intro s hs
    have hs : s = s0 := hs
    have hz : (bfs wy al bt n s0 0).1 s0 = 0 := if_pos rfl
    have := (i2 0 (Nat.zero_le _)).2.1 s0 (by rw [hz]; omega)
    unfold bD
    rw [hs, this, hz]; exact ⟨by omega, Int.le_refl _⟩
  | succ L ih =>
    intro s hs
    obtain ⟨s1, t, h1, h2, h3, h4⟩ := hs
    obtain ⟨g1, g2⟩ := ih s1 h1
    obtain ⟨g3, j, g4, g5⟩ := i1.2.2.1 s1 g1
    have := i3 j (by omega) g4 t h2 (by rw [g5]; exact h3)
    rw [g5, ← h4] at this
    unfold bD at g1 g2 ⊢
    refine ⟨this.1, ?_⟩
    have h5 := this.2
    rw [nsucc]; omega
theorem bD_is {wy : Nat → Nat → Int} {al : Int → Bool} {bt : Int → Nat} (hb : ∀ w, bt w < 256) {n s0 : Nat} (hn : n ≤ 10) (h0 : s0 < 2560) {s : Nat} (h : bD wy al bt n s0 s ≠ -1) : 0 ≤ bD wy al bt n s0 s ∧ bwk wy al bt n s0 (bD wy al bt n s0 s).toNat s := by
  obtain ⟨i1, i2, i3, -⟩ := bfs_inv (wy := wy) (al := al) (bt := bt) hb hn h0 bEnd
  exact ⟨(i1.2.2.1 s h).1, i1.2.2.2.1 s h⟩
end S94zr
