/-! reading a plain, theory -/
section S94zzh
set_option linter.unusedVariables false
set_option linter.unusedSimpArgs false
def nzT (s : TkS) : TkS := (s.1, s.2.1, s.2.2.1, if s.1 = 2 then s.2.2.2 else 0)
/-- the next token; no number stays behind -/
def av (T : Nat → Int) (n : Nat) (t : TkS) : TkS := nzT (adv T n t)
theorem adv_end {T : Nat → Int} {n : Nat} {t u : TkS} (h : t.2.2.1 = u.2.2.1) : nzT (adv T n t) = nzT (adv T n u) := by
  unfold adv
  rw [h]
  generalize scN (fun j => isB (T j)) n u.2.2.1.toNat = b
  by_cases c1 : n ≤ b
  · rw [if_pos c1, if_pos c1]; rfl
  · rw [if_neg c1, if_neg c1]
    by_cases c2 : isL (T b) = true
    · rw [if_pos c2, if_pos c2]; rfl
    · rw [if_neg c2, if_neg c2]
      by_cases c3 : isD (T b) = true
      · rw [if_pos c3, if_pos c3]
      · rw [if_neg c3, if_neg c3]
        by_cases c4 : T b = 59
        · rw [if_pos c4]; rfl
        · rw [if_neg c4]; rfl
def TkN (n : Nat) (t : TkS) : Prop := TkI n t ∧ (t.1 ≠ 0 → t.2.1 < t.2.2.1)
theorem av_inv {T : Nat → Int} {n : Nat} {t : TkS} (h : TkI n t) : TkN n (av T n t) ∧ t.2.2.1 ≤ (av T n t).2.1 := by
  obtain ⟨⟨h1, h2, h3, h4, h5, h6⟩, h7, h8⟩ := adv_inv (T := T) h
  refine ⟨⟨⟨h1, h2, h3, h4, ?_, ?_⟩, h8⟩, h7⟩
  · show -2147483648 ≤ if (adv T n t).1 = 2 then (adv T n t).2.2.2 else 0
    split <;> omega
  · show (if (adv T n t).1 = 2 then (adv T n t).2.2.2 else 0) ≤ 2147483647
    split <;> omega
abbrev PrS : Type := (Int → Int32) × TkS
abbrev PrR : Type := (Int × Int) ⊕ PrS
def flt (t : TkS) (why : Int) : Int × Int := (if t.1 = 4 then 1 else why, t.2.1)
def nmZ (t : TkS) (lo hi : Int) : Int := if t.1 = 2 then (if lo ≤ t.2.2.2 ∧ t.2.2.2 ≤ hi then 0 else 3) else 2
def bnd (x : PrR) (f : PrS → PrR) : PrR := match x with
  | .inl e => .inl e
  | .inr s => f s
def pEnd (T : Nat → Int) (n : Nat) (s : PrS) : PrR := if s.2.1 = 3 then .inr (uC s.1 0 (zI (tI (s.1 0) + 1)), av T n s.2) else .inl (flt s.2 2)
def pOne (T : Nat → Int) (n : Nat) (i lo hi : Int) (s : PrS) : PrR := if nmZ s.2 lo hi = 0 then .inr (uC s.1 i (zI s.2.2.2.2), av T n s.2) else .inl (flt s.2 (nmZ s.2 lo hi))
def addPa (D : Int → Int32) (a b : Int) : Int → Int32 := uC (uC (uC D (6 + 2 * tI (D 2)) (zI a)) (6 + 2 * tI (D 2) + 1) (zI b)) 2 (zI (tI (D 2) + 1))
def pPath (T : Nat → Int) (n : Nat) (D : Int → Int32) (t : TkS) : PrR :=
  if tI (D 2) = 16 then .inl (flt t 4) else
  if nmZ (av T n t) 0 (tI (D 1) - 1) = 0 then
    if nmZ (av T n (av T n t)) 0 (tI (D 1) - 1) = 0 then
      if (av T n (av T n t)).2.2.2 = (av T n t).2.2.2 ∨ pathZ D (av T n t).2.2.2 (av T n (av T n t)).2.2.2 ≠ -1 then .inl (flt (av T n (av T n t)) 3)
      else .inr (addPa D (av T n t).2.2.2 (av T n (av T n t)).2.2.2, av T n (av T n (av T n t)))
    else .inl (flt (av T n (av T n t)) (nmZ (av T n (av T n t)) 0 (tI (D 1) - 1)))
  else .inl (flt (av T n t) (nmZ (av T n t) 0 (tI (D 1) - 1)))
def addBt (D : Int → Int32) (q v : Int) : Int → Int32 := uC (uC D q (zI (tI (D q) + 1))) (q + (tI (D q) + 1)) (zI v)
def pBt (T : Nat → Int) (n : Nat) (q : Int) : Nat → (Int → Int32) → TkS → PrR
  | 0, D, t => if nmZ t 0 (tI (D 1) - 1) = 0 then .inl (flt t 4) else .inl (flt t (nmZ t 0 (tI (D 1) - 1)))
  | m + 1, D, t => if nmZ t 0 (tI (D 1) - 1) = 0 then (if (av T n t).1 = 2 then pBt T n q m (addBt D q t.2.2.2) (av T n t) else .inr (addBt D q t.2.2.2, av T n t)) else .inl (flt t (nmZ t 0 (tI (D 1) - 1)))
def addWk (D : Int → Int32) (v : Int) : Int → Int32 := uC (uC D (38 + 2 * tI (D 3)) (zI v)) 3 (zI (tI (D 3) + 1))
def begWk (D : Int → Int32) : Int → Int32 := uC D (170 + 9 * tI (D 3)) (zI 0)
def pWalk (T : Nat → Int) (n : Nat) (D : Int → Int32) (t : TkS) : PrR :=
  if tI (D 3) = 4 then .inl (flt t 4) else
  if nmZ (av T n t) 0 (tI (D 1) - 1) = 0 then
    if isW T 6 (av T n (av T n t)) = true then bnd (pBt T n (170 + 9 * tI (D 3)) 8 (begWk D) (av T n (av T n (av T n t)))) (fun s => .inr (addWk s.1 (av T n t).2.2.2, s.2))
    else .inr (addWk (begWk D) (av T n t).2.2.2, av T n (av T n t))
  else .inl (flt (av T n t) (nmZ (av T n t) 0 (tI (D 1) - 1)))
def pStorm (T : Nat → Int) (n : Nat) (s : PrS) : PrR := bnd (pOne T n 166 1 99 s) (pOne T n 167 0 60)
def pKind (T : Nat → Int) (n : Nat) (D : Int → Int32) (t : TkS) : PrR :=
  if isW T 1 t = true then pPath T n D t else if isW T 2 t = true then pWalk T n D t else if isW T 3 t = true then pOne T n 4 1 60 (D, av T n t)
  else if isW T 4 t = true then pStorm T n (D, av T n t) else if isW T 5 t = true then pOne T n 168 1 99 (D, av T n t) else .inl (flt t 2)
def pLine (T : Nat → Int) (n : Nat) (D : Int → Int32) (t : TkS) : PrR := bnd (pKind T n D t) (pEnd T n)
def pLines (T : Nat → Int) (n : Nat) : Nat → (Int → Int32) → TkS → PrR
  | 0, D, t => .inr (D, t)
  | m + 1, D, t => if t.1 = 0 then .inr (D, t) else bnd (pLine T n D t) (fun s => pLines T n m s.1 s.2)
def pFirst (T : Nat → Int) (n : Nat) (D : Int → Int32) (t : TkS) : PrR := bnd (if isW T 0 t = true then pOne T n 1 1 10 (D, av T n t) else .inl (flt t 2)) (pEnd T n)
def pTell (T : Nat → Int) (n : Nat) (D : Int → Int32) (t : TkS) : PrR := bnd (pFirst T n D (av T n t)) (fun s => pLines T n n s.1 s.2)
/-! what holds of a plain half read -/
def PaJ (D : Int → Int32) (w : Int) : Prop := InvK D ∧ D 5 = zI 0 ∧ D 169 = zI 0 ∧ (∀ x, 0 ≤ x → x < 4 → D (39 + 2 * x) = zI 0 ∧ D (206 + x) = zI 0) ∧ (∀ x, 0 ≤ x → w ≤ x → x < 4 → D (170 + 9 * x) = zI 0)
def InP (n : Nat) (D : Int → Int32) (t : TkS) (w : Int) : Prop := PaJ D w ∧ TkN n t ∧ tI (D 0) ≤ t.2.1 ∧ n ≤ 600
theorem tz0 : tI (zI 0) = 0 := tI_zI (by omega)
theorem InvR_0 {D : Int → Int32} (h5 : D 5 = zI 0) (h9 : D 169 = zI 0) : InvR D := by
  unfold InvR
  rw [h5, h9, tz0]
  exact ⟨fun i h1 h2 => by omega, fun i h1 h2 => by omega, fun i h1 h2 => by omega, fun i j h1 h2 h3 => by omega⟩
theorem InvP_c {D D' : Int → Int32} (hA : tI (D 2) ≤ 16) (h1 : D' 1 = D 1) (h2 : D' 2 = D 2) (hk : ∀ k, 6 ≤ k → k < 38 → D' k = D k) (h : InvP D) : InvP D' := by
  obtain ⟨a, b, c⟩ := h
  refine ⟨fun k k1 k2 => ?_, fun k k1 k2 => ?_, fun i j i1 j1 hi => ?_⟩
  · rw [h2] at k2
    rw [hk _ (by omega) (by omega), h1]
    exact a k k1 k2
  · rw [h2] at k2
    rw [hk _ (by omega) (by omega), hk _ (by omega) (by omega)]
    exact b k k1 k2
  · rw [h2] at i1 j1
    refine c i j i1 j1 ?_
    unfold isP at hi ⊢
    rw [hk (6 + 2 * (i : Int)) (by omega) (by omega), hk (7 + 2 * (i : Int)) (by omega) (by omega), hk (6 + 2 * (j : Int)) (by omega) (by omega), hk (7 + 2 * (j : Int)) (by omega) (by omega)] at hi
    exact hi
theorem InvB_c {D D' : Int → Int32} (h1 : D' 1 = D 1) (h3 : D' 3 = D 3) (hk : ∀ k, 38 ≤ k → k < 46 → D' k = D k) (hb : ∀ k, 170 ≤ k → k < 210 → D' k = D k) (h : InvB D) : InvB D' := by
  intro x x1 x2
  obtain ⟨a, b, c, e, f, g⟩ := h x x1 x2
  rw [h1, h3, hb (170 + 9 * x) (by omega) (by omega), hb (206 + x) (by omega) (by omega), hk (39 + 2 * x) (by omega) (by omega), hk (38 + 2 * x) (by omega) (by omega)]
  refine ⟨a, fun k k1 k2 => ?_, c, e, f, g⟩
  rw [hb (171 + 9 * x + k) (by omega) (by omega)]
  exact b k k1 k2
/-- one of the single numbers changed -/
theorem PaJ_one {D : Int → Int32} {w i v : Int} (h : PaJ D w) (hi : (i = 0 ∧ 0 ≤ v ∧ v ≤ 600) ∨ (i = 4 ∧ 1 ≤ v ∧ v ≤ 60) ∨ (i = 166 ∧ 0 ≤ v ∧ v ≤ 99) ∨ (i = 167 ∧ 0 ≤ v ∧ v ≤ 60) ∨ (i = 168 ∧ 1 ≤ v ∧ v ≤ 99)) : PaJ (uC D i (zI v)) w := by
  obtain ⟨⟨hA, hP, hB, hR⟩, h5, h9, hz, hb⟩ := h
  have hA' := hA
  obtain ⟨a0, a1, a2, a3, a4, a5, a6, a7, a8, a9⟩ := hA
  rw [h5, tz0] at a5
  rw [h9, tz0] at a9
  have e5 : uC D i (zI v) 5 = zI 0 := by rw [uC_ne (by omega), h5]
  have e9 : uC D i (zI v) 169 = zI 0 := by rw [uC_ne (by omega), h9]
  have nn : ∀ j, j ≠ 0 → j ≠ 4 → j ≠ 166 → j ≠ 167 → j ≠ 168 → uC D i (zI v) j = D j := fun j j0 j1 j2 j3 j4 => uC_ne (by omega)
  have vv : tI (zI v) = v := tI_zI (by omega)
  have key : ∀ j, tI (uC D i (zI v) j) = if j = i then v else tI (D j) := fun j => by
    by_cases z : j = i
    · rw [if_pos z, z, uC_at, vv]
    · rw [if_neg z, uC_ne z]
  refine ⟨⟨⟨?_, ?_, ?_, ?_, ?_, ?_, ?_, ?_, ?_, ?_⟩, ?_, ?_, InvR_0 e5 e9⟩, e5, e9, fun x x1 x2 => ?_, fun x x0 x1 x2 => ?_⟩
  · rw [key]; split <;> omega
  · rw [key]; split <;> omega
  · rw [key]; split <;> omega
  · rw [key]; split <;> omega
  · rw [key]; split <;> omega
  · rw [e5, tz0, key]; split <;> omega
  · rw [key]; split <;> omega
  · rw [key]; split <;> omega
  · rw [key]; split <;> omega
  · rw [e9, tz0, key]; split <;> omega
  · exact InvP_c (by omega) (nn 1 (by omega) (by omega) (by omega) (by omega) (by omega)) (nn 2 (by omega) (by omega) (by omega) (by omega) (by omega)) (fun k k1 k2 => nn k (by omega) (by omega) (by omega) (by omega) (by omega)) hP
  · exact InvB_c (nn 1 (by omega) (by omega) (by omega) (by omega) (by omega)) (nn 3 (by omega) (by omega) (by omega) (by omega) (by omega)) (fun k k1 k2 => nn k (by omega) (by omega) (by omega) (by omega) (by omega)) (fun k k1 k2 => nn k (by omega) (by omega) (by omega) (by omega) (by omega)) hB
  · obtain ⟨z1, z2⟩ := hz x x1 x2
    exact ⟨by rw [nn _ (by omega) (by omega) (by omega) (by omega) (by omega)]; exact z1, by rw [nn _ (by omega) (by omega) (by omega) (by omega) (by omega)]; exact z2⟩
  · rw [nn _ (by omega) (by omega) (by omega) (by omega) (by omega)]; exact hb x x0 x1 x2
end S94zzh
