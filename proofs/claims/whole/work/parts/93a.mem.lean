/-! MEMORY: the heap as numbers by handles. Written by wip/whole/gen_mem.py -/
section MA
set_option maxRecDepth 100000
/-! numbers -/
def zI (x : Int) : Int32 := Int32.ofInt x
def zJ (x : Int) : Int64 := Int64.ofInt x
def tI (x : Int32) : Int := x.toInt
def tJ (x : Int64) : Int := x.toInt
theorem zI_tI (x : Int32) : zI (tI x) = x := Int32.ofInt_toInt x
theorem zJ_tJ (x : Int64) : zJ (tJ x) = x := Int64.ofInt_toInt x
theorem tI_zI {a : Int} (h : -2147483648 ≤ a ∧ a ≤ 2147483647) : tI (zI a) = a := Int32.toInt_ofInt_of_le (by omega) (by omega)
theorem tJ_zJ {a : Int} (h : -9223372036854775808 ≤ a ∧ a ≤ 9223372036854775807) : tJ (zJ a) = a := Int64.toInt_ofInt_of_le (by omega) (by omega)
theorem tI_rg (x : Int32) : -2147483648 ≤ tI x ∧ tI x ≤ 2147483647 := by
  have h1 := x.le_toInt
  have h2 := x.toInt_lt
  unfold tI
  omega
theorem tJ_rg (x : Int64) : -9223372036854775808 ≤ tJ x ∧ tJ x ≤ 9223372036854775807 := by
  have h1 := x.le_toInt
  have h2 := x.toInt_lt
  unfold tJ
  omega
theorem tI_inj {x y : Int32} (h : tI x = tI y) : x = y := Int32.toInt_inj.mp h
theorem tJ_inj {x y : Int64} (h : tJ x = tJ y) : x = y := Int64.toInt_inj.mp h
theorem zI_add (a b : Int) : zI a + zI b = zI (a + b) := (Int32.ofInt_add a b).symm
theorem zI_sub (a b : Int) : zI a - zI b = zI (a - b) := (Int32.ofInt_sub a b).symm
theorem zI_mul (a b : Int) : zI a * zI b = zI (a * b) := (Int32.ofInt_mul a b).symm
theorem zI_neg (a : Int) : -zI a = zI (-a) := (Int32.ofInt_neg a).symm
theorem zJ_add (a b : Int) : zJ a + zJ b = zJ (a + b) := (Int64.ofInt_add a b).symm
theorem zJ_sub (a b : Int) : zJ a - zJ b = zJ (a - b) := (Int64.ofInt_sub a b).symm
theorem zJ_mul (a b : Int) : zJ a * zJ b = zJ (a * b) := (Int64.ofInt_mul a b).symm
theorem zJ_neg (a : Int) : -zJ a = zJ (-a) := (Int64.ofInt_neg a).symm
theorem litI (n : Nat) : (OfNat.ofNat n : Int32) = zI (OfNat.ofNat n : Int) := (Int32.ofInt_eq_ofNat (n := n)).symm
theorem litJ (n : Nat) : (OfNat.ofNat n : Int64) = zJ (OfNat.ofNat n : Int) := (Int64.ofInt_eq_ofNat (n := n)).symm
theorem leT {a b : Int} (h : a ≤ b ∧ -2147483648 ≤ a ∧ b ≤ 2147483647) : (zI a ≤ zI b) = True := eq_true (by
  rw [Int32.le_iff_toInt_le]; show tI (zI a) ≤ tI (zI b); rw [tI_zI (by omega), tI_zI (by omega)]; exact h.1)
theorem leF {a b : Int} (h : b < a ∧ -2147483648 ≤ b ∧ a ≤ 2147483647) : (zI a ≤ zI b) = False := eq_false (by
  rw [Int32.le_iff_toInt_le]; show ¬ tI (zI a) ≤ tI (zI b); rw [tI_zI (by omega), tI_zI (by omega)]; omega)
theorem ltT {a b : Int} (h : a < b ∧ -2147483648 ≤ a ∧ b ≤ 2147483647) : (zI a < zI b) = True := eq_true (by
  rw [Int32.lt_iff_toInt_lt]; show tI (zI a) < tI (zI b); rw [tI_zI (by omega), tI_zI (by omega)]; exact h.1)
theorem ltF {a b : Int} (h : b ≤ a ∧ -2147483648 ≤ b ∧ a ≤ 2147483647) : (zI a < zI b) = False := eq_false (by
  rw [Int32.lt_iff_toInt_lt]; show ¬ tI (zI a) < tI (zI b); rw [tI_zI (by omega), tI_zI (by omega)]; omega)
theorem eqT {a b : Int} (h : a = b) : (zI a = zI b) = True := eq_true (by rw [h])
theorem eqF {a b : Int} (h : a ≠ b ∧ -2147483648 ≤ a ∧ a ≤ 2147483647 ∧ -2147483648 ≤ b ∧ b ≤ 2147483647) : (zI a = zI b) = False := eq_false (fun e => h.1 (by
  have := congrArg tI e
  rwa [tI_zI (by omega), tI_zI (by omega)] at this))
theorem leI {a b : Int} (h : -2147483648 ≤ a ∧ a ≤ 2147483647 ∧ -2147483648 ≤ b ∧ b ≤ 2147483647) : (zI a ≤ zI b) = (a ≤ b) := by
  rw [Int32.le_iff_toInt_le]; show (tI (zI a) ≤ tI (zI b)) = _; rw [tI_zI (by omega), tI_zI (by omega)]
theorem ltI {a b : Int} (h : -2147483648 ≤ a ∧ a ≤ 2147483647 ∧ -2147483648 ≤ b ∧ b ≤ 2147483647) : (zI a < zI b) = (a < b) := by
  rw [Int32.lt_iff_toInt_lt]; show (tI (zI a) < tI (zI b)) = _; rw [tI_zI (by omega), tI_zI (by omega)]
theorem eqI {a b : Int} (h : -2147483648 ≤ a ∧ a ≤ 2147483647 ∧ -2147483648 ≤ b ∧ b ≤ 2147483647) : (zI a = zI b) = (a = b) := propext ⟨fun e => by
  have := congrArg tI e
  rwa [tI_zI (by omega), tI_zI (by omega)] at this, fun e => by rw [e]⟩
theorem zI_i2l {a : Int} (h : -2147483648 ≤ a ∧ a ≤ 2147483647) : Int32.toInt64 (zI a) = zJ a := Int32.toInt64_ofInt (show -2147483648 ≤ a from h.1) (show a ≤ 2147483647 from h.2)
theorem zJ_l2i (a : Int) : Int64.toInt32 (zJ a) = zI a := Int64.toInt32_ofInt
theorem tI_i2l (x : Int32) : tJ (Int32.toInt64 x) = tI x := Int32.toInt_toInt64 x
/-- comparing longs -/
theorem cmpJ {a b : Int} (h : -9223372036854775808 ≤ a ∧ a ≤ 9223372036854775807 ∧ -9223372036854775808 ≤ b ∧ b ≤ 9223372036854775807) : lg_cmp (zJ a) (zJ b) = zI (if b < a then 1 else if a = b then 0 else -1) := by
  have e1 : (zJ a > zJ b) = (b < a) := by
    show (zJ b < zJ a) = _
    rw [Int64.lt_iff_toInt_lt]; show (tJ (zJ b) < tJ (zJ a)) = _; rw [tJ_zJ (by omega), tJ_zJ (by omega)]
  have e2 : (zJ a = zJ b) = (a = b) := propext ⟨fun e => by
    have := congrArg tJ e
    rwa [tJ_zJ (by omega), tJ_zJ (by omega)] at this, fun e => by rw [e]⟩
  unfold lg_cmp
  simp only [e1, e2]
  by_cases h1 : b < a
  · rw [if_pos h1, if_pos h1]; rfl
  · rw [if_neg h1, if_neg h1]
    by_cases h2 : a = b
    · rw [if_pos h2, if_pos h2]; rfl
    · rw [if_neg h2, if_neg h2]; rfl
theorem cmpJ_lt {a b : Int} (h : -9223372036854775808 ≤ a ∧ a ≤ 9223372036854775807 ∧ -9223372036854775808 ≤ b ∧ b ≤ 9223372036854775807) : (lg_cmp (zJ a) (zJ b) < zI 0) = (a < b) := by
  rw [cmpJ h, ltI (by split <;> (try split) <;> omega)]; exact propext (by split <;> (try split) <;> omega)
theorem cmpJ_le {a b : Int} (h : -9223372036854775808 ≤ a ∧ a ≤ 9223372036854775807 ∧ -9223372036854775808 ≤ b ∧ b ≤ 9223372036854775807) : (lg_cmp (zJ a) (zJ b) ≤ zI 0) = (a ≤ b) := by
  rw [cmpJ h, leI (by split <;> (try split) <;> omega)]; exact propext (by split <;> (try split) <;> omega)
theorem cmpJ_ge {a b : Int} (h : -9223372036854775808 ≤ a ∧ a ≤ 9223372036854775807 ∧ -9223372036854775808 ≤ b ∧ b ≤ 9223372036854775807) : (zI 0 ≤ lg_cmp (zJ a) (zJ b)) = (b ≤ a) := by
  rw [cmpJ h, leI (by split <;> (try split) <;> omega)]; exact propext (by split <;> (try split) <;> omega)
theorem cmpJ_gt {a b : Int} (h : -9223372036854775808 ≤ a ∧ a ≤ 9223372036854775807 ∧ -9223372036854775808 ≤ b ∧ b ≤ 9223372036854775807) : (zI 0 < lg_cmp (zJ a) (zJ b)) = (b < a) := by
  rw [cmpJ h, ltI (by split <;> (try split) <;> omega)]; exact propext (by split <;> (try split) <;> omega)
theorem cmpJ_eq {a b : Int} (h : -9223372036854775808 ≤ a ∧ a ≤ 9223372036854775807 ∧ -9223372036854775808 ≤ b ∧ b ≤ 9223372036854775807) : (lg_cmp (zJ a) (zJ b) = zI 0) = (a = b) := by
  rw [cmpJ h, eqI (by split <;> (try split) <;> omega)]; exact propext (by split <;> (try split) <;> omega)
theorem dIdiv {a b : Int} (h : 0 ≤ a ∧ a ≤ 2147483647 ∧ 0 < b ∧ b ≤ 2147483647) : d_idiv (zI a) (zI b) = some (zI (a / b)) := by
  have e2 : ¬ zI b = 0 := fun e => by
    have e3 := congrArg tI e
    rw [tI_zI (by omega)] at e3
    have h9 : tI 0 = 0 := by rfl
    omega
  unfold d_idiv
  rw [if_neg e2]
  refine congrArg some (tI_inj ?_)
  show ((zI a) / (zI b)).toInt = _
  have hq : 0 ≤ a / b := Int.ediv_nonneg h.1 (by omega)
  have hq2 : a / b ≤ a := Int.ediv_le_self _ h.1
  rw [Int32.toInt_div_of_ne_right _ _ (by
    intro e
    have := congrArg tI e
    rw [tI_zI (by omega)] at this
    have h9 : tI (-1) = -1 := by rfl
    omega)]
  show (tI (zI a)).tdiv (tI (zI b)) = tI (zI (a / b))
  rw [tI_zI (by omega), tI_zI (by omega), tI_zI (by omega), Int.tdiv_eq_ediv_of_nonneg h.1]
theorem dIrem {a b : Int} (h : 0 ≤ a ∧ a ≤ 2147483647 ∧ 0 < b ∧ b ≤ 2147483647) : d_irem (zI a) (zI b) = some (zI (a % b)) := by
  have h1 := dIdiv h
  unfold d_idiv at h1
  unfold d_irem
  have e2 : ¬ zI b = 0 := fun e => by
    have e3 := congrArg tI e
    rw [tI_zI (by omega)] at e3
    have h9 : tI 0 = 0 := by rfl
    omega
  rw [if_neg e2] at h1 ⊢
  injection h1 with h1
  rw [h1, zI_mul, zI_sub]
  refine congrArg (fun z => some (zI z)) ?_
  rw [Int.emod_def, Int.mul_comm]
theorem dLdiv {a b : Int} (h : 0 ≤ a ∧ a ≤ 9223372036854775807 ∧ 0 < b ∧ b ≤ 9223372036854775807) : d_ldiv (zJ a) (zJ b) = some (zJ (a / b)) := by
  have e2 : ∀ b : Int, 0 < b → b ≤ 9223372036854775807 → ¬ zJ b = 0 := fun b h1 h2 e => by
    have e3 := congrArg tJ e
    rw [tJ_zJ (by omega)] at e3
    have h9 : tJ 0 = 0 := by rfl
    omega
  unfold d_ldiv
  rw [if_neg (e2 b h.2.2.1 h.2.2.2)]
  refine congrArg some (tJ_inj ?_)
  show ((zJ a) / (zJ b)).toInt = _
  have hq : 0 ≤ a / b := Int.ediv_nonneg h.1 (by omega)
  have hq2 : a / b ≤ a := Int.ediv_le_self _ h.1
  rw [Int64.toInt_div_of_ne_right _ _ (by
    intro e
    have := congrArg tJ e
    rw [tJ_zJ (by omega)] at this
    have h9 : tJ (-1) = -1 := by rfl
    omega)]
  show (tJ (zJ a)).tdiv (tJ (zJ b)) = tJ (zJ (a / b))
  rw [tJ_zJ (by omega), tJ_zJ (by omega), tJ_zJ (by omega), Int.tdiv_eq_ediv_of_nonneg h.1]
theorem dLrem {a b : Int} (h : 0 ≤ a ∧ a ≤ 9223372036854775807 ∧ 0 < b ∧ b ≤ 9223372036854775807) : d_lrem (zJ a) (zJ b) = some (zJ (a % b)) := by
  have e2 : ∀ b : Int, 0 < b → b ≤ 9223372036854775807 → ¬ zJ b = 0 := fun b h1 h2 e => by
    have e3 := congrArg tJ e
    rw [tJ_zJ (by omega)] at e3
    have h9 : tJ 0 = 0 := by rfl
    omega
  have h1 := dLdiv h
  unfold d_ldiv at h1
  unfold d_lrem
  rw [if_neg (e2 b h.2.2.1 h.2.2.2)] at h1 ⊢
  injection h1 with h1
  rw [h1, zJ_mul, zJ_sub]
  refine congrArg (fun z => some (zJ z)) ?_
  rw [Int.emod_def, Int.mul_comm]
/-! the memory -/
abbrev ShP : Type := Nat × Nat × Nat
abbrev EnQ : Type := Nat × Nat × (Nat → ShP) × (Nat → Int → Nat)
def sh0 (q : Nat) : ShP := bif Nat.ble q 131 then (bif Nat.ble q 73 then (bif Nat.ble q 44 then (bif Nat.ble q 30 then (bif Nat.ble q 23 then (bif Nat.ble q 19 then (bif Nat.ble q 17 then (bif Nat.ble q 16 then ((1, 11, 0)) else ((2, 1, 600))) else (bif Nat.ble q 18 then ((1, 5, 0)) else ((1, 2, 0)))) else (bif Nat.ble q 21 then (bif Nat.ble q 20 then ((2, 0, 32)) else ((2, 0, 100))) else ((2, 0, 4)))) else (bif Nat.ble q 27 then (bif Nat.ble q 25 then (bif Nat.ble q 24 then ((2, 0, 32)) else ((2, 0, 99))) else (bif Nat.ble q 26 then ((2, 0, 99)) else ((2, 0, 4)))) else (bif Nat.ble q 29 then ((2, 0, 4)) else ((1, 5, 0))))) else (bif Nat.ble q 37 then (bif Nat.ble q 34 then (bif Nat.ble q 32 then (bif Nat.ble q 31 then ((1, 2, 0)) else ((2, 0, 32))) else (bif Nat.ble q 33 then ((2, 0, 100)) else ((2, 0, 4)))) else (bif Nat.ble q 36 then (bif Nat.ble q 35 then ((2, 0, 4)) else ((2, 0, 32))) else ((2, 0, 99)))) else (bif Nat.ble q 41 then (bif Nat.ble q 39 then (bif Nat.ble q 38 then ((2, 0, 99)) else ((2, 0, 4))) else ((2, 0, 4))) else (bif Nat.ble q 43 then (bif Nat.ble q 42 then ((4, 4, 3)) else ((4, 5, 4))) else ((1, 1, 0)))))) else (bif Nat.ble q 59 then (bif Nat.ble q 52 then (bif Nat.ble q 48 then (bif Nat.ble q 46 then (bif Nat.ble q 45 then ((2, 0, 10)) else ((1, 1, 0))) else (bif Nat.ble q 47 then ((2, 0, 10)) else ((1, 8, 0)))) else (bif Nat.ble q 50 then (bif Nat.ble q 49 then ((4, 6, 121)) else ((2, 0, 70))) else ((2, 0, 70)))) else ((2, 0, 70))) else ((2, 0, 70)))) else ((2, 0, 70))) else (bif Nat.ble q 189 then (bif Nat.ble q 160 then ((2, 0, 70)) else (bif Nat.ble q 175 then (bif Nat.ble q 168 then ((2, 0, 70)) else (bif Nat.ble q 172 then (bif Nat.ble q 170 then ((2, 0, 70)) else (bif Nat.ble q 171 then ((1, 0, 0)) else ((2, 0, 4)))) else (bif Nat.ble q 174 then (bif Nat.ble q 173 then ((4, 6, 4)) else ((2, 0, 60))) else ((2, 0, 60))))) else (bif Nat.ble q 182 then (bif Nat.ble q 179 then (bif Nat.ble q 177 then ((2, 0, 60)) else (bif Nat.ble q 178 then ((1, 6, 0)) else ((1, 2, 0)))) else (bif Nat.ble q 181 then (bif Nat.ble q 180 then ((2, 0, 32)) else ((2, 0, 100))) else ((2, 0, 4)))) else (bif Nat.ble q 186 then (bif Nat.ble q 184 then (bif Nat.ble q 183 then ((2, 0, 4)) else ((2, 0, 32))) else ((2, 0, 14))) else (bif Nat.ble q 188 then ((2, 0, 14)) else ((3, 0, 16384))))))) else (bif Nat.ble q 218 then (bif Nat.ble q 204 then (bif Nat.ble q 197 then (bif Nat.ble q 193 then (bif Nat.ble q 191 then (bif Nat.ble q 190 then ((3, 0, 16384)) else ((2, 0, 16384))) else (bif Nat.ble q 192 then ((1, 10, 0)) else ((1, 2, 0)))) else (bif Nat.ble q 195 then (bif Nat.ble q 194 then ((2, 0, 32)) else ((2, 0, 100))) else ((2, 0, 4)))) else (bif Nat.ble q 201 then (bif Nat.ble q 199 then (bif Nat.ble q 198 then ((2, 0, 32)) else ((2, 0, 7))) else (bif Nat.ble q 200 then ((2, 0, 7)) else ((1, 4, 0)))) else (bif Nat.ble q 203 then (bif Nat.ble q 202 then ((2, 0, 32)) else ((2, 0, 4096))) else ((2, 0, 4096))))) else (bif Nat.ble q 211 then (bif Nat.ble q 208 then (bif Nat.ble q 206 then (bif Nat.ble q 205 then ((1, 9, 0)) else ((3, 0, 4096))) else (bif Nat.ble q 207 then ((2, 0, 32)) else ((2, 0, 6)))) else (bif Nat.ble q 210 then (bif Nat.ble q 209 then ((1, 7, 0)) else ((3, 0, 30))) else ((1, 7, 0)))) else (bif Nat.ble q 215 then (bif Nat.ble q 213 then (bif Nat.ble q 212 then ((3, 0, 30)) else ((1, 7, 0))) else (bif Nat.ble q 214 then ((3, 0, 30)) else ((1, 7, 0)))) else (bif Nat.ble q 217 then (bif Nat.ble q 216 then ((3, 0, 30)) else ((1, 12, 0))) else ((2, 0, 408)))))) else (bif Nat.ble q 232 then (bif Nat.ble q 225 then (bif Nat.ble q 222 then (bif Nat.ble q 220 then ((2, 0, 408)) else (bif Nat.ble q 221 then ((2, 0, 1224)) else ((2, 2, 3)))) else (bif Nat.ble q 224 then (bif Nat.ble q 223 then ((2, 0, 600)) else ((2, 0, 10))) else ((2, 0, 60)))) else (bif Nat.ble q 229 then (bif Nat.ble q 227 then (bif Nat.ble q 226 then ((2, 0, 60)) else ((2, 0, 16214))) else ((2, 0, 3))) else (bif Nat.ble q 231 then (bif Nat.ble q 230 then ((2, 0, 1632)) else ((2, 0, 4))) else ((2, 0, 124))))) else (bif Nat.ble q 239 then (bif Nat.ble q 236 then (bif Nat.ble q 234 then ((2, 0, 32)) else (bif Nat.ble q 235 then ((2, 0, 64)) else ((2, 0, 8192)))) else (bif Nat.ble q 238 then (bif Nat.ble q 237 then ((2, 0, 6)) else ((2, 2, 8192))) else ((2, 0, 8)))) else (bif Nat.ble q 243 then (bif Nat.ble q 241 then ((2, 0, 2560)) else (bif Nat.ble q 242 then ((2, 0, 32)) else ((2, 0, 4)))) else (bif Nat.ble q 245 then (bif Nat.ble q 244 then ((2, 0, 4)) else ((3, 0, 120))) else ((3, 0, 1))))))))
def shx (E : EnQ) (q : Nat) : ShP := bif Nat.ble 16 q && Nat.ble q 246 then sh0 q else E.2.2.1 q
def rfQ (E : EnQ) (a : Nat) (k : Int) : Nat := E.2.2.2 a k
def uR {α : Type} (F : Nat → Int → α) (a : Nat) (r : Int → α) : Nat → Int → α := fun b => if b = a then r else F b
def uC {α : Type} (f : Int → α) (i : Int) (x : α) : Int → α := fun j => if j = i then x else f j
def uE (E : EnQ) (a : Nat) (k : Int) (x : Nat) : EnQ := (E.1, E.2.1, E.2.2.1, uR E.2.2.2 a (uC (E.2.2.2 a) k x))
def jE (E : EnQ) : EnQ := (E.1 + 1, E.2.1 + 6, E.2.2.1, E.2.2.2)
def kindP (ci : Nat) : List Nat := match ci with
  | 0 => [4, 5] | 1 => [4] | 2 => [0, 0, 0, 0, 0, 0, 0, 0, 4, 5, 6, 7, 8] | 3 => [2, 0, 0, 0, 0, 0, 0, 0] | 4 => [4, 0, 0, 5, 6] | 5 => [2, 0, 0, 0, 0, 10, 11, 12, 13, 14] | 6 => [2, 0, 0, 10, 11, 12, 13, 14, 15, 16] | 7 => [0, 0, 4] | 8 => [4, 0, 0] | 9 => [0, 4] | 10 => [2, 0, 0, 10, 11] | 11 => [4, 0, 0, 0, 5, 17, 29, 30, 31, 33, 35, 158, 165, 179, 188, 192, 194, 195, 0, 0] | 12 => [4, 5, 6, 7, 8, 0, 9, 0, 0, 0, 0, 0, 0, 0, 0, 0, 0, 10, 0, 0, 11, 12, 0, 13, 14, 15, 16, 0, 0, 0, 17, 18, 19, 20, 21, 0, 0, 0, 0, 1, 1, 0, 22, 23, 24, 0, 25, 26, 27, 0, 1, 28, 0, 29, 30, 31]
  | _ => []
def fvP (a : Nat) (f : Int → Int32) (g : Int → Int64) (r : Int → Nat) (k : Nat) : Nat → Value
  | 0 => .int (f k)
  | 1 => .long (g k)
  | 2 => .ref (r k)
  | j + 3 => .ref (a + j)
def fsP (ks : List Nat) (a : Nat) (f : Int → Int32) (g : Int → Int64) (r : Int → Nat) : List Value := ks.mapIdx fun k kd => fvP a f g r k kd
def cellP (s : ShP) (a : Nat) (f : Int → Int32) (g : Int → Int64) (r : Int → Nat) : Option CellP := match s with
  | (1, ci, _) => some (pO ci (fsP (kindP ci) a f g r))
  | (2, ty, n) => some (pI ty n (fun i => f i))
  | (3, _, n) => some (pJ n (fun i => g i))
  | (4, ty, n) => some (pR ty n (fun i => if r i = 0 then none else some (r i)))
  | _ => none
def mk (E : EnQ) (F : Nat → Int → Int32) (G : Nat → Int → Int64) : HeapP := (E.1, E.2.1, fun q => cellP (shx E q) q (F q) (G q) (E.2.2.2 q))
theorem uR_at {α : Type} {F : Nat → Int → α} {a : Nat} {r : Int → α} : uR F a r a = r := if_pos rfl
theorem uR_ne {α : Type} {F : Nat → Int → α} {a b : Nat} {r : Int → α} (h : b ≠ a) : uR F a r b = F b := if_neg h
theorem uR_uR {α : Type} {F : Nat → Int → α} {a : Nat} {r s : Int → α} : uR (uR F a r) a s = uR F a s := by
  funext b; unfold uR; by_cases e : b = a
  · rw [if_pos e, if_pos e]
  · rw [if_neg e, if_neg e, if_neg e]
theorem uR_comm {α : Type} {F : Nat → Int → α} {a b : Nat} {r s : Int → α} (h : a ≠ b) : uR (uR F a r) b s = uR (uR F b s) a r := by
  funext c; unfold uR; by_cases e : c = b
  · have : c ≠ a := fun z => h (z.symm.trans e)
    rw [if_pos e, if_neg this, if_pos e]
  · rw [if_neg e, if_neg e]
theorem uR_self {α : Type} {F : Nat → Int → α} {a : Nat} : uR F a (F a) = F := by
  funext b; unfold uR; by_cases e : b = a
  · rw [if_pos e, e]
  · rw [if_neg e]
theorem uC_at {α : Type} {f : Int → α} {i : Int} {x : α} : uC f i x i = x := if_pos rfl
theorem uC_eq {α : Type} {f : Int → α} {i j : Int} {x : α} (h : j = i) : uC f i x j = x := if_pos h
theorem uC_ne {α : Type} {f : Int → α} {i j : Int} {x : α} (h : j ≠ i) : uC f i x j = f j := if_neg h
theorem uC_uC {α : Type} {f : Int → α} {i : Int} {x y : α} : uC (uC f i x) i y = uC f i y := by
  funext j; unfold uC; by_cases e : j = i
  · rw [if_pos e, if_pos e]
  · rw [if_neg e, if_neg e, if_neg e]
theorem uC_comm {α : Type} {f : Int → α} {i j : Int} {x y : α} (h : i ≠ j) : uC (uC f i x) j y = uC (uC f j y) i x := by
  funext k; unfold uC; by_cases e : k = j
  · have : k ≠ i := fun z => h (z.symm.trans e)
    rw [if_pos e, if_neg this, if_pos e]
  · rw [if_neg e, if_neg e]
theorem uC_self {α : Type} {f : Int → α} {i : Int} : uC f i (f i) = f := by
  funext j; unfold uC; by_cases e : j = i
  · rw [if_pos e, e]
  · rw [if_neg e]
theorem mk_at {E : EnQ} {F : Nat → Int → Int32} {G : Nat → Int → Int64} {a : Nat} {s : ShP} (hs : shx E a = s) : (mk E F G).2.2 a = cellP s a (F a) (G a) (E.2.2.2 a) := by
  show cellP (shx E a) a (F a) (G a) (E.2.2.2 a) = _; rw [hs]
theorem hset_F {E : EnQ} {F : Nat → Int → Int32} {G : Nat → Int → Int64} {a : Nat} {c : CellP} {r : Int → Int32} (hc : cellP (shx E a) a r (G a) (E.2.2.2 a) = some c) : hset (mk E F G) a c = mk E (uR F a r) G := by
  unfold hset mk
  refine congrArg (fun z => (E.1, E.2.1, z)) (funext fun q => ?_)
  by_cases e : q = a
  · subst e; rw [uR_at, hc]; exact if_pos rfl
  · rw [uR_ne e]; exact if_neg e
theorem hset_G {E : EnQ} {F : Nat → Int → Int32} {G : Nat → Int → Int64} {a : Nat} {c : CellP} {r : Int → Int64} (hc : cellP (shx E a) a (F a) r (E.2.2.2 a) = some c) : hset (mk E F G) a c = mk E F (uR G a r) := by
  unfold hset mk
  refine congrArg (fun z => (E.1, E.2.1, z)) (funext fun q => ?_)
  by_cases e : q = a
  · subst e; rw [uR_at, hc]; exact if_pos rfl
  · rw [uR_ne e]; exact if_neg e
theorem hset_R {E : EnQ} {F : Nat → Int → Int32} {G : Nat → Int → Int64} {a : Nat} {c : CellP} {k : Int} {x : Nat} (hc : cellP (shx E a) a (F a) (G a) (uC (E.2.2.2 a) k x) = some c) : hset (mk E F G) a c = mk (uE E a k x) F G := by
  unfold hset mk uE
  refine congrArg (fun z => (E.1, E.2.1, z)) (funext fun q => ?_)
  have hs : ∀ q, shx (E.1, E.2.1, E.2.2.1, uR E.2.2.2 a (uC (E.2.2.2 a) k x)) q = shx E q := fun _ => rfl
  rw [hs]
  by_cases e : q = a
  · subst e
    show _ = cellP (shx E q) q (F q) (G q) (uR E.2.2.2 q (uC (E.2.2.2 q) k x) q)
    rw [uR_at, hc]; exact if_pos rfl
  · show _ = cellP (shx E q) q (F q) (G q) (uR E.2.2.2 a (uC (E.2.2.2 a) k x) q)
    rw [uR_ne e]; exact if_neg e
theorem fs_get {ks : List Nat} {a : Nat} {f : Int → Int32} {g : Int → Int64} {r : Int → Nat} {k kd : Nat} (hk : ks[k]? = some kd) : (fsP ks a f g r)[k]? = some (fvP a f g r k kd) := by
  unfold fsP; rw [List.getElem?_mapIdx, hk]; rfl
theorem fs_len {ks : List Nat} {a : Nat} {f : Int → Int32} {g : Int → Int64} {r : Int → Nat} : (fsP ks a f g r).length = ks.length := by unfold fsP; exact List.length_mapIdx
theorem fs_set {ks : List Nat} {a : Nat} {f f' : Int → Int32} {g g' : Int → Int64} {r r' : Int → Nat} {k : Nat} {v : Value}
    (h1 : ∀ kd, ks[k]? = some kd → fvP a f' g' r' k kd = v) (h2 : ∀ j kd, j ≠ k → ks[j]? = some kd → fvP a f' g' r' j kd = fvP a f g r j kd) : (fsP ks a f g r).set k v = fsP ks a f' g' r' := by
  refine List.ext_getElem? fun j => ?_
  rw [List.getElem?_set]
  by_cases e : k = j
  · subst e
    rw [if_pos rfl]
    cases hk : ks[k]? with
    | none =>
      have hl : ¬ k < ks.length := fun z => by rw [List.getElem?_eq_getElem z] at hk; cases hk
      rw [fs_len, if_neg hl]
      unfold fsP; rw [List.getElem?_mapIdx, hk]; rfl
    | some kd =>
      have hl : k < ks.length := (List.getElem?_eq_some_iff.mp hk).1
      rw [fs_len, if_pos hl, fs_get hk, h1 kd hk]
  · rw [if_neg e]
    unfold fsP
    rw [List.getElem?_mapIdx, List.getElem?_mapIdx]
    cases hk : ks[j]? with
    | none => rfl
    | some kd => exact congrArg some (h2 j kd (fun z => e z.symm) hk).symm
def rdT (h : HeapP) (ci a k : Nat) : Option Int := (rdI h ci a k).map tI
def rdJT (h : HeapP) (ci a k : Nat) : Option Int := (rdJ h ci a k).map tJ
def alT (h : HeapP) (ty a : Nat) (i : Int32) : Option Int := (aldI h ty a i).map tI
def alJT (h : HeapP) (a : Nat) (i : Int32) : Option Int := (aldJ h a i).map tJ
def lenT (h : HeapP) (a : Nat) : Option Int := (alenP h a).map tI
def oT (o : Option Int32) : Option Int := o.map tI
def oJT (o : Option Int64) : Option Int := o.map tJ
theorem bI {α : Type} (o : Option Int32) (f : Int32 → Option α) : o.bind f = (oT o).bind fun q => f (zI q) := by
  cases o with
  | none => rfl
  | some x => show f x = f (zI (tI x)); rw [zI_tI]
theorem bJ {α : Type} (o : Option Int64) (f : Int64 → Option α) : o.bind f = (oJT o).bind fun q => f (zJ q) := by
  cases o with
  | none => rfl
  | some x => show f x = f (zJ (tJ x)); rw [zJ_tJ]
theorem n_rd {α : Type} (h : HeapP) (ci a k : Nat) (f : Int32 → Option α) : (rdI h ci a k).bind f = (rdT h ci a k).bind fun q => f (zI q) := bI _ _
theorem n_rdJ {α : Type} (h : HeapP) (ci a k : Nat) (f : Int64 → Option α) : (rdJ h ci a k).bind f = (rdJT h ci a k).bind fun q => f (zJ q) := bJ _ _
theorem n_al {α : Type} (h : HeapP) (ty a : Nat) (i : Int32) (f : Int32 → Option α) : (aldI h ty a i).bind f = (alT h ty a i).bind fun q => f (zI q) := bI _ _
theorem n_alJ {α : Type} (h : HeapP) (a : Nat) (i : Int32) (f : Int64 → Option α) : (aldJ h a i).bind f = (alJT h a i).bind fun q => f (zJ q) := bJ _ _
theorem n_len {α : Type} (h : HeapP) (a : Nat) (f : Int32 → Option α) : (alenP h a).bind f = (lenT h a).bind fun q => f (zI q) := bI _ _
theorem n_idiv {α : Type} (x y : Int32) (f : Int32 → Option α) : (d_idiv x y).bind f = (oT (d_idiv x y)).bind fun q => f (zI q) := bI _ _
theorem n_irem {α : Type} (x y : Int32) (f : Int32 → Option α) : (d_irem x y).bind f = (oT (d_irem x y)).bind fun q => f (zI q) := bI _ _
theorem n_ldiv {α : Type} (x y : Int64) (f : Int64 → Option α) : (d_ldiv x y).bind f = (oJT (d_ldiv x y)).bind fun q => f (zJ q) := bJ _ _
theorem n_lrem {α : Type} (x y : Int64) (f : Int64 → Option α) : (d_lrem x y).bind f = (oJT (d_lrem x y)).bind fun q => f (zJ q) := bJ _ _
theorem b_idiv {α : Type} {a b : Int} {f : Int → Option α} (h : 0 ≤ a ∧ a ≤ 2147483647 ∧ 0 < b ∧ b ≤ 2147483647) : (oT (d_idiv (zI a) (zI b))).bind f = f (a / b) := by
  rw [dIdiv h]; show f (tI (zI (a / b))) = _
  have hq : 0 ≤ a / b := Int.ediv_nonneg h.1 (by omega)
  have hq2 : a / b ≤ a := Int.ediv_le_self _ h.1
  rw [tI_zI (by omega)]
theorem b_irem {α : Type} {a b : Int} {f : Int → Option α} (h : 0 ≤ a ∧ a ≤ 2147483647 ∧ 0 < b ∧ b ≤ 2147483647) : (oT (d_irem (zI a) (zI b))).bind f = f (a % b) := by
  rw [dIrem h]; show f (tI (zI (a % b))) = _
  have hq : 0 ≤ a % b := Int.emod_nonneg _ (by omega)
  have hq2 : a % b < b := Int.emod_lt_of_pos _ h.2.2.1
  rw [tI_zI (by omega)]
theorem b_ldiv {α : Type} {a b : Int} {f : Int → Option α} (h : 0 ≤ a ∧ a ≤ 9223372036854775807 ∧ 0 < b ∧ b ≤ 9223372036854775807) : (oJT (d_ldiv (zJ a) (zJ b))).bind f = f (a / b) := by
  rw [dLdiv h]; show f (tJ (zJ (a / b))) = _
  have hq : 0 ≤ a / b := Int.ediv_nonneg h.1 (by omega)
  have hq2 : a / b ≤ a := Int.ediv_le_self _ h.1
  rw [tJ_zJ (by omega)]
theorem b_lrem {α : Type} {a b : Int} {f : Int → Option α} (h : 0 ≤ a ∧ a ≤ 9223372036854775807 ∧ 0 < b ∧ b ≤ 9223372036854775807) : (oJT (d_lrem (zJ a) (zJ b))).bind f = f (a % b) := by
  rw [dLrem h]; show f (tJ (zJ (a % b))) = _
  have hq : 0 ≤ a % b := Int.emod_nonneg _ (by omega)
  have hq2 : a % b < b := Int.emod_lt_of_pos _ h.2.2.1
  rw [tJ_zJ (by omega)]
/-- calls that answer an int, a long: by the number -/
def cT (r : ResP) (k : Int → HeapP → ResP) (kx : Nat → HeapP → ResP) : ResP := cI r (fun i h => k (tI i) h) kx
def cJT (r : ResP) (k : Int → HeapP → ResP) (kx : Nat → HeapP → ResP) : ResP := cJ r (fun i h => k (tJ i) h) kx
theorem n_cI (r : ResP) (k : Int32 → HeapP → ResP) (kx : Nat → HeapP → ResP) : cI r k kx = cT r (fun q h => k (zI q) h) kx := by
  unfold cT
  refine congrArg (fun z => cI r z kx) (funext fun i => funext fun h => ?_)
  show k i h = k (zI (tI i)) h
  rw [zI_tI]
theorem n_cJ (r : ResP) (k : Int64 → HeapP → ResP) (kx : Nat → HeapP → ResP) : cJ r k kx = cJT r (fun q h => k (zJ q) h) kx := by
  unfold cJT
  refine congrArg (fun z => cJ r z kx) (funext fun i => funext fun h => ?_)
  show k i h = k (zJ (tJ i)) h
  rw [zJ_tJ]
theorem cT_ret {r : ResP} {v : Int} {h' : HeapP} {k : Int → HeapP → ResP} {kx : Nat → HeapP → ResP} (h : r = some (Sum.inl (some (.int (zI v))), h')) (hv : -2147483648 ≤ v ∧ v ≤ 2147483647) : cT r k kx = k v h' := by
  rw [h]; show k (tI (zI v)) h' = _; rw [tI_zI hv]
theorem cJT_ret {r : ResP} {v : Int} {h' : HeapP} {k : Int → HeapP → ResP} {kx : Nat → HeapP → ResP} (h : r = some (Sum.inl (some (.long (zJ v))), h')) (hv : -9223372036854775808 ≤ v ∧ v ≤ 9223372036854775807) : cJT r k kx = k v h' := by
  rw [h]; show k (tJ (zJ v)) h' = _; rw [tJ_zJ hv]
theorem cT_thr {r : ResP} {e : Nat} {h' : HeapP} {k : Int → HeapP → ResP} {kx : Nat → HeapP → ResP} (h : r = some (Sum.inr e, h')) : cT r k kx = kx e h' := by rw [h]; rfl
theorem cJT_thr {r : ResP} {e : Nat} {h' : HeapP} {k : Int → HeapP → ResP} {kx : Nat → HeapP → ResP} (h : r = some (Sum.inr e, h')) : cJT r k kx = kx e h' := by rw [h]; rfl
/-! reads and writes -/
theorem rdV_mk {E : EnQ} {F : Nat → Int → Int32} {G : Nat → Int → Int64} {a ci k kd : Nat} (hs : shx E a = (1, ci, 0)) (hk : (kindP ci)[k]? = some kd) : rdV (mk E F G) ci a k = some (fvP a (F a) (G a) (E.2.2.2 a) k kd) := by
  unfold rdV; rw [mk_at hs]; show (if ci = ci then _ else none) = _; rw [if_pos rfl]; exact fs_get hk
theorem rdT_b {α : Type} {E : EnQ} {F : Nat → Int → Int32} {G : Nat → Int → Int64} {a ci k : Nat} {f : Int → Option α} (hs : shx E a = (1, ci, 0)) (hk : (kindP ci)[k]? = some 0) : (rdT (mk E F G) ci a k).bind f = f (tI (F a k)) := by
  unfold rdT rdI; rw [rdV_mk hs hk]; rfl
theorem rdJ_b {α : Type} {E : EnQ} {F : Nat → Int → Int32} {G : Nat → Int → Int64} {a ci k : Nat} {f : Int → Option α} (hs : shx E a = (1, ci, 0)) (hk : (kindP ci)[k]? = some 1) : (rdJT (mk E F G) ci a k).bind f = f (tJ (G a k)) := by
  unfold rdJT rdJ; rw [rdV_mk hs hk]; rfl
theorem rdM_b {α : Type} {E : EnQ} {F : Nat → Int → Int32} {G : Nat → Int → Int64} {a ci k : Nat} {f : Nat → Option α} (hs : shx E a = (1, ci, 0)) (hk : (kindP ci)[k]? = some 2) : (rdA (mk E F G) ci a k).bind f = f (rfQ E a k) := by
  unfold rdA; rw [rdV_mk hs hk]; rfl
theorem rdC_b {α : Type} {E : EnQ} {F : Nat → Int → Int32} {G : Nat → Int → Int64} {a ci k j : Nat} {f : Nat → Option α} (hs : shx E a = (1, ci, 0)) (hk : (kindP ci)[k]? = some (j + 3)) : (rdA (mk E F G) ci a k).bind f = f (a + j) := by
  unfold rdA; rw [rdV_mk hs hk]; rfl
theorem wrV_mk {E : EnQ} {F : Nat → Int → Int32} {G : Nat → Int → Int64} {a ci k kd : Nat} {v : Value} (hs : shx E a = (1, ci, 0)) (hk : (kindP ci)[k]? = some kd) : wrV (mk E F G) ci a k v = some (hset (mk E F G) a (pO ci ((fsP (kindP ci) a (F a) (G a) (E.2.2.2 a)).set k v))) := by
  have hl : k < (kindP ci).length := (List.getElem?_eq_some_iff.mp hk).1
  unfold wrV; rw [mk_at hs]; show (if ci = ci ∧ k < (fsP (kindP ci) a (F a) (G a) (E.2.2.2 a)).length then _ else none) = _; rw [if_pos ⟨rfl, by rw [fs_len]; exact hl⟩]
theorem ncast_ne {j k : Nat} (h : j ≠ k) : (j : Int) ≠ (k : Int) := fun e => h (Int.ofNat.inj e)
theorem wrI_b {α : Type} {E : EnQ} {F : Nat → Int → Int32} {G : Nat → Int → Int64} {a ci k : Nat} {x : Int32} {f : HeapP → Option α} (hs : shx E a = (1, ci, 0)) (hk : (kindP ci)[k]? = some 0) : (wrV (mk E F G) ci a k (.int x)).bind f = f (mk E (uR F a (uC (F a) k x)) G) := by
  rw [wrV_mk hs hk]
  show f (hset _ _ _) = _
  refine congrArg f (hset_F ?_)
  rw [hs]
  refine congrArg (fun z => some (pO ci z)) (fs_set (fun kd h => ?_) (fun j kd hj _ => ?_)).symm
  · rw [hk] at h; cases h; show Value.int (uC (F a) k x k) = _; rw [uC_at]
  · match kd with
    | 0 => show Value.int (uC (F a) k x j) = Value.int (F a j); rw [uC_ne (ncast_ne hj)]
    | 1 => rfl
    | 2 => rfl
    | _ + 3 => rfl
theorem wrJ_b {α : Type} {E : EnQ} {F : Nat → Int → Int32} {G : Nat → Int → Int64} {a ci k : Nat} {x : Int64} {f : HeapP → Option α} (hs : shx E a = (1, ci, 0)) (hk : (kindP ci)[k]? = some 1) : (wrV (mk E F G) ci a k (.long x)).bind f = f (mk E F (uR G a (uC (G a) k x))) := by
  rw [wrV_mk hs hk]
  show f (hset _ _ _) = _
  refine congrArg f (hset_G ?_)
  rw [hs]
  refine congrArg (fun z => some (pO ci z)) (fs_set (fun kd h => ?_) (fun j kd hj _ => ?_)).symm
  · rw [hk] at h; cases h; show Value.long (uC (G a) k x k) = _; rw [uC_at]
  · match kd with
    | 0 => rfl
    | 1 => show Value.long (uC (G a) k x j) = Value.long (G a j); rw [uC_ne (ncast_ne hj)]
    | 2 => rfl
    | _ + 3 => rfl
theorem wrM_b {α : Type} {E : EnQ} {F : Nat → Int → Int32} {G : Nat → Int → Int64} {a ci k : Nat} {x : Nat} {f : HeapP → Option α} (hs : shx E a = (1, ci, 0)) (hk : (kindP ci)[k]? = some 2) : (wrV (mk E F G) ci a k (.ref x)).bind f = f (mk (uE E a k x) F G) := by
  rw [wrV_mk hs hk]
  show f (hset _ _ _) = _
  refine congrArg f (hset_R ?_)
  rw [hs]
  refine congrArg (fun z => some (pO ci z)) (fs_set (fun kd h => ?_) (fun j kd hj _ => ?_)).symm
  · rw [hk] at h; cases h; show Value.ref (uC (E.2.2.2 a) k x k) = _; rw [uC_at]
  · match kd with
    | 0 => rfl
    | 1 => rfl
    | 2 => show Value.ref (uC (E.2.2.2 a) k x j) = Value.ref (E.2.2.2 a j); rw [uC_ne (ncast_ne hj)]
    | _ + 3 => rfl
theorem wrZ_b {α : Type} {E : EnQ} {F : Nat → Int → Int32} {G : Nat → Int → Int64} {a ci k : Nat} {x : Int} {f : HeapP → Option α} (hx : x = 0 ∨ x = 1) (hs : shx E a = (1, ci, 0)) (hk : (kindP ci)[k]? = some 0) : (wrZ (mk E F G) ci a k (zI x)).bind f = f (mk E (uR F a (uC (F a) k (zI x))) G) := by
  unfold wrZ
  rw [if_pos (by rcases hx with rfl | rfl; exact Or.inl rfl; exact Or.inr rfl)]
  exact wrI_b hs hk
theorem inb_z {i : Int} {n : Nat} (hi : 0 ≤ i ∧ i < n) (hn : n < 2147483648) : inb (zI i) n = true := by
  unfold inb
  have e : tI (zI i) = i := tI_zI (by omega)
  rw [Bool.and_eq_true]
  refine ⟨decide_eq_true ?_, decide_eq_true ?_⟩
  · have li0 : (0 : Int32) = zI 0 := litI 0
    rw [li0, leI (by omega)]; exact hi.1
  · show (tI (zI i)).toNat < n; rw [e]; omega
theorem clamp_z {i : Int} (hi : 0 ≤ i ∧ i < 2147483648) : (((zI i).toNatClampNeg : Nat) : Int) = i := by
  show (((tI (zI i)).toNat : Nat) : Int) = i
  rw [tI_zI (by omega)]; omega
theorem alT_b {α : Type} {E : EnQ} {F : Nat → Int → Int32} {G : Nat → Int → Int64} {a ty n : Nat} {i : Int} {f : Int → Option α} (hs : shx E a = (2, ty, n)) (hi : 0 ≤ i ∧ i < n) (hn : n < 2147483648) : (alT (mk E F G) ty a (zI i)).bind f = f (tI (F a i)) := by
  unfold alT aldI; rw [mk_at hs]
  show (Option.map tI (if ty = ty ∧ inb (zI i) n = true then some (F a ((zI i).toNatClampNeg : Nat)) else none)).bind f = _
  rw [if_pos ⟨rfl, inb_z hi hn⟩, clamp_z (by omega)]; rfl
theorem alJ_b {α : Type} {E : EnQ} {F : Nat → Int → Int32} {G : Nat → Int → Int64} {a z n : Nat} {i : Int} {f : Int → Option α} (hs : shx E a = (3, z, n)) (hi : 0 ≤ i ∧ i < n) (hn : n < 2147483648) : (alJT (mk E F G) a (zI i)).bind f = f (tJ (G a i)) := by
  unfold alJT aldJ; rw [mk_at hs]
  show (Option.map tJ (if inb (zI i) n = true then some (G a ((zI i).toNatClampNeg : Nat)) else none)).bind f = _
  rw [if_pos (inb_z hi hn), clamp_z (by omega)]; rfl
theorem upd_uC {f : Int → Int32} {i : Int} {x : Int32} (hi : 0 ≤ i ∧ i < 2147483648) : (fun j : Nat => uC f i x (j : Int)) = upd (fun j : Nat => f j) (zI i).toNatClampNeg x := by
  funext j
  unfold uC upd
  have e := clamp_z hi
  by_cases h : j = (zI i).toNatClampNeg
  · rw [if_pos h, if_pos (by rw [h]; exact e)]
  · rw [if_neg h, if_neg (fun z => h (Int.ofNat.inj (z.trans e.symm)))]
theorem asI_b {α : Type} {E : EnQ} {F : Nat → Int → Int32} {G : Nat → Int → Int64} {a ty n : Nat} {i : Int} {x : Int32} {f : HeapP → Option α} (hs : shx E a = (2, ty, n)) (hi : 0 ≤ i ∧ i < n) (hn : n < 2147483648) : (astI (mk E F G) ty a (zI i) x).bind f = f (mk E (uR F a (uC (F a) i x)) G) := by
  unfold astI; rw [mk_at hs]
  show ((if ty = ty ∧ inb (zI i) n = true then some (hset _ a (pI ty n (upd (fun j : Nat => F a j) (zI i).toNatClampNeg x))) else none)).bind f = _
  rw [if_pos ⟨rfl, inb_z hi hn⟩]
  show f _ = _
  refine congrArg f (hset_F ?_)
  rw [hs]
  exact congrArg (fun z => some (pI ty n z)) (upd_uC (by omega))
theorem asN_b {α : Type} {E : EnQ} {F : Nat → Int → Int32} {G : Nat → Int → Int64} {a ty n : Nat} {i : Int} {x : Int32} {f : HeapP → Option α} (hs : shx E a = (2, ty, n)) (hi : 0 ≤ i ∧ i < n) (hn : n < 2147483648) : (astN (mk E F G) ty a (zI i) x).bind f = f (mk E (uR F a (uC (F a) i (vp_nar (tyP ty) x))) G) := asI_b hs hi hn
theorem updL_uC {f : Int → Int64} {i : Int} {x : Int64} (hi : 0 ≤ i ∧ i < 2147483648) : (fun j : Nat => uC f i x (j : Int)) = vp_updL (fun j : Nat => f j) (zI i).toNatClampNeg x := by
  funext j
  unfold uC vp_updL
  have e := clamp_z hi
  by_cases h : j = (zI i).toNatClampNeg
  · rw [if_pos h, if_pos (by rw [h]; exact e)]
  · rw [if_neg h, if_neg (fun z => h (Int.ofNat.inj (z.trans e.symm)))]
theorem asJ_b {α : Type} {E : EnQ} {F : Nat → Int → Int32} {G : Nat → Int → Int64} {a z n : Nat} {i : Int} {x : Int64} {f : HeapP → Option α} (hs : shx E a = (3, z, n)) (hi : 0 ≤ i ∧ i < n) (hn : n < 2147483648) : (astJ (mk E F G) a (zI i) x).bind f = f (mk E F (uR G a (uC (G a) i x))) := by
  unfold astJ; rw [mk_at hs]
  show ((if inb (zI i) n = true then some (hset _ a (pJ n (vp_updL (fun j : Nat => G a j) (zI i).toNatClampNeg x))) else none)).bind f = _
  rw [if_pos (inb_z hi hn)]
  show f _ = _
  refine congrArg f (hset_G ?_)
  rw [hs]
  exact congrArg (fun z => some (pJ n z)) (updL_uC (by omega))
theorem len_I {α : Type} {E : EnQ} {F : Nat → Int → Int32} {G : Nat → Int → Int64} {a ty n : Nat} {f : Int → Option α} (hs : shx E a = (2, ty, n)) (hn : n < 2147483648) : (lenT (mk E F G) a).bind f = f n := by
  unfold lenT alenP; rw [mk_at hs]; show f (tI (nI n)) = _
  refine congrArg f ?_
  have : nI n = zI n := (Int32.ofInt_eq_ofNat (n := n)).symm
  rw [this, tI_zI (by omega)]
theorem len_J {α : Type} {E : EnQ} {F : Nat → Int → Int32} {G : Nat → Int → Int64} {a z n : Nat} {f : Int → Option α} (hs : shx E a = (3, z, n)) (hn : n < 2147483648) : (lenT (mk E F G) a).bind f = f n := by
  unfold lenT alenP; rw [mk_at hs]; show f (tI (nI n)) = _
  refine congrArg f ?_
  have : nI n = zI n := (Int32.ofInt_eq_ofNat (n := n)).symm
  rw [this, tI_zI (by omega)]
theorem len_R {α : Type} {E : EnQ} {F : Nat → Int → Int32} {G : Nat → Int → Int64} {a ty n : Nat} {f : Int → Option α} (hs : shx E a = (4, ty, n)) (hn : n < 2147483648) : (lenT (mk E F G) a).bind f = f n := by
  unfold lenT alenP; rw [mk_at hs]; show f (tI (nI n)) = _
  refine congrArg f ?_
  have : nI n = zI n := (Int32.ofInt_eq_ofNat (n := n)).symm
  rw [this, tI_zI (by omega)]
theorem alR_b {E : EnQ} {F : Nat → Int → Int32} {G : Nat → Int → Int64} {a ty n : Nat} {i : Int} {kn : ResP} {ka : Nat → ResP} (hs : shx E a = (4, ty, n)) (hi : 0 ≤ i ∧ i < n) (hn : n < 2147483648) (hr : E.2.2.2 a i ≠ 0) : dR (aldR (mk E F G) ty a (zI i)) kn ka = ka (rfQ E a i) := by
  unfold aldR; rw [mk_at hs]
  show dR (if ty = ty ∧ inb (zI i) n = true then some (if E.2.2.2 a ((zI i).toNatClampNeg : Nat) = 0 then none else some (E.2.2.2 a ((zI i).toNatClampNeg : Nat))) else none) kn ka = _
  rw [if_pos ⟨rfl, inb_z hi hn⟩, clamp_z (by omega), if_neg hr]; rfl
theorem alR_n {E : EnQ} {F : Nat → Int → Int32} {G : Nat → Int → Int64} {a ty n : Nat} {i : Int} {kn : ResP} {ka : Nat → ResP} (hs : shx E a = (4, ty, n)) (hi : 0 ≤ i ∧ i < n) (hn : n < 2147483648) (hr : E.2.2.2 a i = 0) : dR (aldR (mk E F G) ty a (zI i)) kn ka = kn := by
  unfold aldR; rw [mk_at hs]
  show dR (if ty = ty ∧ inb (zI i) n = true then some (if E.2.2.2 a ((zI i).toNatClampNeg : Nat) = 0 then none else some (E.2.2.2 a ((zI i).toNatClampNeg : Nat))) else none) kn ka = _
  rw [if_pos ⟨rfl, inb_z hi hn⟩, clamp_z (by omega), if_pos hr]; rfl
theorem jnk_mk {E : EnQ} {F : Nat → Int → Int32} {G : Nat → Int → Int64} : hjnk (mk E F G) 1 6 = mk (jE E) F G := rfl
theorem rcv_mk {E : EnQ} {F : Nat → Int → Int32} {G : Nat → Int → Int64} {a ci : Nat} {as : List Value} (hs : shx E a = (1, ci, 0)) (hc : ci < 100) : rcvP (some ci) (.ref a :: as) (mk E F G) = true := by
  unfold rcvP
  have hn : Nat.beq ci 100 = false := by
    cases h : Nat.beq ci 100 with
    | false => rfl
    | true => exact absurd (Nat.eq_of_beq_eq_true h) (by omega)
  simp only [hn, cond_false]
  rw [mk_at hs]
  show Nat.beq ci ci = true
  exact Nat.beq_refl ci
/-- into a method -/
theorem into {m ml : Nat} {rc : Option Nat} {code : List (Nat × SemP)} {as : List Value} {h : HeapP} {d D : Nat} {r : ResP} (hd : D + 1 ≤ d) (hM : MP m = some (ml, rc, code)) (hr : rcvP rc as h = true) (hl : Nat.ble (entL as).length ml = true) (k : ∀ d, D ≤ d → runP MP d m (entP ml as h) = r) : callP MP d m as h = r := by
  obtain ⟨d', rfl⟩ : ∃ d', d = d' + 1 := ⟨d - 1, by omega⟩
  unfold callP clP
  simp only [hM, hr, hl, Bool.and_self, cond_true]
  exact k d' (by omega)

theorem g0_0 {α : Type} {E : EnQ} {F : Nat → Int → Int32} {G : Nat → Int → Int64} {f : Nat → Option α} : (rdA (mk E F G) 0 171 0).bind f = f (172) := rdC_b (a := 171) (ci := 0) (k := 0) (j := 1) rfl rfl
theorem g0_1 {α : Type} {E : EnQ} {F : Nat → Int → Int32} {G : Nat → Int → Int64} {f : Nat → Option α} : (rdA (mk E F G) 0 171 1).bind f = f (173) := rdC_b (a := 171) (ci := 0) (k := 1) (j := 2) rfl rfl
theorem g1_0 {α : Type} {E : EnQ} {F : Nat → Int → Int32} {G : Nat → Int → Int64} {a : Nat} {f : Nat → Option α} (hs : shx E a = (1, 1, 0)) : (rdA (mk E F G) 1 a 0).bind f = f (a + 1) := rdC_b (a := a) (ci := 1) (k := 0) (j := 1) hs rfl
theorem g2_0 {α : Type} {E : EnQ} {F : Nat → Int → Int32} {G : Nat → Int → Int64} {a : Nat} {f : Int → Option α} (hs : shx E a = (1, 2, 0)) : (rdT (mk E F G) 2 a 0).bind f = f (tI (F a 0)) := rdT_b hs (by rfl)
theorem p2_0 {α : Type} {E : EnQ} {F : Nat → Int → Int32} {G : Nat → Int → Int64} {a : Nat} {x : Int32} {f : HeapP → Option α} (hs : shx E a = (1, 2, 0)) : (wrV (mk E F G) 2 a 0 (.int x)).bind f = f (mk E (uR F a (uC (F a) 0 x)) G) := wrI_b hs (by rfl)
theorem g2_1 {α : Type} {E : EnQ} {F : Nat → Int → Int32} {G : Nat → Int → Int64} {a : Nat} {f : Int → Option α} (hs : shx E a = (1, 2, 0)) : (rdT (mk E F G) 2 a 1).bind f = f (tI (F a 1)) := rdT_b hs (by rfl)
theorem p2_1 {α : Type} {E : EnQ} {F : Nat → Int → Int32} {G : Nat → Int → Int64} {a : Nat} {x : Int32} {f : HeapP → Option α} (hs : shx E a = (1, 2, 0)) : (wrV (mk E F G) 2 a 1 (.int x)).bind f = f (mk E (uR F a (uC (F a) 1 x)) G) := wrI_b hs (by rfl)
theorem g2_2 {α : Type} {E : EnQ} {F : Nat → Int → Int32} {G : Nat → Int → Int64} {a : Nat} {f : Int → Option α} (hs : shx E a = (1, 2, 0)) : (rdT (mk E F G) 2 a 2).bind f = f (tI (F a 2)) := rdT_b hs (by rfl)
theorem p2_2 {α : Type} {E : EnQ} {F : Nat → Int → Int32} {G : Nat → Int → Int64} {a : Nat} {x : Int32} {f : HeapP → Option α} (hs : shx E a = (1, 2, 0)) : (wrV (mk E F G) 2 a 2 (.int x)).bind f = f (mk E (uR F a (uC (F a) 2 x)) G) := wrI_b hs (by rfl)
theorem g2_3 {α : Type} {E : EnQ} {F : Nat → Int → Int32} {G : Nat → Int → Int64} {a : Nat} {f : Int → Option α} (hs : shx E a = (1, 2, 0)) : (rdT (mk E F G) 2 a 3).bind f = f (tI (F a 3)) := rdT_b hs (by rfl)
theorem p2_3 {α : Type} {E : EnQ} {F : Nat → Int → Int32} {G : Nat → Int → Int64} {a : Nat} {x : Int32} {f : HeapP → Option α} (hs : shx E a = (1, 2, 0)) : (wrV (mk E F G) 2 a 3 (.int x)).bind f = f (mk E (uR F a (uC (F a) 3 x)) G) := wrI_b hs (by rfl)
theorem g2_4 {α : Type} {E : EnQ} {F : Nat → Int → Int32} {G : Nat → Int → Int64} {a : Nat} {f : Int → Option α} (hs : shx E a = (1, 2, 0)) : (rdT (mk E F G) 2 a 4).bind f = f (tI (F a 4)) := rdT_b hs (by rfl)
theorem p2_4 {α : Type} {E : EnQ} {F : Nat → Int → Int32} {G : Nat → Int → Int64} {a : Nat} {x : Int32} {f : HeapP → Option α} (hs : shx E a = (1, 2, 0)) : (wrV (mk E F G) 2 a 4 (.int x)).bind f = f (mk E (uR F a (uC (F a) 4 x)) G) := wrI_b hs (by rfl)
theorem g2_5 {α : Type} {E : EnQ} {F : Nat → Int → Int32} {G : Nat → Int → Int64} {a : Nat} {f : Int → Option α} (hs : shx E a = (1, 2, 0)) : (rdT (mk E F G) 2 a 5).bind f = f (tI (F a 5)) := rdT_b hs (by rfl)
theorem p2_5 {α : Type} {E : EnQ} {F : Nat → Int → Int32} {G : Nat → Int → Int64} {a : Nat} {x : Int32} {f : HeapP → Option α} (hs : shx E a = (1, 2, 0)) : (wrV (mk E F G) 2 a 5 (.int x)).bind f = f (mk E (uR F a (uC (F a) 5 x)) G) := wrI_b hs (by rfl)
theorem g2_6 {α : Type} {E : EnQ} {F : Nat → Int → Int32} {G : Nat → Int → Int64} {a : Nat} {f : Int → Option α} (hs : shx E a = (1, 2, 0)) : (rdT (mk E F G) 2 a 6).bind f = f (tI (F a 6)) := rdT_b hs (by rfl)
theorem p2_6 {α : Type} {E : EnQ} {F : Nat → Int → Int32} {G : Nat → Int → Int64} {a : Nat} {x : Int32} {f : HeapP → Option α} (hs : shx E a = (1, 2, 0)) : (wrV (mk E F G) 2 a 6 (.int x)).bind f = f (mk E (uR F a (uC (F a) 6 x)) G) := wrI_b hs (by rfl)
theorem g2_7 {α : Type} {E : EnQ} {F : Nat → Int → Int32} {G : Nat → Int → Int64} {a : Nat} {f : Int → Option α} (hs : shx E a = (1, 2, 0)) : (rdT (mk E F G) 2 a 7).bind f = f (tI (F a 7)) := rdT_b hs (by rfl)
theorem p2_7 {α : Type} {E : EnQ} {F : Nat → Int → Int32} {G : Nat → Int → Int64} {a : Nat} {x : Int32} {f : HeapP → Option α} (hs : shx E a = (1, 2, 0)) : (wrV (mk E F G) 2 a 7 (.int x)).bind f = f (mk E (uR F a (uC (F a) 7 x)) G) := wrI_b hs (by rfl)
theorem g2_8 {α : Type} {E : EnQ} {F : Nat → Int → Int32} {G : Nat → Int → Int64} {a : Nat} {f : Nat → Option α} (hs : shx E a = (1, 2, 0)) : (rdA (mk E F G) 2 a 8).bind f = f (a + 1) := rdC_b (a := a) (ci := 2) (k := 8) (j := 1) hs rfl
theorem g2_9 {α : Type} {E : EnQ} {F : Nat → Int → Int32} {G : Nat → Int → Int64} {a : Nat} {f : Nat → Option α} (hs : shx E a = (1, 2, 0)) : (rdA (mk E F G) 2 a 9).bind f = f (a + 2) := rdC_b (a := a) (ci := 2) (k := 9) (j := 2) hs rfl
theorem g2_10 {α : Type} {E : EnQ} {F : Nat → Int → Int32} {G : Nat → Int → Int64} {a : Nat} {f : Nat → Option α} (hs : shx E a = (1, 2, 0)) : (rdA (mk E F G) 2 a 10).bind f = f (a + 3) := rdC_b (a := a) (ci := 2) (k := 10) (j := 3) hs rfl
theorem g2_11 {α : Type} {E : EnQ} {F : Nat → Int → Int32} {G : Nat → Int → Int64} {a : Nat} {f : Nat → Option α} (hs : shx E a = (1, 2, 0)) : (rdA (mk E F G) 2 a 11).bind f = f (a + 4) := rdC_b (a := a) (ci := 2) (k := 11) (j := 4) hs rfl
theorem g2_12 {α : Type} {E : EnQ} {F : Nat → Int → Int32} {G : Nat → Int → Int64} {a : Nat} {f : Nat → Option α} (hs : shx E a = (1, 2, 0)) : (rdA (mk E F G) 2 a 12).bind f = f (a + 5) := rdC_b (a := a) (ci := 2) (k := 12) (j := 5) hs rfl
theorem g3_0 {α : Type} {E : EnQ} {F : Nat → Int → Int32} {G : Nat → Int → Int64} {a : Nat} {f : Nat → Option α} (hs : shx E a = (1, 3, 0)) : (rdA (mk E F G) 3 a 0).bind f = f (rfQ E a 0) := rdM_b hs (by rfl)
theorem p3_0 {α : Type} {E : EnQ} {F : Nat → Int → Int32} {G : Nat → Int → Int64} {a : Nat} {x : Nat} {f : HeapP → Option α} (hs : shx E a = (1, 3, 0)) : (wrV (mk E F G) 3 a 0 (.ref x)).bind f = f (mk (uE E a 0 x) F G) := wrM_b hs (by rfl)
theorem g3_1 {α : Type} {E : EnQ} {F : Nat → Int → Int32} {G : Nat → Int → Int64} {a : Nat} {f : Int → Option α} (hs : shx E a = (1, 3, 0)) : (rdT (mk E F G) 3 a 1).bind f = f (tI (F a 1)) := rdT_b hs (by rfl)
theorem p3_1 {α : Type} {E : EnQ} {F : Nat → Int → Int32} {G : Nat → Int → Int64} {a : Nat} {x : Int32} {f : HeapP → Option α} (hs : shx E a = (1, 3, 0)) : (wrV (mk E F G) 3 a 1 (.int x)).bind f = f (mk E (uR F a (uC (F a) 1 x)) G) := wrI_b hs (by rfl)
theorem g3_2 {α : Type} {E : EnQ} {F : Nat → Int → Int32} {G : Nat → Int → Int64} {a : Nat} {f : Int → Option α} (hs : shx E a = (1, 3, 0)) : (rdT (mk E F G) 3 a 2).bind f = f (tI (F a 2)) := rdT_b hs (by rfl)
theorem p3_2 {α : Type} {E : EnQ} {F : Nat → Int → Int32} {G : Nat → Int → Int64} {a : Nat} {x : Int32} {f : HeapP → Option α} (hs : shx E a = (1, 3, 0)) : (wrV (mk E F G) 3 a 2 (.int x)).bind f = f (mk E (uR F a (uC (F a) 2 x)) G) := wrI_b hs (by rfl)
theorem g3_3 {α : Type} {E : EnQ} {F : Nat → Int → Int32} {G : Nat → Int → Int64} {a : Nat} {f : Int → Option α} (hs : shx E a = (1, 3, 0)) : (rdT (mk E F G) 3 a 3).bind f = f (tI (F a 3)) := rdT_b hs (by rfl)
theorem p3_3 {α : Type} {E : EnQ} {F : Nat → Int → Int32} {G : Nat → Int → Int64} {a : Nat} {x : Int32} {f : HeapP → Option α} (hs : shx E a = (1, 3, 0)) : (wrV (mk E F G) 3 a 3 (.int x)).bind f = f (mk E (uR F a (uC (F a) 3 x)) G) := wrI_b hs (by rfl)
theorem g3_4 {α : Type} {E : EnQ} {F : Nat → Int → Int32} {G : Nat → Int → Int64} {a : Nat} {f : Int → Option α} (hs : shx E a = (1, 3, 0)) : (rdT (mk E F G) 3 a 4).bind f = f (tI (F a 4)) := rdT_b hs (by rfl)
theorem p3_4 {α : Type} {E : EnQ} {F : Nat → Int → Int32} {G : Nat → Int → Int64} {a : Nat} {x : Int32} {f : HeapP → Option α} (hs : shx E a = (1, 3, 0)) : (wrV (mk E F G) 3 a 4 (.int x)).bind f = f (mk E (uR F a (uC (F a) 4 x)) G) := wrI_b hs (by rfl)
theorem g3_5 {α : Type} {E : EnQ} {F : Nat → Int → Int32} {G : Nat → Int → Int64} {a : Nat} {f : Int → Option α} (hs : shx E a = (1, 3, 0)) : (rdT (mk E F G) 3 a 5).bind f = f (tI (F a 5)) := rdT_b hs (by rfl)
theorem p3_5 {α : Type} {E : EnQ} {F : Nat → Int → Int32} {G : Nat → Int → Int64} {a : Nat} {x : Int32} {f : HeapP → Option α} (hs : shx E a = (1, 3, 0)) : (wrV (mk E F G) 3 a 5 (.int x)).bind f = f (mk E (uR F a (uC (F a) 5 x)) G) := wrI_b hs (by rfl)
theorem g3_6 {α : Type} {E : EnQ} {F : Nat → Int → Int32} {G : Nat → Int → Int64} {a : Nat} {f : Int → Option α} (hs : shx E a = (1, 3, 0)) : (rdT (mk E F G) 3 a 6).bind f = f (tI (F a 6)) := rdT_b hs (by rfl)
theorem p3_6 {α : Type} {E : EnQ} {F : Nat → Int → Int32} {G : Nat → Int → Int64} {a : Nat} {x : Int32} {f : HeapP → Option α} (hs : shx E a = (1, 3, 0)) : (wrV (mk E F G) 3 a 6 (.int x)).bind f = f (mk E (uR F a (uC (F a) 6 x)) G) := wrI_b hs (by rfl)
theorem g3_7 {α : Type} {E : EnQ} {F : Nat → Int → Int32} {G : Nat → Int → Int64} {a : Nat} {f : Int → Option α} (hs : shx E a = (1, 3, 0)) : (rdT (mk E F G) 3 a 7).bind f = f (tI (F a 7)) := rdT_b hs (by rfl)
theorem p3_7 {α : Type} {E : EnQ} {F : Nat → Int → Int32} {G : Nat → Int → Int64} {a : Nat} {x : Int32} {f : HeapP → Option α} (hs : shx E a = (1, 3, 0)) : (wrV (mk E F G) 3 a 7 (.int x)).bind f = f (mk E (uR F a (uC (F a) 7 x)) G) := wrI_b hs (by rfl)
theorem g4_0 {α : Type} {E : EnQ} {F : Nat → Int → Int32} {G : Nat → Int → Int64} {f : Nat → Option α} : (rdA (mk E F G) 4 201 0).bind f = f (202) := rdC_b (a := 201) (ci := 4) (k := 0) (j := 1) rfl rfl
theorem g4_1 {α : Type} {E : EnQ} {F : Nat → Int → Int32} {G : Nat → Int → Int64} {f : Int → Option α} : (rdT (mk E F G) 4 201 1).bind f = f (tI (F 201 1)) := rdT_b (by rfl) (by rfl)
theorem p4_1 {α : Type} {E : EnQ} {F : Nat → Int → Int32} {G : Nat → Int → Int64} {x : Int32} {f : HeapP → Option α} : (wrV (mk E F G) 4 201 1 (.int x)).bind f = f (mk E (uR F 201 (uC (F 201) 1 x)) G) := wrI_b (by rfl) (by rfl)
theorem g4_2 {α : Type} {E : EnQ} {F : Nat → Int → Int32} {G : Nat → Int → Int64} {f : Int → Option α} : (rdT (mk E F G) 4 201 2).bind f = f (tI (F 201 2)) := rdT_b (by rfl) (by rfl)
theorem p4_2 {α : Type} {E : EnQ} {F : Nat → Int → Int32} {G : Nat → Int → Int64} {x : Int32} {f : HeapP → Option α} : (wrV (mk E F G) 4 201 2 (.int x)).bind f = f (mk E (uR F 201 (uC (F 201) 2 x)) G) := wrI_b (by rfl) (by rfl)
theorem g4_3 {α : Type} {E : EnQ} {F : Nat → Int → Int32} {G : Nat → Int → Int64} {f : Nat → Option α} : (rdA (mk E F G) 4 201 3).bind f = f (203) := rdC_b (a := 201) (ci := 4) (k := 3) (j := 2) rfl rfl
theorem g4_4 {α : Type} {E : EnQ} {F : Nat → Int → Int32} {G : Nat → Int → Int64} {f : Nat → Option α} : (rdA (mk E F G) 4 201 4).bind f = f (204) := rdC_b (a := 201) (ci := 4) (k := 4) (j := 3) rfl rfl
theorem g5_0 {α : Type} {E : EnQ} {F : Nat → Int → Int32} {G : Nat → Int → Int64} {a : Nat} {f : Nat → Option α} (hs : shx E a = (1, 5, 0)) : (rdA (mk E F G) 5 a 0).bind f = f (rfQ E a 0) := rdM_b hs (by rfl)
theorem p5_0 {α : Type} {E : EnQ} {F : Nat → Int → Int32} {G : Nat → Int → Int64} {a : Nat} {x : Nat} {f : HeapP → Option α} (hs : shx E a = (1, 5, 0)) : (wrV (mk E F G) 5 a 0 (.ref x)).bind f = f (mk (uE E a 0 x) F G) := wrM_b hs (by rfl)
theorem g5_1 {α : Type} {E : EnQ} {F : Nat → Int → Int32} {G : Nat → Int → Int64} {a : Nat} {f : Int → Option α} (hs : shx E a = (1, 5, 0)) : (rdT (mk E F G) 5 a 1).bind f = f (tI (F a 1)) := rdT_b hs (by rfl)
theorem p5_1 {α : Type} {E : EnQ} {F : Nat → Int → Int32} {G : Nat → Int → Int64} {a : Nat} {x : Int32} {f : HeapP → Option α} (hs : shx E a = (1, 5, 0)) : (wrV (mk E F G) 5 a 1 (.int x)).bind f = f (mk E (uR F a (uC (F a) 1 x)) G) := wrI_b hs (by rfl)
theorem g5_2 {α : Type} {E : EnQ} {F : Nat → Int → Int32} {G : Nat → Int → Int64} {a : Nat} {f : Int → Option α} (hs : shx E a = (1, 5, 0)) : (rdT (mk E F G) 5 a 2).bind f = f (tI (F a 2)) := rdT_b hs (by rfl)
theorem p5_2 {α : Type} {E : EnQ} {F : Nat → Int → Int32} {G : Nat → Int → Int64} {a : Nat} {x : Int32} {f : HeapP → Option α} (hs : shx E a = (1, 5, 0)) : (wrV (mk E F G) 5 a 2 (.int x)).bind f = f (mk E (uR F a (uC (F a) 2 x)) G) := wrI_b hs (by rfl)
theorem g5_3 {α : Type} {E : EnQ} {F : Nat → Int → Int32} {G : Nat → Int → Int64} {a : Nat} {f : Int → Option α} (hs : shx E a = (1, 5, 0)) : (rdT (mk E F G) 5 a 3).bind f = f (tI (F a 3)) := rdT_b hs (by rfl)
theorem p5_3 {α : Type} {E : EnQ} {F : Nat → Int → Int32} {G : Nat → Int → Int64} {a : Nat} {x : Int32} {f : HeapP → Option α} (hs : shx E a = (1, 5, 0)) : (wrV (mk E F G) 5 a 3 (.int x)).bind f = f (mk E (uR F a (uC (F a) 3 x)) G) := wrI_b hs (by rfl)
theorem g5_4 {α : Type} {E : EnQ} {F : Nat → Int → Int32} {G : Nat → Int → Int64} {a : Nat} {f : Int → Option α} (hs : shx E a = (1, 5, 0)) : (rdT (mk E F G) 5 a 4).bind f = f (tI (F a 4)) := rdT_b hs (by rfl)
theorem p5_4 {α : Type} {E : EnQ} {F : Nat → Int → Int32} {G : Nat → Int → Int64} {a : Nat} {x : Int32} {f : HeapP → Option α} (hs : shx E a = (1, 5, 0)) : (wrV (mk E F G) 5 a 4 (.int x)).bind f = f (mk E (uR F a (uC (F a) 4 x)) G) := wrI_b hs (by rfl)
theorem g5_5 {α : Type} {E : EnQ} {F : Nat → Int → Int32} {G : Nat → Int → Int64} {a : Nat} {f : Nat → Option α} (hs : shx E a = (1, 5, 0)) : (rdA (mk E F G) 5 a 5).bind f = f (a + 7) := rdC_b (a := a) (ci := 5) (k := 5) (j := 7) hs rfl
theorem g5_6 {α : Type} {E : EnQ} {F : Nat → Int → Int32} {G : Nat → Int → Int64} {a : Nat} {f : Nat → Option α} (hs : shx E a = (1, 5, 0)) : (rdA (mk E F G) 5 a 6).bind f = f (a + 8) := rdC_b (a := a) (ci := 5) (k := 6) (j := 8) hs rfl
theorem g5_7 {α : Type} {E : EnQ} {F : Nat → Int → Int32} {G : Nat → Int → Int64} {a : Nat} {f : Nat → Option α} (hs : shx E a = (1, 5, 0)) : (rdA (mk E F G) 5 a 7).bind f = f (a + 9) := rdC_b (a := a) (ci := 5) (k := 7) (j := 9) hs rfl
theorem g5_8 {α : Type} {E : EnQ} {F : Nat → Int → Int32} {G : Nat → Int → Int64} {a : Nat} {f : Nat → Option α} (hs : shx E a = (1, 5, 0)) : (rdA (mk E F G) 5 a 8).bind f = f (a + 10) := rdC_b (a := a) (ci := 5) (k := 8) (j := 10) hs rfl
theorem g5_9 {α : Type} {E : EnQ} {F : Nat → Int → Int32} {G : Nat → Int → Int64} {a : Nat} {f : Nat → Option α} (hs : shx E a = (1, 5, 0)) : (rdA (mk E F G) 5 a 9).bind f = f (a + 11) := rdC_b (a := a) (ci := 5) (k := 9) (j := 11) hs rfl
theorem g6_0 {α : Type} {E : EnQ} {F : Nat → Int → Int32} {G : Nat → Int → Int64} {f : Nat → Option α} : (rdA (mk E F G) 6 178 0).bind f = f (rfQ E 178 0) := rdM_b (by rfl) (by rfl)
theorem p6_0 {α : Type} {E : EnQ} {F : Nat → Int → Int32} {G : Nat → Int → Int64} {x : Nat} {f : HeapP → Option α} : (wrV (mk E F G) 6 178 0 (.ref x)).bind f = f (mk (uE E 178 0 x) F G) := wrM_b (by rfl) (by rfl)
theorem g6_1 {α : Type} {E : EnQ} {F : Nat → Int → Int32} {G : Nat → Int → Int64} {f : Int → Option α} : (rdT (mk E F G) 6 178 1).bind f = f (tI (F 178 1)) := rdT_b (by rfl) (by rfl)
theorem p6_1 {α : Type} {E : EnQ} {F : Nat → Int → Int32} {G : Nat → Int → Int64} {x : Int32} {f : HeapP → Option α} : (wrV (mk E F G) 6 178 1 (.int x)).bind f = f (mk E (uR F 178 (uC (F 178) 1 x)) G) := wrI_b (by rfl) (by rfl)
theorem g6_2 {α : Type} {E : EnQ} {F : Nat → Int → Int32} {G : Nat → Int → Int64} {f : Int → Option α} : (rdT (mk E F G) 6 178 2).bind f = f (tI (F 178 2)) := rdT_b (by rfl) (by rfl)
theorem p6_2 {α : Type} {E : EnQ} {F : Nat → Int → Int32} {G : Nat → Int → Int64} {x : Int32} {f : HeapP → Option α} : (wrV (mk E F G) 6 178 2 (.int x)).bind f = f (mk E (uR F 178 (uC (F 178) 2 x)) G) := wrI_b (by rfl) (by rfl)
theorem g6_3 {α : Type} {E : EnQ} {F : Nat → Int → Int32} {G : Nat → Int → Int64} {f : Nat → Option α} : (rdA (mk E F G) 6 178 3).bind f = f (185) := rdC_b (a := 178) (ci := 6) (k := 3) (j := 7) rfl rfl
theorem g6_4 {α : Type} {E : EnQ} {F : Nat → Int → Int32} {G : Nat → Int → Int64} {f : Nat → Option α} : (rdA (mk E F G) 6 178 4).bind f = f (186) := rdC_b (a := 178) (ci := 6) (k := 4) (j := 8) rfl rfl
theorem g6_5 {α : Type} {E : EnQ} {F : Nat → Int → Int32} {G : Nat → Int → Int64} {f : Nat → Option α} : (rdA (mk E F G) 6 178 5).bind f = f (187) := rdC_b (a := 178) (ci := 6) (k := 5) (j := 9) rfl rfl
theorem g6_6 {α : Type} {E : EnQ} {F : Nat → Int → Int32} {G : Nat → Int → Int64} {f : Nat → Option α} : (rdA (mk E F G) 6 178 6).bind f = f (188) := rdC_b (a := 178) (ci := 6) (k := 6) (j := 10) rfl rfl
theorem g6_7 {α : Type} {E : EnQ} {F : Nat → Int → Int32} {G : Nat → Int → Int64} {f : Nat → Option α} : (rdA (mk E F G) 6 178 7).bind f = f (189) := rdC_b (a := 178) (ci := 6) (k := 7) (j := 11) rfl rfl
theorem g6_8 {α : Type} {E : EnQ} {F : Nat → Int → Int32} {G : Nat → Int → Int64} {f : Nat → Option α} : (rdA (mk E F G) 6 178 8).bind f = f (190) := rdC_b (a := 178) (ci := 6) (k := 8) (j := 12) rfl rfl
theorem g6_9 {α : Type} {E : EnQ} {F : Nat → Int → Int32} {G : Nat → Int → Int64} {f : Nat → Option α} : (rdA (mk E F G) 6 178 9).bind f = f (191) := rdC_b (a := 178) (ci := 6) (k := 9) (j := 13) rfl rfl
theorem g7_0 {α : Type} {E : EnQ} {F : Nat → Int → Int32} {G : Nat → Int → Int64} {a : Nat} {f : Int → Option α} (hs : shx E a = (1, 7, 0)) : (rdT (mk E F G) 7 a 0).bind f = f (tI (F a 0)) := rdT_b hs (by rfl)
theorem p7_0 {α : Type} {E : EnQ} {F : Nat → Int → Int32} {G : Nat → Int → Int64} {a : Nat} {x : Int32} {f : HeapP → Option α} (hs : shx E a = (1, 7, 0)) : (wrV (mk E F G) 7 a 0 (.int x)).bind f = f (mk E (uR F a (uC (F a) 0 x)) G) := wrI_b hs (by rfl)
theorem g7_1 {α : Type} {E : EnQ} {F : Nat → Int → Int32} {G : Nat → Int → Int64} {a : Nat} {f : Int → Option α} (hs : shx E a = (1, 7, 0)) : (rdT (mk E F G) 7 a 1).bind f = f (tI (F a 1)) := rdT_b hs (by rfl)
theorem p7_1 {α : Type} {E : EnQ} {F : Nat → Int → Int32} {G : Nat → Int → Int64} {a : Nat} {x : Int32} {f : HeapP → Option α} (hs : shx E a = (1, 7, 0)) : (wrV (mk E F G) 7 a 1 (.int x)).bind f = f (mk E (uR F a (uC (F a) 1 x)) G) := wrI_b hs (by rfl)
theorem g7_2 {α : Type} {E : EnQ} {F : Nat → Int → Int32} {G : Nat → Int → Int64} {a : Nat} {f : Nat → Option α} (hs : shx E a = (1, 7, 0)) : (rdA (mk E F G) 7 a 2).bind f = f (a + 1) := rdC_b (a := a) (ci := 7) (k := 2) (j := 1) hs rfl
theorem g8_0 {α : Type} {E : EnQ} {F : Nat → Int → Int32} {G : Nat → Int → Int64} {f : Nat → Option α} : (rdA (mk E F G) 8 48 0).bind f = f (49) := rdC_b (a := 48) (ci := 8) (k := 0) (j := 1) rfl rfl
theorem g8_1 {α : Type} {E : EnQ} {F : Nat → Int → Int32} {G : Nat → Int → Int64} {f : Int → Option α} : (rdT (mk E F G) 8 48 1).bind f = f (tI (F 48 1)) := rdT_b (by rfl) (by rfl)
theorem p8_1 {α : Type} {E : EnQ} {F : Nat → Int → Int32} {G : Nat → Int → Int64} {x : Int32} {f : HeapP → Option α} : (wrV (mk E F G) 8 48 1 (.int x)).bind f = f (mk E (uR F 48 (uC (F 48) 1 x)) G) := wrI_b (by rfl) (by rfl)
theorem g8_2 {α : Type} {E : EnQ} {F : Nat → Int → Int32} {G : Nat → Int → Int64} {f : Int → Option α} : (rdT (mk E F G) 8 48 2).bind f = f (tI (F 48 2)) := rdT_b (by rfl) (by rfl)
theorem p8_2 {α : Type} {E : EnQ} {F : Nat → Int → Int32} {G : Nat → Int → Int64} {x : Int32} {f : HeapP → Option α} : (wrV (mk E F G) 8 48 2 (.int x)).bind f = f (mk E (uR F 48 (uC (F 48) 2 x)) G) := wrI_b (by rfl) (by rfl)
theorem g9_0 {α : Type} {E : EnQ} {F : Nat → Int → Int32} {G : Nat → Int → Int64} {f : Int → Option α} : (rdT (mk E F G) 9 205 0).bind f = f (tI (F 205 0)) := rdT_b (by rfl) (by rfl)
theorem p9_0 {α : Type} {E : EnQ} {F : Nat → Int → Int32} {G : Nat → Int → Int64} {x : Int32} {f : HeapP → Option α} : (wrV (mk E F G) 9 205 0 (.int x)).bind f = f (mk E (uR F 205 (uC (F 205) 0 x)) G) := wrI_b (by rfl) (by rfl)
theorem g9_1 {α : Type} {E : EnQ} {F : Nat → Int → Int32} {G : Nat → Int → Int64} {f : Nat → Option α} : (rdA (mk E F G) 9 205 1).bind f = f (206) := rdC_b (a := 205) (ci := 9) (k := 1) (j := 1) rfl rfl
theorem g10_0 {α : Type} {E : EnQ} {F : Nat → Int → Int32} {G : Nat → Int → Int64} {f : Nat → Option α} : (rdA (mk E F G) 10 192 0).bind f = f (rfQ E 192 0) := rdM_b (by rfl) (by rfl)
theorem p10_0 {α : Type} {E : EnQ} {F : Nat → Int → Int32} {G : Nat → Int → Int64} {x : Nat} {f : HeapP → Option α} : (wrV (mk E F G) 10 192 0 (.ref x)).bind f = f (mk (uE E 192 0 x) F G) := wrM_b (by rfl) (by rfl)
theorem g10_1 {α : Type} {E : EnQ} {F : Nat → Int → Int32} {G : Nat → Int → Int64} {f : Int → Option α} : (rdT (mk E F G) 10 192 1).bind f = f (tI (F 192 1)) := rdT_b (by rfl) (by rfl)
theorem p10_1 {α : Type} {E : EnQ} {F : Nat → Int → Int32} {G : Nat → Int → Int64} {x : Int32} {f : HeapP → Option α} : (wrV (mk E F G) 10 192 1 (.int x)).bind f = f (mk E (uR F 192 (uC (F 192) 1 x)) G) := wrI_b (by rfl) (by rfl)
theorem g10_2 {α : Type} {E : EnQ} {F : Nat → Int → Int32} {G : Nat → Int → Int64} {f : Int → Option α} : (rdT (mk E F G) 10 192 2).bind f = f (tI (F 192 2)) := rdT_b (by rfl) (by rfl)
theorem p10_2 {α : Type} {E : EnQ} {F : Nat → Int → Int32} {G : Nat → Int → Int64} {x : Int32} {f : HeapP → Option α} : (wrV (mk E F G) 10 192 2 (.int x)).bind f = f (mk E (uR F 192 (uC (F 192) 2 x)) G) := wrI_b (by rfl) (by rfl)
theorem g10_3 {α : Type} {E : EnQ} {F : Nat → Int → Int32} {G : Nat → Int → Int64} {f : Nat → Option α} : (rdA (mk E F G) 10 192 3).bind f = f (199) := rdC_b (a := 192) (ci := 10) (k := 3) (j := 7) rfl rfl
theorem g10_4 {α : Type} {E : EnQ} {F : Nat → Int → Int32} {G : Nat → Int → Int64} {f : Nat → Option α} : (rdA (mk E F G) 10 192 4).bind f = f (200) := rdC_b (a := 192) (ci := 10) (k := 4) (j := 8) rfl rfl
theorem g11_0 {α : Type} {E : EnQ} {F : Nat → Int → Int32} {G : Nat → Int → Int64} {f : Nat → Option α} : (rdA (mk E F G) 11 16 0).bind f = f (17) := rdC_b (a := 16) (ci := 11) (k := 0) (j := 1) rfl rfl
theorem g11_1 {α : Type} {E : EnQ} {F : Nat → Int → Int32} {G : Nat → Int → Int64} {f : Int → Option α} : (rdT (mk E F G) 11 16 1).bind f = f (tI (F 16 1)) := rdT_b (by rfl) (by rfl)
theorem p11_1 {α : Type} {E : EnQ} {F : Nat → Int → Int32} {G : Nat → Int → Int64} {x : Int32} {f : HeapP → Option α} : (wrV (mk E F G) 11 16 1 (.int x)).bind f = f (mk E (uR F 16 (uC (F 16) 1 x)) G) := wrI_b (by rfl) (by rfl)
theorem g11_2 {α : Type} {E : EnQ} {F : Nat → Int → Int32} {G : Nat → Int → Int64} {f : Int → Option α} : (rdT (mk E F G) 11 16 2).bind f = f (tI (F 16 2)) := rdT_b (by rfl) (by rfl)
theorem p11_2 {α : Type} {E : EnQ} {F : Nat → Int → Int32} {G : Nat → Int → Int64} {x : Int32} {f : HeapP → Option α} : (wrV (mk E F G) 11 16 2 (.int x)).bind f = f (mk E (uR F 16 (uC (F 16) 2 x)) G) := wrI_b (by rfl) (by rfl)
theorem g11_3 {α : Type} {E : EnQ} {F : Nat → Int → Int32} {G : Nat → Int → Int64} {f : Int → Option α} : (rdT (mk E F G) 11 16 3).bind f = f (tI (F 16 3)) := rdT_b (by rfl) (by rfl)
theorem p11_3 {α : Type} {E : EnQ} {F : Nat → Int → Int32} {G : Nat → Int → Int64} {x : Int32} {f : HeapP → Option α} : (wrV (mk E F G) 11 16 3 (.int x)).bind f = f (mk E (uR F 16 (uC (F 16) 3 x)) G) := wrI_b (by rfl) (by rfl)
theorem g11_4 {α : Type} {E : EnQ} {F : Nat → Int → Int32} {G : Nat → Int → Int64} {f : Nat → Option α} : (rdA (mk E F G) 11 16 4).bind f = f (18) := rdC_b (a := 16) (ci := 11) (k := 4) (j := 2) rfl rfl
theorem g11_5 {α : Type} {E : EnQ} {F : Nat → Int → Int32} {G : Nat → Int → Int64} {f : Nat → Option α} : (rdA (mk E F G) 11 16 5).bind f = f (30) := rdC_b (a := 16) (ci := 11) (k := 5) (j := 14) rfl rfl
theorem g11_6 {α : Type} {E : EnQ} {F : Nat → Int → Int32} {G : Nat → Int → Int64} {f : Nat → Option α} : (rdA (mk E F G) 11 16 6).bind f = f (42) := rdC_b (a := 16) (ci := 11) (k := 6) (j := 26) rfl rfl
theorem g11_7 {α : Type} {E : EnQ} {F : Nat → Int → Int32} {G : Nat → Int → Int64} {f : Nat → Option α} : (rdA (mk E F G) 11 16 7).bind f = f (43) := rdC_b (a := 16) (ci := 11) (k := 7) (j := 27) rfl rfl
theorem g11_8 {α : Type} {E : EnQ} {F : Nat → Int → Int32} {G : Nat → Int → Int64} {f : Nat → Option α} : (rdA (mk E F G) 11 16 8).bind f = f (44) := rdC_b (a := 16) (ci := 11) (k := 8) (j := 28) rfl rfl
theorem g11_9 {α : Type} {E : EnQ} {F : Nat → Int → Int32} {G : Nat → Int → Int64} {f : Nat → Option α} : (rdA (mk E F G) 11 16 9).bind f = f (46) := rdC_b (a := 16) (ci := 11) (k := 9) (j := 30) rfl rfl
theorem g11_10 {α : Type} {E : EnQ} {F : Nat → Int → Int32} {G : Nat → Int → Int64} {f : Nat → Option α} : (rdA (mk E F G) 11 16 10).bind f = f (48) := rdC_b (a := 16) (ci := 11) (k := 10) (j := 32) rfl rfl
theorem g11_11 {α : Type} {E : EnQ} {F : Nat → Int → Int32} {G : Nat → Int → Int64} {f : Nat → Option α} : (rdA (mk E F G) 11 16 11).bind f = f (171) := rdC_b (a := 16) (ci := 11) (k := 11) (j := 155) rfl rfl
theorem g11_12 {α : Type} {E : EnQ} {F : Nat → Int → Int32} {G : Nat → Int → Int64} {f : Nat → Option α} : (rdA (mk E F G) 11 16 12).bind f = f (178) := rdC_b (a := 16) (ci := 11) (k := 12) (j := 162) rfl rfl
theorem g11_13 {α : Type} {E : EnQ} {F : Nat → Int → Int32} {G : Nat → Int → Int64} {f : Nat → Option α} : (rdA (mk E F G) 11 16 13).bind f = f (192) := rdC_b (a := 16) (ci := 11) (k := 13) (j := 176) rfl rfl
theorem g11_14 {α : Type} {E : EnQ} {F : Nat → Int → Int32} {G : Nat → Int → Int64} {f : Nat → Option α} : (rdA (mk E F G) 11 16 14).bind f = f (201) := rdC_b (a := 16) (ci := 11) (k := 14) (j := 185) rfl rfl
theorem g11_15 {α : Type} {E : EnQ} {F : Nat → Int → Int32} {G : Nat → Int → Int64} {f : Nat → Option α} : (rdA (mk E F G) 11 16 15).bind f = f (205) := rdC_b (a := 16) (ci := 11) (k := 15) (j := 189) rfl rfl
theorem g11_16 {α : Type} {E : EnQ} {F : Nat → Int → Int32} {G : Nat → Int → Int64} {f : Nat → Option α} : (rdA (mk E F G) 11 16 16).bind f = f (207) := rdC_b (a := 16) (ci := 11) (k := 16) (j := 191) rfl rfl
theorem g11_17 {α : Type} {E : EnQ} {F : Nat → Int → Int32} {G : Nat → Int → Int64} {f : Nat → Option α} : (rdA (mk E F G) 11 16 17).bind f = f (208) := rdC_b (a := 16) (ci := 11) (k := 17) (j := 192) rfl rfl
theorem g11_18 {α : Type} {E : EnQ} {F : Nat → Int → Int32} {G : Nat → Int → Int64} {f : Int → Option α} : (rdT (mk E F G) 11 16 18).bind f = f (tI (F 16 18)) := rdT_b (by rfl) (by rfl)
theorem p11_18 {α : Type} {E : EnQ} {F : Nat → Int → Int32} {G : Nat → Int → Int64} {x : Int32} {f : HeapP → Option α} : (wrV (mk E F G) 11 16 18 (.int x)).bind f = f (mk E (uR F 16 (uC (F 16) 18 x)) G) := wrI_b (by rfl) (by rfl)
theorem g11_19 {α : Type} {E : EnQ} {F : Nat → Int → Int32} {G : Nat → Int → Int64} {f : Int → Option α} : (rdT (mk E F G) 11 16 19).bind f = f (tI (F 16 19)) := rdT_b (by rfl) (by rfl)
theorem p11_19 {α : Type} {E : EnQ} {F : Nat → Int → Int32} {G : Nat → Int → Int64} {x : Int32} {f : HeapP → Option α} : (wrV (mk E F G) 11 16 19 (.int x)).bind f = f (mk E (uR F 16 (uC (F 16) 19 x)) G) := wrI_b (by rfl) (by rfl)
theorem g12_0 {α : Type} {E : EnQ} {F : Nat → Int → Int32} {G : Nat → Int → Int64} {f : Nat → Option α} : (rdA (mk E F G) 12 217 0).bind f = f (218) := rdC_b (a := 217) (ci := 12) (k := 0) (j := 1) rfl rfl
theorem g12_1 {α : Type} {E : EnQ} {F : Nat → Int → Int32} {G : Nat → Int → Int64} {f : Nat → Option α} : (rdA (mk E F G) 12 217 1).bind f = f (219) := rdC_b (a := 217) (ci := 12) (k := 1) (j := 2) rfl rfl
theorem g12_2 {α : Type} {E : EnQ} {F : Nat → Int → Int32} {G : Nat → Int → Int64} {f : Nat → Option α} : (rdA (mk E F G) 12 217 2).bind f = f (220) := rdC_b (a := 217) (ci := 12) (k := 2) (j := 3) rfl rfl
theorem g12_3 {α : Type} {E : EnQ} {F : Nat → Int → Int32} {G : Nat → Int → Int64} {f : Nat → Option α} : (rdA (mk E F G) 12 217 3).bind f = f (221) := rdC_b (a := 217) (ci := 12) (k := 3) (j := 4) rfl rfl
theorem g12_4 {α : Type} {E : EnQ} {F : Nat → Int → Int32} {G : Nat → Int → Int64} {f : Nat → Option α} : (rdA (mk E F G) 12 217 4).bind f = f (222) := rdC_b (a := 217) (ci := 12) (k := 4) (j := 5) rfl rfl
theorem g12_5 {α : Type} {E : EnQ} {F : Nat → Int → Int32} {G : Nat → Int → Int64} {f : Int → Option α} : (rdT (mk E F G) 12 217 5).bind f = f (tI (F 217 5)) := rdT_b (by rfl) (by rfl)
theorem p12_5 {α : Type} {E : EnQ} {F : Nat → Int → Int32} {G : Nat → Int → Int64} {x : Int32} {f : HeapP → Option α} : (wrV (mk E F G) 12 217 5 (.int x)).bind f = f (mk E (uR F 217 (uC (F 217) 5 x)) G) := wrI_b (by rfl) (by rfl)
theorem g12_6 {α : Type} {E : EnQ} {F : Nat → Int → Int32} {G : Nat → Int → Int64} {f : Nat → Option α} : (rdA (mk E F G) 12 217 6).bind f = f (223) := rdC_b (a := 217) (ci := 12) (k := 6) (j := 6) rfl rfl
theorem g12_7 {α : Type} {E : EnQ} {F : Nat → Int → Int32} {G : Nat → Int → Int64} {f : Int → Option α} : (rdT (mk E F G) 12 217 7).bind f = f (tI (F 217 7)) := rdT_b (by rfl) (by rfl)
theorem p12_7 {α : Type} {E : EnQ} {F : Nat → Int → Int32} {G : Nat → Int → Int64} {x : Int32} {f : HeapP → Option α} : (wrV (mk E F G) 12 217 7 (.int x)).bind f = f (mk E (uR F 217 (uC (F 217) 7 x)) G) := wrI_b (by rfl) (by rfl)
theorem g12_8 {α : Type} {E : EnQ} {F : Nat → Int → Int32} {G : Nat → Int → Int64} {f : Int → Option α} : (rdT (mk E F G) 12 217 8).bind f = f (tI (F 217 8)) := rdT_b (by rfl) (by rfl)
theorem p12_8 {α : Type} {E : EnQ} {F : Nat → Int → Int32} {G : Nat → Int → Int64} {x : Int32} {f : HeapP → Option α} : (wrV (mk E F G) 12 217 8 (.int x)).bind f = f (mk E (uR F 217 (uC (F 217) 8 x)) G) := wrI_b (by rfl) (by rfl)
theorem g12_9 {α : Type} {E : EnQ} {F : Nat → Int → Int32} {G : Nat → Int → Int64} {f : Int → Option α} : (rdT (mk E F G) 12 217 9).bind f = f (tI (F 217 9)) := rdT_b (by rfl) (by rfl)
theorem p12_9 {α : Type} {E : EnQ} {F : Nat → Int → Int32} {G : Nat → Int → Int64} {x : Int32} {f : HeapP → Option α} : (wrV (mk E F G) 12 217 9 (.int x)).bind f = f (mk E (uR F 217 (uC (F 217) 9 x)) G) := wrI_b (by rfl) (by rfl)
theorem g12_10 {α : Type} {E : EnQ} {F : Nat → Int → Int32} {G : Nat → Int → Int64} {f : Int → Option α} : (rdT (mk E F G) 12 217 10).bind f = f (tI (F 217 10)) := rdT_b (by rfl) (by rfl)
theorem p12_10 {α : Type} {E : EnQ} {F : Nat → Int → Int32} {G : Nat → Int → Int64} {x : Int32} {f : HeapP → Option α} : (wrV (mk E F G) 12 217 10 (.int x)).bind f = f (mk E (uR F 217 (uC (F 217) 10 x)) G) := wrI_b (by rfl) (by rfl)
theorem g12_11 {α : Type} {E : EnQ} {F : Nat → Int → Int32} {G : Nat → Int → Int64} {f : Int → Option α} : (rdT (mk E F G) 12 217 11).bind f = f (tI (F 217 11)) := rdT_b (by rfl) (by rfl)
theorem p12_11 {α : Type} {E : EnQ} {F : Nat → Int → Int32} {G : Nat → Int → Int64} {x : Int32} {f : HeapP → Option α} : (wrV (mk E F G) 12 217 11 (.int x)).bind f = f (mk E (uR F 217 (uC (F 217) 11 x)) G) := wrI_b (by rfl) (by rfl)
theorem g12_12 {α : Type} {E : EnQ} {F : Nat → Int → Int32} {G : Nat → Int → Int64} {f : Int → Option α} : (rdT (mk E F G) 12 217 12).bind f = f (tI (F 217 12)) := rdT_b (by rfl) (by rfl)
theorem p12_12 {α : Type} {E : EnQ} {F : Nat → Int → Int32} {G : Nat → Int → Int64} {x : Int32} {f : HeapP → Option α} : (wrV (mk E F G) 12 217 12 (.int x)).bind f = f (mk E (uR F 217 (uC (F 217) 12 x)) G) := wrI_b (by rfl) (by rfl)
theorem g12_13 {α : Type} {E : EnQ} {F : Nat → Int → Int32} {G : Nat → Int → Int64} {f : Int → Option α} : (rdT (mk E F G) 12 217 13).bind f = f (tI (F 217 13)) := rdT_b (by rfl) (by rfl)
theorem p12_13 {α : Type} {E : EnQ} {F : Nat → Int → Int32} {G : Nat → Int → Int64} {x : Int32} {f : HeapP → Option α} : (wrV (mk E F G) 12 217 13 (.int x)).bind f = f (mk E (uR F 217 (uC (F 217) 13 x)) G) := wrI_b (by rfl) (by rfl)
theorem g12_14 {α : Type} {E : EnQ} {F : Nat → Int → Int32} {G : Nat → Int → Int64} {f : Int → Option α} : (rdT (mk E F G) 12 217 14).bind f = f (tI (F 217 14)) := rdT_b (by rfl) (by rfl)
theorem p12_14 {α : Type} {E : EnQ} {F : Nat → Int → Int32} {G : Nat → Int → Int64} {x : Int32} {f : HeapP → Option α} : (wrV (mk E F G) 12 217 14 (.int x)).bind f = f (mk E (uR F 217 (uC (F 217) 14 x)) G) := wrI_b (by rfl) (by rfl)
theorem g12_15 {α : Type} {E : EnQ} {F : Nat → Int → Int32} {G : Nat → Int → Int64} {f : Int → Option α} : (rdT (mk E F G) 12 217 15).bind f = f (tI (F 217 15)) := rdT_b (by rfl) (by rfl)
theorem p12_15 {α : Type} {E : EnQ} {F : Nat → Int → Int32} {G : Nat → Int → Int64} {x : Int32} {f : HeapP → Option α} : (wrV (mk E F G) 12 217 15 (.int x)).bind f = f (mk E (uR F 217 (uC (F 217) 15 x)) G) := wrI_b (by rfl) (by rfl)
theorem g12_16 {α : Type} {E : EnQ} {F : Nat → Int → Int32} {G : Nat → Int → Int64} {f : Int → Option α} : (rdT (mk E F G) 12 217 16).bind f = f (tI (F 217 16)) := rdT_b (by rfl) (by rfl)
theorem p12_16 {α : Type} {E : EnQ} {F : Nat → Int → Int32} {G : Nat → Int → Int64} {x : Int32} {f : HeapP → Option α} : (wrV (mk E F G) 12 217 16 (.int x)).bind f = f (mk E (uR F 217 (uC (F 217) 16 x)) G) := wrI_b (by rfl) (by rfl)
theorem g12_17 {α : Type} {E : EnQ} {F : Nat → Int → Int32} {G : Nat → Int → Int64} {f : Nat → Option α} : (rdA (mk E F G) 12 217 17).bind f = f (224) := rdC_b (a := 217) (ci := 12) (k := 17) (j := 7) rfl rfl
theorem g12_18 {α : Type} {E : EnQ} {F : Nat → Int → Int32} {G : Nat → Int → Int64} {f : Int → Option α} : (rdT (mk E F G) 12 217 18).bind f = f (tI (F 217 18)) := rdT_b (by rfl) (by rfl)
theorem p12_18 {α : Type} {E : EnQ} {F : Nat → Int → Int32} {G : Nat → Int → Int64} {x : Int32} {f : HeapP → Option α} : (wrV (mk E F G) 12 217 18 (.int x)).bind f = f (mk E (uR F 217 (uC (F 217) 18 x)) G) := wrI_b (by rfl) (by rfl)
theorem g12_19 {α : Type} {E : EnQ} {F : Nat → Int → Int32} {G : Nat → Int → Int64} {f : Int → Option α} : (rdT (mk E F G) 12 217 19).bind f = f (tI (F 217 19)) := rdT_b (by rfl) (by rfl)
theorem p12_19 {α : Type} {E : EnQ} {F : Nat → Int → Int32} {G : Nat → Int → Int64} {x : Int32} {f : HeapP → Option α} : (wrV (mk E F G) 12 217 19 (.int x)).bind f = f (mk E (uR F 217 (uC (F 217) 19 x)) G) := wrI_b (by rfl) (by rfl)
theorem g12_20 {α : Type} {E : EnQ} {F : Nat → Int → Int32} {G : Nat → Int → Int64} {f : Nat → Option α} : (rdA (mk E F G) 12 217 20).bind f = f (225) := rdC_b (a := 217) (ci := 12) (k := 20) (j := 8) rfl rfl
theorem g12_21 {α : Type} {E : EnQ} {F : Nat → Int → Int32} {G : Nat → Int → Int64} {f : Nat → Option α} : (rdA (mk E F G) 12 217 21).bind f = f (226) := rdC_b (a := 217) (ci := 12) (k := 21) (j := 9) rfl rfl
theorem g12_22 {α : Type} {E : EnQ} {F : Nat → Int → Int32} {G : Nat → Int → Int64} {f : Int → Option α} : (rdT (mk E F G) 12 217 22).bind f = f (tI (F 217 22)) := rdT_b (by rfl) (by rfl)
theorem p12_22 {α : Type} {E : EnQ} {F : Nat → Int → Int32} {G : Nat → Int → Int64} {x : Int32} {f : HeapP → Option α} : (wrV (mk E F G) 12 217 22 (.int x)).bind f = f (mk E (uR F 217 (uC (F 217) 22 x)) G) := wrI_b (by rfl) (by rfl)
theorem g12_23 {α : Type} {E : EnQ} {F : Nat → Int → Int32} {G : Nat → Int → Int64} {f : Nat → Option α} : (rdA (mk E F G) 12 217 23).bind f = f (227) := rdC_b (a := 217) (ci := 12) (k := 23) (j := 10) rfl rfl
theorem g12_24 {α : Type} {E : EnQ} {F : Nat → Int → Int32} {G : Nat → Int → Int64} {f : Nat → Option α} : (rdA (mk E F G) 12 217 24).bind f = f (228) := rdC_b (a := 217) (ci := 12) (k := 24) (j := 11) rfl rfl
theorem g12_25 {α : Type} {E : EnQ} {F : Nat → Int → Int32} {G : Nat → Int → Int64} {f : Nat → Option α} : (rdA (mk E F G) 12 217 25).bind f = f (229) := rdC_b (a := 217) (ci := 12) (k := 25) (j := 12) rfl rfl
theorem g12_26 {α : Type} {E : EnQ} {F : Nat → Int → Int32} {G : Nat → Int → Int64} {f : Nat → Option α} : (rdA (mk E F G) 12 217 26).bind f = f (230) := rdC_b (a := 217) (ci := 12) (k := 26) (j := 13) rfl rfl
theorem g12_27 {α : Type} {E : EnQ} {F : Nat → Int → Int32} {G : Nat → Int → Int64} {f : Int → Option α} : (rdT (mk E F G) 12 217 27).bind f = f (tI (F 217 27)) := rdT_b (by rfl) (by rfl)
theorem p12_27 {α : Type} {E : EnQ} {F : Nat → Int → Int32} {G : Nat → Int → Int64} {x : Int32} {f : HeapP → Option α} : (wrV (mk E F G) 12 217 27 (.int x)).bind f = f (mk E (uR F 217 (uC (F 217) 27 x)) G) := wrI_b (by rfl) (by rfl)
theorem g12_28 {α : Type} {E : EnQ} {F : Nat → Int → Int32} {G : Nat → Int → Int64} {f : Int → Option α} : (rdT (mk E F G) 12 217 28).bind f = f (tI (F 217 28)) := rdT_b (by rfl) (by rfl)
theorem p12_28 {α : Type} {E : EnQ} {F : Nat → Int → Int32} {G : Nat → Int → Int64} {x : Int32} {f : HeapP → Option α} : (wrV (mk E F G) 12 217 28 (.int x)).bind f = f (mk E (uR F 217 (uC (F 217) 28 x)) G) := wrI_b (by rfl) (by rfl)
theorem g12_29 {α : Type} {E : EnQ} {F : Nat → Int → Int32} {G : Nat → Int → Int64} {f : Int → Option α} : (rdT (mk E F G) 12 217 29).bind f = f (tI (F 217 29)) := rdT_b (by rfl) (by rfl)
theorem p12_29 {α : Type} {E : EnQ} {F : Nat → Int → Int32} {G : Nat → Int → Int64} {x : Int32} {f : HeapP → Option α} : (wrV (mk E F G) 12 217 29 (.int x)).bind f = f (mk E (uR F 217 (uC (F 217) 29 x)) G) := wrI_b (by rfl) (by rfl)
theorem g12_30 {α : Type} {E : EnQ} {F : Nat → Int → Int32} {G : Nat → Int → Int64} {f : Nat → Option α} : (rdA (mk E F G) 12 217 30).bind f = f (231) := rdC_b (a := 217) (ci := 12) (k := 30) (j := 14) rfl rfl
theorem g12_31 {α : Type} {E : EnQ} {F : Nat → Int → Int32} {G : Nat → Int → Int64} {f : Nat → Option α} : (rdA (mk E F G) 12 217 31).bind f = f (232) := rdC_b (a := 217) (ci := 12) (k := 31) (j := 15) rfl rfl
theorem g12_32 {α : Type} {E : EnQ} {F : Nat → Int → Int32} {G : Nat → Int → Int64} {f : Nat → Option α} : (rdA (mk E F G) 12 217 32).bind f = f (233) := rdC_b (a := 217) (ci := 12) (k := 32) (j := 16) rfl rfl
theorem g12_33 {α : Type} {E : EnQ} {F : Nat → Int → Int32} {G : Nat → Int → Int64} {f : Nat → Option α} : (rdA (mk E F G) 12 217 33).bind f = f (234) := rdC_b (a := 217) (ci := 12) (k := 33) (j := 17) rfl rfl
theorem g12_34 {α : Type} {E : EnQ} {F : Nat → Int → Int32} {G : Nat → Int → Int64} {f : Nat → Option α} : (rdA (mk E F G) 12 217 34).bind f = f (235) := rdC_b (a := 217) (ci := 12) (k := 34) (j := 18) rfl rfl
theorem g12_35 {α : Type} {E : EnQ} {F : Nat → Int → Int32} {G : Nat → Int → Int64} {f : Int → Option α} : (rdT (mk E F G) 12 217 35).bind f = f (tI (F 217 35)) := rdT_b (by rfl) (by rfl)
theorem p12_35 {α : Type} {E : EnQ} {F : Nat → Int → Int32} {G : Nat → Int → Int64} {x : Int32} {f : HeapP → Option α} : (wrV (mk E F G) 12 217 35 (.int x)).bind f = f (mk E (uR F 217 (uC (F 217) 35 x)) G) := wrI_b (by rfl) (by rfl)
theorem g12_36 {α : Type} {E : EnQ} {F : Nat → Int → Int32} {G : Nat → Int → Int64} {f : Int → Option α} : (rdT (mk E F G) 12 217 36).bind f = f (tI (F 217 36)) := rdT_b (by rfl) (by rfl)
theorem p12_36 {α : Type} {E : EnQ} {F : Nat → Int → Int32} {G : Nat → Int → Int64} {x : Int32} {f : HeapP → Option α} : (wrV (mk E F G) 12 217 36 (.int x)).bind f = f (mk E (uR F 217 (uC (F 217) 36 x)) G) := wrI_b (by rfl) (by rfl)
theorem g12_37 {α : Type} {E : EnQ} {F : Nat → Int → Int32} {G : Nat → Int → Int64} {f : Int → Option α} : (rdT (mk E F G) 12 217 37).bind f = f (tI (F 217 37)) := rdT_b (by rfl) (by rfl)
theorem p12_37 {α : Type} {E : EnQ} {F : Nat → Int → Int32} {G : Nat → Int → Int64} {x : Int32} {f : HeapP → Option α} : (wrV (mk E F G) 12 217 37 (.int x)).bind f = f (mk E (uR F 217 (uC (F 217) 37 x)) G) := wrI_b (by rfl) (by rfl)
theorem g12_38 {α : Type} {E : EnQ} {F : Nat → Int → Int32} {G : Nat → Int → Int64} {f : Int → Option α} : (rdT (mk E F G) 12 217 38).bind f = f (tI (F 217 38)) := rdT_b (by rfl) (by rfl)
theorem p12_38 {α : Type} {E : EnQ} {F : Nat → Int → Int32} {G : Nat → Int → Int64} {x : Int32} {f : HeapP → Option α} : (wrV (mk E F G) 12 217 38 (.int x)).bind f = f (mk E (uR F 217 (uC (F 217) 38 x)) G) := wrI_b (by rfl) (by rfl)
theorem g12_39 {α : Type} {E : EnQ} {F : Nat → Int → Int32} {G : Nat → Int → Int64} {f : Int → Option α} : (rdJT (mk E F G) 12 217 39).bind f = f (tJ (G 217 39)) := rdJ_b (by rfl) (by rfl)
theorem p12_39 {α : Type} {E : EnQ} {F : Nat → Int → Int32} {G : Nat → Int → Int64} {x : Int64} {f : HeapP → Option α} : (wrV (mk E F G) 12 217 39 (.long x)).bind f = f (mk E F (uR G 217 (uC (G 217) 39 x))) := wrJ_b (by rfl) (by rfl)
theorem g12_40 {α : Type} {E : EnQ} {F : Nat → Int → Int32} {G : Nat → Int → Int64} {f : Int → Option α} : (rdJT (mk E F G) 12 217 40).bind f = f (tJ (G 217 40)) := rdJ_b (by rfl) (by rfl)
theorem p12_40 {α : Type} {E : EnQ} {F : Nat → Int → Int32} {G : Nat → Int → Int64} {x : Int64} {f : HeapP → Option α} : (wrV (mk E F G) 12 217 40 (.long x)).bind f = f (mk E F (uR G 217 (uC (G 217) 40 x))) := wrJ_b (by rfl) (by rfl)
theorem g12_41 {α : Type} {E : EnQ} {F : Nat → Int → Int32} {G : Nat → Int → Int64} {f : Int → Option α} : (rdT (mk E F G) 12 217 41).bind f = f (tI (F 217 41)) := rdT_b (by rfl) (by rfl)
theorem p12_41 {α : Type} {E : EnQ} {F : Nat → Int → Int32} {G : Nat → Int → Int64} {x : Int32} {f : HeapP → Option α} : (wrV (mk E F G) 12 217 41 (.int x)).bind f = f (mk E (uR F 217 (uC (F 217) 41 x)) G) := wrI_b (by rfl) (by rfl)
theorem g12_42 {α : Type} {E : EnQ} {F : Nat → Int → Int32} {G : Nat → Int → Int64} {f : Nat → Option α} : (rdA (mk E F G) 12 217 42).bind f = f (236) := rdC_b (a := 217) (ci := 12) (k := 42) (j := 19) rfl rfl
theorem g12_43 {α : Type} {E : EnQ} {F : Nat → Int → Int32} {G : Nat → Int → Int64} {f : Nat → Option α} : (rdA (mk E F G) 12 217 43).bind f = f (237) := rdC_b (a := 217) (ci := 12) (k := 43) (j := 20) rfl rfl
theorem g12_44 {α : Type} {E : EnQ} {F : Nat → Int → Int32} {G : Nat → Int → Int64} {f : Nat → Option α} : (rdA (mk E F G) 12 217 44).bind f = f (238) := rdC_b (a := 217) (ci := 12) (k := 44) (j := 21) rfl rfl
theorem g12_45 {α : Type} {E : EnQ} {F : Nat → Int → Int32} {G : Nat → Int → Int64} {f : Int → Option α} : (rdT (mk E F G) 12 217 45).bind f = f (tI (F 217 45)) := rdT_b (by rfl) (by rfl)
theorem p12_45 {α : Type} {E : EnQ} {F : Nat → Int → Int32} {G : Nat → Int → Int64} {x : Int32} {f : HeapP → Option α} : (wrV (mk E F G) 12 217 45 (.int x)).bind f = f (mk E (uR F 217 (uC (F 217) 45 x)) G) := wrI_b (by rfl) (by rfl)
theorem g12_46 {α : Type} {E : EnQ} {F : Nat → Int → Int32} {G : Nat → Int → Int64} {f : Nat → Option α} : (rdA (mk E F G) 12 217 46).bind f = f (239) := rdC_b (a := 217) (ci := 12) (k := 46) (j := 22) rfl rfl
theorem g12_47 {α : Type} {E : EnQ} {F : Nat → Int → Int32} {G : Nat → Int → Int64} {f : Nat → Option α} : (rdA (mk E F G) 12 217 47).bind f = f (240) := rdC_b (a := 217) (ci := 12) (k := 47) (j := 23) rfl rfl
theorem g12_48 {α : Type} {E : EnQ} {F : Nat → Int → Int32} {G : Nat → Int → Int64} {f : Nat → Option α} : (rdA (mk E F G) 12 217 48).bind f = f (241) := rdC_b (a := 217) (ci := 12) (k := 48) (j := 24) rfl rfl
theorem g12_49 {α : Type} {E : EnQ} {F : Nat → Int → Int32} {G : Nat → Int → Int64} {f : Int → Option α} : (rdT (mk E F G) 12 217 49).bind f = f (tI (F 217 49)) := rdT_b (by rfl) (by rfl)
theorem p12_49 {α : Type} {E : EnQ} {F : Nat → Int → Int32} {G : Nat → Int → Int64} {x : Int32} {f : HeapP → Option α} : (wrV (mk E F G) 12 217 49 (.int x)).bind f = f (mk E (uR F 217 (uC (F 217) 49 x)) G) := wrI_b (by rfl) (by rfl)
theorem g12_50 {α : Type} {E : EnQ} {F : Nat → Int → Int32} {G : Nat → Int → Int64} {f : Int → Option α} : (rdJT (mk E F G) 12 217 50).bind f = f (tJ (G 217 50)) := rdJ_b (by rfl) (by rfl)
theorem p12_50 {α : Type} {E : EnQ} {F : Nat → Int → Int32} {G : Nat → Int → Int64} {x : Int64} {f : HeapP → Option α} : (wrV (mk E F G) 12 217 50 (.long x)).bind f = f (mk E F (uR G 217 (uC (G 217) 50 x))) := wrJ_b (by rfl) (by rfl)
theorem g12_51 {α : Type} {E : EnQ} {F : Nat → Int → Int32} {G : Nat → Int → Int64} {f : Nat → Option α} : (rdA (mk E F G) 12 217 51).bind f = f (242) := rdC_b (a := 217) (ci := 12) (k := 51) (j := 25) rfl rfl
theorem g12_52 {α : Type} {E : EnQ} {F : Nat → Int → Int32} {G : Nat → Int → Int64} {f : Int → Option α} : (rdT (mk E F G) 12 217 52).bind f = f (tI (F 217 52)) := rdT_b (by rfl) (by rfl)
theorem p12_52 {α : Type} {E : EnQ} {F : Nat → Int → Int32} {G : Nat → Int → Int64} {x : Int32} {f : HeapP → Option α} : (wrV (mk E F G) 12 217 52 (.int x)).bind f = f (mk E (uR F 217 (uC (F 217) 52 x)) G) := wrI_b (by rfl) (by rfl)
theorem g12_53 {α : Type} {E : EnQ} {F : Nat → Int → Int32} {G : Nat → Int → Int64} {f : Nat → Option α} : (rdA (mk E F G) 12 217 53).bind f = f (243) := rdC_b (a := 217) (ci := 12) (k := 53) (j := 26) rfl rfl
theorem g12_54 {α : Type} {E : EnQ} {F : Nat → Int → Int32} {G : Nat → Int → Int64} {f : Nat → Option α} : (rdA (mk E F G) 12 217 54).bind f = f (244) := rdC_b (a := 217) (ci := 12) (k := 54) (j := 27) rfl rfl
theorem g12_55 {α : Type} {E : EnQ} {F : Nat → Int → Int32} {G : Nat → Int → Int64} {f : Nat → Option α} : (rdA (mk E F G) 12 217 55).bind f = f (245) := rdC_b (a := 217) (ci := 12) (k := 55) (j := 28) rfl rfl
theorem pz12_18 {α : Type} {E : EnQ} {F : Nat → Int → Int32} {G : Nat → Int → Int64} {x : Int} {f : HeapP → Option α} (hx : x = 0 ∨ x = 1) : (wrZ (mk E F G) 12 217 18 (zI x)).bind f = f (mk E (uR F 217 (uC (F 217) 18 (zI x))) G) := wrZ_b hx (by rfl) (by rfl)
theorem pz12_41 {α : Type} {E : EnQ} {F : Nat → Int → Int32} {G : Nat → Int → Int64} {x : Int} {f : HeapP → Option α} (hx : x = 0 ∨ x = 1) : (wrZ (mk E F G) 12 217 41 (zI x)).bind f = f (mk E (uR F 217 (uC (F 217) 41 (zI x))) G) := wrZ_b hx (by rfl) (by rfl)
theorem al_17 {α : Type} {E : EnQ} {F : Nat → Int → Int32} {G : Nat → Int → Int64} {i : Int} {f : Int → Option α} (hi : 0 ≤ i ∧ i < 600) : (alT (mk E F G) 1 17 (zI i)).bind f = f (tI (F 17 i)) := alT_b (n := 600) (by rfl) hi (by decide)
theorem as_17 {α : Type} {E : EnQ} {F : Nat → Int → Int32} {G : Nat → Int → Int64} {i : Int} {x : Int32} {f : HeapP → Option α} (hi : 0 ≤ i ∧ i < 600) : (astN (mk E F G) 1 17 (zI i) x).bind f = f (mk E (uR F 17 (uC (F 17) i (vp_nar (tyP 1) x))) G) := asN_b (n := 600) (by rfl) hi (by decide)
theorem al_172 {α : Type} {E : EnQ} {F : Nat → Int → Int32} {G : Nat → Int → Int64} {i : Int} {f : Int → Option α} (hi : 0 ≤ i ∧ i < 4) : (alT (mk E F G) 0 172 (zI i)).bind f = f (tI (F 172 i)) := alT_b (n := 4) (by rfl) hi (by decide)
theorem as_172 {α : Type} {E : EnQ} {F : Nat → Int → Int32} {G : Nat → Int → Int64} {i : Int} {x : Int32} {f : HeapP → Option α} (hi : 0 ≤ i ∧ i < 4) : (astI (mk E F G) 0 172 (zI i) x).bind f = f (mk E (uR F 172 (uC (F 172) i x)) G) := asI_b (n := 4) (by rfl) hi (by decide)
theorem al_185 {α : Type} {E : EnQ} {F : Nat → Int → Int32} {G : Nat → Int → Int64} {i : Int} {f : Int → Option α} (hi : 0 ≤ i ∧ i < 14) : (alT (mk E F G) 0 185 (zI i)).bind f = f (tI (F 185 i)) := alT_b (n := 14) (by rfl) hi (by decide)
theorem as_185 {α : Type} {E : EnQ} {F : Nat → Int → Int32} {G : Nat → Int → Int64} {i : Int} {x : Int32} {f : HeapP → Option α} (hi : 0 ≤ i ∧ i < 14) : (astI (mk E F G) 0 185 (zI i) x).bind f = f (mk E (uR F 185 (uC (F 185) i x)) G) := asI_b (n := 14) (by rfl) hi (by decide)
theorem al_186 {α : Type} {E : EnQ} {F : Nat → Int → Int32} {G : Nat → Int → Int64} {i : Int} {f : Int → Option α} (hi : 0 ≤ i ∧ i < 14) : (alT (mk E F G) 0 186 (zI i)).bind f = f (tI (F 186 i)) := alT_b (n := 14) (by rfl) hi (by decide)
theorem as_186 {α : Type} {E : EnQ} {F : Nat → Int → Int32} {G : Nat → Int → Int64} {i : Int} {x : Int32} {f : HeapP → Option α} (hi : 0 ≤ i ∧ i < 14) : (astI (mk E F G) 0 186 (zI i) x).bind f = f (mk E (uR F 186 (uC (F 186) i x)) G) := asI_b (n := 14) (by rfl) hi (by decide)
theorem al_187 {α : Type} {E : EnQ} {F : Nat → Int → Int32} {G : Nat → Int → Int64} {i : Int} {f : Int → Option α} (hi : 0 ≤ i ∧ i < 14) : (alT (mk E F G) 0 187 (zI i)).bind f = f (tI (F 187 i)) := alT_b (n := 14) (by rfl) hi (by decide)
theorem as_187 {α : Type} {E : EnQ} {F : Nat → Int → Int32} {G : Nat → Int → Int64} {i : Int} {x : Int32} {f : HeapP → Option α} (hi : 0 ≤ i ∧ i < 14) : (astI (mk E F G) 0 187 (zI i) x).bind f = f (mk E (uR F 187 (uC (F 187) i x)) G) := asI_b (n := 14) (by rfl) hi (by decide)
theorem al_188 {α : Type} {E : EnQ} {F : Nat → Int → Int32} {G : Nat → Int → Int64} {i : Int} {f : Int → Option α} (hi : 0 ≤ i ∧ i < 14) : (alT (mk E F G) 0 188 (zI i)).bind f = f (tI (F 188 i)) := alT_b (n := 14) (by rfl) hi (by decide)
theorem as_188 {α : Type} {E : EnQ} {F : Nat → Int → Int32} {G : Nat → Int → Int64} {i : Int} {x : Int32} {f : HeapP → Option α} (hi : 0 ≤ i ∧ i < 14) : (astI (mk E F G) 0 188 (zI i) x).bind f = f (mk E (uR F 188 (uC (F 188) i x)) G) := asI_b (n := 14) (by rfl) hi (by decide)
theorem al_189 {α : Type} {E : EnQ} {F : Nat → Int → Int32} {G : Nat → Int → Int64} {i : Int} {f : Int → Option α} (hi : 0 ≤ i ∧ i < 16384) : (alJT (mk E F G) 189 (zI i)).bind f = f (tJ (G 189 i)) := alJ_b (n := 16384) (by rfl) hi (by decide)
theorem as_189 {α : Type} {E : EnQ} {F : Nat → Int → Int32} {G : Nat → Int → Int64} {i : Int} {x : Int64} {f : HeapP → Option α} (hi : 0 ≤ i ∧ i < 16384) : (astJ (mk E F G) 189 (zI i) x).bind f = f (mk E F (uR G 189 (uC (G 189) i x))) := asJ_b (n := 16384) (by rfl) hi (by decide)
theorem al_190 {α : Type} {E : EnQ} {F : Nat → Int → Int32} {G : Nat → Int → Int64} {i : Int} {f : Int → Option α} (hi : 0 ≤ i ∧ i < 16384) : (alJT (mk E F G) 190 (zI i)).bind f = f (tJ (G 190 i)) := alJ_b (n := 16384) (by rfl) hi (by decide)
theorem as_190 {α : Type} {E : EnQ} {F : Nat → Int → Int32} {G : Nat → Int → Int64} {i : Int} {x : Int64} {f : HeapP → Option α} (hi : 0 ≤ i ∧ i < 16384) : (astJ (mk E F G) 190 (zI i) x).bind f = f (mk E F (uR G 190 (uC (G 190) i x))) := asJ_b (n := 16384) (by rfl) hi (by decide)
theorem al_191 {α : Type} {E : EnQ} {F : Nat → Int → Int32} {G : Nat → Int → Int64} {i : Int} {f : Int → Option α} (hi : 0 ≤ i ∧ i < 16384) : (alT (mk E F G) 0 191 (zI i)).bind f = f (tI (F 191 i)) := alT_b (n := 16384) (by rfl) hi (by decide)
theorem as_191 {α : Type} {E : EnQ} {F : Nat → Int → Int32} {G : Nat → Int → Int64} {i : Int} {x : Int32} {f : HeapP → Option α} (hi : 0 ≤ i ∧ i < 16384) : (astI (mk E F G) 0 191 (zI i) x).bind f = f (mk E (uR F 191 (uC (F 191) i x)) G) := asI_b (n := 16384) (by rfl) hi (by decide)
theorem al_199 {α : Type} {E : EnQ} {F : Nat → Int → Int32} {G : Nat → Int → Int64} {i : Int} {f : Int → Option α} (hi : 0 ≤ i ∧ i < 7) : (alT (mk E F G) 0 199 (zI i)).bind f = f (tI (F 199 i)) := alT_b (n := 7) (by rfl) hi (by decide)
theorem as_199 {α : Type} {E : EnQ} {F : Nat → Int → Int32} {G : Nat → Int → Int64} {i : Int} {x : Int32} {f : HeapP → Option α} (hi : 0 ≤ i ∧ i < 7) : (astI (mk E F G) 0 199 (zI i) x).bind f = f (mk E (uR F 199 (uC (F 199) i x)) G) := asI_b (n := 7) (by rfl) hi (by decide)
theorem al_200 {α : Type} {E : EnQ} {F : Nat → Int → Int32} {G : Nat → Int → Int64} {i : Int} {f : Int → Option α} (hi : 0 ≤ i ∧ i < 7) : (alT (mk E F G) 0 200 (zI i)).bind f = f (tI (F 200 i)) := alT_b (n := 7) (by rfl) hi (by decide)
theorem as_200 {α : Type} {E : EnQ} {F : Nat → Int → Int32} {G : Nat → Int → Int64} {i : Int} {x : Int32} {f : HeapP → Option α} (hi : 0 ≤ i ∧ i < 7) : (astI (mk E F G) 0 200 (zI i) x).bind f = f (mk E (uR F 200 (uC (F 200) i x)) G) := asI_b (n := 7) (by rfl) hi (by decide)
theorem al_202 {α : Type} {E : EnQ} {F : Nat → Int → Int32} {G : Nat → Int → Int64} {i : Int} {f : Int → Option α} (hi : 0 ≤ i ∧ i < 32) : (alT (mk E F G) 0 202 (zI i)).bind f = f (tI (F 202 i)) := alT_b (n := 32) (by rfl) hi (by decide)
theorem as_202 {α : Type} {E : EnQ} {F : Nat → Int → Int32} {G : Nat → Int → Int64} {i : Int} {x : Int32} {f : HeapP → Option α} (hi : 0 ≤ i ∧ i < 32) : (astI (mk E F G) 0 202 (zI i) x).bind f = f (mk E (uR F 202 (uC (F 202) i x)) G) := asI_b (n := 32) (by rfl) hi (by decide)
theorem al_203 {α : Type} {E : EnQ} {F : Nat → Int → Int32} {G : Nat → Int → Int64} {i : Int} {f : Int → Option α} (hi : 0 ≤ i ∧ i < 4096) : (alT (mk E F G) 0 203 (zI i)).bind f = f (tI (F 203 i)) := alT_b (n := 4096) (by rfl) hi (by decide)
theorem as_203 {α : Type} {E : EnQ} {F : Nat → Int → Int32} {G : Nat → Int → Int64} {i : Int} {x : Int32} {f : HeapP → Option α} (hi : 0 ≤ i ∧ i < 4096) : (astI (mk E F G) 0 203 (zI i) x).bind f = f (mk E (uR F 203 (uC (F 203) i x)) G) := asI_b (n := 4096) (by rfl) hi (by decide)
theorem al_204 {α : Type} {E : EnQ} {F : Nat → Int → Int32} {G : Nat → Int → Int64} {i : Int} {f : Int → Option α} (hi : 0 ≤ i ∧ i < 4096) : (alT (mk E F G) 0 204 (zI i)).bind f = f (tI (F 204 i)) := alT_b (n := 4096) (by rfl) hi (by decide)
theorem as_204 {α : Type} {E : EnQ} {F : Nat → Int → Int32} {G : Nat → Int → Int64} {i : Int} {x : Int32} {f : HeapP → Option α} (hi : 0 ≤ i ∧ i < 4096) : (astI (mk E F G) 0 204 (zI i) x).bind f = f (mk E (uR F 204 (uC (F 204) i x)) G) := asI_b (n := 4096) (by rfl) hi (by decide)
theorem al_206 {α : Type} {E : EnQ} {F : Nat → Int → Int32} {G : Nat → Int → Int64} {i : Int} {f : Int → Option α} (hi : 0 ≤ i ∧ i < 4096) : (alJT (mk E F G) 206 (zI i)).bind f = f (tJ (G 206 i)) := alJ_b (n := 4096) (by rfl) hi (by decide)
theorem as_206 {α : Type} {E : EnQ} {F : Nat → Int → Int32} {G : Nat → Int → Int64} {i : Int} {x : Int64} {f : HeapP → Option α} (hi : 0 ≤ i ∧ i < 4096) : (astJ (mk E F G) 206 (zI i) x).bind f = f (mk E F (uR G 206 (uC (G 206) i x))) := asJ_b (n := 4096) (by rfl) hi (by decide)
theorem al_207 {α : Type} {E : EnQ} {F : Nat → Int → Int32} {G : Nat → Int → Int64} {i : Int} {f : Int → Option α} (hi : 0 ≤ i ∧ i < 32) : (alT (mk E F G) 0 207 (zI i)).bind f = f (tI (F 207 i)) := alT_b (n := 32) (by rfl) hi (by decide)
theorem as_207 {α : Type} {E : EnQ} {F : Nat → Int → Int32} {G : Nat → Int → Int64} {i : Int} {x : Int32} {f : HeapP → Option α} (hi : 0 ≤ i ∧ i < 32) : (astI (mk E F G) 0 207 (zI i) x).bind f = f (mk E (uR F 207 (uC (F 207) i x)) G) := asI_b (n := 32) (by rfl) hi (by decide)
theorem al_208 {α : Type} {E : EnQ} {F : Nat → Int → Int32} {G : Nat → Int → Int64} {i : Int} {f : Int → Option α} (hi : 0 ≤ i ∧ i < 6) : (alT (mk E F G) 0 208 (zI i)).bind f = f (tI (F 208 i)) := alT_b (n := 6) (by rfl) hi (by decide)
theorem as_208 {α : Type} {E : EnQ} {F : Nat → Int → Int32} {G : Nat → Int → Int64} {i : Int} {x : Int32} {f : HeapP → Option α} (hi : 0 ≤ i ∧ i < 6) : (astI (mk E F G) 0 208 (zI i) x).bind f = f (mk E (uR F 208 (uC (F 208) i x)) G) := asI_b (n := 6) (by rfl) hi (by decide)
theorem al_218 {α : Type} {E : EnQ} {F : Nat → Int → Int32} {G : Nat → Int → Int64} {i : Int} {f : Int → Option α} (hi : 0 ≤ i ∧ i < 408) : (alT (mk E F G) 0 218 (zI i)).bind f = f (tI (F 218 i)) := alT_b (n := 408) (by rfl) hi (by decide)
theorem as_218 {α : Type} {E : EnQ} {F : Nat → Int → Int32} {G : Nat → Int → Int64} {i : Int} {x : Int32} {f : HeapP → Option α} (hi : 0 ≤ i ∧ i < 408) : (astI (mk E F G) 0 218 (zI i) x).bind f = f (mk E (uR F 218 (uC (F 218) i x)) G) := asI_b (n := 408) (by rfl) hi (by decide)
theorem al_219 {α : Type} {E : EnQ} {F : Nat → Int → Int32} {G : Nat → Int → Int64} {i : Int} {f : Int → Option α} (hi : 0 ≤ i ∧ i < 408) : (alT (mk E F G) 0 219 (zI i)).bind f = f (tI (F 219 i)) := alT_b (n := 408) (by rfl) hi (by decide)
theorem as_219 {α : Type} {E : EnQ} {F : Nat → Int → Int32} {G : Nat → Int → Int64} {i : Int} {x : Int32} {f : HeapP → Option α} (hi : 0 ≤ i ∧ i < 408) : (astI (mk E F G) 0 219 (zI i) x).bind f = f (mk E (uR F 219 (uC (F 219) i x)) G) := asI_b (n := 408) (by rfl) hi (by decide)
theorem al_220 {α : Type} {E : EnQ} {F : Nat → Int → Int32} {G : Nat → Int → Int64} {i : Int} {f : Int → Option α} (hi : 0 ≤ i ∧ i < 408) : (alT (mk E F G) 0 220 (zI i)).bind f = f (tI (F 220 i)) := alT_b (n := 408) (by rfl) hi (by decide)
theorem as_220 {α : Type} {E : EnQ} {F : Nat → Int → Int32} {G : Nat → Int → Int64} {i : Int} {x : Int32} {f : HeapP → Option α} (hi : 0 ≤ i ∧ i < 408) : (astI (mk E F G) 0 220 (zI i) x).bind f = f (mk E (uR F 220 (uC (F 220) i x)) G) := asI_b (n := 408) (by rfl) hi (by decide)
theorem al_221 {α : Type} {E : EnQ} {F : Nat → Int → Int32} {G : Nat → Int → Int64} {i : Int} {f : Int → Option α} (hi : 0 ≤ i ∧ i < 1224) : (alT (mk E F G) 0 221 (zI i)).bind f = f (tI (F 221 i)) := alT_b (n := 1224) (by rfl) hi (by decide)
theorem as_221 {α : Type} {E : EnQ} {F : Nat → Int → Int32} {G : Nat → Int → Int64} {i : Int} {x : Int32} {f : HeapP → Option α} (hi : 0 ≤ i ∧ i < 1224) : (astI (mk E F G) 0 221 (zI i) x).bind f = f (mk E (uR F 221 (uC (F 221) i x)) G) := asI_b (n := 1224) (by rfl) hi (by decide)
theorem al_222 {α : Type} {E : EnQ} {F : Nat → Int → Int32} {G : Nat → Int → Int64} {i : Int} {f : Int → Option α} (hi : 0 ≤ i ∧ i < 3) : (alT (mk E F G) 2 222 (zI i)).bind f = f (tI (F 222 i)) := alT_b (n := 3) (by rfl) hi (by decide)
theorem as_222 {α : Type} {E : EnQ} {F : Nat → Int → Int32} {G : Nat → Int → Int64} {i : Int} {x : Int32} {f : HeapP → Option α} (hi : 0 ≤ i ∧ i < 3) : (astN (mk E F G) 2 222 (zI i) x).bind f = f (mk E (uR F 222 (uC (F 222) i (vp_nar (tyP 2) x))) G) := asN_b (n := 3) (by rfl) hi (by decide)
theorem al_223 {α : Type} {E : EnQ} {F : Nat → Int → Int32} {G : Nat → Int → Int64} {i : Int} {f : Int → Option α} (hi : 0 ≤ i ∧ i < 600) : (alT (mk E F G) 0 223 (zI i)).bind f = f (tI (F 223 i)) := alT_b (n := 600) (by rfl) hi (by decide)
theorem as_223 {α : Type} {E : EnQ} {F : Nat → Int → Int32} {G : Nat → Int → Int64} {i : Int} {x : Int32} {f : HeapP → Option α} (hi : 0 ≤ i ∧ i < 600) : (astI (mk E F G) 0 223 (zI i) x).bind f = f (mk E (uR F 223 (uC (F 223) i x)) G) := asI_b (n := 600) (by rfl) hi (by decide)
theorem al_224 {α : Type} {E : EnQ} {F : Nat → Int → Int32} {G : Nat → Int → Int64} {i : Int} {f : Int → Option α} (hi : 0 ≤ i ∧ i < 10) : (alT (mk E F G) 0 224 (zI i)).bind f = f (tI (F 224 i)) := alT_b (n := 10) (by rfl) hi (by decide)
theorem as_224 {α : Type} {E : EnQ} {F : Nat → Int → Int32} {G : Nat → Int → Int64} {i : Int} {x : Int32} {f : HeapP → Option α} (hi : 0 ≤ i ∧ i < 10) : (astI (mk E F G) 0 224 (zI i) x).bind f = f (mk E (uR F 224 (uC (F 224) i x)) G) := asI_b (n := 10) (by rfl) hi (by decide)
theorem al_225 {α : Type} {E : EnQ} {F : Nat → Int → Int32} {G : Nat → Int → Int64} {i : Int} {f : Int → Option α} (hi : 0 ≤ i ∧ i < 60) : (alT (mk E F G) 0 225 (zI i)).bind f = f (tI (F 225 i)) := alT_b (n := 60) (by rfl) hi (by decide)
theorem as_225 {α : Type} {E : EnQ} {F : Nat → Int → Int32} {G : Nat → Int → Int64} {i : Int} {x : Int32} {f : HeapP → Option α} (hi : 0 ≤ i ∧ i < 60) : (astI (mk E F G) 0 225 (zI i) x).bind f = f (mk E (uR F 225 (uC (F 225) i x)) G) := asI_b (n := 60) (by rfl) hi (by decide)
theorem al_226 {α : Type} {E : EnQ} {F : Nat → Int → Int32} {G : Nat → Int → Int64} {i : Int} {f : Int → Option α} (hi : 0 ≤ i ∧ i < 60) : (alT (mk E F G) 0 226 (zI i)).bind f = f (tI (F 226 i)) := alT_b (n := 60) (by rfl) hi (by decide)
theorem as_226 {α : Type} {E : EnQ} {F : Nat → Int → Int32} {G : Nat → Int → Int64} {i : Int} {x : Int32} {f : HeapP → Option α} (hi : 0 ≤ i ∧ i < 60) : (astI (mk E F G) 0 226 (zI i) x).bind f = f (mk E (uR F 226 (uC (F 226) i x)) G) := asI_b (n := 60) (by rfl) hi (by decide)
theorem al_227 {α : Type} {E : EnQ} {F : Nat → Int → Int32} {G : Nat → Int → Int64} {i : Int} {f : Int → Option α} (hi : 0 ≤ i ∧ i < 16214) : (alT (mk E F G) 0 227 (zI i)).bind f = f (tI (F 227 i)) := alT_b (n := 16214) (by rfl) hi (by decide)
theorem as_227 {α : Type} {E : EnQ} {F : Nat → Int → Int32} {G : Nat → Int → Int64} {i : Int} {x : Int32} {f : HeapP → Option α} (hi : 0 ≤ i ∧ i < 16214) : (astI (mk E F G) 0 227 (zI i) x).bind f = f (mk E (uR F 227 (uC (F 227) i x)) G) := asI_b (n := 16214) (by rfl) hi (by decide)
theorem al_228 {α : Type} {E : EnQ} {F : Nat → Int → Int32} {G : Nat → Int → Int64} {i : Int} {f : Int → Option α} (hi : 0 ≤ i ∧ i < 3) : (alT (mk E F G) 0 228 (zI i)).bind f = f (tI (F 228 i)) := alT_b (n := 3) (by rfl) hi (by decide)
theorem as_228 {α : Type} {E : EnQ} {F : Nat → Int → Int32} {G : Nat → Int → Int64} {i : Int} {x : Int32} {f : HeapP → Option α} (hi : 0 ≤ i ∧ i < 3) : (astI (mk E F G) 0 228 (zI i) x).bind f = f (mk E (uR F 228 (uC (F 228) i x)) G) := asI_b (n := 3) (by rfl) hi (by decide)
theorem al_229 {α : Type} {E : EnQ} {F : Nat → Int → Int32} {G : Nat → Int → Int64} {i : Int} {f : Int → Option α} (hi : 0 ≤ i ∧ i < 3) : (alT (mk E F G) 0 229 (zI i)).bind f = f (tI (F 229 i)) := alT_b (n := 3) (by rfl) hi (by decide)
theorem as_229 {α : Type} {E : EnQ} {F : Nat → Int → Int32} {G : Nat → Int → Int64} {i : Int} {x : Int32} {f : HeapP → Option α} (hi : 0 ≤ i ∧ i < 3) : (astI (mk E F G) 0 229 (zI i) x).bind f = f (mk E (uR F 229 (uC (F 229) i x)) G) := asI_b (n := 3) (by rfl) hi (by decide)
theorem al_230 {α : Type} {E : EnQ} {F : Nat → Int → Int32} {G : Nat → Int → Int64} {i : Int} {f : Int → Option α} (hi : 0 ≤ i ∧ i < 1632) : (alT (mk E F G) 0 230 (zI i)).bind f = f (tI (F 230 i)) := alT_b (n := 1632) (by rfl) hi (by decide)
theorem as_230 {α : Type} {E : EnQ} {F : Nat → Int → Int32} {G : Nat → Int → Int64} {i : Int} {x : Int32} {f : HeapP → Option α} (hi : 0 ≤ i ∧ i < 1632) : (astI (mk E F G) 0 230 (zI i) x).bind f = f (mk E (uR F 230 (uC (F 230) i x)) G) := asI_b (n := 1632) (by rfl) hi (by decide)
theorem al_231 {α : Type} {E : EnQ} {F : Nat → Int → Int32} {G : Nat → Int → Int64} {i : Int} {f : Int → Option α} (hi : 0 ≤ i ∧ i < 4) : (alT (mk E F G) 0 231 (zI i)).bind f = f (tI (F 231 i)) := alT_b (n := 4) (by rfl) hi (by decide)
theorem as_231 {α : Type} {E : EnQ} {F : Nat → Int → Int32} {G : Nat → Int → Int64} {i : Int} {x : Int32} {f : HeapP → Option α} (hi : 0 ≤ i ∧ i < 4) : (astI (mk E F G) 0 231 (zI i) x).bind f = f (mk E (uR F 231 (uC (F 231) i x)) G) := asI_b (n := 4) (by rfl) hi (by decide)
theorem al_232 {α : Type} {E : EnQ} {F : Nat → Int → Int32} {G : Nat → Int → Int64} {i : Int} {f : Int → Option α} (hi : 0 ≤ i ∧ i < 124) : (alT (mk E F G) 0 232 (zI i)).bind f = f (tI (F 232 i)) := alT_b (n := 124) (by rfl) hi (by decide)
theorem as_232 {α : Type} {E : EnQ} {F : Nat → Int → Int32} {G : Nat → Int → Int64} {i : Int} {x : Int32} {f : HeapP → Option α} (hi : 0 ≤ i ∧ i < 124) : (astI (mk E F G) 0 232 (zI i) x).bind f = f (mk E (uR F 232 (uC (F 232) i x)) G) := asI_b (n := 124) (by rfl) hi (by decide)
theorem al_233 {α : Type} {E : EnQ} {F : Nat → Int → Int32} {G : Nat → Int → Int64} {i : Int} {f : Int → Option α} (hi : 0 ≤ i ∧ i < 32) : (alT (mk E F G) 0 233 (zI i)).bind f = f (tI (F 233 i)) := alT_b (n := 32) (by rfl) hi (by decide)
theorem as_233 {α : Type} {E : EnQ} {F : Nat → Int → Int32} {G : Nat → Int → Int64} {i : Int} {x : Int32} {f : HeapP → Option α} (hi : 0 ≤ i ∧ i < 32) : (astI (mk E F G) 0 233 (zI i) x).bind f = f (mk E (uR F 233 (uC (F 233) i x)) G) := asI_b (n := 32) (by rfl) hi (by decide)
theorem al_234 {α : Type} {E : EnQ} {F : Nat → Int → Int32} {G : Nat → Int → Int64} {i : Int} {f : Int → Option α} (hi : 0 ≤ i ∧ i < 32) : (alT (mk E F G) 0 234 (zI i)).bind f = f (tI (F 234 i)) := alT_b (n := 32) (by rfl) hi (by decide)
theorem as_234 {α : Type} {E : EnQ} {F : Nat → Int → Int32} {G : Nat → Int → Int64} {i : Int} {x : Int32} {f : HeapP → Option α} (hi : 0 ≤ i ∧ i < 32) : (astI (mk E F G) 0 234 (zI i) x).bind f = f (mk E (uR F 234 (uC (F 234) i x)) G) := asI_b (n := 32) (by rfl) hi (by decide)
theorem al_235 {α : Type} {E : EnQ} {F : Nat → Int → Int32} {G : Nat → Int → Int64} {i : Int} {f : Int → Option α} (hi : 0 ≤ i ∧ i < 64) : (alT (mk E F G) 0 235 (zI i)).bind f = f (tI (F 235 i)) := alT_b (n := 64) (by rfl) hi (by decide)
theorem as_235 {α : Type} {E : EnQ} {F : Nat → Int → Int32} {G : Nat → Int → Int64} {i : Int} {x : Int32} {f : HeapP → Option α} (hi : 0 ≤ i ∧ i < 64) : (astI (mk E F G) 0 235 (zI i) x).bind f = f (mk E (uR F 235 (uC (F 235) i x)) G) := asI_b (n := 64) (by rfl) hi (by decide)
theorem al_236 {α : Type} {E : EnQ} {F : Nat → Int → Int32} {G : Nat → Int → Int64} {i : Int} {f : Int → Option α} (hi : 0 ≤ i ∧ i < 8192) : (alT (mk E F G) 0 236 (zI i)).bind f = f (tI (F 236 i)) := alT_b (n := 8192) (by rfl) hi (by decide)
theorem as_236 {α : Type} {E : EnQ} {F : Nat → Int → Int32} {G : Nat → Int → Int64} {i : Int} {x : Int32} {f : HeapP → Option α} (hi : 0 ≤ i ∧ i < 8192) : (astI (mk E F G) 0 236 (zI i) x).bind f = f (mk E (uR F 236 (uC (F 236) i x)) G) := asI_b (n := 8192) (by rfl) hi (by decide)
theorem al_237 {α : Type} {E : EnQ} {F : Nat → Int → Int32} {G : Nat → Int → Int64} {i : Int} {f : Int → Option α} (hi : 0 ≤ i ∧ i < 6) : (alT (mk E F G) 0 237 (zI i)).bind f = f (tI (F 237 i)) := alT_b (n := 6) (by rfl) hi (by decide)
theorem as_237 {α : Type} {E : EnQ} {F : Nat → Int → Int32} {G : Nat → Int → Int64} {i : Int} {x : Int32} {f : HeapP → Option α} (hi : 0 ≤ i ∧ i < 6) : (astI (mk E F G) 0 237 (zI i) x).bind f = f (mk E (uR F 237 (uC (F 237) i x)) G) := asI_b (n := 6) (by rfl) hi (by decide)
theorem al_238 {α : Type} {E : EnQ} {F : Nat → Int → Int32} {G : Nat → Int → Int64} {i : Int} {f : Int → Option α} (hi : 0 ≤ i ∧ i < 8192) : (alT (mk E F G) 2 238 (zI i)).bind f = f (tI (F 238 i)) := alT_b (n := 8192) (by rfl) hi (by decide)
theorem as_238 {α : Type} {E : EnQ} {F : Nat → Int → Int32} {G : Nat → Int → Int64} {i : Int} {x : Int32} {f : HeapP → Option α} (hi : 0 ≤ i ∧ i < 8192) : (astN (mk E F G) 2 238 (zI i) x).bind f = f (mk E (uR F 238 (uC (F 238) i (vp_nar (tyP 2) x))) G) := asN_b (n := 8192) (by rfl) hi (by decide)
theorem al_239 {α : Type} {E : EnQ} {F : Nat → Int → Int32} {G : Nat → Int → Int64} {i : Int} {f : Int → Option α} (hi : 0 ≤ i ∧ i < 8) : (alT (mk E F G) 0 239 (zI i)).bind f = f (tI (F 239 i)) := alT_b (n := 8) (by rfl) hi (by decide)
theorem as_239 {α : Type} {E : EnQ} {F : Nat → Int → Int32} {G : Nat → Int → Int64} {i : Int} {x : Int32} {f : HeapP → Option α} (hi : 0 ≤ i ∧ i < 8) : (astI (mk E F G) 0 239 (zI i) x).bind f = f (mk E (uR F 239 (uC (F 239) i x)) G) := asI_b (n := 8) (by rfl) hi (by decide)
theorem al_240 {α : Type} {E : EnQ} {F : Nat → Int → Int32} {G : Nat → Int → Int64} {i : Int} {f : Int → Option α} (hi : 0 ≤ i ∧ i < 2560) : (alT (mk E F G) 0 240 (zI i)).bind f = f (tI (F 240 i)) := alT_b (n := 2560) (by rfl) hi (by decide)
theorem as_240 {α : Type} {E : EnQ} {F : Nat → Int → Int32} {G : Nat → Int → Int64} {i : Int} {x : Int32} {f : HeapP → Option α} (hi : 0 ≤ i ∧ i < 2560) : (astI (mk E F G) 0 240 (zI i) x).bind f = f (mk E (uR F 240 (uC (F 240) i x)) G) := asI_b (n := 2560) (by rfl) hi (by decide)
theorem al_241 {α : Type} {E : EnQ} {F : Nat → Int → Int32} {G : Nat → Int → Int64} {i : Int} {f : Int → Option α} (hi : 0 ≤ i ∧ i < 2560) : (alT (mk E F G) 0 241 (zI i)).bind f = f (tI (F 241 i)) := alT_b (n := 2560) (by rfl) hi (by decide)
theorem as_241 {α : Type} {E : EnQ} {F : Nat → Int → Int32} {G : Nat → Int → Int64} {i : Int} {x : Int32} {f : HeapP → Option α} (hi : 0 ≤ i ∧ i < 2560) : (astI (mk E F G) 0 241 (zI i) x).bind f = f (mk E (uR F 241 (uC (F 241) i x)) G) := asI_b (n := 2560) (by rfl) hi (by decide)
theorem al_242 {α : Type} {E : EnQ} {F : Nat → Int → Int32} {G : Nat → Int → Int64} {i : Int} {f : Int → Option α} (hi : 0 ≤ i ∧ i < 32) : (alT (mk E F G) 0 242 (zI i)).bind f = f (tI (F 242 i)) := alT_b (n := 32) (by rfl) hi (by decide)
theorem as_242 {α : Type} {E : EnQ} {F : Nat → Int → Int32} {G : Nat → Int → Int64} {i : Int} {x : Int32} {f : HeapP → Option α} (hi : 0 ≤ i ∧ i < 32) : (astI (mk E F G) 0 242 (zI i) x).bind f = f (mk E (uR F 242 (uC (F 242) i x)) G) := asI_b (n := 32) (by rfl) hi (by decide)
theorem al_243 {α : Type} {E : EnQ} {F : Nat → Int → Int32} {G : Nat → Int → Int64} {i : Int} {f : Int → Option α} (hi : 0 ≤ i ∧ i < 4) : (alT (mk E F G) 0 243 (zI i)).bind f = f (tI (F 243 i)) := alT_b (n := 4) (by rfl) hi (by decide)
theorem as_243 {α : Type} {E : EnQ} {F : Nat → Int → Int32} {G : Nat → Int → Int64} {i : Int} {x : Int32} {f : HeapP → Option α} (hi : 0 ≤ i ∧ i < 4) : (astI (mk E F G) 0 243 (zI i) x).bind f = f (mk E (uR F 243 (uC (F 243) i x)) G) := asI_b (n := 4) (by rfl) hi (by decide)
theorem al_244 {α : Type} {E : EnQ} {F : Nat → Int → Int32} {G : Nat → Int → Int64} {i : Int} {f : Int → Option α} (hi : 0 ≤ i ∧ i < 4) : (alT (mk E F G) 0 244 (zI i)).bind f = f (tI (F 244 i)) := alT_b (n := 4) (by rfl) hi (by decide)
theorem as_244 {α : Type} {E : EnQ} {F : Nat → Int → Int32} {G : Nat → Int → Int64} {i : Int} {x : Int32} {f : HeapP → Option α} (hi : 0 ≤ i ∧ i < 4) : (astI (mk E F G) 0 244 (zI i) x).bind f = f (mk E (uR F 244 (uC (F 244) i x)) G) := asI_b (n := 4) (by rfl) hi (by decide)
theorem al_245 {α : Type} {E : EnQ} {F : Nat → Int → Int32} {G : Nat → Int → Int64} {i : Int} {f : Int → Option α} (hi : 0 ≤ i ∧ i < 120) : (alJT (mk E F G) 245 (zI i)).bind f = f (tJ (G 245 i)) := alJ_b (n := 120) (by rfl) hi (by decide)
theorem as_245 {α : Type} {E : EnQ} {F : Nat → Int → Int32} {G : Nat → Int → Int64} {i : Int} {x : Int64} {f : HeapP → Option α} (hi : 0 ≤ i ∧ i < 120) : (astJ (mk E F G) 245 (zI i) x).bind f = f (mk E F (uR G 245 (uC (G 245) i x))) := asJ_b (n := 120) (by rfl) hi (by decide)
def PlS (E : EnQ) (a : Nat) : Prop := shx E a = (1, 2, 0) ∧ shx E (a + 1) = (2, 0, 32) ∧ shx E (a + 2) = (2, 0, 100) ∧ shx E (a + 3) = (2, 0, 4) ∧ shx E (a + 4) = (2, 0, 4) ∧ shx E (a + 5) = (2, 0, 32)
theorem PlS_l1 {α : Type} {E : EnQ} {F : Nat → Int → Int32} {G : Nat → Int → Int64} {a : Nat} {i : Int} {f : Int → Option α} (hs : PlS E a) (hi : 0 ≤ i ∧ i < 32) : (alT (mk E F G) 0 (a + 1) (zI i)).bind f = f (tI (F (a + 1) i)) := alT_b (n := 32) hs.2.1 hi (by decide)
theorem PlS_s1 {α : Type} {E : EnQ} {F : Nat → Int → Int32} {G : Nat → Int → Int64} {a : Nat} {i : Int} {x : Int32} {f : HeapP → Option α} (hs : PlS E a) (hi : 0 ≤ i ∧ i < 32) : (astI (mk E F G) 0 (a + 1) (zI i) x).bind f = f (mk E (uR F (a + 1) (uC (F (a + 1)) i x)) G) := asI_b (n := 32) hs.2.1 hi (by decide)
theorem PlS_l2 {α : Type} {E : EnQ} {F : Nat → Int → Int32} {G : Nat → Int → Int64} {a : Nat} {i : Int} {f : Int → Option α} (hs : PlS E a) (hi : 0 ≤ i ∧ i < 100) : (alT (mk E F G) 0 (a + 2) (zI i)).bind f = f (tI (F (a + 2) i)) := alT_b (n := 100) hs.2.2.1 hi (by decide)
theorem PlS_s2 {α : Type} {E : EnQ} {F : Nat → Int → Int32} {G : Nat → Int → Int64} {a : Nat} {i : Int} {x : Int32} {f : HeapP → Option α} (hs : PlS E a) (hi : 0 ≤ i ∧ i < 100) : (astI (mk E F G) 0 (a + 2) (zI i) x).bind f = f (mk E (uR F (a + 2) (uC (F (a + 2)) i x)) G) := asI_b (n := 100) hs.2.2.1 hi (by decide)
theorem PlS_l3 {α : Type} {E : EnQ} {F : Nat → Int → Int32} {G : Nat → Int → Int64} {a : Nat} {i : Int} {f : Int → Option α} (hs : PlS E a) (hi : 0 ≤ i ∧ i < 4) : (alT (mk E F G) 0 (a + 3) (zI i)).bind f = f (tI (F (a + 3) i)) := alT_b (n := 4) hs.2.2.2.1 hi (by decide)
theorem PlS_s3 {α : Type} {E : EnQ} {F : Nat → Int → Int32} {G : Nat → Int → Int64} {a : Nat} {i : Int} {x : Int32} {f : HeapP → Option α} (hs : PlS E a) (hi : 0 ≤ i ∧ i < 4) : (astI (mk E F G) 0 (a + 3) (zI i) x).bind f = f (mk E (uR F (a + 3) (uC (F (a + 3)) i x)) G) := asI_b (n := 4) hs.2.2.2.1 hi (by decide)
theorem PlS_l4 {α : Type} {E : EnQ} {F : Nat → Int → Int32} {G : Nat → Int → Int64} {a : Nat} {i : Int} {f : Int → Option α} (hs : PlS E a) (hi : 0 ≤ i ∧ i < 4) : (alT (mk E F G) 0 (a + 4) (zI i)).bind f = f (tI (F (a + 4) i)) := alT_b (n := 4) hs.2.2.2.2.1 hi (by decide)
theorem PlS_s4 {α : Type} {E : EnQ} {F : Nat → Int → Int32} {G : Nat → Int → Int64} {a : Nat} {i : Int} {x : Int32} {f : HeapP → Option α} (hs : PlS E a) (hi : 0 ≤ i ∧ i < 4) : (astI (mk E F G) 0 (a + 4) (zI i) x).bind f = f (mk E (uR F (a + 4) (uC (F (a + 4)) i x)) G) := asI_b (n := 4) hs.2.2.2.2.1 hi (by decide)
theorem PlS_l5 {α : Type} {E : EnQ} {F : Nat → Int → Int32} {G : Nat → Int → Int64} {a : Nat} {i : Int} {f : Int → Option α} (hs : PlS E a) (hi : 0 ≤ i ∧ i < 32) : (alT (mk E F G) 0 (a + 5) (zI i)).bind f = f (tI (F (a + 5) i)) := alT_b (n := 32) hs.2.2.2.2.2 hi (by decide)
theorem PlS_s5 {α : Type} {E : EnQ} {F : Nat → Int → Int32} {G : Nat → Int → Int64} {a : Nat} {i : Int} {x : Int32} {f : HeapP → Option α} (hs : PlS E a) (hi : 0 ≤ i ∧ i < 32) : (astI (mk E F G) 0 (a + 5) (zI i) x).bind f = f (mk E (uR F (a + 5) (uC (F (a + 5)) i x)) G) := asI_b (n := 32) hs.2.2.2.2.2 hi (by decide)
def SnS (E : EnQ) (a : Nat) : Prop := shx E a = (1, 5, 0) ∧ shx E (a + 7) = (2, 0, 99) ∧ shx E (a + 8) = (2, 0, 99) ∧ shx E (a + 9) = (2, 0, 4) ∧ shx E (a + 10) = (2, 0, 4) ∧ shx E (a + 11) = (2, 0, 4)
theorem SnS_l7 {α : Type} {E : EnQ} {F : Nat → Int → Int32} {G : Nat → Int → Int64} {a : Nat} {i : Int} {f : Int → Option α} (hs : SnS E a) (hi : 0 ≤ i ∧ i < 99) : (alT (mk E F G) 0 (a + 7) (zI i)).bind f = f (tI (F (a + 7) i)) := alT_b (n := 99) hs.2.1 hi (by decide)
theorem SnS_s7 {α : Type} {E : EnQ} {F : Nat → Int → Int32} {G : Nat → Int → Int64} {a : Nat} {i : Int} {x : Int32} {f : HeapP → Option α} (hs : SnS E a) (hi : 0 ≤ i ∧ i < 99) : (astI (mk E F G) 0 (a + 7) (zI i) x).bind f = f (mk E (uR F (a + 7) (uC (F (a + 7)) i x)) G) := asI_b (n := 99) hs.2.1 hi (by decide)
theorem SnS_l8 {α : Type} {E : EnQ} {F : Nat → Int → Int32} {G : Nat → Int → Int64} {a : Nat} {i : Int} {f : Int → Option α} (hs : SnS E a) (hi : 0 ≤ i ∧ i < 99) : (alT (mk E F G) 0 (a + 8) (zI i)).bind f = f (tI (F (a + 8) i)) := alT_b (n := 99) hs.2.2.1 hi (by decide)
theorem SnS_s8 {α : Type} {E : EnQ} {F : Nat → Int → Int32} {G : Nat → Int → Int64} {a : Nat} {i : Int} {x : Int32} {f : HeapP → Option α} (hs : SnS E a) (hi : 0 ≤ i ∧ i < 99) : (astI (mk E F G) 0 (a + 8) (zI i) x).bind f = f (mk E (uR F (a + 8) (uC (F (a + 8)) i x)) G) := asI_b (n := 99) hs.2.2.1 hi (by decide)
theorem SnS_l9 {α : Type} {E : EnQ} {F : Nat → Int → Int32} {G : Nat → Int → Int64} {a : Nat} {i : Int} {f : Int → Option α} (hs : SnS E a) (hi : 0 ≤ i ∧ i < 4) : (alT (mk E F G) 0 (a + 9) (zI i)).bind f = f (tI (F (a + 9) i)) := alT_b (n := 4) hs.2.2.2.1 hi (by decide)
theorem SnS_s9 {α : Type} {E : EnQ} {F : Nat → Int → Int32} {G : Nat → Int → Int64} {a : Nat} {i : Int} {x : Int32} {f : HeapP → Option α} (hs : SnS E a) (hi : 0 ≤ i ∧ i < 4) : (astI (mk E F G) 0 (a + 9) (zI i) x).bind f = f (mk E (uR F (a + 9) (uC (F (a + 9)) i x)) G) := asI_b (n := 4) hs.2.2.2.1 hi (by decide)
theorem SnS_l10 {α : Type} {E : EnQ} {F : Nat → Int → Int32} {G : Nat → Int → Int64} {a : Nat} {i : Int} {f : Int → Option α} (hs : SnS E a) (hi : 0 ≤ i ∧ i < 4) : (alT (mk E F G) 0 (a + 10) (zI i)).bind f = f (tI (F (a + 10) i)) := alT_b (n := 4) hs.2.2.2.2.1 hi (by decide)
theorem SnS_s10 {α : Type} {E : EnQ} {F : Nat → Int → Int32} {G : Nat → Int → Int64} {a : Nat} {i : Int} {x : Int32} {f : HeapP → Option α} (hs : SnS E a) (hi : 0 ≤ i ∧ i < 4) : (astI (mk E F G) 0 (a + 10) (zI i) x).bind f = f (mk E (uR F (a + 10) (uC (F (a + 10)) i x)) G) := asI_b (n := 4) hs.2.2.2.2.1 hi (by decide)
theorem SnS_l11 {α : Type} {E : EnQ} {F : Nat → Int → Int32} {G : Nat → Int → Int64} {a : Nat} {i : Int} {f : Int → Option α} (hs : SnS E a) (hi : 0 ≤ i ∧ i < 4) : (alT (mk E F G) 0 (a + 11) (zI i)).bind f = f (tI (F (a + 11) i)) := alT_b (n := 4) hs.2.2.2.2.2 hi (by decide)
theorem SnS_s11 {α : Type} {E : EnQ} {F : Nat → Int → Int32} {G : Nat → Int → Int64} {a : Nat} {i : Int} {x : Int32} {f : HeapP → Option α} (hs : SnS E a) (hi : 0 ≤ i ∧ i < 4) : (astI (mk E F G) 0 (a + 11) (zI i) x).bind f = f (mk E (uR F (a + 11) (uC (F (a + 11)) i x)) G) := asI_b (n := 4) hs.2.2.2.2.2 hi (by decide)
def LdS (E : EnQ) (a : Nat) : Prop := shx E a = (1, 1, 0) ∧ shx E (a + 1) = (2, 0, 10)
theorem LdS_l1 {α : Type} {E : EnQ} {F : Nat → Int → Int32} {G : Nat → Int → Int64} {a : Nat} {i : Int} {f : Int → Option α} (hs : LdS E a) (hi : 0 ≤ i ∧ i < 10) : (alT (mk E F G) 0 (a + 1) (zI i)).bind f = f (tI (F (a + 1) i)) := alT_b (n := 10) hs.2 hi (by decide)
theorem LdS_s1 {α : Type} {E : EnQ} {F : Nat → Int → Int32} {G : Nat → Int → Int64} {a : Nat} {i : Int} {x : Int32} {f : HeapP → Option α} (hs : LdS E a) (hi : 0 ≤ i ∧ i < 10) : (astI (mk E F G) 0 (a + 1) (zI i) x).bind f = f (mk E (uR F (a + 1) (uC (F (a + 1)) i x)) G) := asI_b (n := 10) hs.2 hi (by decide)
def TrS (E : EnQ) (a : Nat) : Prop := shx E a = (1, 7, 0) ∧ shx E (a + 1) = (3, 0, 30)
theorem TrS_l1 {α : Type} {E : EnQ} {F : Nat → Int → Int32} {G : Nat → Int → Int64} {a : Nat} {i : Int} {f : Int → Option α} (hs : TrS E a) (hi : 0 ≤ i ∧ i < 30) : (alJT (mk E F G) (a + 1) (zI i)).bind f = f (tJ (G (a + 1) i)) := alJ_b (n := 30) hs.2 hi (by decide)
theorem TrS_s1 {α : Type} {E : EnQ} {F : Nat → Int → Int32} {G : Nat → Int → Int64} {a : Nat} {i : Int} {x : Int64} {f : HeapP → Option α} (hs : TrS E a) (hi : 0 ≤ i ∧ i < 30) : (astJ (mk E F G) (a + 1) (zI i) x).bind f = f (mk E F (uR G (a + 1) (uC (G (a + 1)) i x))) := asJ_b (n := 30) hs.2 hi (by decide)
theorem SnS_18 {E : EnQ} : SnS E 18 := by refine ⟨rfl, rfl, rfl, rfl, rfl, rfl⟩
theorem SnS_30 {E : EnQ} : SnS E 30 := by refine ⟨rfl, rfl, rfl, rfl, rfl, rfl⟩
theorem LdS_44 {E : EnQ} : LdS E 44 := by refine ⟨rfl, rfl⟩
theorem LdS_46 {E : EnQ} : LdS E 46 := by refine ⟨rfl, rfl⟩
theorem TrS_209 {E : EnQ} : TrS E 209 := by refine ⟨rfl, rfl⟩
theorem TrS_211 {E : EnQ} : TrS E 211 := by refine ⟨rfl, rfl⟩
theorem TrS_213 {E : EnQ} : TrS E 213 := by refine ⟨rfl, rfl⟩
theorem TrS_215 {E : EnQ} : TrS E 215 := by refine ⟨rfl, rfl⟩
theorem PlS_19 {E : EnQ} : PlS E 19 := by refine ⟨rfl, rfl, rfl, rfl, rfl, rfl⟩
theorem PlS_31 {E : EnQ} : PlS E 31 := by refine ⟨rfl, rfl, rfl, rfl, rfl, rfl⟩
theorem PlS_179 {E : EnQ} : PlS E 179 := by refine ⟨rfl, rfl, rfl, rfl, rfl, rfl⟩
theorem PlS_193 {E : EnQ} : PlS E 193 := by refine ⟨rfl, rfl, rfl, rfl, rfl, rfl⟩
end MA
