/-! how many bits -/
section S94e
set_option linter.unusedVariables false
set_option linter.unusedSimpArgs false
def popZ (s : Nat) : Int := cntN (fun i => s.testBit i) 32
theorem and_split {k a b c d : Nat} (ha : a < 2 ^ k) (hc : c < 2 ^ k) : (2 ^ k * b + a) &&& (2 ^ k * d + c) = 2 ^ k * (b &&& d) + (a &&& c) := by
  have hac : a &&& c < 2 ^ k := Nat.lt_of_le_of_lt Nat.and_le_left ha
  refine Nat.eq_of_testBit_eq fun i => ?_
  rw [Nat.testBit_and, Nat.testBit_two_pow_mul_add _ ha, Nat.testBit_two_pow_mul_add _ hc, Nat.testBit_two_pow_mul_add _ hac]
  by_cases h : i < k
  · rw [if_pos h, if_pos h, if_pos h, Nat.testBit_and]
  · rw [if_neg h, if_neg h, if_neg h, Nat.testBit_and]
theorem and4 {a0 a1 a2 a3 m : Nat} (h0 : a0 < 256) (h1 : a1 < 256) (h2 : a2 < 256) (hm : m < 256) : (a0 + 256 * a1 + 65536 * a2 + 16777216 * a3) &&& (m + 256 * m + 65536 * m + 16777216 * m) = (a0 &&& m) + 256 * (a1 &&& m) + 65536 * (a2 &&& m) + 16777216 * (a3 &&& m) := by
  have e1 := and_split (k := 8) (a := a2) (b := a3) (c := m) (d := m) (by omega) (by omega)
  have e2 := and_split (k := 8) (a := a1) (b := 2 ^ 8 * a3 + a2) (c := m) (d := 2 ^ 8 * m + m) (by omega) (by omega)
  have e3 := and_split (k := 8) (a := a0) (b := 2 ^ 8 * (2 ^ 8 * a3 + a2) + a1) (c := m) (d := 2 ^ 8 * (2 ^ 8 * m + m) + m) (by omega) (by omega)
  rw [e1] at e2
  rw [e2] at e3
  rw [show a0 + 256 * a1 + 65536 * a2 + 16777216 * a3 = 2 ^ 8 * (2 ^ 8 * (2 ^ 8 * a3 + a2) + a1) + a0 by omega, show m + 256 * m + 65536 * m + 16777216 * m = 2 ^ 8 * (2 ^ 8 * (2 ^ 8 * m + m) + m) + m by omega, e3]
  omega
def pc8 (b : Nat) : Nat := b % 2 + b / 2 % 2 + b / 4 % 2 + b / 8 % 2 + b / 16 % 2 + b / 32 % 2 + b / 64 % 2 + b / 128 % 2
theorem pc8_le (b : Nat) : pc8 b ≤ 8 := by unfold pc8; omega
def u8 (b : Nat) : Nat := b - (b / 2 &&& 85)
def v8 (b : Nat) : Nat := (u8 b &&& 51) + (u8 b / 4 &&& 51)
theorem f8a : ∀ b, b < 256 → ∀ c, c < 2 → ((b / 2 + 128 * c) &&& 85 = b / 2 &&& 85) ∧ (b / 2 &&& 85) ≤ b ∧ u8 b < 256 := by decide +kernel
theorem f8b : ∀ b, b < 256 → ∀ c, c < 4 → ((u8 b / 4 + 64 * c) &&& 51 = u8 b / 4 &&& 51) ∧ v8 b < 69 ∧ v8 b % 16 ≤ 4 := by decide +kernel
theorem f8c : ∀ b, b < 256 → ∀ c, c < 5 → ((v8 b + v8 b / 16 + 16 * c) &&& 15 = pc8 b) := by decide +kernel
theorem f8d : ∀ b, b < 256 → ((v8 b + v8 b / 16) &&& 15 = pc8 b) := by decide +kernel
theorem and63 (x : Nat) : x &&& 63 = x % 64 := Nat.and_two_pow_sub_one_eq_mod x 6
theorem cnt_split (p : Nat → Bool) (n m : Nat) : cntN p (n + m) = cntN p n + cntN (fun i => p (n + i)) m := by
  induction m with
  | zero => show cntN p n = cntN p n + 0; omega
  | succ m ih =>
    show cntN p (n + m) + (if p (n + m) = true then 1 else 0) = cntN p n + (cntN (fun i => p (n + i)) m + (if p (n + m) = true then 1 else 0))
    rw [ih]; omega
theorem bit_mod (b i : Nat) : (if b.testBit i = true then (1 : Int) else 0) = ((b / 2 ^ i % 2 : Nat) : Int) := by
  have h := Nat.mod_two_eq_zero_or_one (b / 2 ^ i)
  rw [Nat.testBit_eq_decide_div_mod_eq]
  rcases h with h | h <;> rw [h] <;> rfl
theorem pc8_cnt (b : Nat) : cntN (fun i => b.testBit i) 8 = (pc8 b : Int) := by
  simp only [cntN, bit_mod]
  unfold pc8
  simp only [Nat.pow_zero, Nat.div_one]
  omega
theorem bit_byte {s j i : Nat} (hi : i < 8) : s.testBit (8 * j + i) = (s / 2 ^ (8 * j) % 256).testBit i := by
  rw [show (256 : Nat) = 2 ^ 8 from rfl, Nat.testBit_mod_two_pow, Nat.testBit_div_two_pow, decide_eq_true hi, Bool.true_and, Nat.add_comm]
theorem pop_bytes {s : Nat} : popZ s = (pc8 (s % 256) + pc8 (s / 256 % 256) + pc8 (s / 65536 % 256) + pc8 (s / 16777216 % 256) : Nat) := by
  have h : ∀ j, cntN (fun i => s.testBit (8 * j + i)) 8 = (pc8 (s / 2 ^ (8 * j) % 256) : Int) := fun j => by
    rw [← pc8_cnt]; exact cntN_congr fun i hi => bit_byte hi
  have h0 := h 0
  have h1 := h 1
  have h2 := h 2
  have h3 := h 3
  have e1 := cnt_split (fun i => s.testBit i) 8 24
  have e2 := cnt_split (fun i => s.testBit (8 + i)) 8 16
  have e3 := cnt_split (fun i => s.testBit (8 + (8 + i))) 8 8
  have c0 : cntN (fun i => s.testBit i) 8 = cntN (fun i => s.testBit (8 * 0 + i)) 8 := cntN_congr fun i _ => by rw [show 8 * 0 + i = i by omega]
  have c1 : cntN (fun i => s.testBit (8 + i)) 8 = cntN (fun i => s.testBit (8 * 1 + i)) 8 := rfl
  have c2 : cntN (fun i => s.testBit (8 + (8 + i))) 8 = cntN (fun i => s.testBit (8 * 2 + i)) 8 := cntN_congr fun i _ => by rw [show 8 + (8 + i) = 8 * 2 + i by omega]
  have c3 : cntN (fun i => s.testBit (8 + (8 + (8 + i)))) 8 = cntN (fun i => s.testBit (8 * 3 + i)) 8 := cntN_congr fun i _ => by rw [show 8 + (8 + (8 + i)) = 8 * 3 + i by omega]
  have t : popZ s = cntN (fun i => s.testBit i) (8 + 24) := rfl
  have t2 : cntN (fun i => s.testBit (8 + i)) 24 = cntN (fun i => s.testBit (8 + i)) (8 + 16) := rfl
  have t3 : cntN (fun i => s.testBit (8 + (8 + i))) 16 = cntN (fun i => s.testBit (8 + (8 + i))) (8 + 8) := rfl
  have p0 : s / 2 ^ (8 * 0) = s := by simp
  have p1 : s / 2 ^ (8 * 1) = s / 256 := rfl
  have p2 : s / 2 ^ (8 * 2) = s / 65536 := rfl
  have p3 : s / 2 ^ (8 * 3) = s / 16777216 := rfl
  rw [p0] at h0; rw [p1] at h1; rw [p2] at h2; rw [p3] at h3
  rw [t, e1, t2, e2, t3, e3, c0, c1, c2, c3, h0, h1, h2, h3]
  omega
theorem fin4 {p0 p1 p2 p3 c : Nat} (h0 : p0 ≤ 8) (h1 : p1 ≤ 8) (h2 : p2 ≤ 8) (h3 : p3 ≤ 8) (hc : c = p0 + 256 * p1 + 65536 * p2 + 16777216 * p3) : ((c + c / 256) + (c + c / 256) / 65536) % 64 = p0 + p1 + p2 + p3 := by
  have e1 : c / 256 = p1 + 256 * p2 + 65536 * p3 := by omega
  have e2 : c + c / 256 = (p0 + p1) + 256 * (p1 + p2) + 65536 * (p2 + p3) + 16777216 * p3 := by omega
  have e3 : (c + c / 256) / 65536 = (p2 + p3) + 256 * p3 := by rw [e2]; omega
  rw [e3, e2]; omega
/-- the five steps of Integer.bitCount, over naturals -/
theorem swar_nat {s : Nat} (hs : s < 4294967296) : ∃ a b c : Nat, (s / 2 &&& 1431655765) = a ∧ a ≤ s ∧ ((s - a) &&& 858993459) + ((s - a) / 4 &&& 858993459) = b ∧ b < 1200000000 ∧ ((b + b / 16) &&& 252645135) = c ∧ c < 140000000 ∧ (((c + c / 256) + (c + c / 256) / 65536) &&& 63 : Nat) = popZ s := by
  obtain ⟨s0, h0⟩ : ∃ x, x = s % 256 := ⟨_, rfl⟩
  obtain ⟨s1, h1⟩ : ∃ x, x = s / 256 % 256 := ⟨_, rfl⟩
  obtain ⟨s2, h2⟩ : ∃ x, x = s / 65536 % 256 := ⟨_, rfl⟩
  obtain ⟨s3, h3⟩ : ∃ x, x = s / 16777216 % 256 := ⟨_, rfl⟩
  have l0 : s0 < 256 := by omega
  have l1 : s1 < 256 := by omega
  have l2 : s2 < 256 := by omega
  have l3 : s3 < 256 := by omega
  have es : s = s0 + 256 * s1 + 65536 * s2 + 16777216 * s3 := by omega
  have a0 := f8a s0 l0 (s1 % 2) (by omega)
  have a1 := f8a s1 l1 (s2 % 2) (by omega)
  have a2 := f8a s2 l2 (s3 % 2) (by omega)
  have a3 := f8a s3 l3 0 (by omega)
  have A : (s / 2 &&& 1431655765) = (s0 / 2 &&& 85) + 256 * (s1 / 2 &&& 85) + 65536 * (s2 / 2 &&& 85) + 16777216 * (s3 / 2 &&& 85) := by
    have := and4 (a0 := s0 / 2 + 128 * (s1 % 2)) (a1 := s1 / 2 + 128 * (s2 % 2)) (a2 := s2 / 2 + 128 * (s3 % 2)) (a3 := s3 / 2) (m := 85) (by omega) (by omega) (by omega) (by omega)
    rw [a0.1, a1.1, a2.1] at this
    rw [show s / 2 = s0 / 2 + 128 * (s1 % 2) + 256 * (s1 / 2 + 128 * (s2 % 2)) + 65536 * (s2 / 2 + 128 * (s3 % 2)) + 16777216 * (s3 / 2) by omega]
    exact this
  have U : s - (s / 2 &&& 1431655765) = u8 s0 + 256 * u8 s1 + 65536 * u8 s2 + 16777216 * u8 s3 := by
    rw [A]
    have z0 : u8 s0 = s0 - (s0 / 2 &&& 85) := rfl
    have z1 : u8 s1 = s1 - (s1 / 2 &&& 85) := rfl
    have z2 : u8 s2 = s2 - (s2 / 2 &&& 85) := rfl
    have z3 : u8 s3 = s3 - (s3 / 2 &&& 85) := rfl
    omega
  have b0 := f8b s0 l0 (u8 s1 % 4) (by omega)
  have b1 := f8b s1 l1 (u8 s2 % 4) (by omega)
  have b2 := f8b s2 l2 (u8 s3 % 4) (by omega)
  have b3 := f8b s3 l3 0 (by omega)
  have B1 : (s - (s / 2 &&& 1431655765)) &&& 858993459 = (u8 s0 &&& 51) + 256 * (u8 s1 &&& 51) + 65536 * (u8 s2 &&& 51) + 16777216 * (u8 s3 &&& 51) := by
    rw [U]; exact and4 (m := 51) a0.2.2 a1.2.2 a2.2.2 (by omega)
  have B2 : (s - (s / 2 &&& 1431655765)) / 4 &&& 858993459 = (u8 s0 / 4 &&& 51) + 256 * (u8 s1 / 4 &&& 51) + 65536 * (u8 s2 / 4 &&& 51) + 16777216 * (u8 s3 / 4 &&& 51) := by
    have := and4 (a0 := u8 s0 / 4 + 64 * (u8 s1 % 4)) (a1 := u8 s1 / 4 + 64 * (u8 s2 % 4)) (a2 := u8 s2 / 4 + 64 * (u8 s3 % 4)) (a3 := u8 s3 / 4) (m := 51) (by omega) (by omega) (by omega) (by omega)
    rw [b0.1, b1.1, b2.1] at this
    rw [U, show (u8 s0 + 256 * u8 s1 + 65536 * u8 s2 + 16777216 * u8 s3) / 4 = u8 s0 / 4 + 64 * (u8 s1 % 4) + 256 * (u8 s1 / 4 + 64 * (u8 s2 % 4)) + 65536 * (u8 s2 / 4 + 64 * (u8 s3 % 4)) + 16777216 * (u8 s3 / 4) by omega]
    exact this
  have V : ((s - (s / 2 &&& 1431655765)) &&& 858993459) + ((s - (s / 2 &&& 1431655765)) / 4 &&& 858993459) = v8 s0 + 256 * v8 s1 + 65536 * v8 s2 + 16777216 * v8 s3 := by
    rw [B1, B2]
    have z0 : v8 s0 = (u8 s0 &&& 51) + (u8 s0 / 4 &&& 51) := rfl
    have z1 : v8 s1 = (u8 s1 &&& 51) + (u8 s1 / 4 &&& 51) := rfl
    have z2 : v8 s2 = (u8 s2 &&& 51) + (u8 s2 / 4 &&& 51) := rfl
    have z3 : v8 s3 = (u8 s3 &&& 51) + (u8 s3 / 4 &&& 51) := rfl
    omega
  have c0 := f8c s0 l0 (v8 s1 % 16) (by omega)
  have c1 := f8c s1 l1 (v8 s2 % 16) (by omega)
  have c2 := f8c s2 l2 (v8 s3 % 16) (by omega)
  have c3 := f8d s3 l3
  have p0 := pc8_le s0
  have p1 := pc8_le s1
  have p2 := pc8_le s2
  have p3 := pc8_le s3
  obtain ⟨b, hb⟩ : ∃ b, b = v8 s0 + 256 * v8 s1 + 65536 * v8 s2 + 16777216 * v8 s3 := ⟨_, rfl⟩
  have C : (b + b / 16) &&& 252645135 = pc8 s0 + 256 * pc8 s1 + 65536 * pc8 s2 + 16777216 * pc8 s3 := by
    have := and4 (a0 := v8 s0 + v8 s0 / 16 + 16 * (v8 s1 % 16)) (a1 := v8 s1 + v8 s1 / 16 + 16 * (v8 s2 % 16)) (a2 := v8 s2 + v8 s2 / 16 + 16 * (v8 s3 % 16)) (a3 := v8 s3 + v8 s3 / 16) (m := 15) (by omega) (by omega) (by omega) (by omega)
    rw [c0, c1, c2, c3] at this
    rw [show b + b / 16 = v8 s0 + v8 s0 / 16 + 16 * (v8 s1 % 16) + 256 * (v8 s1 + v8 s1 / 16 + 16 * (v8 s2 % 16)) + 65536 * (v8 s2 + v8 s2 / 16 + 16 * (v8 s3 % 16)) + 16777216 * (v8 s3 + v8 s3 / 16) by omega]
    exact this
  refine ⟨_, _, _, rfl, by omega, rfl, by rw [V]; omega, rfl, ?_, ?_⟩
  · rw [V, ← hb, C]; omega
  · rw [V, ← hb, C, and63, pop_bytes, ← h0, ← h1, ← h2, ← h3, fin4 p0 p1 p2 p3 rfl]
theorem ct_4 {d : Nat} {E : EnQ} {F : Nat → Int → Int32} {G : Nat → Int → Int64} {s : Nat} (hs : s < 4294967296) (hd : 1 ≤ d) : callP MP d 4 [.int (zI (s : Int))] (mk E F G) = some (Sum.inl (some (.int (zI (popZ s)))), mk E F G) := by

  obtain ⟨a, b, c, ha, ha2, hb, hb2, hc, hc2, hf⟩ := swar_nat hs
  have n1 : (zI 1) = zI ((1 : Nat) : Int) := rfl
  have n2 : (zI 2) = zI ((2 : Nat) : Int) := rfl
  have n4 : (zI 4) = zI ((4 : Nat) : Int) := rfl
  have n8 : (zI 8) = zI ((8 : Nat) : Int) := rfl
  have n16 : (zI 16) = zI ((16 : Nat) : Int) := rfl
  have m1 : (zI 1431655765) = zI ((1431655765 : Nat) : Int) := rfl
  have m2 : (zI 858993459) = zI ((858993459 : Nat) : Int) := rfl
  have m3 : (zI 252645135) = zI ((252645135 : Nat) : Int) := rfl
  have m4 : (zI 63) = zI ((63 : Nat) : Int) := rfl
  have k1 : o_iushr (zI (s : Int)) (zI 1) &&& zI 1431655765 = zI (a : Int) := by rw [n1, m1, ushrZ s 1 hs (by omega), andZ, show s / 2 ^ 1 = s / 2 from rfl, ha]
  have k2 : zI (s : Int) - zI (a : Int) = zI ((s - a : Nat) : Int) := by rw [zI_sub]; exact congrArg zI (by omega)
  have k3 : o_iushr (zI ((s - a : Nat) : Int)) (zI 2) = zI (((s - a) / 4 : Nat) : Int) := by rw [n2, ushrZ (s - a) 2 (by omega) (by omega)]
  have k4 : (zI ((s - a : Nat) : Int) &&& zI 858993459) + (zI (((s - a) / 4 : Nat) : Int) &&& zI 858993459) = zI (b : Int) := by rw [m2, andZ, andZ, zI_add, ← hb]; exact congrArg zI (by omega)
  have k5 : zI (b : Int) + o_iushr (zI (b : Int)) (zI 4) = zI ((b + b / 16 : Nat) : Int) := by rw [n4, ushrZ b 4 (by omega) (by omega), zI_add]; exact congrArg zI (by omega)
  have k6 : zI ((b + b / 16 : Nat) : Int) &&& zI 252645135 = zI (c : Int) := by rw [m3, andZ, hc]
  have k7 : zI (c : Int) + o_iushr (zI (c : Int)) (zI 8) = zI ((c + c / 256 : Nat) : Int) := by rw [n8, ushrZ c 8 (by omega) (by omega), zI_add]; exact congrArg zI (by omega)
  have k8 : zI ((c + c / 256 : Nat) : Int) + o_iushr (zI ((c + c / 256 : Nat) : Int)) (zI 16) = zI ((c + c / 256 + (c + c / 256) / 65536 : Nat) : Int) := by rw [n16, ushrZ (c + c / 256) 16 (by omega) (by omega), zI_add]; exact congrArg zI (by omega)
  have k9 : zI ((c + c / 256 + (c + c / 256) / 65536 : Nat) : Int) &&& zI 63 = zI (popZ s) := by rw [m4, andZ, hf]
  refine into (D := 0) (by omega) hM_4 rfl rfl fun d hd => ?_
  show runP MP d 4 (0, [some (.int (zI (s : Int)))], [], _) = _
  rw [q_4_0, li_1, li_2, li_4, li_8, li_16, li_63, li_1431655765, li_858993459, li_252645135, k1, k2, k3, k4, k5, k6, k7, k8, k9]
theorem cc_4 {d : Nat} {E : EnQ} {F : Nat → Int → Int32} {G : Nat → Int → Int64} {kk : Int → HeapP → ResP} {kx : Nat → HeapP → ResP} {s : Nat} (hs : s < 4294967296) (hd : 1 ≤ d) : cT (callP MP d 4 [.int (zI (s : Int))] (mk E F G)) kk kx = kk (popZ s) (mk E F G) := cT_ret (by apply ct_4 <;> assumption) (by have := cntN_rg (fun i => s.testBit i) 32; unfold popZ; omega)
/-- the lowest bit goes -/
theorem low_bit {s : Nat} (h : s ≠ 0) : ∃ k, s.testBit k = true ∧ ∀ i, (s &&& (s - 1)).testBit i = (s.testBit i && decide (i ≠ k)) := by
  have : ∀ n s : Nat, s ≤ n → s ≠ 0 → ∃ k, s.testBit k = true ∧ ∀ i, (s &&& (s - 1)).testBit i = (s.testBit i && decide (i ≠ k)) := by
    intro n
    induction n with
    | zero => intro s h1 h2; omega
    | succ n ih =>
      intro s h1 h2
      by_cases e : s % 2 = 1
      · refine ⟨0, by rw [Nat.testBit_zero, e]; rfl, fun i => ?_⟩
        rw [Nat.testBit_and]
        cases i with
        | zero => rw [Nat.testBit_zero, Nat.testBit_zero, show (s - 1) % 2 = 0 by omega]; simp
        | succ i => rw [Nat.testBit_succ, Nat.testBit_succ, show (s - 1) / 2 = s / 2 by omega]; simp
      · obtain ⟨k, hk, hi⟩ := ih (s / 2) (by omega) (by omega)
        refine ⟨k + 1, by rw [Nat.testBit_succ]; exact hk, fun i => ?_⟩
        rw [Nat.testBit_and]
        cases i with
        | zero => rw [Nat.testBit_zero, show s % 2 = 0 by omega]; simp
        | succ i =>
          have := hi i
          rw [Nat.testBit_and] at this
          rw [Nat.testBit_succ, Nat.testBit_succ, show (s - 1) / 2 = s / 2 - 1 by omega, this]
          congr 1
          exact decide_eq_decide.mpr (by omega)
  exact this s s (Nat.le_refl _) h
theorem cnt_less {p q : Nat → Bool} {k : Nat} (hk : p k = true) (h : ∀ i, q i = (p i && decide (i ≠ k))) : ∀ n, cntN q n = cntN p n - (if k < n then 1 else 0) := by
  intro n
  induction n with
  | zero => show (0 : Int) = 0 - (if k < 0 then 1 else 0); rw [if_neg (by omega)]; rfl
  | succ n ih =>
    by_cases e : n = k
    · have hq : ¬ q n = true := by rw [h n, e]; simp
      rw [cntN_neg hq, cntN_pos (by rw [e]; exact hk), ih, if_neg (by omega), if_pos (by omega)]; omega
    · have hq : q n = p n := by rw [h n]; simp [e]
      by_cases g : p n = true
      · rw [cntN_pos g, cntN_pos (by rw [hq]; exact g), ih]
        by_cases l : k < n
        · rw [if_pos l, if_pos (by omega)]; omega
        · rw [if_neg l, if_neg (by omega)]; omega
      · rw [cntN_neg g, cntN_neg (by rw [hq]; exact g), ih]
        by_cases l : k < n
        · rw [if_pos l, if_pos (by omega)]
        · rw [if_neg l, if_neg (by omega)]
theorem pop_low {s : Nat} (h : s ≠ 0) (hs : s < 4294967296) : popZ (s &&& (s - 1)) = popZ s - 1 := by
  obtain ⟨k, hk, hi⟩ := low_bit h
  have hk32 : k < 32 := Decidable.byContradiction fun z => by
    have := Nat.testBit_lt_two_pow (x := s) (i := k) (Nat.lt_of_lt_of_le hs (Nat.pow_le_pow_right (n := 2) (by omega) (show 32 ≤ k by omega)))
    rw [this] at hk; cases hk
  have := cnt_less (p := fun i => s.testBit i) (q := fun i => (s &&& (s - 1)).testBit i) hk hi 32
  rw [if_pos hk32] at this
  exact this
theorem pop_zero : popZ 0 = 0 := by decide +kernel
theorem pop_pos {s : Nat} (h : s ≠ 0) (hs : s < 4294967296) : 1 ≤ popZ s ∧ popZ s ≤ 32 := by
  have h1 := pop_low h hs
  have h2 := cntN_rg (fun i => (s &&& (s - 1)).testBit i) 32
  have h3 := cntN_rg (fun i => s.testBit i) 32
  unfold popZ at *
  omega
theorem ct_240 {d : Nat} {E : EnQ} {F : Nat → Int → Int32} {G : Nat → Int → Int64} {s : Nat} (hs : s < 4294967296) (hd : 1 ≤ d) : callP MP d 240 [.int (zI (s : Int))] (mk E F G) = some (Sum.inl (some (.int (zI (popZ s)))), mk E F G) := by

  refine into (D := 0) (by omega) hM_240 rfl rfl fun d hd => ?_
  show runP MP d 240 (0, [some (.int (zI (s : Int))), none, none], [], _) = _
  have hgo : ∀ n u : Nat, u < 4294967296 → popZ u = n → ∀ c : Int, runP MP d 240 (4, [some (.int (zI (s : Int))), some (.int (zI c)), some (.int (zI (u : Int)))], [], mk E F G) = some (Sum.inl (some (.int (zI (c + n)))), mk E F G) := by
    intro n
    induction n with
    | zero =>
      intro u hu hp c
      have hz : u = 0 := Decidable.byContradiction fun z => by have := pop_pos z hu; omega
      subst hz
      have e0 : zI ((0 : Nat) : Int) = zI 0 := rfl
      have e1 : c + ((0 : Nat) : Int) = c := by omega
      rw [e0, e1]
      rw [q_240_4]; (try simp only [li_0, li_1, li_4, zI_add, zI_sub, zI_mul, zI_neg, ↓Option.bind_some]); simp (disch := (first | assumption | exact tI_rg _ | omega | exact uR_at | exact row_ne hF (by decide) | exact row_ne (row_ne hF (by decide)) (by decide) | exact SnS_18 | exact SnS_30 | exact LdS_44 | exact LdS_46)) only [q_240_0, li_0, li_1, li_4, zI_add, zI_sub, zI_mul, zI_neg, ↓Option.bind_some, zIt2, uR_at, uR_ne, uR_uR, uC_uC, uC_at, ↓reduceIte, decide_eq_true_eq, leT, leF, ltT, ltF, eqT, eqF, ne_eq, not_true_eq_false, not_false_eq_true, Bool.false_eq_true, tI_zI]
    | succ n ih =>
      intro u hu hp c
      have hz : u ≠ 0 := fun z => by rw [z, pop_zero] at hp; omega
      have hl := pop_low hz hu
      have hle : (u &&& (u - 1)) ≤ u := Nat.and_le_left
      have ha : zI (u : Int) &&& zI ((u : Int) - 1) = zI ((u &&& (u - 1) : Nat) : Int) := by
        rw [← andZ]; exact congrArg (fun z => zI (u : Int) &&& zI z) (by omega)
      have hne : (zI (u : Int) = zI 0) = False := eq_false (fun e => by
        have h2 : (zI (u : Int)).toBitVec.toNat = u := by rw [tb_nat, BitVec.toNat_ofNat]; exact Nat.mod_eq_of_lt hu
        have h3 : (zI 0).toBitVec.toNat = 0 := by rfl
        rw [e] at h2
        omega)
      have := ih (u &&& (u - 1)) (by omega) (by omega) (c + 1)
      rw [show c + ((n + 1 : Nat) : Int) = c + 1 + n by omega, ← this]
      rw [q_240_4]; (try simp only [li_0, li_1, li_4, zI_add, zI_sub, zI_mul, zI_neg, ↓Option.bind_some]); simp (disch := (first | assumption | exact tI_rg _ | omega | exact uR_at | exact row_ne hF (by decide) | exact row_ne (row_ne hF (by decide)) (by decide) | exact SnS_18 | exact SnS_30 | exact LdS_44 | exact LdS_46)) only [q_240_0, hne, ha, li_0, li_1, li_4, zI_add, zI_sub, zI_mul, zI_neg, ↓Option.bind_some, zIt2, uR_at, uR_ne, uR_uR, uC_uC, uC_at, ↓reduceIte, decide_eq_true_eq, leT, leF, ltT, ltF, ne_eq, not_true_eq_false, not_false_eq_true, Bool.false_eq_true, tI_zI]
  have hr := cntN_rg (fun i => s.testBit i) 32
  have h0 : 0 ≤ popZ s := hr.1
  have := hgo (popZ s).toNat s hs (by omega) 0
  rw [show (0 : Int) + ((popZ s).toNat : Int) = popZ s by omega] at this
  rw [← this, q_240_0, li_0]
theorem cc_240 {d : Nat} {E : EnQ} {F : Nat → Int → Int32} {G : Nat → Int → Int64} {kk : Int → HeapP → ResP} {kx : Nat → HeapP → ResP} {s : Nat} (hs : s < 4294967296) (hd : 1 ≤ d) : cT (callP MP d 240 [.int (zI (s : Int))] (mk E F G)) kk kx = kk (popZ s) (mk E F G) := cT_ret (by apply ct_240 <;> assumption) (by have := cntN_rg (fun i => s.testBit i) 32; unfold popZ; omega)
end S94e
