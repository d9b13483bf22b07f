/-! 93d_bits -/
section S93d
set_option linter.unusedVariables false
set_option linter.unusedSimpArgs false
theorem zI_nat (n : Nat) : zI (n : Int) = Int32.ofNat n := Int32.ofInt_eq_ofNat
theorem tb_nat (n : Nat) : (zI (n : Int)).toBitVec = BitVec.ofNat 32 n := by rw [zI_nat]; rfl
theorem orZ (a b : Nat) : zI a ||| zI b = zI ((a ||| b : Nat) : Int) := Int32.toBitVec_inj.mp (by
  show (zI a).toBitVec ||| (zI b).toBitVec = _
  rw [tb_nat, tb_nat, tb_nat, BitVec.ofNat_or])
theorem andZ (a b : Nat) : zI a &&& zI b = zI ((a &&& b : Nat) : Int) := Int32.toBitVec_inj.mp (by
  show (zI a).toBitVec &&& (zI b).toBitVec = _
  rw [tb_nat, tb_nat, tb_nat, BitVec.ofNat_and])
theorem xorZ (a b : Nat) : zI a ^^^ zI b = zI ((a ^^^ b : Nat) : Int) := Int32.toBitVec_inj.mp (by
  show (zI a).toBitVec ^^^ (zI b).toBitVec = _
  rw [tb_nat, tb_nat, tb_nat, BitVec.ofNat_xor])
theorem amt_l : ∀ n : Nat, n < 32 → ((zI (n : Int) &&& 31).toBitVec.smod 32) = BitVec.ofNat 32 n := by decide +kernel
theorem amt_r : ∀ n : Nat, n < 32 → ((((zI (n : Int)).toUInt32 &&& Int32.toUInt32 31) : UInt32).toBitVec.umod 32#32) = BitVec.ofNat 32 n := by decide +kernel
theorem ofNat_small {n : Nat} (h : n < 32) : (BitVec.ofNat 32 n).toNat = n := by
  rw [BitVec.toNat_ofNat]; exact Nat.mod_eq_of_lt (by omega)
theorem shlZ (x n : Nat) (hn : n < 32) : o_ishl (zI (x : Int)) (zI (n : Int)) = zI ((x * 2 ^ n : Nat) : Int) := Int32.toBitVec_inj.mp (by
  show (zI (x : Int)).toBitVec <<< ((zI (n : Int) &&& 31).toBitVec.smod 32) = _
  rw [amt_l n hn, tb_nat, tb_nat, BitVec.shiftLeft_eq', ofNat_small hn]
  refine BitVec.eq_of_toNat_eq ?_
  rw [BitVec.toNat_shiftLeft, BitVec.toNat_ofNat, BitVec.toNat_ofNat, Nat.shiftLeft_eq, Nat.mod_mul_mod])
theorem ushrZ (s n : Nat) (hs : s < 4294967296) (hn : n < 32) : o_iushr (zI (s : Int)) (zI (n : Int)) = zI ((s / 2 ^ n : Nat) : Int) := Int32.toBitVec_inj.mp (by
  show (zI (s : Int)).toBitVec >>> (((zI (n : Int)).toUInt32 &&& Int32.toUInt32 31) : UInt32).toBitVec.umod 32#32 = _
  rw [amt_r n hn, tb_nat, tb_nat, BitVec.ushiftRight_eq', ofNat_small hn]
  refine BitVec.eq_of_toNat_eq ?_
  have h1 : s / 2 ^ n ≤ s := Nat.div_le_self _ _
  rw [BitVec.toNat_ushiftRight, BitVec.toNat_ofNat, BitVec.toNat_ofNat, Nat.shiftRight_eq_div_pow, Nat.mod_eq_of_lt (show s < 2 ^ 32 from hs), Nat.mod_eq_of_lt (show s / 2 ^ n < 2 ^ 32 from Nat.lt_of_le_of_lt h1 hs)])
theorem shrZ (s n : Nat) (hs : s < 2147483648) (hn : n < 32) : o_ishr (zI (s : Int)) (zI (n : Int)) = zI ((s / 2 ^ n : Nat) : Int) := Int32.toBitVec_inj.mp (by
  show (zI (s : Int)).toBitVec.sshiftRight' ((zI (n : Int) &&& 31).toBitVec.smod 32) = _
  rw [amt_l n hn, tb_nat, tb_nat, BitVec.sshiftRight_eq', ofNat_small hn]
  have h1 : s / 2 ^ n ≤ s := Nat.div_le_self _ _
  rw [BitVec.sshiftRight_eq_of_msb_false (by rw [BitVec.msb_eq_decide, BitVec.toNat_ofNat]; exact decide_eq_false (by omega))]
  refine BitVec.eq_of_toNat_eq ?_
  rw [BitVec.toNat_ushiftRight, BitVec.toNat_ofNat, BitVec.toNat_ofNat, Nat.shiftRight_eq_div_pow, Nat.mod_eq_of_lt (show s < 2 ^ 32 by omega), Nat.mod_eq_of_lt (show s / 2 ^ n < 2 ^ 32 by omega)])
theorem shl1 {p : Int} (h : 0 ≤ p ∧ p < 32) : o_ishl (zI 1) (zI p) = zI ((2 ^ p.toNat : Nat) : Int) := by
  have := shlZ 1 p.toNat (by omega)
  rw [Nat.one_mul, Int.toNat_of_nonneg h.1] at this
  exact this
theorem ushr_bit {s : Nat} {p : Int} (h : s < 4294967296 ∧ 0 ≤ p ∧ p < 32) : o_iushr (zI (s : Int)) (zI p) &&& zI 1 = zI (if s.testBit p.toNat = true then 1 else 0) := by
  have := ushrZ s p.toNat h.1 (by omega)
  rw [Int.toNat_of_nonneg h.2.1] at this
  have e := andZ (s / 2 ^ p.toNat) 1
  rw [this]
  refine e.trans (congrArg zI ?_)
  rw [Nat.and_one_is_mod, ← Nat.shiftRight_eq_div_pow]
  have ht : s.testBit p.toNat = ((s >>> p.toNat) % 2 != 0) := by rw [Nat.testBit, Nat.and_comm, Nat.and_one_is_mod]
  rw [ht]
  rcases Nat.mod_two_eq_zero_or_one (s >>> p.toNat) with h0 | h0 <;> rw [h0] <;> rfl
theorem shr_bit {s : Nat} {p : Int} (h : s < 2147483648 ∧ 0 ≤ p ∧ p < 32) : o_ishr (zI (s : Int)) (zI p) &&& zI 1 = zI (if s.testBit p.toNat = true then 1 else 0) := by
  rw [← ushr_bit (s := s) (p := p) (by omega)]
  have h1 := ushrZ s p.toNat (by omega) (by omega)
  have h2 := shrZ s p.toNat h.1 (by omega)
  rw [Int.toNat_of_nonneg h.2.1] at h1 h2
  rw [h1, h2]
theorem nat_xor_one (n : Nat) : n ^^^ 1 = if n % 2 = 0 then n + 1 else n - 1 := by
  have h1 : (n ^^^ 1) / 2 = n / 2 := by rw [Nat.xor_div_two]; simp
  have h2 := @Nat.xor_mod_two_eq_one n 1
  by_cases h : n % 2 = 0
  · rw [if_pos h]
    have : (n ^^^ 1) % 2 = 1 := h2.mpr (by omega)
    omega
  · rw [if_neg h]
    have : ¬ (n ^^^ 1) % 2 = 1 := fun z => (h2.mp z) (by omega)
    omega
theorem xorF {x : Int} (h : 0 ≤ x ∧ x ≤ 2147483647) : zI x ^^^ zI 1 = zI (flipZ x) := by
  have := xorZ x.toNat 1
  rw [Int.toNat_of_nonneg h.1] at this
  refine this.trans (congrArg zI ?_)
  rw [nat_xor_one]
  unfold flipZ
  by_cases e : x % 2 = 0
  · rw [if_pos e, if_pos (by omega)]; omega
  · rw [if_neg e, if_neg (by omega)]; omega
/-- the greater, the lesser of two -/
theorem maxZ {a b : Int} (h : -2147483648 ≤ a ∧ a ≤ 2147483647 ∧ -2147483648 ≤ b ∧ b ≤ 2147483647) : (if zI a < zI b then zI b else zI a) = zI (if a < b then b else a) := by
  have e := ltI h
  by_cases g : a < b
  · rw [if_pos g, if_pos (by rw [e]; exact g)]
  · rw [if_neg g, if_neg (by rw [e]; exact g)]
theorem minZ {a b : Int} (h : -2147483648 ≤ a ∧ a ≤ 2147483647 ∧ -2147483648 ≤ b ∧ b ≤ 2147483647) : (if zI a < zI b then zI a else zI b) = zI (if a < b then a else b) := by
  have e := ltI h
  by_cases g : a < b
  · rw [if_pos g, if_pos (by rw [e]; exact g)]
  · rw [if_neg g, if_neg (by rw [e]; exact g)]
end S93d
