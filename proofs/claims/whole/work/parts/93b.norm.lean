/-! 93b_norm -/
section S93b
set_option linter.unusedVariables false
set_option linter.unusedSimpArgs false
theorem li_0 : (0 : Int32) = zI 0 := litI 0
theorem li_1 : (1 : Int32) = zI 1 := litI 1
theorem li_2 : (2 : Int32) = zI 2 := litI 2
theorem li_3 : (3 : Int32) = zI 3 := litI 3
theorem li_4 : (4 : Int32) = zI 4 := litI 4
theorem li_5 : (5 : Int32) = zI 5 := litI 5
theorem li_6 : (6 : Int32) = zI 6 := litI 6
theorem li_7 : (7 : Int32) = zI 7 := litI 7
theorem li_8 : (8 : Int32) = zI 8 := litI 8
theorem li_9 : (9 : Int32) = zI 9 := litI 9
theorem li_10 : (10 : Int32) = zI 10 := litI 10
theorem li_12 : (12 : Int32) = zI 12 := litI 12
theorem li_13 : (13 : Int32) = zI 13 := litI 13
theorem li_14 : (14 : Int32) = zI 14 := litI 14
theorem li_15 : (15 : Int32) = zI 15 := litI 15
theorem li_16 : (16 : Int32) = zI 16 := litI 16
theorem li_20 : (20 : Int32) = zI 20 := litI 20
theorem li_24 : (24 : Int32) = zI 24 := litI 24
theorem li_30 : (30 : Int32) = zI 30 := litI 30
theorem li_31 : (31 : Int32) = zI 31 := litI 31
theorem li_32 : (32 : Int32) = zI 32 := litI 32
theorem li_38 : (38 : Int32) = zI 38 := litI 38
theorem li_46 : (46 : Int32) = zI 46 := litI 46
theorem li_48 : (48 : Int32) = zI 48 := litI 48
theorem li_57 : (57 : Int32) = zI 57 := litI 57
theorem li_59 : (59 : Int32) = zI 59 := litI 59
theorem li_60 : (60 : Int32) = zI 60 := litI 60
theorem li_63 : (63 : Int32) = zI 63 := litI 63
theorem li_64 : (64 : Int32) = zI 64 := litI 64
theorem li_70 : (70 : Int32) = zI 70 := litI 70
theorem li_97 : (97 : Int32) = zI 97 := litI 97
theorem li_98 : (98 : Int32) = zI 98 := litI 98
theorem li_99 : (99 : Int32) = zI 99 := litI 99
theorem li_100 : (100 : Int32) = zI 100 := litI 100
theorem li_120 : (120 : Int32) = zI 120 := litI 120
theorem li_121 : (121 : Int32) = zI 121 := litI 121
theorem li_122 : (122 : Int32) = zI 122 := litI 122
theorem li_124 : (124 : Int32) = zI 124 := litI 124
theorem li_125 : (125 : Int32) = zI 125 := litI 125
theorem li_129 : (129 : Int32) = zI 129 := litI 129
theorem li_134 : (134 : Int32) = zI 134 := litI 134
theorem li_166 : (166 : Int32) = zI 166 := litI 166
theorem li_167 : (167 : Int32) = zI 167 := litI 167
theorem li_168 : (168 : Int32) = zI 168 := litI 168
theorem li_169 : (169 : Int32) = zI 169 := litI 169
theorem li_170 : (170 : Int32) = zI 170 := litI 170
theorem li_206 : (206 : Int32) = zI 206 := litI 206
theorem li_210 : (210 : Int32) = zI 210 := litI 210
theorem li_255 : (255 : Int32) = zI 255 := litI 255
theorem li_256 : (256 : Int32) = zI 256 := litI 256
theorem li_408 : (408 : Int32) = zI 408 := litI 408
theorem li_580 : (580 : Int32) = zI 580 := litI 580
theorem li_600 : (600 : Int32) = zI 600 := litI 600
theorem li_1000 : (1000 : Int32) = zI 1000 := litI 1000
theorem li_1224 : (1224 : Int32) = zI 1224 := litI 1224
theorem li_1632 : (1632 : Int32) = zI 1632 := litI 1632
theorem li_2000 : (2000 : Int32) = zI 2000 := litI 2000
theorem li_2560 : (2560 : Int32) = zI 2560 := litI 2560
theorem li_4096 : (4096 : Int32) = zI 4096 := litI 4096
theorem li_8191 : (8191 : Int32) = zI 8191 := litI 8191
theorem li_8192 : (8192 : Int32) = zI 8192 := litI 8192
theorem li_12345 : (12345 : Int32) = zI 12345 := litI 12345
theorem li_16214 : (16214 : Int32) = zI 16214 := litI 16214
theorem li_16384 : (16384 : Int32) = zI 16384 := litI 16384
theorem li_40503 : (40503 : Int32) = zI 40503 := litI 40503
theorem li_1000000 : (1000000 : Int32) = zI 1000000 := litI 1000000
theorem li_252645135 : (252645135 : Int32) = zI 252645135 := litI 252645135
theorem li_858993459 : (858993459 : Int32) = zI 858993459 := litI 858993459
theorem li_1103515245 : (1103515245 : Int32) = zI 1103515245 := litI 1103515245
theorem li_1431655765 : (1431655765 : Int32) = zI 1431655765 := litI 1431655765
theorem li_1640531535 : (1640531535 : Int32) = zI 1640531535 := litI 1640531535
theorem lj_0 : (0 : Int64) = zJ 0 := litJ 0
theorem lj_1 : (1 : Int64) = zJ 1 := litJ 1
theorem lj_2 : (2 : Int64) = zJ 2 := litJ 2
theorem lj_3 : (3 : Int64) = zJ 3 := litJ 3
theorem lj_4 : (4 : Int64) = zJ 4 := litJ 4
theorem lj_5 : (5 : Int64) = zJ 5 := litJ 5
theorem lj_6 : (6 : Int64) = zJ 6 := litJ 6
theorem lj_9 : (9 : Int64) = zJ 9 := litJ 9
theorem lj_10 : (10 : Int64) = zJ 10 := litJ 10
theorem lj_12 : (12 : Int64) = zJ 12 := litJ 12
theorem lj_30 : (30 : Int64) = zJ 30 := litJ 30
theorem lj_60 : (60 : Int64) = zJ 60 := litJ 60
theorem lj_100 : (100 : Int64) = zJ 100 := litJ 100
theorem lj_1000 : (1000 : Int64) = zJ 1000 := litJ 1000
theorem lj_4294967295 : (4294967295 : Int64) = zJ 4294967295 := litJ 4294967295
theorem retZ_z {v : Int} {h : HeapP} (hv : v = 0 ∨ v = 1) : retZ (zI v) h = some (Sum.inl (some (.int (zI v))), h) := by
  unfold retZ; rw [if_pos (by rcases hv with rfl | rfl; exact Or.inl rfl; exact Or.inr rfl)]
/-! first tries -/
theorem ct_27 {d : Nat} {E : EnQ} {F : Nat → Int → Int32} {G : Nat → Int → Int64} {p : Nat} {i : Int} (hs : shx E p = (1, 2, 0)) (hi : -2147483648 ≤ i ∧ i ≤ 2147483647) (hd : 1 ≤ d) : callP MP d 27 [.ref p, .int (zI i)] (mk E F G) = some (Sum.inl (some (.int (zI (if 0 ≤ i ∧ i < tI (F p 1) then 1 else 0)))), mk E F G) := by

  refine into (D := 0) (by omega) hM_27 (rcv_mk hs (by decide)) rfl fun d hd => ?_
  show runP MP d 27 (0, [some (.ref p), some (.int (zI i))], [], _) = _
  have hr := tI_rg (F p 1)
  by_cases h1 : i < 0
  · rw [if_neg (by omega)]; rw [q_27_0]; simp only [↓n_rd, li_0, li_1, li_2, li_16, zI_add, zI_sub, zI_mul, zI_neg, ↓Option.bind_some]; simp (disch := (first | rfl | assumption | exact SnS_18 | exact SnS_30 | exact LdS_44 | exact LdS_46 | omega)) only [q_27_16, q_27_17, q_27_16, q_27_17, ↓n_rd, retZ_z, li_0, li_1, li_2, li_16, zI_add, zI_sub, zI_mul, zI_neg, ↓Option.bind_some, ↓g2_1, ↓reduceIte, decide_eq_true_eq, leT, leF, ltT, ltF, eqT, eqF, ne_eq, not_true_eq_false, not_false_eq_true, Bool.false_eq_true, tI_zI]
  · by_cases h2 : i < tI (F p 1)
    · rw [if_pos (by omega)]; rw [q_27_0]; simp only [↓n_rd, li_0, li_1, li_2, li_16, zI_add, zI_sub, zI_mul, zI_neg, ↓Option.bind_some]; simp (disch := (first | rfl | assumption | exact SnS_18 | exact SnS_30 | exact LdS_44 | exact LdS_46 | omega)) only [q_27_16, q_27_17, q_27_16, q_27_17, ↓n_rd, retZ_z, li_0, li_1, li_2, li_16, zI_add, zI_sub, zI_mul, zI_neg, ↓Option.bind_some, ↓g2_1, ↓reduceIte, decide_eq_true_eq, leT, leF, ltT, ltF, eqT, eqF, ne_eq, not_true_eq_false, not_false_eq_true, Bool.false_eq_true, tI_zI]
    · rw [if_neg (by omega)]; rw [q_27_0]; simp only [↓n_rd, li_0, li_1, li_2, li_16, zI_add, zI_sub, zI_mul, zI_neg, ↓Option.bind_some]; simp (disch := (first | rfl | assumption | exact SnS_18 | exact SnS_30 | exact LdS_44 | exact LdS_46 | omega)) only [q_27_16, q_27_17, q_27_16, q_27_17, ↓n_rd, retZ_z, li_0, li_1, li_2, li_16, zI_add, zI_sub, zI_mul, zI_neg, ↓Option.bind_some, ↓g2_1, ↓reduceIte, decide_eq_true_eq, leT, leF, ltT, ltF, eqT, eqF, ne_eq, not_true_eq_false, not_false_eq_true, Bool.false_eq_true, tI_zI]
theorem cc_27 {d : Nat} {E : EnQ} {F : Nat → Int → Int32} {G : Nat → Int → Int64} {k : Int → HeapP → ResP} {kx : Nat → HeapP → ResP} {p : Nat} {i : Int} (hs : shx E p = (1, 2, 0)) (hi : -2147483648 ≤ i ∧ i ≤ 2147483647) (hd : 1 ≤ d) : cT (callP MP d 27 [.ref p, .int (zI i)] (mk E F G)) k kx = k (if 0 ≤ i ∧ i < tI (F p 1) then 1 else 0) (mk E F G) := cT_ret (by apply ct_27 <;> assumption) (by split <;> omega)
end S93b
