/-! NORMAL FORM -/
section NO
set_option linter.unusedVariables false
set_option linter.unusedSimpArgs false
theorem li_0 : (0 : Int32) = zI 0 := litI 0
theorem li_1 : (1 : Int32) = zI 1 := litI 1
theorem li_2 : (2 : Int32) = zI 2 := litI 2
theorem li_3 : (3 : Int32) = zI 3 := litI 3
theorem li_4 : (4 : Int32) = zI 4 := litI 4
theorem li_5 : (5 : Int32) = zI 5 := litI 5
theorem li_6 : (6 : Int32) = zI 6 := litI 6
theorem li_7 : (7 : Int32) = zI 7 := litI 7
theorem li_8 : (8 : Int32) = zI 8 := litI 8
theorem li_9 : (9 : Int32) = zI 9 := litI 9
theorem li_10 : (10 : Int32) = zI 10 := litI 10
theorem li_12 : (12 : Int32) = zI 12 := litI 12
theorem li_13 : (13 : Int32) = zI 13 := litI 13
theorem li_14 : (14 : Int32) = zI 14 := litI 14
theorem li_15 : (15 : Int32) = zI 15 := litI 15
theorem li_16 : (16 : Int32) = zI 16 := litI 16
theorem li_20 : (20 : Int32) = zI 20 := litI 20
theorem li_24 : (24 : Int32) = zI 24 := litI 24
theorem li_30 : (30 : Int32) = zI 30 := litI 30
theorem li_31 : (31 : Int32) = zI 31 := litI 31
theorem li_32 : (32 : Int32) = zI 32 := litI 32
theorem li_38 : (38 : Int32) = zI 38 := litI 38
theorem li_46 : (46 : Int32) = zI 46 := litI 46
theorem li_48 : (48 : Int32) = zI 48 := litI 48
theorem li_57 : (57 : Int32) = zI 57 := litI 57
theorem li_59 : (59 : Int32) = zI 59 := litI 59
theorem li_60 : (60 : Int32) = zI 60 := litI 60
theorem li_63 : (63 : Int32) = zI 63 := litI 63
theorem li_64 : (64 : Int32) = zI 64 := litI 64
theorem li_70 : (70 : Int32) = zI 70 := litI 70
theorem li_97 : (97 : Int32) = zI 97 := litI 97
theorem li_98 : (98 : Int32) = zI 98 := litI 98
theorem li_99 : (99 : Int32) = zI 99 := litI 99
theorem li_100 : (100 : Int32) = zI 100 := litI 100
theorem li_120 : (120 : Int32) = zI 120 := litI 120
theorem li_121 : (121 : Int32) = zI 121 := litI 121
theorem li_122 : (122 : Int32) = zI 122 := litI 122
theorem li_124 : (124 : Int32) = zI 124 := litI 124
theorem li_125 : (125 : Int32) = zI 125 := litI 125
theorem li_129 : (129 : Int32) = zI 129 := litI 129
theorem li_134 : (134 : Int32) = zI 134 := litI 134
theorem li_166 : (166 : Int32) = zI 166 := litI 166
theorem li_167 : (167 : Int32) = zI 167 := litI 167
theorem li_168 : (168 : Int32) = zI 168 := litI 168
theorem li_169 : (169 : Int32) = zI 169 := litI 169
theorem li_170 : (170 : Int32) = zI 170 := litI 170
theorem li_206 : (206 : Int32) = zI 206 := litI 206
theorem li_210 : (210 : Int32) = zI 210 := litI 210
theorem li_255 : (255 : Int32) = zI 255 := litI 255
theorem li_256 : (256 : Int32) = zI 256 := litI 256
theorem li_408 : (408 : Int32) = zI 408 := litI 408
theorem li_580 : (580 : Int32) = zI 580 := litI 580
theorem li_600 : (600 : Int32) = zI 600 := litI 600
theorem li_1000 : (1000 : Int32) = zI 1000 := litI 1000
theorem li_1224 : (1224 : Int32) = zI 1224 := litI 1224
theorem li_1632 : (1632 : Int32) = zI 1632 := litI 1632
theorem li_2000 : (2000 : Int32) = zI 2000 := litI 2000
theorem li_2560 : (2560 : Int32) = zI 2560 := litI 2560
theorem li_4096 : (4096 : Int32) = zI 4096 := litI 4096
theorem li_8191 : (8191 : Int32) = zI 8191 := litI 8191
theorem li_8192 : (8192 : Int32) = zI 8192 := litI 8192
theorem li_12345 : (12345 : Int32) = zI 12345 := litI 12345
theorem li_16214 : (16214 : Int32) = zI 16214 := litI 16214
theorem li_16384 : (16384 : Int32) = zI 16384 := litI 16384
theorem li_40503 : (40503 : Int32) = zI 40503 := litI 40503
theorem li_1000000 : (1000000 : Int32) = zI 1000000 := litI 1000000
theorem li_252645135 : (252645135 : Int32) = zI 252645135 := litI 252645135
theorem li_858993459 : (858993459 : Int32) = zI 858993459 := litI 858993459
theorem li_1103515245 : (1103515245 : Int32) = zI 1103515245 := litI 1103515245
theorem li_1431655765 : (1431655765 : Int32) = zI 1431655765 := litI 1431655765
theorem li_1640531535 : (1640531535 : Int32) = zI 1640531535 := litI 1640531535
theorem lj_0 : (0 : Int64) = zJ 0 := litJ 0
theorem lj_1 : (1 : Int64) = zJ 1 := litJ 1
theorem lj_2 : (2 : Int64) = zJ 2 := litJ 2
theorem lj_3 : (3 : Int64) = zJ 3 := litJ 3
theorem lj_4 : (4 : Int64) = zJ 4 := litJ 4
theorem lj_5 : (5 : Int64) = zJ 5 := litJ 5
theorem lj_6 : (6 : Int64) = zJ 6 := litJ 6
theorem lj_9 : (9 : Int64) = zJ 9 := litJ 9
theorem lj_10 : (10 : Int64) = zJ 10 := litJ 10
theorem lj_12 : (12 : Int64) = zJ 12 := litJ 12
theorem lj_30 : (30 : Int64) = zJ 30 := litJ 30
theorem lj_60 : (60 : Int64) = zJ 60 := litJ 60
theorem lj_100 : (100 : Int64) = zJ 100 := litJ 100
theorem lj_1000 : (1000 : Int64) = zJ 1000 := litJ 1000
theorem lj_4294967295 : (4294967295 : Int64) = zJ 4294967295 := litJ 4294967295
theorem retZ_z {v : Int} {h : HeapP} (hv : v = 0 ∨ v = 1) : retZ (zI v) h = some (Sum.inl (some (.int (zI v))), h) := by
  unfold retZ; rw [if_pos (by rcases hv with rfl | rfl; exact Or.inl rfl; exact Or.inr rfl)]
/-! first tries -/
theorem ct_27 {d : Nat} {E : EnQ} {F : Nat → Int → Int32} {G : Nat → Int → Int64} {p : Nat} {i : Int} (hs : shx E p = (1, 2, 0)) (hi : -2147483648 ≤ i ∧ i ≤ 2147483647) (hd : 1 ≤ d) : callP MP d 27 [.ref p, .int (zI i)] (mk E F G) = some (Sum.inl (some (.int (zI (if 0 ≤ i ∧ i < tI (F p 1) then 1 else 0)))), mk E F G) := by

  refine into (D := 0) (by omega) hM_27 (rcv_mk hs (by decide)) rfl fun d hd => ?_
  show runP MP d 27 (0, [some (.ref p), some (.int (zI i))], [], _) = _
  have hr := tI_rg (F p 1)
  by_cases h1 : i < 0
  · rw [if_neg (by omega)]; rw [q_27_0]; simp only [n_rd, n_rdJ, n_al, n_alJ, n_len, n_idiv, n_irem, n_ldiv, n_lrem, n_cI, n_cJ, li_0, li_1, li_2, li_3, li_4, li_5, li_6, li_7, li_8, li_9, li_10, li_12, li_13, li_14, li_15, li_16, li_20, li_24, li_30, li_31, li_32, li_38, li_46, li_48, li_57, li_59, li_60, li_63, li_64, li_70, li_97, li_98, li_99, li_100, li_120, li_121, li_122, li_124, li_125, li_129, li_134, li_166, li_167, li_168, li_169, li_170, li_206, li_210, li_255, li_256, li_408, li_580, li_600, li_1000, li_1224, li_1632, li_2000, li_2560, li_4096, li_8191, li_8192, li_12345, li_16214, li_16384, li_40503, li_1000000, li_252645135, li_858993459, li_1103515245, li_1431655765, li_1640531535, lj_0, lj_1, lj_2, lj_3, lj_4, lj_5, lj_6, lj_9, lj_10, lj_12, lj_30, lj_60, lj_100, lj_1000, lj_4294967295, zI_add, zI_sub, zI_mul, zI_neg, zJ_add, zJ_sub, zJ_mul, zJ_neg, zJ_l2i, ↓Option.bind_some]; simp (disch := (first | rfl | assumption | exact SnS_18 | exact SnS_30 | exact LdS_44 | exact LdS_46 | omega)) only [q_27_16, q_27_17, ↓n_rd, ↓n_rdJ, ↓n_al, ↓n_alJ, ↓n_len, ↓n_idiv, ↓n_irem, ↓n_ldiv, ↓n_lrem, ↓n_cI, ↓n_cJ, li_0, li_1, li_2, li_3, li_4, li_5, li_6, li_7, li_8, li_9, li_10, li_12, li_13, li_14, li_15, li_16, li_20, li_24, li_30, li_31, li_32, li_38, li_46, li_48, li_57, li_59, li_60, li_63, li_64, li_70, li_97, li_98, li_99, li_100, li_120, li_121, li_122, li_124, li_125, li_129, li_134, li_166, li_167, li_168, li_169, li_170, li_206, li_210, li_255, li_256, li_408, li_580, li_600, li_1000, li_1224, li_1632, li_2000, li_2560, li_4096, li_8191, li_8192, li_12345, li_16214, li_16384, li_40503, li_1000000, li_252645135, li_858993459, li_1103515245, li_1431655765, li_1640531535, lj_0, lj_1, lj_2, lj_3, lj_4, lj_5, lj_6, lj_9, lj_10, lj_12, lj_30, lj_60, lj_100, lj_1000, lj_4294967295, zI_add, zI_sub, zI_mul, zI_neg, zJ_add, zJ_sub, zJ_mul, zJ_neg, zJ_l2i, ↓Option.bind_some, ↓g0_0, ↓g0_1, ↓g1_0, ↓g2_0, ↓p2_0, ↓g2_1, ↓p2_1, ↓g2_2, ↓p2_2, ↓g2_3, ↓p2_3, ↓g2_4, ↓p2_4, ↓g2_5, ↓p2_5, ↓g2_6, ↓p2_6, ↓g2_7, ↓p2_7, ↓g2_8, ↓g2_9, ↓g2_10, ↓g2_11, ↓g2_12, ↓g3_0, ↓p3_0, ↓g3_1, ↓p3_1, ↓g3_2, ↓p3_2, ↓g3_3, ↓p3_3, ↓g3_4, ↓p3_4, ↓g3_5, ↓p3_5, ↓g3_6, ↓p3_6, ↓g3_7, ↓p3_7, ↓g4_0, ↓g4_1, ↓p4_1, ↓g4_2, ↓p4_2, ↓g4_3, ↓g4_4, ↓g5_0, ↓p5_0, ↓g5_1, ↓p5_1, ↓g5_2, ↓p5_2, ↓g5_3, ↓p5_3, ↓g5_4, ↓p5_4, ↓g5_5, ↓g5_6, ↓g5_7, ↓g5_8, ↓g5_9, ↓g6_0, ↓p6_0, ↓g6_1, ↓p6_1, ↓g6_2, ↓p6_2, ↓g6_3, ↓g6_4, ↓g6_5, ↓g6_6, ↓g6_7, ↓g6_8, ↓g6_9, ↓g7_0, ↓p7_0, ↓g7_1, ↓p7_1, ↓g7_2, ↓g8_0, ↓g8_1, ↓p8_1, ↓g8_2, ↓p8_2, ↓g9_0, ↓p9_0, ↓g9_1, ↓g10_0, ↓p10_0, ↓g10_1, ↓p10_1, ↓g10_2, ↓p10_2, ↓g10_3, ↓g10_4, ↓g11_0, ↓g11_1, ↓p11_1, ↓g11_2, ↓p11_2, ↓g11_3, ↓p11_3, ↓g11_4, ↓g11_5, ↓g11_6, ↓g11_7, ↓g11_8, ↓g11_9, ↓g11_10, ↓g11_11, ↓g11_12, ↓g11_13, ↓g11_14, ↓g11_15, ↓g11_16, ↓g11_17, ↓g11_18, ↓p11_18, ↓g11_19, ↓p11_19, ↓g12_0, ↓g12_1, ↓g12_2, ↓g12_3, ↓g12_4, ↓g12_5, ↓p12_5, ↓g12_6, ↓g12_7, ↓p12_7, ↓g12_8, ↓p12_8, ↓g12_9, ↓p12_9, ↓g12_10, ↓p12_10, ↓g12_11, ↓p12_11, ↓g12_12, ↓p12_12, ↓g12_13, ↓p12_13, ↓g12_14, ↓p12_14, ↓g12_15, ↓p12_15, ↓g12_16, ↓p12_16, ↓g12_17, ↓g12_18, ↓p12_18, ↓g12_19, ↓p12_19, ↓g12_20, ↓g12_21, ↓g12_22, ↓p12_22, ↓g12_23, ↓g12_24, ↓g12_25, ↓g12_26, ↓g12_27, ↓p12_27, ↓g12_28, ↓p12_28, ↓g12_29, ↓p12_29, ↓g12_30, ↓g12_31, ↓g12_32, ↓g12_33, ↓g12_34, ↓g12_35, ↓p12_35, ↓g12_36, ↓p12_36, ↓g12_37, ↓p12_37, ↓g12_38, ↓p12_38, ↓g12_39, ↓p12_39, ↓g12_40, ↓p12_40, ↓g12_41, ↓p12_41, ↓g12_42, ↓g12_43, ↓g12_44, ↓g12_45, ↓p12_45, ↓g12_46, ↓g12_47, ↓g12_48, ↓g12_49, ↓p12_49, ↓g12_50, ↓p12_50, ↓g12_51, ↓g12_52, ↓p12_52, ↓g12_53, ↓g12_54, ↓g12_55, ↓pz12_18, ↓pz12_41, ↓al_17, ↓as_17, ↓al_172, ↓as_172, ↓al_185, ↓as_185, ↓al_186, ↓as_186, ↓al_187, ↓as_187, ↓al_188, ↓as_188, ↓al_189, ↓as_189, ↓al_190, ↓as_190, ↓al_191, ↓as_191, ↓al_199, ↓as_199, ↓al_200, ↓as_200, ↓al_202, ↓as_202, ↓al_203, ↓as_203, ↓al_204, ↓as_204, ↓al_206, ↓as_206, ↓al_207, ↓as_207, ↓al_208, ↓as_208, ↓al_218, ↓as_218, ↓al_219, ↓as_219, ↓al_220, ↓as_220, ↓al_221, ↓as_221, ↓al_222, ↓as_222, ↓al_223, ↓as_223, ↓al_224, ↓as_224, ↓al_225, ↓as_225, ↓al_226, ↓as_226, ↓al_227, ↓as_227, ↓al_228, ↓as_228, ↓al_229, ↓as_229, ↓al_230, ↓as_230, ↓al_231, ↓as_231, ↓al_232, ↓as_232, ↓al_233, ↓as_233, ↓al_234, ↓as_234, ↓al_235, ↓as_235, ↓al_236, ↓as_236, ↓al_237, ↓as_237, ↓al_238, ↓as_238, ↓al_239, ↓as_239, ↓al_240, ↓as_240, ↓al_241, ↓as_241, ↓al_242, ↓as_242, ↓al_243, ↓as_243, ↓al_244, ↓as_244, ↓al_245, ↓as_245, ↓PlS_l1, ↓PlS_s1, ↓PlS_l2, ↓PlS_s2, ↓PlS_l3, ↓PlS_s3, ↓PlS_l4, ↓PlS_s4, ↓PlS_l5, ↓PlS_s5, ↓SnS_l7, ↓SnS_s7, ↓SnS_l8, ↓SnS_s8, ↓SnS_l9, ↓SnS_s9, ↓SnS_l10, ↓SnS_s10, ↓SnS_l11, ↓SnS_s11, ↓LdS_l1, ↓LdS_s1, ↓TrS_l1, ↓TrS_s1, ↓b_idiv, ↓b_irem, ↓b_ldiv, ↓b_lrem, ↓reduceIte, decide_eq_true_eq, leT, leF, ltT, ltF, eqT, eqF, ne_eq, not_true_eq_false, not_false_eq_true, Bool.false_eq_true, jnk_mk, retZ_z, tI_zI, tJ_zJ]
  · by_cases h2 : i < tI (F p 1)
    · rw [if_pos (by omega)]; rw [q_27_0]; simp only [n_rd, n_rdJ, n_al, n_alJ, n_len, n_idiv, n_irem, n_ldiv, n_lrem, n_cI, n_cJ, li_0, li_1, li_2, li_3, li_4, li_5, li_6, li_7, li_8, li_9, li_10, li_12, li_13, li_14, li_15, li_16, li_20, li_24, li_30, li_31, li_32, li_38, li_46, li_48, li_57, li_59, li_60, li_63, li_64, li_70, li_97, li_98, li_99, li_100, li_120, li_121, li_122, li_124, li_125, li_129, li_134, li_166, li_167, li_168, li_169, li_170, li_206, li_210, li_255, li_256, li_408, li_580, li_600, li_1000, li_1224, li_1632, li_2000, li_2560, li_4096, li_8191, li_8192, li_12345, li_16214, li_16384, li_40503, li_1000000, li_252645135, li_858993459, li_1103515245, li_1431655765, li_1640531535, lj_0, lj_1, lj_2, lj_3, lj_4, lj_5, lj_6, lj_9, lj_10, lj_12, lj_30, lj_60, lj_100, lj_1000, lj_4294967295, zI_add, zI_sub, zI_mul, zI_neg, zJ_add, zJ_sub, zJ_mul, zJ_neg, zJ_l2i, ↓Option.bind_some]; simp (disch := (first | rfl | assumption | exact SnS_18 | exact SnS_30 | exact LdS_44 | exact LdS_46 | omega)) only [q_27_16, q_27_17, ↓n_rd, ↓n_rdJ, ↓n_al, ↓n_alJ, ↓n_len, ↓n_idiv, ↓n_irem, ↓n_ldiv, ↓n_lrem, ↓n_cI, ↓n_cJ, li_0, li_1, li_2, li_3, li_4, li_5, li_6, li_7, li_8, li_9, li_10, li_12, li_13, li_14, li_15, li_16, li_20, li_24, li_30, li_31, li_32, li_38, li_46, li_48, li_57, li_59, li_60, li_63, li_64, li_70, li_97, li_98, li_99, li_100, li_120, li_121, li_122, li_124, li_125, li_129, li_134, li_166, li_167, li_168, li_169, li_170, li_206, li_210, li_255, li_256, li_408, li_580, li_600, li_1000, li_1224, li_1632, li_2000, li_2560, li_4096, li_8191, li_8192, li_12345, li_16214, li_16384, li_40503, li_1000000, li_252645135, li_858993459, li_1103515245, li_1431655765, li_1640531535, lj_0, lj_1, lj_2, lj_3, lj_4, lj_5, lj_6, lj_9, lj_10, lj_12, lj_30, lj_60, lj_100, lj_1000, lj_4294967295, zI_add, zI_sub, zI_mul, zI_neg, zJ_add, zJ_sub, zJ_mul, zJ_neg, zJ_l2i, ↓Option.bind_some, ↓g0_0, ↓g0_1, ↓g1_0, ↓g2_0, ↓p2_0, ↓g2_1, ↓p2_1, ↓g2_2, ↓p2_2, ↓g2_3, ↓p2_3, ↓g2_4, ↓p2_4, ↓g2_5, ↓p2_5, ↓g2_6, ↓p2_6, ↓g2_7, ↓p2_7, ↓g2_8, ↓g2_9, ↓g2_10, ↓g2_11, ↓g2_12, ↓g3_0, ↓p3_0, ↓g3_1, ↓p3_1, ↓g3_2, ↓p3_2, ↓g3_3, ↓p3_3, ↓g3_4, ↓p3_4, ↓g3_5, ↓p3_5, ↓g3_6, ↓p3_6, ↓g3_7, ↓p3_7, ↓g4_0, ↓g4_1, ↓p4_1, ↓g4_2, ↓p4_2, ↓g4_3, ↓g4_4, ↓g5_0, ↓p5_0, ↓g5_1, ↓p5_1, ↓g5_2, ↓p5_2, ↓g5_3, ↓p5_3, ↓g5_4, ↓p5_4, ↓g5_5, ↓g5_6, ↓g5_7, ↓g5_8, ↓g5_9, ↓g6_0, ↓p6_0, ↓g6_1, ↓p6_1, ↓g6_2, ↓p6_2, ↓g6_3, ↓g6_4, ↓g6_5, ↓g6_6, ↓g6_7, ↓g6_8, ↓g6_9, ↓g7_0, ↓p7_0, ↓g7_1, ↓p7_1, ↓g7_2, ↓g8_0, ↓g8_1, ↓p8_1, ↓g8_2, ↓p8_2, ↓g9_0, ↓p9_0, ↓g9_1, ↓g10_0, ↓p10_0, ↓g10_1, ↓p10_1, ↓g10_2, ↓p10_2, ↓g10_3, ↓g10_4, ↓g11_0, ↓g11_1, ↓p11_1, ↓g11_2, ↓p11_2, ↓g11_3, ↓p11_3, ↓g11_4, ↓g11_5, ↓g11_6, ↓g11_7, ↓g11_8, ↓g11_9, ↓g11_10, ↓g11_11, ↓g11_12, ↓g11_13, ↓g11_14, ↓g11_15, ↓g11_16, ↓g11_17, ↓g11_18, ↓p11_18, ↓g11_19, ↓p11_19, ↓g12_0, ↓g12_1, ↓g12_2, ↓g12_3, ↓g12_4, ↓g12_5, ↓p12_5, ↓g12_6, ↓g12_7, ↓p12_7, ↓g12_8, ↓p12_8, ↓g12_9, ↓p12_9, ↓g12_10, ↓p12_10, ↓g12_11, ↓p12_11, ↓g12_12, ↓p12_12, ↓g12_13, ↓p12_13, ↓g12_14, ↓p12_14, ↓g12_15, ↓p12_15, ↓g12_16, ↓p12_16, ↓g12_17, ↓g12_18, ↓p12_18, ↓g12_19, ↓p12_19, ↓g12_20, ↓g12_21, ↓g12_22, ↓p12_22, ↓g12_23, ↓g12_24, ↓g12_25, ↓g12_26, ↓g12_27, ↓p12_27, ↓g12_28, ↓p12_28, ↓g12_29, ↓p12_29, ↓g12_30, ↓g12_31, ↓g12_32, ↓g12_33, ↓g12_34, ↓g12_35, ↓p12_35, ↓g12_36, ↓p12_36, ↓g12_37, ↓p12_37, ↓g12_38, ↓p12_38, ↓g12_39, ↓p12_39, ↓g12_40, ↓p12_40, ↓g12_41, ↓p12_41, ↓g12_42, ↓g12_43, ↓g12_44, ↓g12_45, ↓p12_45, ↓g12_46, ↓g12_47, ↓g12_48, ↓g12_49, ↓p12_49, ↓g12_50, ↓p12_50, ↓g12_51, ↓g12_52, ↓p12_52, ↓g12_53, ↓g12_54, ↓g12_55, ↓pz12_18, ↓pz12_41, ↓al_17, ↓as_17, ↓al_172, ↓as_172, ↓al_185, ↓as_185, ↓al_186, ↓as_186, ↓al_187, ↓as_187, ↓al_188, ↓as_188, ↓al_189, ↓as_189, ↓al_190, ↓as_190, ↓al_191, ↓as_191, ↓al_199, ↓as_199, ↓al_200, ↓as_200, ↓al_202, ↓as_202, ↓al_203, ↓as_203, ↓al_204, ↓as_204, ↓al_206, ↓as_206, ↓al_207, ↓as_207, ↓al_208, ↓as_208, ↓al_218, ↓as_218, ↓al_219, ↓as_219, ↓al_220, ↓as_220, ↓al_221, ↓as_221, ↓al_222, ↓as_222, ↓al_223, ↓as_223, ↓al_224, ↓as_224, ↓al_225, ↓as_225, ↓al_226, ↓as_226, ↓al_227, ↓as_227, ↓al_228, ↓as_228, ↓al_229, ↓as_229, ↓al_230, ↓as_230, ↓al_231, ↓as_231, ↓al_232, ↓as_232, ↓al_233, ↓as_233, ↓al_234, ↓as_234, ↓al_235, ↓as_235, ↓al_236, ↓as_236, ↓al_237, ↓as_237, ↓al_238, ↓as_238, ↓al_239, ↓as_239, ↓al_240, ↓as_240, ↓al_241, ↓as_241, ↓al_242, ↓as_242, ↓al_243, ↓as_243, ↓al_244, ↓as_244, ↓al_245, ↓as_245, ↓PlS_l1, ↓PlS_s1, ↓PlS_l2, ↓PlS_s2, ↓PlS_l3, ↓PlS_s3, ↓PlS_l4, ↓PlS_s4, ↓PlS_l5, ↓PlS_s5, ↓SnS_l7, ↓SnS_s7, ↓SnS_l8, ↓SnS_s8, ↓SnS_l9, ↓SnS_s9, ↓SnS_l10, ↓SnS_s10, ↓SnS_l11, ↓SnS_s11, ↓LdS_l1, ↓LdS_s1, ↓TrS_l1, ↓TrS_s1, ↓b_idiv, ↓b_irem, ↓b_ldiv, ↓b_lrem, ↓reduceIte, decide_eq_true_eq, leT, leF, ltT, ltF, eqT, eqF, ne_eq, not_true_eq_false, not_false_eq_true, Bool.false_eq_true, jnk_mk, retZ_z, tI_zI, tJ_zJ]
    · rw [if_neg (by omega)]; rw [q_27_0]; simp only [n_rd, n_rdJ, n_al, n_alJ, n_len, n_idiv, n_irem, n_ldiv, n_lrem, n_cI, n_cJ, li_0, li_1, li_2, li_3, li_4, li_5, li_6, li_7, li_8, li_9, li_10, li_12, li_13, li_14, li_15, li_16, li_20, li_24, li_30, li_31, li_32, li_38, li_46, li_48, li_57, li_59, li_60, li_63, li_64, li_70, li_97, li_98, li_99, li_100, li_120, li_121, li_122, li_124, li_125, li_129, li_134, li_166, li_167, li_168, li_169, li_170, li_206, li_210, li_255, li_256, li_408, li_580, li_600, li_1000, li_1224, li_1632, li_2000, li_2560, li_4096, li_8191, li_8192, li_12345, li_16214, li_16384, li_40503, li_1000000, li_252645135, li_858993459, li_1103515245, li_1431655765, li_1640531535, lj_0, lj_1, lj_2, lj_3, lj_4, lj_5, lj_6, lj_9, lj_10, lj_12, lj_30, lj_60, lj_100, lj_1000, lj_4294967295, zI_add, zI_sub, zI_mul, zI_neg, zJ_add, zJ_sub, zJ_mul, zJ_neg, zJ_l2i, ↓Option.bind_some]; simp (disch := (first | rfl | assumption | exact SnS_18 | exact SnS_30 | exact LdS_44 | exact LdS_46 | omega)) only [q_27_16, q_27_17, ↓n_rd, ↓n_rdJ, ↓n_al, ↓n_alJ, ↓n_len, ↓n_idiv, ↓n_irem, ↓n_ldiv, ↓n_lrem, ↓n_cI, ↓n_cJ, li_0, li_1, li_2, li_3, li_4, li_5, li_6, li_7, li_8, li_9, li_10, li_12, li_13, li_14, li_15, li_16, li_20, li_24, li_30, li_31, li_32, li_38, li_46, li_48, li_57, li_59, li_60, li_63, li_64, li_70, li_97, li_98, li_99, li_100, li_120, li_121, li_122, li_124, li_125, li_129, li_134, li_166, li_167, li_168, li_169, li_170, li_206, li_210, li_255, li_256, li_408, li_580, li_600, li_1000, li_1224, li_1632, li_2000, li_2560, li_4096, li_8191, li_8192, li_12345, li_16214, li_16384, li_40503, li_1000000, li_252645135, li_858993459, li_1103515245, li_1431655765, li_1640531535, lj_0, lj_1, lj_2, lj_3, lj_4, lj_5, lj_6, lj_9, lj_10, lj_12, lj_30, lj_60, lj_100, lj_1000, lj_4294967295, zI_add, zI_sub, zI_mul, zI_neg, zJ_add, zJ_sub, zJ_mul, zJ_neg, zJ_l2i, ↓Option.bind_some, ↓g0_0, ↓g0_1, ↓g1_0, ↓g2_0, ↓p2_0, ↓g2_1, ↓p2_1, ↓g2_2, ↓p2_2, ↓g2_3, ↓p2_3, ↓g2_4, ↓p2_4, ↓g2_5, ↓p2_5, ↓g2_6, ↓p2_6, ↓g2_7, ↓p2_7, ↓g2_8, ↓g2_9, ↓g2_10, ↓g2_11, ↓g2_12, ↓g3_0, ↓p3_0, ↓g3_1, ↓p3_1, ↓g3_2, ↓p3_2, ↓g3_3, ↓p3_3, ↓g3_4, ↓p3_4, ↓g3_5, ↓p3_5, ↓g3_6, ↓p3_6, ↓g3_7, ↓p3_7, ↓g4_0, ↓g4_1, ↓p4_1, ↓g4_2, ↓p4_2, ↓g4_3, ↓g4_4, ↓g5_0, ↓p5_0, ↓g5_1, ↓p5_1, ↓g5_2, ↓p5_2, ↓g5_3, ↓p5_3, ↓g5_4, ↓p5_4, ↓g5_5, ↓g5_6, ↓g5_7, ↓g5_8, ↓g5_9, ↓g6_0, ↓p6_0, ↓g6_1, ↓p6_1, ↓g6_2, ↓p6_2, ↓g6_3, ↓g6_4, ↓g6_5, ↓g6_6, ↓g6_7, ↓g6_8, ↓g6_9, ↓g7_0, ↓p7_0, ↓g7_1, ↓p7_1, ↓g7_2, ↓g8_0, ↓g8_1, ↓p8_1, ↓g8_2, ↓p8_2, ↓g9_0, ↓p9_0, ↓g9_1, ↓g10_0, ↓p10_0, ↓g10_1, ↓p10_1, ↓g10_2, ↓p10_2, ↓g10_3, ↓g10_4, ↓g11_0, ↓g11_1, ↓p11_1, ↓g11_2, ↓p11_2, ↓g11_3, ↓p11_3, ↓g11_4, ↓g11_5, ↓g11_6, ↓g11_7, ↓g11_8, ↓g11_9, ↓g11_10, ↓g11_11, ↓g11_12, ↓g11_13, ↓g11_14, ↓g11_15, ↓g11_16, ↓g11_17, ↓g11_18, ↓p11_18, ↓g11_19, ↓p11_19, ↓g12_0, ↓g12_1, ↓g12_2, ↓g12_3, ↓g12_4, ↓g12_5, ↓p12_5, ↓g12_6, ↓g12_7, ↓p12_7, ↓g12_8, ↓p12_8, ↓g12_9, ↓p12_9, ↓g12_10, ↓p12_10, ↓g12_11, ↓p12_11, ↓g12_12, ↓p12_12, ↓g12_13, ↓p12_13, ↓g12_14, ↓p12_14, ↓g12_15, ↓p12_15, ↓g12_16, ↓p12_16, ↓g12_17, ↓g12_18, ↓p12_18, ↓g12_19, ↓p12_19, ↓g12_20, ↓g12_21, ↓g12_22, ↓p12_22, ↓g12_23, ↓g12_24, ↓g12_25, ↓g12_26, ↓g12_27, ↓p12_27, ↓g12_28, ↓p12_28, ↓g12_29, ↓p12_29, ↓g12_30, ↓g12_31, ↓g12_32, ↓g12_33, ↓g12_34, ↓g12_35, ↓p12_35, ↓g12_36, ↓p12_36, ↓g12_37, ↓p12_37, ↓g12_38, ↓p12_38, ↓g12_39, ↓p12_39, ↓g12_40, ↓p12_40, ↓g12_41, ↓p12_41, ↓g12_42, ↓g12_43, ↓g12_44, ↓g12_45, ↓p12_45, ↓g12_46, ↓g12_47, ↓g12_48, ↓g12_49, ↓p12_49, ↓g12_50, ↓p12_50, ↓g12_51, ↓g12_52, ↓p12_52, ↓g12_53, ↓g12_54, ↓g12_55, ↓pz12_18, ↓pz12_41, ↓al_17, ↓as_17, ↓al_172, ↓as_172, ↓al_185, ↓as_185, ↓al_186, ↓as_186, ↓al_187, ↓as_187, ↓al_188, ↓as_188, ↓al_189, ↓as_189, ↓al_190, ↓as_190, ↓al_191, ↓as_191, ↓al_199, ↓as_199, ↓al_200, ↓as_200, ↓al_202, ↓as_202, ↓al_203, ↓as_203, ↓al_204, ↓as_204, ↓al_206, ↓as_206, ↓al_207, ↓as_207, ↓al_208, ↓as_208, ↓al_218, ↓as_218, ↓al_219, ↓as_219, ↓al_220, ↓as_220, ↓al_221, ↓as_221, ↓al_222, ↓as_222, ↓al_223, ↓as_223, ↓al_224, ↓as_224, ↓al_225, ↓as_225, ↓al_226, ↓as_226, ↓al_227, ↓as_227, ↓al_228, ↓as_228, ↓al_229, ↓as_229, ↓al_230, ↓as_230, ↓al_231, ↓as_231, ↓al_232, ↓as_232, ↓al_233, ↓as_233, ↓al_234, ↓as_234, ↓al_235, ↓as_235, ↓al_236, ↓as_236, ↓al_237, ↓as_237, ↓al_238, ↓as_238, ↓al_239, ↓as_239, ↓al_240, ↓as_240, ↓al_241, ↓as_241, ↓al_242, ↓as_242, ↓al_243, ↓as_243, ↓al_244, ↓as_244, ↓al_245, ↓as_245, ↓PlS_l1, ↓PlS_s1, ↓PlS_l2, ↓PlS_s2, ↓PlS_l3, ↓PlS_s3, ↓PlS_l4, ↓PlS_s4, ↓PlS_l5, ↓PlS_s5, ↓SnS_l7, ↓SnS_s7, ↓SnS_l8, ↓SnS_s8, ↓SnS_l9, ↓SnS_s9, ↓SnS_l10, ↓SnS_s10, ↓SnS_l11, ↓SnS_s11, ↓LdS_l1, ↓LdS_s1, ↓TrS_l1, ↓TrS_s1, ↓b_idiv, ↓b_irem, ↓b_ldiv, ↓b_lrem, ↓reduceIte, decide_eq_true_eq, leT, leF, ltT, ltF, eqT, eqF, ne_eq, not_true_eq_false, not_false_eq_true, Bool.false_eq_true, jnk_mk, retZ_z, tI_zI, tJ_zJ]
theorem cc_27 {d : Nat} {E : EnQ} {F : Nat → Int → Int32} {G : Nat → Int → Int64} {k : Int → HeapP → ResP} {kx : Nat → HeapP → ResP} {p : Nat} {i : Int} (hs : shx E p = (1, 2, 0)) (hi : -2147483648 ≤ i ∧ i ≤ 2147483647) (hd : 1 ≤ d) : cT (callP MP d 27 [.ref p, .int (zI i)] (mk E F G)) k kx = k (if 0 ≤ i ∧ i < tI (F p 1) then 1 else 0) (mk E F G) := cT_ret (by apply ct_27 <;> assumption) (by split <;> omega)
end NO
