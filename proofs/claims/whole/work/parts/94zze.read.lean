/-! words of a plain -/
section S94zze
set_option linter.unusedVariables false
set_option linter.unusedSimpArgs false
theorem hM_8 : MP 8 = some (2, none, c_8_0) := rfl
def wbyt (k i : Nat) : Int := tI ((wrdByt.getD k []).getD i 0)
def wlen (k : Nat) : Nat := wrdLen.getD k 0
theorem wl_rg (k : Nat) : wlen k ≤ 6 := by
  by_cases h : k < 7
  · have : ∀ k, k < 7 → wlen k ≤ 6 := by decide
    exact this k h
  · have : wlen k = 0 := by
      unfold wlen; rw [List.getD_eq_getElem?_getD, List.getElem?_eq_none (by show 7 ≤ k; omega)]; rfl
    omega
theorem ct_8_0_0 {d : Nat} {h : HeapP} (hd : 1 ≤ d) : callP MP d 8 [.ref 8, .int 0] h = some (Sum.inl (some (.int 112)), h) := into (D := 0) hd hM_8 rfl rfl fun d _ => (run_blk hM_8 [] 12 d _).trans rfl
theorem ct_8_0_1 {d : Nat} {h : HeapP} (hd : 1 ≤ d) : callP MP d 8 [.ref 8, .int 1] h = some (Sum.inl (some (.int 108)), h) := into (D := 0) hd hM_8 rfl rfl fun d _ => (run_blk hM_8 [] 12 d _).trans rfl
theorem ct_8_0_2 {d : Nat} {h : HeapP} (hd : 1 ≤ d) : callP MP d 8 [.ref 8, .int 2] h = some (Sum.inl (some (.int 97)), h) := into (D := 0) hd hM_8 rfl rfl fun d _ => (run_blk hM_8 [] 12 d _).trans rfl
theorem ct_8_0_3 {d : Nat} {h : HeapP} (hd : 1 ≤ d) : callP MP d 8 [.ref 8, .int 3] h = some (Sum.inl (some (.int 99)), h) := into (D := 0) hd hM_8 rfl rfl fun d _ => (run_blk hM_8 [] 12 d _).trans rfl
theorem ct_8_0_4 {d : Nat} {h : HeapP} (hd : 1 ≤ d) : callP MP d 8 [.ref 8, .int 4] h = some (Sum.inl (some (.int 101)), h) := into (D := 0) hd hM_8 rfl rfl fun d _ => (run_blk hM_8 [] 12 d _).trans rfl
theorem ct_8_0_5 {d : Nat} {h : HeapP} (hd : 1 ≤ d) : callP MP d 8 [.ref 8, .int 5] h = some (Sum.inl (some (.int 115)), h) := into (D := 0) hd hM_8 rfl rfl fun d _ => (run_blk hM_8 [] 12 d _).trans rfl
theorem ct_8_1_0 {d : Nat} {h : HeapP} (hd : 1 ≤ d) : callP MP d 8 [.ref 9, .int 0] h = some (Sum.inl (some (.int 112)), h) := into (D := 0) hd hM_8 rfl rfl fun d _ => (run_blk hM_8 [] 12 d _).trans rfl
theorem ct_8_1_1 {d : Nat} {h : HeapP} (hd : 1 ≤ d) : callP MP d 8 [.ref 9, .int 1] h = some (Sum.inl (some (.int 97)), h) := into (D := 0) hd hM_8 rfl rfl fun d _ => (run_blk hM_8 [] 12 d _).trans rfl
theorem ct_8_1_2 {d : Nat} {h : HeapP} (hd : 1 ≤ d) : callP MP d 8 [.ref 9, .int 2] h = some (Sum.inl (some (.int 116)), h) := into (D := 0) hd hM_8 rfl rfl fun d _ => (run_blk hM_8 [] 12 d _).trans rfl
theorem ct_8_1_3 {d : Nat} {h : HeapP} (hd : 1 ≤ d) : callP MP d 8 [.ref 9, .int 3] h = some (Sum.inl (some (.int 104)), h) := into (D := 0) hd hM_8 rfl rfl fun d _ => (run_blk hM_8 [] 12 d _).trans rfl
theorem ct_8_2_0 {d : Nat} {h : HeapP} (hd : 1 ≤ d) : callP MP d 8 [.ref 10, .int 0] h = some (Sum.inl (some (.int 119)), h) := into (D := 0) hd hM_8 rfl rfl fun d _ => (run_blk hM_8 [] 12 d _).trans rfl
theorem ct_8_2_1 {d : Nat} {h : HeapP} (hd : 1 ≤ d) : callP MP d 8 [.ref 10, .int 1] h = some (Sum.inl (some (.int 97)), h) := into (D := 0) hd hM_8 rfl rfl fun d _ => (run_blk hM_8 [] 12 d _).trans rfl
theorem ct_8_2_2 {d : Nat} {h : HeapP} (hd : 1 ≤ d) : callP MP d 8 [.ref 10, .int 2] h = some (Sum.inl (some (.int 108)), h) := into (D := 0) hd hM_8 rfl rfl fun d _ => (run_blk hM_8 [] 12 d _).trans rfl
theorem ct_8_2_3 {d : Nat} {h : HeapP} (hd : 1 ≤ d) : callP MP d 8 [.ref 10, .int 3] h = some (Sum.inl (some (.int 107)), h) := into (D := 0) hd hM_8 rfl rfl fun d _ => (run_blk hM_8 [] 12 d _).trans rfl
theorem ct_8_2_4 {d : Nat} {h : HeapP} (hd : 1 ≤ d) : callP MP d 8 [.ref 10, .int 4] h = some (Sum.inl (some (.int 101)), h) := into (D := 0) hd hM_8 rfl rfl fun d _ => (run_blk hM_8 [] 12 d _).trans rfl
theorem ct_8_2_5 {d : Nat} {h : HeapP} (hd : 1 ≤ d) : callP MP d 8 [.ref 10, .int 5] h = some (Sum.inl (some (.int 114)), h) := into (D := 0) hd hM_8 rfl rfl fun d _ => (run_blk hM_8 [] 12 d _).trans rfl
theorem ct_8_3_0 {d : Nat} {h : HeapP} (hd : 1 ≤ d) : callP MP d 8 [.ref 11, .int 0] h = some (Sum.inl (some (.int 107)), h) := into (D := 0) hd hM_8 rfl rfl fun d _ => (run_blk hM_8 [] 12 d _).trans rfl
theorem ct_8_3_1 {d : Nat} {h : HeapP} (hd : 1 ≤ d) : callP MP d 8 [.ref 11, .int 1] h = some (Sum.inl (some (.int 101)), h) := into (D := 0) hd hM_8 rfl rfl fun d _ => (run_blk hM_8 [] 12 d _).trans rfl
theorem ct_8_3_2 {d : Nat} {h : HeapP} (hd : 1 ≤ d) : callP MP d 8 [.ref 11, .int 2] h = some (Sum.inl (some (.int 101)), h) := into (D := 0) hd hM_8 rfl rfl fun d _ => (run_blk hM_8 [] 12 d _).trans rfl
theorem ct_8_3_3 {d : Nat} {h : HeapP} (hd : 1 ≤ d) : callP MP d 8 [.ref 11, .int 3] h = some (Sum.inl (some (.int 112)), h) := into (D := 0) hd hM_8 rfl rfl fun d _ => (run_blk hM_8 [] 12 d _).trans rfl
theorem ct_8_4_0 {d : Nat} {h : HeapP} (hd : 1 ≤ d) : callP MP d 8 [.ref 12, .int 0] h = some (Sum.inl (some (.int 115)), h) := into (D := 0) hd hM_8 rfl rfl fun d _ => (run_blk hM_8 [] 12 d _).trans rfl
theorem ct_8_4_1 {d : Nat} {h : HeapP} (hd : 1 ≤ d) : callP MP d 8 [.ref 12, .int 1] h = some (Sum.inl (some (.int 116)), h) := into (D := 0) hd hM_8 rfl rfl fun d _ => (run_blk hM_8 [] 12 d _).trans rfl
theorem ct_8_4_2 {d : Nat} {h : HeapP} (hd : 1 ≤ d) : callP MP d 8 [.ref 12, .int 2] h = some (Sum.inl (some (.int 111)), h) := into (D := 0) hd hM_8 rfl rfl fun d _ => (run_blk hM_8 [] 12 d _).trans rfl
theorem ct_8_4_3 {d : Nat} {h : HeapP} (hd : 1 ≤ d) : callP MP d 8 [.ref 12, .int 3] h = some (Sum.inl (some (.int 114)), h) := into (D := 0) hd hM_8 rfl rfl fun d _ => (run_blk hM_8 [] 12 d _).trans rfl
theorem ct_8_4_4 {d : Nat} {h : HeapP} (hd : 1 ≤ d) : callP MP d 8 [.ref 12, .int 4] h = some (Sum.inl (some (.int 109)), h) := into (D := 0) hd hM_8 rfl rfl fun d _ => (run_blk hM_8 [] 12 d _).trans rfl
theorem ct_8_5_0 {d : Nat} {h : HeapP} (hd : 1 ≤ d) : callP MP d 8 [.ref 13, .int 0] h = some (Sum.inl (some (.int 119)), h) := into (D := 0) hd hM_8 rfl rfl fun d _ => (run_blk hM_8 [] 12 d _).trans rfl
theorem ct_8_5_1 {d : Nat} {h : HeapP} (hd : 1 ≤ d) : callP MP d 8 [.ref 13, .int 1] h = some (Sum.inl (some (.int 111)), h) := into (D := 0) hd hM_8 rfl rfl fun d _ => (run_blk hM_8 [] 12 d _).trans rfl
theorem ct_8_5_2 {d : Nat} {h : HeapP} (hd : 1 ≤ d) : callP MP d 8 [.ref 13, .int 2] h = some (Sum.inl (some (.int 108)), h) := into (D := 0) hd hM_8 rfl rfl fun d _ => (run_blk hM_8 [] 12 d _).trans rfl
theorem ct_8_5_3 {d : Nat} {h : HeapP} (hd : 1 ≤ d) : callP MP d 8 [.ref 13, .int 3] h = some (Sum.inl (some (.int 118)), h) := into (D := 0) hd hM_8 rfl rfl fun d _ => (run_blk hM_8 [] 12 d _).trans rfl
theorem ct_8_5_4 {d : Nat} {h : HeapP} (hd : 1 ≤ d) : callP MP d 8 [.ref 13, .int 4] h = some (Sum.inl (some (.int 101)), h) := into (D := 0) hd hM_8 rfl rfl fun d _ => (run_blk hM_8 [] 12 d _).trans rfl
theorem ct_8_5_5 {d : Nat} {h : HeapP} (hd : 1 ≤ d) : callP MP d 8 [.ref 13, .int 5] h = some (Sum.inl (some (.int 115)), h) := into (D := 0) hd hM_8 rfl rfl fun d _ => (run_blk hM_8 [] 12 d _).trans rfl
theorem ct_8_6_0 {d : Nat} {h : HeapP} (hd : 1 ≤ d) : callP MP d 8 [.ref 14, .int 0] h = some (Sum.inl (some (.int 98)), h) := into (D := 0) hd hM_8 rfl rfl fun d _ => (run_blk hM_8 [] 12 d _).trans rfl
theorem ct_8_6_1 {d : Nat} {h : HeapP} (hd : 1 ≤ d) : callP MP d 8 [.ref 14, .int 1] h = some (Sum.inl (some (.int 101)), h) := into (D := 0) hd hM_8 rfl rfl fun d _ => (run_blk hM_8 [] 12 d _).trans rfl
theorem ct_8_6_2 {d : Nat} {h : HeapP} (hd : 1 ≤ d) : callP MP d 8 [.ref 14, .int 2] h = some (Sum.inl (some (.int 97)), h) := into (D := 0) hd hM_8 rfl rfl fun d _ => (run_blk hM_8 [] 12 d _).trans rfl
theorem ct_8_6_3 {d : Nat} {h : HeapP} (hd : 1 ≤ d) : callP MP d 8 [.ref 14, .int 3] h = some (Sum.inl (some (.int 116)), h) := into (D := 0) hd hM_8 rfl rfl fun d _ => (run_blk hM_8 [] 12 d _).trans rfl
theorem ct_6_0 {d : Nat} {h : HeapP} (hd : 1 ≤ d) : callP MP d 6 [.ref 1] h = some (Sum.inl (some (.int 1)), h) := into (D := 0) hd hM_6 rfl rfl fun d _ => (run_blk hM_6 [] 12 d _).trans rfl
theorem ct_5_0 {d : Nat} {h : HeapP} (hd : 1 ≤ d) : callP MP d 5 [.ref 1] h = some (Sum.inl (some (.int 0)), h) := into (D := 0) hd hM_5 rfl rfl fun d _ => (run_blk hM_5 [] 12 d _).trans rfl
theorem ct_7_0 {d : Nat} {h : HeapP} (hd : 2 ≤ d) : callP MP d 7 [.ref 1] h = some (Sum.inl (some (.int 6)), h) := into (D := 1) hd hM_7 rfl rfl fun d hd => by
  show runP MP d 7 (0, [some (.ref 1)], [], h) = _
  rw [q_7_0, show strV 1 = some 8 from rfl, Option.bind_some, show strN 8 = some 6 from rfl, Option.bind_some, ct_5_0 hd]
  rfl
theorem ct_9_0_0 {d : Nat} {h : HeapP} (hd : 2 ≤ d) : callP MP d 9 [.ref 1, .int 0] h = some (Sum.inl (some (.int 112)), h) := into (D := 1) hd hM_9 rfl rfl fun d hd => by
  show runP MP d 9 (0, [some (.ref 1), some (.int 0)], [], h) = _
  rw [q_9_0, ct_6_0 hd]
  show ((strV 1).bind fun q4 => (cI (callP MP d 8 [.ref q4, .int 0] h) (fun q6 h5 => retC q6 h5) thruP)) = _
  rw [show strV 1 = some 8 from rfl, Option.bind_some, ct_8_0_0 hd]
  rfl
theorem ct_9_0_1 {d : Nat} {h : HeapP} (hd : 2 ≤ d) : callP MP d 9 [.ref 1, .int 1] h = some (Sum.inl (some (.int 108)), h) := into (D := 1) hd hM_9 rfl rfl fun d hd => by
  show runP MP d 9 (0, [some (.ref 1), some (.int 1)], [], h) = _
  rw [q_9_0, ct_6_0 hd]
  show ((strV 1).bind fun q4 => (cI (callP MP d 8 [.ref q4, .int 1] h) (fun q6 h5 => retC q6 h5) thruP)) = _
  rw [show strV 1 = some 8 from rfl, Option.bind_some, ct_8_0_1 hd]
  rfl
theorem ct_9_0_2 {d : Nat} {h : HeapP} (hd : 2 ≤ d) : callP MP d 9 [.ref 1, .int 2] h = some (Sum.inl (some (.int 97)), h) := into (D := 1) hd hM_9 rfl rfl fun d hd => by
  show runP MP d 9 (0, [some (.ref 1), some (.int 2)], [], h) = _
  rw [q_9_0, ct_6_0 hd]
  show ((strV 1).bind fun q4 => (cI (callP MP d 8 [.ref q4, .int 2] h) (fun q6 h5 => retC q6 h5) thruP)) = _
  rw [show strV 1 = some 8 from rfl, Option.bind_some, ct_8_0_2 hd]
  rfl
theorem ct_9_0_3 {d : Nat} {h : HeapP} (hd : 2 ≤ d) : callP MP d 9 [.ref 1, .int 3] h = some (Sum.inl (some (.int 99)), h) := into (D := 1) hd hM_9 rfl rfl fun d hd => by
  show runP MP d 9 (0, [some (.ref 1), some (.int 3)], [], h) = _
  rw [q_9_0, ct_6_0 hd]
  show ((strV 1).bind fun q4 => (cI (callP MP d 8 [.ref q4, .int 3] h) (fun q6 h5 => retC q6 h5) thruP)) = _
  rw [show strV 1 = some 8 from rfl, Option.bind_some, ct_8_0_3 hd]
  rfl
theorem ct_9_0_4 {d : Nat} {h : HeapP} (hd : 2 ≤ d) : callP MP d 9 [.ref 1, .int 4] h = some (Sum.inl (some (.int 101)), h) := into (D := 1) hd hM_9 rfl rfl fun d hd => by
  show runP MP d 9 (0, [some (.ref 1), some (.int 4)], [], h) = _
  rw [q_9_0, ct_6_0 hd]
  show ((strV 1).bind fun q4 => (cI (callP MP d 8 [.ref q4, .int 4] h) (fun q6 h5 => retC q6 h5) thruP)) = _
  rw [show strV 1 = some 8 from rfl, Option.bind_some, ct_8_0_4 hd]
  rfl
theorem ct_9_0_5 {d : Nat} {h : HeapP} (hd : 2 ≤ d) : callP MP d 9 [.ref 1, .int 5] h = some (Sum.inl (some (.int 115)), h) := into (D := 1) hd hM_9 rfl rfl fun d hd => by
  show runP MP d 9 (0, [some (.ref 1), some (.int 5)], [], h) = _
  rw [q_9_0, ct_6_0 hd]
  show ((strV 1).bind fun q4 => (cI (callP MP d 8 [.ref q4, .int 5] h) (fun q6 h5 => retC q6 h5) thruP)) = _
  rw [show strV 1 = some 8 from rfl, Option.bind_some, ct_8_0_5 hd]
  rfl
theorem ct_6_1 {d : Nat} {h : HeapP} (hd : 1 ≤ d) : callP MP d 6 [.ref 2] h = some (Sum.inl (some (.int 1)), h) := into (D := 0) hd hM_6 rfl rfl fun d _ => (run_blk hM_6 [] 12 d _).trans rfl
theorem ct_5_1 {d : Nat} {h : HeapP} (hd : 1 ≤ d) : callP MP d 5 [.ref 2] h = some (Sum.inl (some (.int 0)), h) := into (D := 0) hd hM_5 rfl rfl fun d _ => (run_blk hM_5 [] 12 d _).trans rfl
theorem ct_7_1 {d : Nat} {h : HeapP} (hd : 2 ≤ d) : callP MP d 7 [.ref 2] h = some (Sum.inl (some (.int 4)), h) := into (D := 1) hd hM_7 rfl rfl fun d hd => by
  show runP MP d 7 (0, [some (.ref 2)], [], h) = _
  rw [q_7_0, show strV 2 = some 9 from rfl, Option.bind_some, show strN 9 = some 4 from rfl, Option.bind_some, ct_5_1 hd]
  rfl
theorem ct_9_1_0 {d : Nat} {h : HeapP} (hd : 2 ≤ d) : callP MP d 9 [.ref 2, .int 0] h = some (Sum.inl (some (.int 112)), h) := into (D := 1) hd hM_9 rfl rfl fun d hd => by
  show runP MP d 9 (0, [some (.ref 2), some (.int 0)], [], h) = _
  rw [q_9_0, ct_6_1 hd]
  show ((strV 2).bind fun q4 => (cI (callP MP d 8 [.ref q4, .int 0] h) (fun q6 h5 => retC q6 h5) thruP)) = _
  rw [show strV 2 = some 9 from rfl, Option.bind_some, ct_8_1_0 hd]
  rfl
theorem ct_9_1_1 {d : Nat} {h : HeapP} (hd : 2 ≤ d) : callP MP d 9 [.ref 2, .int 1] h = some (Sum.inl (some (.int 97)), h) := into (D := 1) hd hM_9 rfl rfl fun d hd => by
  show runP MP d 9 (0, [some (.ref 2), some (.int 1)], [], h) = _
  rw [q_9_0, ct_6_1 hd]
  show ((strV 2).bind fun q4 => (cI (callP MP d 8 [.ref q4, .int 1] h) (fun q6 h5 => retC q6 h5) thruP)) = _
  rw [show strV 2 = some 9 from rfl, Option.bind_some, ct_8_1_1 hd]
  rfl
theorem ct_9_1_2 {d : Nat} {h : HeapP} (hd : 2 ≤ d) : callP MP d 9 [.ref 2, .int 2] h = some (Sum.inl (some (.int 116)), h) := into (D := 1) hd hM_9 rfl rfl fun d hd => by
  show runP MP d 9 (0, [some (.ref 2), some (.int 2)], [], h) = _
  rw [q_9_0, ct_6_1 hd]
  show ((strV 2).bind fun q4 => (cI (callP MP d 8 [.ref q4, .int 2] h) (fun q6 h5 => retC q6 h5) thruP)) = _
  rw [show strV 2 = some 9 from rfl, Option.bind_some, ct_8_1_2 hd]
  rfl
theorem ct_9_1_3 {d : Nat} {h : HeapP} (hd : 2 ≤ d) : callP MP d 9 [.ref 2, .int 3] h = some (Sum.inl (some (.int 104)), h) := into (D := 1) hd hM_9 rfl rfl fun d hd => by
  show runP MP d 9 (0, [some (.ref 2), some (.int 3)], [], h) = _
  rw [q_9_0, ct_6_1 hd]
  show ((strV 2).bind fun q4 => (cI (callP MP d 8 [.ref q4, .int 3] h) (fun q6 h5 => retC q6 h5) thruP)) = _
  rw [show strV 2 = some 9 from rfl, Option.bind_some, ct_8_1_3 hd]
  rfl
theorem ct_6_2 {d : Nat} {h : HeapP} (hd : 1 ≤ d) : callP MP d 6 [.ref 3] h = some (Sum.inl (some (.int 1)), h) := into (D := 0) hd hM_6 rfl rfl fun d _ => (run_blk hM_6 [] 12 d _).trans rfl
theorem ct_5_2 {d : Nat} {h : HeapP} (hd : 1 ≤ d) : callP MP d 5 [.ref 3] h = some (Sum.inl (some (.int 0)), h) := into (D := 0) hd hM_5 rfl rfl fun d _ => (run_blk hM_5 [] 12 d _).trans rfl
theorem ct_7_2 {d : Nat} {h : HeapP} (hd : 2 ≤ d) : callP MP d 7 [.ref 3] h = some (Sum.inl (some (.int 6)), h) := into (D := 1) hd hM_7 rfl rfl fun d hd => by
  show runP MP d 7 (0, [some (.ref 3)], [], h) = _
  rw [q_7_0, show strV 3 = some 10 from rfl, Option.bind_some, show strN 10 = some 6 from rfl, Option.bind_some, ct_5_2 hd]
  rfl
theorem ct_9_2_0 {d : Nat} {h : HeapP} (hd : 2 ≤ d) : callP MP d 9 [.ref 3, .int 0] h = some (Sum.inl (some (.int 119)), h) := into (D := 1) hd hM_9 rfl rfl fun d hd => by
  show runP MP d 9 (0, [some (.ref 3), some (.int 0)], [], h) = _
  rw [q_9_0, ct_6_2 hd]
  show ((strV 3).bind fun q4 => (cI (callP MP d 8 [.ref q4, .int 0] h) (fun q6 h5 => retC q6 h5) thruP)) = _
  rw [show strV 3 = some 10 from rfl, Option.bind_some, ct_8_2_0 hd]
  rfl
theorem ct_9_2_1 {d : Nat} {h : HeapP} (hd : 2 ≤ d) : callP MP d 9 [.ref 3, .int 1] h = some (Sum.inl (some (.int 97)), h) := into (D := 1) hd hM_9 rfl rfl fun d hd => by
  show runP MP d 9 (0, [some (.ref 3), some (.int 1)], [], h) = _
  rw [q_9_0, ct_6_2 hd]
  show ((strV 3).bind fun q4 => (cI (callP MP d 8 [.ref q4, .int 1] h) (fun q6 h5 => retC q6 h5) thruP)) = _
  rw [show strV 3 = some 10 from rfl, Option.bind_some, ct_8_2_1 hd]
  rfl
theorem ct_9_2_2 {d : Nat} {h : HeapP} (hd : 2 ≤ d) : callP MP d 9 [.ref 3, .int 2] h = some (Sum.inl (some (.int 108)), h) := into (D := 1) hd hM_9 rfl rfl fun d hd => by
  show runP MP d 9 (0, [some (.ref 3), some (.int 2)], [], h) = _
  rw [q_9_0, ct_6_2 hd]
  show ((strV 3).bind fun q4 => (cI (callP MP d 8 [.ref q4, .int 2] h) (fun q6 h5 => retC q6 h5) thruP)) = _
  rw [show strV 3 = some 10 from rfl, Option.bind_some, ct_8_2_2 hd]
  rfl
theorem ct_9_2_3 {d : Nat} {h : HeapP} (hd : 2 ≤ d) : callP MP d 9 [.ref 3, .int 3] h = some (Sum.inl (some (.int 107)), h) := into (D := 1) hd hM_9 rfl rfl fun d hd => by
  show runP MP d 9 (0, [some (.ref 3), some (.int 3)], [], h) = _
  rw [q_9_0, ct_6_2 hd]
  show ((strV 3).bind fun q4 => (cI (callP MP d 8 [.ref q4, .int 3] h) (fun q6 h5 => retC q6 h5) thruP)) = _
  rw [show strV 3 = some 10 from rfl, Option.bind_some, ct_8_2_3 hd]
  rfl
theorem ct_9_2_4 {d : Nat} {h : HeapP} (hd : 2 ≤ d) : callP MP d 9 [.ref 3, .int 4] h = some (Sum.inl (some (.int 101)), h) := into (D := 1) hd hM_9 rfl rfl fun d hd => by
  show runP MP d 9 (0, [some (.ref 3), some (.int 4)], [], h) = _
  rw [q_9_0, ct_6_2 hd]
  show ((strV 3).bind fun q4 => (cI (callP MP d 8 [.ref q4, .int 4] h) (fun q6 h5 => retC q6 h5) thruP)) = _
  rw [show strV 3 = some 10 from rfl, Option.bind_some, ct_8_2_4 hd]
  rfl
theorem ct_9_2_5 {d : Nat} {h : HeapP} (hd : 2 ≤ d) : callP MP d 9 [.ref 3, .int 5] h = some (Sum.inl (some (.int 114)), h) := into (D := 1) hd hM_9 rfl rfl fun d hd => by
  show runP MP d 9 (0, [some (.ref 3), some (.int 5)], [], h) = _
  rw [q_9_0, ct_6_2 hd]
  show ((strV 3).bind fun q4 => (cI (callP MP d 8 [.ref q4, .int 5] h) (fun q6 h5 => retC q6 h5) thruP)) = _
  rw [show strV 3 = some 10 from rfl, Option.bind_some, ct_8_2_5 hd]
  rfl
theorem ct_6_3 {d : Nat} {h : HeapP} (hd : 1 ≤ d) : callP MP d 6 [.ref 4] h = some (Sum.inl (some (.int 1)), h) := into (D := 0) hd hM_6 rfl rfl fun d _ => (run_blk hM_6 [] 12 d _).trans rfl
theorem ct_5_3 {d : Nat} {h : HeapP} (hd : 1 ≤ d) : callP MP d 5 [.ref 4] h = some (Sum.inl (some (.int 0)), h) := into (D := 0) hd hM_5 rfl rfl fun d _ => (run_blk hM_5 [] 12 d _).trans rfl
theorem ct_7_3 {d : Nat} {h : HeapP} (hd : 2 ≤ d) : callP MP d 7 [.ref 4] h = some (Sum.inl (some (.int 4)), h) := into (D := 1) hd hM_7 rfl rfl fun d hd => by
  show runP MP d 7 (0, [some (.ref 4)], [], h) = _
  rw [q_7_0, show strV 4 = some 11 from rfl, Option.bind_some, show strN 11 = some 4 from rfl, Option.bind_some, ct_5_3 hd]
  rfl
theorem ct_9_3_0 {d : Nat} {h : HeapP} (hd : 2 ≤ d) : callP MP d 9 [.ref 4, .int 0] h = some (Sum.inl (some (.int 107)), h) := into (D := 1) hd hM_9 rfl rfl fun d hd => by
  show runP MP d 9 (0, [some (.ref 4), some (.int 0)], [], h) = _
  rw [q_9_0, ct_6_3 hd]
  show ((strV 4).bind fun q4 => (cI (callP MP d 8 [.ref q4, .int 0] h) (fun q6 h5 => retC q6 h5) thruP)) = _
  rw [show strV 4 = some 11 from rfl, Option.bind_some, ct_8_3_0 hd]
  rfl
theorem ct_9_3_1 {d : Nat} {h : HeapP} (hd : 2 ≤ d) : callP MP d 9 [.ref 4, .int 1] h = some (Sum.inl (some (.int 101)), h) := into (D := 1) hd hM_9 rfl rfl fun d hd => by
  show runP MP d 9 (0, [some (.ref 4), some (.int 1)], [], h) = _
  rw [q_9_0, ct_6_3 hd]
  show ((strV 4).bind fun q4 => (cI (callP MP d 8 [.ref q4, .int 1] h) (fun q6 h5 => retC q6 h5) thruP)) = _
  rw [show strV 4 = some 11 from rfl, Option.bind_some, ct_8_3_1 hd]
  rfl
theorem ct_9_3_2 {d : Nat} {h : HeapP} (hd : 2 ≤ d) : callP MP d 9 [.ref 4, .int 2] h = some (Sum.inl (some (.int 101)), h) := into (D := 1) hd hM_9 rfl rfl fun d hd => by
  show runP MP d 9 (0, [some (.ref 4), some (.int 2)], [], h) = _
  rw [q_9_0, ct_6_3 hd]
  show ((strV 4).bind fun q4 => (cI (callP MP d 8 [.ref q4, .int 2] h) (fun q6 h5 => retC q6 h5) thruP)) = _
  rw [show strV 4 = some 11 from rfl, Option.bind_some, ct_8_3_2 hd]
  rfl
theorem ct_9_3_3 {d : Nat} {h : HeapP} (hd : 2 ≤ d) : callP MP d 9 [.ref 4, .int 3] h = some (Sum.inl (some (.int 112)), h) := into (D := 1) hd hM_9 rfl rfl fun d hd => by
  show runP MP d 9 (0, [some (.ref 4), some (.int 3)], [], h) = _
  rw [q_9_0, ct_6_3 hd]
  show ((strV 4).bind fun q4 => (cI (callP MP d 8 [.ref q4, .int 3] h) (fun q6 h5 => retC q6 h5) thruP)) = _
  rw [show strV 4 = some 11 from rfl, Option.bind_some, ct_8_3_3 hd]
  rfl
theorem ct_6_4 {d : Nat} {h : HeapP} (hd : 1 ≤ d) : callP MP d 6 [.ref 5] h = some (Sum.inl (some (.int 1)), h) := into (D := 0) hd hM_6 rfl rfl fun d _ => (run_blk hM_6 [] 12 d _).trans rfl
theorem ct_5_4 {d : Nat} {h : HeapP} (hd : 1 ≤ d) : callP MP d 5 [.ref 5] h = some (Sum.inl (some (.int 0)), h) := into (D := 0) hd hM_5 rfl rfl fun d _ => (run_blk hM_5 [] 12 d _).trans rfl
theorem ct_7_4 {d : Nat} {h : HeapP} (hd : 2 ≤ d) : callP MP d 7 [.ref 5] h = some (Sum.inl (some (.int 5)), h) := into (D := 1) hd hM_7 rfl rfl fun d hd => by
  show runP MP d 7 (0, [some (.ref 5)], [], h) = _
  rw [q_7_0, show strV 5 = some 12 from rfl, Option.bind_some, show strN 12 = some 5 from rfl, Option.bind_some, ct_5_4 hd]
  rfl
theorem ct_9_4_0 {d : Nat} {h : HeapP} (hd : 2 ≤ d) : callP MP d 9 [.ref 5, .int 0] h = some (Sum.inl (some (.int 115)), h) := into (D := 1) hd hM_9 rfl rfl fun d hd => by
  show runP MP d 9 (0, [some (.ref 5), some (.int 0)], [], h) = _
  rw [q_9_0, ct_6_4 hd]
  show ((strV 5).bind fun q4 => (cI (callP MP d 8 [.ref q4, .int 0] h) (fun q6 h5 => retC q6 h5) thruP)) = _
  rw [show strV 5 = some 12 from rfl, Option.bind_some, ct_8_4_0 hd]
  rfl
theorem ct_9_4_1 {d : Nat} {h : HeapP} (hd : 2 ≤ d) : callP MP d 9 [.ref 5, .int 1] h = some (Sum.inl (some (.int 116)), h) := into (D := 1) hd hM_9 rfl rfl fun d hd => by
  show runP MP d 9 (0, [some (.ref 5), some (.int 1)], [], h) = _
  rw [q_9_0, ct_6_4 hd]
  show ((strV 5).bind fun q4 => (cI (callP MP d 8 [.ref q4, .int 1] h) (fun q6 h5 => retC q6 h5) thruP)) = _
  rw [show strV 5 = some 12 from rfl, Option.bind_some, ct_8_4_1 hd]
  rfl
theorem ct_9_4_2 {d : Nat} {h : HeapP} (hd : 2 ≤ d) : callP MP d 9 [.ref 5, .int 2] h = some (Sum.inl (some (.int 111)), h) := into (D := 1) hd hM_9 rfl rfl fun d hd => by
  show runP MP d 9 (0, [some (.ref 5), some (.int 2)], [], h) = _
  rw [q_9_0, ct_6_4 hd]
  show ((strV 5).bind fun q4 => (cI (callP MP d 8 [.ref q4, .int 2] h) (fun q6 h5 => retC q6 h5) thruP)) = _
  rw [show strV 5 = some 12 from rfl, Option.bind_some, ct_8_4_2 hd]
  rfl
theorem ct_9_4_3 {d : Nat} {h : HeapP} (hd : 2 ≤ d) : callP MP d 9 [.ref 5, .int 3] h = some (Sum.inl (some (.int 114)), h) := into (D := 1) hd hM_9 rfl rfl fun d hd => by
  show runP MP d 9 (0, [some (.ref 5), some (.int 3)], [], h) = _
  rw [q_9_0, ct_6_4 hd]
  show ((strV 5).bind fun q4 => (cI (callP MP d 8 [.ref q4, .int 3] h) (fun q6 h5 => retC q6 h5) thruP)) = _
  rw [show strV 5 = some 12 from rfl, Option.bind_some, ct_8_4_3 hd]
  rfl
theorem ct_9_4_4 {d : Nat} {h : HeapP} (hd : 2 ≤ d) : callP MP d 9 [.ref 5, .int 4] h = some (Sum.inl (some (.int 109)), h) := into (D := 1) hd hM_9 rfl rfl fun d hd => by
  show runP MP d 9 (0, [some (.ref 5), some (.int 4)], [], h) = _
  rw [q_9_0, ct_6_4 hd]
  show ((strV 5).bind fun q4 => (cI (callP MP d 8 [.ref q4, .int 4] h) (fun q6 h5 => retC q6 h5) thruP)) = _
  rw [show strV 5 = some 12 from rfl, Option.bind_some, ct_8_4_4 hd]
  rfl
theorem ct_6_5 {d : Nat} {h : HeapP} (hd : 1 ≤ d) : callP MP d 6 [.ref 6] h = some (Sum.inl (some (.int 1)), h) := into (D := 0) hd hM_6 rfl rfl fun d _ => (run_blk hM_6 [] 12 d _).trans rfl
theorem ct_5_5 {d : Nat} {h : HeapP} (hd : 1 ≤ d) : callP MP d 5 [.ref 6] h = some (Sum.inl (some (.int 0)), h) := into (D := 0) hd hM_5 rfl rfl fun d _ => (run_blk hM_5 [] 12 d _).trans rfl
theorem ct_7_5 {d : Nat} {h : HeapP} (hd : 2 ≤ d) : callP MP d 7 [.ref 6] h = some (Sum.inl (some (.int 6)), h) := into (D := 1) hd hM_7 rfl rfl fun d hd => by
  show runP MP d 7 (0, [some (.ref 6)], [], h) = _
  rw [q_7_0, show strV 6 = some 13 from rfl, Option.bind_some, show strN 13 = some 6 from rfl, Option.bind_some, ct_5_5 hd]
  rfl
theorem ct_9_5_0 {d : Nat} {h : HeapP} (hd : 2 ≤ d) : callP MP d 9 [.ref 6, .int 0] h = some (Sum.inl (some (.int 119)), h) := into (D := 1) hd hM_9 rfl rfl fun d hd => by
  show runP MP d 9 (0, [some (.ref 6), some (.int 0)], [], h) = _
  rw [q_9_0, ct_6_5 hd]
  show ((strV 6).bind fun q4 => (cI (callP MP d 8 [.ref q4, .int 0] h) (fun q6 h5 => retC q6 h5) thruP)) = _
  rw [show strV 6 = some 13 from rfl, Option.bind_some, ct_8_5_0 hd]
  rfl
theorem ct_9_5_1 {d : Nat} {h : HeapP} (hd : 2 ≤ d) : callP MP d 9 [.ref 6, .int 1] h = some (Sum.inl (some (.int 111)), h) := into (D := 1) hd hM_9 rfl rfl fun d hd => by
  show runP MP d 9 (0, [some (.ref 6), some (.int 1)], [], h) = _
  rw [q_9_0, ct_6_5 hd]
  show ((strV 6).bind fun q4 => (cI (callP MP d 8 [.ref q4, .int 1] h) (fun q6 h5 => retC q6 h5) thruP)) = _
  rw [show strV 6 = some 13 from rfl, Option.bind_some, ct_8_5_1 hd]
  rfl
theorem ct_9_5_2 {d : Nat} {h : HeapP} (hd : 2 ≤ d) : callP MP d 9 [.ref 6, .int 2] h = some (Sum.inl (some (.int 108)), h) := into (D := 1) hd hM_9 rfl rfl fun d hd => by
  show runP MP d 9 (0, [some (.ref 6), some (.int 2)], [], h) = _
  rw [q_9_0, ct_6_5 hd]
  show ((strV 6).bind fun q4 => (cI (callP MP d 8 [.ref q4, .int 2] h) (fun q6 h5 => retC q6 h5) thruP)) = _
  rw [show strV 6 = some 13 from rfl, Option.bind_some, ct_8_5_2 hd]
  rfl
theorem ct_9_5_3 {d : Nat} {h : HeapP} (hd : 2 ≤ d) : callP MP d 9 [.ref 6, .int 3] h = some (Sum.inl (some (.int 118)), h) := into (D := 1) hd hM_9 rfl rfl fun d hd => by
  show runP MP d 9 (0, [some (.ref 6), some (.int 3)], [], h) = _
  rw [q_9_0, ct_6_5 hd]
  show ((strV 6).bind fun q4 => (cI (callP MP d 8 [.ref q4, .int 3] h) (fun q6 h5 => retC q6 h5) thruP)) = _
  rw [show strV 6 = some 13 from rfl, Option.bind_some, ct_8_5_3 hd]
  rfl
theorem ct_9_5_4 {d : Nat} {h : HeapP} (hd : 2 ≤ d) : callP MP d 9 [.ref 6, .int 4] h = some (Sum.inl (some (.int 101)), h) := into (D := 1) hd hM_9 rfl rfl fun d hd => by
  show runP MP d 9 (0, [some (.ref 6), some (.int 4)], [], h) = _
  rw [q_9_0, ct_6_5 hd]
  show ((strV 6).bind fun q4 => (cI (callP MP d 8 [.ref q4, .int 4] h) (fun q6 h5 => retC q6 h5) thruP)) = _
  rw [show strV 6 = some 13 from rfl, Option.bind_some, ct_8_5_4 hd]
  rfl
theorem ct_9_5_5 {d : Nat} {h : HeapP} (hd : 2 ≤ d) : callP MP d 9 [.ref 6, .int 5] h = some (Sum.inl (some (.int 115)), h) := into (D := 1) hd hM_9 rfl rfl fun d hd => by
  show runP MP d 9 (0, [some (.ref 6), some (.int 5)], [], h) = _
  rw [q_9_0, ct_6_5 hd]
  show ((strV 6).bind fun q4 => (cI (callP MP d 8 [.ref q4, .int 5] h) (fun q6 h5 => retC q6 h5) thruP)) = _
  rw [show strV 6 = some 13 from rfl, Option.bind_some, ct_8_5_5 hd]
  rfl
theorem ct_6_6 {d : Nat} {h : HeapP} (hd : 1 ≤ d) : callP MP d 6 [.ref 7] h = some (Sum.inl (some (.int 1)), h) := into (D := 0) hd hM_6 rfl rfl fun d _ => (run_blk hM_6 [] 12 d _).trans rfl
theorem ct_5_6 {d : Nat} {h : HeapP} (hd : 1 ≤ d) : callP MP d 5 [.ref 7] h = some (Sum.inl (some (.int 0)), h) := into (D := 0) hd hM_5 rfl rfl fun d _ => (run_blk hM_5 [] 12 d _).trans rfl
theorem ct_7_6 {d : Nat} {h : HeapP} (hd : 2 ≤ d) : callP MP d 7 [.ref 7] h = some (Sum.inl (some (.int 4)), h) := into (D := 1) hd hM_7 rfl rfl fun d hd => by
  show runP MP d 7 (0, [some (.ref 7)], [], h) = _
  rw [q_7_0, show strV 7 = some 14 from rfl, Option.bind_some, show strN 14 = some 4 from rfl, Option.bind_some, ct_5_6 hd]
  rfl
theorem ct_9_6_0 {d : Nat} {h : HeapP} (hd : 2 ≤ d) : callP MP d 9 [.ref 7, .int 0] h = some (Sum.inl (some (.int 98)), h) := into (D := 1) hd hM_9 rfl rfl fun d hd => by
  show runP MP d 9 (0, [some (.ref 7), some (.int 0)], [], h) = _
  rw [q_9_0, ct_6_6 hd]
  show ((strV 7).bind fun q4 => (cI (callP MP d 8 [.ref q4, .int 0] h) (fun q6 h5 => retC q6 h5) thruP)) = _
  rw [show strV 7 = some 14 from rfl, Option.bind_some, ct_8_6_0 hd]
  rfl
theorem ct_9_6_1 {d : Nat} {h : HeapP} (hd : 2 ≤ d) : callP MP d 9 [.ref 7, .int 1] h = some (Sum.inl (some (.int 101)), h) := into (D := 1) hd hM_9 rfl rfl fun d hd => by
  show runP MP d 9 (0, [some (.ref 7), some (.int 1)], [], h) = _
  rw [q_9_0, ct_6_6 hd]
  show ((strV 7).bind fun q4 => (cI (callP MP d 8 [.ref q4, .int 1] h) (fun q6 h5 => retC q6 h5) thruP)) = _
  rw [show strV 7 = some 14 from rfl, Option.bind_some, ct_8_6_1 hd]
  rfl
theorem ct_9_6_2 {d : Nat} {h : HeapP} (hd : 2 ≤ d) : callP MP d 9 [.ref 7, .int 2] h = some (Sum.inl (some (.int 97)), h) := into (D := 1) hd hM_9 rfl rfl fun d hd => by
  show runP MP d 9 (0, [some (.ref 7), some (.int 2)], [], h) = _
  rw [q_9_0, ct_6_6 hd]
  show ((strV 7).bind fun q4 => (cI (callP MP d 8 [.ref q4, .int 2] h) (fun q6 h5 => retC q6 h5) thruP)) = _
  rw [show strV 7 = some 14 from rfl, Option.bind_some, ct_8_6_2 hd]
  rfl
theorem ct_9_6_3 {d : Nat} {h : HeapP} (hd : 2 ≤ d) : callP MP d 9 [.ref 7, .int 3] h = some (Sum.inl (some (.int 116)), h) := into (D := 1) hd hM_9 rfl rfl fun d hd => by
  show runP MP d 9 (0, [some (.ref 7), some (.int 3)], [], h) = _
  rw [q_9_0, ct_6_6 hd]
  show ((strV 7).bind fun q4 => (cI (callP MP d 8 [.ref q4, .int 3] h) (fun q6 h5 => retC q6 h5) thruP)) = _
  rw [show strV 7 = some 14 from rfl, Option.bind_some, ct_8_6_3 hd]
  rfl
theorem ct_7 {d : Nat} {h : HeapP} {k : Nat} (hk : k < 7) (hd : 2 ≤ d) : callP MP d 7 [.ref (1 + k)] h = some (Sum.inl (some (.int (zI (wlen k : Nat)))), h) := by
  rcases (show k = 0 ∨ k = 1 ∨ k = 2 ∨ k = 3 ∨ k = 4 ∨ k = 5 ∨ k = 6 by omega) with rfl | rfl | rfl | rfl | rfl | rfl | rfl
  · exact ct_7_0 hd
  · exact ct_7_1 hd
  · exact ct_7_2 hd
  · exact ct_7_3 hd
  · exact ct_7_4 hd
  · exact ct_7_5 hd
  · exact ct_7_6 hd
theorem ct_9 {d : Nat} {h : HeapP} {k i : Nat} (hk : k < 7) (hi : i < wlen k) (hd : 2 ≤ d) : callP MP d 9 [.ref (1 + k), .int (zI (i : Nat))] h = some (Sum.inl (some (.int (zI (wbyt k i)))), h) := by
  rcases (show k = 0 ∨ k = 1 ∨ k = 2 ∨ k = 3 ∨ k = 4 ∨ k = 5 ∨ k = 6 by omega) with rfl | rfl | rfl | rfl | rfl | rfl | rfl
  · replace hi : i < 6 := hi
    rcases (show i = 0 ∨ i = 1 ∨ i = 2 ∨ i = 3 ∨ i = 4 ∨ i = 5 by omega) with rfl | rfl | rfl | rfl | rfl | rfl
    · exact ct_9_0_0 hd
    · exact ct_9_0_1 hd
    · exact ct_9_0_2 hd
    · exact ct_9_0_3 hd
    · exact ct_9_0_4 hd
    · exact ct_9_0_5 hd
  · replace hi : i < 4 := hi
    rcases (show i = 0 ∨ i = 1 ∨ i = 2 ∨ i = 3 by omega) with rfl | rfl | rfl | rfl
    · exact ct_9_1_0 hd
    · exact ct_9_1_1 hd
    · exact ct_9_1_2 hd
    · exact ct_9_1_3 hd
  · replace hi : i < 6 := hi
    rcases (show i = 0 ∨ i = 1 ∨ i = 2 ∨ i = 3 ∨ i = 4 ∨ i = 5 by omega) with rfl | rfl | rfl | rfl | rfl | rfl
    · exact ct_9_2_0 hd
    · exact ct_9_2_1 hd
    · exact ct_9_2_2 hd
    · exact ct_9_2_3 hd
    · exact ct_9_2_4 hd
    · exact ct_9_2_5 hd
  · replace hi : i < 4 := hi
    rcases (show i = 0 ∨ i = 1 ∨ i = 2 ∨ i = 3 by omega) with rfl | rfl | rfl | rfl
    · exact ct_9_3_0 hd
    · exact ct_9_3_1 hd
    · exact ct_9_3_2 hd
    · exact ct_9_3_3 hd
  · replace hi : i < 5 := hi
    rcases (show i = 0 ∨ i = 1 ∨ i = 2 ∨ i = 3 ∨ i = 4 by omega) with rfl | rfl | rfl | rfl | rfl
    · exact ct_9_4_0 hd
    · exact ct_9_4_1 hd
    · exact ct_9_4_2 hd
    · exact ct_9_4_3 hd
    · exact ct_9_4_4 hd
  · replace hi : i < 6 := hi
    rcases (show i = 0 ∨ i = 1 ∨ i = 2 ∨ i = 3 ∨ i = 4 ∨ i = 5 by omega) with rfl | rfl | rfl | rfl | rfl | rfl
    · exact ct_9_5_0 hd
    · exact ct_9_5_1 hd
    · exact ct_9_5_2 hd
    · exact ct_9_5_3 hd
    · exact ct_9_5_4 hd
    · exact ct_9_5_5 hd
  · replace hi : i < 4 := hi
    rcases (show i = 0 ∨ i = 1 ∨ i = 2 ∨ i = 3 by omega) with rfl | rfl | rfl | rfl
    · exact ct_9_6_0 hd
    · exact ct_9_6_1 hd
    · exact ct_9_6_2 hd
    · exact ct_9_6_3 hd
theorem cc_7 {d : Nat} {h : HeapP} {kk : Int → HeapP → ResP} {kx : Nat → HeapP → ResP} {k : Nat} (hk : k < 7) (hd : 2 ≤ d) : cT (callP MP d 7 [.ref (1 + k)] h) kk kx = kk (wlen k : Nat) h := cT_ret (ct_7 hk hd) (by have := wl_rg k; omega)
theorem wb_rg (k i : Nat) : 0 ≤ wbyt k i ∧ wbyt k i < 128 := by
  by_cases h : k < 7 ∧ i < 6
  · have : ∀ k, k < 7 → ∀ i, i < 6 → 0 ≤ wbyt k i ∧ wbyt k i < 128 := by decide
    exact this k h.1 i h.2
  · have : wbyt k i = 0 := by
      have h0 : ∀ k, k < 7 → (wrdByt.getD k []).length ≤ 6 := by decide
      unfold wbyt
      by_cases g : k < 7
      · have := h0 k g
        rw [List.getD_eq_getElem?_getD (l := wrdByt.getD k []), List.getElem?_eq_none (by omega)]; rfl
      · rw [List.getD_eq_getElem?_getD (l := wrdByt), List.getElem?_eq_none (by show 7 ≤ k; omega)]; rfl
    omega
theorem cc_9 {d : Nat} {h : HeapP} {kk : Int → HeapP → ResP} {kx : Nat → HeapP → ResP} {k i : Nat} (hk : k < 7) (hi : i < wlen k) (hd : 2 ≤ d) : cT (callP MP d 9 [.ref (1 + k), .int (zI (i : Nat))] h) kk kx = kk (wbyt k i) h := cT_ret (ct_9 hk hi hd) (by have := wb_rg k i; omega)
end S94zze
