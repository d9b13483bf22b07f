/-! CLASS: plain -/
section S94zzzb
set_option linter.unusedVariables false
set_option linter.unusedSimpArgs false
theorem rdA_ne {h : HeapP} {a b ci k : Nat} {c : CellP} (hb : b ≠ a) : rdA (hset h a c) ci b k = rdA h ci b k := by
  unfold rdA rdV; rw [hset_ne hb]
theorem rdA_j {h : HeapP} {n s b ci k : Nat} : rdA (hjnk h n s) ci b k = rdA h ci b k := rfl
theorem ct_36r {d : Nat} {h : HeapP} {a : Nat} {x : Int} (hd : 1 ≤ d) : callP MP d 36 [.ref a, .ref 17, .int (zI x)] (hset h a (pO 3 fs_3)) = some (Sum.inl none, hset h a (pO 3 (rdL x))) := by
  refine into (D := 0) (by omega) hM_36 (rcv_raw hset_at (by decide)) rfl fun d hd => ?_
  show runP MP d 36 (0, [some (.ref a), some (.ref 17), some (.int (zI x))], [], hset h a (pO 3 fs_3)) = _
  rw [q_36_0]
  simp (disch := first | decide | (simp only [List.length_set]; decide)) only [wrr, Option.bind_some]
  rfl
theorem cl_plain_no {d : Nat} {E : EnQ} {F : Nat → Int → Int32} {G : Nat → Int → Int64} {t x : Int} (hT : TpR F t) (hx : -2147483648 ≤ x ∧ x ≤ 2147483647) (h : ¬ (0 ≤ x ∧ x ≤ t)) (hd : 8 ≤ d) : callP MP d 123 [.ref 16, .int (zI x)] (mk E F G) = some (Sum.inr 2, mk (jE E) F G) := by
  obtain ⟨h1, h6, -, -⟩ := hT
  have e1 : tI (F 16 1) = t := by rw [h6, tI_zI (by omega)]
  refine into (D := 7) (by omega) hM_123 (rcv_mk rfl (by decide)) rfl fun d hd => ?_
  show runP MP d 123 (0, [some (.ref 16), some (.int (zI x)), none, none], [], _) = _
  rw [q_123_0]
  (try simp only [↓n_rd, li_0])
  rw [g11_1, e1, cc_124f hx (by omega) (by omega) h (by omega)]
  rfl
/-- the heap when the reader is there -/
theorem q123 {d : Nat} {E : EnQ} {F : Nat → Int → Int32} {G : Nat → Int → Int64} {t x : Int} (hE : 247 ≤ E.1) (hT : TpR F t) (hx : 0 ≤ x ∧ x ≤ t) (hd : 8 ≤ d + 1) : runP MP d 123 (0, [some (.ref 16), some (.int (zI x)), none, none], [], mk E F G) = cR (callP MP d 37 [.ref E.1] (mk (rdE E) (uR F E.1 (rdW x)) G)) (fun h6 => ((wrV h6 11 16 1 (.int 0)).bind fun h8 => ((rdI h8 3 E.1 6).bind fun q9 => ((wrV h8 11 16 2 (.int q9)).bind fun h10 => ((rdI h10 3 E.1 7).bind fun q11 => ((wrV h10 11 16 3 (.int q11)).bind fun h12 => ((rdI h12 11 16 2).bind fun q13 => some (Sum.inl (some (.int ((-10) - q13))), h12)))))))) (fun q7 h6 => ((wrV h6 11 16 1 (.int 0)).bind fun h14 => ((rdI h14 3 E.1 6).bind fun q15 => ((wrV h14 11 16 2 (.int q15)).bind fun h16 => ((rdI h16 3 E.1 7).bind fun q17 => ((wrV h16 11 16 3 (.int q17)).bind fun h18 => ((rdA h18 11 16 4).bind fun q19 => (cV (callP MP d 67 [.ref q19, .ref q7] h18) (fun h20 => ((rdI h20 2 q7 0).bind fun q21 => some (Sum.inl (some (.int q21)), h20))) thruP)))))))) thruP := by
  obtain ⟨h1, h6, -, -⟩ := hT
  have e1 : tI (F 16 1) = t := by rw [h6, tI_zI (by omega)]
  have e2 : ∀ {f : Int32 → ResP}, (rdI (mk E F G) 11 16 1).bind f = f (zI t) := fun {f} => by
    have := g11_1 (α := OutP × HeapP) (E := E) (F := F) (G := G) (f := fun i => f (zI i))
    rw [n_rd, this, e1]
  have h17 : ∀ {f : Nat → ResP}, (rdA (hnew (mk E F G) 8 (pO 3 fs_3)) 11 16 0).bind f = f 17 := fun {f} => by
    rw [hnew_set, rdA_ne (show (16 : Nat) ≠ (mk E F G).1 by show 16 ≠ E.1; omega)]
    rw [rdA_j, g11_0]
  have h36 : ∀ {kk : HeapP → ResP} {kx : Nat → HeapP → ResP}, cV (callP MP d 36 [.ref (mk E F G).1, .ref 17, .int (zI x)] (hnew (mk E F G) 8 (pO 3 fs_3))) kk kx = kk (mk (rdE E) (uR F E.1 (rdW x)) G) := fun {kk kx} => by
    rw [hnew_set, cV_ret (ct_36r (by omega))]
    exact congrArg kk (rd_mk hE)
  rw [q_123_0, e2]
  have h124 := fun {kk : HeapP → ResP} {kx : Nat → HeapP → ResP} => cc_124t (d := d) (E := E) (F := F) (G := G) (kk := kk) (kx := kx) (x := x) (a := 0) (b := t) (by omega) (by omega) (by omega) hx (by omega)
  rw [show (Value.int 0) = Value.int (zI 0) from rfl, h124, Option.bind_some, h17, h36]
  simp only [mk_1]
end S94zzzb
