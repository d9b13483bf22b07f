/-! START: class and model are there -/
section S94zzzzzr
set_option linter.unusedVariables false
set_option linter.unusedSimpArgs false
theorem b_112 {d s : Nat} {h : HeapP} (hh : h.1 = 16) (hd : 4 ≤ d) : runP MP d 112 (0, [some (.ref 16), none], [], hset (grw h 17 s) 16 (pO 11 fs_11)) = runP MP d 112 (182, [some (.ref 16), some (.int 0)], [], grw h 209 (s + 72255)) := by
  refine q_112_0.trans ?_
  refine st_b.trans ?_
  refine (st_I 600 18 (s + 600) (by omega) (by decide) (by decide) (by decide) rfl (by omega) rfl).trans ?_
  refine (st_w [.ref 17, .int 0, .int 0, .int 0, .null, .null, .null, .null, .null, .null, .null, .null, .null, .null, .null, .null, .null, .null, .int 0, .int 0] (.ref 17) rfl (by decide) rfl).trans ?_
  refine (st_w [.ref 17, .int 0, .int 0, .int 0, .null, .null, .null, .null, .null, .null, .null, .null, .null, .null, .null, .null, .null, .null, .int 0, .int 0] (.int 0) rfl (by decide) rfl).trans ?_
  refine (st_w [.ref 17, .int 0, .int 0, .int 0, .null, .null, .null, .null, .null, .null, .null, .null, .null, .null, .null, .null, .null, .null, .int 0, .int 0] (.int 0) rfl (by decide) rfl).trans ?_
  refine (st_w [.ref 17, .int 0, .int 0, .int (-1), .null, .null, .null, .null, .null, .null, .null, .null, .null, .null, .null, .null, .null, .null, .int 0, .int 0] (.int (-1)) rfl (by decide) rfl).trans ?_
  refine st_b.trans ?_
  refine (st_C K_59_18 (by omega) (s + 1005) (by omega) (by decide) (by decide) (by omega) rfl).trans ?_
  refine (st_w [.ref 17, .int 0, .int 0, .int (-1), .ref 18, .null, .null, .null, .null, .null, .null, .null, .null, .null, .null, .null, .null, .null, .int 0, .int 0] (.ref 18) rfl (by decide) rfl).trans ?_
  refine st_b.trans ?_
  refine (st_C K_59_30 (by omega) (s + 1410) (by omega) (by decide) (by decide) (by omega) rfl).trans ?_
  refine (st_w [.ref 17, .int 0, .int 0, .int (-1), .ref 18, .ref 30, .null, .null, .null, .null, .null, .null, .null, .null, .null, .null, .null, .null, .int 0, .int 0] (.ref 30) rfl (by decide) rfl).trans ?_
  refine (st_R 3 43 (s + 1413) (by omega) (by decide) (by decide) (by decide) rfl (by omega) rfl).trans ?_
  refine (st_w [.ref 17, .int 0, .int 0, .int (-1), .ref 18, .ref 30, .ref 42, .null, .null, .null, .null, .null, .null, .null, .null, .null, .null, .null, .int 0, .int 0] (.ref 42) rfl (by decide) rfl).trans ?_
  refine (st_R 4 44 (s + 1417) (by omega) (by decide) (by decide) (by decide) rfl (by omega) rfl).trans ?_
  refine (st_w [.ref 17, .int 0, .int 0, .int (-1), .ref 18, .ref 30, .ref 42, .ref 43, .null, .null, .null, .null, .null, .null, .null, .null, .null, .null, .int 0, .int 0] (.ref 43) rfl (by decide) rfl).trans ?_
  refine st_b.trans ?_
  refine (st_C K_15_44 (by omega) (s + 1428) (by omega) (by decide) (by decide) (by omega) rfl).trans ?_
  refine (st_w [.ref 17, .int 0, .int 0, .int (-1), .ref 18, .ref 30, .ref 42, .ref 43, .ref 44, .null, .null, .null, .null, .null, .null, .null, .null, .null, .int 0, .int 0] (.ref 44) rfl (by decide) rfl).trans ?_
  refine st_b.trans ?_
  refine (st_C K_15_46 (by omega) (s + 1439) (by omega) (by decide) (by decide) (by omega) rfl).trans ?_
  refine (st_w [.ref 17, .int 0, .int 0, .int (-1), .ref 18, .ref 30, .ref 42, .ref 43, .ref 44, .ref 46, .null, .null, .null, .null, .null, .null, .null, .null, .int 0, .int 0] (.ref 46) rfl (by decide) rfl).trans ?_
  refine st_b.trans ?_
  refine (st_C K_99_48 (by omega) (s + 10033) (by omega) (by decide) (by decide) (by omega) rfl).trans ?_
  refine (st_w [.ref 17, .int 0, .int 0, .int (-1), .ref 18, .ref 30, .ref 42, .ref 43, .ref 44, .ref 46, .ref 48, .null, .null, .null, .null, .null, .null, .null, .int 0, .int 0] (.ref 48) rfl (by decide) rfl).trans ?_
  refine st_b.trans ?_
  refine (st_C K_10_171 (by omega) (s + 10283) (by omega) (by decide) (by decide) (by omega) rfl).trans ?_
  refine (st_w [.ref 17, .int 0, .int 0, .int (-1), .ref 18, .ref 30, .ref 42, .ref 43, .ref 44, .ref 46, .ref 48, .ref 171, .null, .null, .null, .null, .null, .null, .int 0, .int 0] (.ref 171) rfl (by decide) rfl).trans ?_
  refine st_b.trans ?_
  refine (st_C K_81_178 (by omega) (s + 59686) (by omega) (by decide) (by decide) (by omega) rfl).trans ?_
  refine (st_w [.ref 17, .int 0, .int 0, .int (-1), .ref 18, .ref 30, .ref 42, .ref 43, .ref 44, .ref 46, .ref 48, .ref 171, .ref 178, .null, .null, .null, .null, .null, .int 0, .int 0] (.ref 178) rfl (by decide) rfl).trans ?_
  refine st_b.trans ?_
  refine (st_C K_106_192 (by omega) (s + 59890) (by omega) (by decide) (by decide) (by omega) rfl).trans ?_
  refine (st_w [.ref 17, .int 0, .int 0, .int (-1), .ref 18, .ref 30, .ref 42, .ref 43, .ref 44, .ref 46, .ref 48, .ref 171, .ref 178, .ref 192, .null, .null, .null, .null, .int 0, .int 0] (.ref 192) rfl (by decide) rfl).trans ?_
  refine st_b.trans ?_
  refine (st_C K_54_201 (by omega) (s + 68119) (by omega) (by decide) (by decide) (by omega) rfl).trans ?_
  refine (st_w [.ref 17, .int 0, .int 0, .int (-1), .ref 18, .ref 30, .ref 42, .ref 43, .ref 44, .ref 46, .ref 48, .ref 171, .ref 178, .ref 192, .ref 201, .null, .null, .null, .int 0, .int 0] (.ref 201) rfl (by decide) rfl).trans ?_
  refine st_b.trans ?_
  refine (st_C K_103_205 (by omega) (s + 72217) (by omega) (by decide) (by decide) (by omega) rfl).trans ?_
  refine (st_w [.ref 17, .int 0, .int 0, .int (-1), .ref 18, .ref 30, .ref 42, .ref 43, .ref 44, .ref 46, .ref 48, .ref 171, .ref 178, .ref 192, .ref 201, .ref 205, .null, .null, .int 0, .int 0] (.ref 205) rfl (by decide) rfl).trans ?_
  refine (st_I 32 208 (s + 72249) (by omega) (by decide) (by decide) (by decide) rfl (by omega) rfl).trans ?_
  refine (st_w [.ref 17, .int 0, .int 0, .int (-1), .ref 18, .ref 30, .ref 42, .ref 43, .ref 44, .ref 46, .ref 48, .ref 171, .ref 178, .ref 192, .ref 201, .ref 205, .ref 207, .null, .int 0, .int 0] (.ref 207) rfl (by decide) rfl).trans ?_
  refine (st_I 6 209 (s + 72255) (by omega) (by decide) (by decide) (by decide) rfl (by omega) rfl).trans ?_
  refine (st_w [.ref 17, .int 0, .int 0, .int (-1), .ref 18, .ref 30, .ref 42, .ref 43, .ref 44, .ref 46, .ref 48, .ref 171, .ref 178, .ref 192, .ref 201, .ref 205, .ref 207, .ref 208, .int 0, .int 0] (.ref 208) rfl (by decide) rfl).trans ?_
  refine (st_w [.ref 17, .int 0, .int 0, .int (-1), .ref 18, .ref 30, .ref 42, .ref 43, .ref 44, .ref 46, .ref 48, .ref 171, .ref 178, .ref 192, .ref 201, .ref 205, .ref 207, .ref 208, .int 0, .int 0] (.int 0) rfl (by decide) rfl).trans ?_
  refine (st_w [.ref 17, .int 0, .int 0, .int (-1), .ref 18, .ref 30, .ref 42, .ref 43, .ref 44, .ref 46, .ref 48, .ref 171, .ref 178, .ref 192, .ref 201, .ref 205, .ref 207, .ref 208, .int 0, .int 0] (.int 0) rfl (by decide) rfl).trans ?_
  show runP MP d 112 (182, [some (.ref 16), some (.int 0)], [], hset (grw h 209 (s + 72255)) 16 (pO 11 [.ref 17, .int 0, .int 0, .int (-1), .ref 18, .ref 30, .ref 42, .ref 43, .ref 44, .ref 46, .ref 48, .ref 171, .ref 178, .ref 192, .ref 201, .ref 205, .ref 207, .ref 208, .int 0, .int 0])) = _
  rw [grw_fin (by omega) (show cF 16 = some (pO 11 [.ref 17, .int 0, .int 0, .int (-1), .ref 18, .ref 30, .ref 42, .ref 43, .ref 44, .ref 46, .ref 48, .ref 171, .ref 178, .ref 192, .ref 201, .ref 205, .ref 207, .ref 208, .int 0, .int 0]) from rfl)]
def t43 (j : Nat) : Nat → Option Nat := fun i => if i < j then some (209 + 2 * i) else none
theorem t43_s {j : Nat} : upR (t43 j) j (some (209 + 2 * j)) = t43 (j + 1) := by
  funext i
  unfold upR t43
  by_cases e : i = j
  · rw [if_pos e, if_pos (by omega), e]
  · rw [if_neg e]
    by_cases g : i < j
    · rw [if_pos g, if_pos (by omega)]
    · rw [if_neg g, if_neg (by omega)]
theorem t43_0 : t43 0 = fun _ => none := by
  funext i; exact if_neg (by omega)
theorem cF_43 : cF 43 = some (pR 5 4 (fun _ => none)) := rfl
theorem b_182_0 {d s : Nat} {h : HeapP} (hh : h.1 = 16) (hd : 2 ≤ d) : runP MP d 112 (182, [some (.ref 16), some (.int (zI 0))], [], hset (grw h 209 s) 43 (pR 5 4 (t43 0))) = runP MP d 112 (182, [some (.ref 16), some (.int (zI 1))], [], hset (grw h 211 (s + 33)) 43 (pR 5 4 (t43 1))) := by
  rw [q_112_182, if_neg (by decide)]
  have h7 : ∀ {f : Nat → ResP}, (rdA (hset (grw h 209 s) 43 (pR 5 4 (t43 0))) 11 16 7).bind f = f 43 := fun {f} => by
    have hc : (hset (grw h 209 s) 43 (pR 5 4 (t43 0))).2.2 16 = some (pO 11 [.ref 17, .int 0, .int 0, .int (-1), .ref 18, .ref 30, .ref 42, .ref 43, .ref 44, .ref 46, .ref 48, .ref 171, .ref 178, .ref 192, .ref 201, .ref 205, .ref 207, .ref 208, .int 0, .int 0]) := by
      rw [hset_ne (by decide)]
      show (if h.1 ≤ 16 ∧ 16 < 209 then cF 16 else h.2.2 16) = _
      rw [if_pos (by omega)]; rfl
    unfold rdA rdV
    rw [hc]; rfl
  refine h7.trans ?_
  refine st_b.trans ?_
  refine (st_C K_93_209 (by omega) (s + 33) (by omega) (by decide) (by decide) rfl rfl).trans ?_
  have hA : ∀ {f : HeapP → ResP}, (astR (hset (grw h 211 (s + 33)) 43 (pR 5 4 (t43 0))) 5 7 43 (zI 0) 209).bind f = f (hset (grw h 211 (s + 33)) 43 (pR 5 4 (t43 1))) := fun {f} => by
    have h1 : (hset (grw h 211 (s + 33)) 43 (pR 5 4 (t43 0))).2.2 43 = some (pR 5 4 (t43 0)) := hset_at
    have h2 : (hset (grw h 211 (s + 33)) 43 (pR 5 4 (t43 0))).2.2 209 = some (pO 7 [.int (-1), .int 0, .ref 210]) := by
      rw [hset_ne (by decide)]
      show (if h.1 ≤ 209 ∧ 209 < 211 then cF 209 else h.2.2 209) = _
      rw [if_pos (by omega)]; rfl
    unfold astR
    rw [h1, h2]
    show (if 5 = 5 ∧ inb (zI 0) 4 = true ∧ 7 = 7 then some (hset (hset (grw h 211 (s + 33)) 43 (pR 5 4 (t43 0))) 43 (pR 5 4 (upR (t43 0) (zI 0).toNatClampNeg (some 209)))) else none).bind f = _
    rw [if_pos (by decide), hset_hset]
    exact congrArg (fun z => f (hset (grw h 211 (s + 33)) 43 (pR 5 4 z))) (t43_s (j := 0))
  refine hA.trans ?_
  rw [show (zI 0 + 1 : Int32) = zI 1 from by rw [li_1, zI_add]; rfl]
theorem b_182_1 {d s : Nat} {h : HeapP} (hh : h.1 = 16) (hd : 2 ≤ d) : runP MP d 112 (182, [some (.ref 16), some (.int (zI 1))], [], hset (grw h 211 s) 43 (pR 5 4 (t43 1))) = runP MP d 112 (182, [some (.ref 16), some (.int (zI 2))], [], hset (grw h 213 (s + 33)) 43 (pR 5 4 (t43 2))) := by
  rw [q_112_182, if_neg (by decide)]
  have h7 : ∀ {f : Nat → ResP}, (rdA (hset (grw h 211 s) 43 (pR 5 4 (t43 1))) 11 16 7).bind f = f 43 := fun {f} => by
    have hc : (hset (grw h 211 s) 43 (pR 5 4 (t43 1))).2.2 16 = some (pO 11 [.ref 17, .int 0, .int 0, .int (-1), .ref 18, .ref 30, .ref 42, .ref 43, .ref 44, .ref 46, .ref 48, .ref 171, .ref 178, .ref 192, .ref 201, .ref 205, .ref 207, .ref 208, .int 0, .int 0]) := by
      rw [hset_ne (by decide)]
      show (if h.1 ≤ 16 ∧ 16 < 211 then cF 16 else h.2.2 16) = _
      rw [if_pos (by omega)]; rfl
    unfold rdA rdV
    rw [hc]; rfl
  refine h7.trans ?_
  refine st_b.trans ?_
  refine (st_C K_93_211 (by omega) (s + 33) (by omega) (by decide) (by decide) rfl rfl).trans ?_
  have hA : ∀ {f : HeapP → ResP}, (astR (hset (grw h 213 (s + 33)) 43 (pR 5 4 (t43 1))) 5 7 43 (zI 1) 211).bind f = f (hset (grw h 213 (s + 33)) 43 (pR 5 4 (t43 2))) := fun {f} => by
    have h1 : (hset (grw h 213 (s + 33)) 43 (pR 5 4 (t43 1))).2.2 43 = some (pR 5 4 (t43 1)) := hset_at
    have h2 : (hset (grw h 213 (s + 33)) 43 (pR 5 4 (t43 1))).2.2 211 = some (pO 7 [.int (-1), .int 0, .ref 212]) := by
      rw [hset_ne (by decide)]
      show (if h.1 ≤ 211 ∧ 211 < 213 then cF 211 else h.2.2 211) = _
      rw [if_pos (by omega)]; rfl
    unfold astR
    rw [h1, h2]
    show (if 5 = 5 ∧ inb (zI 1) 4 = true ∧ 7 = 7 then some (hset (hset (grw h 213 (s + 33)) 43 (pR 5 4 (t43 1))) 43 (pR 5 4 (upR (t43 1) (zI 1).toNatClampNeg (some 211)))) else none).bind f = _
    rw [if_pos (by decide), hset_hset]
    exact congrArg (fun z => f (hset (grw h 213 (s + 33)) 43 (pR 5 4 z))) (t43_s (j := 1))
  refine hA.trans ?_
  rw [show (zI 1 + 1 : Int32) = zI 2 from by rw [li_1, zI_add]; rfl]
theorem b_182_2 {d s : Nat} {h : HeapP} (hh : h.1 = 16) (hd : 2 ≤ d) : runP MP d 112 (182, [some (.ref 16), some (.int (zI 2))], [], hset (grw h 213 s) 43 (pR 5 4 (t43 2))) = runP MP d 112 (182, [some (.ref 16), some (.int (zI 3))], [], hset (grw h 215 (s + 33)) 43 (pR 5 4 (t43 3))) := by
  rw [q_112_182, if_neg (by decide)]
  have h7 : ∀ {f : Nat → ResP}, (rdA (hset (grw h 213 s) 43 (pR 5 4 (t43 2))) 11 16 7).bind f = f 43 := fun {f} => by
    have hc : (hset (grw h 213 s) 43 (pR 5 4 (t43 2))).2.2 16 = some (pO 11 [.ref 17, .int 0, .int 0, .int (-1), .ref 18, .ref 30, .ref 42, .ref 43, .ref 44, .ref 46, .ref 48, .ref 171, .ref 178, .ref 192, .ref 201, .ref 205, .ref 207, .ref 208, .int 0, .int 0]) := by
      rw [hset_ne (by decide)]
      show (if h.1 ≤ 16 ∧ 16 < 213 then cF 16 else h.2.2 16) = _
      rw [if_pos (by omega)]; rfl
    unfold rdA rdV
    rw [hc]; rfl
  refine h7.trans ?_
  refine st_b.trans ?_
  refine (st_C K_93_213 (by omega) (s + 33) (by omega) (by decide) (by decide) rfl rfl).trans ?_
  have hA : ∀ {f : HeapP → ResP}, (astR (hset (grw h 215 (s + 33)) 43 (pR 5 4 (t43 2))) 5 7 43 (zI 2) 213).bind f = f (hset (grw h 215 (s + 33)) 43 (pR 5 4 (t43 3))) := fun {f} => by
    have h1 : (hset (grw h 215 (s + 33)) 43 (pR 5 4 (t43 2))).2.2 43 = some (pR 5 4 (t43 2)) := hset_at
    have h2 : (hset (grw h 215 (s + 33)) 43 (pR 5 4 (t43 2))).2.2 213 = some (pO 7 [.int (-1), .int 0, .ref 214]) := by
      rw [hset_ne (by decide)]
      show (if h.1 ≤ 213 ∧ 213 < 215 then cF 213 else h.2.2 213) = _
      rw [if_pos (by omega)]; rfl
    unfold astR
    rw [h1, h2]
    show (if 5 = 5 ∧ inb (zI 2) 4 = true ∧ 7 = 7 then some (hset (hset (grw h 215 (s + 33)) 43 (pR 5 4 (t43 2))) 43 (pR 5 4 (upR (t43 2) (zI 2).toNatClampNeg (some 213)))) else none).bind f = _
    rw [if_pos (by decide), hset_hset]
    exact congrArg (fun z => f (hset (grw h 215 (s + 33)) 43 (pR 5 4 z))) (t43_s (j := 2))
  refine hA.trans ?_
  rw [show (zI 2 + 1 : Int32) = zI 3 from by rw [li_1, zI_add]; rfl]
theorem b_182_3 {d s : Nat} {h : HeapP} (hh : h.1 = 16) (hd : 2 ≤ d) : runP MP d 112 (182, [some (.ref 16), some (.int (zI 3))], [], hset (grw h 215 s) 43 (pR 5 4 (t43 3))) = runP MP d 112 (182, [some (.ref 16), some (.int (zI 4))], [], hset (grw h 217 (s + 33)) 43 (pR 5 4 (t43 4))) := by
  rw [q_112_182, if_neg (by decide)]
  have h7 : ∀ {f : Nat → ResP}, (rdA (hset (grw h 215 s) 43 (pR 5 4 (t43 3))) 11 16 7).bind f = f 43 := fun {f} => by
    have hc : (hset (grw h 215 s) 43 (pR 5 4 (t43 3))).2.2 16 = some (pO 11 [.ref 17, .int 0, .int 0, .int (-1), .ref 18, .ref 30, .ref 42, .ref 43, .ref 44, .ref 46, .ref 48, .ref 171, .ref 178, .ref 192, .ref 201, .ref 205, .ref 207, .ref 208, .int 0, .int 0]) := by
      rw [hset_ne (by decide)]
      show (if h.1 ≤ 16 ∧ 16 < 215 then cF 16 else h.2.2 16) = _
      rw [if_pos (by omega)]; rfl
    unfold rdA rdV
    rw [hc]; rfl
  refine h7.trans ?_
  refine st_b.trans ?_
  refine (st_C K_93_215 (by omega) (s + 33) (by omega) (by decide) (by decide) rfl rfl).trans ?_
  have hA : ∀ {f : HeapP → ResP}, (astR (hset (grw h 217 (s + 33)) 43 (pR 5 4 (t43 3))) 5 7 43 (zI 3) 215).bind f = f (hset (grw h 217 (s + 33)) 43 (pR 5 4 (t43 4))) := fun {f} => by
    have h1 : (hset (grw h 217 (s + 33)) 43 (pR 5 4 (t43 3))).2.2 43 = some (pR 5 4 (t43 3)) := hset_at
    have h2 : (hset (grw h 217 (s + 33)) 43 (pR 5 4 (t43 3))).2.2 215 = some (pO 7 [.int (-1), .int 0, .ref 216]) := by
      rw [hset_ne (by decide)]
      show (if h.1 ≤ 215 ∧ 215 < 217 then cF 215 else h.2.2 215) = _
      rw [if_pos (by omega)]; rfl
    unfold astR
    rw [h1, h2]
    show (if 5 = 5 ∧ inb (zI 3) 4 = true ∧ 7 = 7 then some (hset (hset (grw h 217 (s + 33)) 43 (pR 5 4 (t43 3))) 43 (pR 5 4 (upR (t43 3) (zI 3).toNatClampNeg (some 215)))) else none).bind f = _
    rw [if_pos (by decide), hset_hset]
    exact congrArg (fun z => f (hset (grw h 217 (s + 33)) 43 (pR 5 4 z))) (t43_s (j := 3))
  refine hA.trans ?_
  rw [show (zI 3 + 1 : Int32) = zI 4 from by rw [li_1, zI_add]; rfl]
theorem K_112 {d s : Nat} {h : HeapP} (hh : h.1 = 16) (hd : 5 ≤ d) : callP MP d 112 [.ref 16] (hset (grw h 17 s) 16 (pO 11 fs_11)) = some (Sum.inl none, hset (grw h 217 (s + 72387)) 43 (pR 5 4 (t43 4))) := by
  refine into (D := 4) (by omega) hM_112 (rcv_raw hset_at (by decide)) rfl fun d hd => ?_
  show runP MP d 112 (0, [some (.ref 16), none], [], hset (grw h 17 s) 16 (pO 11 fs_11)) = _
  rw [b_112 hh hd]
  have e : grw h 209 (s + 72255) = hset (grw h 209 (s + 72255)) 43 (pR 5 4 (t43 0)) := by
    rw [t43_0, grw_fin (by omega) cF_43]
  rw [e, li_0, b_182_0 hh (by omega), b_182_1 hh (by omega), b_182_2 hh (by omega), b_182_3 hh (by omega)]
  rw [q_112_182, if_pos (by decide)]
theorem st_x {h : HeapP} {a : Nat} {k : Int32} {g : Nat → Int32} {v : Int32} {m : Nat} {f : HeapP → ResP} (j : Nat) (hk : inb k m = true) (hj : k.toNatClampNeg = j) : (astI (hset h a (pI 0 m g)) 0 a k v).bind f = f (hset h a (pI 0 m (upd g j v))) := by
  unfold astI
  rw [hset_at]
  show (if 0 = 0 ∧ inb k m = true then some (hset (hset h a (pI 0 m g)) a (pI 0 m (upd g k.toNatClampNeg v))) else none).bind f = _
  rw [if_pos ⟨rfl, hk⟩, hset_hset, hj]; rfl
theorem u43 : upd (upd (upd (upd (fun _ => 0) 0 (-1)) 1 (-1)) 2 (-1)) 3 (-1) = fun i : Nat => if 0 ≤ (i : Int) ∧ (i : Int) < 4 then (-1 : Int32) else 0 := by
  funext i
  unfold upd
  by_cases h3 : i = 3
  · rw [if_pos h3, if_pos (by omega)]
  · by_cases h2 : i = 2
    · rw [if_neg h3, if_pos h2, if_pos (by omega)]
    · by_cases h1 : i = 1
      · rw [if_neg h3, if_neg h2, if_pos h1, if_pos (by omega)]
      · by_cases h0 : i = 0
        · rw [if_neg h3, if_neg h2, if_neg h1, if_pos h0, if_pos (by omega)]
        · rw [if_neg h3, if_neg h2, if_neg h1, if_neg h0, if_neg (by omega)]
theorem cF_243 : cF 243 = some (pI 0 4 (upd (upd (upd (upd (fun _ => 0) 0 (-1)) 1 (-1)) 2 (-1)) 3 (-1))) := by
  rw [u43]; rfl
set_option maxRecDepth 100000 in
theorem cF_217 : cF 217 = some (pO 12 [.ref 218, .ref 219, .ref 220, .ref 221, .ref 222, .int 0, .ref 223, .int 0, .int 0, .int 0, .int 0, .int 0, .int 0, .int 0, .int 0, .int 0, .int (-1), .ref 224, .int 0, .int 0, .ref 225, .ref 226, .int 0, .ref 227, .ref 228, .ref 229, .ref 230, .int 0, .int 0, .int 0, .ref 231, .ref 232, .ref 233, .ref 234, .ref 235, .int 0, .int 0, .int 0, .int 0, .long 0, .long 0, .int 0, .ref 236, .ref 237, .ref 238, .int 0, .ref 239, .ref 240, .ref 241, .int 0, .long 0, .ref 242, .int 0, .ref 243, .ref 244, .ref 245]) := rfl
theorem K_184 {d s : Nat} {h : HeapP} (hh : h.1 = 217) (hd : 1 ≤ d) : callP MP d 184 [.ref 217] (hset (grw h 218 s) 217 (pO 12 fs_12)) = some (Sum.inl none, hset (grw h 246 (s + 42967)) 218 (pI 0 408 (upd (upd (fun _ => 0) 4 20) 168 20))) := by
  refine into (D := 0) (by omega) hM_184 (rcv_raw hset_at (by decide)) rfl fun d hd => ?_
  show runP MP d 184 (0, [some (.ref 217)], [], hset (grw h 218 s) 217 (pO 12 fs_12)) = _
  refine q_184_0.trans ?_
  refine st_b.trans ?_
  refine (st_I 408 219 (s + 408) (by omega) (by decide) (by decide) (by decide) rfl (by omega) rfl).trans ?_
  refine (st_w [.ref 218, .null, .null, .null, .null, .int 0, .null, .int 0, .int 0, .int 0, .int 0, .int 0, .int 0, .int 0, .int 0, .int 0, .int 0, .null, .int 0, .int 0, .null, .null, .int 0, .null, .null, .null, .null, .int 0, .int 0, .int 0, .null, .null, .null, .null, .null, .int 0, .int 0, .int 0, .int 0, .long 0, .long 0, .int 0, .null, .null, .null, .int 0, .null, .null, .null, .int 0, .long 0, .null, .int 0, .null, .null, .null] (.ref 218) rfl (by decide) rfl).trans ?_
  refine (st_I 408 220 (s + 816) (by omega) (by decide) (by decide) (by decide) rfl (by omega) rfl).trans ?_
  refine (st_w [.ref 218, .ref 219, .null, .null, .null, .int 0, .null, .int 0, .int 0, .int 0, .int 0, .int 0, .int 0, .int 0, .int 0, .int 0, .int 0, .null, .int 0, .int 0, .null, .null, .int 0, .null, .null, .null, .null, .int 0, .int 0, .int 0, .null, .null, .null, .null, .null, .int 0, .int 0, .int 0, .int 0, .long 0, .long 0, .int 0, .null, .null, .null, .int 0, .null, .null, .null, .int 0, .long 0, .null, .int 0, .null, .null, .null] (.ref 219) rfl (by decide) rfl).trans ?_
  refine (st_I 408 221 (s + 1224) (by omega) (by decide) (by decide) (by decide) rfl (by omega) rfl).trans ?_
  refine (st_w [.ref 218, .ref 219, .ref 220, .null, .null, .int 0, .null, .int 0, .int 0, .int 0, .int 0, .int 0, .int 0, .int 0, .int 0, .int 0, .int 0, .null, .int 0, .int 0, .null, .null, .int 0, .null, .null, .null, .null, .int 0, .int 0, .int 0, .null, .null, .null, .null, .null, .int 0, .int 0, .int 0, .int 0, .long 0, .long 0, .int 0, .null, .null, .null, .int 0, .null, .null, .null, .int 0, .long 0, .null, .int 0, .null, .null, .null] (.ref 220) rfl (by decide) rfl).trans ?_
  refine (st_I 1224 222 (s + 2448) (by omega) (by decide) (by decide) (by decide) rfl (by omega) rfl).trans ?_
  refine (st_w [.ref 218, .ref 219, .ref 220, .ref 221, .null, .int 0, .null, .int 0, .int 0, .int 0, .int 0, .int 0, .int 0, .int 0, .int 0, .int 0, .int 0, .null, .int 0, .int 0, .null, .null, .int 0, .null, .null, .null, .null, .int 0, .int 0, .int 0, .null, .null, .null, .null, .null, .int 0, .int 0, .int 0, .int 0, .long 0, .long 0, .int 0, .null, .null, .null, .int 0, .null, .null, .null, .int 0, .long 0, .null, .int 0, .null, .null, .null] (.ref 221) rfl (by decide) rfl).trans ?_
  refine (st_I 3 223 (s + 2451) (by omega) (by decide) (by decide) (by decide) rfl (by omega) rfl).trans ?_
  refine (st_w [.ref 218, .ref 219, .ref 220, .ref 221, .ref 222, .int 0, .null, .int 0, .int 0, .int 0, .int 0, .int 0, .int 0, .int 0, .int 0, .int 0, .int 0, .null, .int 0, .int 0, .null, .null, .int 0, .null, .null, .null, .null, .int 0, .int 0, .int 0, .null, .null, .null, .null, .null, .int 0, .int 0, .int 0, .int 0, .long 0, .long 0, .int 0, .null, .null, .null, .int 0, .null, .null, .null, .int 0, .long 0, .null, .int 0, .null, .null, .null] (.ref 222) rfl (by decide) rfl).trans ?_
  refine (st_I 600 224 (s + 3051) (by omega) (by decide) (by decide) (by decide) rfl (by omega) rfl).trans ?_
  refine (st_w [.ref 218, .ref 219, .ref 220, .ref 221, .ref 222, .int 0, .ref 223, .int 0, .int 0, .int 0, .int 0, .int 0, .int 0, .int 0, .int 0, .int 0, .int 0, .null, .int 0, .int 0, .null, .null, .int 0, .null, .null, .null, .null, .int 0, .int 0, .int 0, .null, .null, .null, .null, .null, .int 0, .int 0, .int 0, .int 0, .long 0, .long 0, .int 0, .null, .null, .null, .int 0, .null, .null, .null, .int 0, .long 0, .null, .int 0, .null, .null, .null] (.ref 223) rfl (by decide) rfl).trans ?_
  refine (st_w [.ref 218, .ref 219, .ref 220, .ref 221, .ref 222, .int 0, .ref 223, .int 0, .int 0, .int 0, .int 0, .int 0, .int 0, .int 0, .int 0, .int 0, .int (-1), .null, .int 0, .int 0, .null, .null, .int 0, .null, .null, .null, .null, .int 0, .int 0, .int 0, .null, .null, .null, .null, .null, .int 0, .int 0, .int 0, .int 0, .long 0, .long 0, .int 0, .null, .null, .null, .int 0, .null, .null, .null, .int 0, .long 0, .null, .int 0, .null, .null, .null] (.int (-1)) rfl (by decide) rfl).trans ?_
  refine (st_I 10 225 (s + 3061) (by omega) (by decide) (by decide) (by decide) rfl (by omega) rfl).trans ?_
  refine (st_w [.ref 218, .ref 219, .ref 220, .ref 221, .ref 222, .int 0, .ref 223, .int 0, .int 0, .int 0, .int 0, .int 0, .int 0, .int 0, .int 0, .int 0, .int (-1), .ref 224, .int 0, .int 0, .null, .null, .int 0, .null, .null, .null, .null, .int 0, .int 0, .int 0, .null, .null, .null, .null, .null, .int 0, .int 0, .int 0, .int 0, .long 0, .long 0, .int 0, .null, .null, .null, .int 0, .null, .null, .null, .int 0, .long 0, .null, .int 0, .null, .null, .null] (.ref 224) rfl (by decide) rfl).trans ?_
  refine (st_I 60 226 (s + 3121) (by omega) (by decide) (by decide) (by decide) rfl (by omega) rfl).trans ?_
  refine (st_w [.ref 218, .ref 219, .ref 220, .ref 221, .ref 222, .int 0, .ref 223, .int 0, .int 0, .int 0, .int 0, .int 0, .int 0, .int 0, .int 0, .int 0, .int (-1), .ref 224, .int 0, .int 0, .ref 225, .null, .int 0, .null, .null, .null, .null, .int 0, .int 0, .int 0, .null, .null, .null, .null, .null, .int 0, .int 0, .int 0, .int 0, .long 0, .long 0, .int 0, .null, .null, .null, .int 0, .null, .null, .null, .int 0, .long 0, .null, .int 0, .null, .null, .null] (.ref 225) rfl (by decide) rfl).trans ?_
  refine (st_I 60 227 (s + 3181) (by omega) (by decide) (by decide) (by decide) rfl (by omega) rfl).trans ?_
  refine (st_w [.ref 218, .ref 219, .ref 220, .ref 221, .ref 222, .int 0, .ref 223, .int 0, .int 0, .int 0, .int 0, .int 0, .int 0, .int 0, .int 0, .int 0, .int (-1), .ref 224, .int 0, .int 0, .ref 225, .ref 226, .int 0, .null, .null, .null, .null, .int 0, .int 0, .int 0, .null, .null, .null, .null, .null, .int 0, .int 0, .int 0, .int 0, .long 0, .long 0, .int 0, .null, .null, .null, .int 0, .null, .null, .null, .int 0, .long 0, .null, .int 0, .null, .null, .null] (.ref 226) rfl (by decide) rfl).trans ?_
  refine (st_I 16214 228 (s + 19395) (by omega) (by decide) (by decide) (by decide) rfl (by omega) rfl).trans ?_
  refine (st_w [.ref 218, .ref 219, .ref 220, .ref 221, .ref 222, .int 0, .ref 223, .int 0, .int 0, .int 0, .int 0, .int 0, .int 0, .int 0, .int 0, .int 0, .int (-1), .ref 224, .int 0, .int 0, .ref 225, .ref 226, .int 0, .ref 227, .null, .null, .null, .int 0, .int 0, .int 0, .null, .null, .null, .null, .null, .int 0, .int 0, .int 0, .int 0, .long 0, .long 0, .int 0, .null, .null, .null, .int 0, .null, .null, .null, .int 0, .long 0, .null, .int 0, .null, .null, .null] (.ref 227) rfl (by decide) rfl).trans ?_
  refine (st_I 3 229 (s + 19398) (by omega) (by decide) (by decide) (by decide) rfl (by omega) rfl).trans ?_
  refine (st_w [.ref 218, .ref 219, .ref 220, .ref 221, .ref 222, .int 0, .ref 223, .int 0, .int 0, .int 0, .int 0, .int 0, .int 0, .int 0, .int 0, .int 0, .int (-1), .ref 224, .int 0, .int 0, .ref 225, .ref 226, .int 0, .ref 227, .ref 228, .null, .null, .int 0, .int 0, .int 0, .null, .null, .null, .null, .null, .int 0, .int 0, .int 0, .int 0, .long 0, .long 0, .int 0, .null, .null, .null, .int 0, .null, .null, .null, .int 0, .long 0, .null, .int 0, .null, .null, .null] (.ref 228) rfl (by decide) rfl).trans ?_
  refine (st_I 3 230 (s + 19401) (by omega) (by decide) (by decide) (by decide) rfl (by omega) rfl).trans ?_
  refine (st_w [.ref 218, .ref 219, .ref 220, .ref 221, .ref 222, .int 0, .ref 223, .int 0, .int 0, .int 0, .int 0, .int 0, .int 0, .int 0, .int 0, .int 0, .int (-1), .ref 224, .int 0, .int 0, .ref 225, .ref 226, .int 0, .ref 227, .ref 228, .ref 229, .null, .int 0, .int 0, .int 0, .null, .null, .null, .null, .null, .int 0, .int 0, .int 0, .int 0, .long 0, .long 0, .int 0, .null, .null, .null, .int 0, .null, .null, .null, .int 0, .long 0, .null, .int 0, .null, .null, .null] (.ref 229) rfl (by decide) rfl).trans ?_
  refine (st_I 1632 231 (s + 21033) (by omega) (by decide) (by decide) (by decide) rfl (by omega) rfl).trans ?_
  refine (st_w [.ref 218, .ref 219, .ref 220, .ref 221, .ref 222, .int 0, .ref 223, .int 0, .int 0, .int 0, .int 0, .int 0, .int 0, .int 0, .int 0, .int 0, .int (-1), .ref 224, .int 0, .int 0, .ref 225, .ref 226, .int 0, .ref 227, .ref 228, .ref 229, .ref 230, .int 0, .int 0, .int 0, .null, .null, .null, .null, .null, .int 0, .int 0, .int 0, .int 0, .long 0, .long 0, .int 0, .null, .null, .null, .int 0, .null, .null, .null, .int 0, .long 0, .null, .int 0, .null, .null, .null] (.ref 230) rfl (by decide) rfl).trans ?_
  refine (st_I 4 232 (s + 21037) (by omega) (by decide) (by decide) (by decide) rfl (by omega) rfl).trans ?_
  refine (st_w [.ref 218, .ref 219, .ref 220, .ref 221, .ref 222, .int 0, .ref 223, .int 0, .int 0, .int 0, .int 0, .int 0, .int 0, .int 0, .int 0, .int 0, .int (-1), .ref 224, .int 0, .int 0, .ref 225, .ref 226, .int 0, .ref 227, .ref 228, .ref 229, .ref 230, .int 0, .int 0, .int 0, .ref 231, .null, .null, .null, .null, .int 0, .int 0, .int 0, .int 0, .long 0, .long 0, .int 0, .null, .null, .null, .int 0, .null, .null, .null, .int 0, .long 0, .null, .int 0, .null, .null, .null] (.ref 231) rfl (by decide) rfl).trans ?_
  refine (st_I 124 233 (s + 21161) (by omega) (by decide) (by decide) (by decide) rfl (by omega) rfl).trans ?_
  refine (st_w [.ref 218, .ref 219, .ref 220, .ref 221, .ref 222, .int 0, .ref 223, .int 0, .int 0, .int 0, .int 0, .int 0, .int 0, .int 0, .int 0, .int 0, .int (-1), .ref 224, .int 0, .int 0, .ref 225, .ref 226, .int 0, .ref 227, .ref 228, .ref 229, .ref 230, .int 0, .int 0, .int 0, .ref 231, .ref 232, .null, .null, .null, .int 0, .int 0, .int 0, .int 0, .long 0, .long 0, .int 0, .null, .null, .null, .int 0, .null, .null, .null, .int 0, .long 0, .null, .int 0, .null, .null, .null] (.ref 232) rfl (by decide) rfl).trans ?_
  refine (st_I 32 234 (s + 21193) (by omega) (by decide) (by decide) (by decide) rfl (by omega) rfl).trans ?_
  refine (st_w [.ref 218, .ref 219, .ref 220, .ref 221, .ref 222, .int 0, .ref 223, .int 0, .int 0, .int 0, .int 0, .int 0, .int 0, .int 0, .int 0, .int 0, .int (-1), .ref 224, .int 0, .int 0, .ref 225, .ref 226, .int 0, .ref 227, .ref 228, .ref 229, .ref 230, .int 0, .int 0, .int 0, .ref 231, .ref 232, .ref 233, .null, .null, .int 0, .int 0, .int 0, .int 0, .long 0, .long 0, .int 0, .null, .null, .null, .int 0, .null, .null, .null, .int 0, .long 0, .null, .int 0, .null, .null, .null] (.ref 233) rfl (by decide) rfl).trans ?_
  refine (st_I 32 235 (s + 21225) (by omega) (by decide) (by decide) (by decide) rfl (by omega) rfl).trans ?_
  refine (st_w [.ref 218, .ref 219, .ref 220, .ref 221, .ref 222, .int 0, .ref 223, .int 0, .int 0, .int 0, .int 0, .int 0, .int 0, .int 0, .int 0, .int 0, .int (-1), .ref 224, .int 0, .int 0, .ref 225, .ref 226, .int 0, .ref 227, .ref 228, .ref 229, .ref 230, .int 0, .int 0, .int 0, .ref 231, .ref 232, .ref 233, .ref 234, .null, .int 0, .int 0, .int 0, .int 0, .long 0, .long 0, .int 0, .null, .null, .null, .int 0, .null, .null, .null, .int 0, .long 0, .null, .int 0, .null, .null, .null] (.ref 234) rfl (by decide) rfl).trans ?_
  refine (st_I 64 236 (s + 21289) (by omega) (by decide) (by decide) (by decide) rfl (by omega) rfl).trans ?_
  refine (st_w [.ref 218, .ref 219, .ref 220, .ref 221, .ref 222, .int 0, .ref 223, .int 0, .int 0, .int 0, .int 0, .int 0, .int 0, .int 0, .int 0, .int 0, .int (-1), .ref 224, .int 0, .int 0, .ref 225, .ref 226, .int 0, .ref 227, .ref 228, .ref 229, .ref 230, .int 0, .int 0, .int 0, .ref 231, .ref 232, .ref 233, .ref 234, .ref 235, .int 0, .int 0, .int 0, .int 0, .long 0, .long 0, .int 0, .null, .null, .null, .int 0, .null, .null, .null, .int 0, .long 0, .null, .int 0, .null, .null, .null] (.ref 235) rfl (by decide) rfl).trans ?_
  refine (st_I 8192 237 (s + 29481) (by omega) (by decide) (by decide) (by decide) rfl (by omega) rfl).trans ?_
  refine (st_w [.ref 218, .ref 219, .ref 220, .ref 221, .ref 222, .int 0, .ref 223, .int 0, .int 0, .int 0, .int 0, .int 0, .int 0, .int 0, .int 0, .int 0, .int (-1), .ref 224, .int 0, .int 0, .ref 225, .ref 226, .int 0, .ref 227, .ref 228, .ref 229, .ref 230, .int 0, .int 0, .int 0, .ref 231, .ref 232, .ref 233, .ref 234, .ref 235, .int 0, .int 0, .int 0, .int 0, .long 0, .long 0, .int 0, .ref 236, .null, .null, .int 0, .null, .null, .null, .int 0, .long 0, .null, .int 0, .null, .null, .null] (.ref 236) rfl (by decide) rfl).trans ?_
  refine (st_I 6 238 (s + 29487) (by omega) (by decide) (by decide) (by decide) rfl (by omega) rfl).trans ?_
  refine (st_w [.ref 218, .ref 219, .ref 220, .ref 221, .ref 222, .int 0, .ref 223, .int 0, .int 0, .int 0, .int 0, .int 0, .int 0, .int 0, .int 0, .int 0, .int (-1), .ref 224, .int 0, .int 0, .ref 225, .ref 226, .int 0, .ref 227, .ref 228, .ref 229, .ref 230, .int 0, .int 0, .int 0, .ref 231, .ref 232, .ref 233, .ref 234, .ref 235, .int 0, .int 0, .int 0, .int 0, .long 0, .long 0, .int 0, .ref 236, .ref 237, .null, .int 0, .null, .null, .null, .int 0, .long 0, .null, .int 0, .null, .null, .null] (.ref 237) rfl (by decide) rfl).trans ?_
  refine (st_I 8192 239 (s + 37679) (by omega) (by decide) (by decide) (by decide) rfl (by omega) rfl).trans ?_
  refine (st_w [.ref 218, .ref 219, .ref 220, .ref 221, .ref 222, .int 0, .ref 223, .int 0, .int 0, .int 0, .int 0, .int 0, .int 0, .int 0, .int 0, .int 0, .int (-1), .ref 224, .int 0, .int 0, .ref 225, .ref 226, .int 0, .ref 227, .ref 228, .ref 229, .ref 230, .int 0, .int 0, .int 0, .ref 231, .ref 232, .ref 233, .ref 234, .ref 235, .int 0, .int 0, .int 0, .int 0, .long 0, .long 0, .int 0, .ref 236, .ref 237, .ref 238, .int 0, .null, .null, .null, .int 0, .long 0, .null, .int 0, .null, .null, .null] (.ref 238) rfl (by decide) rfl).trans ?_
  refine (st_I 8 240 (s + 37687) (by omega) (by decide) (by decide) (by decide) rfl (by omega) rfl).trans ?_
  refine (st_w [.ref 218, .ref 219, .ref 220, .ref 221, .ref 222, .int 0, .ref 223, .int 0, .int 0, .int 0, .int 0, .int 0, .int 0, .int 0, .int 0, .int 0, .int (-1), .ref 224, .int 0, .int 0, .ref 225, .ref 226, .int 0, .ref 227, .ref 228, .ref 229, .ref 230, .int 0, .int 0, .int 0, .ref 231, .ref 232, .ref 233, .ref 234, .ref 235, .int 0, .int 0, .int 0, .int 0, .long 0, .long 0, .int 0, .ref 236, .ref 237, .ref 238, .int 0, .ref 239, .null, .null, .int 0, .long 0, .null, .int 0, .null, .null, .null] (.ref 239) rfl (by decide) rfl).trans ?_
  refine (st_I 2560 241 (s + 40247) (by omega) (by decide) (by decide) (by decide) rfl (by omega) rfl).trans ?_
  refine (st_w [.ref 218, .ref 219, .ref 220, .ref 221, .ref 222, .int 0, .ref 223, .int 0, .int 0, .int 0, .int 0, .int 0, .int 0, .int 0, .int 0, .int 0, .int (-1), .ref 224, .int 0, .int 0, .ref 225, .ref 226, .int 0, .ref 227, .ref 228, .ref 229, .ref 230, .int 0, .int 0, .int 0, .ref 231, .ref 232, .ref 233, .ref 234, .ref 235, .int 0, .int 0, .int 0, .int 0, .long 0, .long 0, .int 0, .ref 236, .ref 237, .ref 238, .int 0, .ref 239, .ref 240, .null, .int 0, .long 0, .null, .int 0, .null, .null, .null] (.ref 240) rfl (by decide) rfl).trans ?_
  refine (st_I 2560 242 (s + 42807) (by omega) (by decide) (by decide) (by decide) rfl (by omega) rfl).trans ?_
  refine (st_w [.ref 218, .ref 219, .ref 220, .ref 221, .ref 222, .int 0, .ref 223, .int 0, .int 0, .int 0, .int 0, .int 0, .int 0, .int 0, .int 0, .int 0, .int (-1), .ref 224, .int 0, .int 0, .ref 225, .ref 226, .int 0, .ref 227, .ref 228, .ref 229, .ref 230, .int 0, .int 0, .int 0, .ref 231, .ref 232, .ref 233, .ref 234, .ref 235, .int 0, .int 0, .int 0, .int 0, .long 0, .long 0, .int 0, .ref 236, .ref 237, .ref 238, .int 0, .ref 239, .ref 240, .ref 241, .int 0, .long 0, .null, .int 0, .null, .null, .null] (.ref 241) rfl (by decide) rfl).trans ?_
  refine (st_I 32 243 (s + 42839) (by omega) (by decide) (by decide) (by decide) rfl (by omega) rfl).trans ?_
  refine (st_w [.ref 218, .ref 219, .ref 220, .ref 221, .ref 222, .int 0, .ref 223, .int 0, .int 0, .int 0, .int 0, .int 0, .int 0, .int 0, .int 0, .int 0, .int (-1), .ref 224, .int 0, .int 0, .ref 225, .ref 226, .int 0, .ref 227, .ref 228, .ref 229, .ref 230, .int 0, .int 0, .int 0, .ref 231, .ref 232, .ref 233, .ref 234, .ref 235, .int 0, .int 0, .int 0, .int 0, .long 0, .long 0, .int 0, .ref 236, .ref 237, .ref 238, .int 0, .ref 239, .ref 240, .ref 241, .int 0, .long 0, .ref 242, .int 0, .null, .null, .null] (.ref 242) rfl (by decide) rfl).trans ?_
  have hN : ∀ {f : HeapP → ResP} {c : CellP}, (newI (hset (grw h 243 (s + 42839)) 217 c) 0 4).bind f = f (hset (hset (grw h 244 (s + 42843)) 217 c) 243 (z0 4)) := fun {f c} => by
    unfold newI
    rw [if_pos (by decide), show (4 : Int32).toNatClampNeg = 4 from by decide, hnew_hset (show 217 ≠ (grw h 243 (s + 42839)).1 by rw [grw_1]; decide), new_O (by omega), hset_comm (by decide)]; rfl
  refine hN.trans ?_
  refine (st_x (a := 243) (m := 4) (g := fun _ => 0) 0 (by decide) (by decide)).trans ?_
  refine (st_x (a := 243) (m := 4) 1 (by decide) (by decide)).trans ?_
  refine (st_x (a := 243) (m := 4) 2 (by decide) (by decide)).trans ?_
  refine (st_x (a := 243) (m := 4) 3 (by decide) (by decide)).trans ?_
  have e43 : ∀ {c : CellP}, hset (hset (grw h 244 (s + 42843)) 217 c) 243 (pI 0 4 (upd (upd (upd (upd (fun _ => 0) 0 (-1)) 1 (-1)) 2 (-1)) 3 (-1))) = hset (grw h 244 (s + 42843)) 217 c := fun {c} => by
    rw [hset_comm (by decide), grw_fin (by omega) cF_243]
  rw [e43]
  refine (st_w [.ref 218, .ref 219, .ref 220, .ref 221, .ref 222, .int 0, .ref 223, .int 0, .int 0, .int 0, .int 0, .int 0, .int 0, .int 0, .int 0, .int 0, .int (-1), .ref 224, .int 0, .int 0, .ref 225, .ref 226, .int 0, .ref 227, .ref 228, .ref 229, .ref 230, .int 0, .int 0, .int 0, .ref 231, .ref 232, .ref 233, .ref 234, .ref 235, .int 0, .int 0, .int 0, .int 0, .long 0, .long 0, .int 0, .ref 236, .ref 237, .ref 238, .int 0, .ref 239, .ref 240, .ref 241, .int 0, .long 0, .ref 242, .int 0, .ref 243, .null, .null] (.ref 243) rfl (by decide) rfl).trans ?_
  refine (st_I 4 245 (s + 42847) (by omega) (by decide) (by decide) (by decide) rfl (by omega) rfl).trans ?_
  refine (st_w [.ref 218, .ref 219, .ref 220, .ref 221, .ref 222, .int 0, .ref 223, .int 0, .int 0, .int 0, .int 0, .int 0, .int 0, .int 0, .int 0, .int 0, .int (-1), .ref 224, .int 0, .int 0, .ref 225, .ref 226, .int 0, .ref 227, .ref 228, .ref 229, .ref 230, .int 0, .int 0, .int 0, .ref 231, .ref 232, .ref 233, .ref 234, .ref 235, .int 0, .int 0, .int 0, .int 0, .long 0, .long 0, .int 0, .ref 236, .ref 237, .ref 238, .int 0, .ref 239, .ref 240, .ref 241, .int 0, .long 0, .ref 242, .int 0, .ref 243, .ref 244, .null] (.ref 244) rfl (by decide) rfl).trans ?_
  refine (st_J 120 246 (s + 42967) (by omega) (by decide) (by decide) (by decide) rfl (by omega) rfl).trans ?_
  refine (st_w [.ref 218, .ref 219, .ref 220, .ref 221, .ref 222, .int 0, .ref 223, .int 0, .int 0, .int 0, .int 0, .int 0, .int 0, .int 0, .int 0, .int 0, .int (-1), .ref 224, .int 0, .int 0, .ref 225, .ref 226, .int 0, .ref 227, .ref 228, .ref 229, .ref 230, .int 0, .int 0, .int 0, .ref 231, .ref 232, .ref 233, .ref 234, .ref 235, .int 0, .int 0, .int 0, .int 0, .long 0, .long 0, .int 0, .ref 236, .ref 237, .ref 238, .int 0, .ref 239, .ref 240, .ref 241, .int 0, .long 0, .ref 242, .int 0, .ref 243, .ref 244, .ref 245] (.ref 245) rfl (by decide) rfl).trans ?_
  rw [grw_fin (by omega) cF_217]
  have h0 : ∀ {H : HeapP} {f : Nat → ResP}, H.2.2 217 = some (pO 12 [.ref 218, .ref 219, .ref 220, .ref 221, .ref 222, .int 0, .ref 223, .int 0, .int 0, .int 0, .int 0, .int 0, .int 0, .int 0, .int 0, .int 0, .int (-1), .ref 224, .int 0, .int 0, .ref 225, .ref 226, .int 0, .ref 227, .ref 228, .ref 229, .ref 230, .int 0, .int 0, .int 0, .ref 231, .ref 232, .ref 233, .ref 234, .ref 235, .int 0, .int 0, .int 0, .int 0, .long 0, .long 0, .int 0, .ref 236, .ref 237, .ref 238, .int 0, .ref 239, .ref 240, .ref 241, .int 0, .long 0, .ref 242, .int 0, .ref 243, .ref 244, .ref 245]) → (rdA H 12 217 0).bind f = f 218 := fun {H f} hc => by
    unfold rdA rdV
    rw [hc]; rfl
  have c1 : (grw h 246 (s + 42967)).2.2 217 = some (pO 12 [.ref 218, .ref 219, .ref 220, .ref 221, .ref 222, .int 0, .ref 223, .int 0, .int 0, .int 0, .int 0, .int 0, .int 0, .int 0, .int 0, .int 0, .int (-1), .ref 224, .int 0, .int 0, .ref 225, .ref 226, .int 0, .ref 227, .ref 228, .ref 229, .ref 230, .int 0, .int 0, .int 0, .ref 231, .ref 232, .ref 233, .ref 234, .ref 235, .int 0, .int 0, .int 0, .int 0, .long 0, .long 0, .int 0, .ref 236, .ref 237, .ref 238, .int 0, .ref 239, .ref 240, .ref 241, .int 0, .long 0, .ref 242, .int 0, .ref 243, .ref 244, .ref 245]) := by
    show (if h.1 ≤ 217 ∧ 217 < 246 then cF 217 else h.2.2 217) = _
    rw [if_pos (by omega), cF_217]
  refine (h0 c1).trans ?_
  have e18 : grw h 246 (s + 42967) = hset (grw h 246 (s + 42967)) 218 (pI 0 408 (fun _ => 0)) := (grw_fin (by omega) (show cF 218 = some (pI 0 408 (fun _ => 0)) from rfl)).symm
  have hx : ∀ {f : HeapP → ResP}, (astI (grw h 246 (s + 42967)) 0 218 4 20).bind f = f (hset (grw h 246 (s + 42967)) 218 (pI 0 408 (upd (fun _ => 0) 4 20))) := fun {f} => by
    have := st_x (h := grw h 246 (s + 42967)) (a := 218) (m := 408) (g := fun _ => 0) (k := 4) (v := 20) (f := f) 4 (by decide) (by decide)
    rw [← e18] at this
    exact this
  refine hx.trans ?_
  refine (h0 (by rw [hset_ne (by decide)]; exact c1)).trans ?_
  refine (st_x (h := grw h 246 (s + 42967)) (a := 218) (m := 408) 168 (by decide) (by decide)).trans ?_
  rfl
/-- the memory when class and model are there -/
def RF0 (q : Nat) : Int → Nat := if q = 43 then (fun i => if 0 ≤ i ∧ i < 4 then 209 + 2 * i.toNat else 0) else R00 q
def E00 (L : Nat) : EnQ := (247, 115431, fun q => if q = 0 then (2, 9, L) else (0, 0, 0), RF0)
def F00 (xs : Nat → Int32) (q : Nat) : Int → Int32 := if q = 0 then (fun i => xs i.toNat) else if q = 218 then uC (uC (fun _ => 0) 4 20) 168 20 else rw0 (cd0 q)
def G00 : Nat → Int → Int64 := fun _ _ => 0
theorem u18 : upd (upd (fun _ => 0) 4 20) 168 20 = fun i : Nat => uC (uC (fun _ => (0 : Int32)) 4 20) 168 20 (i : Int) := by
  funext i
  unfold upd
  by_cases h8 : i = 168
  · rw [if_pos h8, uC_eq (by omega)]
  · rw [if_neg h8, uC_ne (by omega)]
    by_cases h4 : i = 4
    · rw [if_pos h4, uC_eq (by omega)]
    · rw [if_neg h4, uC_ne (by omega)]
theorem mk_00 {L : Nat} {xs : Nat → Int32} {s1 : Nat} : hset (grw (hset (grw (h0P L xs) 217 s1) 43 (pR 5 4 (t43 4))) 247 115431) 218 (pI 0 408 (upd (upd (fun _ => 0) 4 20) 168 20)) = mk (E00 L) (F00 xs) G00 := by
  refine congrArg (fun z => (247, 115431, z)) (funext fun q => ?_)
  show (if q = 218 then some (pI 0 408 (upd (upd (fun _ => 0) 4 20) 168 20)) else if 217 ≤ q ∧ q < 247 then cF q else if q = 43 then some (pR 5 4 (t43 4)) else if 16 ≤ q ∧ q < 217 then cF q else if q = 0 then some (pI 9 L xs) else none) = cellP (shx (E00 L) q) q (F00 xs q) (G00 q) (RF0 q)
  have hin : 16 ≤ q ∧ q ≤ 246 → shx (E00 L) q = sh0 q := fun h => by
    unfold shx
    have hb : (Nat.ble 16 q && Nat.ble q 246) = true := by
      rw [Bool.and_eq_true]; exact ⟨Nat.ble_eq.mpr (by omega), Nat.ble_eq.mpr (by omega)⟩
    rw [hb]; rfl
  have hF : q ≠ 0 → q ≠ 218 → F00 xs q = rw0 (cd0 q) := fun h1 h2 => by unfold F00; rw [if_neg h1, if_neg h2]
  have hR : q ≠ 43 → RF0 q = R00 q := fun h1 => if_neg h1
  by_cases h218 : q = 218
  · rw [if_pos h218, hin (by omega), h218, u18]; rfl
  · rw [if_neg h218]
    by_cases h43 : q = 43
    · rw [if_neg (by omega), if_pos h43, hin (by omega), hF (by omega) h218, h43]
      show _ = some (pR 5 4 (fun i : Nat => if (if 0 ≤ (i : Int) ∧ (i : Int) < 4 then 209 + 2 * (i : Int).toNat else 0) = 0 then none else some (if 0 ≤ (i : Int) ∧ (i : Int) < 4 then 209 + 2 * (i : Int).toNat else 0)))
      refine congrArg (fun z => some (pR 5 4 z)) (funext fun i => ?_)
      unfold t43
      by_cases h : i < 4
      · rw [if_pos h, if_pos (show 0 ≤ (i : Int) ∧ (i : Int) < 4 by omega), if_neg (by omega)]; exact congrArg some (by omega)
      · rw [if_neg h, if_neg (show ¬ (0 ≤ (i : Int) ∧ (i : Int) < 4) by omega), if_pos rfl]
    · by_cases g : 16 ≤ q ∧ q ≤ 246
      · rw [hin g, hF (by omega) h218, hR h43]
        by_cases g2 : 217 ≤ q
        · rw [if_pos (by omega)]; rfl
        · rw [if_neg (by omega), if_neg h43, if_pos (by omega)]; rfl
      · rw [if_neg (by omega), if_neg h43, if_neg (by omega)]
        have hs : shx (E00 L) q = (if q = 0 then (2, 9, L) else (0, 0, 0)) := by
          unfold shx
          have hb : (Nat.ble 16 q && Nat.ble q 246) = false := by
            cases h1 : Nat.ble 16 q with
            | false => rfl
            | true =>
              cases h2 : Nat.ble q 246 with
              | false => rfl
              | true => exact absurd ⟨Nat.le_of_ble_eq_true h1, Nat.le_of_ble_eq_true h2⟩ g
          rw [hb]; rfl
        rw [hs]
        by_cases h0 : q = 0
        · rw [if_pos h0, if_pos h0, h0]; rfl
        · rw [if_neg h0, if_neg h0]; rfl
theorem run_start {d L : Nat} {xs : Nat → Int32} (hd : 10 ≤ d) : runP MP d 368 (entP 8 [.ref 0] (h0P L xs)) = runP MP d 368 (23, lwL (zI 0) none none, [], mk (E00 L) (F00 xs) G00) := by
  show runP MP d 368 (0, [some (.ref 0), none, none, none, none, none, none, none], [], h0P L xs) = _
  refine q_368_0.trans ?_
  refine st_b.trans ?_
  rw [new_T (h := h0P L xs)]
  refine (cV_ret (K_112 (d := d) (s := 0 + 20) (h := h0P L xs) rfl (by omega))).trans ?_
  refine st_b.trans ?_
  rw [new_T (h := hset (grw (h0P L xs) 217 (0 + 20 + 72387)) 43 (pR 5 4 (t43 4)))]
  refine (cV_ret (K_184 (d := d) (s := 0 + 20 + 72387 + 56) (h := hset (grw (h0P L xs) 217 (0 + 20 + 72387)) 43 (pR 5 4 (t43 4))) rfl (by omega))).trans ?_
  have hJ : ∀ {H : HeapP} {s : Nat} {c : CellP} {f : HeapP → ResP}, H.1 = 217 → (newJ (hset (grw H 246 s) 218 c) 1).bind f = f (hset (grw H 247 (s + 1)) 218 c) := fun {H s c f} hH => st_J 1 247 (s + 1) (by omega) (by decide) (by decide) (by decide) rfl rfl rfl
  refine (hJ rfl).trans ?_
  rw [show (0 + 20 + 72387 + 56 + 42967 + 1) = 115431 from rfl, mk_00]
  rfl
end S94zzzzzr
