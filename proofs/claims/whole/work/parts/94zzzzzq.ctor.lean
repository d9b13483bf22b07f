/-! START: the constructors of the class -/
section S94zzzzzq
set_option linter.unusedVariables false
set_option linter.unusedSimpArgs false
theorem plH_same {h : HeapP} {n : Nat} {c : CellP} (hn : n < h.1) : plH (hset h n c) n = plH h n := by
  unfold plH
  rw [hset_1, hnew_hset (by omega), hnew_hset (by simp only [hnew_1]; omega), hnew_hset (by simp only [hnew_1]; omega), hnew_hset (by simp only [hnew_1]; omega), hnew_hset (by simp only [hnew_1]; omega), hset_hset]
def PlF (n : Nat) : Prop := cF n = some (pO 2 (plL (n + 1))) ∧ cF (n + 1) = some (z0 32) ∧ cF (n + 2) = some (pI 0 100 (flf (-1) (fun _ => 0) 100)) ∧ cF (n + 3) = some (z0 4) ∧ cF (n + 4) = some (z0 4) ∧ cF (n + 5) = some (z0 32)
theorem plH_grw {h : HeapP} {n s : Nat} (hn : h.1 = n) (hf : PlF n) : plH (grw h (n + 1) s) n = grw h (n + 6) (s + 172) := by
  obtain ⟨c0, c1, c2, c3, c4, c5⟩ := hf
  unfold plH
  have a1 := new_A (h := h) (n := n + 1) (n' := n + 2) (s := s) (s' := s + 32) (sz := 32) (by omega) rfl rfl c1
  have a2 : hnew (grw h (n + 2) (s + 32)) 100 (z0 100) = hset (grw h (n + 3) (s + 132)) (n + 2) (z0 100) := new_O (by omega)
  have a3 := new_A (h := h) (n := n + 3) (n' := n + 4) (s := s + 132) (s' := s + 136) (sz := 4) (by omega) rfl (by omega) c3
  have a4 := new_A (h := h) (n := n + 4) (n' := n + 5) (s := s + 136) (s' := s + 140) (sz := 4) (by omega) rfl (by omega) c4
  have a5 := new_A (h := h) (n := n + 5) (n' := n + 6) (s := s + 140) (s' := s + 172) (sz := 32) (by omega) rfl (by omega) c5
  rw [a1, a2, hnew_hset (by rw [grw_1]; omega), a3, hnew_hset (by rw [grw_1]; omega), a4, hnew_hset (by rw [grw_1]; omega), a5]
  rw [hset_comm (show n + 2 ≠ n by omega)]
  show hset (hset (hset (grw h (n + 6) (s + 172)) n (pO 2 (plL (n + 1)))) (n + 2) (z0 100)) (n + 2) _ = _
  rw [hset_hset, grw_fin ⟨by omega, by omega⟩ c0, grw_fin ⟨by omega, by omega⟩ c2]
theorem K_24 {n : Nat} (hf : PlF n) : CtN 24 n (n + 6) 185 13 (pO 2 fs_2) 2 := by
  intro d h hd hh
  subst hh
  rw [new_T, ct_24r (show h.1 < h.1 + 1 by omega) hd, plH_grw rfl hf, show h.2.1 + 13 + 172 = h.2.1 + 185 by omega]
theorem pl_row : pI 0 100 (fun i : Nat => if (i : Int) < 100 then -1 else 0) = pI 0 100 (flf (-1) (fun _ => 0) 100) := by
  refine congrArg (pI 0 100) (funext fun i => ?_)
  unfold flf
  by_cases z : i < 100
  · rw [if_pos z, if_pos (by omega)]
  · rw [if_neg z, if_neg (by omega)]
theorem PlF_19 : PlF 19 := ⟨rfl, rfl, (show cF (19 + 2) = some (pI 0 100 (fun i : Nat => if (i : Int) < 100 then -1 else 0)) from rfl).trans (congrArg some pl_row), rfl, rfl, rfl⟩
theorem PlF_31 : PlF 31 := ⟨rfl, rfl, (show cF (31 + 2) = some (pI 0 100 (fun i : Nat => if (i : Int) < 100 then -1 else 0)) from rfl).trans (congrArg some pl_row), rfl, rfl, rfl⟩
theorem PlF_179 : PlF 179 := ⟨rfl, rfl, (show cF (179 + 2) = some (pI 0 100 (fun i : Nat => if (i : Int) < 100 then -1 else 0)) from rfl).trans (congrArg some pl_row), rfl, rfl, rfl⟩
theorem PlF_193 : PlF 193 := ⟨rfl, rfl, (show cF (193 + 2) = some (pI 0 100 (fun i : Nat => if (i : Int) < 100 then -1 else 0)) from rfl).trans (congrArg some pl_row), rfl, rfl, rfl⟩
theorem K_59 {n : Nat} (h0 : cF n = some (pO 5 (snL (n + 1)))) (hp : PlF (n + 1)) (h1 : cF (n + 7) = some (z0 99)) (h2 : cF (n + 8) = some (z0 99)) (h3 : cF (n + 9) = some (z0 4)) (h4 : cF (n + 10) = some (z0 4)) (h5 : cF (n + 11) = some (z0 4)) : CtN 59 n (n + 12) 405 10 (pO 5 fs_5) 3 := by
  intro d h hd hh
  subst hh
  rw [new_T, ct_59r (show h.1 < h.1 + 1 by omega) hd]
  unfold snH
  rw [← plH_same (c := pO 2 fs_2) (show (grw h (h.1 + 1) (h.2.1 + 10)).1 < (hjnk (grw h (h.1 + 1) (h.2.1 + 10)) 1 13).1 by show h.1 + 1 < h.1 + 1 + 1; omega)]
  rw [← hnew_set (h := grw h (h.1 + 1) (h.2.1 + 10)) (sz := 13)]
  have e1 : hnew (grw h (h.1 + 1) (h.2.1 + 10)) 13 (pO 2 fs_2) = hset (grw h (h.1 + 2) (h.2.1 + 23)) (h.1 + 1) (pO 2 fs_2) := (new_O (by omega)).trans (by rw [show h.1 + 1 + 1 = h.1 + 2 by omega, show h.2.1 + 10 + 13 = h.2.1 + 23 by omega])
  rw [e1]
  have e2 : plH (hset (grw h (h.1 + 2) (h.2.1 + 23)) (h.1 + 1) (pO 2 fs_2)) (grw h (h.1 + 1) (h.2.1 + 10)).1 = grw h (h.1 + 7) (h.2.1 + 195) := by
    show plH (hset (grw h (h.1 + 2) (h.2.1 + 23)) (h.1 + 1) (pO 2 fs_2)) (h.1 + 1) = _
    rw [plH_same (by show h.1 + 1 < h.1 + 2; omega)]
    have := plH_grw (h := grw h (h.1 + 1) (h.2.1 + 10)) (n := h.1 + 1) (s := h.2.1 + 23) rfl hp
    rw [grw_grw (by omega) (by omega), grw_grw (by omega) (by omega)] at this
    exact this.trans (by rw [show h.1 + 1 + 6 = h.1 + 7 by omega, show h.2.1 + 23 + 172 = h.2.1 + 195 by omega])
  rw [e2]
  have a1 := new_A (h := h) (n := h.1 + 7) (n' := h.1 + 8) (s := h.2.1 + 195) (s' := h.2.1 + 294) (sz := 99) (by omega) rfl (by omega) h1
  have a2 := new_A (h := h) (n := h.1 + 8) (n' := h.1 + 9) (s := h.2.1 + 294) (s' := h.2.1 + 393) (sz := 99) (by omega) rfl (by omega) h2
  have a3 := new_A (h := h) (n := h.1 + 9) (n' := h.1 + 10) (s := h.2.1 + 393) (s' := h.2.1 + 397) (sz := 4) (by omega) rfl (by omega) h3
  have a4 := new_A (h := h) (n := h.1 + 10) (n' := h.1 + 11) (s := h.2.1 + 397) (s' := h.2.1 + 401) (sz := 4) (by omega) rfl (by omega) h4
  have a5 := new_A (h := h) (n := h.1 + 11) (n' := h.1 + 12) (s := h.2.1 + 401) (s' := h.2.1 + 405) (sz := 4) (by omega) rfl (by omega) h5
  rw [a1, a2, a3, a4, a5]
  show some (Sum.inl none, hset (grw h (h.1 + 12) (h.2.1 + 405)) h.1 (pO 5 (snL (h.1 + 1)))) = _
  rw [grw_fin ⟨by omega, by omega⟩ h0]
theorem K_59_18 : CtN 59 18 30 405 10 (pO 5 fs_5) 3 := K_59 rfl PlF_19 rfl rfl rfl rfl rfl
theorem K_59_30 : CtN 59 30 42 405 10 (pO 5 fs_5) 3 := K_59 rfl PlF_31 rfl rfl rfl rfl rfl
theorem R00_49 (i : Int) : R00 49 i = if 0 ≤ i ∧ i < 121 then 50 + i.toNat else 0 := rfl
theorem cM_49 : cF 49 = some (pR 6 121 (fun i => if i < 121 then some (49 + 1 + i) else none)) := by
  unfold cF
  rw [show sh0 49 = (4, 6, 121) from rfl]
  show some (pR 6 121 (fun i : Nat => if R00 49 (i : Int) = 0 then none else some (R00 49 (i : Int)))) = _
  refine congrArg (fun z => some (pR 6 121 z)) (funext fun i => ?_)
  rw [R00_49]
  by_cases h : i < 121
  · rw [if_pos (show 0 ≤ (i : Int) ∧ (i : Int) < 121 by omega), if_neg (by omega), if_pos h]; exact congrArg some (by omega)
  · rw [if_neg (show ¬ (0 ≤ (i : Int) ∧ (i : Int) < 121) by omega), if_pos rfl, if_neg h]
theorem R00_173 (i : Int) : R00 173 i = if 0 ≤ i ∧ i < 4 then 174 + i.toNat else 0 := rfl
theorem cM_173 : cF 173 = some (pR 6 4 (fun i => if i < 4 then some (173 + 1 + i) else none)) := by
  unfold cF
  rw [show sh0 173 = (4, 6, 4) from rfl]
  show some (pR 6 4 (fun i : Nat => if R00 173 (i : Int) = 0 then none else some (R00 173 (i : Int)))) = _
  refine congrArg (fun z => some (pR 6 4 z)) (funext fun i => ?_)
  rw [R00_173]
  by_cases h : i < 4
  · rw [if_pos (show 0 ≤ (i : Int) ∧ (i : Int) < 4 by omega), if_neg (by omega), if_pos h]; exact congrArg some (by omega)
  · rw [if_neg (show ¬ (0 ≤ (i : Int) ∧ (i : Int) < 4) by omega), if_pos rfl, if_neg h]
theorem cR_of {q k : Nat} (h : sh0 q = (2, 0, k) ∧ cd0 q = 0) : cF q = some (pI 0 k (fun _ => 0)) := by
  unfold cF
  rw [h.1, h.2]; rfl
theorem cR_49 : ∀ q, 49 + 1 ≤ q → q < 171 → cF q = some (pI 0 70 (fun _ => 0)) := fun q h1 h2 => by
  refine cR_of ?_
  have : ∀ k, k < 121 → sh0 (50 + k) = (2, 0, 70) ∧ cd0 (50 + k) = 0 := by decide +kernel
  have h := this (q - 50) (by omega)
  rw [show 50 + (q - 50) = q by omega] at h
  exact h
theorem cR_173 : ∀ q, 173 + 1 ≤ q → q < 178 → cF q = some (pI 0 60 (fun _ => 0)) := fun q h1 h2 => by
  refine cR_of ?_
  have : ∀ k, k < 4 → sh0 (174 + k) = (2, 0, 60) ∧ cd0 (174 + k) = 0 := by decide +kernel
  have h := this (q - 174) (by omega)
  rw [show 174 + (q - 174) = q by omega] at h
  exact h
theorem K_24_179 : CtN 24 179 185 185 13 (pO 2 fs_2) 2 := K_24 PlF_179
theorem K_24_193 : CtN 24 193 199 185 13 (pO 2 fs_2) 2 := K_24 PlF_193
theorem K_15_44 : CtN 15 44 46 11 1 (pO 1 fs_1) 1 := by
  refine ct_N (D := 0) (s1 := 0) (z := 10) (sz := 1) (fs' := [.ref 45]) hM_15 (by decide) rfl rfl (by decide) fun d s h hd hb hh => ?_
  show runP MP d 15 (0, [some (.ref 44)], [], hset (grw h 45 s) 44 (pO 1 fs_1)) = some (Sum.inl none, hset (grw h 46 (s + 10)) 44 (pO 1 [.ref 45]))
  refine q_15_0.trans ?_
  refine st_b.trans ?_
  refine (st_I 10 46 (s + 10) (by omega) (by decide) (by decide) (by decide) rfl (by omega) rfl).trans ?_
  refine (st_w [.ref 45] (.ref 45) rfl (by decide) rfl).trans ?_
  rfl
theorem K_15_46 : CtN 15 46 48 11 1 (pO 1 fs_1) 1 := by
  refine ct_N (D := 0) (s1 := 0) (z := 10) (sz := 1) (fs' := [.ref 47]) hM_15 (by decide) rfl rfl (by decide) fun d s h hd hb hh => ?_
  show runP MP d 15 (0, [some (.ref 46)], [], hset (grw h 47 s) 46 (pO 1 fs_1)) = some (Sum.inl none, hset (grw h 48 (s + 10)) 46 (pO 1 [.ref 47]))
  refine q_15_0.trans ?_
  refine st_b.trans ?_
  refine (st_I 10 48 (s + 10) (by omega) (by decide) (by decide) (by decide) rfl (by omega) rfl).trans ?_
  refine (st_w [.ref 47] (.ref 47) rfl (by decide) rfl).trans ?_
  rfl
theorem K_99_48 : CtN 99 48 171 8594 3 (pO 8 fs_8) 1 := by
  refine ct_N (D := 0) (s1 := 0) (z := 8591) (sz := 3) (fs' := [.ref 49, .int 0, .int 0]) hM_99 (by decide) rfl rfl (by decide) fun d s h hd hb hh => ?_
  show runP MP d 99 (0, [some (.ref 48)], [], hset (grw h 49 s) 48 (pO 8 fs_8)) = some (Sum.inl none, hset (grw h 171 (s + 8591)) 48 (pO 8 [.ref 49, .int 0, .int 0]))
  refine q_99_0.trans ?_
  refine st_b.trans ?_
  refine (st_M 121 70 171 (s + 8591) (by omega) (by decide) (by decide) (by decide) (by decide) rfl (by omega) cM_49 cR_49).trans ?_
  refine (st_w [.ref 49, .int 0, .int 0] (.ref 49) rfl (by decide) rfl).trans ?_
  refine (st_w [.ref 49, .int 0, .int 0] (.int 0) rfl (by decide) rfl).trans ?_
  refine (st_w [.ref 49, .int 0, .int 0] (.int 0) rfl (by decide) rfl).trans ?_
  rfl
theorem K_10_171 : CtN 10 171 178 250 2 (pO 0 fs_0) 1 := by
  refine ct_N (D := 0) (s1 := 0) (z := 248) (sz := 2) (fs' := [.ref 172, .ref 173]) hM_10 (by decide) rfl rfl (by decide) fun d s h hd hb hh => ?_
  show runP MP d 10 (0, [some (.ref 171)], [], hset (grw h 172 s) 171 (pO 0 fs_0)) = some (Sum.inl none, hset (grw h 178 (s + 248)) 171 (pO 0 [.ref 172, .ref 173]))
  refine q_10_0.trans ?_
  refine st_b.trans ?_
  refine (st_I 4 173 (s + 4) (by omega) (by decide) (by decide) (by decide) rfl (by omega) rfl).trans ?_
  refine (st_w [.ref 172, .null] (.ref 172) rfl (by decide) rfl).trans ?_
  refine (st_M 4 60 178 (s + 248) (by omega) (by decide) (by decide) (by decide) (by decide) rfl (by omega) cM_173 cR_173).trans ?_
  refine (st_w [.ref 172, .ref 173] (.ref 173) rfl (by decide) rfl).trans ?_
  rfl
theorem K_81_178 : CtN 81 178 192 49403 10 (pO 6 fs_6) 3 := by
  refine ct_N (D := 2) (s1 := 0) (z := 49393) (sz := 10) (fs' := [.ref 179, .int 0, .int 0, .ref 185, .ref 186, .ref 187, .ref 188, .ref 189, .ref 190, .ref 191]) hM_81 (by decide) rfl rfl (by decide) fun d s h hd hb hh => ?_
  show runP MP d 81 (0, [some (.ref 178)], [], hset (grw h 179 s) 178 (pO 6 fs_6)) = some (Sum.inl none, hset (grw h 192 (s + 49393)) 178 (pO 6 [.ref 179, .int 0, .int 0, .ref 185, .ref 186, .ref 187, .ref 188, .ref 189, .ref 190, .ref 191]))
  refine q_81_0.trans ?_
  refine st_b.trans ?_
  refine st_b.trans ?_
  refine (st_C K_24_179 (by omega) (s + 185) (by omega) (by decide) (by decide) (by omega) rfl).trans ?_
  refine (st_w [.ref 179, .int 0, .int 0, .null, .null, .null, .null, .null, .null, .null] (.ref 179) rfl (by decide) rfl).trans ?_
  refine (st_w [.ref 179, .int 0, .int 0, .null, .null, .null, .null, .null, .null, .null] (.int 0) rfl (by decide) rfl).trans ?_
  refine (st_w [.ref 179, .int 0, .int 0, .null, .null, .null, .null, .null, .null, .null] (.int 0) rfl (by decide) rfl).trans ?_
  refine (st_I 14 186 (s + 199) (by omega) (by decide) (by decide) (by decide) rfl (by omega) rfl).trans ?_
  refine (st_w [.ref 179, .int 0, .int 0, .ref 185, .null, .null, .null, .null, .null, .null] (.ref 185) rfl (by decide) rfl).trans ?_
  refine (st_I 14 187 (s + 213) (by omega) (by decide) (by decide) (by decide) rfl (by omega) rfl).trans ?_
  refine (st_w [.ref 179, .int 0, .int 0, .ref 185, .ref 186, .null, .null, .null, .null, .null] (.ref 186) rfl (by decide) rfl).trans ?_
  refine (st_I 14 188 (s + 227) (by omega) (by decide) (by decide) (by decide) rfl (by omega) rfl).trans ?_
  refine (st_w [.ref 179, .int 0, .int 0, .ref 185, .ref 186, .ref 187, .null, .null, .null, .null] (.ref 187) rfl (by decide) rfl).trans ?_
  refine (st_I 14 189 (s + 241) (by omega) (by decide) (by decide) (by decide) rfl (by omega) rfl).trans ?_
  refine (st_w [.ref 179, .int 0, .int 0, .ref 185, .ref 186, .ref 187, .ref 188, .null, .null, .null] (.ref 188) rfl (by decide) rfl).trans ?_
  refine (st_J 16384 190 (s + 16625) (by omega) (by decide) (by decide) (by decide) rfl (by omega) rfl).trans ?_
  refine (st_w [.ref 179, .int 0, .int 0, .ref 185, .ref 186, .ref 187, .ref 188, .ref 189, .null, .null] (.ref 189) rfl (by decide) rfl).trans ?_
  refine (st_J 16384 191 (s + 33009) (by omega) (by decide) (by decide) (by decide) rfl (by omega) rfl).trans ?_
  refine (st_w [.ref 179, .int 0, .int 0, .ref 185, .ref 186, .ref 187, .ref 188, .ref 189, .ref 190, .null] (.ref 190) rfl (by decide) rfl).trans ?_
  refine (st_I 16384 192 (s + 49393) (by omega) (by decide) (by decide) (by decide) rfl (by omega) rfl).trans ?_
  refine (st_w [.ref 179, .int 0, .int 0, .ref 185, .ref 186, .ref 187, .ref 188, .ref 189, .ref 190, .ref 191] (.ref 191) rfl (by decide) rfl).trans ?_
  rfl
theorem K_106_192 : CtN 106 192 201 204 5 (pO 10 fs_10) 3 := by
  refine ct_N (D := 2) (s1 := 0) (z := 199) (sz := 5) (fs' := [.ref 193, .int 0, .int 0, .ref 199, .ref 200]) hM_106 (by decide) rfl rfl (by decide) fun d s h hd hb hh => ?_
  show runP MP d 106 (0, [some (.ref 192)], [], hset (grw h 193 s) 192 (pO 10 fs_10)) = some (Sum.inl none, hset (grw h 201 (s + 199)) 192 (pO 10 [.ref 193, .int 0, .int 0, .ref 199, .ref 200]))
  refine q_106_0.trans ?_
  refine st_b.trans ?_
  refine st_b.trans ?_
  refine (st_C K_24_193 (by omega) (s + 185) (by omega) (by decide) (by decide) (by omega) rfl).trans ?_
  refine (st_w [.ref 193, .int 0, .int 0, .null, .null] (.ref 193) rfl (by decide) rfl).trans ?_
  refine (st_w [.ref 193, .int 0, .int 0, .null, .null] (.int 0) rfl (by decide) rfl).trans ?_
  refine (st_w [.ref 193, .int 0, .int 0, .null, .null] (.int 0) rfl (by decide) rfl).trans ?_
  refine (st_I 7 200 (s + 192) (by omega) (by decide) (by decide) (by decide) rfl (by omega) rfl).trans ?_
  refine (st_w [.ref 193, .int 0, .int 0, .ref 199, .null] (.ref 199) rfl (by decide) rfl).trans ?_
  refine (st_I 7 201 (s + 199) (by omega) (by decide) (by decide) (by decide) rfl (by omega) rfl).trans ?_
  refine (st_w [.ref 193, .int 0, .int 0, .ref 199, .ref 200] (.ref 200) rfl (by decide) rfl).trans ?_
  rfl
theorem K_54_201 : CtN 54 201 205 8229 5 (pO 4 fs_4) 1 := by
  refine ct_N (D := 0) (s1 := 0) (z := 8224) (sz := 5) (fs' := [.ref 202, .int 0, .int (-1), .ref 203, .ref 204]) hM_54 (by decide) rfl rfl (by decide) fun d s h hd hb hh => ?_
  show runP MP d 54 (0, [some (.ref 201)], [], hset (grw h 202 s) 201 (pO 4 fs_4)) = some (Sum.inl none, hset (grw h 205 (s + 8224)) 201 (pO 4 [.ref 202, .int 0, .int (-1), .ref 203, .ref 204]))
  refine q_54_0.trans ?_
  refine st_b.trans ?_
  refine (st_I 32 203 (s + 32) (by omega) (by decide) (by decide) (by decide) rfl (by omega) rfl).trans ?_
  refine (st_w [.ref 202, .int 0, .int 0, .null, .null] (.ref 202) rfl (by decide) rfl).trans ?_
  refine (st_w [.ref 202, .int 0, .int 0, .null, .null] (.int 0) rfl (by decide) rfl).trans ?_
  refine (st_w [.ref 202, .int 0, .int (-1), .null, .null] (.int (-1)) rfl (by decide) rfl).trans ?_
  refine (st_I 4096 204 (s + 4128) (by omega) (by decide) (by decide) (by decide) rfl (by omega) rfl).trans ?_
  refine (st_w [.ref 202, .int 0, .int (-1), .ref 203, .null] (.ref 203) rfl (by decide) rfl).trans ?_
  refine (st_I 4096 205 (s + 8224) (by omega) (by decide) (by decide) (by decide) rfl (by omega) rfl).trans ?_
  refine (st_w [.ref 202, .int 0, .int (-1), .ref 203, .ref 204] (.ref 204) rfl (by decide) rfl).trans ?_
  rfl
theorem K_103_205 : CtN 103 205 207 4098 2 (pO 9 fs_9) 1 := by
  refine ct_N (D := 0) (s1 := 0) (z := 4096) (sz := 2) (fs' := [.int 0, .ref 206]) hM_103 (by decide) rfl rfl (by decide) fun d s h hd hb hh => ?_
  show runP MP d 103 (0, [some (.ref 205)], [], hset (grw h 206 s) 205 (pO 9 fs_9)) = some (Sum.inl none, hset (grw h 207 (s + 4096)) 205 (pO 9 [.int 0, .ref 206]))
  refine q_103_0.trans ?_
  refine st_b.trans ?_
  refine (st_w [.int 0, .null] (.int 0) rfl (by decide) rfl).trans ?_
  refine (st_J 4096 207 (s + 4096) (by omega) (by decide) (by decide) (by decide) rfl (by omega) rfl).trans ?_
  refine (st_w [.int 0, .ref 206] (.ref 206) rfl (by decide) rfl).trans ?_
  rfl
theorem K_93_209 : CtN 93 209 211 33 3 (pO 7 fs_7) 1 := by
  refine ct_N (D := 0) (s1 := 0) (z := 30) (sz := 3) (fs' := [.int (-1), .int 0, .ref 210]) hM_93 (by decide) rfl rfl (by decide) fun d s h hd hb hh => ?_
  show runP MP d 93 (0, [some (.ref 209)], [], hset (grw h 210 s) 209 (pO 7 fs_7)) = some (Sum.inl none, hset (grw h 211 (s + 30)) 209 (pO 7 [.int (-1), .int 0, .ref 210]))
  refine q_93_0.trans ?_
  refine st_b.trans ?_
  refine (st_w [.int (-1), .int 0, .null] (.int (-1)) rfl (by decide) rfl).trans ?_
  refine (st_w [.int (-1), .int 0, .null] (.int 0) rfl (by decide) rfl).trans ?_
  refine (st_J 30 211 (s + 30) (by omega) (by decide) (by decide) (by decide) rfl (by omega) rfl).trans ?_
  refine (st_w [.int (-1), .int 0, .ref 210] (.ref 210) rfl (by decide) rfl).trans ?_
  rfl
theorem K_93_211 : CtN 93 211 213 33 3 (pO 7 fs_7) 1 := by
  refine ct_N (D := 0) (s1 := 0) (z := 30) (sz := 3) (fs' := [.int (-1), .int 0, .ref 212]) hM_93 (by decide) rfl rfl (by decide) fun d s h hd hb hh => ?_
  show runP MP d 93 (0, [some (.ref 211)], [], hset (grw h 212 s) 211 (pO 7 fs_7)) = some (Sum.inl none, hset (grw h 213 (s + 30)) 211 (pO 7 [.int (-1), .int 0, .ref 212]))
  refine q_93_0.trans ?_
  refine st_b.trans ?_
  refine (st_w [.int (-1), .int 0, .null] (.int (-1)) rfl (by decide) rfl).trans ?_
  refine (st_w [.int (-1), .int 0, .null] (.int 0) rfl (by decide) rfl).trans ?_
  refine (st_J 30 213 (s + 30) (by omega) (by decide) (by decide) (by decide) rfl (by omega) rfl).trans ?_
  refine (st_w [.int (-1), .int 0, .ref 212] (.ref 212) rfl (by decide) rfl).trans ?_
  rfl
theorem K_93_213 : CtN 93 213 215 33 3 (pO 7 fs_7) 1 := by
  refine ct_N (D := 0) (s1 := 0) (z := 30) (sz := 3) (fs' := [.int (-1), .int 0, .ref 214]) hM_93 (by decide) rfl rfl (by decide) fun d s h hd hb hh => ?_
  show runP MP d 93 (0, [some (.ref 213)], [], hset (grw h 214 s) 213 (pO 7 fs_7)) = some (Sum.inl none, hset (grw h 215 (s + 30)) 213 (pO 7 [.int (-1), .int 0, .ref 214]))
  refine q_93_0.trans ?_
  refine st_b.trans ?_
  refine (st_w [.int (-1), .int 0, .null] (.int (-1)) rfl (by decide) rfl).trans ?_
  refine (st_w [.int (-1), .int 0, .null] (.int 0) rfl (by decide) rfl).trans ?_
  refine (st_J 30 215 (s + 30) (by omega) (by decide) (by decide) (by decide) rfl (by omega) rfl).trans ?_
  refine (st_w [.int (-1), .int 0, .ref 214] (.ref 214) rfl (by decide) rfl).trans ?_
  rfl
theorem K_93_215 : CtN 93 215 217 33 3 (pO 7 fs_7) 1 := by
  refine ct_N (D := 0) (s1 := 0) (z := 30) (sz := 3) (fs' := [.int (-1), .int 0, .ref 216]) hM_93 (by decide) rfl rfl (by decide) fun d s h hd hb hh => ?_
  show runP MP d 93 (0, [some (.ref 215)], [], hset (grw h 216 s) 215 (pO 7 fs_7)) = some (Sum.inl none, hset (grw h 217 (s + 30)) 215 (pO 7 [.int (-1), .int 0, .ref 216]))
  refine q_93_0.trans ?_
  refine st_b.trans ?_
  refine (st_w [.int (-1), .int 0, .null] (.int (-1)) rfl (by decide) rfl).trans ?_
  refine (st_w [.int (-1), .int 0, .null] (.int 0) rfl (by decide) rfl).trans ?_
  refine (st_J 30 217 (s + 30) (by omega) (by decide) (by decide) (by decide) rfl (by omega) rfl).trans ?_
  refine (st_w [.int (-1), .int 0, .ref 216] (.ref 216) rfl (by decide) rfl).trans ?_
  rfl
end S94zzzzzq
