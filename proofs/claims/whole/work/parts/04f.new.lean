/-! SOUND, part f: new cells, arraycopy, Object.<init>, ends -/
section NW
variable {B : BigP} {I : Nat → InfP} {i : InfP} {pc nx : Nat}
def k_new (ci : Nat) (fs : List Value) : List Value → HeapP → Option (Option HeapP × List Value) := fun st h => some (some (hnew h fs.length (pO ci fs)), .ref h.1 :: st)
theorem g_new {idx ci N : Nat} {C : String} {T : u_T} {ty0 : Nat → FieldType} {fs : List Value} (hd : decode i.2.1 pc = .ok (.new idx, 3)) (hn : pc + 3 = nx) (hc : clsP[ci]? = some (C, T, N)) (hin : ∀ w ∈ u_ws C T N, w ∈ lw_tbl) (hty : ∀ k, k < N → parseFieldDescriptor (T k).2.2.1 = some (ty0 k)) (hfs : ∀ j, j < N → defaultValue (ty0 j) = vp_V fs j) (hfl : fs.length = N) (hmap : ∀ E, fs.map (vmP E) = fs)
    (hw1 : Cond.classLink i.1.cls idx C ∈ lw_tbl) (hw2 : Cond.instantiable C N ∈ lw_tbl) (hw3 : Cond.initialized C ∈ lw_tbl) : GdP B I i pc (s_wr (k_new ci fs) nx) := by
  subst hn
  refine g_wr fun st h st' h' hq => ?_
  cases hq
  refine ⟨⟨Nat.le_succ _, Nat.le_add_right _ _⟩, ?_⟩
  intro p e R s m args below meth cd H locs cells slots Q lm hx hb ho hnm9 hml hG hR hS _ _ hc1 hs1 kk
  have hts : ∀ w ∈ u_ws C T N, w.before args s = true := fun w hw => hG.2.1 w (hin w hw) (u_ws_good w hw) _
  have hKn := hG.1.1 ci _ hc
  have hc1 : cells + (h.1 + 1 - h.1) ≤ R.cells := hc1
  have hs1 : slots + (h.2.1 + fs.length - h.2.1) ≤ R.slots := hs1
  refine W.newcK hx hb ho (hG.2.1 _ hw1 rfl _) (hG.2.1 _ hw2 rfl _) (hG.2.1 _ hw3 rfl _) rfl hd (by omega) (by omega) hKn.2.1 rfl fun H1 kC hkC e1 z1 o1 => ?_
  have hsz := hR.size
  have hrep : repP (bE B) (hnew h fs.length (pO ci fs)) H1 := hR.new trivial ⟨_, hc, (u_born ty0 hts (fun w hw => hw) hKn hkC e1 hty).to (fun k hk => by rw [hfs k hk]; show _ = vp_V (fs.map (vmP (bE B))) k; rw [hmap])⟩ z1 o1
  have hk := kk H1 locs hrep ⟨Nat.le_trans hS.1 (by omega), fun x h1 h2 => (o1 x (Nat.lt_of_lt_of_le h1 hS.1)).trans (hS.2.1 x h1 h2), hS.2.2⟩
  have e2 : vmP (bE B) (.ref h.1) = .ref H.size := by show Value.ref (adP (bE B) h.1) = _; rw [hsz]
  rw [List.map_cons, e2] at hk
  refine W.cs ?_ ?_ hk
  · show cells + 1 = cells + (h.1 + 1 - h.1); omega
  · show slots + N = slots + (h.2.1 + fs.length - h.2.1); omega
def k_newI (ty : Nat) : List Value → HeapP → Option (Option HeapP × List Value) := fun st h => match st with
  | .int n :: st => some (newI h ty n, .ref h.1 :: st)
  | _ => none
def k_newJ : List Value → HeapP → Option (Option HeapP × List Value) := fun st h => match st with
  | .int n :: st => some (newJ h n, .ref h.1 :: st)
  | _ => none
def k_newR (ty : Nat) : List Value → HeapP → Option (Option HeapP × List Value) := fun st h => match st with
  | .int n :: st => some (newR h ty n, .ref h.1 :: st)
  | _ => none
def k_newM : List Value → HeapP → Option (Option HeapP × List Value) := fun st h => match st with
  | .int k :: .int n :: st => some (newM h n k, .ref h.1 :: st)
  | _ => none
theorem inb_nlt {x : Int32} {n : Nat} (h : inb x n = true) : ¬ x < 0 ∧ x.toNatClampNeg < n := by
  unfold inb at h
  rw [Bool.and_eq_true, decide_eq_true_eq, decide_eq_true_eq] at h
  exact ⟨Int32.not_lt.mpr h.1, h.2⟩
theorem row_newP {at9 : ArrayType} {t : Nat} {n : Int32} {st' : List Value} {h : HeapP} {c : CellP} {a0 : vp_A} (hd : decode i.2.1 pc = .ok (.newarray at9, 2)) (hn : pc + 2 = nx) (ht : t < 4) (hty : newarray.typeOf at9 = tyP t) (hw1 : Cond.arrayClass (newarray.typeOf at9) ∈ lw_tbl) (hbt : componentBytes (newarray.typeOf at9) ≤ 8) (hin : inb n 100000 = true) (hok : okP c)
    (hc : ∀ E, enP E c = .inl (eC E t, a0)) (ha : ∀ cA : ClassId, vp_cell cA a0 = arrV cA n.toNatClampNeg (fun _ => defaultValue (newarray.typeOf at9))) (hra : ∀ (U : State) (cA : ClassId), va_RA U cA (tyP t) → U.vm.findClass ("[" ++ (tyP t).toString) = some cA) : rowW B i pc nx (.int n :: st') (.ref h.1 :: st') h (hnew h n.toNatClampNeg c) := by
  subst hn
  refine ⟨⟨Nat.le_succ _, Nat.le_add_right _ _⟩, ?_⟩
  intro p e R s m args below meth cd H locs cells slots Q lm hx hb ho hnm9 hml hG hR hS _ _ hc1 hs1 kk
  have hc1 : cells + (h.1 + 1 - h.1) ≤ R.cells := hc1
  have hs1 : slots + (h.2.1 + n.toNatClampNeg - h.2.1) ≤ R.slots := hs1
  obtain ⟨n1, n2⟩ := inb_nlt hin
  refine va_newaK hx hb (hG.2.1 _ hw1 rfl _) rfl hd rfl n1 rfl (Nat.le_trans (Nat.mul_le_mul (Nat.le_of_lt n2) hbt) (by omega)) (by omega) (by omega) rfl fun H1 cA e1 z1 o1 hAr hNm => ?_
  have e3 : cA = eC (bE B) t := by
    have h9 := hra s _ (hG.1.2 t _ (tysP_at (by omega))).2
    rw [← hty] at h9
    exact Option.some.inj (hNm.symm.trans h9)
  have hsz := hR.size
  have hrep : repP (bE B) (hnew h n.toNatClampNeg c) H1 := hR.new hok (by
    rw [hc]
    show H1[H.size]? = some (vp_cell _ _)
    rw [ha, ← e3]
    exact e1) z1 o1
  have hk := kk H1 locs hrep ⟨Nat.le_trans hS.1 (by omega), fun x h1 h2 => (o1 x (Nat.lt_of_lt_of_le h1 hS.1)).trans (hS.2.1 x h1 h2), hS.2.2⟩
  have e2 : vmP (bE B) (.ref h.1) = .ref H.size := by show Value.ref (adP (bE B) h.1) = _; rw [hsz]
  rw [List.map_cons, e2] at hk
  refine W.cs ?_ ?_ hk
  · show cells + 1 = cells + (h.1 + 1 - h.1); omega
  · show slots + n.toNatClampNeg = slots + (h.2.1 + n.toNatClampNeg - h.2.1); omega
theorem g_newI {at9 : ArrayType} {t : Nat} (hd : decode i.2.1 pc = .ok (.newarray at9, 2)) (hn : pc + 2 = nx) (ht : (t = 0 ∧ at9 = .int) ∨ (t = 1 ∧ at9 = .byte) ∨ (t = 2 ∧ at9 = .boolean)) (hw1 : Cond.arrayClass (newarray.typeOf at9) ∈ lw_tbl) : GdP B I i pc (s_wr (k_newI t) nx) := by
  refine g_wr fun st h st' h' hq => ?_
  unfold k_newI at hq
  split at hq
  · rename_i n st9
    injection hq with hq; injection hq with q1 q2; subst q2
    unfold newI at q1
    split at q1
    · rename_i hi
      cases q1
      rcases ht with ⟨rfl, rfl⟩ | ⟨rfl, rfl⟩ | ⟨rfl, rfl⟩
      · exact row_newP (t := 0) (a0 := (n.toNatClampNeg, .inl (fun _ => 0))) hd hn (by omega) rfl hw1 (by decide) hi (by show (0 : Nat) < 3; omega) (fun E => rfl) (fun cA => by rw [vp_cell_i]; rfl) (fun U cA h => h)
      · exact row_newP (t := 1) (a0 := (n.toNatClampNeg, .inl (fun _ => 0))) hd hn (by omega) rfl hw1 (by decide) hi (by show (1 : Nat) < 3; omega) (fun E => rfl) (fun cA => by rw [vp_cell_i]; rfl) (fun U cA h => h)
      · exact row_newP (t := 2) (a0 := (n.toNatClampNeg, .inl (fun _ => 0))) hd hn (by omega) rfl hw1 (by decide) hi (by show (2 : Nat) < 3; omega) (fun E => rfl) (fun cA => by rw [vp_cell_i]; rfl) (fun U cA h => h)
    · cases q1
  · cases hq
theorem g_newJ (hd : decode i.2.1 pc = .ok (.newarray .long, 2)) (hn : pc + 2 = nx) (hw1 : Cond.arrayClass (newarray.typeOf .long) ∈ lw_tbl) : GdP B I i pc (s_wr k_newJ nx) := by
  refine g_wr fun st h st' h' hq => ?_
  unfold k_newJ at hq
  split at hq
  · rename_i n st9
    injection hq with hq; injection hq with q1 q2; subst q2
    unfold newJ at q1
    split at q1
    · rename_i hi
      cases q1
      exact row_newP (t := 3) (a0 := (n.toNatClampNeg, .inr (.inl (fun _ => 0)))) hd hn (by omega) rfl hw1 (by decide) hi trivial (fun E => rfl) (fun cA => by rw [vp_cell_l]; rfl) (fun U cA h => h)
    · cases q1
  · cases hq
theorem g_newR {idx t : Nat} {C : String} (hd : decode i.2.1 pc = .ok (.anewarray idx, 3)) (hn : pc + 3 = nx) (ht : (t = 4 ∧ C = "SnowKeeps$Snow") ∨ (t = 5 ∧ C = "SnowKeeps$Tray")) (hw1 : Cond.classLink i.1.cls idx C ∈ lw_tbl) : GdP B I i pc (s_wr (k_newR t) nx) := by
  subst hn
  refine g_wr fun st h st' h' hq => ?_
  unfold k_newR at hq
  split at hq
  · rename_i n st9
    injection hq with hq; injection hq with q1 q2; subst q2
    unfold newR at q1
    split at q1
    · rename_i hi
      cases q1
      refine ⟨⟨Nat.le_succ _, Nat.le_add_right _ _⟩, ?_⟩
      intro p e R s m args below meth cd H locs cells slots Q lm hx hb ho hnm9 hml hG hR hS _ _ hc1 hs1 kk
      have hc1 : cells + (h.1 + 1 - h.1) ≤ R.cells := hc1
      have hs1 : slots + (h.2.1 + n.toNatClampNeg - h.2.1) ≤ R.slots := hs1
      obtain ⟨n1, n2⟩ := inb_nlt hi
      have htC : tyP t = .object C := by rcases ht with ⟨rfl, rfl⟩ | ⟨rfl, rfl⟩ <;> rfl
      have ht7 : t < 7 ∧ 4 ≤ t := by omega
      have hao : va_AO C s := by
        rcases ht with ⟨rfl, rfl⟩ | ⟨rfl, rfl⟩
        · exact hG.2.2.2.2.2.2.2.2.2.1
        · exact hG.2.2.2.2.2.2.2.2.2.2.1
      refine W.anew hx hb ho (hG.2.1 _ hw1 rfl _) (va_AO.use hao) rfl hd rfl n1 (by omega) (by omega) (by omega) fun cA kA comp f1 f2 f3 f4 => ?_
      have e3 : cA = eC (bE B) t := by
        have h9 := (hG.1.2 t _ (tysP_at ht7.1)).2
        rw [htC] at h9
        obtain ⟨_, _, _, _, _, h4⟩ := h9
        exact Option.some.inj (f1.symm.trans h4)
      have hsz := hR.size
      generalize hH1 : H.push ({ cls := cA, slots := Array.replicate n.toNatClampNeg .null, vm := .none } : Cell) = H1
      have z1 : H1.size = H.size + 1 := by rw [← hH1, Array.size_push]
      have e1 : H1[H.size]? = some (arrV cA n.toNatClampNeg (fun _ => .null)) := by rw [← hH1, Array.getElem?_push_size, ← arrV_new]
      have o1 : ∀ q : Nat, q < H.size → H1[q]? = H[q]? := fun q hq => by rw [← hH1, Array.getElem?_push, if_neg (Nat.ne_of_lt hq)]
      have hrep : repP (bE B) (hnew h n.toNatClampNeg (pR t n.toNatClampNeg (fun _ => none))) H1 := hR.new ⟨ht7.2, ht7.1⟩ (by
        show H1[H.size]? = some (vp_cell _ _)
        rw [vp_cell_q, ← e3]
        exact e1) z1 o1
      have hk := kk H1 locs hrep ⟨Nat.le_trans hS.1 (by omega), fun x h1 h2 => (o1 x (Nat.lt_of_lt_of_le h1 hS.1)).trans (hS.2.1 x h1 h2), hS.2.2⟩
      have e2 : vmP (bE B) (.ref h.1) = .ref H.size := by show Value.ref (adP (bE B) h.1) = _; rw [hsz]
      rw [List.map_cons, e2] at hk
      refine W.cs ?_ ?_ hk
      · show cells + 1 = cells + (h.1 + 1 - h.1); omega
      · show slots + n.toNatClampNeg = slots + (h.2.1 + n.toNatClampNeg - h.2.1); omega
    · cases q1
  · cases hq
theorem g_newM {idx : Nat} (hd : decode i.2.1 pc = .ok (.multianewarray idx 2, 4)) (hn : pc + 4 = nx) (hw1 : Cond.classLink i.1.cls idx ("[" ++ (FieldType.array .int).toString) ∈ lw_tbl) (hw2 : Cond.arrayClass .int ∈ lw_tbl) : GdP B I i pc (s_wr k_newM nx) := by
  subst hn
  refine g_wr fun st h st' h' hq => ?_
  unfold k_newM at hq
  split at hq
  · rename_i k n st9
    injection hq with hq; injection hq with q1 q2; subst q2
    unfold newM at q1
    split at q1
    · rename_i hi
      obtain ⟨hi1, hi2⟩ := hi
      cases q1
      have hcnt : (hrows (hnew h n.toNatClampNeg (pR 6 n.toNatClampNeg (fun i => if i < n.toNatClampNeg then some (h.1 + 1 + i) else none))) n.toNatClampNeg k.toNatClampNeg).1 = h.1 + 1 + n.toNatClampNeg := rfl
      have hslt : (hrows (hnew h n.toNatClampNeg (pR 6 n.toNatClampNeg (fun i => if i < n.toNatClampNeg then some (h.1 + 1 + i) else none))) n.toNatClampNeg k.toNatClampNeg).2.1 = h.2.1 + n.toNatClampNeg + n.toNatClampNeg * k.toNatClampNeg := rfl
      refine ⟨⟨by rw [hcnt]; omega, by rw [hslt]; omega⟩, ?_⟩
      intro p e R s m args below meth cd H locs cells slots Q lm hx hb ho hnm9 hml hG hR hS _ _ hc1 hs1 kk
      rw [hcnt] at hc1
      rw [hslt] at hs1
      obtain ⟨n1, n2⟩ := inb_nlt hi1
      obtain ⟨k1, k2⟩ := inb_nlt hi2
      intro T hT Xs
      have hover : va_AOA .int s := hG.2.2.2.2.2.2.2.2.2.2.2.1
      obtain ⟨vm₁, cA, comp, -, fA, fC, hO, -, X', step⟩ := Xs.multianewarray2F (ty := .int) hx ho (hG.2.1 _ hw1 rfl _) (va_AOA.use hover) (hG.2.1 _ hw2 rfl _) (g := F0 m pc lm (.int k :: .int n :: st9.map (vmP (bE B)))) rfl (by rw [hb]; exact hd) rfl n1 k1 (by omega) (Nat.le_trans (Nat.mul_le_mul (Nat.le_of_lt k2) (by decide : componentBytes .int ≤ 8)) (by omega)) (by omega) rfl rfl (by omega) (by omega)
      have e3 : cA = eC (bE B) 6 := by
        have h9 : s.vm.findClass ("[" ++ (FieldType.array .int).toString) = some (eC (bE B) 6) := (hG.1.2 6 _ (tysP_at (by omega))).2
        exact Option.some.inj (fA.symm.trans h9)
      have e4 : comp = eC (bE B) 0 := by
        have h9 : s.vm.findClass ("[" ++ (FieldType.int).toString) = some (eC (bE B) 0) := (hG.1.2 0 _ (tysP_at (by omega))).2
        exact Option.some.inj (fC.symm.trans h9)
      subst e3; subst e4
      generalize hF : Jvm.Free.Multi.fill (T.setVm vm₁) (eC (bE B) 6) (eC (bE B) 0) n.toNatClampNeg k.toNatClampNeg (defaultValue .int) n.toNatClampNeg = F at X' step
      have hTh : (T.setVm vm₁).heap = H := hT
      obtain ⟨f1, f2, f3, f4⟩ := Jvm.Free.Multi.fill_facts (T.setVm vm₁) (eC (bE B) 6) (eC (bE B) 0) n.toNatClampNeg k.toNatClampNeg (defaultValue .int) n.toNatClampNeg
      rw [hF, hTh] at f1 f2
      have hold : ∀ x : Nat, x < H.size → F.heap[x]? = H[x]? := fun x hx => by
        have := Jvm.Free.Multi.fill_old (T.setVm vm₁) (eC (bE B) 6) (eC (bE B) 0) n.toNatClampNeg k.toNatClampNeg (defaultValue .int) (a := x) (by rw [hTh]; exact hx) n.toNatClampNeg
        rw [hF, hTh] at this
        exact this
      have hrow : ∀ j : Nat, j < n.toNatClampNeg → F.heap[H.size + 1 + j]? = some (vp_cell (eC (bE B) 0) (k.toNatClampNeg, .inl (fun _ => 0))) := fun j hj => by
        have := Jvm.Free.Multi.fill_inner (T.setVm vm₁) (eC (bE B) 6) (eC (bE B) 0) n.toNatClampNeg k.toNatClampNeg (defaultValue .int) n.toNatClampNeg j hj
        rw [hF, hTh] at this
        rw [this, vp_cell_i]
        show some ({ cls := _, slots := Array.replicate _ _, vm := .none } : Cell) = _
        rw [arrV_new]
        rfl
      have hout : Jvm.Free.Multi.outerC (eC (bE B) 6) n.toNatClampNeg H.size n.toNatClampNeg = vp_cell (eC (bE B) 6) (n.toNatClampNeg, .inr (.inr (.inr (.inr (fun i => if i < n.toNatClampNeg then some (H.size + 1 + i) else none))))) := by
        rw [vp_cell_q]
        exact vr_outer _ n.toNatClampNeg H.size n.toNatClampNeg
      rw [hout] at f2
      have hsz := hR.size
      have fz : F.heap.size = H.size + 1 + n.toNatClampNeg := f1
      -- the outer array first, seen in a heap cut behind it
      have hlt16 := hR.2.1
      have hr1 := hR.1
      have hrep : repP (bE B) (hrows (hnew h n.toNatClampNeg (pR 6 n.toNatClampNeg (fun i => if i < n.toNatClampNeg then some (h.1 + 1 + i) else none))) n.toNatClampNeg k.toNatClampNeg) F.heap := by
        refine ⟨by rw [hcnt, fz]; omega, by rw [hcnt]; omega, fun q d hq => ?_⟩
        rw [hcnt]
        by_cases e9 : h.1 + 1 ≤ q ∧ q < h.1 + 1 + n.toNatClampNeg
        · have : some (pI 0 k.toNatClampNeg (fun _ => 0)) = some d := by
            rw [← hq]
            show _ = (if h.1 + 1 ≤ q ∧ q < h.1 + 1 + n.toNatClampNeg then _ else _)
            rw [if_pos e9]
          cases this
          refine Or.inr ⟨by omega, by omega, by show (0 : Nat) < 3; omega, ?_⟩
          have := hrow (q - (h.1 + 1)) (by omega)
          rw [show H.size + 1 + (q - (h.1 + 1)) = adP (bE B) q by rw [adP_new (by omega)]; omega] at this
          exact this
        · have hq2 : (hnew h n.toNatClampNeg (pR 6 n.toNatClampNeg (fun i => if i < n.toNatClampNeg then some (h.1 + 1 + i) else none))).2.2 q = some d := by
            rw [← hq]
            show _ = (if h.1 + 1 ≤ q ∧ q < h.1 + 1 + n.toNatClampNeg then _ else _)
            rw [if_neg e9]
          by_cases e8 : q = h.1
          · subst e8
            have : some (pR 6 n.toNatClampNeg (fun i => if i < n.toNatClampNeg then some (h.1 + 1 + i) else none)) = some d := by simpa [hnew] using hq2
            cases this
            refine Or.inr ⟨hlt16, by omega, ⟨by omega, by omega⟩, ?_⟩
            show F.heap[adP (bE B) h.1]? = some (vp_cell (eC (bE B) 6) (n.toNatClampNeg, .inr (.inr (.inr (.inr (fun i => (if i < n.toNatClampNeg then some (h.1 + 1 + i) else none).map (adP (bE B))))))))
            rw [hsz, f2]
            congr 6
            refine congrArg Sum.inr (funext fun j => ?_)
            by_cases hj : j < n.toNatClampNeg
            · simp only [if_pos hj, Option.map_some]
              congr 1
              rw [adP_new (by omega)]
              omega
            · simp only [if_neg hj, Option.map_none]
          · have hk' : h.2.2 q = some d := by simpa [hnew, e8] using hq2
            rcases hR.2.2 q d hk' with q9 | ⟨q1, q2, q3, q4⟩
            · exact Or.inl q9
            · exact Or.inr ⟨q1, by omega, q3, q4.kept (hold _ q4.lt)⟩
      have hk := kk F.heap locs hrep ⟨Nat.le_trans hS.1 (by omega), fun x h1 h2 => (hold x (Nat.lt_of_lt_of_le h1 hS.1)).trans (hS.2.1 x h1 h2), hS.2.2⟩
      have e2 : vmP (bE B) (.ref h.1) = .ref H.size := by show Value.ref (adP (bE B) h.1) = _; rw [hsz]
      rw [List.map_cons, e2] at hk
      have hk2 := W.cs (cells := cells + 1 + n.toNatClampNeg) (slots := slots + n.toNatClampNeg + n.toNatClampNeg * k.toNatClampNeg) (by rw [hcnt]; omega) (by rw [hslt]; omega) hk
      obtain ⟨t, a1, b1⟩ := hk2 F rfl X'
      refine ⟨t, step t ?_, b1⟩
      rw [hT]
      exact a1
    · cases q1
  · cases hq
/-- System.arraycopy, int arrays -/
def k_acp : List Value → HeapP → Option (Option HeapP × List Value) := fun st h => match st with
  | .int n :: .int dp :: .ref a :: .int sp :: .ref a0 :: st => bif Nat.ble (st.map fun v => v.category).sum 8 then some (acpI h a0 sp a dp n, st) else none
  | _ => none
theorem cat_map {E : EnvP} (st : List Value) : ((st.map (vmP E)).map fun v => v.category) = st.map fun v => v.category := by
  rw [List.map_map]
  apply List.map_congr_left
  intro v _
  exact vmP_cat v
theorem g_acp {idx : Nat} (hd : decode i.2.1 pc = .ok (.invokestatic idx, 3)) (hn : pc + 3 = nx) (hw1 : Cond.methodLink i.1.cls idx arraycopyName ∈ lw_tbl) (hw2 : Cond.native arraycopyName ∈ lw_tbl) (hw3 : Cond.static arraycopyName ∈ lw_tbl) (hw4 : Cond.initialized "java/lang/System" ∈ lw_tbl) : GdP B I i pc (s_wr k_acp nx) := by
  subst hn
  refine g_wr fun st h st' h' hq => ?_
  unfold k_acp at hq
  split at hq
  · rename_i n dp a sp a0 st9
    cases hcat : Nat.ble (st9.map fun v => v.category).sum 8 with
    | false => rw [hcat] at hq; cases hq
    | true =>
      rw [hcat] at hq
      injection hq with hq; injection hq with q1 q2; subst q2
      unfold acpI at q1
      split at q1
      · rename_i t0 n0 f t1 n1 g hc0 hc1
        split at q1
        · rename_i hh
          obtain ⟨rfl, rfl, h1, h2, h3, h4, h5⟩ := hh
          cases q1
          refine ⟨hleP.rfl', ?_⟩
          intro p e R s m args below meth cd H locs cells slots Q lm hx hb ho hnm9 hml hG hR hS hf1 hl1 _ _ kk
          obtain ⟨r1, r2, r3, r4⟩ := hR.get hc1 (pI_ne9 (by decide))
          obtain ⟨-, -, -, w4⟩ := hR.get hc0 (pI_ne9 (by decide))
          have nn : ∀ z : Int32, ¬ z < 0 → z.toInt = (z.toNatClampNeg : Int) := by
            intro z hz
            have hz0 : (0 : Int) ≤ z.toInt := by
              have := Int32.not_lt.mp hz
              simpa using Int32.le_iff_toInt_le.mp this
            show z.toInt = ((z.toInt.toNat : Nat) : Int)
            omega
          have h1 := Int32.not_lt.mpr h1
          have h2 := Int32.not_lt.mpr h2
          have h3 := Int32.not_lt.mpr h3
          intro T hT X
          have hd0 : H[adP (bE B) a0]? = some (vp_cell (eC (bE B) 0) (n0, .inl f)) := w4
          have hd1 : H[adP (bE B) a]? = some (vp_cell (eC (bE B) 0) (n1, .inl g)) := r4
          obtain ⟨-, k0, hk0, cm0, hkk0⟩ := (hG.1.2 0 _ (tysP_at (by omega))).1 n0 (fun j => .int (f j))
          obtain ⟨-, k1, hk1, cm1, hkk1⟩ := (hG.1.2 0 _ (tysP_at (by omega))).1 n1 (fun j => .int (g j))
          obtain ⟨vm', X', step⟩ := X.arraycopy hx ho (hG.2.1 _ hw1 rfl _) (hG.2.1 _ hw2 rfl _) (hG.2.1 _ hw3 rfl _) (hG.2.1 _ hw4 rfl _) (src := adP (bE B) a0) (dst := adP (bE B) a) (cs := vp_cell (eC (bE B) 0) (n0, .inl f)) (cd := vp_cell (eC (bE B) 0) (n1, .inl g)) (srcPos := sp) (destPos := dp) (n := n) (by rw [hT]; exact hd0) (by rw [hT]; exact hd1)
            (fun _ h => by cases h) (fun _ h => by cases h) (fun h => by cases h) (fun h => by cases h) hk0 hk1 hkk0 hkk1 (by simp [tyP, refKind]) h1 h2 h3
            (by rw [nn sp h1, nn n h3]; show ¬ _ > ((arrV (eC (bE B) 0) n0 (fun j => .int (f j))).slots.size : Int); rw [arrV_size]; omega)
            (by rw [nn dp h2, nn n h3]; show ¬ _ > ((arrV (eC (bE B) 0) n1 (fun j => .int (g j))).slots.size : Int); rw [arrV_size]; omega)
            (fun vm₁ _ i hi => by
              have e : (vp_cell (eC (bE B) 0) (n0, .inl f)).slots.getD (sp.toNatClampNeg + i) .null = .int (f (sp.toNatClampNeg + i)) := by
                show (arrV (eC (bE B) 0) n0 (fun j => .int (f j))).slots.getD _ _ = _
                rw [Array.getD_eq_getD_getElem?, arrV_read _ _ (by omega)]
                rfl
              refine ⟨?_, ?_⟩
              · rw [e]
                rfl
              · rw [e]
                exact trivial)
            (g := F0 m pc lm (.int n :: .int dp :: .ref (adP (bE B) a) :: .int sp :: .ref (adP (bE B) a0) :: st9.map (vmP (bE B)))) rfl (by rw [hml]) (rest := st9.map (vmP (bE B))) rfl (by rw [hb]; exact hd) hf1 (by
              show 2 * 0 + ((st9.map (vmP (bE B))).map fun v => v.category).sum + _ ≤ _
              rw [cat_map]
              have := Nat.le_of_ble_eq_true hcat
              have e7 : nativeFrameWords "java/lang/System" "arraycopy" 5 + 11 ≤ 400 := by decide
              omega)
          have e1 : copied (vp_cell (eC (bE B) 0) (n0, .inl f)) (vp_cell (eC (bE B) 0) (n1, .inl g)) sp dp n = vp_cell (eC (bE B) 0) (n1, .inl (va_cpy f g sp.toNatClampNeg dp.toNatClampNeg n.toNatClampNeg)) := va_copied (fun z => .int z) _ _ f g h4
          rw [e1] at X' step
          have hl : adP (bE B) a < H.size := (Array.getElem?_eq_some_iff.mp hd1).1
          have hheap : ((T.setVm vm').setCell (adP (bE B) a) (vp_cell (eC (bE B) 0) (n1, .inl (va_cpy f g sp.toNatClampNeg dp.toNatClampNeg n.toNatClampNeg)))).heap = H.setIfInBounds (adP (bE B) a) (vp_cell (eC (bE B) 0) (n1, .inl (va_cpy f g sp.toNatClampNeg dp.toNatClampNeg n.toNatClampNeg))) := by rw [← hT]; rfl
          have oq : ∀ q : Nat, q ≠ adP (bE B) a → (H.setIfInBounds (adP (bE B) a) (vp_cell (eC (bE B) 0) (n1, .inl (va_cpy f g sp.toNatClampNeg dp.toNatClampNeg n.toNatClampNeg))))[q]? = H[q]? := fun q hq => by simp [Array.getElem?_setIfInBounds, Ne.symm hq]
          obtain ⟨t, a1, b1⟩ := W.cs0 (kk _ _ (hR.set ⟨r1, r2⟩ r3 (show (H.setIfInBounds (adP (bE B) a) _)[adP (bE B) a]? = some _ by simp [Array.getElem?_setIfInBounds, hl]) (by simp) oq) ⟨by simp; exact hS.1, fun q g1 g2 => by
              rw [oq q (fun e => g2 (by rw [e]; exact hR.fr r1))]
              exact hS.2.1 q g1 g2, fun q hq => by
              rcases List.mem_append.mp hq with h | h
              · exact hS.2.2 q h
              · obtain ⟨z, -, hz⟩ := List.mem_map.mp h
                rw [← hz]
                exact hR.fr r1⟩) _ hheap X'
          exact ⟨t, step t a1, b1⟩
        · cases q1
      · cases q1
  · cases hq
/-- Object.<init> -/
def k_obj : List Value → HeapP → Option (Option HeapP × List Value) := fun st h => match st with
  | .ref _ :: st => bif Nat.ble (st.map fun v => v.category).sum 8 then some (some h, st) else none
  | _ => none
theorem g_obj {idx : Nat} (hd : decode i.2.1 pc = .ok (.invokespecial idx, 3)) (hn : pc + 3 = nx) (hw1 : Cond.methodLink i.1.cls idx Lib.objectInit ∈ lw_tbl) (hw2 : Cond.instanceMethod Lib.objectInit ∈ lw_tbl) (hw3 : Cond.code Lib.objectInit ⟨#[0xb1]⟩ 1 none ∈ lw_tbl) : GdP B I i pc (s_wr k_obj nx) := by
  subst hn
  refine g_wr fun st h st' h' hq => ?_
  unfold k_obj at hq
  split at hq
  · rename_i a st9
    cases hcat : Nat.ble (st9.map fun v => v.category).sum 8 with
    | false => rw [hcat] at hq; cases hq
    | true =>
      rw [hcat] at hq
      cases hq
      refine ⟨hleP.rfl', ?_⟩
      intro p e R s m args below meth cd H locs cells slots Q lm hx hb ho hnm9 hml hG hR hS hf1 hl1 _ _ kk
      refine W.objInit hx hb ho (hG.2.1 _ hw1 rfl _) (hG.2.1 _ hw2 rfl _) (hG.2.1 _ hw3 rfl _) rfl hml.symm rfl hd hf1 (by
        show 2 * 0 + ((st'.map (vmP (bE B))).map fun v => v.category).sum + _ ≤ _
        rw [cat_map]
        have := Nat.le_of_ble_eq_true hcat
        omega) ?_
      exact W.cs0 (kk H locs hR hS)
  · cases hq
end NW
