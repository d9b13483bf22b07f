/-! SOUND, part c: branches, reads, writes, new cells -/
section HP
variable {B : BigP} {I : Nat → InfP} {i : InfP} {pc nx : Nat}
def s_if1 (b : Int32 → Bool) (t f : Nat) : SemP := fun ls st h => match st with
  | .int x :: st => xIf (b x) (t, ls, st, h) (f, ls, st, h)
  | _ => xHalt none
def s_if2 (b : Int32 → Int32 → Bool) (t f : Nat) : SemP := fun ls st h => match st with
  | .int y :: .int x :: st => xIf (b x y) (t, ls, st, h) (f, ls, st, h)
  | _ => xHalt none
theorem g_if1W {b : Int32 → Bool} {t f : Nat} (row : ∀ (p : Program) (l : Launch) (e : Env) (R : Room) (s : State) (m : MethodId) (args : Array Value) (below : List Frame) (meth : Method) (cd : Code) (H : Heap) (locs : List Loc) (cells slots : Nat) (Q : State → Prop) (lm : Array Slot) (x : Int32) (rest : List Value), p.tables.exec = Jvm.exec → cd.code = i.2.1 →
    (b x = true → W p l e R s m args below meth cd H locs cells slots Q (F0 m t lm rest)) → (b x = false → W p l e R s m args below meth cd H locs cells slots Q (F0 m f lm rest)) → W p l e R s m args below meth cd H locs cells slots Q (F0 m pc lm (.int x :: rest))) : GdP B I i pc (s_if1 b t f) := by
  refine ⟨fun ls st h rec call q hg _ hs => ?_, fun d ls st h o h1 rec call hg hr hc hs => ?_⟩
  · unfold s_if1 at hs
    split at hs
    · have hs : (if b _ = true then rec _ else rec _) = some q := hs
      split at hs
      · exact hg _ q hs
      · exact hg _ q hs
    · cases hs
  · unfold s_if1 at hs
    split at hs
    · rename_i x st9
      have hs : (if b x = true then rec (t, ls, st9, h) else rec (f, ls, st9, h)) = some (o, h1) := hs
      intro p e R s m args below meth cd h0 H locs lm hI h01 h11 hR hL hS
      refine row p _ e R s m args below meth cd H locs _ _ _ lm x _ hI.1 hI.2.1 (fun hb => ?_) (fun hb => ?_)
      · rw [if_pos hb] at hs
        exact hr _ hs p e R s m args below meth cd h0 H locs lm hI h01 h11 hR hL hS
      · rw [if_neg (by rw [hb]; decide)] at hs
        exact hr _ hs p e R s m args below meth cd h0 H locs lm hI h01 h11 hR hL hS
    · cases hs
theorem g_if2W {b : Int32 → Int32 → Bool} {t f : Nat} (row : ∀ (p : Program) (l : Launch) (e : Env) (R : Room) (s : State) (m : MethodId) (args : Array Value) (below : List Frame) (meth : Method) (cd : Code) (H : Heap) (locs : List Loc) (cells slots : Nat) (Q : State → Prop) (lm : Array Slot) (x y : Int32) (rest : List Value), p.tables.exec = Jvm.exec → cd.code = i.2.1 →
    (b x y = true → W p l e R s m args below meth cd H locs cells slots Q (F0 m t lm rest)) → (b x y = false → W p l e R s m args below meth cd H locs cells slots Q (F0 m f lm rest)) → W p l e R s m args below meth cd H locs cells slots Q (F0 m pc lm (.int y :: .int x :: rest))) : GdP B I i pc (s_if2 b t f) := by
  refine ⟨fun ls st h rec call q hg _ hs => ?_, fun d ls st h o h1 rec call hg hr hc hs => ?_⟩
  · unfold s_if2 at hs
    split at hs
    · have hs : (if b _ _ = true then rec _ else rec _) = some q := hs
      split at hs
      · exact hg _ q hs
      · exact hg _ q hs
    · cases hs
  · unfold s_if2 at hs
    split at hs
    · rename_i y x st9
      have hs : (if b x y = true then rec (t, ls, st9, h) else rec (f, ls, st9, h)) = some (o, h1) := hs
      intro p e R s m args below meth cd h0 H locs lm hI h01 h11 hR hL hS
      refine row p _ e R s m args below meth cd H locs _ _ _ lm x y _ hI.1 hI.2.1 (fun hb => ?_) (fun hb => ?_)
      · rw [if_pos hb] at hs
        exact hr _ hs p e R s m args below meth cd h0 H locs lm hI h01 h11 hR hL hS
      · rw [if_neg (by rw [hb]; decide)] at hs
        exact hr _ hs p e R s m args below meth cd h0 H locs lm hI h01 h11 hR hL hS
    · cases hs
variable {off : Int} {t : Nat}
theorem g_ifeq (hd : decode i.2.1 pc = .ok (.ifCond .eq off, 3)) (ht : (pc : Int) + off = (t : Int)) (hn : pc + 3 = nx) : GdP B I i pc (s_if1 (fun x => decide (x = 0)) t nx) := by
  subst hn; exact g_if1W fun _ _ _ _ _ _ _ _ _ _ _ _ _ _ _ _ x _ hx hb k1 k2 => lv_if_eq hx hb hd ht (fun h => k1 (decide_eq_true h)) (fun h => k2 (decide_eq_false h))
theorem g_ifne (hd : decode i.2.1 pc = .ok (.ifCond .ne off, 3)) (ht : (pc : Int) + off = (t : Int)) (hn : pc + 3 = nx) : GdP B I i pc (s_if1 (fun x => decide (x ≠ 0)) t nx) := by
  subst hn; exact g_if1W fun _ _ _ _ _ _ _ _ _ _ _ _ _ _ _ _ x _ hx hb k1 k2 => lv_if_ne hx hb hd ht (fun h => k1 (decide_eq_true h)) (fun h => k2 (decide_eq_false fun z => z h))
theorem g_iflt (hd : decode i.2.1 pc = .ok (.ifCond .lt off, 3)) (ht : (pc : Int) + off = (t : Int)) (hn : pc + 3 = nx) : GdP B I i pc (s_if1 (fun x => decide (x < 0)) t nx) := by
  subst hn; exact g_if1W fun _ _ _ _ _ _ _ _ _ _ _ _ _ _ _ _ x _ hx hb k1 k2 => lv_if_lt hx hb hd ht (fun h => k1 (decide_eq_true h)) (fun h => k2 (decide_eq_false h))
theorem g_ifge (hd : decode i.2.1 pc = .ok (.ifCond .ge off, 3)) (ht : (pc : Int) + off = (t : Int)) (hn : pc + 3 = nx) : GdP B I i pc (s_if1 (fun x => decide (0 ≤ x)) t nx) := by
  subst hn; exact g_if1W fun _ _ _ _ _ _ _ _ _ _ _ _ _ _ _ _ x _ hx hb k1 k2 => lv_if_ge hx hb hd ht (fun h => k1 (decide_eq_true h)) (fun h => k2 (decide_eq_false h))
theorem g_ifgt (hd : decode i.2.1 pc = .ok (.ifCond .gt off, 3)) (ht : (pc : Int) + off = (t : Int)) (hn : pc + 3 = nx) : GdP B I i pc (s_if1 (fun x => decide (0 < x)) t nx) := by
  subst hn; exact g_if1W fun _ _ _ _ _ _ _ _ _ _ _ _ _ _ _ _ x _ hx hb k1 k2 => lv_if_gt hx hb hd ht (fun h => k1 (decide_eq_true h)) (fun h => k2 (decide_eq_false h))
theorem g_ifle (hd : decode i.2.1 pc = .ok (.ifCond .le off, 3)) (ht : (pc : Int) + off = (t : Int)) (hn : pc + 3 = nx) : GdP B I i pc (s_if1 (fun x => decide (x ≤ 0)) t nx) := by
  subst hn; exact g_if1W fun _ _ _ _ _ _ _ _ _ _ _ _ _ _ _ _ x _ hx hb k1 k2 => lv_if_le hx hb hd ht (fun h => k1 (decide_eq_true h)) (fun h => k2 (decide_eq_false h))
theorem g_icmpeq (hd : decode i.2.1 pc = .ok (.if_icmp .eq off, 3)) (ht : (pc : Int) + off = (t : Int)) (hn : pc + 3 = nx) : GdP B I i pc (s_if2 (fun x y => decide (x = y)) t nx) := by
  subst hn; exact g_if2W fun _ _ _ _ _ _ _ _ _ _ _ _ _ _ _ _ x y _ hx hb k1 k2 => lv_icmp_eq hx hb hd ht (fun h => k1 (decide_eq_true h)) (fun h => k2 (decide_eq_false h))
theorem g_icmpne (hd : decode i.2.1 pc = .ok (.if_icmp .ne off, 3)) (ht : (pc : Int) + off = (t : Int)) (hn : pc + 3 = nx) : GdP B I i pc (s_if2 (fun x y => decide (x ≠ y)) t nx) := by
  subst hn; exact g_if2W fun _ _ _ _ _ _ _ _ _ _ _ _ _ _ _ _ x y _ hx hb k1 k2 => lv_icmp_ne hx hb hd ht (fun h => k1 (decide_eq_true h)) (fun h => k2 (decide_eq_false fun z => z h))
theorem g_icmplt (hd : decode i.2.1 pc = .ok (.if_icmp .lt off, 3)) (ht : (pc : Int) + off = (t : Int)) (hn : pc + 3 = nx) : GdP B I i pc (s_if2 (fun x y => decide (x < y)) t nx) := by
  subst hn; exact g_if2W fun _ _ _ _ _ _ _ _ _ _ _ _ _ _ _ _ x y _ hx hb k1 k2 => lv_icmp_lt hx hb hd ht (fun h => k1 (decide_eq_true h)) (fun h => k2 (decide_eq_false h))
theorem g_icmpge (hd : decode i.2.1 pc = .ok (.if_icmp .ge off, 3)) (ht : (pc : Int) + off = (t : Int)) (hn : pc + 3 = nx) : GdP B I i pc (s_if2 (fun x y => decide (y ≤ x)) t nx) := by
  subst hn; exact g_if2W fun _ _ _ _ _ _ _ _ _ _ _ _ _ _ _ _ x y _ hx hb k1 k2 => lv_icmp_ge hx hb hd ht (fun h => k1 (decide_eq_true h)) (fun h => k2 (decide_eq_false h))
theorem g_icmpgt (hd : decode i.2.1 pc = .ok (.if_icmp .gt off, 3)) (ht : (pc : Int) + off = (t : Int)) (hn : pc + 3 = nx) : GdP B I i pc (s_if2 (fun x y => decide (y < x)) t nx) := by
  subst hn; exact g_if2W fun _ _ _ _ _ _ _ _ _ _ _ _ _ _ _ _ x y _ hx hb k1 k2 => lv_icmp_gt hx hb hd ht (fun h => k1 (decide_eq_true h)) (fun h => k2 (decide_eq_false h))
theorem g_icmple (hd : decode i.2.1 pc = .ok (.if_icmp .le off, 3)) (ht : (pc : Int) + off = (t : Int)) (hn : pc + 3 = nx) : GdP B I i pc (s_if2 (fun x y => decide (x ≤ y)) t nx) := by
  subst hn; exact g_if2W fun _ _ _ _ _ _ _ _ _ _ _ _ _ _ _ _ x y _ hx hb k1 k2 => lv_icmp_le hx hb hd ht (fun h => k1 (decide_eq_true h)) (fun h => k2 (decide_eq_false h))
/-- a reference, or null: known at the place -/
def s_ifnn (t f : Nat) : SemP := fun ls st h => match st with
  | .ref _ :: st => xGoto (t, ls, st, h)
  | .null :: st => xGoto (f, ls, st, h)
  | _ => xHalt none
theorem g_ifnonnull (hd : decode i.2.1 pc = .ok (.ifnonnull off, 3)) (ht : (pc : Int) + off = (t : Int)) (hn : pc + 3 = nx) : GdP B I i pc (s_ifnn t nx) := by
  subst hn
  refine ⟨fun ls st h rec call q hg _ hs => ?_, fun d ls st h o h1 rec call hg hr hc hs => ?_⟩
  · unfold s_ifnn at hs
    split at hs
    · exact hg _ q hs
    · exact hg _ q hs
    · cases hs
  · unfold s_ifnn at hs
    split at hs
    · intro p e R s m args below meth cd h0 H locs lm hI h01 h11 hR hL hS
      exact lv_ifnonnull hI.1 hI.2.1 hd ht (hr _ hs p e R s m args below meth cd h0 H locs lm hI h01 h11 hR hL hS)
    · intro p e R s m args below meth cd h0 H locs lm hI h01 h11 hR hL hS
      exact lv_ifnonnullN hI.1 hI.2.1 hd (hr _ hs p e R s m args below meth cd h0 H locs lm hI h01 h11 hR hL hS)
    · cases hs
/-! reads -/
def s_rI (k : List Value → HeapP → Option (Option Int32 × List Value)) (nx : Nat) : SemP := fun ls st h => match k st h with
  | some (o, st') => xI o (fun q => (nx, ls, .int q :: st', h))
  | none => xHalt none
def s_rJ (k : List Value → HeapP → Option (Option Int64 × List Value)) (nx : Nat) : SemP := fun ls st h => match k st h with
  | some (o, st') => xJ o (fun q => (nx, ls, .long q :: st', h))
  | none => xHalt none
def s_rA (k : List Value → HeapP → Option (Option Nat × List Value)) (nx : Nat) : SemP := fun ls st h => match k st h with
  | some (o, st') => xA o (fun q => (nx, ls, .ref q :: st', h))
  | none => xHalt none
def s_rR (k : List Value → HeapP → Option (Option (Option Nat) × List Value)) (nx : Nat) : SemP := fun ls st h => match k st h with
  | some (o, st') => xR o (nx, ls, .null :: st', h) (fun q => (nx, ls, .ref q :: st', h))
  | none => xHalt none
/-- the row of a read: what a proof of one owes -/
def rowR (B : BigP) (i : InfP) (pc nx : Nat) (st st' : List Value) (h : HeapP) (v : Value) : Prop := ∀ (p : Program) (e : Env) (R : Room) (s : State) (m : MethodId) (args : Array Value) (below : List Frame) (meth : Method) (cd : Code) (H : Heap) (locs : List Loc) (cells slots : Nat) (Q : State → Prop) (lm : Array Slot),
  p.tables.exec = Jvm.exec → cd.code = i.2.1 → s.vm.findClass i.1.cls = some m.cls → GamP B.1 B.2.1 (bE B) s s.heap → repP (bE B) h H → va_S (frP (bE B)) s.heap H locs →
  W p B.2.2.2 e R s m args below meth cd H locs cells slots Q (F0 m nx lm (vmP (bE B) v :: st'.map (vmP (bE B)))) → W p B.2.2.2 e R s m args below meth cd H locs cells slots Q (F0 m pc lm (st.map (vmP (bE B))))
theorem rowR.use {B : BigP} {i : InfP} {pc nx d : Nat} {st st' : List Value} {h : HeapP} {v : Value} {ls : LocP} {o : OutP} {h1 : HeapP} (r : rowR B i pc nx st st' h v) (hv : VP B i d (nx, ls, v :: st', h) o h1) : VP B i d (pc, ls, st, h) o h1 := by
  intro p e R s m args below meth cd h0 H locs lm hI h01 h11 hR hL hS
  exact r p e R s m args below meth cd H locs _ _ _ lm hI.1 hI.2.1 hI.2.2.2.2.2.1 hI.2.2.2.2.2.2.2.2.1 hR hS (hv p e R s m args below meth cd h0 H locs lm hI h01 h11 hR hL hS)
theorem g_rI {k : List Value → HeapP → Option (Option Int32 × List Value)} (row : ∀ st h st' x, k st h = some (some x, st') → rowR B i pc nx st st' h (.int x)) : GdP B I i pc (s_rI k nx) := by
  refine ⟨fun ls st h rec call q hg _ hs => ?_, fun d ls st h o h1 rec call hg hr hc hs => ?_⟩
  · unfold s_rI at hs
    split at hs
    · rename_i o st' hk
      cases o with
      | none => cases hs
      | some x => exact hg (nx, ls, .int x :: st', h) q hs
    · cases hs
  · unfold s_rI at hs
    split at hs
    · rename_i o9 st' hk
      cases o9 with
      | none => cases hs
      | some x => exact (row st h st' x hk).use (hr (nx, ls, .int x :: st', h) hs)
    · cases hs
theorem g_rJ {k : List Value → HeapP → Option (Option Int64 × List Value)} (row : ∀ st h st' x, k st h = some (some x, st') → rowR B i pc nx st st' h (.long x)) : GdP B I i pc (s_rJ k nx) := by
  refine ⟨fun ls st h rec call q hg _ hs => ?_, fun d ls st h o h1 rec call hg hr hc hs => ?_⟩
  · unfold s_rJ at hs
    split at hs
    · rename_i o st' hk
      cases o with
      | none => cases hs
      | some x => exact hg (nx, ls, .long x :: st', h) q hs
    · cases hs
  · unfold s_rJ at hs
    split at hs
    · rename_i o9 st' hk
      cases o9 with
      | none => cases hs
      | some x => exact (row st h st' x hk).use (hr (nx, ls, .long x :: st', h) hs)
    · cases hs
theorem g_rA {k : List Value → HeapP → Option (Option Nat × List Value)} (row : ∀ st h st' x, k st h = some (some x, st') → rowR B i pc nx st st' h (.ref x)) : GdP B I i pc (s_rA k nx) := by
  refine ⟨fun ls st h rec call q hg _ hs => ?_, fun d ls st h o h1 rec call hg hr hc hs => ?_⟩
  · unfold s_rA at hs
    split at hs
    · rename_i o st' hk
      cases o with
      | none => cases hs
      | some x => exact hg (nx, ls, .ref x :: st', h) q hs
    · cases hs
  · unfold s_rA at hs
    split at hs
    · rename_i o9 st' hk
      cases o9 with
      | none => cases hs
      | some x => exact (row st h st' x hk).use (hr (nx, ls, .ref x :: st', h) hs)
    · cases hs
theorem g_rR {k : List Value → HeapP → Option (Option (Option Nat) × List Value)} (row : ∀ st h st' x, k st h = some (some x, st') → rowR B i pc nx st st' h (match x with | none => .null | some a => .ref a)) : GdP B I i pc (s_rR k nx) := by
  refine ⟨fun ls st h rec call q hg _ hs => ?_, fun d ls st h o h1 rec call hg hr hc hs => ?_⟩
  · unfold s_rR at hs
    split at hs
    · rename_i o st' hk
      rcases o with _ | _ | x
      · cases hs
      · exact hg (nx, ls, .null :: st', h) q hs
      · exact hg (nx, ls, .ref x :: st', h) q hs
    · cases hs
  · unfold s_rR at hs
    split at hs
    · rename_i o9 st' hk
      rcases o9 with _ | _ | x
      · cases hs
      · exact (row st h st' none hk).use (hr (nx, ls, .null :: st', h) hs)
      · exact (row st h st' (some x) hk).use (hr (nx, ls, .ref x :: st', h) hs)
    · cases hs
theorem one_P {D : va_G} {cl : List vw_C} {q : Nat × va_E} {H : Heap} (h : va_at D cl q H) : va_P D cl [q] H := fun k x hk => by
  cases k with
  | zero => cases hk; exact h
  | succ k => simp at hk
theorem inb_in {x : Int32} {n : Nat} (h : inb x n = true) : vp_in x n := by
  unfold inb at h
  rw [Bool.and_eq_true, decide_eq_true_eq, decide_eq_true_eq] at h
  rintro (z | z)
  · exact absurd h.1 (Int32.not_le.mpr z)
  · omega
def d_idiv (x y : Int32) : Option Int32 := if y = 0 then none else some (x / y)
def d_irem (x y : Int32) : Option Int32 := if y = 0 then none else some (x - x / y * y)
def d_ldiv (x y : Int64) : Option Int64 := if y = 0 then none else some (x / y)
def d_lrem (x y : Int64) : Option Int64 := if y = 0 then none else some (x - x / y * y)
def k_idiv (f : Int32 → Int32 → Option Int32) : List Value → HeapP → Option (Option Int32 × List Value) := fun st _ => match st with
  | .int y :: .int x :: st => some (f x y, st)
  | _ => none
def k_ldiv (f : Int64 → Int64 → Option Int64) : List Value → HeapP → Option (Option Int64 × List Value) := fun st _ => match st with
  | .long y :: .long x :: st => some (f x y, st)
  | _ => none
theorem g_idiv (hd : decode i.2.1 pc = .ok (.idiv, 1)) (hn : pc + 1 = nx) : GdP B I i pc (s_rI (k_idiv d_idiv) nx) := by
  subst hn
  refine g_rI fun st h st' x hk => ?_
  unfold k_idiv at hk
  split at hk
  · rename_i y x9 st9
    unfold d_idiv at hk
    split at hk
    · cases hk
    · cases hk
      intro p e R s m args below meth cd H locs cells slots Q lm hx hb ho hG hR hS k
      exact lv_idiv hx hb hd ‹_› k
  · cases hk
theorem g_irem (hd : decode i.2.1 pc = .ok (.irem, 1)) (hn : pc + 1 = nx) : GdP B I i pc (s_rI (k_idiv d_irem) nx) := by
  subst hn
  refine g_rI fun st h st' x hk => ?_
  unfold k_idiv at hk
  split at hk
  · rename_i y x9 st9
    unfold d_irem at hk
    split at hk
    · cases hk
    · cases hk
      intro p e R s m args below meth cd H locs cells slots Q lm hx hb ho hG hR hS k
      exact lv_irem hx hb hd ‹_› k
  · cases hk
theorem g_ldiv (hd : decode i.2.1 pc = .ok (.ldiv, 1)) (hn : pc + 1 = nx) : GdP B I i pc (s_rJ (k_ldiv d_ldiv) nx) := by
  subst hn
  refine g_rJ fun st h st' x hk => ?_
  unfold k_ldiv at hk
  split at hk
  · rename_i y x9 st9
    unfold d_ldiv at hk
    split at hk
    · cases hk
    · cases hk
      intro p e R s m args below meth cd H locs cells slots Q lm hx hb ho hG hR hS k
      exact lv_ldiv hx hb hd ‹_› k
  · cases hk
theorem g_lrem (hd : decode i.2.1 pc = .ok (.lrem, 1)) (hn : pc + 1 = nx) : GdP B I i pc (s_rJ (k_ldiv d_lrem) nx) := by
  subst hn
  refine g_rJ fun st h st' x hk => ?_
  unfold k_ldiv at hk
  split at hk
  · rename_i y x9 st9
    unfold d_lrem at hk
    split at hk
    · cases hk
    · cases hk
      intro p e R s m args below meth cd H locs cells slots Q lm hx hb ho hG hR hS k
      exact lv_lrem hx hb hd ‹_› k
  · cases hk
/-! fields -/
theorem u_ws_good {C : String} {T : u_T} {N : Nat} : ∀ w ∈ u_ws C T N, goodWord w = true := by
  intro w hw
  obtain ⟨k, -, rfl⟩ := List.mem_map.mp hw
  unfold u_lay
  split <;> rfl
theorem rdV_spec {h : HeapP} {ci a k : Nat} {v : Value} (hv : rdV h ci a k = some v) : ∃ fs, h.2.2 a = some (pO ci fs) ∧ fs[k]? = some v := by
  unfold rdV at hv
  split at hv
  · rename_i c fs hc
    split at hv
    · subst ‹_ = ci›
      exact ⟨fs, hc, hv⟩
    · cases hv
  · cases hv
theorem row_get {idx ci k N : Nat} {C : String} {T : u_T} {a : Nat} {st' : List Value} {h : HeapP} {v : Value} (hd : decode i.2.1 pc = .ok (.getfield idx, 3)) (hn : pc + 3 = nx) (hc : clsP[ci]? = some (C, T, N)) (hin : ∀ w ∈ u_ws C T N, w ∈ lw_tbl) (hk : k < N) (hT : (T k).1 = C) (hw : Cond.fieldLink i.1.cls idx C (T k).2.1 (T k).2.2.1 ∈ lw_tbl) (hv : rdV h ci a k = some v) : rowR B i pc nx (.ref a :: st') st' h v := by
  subst hn
  obtain ⟨fs, h1, h2⟩ := rdV_spec hv
  intro p e R s m args below meth cd H locs cells slots Q lm hx hb ho hG hR hS kk
  obtain ⟨r1, r2, r3, r4⟩ := hR.get h1 (fun z => by cases z)
  exact va_get (Ts := u_ws C T N) (T := T) (N := N) (ci := ci) hx hb (fun w hw => hG.2.1 w (hin w hw) (u_ws_good w hw) _) (fun w hw => hw) ho hG.1 (one_P r4) 0 rfl hc k hk (hG.2.1 _ hw rfl _) (fun x hx => by rw [hT] at hx; exact hx) (by rw [List.getElem?_map, h2]; rfl) hd kk
def k_getI (ci k : Nat) : List Value → HeapP → Option (Option Int32 × List Value) := fun st h => match st with
  | .ref a :: st => some (rdI h ci a k, st)
  | _ => none
def k_getJ (ci k : Nat) : List Value → HeapP → Option (Option Int64 × List Value) := fun st h => match st with
  | .ref a :: st => some (rdJ h ci a k, st)
  | _ => none
def k_getA (ci k : Nat) : List Value → HeapP → Option (Option Nat × List Value) := fun st h => match st with
  | .ref a :: st => some (rdA h ci a k, st)
  | _ => none
theorem g_getI {idx ci k N : Nat} {C : String} {T : u_T} (hd : decode i.2.1 pc = .ok (.getfield idx, 3)) (hn : pc + 3 = nx) (hc : clsP[ci]? = some (C, T, N)) (hin : ∀ w ∈ u_ws C T N, w ∈ lw_tbl) (hk : k < N) (hT : (T k).1 = C) (hw : Cond.fieldLink i.1.cls idx C (T k).2.1 (T k).2.2.1 ∈ lw_tbl) : GdP B I i pc (s_rI (k_getI ci k) nx) := by
  refine g_rI fun st h st' x hq => ?_
  unfold k_getI at hq
  split at hq
  · injection hq with hq; injection hq with q1 q2; subst q2
    unfold rdI at q1
    split at q1
    · cases q1; exact row_get hd hn hc hin hk hT hw ‹_›
    · cases q1
  · cases hq
theorem g_getJ {idx ci k N : Nat} {C : String} {T : u_T} (hd : decode i.2.1 pc = .ok (.getfield idx, 3)) (hn : pc + 3 = nx) (hc : clsP[ci]? = some (C, T, N)) (hin : ∀ w ∈ u_ws C T N, w ∈ lw_tbl) (hk : k < N) (hT : (T k).1 = C) (hw : Cond.fieldLink i.1.cls idx C (T k).2.1 (T k).2.2.1 ∈ lw_tbl) : GdP B I i pc (s_rJ (k_getJ ci k) nx) := by
  refine g_rJ fun st h st' x hq => ?_
  unfold k_getJ at hq
  split at hq
  · injection hq with hq; injection hq with q1 q2; subst q2
    unfold rdJ at q1
    split at q1
    · cases q1; exact row_get hd hn hc hin hk hT hw ‹_›
    · cases q1
  · cases hq
theorem g_getA {idx ci k N : Nat} {C : String} {T : u_T} (hd : decode i.2.1 pc = .ok (.getfield idx, 3)) (hn : pc + 3 = nx) (hc : clsP[ci]? = some (C, T, N)) (hin : ∀ w ∈ u_ws C T N, w ∈ lw_tbl) (hk : k < N) (hT : (T k).1 = C) (hw : Cond.fieldLink i.1.cls idx C (T k).2.1 (T k).2.2.1 ∈ lw_tbl) : GdP B I i pc (s_rA (k_getA ci k) nx) := by
  refine g_rA fun st h st' x hq => ?_
  unfold k_getA at hq
  split at hq
  · injection hq with hq; injection hq with q1 q2; subst q2
    unfold rdA at q1
    split at q1
    · cases q1; exact row_get hd hn hc hin hk hT hw ‹_›
    · cases q1
  · cases hq
/-! array reads -/
def k_ald (ty : Nat) : List Value → HeapP → Option (Option Int32 × List Value) := fun st h => match st with
  | .int x :: .ref a :: st => some (aldI h ty a x, st)
  | _ => none
def k_aldJ : List Value → HeapP → Option (Option Int64 × List Value) := fun st h => match st with
  | .int x :: .ref a :: st => some (aldJ h a x, st)
  | _ => none
def k_aldR (ty : Nat) : List Value → HeapP → Option (Option (Option Nat) × List Value) := fun st h => match st with
  | .int x :: .ref a :: st => some (aldR h ty a x, st)
  | _ => none
def k_alen : List Value → HeapP → Option (Option Int32 × List Value) := fun st h => match st with
  | .ref a :: st => some (alenP h a, st)
  | _ => none
theorem aldI_spec {h : HeapP} {ty a : Nat} {x : Int32} {v : Int32} (hv : aldI h ty a x = some v) : ∃ n f, h.2.2 a = some (pI ty n f) ∧ vp_in x n ∧ f x.toNatClampNeg = v := by
  unfold aldI at hv
  split at hv
  · rename_i t n f hc
    split at hv
    · rename_i hh; obtain ⟨rfl, hi⟩ := hh
      cases hv
      exact ⟨n, f, hc, inb_in hi, rfl⟩
    · cases hv
  · cases hv
theorem pI_ne9 {E : EnvP} {ty n : Nat} {f : Nat → Int32} (h : ty ≠ 9) : pI ty n f ≠ pI 9 (eL E) (eX E) := fun z => by
  unfold pI at z; injection z with z; injection z with z; injection z with z1 z2; exact h z1
theorem g_iald (hd : decode i.2.1 pc = .ok (.iaload, 1)) (hn : pc + 1 = nx) : GdP B I i pc (s_rI (k_ald 0) nx) := by
  subst hn
  refine g_rI fun st h st' x hq => ?_
  unfold k_ald at hq
  split at hq
  · rename_i j a st9
    injection hq with hq; injection hq with q1 q2; subst q2
    obtain ⟨n, f, h1, h2, rfl⟩ := aldI_spec q1
    intro p e R s m args below meth cd H locs cells slots Q lm hx hb ho hG hR hS kk
    obtain ⟨r1, r2, r3, r4⟩ := hR.get h1 (pI_ne9 (by decide))
    exact va_iald hx hb hG.1 (one_P r4) 0 0 rfl (tysP_at (by omega)) h2 hd kk
  · cases hq
theorem g_bald (hd : decode i.2.1 pc = .ok (.baload, 1)) (hn : pc + 1 = nx) : GdP B I i pc (s_rI (k_ald 1) nx) := by
  subst hn
  refine g_rI fun st h st' x hq => ?_
  unfold k_ald at hq
  split at hq
  · rename_i j a st9
    injection hq with hq; injection hq with q1 q2; subst q2
    obtain ⟨n, f, h1, h2, rfl⟩ := aldI_spec q1
    intro p e R s m args below meth cd H locs cells slots Q lm hx hb ho hG hR hS kk
    obtain ⟨r1, r2, r3, r4⟩ := hR.get h1 (pI_ne9 (by decide))
    exact va_bald hx hb hG.1 (one_P r4) 0 1 rfl (tysP_at (by omega)) h2 hd kk
  · cases hq
theorem g_zald (hd : decode i.2.1 pc = .ok (.baload, 1)) (hn : pc + 1 = nx) : GdP B I i pc (s_rI (k_ald 2) nx) := by
  subst hn
  refine g_rI fun st h st' x hq => ?_
  unfold k_ald at hq
  split at hq
  · rename_i j a st9
    injection hq with hq; injection hq with q1 q2; subst q2
    obtain ⟨n, f, h1, h2, rfl⟩ := aldI_spec q1
    intro p e R s m args below meth cd H locs cells slots Q lm hx hb ho hG hR hS kk
    obtain ⟨r1, r2, r3, r4⟩ := hR.get h1 (pI_ne9 (by decide))
    exact va_zald hx hb hG.1 (one_P r4) 0 2 rfl (tysP_at (by omega)) h2 hd kk
  · cases hq
/-- the script -/
theorem g_sald (hd : decode i.2.1 pc = .ok (.iaload, 1)) (hn : pc + 1 = nx) : GdP B I i pc (s_rI (k_ald 9) nx) := by
  subst hn
  refine g_rI fun st h st' x hq => ?_
  unfold k_ald at hq
  split at hq
  · rename_i j a st9
    injection hq with hq; injection hq with q1 q2; subst q2
    obtain ⟨n, f, h1, h2, rfl⟩ := aldI_spec q1
    intro p e R s m args below meth cd H locs cells slots Q lm hx hb ho hG hR hS kk
    rcases hR.2.2 a _ h1 with ⟨rfl, z⟩ | ⟨-, -, z, -⟩
    · unfold pI at z; injection z with z; injection z with z; injection z with z1 z2; injection z2 with z2 z3
      subst z2; subst z3
      have e0 : vmP (bE B) (.ref 0) = .ref (eK (bE B) 0) := rfl
      obtain ⟨x1, x2⟩ := hG.2.2.2.2.1
      have hX := x1
      have hlt : eK (bE B) 0 < s.heap.size := Nat.lt_of_lt_of_le x2 hG.2.2.2.1
      rw [List.map_cons, List.map_cons, e0]
      exact va_sld hx hb hX hlt (Nat.not_le.mpr x2) hS h2 hd kk
    · exact absurd z (by show ¬ (9 : Nat) < 3; omega)
  · cases hq
theorem g_aldJ (hd : decode i.2.1 pc = .ok (.laload, 1)) (hn : pc + 1 = nx) : GdP B I i pc (s_rJ k_aldJ nx) := by
  subst hn
  refine g_rJ fun st h st' x hq => ?_
  unfold k_aldJ at hq
  split at hq
  · rename_i j a st9
    injection hq with hq; injection hq with q1 q2; subst q2
    unfold aldJ at q1
    split at q1
    · rename_i n f hc
      split at q1
      · rename_i hi
        cases q1
        intro p e R s m args below meth cd H locs cells slots Q lm hx hb ho hG hR hS kk
        obtain ⟨r1, r2, r3, r4⟩ := hR.get hc (fun z => by cases z)
        exact va_lald hx hb hG.1 (one_P r4) 0 3 rfl (tysP_at (by omega)) (inb_in hi) hd kk
      · cases q1
    · cases q1
  · cases hq
theorem vmP_rf {E : EnvP} (x : Option Nat) : va_rf (x.map (adP E)) = vmP E (match x with | none => .null | some a => .ref a) := by cases x <;> rfl
theorem aldR_spec {h : HeapP} {ty a : Nat} {x : Int32} {v : Option Nat} (hv : aldR h ty a x = some v) : ∃ n f, h.2.2 a = some (pR ty n f) ∧ vp_in x n ∧ f x.toNatClampNeg = v := by
  unfold aldR at hv
  split at hv
  · rename_i t n f hc
    split at hv
    · rename_i hh; obtain ⟨rfl, hi⟩ := hh
      cases hv
      exact ⟨n, f, hc, inb_in hi, rfl⟩
    · cases hv
  · cases hv
theorem g_aldR {ty : Nat} (hd : decode i.2.1 pc = .ok (.aaload, 1)) (hn : pc + 1 = nx) (hty : ty < 7) (hk : (tyP ty).isReference = true) : GdP B I i pc (s_rR (k_aldR ty) nx) := by
  subst hn
  refine g_rR fun st h st' x hq => ?_
  unfold k_aldR at hq
  split at hq
  · rename_i j a st9
    injection hq with hq; injection hq with q1 q2; subst q2
    obtain ⟨n, f, h1, h2, rfl⟩ := aldR_spec q1
    intro p e R s m args below meth cd H locs cells slots Q lm hx hb ho hG hR hS kk
    obtain ⟨r1, r2, r3, r4⟩ := hR.get h1 (fun z => by cases z)
    rw [← vmP_rf] at kk
    have hlt : j.toNatClampNeg < n := Nat.not_le.mp fun q => h2 (Or.inr q)
    exact W.aald (v := va_rf ((f j.toNatClampNeg).map (adP (bE B)))) (ty := tyP ty) hx hb r4 ((hG.1.2 ty _ (tysP_at hty)).1 n (fun j => va_rf ((f j).map (adP (bE B))))) hk (fun q => by cases q) (by show ¬ (j < 0 ∨ (arrV _ _ _).slots.size ≤ _); rw [arrV_size]; exact h2) (by show (arrV _ _ _).slots[_]? = _; rw [arrV_read _ _ hlt]) rfl rfl hd kk
  · cases hq
end HP
