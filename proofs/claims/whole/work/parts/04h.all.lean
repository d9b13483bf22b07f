/-! SOUND, part h: calls; all of it -/
section MA
variable {B : BigP} {I : Nat → InfP} {i : InfP} {pc nx : Nat}
def k_mmax : List Value → HeapP → Option (Option HeapP × List Value) := fun st h => match st with
  | .int y :: .int x :: st => bif Nat.ble (st.map fun v => v.category).sum 8 then some (some h, .int (if x < y then y else x) :: st) else none
  | _ => none
def k_mmin : List Value → HeapP → Option (Option HeapP × List Value) := fun st h => match st with
  | .int y :: .int x :: st => bif Nat.ble (st.map fun v => v.category).sum 8 then some (some h, .int (if y < x then y else x) :: st) else none
  | _ => none
def k_mmaxJ : List Value → HeapP → Option (Option HeapP × List Value) := fun st h => match st with
  | .long y :: .long x :: st => bif Nat.ble (st.map fun v => v.category).sum 8 then some (some h, .long (if y < x then x else y) :: st) else none
  | _ => none
def k_mminJ : List Value → HeapP → Option (Option HeapP × List Value) := fun st h => match st with
  | .long y :: .long x :: st => bif Nat.ble (st.map fun v => v.category).sum 8 then some (some h, .long (if y < x then y else x) :: st) else none
  | _ => none
theorem g_mmax {idx : Nat} (hd : decode i.2.1 pc = .ok (.invokestatic idx, 3)) (hn : pc + 3 = nx) (hw1 : Cond.methodLink i.1.cls idx Lib.Math.max.name ∈ lw_tbl) (hw2 : Cond.static Lib.Math.max.name ∈ lw_tbl) (hw3 : Cond.initialized "java/lang/Math" ∈ lw_tbl) (hw4 : Cond.code Lib.Math.max.name Lib.Math.max.code 2 (some .int) ∈ lw_tbl) : GdP B I i pc (s_wr k_mmax nx) := by
  subst hn
  refine g_wr fun st h st' h' hq => ?_
  unfold k_mmax at hq
  split at hq
  · rename_i y x st9
    cases hcat : Nat.ble (st9.map fun v => v.category).sum 8 with
    | false => rw [hcat] at hq; cases hq
    | true =>
      rw [hcat] at hq
      injection hq with hq; injection hq with q1 q2; subst q2; injection q1 with q1; subst q1
      refine ⟨hleP.rfl', ?_⟩
      intro p e R s m args below meth cd H locs cells slots Q lm hx hb ho hnm9 hml hG hR hS hf1 hl1 hc1 hs1 kk
      have := Nat.le_of_ble_eq_true hcat
      exact va_mmax hx hb hml ho (hG.2.1 _ hw1 rfl _) (hG.2.1 _ hw2 rfl _) (hG.2.1 _ hw3 rfl _) (hG.2.1 _ hw4 rfl _) hf1 (by rw [cat_map]; omega) (by omega) (by omega) hd (W.cs0 (kk H locs hR hS))
  · cases hq
theorem g_mmin {idx : Nat} (hd : decode i.2.1 pc = .ok (.invokestatic idx, 3)) (hn : pc + 3 = nx) (hw1 : Cond.methodLink i.1.cls idx Lib.Math.min.name ∈ lw_tbl) (hw2 : Cond.static Lib.Math.min.name ∈ lw_tbl) (hw3 : Cond.initialized "java/lang/Math" ∈ lw_tbl) (hw4 : Cond.code Lib.Math.min.name Lib.Math.min.code 2 (some .int) ∈ lw_tbl) : GdP B I i pc (s_wr k_mmin nx) := by
  subst hn
  refine g_wr fun st h st' h' hq => ?_
  unfold k_mmin at hq
  split at hq
  · rename_i y x st9
    cases hcat : Nat.ble (st9.map fun v => v.category).sum 8 with
    | false => rw [hcat] at hq; cases hq
    | true =>
      rw [hcat] at hq
      injection hq with hq; injection hq with q1 q2; subst q2; injection q1 with q1; subst q1
      refine ⟨hleP.rfl', ?_⟩
      intro p e R s m args below meth cd H locs cells slots Q lm hx hb ho hnm9 hml hG hR hS hf1 hl1 hc1 hs1 kk
      have := Nat.le_of_ble_eq_true hcat
      exact va_mmin hx hb hml ho (hG.2.1 _ hw1 rfl _) (hG.2.1 _ hw2 rfl _) (hG.2.1 _ hw3 rfl _) (hG.2.1 _ hw4 rfl _) hf1 (by rw [cat_map]; omega) (by omega) (by omega) hd (W.cs0 (kk H locs hR hS))
  · cases hq
theorem g_mmaxJ {idx : Nat} (hd : decode i.2.1 pc = .ok (.invokestatic idx, 3)) (hn : pc + 3 = nx) (hw1 : Cond.methodLink i.1.cls idx Lib.MathLoose.max_long.x ∈ lw_tbl) (hw2 : Cond.static Lib.MathLoose.max_long.x ∈ lw_tbl) (hw3 : Cond.initialized "java/lang/Math" ∈ lw_tbl) (hw4 : Cond.code Lib.MathLoose.max_long.x Lib.MathLoose.max_long.code 4 (some .long) ∈ lw_tbl) : GdP B I i pc (s_wr k_mmaxJ nx) := by
  subst hn
  refine g_wr fun st h st' h' hq => ?_
  unfold k_mmaxJ at hq
  split at hq
  · rename_i y x st9
    cases hcat : Nat.ble (st9.map fun v => v.category).sum 8 with
    | false => rw [hcat] at hq; cases hq
    | true =>
      rw [hcat] at hq
      injection hq with hq; injection hq with q1 q2; subst q2; injection q1 with q1; subst q1
      refine ⟨hleP.rfl', ?_⟩
      intro p e R s m args below meth cd H locs cells slots Q lm hx hb ho hnm9 hml hG hR hS hf1 hl1 hc1 hs1 kk
      have := Nat.le_of_ble_eq_true hcat
      exact va_mmax_long hx hb hml ho (hG.2.1 _ hw1 rfl _) (hG.2.1 _ hw2 rfl _) (hG.2.1 _ hw3 rfl _) (hG.2.1 _ hw4 rfl _) hf1 (by rw [cat_map]; omega) (by omega) (by omega) hd (W.cs0 (kk H locs hR hS))
  · cases hq
theorem g_mminJ {idx : Nat} (hd : decode i.2.1 pc = .ok (.invokestatic idx, 3)) (hn : pc + 3 = nx) (hw1 : Cond.methodLink i.1.cls idx Lib.MathLoose.min_long.x ∈ lw_tbl) (hw2 : Cond.static Lib.MathLoose.min_long.x ∈ lw_tbl) (hw3 : Cond.initialized "java/lang/Math" ∈ lw_tbl) (hw4 : Cond.code Lib.MathLoose.min_long.x Lib.MathLoose.min_long.code 4 (some .long) ∈ lw_tbl) : GdP B I i pc (s_wr k_mminJ nx) := by
  subst hn
  refine g_wr fun st h st' h' hq => ?_
  unfold k_mminJ at hq
  split at hq
  · rename_i y x st9
    cases hcat : Nat.ble (st9.map fun v => v.category).sum 8 with
    | false => rw [hcat] at hq; cases hq
    | true =>
      rw [hcat] at hq
      injection hq with hq; injection hq with q1 q2; subst q2; injection q1 with q1; subst q1
      refine ⟨hleP.rfl', ?_⟩
      intro p e R s m args below meth cd H locs cells slots Q lm hx hb ho hnm9 hml hG hR hS hf1 hl1 hc1 hs1 kk
      have := Nat.le_of_ble_eq_true hcat
      exact va_mmin_long hx hb hml ho (hG.2.1 _ hw1 rfl _) (hG.2.1 _ hw2 rfl _) (hG.2.1 _ hw3 rfl _) (hG.2.1 _ hw4 rfl _) hf1 (by rw [cat_map]; omega) (by omega) (by omega) hd (W.cs0 (kk H locs hR hS))
  · cases hq
/-! calls -/
def popN : Nat → List Value → List Value → Option (List Value × List Value)
  | 0, acc, st => some (acc, st)
  | n + 1, acc, v :: st => popN n (v :: acc) st
  | _ + 1, _, [] => none
theorem popN_spec : ∀ {n : Nat} {acc st as rest : List Value}, popN n acc st = some (as, rest) → ∃ p, as = p ++ acc ∧ p.length = n ∧ st = p.reverse ++ rest := by
  intro n
  induction n with
  | zero => intro acc st as rest h; cases h; exact ⟨[], rfl, rfl, rfl⟩
  | succ n ih =>
    intro acc st as rest h
    cases st with
    | nil => cases h
    | cons v st =>
      obtain ⟨p, h1, h2, h3⟩ := ih h
      refine ⟨p ++ [v], by rw [h1]; simp, by simp [h2], by rw [h3]; simp⟩
def kxS (hs : List (Nat × Nat × Nat)) (ls : LocP) : Nat → HeapP → ResP ⊕ CfgP := match hs with
  | [] => fun e h' => .inl (some (Sum.inr e, h'))
  | q :: qs => fun e h' => match (q :: qs).find? (fun z => Nat.beq z.1 e) with
    | some z => .inr (z.2.1, (clrL ls z.2.2).set z.2.2 none, [], h')
    | none => .inl none
def s_call (m n : Nat) (hs : List (Nat × Nat × Nat)) (kt : LocP → List Value → RetP) : SemP := fun ls st h => match popN n [] st with
  | some (as, rest) => bif Nat.ble (rest.map fun v => v.category).sum 8 then xC m as h (kt ls rest) (kxS hs ls) else xHalt none
  | none => xHalt none
def r_V (nx : Nat) : LocP → List Value → RetP := fun ls rest => .inl (fun h' => (nx, ls, rest, h'))
def r_I (nx : Nat) : LocP → List Value → RetP := fun ls rest => .inr (.inl (fun x h' => (nx, ls, .int x :: rest, h')))
def r_J (nx : Nat) : LocP → List Value → RetP := fun ls rest => .inr (.inr (.inl (fun x h' => (nx, ls, .long x :: rest, h'))))
def r_R (nx : Nat) : LocP → List Value → RetP := fun ls rest => .inr (.inr (.inr (fun h' => (nx, ls, .null :: rest, h'), fun a h' => (nx, ls, .ref a :: rest, h'))))
def retOk (nx : Nat) (kt : LocP → List Value → RetP) : Prop := ∀ (rec : CfgP → ResP) (call : Nat → List Value → HeapP → ResP) (m : Nat) (as : List Value) (h : HeapP) (ls : LocP) (rest : List Value) (kx : Nat → HeapP → ResP ⊕ CfgP) (q : OutP × HeapP), stp rec call (xC m as h (kt ls rest) kx) = some q →
  ∃ o' h', call m as h = some (o', h') ∧ ((∃ v, o' = Sum.inl v ∧ rec (nx, ls, v.toList ++ rest, h') = some q) ∨ (∃ e, o' = Sum.inr e ∧ kxP rec (kx e h') = some q))
theorem retOk_V : retOk nx (r_V nx) := by
  intro rec call m as h ls rest kx q hs
  have hs : cV (call m as h) (fun h' => rec (nx, ls, rest, h')) (fun e h' => kxP rec (kx e h')) = some q := hs
  cases hc : call m as h with
  | none => rw [hc] at hs; cases hs
  | some z =>
    rw [hc] at hs
    rcases z with ⟨(_ | v) | e, h'⟩
    · exact ⟨_, _, rfl, Or.inl ⟨none, rfl, hs⟩⟩
    · cases hs
    · exact ⟨_, _, rfl, Or.inr ⟨e, rfl, hs⟩⟩
theorem retOk_I : retOk nx (r_I nx) := by
  intro rec call m as h ls rest kx q hs
  have hs : cI (call m as h) (fun x h' => rec (nx, ls, .int x :: rest, h')) (fun e h' => kxP rec (kx e h')) = some q := hs
  cases hc : call m as h with
  | none => rw [hc] at hs; cases hs
  | some z =>
    rw [hc] at hs
    rcases z with ⟨(_ | v) | e, h'⟩
    · cases hs
    · cases v <;> first | exact ⟨_, _, rfl, Or.inl ⟨_, rfl, hs⟩⟩ | cases hs
    · exact ⟨_, _, rfl, Or.inr ⟨e, rfl, hs⟩⟩
theorem retOk_J : retOk nx (r_J nx) := by
  intro rec call m as h ls rest kx q hs
  have hs : cJ (call m as h) (fun x h' => rec (nx, ls, .long x :: rest, h')) (fun e h' => kxP rec (kx e h')) = some q := hs
  cases hc : call m as h with
  | none => rw [hc] at hs; cases hs
  | some z =>
    rw [hc] at hs
    rcases z with ⟨(_ | v) | e, h'⟩
    · cases hs
    · cases v <;> first | exact ⟨_, _, rfl, Or.inl ⟨_, rfl, hs⟩⟩ | cases hs
    · exact ⟨_, _, rfl, Or.inr ⟨e, rfl, hs⟩⟩
theorem retOk_R : retOk nx (r_R nx) := by
  intro rec call m as h ls rest kx q hs
  have hs : cR (call m as h) (fun h' => rec (nx, ls, .null :: rest, h')) (fun x h' => rec (nx, ls, .ref x :: rest, h')) (fun e h' => kxP rec (kx e h')) = some q := hs
  cases hc : call m as h with
  | none => rw [hc] at hs; cases hs
  | some z =>
    rw [hc] at hs
    rcases z with ⟨(_ | v) | e, h'⟩
    · cases hs
    · cases v <;> first | exact ⟨_, _, rfl, Or.inl ⟨_, rfl, hs⟩⟩ | cases hs
    · exact ⟨_, _, rfl, Or.inr ⟨e, rfl, hs⟩⟩
def rowC (B : BigP) (I : Nat → InfP) (i : InfP) (pc m n : Nat) : Prop := ∀ (d : Nat) (as rest : List Value) (h h' : HeapP) (o : OutP) (p : Program) (e : Env) (R : Room) (s : State) (mm : MethodId) (args : Array Value) (below : List Frame) (meth : Method) (cd : Code) (H : Heap) (locs : List Loc) (cells slots : Nat) (lm : Array Slot),
  p.tables.exec = Jvm.exec → cd.code = i.2.1 → cd.maxLocals = lm.size → s.vm.findClass i.1.cls = some mm.cls → GamP B.1 B.2.1 (bE B) s s.heap → repP (bE B) h H → va_S (frP (bE B)) s.heap H locs → metP B (I m) d as h o h' → rcvP (I m).2.2.2.2.2 as h = true → (I m).2.2.1 ≤ 30 →
  d + 17 ≤ R.frames → 64 * (d + 1) + 512 ≤ R.locals → cells + (h'.1 - h.1) ≤ R.cells → slots + (h'.2.1 - h.2.1) ≤ R.slots → as.length = n → (rest.map fun v => v.category).sum ≤ 8 →
  vx_Run p B.2.2.2 e R s mm args below meth cd H locs cells slots (h'.1 - h.1) (h'.2.1 - h.2.1) (F0 mm pc lm ((as.reverse ++ rest).map (vmP (bE B)))) (rest.map (vmP (bE B))) (QcP B o h' (as.map (vmP (bE B))).toArray) (XcP B o h') (frP (bE B))
theorem call_go {p : Program} {e : Env} {R : Room} {s : State} {m : MethodId} {args : Array Value} {below : List Frame} {meth : Method} {c : Code} {H : Heap} {locs : List Loc} {cells slots mc ms : Nat} {Q : State → Prop} {lm : Array Slot} {st0 rest : List Value} {o' : OutP} {h' : HeapP} {arr : Array Value}
    (hr : vx_Run p B.2.2.2 e R s m args below meth c H locs cells slots mc ms (F0 m pc lm st0) rest (QcP B o' h' arr) (XcP B o' h') (frP (bE B))) (hS : va_S (frP (bE B)) s.heap H locs) (hG : eB (bE B) ≤ s.heap.size)
    (kret : ∀ v, o' = Sum.inl v → ∀ H1 locs1, repP (bE B) h' H1 → va_S (frP (bE B)) s.heap H1 locs1 → W p B.2.2.2 e R s m args below meth c H1 locs1 (cells + mc) (slots + ms) Q (F0 m (pc + 3) lm (v.toList.map (vmP (bE B)) ++ rest)))
    (kthr : ∀ k, o' = Sum.inr k → ∀ H1 locs1 q9 ce, repP (bE B) h' H1 → va_S (frP (bE B)) s.heap H1 locs1 → H1[q9]? = some ce → ce.vm = .none → s.vm.findClass (excP k) = some ce.cls → vx_W p B.2.2.2 e R s m args below meth c H1 locs1 (cells + mc) (slots + ms) Q (F0 m pc lm rest) q9) :
    W p B.2.2.2 e R s m args below meth c H locs cells slots Q (F0 m pc lm st0) := by
  intro T hT X
  have keep : ∀ {st₀ t T' : State} {L : List Loc}, st₀.heap = H → T'.heap = t.heap → (∀ q ∈ L, frP (bE B) q.base) → keptP B st₀ t → va_S (frP (bE B)) s.heap T'.heap (locs ++ L) := by
    intro st₀ t T' L h0 e1 hL hk
    obtain ⟨k1, k2⟩ := hk
    refine ⟨by rw [e1]; exact Nat.le_trans hS.1 (by rw [← h0]; exact k1), fun q g1 g2 => ?_, fun q hq => ?_⟩
    · rw [e1, k2 q (Nat.not_le.mp g2), h0]
      exact hS.2.1 q g1 g2
    · rcases List.mem_append.mp hq with z | z
      · exact hS.2.2 q z
      · exact hL q z
  rcases hr T hT X with ⟨v, st₀, t, T', L, h0, X', hL, e1, e2, hq, st⟩ | ⟨q, st₀, t, T', L, E, ce, h0, X', hL, e1, e2, hx, hce, hcv, hcl, st⟩
  · obtain ⟨⟨v', ho, hv⟩, hrep, hkept⟩ := hq
    injection hv with hv
    subst hv
    have hS1 := keep h0 e1 hL hkept
    obtain ⟨t2, a1, b1⟩ := kret v' ho T'.heap (locs ++ L) (by rw [e1]; exact hrep) hS1 T' rfl X'
    refine ⟨t2, st t2 ?_, b1⟩
    have e9 : (v'.map (vmP (bE B))).toList = v'.toList.map (vmP (bE B)) := by cases v' <;> rfl
    show Steps p.tables e below (T'.setTop (F0 m (pc + 3) lm ((v'.map (vmP (bE B))).toList ++ rest))) t2
    rw [e9]
    exact a1
  · obtain ⟨⟨k, ho, hE⟩, hrep, hkept⟩ := hx
    subst hE
    have hS1 := keep h0 e1 hL hkept
    obtain ⟨t2, a1, b1⟩ := kthr k ho T'.heap (locs ++ L) q ce (by rw [e1]; exact hrep) hS1 (by rw [e1]; exact hce) hcv hcl T' rfl X'
    exact ⟨t2, st.trans a1, b1⟩
/-- the handlers of a method, all over this place, and where they go -/
def okH (i : InfP) (pc : Nat) (e : Nat × Nat × Nat × Nat) (q : Nat × Nat × Nat) : Prop := e.1 ≤ pc ∧ pc < e.2.1 ∧ e.2.2.2 ≠ 0 ∧ q.1 < 4 ∧ Cond.classLink i.1.cls e.2.2.2 (excP q.1) ∈ lw_tbl ∧ Cond.castable (excP q.1) (excP q.1) ∈ lw_tbl ∧ q.2.2 < i.2.2.1 ∧
  ((decode i.2.1 e.2.2.1 = .ok (.astore q.2.2, 2) ∧ q.2.1 = e.2.2.1 + 2) ∨ ∃ n4 : Fin 4, decode i.2.1 e.2.2.1 = .ok (.astore_n n4, 1) ∧ (n4 : Nat) = q.2.2 ∧ q.2.1 = e.2.2.1 + 1)
def okHs (i : InfP) (pc : Nat) : List (Nat × Nat × Nat × Nat) → List (Nat × Nat × Nat) → Prop
  | [], [] => True
  | e :: hh, q :: hs => okH i pc e q ∧ okHs i pc hh hs
  | _, _ => False
theorem okHs_find {k : Nat} : ∀ {hh : List (Nat × Nat × Nat × Nat)} {hs : List (Nat × Nat × Nat)} {q : Nat × Nat × Nat}, okHs i pc hh hs → hs.find? (fun z => Nat.beq z.1 k) = some q → q.1 = k ∧ ∃ pre x suf, hh = pre ++ x :: suf ∧ okH i pc x q ∧ ∀ z ∈ pre, ∃ q', okH i pc z q' ∧ q'.1 ≠ k := by
  intro hh
  induction hh with
  | nil =>
    intro hs q h1 h2
    cases hs with
    | nil => cases h2
    | cons a b => exact absurd h1 (by simp [okHs])
  | cons e hh ih =>
    intro hs q h1 h2
    cases hs with
    | nil => exact absurd h1 (by simp [okHs])
    | cons a b =>
      obtain ⟨h1, h3⟩ := h1
      rw [List.find?_cons] at h2
      cases hb : Nat.beq a.1 k with
      | true =>
        rw [hb] at h2
        cases h2
        exact ⟨Nat.eq_of_beq_eq_true hb, [], e, hh, rfl, h1, fun z hz => by cases hz⟩
      | false =>
        rw [hb] at h2
        obtain ⟨g0, pre, x, suf, g1, g2, g3⟩ := ih h3 h2
        refine ⟨g0, e :: pre, x, suf, by rw [g1]; rfl, g2, fun z hz => ?_⟩
        rcases List.mem_cons.mp hz with rfl | hz
        · exact ⟨a, h1, Nat.ne_of_beq_eq_false hb⟩
        · exact g3 z hz
theorem g_callW {m n : Nat} {hs : List (Nat × Nat × Nat)} {kt : LocP → List Value → RetP} (hk : retOk nx kt) (hn : pc + 3 = nx) (hrow : rowC B I i pc m n) (hm30 : (I m).2.2.1 ≤ 30) (hh : okHs i pc i.2.2.2.2.1 hs) : GdP B I i pc (s_call m n hs kt) := by
  subst hn
  have hkx : ∀ (rec : CfgP → ResP) (ls : LocP) (e : Nat) (h' : HeapP) (q : OutP × HeapP), kxP rec (kxS hs ls e h') = some q → (hs = [] ∧ q = (Sum.inr e, h')) ∨ ∃ z, hs.find? (fun z => Nat.beq z.1 e) = some z ∧ rec (z.2.1, (clrL ls z.2.2).set z.2.2 none, [], h') = some q := by
    intro rec ls e h' q hq
    cases hs with
    | nil => exact Or.inl ⟨rfl, by have : some (Sum.inr e, h') = some q := hq; exact (Option.some.inj this).symm⟩
    | cons a b =>
      refine Or.inr ?_
      cases hf : (a :: b).find? (fun z => Nat.beq z.1 e) with
      | none =>
        have hq : kxP rec (match (a :: b).find? (fun z => Nat.beq z.1 e) with | some z => .inr (z.2.1, (clrL ls z.2.2).set z.2.2 none, [], h') | none => .inl none) = some q := hq
        rw [hf] at hq; cases hq
      | some z =>
        have hq : kxP rec (match (a :: b).find? (fun z => Nat.beq z.1 e) with | some z => .inr (z.2.1, (clrL ls z.2.2).set z.2.2 none, [], h') | none => .inl none) = some q := hq
        rw [hf] at hq
        exact ⟨z, rfl, hq⟩
  refine ⟨fun ls st h rec call q hg hgc hs9 => ?_, fun d ls st h o h1 rec call hg hr hc hs9 => ?_⟩
  · unfold s_call at hs9
    split at hs9
    · rename_i as rest hp
      cases hb : Nat.ble (rest.map fun v => v.category).sum 8 with
      | false => rw [hb] at hs9; cases hs9
      | true =>
        rw [hb] at hs9
        obtain ⟨o', h', hcall, hcase⟩ := hk rec call m as h ls rest (kxS hs ls) q hs9
        have hle := hgc m as h _ hcall
        rcases hcase with ⟨v, -, h2⟩ | ⟨e, -, h2⟩
        · exact hle.tr (hg _ q h2)
        · rcases hkx rec ls e h' q h2 with ⟨-, rfl⟩ | ⟨z, -, h3⟩
          · exact hle
          · exact hle.tr (hg _ q h3)
    · cases hs9
  · unfold s_call at hs9
    split at hs9
    · rename_i as rest hp
      cases hb : Nat.ble (rest.map fun v => v.category).sum 8 with
      | false => rw [hb] at hs9; cases hs9
      | true =>
        rw [hb] at hs9
        obtain ⟨o', h', hcall, hcase⟩ := hk rec call m as h ls rest (kxS hs ls) (o, h1) hs9
        obtain ⟨⟨d', rfl, hmet⟩, hle, hrcv, hlen⟩ := hc m as h o' h' hcall
        obtain ⟨as', e1, e2, rfl⟩ := popN_spec hp
        rw [List.append_nil] at e1
        subst e1
        have hle1 : hleP h' h1 := by
          rcases hcase with ⟨v, -, h2⟩ | ⟨e, -, h2⟩
          · exact hg _ _ h2
          · rcases hkx rec ls e h' _ h2 with ⟨-, h3⟩ | ⟨z, -, h3⟩
            · injection h3 with h3 h4; subst h4; exact hleP.rfl'
            · exact hg _ _ h3
        intro p e R s mm args below meth cd h0 H locs lm hI h01 h11 hR hL hS
        obtain ⟨i1, i2, i3, i4, i5, i6, i7, i8, i9, i10, i11, i12, i13, i14⟩ := id hI
        have h01 : hleP h0 h := h01
        obtain ⟨z1, z2⟩ := h01
        obtain ⟨z3, z4⟩ := id hle
        obtain ⟨z5, z6⟩ := id hle1
        have hrun := hrow d' as rest h h' o' p e R s mm args below meth cd H locs (h.1 - h0.1) (h.2.1 - h0.2.1) lm i1 i2 (by rw [i3]; exact hL.1.1.symm) i6 i9 hR hS hmet hrcv hm30 (by omega) (by omega) (by omega) (by omega) e2 (Nat.le_of_ble_eq_true hb)
        refine call_go hrun hS i9.2.2.2.1 (fun v ho H1 locs1 hR1 hS1 => ?_) (fun k ho H1 locs1 q9 ce hR1 hS1 hce hcv hcl => ?_)
        · rcases hcase with ⟨v', ho', h2⟩ | ⟨e', ho', h2⟩
          · have : v = v' := by rw [ho] at ho'; injection ho'
            subst this
            have hv := hr _ h2 p e R s mm args below meth cd h0 H1 locs1 lm hI (h01.tr hle) hle1 hR1 hL hS1
            have e9 : (v.toList ++ rest).map (vmP (bE B)) = v.toList.map (vmP (bE B)) ++ rest.map (vmP (bE B)) := List.map_append
            dsimp only at hv
            rw [e9] at hv
            refine W.cs ?_ ?_ hv
            · show h.1 - h0.1 + (h'.1 - h.1) = h'.1 - h0.1; omega
            · show h.2.1 - h0.2.1 + (h'.2.1 - h.2.1) = h'.2.1 - h0.2.1; omega
          · rw [ho] at ho'; cases ho'
        · rcases hcase with ⟨v', ho', h2⟩ | ⟨e', ho', h2⟩
          · rw [ho] at ho'; cases ho'
          · have : k = e' := by rw [ho] at ho'; injection ho'
            subst this
            rcases hkx rec ls k h' _ h2 with ⟨hs0, h3⟩ | ⟨z, hz, h3⟩
            · subst hs0
              injection h3 with h3 h4
              subst h4
              have hhe : i.2.2.2.2.1 = [] := by
                cases hh9 : i.2.2.2.2.1 with
                | nil => rfl
                | cons a b => rw [hh9] at hh; exact absurd hh (by simp [okHs])
              refine vx_out (fun x hx => by rw [i8, hhe] at hx; cases hx) i5 hce hcv hcl (fun t ht hW => ⟨⟨k, h3, rfl⟩, by rw [ht]; exact hR1, keptP_of hS1 i9 ht⟩) hS1.2.2 (by show h.1 - h0.1 + (h1.1 - h.1) ≤ h1.1 - h0.1; omega) (by show h.2.1 - h0.2.1 + (h1.2.1 - h.2.1) ≤ h1.2.1 - h0.2.1; omega)
            · obtain ⟨g0, pre, x, suf, g1, g2, g3⟩ := okHs_find hh hz
              obtain ⟨y1, y2, y3, y4, y5, y6, y7, y8⟩ := g2
              subst g0
              have hsp : cd.exceptionTable.toList = (pre.map fun q => (⟨q.1, q.2.1, q.2.2.1, q.2.2.2⟩ : ExceptionTableEntry)) ++ (⟨x.1, x.2.1, x.2.2.1, x.2.2.2⟩ : ExceptionTableEntry) :: (suf.map fun q => (⟨q.1, q.2.1, q.2.2.1, q.2.2.2⟩ : ExceptionTableEntry)) := by
                rw [i8, g1]
                unfold tableOf
                rw [List.map_append, List.map_cons]
              have hcov : covers (⟨x.1, x.2.1, x.2.2.1, x.2.2.2⟩ : ExceptionTableEntry) pc = true := by
                show (decide (x.1 ≤ pc) && decide (pc < x.2.1)) = true
                simp [y1, y2]
              have hnx := hr _ h3
              have fin : ∀ lm', locR (bE B) lm' i.2.2.1 ((clrL ls z.2.2).set z.2.2 none) → W p B.2.2.2 e R s mm args below meth cd H1 locs1 (h.1 - h0.1 + (h'.1 - h.1)) (h.2.1 - h0.2.1 + (h'.2.1 - h.2.1)) (endP B below args s o h0 h1) (F0 mm z.2.1 lm' []) := fun lm' hL' => by
                have hv := hnx p e R s mm args below meth cd h0 H1 locs1 lm' hI (h01.tr hle) hle1 hR1 hL' hS1
                refine W.cs ?_ ?_ hv
                · show h.1 - h0.1 + (h'.1 - h.1) = h'.1 - h0.1; omega
                · show h.2.1 - h0.2.1 + (h'.2.1 - h.2.1) = h'.2.1 - h0.2.1; omega
              refine vx_catch (own := i.1.cls) (name := excP z.1) i6 _ _ _ hsp (fun w hw => ?_) hcov y3 (i9.2.1 _ y5 rfl _) (va_Nw.use rfl (i9.2.2.1 _ y6 rfl)) hce hcv hcl ?_
              · obtain ⟨w0, hw0, rfl⟩ := List.mem_map.mp hw
                obtain ⟨q', hq', hne⟩ := g3 w0 hw0
                obtain ⟨x1, x2, x3, x4, x5, x6, -⟩ := hq'
                exact Or.inr ⟨x3, excP q'.1, i9.2.1 _ x5 rfl _, i9.2.2.2.2.2.2.2.2.1 _ _ y4 x4 (fun z => hne z.symm)⟩
              · rcases y8 with ⟨y8, y9⟩ | ⟨n4, y8, y10, y9⟩
                · rw [y9] at fin
                  exact lv_astore i1 i2 y8 hL.1 y7 rfl (fun ls' h' => fin ls' (locR.none hL.2 h'))
                · rw [y9] at fin
                  exact lv_astore_n i1 i2 y8 y10 hL.1 y7 rfl (fun ls' h' => fin ls' (locR.none hL.2 h'))
    · cases hs9
end MA
