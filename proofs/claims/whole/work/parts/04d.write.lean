/-! SOUND, part d: lengths, the text's words, writes, new cells -/
section WR
variable {B : BigP} {I : Nat → InfP} {i : InfP} {pc nx : Nat}
theorem g_alen (hd : decode i.2.1 pc = .ok (.arraylength, 1)) (hn : pc + 1 = nx) : GdP B I i pc (s_rI k_alen nx) := by
  subst hn
  refine g_rI fun st h st' x hq => ?_
  unfold k_alen at hq
  split at hq
  · rename_i a st9
    injection hq with hq; injection hq with q1 q2; subst q2
    unfold alenP at q1
    split at q1
    · rename_i t n f hc
      cases q1
      intro p e R s m args below meth cd H locs cells slots Q lm hx hb ho hG hR hS kk
      rcases hR.2.2 a _ hc with ⟨rfl, z⟩ | ⟨r1, r2, r3, r4⟩
      · unfold pI at z; injection z with z; injection z with z; injection z with z1 z2; injection z2 with z2 z3
        subst z2; subst z3
        have e0 : vmP (bE B) (.ref 0) = .ref (eK (bE B) 0) := rfl
        obtain ⟨x1, x2⟩ := hG.2.2.2.2.1
        have hlt : eK (bE B) 0 < s.heap.size := Nat.lt_of_lt_of_le x2 hG.2.2.2.1
        rw [List.map_cons, e0]
        exact va_slen hx hb x1 hlt (Nat.not_le.mpr x2) hS hd kk
      · have r3 : t < 3 := r3
        exact va_alen hx hb hG.1 (one_P r4) 0 t rfl (tysP_at (by omega)) rfl hd kk
    · rename_i n f hc
      cases q1
      intro p e R s m args below meth cd H locs cells slots Q lm hx hb ho hG hR hS kk
      obtain ⟨r1, r2, r3, r4⟩ := hR.get hc (fun z => by cases z)
      exact va_alen hx hb hG.1 (one_P r4) 0 3 rfl (tysP_at (by omega)) rfl hd kk
    · rename_i t n f hc
      cases q1
      intro p e R s m args below meth cd H locs cells slots Q lm hx hb ho hG hR hS kk
      obtain ⟨r1, r2, r3, r4⟩ := hR.get hc (fun z => by cases z)
      have r3 : 4 ≤ t ∧ t < 7 := r3
      exact va_alen hx hb hG.1 (one_P r4) 0 t rfl (tysP_at r3.2) rfl hd kk
    · cases q1
  · cases hq
/-! the words of the text: handles 1 to 7, their bytes 8 to 14 -/
def strV (a : Nat) : Option Nat := if 1 ≤ a ∧ a ≤ 7 then some (a + 7) else none
def strC (a : Nat) : Option Int32 := if 1 ≤ a ∧ a ≤ 7 then some 0 else none
def strN (a : Nat) : Option Int32 := if 8 ≤ a ∧ a ≤ 14 then some (nI (wrdLen.getD (a - 8) 0)) else none
def strB (a : Nat) (x : Int32) : Option Int32 := if (8 ≤ a ∧ a ≤ 14) ∧ inb x (wrdLen.getD (a - 8) 0) = true then some ((wrdByt.getD (a - 8) []).getD x.toNatClampNeg 0) else none
def k_strV : List Value → HeapP → Option (Option Nat × List Value) := fun st _ => match st with
  | .ref a :: st => some (strV a, st)
  | _ => none
def k_strC : List Value → HeapP → Option (Option Int32 × List Value) := fun st _ => match st with
  | .ref a :: st => some (strC a, st)
  | _ => none
def k_strN : List Value → HeapP → Option (Option Int32 × List Value) := fun st _ => match st with
  | .ref a :: st => some (strN a, st)
  | _ => none
def k_strB : List Value → HeapP → Option (Option Int32 × List Value) := fun st _ => match st with
  | .int x :: .ref a :: st => some (strB a x, st)
  | _ => none
def k_one : List Value → HeapP → Option (Option Int32 × List Value) := fun st _ => some (some 1, st)
theorem nat_1 (a : Nat) (h : 1 ≤ a) : 1 + (a - 1) = a := by omega
theorem nat_2 (a : Nat) (h : 1 ≤ a) : 8 + (a - 1) = a + 7 := by omega
theorem nat_3 (a : Nat) (h : 8 ≤ a) : 8 + (a - 8) = a := by omega
theorem vmP_lo {E : EnvP} {a : Nat} (h : a < 16) : vmP E (.ref a) = .ref (eK E a) := by simp [vmP, adP, h]
theorem g_strV {idx : Nat} (hd : decode i.2.1 pc = .ok (.getfield idx, 3)) (hn : pc + 3 = nx) (hw : Cond.fieldLink i.1.cls idx "java/lang/String" "value" "[B" ∈ lw_tbl) : GdP B I i pc (s_rA k_strV nx) := by
  subst hn
  refine g_rA fun st h st' x hq => ?_
  unfold k_strV at hq
  split at hq
  · rename_i a st9
    injection hq with hq; injection hq with q1 q2; subst q2
    unfold strV at q1
    split at q1
    · rename_i hh
      cases q1
      intro p e R s m args below meth cd H locs cells slots Q lm hx hb ho hG hR hS kk
      obtain ⟨-, -, h3, -⟩ := (hG.2.2.2.2.2.1.2.2).1 (a - 1) (by omega)
      rw [vmP_lo (by omega)] at kk
      rw [List.map_cons, vmP_lo (by omega)]
      have e1 := nat_1 a hh.1
      have e2 := nat_2 a hh.1
      dsimp only at h3
      rw [e1, e2] at h3
      exact vk_getf hx hb h3 hS ho (hG.2.1 _ hw rfl _) (fun x hx => hx) hd kk
    · cases q1
  · cases hq
theorem g_strC {idx : Nat} (hd : decode i.2.1 pc = .ok (.getfield idx, 3)) (hn : pc + 3 = nx) (hw : Cond.fieldLink i.1.cls idx "java/lang/String" "coder" "B" ∈ lw_tbl) : GdP B I i pc (s_rI k_strC nx) := by
  subst hn
  refine g_rI fun st h st' x hq => ?_
  unfold k_strC at hq
  split at hq
  · rename_i a st9
    injection hq with hq; injection hq with q1 q2; subst q2
    unfold strC at q1
    split at q1
    · rename_i hh
      cases q1
      intro p e R s m args below meth cd H locs cells slots Q lm hx hb ho hG hR hS kk
      obtain ⟨-, h3, -, -⟩ := (hG.2.2.2.2.2.1.2.2).1 (a - 1) (by omega)
      rw [List.map_cons, vmP_lo (by omega)]
      have e1 := nat_1 a hh.1
      dsimp only at h3
      rw [e1] at h3
      exact vk_getf hx hb h3 hS ho (hG.2.1 _ hw rfl _) (fun x hx => hx) hd kk
    · cases q1
  · cases hq
theorem g_strN (hd : decode i.2.1 pc = .ok (.arraylength, 1)) (hn : pc + 1 = nx) : GdP B I i pc (s_rI k_strN nx) := by
  subst hn
  refine g_rI fun st h st' x hq => ?_
  unfold k_strN at hq
  split at hq
  · rename_i a st9
    injection hq with hq; injection hq with q1 q2; subst q2
    unfold strN at q1
    split at q1
    · rename_i hh
      cases q1
      intro p e R s m args below meth cd H locs cells slots Q lm hx hb ho hG hR hS kk
      obtain ⟨-, -, -, h3⟩ := (hG.2.2.2.2.2.1.2.2).1 (a - 8) (by omega)
      rw [List.map_cons, vmP_lo (by omega)]
      have e1 := nat_3 a hh.1
      dsimp only at h3
      rw [e1] at h3
      exact va_tlen hx hb h3 hS rfl hd kk
    · cases q1
  · cases hq
theorem g_strB (hd : decode i.2.1 pc = .ok (.baload, 1)) (hn : pc + 1 = nx) : GdP B I i pc (s_rI k_strB nx) := by
  subst hn
  refine g_rI fun st h st' x hq => ?_
  unfold k_strB at hq
  split at hq
  · rename_i j a st9
    injection hq with hq; injection hq with q1 q2; subst q2
    unfold strB at q1
    split at q1
    · rename_i hh
      cases q1
      intro p e R s m args below meth cd H locs cells slots Q lm hx hb ho hG hR hS kk
      obtain ⟨-, -, -, h3⟩ := (hG.2.2.2.2.2.1.2.2).1 (a - 8) (by omega)
      rw [List.map_cons, List.map_cons, vmP_lo (by omega)]
      have e1 := nat_3 a hh.1.1
      dsimp only at h3
      rw [e1] at h3
      exact va_tb hx hb h3 hS (inb_in hh.2) rfl hd kk
    · cases q1
  · cases hq
/-- getstatic String.COMPACT_STRINGS -/
theorem g_compact {idx : Nat} (hd : decode i.2.1 pc = .ok (.getstatic idx, 3)) (hn : pc + 3 = nx) (hw : Cond.fieldLink i.1.cls idx "java/lang/String" "COMPACT_STRINGS" "Z" ∈ lw_tbl) : GdP B I i pc (s_rI k_one nx) := by
  subst hn
  refine g_rI fun st h st' x hq => ?_
  cases hq
  intro p e R s m args below meth cd H locs cells slots Q lm hx hb ho hG hR hS kk
  exact va_gets hx hb hG.2.2.2.2.2.2.2.1 hS ho (hG.2.1 _ hw rfl _) (fun x hx => hx) hd kk
/-! writes -/
def s_wr (k : List Value → HeapP → Option (Option HeapP × List Value)) (nx : Nat) : SemP := fun ls st h => match k st h with
  | some (o, st') => xH o (fun h' => (nx, ls, st', h'))
  | none => xHalt none
def rowW (B : BigP) (i : InfP) (pc nx : Nat) (st st' : List Value) (h h' : HeapP) : Prop := hleP h h' ∧ ∀ (p : Program) (e : Env) (R : Room) (s : State) (m : MethodId) (args : Array Value) (below : List Frame) (meth : Method) (cd : Code) (H : Heap) (locs : List Loc) (cells slots : Nat) (Q : State → Prop) (lm : Array Slot),
  p.tables.exec = Jvm.exec → cd.code = i.2.1 → s.vm.findClass i.1.cls = some m.cls → meth.name = i.1.name → cd.maxLocals = lm.size → GamP B.1 B.2.1 (bE B) s s.heap → repP (bE B) h H → va_S (frP (bE B)) s.heap H locs → 1 ≤ R.frames → 512 ≤ R.locals → cells + (h'.1 - h.1) ≤ R.cells → slots + (h'.2.1 - h.2.1) ≤ R.slots →
  (∀ (H1 : Heap) (locs1 : List Loc), repP (bE B) h' H1 → va_S (frP (bE B)) s.heap H1 locs1 → W p B.2.2.2 e R s m args below meth cd H1 locs1 (cells + (h'.1 - h.1)) (slots + (h'.2.1 - h.2.1)) Q (F0 m nx lm (st'.map (vmP (bE B))))) → W p B.2.2.2 e R s m args below meth cd H locs cells slots Q (F0 m pc lm (st.map (vmP (bE B))))
theorem rowW.use {d : Nat} {st st' : List Value} {h h' : HeapP} {ls : LocP} {o : OutP} {h1 : HeapP} (r : rowW B i pc nx st st' h h') (hv : VP B i d (nx, ls, st', h') o h1) (hg : hleP h' h1) : VP B i d (pc, ls, st, h) o h1 := by
  intro p e R s m args below meth cd h0 H locs lm hI h01 h11 hR hL hS
  obtain ⟨r1, r2⟩ := r
  have h01 : hleP h0 h := h01
  obtain ⟨i1, i2, i3, i4, i5, i6, i7, i8, i9, i10, i11, i12, i13, i14⟩ := id hI
  have e1 : h'.1 - h0.1 = (h.1 - h0.1) + (h'.1 - h.1) := by have := h01.1; have := r1.1; omega
  have e2 : h'.2.1 - h0.2.1 = (h.2.1 - h0.2.1) + (h'.2.1 - h.2.1) := by have := h01.2; have := r1.2; omega
  refine r2 p e R s m args below meth cd H locs _ _ _ lm i1 i2 i6 i7 (by rw [i3]; exact hL.1.1.symm) i9 hR hS (by omega) (by omega) (by show (h.1 - h0.1) + _ ≤ _; have := hg.1; omega) (by show (h.2.1 - h0.2.1) + _ ≤ _; have := hg.2; omega) (fun H1 locs1 hR1 hS1 => ?_)
  have hw := hv p e R s m args below meth cd h0 H1 locs1 lm hI (h01.tr r1) hg hR1 hL hS1
  exact W.cs e1.symm e2.symm hw
theorem g_wr {k : List Value → HeapP → Option (Option HeapP × List Value)} (row : ∀ st h st' h', k st h = some (some h', st') → rowW B i pc nx st st' h h') : GdP B I i pc (s_wr k nx) := by
  refine ⟨fun ls st h rec call q hg _ hs => ?_, fun d ls st h o h1 rec call hg hr hc hs => ?_⟩
  · unfold s_wr at hs
    split at hs
    · rename_i o st' hk
      cases o with
      | none => cases hs
      | some h' => exact (row st h st' h' hk).1.tr (hg (nx, ls, st', h') q hs)
    · cases hs
  · unfold s_wr at hs
    split at hs
    · rename_i o9 st' hk
      cases o9 with
      | none => cases hs
      | some h' => exact (row st h st' h' hk).use (hr (nx, ls, st', h') hs) (hg (nx, ls, st', h') _ hs)
    · cases hs
theorem W.cs0 {p : Program} {l : Launch} {e : Env} {R : Room} {s : State} {m : MethodId} {args : Array Value} {below : List Frame} {meth : Method} {c : Code} {H : Heap} {locs : List Loc} {cells slots a b : Nat} {Q : State → Prop} {g : JFrame} (k : W p l e R s m args below meth c H locs (cells + (a - a)) (slots + (b - b)) Q g) : W p l e R s m args below meth c H locs cells slots Q g := W.cs (by omega) (by omega) k
/-- putfield, all kinds -/
theorem row_put {idx ci k N : Nat} {C : String} {T : u_T} {ty0 : Nat → FieldType} {a : Nat} {st' : List Value} {h h' : HeapP} {v : Value} (hd : decode i.2.1 pc = .ok (.putfield idx, 3)) (hn : pc + 3 = nx) (hc : clsP[ci]? = some (C, T, N)) (hin : ∀ w ∈ u_ws C T N, w ∈ lw_tbl)
    (hty : ∀ k, k < N → parseFieldDescriptor (T k).2.2.1 = some (ty0 k)) (hnm : ∀ a, a < N → ∀ b, b < N → a ≠ b → (T a).2.1 ≠ (T b).2.1) (hk : k < N) (hT : (T k).1 = C) (hw : Cond.fieldLink i.1.cls idx C (T k).2.1 (T k).2.2.1 ∈ lw_tbl)
    (hfin : (T k).2.2.2 = false ∨ ((T k).2.2.2 = true ∧ i.1.name = "<init>" ∧ C = i.1.cls)) (hn9 : narrow (ty0 k) (vmP (bE B) v) = vmP (bE B) v) (hfit : fits (ty0 k) (vmP (bE B) v) = true) (hv : wrV h ci a k v = some h') : rowW B i pc nx (v :: .ref a :: st') st' h h' := by
  subst hn
  unfold wrV at hv
  split at hv
  · rename_i c fs hc9
    split at hv
    · rename_i hh
      obtain ⟨rfl, hl⟩ := hh
      cases hv
      refine ⟨hleP.rfl', ?_⟩
      intro p e R s m args below meth cd H locs cells slots Q lm hx hb ho hnm9 hml hG hR hS _ _ _ _ kk
      obtain ⟨r1, r2, r3, r4⟩ := hR.get hc9 (fun z => by cases z)
      have hts : ∀ w ∈ u_ws C T N, w.before args s = true := fun w hw => hG.2.1 w (hin w hw) (u_ws_good w hw) _
      have hap := va_apart (own := i.1.cls) hts (fun w hw => hw) ty0 hty hnm hG.1 hc
      obtain ⟨r, h1, cell, q1, q2, q3, q4⟩ := r4
      have hr : r = (C, T, N) := Option.some.inj (h1.symm.trans hc)
      subst hr
      obtain ⟨hS9, hfc, kC, hkC, hkind⟩ := hG.1.1 c _ hc
      obtain ⟨cf, kf, fi, f, hi, hsl⟩ := hS9 k hk
      have hlay := hts _ (u_in_lay hk)
      have hst := (u_facts hfc hkC (u_lays hts (fun w hw => hw) hk) hi).1
      have hi' : s.fieldFound? C (T k).2.1 (T k).2.2.1 = some (cf, kf, fi, f) := by rw [hT] at hi; exact hi
      have fin : ∀ H1 : Heap, H1[adP (bE B) a]? = some (cell.setSlot f.slot (vmP (bE B) v)) → H1.size = H.size → (∀ q, q ≠ adP (bE B) a → H1[q]? = H[q]?) → repP (bE B) (hset h a (pO c (fs.set k v))) H1 := by
        intro H1 e1 e2 e3
        rw [hsl] at e1
        refine hR.set ⟨r1, r2⟩ trivial ?_ e2 e3
        refine ⟨_, hc, t_OB.to (V := updV (vp_V (fs.map (vmP (bE B)))) k (vmP (bE B) v)) ⟨_, e1, q2, q3, t_set q4 hap hk _⟩ (fun j _ => ?_)⟩
        have e4 : (fs.set k v).map (vmP (bE B)) = (fs.map (vmP (bE B))).set k (vmP (bE B) v) := List.map_set
        rw [vp_updV_set (by simpa using hl) _ j]
        show _ = vp_V ((fs.set k v).map (vmP (bE B))) j
        rw [e4]
      rcases hfin with hf | ⟨hf, hf2, hf3⟩
      · unfold u_lay at hlay
        rw [if_neg (by rw [hf]; decide)] at hlay
        have h6 := u_store hfc hkC hkind hlay hi (hty k hk) hn9 hfit
        refine W.putK hx hb (f := f) ⟨ho, hG.2.1 _ hw rfl _, ⟨_, _, _, hi'⟩, hst⟩ (by rw [q2]; exact h6) q1 q3 (by rw [hsl]; exact k2_hasslot (q4 k hk)) rfl rfl hd fun H' e1 e2 e3 => ?_
        exact W.cs0 (kk H' _ (fin H' e1 e2 e3) (hS.put e2 e3 (hR.fr r1)))
      · unfold u_lay at hlay
        rw [if_pos hf] at hlay
        have hcf : m.cls = cf := by
          obtain ⟨_, _, c', _, _, _, -, -, hf', -, -, -, hown2, -⟩ := Cond.laysFinal_spec hlay
          have e1 : c' = cf := by have := hi.symm.trans hf'; simp at this; exact this.1.symm
          rw [hT, hf3] at hown2
          rw [← e1]; exact Option.some.inj (ho.symm.trans hown2)
        have h6 := u_fits hfc hkC hkind (Or.inr hlay) hi (hty k hk) hn9 hfit
        refine W.putFinK hx hb ho (hG.2.1 _ hw rfl _) hi' hst hcf (by rw [hnm9]; exact hf2) (by rw [q2]; exact h6) q1 q3 (by rw [hsl]; exact k2_hasslot (q4 k hk)) rfl rfl hd fun H' e1 e2 e3 => ?_
        exact W.cs0 (kk H' _ (fin H' e1 e2 e3) (hS.put e2 e3 (hR.fr r1)))
    · cases hv
  · cases hv
def k_putI (ci k : Nat) : List Value → HeapP → Option (Option HeapP × List Value) := fun st h => match st with
  | .int x :: .ref a :: st => some (wrV h ci a k (.int x), st)
  | _ => none
def k_putJ (ci k : Nat) : List Value → HeapP → Option (Option HeapP × List Value) := fun st h => match st with
  | .long x :: .ref a :: st => some (wrV h ci a k (.long x), st)
  | _ => none
def k_putA (ci k : Nat) : List Value → HeapP → Option (Option HeapP × List Value) := fun st h => match st with
  | .ref x :: .ref a :: st => some (wrV h ci a k (.ref x), st)
  | _ => none
def k_putZ (ci k : Nat) : List Value → HeapP → Option (Option HeapP × List Value) := fun st h => match st with
  | .int x :: .ref a :: st => some (wrZ h ci a k x, st)
  | _ => none
theorem g_putI {idx ci k N : Nat} {C : String} {T : u_T} {ty0 : Nat → FieldType} (hd : decode i.2.1 pc = .ok (.putfield idx, 3)) (hn : pc + 3 = nx) (hc : clsP[ci]? = some (C, T, N)) (hin : ∀ w ∈ u_ws C T N, w ∈ lw_tbl) (hty : ∀ k, k < N → parseFieldDescriptor (T k).2.2.1 = some (ty0 k)) (hnm : ∀ a, a < N → ∀ b, b < N → a ≠ b → (T a).2.1 ≠ (T b).2.1) (hk : k < N) (hT : (T k).1 = C) (hw : Cond.fieldLink i.1.cls idx C (T k).2.1 (T k).2.2.1 ∈ lw_tbl)
    (hfin : (T k).2.2.2 = false ∨ ((T k).2.2.2 = true ∧ i.1.name = "<init>" ∧ C = i.1.cls)) (hI : ty0 k = .int) : GdP B I i pc (s_wr (k_putI ci k) nx) := by
  refine g_wr fun st h st' h' hq => ?_
  unfold k_putI at hq
  split at hq
  · injection hq with hq; injection hq with q1 q2; subst q2
    exact row_put hd hn hc hin hty hnm hk hT hw hfin (by rw [hI]; rfl) (by rw [hI]; rfl) q1
  · cases hq
theorem g_putJ {idx ci k N : Nat} {C : String} {T : u_T} {ty0 : Nat → FieldType} (hd : decode i.2.1 pc = .ok (.putfield idx, 3)) (hn : pc + 3 = nx) (hc : clsP[ci]? = some (C, T, N)) (hin : ∀ w ∈ u_ws C T N, w ∈ lw_tbl) (hty : ∀ k, k < N → parseFieldDescriptor (T k).2.2.1 = some (ty0 k)) (hnm : ∀ a, a < N → ∀ b, b < N → a ≠ b → (T a).2.1 ≠ (T b).2.1) (hk : k < N) (hT : (T k).1 = C) (hw : Cond.fieldLink i.1.cls idx C (T k).2.1 (T k).2.2.1 ∈ lw_tbl)
    (hfin : (T k).2.2.2 = false ∨ ((T k).2.2.2 = true ∧ i.1.name = "<init>" ∧ C = i.1.cls)) (hI : ty0 k = .long) : GdP B I i pc (s_wr (k_putJ ci k) nx) := by
  refine g_wr fun st h st' h' hq => ?_
  unfold k_putJ at hq
  split at hq
  · injection hq with hq; injection hq with q1 q2; subst q2
    exact row_put hd hn hc hin hty hnm hk hT hw hfin (by rw [hI]; rfl) (by rw [hI]; rfl) q1
  · cases hq
theorem g_putA {idx ci k N : Nat} {C : String} {T : u_T} {ty0 : Nat → FieldType} (hd : decode i.2.1 pc = .ok (.putfield idx, 3)) (hn : pc + 3 = nx) (hc : clsP[ci]? = some (C, T, N)) (hin : ∀ w ∈ u_ws C T N, w ∈ lw_tbl) (hty : ∀ k, k < N → parseFieldDescriptor (T k).2.2.1 = some (ty0 k)) (hnm : ∀ a, a < N → ∀ b, b < N → a ≠ b → (T a).2.1 ≠ (T b).2.1) (hk : k < N) (hT : (T k).1 = C) (hw : Cond.fieldLink i.1.cls idx C (T k).2.1 (T k).2.2.1 ∈ lw_tbl)
    (hfin : (T k).2.2.2 = false ∨ ((T k).2.2.2 = true ∧ i.1.name = "<init>" ∧ C = i.1.cls)) (hI : ∀ a, narrow (ty0 k) (.ref a) = .ref a ∧ fits (ty0 k) (.ref a) = true) : GdP B I i pc (s_wr (k_putA ci k) nx) := by
  refine g_wr fun st h st' h' hq => ?_
  unfold k_putA at hq
  split at hq
  · injection hq with hq; injection hq with q1 q2; subst q2
    exact row_put hd hn hc hin hty hnm hk hT hw hfin (hI _).1 (hI _).2 q1
  · cases hq
theorem g_putZ {idx ci k N : Nat} {C : String} {T : u_T} {ty0 : Nat → FieldType} (hd : decode i.2.1 pc = .ok (.putfield idx, 3)) (hn : pc + 3 = nx) (hc : clsP[ci]? = some (C, T, N)) (hin : ∀ w ∈ u_ws C T N, w ∈ lw_tbl) (hty : ∀ k, k < N → parseFieldDescriptor (T k).2.2.1 = some (ty0 k)) (hnm : ∀ a, a < N → ∀ b, b < N → a ≠ b → (T a).2.1 ≠ (T b).2.1) (hk : k < N) (hT : (T k).1 = C) (hw : Cond.fieldLink i.1.cls idx C (T k).2.1 (T k).2.2.1 ∈ lw_tbl)
    (hfin : (T k).2.2.2 = false ∨ ((T k).2.2.2 = true ∧ i.1.name = "<init>" ∧ C = i.1.cls)) (hI : ty0 k = .boolean) : GdP B I i pc (s_wr (k_putZ ci k) nx) := by
  refine g_wr fun st h st' h' hq => ?_
  unfold k_putZ at hq
  split at hq
  · injection hq with hq; injection hq with q1 q2; subst q2
    unfold wrZ at q1
    split at q1
    · rename_i hx
      refine row_put hd hn hc hin hty hnm hk hT hw hfin ?_ ?_ q1
      · rw [hI]; rcases hx with rfl | rfl <;> rfl
      · rw [hI]; rcases hx with rfl | rfl <;> rfl
    · cases q1
  · cases hq
/-! array stores -/
def astN (h : HeapP) (ty a : Nat) (x v : Int32) : Option HeapP := astI h ty a x (vp_nar (tyP ty) v)
def k_ast (ty : Nat) : List Value → HeapP → Option (Option HeapP × List Value) := fun st h => match st with
  | .int v :: .int x :: .ref a :: st => some (astN h ty a x v, st)
  | _ => none
def k_astI : List Value → HeapP → Option (Option HeapP × List Value) := fun st h => match st with
  | .int v :: .int x :: .ref a :: st => some (astI h 0 a x v, st)
  | _ => none
def k_astJ : List Value → HeapP → Option (Option HeapP × List Value) := fun st h => match st with
  | .long v :: .int x :: .ref a :: st => some (astJ h a x v, st)
  | _ => none
def k_astR (ty ci : Nat) : List Value → HeapP → Option (Option HeapP × List Value) := fun st h => match st with
  | .ref v :: .int x :: .ref a :: st => some (astR h ty ci a x v, st)
  | _ => none
theorem astI_spec {h h' : HeapP} {ty a : Nat} {x v : Int32} (hv : astI h ty a x v = some h') : ∃ n f, h.2.2 a = some (pI ty n f) ∧ vp_in x n ∧ h' = hset h a (pI ty n (upd f x.toNatClampNeg v)) := by
  unfold astI at hv
  split at hv
  · rename_i t n f hc
    split at hv
    · rename_i hh; obtain ⟨rfl, hi⟩ := hh
      cases hv
      exact ⟨n, f, hc, inb_in hi, rfl⟩
    · cases hv
  · cases hv
theorem g_iast (hd : decode i.2.1 pc = .ok (.iastore, 1)) (hn : pc + 1 = nx) : GdP B I i pc (s_wr k_astI nx) := by
  subst hn
  refine g_wr fun st h st' h' hq => ?_
  unfold k_astI at hq
  split at hq
  · rename_i v j a st9
    injection hq with hq; injection hq with q1 q2; subst q2
    obtain ⟨n, f, h1, h2, rfl⟩ := astI_spec q1
    refine ⟨hleP.rfl', ?_⟩
    intro p e R s m args below meth cd H locs cells slots Q lm hx hb ho hnm9 hml hG hR hS _ _ _ _ kk
    obtain ⟨r1, r2, r3, r4⟩ := hR.get h1 (pI_ne9 (by decide))
    refine W.iast hx hb r4 ((hG.1.2 0 _ (tysP_at (by omega))).1 n (fun j => .int (f j))) (fun q => by cases q) (by show ¬ (j < 0 ∨ (arrV _ _ _).slots.size ≤ _); rw [arrV_size]; exact h2) rfl rfl hd fun H1 e1 z oq => ?_
    refine W.cs0 (kk H1 _ (hR.set ⟨r1, r2⟩ r3 ?_ z oq) (hS.put z oq (hR.fr r1)))
    show H1[adP (bE B) a]? = some (vp_cell _ _)
    rw [e1]
    show some ((vp_cell _ _).setSlot _ _) = _
    rw [vp_cell_i, vp_cell_i, arrV_store]
    congr 2
    funext q
    by_cases hq : q = j.toNatClampNeg
    · subst hq
      simp [updV, upd]
    · simp [updV, upd, hq]
  · cases hq
theorem g_bast (hd : decode i.2.1 pc = .ok (.bastore, 1)) (hn : pc + 1 = nx) : GdP B I i pc (s_wr (k_ast 1) nx) := by
  subst hn
  refine g_wr fun st h st' h' hq => ?_
  unfold k_ast at hq
  split at hq
  · rename_i v j a st9
    injection hq with hq; injection hq with q1 q2; subst q2
    obtain ⟨n, f, h1, h2, rfl⟩ := astI_spec q1
    refine ⟨hleP.rfl', ?_⟩
    intro p e R s m args below meth cd H locs cells slots Q lm hx hb ho hnm9 hml hG hR hS _ _ _ _ kk
    obtain ⟨r1, r2, r3, r4⟩ := hR.get h1 (pI_ne9 (by decide))
    refine W.bast hx hb r4 ((hG.1.2 1 _ (tysP_at (by omega))).1 n (fun j => .int (f j))) (fun q => by cases q) (by show ¬ (j < 0 ∨ (arrV _ _ _).slots.size ≤ _); rw [arrV_size]; exact h2) rfl rfl hd fun H1 e1 z oq => ?_
    refine W.cs0 (kk H1 _ (hR.set ⟨r1, r2⟩ r3 ?_ z oq) (hS.put z oq (hR.fr r1)))
    show H1[adP (bE B) a]? = some (vp_cell _ _)
    rw [e1]
    show some ((vp_cell _ _).setSlot _ _) = _
    rw [vp_cell_i, vp_cell_i, arrV_store]
    congr 2
    funext q
    by_cases hq : q = j.toNatClampNeg
    · subst hq
      simp [updV, upd, vp_nar, tyP]
      try rfl
    · simp [updV, upd, hq]
  · cases hq
theorem g_zast (hd : decode i.2.1 pc = .ok (.bastore, 1)) (hn : pc + 1 = nx) : GdP B I i pc (s_wr (k_ast 2) nx) := by
  subst hn
  refine g_wr fun st h st' h' hq => ?_
  unfold k_ast at hq
  split at hq
  · rename_i v j a st9
    injection hq with hq; injection hq with q1 q2; subst q2
    obtain ⟨n, f, h1, h2, rfl⟩ := astI_spec q1
    refine ⟨hleP.rfl', ?_⟩
    intro p e R s m args below meth cd H locs cells slots Q lm hx hb ho hnm9 hml hG hR hS _ _ _ _ kk
    obtain ⟨r1, r2, r3, r4⟩ := hR.get h1 (pI_ne9 (by decide))
    refine W.zast hx hb r4 ((hG.1.2 2 _ (tysP_at (by omega))).1 n (fun j => .int (f j))) (fun q => by cases q) (by show ¬ (j < 0 ∨ (arrV _ _ _).slots.size ≤ _); rw [arrV_size]; exact h2) rfl rfl hd fun H1 e1 z oq => ?_
    refine W.cs0 (kk H1 _ (hR.set ⟨r1, r2⟩ r3 ?_ z oq) (hS.put z oq (hR.fr r1)))
    show H1[adP (bE B) a]? = some (vp_cell _ _)
    rw [e1]
    show some ((vp_cell _ _).setSlot _ _) = _
    rw [vp_cell_i, vp_cell_i, arrV_store]
    congr 2
    funext q
    by_cases hq : q = j.toNatClampNeg
    · subst hq
      simp [updV, upd, vp_nar, tyP]
      try rfl
    · simp [updV, upd, hq]
  · cases hq
theorem g_astJ (hd : decode i.2.1 pc = .ok (.lastore, 1)) (hn : pc + 1 = nx) : GdP B I i pc (s_wr k_astJ nx) := by
  subst hn
  refine g_wr fun st h st' h' hq => ?_
  unfold k_astJ at hq
  split at hq
  · rename_i v j a st9
    injection hq with hq; injection hq with q1 q2; subst q2
    unfold astJ at q1
    split at q1
    · rename_i n f hc
      split at q1
      · rename_i hi
        cases q1
        refine ⟨hleP.rfl', ?_⟩
        intro p e R s m args below meth cd H locs cells slots Q lm hx hb ho hnm9 hml hG hR hS _ _ _ _ kk
        obtain ⟨r1, r2, r3, r4⟩ := hR.get hc (fun z => by cases z)
        have h2 := inb_in hi
        refine W.last hx hb r4 ((hG.1.2 3 _ (tysP_at (by omega))).1 n (fun j => .long (f j))) (fun q => by cases q) (by show ¬ (j < 0 ∨ (arrV _ _ _).slots.size ≤ _); rw [arrV_size]; exact h2) rfl rfl hd fun H1 e1 z oq => ?_
        refine W.cs0 (kk H1 _ (hR.set ⟨r1, r2⟩ r3 ?_ z oq) (hS.put z oq (hR.fr r1)))
        show H1[adP (bE B) a]? = some (vp_cell _ _)
        rw [e1]
        show some ((vp_cell _ _).setSlot _ _) = _
        rw [vp_cell_l, vp_cell_l, arrV_store]
        congr 2
        funext q
        by_cases hq : q = j.toNatClampNeg
        · subst hq
          simp [updV, vp_updL]
        · simp [updV, vp_updL, hq]
      · cases q1
    · cases q1
  · cases hq
theorem g_astR {ty ci N : Nat} {C : String} {T : u_T} (hd : decode i.2.1 pc = .ok (.aastore, 1)) (hn : pc + 1 = nx) (hty : 4 ≤ ty ∧ ty < 7) (htC : tyP ty = .object C) (hc : clsP[ci]? = some (C, T, N)) : GdP B I i pc (s_wr (k_astR ty ci) nx) := by
  subst hn
  refine g_wr fun st h st' h' hq => ?_
  unfold k_astR at hq
  split at hq
  · rename_i v j a st9
    injection hq with hq; injection hq with q1 q2; subst q2
    unfold astR at q1
    split at q1
    · rename_i t n f c fs hc1 hc2
      split at q1
      · rename_i hh
        obtain ⟨rfl, hi, rfl⟩ := hh
        cases q1
        refine ⟨hleP.rfl', ?_⟩
        intro p e R s m args below meth cd H locs cells slots Q lm hx hb ho hnm9 hml hG hR hS _ _ _ _ kk
        obtain ⟨r1, r2, r3, r4⟩ := hR.get hc1 (fun z => by cases z)
        obtain ⟨-, -, -, w4⟩ := hR.get hc2 (fun z => by cases z)
        have h2 := inb_in hi
        have hlt : j.toNatClampNeg < n := Nat.not_le.mp fun q => h2 (Or.inr q)
        have h0 : ¬ j < 0 := fun q => h2 (Or.inl q)
        obtain ⟨r', hr', cellV, g1, g2, g3, -⟩ := w4
        have hcls := (hG.1.1 c _ hc).2
        have hK2 := (hG.1.2 t _ (tysP_at hty.2)).2
        rw [htC] at hK2
        obtain ⟨kA, comp, k1, k2, k3, -⟩ := hK2
        have hcomp : comp = (eD (bE B)).1 c := Option.some.inj (k3.symm.trans hcls.1)
        subst hcomp
        obtain ⟨kC, hkC, -⟩ := hcls.2
        refine W.aast hx hb r4 (fun q h => by cases h) (fun h => by cases h) k1 k2 rfl hkC ⟨h0, by show _ < (arrV _ _ _).slots.size; rw [arrV_size]; exact hlt⟩ g1 (fun q h => by rw [g3] at h; cases h) (by rw [g2]; exact hkC) (by rw [g2]; exact va_assign hcls) rfl rfl hd fun H1 e1 z oq => ?_
        refine W.cs0 (kk H1 _ (hR.set ⟨r1, r2⟩ r3 ?_ z oq) (hS.put z oq (hR.fr r1)))
        show H1[adP (bE B) a]? = some (vp_cell _ _)
        rw [e1]
        show some ((vp_cell _ _).setSlot _ _) = _
        rw [vp_cell_q, vp_cell_q, arrV_store]
        congr 2
        funext q
        by_cases hq : q = j.toNatClampNeg
        · subst hq
          simp [updV, upR, va_rf]
        · simp [updV, upR, hq]
      · cases q1
    · cases q1
  · cases hq
end WR
