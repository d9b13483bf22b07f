/-! SOUND, part b: what is claimed of an instruction; instructions that touch no heap -/
/-- name, code, locals, answer, handlers, receiver's class -/
abbrev InfP : Type := MethodName × ByteArray × Nat × Option FieldType × List (Nat × Nat × Nat × Nat) × Option Nat
def excP (k : Nat) : String := match k with
  | 0 => "java/util/NoSuchElementException"
  | 1 => "java/lang/IllegalStateException"
  | 2 => "java/lang/IllegalArgumentException"
  | _ => "java/lang/IndexOutOfBoundsException"
def wrdP : List String := ["places", "path", "walker", "keep", "storm", "wolves", "beat"]
def wrdLen : List Nat := [6, 4, 6, 4, 5, 6, 4]
def wrdByt : List (List Int32) := [[112, 108, 97, 99, 101, 115], [112, 97, 116, 104], [119, 97, 108, 107, 101, 114], [107, 101, 101, 112], [115, 116, 111, 114, 109], [119, 111, 108, 118, 101, 115], [98, 101, 97, 116]]
def nestW (w : Cond) : Bool := match w with
  | .methodLinkNest _ _ _ _ => true
  | .castable _ _ => true
  | .declares _ => true
  | _ => false
/-- what holds of the machine all along: SR the strings' entries with their handles, MR those of messages -/
def GamP (SR : List (String × Nat × String × Nat)) (MR : List (String × Nat × String)) (E : EnvP) (U : State) (H : Heap) : Prop :=
  va_K (eD E) clsP (tysP E) U ∧ (∀ w ∈ lw_tbl, goodWord w = true → ∀ a', w.before a' U = true) ∧ (∀ w ∈ lw_tbl, nestW w = true → va_Nw w U) ∧ eB E ≤ H.size ∧
  (va_X (eK E 0) (eL E) (eX E) U H ∧ eK E 0 < eB E) ∧
  ((∀ q ∈ SR, vk_R q.1 q.2.1 q.2.2.1 (eK E (1 + q.2.2.2)) U) ∧ (∀ q ∈ MR, ∃ sa, vk_R q.1 q.2.1 q.2.2 sa U) ∧ vk_S 7 wrdLen wrdByt (fun i => eK E (1 + i)) (fun i => eK E (8 + i)) (frP E) U H) ∧
  (vx_Zq Bundle.tN "UNASSIGNED_STACK" Bundle.steD (frP E) U H ∧ vx_Zq Bundle.tN "SUPPRESSED_SENTINEL" Bundle.listD (frP E) U H) ∧
  va_Z "java/lang/String" "COMPACT_STRINGS" "Z" (.int 1) (frP E) U H ∧
  (∀ a b, a < 4 → b < 4 → a ≠ b → va_Nc (excP a) (excP b) U) ∧
  (va_AO "SnowKeeps$Snow" U ∧ va_AO "SnowKeeps$Tray" U ∧ va_AOA .int U ∧ va_Zq "jdk/internal/util/Preconditions" "SIOOBE_FORMATTER" "Ljava/util/function/BiFunction;" (frP E) U H)
theorem nestW_warm {w : Cond} (hw : nestW w = true) {s U : State} (hW : s.WarmedH U.vm) (h : va_Nw w s) : va_Nw w U := by
  cases w <;> first | exact va_Nw.warmM hW h | exact va_Nw.warmC hW h | exact va_Nw.warmD hW h | (exact absurd hw (by decide)) | (simp [nestW] at hw)
theorem nestW_tab {w : Cond} (hw : nestW w = true) : w.onTables = true := by
  cases w <;> first | rfl | (exact absurd hw (by decide)) | (simp [nestW] at hw)
theorem GamP.moved {SR : List (String × Nat × String × Nat)} {MR : List (String × Nat × String)} {E : EnvP} {s U : State} {H H1 : Heap} (h : GamP SR MR E s H) (hW : s.WarmedH U.vm) (hz : H.size ≤ H1.size) (ho : ∀ q, q < eB E → H1[q]? = H[q]?) : GamP SR MR E U H1 := by
  obtain ⟨g1, g2, g3, g4, ⟨g5, g5'⟩, ⟨g6, g7, g8⟩, ⟨g9, g10⟩, g11, g12, g13, g14, g15, g16⟩ := h
  have hq : ∀ a : Nat, a < H.size → ¬ frP E a → H1[a]? = H[a]? := fun a _ h2 => ho a (Nat.not_le.mp h2)
  refine ⟨va_K.moved hW.alike g1, fun w hw hg a' => word_at hW (good_of_word hg) (g2 w hw hg a'), fun w hw hn => nestW_warm hn hW (g3 w hw hn), Nat.le_trans g4 hz, ⟨va_X.moved hW.alike (g5.kept (ho _ g5')), g5'⟩,
    ⟨fun q hq => vk_R.warm hW (g6 q hq), fun q hq => ?_, (vk_S.moved hW.alike g8).kept hq⟩, ⟨(vx_Zq.moved hW.alike g9).kept hq, (vx_Zq.moved hW.alike g10).kept hq⟩, (va_Z.moved hW.alike g11).kept hq, fun a b ha hb hab => va_Nc.moved hW.alike (g12 a b ha hb hab),
    va_AO.moved hW.alike g13, va_AO.moved hW.alike g14, va_AOA.moved hW.alike g15, (va_Zq.moved hW.alike g16).kept hq⟩
  obtain ⟨sa, h1⟩ := g7 q hq
  exact ⟨sa, vk_R.warm hW h1⟩
def hleP (h h' : HeapP) : Prop := h.1 ≤ h'.1 ∧ h.2.1 ≤ h'.2.1
theorem hleP.rfl' {h : HeapP} : hleP h h := ⟨Nat.le_refl _, Nat.le_refl _⟩
theorem hleP.tr {a b c : HeapP} (h : hleP a b) (k : hleP b c) : hleP a c := ⟨Nat.le_trans h.1 k.1, Nat.le_trans h.2 k.2⟩
/-- strings' entries, messages' entries, the surroundings, the launch -/
abbrev BigP : Type := List (String × Nat × String × Nat) × List (String × Nat × String) × EnvP × Launch
def bE (B : BigP) : EnvP := B.2.2.1
def InstP (B : BigP) (i : InfP) (d : Nat) (p : Program) (R : Room) (s : State) (m : MethodId) (meth : Method) (c : Code) (h0 h1 : HeapP) : Prop :=
  p.tables.exec = Jvm.exec ∧ c.code = i.2.1 ∧ c.maxLocals = i.2.2.1 ∧ meth.sig.returnType = i.2.2.2.1 ∧ meth.locks = false ∧ s.vm.findClass i.1.cls = some m.cls ∧ meth.name = i.1.name ∧ c.exceptionTable.toList = tableOf i.2.2.2.2.1 ∧
  GamP B.1 B.2.1 (bE B) s s.heap ∧ d + 16 ≤ R.frames ∧ 64 * d + 512 ≤ R.locals ∧ h1.1 - h0.1 ≤ R.cells ∧ h1.2.1 - h0.2.1 ≤ R.slots ∧ B.2.2.2.stackTraces = false
def keptP (B : BigP) (st t : State) : Prop := st.heap.size ≤ t.heap.size ∧ ∀ q, q < eB (bE B) → t.heap[q]? = st.heap[q]?
def QcP (B : BigP) (o : OutP) (h1 : HeapP) : Array Value → State → Outcome → State → Prop := fun _ st oc t => (∃ v, o = Sum.inl v ∧ oc = .returned (v.map (vmP (bE B)))) ∧ repP (bE B) h1 t.heap ∧ keptP B st t
def XcP (B : BigP) (o : OutP) (h1 : HeapP) : String → State → State → Prop := fun X st t => (∃ k, o = Sum.inr k ∧ X = excP k) ∧ repP (bE B) h1 t.heap ∧ keptP B st t
def endP (B : BigP) (below : List Frame) (args : Array Value) (s : State) (o : OutP) (h0 h1 : HeapP) : State → Prop := vx_MQ below (QcP B o h1) (XcP B o h1) args s (h1.1 - h0.1) (h1.2.1 - h0.2.1) (frP (bE B))
def VP (B : BigP) (i : InfP) (d : Nat) (c : CfgP) (o : OutP) (h1 : HeapP) : Prop :=
  ∀ (p : Program) (e : Env) (R : Room) (s : State) (m : MethodId) (args : Array Value) (below : List Frame) (meth : Method) (cd : Code) (h0 : HeapP) (H : Heap) (locs : List Loc) (ls : Array Slot),
    InstP B i d p R s m meth cd h0 h1 → hleP h0 c.2.2.2 → hleP c.2.2.2 h1 → repP (bE B) c.2.2.2 H → locR (bE B) ls i.2.2.1 c.2.1 → va_S (frP (bE B)) s.heap H locs →
    W p B.2.2.2 e R s m args below meth cd H locs (c.2.2.2.1 - h0.1) (c.2.2.2.2.1 - h0.2.1) (endP B below args s o h0 h1) (F0 m c.1 ls (c.2.2.1.map (vmP (bE B))))
def codeW (i : InfP) : Cond := match i.2.2.2.2.1 with
  | [] => .code i.1 i.2.1 i.2.2.1 i.2.2.2.1
  | hh => .codeWith i.1 i.2.1 i.2.2.1 i.2.2.2.1 hh
def roomP (d : Nat) (h h' : HeapP) : Room := { frames := d + 16, cells := h'.1 - h.1, slots := h'.2.1 - h.2.1, locals := 64 * d + 512 }
def PcP (B : BigP) (as : List Value) (h : HeapP) : Array Value → State → Prop := fun v U => v = (as.map (vmP (bE B))).toArray ∧ repP (bE B) h U.heap ∧ GamP B.1 B.2.1 (bE B) U U.heap
theorem PcP_blind {B : BigP} {as : List Value} {h : HeapP} : FrameBlind (PcP B as h) := by
  intro a U g mk q
  obtain ⟨q1, q2, q3⟩ := q
  exact ⟨q1, q2, GamP.moved (U := U.calling g mk a) q3 (State.WarmedH.refl U) (Nat.le_refl _) (fun _ _ => rfl)⟩
def metP (B : BigP) (i : InfP) (d : Nat) (as : List Value) (h : HeapP) (o : OutP) (h' : HeapP) : Prop := vx_Met B.2.2.2 i.1 [codeW i] (roomP d h h') (PcP B as h) (QcP B o h') (XcP B o h') (h'.1 - h.1) (h'.2.1 - h.2.1) (frP (bE B))
def CokP (B : BigP) (I : Nat → InfP) (d m : Nat) (as : List Value) (h : HeapP) (o : OutP) (h' : HeapP) : Prop := (∃ d', d = d' + 1 ∧ metP B (I m) d' as h o h') ∧ hleP h h' ∧ rcvP (I m).2.2.2.2.2 as h = true ∧ (entL as).length ≤ (I m).2.2.1
def GroP (s : SemP) : Prop := ∀ ls st h rec call q, (∀ c q, rec c = some q → hleP c.2.2.2 q.2) → (∀ m as h q, call m as h = some q → hleP h q.2) → stp rec call (s ls st h) = some q → hleP h q.2
def GdP (B : BigP) (I : Nat → InfP) (i : InfP) (pc : Nat) (s : SemP) : Prop := GroP s ∧
  ∀ (d : Nat) (ls : LocP) (st : List Value) (h : HeapP) (o : OutP) (h1 : HeapP) (rec : CfgP → ResP) (call : Nat → List Value → HeapP → ResP), (∀ c q, rec c = some q → hleP c.2.2.2 q.2) → (∀ c, rec c = some (o, h1) → VP B i d c o h1) → (∀ m as h o' h', call m as h = some (o', h') → CokP B I d m as h o' h') →
    stp rec call (s ls st h) = some (o, h1) → VP B i d (pc, ls, st, h) o h1
/-! pure instructions -/
def s_pure (k : LocP → List Value → Option (LocP × List Value)) (nx : Nat) : SemP := fun ls st h => match k ls st with
  | some q => xGoto (nx, q.1, q.2, h)
  | none => xHalt none
section PU
variable {B : BigP} {I : Nat → InfP} {i : InfP} {pc nx : Nat}
theorem g_pure {k : LocP → List Value → Option (LocP × List Value)} (hw : ∀ (p : Program) (l : Launch) (e : Env) (R : Room) (s : State) (m : MethodId) (args : Array Value) (below : List Frame) (meth : Method) (cd : Code) (H : Heap) (locs : List Loc) (cells slots : Nat) (Q : State → Prop) (lm : Array Slot) (ls : LocP) (st : List Value) (q : LocP × List Value),
    p.tables.exec = Jvm.exec → cd.code = i.2.1 → s.vm.findClass i.1.cls = some m.cls → (∀ w ∈ lw_tbl, goodWord w = true → ∀ a', w.before a' s = true) → (∀ q ∈ B.1, vk_R q.1 q.2.1 q.2.2.1 (eK (bE B) (1 + q.2.2.2)) s) → locR (bE B) lm i.2.2.1 ls → k ls st = some q →
    (∀ lm', locR (bE B) lm' i.2.2.1 q.1 → W p l e R s m args below meth cd H locs cells slots Q (F0 m nx lm' (q.2.map (vmP (bE B))))) → W p l e R s m args below meth cd H locs cells slots Q (F0 m pc lm (st.map (vmP (bE B))))) : GdP B I i pc (s_pure k nx) := by
  refine ⟨fun ls st h rec call q hg _ hs => ?_, fun d ls st h o h1 rec call hg hr hc hs => ?_⟩
  · unfold s_pure at hs
    cases hk : k ls st with
    | none => rw [hk] at hs; cases hs
    | some q' => rw [hk] at hs; exact hg (nx, q'.1, q'.2, h) q hs
  · unfold s_pure at hs
    cases hk : k ls st with
    | none => rw [hk] at hs; cases hs
    | some q' =>
      rw [hk] at hs
      have hv := hr (nx, q'.1, q'.2, h) hs
      intro p e R s m args below meth cd h0 H locs lm hI h01 h11 hR hL hS
      exact hw p _ e R s m args below meth cd H locs _ _ _ lm ls st q' hI.1 hI.2.1 hI.2.2.2.2.2.1 hI.2.2.2.2.2.2.2.2.1.2.1 hI.2.2.2.2.2.2.2.2.1.2.2.2.2.2.1.1 hL hk (fun lm' hL' => hv p e R s m args below meth cd h0 H locs lm' hI h01 h11 hR hL' hS)
def k_push (v : Value) : LocP → List Value → Option (LocP × List Value) := fun ls st => some (ls, v :: st)
def k_iload (n : Nat) : LocP → List Value → Option (LocP × List Value) := fun ls st => match ls[n]? with
  | some (some (.int x)) => some (ls, .int x :: st)
  | _ => none
def k_lload (n : Nat) : LocP → List Value → Option (LocP × List Value) := fun ls st => match ls[n]? with
  | some (some (.long x)) => some (ls, .long x :: st)
  | _ => none
def k_aload (n : Nat) : LocP → List Value → Option (LocP × List Value) := fun ls st => match ls[n]? with
  | some (some (.ref x)) => some (ls, .ref x :: st)
  | some (some .null) => some (ls, .null :: st)
  | _ => none
def k_istore (n : Nat) : LocP → List Value → Option (LocP × List Value) := fun ls st => match st with
  | .int x :: st => bif Nat.blt n ls.length then some (stL1 ls n (.int x), st) else none
  | _ => none
def k_astore (n : Nat) : LocP → List Value → Option (LocP × List Value) := fun ls st => match st with
  | .ref x :: st => bif Nat.blt n ls.length then some (stL1 ls n (.ref x), st) else none
  | .null :: st => bif Nat.blt n ls.length then some (stL1 ls n .null, st) else none
  | _ => none
def k_lstore (n : Nat) : LocP → List Value → Option (LocP × List Value) := fun ls st => match st with
  | .long x :: st => bif Nat.blt (n + 1) ls.length then some (stL2 ls n (.long x), st) else none
  | _ => none
def k_iinc (n : Nat) (v : Int32) : LocP → List Value → Option (LocP × List Value) := fun ls st => match ls[n]? with
  | some (some (.int x)) => some (stL1 ls n (.int (x + v)), st)
  | _ => none
def k_ibin (f : Int32 → Int32 → Int32) : LocP → List Value → Option (LocP × List Value) := fun ls st => match st with
  | .int y :: .int x :: st => some (ls, .int (f x y) :: st)
  | _ => none
def k_lbin (f : Int64 → Int64 → Int64) : LocP → List Value → Option (LocP × List Value) := fun ls st => match st with
  | .long y :: .long x :: st => some (ls, .long (f x y) :: st)
  | _ => none
def k_lsh (f : Int64 → Int32 → Int64) : LocP → List Value → Option (LocP × List Value) := fun ls st => match st with
  | .int y :: .long x :: st => some (ls, .long (f x y) :: st)
  | _ => none
def k_iun (f : Int32 → Int32) : LocP → List Value → Option (LocP × List Value) := fun ls st => match st with
  | .int x :: st => some (ls, .int (f x) :: st)
  | _ => none
def k_i2l : LocP → List Value → Option (LocP × List Value) := fun ls st => match st with
  | .int x :: st => some (ls, .long x.toInt64 :: st)
  | _ => none
def k_l2i : LocP → List Value → Option (LocP × List Value) := fun ls st => match st with
  | .long x :: st => some (ls, .int x.toInt32 :: st)
  | _ => none
def k_lcmp : LocP → List Value → Option (LocP × List Value) := fun ls st => match st with
  | .long y :: .long x :: st => some (ls, .int (lg_cmp x y) :: st)
  | _ => none
def k_dup : LocP → List Value → Option (LocP × List Value) := fun ls st => match st with
  | v :: st => bif Nat.beq v.category 1 then some (ls, v :: v :: st) else none
  | _ => none
def k_dup2 : LocP → List Value → Option (LocP × List Value) := fun ls st => match st with
  | v :: w :: st => bif Nat.beq v.category 1 && Nat.beq w.category 1 then some (ls, v :: w :: v :: w :: st) else none
  | _ => none
def k_pop : LocP → List Value → Option (LocP × List Value) := fun ls st => match st with
  | v :: st => bif Nat.beq v.category 1 then some (ls, st) else none
  | _ => none
def k_pop2 : LocP → List Value → Option (LocP × List Value) := fun ls st => match st with
  | v :: st => bif Nat.beq v.category 2 then some (ls, st) else none
  | _ => none
def o_ishl (x y : Int32) : Int32 := x <<< (y &&& 31)
def o_ishr (x y : Int32) : Int32 := x >>> (y &&& 31)
def o_iushr (x y : Int32) : Int32 := (x.toUInt32 >>> (y.toUInt32 &&& Int32.toUInt32 31)).toInt32
def o_lshl (x : Int64) (y : Int32) : Int64 := x <<< (y.toInt64 &&& 63)
def o_lshr (x : Int64) (y : Int32) : Int64 := x >>> (y.toInt64 &&& 63)
theorem g_iconst {n : Int} {v : Int32} (hd : decode i.2.1 pc = .ok (.iconst n, 1)) (hn : pc + 1 = nx) (hv : Int32.ofInt n = v) : GdP B I i pc (s_pure (k_push (.int v)) nx) := by
  subst hn
  exact g_pure fun p l e R s m args below meth cd H locs cells slots Q lm ls st q hx hb ho hw hsr hL hk kk => by cases hk; exact lv_iconst hx hb hd hv (kk lm hL)
theorem g_bipush {n : Int} {v : Int32} (hd : decode i.2.1 pc = .ok (.bipush n, 2)) (hn : pc + 2 = nx) (hv : (Int8.ofInt n).toInt32 = v) : GdP B I i pc (s_pure (k_push (.int v)) nx) := by
  subst hn
  exact g_pure fun p l e R s m args below meth cd H locs cells slots Q lm ls st q hx hb ho hw hsr hL hk kk => by cases hk; exact lv_bipush hx hb hd hv (kk lm hL)
theorem g_sipush {n : Int} {v : Int32} (hd : decode i.2.1 pc = .ok (.sipush n, 3)) (hn : pc + 3 = nx) (hv : (Int16.ofInt n).toInt32 = v) : GdP B I i pc (s_pure (k_push (.int v)) nx) := by
  subst hn
  exact g_pure fun p l e R s m args below meth cd H locs cells slots Q lm ls st q hx hb ho hw hsr hL hk kk => by cases hk; exact lv_sipush hx hb hd hv (kk lm hL)
theorem g_lconst {n : Fin 2} {v : Int64} (hd : decode i.2.1 pc = .ok (.lconst n, 1)) (hn : pc + 1 = nx) (hv : Int64.ofNat (n : Nat) = v) : GdP B I i pc (s_pure (k_push (.long v)) nx) := by
  subst hn
  exact g_pure fun p l e R s m args below meth cd H locs cells slots Q lm ls st q hx hb ho hw hsr hL hk kk => by cases hk; exact lv_lconst hx hb hd hv (kk lm hL)
theorem g_null (hd : decode i.2.1 pc = .ok (.aconst_null, 1)) (hn : pc + 1 = nx) : GdP B I i pc (s_pure (k_push .null) nx) := by
  subst hn
  exact g_pure fun p l e R s m args below meth cd H locs cells slots Q lm ls st q hx hb ho hw hsr hL hk kk => by cases hk; exact lv_null hx hb hd (kk lm hL)
theorem g_ldc {n : Nat} {v : Int32} (hd : decode i.2.1 pc = .ok (.ldc n, 2)) (hn : pc + 2 = nx) (hw0 : Cond.constant i.1.cls n v ∈ lw_tbl) : GdP B I i pc (s_pure (k_push (.int v)) nx) := by
  subst hn
  exact g_pure fun p l e R s m args below meth cd H locs cells slots Q lm ls st q hx hb ho hw hsr hL hk kk => by cases hk; exact lv_ldc hx hb ho (hw _ hw0 rfl _) hd (kk lm hL)
theorem g_ldcw {n : Nat} {v : Int32} (hd : decode i.2.1 pc = .ok (.ldc_w n, 3)) (hn : pc + 3 = nx) (hw0 : Cond.constant i.1.cls n v ∈ lw_tbl) : GdP B I i pc (s_pure (k_push (.int v)) nx) := by
  subst hn
  exact g_pure fun p l e R s m args below meth cd H locs cells slots Q lm ls st q hx hb ho hw hsr hL hk kk => by cases hk; exact lv_ldcw hx hb ho (hw _ hw0 rfl _) hd (kk lm hL)
theorem g_ldc2 {n : Nat} {v : Int64} (hd : decode i.2.1 pc = .ok (.ldc2_w n, 3)) (hn : pc + 3 = nx) (hw0 : Cond.constantLong i.1.cls n v ∈ lw_tbl) : GdP B I i pc (s_pure (k_push (.long v)) nx) := by
  subst hn
  exact g_pure fun p l e R s m args below meth cd H locs cells slots Q lm ls st q hx hb ho hw hsr hL hk kk => by cases hk; exact lv_ldc2 hx hb ho (hw _ hw0 rfl _) hd (kk lm hL)
/-- a word of the text, by its handle -/
theorem g_ldcS {n k : Nat} {tx : String} (hd : decode i.2.1 pc = .ok (.ldc n, 2)) (hn : pc + 2 = nx) (hk9 : k < 15) (hm : (i.1.cls, n, tx, k) ∈ B.1) : GdP B I i pc (s_pure (k_push (.ref (1 + k))) nx) := by
  subst hn
  exact g_pure fun p l e R s m args below meth cd H locs cells slots Q lm ls st q hx hb ho hw hsr hL hk kk => by
    cases hk
    have h1 := kk lm hL
    have e1 : vmP (bE B) (.ref (1 + k)) = .ref (eK (bE B) (1 + k)) := by simp [vmP, adP, show 1 + k < 16 by omega]
    rw [List.map_cons, e1] at h1
    exact va_ldcS hx hb ho (hsr _ hm) hd h1
theorem g_iload_n {k : Fin 4} {n : Nat} (hd : decode i.2.1 pc = .ok (.iload_n k, 1)) (hn : pc + 1 = nx) (hv : (k : Nat) = n) : GdP B I i pc (s_pure (k_iload n) nx) := by
  subst hn
  exact g_pure fun p l e R s m args below meth cd H locs cells slots Q lm ls st q hx hb ho hw hsr hL hk kk => by
    unfold k_iload at hk
    split at hk
    · cases hk; exact lv_iload_n hx hb hd hv (hL.at ‹_›) (kk lm hL)
    · cases hk
theorem g_iload {n : Nat} (hd : decode i.2.1 pc = .ok (.iload n, 2)) (hn : pc + 2 = nx) : GdP B I i pc (s_pure (k_iload n) nx) := by
  subst hn
  exact g_pure fun p l e R s m args below meth cd H locs cells slots Q lm ls st q hx hb ho hw hsr hL hk kk => by
    unfold k_iload at hk
    split at hk
    · cases hk; exact lv_iload hx hb hd (hL.at ‹_›) (kk lm hL)
    · cases hk
theorem g_lload_n {k : Fin 4} {n : Nat} (hd : decode i.2.1 pc = .ok (.lload_n k, 1)) (hn : pc + 1 = nx) (hv : (k : Nat) = n) : GdP B I i pc (s_pure (k_lload n) nx) := by
  subst hn
  exact g_pure fun p l e R s m args below meth cd H locs cells slots Q lm ls st q hx hb ho hw hsr hL hk kk => by
    unfold k_lload at hk
    split at hk
    · cases hk; exact lv_lload_n hx hb hd hv (hL.at ‹_›) (kk lm hL)
    · cases hk
theorem g_lload {n : Nat} (hd : decode i.2.1 pc = .ok (.lload n, 2)) (hn : pc + 2 = nx) : GdP B I i pc (s_pure (k_lload n) nx) := by
  subst hn
  exact g_pure fun p l e R s m args below meth cd H locs cells slots Q lm ls st q hx hb ho hw hsr hL hk kk => by
    unfold k_lload at hk
    split at hk
    · cases hk; exact lv_lload hx hb hd (hL.at ‹_›) (kk lm hL)
    · cases hk
theorem g_aload_n {k : Fin 4} {n : Nat} (hd : decode i.2.1 pc = .ok (.aload_n k, 1)) (hn : pc + 1 = nx) (hv : (k : Nat) = n) : GdP B I i pc (s_pure (k_aload n) nx) := by
  subst hn
  exact g_pure fun p l e R s m args below meth cd H locs cells slots Q lm ls st q hx hb ho hw hsr hL hk kk => by
    unfold k_aload at hk
    split at hk
    · cases hk; exact lv_aload_n hx hb hd hv (hL.at ‹_›) (kk lm hL)
    · cases hk; exact lv_aload_nN hx hb hd hv (hL.at ‹_›) (kk lm hL)
    · cases hk
theorem g_aload {n : Nat} (hd : decode i.2.1 pc = .ok (.aload n, 2)) (hn : pc + 2 = nx) : GdP B I i pc (s_pure (k_aload n) nx) := by
  subst hn
  exact g_pure fun p l e R s m args below meth cd H locs cells slots Q lm ls st q hx hb ho hw hsr hL hk kk => by
    unfold k_aload at hk
    split at hk
    · cases hk; exact lv_aload hx hb hd (hL.at ‹_›) (kk lm hL)
    · cases hk; exact lv_aloadN hx hb hd (hL.at ‹_›) (kk lm hL)
    · cases hk
theorem blt_of {a b : Nat} (h : Nat.blt a b = true) : a < b := by
  have := Nat.le_of_ble_eq_true h
  omega
theorem g_istore_n {k : Fin 4} {n : Nat} (hd : decode i.2.1 pc = .ok (.istore_n k, 1)) (hn : pc + 1 = nx) (hv : (k : Nat) = n) : GdP B I i pc (s_pure (k_istore n) nx) := by
  subst hn
  exact g_pure fun p l e R s m args below meth cd H locs cells slots Q lm ls st q hx hb ho hw hsr hL hk kk => by
    unfold k_istore at hk
    split at hk
    · cases hc : Nat.blt n ls.length with
      | false => rw [hc] at hk; cases hk
      | true =>
        rw [hc] at hk; cases hk
        exact lv_istore_n hx hb hd hv hL.1 (by have := blt_of hc; rw [hL.2] at this; exact this) rfl (fun ls' h' => kk ls' (locR.set1 hL.2 rfl h'))
    · cases hk
theorem g_istore {n : Nat} (hd : decode i.2.1 pc = .ok (.istore n, 2)) (hn : pc + 2 = nx) : GdP B I i pc (s_pure (k_istore n) nx) := by
  subst hn
  exact g_pure fun p l e R s m args below meth cd H locs cells slots Q lm ls st q hx hb ho hw hsr hL hk kk => by
    unfold k_istore at hk
    split at hk
    · cases hc : Nat.blt n ls.length with
      | false => rw [hc] at hk; cases hk
      | true =>
        rw [hc] at hk; cases hk
        exact lv_istore hx hb hd hL.1 (by have := blt_of hc; rw [hL.2] at this; exact this) rfl (fun ls' h' => kk ls' (locR.set1 hL.2 rfl h'))
    · cases hk
theorem g_astore_n {k : Fin 4} {n : Nat} (hd : decode i.2.1 pc = .ok (.astore_n k, 1)) (hn : pc + 1 = nx) (hv : (k : Nat) = n) : GdP B I i pc (s_pure (k_astore n) nx) := by
  subst hn
  exact g_pure fun p l e R s m args below meth cd H locs cells slots Q lm ls st q hx hb ho hw hsr hL hk kk => by
    unfold k_astore at hk
    split at hk
    · cases hc : Nat.blt n ls.length with
      | false => rw [hc] at hk; cases hk
      | true =>
        rw [hc] at hk; cases hk
        exact lv_astore_n hx hb hd hv hL.1 (by have := blt_of hc; rw [hL.2] at this; exact this) rfl (fun ls' h' => kk ls' (locR.set1 hL.2 rfl h'))
    · cases hc : Nat.blt n ls.length with
      | false => rw [hc] at hk; cases hk
      | true =>
        rw [hc] at hk; cases hk
        exact lv_astore_nN hx hb hd hv hL.1 (by have := blt_of hc; rw [hL.2] at this; exact this) rfl (fun ls' h' => kk ls' (locR.set1 hL.2 rfl h'))
    · cases hk
theorem g_astore {n : Nat} (hd : decode i.2.1 pc = .ok (.astore n, 2)) (hn : pc + 2 = nx) : GdP B I i pc (s_pure (k_astore n) nx) := by
  subst hn
  exact g_pure fun p l e R s m args below meth cd H locs cells slots Q lm ls st q hx hb ho hw hsr hL hk kk => by
    unfold k_astore at hk
    split at hk
    · cases hc : Nat.blt n ls.length with
      | false => rw [hc] at hk; cases hk
      | true =>
        rw [hc] at hk; cases hk
        exact lv_astore hx hb hd hL.1 (by have := blt_of hc; rw [hL.2] at this; exact this) rfl (fun ls' h' => kk ls' (locR.set1 hL.2 rfl h'))
    · cases hc : Nat.blt n ls.length with
      | false => rw [hc] at hk; cases hk
      | true =>
        rw [hc] at hk; cases hk
        exact lv_astoreN hx hb hd hL.1 (by have := blt_of hc; rw [hL.2] at this; exact this) rfl (fun ls' h' => kk ls' (locR.set1 hL.2 rfl h'))
    · cases hk
theorem g_lstore_n {k : Fin 4} {n : Nat} (hd : decode i.2.1 pc = .ok (.lstore_n k, 1)) (hn : pc + 1 = nx) (hv : (k : Nat) = n) : GdP B I i pc (s_pure (k_lstore n) nx) := by
  subst hn
  exact g_pure fun p l e R s m args below meth cd H locs cells slots Q lm ls st q hx hb ho hw hsr hL hk kk => by
    unfold k_lstore at hk
    split at hk
    · cases hc : Nat.blt (n + 1) ls.length with
      | false => rw [hc] at hk; cases hk
      | true =>
        rw [hc] at hk; cases hk
        exact lv_lstore_n hx hb hd hv hL.1 (by have := blt_of hc; rw [hL.2] at this; exact this) rfl (fun ls' h' => kk ls' (locR.set2 hL.2 rfl h'))
    · cases hk
theorem g_lstore {n : Nat} (hd : decode i.2.1 pc = .ok (.lstore n, 2)) (hn : pc + 2 = nx) : GdP B I i pc (s_pure (k_lstore n) nx) := by
  subst hn
  exact g_pure fun p l e R s m args below meth cd H locs cells slots Q lm ls st q hx hb ho hw hsr hL hk kk => by
    unfold k_lstore at hk
    split at hk
    · cases hc : Nat.blt (n + 1) ls.length with
      | false => rw [hc] at hk; cases hk
      | true =>
        rw [hc] at hk; cases hk
        exact lv_lstore hx hb hd hL.1 (by have := blt_of hc; rw [hL.2] at this; exact this) rfl (fun ls' h' => kk ls' (locR.set2 hL.2 rfl h'))
    · cases hk
theorem g_iinc {n : Nat} {z : Int} {v : Int32} (hd : decode i.2.1 pc = .ok (.iinc n z, 3)) (hn : pc + 3 = nx) (hv : Int32.ofInt z = v) : GdP B I i pc (s_pure (k_iinc n v) nx) := by
  subst hn
  exact g_pure fun p l e R s m args below meth cd H locs cells slots Q lm ls st q hx hb ho hw hsr hL hk kk => by
    unfold k_iinc at hk
    split at hk
    · rename_i x hx9
      cases hk
      have hmem : (n, Value.int x) ∈ lcA (bE B) 0 ls := lcA_mem.mpr ⟨n, .int x, hx9, by simp [vmP]⟩
      obtain ⟨j, hj⟩ := List.getElem?_of_mem hmem
      exact lv_iinc hx hb hd hL.1 hj (by rw [hv]) (by rw [← hL.2]; exact (List.getElem?_eq_some_iff.mp hx9).1) rfl (fun ls' h' => kk ls' (locR.set1 hL.2 rfl h'))
    · cases hk
theorem g_ibinW {f : Int32 → Int32 → Int32} (hn : pc + 1 = nx) (row : ∀ (p : Program) (l : Launch) (e : Env) (R : Room) (s : State) (m : MethodId) (args : Array Value) (below : List Frame) (meth : Method) (cd : Code) (H : Heap) (locs : List Loc) (cells slots : Nat) (Q : State → Prop) (lm : Array Slot) (x y : Int32) (rest : List Value), p.tables.exec = Jvm.exec → cd.code = i.2.1 →
    W p l e R s m args below meth cd H locs cells slots Q (F0 m (pc + 1) lm (.int (f x y) :: rest)) → W p l e R s m args below meth cd H locs cells slots Q (F0 m pc lm (.int y :: .int x :: rest))) : GdP B I i pc (s_pure (k_ibin f) nx) := by
  subst hn
  exact g_pure fun p l e R s m args below meth cd H locs cells slots Q lm ls st q hx hb ho hw hsr hL hk kk => by
    unfold k_ibin at hk
    split at hk
    · cases hk; exact row _ _ _ _ _ _ _ _ _ _ _ _ _ _ _ _ _ _ _ hx hb (kk lm hL)
    · cases hk
theorem g_iadd (hd : decode i.2.1 pc = .ok (.iadd, 1)) (hn : pc + 1 = nx) : GdP B I i pc (s_pure (k_ibin (fun x y => x + y)) nx) := g_ibinW hn fun _ _ _ _ _ _ _ _ _ _ _ _ _ _ _ _ _ _ _ hx hb k => lv_iadd hx hb hd k
theorem g_isub (hd : decode i.2.1 pc = .ok (.isub, 1)) (hn : pc + 1 = nx) : GdP B I i pc (s_pure (k_ibin (fun x y => x - y)) nx) := g_ibinW hn fun _ _ _ _ _ _ _ _ _ _ _ _ _ _ _ _ _ _ _ hx hb k => lv_isub hx hb hd k
theorem g_imul (hd : decode i.2.1 pc = .ok (.imul, 1)) (hn : pc + 1 = nx) : GdP B I i pc (s_pure (k_ibin (fun x y => x * y)) nx) := g_ibinW hn fun _ _ _ _ _ _ _ _ _ _ _ _ _ _ _ _ _ _ _ hx hb k => lv_imul hx hb hd k
theorem g_iand (hd : decode i.2.1 pc = .ok (.iand, 1)) (hn : pc + 1 = nx) : GdP B I i pc (s_pure (k_ibin (fun x y => x &&& y)) nx) := g_ibinW hn fun _ _ _ _ _ _ _ _ _ _ _ _ _ _ _ _ _ _ _ hx hb k => lv_iand hx hb hd k
theorem g_ior (hd : decode i.2.1 pc = .ok (.ior, 1)) (hn : pc + 1 = nx) : GdP B I i pc (s_pure (k_ibin (fun x y => x ||| y)) nx) := g_ibinW hn fun _ _ _ _ _ _ _ _ _ _ _ _ _ _ _ _ _ _ _ hx hb k => lv_ior hx hb hd k
theorem g_ixor (hd : decode i.2.1 pc = .ok (.ixor, 1)) (hn : pc + 1 = nx) : GdP B I i pc (s_pure (k_ibin (fun x y => x ^^^ y)) nx) := g_ibinW hn fun _ _ _ _ _ _ _ _ _ _ _ _ _ _ _ _ _ _ _ hx hb k => lv_ixor hx hb hd k
theorem g_ishl (hd : decode i.2.1 pc = .ok (.ishl, 1)) (hn : pc + 1 = nx) : GdP B I i pc (s_pure (k_ibin o_ishl) nx) := g_ibinW hn fun _ _ _ _ _ _ _ _ _ _ _ _ _ _ _ _ _ _ _ hx hb k => lv_ishl hx hb hd k
theorem g_ishr (hd : decode i.2.1 pc = .ok (.ishr, 1)) (hn : pc + 1 = nx) : GdP B I i pc (s_pure (k_ibin o_ishr) nx) := g_ibinW hn fun _ _ _ _ _ _ _ _ _ _ _ _ _ _ _ _ _ _ _ hx hb k => lv_ishr hx hb hd k
theorem g_iushr (hd : decode i.2.1 pc = .ok (.iushr, 1)) (hn : pc + 1 = nx) : GdP B I i pc (s_pure (k_ibin o_iushr) nx) := g_ibinW hn fun _ _ _ _ _ _ _ _ _ _ _ _ _ _ _ _ _ _ _ hx hb k => lv_iushr hx hb hd rfl k
theorem g_lbinW {f : Int64 → Int64 → Int64} (hn : pc + 1 = nx) (row : ∀ (p : Program) (l : Launch) (e : Env) (R : Room) (s : State) (m : MethodId) (args : Array Value) (below : List Frame) (meth : Method) (cd : Code) (H : Heap) (locs : List Loc) (cells slots : Nat) (Q : State → Prop) (lm : Array Slot) (x y : Int64) (rest : List Value), p.tables.exec = Jvm.exec → cd.code = i.2.1 →
    W p l e R s m args below meth cd H locs cells slots Q (F0 m (pc + 1) lm (.long (f x y) :: rest)) → W p l e R s m args below meth cd H locs cells slots Q (F0 m pc lm (.long y :: .long x :: rest))) : GdP B I i pc (s_pure (k_lbin f) nx) := by
  subst hn
  exact g_pure fun p l e R s m args below meth cd H locs cells slots Q lm ls st q hx hb ho hw hsr hL hk kk => by
    unfold k_lbin at hk
    split at hk
    · cases hk; exact row _ _ _ _ _ _ _ _ _ _ _ _ _ _ _ _ _ _ _ hx hb (kk lm hL)
    · cases hk
theorem g_ladd (hd : decode i.2.1 pc = .ok (.ladd, 1)) (hn : pc + 1 = nx) : GdP B I i pc (s_pure (k_lbin (fun x y => x + y)) nx) := g_lbinW hn fun _ _ _ _ _ _ _ _ _ _ _ _ _ _ _ _ _ _ _ hx hb k => lv_ladd hx hb hd k
theorem g_lsub (hd : decode i.2.1 pc = .ok (.lsub, 1)) (hn : pc + 1 = nx) : GdP B I i pc (s_pure (k_lbin (fun x y => x - y)) nx) := g_lbinW hn fun _ _ _ _ _ _ _ _ _ _ _ _ _ _ _ _ _ _ _ hx hb k => lv_lsub hx hb hd k
theorem g_lmul (hd : decode i.2.1 pc = .ok (.lmul, 1)) (hn : pc + 1 = nx) : GdP B I i pc (s_pure (k_lbin (fun x y => x * y)) nx) := g_lbinW hn fun _ _ _ _ _ _ _ _ _ _ _ _ _ _ _ _ _ _ _ hx hb k => lv_lmul hx hb hd k
theorem g_land (hd : decode i.2.1 pc = .ok (.land, 1)) (hn : pc + 1 = nx) : GdP B I i pc (s_pure (k_lbin (fun x y => x &&& y)) nx) := g_lbinW hn fun _ _ _ _ _ _ _ _ _ _ _ _ _ _ _ _ _ _ _ hx hb k => lv_land hx hb hd k
theorem g_lor (hd : decode i.2.1 pc = .ok (.lor, 1)) (hn : pc + 1 = nx) : GdP B I i pc (s_pure (k_lbin (fun x y => x ||| y)) nx) := g_lbinW hn fun _ _ _ _ _ _ _ _ _ _ _ _ _ _ _ _ _ _ _ hx hb k => lv_lor hx hb hd k
theorem g_lshW {f : Int64 → Int32 → Int64} (hn : pc + 1 = nx) (row : ∀ (p : Program) (l : Launch) (e : Env) (R : Room) (s : State) (m : MethodId) (args : Array Value) (below : List Frame) (meth : Method) (cd : Code) (H : Heap) (locs : List Loc) (cells slots : Nat) (Q : State → Prop) (lm : Array Slot) (x : Int64) (y : Int32) (rest : List Value), p.tables.exec = Jvm.exec → cd.code = i.2.1 →
    W p l e R s m args below meth cd H locs cells slots Q (F0 m (pc + 1) lm (.long (f x y) :: rest)) → W p l e R s m args below meth cd H locs cells slots Q (F0 m pc lm (.int y :: .long x :: rest))) : GdP B I i pc (s_pure (k_lsh f) nx) := by
  subst hn
  exact g_pure fun p l e R s m args below meth cd H locs cells slots Q lm ls st q hx hb ho hw hsr hL hk kk => by
    unfold k_lsh at hk
    split at hk
    · cases hk; exact row _ _ _ _ _ _ _ _ _ _ _ _ _ _ _ _ _ _ _ hx hb (kk lm hL)
    · cases hk
theorem g_lshl (hd : decode i.2.1 pc = .ok (.lshl, 1)) (hn : pc + 1 = nx) : GdP B I i pc (s_pure (k_lsh o_lshl) nx) := g_lshW hn fun _ _ _ _ _ _ _ _ _ _ _ _ _ _ _ _ _ _ _ hx hb k => lv_lshl hx hb hd rfl k
theorem g_lshr (hd : decode i.2.1 pc = .ok (.lshr, 1)) (hn : pc + 1 = nx) : GdP B I i pc (s_pure (k_lsh o_lshr) nx) := g_lshW hn fun _ _ _ _ _ _ _ _ _ _ _ _ _ _ _ _ _ _ _ hx hb k => lv_lshr hx hb hd rfl k
theorem g_iunW {f : Int32 → Int32} (hn : pc + 1 = nx) (row : ∀ (p : Program) (l : Launch) (e : Env) (R : Room) (s : State) (m : MethodId) (args : Array Value) (below : List Frame) (meth : Method) (cd : Code) (H : Heap) (locs : List Loc) (cells slots : Nat) (Q : State → Prop) (lm : Array Slot) (x : Int32) (rest : List Value), p.tables.exec = Jvm.exec → cd.code = i.2.1 →
    W p l e R s m args below meth cd H locs cells slots Q (F0 m (pc + 1) lm (.int (f x) :: rest)) → W p l e R s m args below meth cd H locs cells slots Q (F0 m pc lm (.int x :: rest))) : GdP B I i pc (s_pure (k_iun f) nx) := by
  subst hn
  exact g_pure fun p l e R s m args below meth cd H locs cells slots Q lm ls st q hx hb ho hw hsr hL hk kk => by
    unfold k_iun at hk
    split at hk
    · cases hk; exact row _ _ _ _ _ _ _ _ _ _ _ _ _ _ _ _ _ _ hx hb (kk lm hL)
    · cases hk
theorem g_ineg (hd : decode i.2.1 pc = .ok (.ineg, 1)) (hn : pc + 1 = nx) : GdP B I i pc (s_pure (k_iun (fun x => -x)) nx) := g_iunW hn fun _ _ _ _ _ _ _ _ _ _ _ _ _ _ _ _ _ _ hx hb k => lv_ineg hx hb hd k
theorem g_i2b (hd : decode i.2.1 pc = .ok (.i2b, 1)) (hn : pc + 1 = nx) : GdP B I i pc (s_pure (k_iun (fun x => x.toInt8.toInt32)) nx) := g_iunW hn fun _ _ _ _ _ _ _ _ _ _ _ _ _ _ _ _ _ _ hx hb k => lv_i2b hx hb hd rfl k
theorem g_i2s (hd : decode i.2.1 pc = .ok (.i2s, 1)) (hn : pc + 1 = nx) : GdP B I i pc (s_pure (k_iun (fun x => x.toInt16.toInt32)) nx) := g_iunW hn fun _ _ _ _ _ _ _ _ _ _ _ _ _ _ _ _ _ _ hx hb k => lv_i2s hx hb hd rfl k
theorem g_i2c (hd : decode i.2.1 pc = .ok (.i2c, 1)) (hn : pc + 1 = nx) : GdP B I i pc (s_pure (k_iun (fun x => x.toUInt32.toUInt16.toUInt32.toInt32)) nx) := g_iunW hn fun _ _ _ _ _ _ _ _ _ _ _ _ _ _ _ _ _ _ hx hb k => lv_i2c hx hb hd rfl k
theorem g_i2l (hd : decode i.2.1 pc = .ok (.i2l, 1)) (hn : pc + 1 = nx) : GdP B I i pc (s_pure k_i2l nx) := by
  subst hn
  exact g_pure fun p l e R s m args below meth cd H locs cells slots Q lm ls st q hx hb ho hw hsr hL hk kk => by
    unfold k_i2l at hk
    split at hk
    · cases hk; exact lv_i2l hx hb hd rfl (kk lm hL)
    · cases hk
theorem g_l2i (hd : decode i.2.1 pc = .ok (.l2i, 1)) (hn : pc + 1 = nx) : GdP B I i pc (s_pure k_l2i nx) := by
  subst hn
  exact g_pure fun p l e R s m args below meth cd H locs cells slots Q lm ls st q hx hb ho hw hsr hL hk kk => by
    unfold k_l2i at hk
    split at hk
    · cases hk; exact lv_l2i hx hb hd rfl (kk lm hL)
    · cases hk
theorem g_lcmp (hd : decode i.2.1 pc = .ok (.lcmp, 1)) (hn : pc + 1 = nx) : GdP B I i pc (s_pure k_lcmp nx) := by
  subst hn
  exact g_pure fun p l e R s m args below meth cd H locs cells slots Q lm ls st q hx hb ho hw hsr hL hk kk => by
    unfold k_lcmp at hk
    split at hk
    · cases hk; exact W.lcmp hx hb hd (kk lm hL)
    · cases hk
theorem g_dup (hd : decode i.2.1 pc = .ok (.dup, 1)) (hn : pc + 1 = nx) : GdP B I i pc (s_pure k_dup nx) := by
  subst hn
  exact g_pure fun p l e R s m args below meth cd H locs cells slots Q lm ls st q hx hb ho hw hsr hL hk kk => by
    unfold k_dup at hk
    split at hk
    · rename_i v st9
      cases hc : Nat.beq v.category 1 with
      | false => rw [hc] at hk; cases hk
      | true => rw [hc] at hk; cases hk; exact lv_dup hx hb hd (by rw [vmP_cat]; exact Nat.eq_of_beq_eq_true hc) (kk lm hL)
    · cases hk
theorem g_dup2 (hd : decode i.2.1 pc = .ok (.dup2, 1)) (hn : pc + 1 = nx) : GdP B I i pc (s_pure k_dup2 nx) := by
  subst hn
  exact g_pure fun p l e R s m args below meth cd H locs cells slots Q lm ls st q hx hb ho hw hsr hL hk kk => by
    unfold k_dup2 at hk
    split at hk
    · rename_i v w st9
      cases hc : Nat.beq v.category 1 && Nat.beq w.category 1 with
      | false => rw [hc] at hk; cases hk
      | true =>
        rw [hc] at hk; cases hk
        rw [Bool.and_eq_true] at hc
        exact lv_dup2_11 hx hb hd (by rw [vmP_cat]; exact Nat.eq_of_beq_eq_true hc.1) (by rw [vmP_cat]; exact Nat.eq_of_beq_eq_true hc.2) (kk lm hL)
    · cases hk
theorem g_pop (hd : decode i.2.1 pc = .ok (.pop, 1)) (hn : pc + 1 = nx) : GdP B I i pc (s_pure k_pop nx) := by
  subst hn
  exact g_pure fun p l e R s m args below meth cd H locs cells slots Q lm ls st q hx hb ho hw hsr hL hk kk => by
    unfold k_pop at hk
    split at hk
    · rename_i v st9
      cases hc : Nat.beq v.category 1 with
      | false => rw [hc] at hk; cases hk
      | true => rw [hc] at hk; cases hk; exact lv_pop hx hb hd (by rw [vmP_cat]; exact Nat.eq_of_beq_eq_true hc) (kk lm hL)
    · cases hk
theorem g_pop2 (hd : decode i.2.1 pc = .ok (.pop2, 1)) (hn : pc + 1 = nx) : GdP B I i pc (s_pure k_pop2 nx) := by
  subst hn
  exact g_pure fun p l e R s m args below meth cd H locs cells slots Q lm ls st q hx hb ho hw hsr hL hk kk => by
    unfold k_pop2 at hk
    split at hk
    · rename_i v st9
      cases hc : Nat.beq v.category 2 with
      | false => rw [hc] at hk; cases hk
      | true => rw [hc] at hk; cases hk; exact lv_pop2_2 hx hb hd (by rw [vmP_cat]; exact Nat.eq_of_beq_eq_true hc) (kk lm hL)
    · cases hk
theorem g_goto {off : Int} (hd : decode i.2.1 pc = .ok (.goto off, 3)) (ht : (pc : Int) + off = (nx : Int)) : GdP B I i pc (s_pure (fun ls st => some (ls, st)) nx) :=
  g_pure fun p l e R s m args below meth cd H locs cells slots Q lm ls st q hx hb ho hw hsr hL hk kk => by cases hk; exact lv_goto hx hb hd ht (kk lm hL)
end PU
