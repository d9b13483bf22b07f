/-! SOUND, part a: how pictures by handles stand for the machine's heap -/
/-- class and slots; array classes; where new cells begin; handles below 16; the script's length and ints -/
abbrev EnvP : Type := va_G × (Nat → ClassId) × Nat × (Nat → Nat) × Nat × (Nat → Int32)
def eD (E : EnvP) : va_G := E.1
def eC (E : EnvP) : Nat → ClassId := E.2.1
def eB (E : EnvP) : Nat := E.2.2.1
def eK (E : EnvP) : Nat → Nat := E.2.2.2.1
def eL (E : EnvP) : Nat := E.2.2.2.2.1
def eX (E : EnvP) : Nat → Int32 := E.2.2.2.2.2
def adP (E : EnvP) (k : Nat) : Nat := if k < 16 then eK E k else eB E + (k - 16)
def vmP (E : EnvP) (v : Value) : Value := match v with
  | .ref a => .ref (adP E a)
  | v => v
def tyP (k : Nat) : FieldType := match k with
  | 0 => .int
  | 1 => .byte
  | 2 => .boolean
  | 3 => .long
  | 4 => .object "SnowKeeps$Snow"
  | 5 => .object "SnowKeeps$Tray"
  | _ => .array .int
def tysP (E : EnvP) : List (ClassId × FieldType) := [(eC E 0, .int), (eC E 1, .byte), (eC E 2, .boolean), (eC E 3, .long), (eC E 4, .object "SnowKeeps$Snow"), (eC E 5, .object "SnowKeeps$Tray"), (eC E 6, .array .int)]
theorem tysP_at {E : EnvP} {t : Nat} (h : t < 7) : (tysP E)[t]? = some (eC E t, tyP t) := by
  rcases (show t = 0 ∨ t = 1 ∨ t = 2 ∨ t = 3 ∨ t = 4 ∨ t = 5 ∨ t = 6 by omega) with rfl | rfl | rfl | rfl | rfl | rfl | rfl <;> rfl
def enP (E : EnvP) (c : CellP) : va_E := match c with
  | .inl (c, fs) => .inr (c, fs.map (vmP E))
  | .inr (.inl (t, n, f)) => .inl (eC E t, n, .inl f)
  | .inr (.inr (.inl (n, f))) => .inl (eC E 3, n, .inr (.inl f))
  | .inr (.inr (.inr (t, n, f))) => .inl (eC E t, n, .inr (.inr (.inr (.inr (fun i => (f i).map (adP E))))))
def okP (c : CellP) : Prop := match c with
  | .inl _ => True
  | .inr (.inl (t, _, _)) => t < 3
  | .inr (.inr (.inl _)) => True
  | .inr (.inr (.inr (t, _, _))) => 4 ≤ t ∧ t < 7
def frP (E : EnvP) (q : Nat) : Prop := eB E ≤ q
def repP (E : EnvP) (h : HeapP) (H : Heap) : Prop := H.size + 16 = eB E + h.1 ∧ 16 ≤ h.1 ∧ ∀ k c, h.2.2 k = some c → (k = 0 ∧ c = pI 9 (eL E) (eX E)) ∨ (16 ≤ k ∧ k < h.1 ∧ okP c ∧ va_at (eD E) clsP (adP E k, enP E c) H)
theorem adP_new {E : EnvP} {k : Nat} (h : 16 ≤ k) : adP E k = eB E + (k - 16) := by unfold adP; rw [if_neg (by omega)]
theorem adP_inj {E : EnvP} {a b : Nat} (ha : 16 ≤ a) (hb : 16 ≤ b) (h : adP E a = adP E b) : a = b := by
  rw [adP_new ha, adP_new hb] at h; omega
theorem repP.size {E : EnvP} {h : HeapP} {H : Heap} (r : repP E h H) : adP E h.1 = H.size := by
  rw [adP_new r.2.1]; have := r.1; have := r.2.1; omega
theorem repP.fr {E : EnvP} {h : HeapP} {H : Heap} (r : repP E h H) {k : Nat} (hk : 16 ≤ k) : frP E (adP E k) := by
  unfold frP; rw [adP_new hk]; omega
theorem repP.get {E : EnvP} {h : HeapP} {H : Heap} (r : repP E h H) {k : Nat} {c : CellP} (hk : h.2.2 k = some c) (hc : c ≠ pI 9 (eL E) (eX E)) : 16 ≤ k ∧ k < h.1 ∧ okP c ∧ va_at (eD E) clsP (adP E k, enP E c) H := by
  rcases r.2.2 k c hk with ⟨-, h2⟩ | h2
  · exact absurd h2 hc
  · exact h2
/-- one cell is other, the others stay -/
theorem repP.set {E : EnvP} {h : HeapP} {H H1 : Heap} {a : Nat} {c' : CellP} (r : repP E h H) (ha : 16 ≤ a ∧ a < h.1) (hc : okP c') (h1 : va_at (eD E) clsP (adP E a, enP E c') H1) (hz : H1.size = H.size) (ho : ∀ q, q ≠ adP E a → H1[q]? = H[q]?) : repP E (hset h a c') H1 := by
  obtain ⟨r1, r2, r3⟩ := r
  refine ⟨by rw [hz]; exact r1, r2, fun k d hk => ?_⟩
  by_cases e : k = a
  · subst e
    have : some c' = some d := by simpa [hset] using hk
    cases this
    exact Or.inr ⟨ha.1, ha.2, hc, h1⟩
  · have hk' : h.2.2 k = some d := by simpa [hset, e] using hk
    rcases r3 k d hk' with q | ⟨q1, q2, q3, q4⟩
    · exact Or.inl q
    · exact Or.inr ⟨q1, q2, q3, q4.kept (ho _ (fun z => e (adP_inj q1 ha.1 z)))⟩
/-- one cell more at the end -/
theorem repP.new {E : EnvP} {h : HeapP} {H H1 : Heap} {c : CellP} {sz : Nat} (r : repP E h H) (hc : okP c) (h1 : va_at (eD E) clsP (H.size, enP E c) H1) (hz : H1.size = H.size + 1) (ho : ∀ q, q < H.size → H1[q]? = H[q]?) : repP E (hnew h sz c) H1 := by
  have hs := r.size
  obtain ⟨r1, r2, r3⟩ := r
  refine ⟨by rw [hz]; show _ = eB E + (h.1 + 1); omega, by show 16 ≤ h.1 + 1; omega, fun k d hk => ?_⟩
  by_cases e : k = h.1
  · subst e
    have : some c = some d := by simpa [hnew] using hk
    cases this
    exact Or.inr ⟨r2, Nat.lt_succ_self _, hc, by rw [hs]; exact h1⟩
  · have hk' : h.2.2 k = some d := by simpa [hnew, e] using hk
    rcases r3 k d hk' with q | ⟨q1, q2, q3, q4⟩
    · exact Or.inl q
    · exact Or.inr ⟨q1, Nat.lt_succ_of_lt q2, q3, q4.kept (ho _ q4.lt)⟩
theorem repP.jnk {E : EnvP} {h : HeapP} {H H1 : Heap} {n sz : Nat} (r : repP E h H) (hz : H1.size = H.size + n) (ho : ∀ q, q < H.size → H1[q]? = H[q]?) : repP E (hjnk h n sz) H1 := by
  obtain ⟨r1, r2, r3⟩ := r
  refine ⟨by rw [hz]; show _ = eB E + (h.1 + n); omega, by show 16 ≤ h.1 + n; omega, fun k d hk => ?_⟩
  rcases r3 k d hk with q | ⟨q1, q2, q3, q4⟩
  · exact Or.inl q
  · exact Or.inr ⟨q1, by show k < h.1 + n; omega, q3, q4.kept (ho _ q4.lt)⟩
/-- n rows of k places -/
theorem repP.rows {E : EnvP} {h : HeapP} {H H1 : Heap} {n k : Nat} (r : repP E h H) (hz : H1.size = H.size + n) (ho : ∀ q, q < H.size → H1[q]? = H[q]?) (h1 : ∀ j, j < n → H1[H.size + j]? = some (vp_cell (eC E 0) (k, .inl (fun _ => 0)))) : repP E (hrows h n k) H1 := by
  obtain ⟨r1, r2, r3⟩ := r
  refine ⟨by rw [hz]; show _ = eB E + (h.1 + n); omega, by show 16 ≤ h.1 + n; omega, fun q d hq => ?_⟩
  by_cases e : h.1 ≤ q ∧ q < h.1 + n
  · have : some (pI 0 k (fun _ => 0)) = some d := by simpa [hrows, e] using hq
    cases this
    refine Or.inr ⟨by omega, e.2, by show (0 : Nat) < 3; omega, ?_⟩
    have := h1 (q - h.1) (by omega)
    rw [show H.size + (q - h.1) = adP E q by rw [adP_new (by omega)]; omega] at this
    exact this
  · have hk' : h.2.2 q = some d := by simpa [hrows, e] using hq
    rcases r3 q d hk' with q9 | ⟨q1, q2, q3, q4⟩
    · exact Or.inl q9
    · exact Or.inr ⟨q1, by show q < h.1 + n; omega, q3, q4.kept (ho _ q4.lt)⟩
/-- the locals -/
def lcA (E : EnvP) : Nat → LocP → List (Nat × Value)
  | _, [] => []
  | i, none :: t => lcA E (i + 1) t
  | i, some v :: t => (i, vmP E v) :: lcA E (i + 1) t
theorem lcA_mem {E : EnvP} {L : LocP} {i : Nat} {q : Nat × Value} : q ∈ lcA E i L ↔ ∃ k v, L[k]? = some (some v) ∧ q = (i + k, vmP E v) := by
  induction L generalizing i with
  | nil => simp [lcA]
  | cons x t ih =>
    constructor
    · intro h
      cases x with
      | none =>
        obtain ⟨k, v, h1, h2⟩ := ih.mp h
        exact ⟨k + 1, v, by simpa using h1, by rw [h2]; congr 1; omega⟩
      | some x =>
        rcases List.mem_cons.mp h with h | h
        · exact ⟨0, x, rfl, h⟩
        · obtain ⟨k, v, h1, h2⟩ := ih.mp h
          exact ⟨k + 1, v, by simpa using h1, by rw [h2]; congr 1; omega⟩
    · rintro ⟨k, v, h1, h2⟩
      cases k with
      | zero =>
        have : x = some v := by simpa using h1
        subst this
        rw [h2]
        exact List.mem_cons_self
      | succ k =>
        have h3 : q ∈ lcA E (i + 1) t := ih.mpr ⟨k, v, by simpa using h1, by rw [h2]; congr 1; omega⟩
        cases x with
        | none => exact h3
        | some x => exact List.mem_cons_of_mem _ h3
def locR (E : EnvP) (ls : Array Slot) (n : Nat) (L : LocP) : Prop := lv_has ls n (lcA E 0 L) ∧ L.length = n
theorem locR.at {E : EnvP} {ls : Array Slot} {n : Nat} {L : LocP} (h : locR E ls n L) {i : Nat} {v : Value} (hi : L[i]? = some (some v)) : ls[i]? = some (.val (vmP E v)) :=
  h.1.2.2 (i, vmP E v) (lcA_mem.mpr ⟨i, v, hi, by simp⟩)
/-- a long ahead of place i loses its second half -/
def clrL (L : LocP) (i : Nat) : LocP := match i with
  | 0 => L
  | j + 1 => match L[j]? with
    | some (some v) => bif Nat.beq v.category 2 then L.set j none else L
    | _ => L
def stL1 (L : LocP) (i : Nat) (v : Value) : LocP := (clrL L i).set i (some v)
def stL2 (L : LocP) (i : Nat) (v : Value) : LocP := ((clrL L i).set (i + 1) none).set i (some v)
theorem clrL_len {L : LocP} {i : Nat} : (clrL L i).length = L.length := by
  cases i with
  | zero => rfl
  | succ j =>
    simp only [clrL]
    split
    · cases (Nat.beq _ 2) <;> simp
    · rfl
theorem vmP_cat {E : EnvP} (v : Value) : (vmP E v).category = v.category := by cases v <;> rfl
theorem clrL_get {L : LocP} {i k : Nat} {v : Value} (h : (clrL L i)[k]? = some (some v)) : L[k]? = some (some v) ∧ (k + 1 = i → ¬ v.category = 2) := by
  cases i with
  | zero => exact ⟨h, fun z => by omega⟩
  | succ j =>
    simp only [clrL] at h
    split at h
    · rename_i w hw
      cases hb : Nat.beq w.category 2 with
      | true =>
        rw [hb] at h
        simp only [cond_true] at h
        by_cases e : k = j
        · subst e
          rw [List.getElem?_set] at h
          simp at h
        · rw [List.getElem?_set_ne (fun z => e z.symm)] at h
          exact ⟨h, fun z => by omega⟩
      | false =>
        rw [hb] at h
        refine ⟨h, fun z => ?_⟩
        have e : k = j := by omega
        subst e
        have : some (some v) = some (some w) := h.symm.trans hw
        cases this
        exact Nat.ne_of_beq_eq_false hb
    · rename_i hw
      refine ⟨h, fun z => ?_⟩
      have e : k = j := by omega
      subst e
      exact absurd h (hw v)
theorem locR.set1 {E : EnvP} {ls : Array Slot} {n : Nat} {L : LocP} {i : Nat} {v w : Value} (hL : L.length = n) (hw : vmP E v = w) (h : lv_has ls n ((i, w) :: (lcA E 0 L).filter (fun q => !(q.1 == i) && !(q.1 + 1 == i && q.2.category == 2)))) : locR E ls n (stL1 L i v) := by
  refine ⟨⟨h.1, h.2.1, fun q hq => h.2.2 q ?_⟩, by simp [stL1, clrL_len, hL]⟩
  obtain ⟨k, u, h1, rfl⟩ := lcA_mem.mp hq
  unfold stL1 at h1
  by_cases e : k = i
  · subst e
    rw [List.getElem?_set] at h1
    split at h1
    · split at h1
      · cases h1
        rw [hw, Nat.zero_add]
        exact List.mem_cons_self
      · cases h1
    · exact absurd rfl ‹_›
  · rw [List.getElem?_set_ne (fun z => e z.symm)] at h1
    obtain ⟨h2, h3⟩ := clrL_get h1
    refine List.mem_cons_of_mem _ (List.mem_filter.mpr ⟨lcA_mem.mpr ⟨k, u, h2, rfl⟩, ?_⟩)
    simp only [Nat.zero_add, vmP_cat]
    have e1 : (k == i) = false := by simp [e]
    have e2 : (k + 1 == i && u.category == 2) = false := by
      by_cases z : k + 1 = i
      · have := h3 z
        simp [this]
      · simp [z]
    rw [e1, e2]; rfl
theorem locR.set2 {E : EnvP} {ls : Array Slot} {n : Nat} {L : LocP} {i : Nat} {v w : Value} (hL : L.length = n) (hw : vmP E v = w) (h : lv_has ls n ((i, w) :: (lcA E 0 L).filter (fun q => !(q.1 == i) && (!(q.1 == i + 1) && !(q.1 + 1 == i && q.2.category == 2))))) : locR E ls n (stL2 L i v) := by
  refine ⟨⟨h.1, h.2.1, fun q hq => h.2.2 q ?_⟩, by simp [stL2, clrL_len, hL]⟩
  obtain ⟨k, u, h1, rfl⟩ := lcA_mem.mp hq
  unfold stL2 at h1
  by_cases e : k = i
  · subst e
    rw [List.getElem?_set] at h1
    split at h1
    · split at h1
      · cases h1
        rw [hw, Nat.zero_add]
        exact List.mem_cons_self
      · cases h1
    · exact absurd rfl ‹_›
  · rw [List.getElem?_set_ne (fun z => e z.symm)] at h1
    by_cases e9 : k = i + 1
    · subst e9
      rw [List.getElem?_set] at h1
      split at h1
      · split at h1 <;> cases h1
      · exact absurd rfl ‹_›
    · rw [List.getElem?_set_ne (fun z => e9 z.symm)] at h1
      obtain ⟨h2, h3⟩ := clrL_get h1
      refine List.mem_cons_of_mem _ (List.mem_filter.mpr ⟨lcA_mem.mpr ⟨k, u, h2, rfl⟩, ?_⟩)
      simp only [Nat.zero_add, vmP_cat]
      have e1 : (k == i) = false := by simp [e]
      have e4 : (k == i + 1) = false := by simp [e9]
      have e2 : (k + 1 == i && u.category == 2) = false := by
        by_cases z : k + 1 = i
        · have := h3 z
          simp [this]
        · simp [z]
      rw [e1, e2, e4]; rfl
theorem locR.none {E : EnvP} {ls : Array Slot} {n : Nat} {L : LocP} {i : Nat} {w : Value} (hL : L.length = n) (h : lv_has ls n ((i, w) :: (lcA E 0 L).filter (fun q => !(q.1 == i) && !(q.1 + 1 == i && q.2.category == 2)))) : locR E ls n ((clrL L i).set i none) := by
  refine ⟨⟨h.1, h.2.1, fun q hq => h.2.2 q ?_⟩, by simp [clrL_len, hL]⟩
  obtain ⟨k, u, h1, rfl⟩ := lcA_mem.mp hq
  by_cases e : k = i
  · subst e
    rw [List.getElem?_set] at h1
    split at h1
    · split at h1 <;> cases h1
    · exact absurd rfl ‹_›
  · rw [List.getElem?_set_ne (fun z => e z.symm)] at h1
    obtain ⟨h2, h3⟩ := clrL_get h1
    refine List.mem_cons_of_mem _ (List.mem_filter.mpr ⟨lcA_mem.mpr ⟨k, u, h2, rfl⟩, ?_⟩)
    simp only [Nat.zero_add, vmP_cat]
    have e1 : (k == i) = false := by simp [e]
    have e2 : (k + 1 == i && u.category == 2) = false := by
      by_cases z : k + 1 = i
      · have := h3 z
        simp [this]
      · simp [z]
    rw [e1, e2]; rfl
