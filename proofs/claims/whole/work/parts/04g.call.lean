/-! SOUND, part g: ends, throws, switches, calls -/
section CL
variable {B : BigP} {I : Nat → InfP} {i : InfP} {pc nx : Nat}
theorem keptP_of {s t : State} {H : Heap} {locs : List Loc} (hS : va_S (frP (bE B)) s.heap H locs) (hG : GamP B.1 B.2.1 (bE B) s s.heap) (ht : t.heap = H) : keptP B s t := by
  refine ⟨by rw [ht]; exact hS.1, fun q hq => ?_⟩
  rw [ht]
  exact hS.2.1 q (Nat.lt_of_lt_of_le hq hG.2.2.2.1) (Nat.not_le.mpr hq)
def s_iret : SemP := fun _ st h => match st with
  | [.int v] => xHalt (some (Sum.inl (some (.int v)), h))
  | _ => xHalt none
def retZ (v : Int32) (h : HeapP) : ResP := if v = 0 ∨ v = 1 then some (Sum.inl (some (.int v)), h) else none
def s_zret : SemP := fun _ st h => match st with
  | [.int v] => xHalt (retZ v h)
  | _ => xHalt none
def retC (v : Int32) (h : HeapP) : ResP := if narrow .char (.int v) = .int v then some (Sum.inl (some (.int v)), h) else none
def s_cret : SemP := fun _ st h => match st with
  | [.int v] => xHalt (retC v h)
  | _ => xHalt none
def s_lret : SemP := fun _ st h => match st with
  | [.long v] => xHalt (some (Sum.inl (some (.long v)), h))
  | _ => xHalt none
def s_aret : SemP := fun _ st h => match st with
  | [.ref a] => xHalt (some (Sum.inl (some (.ref a)), h))
  | [.null] => xHalt (some (Sum.inl (some .null), h))
  | _ => xHalt none
def s_vret : SemP := fun _ st h => match st with
  | [] => xHalt (some (Sum.inl none, h))
  | _ => xHalt none
theorem g_halt {s : SemP} (hh : ∀ ls st h, ∃ r, s ls st h = xHalt r ∧ ∀ q, r = some q → q.2 = h ∧ ∀ d, VP B i d (pc, ls, st, h) q.1 h) : GdP B I i pc s := by
  refine ⟨fun ls st h rec call q hg _ hs => ?_, fun d ls st h o h1 rec call hg hr hc hs => ?_⟩
  · obtain ⟨r, e1, e2⟩ := hh ls st h
    rw [e1] at hs
    rw [(e2 q hs).1]
    exact hleP.rfl'
  · obtain ⟨r, e1, e2⟩ := hh ls st h
    rw [e1] at hs
    obtain ⟨e3, e4⟩ := e2 _ hs
    have e3 : h1 = h := e3
    subst e3
    exact e4 d
theorem g_iret (hd : decode i.2.1 pc = .ok (.ireturn, 1)) (hr : i.2.2.2.1 = some .int) : GdP B I i pc s_iret := by
  refine g_halt fun ls st h => ?_
  unfold s_iret
  split
  · rename_i v
    refine ⟨_, rfl, fun q hq => ?_⟩
    cases hq
    refine ⟨rfl, fun d => ?_⟩
    intro p e R s m args below meth cd h0 H locs lm hI h01 h11 hR hL hS
    obtain ⟨i1, i2, i3, i4, i5, i6, i7, i8, i9, i10⟩ := id hI
    exact vx_ret (W.iret i1 i2 (by rw [i4, hr]) (fun t ht hW => ⟨⟨_, rfl, rfl⟩, by rw [ht]; exact hR, keptP_of hS i9 ht⟩) hS.2.2 hd i5)
  · exact ⟨none, rfl, fun q hq => by cases hq⟩
theorem g_zret (hd : decode i.2.1 pc = .ok (.ireturn, 1)) (hr : i.2.2.2.1 = some .boolean) : GdP B I i pc s_zret := by
  refine g_halt fun ls st h => ?_
  unfold s_zret
  split
  · rename_i v
    refine ⟨_, rfl, fun q hq => ?_⟩
    unfold retZ at hq
    split at hq
    · rename_i hv
      cases hq
      refine ⟨rfl, fun d => ?_⟩
      intro p e R s m args below meth cd h0 H locs lm hI h01 h11 hR hL hS
      obtain ⟨i1, i2, i3, i4, i5, i6, i7, i8, i9, i10⟩ := id hI
      exact vx_ret (W.zret i1 i2 (by rw [i4, hr]) (by rcases hv with rfl | rfl <;> rfl) (fun t ht hW => ⟨⟨_, rfl, rfl⟩, by rw [ht]; exact hR, keptP_of hS i9 ht⟩) hS.2.2 hd i5)
    · cases hq
  · exact ⟨none, rfl, fun q hq => by cases hq⟩
theorem g_cret (hd : decode i.2.1 pc = .ok (.ireturn, 1)) (hr : i.2.2.2.1 = some .char) : GdP B I i pc s_cret := by
  refine g_halt fun ls st h => ?_
  unfold s_cret
  split
  · rename_i v
    refine ⟨_, rfl, fun q hq => ?_⟩
    unfold retC at hq
    split at hq
    · rename_i hv
      cases hq
      refine ⟨rfl, fun d => ?_⟩
      intro p e R s m args below meth cd h0 H locs lm hI h01 h11 hR hL hS
      obtain ⟨i1, i2, i3, i4, i5, i6, i7, i8, i9, i10⟩ := id hI
      exact vx_ret (W.zret i1 i2 (by rw [i4, hr]) hv (fun t ht hW => ⟨⟨_, rfl, rfl⟩, by rw [ht]; exact hR, keptP_of hS i9 ht⟩) hS.2.2 hd i5)
    · cases hq
  · exact ⟨none, rfl, fun q hq => by cases hq⟩
theorem g_lret (hd : decode i.2.1 pc = .ok (.lreturn, 1)) (hr : i.2.2.2.1 = some .long) : GdP B I i pc s_lret := by
  refine g_halt fun ls st h => ?_
  unfold s_lret
  split
  · rename_i v
    refine ⟨_, rfl, fun q hq => ?_⟩
    cases hq
    refine ⟨rfl, fun d => ?_⟩
    intro p e R s m args below meth cd h0 H locs lm hI h01 h11 hR hL hS
    obtain ⟨i1, i2, i3, i4, i5, i6, i7, i8, i9, i10⟩ := id hI
    exact vx_ret (W.lret i1 i2 (by rw [i4, hr]) (fun t ht hW => ⟨⟨_, rfl, rfl⟩, by rw [ht]; exact hR, keptP_of hS i9 ht⟩) hS.2.2 hd i5)
  · exact ⟨none, rfl, fun q hq => by cases hq⟩
theorem g_aret {C : String} (hd : decode i.2.1 pc = .ok (.areturn, 1)) (hr : i.2.2.2.1 = some (.object C)) : GdP B I i pc s_aret := by
  refine g_halt fun ls st h => ?_
  unfold s_aret
  split
  · rename_i v
    refine ⟨_, rfl, fun q hq => ?_⟩
    cases hq
    refine ⟨rfl, fun d => ?_⟩
    intro p e R s m args below meth cd h0 H locs lm hI h01 h11 hR hL hS
    obtain ⟨i1, i2, i3, i4, i5, i6, i7, i8, i9, i10⟩ := id hI
    exact vx_ret (W.aret i1 i2 (by rw [i4, hr]) (Or.inl ⟨_, rfl⟩) (Or.inr ⟨_, rfl⟩) (fun t ht hW => ⟨⟨_, rfl, rfl⟩, by rw [ht]; exact hR, keptP_of hS i9 ht⟩) hS.2.2 hd i5)
  · refine ⟨_, rfl, fun q hq => ?_⟩
    cases hq
    refine ⟨rfl, fun d => ?_⟩
    intro p e R s m args below meth cd h0 H locs lm hI h01 h11 hR hL hS
    obtain ⟨i1, i2, i3, i4, i5, i6, i7, i8, i9, i10⟩ := id hI
    exact vx_ret (W.aret i1 i2 (by rw [i4, hr]) (Or.inl ⟨_, rfl⟩) (Or.inl rfl) (fun t ht hW => ⟨⟨_, rfl, rfl⟩, by rw [ht]; exact hR, keptP_of hS i9 ht⟩) hS.2.2 hd i5)
  · exact ⟨none, rfl, fun q hq => by cases hq⟩
theorem g_vret (hd : decode i.2.1 pc = .ok (.return_, 1)) (hr : i.2.2.2.1 = none) : GdP B I i pc s_vret := by
  refine g_halt fun ls st h => ?_
  unfold s_vret
  split
  · refine ⟨_, rfl, fun q hq => ?_⟩
    cases hq
    refine ⟨rfl, fun d => ?_⟩
    intro p e R s m args below meth cd h0 H locs lm hI h01 h11 hR hL hS
    obtain ⟨i1, i2, i3, i4, i5, i6, i7, i8, i9, i10⟩ := id hI
    exact vx_ret (W.vret i1 i2 (by rw [i4, hr]) (fun t ht hW => ⟨⟨_, rfl, rfl⟩, by rw [ht]; exact hR, keptP_of hS i9 ht⟩) hS.2.2 hd i5)
  · exact ⟨none, rfl, fun q hq => by cases hq⟩
/-! throw new X("..") -/
def s_throw (k : Nat) : SemP := fun _ st h => bif Nat.ble (st.map fun v => v.category).sum 8 then xHalt (some (Sum.inr k, hjnk h 1 6)) else xHalt none
theorem thr_words {own : String} {ic : Nat} {X Y9 : String} {r9 : List String} {ix : Nat} {b9 : ByteArray} {s : State} {args : Array Value} (hG : GamP B.1 B.2.1 (bE B) s s.heap) (h : ∀ w ∈ xw_at own ic X Y9 r9 ix b9, w ∈ lw_tbl ∧ (goodWord w || nestW w) = true) : ∀ w ∈ xw_at own ic X Y9 r9 ix b9, w.before args s = true := by
  intro w hw
  obtain ⟨h1, h2⟩ := h w hw
  rw [Bool.or_eq_true] at h2
  rcases h2 with h2 | h2
  · exact hG.2.1 w h1 h2 _
  · exact va_Nw.use (nestW_tab h2) (hG.2.2.1 w h1 h2)
theorem grow_throw {k : Nat} : GroP (s_throw k) := by
  intro ls st h rec call q hg _ hs
  unfold s_throw at hs
  cases hc : Nat.ble (st.map fun v => v.category).sum 8 with
  | false => rw [hc] at hs; cases hs
  | true => rw [hc] at hs; cases hs; exact ⟨Nat.le_succ _, Nat.le_add_right _ _⟩
theorem g_throwS {k ik is ic ix : Nat} {tx : String} {b9 : ByteArray} (b0 : decode b9 0 = .ok (.aload_n 0, 1)) (b1 : decode b9 1 = .ok (.aload_n 1, 1)) (b2 : decode b9 2 = .ok (.invokespecial ix, 3)) (b5 : decode b9 5 = .ok (.return_, 1)) (h0 : i.2.2.2.2.1 = []) (d0 : decode i.2.1 pc = .ok (.new ik, 3)) (d3 : decode i.2.1 (pc + 3) = .ok (.dup, 1)) (d4 : decode i.2.1 (pc + 4) = .ok (.ldc is, 2)) (d6 : decode i.2.1 (pc + 6) = .ok (.invokespecial ic, 3)) (d9 : decode i.2.1 (pc + 9) = .ok (.athrow, 1))
    (hfit : Bundle.fit (excP k) = true) (hw1 : Cond.classLink i.1.cls ik (excP k) ∈ lw_tbl) (hw2 : Cond.initialized (excP k) ∈ lw_tbl) (hms : (i.1.cls, is, tx) ∈ B.2.1) (hat : ∀ w ∈ xw_at i.1.cls ic (excP k) "java/lang/RuntimeException" ["java/lang/Exception"] ix b9, w ∈ lw_tbl ∧ (goodWord w || nestW w) = true)
    (hgood : ∀ w ∈ Cond.classLink i.1.cls ik (excP k) :: Cond.initialized (excP k) :: xw_at i.1.cls ic (excP k) "java/lang/RuntimeException" ["java/lang/Exception"] ix b9, vx_ot w = true) : GdP B I i pc (s_throw k) := by
  refine ⟨grow_throw, fun d ls st h o h1 rec call hg hr hc hs => ?_⟩
  unfold s_throw at hs
  cases hc : Nat.ble (st.map fun v => v.category).sum 8 with
  | false => rw [hc] at hs; cases hs
  | true =>
    rw [hc] at hs
    cases hs
    intro p e R s m args below meth cd h0' H locs lm hI h01 h11 hR hL hS
    obtain ⟨i1, i2, i3, i4, i5, i6, i7, i8, i9, i10, i11, i12, i13, i14⟩ := id hI
    obtain ⟨sa, hsa⟩ := i9.2.2.2.2.2.1.2.1 _ hms
    have hle := Nat.le_of_ble_eq_true hc
    have h01 : hleP h0' h := h01
    have i12 : h.1 + 1 - h0'.1 ≤ R.cells := i12
    have i13 : h.2.1 + 6 - h0'.2.1 ≤ R.slots := i13
    obtain ⟨z1, z2⟩ := h01
    refine xw_throwS (l := B.2.2.2) (A := frP (bE B)) i1 i2 i14 i6 hfit (by decide +kernel) (by decide +kernel) b0 b1 b2 b5 (i9.2.1 _ hw1 rfl _) (i9.2.1 _ hw2 rfl _) hsa (thr_words i9 hat) hgood i9.2.2.2.2.2.2.1.1 i9.2.2.2.2.2.2.1.2 hS (by rw [hL.1.1, i3]) d0 d3 d4 d6 d9
      (fun x hx => by rw [i8, h0] at hx; cases hx) (by simp only [List.length_cons, List.length_nil]; omega) (by rw [cat_map]; simp only [List.length_cons, List.length_nil]; omega) (by show h.1 - h0'.1 + 1 ≤ _; omega) (by show h.2.1 - h0'.2.1 + 6 ≤ _; omega) i5
      (fun t hW hz ho => ⟨⟨k, rfl, rfl⟩, hR.jnk hz ho, ⟨Nat.le_trans hS.1 (by omega), fun q hq => by
        have hq2 : q < s.heap.size := Nat.lt_of_lt_of_le hq i9.2.2.2.1
        rw [ho q (Nat.lt_of_lt_of_le hq2 hS.1)]
        exact hS.2.1 q hq2 (Nat.not_le.mpr hq)⟩⟩) hS.2.2 (by show h.1 - h0'.1 + 1 ≤ h.1 + 1 - h0'.1; omega) (by show h.2.1 - h0'.2.1 + 6 ≤ h.2.1 + 6 - h0'.2.1; omega)
theorem g_throwSW {k ik is ic ix : Nat} {tx : String} {b9 : ByteArray} (b0 : decode b9 0 = .ok (.aload_n 0, 1)) (b1 : decode b9 1 = .ok (.aload_n 1, 1)) (b2 : decode b9 2 = .ok (.invokespecial ix, 3)) (b5 : decode b9 5 = .ok (.return_, 1)) (h0 : i.2.2.2.2.1 = []) (d0 : decode i.2.1 pc = .ok (.new ik, 3)) (d3 : decode i.2.1 (pc + 3) = .ok (.dup, 1)) (d4 : decode i.2.1 (pc + 4) = .ok (.ldc_w is, 3)) (d7 : decode i.2.1 (pc + 7) = .ok (.invokespecial ic, 3)) (d10 : decode i.2.1 (pc + 10) = .ok (.athrow, 1))
    (hfit : Bundle.fit (excP k) = true) (hw1 : Cond.classLink i.1.cls ik (excP k) ∈ lw_tbl) (hw2 : Cond.initialized (excP k) ∈ lw_tbl) (hms : (i.1.cls, is, tx) ∈ B.2.1) (hat : ∀ w ∈ xw_at i.1.cls ic (excP k) "java/lang/RuntimeException" ["java/lang/Exception"] ix b9, w ∈ lw_tbl ∧ (goodWord w || nestW w) = true)
    (hgood : ∀ w ∈ Cond.classLink i.1.cls ik (excP k) :: Cond.initialized (excP k) :: xw_at i.1.cls ic (excP k) "java/lang/RuntimeException" ["java/lang/Exception"] ix b9, vx_ot w = true) : GdP B I i pc (s_throw k) := by
  refine ⟨grow_throw, fun d ls st h o h1 rec call hg hr hc hs => ?_⟩
  unfold s_throw at hs
  cases hc : Nat.ble (st.map fun v => v.category).sum 8 with
  | false => rw [hc] at hs; cases hs
  | true =>
    rw [hc] at hs
    cases hs
    intro p e R s m args below meth cd h0' H locs lm hI h01 h11 hR hL hS
    obtain ⟨i1, i2, i3, i4, i5, i6, i7, i8, i9, i10, i11, i12, i13, i14⟩ := id hI
    obtain ⟨sa, hsa⟩ := i9.2.2.2.2.2.1.2.1 _ hms
    have hle := Nat.le_of_ble_eq_true hc
    have h01 : hleP h0' h := h01
    have i12 : h.1 + 1 - h0'.1 ≤ R.cells := i12
    have i13 : h.2.1 + 6 - h0'.2.1 ≤ R.slots := i13
    obtain ⟨z1, z2⟩ := h01
    refine xw_throwSW (l := B.2.2.2) (A := frP (bE B)) i1 i2 i14 i6 hfit (by decide +kernel) (by decide +kernel) b0 b1 b2 b5 (i9.2.1 _ hw1 rfl _) (i9.2.1 _ hw2 rfl _) hsa (thr_words i9 hat) hgood i9.2.2.2.2.2.2.1.1 i9.2.2.2.2.2.2.1.2 hS (by rw [hL.1.1, i3]) d0 d3 d4 d7 d10
      (fun x hx => by rw [i8, h0] at hx; cases hx) (by simp only [List.length_cons, List.length_nil]; omega) (by rw [cat_map]; simp only [List.length_cons, List.length_nil]; omega) (by show h.1 - h0'.1 + 1 ≤ _; omega) (by show h.2.1 - h0'.2.1 + 6 ≤ _; omega) i5
      (fun t hW hz ho => ⟨⟨k, rfl, rfl⟩, hR.jnk hz ho, ⟨Nat.le_trans hS.1 (by omega), fun q hq => by
        have hq2 : q < s.heap.size := Nat.lt_of_lt_of_le hq i9.2.2.2.1
        rw [ho q (Nat.lt_of_lt_of_le hq2 hS.1)]
        exact hS.2.1 q hq2 (Nat.not_le.mpr hq)⟩⟩) hS.2.2 (by show h.1 - h0'.1 + 1 ≤ h.1 + 1 - h0'.1; omega) (by show h.2.1 - h0'.2.1 + 6 ≤ h.2.1 + 6 - h0'.2.1; omega)
/-! tableswitch -/
def s_sw (t : List (Int32 × Nat)) (d : Nat) : SemP := fun ls st h => match st with
  | .int x :: st => xSw x t d (fun q => (q, ls, st, h))
  | _ => xHalt none
theorem swP_out {x : Int32} {k : Nat → ResP} {q : OutP × HeapP} : ∀ {t : List (Int32 × Nat)} {d : Nat}, swP x t d k = some q → (∃ a, (x, a) ∈ t ∧ k a = some q) ∨ ((∀ a ∈ t, a.1 ≠ x) ∧ k d = some q) := by
  intro t
  induction t with
  | nil => intro d h; exact Or.inr ⟨fun a h9 => (by cases h9), h⟩
  | cons v t ih =>
    intro d h
    obtain ⟨v, p⟩ := v
    simp only [swP] at h
    split at h
    · rename_i e; subst e; exact Or.inl ⟨p, List.mem_cons_self, h⟩
    · rename_i e
      rcases ih h with ⟨a, h1, h2⟩ | ⟨h1, h2⟩
      · exact Or.inl ⟨a, List.mem_cons_of_mem _ h1, h2⟩
      · refine Or.inr ⟨fun a ha => ?_, h2⟩
        rcases List.mem_cons.mp ha with rfl | ha
        · exact fun z => e z.symm
        · exact h1 a ha
theorem g_tsw {t : List (Int32 × Nat)} {d len : Nat} {dflt lo hi : Int} {offs : Array Int} (hd : decode i.2.1 pc = .ok (.tableswitch dflt lo hi offs, len)) (ht : ∀ q ∈ t, ¬ q.1.toInt < lo ∧ ¬ hi < q.1.toInt ∧ (offs[(q.1.toInt - lo).toNat]?).map (fun o => (pc : Int) + o) = some (q.2 : Int)) (hD : (pc : Int) + dflt = (d : Int))
    (hall : ∀ x : Int32, (∀ a ∈ t, a.1 ≠ x) → x.toInt < lo ∨ hi < x.toInt) : GdP B I i pc (s_sw t d) := by
  refine ⟨fun ls st h rec call q hg _ hs => ?_, fun d9 ls st h o h1 rec call hg hr hc hs => ?_⟩
  · unfold s_sw at hs
    split at hs
    · rcases swP_out hs with ⟨a, -, h2⟩ | ⟨-, h2⟩
      · exact hg _ q h2
      · exact hg _ q h2
    · cases hs
  · unfold s_sw at hs
    split at hs
    · rename_i x st9
      intro p e R s m args below meth cd h0 H locs lm hI h01 h11 hR hL hS
      rcases swP_out hs with ⟨a, h2, h3⟩ | ⟨h2, h3⟩
      · obtain ⟨y1, y2, y3⟩ := ht _ h2
        obtain ⟨off, y4, y5⟩ := Option.map_eq_some_iff.mp y3
        exact lv_tableIn hI.1 hI.2.1 hd y1 y2 y4 y5 (hr _ h3 p e R s m args below meth cd h0 H locs lm hI h01 h11 hR hL hS)
      · exact lv_tableOut hI.1 hI.2.1 hd (hall x h2) hD (hr _ h3 p e R s m args below meth cd h0 H locs lm hI h01 h11 hR hL hS)
    · cases hs
end CL
