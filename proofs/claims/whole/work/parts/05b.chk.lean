/-! String.checkIndex within bounds, as one step -/
section CK
def yCA : MethodName := ⟨"java/lang/String", "checkIndex", "(II)V"⟩
def yCB : MethodName := ⟨"jdk/internal/util/Preconditions", "checkIndex", "(IILjava/util/function/BiFunction;)I"⟩
def rmCB : Room := { frames := 2, cells := 0, slots := 0, locals := 20 }
def rmCA : Room := { frames := 4, cells := 0, slots := 0, locals := 80 }
theorem metCB {l : Launch} {free : Addr → Prop} {x n : Int32} (h1 : ¬ x < 0) (h2 : x < n) : vx_Met l yCB [Cond.code yCB prog_41_method_11_code 3 (some .int)] rmCB (fun v U => ∃ f : Value, (f = .null ∨ ∃ t, f = .ref t) ∧ v = #[.int x, .int n, f])
    (fun _ st oc t => oc = .returned (some (.int x)) ∧ t.heap = st.heap) (fun _ _ _ => False) 0 0 free := by
  refine vx_ofW (cc := prog_41_method_11_code) (maxL := 3) (ret := some .int) (ws' := []) (by decide +kernel) rfl ?_
  intro p e s m args below meth c s₁ Bd hml ht hPc
  obtain ⟨f, hf, rfl⟩ := hPc
  have hx := Bd.exec
  have hb := Bd.bytes
  have hent : entryFrame m #[.int x, .int n, f] 3 = F0 m 0 #[.val (.int x), .val (.int n), .val f] [] := by
    have := lg_entry_eq m [.int x, .int n, f] 3
    rcases hf with rfl | ⟨t, rfl⟩ <;> exact this
  rw [hent]
  refine vx_ret ?_
  refine lv_iload_n (k := 0) (i := 0) (x := x) hx hb (by decide +kernel) rfl rfl ?_
  refine lv_if_lt (off := 8) (tgt := 9) hx hb (by decide +kernel) rfl (fun h => absurd h h1) (fun _ => ?_)
  refine lv_iload_n (k := 0) (i := 0) (x := x) hx hb (by decide +kernel) rfl rfl ?_
  refine lv_iload_n (k := 1) (i := 1) (x := n) hx hb (by decide +kernel) rfl rfl ?_
  refine lv_icmp_lt (off := 10) (tgt := 16) hx hb (by decide +kernel) rfl (fun _ => ?_) (fun h => absurd h2 h)
  refine lv_iload_n (k := 0) (i := 0) (x := x) hx hb (by decide +kernel) rfl rfl ?_
  exact W.iret hx hb Bd.returns (fun t ht _ => ⟨rfl, ht⟩) (fun q hq => by cases hq) (by decide +kernel) Bd.notSynchronized
theorem va_Zq.run {p : Program} {l : Launch} {e : Env} {R : Room} {s : State} {m : MethodId} {args : Array Value} {below : List Frame} {meth : Method} {c : Code} {H : Heap} {locs : List Loc} {cells slots : Nat} {Q : State → Prop} {ls : Array Slot} {pc : Nat} {rest : List Value} {cc : ByteArray} (hexec : p.tables.exec = Jvm.exec) (hb : c.code = cc) {C n d own : String} {index : Nat} {A : Nat → Prop} (hZ : va_Zq C n d A s s.heap) (hS : va_S A s.heap H locs) (hown : s.vm.findClass own = some m.cls) (hlink : (Cond.fieldLink own index C n d).before args s = true) (hdg : decode cc pc = .ok (.getstatic index, 3))
    (kk : ∀ f : Value, (f = .null ∨ ∃ t, f = .ref t) → W p l e R s m args below meth c H locs cells slots Q (F0 m (pc + 3) ls (f :: rest))) : W p l e R s m args below meth c H locs cells slots Q (F0 m pc ls rest) := by
  rcases hZ with hZ | ⟨t, hZ⟩
  · exact va_gets hexec hb hZ hS hown hlink (fun x hx => hx) hdg (kk _ (Or.inl rfl))
  · exact va_gets hexec hb hZ hS hown hlink (fun x hx => hx) hdg (kk _ (Or.inr ⟨t, rfl⟩))
def gapCK (E : EnvP) (U : State) : Prop := (∀ w ∈ lw_tbl, goodWord w = true → ∀ a', w.before a' U = true) ∧ va_Zq "jdk/internal/util/Preconditions" "SIOOBE_FORMATTER" "Ljava/util/function/BiFunction;" (frP E) U U.heap
theorem word_CK {w : Cond} {s : State} (hG : ∀ w ∈ lw_tbl, goodWord w = true → ∀ a', w.before a' s = true) (h1 : w ∈ lw_tbl) (h2 : goodWord w = true) : ∀ w' ∈ [w], ∀ (a' : Array Value) (U : State), s.WarmedH U.vm → w'.before a' U = true := by
  intro w' hw' a' U hW
  rw [List.mem_singleton] at hw'
  subst hw'
  exact word_at hW (good_of_word h2) (hG _ h1 h2 #[])
theorem metCA {l : Launch} {E : EnvP} {x n : Int32} (h1 : ¬ x < 0) (h2 : x < n) : vx_Met l yCA [Cond.code yCA prog_30_method_155_code 2 none] rmCA (fun v U => v = #[.int x, .int n] ∧ gapCK E U)
    (fun _ st oc t => oc = .returned none ∧ t.heap = st.heap) (fun _ _ _ => False) 0 0 (frP E) := by
  refine vx_ofW (cc := prog_30_method_155_code) (maxL := 2) (ret := none) (ws' := []) (by decide +kernel) rfl ?_
  intro p e s m args below meth c s₁ Bd hml ht hPc
  obtain ⟨rfl, hG⟩ := hPc
  have hx := Bd.exec
  have hb := Bd.bytes
  have hent : entryFrame m #[.int x, .int n] 2 = F0 m 0 #[.val (.int x), .val (.int n)] [] := lg_entry_eq m [.int x, .int n] 2
  rw [hent]
  have hown : s.vm.findClass "java/lang/String" = some m.cls := findClass_of_methodNamed Bd.named
  refine vx_ret ?_
  refine lv_iload_n (k := 0) (i := 0) (x := x) hx hb (by decide +kernel) rfl rfl ?_
  refine lv_iload_n (k := 1) (i := 1) (x := n) hx hb (by decide +kernel) rfl rfl ?_
  refine va_Zq.run hx hb hG.2 va_S.rf hown (hG.1 _ w_645 rfl _) (by decide +kernel) (fun f hf => ?_)
  have hrun : vx_Run p l e rmCA s m #[.int x, .int n] below meth c s.heap [] 0 0 0 0 (F0 m 5 #[.val (.int x), .val (.int n)] [f, .int n, .int x]) [] (fun st oc t => oc = .returned (some (.int x)) ∧ t.heap = st.heap) (fun _ _ _ => False) (frP E) :=
    vx_runS (own := "java/lang/String") (index := 1059) (As := [.int x, .int n, f]) (n := 3) (y := yCB) (bytes := prog_41_method_11_code) (maxL := 3) (ret := some .int) (nL := 2) (Ts := []) (cc := prog_30_method_155_code) (rest := []) ⟨hx, hb, hml, hown, fun _ h => by cases h⟩ (metCB h1 h2)
      ⟨⟨rfl, rfl, by decide, by decide, word_CK hG.1 w_950 rfl, List.mem_cons_self, hG.1 _ w_950 rfl _, hG.1 _ w_21 rfl _, ⟨by decide +kernel, by decide +kernel⟩, parm_of (by decide +kernel), hG.1 _ w_948 rfl _⟩, hG.1 _ w_949 rfl _⟩
      ⟨fun a U g mk q => q, fun U _ _ => ⟨f, hf, rfl⟩⟩ rfl rfl rfl rfl (lv_room (by decide)) (show decode prog_30_method_155_code 5 = .ok (.invokestatic 1059, 3) by decide +kernel) (by decide)
  intro T hT X
  rcases hrun T hT X with ⟨v, st₀, t, T', L, h0, X', hL, e1, e2, hq, st⟩ | ⟨q, st₀, t, T', L, E9, ce, h0, X', hL, e1, e2, hx9, hce, hcv, hcl, st⟩
  · obtain ⟨hv, hh⟩ := hq
    injection hv with hv
    subst hv
    have hH : T'.heap = s.heap := by rw [e1, hh, h0]
    have fin : W p l e rmCA s m #[.int x, .int n] below meth c T'.heap ([] ++ L) (0 + 0) (0 + 0) (MQ below (fun _ st oc t => oc = .returned none ∧ t.heap = st.heap) #[.int x, .int n] s 0 0 (frP E)) (F0 m 8 #[.val (.int x), .val (.int n)] [.int x]) := by
      refine lv_pop hx hb (by decide +kernel) rfl ?_
      exact W.vret hx hb Bd.returns (fun t ht _ => ⟨rfl, ht.trans hH⟩) (fun q hq => hL q (by simpa using hq)) (by decide +kernel) Bd.notSynchronized
    obtain ⟨t2, a1, b1⟩ := fin T' rfl X'
    exact ⟨t2, st t2 a1, b1⟩
  · exact hx9.elim
def k_chk : List Value → HeapP → Option (Option HeapP × List Value) := fun st h => match st with
  | .int n :: .int x :: st => bif Nat.ble (st.map fun v => v.category).sum 8 then (if ¬ x < 0 ∧ x < n then some (some h, st) else none) else none
  | _ => none
variable {B : BigP} {I : Nat → InfP} {i : InfP} {pc nx : Nat}
theorem g_chk {idx : Nat} (hd : decode i.2.1 pc = .ok (.invokestatic idx, 3)) (hn : pc + 3 = nx) (hw1 : Cond.methodLink i.1.cls idx yCA ∈ lw_tbl) : GdP B I i pc (s_wr k_chk nx) := by
  subst hn
  refine ⟨fun ls st h rec call q hg _ hs => ?_, fun d ls st h o h1 rec call hg hr hc hs => ?_⟩
  · unfold s_wr k_chk at hs
    split at hs
    · rename_i o st' hk
      split at hk
      · rename_i n x st9
        cases hcat : Nat.ble (st9.map fun v => v.category).sum 8 with
        | false => rw [hcat] at hk; cases hk
        | true =>
          rw [hcat, cond_true] at hk
          split at hk
          · injection hk with hk; injection hk with q1 q2; subst q1; exact hg _ q hs
          · cases hk
      · cases hk
    · cases hs
  · unfold s_wr k_chk at hs
    split at hs
    · rename_i o9 st' hk
      split at hk
      · rename_i n x st9
        cases hcat : Nat.ble (st9.map fun v => v.category).sum 8 with
        | false => rw [hcat] at hk; cases hk
        | true =>
          rw [hcat, cond_true] at hk
          split at hk
          · rename_i hc9
            injection hk with hk; injection hk with q1 q2; subst q1; subst q2
            have hv := hr (pc + 3, ls, st9, h) hs
            have hle : hleP h h1 := hg (pc + 3, ls, st9, h) _ hs
            intro p e R s m args below meth cd h0 H locs lm hI h01 h11 hR hL hS
            obtain ⟨i1, i2, i3, i4, i5, i6, i7, i8, i9, i10, i11, i12, i13, i14⟩ := id hI
            have z1 : h0.1 ≤ h.1 := h01.1
            have z2 : h0.2.1 ≤ h.2.1 := h01.2
            have hrun : vx_Run p B.2.2.2 e R s m args below meth cd H locs (h.1 - h0.1) (h.2.1 - h0.2.1) 0 0 (F0 m pc lm ((Value.int n :: .int x :: st9).map (vmP (bE B)))) (st9.map (vmP (bE B))) (fun st oc t => oc = .returned none ∧ t.heap = st.heap) (fun _ _ _ => False) (frP (bE B)) :=
              vx_runS (own := i.1.cls) (index := idx) (As := [.int x, .int n]) (n := 2) (y := yCA) (bytes := prog_30_method_155_code) (maxL := 2) (ret := none) (nL := lm.size) (Ts := []) ⟨i1, i2, by rw [i3]; exact hL.1.1.symm, i6, fun _ h => by cases h⟩ (metCA (E := bE B) hc9.1 hc9.2)
                ⟨⟨rfl, rfl, by show 4 + 1 ≤ R.frames; omega, by show 8 + (2 + 11) + 80 ≤ R.locals; omega, word_CK i9.2.1 w_947 rfl, List.mem_cons_self, i9.2.1 _ w_947 rfl _, i9.2.1 _ w_init_String rfl _, ⟨by decide +kernel, by decide +kernel⟩, parm_of (by decide +kernel), i9.2.1 _ hw1 rfl _⟩, i9.2.1 _ w_946 rfl _⟩
                ⟨fun a U g mk h => ⟨h.1, fun w hw hg' a' => word_at (U := U.calling g mk a) (State.WarmedH.refl U) (good_of_word hg') (h.2.1 w hw hg' a'), (va_Zq.moved (U := U.calling g mk a) (State.WarmedH.refl U).alike h.2.2)⟩, fun U hU hW => ⟨rfl, fun w hw hg' a' => word_at hW (good_of_word hg') (i9.2.1 w hw hg' a'), by
                  have hz := GamP.moved (H1 := U.heap) i9 hW (by rw [hU]; exact hS.1) (fun q hq => by rw [hU]; exact hS.2.1 q (Nat.lt_of_lt_of_le hq i9.2.2.2.1) (Nat.not_le.mpr hq))
                  exact hz.2.2.2.2.2.2.2.2.2.2.2.2⟩⟩
                rfl rfl rfl rfl (lv_room (by rw [cat_map]; exact Nat.le_of_ble_eq_true hcat)) hd ⟨by show h.1 - h0.1 + 0 ≤ R.cells; have := hle.1; omega, by show h.2.1 - h0.2.1 + 0 ≤ R.slots; have := hle.2; omega⟩
            intro T hT X
            rcases hrun T hT X with ⟨v, st₀, t, T', L, h0', X', hL', e1, e2, hq, st⟩ | ⟨q, st₀, t, T', L, E9, ce, h0', X', hL', e1, e2, hx9, hce, hcv, hcl, st⟩
            · obtain ⟨hv9, hh⟩ := hq
              injection hv9 with hv9
              subst hv9
              have hH : T'.heap = H := by rw [e1, hh, h0']
              have hS1 : va_S (frP (bE B)) s.heap T'.heap (locs ++ L) := by
                rw [hH]
                refine ⟨hS.1, hS.2.1, fun q hq => ?_⟩
                rcases List.mem_append.mp hq with z | z
                · exact hS.2.2 q z
                · exact hL' q z
              obtain ⟨t2, a1, b1⟩ := hv p e R s m args below meth cd h0 T'.heap (locs ++ L) lm hI h01 h11 (by rw [hH]; exact hR) hL hS1 T' rfl X'
              exact ⟨t2, st t2 a1, b1⟩
            · exact hx9.elim
          · cases hk
      · cases hk
    · cases hs
end CK
