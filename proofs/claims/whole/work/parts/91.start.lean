/-! TOP, the start -/
def h0P (L : Nat) (xs : Nat → Int32) : HeapP := (16, 0, fun q => if q = 0 then some (pI 9 L xs) else none)
/-- what is left to be shown, without any machine -/
def RunsP (L : Nat) (xs : Nat → Int32) : Prop := ∃ h1, runP MP 1000 368 (entP 8 [.ref 0] (h0P L xs)) = some (Sum.inl (some (.int 1)), h1) ∧ h1.1 ≤ 16 + 601024 ∧ h1.2.1 ≤ 7293034
def top_At (p : Program) (s : State) (m : MethodId) (meth : Method) (c : Code) (b L : Nat) (xs : Nat → Int32) : Prop := lw_At p s m meth c b L xs ∧ meth.name = "law" ∧ c.exceptionTable.toList = []
theorem top_start {p : Program} {e : Env} {s : State} {m : MethodId} {below : List Frame} {meth : Method} {c : Code} (l : Launch) (hflags : l.flags = flags0) {b L : Nat} {xs : Nat → Int32} (C0 : top_At p s m meth c b L xs) (hrun : RunsP L xs) : W p l e room_1 s m #[Value.ref b] below meth c s.heap [] 0 0 (lw_Z below #[Value.ref b] s) (entryFrame m ([Value.ref b] : List Value).toArray 8) := by
  obtain ⟨C1, hname, htab⟩ := C0
  obtain ⟨E, e1, e2, e3, e4, hG⟩ := top_gam C1
  obtain ⟨c1, c2, c3, c4, c5, -, -, c8, c9, -⟩ := C1
  obtain ⟨h1, hr, hc, hs⟩ := hrun
  have hst : l.stackTraces = false := by unfold Launch.stackTraces; rw [hflags]; decide +kernel
  have hv := (sound_run (B := (SRl, MRl, E, l)) (I := IP) (tab_ok (fun q hq => hq) (fun q hq => hq) hst) hr)
  obtain ⟨hv, hle⟩ := hv
  have ie : IP 368 = ip_368 := rfl
  rw [ie] at hv
  have hle : hleP (h0P L xs) h1 := hle
  rw [lg_entry_eq]
  have hl9 : (lg_sl [Value.ref b]).length ≤ 8 := (show 1 ≤ 8 by decide)
  have hlv := lv_entry [Value.ref b] (n := 8) hl9
  generalize (lg_sl [Value.ref b] ++ List.replicate (8 - (lg_sl [Value.ref b]).length) Slot.unset).toArray = lm at hlv ⊢
  have hL : locR E lm 8 (entL [.ref 0] ++ List.replicate (8 - (entL [.ref 0]).length) none) := by
    refine ⟨?_, by decide⟩
    rw [lcA_ent]
    show lv_has lm 8 (lv_args 0 [Value.ref (adP E 0)])
    have : adP E 0 = b := by unfold adP; rw [if_pos (by decide)]; exact e4
    rw [this]; exact hlv
  have hR : repP E (h0P L xs) s.heap := by
    refine ⟨by rw [e1]; rfl, Nat.le_refl _, fun k c hk => Or.inl ?_⟩
    have hk : (if k = 0 then some (pI 9 L xs) else none) = some c := hk
    split at hk
    · rename_i h9
      cases hk
      exact ⟨h9, by rw [e2, e3]⟩
    · cases hk
  have hw := hv p e room_1 s m #[Value.ref b] below meth c (h0P L xs) s.heap [] lm ⟨c1, c2, c4, c3, c9, c5, hname, htab, hG, by decide, by decide, by show h1.1 - 16 ≤ 601024; omega, by show h1.2.1 - 0 ≤ 7293034; omega, hst⟩ hleP.rfl' hle hR hL va_S.rf
  intro T hT X
  have hw : W p l e room_1 s m #[Value.ref b] below meth c s.heap [] (16 - 16) (0 - 0) (endP (SRl, MRl, E, l) below #[Value.ref b] s (Sum.inl (some (.int 1))) (h0P L xs) h1) (F0 m 0 lm []) := hw
  obtain ⟨t, a1, o, b1, b2, b3⟩ := hw T hT X
  refine ⟨t, a1, o, b1, b2, ?_⟩
  rcases b3 with ⟨hq, LL, hF, hfree⟩ | hx
  · obtain ⟨⟨v, ho, hov⟩, -, -⟩ := hq
    injection ho with ho
    subst ho
    have hov : o = .returned (some (.int 1)) := hov
    subst hov
    obtain ⟨-, hW, hsm⟩ := hF
    have e1 : eB E = s.heap.size := e1
    refine ⟨rfl, ⟨_, rfl⟩, hW, hsm.weaken (fun x hx hlt => ?_) (by show h1.1 - 16 ≤ 601024; omega) (by show h1.2.1 - 0 ≤ 7293034; omega)⟩
    have hf9 : eB E ≤ x.base := hfree x hx
    rw [e1] at hf9
    exact absurd hlt (Nat.not_lt.mpr hf9)
  · obtain ⟨q9, -, E9, ce9, L9, hx9, -⟩ := hx
    obtain ⟨⟨k9, hk9, -⟩, -, -⟩ := hx9
    cases hk9
