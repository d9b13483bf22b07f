/-! CODES: jdk. Written by wip/whole/gen_code.py -/
def LkOk (B : BigP) (i : InfP) (L : List (Nat × SemP)) : Prop := ∀ pc s, lkP L pc = some s → GdP B IP i pc s
theorem LkOk.nil {B : BigP} {i : InfP} : LkOk B i [] := fun _ _ h => by cases h
theorem LkOk.cons {B : BigP} {i : InfP} {a : Nat} {s : SemP} {L : List (Nat × SemP)} (h : GdP B IP i a s) (t : LkOk B i L) : LkOk B i ((a, s) :: L) := by
  intro pc s' hs
  rw [lkP] at hs
  cases hb : Nat.beq a pc with
  | true =>
    rw [hb] at hs
    have e := Nat.eq_of_beq_eq_true hb
    subst e
    cases hs
    exact h
  | false => rw [hb] at hs; exact t pc s' hs
def AlOk (B : BigP) : List (Nat × Option Nat × List (Nat × SemP)) → List InfP → Prop
  | [], [] => True
  | q :: qs, i :: is => (q.1 = i.2.2.1 ∧ q.2.1 = i.2.2.2.2.2 ∧ plainName i.1.cls = true ∧ LkOk B i q.2.2) ∧ AlOk B qs is
  | _, _ => False
theorem AlOk.at {B : BigP} : ∀ {qs : List (Nat × Option Nat × List (Nat × SemP))} {is : List InfP} {j : Nat} {q : Nat × Option Nat × List (Nat × SemP)} {z : InfP}, AlOk B qs is → qs[j]? = some q → q.1 = (is.getD j z).2.2.1 ∧ q.2.1 = (is.getD j z).2.2.2.2.2 ∧ plainName (is.getD j z).1.cls = true ∧ LkOk B (is.getD j z) q.2.2 := by
  intro qs
  induction qs with
  | nil => intro is j q z h hq; simp at hq
  | cons a qs ih =>
    intro is j q z h hq
    cases is with
    | nil => exact h.elim
    | cons i is =>
      obtain ⟨h1, h2⟩ := h
      cases j with
      | zero =>
        simp only [List.getElem?_cons_zero, Option.some.injEq] at hq
        subst hq
        exact h1
      | succ j =>
        rw [List.getElem?_cons_succ] at hq
        have r := ih (is := is) (j := j) (z := z) h2 hq
        rw [List.getD_cons_succ]
        exact r
section WR
variable {B : BigP} {i j : InfP} {pc nx : Nat} {I : Nat → InfP}
theorem tsw_all (t : List (Int32 × Nat)) (lo hi : Int) (h : (List.range (hi - lo + 1).toNat).all (fun k => t.any (fun a => decide (a.1.toInt = lo + k))) = true) : ∀ x : Int32, (∀ a ∈ t, a.1 ≠ x) → x.toInt < lo ∨ hi < x.toInt := by
  intro x hx
  by_cases h1 : x.toInt < lo
  · exact Or.inl h1
  by_cases h2 : hi < x.toInt
  · exact Or.inr h2
  exfalso
  have h3 : (x.toInt - lo).toNat ∈ List.range (hi - lo + 1).toNat := by rw [List.mem_range]; omega
  have h4 := List.all_eq_true.mp h _ h3
  obtain ⟨a, ha, hb⟩ := List.any_eq_true.mp h4
  have hb := of_decide_eq_true hb
  have e : a.1.toInt = x.toInt := by omega
  exact hx a ha (Int32.toInt_inj.mp e)
theorem g_S {m idx np : Nat} {hs : List (Nat × Nat × Nat)} {kt : LocP → List Value → RetP} (hI : I m = j) (hd : decode i.2.1 pc = .ok (.invokestatic idx, 3)) (hn : pc + 3 = nx) (hm : metW j i.1.cls idx np) (h0 : j.2.2.2.2.1 = []) (h1 : Cond.methodLink i.1.cls idx j.1 ∈ lw_tbl) (h2 : Cond.static j.1 ∈ lw_tbl) (h30 : j.2.2.1 ≤ 30) (hk : retOk nx kt) (hh : okHs i pc i.2.2.2.2.1 hs) : GdP B I i pc (s_call m np hs kt) := by
  subst hI; exact g_callW hk hn (rowC_S hd hm h0 h1 h2) h30 hh
theorem g_SX {m idx np : Nat} {hs : List (Nat × Nat × Nat)} {kt : LocP → List Value → RetP} (hI : I m = j) (hd : decode i.2.1 pc = .ok (.invokestatic idx, 3)) (hn : pc + 3 = nx) (hm : metW j i.1.cls idx np) (h0 : codeW j = .codeWith j.1 j.2.1 j.2.2.1 j.2.2.2.1 j.2.2.2.2.1) (h1 : Cond.methodLink i.1.cls idx j.1 ∈ lw_tbl) (h2 : Cond.static j.1 ∈ lw_tbl) (h30 : j.2.2.1 ≤ 30) (hk : retOk nx kt) (hh : okHs i pc i.2.2.2.2.1 hs) : GdP B I i pc (s_call m np hs kt) := by
  subst hI; exact g_callW hk hn (rowC_SX hd hm h0 h1 h2) h30 hh
theorem g_V {m idx np ci N : Nat} {T : u_T} {hs : List (Nat × Nat × Nat)} {kt : LocP → List Value → RetP} (hI : I m = j) (hd : decode i.2.1 pc = .ok (.invokevirtual idx, 3)) (hn : pc + 3 = nx) (hm : metW j i.1.cls idx np) (h0 : j.2.2.2.2.1 = []) (hrc : j.2.2.2.2.2 = some ci) (hci : Nat.beq ci 100 = false) (hc : clsP[ci]? = some (j.1.cls, T, N)) (h1 : Cond.methodLink i.1.cls idx j.1 ∈ lw_tbl) (h2 : Cond.instanceMethod j.1 ∈ lw_tbl) (h3 : Cond.selects j.1.cls j.1 j.1 ∈ lw_tbl) (h30 : j.2.2.1 ≤ 30) (hk : retOk nx kt) (hh : okHs i pc i.2.2.2.2.1 hs) : GdP B I i pc (s_call m (np + 1) hs kt) := by
  subst hI; exact g_callW hk hn (rowC_V hd hm h0 hrc hci hc h1 h2 h3) h30 hh
theorem g_VS {m idx np : Nat} {hs : List (Nat × Nat × Nat)} {kt : LocP → List Value → RetP} (hI : I m = j) (hd : decode i.2.1 pc = .ok (.invokevirtual idx, 3)) (hn : pc + 3 = nx) (hm : metW j i.1.cls idx np) (h0 : j.2.2.2.2.1 = []) (hrc : j.2.2.2.2.2 = some 100) (hC : j.1.cls = "java/lang/String") (h1 : Cond.methodLink i.1.cls idx j.1 ∈ lw_tbl) (h2 : Cond.instanceMethod j.1 ∈ lw_tbl) (h3 : Cond.selects j.1.cls j.1 j.1 ∈ lw_tbl) (h30 : j.2.2.1 ≤ 30) (hk : retOk nx kt) (hh : okHs i pc i.2.2.2.2.1 hs) : GdP B I i pc (s_call m (np + 1) hs kt) := by
  subst hI; exact g_callW hk hn (rowC_VS hd hm h0 hrc hC h1 h2 h3) h30 hh
theorem g_Ini {m idx np : Nat} {hs : List (Nat × Nat × Nat)} {kt : LocP → List Value → RetP} (hI : I m = j) (hd : decode i.2.1 pc = .ok (.invokespecial idx, 3)) (hn : pc + 3 = nx) (hm : metW j i.1.cls idx np) (h0 : j.2.2.2.2.1 = []) (hr0 : j.2.2.2.1 = none) (hy1 : j.1.name = "<init>") (hrc : ∃ ci, j.2.2.2.2.2 = some ci) (h1 : Cond.methodLink i.1.cls idx j.1 ∈ lw_tbl ∨ ∃ host, Cond.methodLinkNest i.1.cls idx j.1 host ∈ lw_tbl) (h2 : Cond.instanceMethod j.1 ∈ lw_tbl) (h30 : j.2.2.1 ≤ 30) (hk : retOk nx kt) (hh : okHs i pc i.2.2.2.2.1 hs) : GdP B I i pc (s_call m (np + 1) hs kt) := by
  subst hI; exact g_callW hk hn (rowC_I hd hm h0 hr0 hy1 hrc h1 h2) h30 hh
def retB (v : Int32) (h : HeapP) : ResP := if narrow .byte (.int v) = .int v then some (Sum.inl (some (.int v)), h) else none
def s_bret : SemP := fun _ st h => match st with
  | [.int v] => xHalt (retB v h)
  | _ => xHalt none
theorem g_bret (hd : decode i.2.1 pc = .ok (.ireturn, 1)) (hr : i.2.2.2.1 = some .byte) : GdP B I i pc s_bret := by
  refine g_halt fun ls st h => ?_
  unfold s_bret
  split
  · rename_i v
    refine ⟨_, rfl, fun q hq => ?_⟩
    unfold retB at hq
    split at hq
    · rename_i hv
      cases hq
      refine ⟨rfl, fun d => ?_⟩
      intro p e R s m args below meth cd h0 H locs lm hI h01 h11 hR hL hS
      obtain ⟨i1, i2, i3, i4, i5, i6, i7, i8, i9, i10⟩ := id hI
      exact vx_ret (W.zret i1 i2 (by rw [i4, hr]) hv (fun t ht hW => ⟨⟨_, rfl, rfl⟩, by rw [ht]; exact hR, keptP_of hS i9 ht⟩) hS.2.2 hd i5)
    · cases hq
  · exact ⟨none, rfl, fun q hq => by cases hq⟩
end WR

section CD0
set_option maxRecDepth 100000
def c_0_0 : List (Nat × SemP) := (0, s_pure (k_push (.int 0)) 1) :: (1, s_pure (k_istore 2) 2) :: (2, s_pure (k_aload 0) 3) :: (3, s_rI k_alen 4) :: (4, s_pure (k_istore 3) 5) :: (5, s_pure (k_iload 2) 6) :: (6, s_pure (k_iload 3) 7) :: (7, s_if2 (fun x y => decide (y ≤ x)) 20 10) :: (10, s_pure (k_aload 0) 11) :: (11, s_pure (k_iload 2) 12) :: (12, s_pure (k_iload 1) 13) :: (13, s_wr k_astI 14) :: (14, s_pure (k_iinc 2 1) 17) :: (17, s_pure (fun ls st => some (ls, st)) 5) :: (20, s_vret) :: []
theorem t_0_0 {B : BigP} (hSR : SRok B) (hMR : MRok B) : LkOk B ip_0 c_0_0 := (LkOk.cons (g_iconst (n := 0) (by decide +kernel) rfl (by decide +kernel)) (LkOk.cons (g_istore_n (k := 2) (by decide +kernel) rfl rfl) (LkOk.cons (g_aload_n (k := 0) (by decide +kernel) rfl rfl) (LkOk.cons (g_alen (by decide +kernel) rfl) (LkOk.cons (g_istore_n (k := 3) (by decide +kernel) rfl rfl) (LkOk.cons (g_iload_n (k := 2) (by decide +kernel) rfl rfl) (LkOk.cons (g_iload_n (k := 3) (by decide +kernel) rfl rfl) (LkOk.cons (g_icmpge (off := 13) (by decide +kernel) rfl rfl) (LkOk.cons (g_aload_n (k := 0) (by decide +kernel) rfl rfl) (LkOk.cons (g_iload_n (k := 2) (by decide +kernel) rfl rfl) (LkOk.cons (g_iload_n (k := 1) (by decide +kernel) rfl rfl) (LkOk.cons (g_iast (by decide +kernel) rfl) (LkOk.cons (g_iinc (n := 2) (z := 1) (by decide +kernel) rfl (by decide +kernel)) (LkOk.cons (g_goto (off := -12) (by decide +kernel) rfl) (LkOk.cons (g_vret (by decide +kernel) rfl) (LkOk.nil))))))))))))))))
def c_1_0 : List (Nat × SemP) := (0, s_pure (k_push (.int 0)) 1) :: (1, s_pure (k_istore 3) 2) :: (2, s_pure (k_aload 0) 3) :: (3, s_rI k_alen 4) :: (4, s_pure (k_istore 4) 6) :: (6, s_pure (k_iload 3) 7) :: (7, s_pure (k_iload 4) 9) :: (9, s_if2 (fun x y => decide (y ≤ x)) 22 12) :: (12, s_pure (k_aload 0) 13) :: (13, s_pure (k_iload 3) 14) :: (14, s_pure (k_lload 1) 15) :: (15, s_wr k_astJ 16) :: (16, s_pure (k_iinc 3 1) 19) :: (19, s_pure (fun ls st => some (ls, st)) 6) :: (22, s_vret) :: []
theorem t_1_0 {B : BigP} (hSR : SRok B) (hMR : MRok B) : LkOk B ip_1 c_1_0 := (LkOk.cons (g_iconst (n := 0) (by decide +kernel) rfl (by decide +kernel)) (LkOk.cons (g_istore_n (k := 3) (by decide +kernel) rfl rfl) (LkOk.cons (g_aload_n (k := 0) (by decide +kernel) rfl rfl) (LkOk.cons (g_alen (by decide +kernel) rfl) (LkOk.cons (g_istore (n := 4) (by decide +kernel) rfl) (LkOk.cons (g_iload_n (k := 3) (by decide +kernel) rfl rfl) (LkOk.cons (g_iload (n := 4) (by decide +kernel) rfl) (LkOk.cons (g_icmpge (off := 13) (by decide +kernel) rfl rfl) (LkOk.cons (g_aload_n (k := 0) (by decide +kernel) rfl rfl) (LkOk.cons (g_iload_n (k := 3) (by decide +kernel) rfl rfl) (LkOk.cons (g_lload_n (k := 1) (by decide +kernel) rfl rfl) (LkOk.cons (g_astJ (by decide +kernel) rfl) (LkOk.cons (g_iinc (n := 3) (z := 1) (by decide +kernel) rfl (by decide +kernel)) (LkOk.cons (g_goto (off := -13) (by decide +kernel) rfl) (LkOk.cons (g_vret (by decide +kernel) rfl) (LkOk.nil))))))))))))))))
def c_2_0 : List (Nat × SemP) := (0, s_pure (k_iload 1) 1) :: (1, s_pure (k_iload 2) 2) :: (2, s_if2 (fun x y => decide (x ≤ y)) 46 5) :: (46, s_pure (k_iload 1) 47) :: (47, s_if1 (fun x => decide (0 ≤ x)) 59 50) :: (59, s_pure (k_iload 2) 60) :: (60, s_pure (k_iload 0) 61) :: (61, s_if2 (fun x y => decide (x ≤ y)) 73 64) :: (73, s_vret) :: []
theorem t_2_0 {B : BigP} (hSR : SRok B) (hMR : MRok B) : LkOk B ip_2 c_2_0 := (LkOk.cons (g_iload_n (k := 1) (by decide +kernel) rfl rfl) (LkOk.cons (g_iload_n (k := 2) (by decide +kernel) rfl rfl) (LkOk.cons (g_icmple (off := 44) (by decide +kernel) rfl rfl) (LkOk.cons (g_iload_n (k := 1) (by decide +kernel) rfl rfl) (LkOk.cons (g_ifge (off := 12) (by decide +kernel) rfl rfl) (LkOk.cons (g_iload_n (k := 2) (by decide +kernel) rfl rfl) (LkOk.cons (g_iload_n (k := 0) (by decide +kernel) rfl rfl) (LkOk.cons (g_icmple (off := 12) (by decide +kernel) rfl rfl) (LkOk.cons (g_vret (by decide +kernel) rfl) (LkOk.nil))))))))))
def c_3_0 : List (Nat × SemP) := (0, s_pure (k_aload 0) 1) :: (1, s_rI k_alen 2) :: (2, s_pure (k_iload 1) 3) :: (3, s_pure (k_iload 2) 4) :: (4, s_call 2 3 [] (r_V 7) ) :: (7, s_pure (k_iload 1) 8) :: (8, s_pure (k_istore 5) 10) :: (10, s_pure (k_iload 5) 12) :: (12, s_pure (k_iload 2) 13) :: (13, s_if2 (fun x y => decide (y ≤ x)) 27 16) :: (16, s_pure (k_aload 0) 17) :: (17, s_pure (k_iload 5) 19) :: (19, s_pure (k_lload 3) 20) :: (20, s_wr k_astJ 21) :: (21, s_pure (k_iinc 5 1) 24) :: (24, s_pure (fun ls st => some (ls, st)) 10) :: (27, s_vret) :: []
theorem t_3_0 {B : BigP} (hSR : SRok B) (hMR : MRok B) : LkOk B ip_3 c_3_0 := (LkOk.cons (g_aload_n (k := 0) (by decide +kernel) rfl rfl) (LkOk.cons (g_alen (by decide +kernel) rfl) (LkOk.cons (g_iload_n (k := 1) (by decide +kernel) rfl rfl) (LkOk.cons (g_iload_n (k := 2) (by decide +kernel) rfl rfl) (LkOk.cons (g_S (idx := 13) ie_2 (by decide +kernel) rfl mw_2 rfl w_508 w_509 (by decide) retOk_V trivial) (LkOk.cons (g_iload_n (k := 1) (by decide +kernel) rfl rfl) (LkOk.cons (g_istore (n := 5) (by decide +kernel) rfl) (LkOk.cons (g_iload (n := 5) (by decide +kernel) rfl) (LkOk.cons (g_iload_n (k := 2) (by decide +kernel) rfl rfl) (LkOk.cons (g_icmpge (off := 14) (by decide +kernel) rfl rfl) (LkOk.cons (g_aload_n (k := 0) (by decide +kernel) rfl rfl) (LkOk.cons (g_iload (n := 5) (by decide +kernel) rfl) (LkOk.cons (g_lload_n (k := 3) (by decide +kernel) rfl rfl) (LkOk.cons (g_astJ (by decide +kernel) rfl) (LkOk.cons (g_iinc (n := 5) (z := 1) (by decide +kernel) rfl (by decide +kernel)) (LkOk.cons (g_goto (off := -14) (by decide +kernel) rfl) (LkOk.cons (g_vret (by decide +kernel) rfl) (LkOk.nil))))))))))))))))))
def c_4_1 : List (Nat × SemP) := (51, s_pure (k_ibin (fun x y => x &&& y)) 52) :: (52, s_iret) :: []
def c_4_0 : List (Nat × SemP) := (0, s_pure (k_iload 0) 1) :: (1, s_pure (k_iload 0) 2) :: (2, s_pure (k_push (.int 1)) 3) :: (3, s_pure (k_ibin o_iushr) 4) :: (4, s_pure (k_push (.int 1431655765)) 7) :: (7, s_pure (k_ibin (fun x y => x &&& y)) 8) :: (8, s_pure (k_ibin (fun x y => x - y)) 9) :: (9, s_pure (k_istore 0) 10) :: (10, s_pure (k_iload 0) 11) :: (11, s_pure (k_push (.int 858993459)) 14) :: (14, s_pure (k_ibin (fun x y => x &&& y)) 15) :: (15, s_pure (k_iload 0) 16) :: (16, s_pure (k_push (.int 2)) 17) :: (17, s_pure (k_ibin o_iushr) 18) :: (18, s_pure (k_push (.int 858993459)) 21) :: (21, s_pure (k_ibin (fun x y => x &&& y)) 22) :: (22, s_pure (k_ibin (fun x y => x + y)) 23) :: (23, s_pure (k_istore 0) 24) :: (24, s_pure (k_iload 0) 25) :: (25, s_pure (k_iload 0) 26) :: (26, s_pure (k_push (.int 4)) 27) :: (27, s_pure (k_ibin o_iushr) 28) :: (28, s_pure (k_ibin (fun x y => x + y)) 29) :: (29, s_pure (k_push (.int 252645135)) 32) :: (32, s_pure (k_ibin (fun x y => x &&& y)) 33) :: (33, s_pure (k_istore 0) 34) :: (34, s_pure (k_iload 0) 35) :: (35, s_pure (k_iload 0) 36) :: (36, s_pure (k_push (.int 8)) 38) :: (38, s_pure (k_ibin o_iushr) 39) :: (39, s_pure (k_ibin (fun x y => x + y)) 40) :: (40, s_pure (k_istore 0) 41) :: (41, s_pure (k_iload 0) 42) :: (42, s_pure (k_iload 0) 43) :: (43, s_pure (k_push (.int 16)) 45) :: (45, s_pure (k_ibin o_iushr) 46) :: (46, s_pure (k_ibin (fun x y => x + y)) 47) :: (47, s_pure (k_istore 0) 48) :: (48, s_pure (k_iload 0) 49) :: (49, s_pure (k_push (.int 63)) 51) :: c_4_1
theorem t_4_1 {B : BigP} (hSR : SRok B) (hMR : MRok B) : LkOk B ip_4 c_4_1 := (LkOk.cons (g_iand (by decide +kernel) rfl) (LkOk.cons (g_iret (by decide +kernel) rfl) (LkOk.nil)))
theorem t_4_0 {B : BigP} (hSR : SRok B) (hMR : MRok B) : LkOk B ip_4 c_4_0 := (LkOk.cons (g_iload_n (k := 0) (by decide +kernel) rfl rfl) (LkOk.cons (g_iload_n (k := 0) (by decide +kernel) rfl rfl) (LkOk.cons (g_iconst (n := 1) (by decide +kernel) rfl (by decide +kernel)) (LkOk.cons (g_iushr (by decide +kernel) rfl) (LkOk.cons (g_ldcw (n := 265) (by decide +kernel) rfl w_1234) (LkOk.cons (g_iand (by decide +kernel) rfl) (LkOk.cons (g_isub (by decide +kernel) rfl) (LkOk.cons (g_istore_n (k := 0) (by decide +kernel) rfl rfl) (LkOk.cons (g_iload_n (k := 0) (by decide +kernel) rfl rfl) (LkOk.cons (g_ldcw (n := 266) (by decide +kernel) rfl w_1235) (LkOk.cons (g_iand (by decide +kernel) rfl) (LkOk.cons (g_iload_n (k := 0) (by decide +kernel) rfl rfl) (LkOk.cons (g_iconst (n := 2) (by decide +kernel) rfl (by decide +kernel)) (LkOk.cons (g_iushr (by decide +kernel) rfl) (LkOk.cons (g_ldcw (n := 266) (by decide +kernel) rfl w_1235) (LkOk.cons (g_iand (by decide +kernel) rfl) (LkOk.cons (g_iadd (by decide +kernel) rfl) (LkOk.cons (g_istore_n (k := 0) (by decide +kernel) rfl rfl) (LkOk.cons (g_iload_n (k := 0) (by decide +kernel) rfl rfl) (LkOk.cons (g_iload_n (k := 0) (by decide +kernel) rfl rfl) (LkOk.cons (g_iconst (n := 4) (by decide +kernel) rfl (by decide +kernel)) (LkOk.cons (g_iushr (by decide +kernel) rfl) (LkOk.cons (g_iadd (by decide +kernel) rfl) (LkOk.cons (g_ldcw (n := 267) (by decide +kernel) rfl w_1236) (LkOk.cons (g_iand (by decide +kernel) rfl) (LkOk.cons (g_istore_n (k := 0) (by decide +kernel) rfl rfl) (LkOk.cons (g_iload_n (k := 0) (by decide +kernel) rfl rfl) (LkOk.cons (g_iload_n (k := 0) (by decide +kernel) rfl rfl) (LkOk.cons (g_bipush (n := 8) (by decide +kernel) rfl (by decide +kernel)) (LkOk.cons (g_iushr (by decide +kernel) rfl) (LkOk.cons (g_iadd (by decide +kernel) rfl) (LkOk.cons (g_istore_n (k := 0) (by decide +kernel) rfl rfl) (LkOk.cons (g_iload_n (k := 0) (by decide +kernel) rfl rfl) (LkOk.cons (g_iload_n (k := 0) (by decide +kernel) rfl rfl) (LkOk.cons (g_bipush (n := 16) (by decide +kernel) rfl (by decide +kernel)) (LkOk.cons (g_iushr (by decide +kernel) rfl) (LkOk.cons (g_iadd (by decide +kernel) rfl) (LkOk.cons (g_istore_n (k := 0) (by decide +kernel) rfl rfl) (LkOk.cons (g_iload_n (k := 0) (by decide +kernel) rfl rfl) (LkOk.cons (g_bipush (n := 63) (by decide +kernel) rfl (by decide +kernel)) (t_4_1 hSR hMR)))))))))))))))))))))))))))))))))))))))))
def c_5_0 : List (Nat × SemP) := (0, s_rI k_one 3) :: (3, s_if1 (fun x => decide (x = 0)) 13 6) :: (6, s_pure (k_aload 0) 7) :: (7, s_rI k_strC 10) :: (10, s_pure (fun ls st => some (ls, st)) 14) :: (13, s_pure (k_push (.int 1)) 14) :: (14, s_bret) :: []
theorem t_5_0 {B : BigP} (hSR : SRok B) (hMR : MRok B) : LkOk B ip_5 c_5_0 := (LkOk.cons (g_compact (idx := 38) (by decide +kernel) rfl w_667) (LkOk.cons (g_ifeq (off := 10) (by decide +kernel) rfl rfl) (LkOk.cons (g_aload_n (k := 0) (by decide +kernel) rfl rfl) (LkOk.cons (g_strC (idx := 15) (by decide +kernel) rfl w_805) (LkOk.cons (g_goto (off := 4) (by decide +kernel) rfl) (LkOk.cons (g_iconst (n := 1) (by decide +kernel) rfl (by decide +kernel)) (LkOk.cons (g_bret (by decide +kernel) rfl) (LkOk.nil))))))))
def c_6_0 : List (Nat × SemP) := (0, s_rI k_one 3) :: (3, s_if1 (fun x => decide (x = 0)) 17 6) :: (6, s_pure (k_aload 0) 7) :: (7, s_rI k_strC 10) :: (10, s_if1 (fun x => decide (x ≠ 0)) 17 13) :: (13, s_pure (k_push (.int 1)) 14) :: (14, s_pure (fun ls st => some (ls, st)) 18) :: (17, s_pure (k_push (.int 0)) 18) :: (18, s_zret) :: []
theorem t_6_0 {B : BigP} (hSR : SRok B) (hMR : MRok B) : LkOk B ip_6 c_6_0 := (LkOk.cons (g_compact (idx := 38) (by decide +kernel) rfl w_667) (LkOk.cons (g_ifeq (off := 14) (by decide +kernel) rfl rfl) (LkOk.cons (g_aload_n (k := 0) (by decide +kernel) rfl rfl) (LkOk.cons (g_strC (idx := 15) (by decide +kernel) rfl w_805) (LkOk.cons (g_ifne (off := 7) (by decide +kernel) rfl rfl) (LkOk.cons (g_iconst (n := 1) (by decide +kernel) rfl (by decide +kernel)) (LkOk.cons (g_goto (off := 4) (by decide +kernel) rfl) (LkOk.cons (g_iconst (n := 0) (by decide +kernel) rfl (by decide +kernel)) (LkOk.cons (g_zret (by decide +kernel) rfl) (LkOk.nil))))))))))
def c_7_0 : List (Nat × SemP) := (0, s_pure (k_aload 0) 1) :: (1, s_rA k_strV 4) :: (4, s_rI k_strN 5) :: (5, s_pure (k_aload 0) 6) :: (6, s_call 5 1 [] (r_I 9) ) :: (9, s_pure (k_ibin o_ishr) 10) :: (10, s_iret) :: []
theorem t_7_0 {B : BigP} (hSR : SRok B) (hMR : MRok B) : LkOk B ip_7 c_7_0 := (LkOk.cons (g_aload_n (k := 0) (by decide +kernel) rfl rfl) (LkOk.cons (g_strV (idx := 9) (by decide +kernel) rfl w_804) (LkOk.cons (g_strN (by decide +kernel) rfl) (LkOk.cons (g_aload_n (k := 0) (by decide +kernel) rfl rfl) (LkOk.cons (g_VS (idx := 335) ie_5 (by decide +kernel) rfl mw_5 rfl rfl rfl w_663 w_664 w_665 (by decide) retOk_I trivial) (LkOk.cons (g_ishr (by decide +kernel) rfl) (LkOk.cons (g_iret (by decide +kernel) rfl) (LkOk.nil))))))))
def c_8_0 : List (Nat × SemP) := (0, s_pure (k_iload 1) 1) :: (1, s_pure (k_aload 0) 2) :: (2, s_rI k_strN 3) :: (3, s_wr k_chk 6) :: (6, s_pure (k_aload 0) 7) :: (7, s_pure (k_iload 1) 8) :: (8, s_rI k_strB 9) :: (9, s_pure (k_push (.int 255)) 12) :: (12, s_pure (k_ibin (fun x y => x &&& y)) 13) :: (13, s_pure (k_iun (fun x => x.toUInt32.toUInt16.toUInt32.toInt32)) 14) :: (14, s_cret) :: []
theorem t_8_0 {B : BigP} (hSR : SRok B) (hMR : MRok B) : LkOk B ip_8 c_8_0 := (LkOk.cons (g_iload_n (k := 1) (by decide +kernel) rfl rfl) (LkOk.cons (g_aload_n (k := 0) (by decide +kernel) rfl rfl) (LkOk.cons (g_strN (by decide +kernel) rfl) (LkOk.cons (g_chk (idx := 9) (by decide +kernel) rfl w_945) (LkOk.cons (g_aload_n (k := 0) (by decide +kernel) rfl rfl) (LkOk.cons (g_iload_n (k := 1) (by decide +kernel) rfl rfl) (LkOk.cons (g_strB (by decide +kernel) rfl) (LkOk.cons (g_sipush (n := 255) (by decide +kernel) rfl (by decide +kernel)) (LkOk.cons (g_iand (by decide +kernel) rfl) (LkOk.cons (g_i2c (by decide +kernel) rfl) (LkOk.cons (g_cret (by decide +kernel) rfl) (LkOk.nil))))))))))))
def c_9_0 : List (Nat × SemP) := (0, s_pure (k_aload 0) 1) :: (1, s_call 6 1 [] (r_I 4) ) :: (4, s_if1 (fun x => decide (x = 0)) 16 7) :: (7, s_pure (k_aload 0) 8) :: (8, s_rA k_strV 11) :: (11, s_pure (k_iload 1) 12) :: (12, s_call 8 2 [] (r_I 15) ) :: (15, s_cret) :: (16, s_pure (k_aload 0) 17) :: (17, s_rA k_strV 20) :: (20, s_pure (k_iload 1) 21) :: []
theorem t_9_0 {B : BigP} (hSR : SRok B) (hMR : MRok B) : LkOk B ip_9 c_9_0 := (LkOk.cons (g_aload_n (k := 0) (by decide +kernel) rfl rfl) (LkOk.cons (g_VS (idx := 492) ie_6 (by decide +kernel) rfl mw_6 rfl rfl rfl w_938 w_939 w_940 (by decide) retOk_I trivial) (LkOk.cons (g_ifeq (off := 12) (by decide +kernel) rfl rfl) (LkOk.cons (g_aload_n (k := 0) (by decide +kernel) rfl rfl) (LkOk.cons (g_strV (idx := 9) (by decide +kernel) rfl w_804) (LkOk.cons (g_iload_n (k := 1) (by decide +kernel) rfl rfl) (LkOk.cons (g_S (idx := 495) ie_8 (by decide +kernel) rfl mw_8 rfl w_942 w_943 (by decide) retOk_I trivial) (LkOk.cons (g_cret (by decide +kernel) rfl) (LkOk.cons (g_aload_n (k := 0) (by decide +kernel) rfl rfl) (LkOk.cons (g_strV (idx := 9) (by decide +kernel) rfl w_804) (LkOk.cons (g_iload_n (k := 1) (by decide +kernel) rfl rfl) (LkOk.nil))))))))))))
end CD0
