/-! SOUND, part i: the kinds of calls; the induction over all running -/
section VI
variable {p : Program} {l : Launch} {e : Env} {R : Room} {s : State} {m : MethodId} {args : Array Value} {below : List Frame} {meth : Method} {c : Code} {T : State} {H : Heap} {locs : List Loc} {cells slots : Nat}
/-- a constructor's call (own link, or a nest mate's): after vx_callV, callI -/
theorem xi_call (X : Stand p l e R s m args below meth c T locs cells slots) (hexec : p.tables.exec = Jvm.exec) {own : String} {index : Nat} {y : MethodName} {bytes : ByteArray} {maxL : Nat}
    (hown : s.vm.findClass own = some m.cls) (hy1 : y.name = "<init>") (hlink : (Cond.methodLink own index y).before args s = true ∨ ∃ host, (Cond.methodLinkNest own index y host).before args s = true) (hinst : (Cond.instanceMethod y).before args s = true)
    (hcode : (Cond.code y bytes maxL none).before args s = true) (hy : y.cls ≠ "java/lang/invoke/MethodHandle" ∧ y.cls ≠ "java/lang/invoke/VarHandle")
    {W9 : Nat} {Pre : Pt → Array Value → Prop} {Post : Pt → Array Value → Option Value → Pt → Prop} {PostX : Pt → Array Value → Addr → Pt → Prop} (hK : vx_Back l R p e below s args y 3 W9 Pre Post PostX)
    {g : JFrame} (hg : g.method = m) (hsize : g.locals.size = c.maxLocals) {a : Addr} {argsL rest : List Value} (hlen : ∀ sig, parseMethodDescriptor y.desc = some sig → argsL.length = sig.parameters.length)
    (hstack : g.stack = argsL.reverse ++ .ref a :: rest) (hW : 2 * g.monitorRoom + (rest.map fun v => v.category).sum ≤ W9) (hdg : decode c.code g.pc = .ok (.invokespecial index, 3))
    (hpre : ∀ vm₁, s.WarmedH vm₁ → Pre ⟨T.setVm vm₁, locs, cells, slots⟩ (Value.ref a :: argsL).toArray) :
    (∃ (v : Option Value) (vm₁ : Vm) (B : Pt), s.WarmedH vm₁ ∧ Stand p l e R s m args below meth c B.U B.locs B.cells B.slots ∧ Post ⟨T.setVm vm₁, locs, cells, slots⟩ (Value.ref a :: argsL).toArray v B ∧
      ∀ target, Steps p.tables e below (B.U.setTop { g with pc := g.pc + 3, stack := v.toList ++ rest }) target → Steps p.tables e below (T.setTop g) target) ∨
    (∃ (q : Addr) (vm₁ : Vm) (B : Pt), s.WarmedH vm₁ ∧ Stand p l e R s m args below meth c B.U B.locs B.cells B.slots ∧ PostX ⟨T.setVm vm₁, locs, cells, slots⟩ (Value.ref a :: argsL).toArray q B ∧
      Steps p.tables e below (T.setTop g) ((B.U.setTop { g with stack := rest }).pushFrame (.throwing q))) := by
  subst hg
  have hpl : e.platform.magicAccessors = ({} : Platform).magicAccessors := by rw [X.admits.platform]
  obtain ⟨mk, vm₁, hnamed, hW₁, hstep₁⟩ : ∃ (mk : MethodId) (vm₁ : Vm), s.methodNamed? y = some mk ∧ s.WarmedH vm₁ ∧ ∀ target, (∀ acts, Steps p.tables e below (doInvoke e ((T.setVm vm₁).setTop { g with stack := rest }) acts mk (Value.ref a :: argsL).toArray).1 target) → Steps p.tables e below (T.setTop g) target := by
    rcases hlink with hlink | ⟨host, hlink⟩
    · obtain ⟨mk, methM, cM, kP, vm₁, hnamed, hmethM, hcodeM, -, hlocalsM, -, hkP, -, hW₁, hstep₁⟩ := Steps.initColdArgs (e := e) X.here hexec X.warmed hpl hown hy1 hy hlink hinst hcode (f := g) rfl hlen hstack hdg
      exact ⟨mk, vm₁, hnamed, hW₁, hstep₁⟩
    · obtain ⟨mk, methM, cM, kP, vm₁, hnamed, hmethM, hcodeM, -, hlocalsM, -, hkP, -, hW₁, hstep₁⟩ := Steps.initColdArgsNest (e := e) X.here hexec X.warmed hpl hown hy1 hy hlink hinst hcode (f := g) rfl hlen hstack hdg
      exact ⟨mk, vm₁, hnamed, hW₁, hstep₁⟩
  have X₁ := X.noted hW₁
  rcases hK g.method meth c ⟨T.setVm vm₁, locs, cells, slots⟩ { g with stack := rest } (.invokespecial index) mk (Value.ref a :: argsL).toArray X₁ rfl hsize hdg hW (X₁.named hnamed) (hpre vm₁ X₁.warmed) with ⟨v, B, X', hpost, hsteps⟩ | ⟨q, B, X', hpost, hsteps⟩
  · exact Or.inl ⟨v, vm₁, B, X₁.warmed, X', hpost, fun target h => hstep₁ _ fun acts => by rw [doInvoke_state]; exact hsteps.trans h⟩
  · exact Or.inr ⟨q, vm₁, B, X₁.warmed, X', hpost, hstep₁ _ fun acts => by rw [doInvoke_state]; exact hsteps⟩
theorem xi_run {y : MethodName} {bytes cc : ByteArray} {maxL nL mc ms n index : Nat} {ws : List Cond} {rm : Room} {Pc : Array Value → State → Prop} {Qc : Array Value → State → Outcome → State → Prop} {XC : String → State → State → Prop} {free : Addr → Prop} {own : String} {b : Addr} {As rest : List Value} {g : JFrame}
    (hx : p.tables.exec = Jvm.exec) (hb : c.code = cc) (hml : c.maxLocals = nL) (ho : s.vm.findClass own = some m.cls) (hM : vx_Met l y ws rm Pc Qc XC mc ms free) (hrc : rm.cells = mc) (hrs : rm.slots = ms) (hfr : rm.frames + 1 ≤ R.frames) (hlo : 8 + (maxL + 11) + rm.locals ≤ R.locals)
    (hws : ∀ w ∈ ws, ∀ (a' : Array Value) (U : State), s.WarmedH U.vm → w.before a' U = true) (hcw : Cond.code y bytes maxL none ∈ ws) (hcode : (Cond.code y bytes maxL none).before args s = true) (hini : (Cond.initialized y.cls).before args s = true) (hy : y.cls ≠ "java/lang/invoke/MethodHandle" ∧ y.cls ≠ "java/lang/invoke/VarHandle") (hlen : ∀ sig, parseMethodDescriptor y.desc = some sig → n = sig.parameters.length)
    (hl : (Cond.methodLink own index y).before args s = true ∨ ∃ host, (Cond.methodLinkNest own index y host).before args s = true) (hy1 : y.name = "<init>") (hin : (Cond.instanceMethod y).before args s = true) (hp : PreS s H Pc (.ref b :: As))
    (hg : g.method = m) (hn : As.length = n) (hsize : g.locals.size = nL) (hstack : g.stack = As.reverse ++ .ref b :: rest) (hW : 2 * g.monitorRoom + (rest.map fun v => v.category).sum ≤ 8) (hdg : decode cc g.pc = .ok (.invokespecial index, 3)) (hf : cells + mc ≤ R.cells ∧ slots + ms ≤ R.slots) :
    vx_Run p l e R s m args below meth c H locs cells slots mc ms g rest (Qc (Value.ref b :: As).toArray) XC free := by
  have hK : vx_Back l R p e below s args y 3 8 (PreOf R mc ms Pc) (PostOf Qc mc ms free) (vx_Post XC mc ms free) := vx_back (bytes := bytes) (maxL := maxL) (ret := none) hM hp.1 hrc hrs hfr hlo hws hcw (fun a' U hW => word_at hW (Or.inl (by first | rfl | simp [Cond.onTables, Cond.keeps, Cond.steady])) hini)
  intro T hT X
  rcases xi_call X hx (bytes := bytes) (maxL := maxL) ho hy1 hl hin hcode hy hK hg (hsize.trans hml.symm) (a := b) (argsL := As) (rest := rest) (fun sig h => hn.trans (hlen sig h)) hstack hW (by rw [hb]; exact hdg)
    (fun vm₁ hW₁ => ⟨hf.1, hf.2, hp.2 (T.setVm vm₁) hT hW₁⟩) with ⟨v, vm₁, ⟨U', l2, c2, s2⟩, hW₁, X', ⟨g', mk, t, L, e1, e2, hq, h1, hL, h2, h3⟩, st⟩ | ⟨q, vm₁, ⟨U', l2, c2, s2⟩, hW₁, X', ⟨g', mk, t, L, E, ce, e1, e2, hq, hce, hcv, hcl, h1, hL, h2, h3⟩, st⟩
  · dsimp only [Pt.U, Pt.locs, Pt.cells, Pt.slots] at X' e1 e2 h1 h2 h3 st
    subst h1; subst h2; subst h3
    exact Or.inl ⟨v, (T.setVm vm₁).calling g' mk (Value.ref b :: As).toArray, t, U', L, hT, X', hL, e1, e2, hq, st⟩
  · dsimp only [Pt.U, Pt.locs, Pt.cells, Pt.slots] at X' e1 e2 h1 h2 h3 st hcl
    subst h1; subst h2; subst h3
    exact Or.inr ⟨q, (T.setVm vm₁).calling g' mk (Value.ref b :: As).toArray, t, U', L, E, ce, hT, X', hL, e1, e2, hq, hce, hcv, vx_cls hW₁ hcl, st⟩
end VI
section RO
variable {B : BigP} {I : Nat → InfP} {i : InfP} {pc : Nat}
theorem pre_S {as : List Value} {h : HeapP} {s : State} {H : Heap} {locs : List Loc} (hG : GamP B.1 B.2.1 (bE B) s s.heap) (hR : repP (bE B) h H) (hS : va_S (frP (bE B)) s.heap H locs) : PreS s H (PcP B as h) (as.map (vmP (bE B))) :=
  ⟨PcP_blind, fun U hU hW => ⟨rfl, by rw [hU]; exact hR, GamP.moved hG hW (by rw [hU]; exact hS.1) (fun q hq => by rw [hU]; exact hS.2.1 q (Nat.lt_of_lt_of_le hq hG.2.2.2.1) (Nat.not_le.mpr hq))⟩⟩
theorem word_W {w : Cond} {s : State} (hG : GamP B.1 B.2.1 (bE B) s s.heap) (h1 : w ∈ lw_tbl) (h2 : goodWord w = true) : ∀ w' ∈ [w], ∀ (a' : Array Value) (U : State), s.WarmedH U.vm → w'.before a' U = true := by
  intro w' hw' a' U hW
  rw [List.mem_singleton] at hw'
  subst hw'
  exact word_at hW (good_of_word h2) (hG.2.1 _ h1 h2 #[])
theorem codeW_good (i : InfP) : goodWord (codeW i) = true := by
  unfold codeW
  split <;> rfl
/-- what the tables say of a method -/
def metW (i : InfP) (own : String) (idx np : Nat) : Prop := codeW i ∈ lw_tbl ∧ Cond.initialized i.1.cls ∈ lw_tbl ∧ (i.1.cls ≠ "java/lang/invoke/MethodHandle" ∧ i.1.cls ≠ "java/lang/invoke/VarHandle") ∧ (parseMethodDescriptor i.1.desc).map (fun d => d.parameters.length) = some np
theorem parm_of {y : MethodName} {np : Nat} (h : (parseMethodDescriptor y.desc).map (fun d => d.parameters.length) = some np) : ∀ sig, parseMethodDescriptor y.desc = some sig → np = sig.parameters.length := fun sig hs => by
  rw [hs] at h
  exact (Option.some.inj h).symm
theorem rcv_obj {ci : Nat} {as : List Value} {h : HeapP} (hci : Nat.beq ci 100 = false) (hr : rcvP (some ci) as h = true) : ∃ a as' fs, as = .ref a :: as' ∧ h.2.2 a = some (pO ci fs) := by
  cases as with
  | nil => cases hr
  | cons v as =>
    obtain ⟨a, rfl⟩ : ∃ a, v = .ref a := by cases v <;> first | exact ⟨_, rfl⟩ | exact absurd hr Bool.false_ne_true
    have hr : (bif Nat.beq ci 100 then Nat.ble 1 a && Nat.ble a 7 else match h.2.2 a with
      | some (Sum.inl (c, _)) => Nat.beq c ci
      | _ => false) = true := hr
    rw [hci, cond_false] at hr
    split at hr
    · rename_i c fs hc9
      have e9 := Nat.eq_of_beq_eq_true hr
      subst e9
      exact ⟨a, as, fs, rfl, hc9⟩
    · cases hr
theorem rcv_str {as : List Value} {h : HeapP} (hr : rcvP (some 100) as h = true) : ∃ a as', as = .ref a :: as' ∧ 1 ≤ a ∧ a ≤ 7 := by
  cases as with
  | nil => cases hr
  | cons v as =>
    obtain ⟨a, rfl⟩ : ∃ a, v = .ref a := by cases v <;> first | exact ⟨_, rfl⟩ | exact absurd hr Bool.false_ne_true
    have hr : (Nat.ble 1 a && Nat.ble a 7) = true := hr
    rw [Bool.and_eq_true] at hr
    exact ⟨a, as, rfl, Nat.le_of_ble_eq_true hr.1, Nat.le_of_ble_eq_true hr.2⟩
set_option maxRecDepth 20000 in
theorem rowC_V {m idx np ci N : Nat} {T : u_T} (hd : decode i.2.1 pc = .ok (.invokevirtual idx, 3)) (hm : metW (I m) i.1.cls idx np) (h0 : (I m).2.2.2.2.1 = []) (hrc : (I m).2.2.2.2.2 = some ci) (hci : Nat.beq ci 100 = false) (hc : clsP[ci]? = some ((I m).1.cls, T, N)) (hw1 : Cond.methodLink i.1.cls idx (I m).1 ∈ lw_tbl) (hw2 : Cond.instanceMethod (I m).1 ∈ lw_tbl) (hw3 : Cond.selects (I m).1.cls (I m).1 (I m).1 ∈ lw_tbl) : rowC B I i pc m (np + 1) := by
  intro d as rest h h' o p e R s mm args below meth cd H locs cells slots lm hx hb hml ho hG hR hS hmet hrv h30 hf hl hcc hcs hn hcat
  obtain ⟨w1, w2, w3, w4⟩ := hm
  rw [hrc] at hrv
  obtain ⟨a, as', fs, rfl, hc9⟩ := rcv_obj hci hrv
  obtain ⟨r1, r2, r3, r', hr', cell, g1, g2, g3, -⟩ := hR.get hc9 (fun z => by cases z)
  have hcw : codeW (I m) = .code (I m).1 (I m).2.1 (I m).2.2.1 (I m).2.2.2.1 := by unfold codeW; rw [h0]
  have hPS := pre_S (as := .ref a :: as') hG hR hS
  unfold metP at hmet
  refine vx_runV (own := i.1.cls) (C := (I m).1.cls) (b := adP (bE B) a) (As := as'.map (vmP (bE B))) (n := np) (bytes := (I m).2.1) (maxL := (I m).2.2.1) (ret := (I m).2.2.2.1) (nL := lm.size) (Ts := []) ⟨hx, hb, hml, ho, fun _ h => by cases h⟩ hmet
    ⟨⟨rfl, rfl, by show d + 16 + 1 ≤ R.frames; omega, by show 8 + ((I m).2.2.1 + 11) + (64 * d + 512) ≤ R.locals; omega, word_W hG w1 (codeW_good _), by rw [← hcw]; exact List.mem_cons_self, by rw [← hcw]; exact hG.2.1 _ w1 (codeW_good _) _, hG.2.1 _ w2 rfl _, w3, parm_of w4, hG.2.1 _ hw1 rfl _⟩, hG.2.1 _ hw2 rfl _, hG.2.1 _ hw3 rfl _⟩
    ⟨PcP_blind, ⟨cell, g1, by rw [g3]; rfl, by rw [g2]; exact (hG.1.1 ci _ hc).2.1⟩, hPS.2⟩ rfl (by simpa using hn) rfl ?_ (lv_room (by rw [cat_map]; exact hcat)) hd ⟨hcc, hcs⟩
  simp [vmP]
theorem nat_4 (a : Nat) (h1 : 1 ≤ a) (h2 : a ≤ 7) : a - 1 < 7 := by omega
theorem nat_5 (a : Nat) (h2 : a ≤ 7) : a < 16 := by omega
set_option maxRecDepth 20000 in
theorem rowC_VS {m idx np : Nat} (hd : decode i.2.1 pc = .ok (.invokevirtual idx, 3)) (hm : metW (I m) i.1.cls idx np) (h0 : (I m).2.2.2.2.1 = []) (hrc : (I m).2.2.2.2.2 = some 100) (hC : (I m).1.cls = "java/lang/String") (hw1 : Cond.methodLink i.1.cls idx (I m).1 ∈ lw_tbl) (hw2 : Cond.instanceMethod (I m).1 ∈ lw_tbl) (hw3 : Cond.selects (I m).1.cls (I m).1 (I m).1 ∈ lw_tbl) : rowC B I i pc m (np + 1) := by
  intro d as rest h h' o p e R s mm args below meth cd H locs cells slots lm hx hb hml ho hG hR hS hmet hrv h30 hf hl hcc hcs hn hcat
  obtain ⟨w1, w2, w3, w4⟩ := hm
  rw [hrc] at hrv
  obtain ⟨a, as', rfl, a1, a2⟩ := rcv_str hrv
  have e1 := nat_1 a a1
  obtain ⟨cell, g1, g2, g3⟩ := vk_recv (i := a - 1) hG.2.2.2.2.2.1.2.2 (nat_4 a a1 a2) hS
  try dsimp only at g1
  rw [e1] at g1
  have e2 : adP (bE B) a = eK (bE B) a := by unfold adP; rw [if_pos (nat_5 a a2)]
  have hcw : codeW (I m) = .code (I m).1 (I m).2.1 (I m).2.2.1 (I m).2.2.2.1 := by unfold codeW; rw [h0]
  have hPS := pre_S (as := .ref a :: as') hG hR hS
  unfold metP at hmet
  refine vx_runV (own := i.1.cls) (C := (I m).1.cls) (b := adP (bE B) a) (As := as'.map (vmP (bE B))) (n := np) (bytes := (I m).2.1) (maxL := (I m).2.2.1) (ret := (I m).2.2.2.1) (nL := lm.size) (Ts := []) ⟨hx, hb, hml, ho, fun _ h => by cases h⟩ hmet
    ⟨⟨rfl, rfl, by show d + 16 + 1 ≤ R.frames; omega, by show 8 + ((I m).2.2.1 + 11) + (64 * d + 512) ≤ R.locals; omega, word_W hG w1 (codeW_good _), by rw [← hcw]; exact List.mem_cons_self, by rw [← hcw]; exact hG.2.1 _ w1 (codeW_good _) _, hG.2.1 _ w2 rfl _, w3, parm_of w4, hG.2.1 _ hw1 rfl _⟩, hG.2.1 _ hw2 rfl _, hG.2.1 _ hw3 rfl _⟩
    ⟨PcP_blind, ⟨cell, by rw [e2]; exact g1, g2, by rw [hC]; exact g3⟩, hPS.2⟩ rfl (by simpa using hn) rfl ?_ (lv_room (by rw [cat_map]; exact hcat)) hd ⟨hcc, hcs⟩
  simp [vmP]
set_option maxRecDepth 20000 in
theorem rowC_S {m idx np : Nat} (hd : decode i.2.1 pc = .ok (.invokestatic idx, 3)) (hm : metW (I m) i.1.cls idx np) (h0 : (I m).2.2.2.2.1 = []) (hw1 : Cond.methodLink i.1.cls idx (I m).1 ∈ lw_tbl) (hw2 : Cond.static (I m).1 ∈ lw_tbl) : rowC B I i pc m np := by
  intro d as rest h h' o p e R s mm args below meth cd H locs cells slots lm hx hb hml ho hG hR hS hmet hrv h30 hf hl hcc hcs hn hcat
  obtain ⟨w1, w2, w3, w4⟩ := hm
  have hcw : codeW (I m) = .code (I m).1 (I m).2.1 (I m).2.2.1 (I m).2.2.2.1 := by unfold codeW; rw [h0]
  unfold metP at hmet
  refine vx_runS (own := i.1.cls) (As := as.map (vmP (bE B))) (n := np) (bytes := (I m).2.1) (maxL := (I m).2.2.1) (ret := (I m).2.2.2.1) (nL := lm.size) (Ts := []) ⟨hx, hb, hml, ho, fun _ h => by cases h⟩ hmet
    ⟨⟨rfl, rfl, by show d + 16 + 1 ≤ R.frames; omega, by show 8 + ((I m).2.2.1 + 11) + (64 * d + 512) ≤ R.locals; omega, word_W hG w1 (codeW_good _), by rw [← hcw]; exact List.mem_cons_self, by rw [← hcw]; exact hG.2.1 _ w1 (codeW_good _) _, hG.2.1 _ w2 rfl _, w3, parm_of w4, hG.2.1 _ hw1 rfl _⟩, hG.2.1 _ hw2 rfl _⟩
    (pre_S hG hR hS) rfl (by simpa using hn) rfl ?_ (lv_room (by rw [cat_map]; exact hcat)) hd ⟨hcc, hcs⟩
  simp
set_option maxRecDepth 20000 in
theorem rowC_SX {m idx np : Nat} (hd : decode i.2.1 pc = .ok (.invokestatic idx, 3)) (hm : metW (I m) i.1.cls idx np) (h0 : codeW (I m) = .codeWith (I m).1 (I m).2.1 (I m).2.2.1 (I m).2.2.2.1 (I m).2.2.2.2.1) (hw1 : Cond.methodLink i.1.cls idx (I m).1 ∈ lw_tbl) (hw2 : Cond.static (I m).1 ∈ lw_tbl) : rowC B I i pc m np := by
  intro d as rest h h' o p e R s mm args below meth cd H locs cells slots lm hx hb hml ho hG hR hS hmet hrv h30 hf hl hcc hcs hn hcat
  obtain ⟨w1, w2, w3, w4⟩ := hm
  unfold metP at hmet
  refine vx_runSX (own := i.1.cls) (As := as.map (vmP (bE B))) (n := np) (bytes := (I m).2.1) (maxL := (I m).2.2.1) (ret := (I m).2.2.2.1) (hh := (I m).2.2.2.2.1) (nL := lm.size) (Ts := []) ⟨hx, hb, hml, ho, fun _ h => by cases h⟩ hmet
    ⟨⟨rfl, rfl, by show d + 16 + 1 ≤ R.frames; omega, by show 8 + ((I m).2.2.1 + 11) + (64 * d + 512) ≤ R.locals; omega, word_W hG w1 (codeW_good _), by rw [← h0]; exact List.mem_cons_self⟩, by rw [← h0]; exact hG.2.1 _ w1 (codeW_good _) _, hG.2.1 _ w2 rfl _, w3, parm_of w4, hG.2.1 _ hw1 rfl _, hG.2.1 _ hw2 rfl _⟩
    (pre_S hG hR hS) rfl (by simpa using hn) rfl ?_ (lv_room (by rw [cat_map]; exact hcat)) hd ⟨hcc, hcs⟩
  simp
set_option maxRecDepth 20000 in
theorem rowC_I {m idx np : Nat} (hd : decode i.2.1 pc = .ok (.invokespecial idx, 3)) (hm : metW (I m) i.1.cls idx np) (h0 : (I m).2.2.2.2.1 = []) (hr0 : (I m).2.2.2.1 = none) (hy1 : (I m).1.name = "<init>") (hrc : ∃ ci, (I m).2.2.2.2.2 = some ci) (hw1 : Cond.methodLink i.1.cls idx (I m).1 ∈ lw_tbl ∨ ∃ host, Cond.methodLinkNest i.1.cls idx (I m).1 host ∈ lw_tbl) (hw2 : Cond.instanceMethod (I m).1 ∈ lw_tbl) : rowC B I i pc m (np + 1) := by
  intro d as rest h h' o p e R s mm args below meth cd H locs cells slots lm hx hb hml ho hG hR hS hmet hrv h30 hf hl hcc hcs hn hcat
  obtain ⟨w1, w2, w3, w4⟩ := hm
  have hcw : codeW (I m) = .code (I m).1 (I m).2.1 (I m).2.2.1 none := by unfold codeW; rw [h0, hr0]
  obtain ⟨ci, hrc⟩ := hrc
  rw [hrc] at hrv
  obtain ⟨a, as', rfl⟩ : ∃ a as', as = .ref a :: as' := by
    cases as with
    | nil => cases hrv
    | cons v as => cases v <;> first | exact ⟨_, _, rfl⟩ | cases hrv
  unfold metP at hmet
  refine xi_run (own := i.1.cls) (index := idx) (b := adP (bE B) a) (As := as'.map (vmP (bE B))) (n := np) (bytes := (I m).2.1) (maxL := (I m).2.2.1) (nL := lm.size) hx hb hml ho hmet rfl rfl (by show d + 16 + 1 ≤ R.frames; omega) (by show 8 + ((I m).2.2.1 + 11) + (64 * d + 512) ≤ R.locals; omega)
    (word_W hG w1 (codeW_good _)) (by rw [← hcw]; exact List.mem_cons_self) (by rw [← hcw]; exact hG.2.1 _ w1 (codeW_good _) _) (hG.2.1 _ w2 rfl _) w3 (parm_of w4) ?_ hy1 (hG.2.1 _ hw2 rfl _)
    (pre_S (as := .ref a :: as') hG hR hS) rfl (by simpa using hn) rfl ?_ (lv_room (by rw [cat_map]; exact hcat)) hd ⟨hcc, hcs⟩
  · rcases hw1 with hw1 | ⟨host, hw1⟩
    · exact Or.inl (hG.2.1 _ hw1 rfl _)
    · exact Or.inr ⟨host, va_Nw.use rfl (hG.2.2.1 _ hw1 rfl)⟩
  · simp [vmP]
/-! from a walk to a contract -/
theorem lcA_ent {E : EnvP} : ∀ (as : List Value) (j k : Nat), lcA E j (entL as ++ List.replicate k none) = lv_args j (as.map (vmP E)) := by
  intro as
  induction as with
  | nil =>
    intro j k
    show lcA E j (List.replicate k none) = []
    induction k generalizing j with
    | zero => rfl
    | succ k ih => exact ih (j + 1)
  | cons v as ih =>
    intro j k
    show lcA E j ((bif Nat.beq v.category 2 then some v :: none :: entL as else some v :: entL as) ++ _) = (j, vmP E v) :: lv_args (if (vmP E v).category = 2 then j + 2 else j + 1) (as.map (vmP E))
    rw [vmP_cat]
    cases hb : Nat.beq v.category 2 with
    | true =>
      rw [if_pos (Nat.eq_of_beq_eq_true hb), ← ih (j + 2) k]
      rfl
    | false =>
      rw [if_neg (Nat.ne_of_beq_eq_false hb), ← ih (j + 1) k]
      rfl
theorem entL_len {E : EnvP} : ∀ (as : List Value), (entL as).length = (lg_sl (as.map (vmP E))).length := by
  intro as
  induction as with
  | nil => rfl
  | cons v as ih =>
    show (bif Nat.beq v.category 2 then some v :: none :: entL as else some v :: entL as).length = (lg_sl (vmP E v :: as.map (vmP E))).length
    unfold lg_sl at ih ⊢
    rw [List.flatMap_cons, List.length_append, ← ih, vmP_cat]
    cases hb : Nat.beq v.category 2 with
    | true =>
      rw [if_pos (Nat.eq_of_beq_eq_true hb)]
      simp; omega
    | false =>
      rw [if_neg (Nat.ne_of_beq_eq_false hb)]
      simp; omega
theorem met_of {d : Nat} {as : List Value} {h h' : HeapP} {o : OutP} (hv : VP B i d (entP i.2.2.1 as h) o h') (hle : hleP h h') (hlen : (entL as).length ≤ i.2.2.1) (hpl : plainName i.1.cls = true) (hst : B.2.2.2.stackTraces = false) : metP B i d as h o h' := by
  have body : ∀ (p : Program) (e : Env) (s : State) (m : MethodId) (args : Array Value) (below : List Frame) (meth : Method) (c : Code) (s₁ : State), BodyLoose p B.2.2.2 i.1 (headSpec [codeW i] (roomP d h h')) i.2.1 i.2.2.1 i.2.2.2.1 e s m args below meth c s₁ → c.maxLocals = i.2.2.1 → c.exceptionTable.toList = tableOf i.2.2.2.2.1 → PcP B as h args s →
      W p B.2.2.2 e (headSpec [codeW i] (roomP d h h')).room s m args below meth c s.heap [] 0 0 (vx_MQ below (QcP B o h') (XcP B o h') args s (h'.1 - h.1) (h'.2.1 - h.2.1) (frP (bE B))) (entryFrame m args i.2.2.1) := by
    intro p e s m args below meth c s₁ Bd hml htab hPc
    obtain ⟨rfl, hR, hG⟩ := hPc
    have hnm := (name_of_methodNamed Bd.named Bd.method).1
    have hlen' : (lg_sl (as.map (vmP (bE B)))).length ≤ i.2.2.1 := by rw [← entL_len]; exact hlen
    have hlv := lv_entry (as.map (vmP (bE B))) (n := i.2.2.1) hlen'
    rw [lg_entry_eq]
    generalize (lg_sl (as.map (vmP (bE B))) ++ List.replicate (i.2.2.1 - (lg_sl (as.map (vmP (bE B)))).length) Slot.unset).toArray = lm at hlv ⊢
    have hL : locR (bE B) lm i.2.2.1 (entL as ++ List.replicate (i.2.2.1 - (entL as).length) none) := by
      refine ⟨by rw [lcA_ent]; exact hlv, by rw [List.length_append, List.length_replicate]; omega⟩
    have hw := hv p e (headSpec [codeW i] (roomP d h h')).room s m ((as.map (vmP (bE B))).toArray) below meth c h s.heap [] lm ⟨Bd.exec, Bd.bytes, hml, Bd.returns, Bd.notSynchronized, findClass_of_methodNamed Bd.named, hnm, htab, hG, Nat.le_refl _, Nat.le_refl _, Nat.le_refl _, Nat.le_refl _, hst⟩ hleP.rfl' hle hR hL va_S.rf
    exact W.cs (by show 0 = h.1 - h.1; omega) (by show 0 = h.2.1 - h.2.1; omega) hw
  unfold metP
  cases hh : i.2.2.2.2.1 with
  | nil =>
    have hcw : codeW i = .code i.1 i.2.1 i.2.2.1 i.2.2.2.1 := by unfold codeW; rw [hh]
    refine vx_ofW (cc := i.2.1) (maxL := i.2.2.1) (ret := i.2.2.2.1) (ws' := []) hpl (by rw [hcw]) ?_
    intro p e s m args below meth c s₁ Bd hml ht hPc
    refine body p e s m args below meth c s₁ Bd hml ?_ hPc
    rw [hh]
    cases hx : c.exceptionTable.toList with
    | nil => rfl
    | cons x xs => exact (ht x (by rw [hx]; exact List.mem_cons_self)).elim
  | cons a b =>
    have hcw : codeW i = .codeWith i.1 i.2.1 i.2.2.1 i.2.2.2.1 i.2.2.2.2.1 := by unfold codeW; rw [hh]
    refine vx_ofWH (cc := i.2.1) (maxL := i.2.2.1) (ret := i.2.2.2.1) (hh := i.2.2.2.2.1) (ws' := []) hpl (by rw [hcw]) ?_
    intro p e s m args below meth c s₁ Bd hml hPc
    refine body p e s m args below meth c s₁ Bd hml ?_ hPc
    exact vx_table (x := i.1) Bd (y := i.1) (bytes := i.2.1) (maxL' := i.2.2.1) (ret' := i.2.2.2.1) (atoms_spec (ws := [codeW i]) Bd.pre _ (by rw [hcw]; exact List.mem_cons_self))
/-- a table of methods that says what the machine has -/
def TabOk (B : BigP) (M : TabP) (I : Nat → InfP) : Prop := B.2.2.2.stackTraces = false ∧ ∀ m q, M m = some q → q.1 = (I m).2.2.1 ∧ q.2.1 = (I m).2.2.2.2.2 ∧ plainName (I m).1.cls = true ∧ ∀ pc s, lkP q.2.2 pc = some s → GdP B I (I m) pc s
theorem runF_grow {M : TabP} (hG : ∀ m q, M m = some q → ∀ pc s, lkP q.2.2 pc = some s → GroP s) : ∀ n d m c q, runF M n d m c = some q → hleP c.2.2.2 q.2 := by
  intro n
  induction n with
  | zero => intro d m c q h; cases h
  | succ n ih =>
    intro d m c q h
    rw [runF] at h
    unfold semP at h
    cases hm : M m with
    | none => simp only [hm] at h; cases h
    | some y =>
      simp only [hm] at h
      cases hs : lkP y.2.2 c.1 with
      | none => simp only [hs] at h; cases h
      | some s =>
        simp only [hs] at h
        refine hG m y hm c.1 s hs c.2.1 c.2.2.1 c.2.2.2 _ _ q (fun c q h => ih d m c q h) (fun m as hp q hq => ?_) h
        cases d with
        | zero => cases hq
        | succ d =>
          unfold clP at hq
          cases hm : M m with
          | none => simp only [hm] at hq; cases hq
          | some y =>
            simp only [hm] at hq
            cases hr : (rcvP y.2.1 as hp && Nat.ble (entL as).length y.1) with
            | false => simp only [hr] at hq; cases hq
            | true => simp only [hr, cond_true] at hq; exact ih _ _ _ q hq
theorem sound_all {M : TabP} (hT : TabOk B M I) : ∀ n d m c o h1, runF M n d m c = some (o, h1) → VP B (I m) d c o h1 := by
  have hgr : ∀ m q, M m = some q → ∀ pc s, lkP q.2.2 pc = some s → GroP s := fun m q hm pc s hs => ((hT.2 m q hm).2.2.2 pc s hs).1
  intro n
  induction n with
  | zero => intro d m c o h1 h; cases h
  | succ n ih =>
    intro d m c o h1 h
    rw [runF] at h
    unfold semP at h
    cases hm : M m with
    | none => simp only [hm] at h; cases h
    | some y =>
      simp only [hm] at h
      cases hs : lkP y.2.2 c.1 with
      | none => simp only [hs] at h; cases h
      | some s =>
        simp only [hs] at h
        obtain ⟨pc, ls, st, hp⟩ := c
        refine ((hT.2 m y hm).2.2.2 pc s hs).2 d ls st hp o h1 _ _ (fun c q h => runF_grow hgr n d m c q h) (fun c h => ih d m c o h1 h) (fun m' as hp' o' h' hq => ?_) h
        cases d with
        | zero => cases hq
        | succ d =>
          unfold clP at hq
          cases hm' : M m' with
          | none => simp only [hm'] at hq; cases hq
          | some y' =>
            simp only [hm'] at hq
            cases hr : (rcvP y'.2.1 as hp' && Nat.ble (entL as).length y'.1) with
            | false => simp only [hr] at hq; cases hq
            | true =>
              simp only [hr, cond_true] at hq
              obtain ⟨t1, t2, t3, -⟩ := hT.2 m' y' hm'
              rw [Bool.and_eq_true] at hr
              have hle := runF_grow hgr n d m' _ _ hq
              have hle : hleP hp' h' := hle
              rw [t1] at hq hr
              rw [t2] at hr
              have hl := Nat.le_of_ble_eq_true hr.2
              exact ⟨⟨d, rfl, met_of (ih d m' _ o' h' hq) hle hl t3 hT.1⟩, hle, hr.1, hl⟩
theorem sound_run {M : TabP} (hT : TabOk B M I) {d m : Nat} {c : CfgP} {o : OutP} {h1 : HeapP} (h : runP M d m c = some (o, h1)) : VP B (I m) d c o h1 ∧ hleP c.2.2.2 h1 := by
  obtain ⟨n, hn⟩ := runP_iff.mp h
  exact ⟨sound_all hT n d m c o h1 hn, runF_grow (fun m q hm pc s hs => ((hT.2 m q hm).2.2.2 pc s hs).1) n d m c _ hn⟩
end RO
