/-! TOP: from the law's entry to one running of the tables. Written by wip/whole/gen_top.py -/
theorem top_AOA {A : Array Value} {s : State} (h : (Cond.arrayOver (.array .int)).before A s = true) : ∃ c k comp, s.vm.findClass ("[" ++ (FieldType.array .int).toString) = some c ∧ s.vm.classes[c]? = some k ∧ k.kind = .array comp (.array .int) := by
  simp only [Cond.before, Cond.holds, Cond.value, beq_iff_eq] at h
  cases hc : s.vm.findClass (FieldType.array .int).toString with
  | none => simp [hc] at h
  | some comp =>
    simp only [hc, Option.bind_some, Option.bind_eq_some_iff, Option.map_eq_some_iff] at h
    obtain ⟨c, hi, k, hk, hb⟩ := h
    cases hkind : k.kind with
    | array component ty =>
      rw [hkind] at hb
      simp only [Bool.and_eq_true, decide_eq_true_eq] at hb
      obtain ⟨e1, e2⟩ := hb
      subst e1
      exact ⟨c, k, component, e2, hk, hkind⟩
    | _ => rw [hkind] at hb; simp at hb
theorem top_arr {s : State} {c : ClassId} {k : Class} {comp : ClassId} {ty : FieldType} (hk : s.vm.classes[c]? = some k) (hkind : k.kind = .array comp ty) : ArrOfT s c ty := fun _ _ => ⟨fun q hq => (by cases hq), k, hk, comp, hkind⟩
theorem top_str {args : Array Value} {s : State} {t : Term} {n : Nat} {byt : List Int32} {A : Nat → Prop} (hn : n < 2 ^ 31) (hex : (Cond.exactly t "java/lang/String").before args s = true) (hco : (Cond.eq (.field t "java/lang/String" "coder" "B") (.int 0)).before args s = true)
    (har : (Cond.arrayOf (.field t "java/lang/String" "value" "[B") .byte).before args s = true) (hle : (Cond.eq (.length (.field t "java/lang/String" "value" "[B")) (.int (Int32.ofNat n))).before args s = true)
    (hel : ∀ j : Nat, j < n → (Cond.eq (.elem (.field t "java/lang/String" "value" "[B") (.int (Int32.ofNat j))) (.int (byt.getD j 0))).before args s = true) (hA : ∀ a : Nat, a < s.heap.size → ¬ A a) :
    ∃ a v : Nat, va_O "java/lang/String" a A s s.heap ∧ va_OF "java/lang/String" "coder" "B" (.int 0) a A s s.heap ∧ va_OF "java/lang/String" "value" "[B" (.ref v) a A s s.heap ∧ va_T .byte v n (fun j => .int (byt.getD j 0)) A s s.heap ∧ t.eval args s none [] s = some (.ref a) := by
  have z : ∀ i : Nat, i < 1 → i = 0 := fun i hi => by omega
  obtain ⟨adK, adV, h1, h2⟩ := vk_Sof (N := 1) (tm := fun _ => t) (len := [n]) (byt := [byt]) (A := A) (args := args) (s := s) (fun i hi => by rw [z i hi]; exact hn) (fun _ _ => hex) (fun _ _ => hco) (fun _ _ => har) (fun i hi => by rw [z i hi]; exact hle) (fun i hi j hj => by rw [z i hi] at hj ⊢; exact hel j hj) (fun i j hi hj hij => absurd ((z i hi).trans (z j hj).symm) hij) hA
  obtain ⟨g1, g2, g3, g4⟩ := h1.1 0 (by decide)
  exact ⟨adK 0, adV 0, g1, g2, g3, g4, h2 0 (by decide)⟩
theorem top_OF {C n d : String} {v v' : Value} {a : Nat} {A : Nat → Prop} {U : State} {H : Heap} (h : va_OF C n d v a A U H) (h' : va_OF C n d v' a A U H) : v = v' := by
  obtain ⟨cf, kf, fi, f, cell, q1, q2, q3, q4, q5, q6⟩ := h
  obtain ⟨cf', kf', fi', f', cell', p1, p2, p3, p4, p5, p6⟩ := h'
  rw [q1] at p1; injection p1 with p1; injection p1 with _ p1; injection p1 with _ p1; injection p1 with _ p1; subst p1
  rw [q3] at p3; injection p3 with p3; subst p3
  rw [q5] at p5; injection p5
theorem top_T {ty : FieldType} {v n n' : Nat} {f f' : Nat → Value} {A : Nat → Prop} {U : State} {H : Heap} (h : va_T ty v n f A U H) (h' : va_T ty v n' f' A U H) : Int32.ofNat n = Int32.ofNat n' ∧ ∀ j, j < n → j < n' → f j = f' j := by
  obtain ⟨cell, q1, -, -, -, q5, q6, -⟩ := h
  obtain ⟨cell', p1, -, -, -, p5, p6, -⟩ := h'
  rw [q1] at p1; injection p1 with p1; subst p1
  refine ⟨q5.symm.trans p5, fun j h1 h2 => ?_⟩
  have := (q6 j h1).symm.trans (p6 j h2)
  injection this
theorem top_msg {args : Array Value} {s : State} {own tx : String} {k : Nat} (h1 : (Cond.stringRef own k tx).before args s = true) (h2 : (Cond.exactly (.string own k) "java/lang/String").before args s = true) : ∃ sa, vk_R own k tx sa s := by
  obtain ⟨a, c, cA, kA, q1, q2, q3, q4, q5, q6, -⟩ := Cond.exactly_spec h2
  exact ⟨a, vk_R.of h1 q1⟩
theorem wrd_apart : ∀ i, i < 7 → ∀ j, j < 7 → i ≠ j → Int32.ofNat (wrdLen.getD i 0) ≠ Int32.ofNat (wrdLen.getD j 0) ∨ ∃ k, k < 4 ∧ (wrdByt.getD i []).getD k 0 ≠ (wrdByt.getD j []).getD k 0 := by decide +kernel
theorem wrd_four : ∀ i, i < 7 → 4 ≤ wrdLen.getD i 0 := by decide +kernel
set_option maxHeartbeats 4000000 in
set_option maxRecDepth 100000 in
theorem top_gam {p : Program} {s : State} {m : MethodId} {meth : Method} {c : Code} {b L : Nat} {xs : Nat → Int32} (C0 : lw_At p s m meth c b L xs) : ∃ E : EnvP, eB E = s.heap.size ∧ eL E = L ∧ eX E = xs ∧ eK E 0 = b ∧ GamP SRl MRl E s s.heap := by
  obtain ⟨-, -, -, -, -, hts, hX, hbl, -, hgv⟩ := C0
  have hs := flat_of_before _ hgv
  have hA : ∀ a : Nat, a < s.heap.size → ¬ (fun q => s.heap.size ≤ q) a := fun a h1 h2 => Nat.not_le.mpr h1 h2
  obtain ⟨d0, i0, k0⟩ := u_known hts inX0 (hts _ (in_tables_1_1 207 rfl))
  obtain ⟨d1, i1, k1⟩ := u_known hts inX1 (hts _ (in_tables_1_1 177 rfl))
  obtain ⟨d2, i2, k2⟩ := u_known hts inX2 (hts _ (in_tables_1_1 49 rfl))
  obtain ⟨d3, i3, k3⟩ := u_known hts inX3 (hts _ (in_tables_1_4 152 rfl))
  obtain ⟨d4, i4, k4⟩ := u_known hts inX4 (hts _ (in_tables_1_2 51 rfl))
  obtain ⟨d5, i5, k5⟩ := u_known hts inX5 (hts _ (in_tables_1_1 43 rfl))
  obtain ⟨d6, i6, k6⟩ := u_known hts inX6 (hts _ (in_tables_1_1 222 rfl))
  obtain ⟨d7, i7, k7⟩ := u_known hts inX7 (hts _ (in_tables_1_2 87 rfl))
  obtain ⟨d8, i8, k8⟩ := u_known hts inX8 (hts _ (in_tables_1_1 187 rfl))
  obtain ⟨d9, i9, k9⟩ := u_known hts inX9 (hts _ (in_tables_1_2 74 rfl))
  obtain ⟨d10, i10, k10⟩ := u_known hts inX10 (hts _ (in_tables_1_2 22 rfl))
  obtain ⟨d11, i11, k11⟩ := u_known hts inX11 (hts _ (in_tables_1_1 35 rfl))
  obtain ⟨d12, i12, k12⟩ := u_known hts inX12 (hts _ (in_tables_1_8 54 rfl))
  obtain ⟨a0, ka0, ca0, fa0, la0, na0⟩ := Cond.arrayClass_spec (hts _ (in_tables_1_1 127 rfl))
  obtain ⟨a1, ka1, ca1, fa1, la1, na1⟩ := Cond.arrayClass_spec (hts _ (in_tables_1_1 126 rfl))
  obtain ⟨a2, ka2, ca2, fa2, la2, na2⟩ := Cond.arrayClass_spec (hts _ (in_tables_1_8 228 rfl))
  obtain ⟨a3, ka3, ca3, fa3, la3, na3⟩ := Cond.arrayClass_spec (hts _ (in_tables_1_2 20 rfl))
  obtain ⟨ca4, a4, ka4, ga4, -, la4, na4, fa4⟩ := Cond.arrayOver_spec (hts _ (in_tables_1_1 173 rfl))
  obtain ⟨ca5, a5, ka5, ga5, -, la5, na5, fa5⟩ := Cond.arrayOver_spec (hts _ (in_tables_1_1 175 rfl))
  obtain ⟨a6, ka6, ca6, fa6, la6, na6⟩ := top_AOA (hts _ (in_tables_1_1 193 rfl))
  obtain ⟨s0, v0, sa0, sb0, sc0, sd0, se0⟩ := top_str (t := (.string "SnowKeeps$Reader" 50)) (n := 6) (byt := wrdByt.getD 0 []) (A := fun q => s.heap.size ≤ q) (by decide) (hs _ (by decide +kernel)) (hs _ (by decide +kernel)) (hs _ (by decide +kernel)) (hs _ (by decide +kernel)) (fun j hj => by rcases (show j = 0 ∨ j = 1 ∨ j = 2 ∨ j = 3 ∨ j = 4 ∨ j = 5 by omega) with rfl | rfl | rfl | rfl | rfl | rfl <;> exact hs _ (by decide +kernel)) hA
  obtain ⟨s1, v1, sa1, sb1, sc1, sd1, se1⟩ := top_str (t := (.string "SnowKeeps$Reader" 69)) (n := 4) (byt := wrdByt.getD 1 []) (A := fun q => s.heap.size ≤ q) (by decide) (hs _ (by decide +kernel)) (hs _ (by decide +kernel)) (hs _ (by decide +kernel)) (hs _ (by decide +kernel)) (fun j hj => by rcases (show j = 0 ∨ j = 1 ∨ j = 2 ∨ j = 3 by omega) with rfl | rfl | rfl | rfl <;> exact hs _ (by decide +kernel)) hA
  obtain ⟨s2, v2, sa2, sb2, sc2, sd2, se2⟩ := top_str (t := (.string "SnowKeeps$Reader" 74)) (n := 6) (byt := wrdByt.getD 2 []) (A := fun q => s.heap.size ≤ q) (by decide) (hs _ (by decide +kernel)) (hs _ (by decide +kernel)) (hs _ (by decide +kernel)) (hs _ (by decide +kernel)) (fun j hj => by rcases (show j = 0 ∨ j = 1 ∨ j = 2 ∨ j = 3 ∨ j = 4 ∨ j = 5 by omega) with rfl | rfl | rfl | rfl | rfl | rfl <;> exact hs _ (by decide +kernel)) hA
  obtain ⟨s3, v3, sa3, sb3, sc3, sd3, se3⟩ := top_str (t := (.string "SnowKeeps$Reader" 79)) (n := 4) (byt := wrdByt.getD 3 []) (A := fun q => s.heap.size ≤ q) (by decide) (hs _ (by decide +kernel)) (hs _ (by decide +kernel)) (hs _ (by decide +kernel)) (hs _ (by decide +kernel)) (fun j hj => by rcases (show j = 0 ∨ j = 1 ∨ j = 2 ∨ j = 3 by omega) with rfl | rfl | rfl | rfl <;> exact hs _ (by decide +kernel)) hA
  obtain ⟨s4, v4, sa4, sb4, sc4, sd4, se4⟩ := top_str (t := (.string "SnowKeeps$Reader" 84)) (n := 5) (byt := wrdByt.getD 4 []) (A := fun q => s.heap.size ≤ q) (by decide) (hs _ (by decide +kernel)) (hs _ (by decide +kernel)) (hs _ (by decide +kernel)) (hs _ (by decide +kernel)) (fun j hj => by rcases (show j = 0 ∨ j = 1 ∨ j = 2 ∨ j = 3 ∨ j = 4 by omega) with rfl | rfl | rfl | rfl | rfl <;> exact hs _ (by decide +kernel)) hA
  obtain ⟨s5, v5, sa5, sb5, sc5, sd5, se5⟩ := top_str (t := (.string "SnowKeeps$Reader" 89)) (n := 6) (byt := wrdByt.getD 5 []) (A := fun q => s.heap.size ≤ q) (by decide) (hs _ (by decide +kernel)) (hs _ (by decide +kernel)) (hs _ (by decide +kernel)) (hs _ (by decide +kernel)) (fun j hj => by rcases (show j = 0 ∨ j = 1 ∨ j = 2 ∨ j = 3 ∨ j = 4 ∨ j = 5 by omega) with rfl | rfl | rfl | rfl | rfl | rfl <;> exact hs _ (by decide +kernel)) hA
  obtain ⟨s6, v6, sa6, sb6, sc6, sd6, se6⟩ := top_str (t := (.string "SnowKeeps$Reader" 112)) (n := 4) (byt := wrdByt.getD 6 []) (A := fun q => s.heap.size ≤ q) (by decide) (hs _ (by decide +kernel)) (hs _ (by decide +kernel)) (hs _ (by decide +kernel)) (hs _ (by decide +kernel)) (fun j hj => by rcases (show j = 0 ∨ j = 1 ∨ j = 2 ∨ j = 3 by omega) with rfl | rfl | rfl | rfl <;> exact hs _ (by decide +kernel)) hA
  have m_eq : ∀ (t : Term) (a : Nat) (u : Term), u.eval #[Value.ref b] s none [] s = some (.ref a) → (Cond.eq t u).before #[Value.ref b] s = true ∨ (Cond.eq u t).before #[Value.ref b] s = true → (Cond.exactly t "java/lang/String").before #[Value.ref b] s = true → t.eval #[Value.ref b] s none [] s = some (.ref a) := by
    intro t a u hu h hex
    obtain ⟨a', c, cA, kA, q1, -⟩ := Cond.exactly_spec hex
    rcases h with h | h
    · have h9 := Cond.eq_refs (args := #[Value.ref b]) (first := s) (t := s) (out := none) (idx := []) h hu rfl
      exact h9
    · have h9 := Cond.eq_refs (args := #[Value.ref b]) (first := s) (t := s) (out := none) (idx := []) h q1 rfl
      rw [hu] at h9
      rw [q1, h9]
  have e0 := m_eq (.string "SnowKeepsModel" 206) s0 (.string "SnowKeeps$Reader" 50) se0 (Or.inr (hs _ (by decide +kernel))) (hs _ (by decide +kernel))
  have e1 := m_eq (.string "SnowKeepsModel" 181) s1 (.string "SnowKeeps$Reader" 69) se1 (Or.inr (hs _ (by decide +kernel))) (hs _ (by decide +kernel))
  have e2 := m_eq (.string "SnowKeepsModel" 186) s2 (.string "SnowKeeps$Reader" 74) se2 (Or.inr (hs _ (by decide +kernel))) (hs _ (by decide +kernel))
  have e3 := m_eq (.string "SnowKeepsModel" 191) s3 (.string "SnowKeeps$Reader" 79) se3 (Or.inr (hs _ (by decide +kernel))) (hs _ (by decide +kernel))
  have e4 := m_eq (.string "SnowKeepsModel" 193) s4 (.string "SnowKeeps$Reader" 84) se4 (Or.inr (hs _ (by decide +kernel))) (hs _ (by decide +kernel))
  have e5 := m_eq (.string "SnowKeepsModel" 198) s5 (.string "SnowKeeps$Reader" 89) se5 (Or.inr (hs _ (by decide +kernel))) (hs _ (by decide +kernel))
  have e6 := m_eq (.string "SnowKeepsModel" 173) s6 (.string "SnowKeeps$Reader" 112) se6 (Or.inr (hs _ (by decide +kernel))) (hs _ (by decide +kernel))
  refine ⟨((fun c => [d0, d1, d2, d3, d4, d5, d6, d7, d8, d9, d10, d11, d12].getD c 0, fun c => [i0, i1, i2, i3, i4, i5, i6, i7, i8, i9, i10, i11, i12].getD c (fun _ => 0)), fun t => [a0, a1, a2, a3, a4, a5, a6].getD t 0, s.heap.size, fun k => [b, s0, s1, s2, s3, s4, s5, s6, v0, v1, v2, v3, v4, v5, v6].getD k 0, L, xs), rfl, rfl, rfl, rfl, ?_⟩
  refine ⟨⟨fun c q hq => ?_, fun k q hq => ?_⟩, fun w hw hg a' => word_at (State.WarmedH.refl s) (good_of_word hg) (hts w hw), fun w hw hn => va_tabs (nestW_tab hn) rfl (hts w hw), Nat.le_refl _, ⟨hX, hbl⟩, ⟨fun q hq => ?_, fun q hq => ?_, ⟨fun i hi => ?_, fun i j hi hj hij => ?_⟩⟩, ⟨?_, ?_⟩, ?_, fun a b9 ha hb hab => ?_, ⟨?_, ?_, ?_, ?_⟩⟩
  · rcases (show c = 0 ∨ c = 1 ∨ c = 2 ∨ c = 3 ∨ c = 4 ∨ c = 5 ∨ c = 6 ∨ c = 7 ∨ c = 8 ∨ c = 9 ∨ c = 10 ∨ c = 11 ∨ c = 12 by have := (List.getElem?_eq_some_iff.mp hq).1; have : c < 13 := this; omega) with rfl | rfl | rfl | rfl | rfl | rfl | rfl | rfl | rfl | rfl | rfl | rfl | rfl
    · cases hq; exact k0
    · cases hq; exact k1
    · cases hq; exact k2
    · cases hq; exact k3
    · cases hq; exact k4
    · cases hq; exact k5
    · cases hq; exact k6
    · cases hq; exact k7
    · cases hq; exact k8
    · cases hq; exact k9
    · cases hq; exact k10
    · cases hq; exact k11
    · cases hq; exact k12
  · rcases (show k = 0 ∨ k = 1 ∨ k = 2 ∨ k = 3 ∨ k = 4 ∨ k = 5 ∨ k = 6 by have := (List.getElem?_eq_some_iff.mp hq).1; have : k < 7 := this; omega) with rfl | rfl | rfl | rfl | rfl | rfl | rfl
    · cases hq; exact ⟨top_arr la0 na0, fa0⟩
    · cases hq; exact ⟨top_arr la1 na1, fa1⟩
    · cases hq; exact ⟨top_arr la2 na2, fa2⟩
    · cases hq; exact ⟨top_arr la3 na3, fa3⟩
    · cases hq; exact ⟨top_arr la4 na4, ka4, ca4, la4, na4, ga4, fa4⟩
    · cases hq; exact ⟨top_arr la5 na5, ka5, ca5, la5, na5, ga5, fa5⟩
    · cases hq; exact ⟨top_arr la6 na6, fa6⟩
  · have hq : q ∈ SRl := hq
    unfold SRl at hq
    simp only [List.mem_cons, List.not_mem_nil, or_false] at hq
    rcases hq with rfl | rfl | rfl | rfl | rfl | rfl | rfl | rfl | rfl | rfl | rfl | rfl | rfl | rfl
    · exact vk_R.of (A := #[Value.ref b]) (hts _ (in_tables_1_4 208 rfl)) se0
    · exact vk_R.of (A := #[Value.ref b]) (hts _ (in_tables_1_5 14 rfl)) se1
    · exact vk_R.of (A := #[Value.ref b]) (hts _ (in_tables_1_5 24 rfl)) se2
    · exact vk_R.of (A := #[Value.ref b]) (hts _ (in_tables_1_5 42 rfl)) se3
    · exact vk_R.of (A := #[Value.ref b]) (hts _ (in_tables_1_5 47 rfl)) se4
    · exact vk_R.of (A := #[Value.ref b]) (hts _ (in_tables_1_5 52 rfl)) se5
    · exact vk_R.of (A := #[Value.ref b]) (hts _ (in_tables_1_5 33 rfl)) se6
    · exact vk_R.of (A := #[Value.ref b]) (hts _ (in_tables_1_9 22 rfl)) e0
    · exact vk_R.of (A := #[Value.ref b]) (hts _ (in_tables_1_9 49 rfl)) e1
    · exact vk_R.of (A := #[Value.ref b]) (hts _ (in_tables_1_9 61 rfl)) e2
    · exact vk_R.of (A := #[Value.ref b]) (hts _ (in_tables_1_9 71 rfl)) e3
    · exact vk_R.of (A := #[Value.ref b]) (hts _ (in_tables_1_9 72 rfl)) e4
    · exact vk_R.of (A := #[Value.ref b]) (hts _ (in_tables_1_9 77 rfl)) e5
    · exact vk_R.of (A := #[Value.ref b]) (hts _ (in_tables_1_9 66 rfl)) e6
  · have hq : q ∈ MRl := hq
    unfold MRl at hq
    simp only [List.mem_cons, List.not_mem_nil, or_false] at hq
    rcases hq with rfl | rfl | rfl | rfl | rfl | rfl | rfl | rfl | rfl | rfl | rfl | rfl | rfl | rfl | rfl | rfl | rfl
    · exact top_msg (args := #[Value.ref b]) (hts _ (in_tables_1_4 149 rfl)) (hs _ (by decide +kernel))
    · exact top_msg (args := #[Value.ref b]) (hts _ (in_tables_1_5 79 rfl)) (hs _ (by decide +kernel))
    · exact top_msg (args := #[Value.ref b]) (hts _ (in_tables_1_5 104 rfl)) (hs _ (by decide +kernel))
    · exact top_msg (args := #[Value.ref b]) (hts _ (in_tables_1_5 136 rfl)) (hs _ (by decide +kernel))
    · exact top_msg (args := #[Value.ref b]) (hts _ (in_tables_1_5 156 rfl)) (hs _ (by decide +kernel))
    · exact top_msg (args := #[Value.ref b]) (hts _ (in_tables_1_6 13 rfl)) (hs _ (by decide +kernel))
    · exact top_msg (args := #[Value.ref b]) (hts _ (in_tables_1_5 239 rfl)) (hs _ (by decide +kernel))
    · exact top_msg (args := #[Value.ref b]) (hts _ (in_tables_1_6 51 rfl)) (hs _ (by decide +kernel))
    · exact top_msg (args := #[Value.ref b]) (hts _ (in_tables_1_6 137 rfl)) (hs _ (by decide +kernel))
    · exact top_msg (args := #[Value.ref b]) (hts _ (in_tables_1_6 151 rfl)) (hs _ (by decide +kernel))
    · exact top_msg (args := #[Value.ref b]) (hts _ (in_tables_1_6 159 rfl)) (hs _ (by decide +kernel))
    · exact top_msg (args := #[Value.ref b]) (hts _ (in_tables_1_7 33 rfl)) (hs _ (by decide +kernel))
    · exact top_msg (args := #[Value.ref b]) (hts _ (in_tables_1_7 35 rfl)) (hs _ (by decide +kernel))
    · exact top_msg (args := #[Value.ref b]) (hts _ (in_tables_1_7 171 rfl)) (hs _ (by decide +kernel))
    · exact top_msg (args := #[Value.ref b]) (hts _ (in_tables_1_8 30 rfl)) (hs _ (by decide +kernel))
    · exact top_msg (args := #[Value.ref b]) (hts _ (in_tables_1_8 44 rfl)) (hs _ (by decide +kernel))
    · exact top_msg (args := #[Value.ref b]) (hts _ (in_tables_1_8 52 rfl)) (hs _ (by decide +kernel))
  · rcases (show i = 0 ∨ i = 1 ∨ i = 2 ∨ i = 3 ∨ i = 4 ∨ i = 5 ∨ i = 6 by omega) with rfl | rfl | rfl | rfl | rfl | rfl | rfl
    · exact ⟨sa0, sb0, sc0, sd0⟩
    · exact ⟨sa1, sb1, sc1, sd1⟩
    · exact ⟨sa2, sb2, sc2, sd2⟩
    · exact ⟨sa3, sb3, sc3, sd3⟩
    · exact ⟨sa4, sb4, sc4, sd4⟩
    · exact ⟨sa5, sb5, sc5, sd5⟩
    · exact ⟨sa6, sb6, sc6, sd6⟩
  · have hall : ∀ i, i < 7 → va_OF "java/lang/String" "value" "[B" (.ref ([v0, v1, v2, v3, v4, v5, v6].getD i 0)) ([s0, s1, s2, s3, s4, s5, s6].getD i 0) (fun q => s.heap.size ≤ q) s s.heap ∧ va_T .byte ([v0, v1, v2, v3, v4, v5, v6].getD i 0) (wrdLen.getD i 0) (fun j => .int ((wrdByt.getD i []).getD j 0)) (fun q => s.heap.size ≤ q) s s.heap := by
      intro i hi
      rcases (show i = 0 ∨ i = 1 ∨ i = 2 ∨ i = 3 ∨ i = 4 ∨ i = 5 ∨ i = 6 by omega) with rfl | rfl | rfl | rfl | rfl | rfl | rfl
      · exact ⟨sc0, sd0⟩
      · exact ⟨sc1, sd1⟩
      · exact ⟨sc2, sd2⟩
      · exact ⟨sc3, sd3⟩
      · exact ⟨sc4, sd4⟩
      · exact ⟨sc5, sd5⟩
      · exact ⟨sc6, sd6⟩
    have hk : ∀ i, i < 7 → eK ((fun c => [d0].getD c 0, fun c => [i0].getD c (fun _ => 0)), fun t => [a0].getD t 0, s.heap.size, fun k => [b, s0, s1, s2, s3, s4, s5, s6, v0, v1, v2, v3, v4, v5, v6].getD k 0, L, xs) (1 + i) = [s0, s1, s2, s3, s4, s5, s6].getD i 0 := by
      intro i hi
      rcases (show i = 0 ∨ i = 1 ∨ i = 2 ∨ i = 3 ∨ i = 4 ∨ i = 5 ∨ i = 6 by omega) with rfl | rfl | rfl | rfl | rfl | rfl | rfl <;> rfl
    have hij : [s0, s1, s2, s3, s4, s5, s6].getD i 0 = [s0, s1, s2, s3, s4, s5, s6].getD j 0 := by
      rw [← hk i hi, ← hk j hj]; exact hij
    by_cases hne : i = j
    · exact hne
    exfalso
    obtain ⟨f1, f2⟩ := hall i hi
    obtain ⟨g1, g2⟩ := hall j hj
    rw [hij] at f1
    have hv := top_OF f1 g1
    injection hv with hv
    rw [hv] at f2
    obtain ⟨t1, t2⟩ := top_T f2 g2
    rcases wrd_apart i hi j hj hne with h | ⟨k, hk4, h⟩
    · exact h t1
    · have := t2 k (Nat.lt_of_lt_of_le hk4 (wrd_four i hi)) (Nat.lt_of_lt_of_le hk4 (wrd_four j hj))
      injection this with this
      exact h this
  · exact vx_Zqof (hts _ (in_tables_1_3 58 rfl)) (hts _ (in_tables_1_1 14 rfl)) (hs _ (by decide +kernel)) hA
  · exact vx_Zqof (hts _ (in_tables_1_3 60 rfl)) (hts _ (in_tables_1_1 14 rfl)) (hs _ (by decide +kernel)) hA
  · exact va_Zof (hts _ (in_tables_1_3 84 rfl)) (hts _ (in_tables_1_1 19 rfl)) (va_eqt (hs _ (by decide +kernel))) hA
  · rcases (show a = 0 ∨ a = 1 ∨ a = 2 ∨ a = 3 by omega) with rfl | rfl | rfl | rfl <;> rcases (show b9 = 0 ∨ b9 = 1 ∨ b9 = 2 ∨ b9 = 3 by omega) with rfl | rfl | rfl | rfl <;> first | exact absurd rfl hab | exact va_Nc.of (hs _ (by decide +kernel))
  · exact va_AO.of (hts _ (in_tables_1_1 173 rfl))
  · exact va_AO.of (hts _ (in_tables_1_1 175 rfl))
  · exact va_AOA.of (hts _ (in_tables_1_1 193 rfl))
  · exact va_Zqof (hts _ (in_tables_1_3 166 rfl)) (hts _ (in_tables_1_1 21 rfl)) (hs _ (by decide +kernel)) hA
