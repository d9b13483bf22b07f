/-! TOP: what holds between the calls -/
section S94zzzzz
set_option linter.unusedVariables false
set_option linter.unusedSimpArgs false
theorem SnO_mv {E E1 : EnQ} {F F1 : Nat → Int → Int32} {a : Nat} {K : Int → Int32} (hO : SnO E F a K) (hr : E1.2.2.2 a = E.2.2.2 a) (h : ∀ b, (a ≤ b ∧ b ≤ a + 11) ∨ (rfQ E a 0 ≤ b ∧ b ≤ rfQ E a 0 + 5) → F1 b = F b ∧ shx E1 b = shx E b) : SnO E1 F1 a K := by
  obtain ⟨hS, hP, hR, hN, hI⟩ := hO
  have er : rfQ E1 a 0 = rfQ E a 0 := by unfold rfQ; rw [hr]
  refine ⟨?_, ?_, ?_, ?_, hI⟩
  · unfold SnS at hS ⊢
    rw [(h a (by omega)).2, (h (a + 7) (by omega)).2, (h (a + 8) (by omega)).2, (h (a + 9) (by omega)).2, (h (a + 10) (by omega)).2, (h (a + 11) (by omega)).2]
    exact hS
  · rw [er]; unfold PlS at hP ⊢
    rw [(h (rfQ E a 0) (by omega)).2, (h (rfQ E a 0 + 1) (by omega)).2, (h (rfQ E a 0 + 2) (by omega)).2, (h (rfQ E a 0 + 3) (by omega)).2, (h (rfQ E a 0 + 4) (by omega)).2, (h (rfQ E a 0 + 5) (by omega)).2]
    exact hP
  · rw [er]; exact PlR_move hI (fun b h1 h2 => (h b (Or.inr ⟨h1, h2⟩)).1) (fun j _ => rfl) hR
  · unfold SnR
    rw [(h a (by omega)).1, (h (a + 7) (by omega)).1, (h (a + 8) (by omega)).1, (h (a + 9) (by omega)).1, (h (a + 10) (by omega)).1, (h (a + 11) (by omega)).1]
    exact hN
/-- a plain in use; apart from the images -/
def InU (E : EnQ) (p : Nat) : Prop := p = 19 ∨ (247 ≤ p ∧ p + 6 ≤ E.1)
def ApI (E : EnQ) (p : Nat) : Prop := ∀ i : Nat, i < 3 → E.2.2.2 42 (i : Int) ≠ 0 → p + 6 ≤ E.2.2.2 42 (i : Int) ∨ E.2.2.2 42 (i : Int) + 12 ≤ p
/-- the image of a slot, as the model keeps it -/
def imK (F : Nat → Int → Int32) (i : Nat) : Int → Int32 := fun j => F 221 (408 * (i : Int) + j)
def ImO (E : EnQ) (F : Nat → Int → Int32) (b : Int) (i : Nat) (a : Nat) : Prop := F 222 (i : Int) = zI 1 ∧ (247 ≤ a ∧ a + 12 ≤ E.1) ∧ SnO E F a (imK F i) ∧ InU E (rfQ E a 0) ∧ ApI E (rfQ E a 0) ∧ tI (imK F i 5) ≤ stepsZ (imK F i) ∧ stepsZ (imK F i) ≤ b
def ImR (E : EnQ) (F : Nat → Int → Int32) (b : Int) : Prop := (∀ i : Nat, i < 3 → (E.2.2.2 42 (i : Int) = 0 ∧ F 222 (i : Int) = zI 0) ∨ ImO E F b i (E.2.2.2 42 (i : Int))) ∧ (∀ i j : Nat, i < 3 → j < 3 → i ≠ j → E.2.2.2 42 (i : Int) ≠ 0 → E.2.2.2 42 (j : Int) ≠ 0 → E.2.2.2 42 (i : Int) + 12 ≤ E.2.2.2 42 (j : Int) ∨ E.2.2.2 42 (j : Int) + 12 ≤ E.2.2.2 42 (i : Int))
def CLS (b : Int) (L : Nat) (E : EnQ) (F : Nat → Int → Int32) (G : Nat → Int → Int64) : Prop :=
  (SnO E F 18 (F 218) ∧ tI (F 218 5) ≤ stepsZ (F 218) ∧ stepsZ (F 218) ≤ b) ∧ (InU E (rfQ E 18 0) ∧ ApI E (rfQ E 18 0)) ∧ ImR E F b ∧
  (TrR E F G ∧ (∃ t, TpR F t) ∧ F 16 2 = F 217 15 ∧ F 16 3 = F 217 16 ∧ tI (F 217 18) = 0) ∧
  ((∀ g : Nat, g < 4 → E.2.2.2 173 (g : Int) = 174 + g) ∧ (∀ i : Nat, i < 121 → E.2.2.2 49 (i : Int) = 50 + i)) ∧ (247 ≤ E.1 ∧ E.2.2.1 0 = (2, 9, L))
theorem InU.m {E E1 : EnQ} {p : Nat} (h : InU E p) (he : E.1 ≤ E1.1) : InU E1 p := by
  unfold InU at *; omega
theorem ImO.m {E E1 : EnQ} {F F1 : Nat → Int → Int32} {b b1 : Int} {i a : Nat} (h : ImO E F b i a) (hi : i < 3) (hb : b ≤ b1) (he : E.1 ≤ E1.1) (h42 : E1.2.2.2 42 = E.2.2.2 42) (hr : E1.2.2.2 a = E.2.2.2 a) (h1 : F1 221 = F 221 ∧ F1 222 = F 222)
    (hk : ∀ q, (a ≤ q ∧ q ≤ a + 11) ∨ (rfQ E a 0 ≤ q ∧ q ≤ rfQ E a 0 + 5) → F1 q = F q ∧ shx E1 q = shx E q) : ImO E1 F1 b1 i a := by
  obtain ⟨a1, a2, a3, a4, a5, a6, a7⟩ := h
  have er : rfQ E1 a 0 = rfQ E a 0 := by unfold rfQ; rw [hr]
  have ek : imK F1 i = imK F i := by unfold imK; rw [h1.1]
  refine ⟨by rw [h1.2]; exact a1, ⟨a2.1, by omega⟩, by rw [ek]; exact SnO_mv a3 hr hk, by rw [er]; exact a4.m he, ?_, by rw [ek]; exact a6, by rw [ek]; omega⟩
  rw [er]; unfold ApI; rw [h42]; exact a5
theorem CLS_frame {b b1 : Int} {L : Nat} {E E1 : EnQ} {F F1 : Nat → Int → Int32} {G G1 : Nat → Int → Int64} (hC : CLS b L E F G) (hb : b ≤ b1)
    (h1 : ∀ q, (17 ≤ q ∧ q ≤ 29) ∨ (209 ≤ q ∧ q ≤ 216) ∨ q = 218 ∨ (221 ≤ q ∧ q ≤ 223) ∨ q = 243 ∨ q = 244 ∨ 247 ≤ q → F1 q = F q)
    (h2 : F1 16 1 = F 16 1 ∧ F1 16 2 = F 16 2 ∧ F1 16 3 = F 16 3) (h3 : F1 217 7 = F 217 7 ∧ F1 217 15 = F 217 15 ∧ F1 217 16 = F 217 16 ∧ F1 217 18 = F 217 18)
    (h4 : ∀ q, (209 ≤ q ∧ q ≤ 216) ∨ q = 245 → G1 q = G q) (h5 : ∀ q, q = 18 ∨ q = 42 ∨ q = 43 ∨ q = 49 ∨ q = 173 ∨ 247 ≤ q → E1.2.2.2 q = E.2.2.2 q) (h6 : E1.2.2.1 = E.2.2.1) (h7 : E.1 ≤ E1.1) : CLS b1 L E1 F1 G1 := by
  obtain ⟨⟨s1, s2, s3⟩, ⟨u1, u2⟩, ⟨i1, i2⟩, ⟨t1, ⟨t, t2⟩, t3, t4, t5⟩, ⟨r1, r2⟩, ⟨v1, v2⟩⟩ := hC
  have es : ∀ q, shx E1 q = shx E q := fun q => by unfold shx; rw [h6]
  have e42 := h5 42 (by omega)
  have er : rfQ E1 18 0 = rfQ E 18 0 := by unfold rfQ; rw [h5 18 (by omega)]
  have e218 := h1 218 (by omega)
  refine ⟨⟨?_, by rw [e218]; exact s2, by rw [e218]; omega⟩, ⟨by rw [er]; exact u1.m h7, by rw [er]; unfold ApI; rw [e42]; exact u2⟩, ⟨fun i hi => ?_, by rw [e42]; exact i2⟩, ⟨?_, ⟨t, ?_⟩, ?_, ?_, by rw [h3.2.2.2]; exact t5⟩, ⟨by rw [h5 173 (by omega)]; exact r1, by rw [h5 49 (by omega)]; exact r2⟩, ⟨by omega, by rw [h6]; exact v2⟩⟩
  · rw [e218]
    refine SnO_mv s1 (h5 18 (by omega)) (fun q hq => ⟨h1 q ?_, es q⟩)
    unfold InU at u1; omega
  · rw [e42, h1 222 (by omega)]
    rcases i1 i hi with g | g
    · exact Or.inl g
    · right
      have ga := g.2.1
      have gu := g.2.2.2.1
      refine g.m hi hb h7 e42 (h5 _ (by omega)) ⟨h1 221 (by omega), h1 222 (by omega)⟩ (fun q hq => ⟨h1 q ?_, es q⟩)
      unfold InU at gu; omega
  · exact TrR_keep t1 (fun t _ => by rw [h5 43 (by omega)]) (fun q q1 q2 => ⟨h1 q (by omega), h4 q (by omega)⟩) ⟨h1 243 (by omega), h1 244 (by omega), h4 245 (by omega)⟩
  · obtain ⟨c1, c2, c3, c4⟩ := t2
    exact ⟨c1, by rw [h2.1]; exact c2, by rw [h3.1]; exact c3, by rw [h1 17 (by omega), h1 223 (by omega)]; exact c4⟩
  · rw [h2.2.1, h3.2.1]; exact t3
  · rw [h2.2.2, h3.2.2.1]; exact t4
theorem CLS_C {b : Int} {L : Nat} {E E1 : EnQ} {F F1 : Nat → Int → Int32} {G G1 : Nat → Int → Int64} (hC : CLS b L E F G) (h : KeepC E F G E1 F1 G1) : CLS b L E1 F1 G1 := by
  obtain ⟨a1, a2, a3, a4, a5, a6, a7⟩ := h
  exact CLS_frame hC (by omega) (fun q hq => a1 q (by omega) (by unfold scrC; omega)) ⟨a2 1 (by omega) (by omega), a2 2 (by omega) (by omega), a2 3 (by omega) (by omega)⟩ (by rw [a1 217 (by omega) (by unfold scrC; omega)]; exact ⟨rfl, rfl, rfl, rfl⟩) (fun q hq => a3 q (by omega) (by omega) (by omega)) (fun q hq => a4 q (by omega) (by omega) (by omega)) a5 a6.1
theorem CLS_M {b : Int} {L : Nat} {E : EnQ} {F F1 : Nat → Int → Int32} {G G1 : Nat → Int → Int64} (hC : CLS b L E F G) (h : KeepM F G F1 G1) : CLS b L E F1 G1 := by
  obtain ⟨a1, a2, a3⟩ := h
  exact CLS_frame hC (by omega) (fun q hq => a1 q (by omega) (by omega) (by omega) (by omega)) (by rw [a1 16 (by omega) (by omega) (by omega) (by omega)]; exact ⟨rfl, rfl, rfl⟩) ⟨a2 7 (by omega), a2 15 (by omega), a2 16 (by omega), a2 18 (by omega)⟩ (fun q hq => a3 q (by omega)) (fun _ _ => rfl) rfl (by omega)
theorem CLS_O {b : Int} {L : Nat} {E : EnQ} {F : Nat → Int → Int32} {G : Nat → Int → Int64} {c : Int} {v : Int64} (hC : CLS b L E F G) : CLS b L E F (outG G c v) :=
  CLS_frame hC (by omega) (fun _ _ => rfl) ⟨rfl, rfl, rfl⟩ ⟨rfl, rfl, rfl, rfl⟩ (fun q hq => outG_ne (by omega)) (fun _ _ => rfl) rfl (by omega)
theorem CLS_b {b b1 : Int} {L : Nat} {E : EnQ} {F : Nat → Int → Int32} {G : Nat → Int → Int64} (hC : CLS b L E F G) (hb : b ≤ b1) : CLS b1 L E F G :=
  CLS_frame hC hb (fun _ _ => rfl) ⟨rfl, rfl, rfl⟩ ⟨rfl, rfl, rfl, rfl⟩ (fun _ _ => rfl) (fun _ _ => rfl) rfl (by omega)
theorem InU_D {E : EnQ} (h : InU E (rfQ E 18 0)) : SepP E 18 := ⟨Or.inl rfl, by unfold InU at h; omega⟩
theorem CLS_44 {E : EnQ} {F : Nat → Int → Int32} {G : Nat → Int → Int64} (hT : TrR E F G) : ∀ x, 0 ≤ x → x < 4 → 0 ≤ tI (F 244 x) ∧ tI (F 244 x) ≤ 30 := fun x h0 h1 => (TrR_x hT ⟨h0, h1⟩).2.2.2.2.1
end S94zzzzz
