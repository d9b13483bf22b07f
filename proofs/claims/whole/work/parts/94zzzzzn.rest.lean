/-! TOP: restore -/
section S94zzzzzn
set_option linter.unusedVariables false
set_option linter.unusedSimpArgs false
theorem reM_ne {F : Nat → Int → Int32} {x : Int} {q : Nat} (h : q ≠ 217 ∧ q ≠ 218) : reM F x q = F q := by
  unfold reM; rw [uR_ne h.2, uR_ne h.1]
theorem rest_same {F F1 : Nat → Int → Int32} {x : Int} (h : F1 222 = F 222) : a_rest F1 x = a_rest F x := by unfold a_rest; rw [h]
theorem tn_55 {d L : Nat} {b k : Int} {E : EnQ} {F : Nat → Int → Int32} {G : Nat → Int → Int64} {z5 z6 : Option Value} (hC : CLS b L E F G) (hb : b < 1999000000) (hk : 0 ≤ k ∧ k + 6 ≤ L ∧ L ≤ 3072) (hd : 100 ≤ d) : TurnP d b L k 3679 z5 z6 E F G := by
  obtain ⟨d, rfl⟩ : ∃ e, d = e + 1 := ⟨d - 1, by omega⟩
  obtain ⟨⟨hO, hcs, hsb⟩, ⟨hu, hap⟩, him, ⟨hT, ⟨t, ht⟩, t3, t4, h18⟩, ⟨r1, r2⟩, ⟨v1, hE⟩⟩ := id hC
  generalize hx : tI (F 0 (k + 1)) = x
  have ex : F 0 (k + 1) = zI x := by rw [← hx, zI_tI]
  have hxr : -2147483648 ≤ x ∧ x ≤ 2147483647 := by rw [← hx]; exact tI_rg _
  have hc := cl_rest (d := d) (E := E) (F := F) (G := G) (x := x) hxr (fun h => by
    rcases im_in him h with z | z
    · exact Or.inl ⟨z.1, by rw [z.2]; exact tI_zI (by omega)⟩
    · refine Or.inr ⟨z.2.2.1.1, z.2.1.1, ?_⟩
      have := z.1
      rw [show ((x.toNat : Nat) : Int) = x by omega] at this
      rw [this]; exact tI_zI (by omega)) (by omega)
  have h222 : 0 ≤ x ∧ x < 3 → tI (F 222 x) = 0 ∨ tI (F 222 x) = 1 := fun h => by
    rcases im_in him h with z | z
    · exact Or.inl (by rw [z.2]; exact tI_zI (by omega))
    · right
      have := z.1
      rw [show ((x.toNat : Nat) : Int) = x by omega] at this
      rw [this]; exact tI_zI (by omega)
  by_cases g : a_rest F x = 0
  · rw [if_pos g] at hc
    have c : 0 ≤ x ∧ x < 3 := by
      unfold a_rest at g
      split at g
      · assumption
      · omega
    have hxn : ((x.toNat : Nat) : Int) = x := by omega
    have hIm : ImO E F b x.toNat (E.2.2.2 42 x) := by
      rcases im_in him c with z | z
      · exfalso
        unfold a_rest at g
        rw [if_pos c, z.2, tI_zI (by omega), if_pos rfl] at g
        omega
      · exact z
    obtain ⟨m1, m2, m3, m4, m5, m6, m7⟩ := hIm
    obtain ⟨n1, n2, n3, n4, n5⟩ := m3
    generalize hA : E.2.2.2 42 x = a at *
    generalize hE1 : uE E 18 0 (rfQ E a 0) = E1 at hc
    generalize hFc : tkF F 18 a = Fc at hc
    have k1 : ∀ q, q ≠ 18 → q ≠ 25 → q ≠ 26 → q ≠ 27 → q ≠ 28 → q ≠ 29 → Fc q = F q := fun q z1 z2 z3 z4 z5 z6 => by rw [← hFc, tkF_ne (by omega)]
    have d1 : E1.1 = E.1 := by rw [← hE1]; rfl
    have d2 : E1.2.1 = E.2.1 := by rw [← hE1]; rfl
    have d3 : E1.2.2.1 = E.2.2.1 := by rw [← hE1]; rfl
    have d4 : ∀ q, q ≠ 18 → E1.2.2.2 q = E.2.2.2 q := fun q z => by
      rw [← hE1]; exact uR_ne z
    have er : rfQ E1 18 0 = rfQ E a 0 := by
      rw [← hE1]
      show uR E.2.2.2 18 (uC (E.2.2.2 18) 0 (rfQ E a 0)) 18 0 = _
      rw [uR_at, uC_at]
    have hN : SnR Fc 18 (imK F x.toNat) := by rw [← hFc]; exact SnR_tk n4 n5.1.2.2.2.2.2.1.1
    have hw := wx_367_0 hc
    have hm := ml_rest (d := d + 1) (E := E1) (F := Fc) (G := G) (x := x) hxr (by rw [k1 222 (by omega) (by omega) (by omega) (by omega) (by omega) (by omega)]; exact h222) (by omega)
    rw [rest_same (k1 222 (by omega) (by omega) (by omega) (by omega) (by omega) (by omega)), if_pos g] at hm
    rw [← ex] at hw hm
    obtain ⟨y5, y6, hr⟩ := tq_3679 (z5 := z5) (z6 := z6) hE hk hw d3 (k1 0 (by omega) (by omega) (by omega) (by omega) (by omega) (by omega)) hm (by unfold reM; rw [uR_ne (by decide), uR_at, uC_at]) (by omega)
    have kk : ∀ q, q ≠ 18 → q ≠ 25 → q ≠ 26 → q ≠ 27 → q ≠ 28 → q ≠ 29 → q ≠ 217 → q ≠ 218 → reM Fc x q = F q := fun q z1 z2 z3 z4 z5 z6 z7 z8 => by rw [reM_ne ⟨z7, z8⟩]; exact k1 q z1 z2 z3 z4 z5 z6
    have k217 : reM Fc x 217 = uC (F 217) 5 (zI 0) := by unfold reM; rw [uR_ne (by decide), uR_at, k1 217 (by omega) (by omega) (by omega) (by omega) (by omega) (by omega)]
    have hal : AlK (reM Fc x 218) (imK F x.toNat) := fun j j0 j1 => by
      unfold reM imK
      rw [uR_at, k1 221 (by omega) (by omega) (by omega) (by omega) (by omega) (by omega), hxn]
      exact if_pos ⟨j0, by omega⟩
    have hsx : ∀ q, shx E1 q = shx E q := fun q => by unfold shx; rw [d3]
    have hO1 : SnO E1 (reM Fc x) 18 (imK F x.toNat) := by
      refine ⟨SnS_18, ?_, ?_, tk_SnR (fun q z1 z2 => reM_ne (by omega)) hN, n5⟩
      · rw [er]; exact PlS_mv (fun q z1 z2 => hsx q) n2
      · rw [er]
        refine PlR_move n5 (fun q z1 z2 => kk q ?_ ?_ ?_ ?_ ?_ ?_ ?_ ?_) (fun _ _ => rfl) n3 <;> (unfold InU at m4; omega)
    refine ⟨y5, y6, _, _, _, hr, CLS_new hC ⟨al_SnO hal hO1, ?_, ?_⟩ ⟨by rw [er]; exact m4.m (by omega), by rw [er]; unfold ApI; rw [d4 42 (by omega)]; exact m5⟩ ?_ (fun q hq => kk q (by omega) (by omega) (by omega) (by omega) (by omega) (by omega) (by omega) (by omega)) (fun _ _ => rfl) ⟨d4 43 (by omega), d4 49 (by omega), d4 173 (by omega)⟩ (by rw [d3]) (by omega) ⟨⟨t, ?_⟩, ?_, ?_, ?_⟩, by omega, by omega⟩
    · rw [hal 5 (by omega) (by omega), al_steps hal n5.1]; exact m6
    · rw [al_steps hal n5.1]; exact m7
    · exact ImR_keep him (by omega) (by omega) (d4 42 (by omega)) (fun q z1 z2 => d4 q (by omega)) (fun q _ _ => by rw [d3]) (fun q hq => kk q (by omega) (by omega) (by omega) (by omega) (by omega) (by omega) (by omega) (by omega))
    · obtain ⟨c1, c2, c3, c4⟩ := ht
      refine ⟨c1, by rw [kk 16 (by omega) (by omega) (by omega) (by omega) (by omega) (by omega) (by omega) (by omega)]; exact c2, by rw [k217, uC_ne (by decide)]; exact c3, ?_⟩
      rw [kk 17 (by omega) (by omega) (by omega) (by omega) (by omega) (by omega) (by omega) (by omega), kk 223 (by omega) (by omega) (by omega) (by omega) (by omega) (by omega) (by omega) (by omega)]; exact c4
    · rw [kk 16 (by omega) (by omega) (by omega) (by omega) (by omega) (by omega) (by omega) (by omega), k217, uC_ne (by decide)]; exact t3
    · rw [kk 16 (by omega) (by omega) (by omega) (by omega) (by omega) (by omega) (by omega) (by omega), k217, uC_ne (by decide)]; exact t4
    · rw [k217, uC_ne (by decide)]; exact h18
  · have hrg : a_rest F x = 1 ∨ a_rest F x = 2 := by
      unfold a_rest at g ⊢
      (repeat' split) <;> (repeat' split at g) <;> omega
    have hw : callP MP (d + 1) 367 [.ref 16, .int (zI x)] (mk E F G) = some (Sum.inl (some (.int (zI (a_rest F x)))), mk (jE E) F G) := by
      rcases hrg with h | h
      · rw [if_neg g, if_pos h] at hc
        rw [wx_367_1 hc, h]
      · rw [if_neg g, if_neg (by omega)] at hc
        rw [wx_367_2 hc, h]
    have hm := ml_rest (d := d + 1) (E := jE E) (F := F) (G := G) (x := x) hxr h222 (by omega)
    rw [if_neg g] at hm
    rw [← ex] at hw hm
    obtain ⟨y5, y6, hr⟩ := tq_3679 (z5 := z5) (z6 := z6) hE hk hw rfl rfl hm (by rw [uR_at, uC_at]) (by omega)
    exact ⟨y5, y6, _, _, _, hr, CLS_M (CLS_C hC KeepC_j) KeepM_c, by show E.1 + 1 ≤ _; omega, by show E.2.1 + 6 ≤ _; omega⟩
end S94zzzzzn
