/-! TOP: what holds at the start; all runs -/
section S94zzzzzs
set_option linter.unusedVariables false
set_option linter.unusedSimpArgs false
theorem CLS_00 {L : Nat} {xs : Nat → Int32} : CLS 0 L (E00 L) (F00 xs) G00 := by
  have hf : ∀ q, q ≠ 0 → q ≠ 218 → F00 xs q = rw0 (cd0 q) := fun q h1 h2 => by unfold F00; rw [if_neg h1, if_neg h2]
  have f218 : F00 xs 218 = uC (uC (fun _ => 0) 4 20) 168 20 := rfl
  have hal : AlK (F00 xs 218) (frD (fun _ => 0)) := fun j j0 j1 => by
    rw [f218, fr_at ⟨j0, by omega⟩]
    by_cases h8 : j = 168
    · rw [if_pos (Or.inr h8), uC_eq h8]; rfl
    · rw [uC_ne h8]
      by_cases h4 : j = 4
      · rw [if_pos (Or.inl h4), uC_eq h4]; rfl
      · rw [uC_ne h4, if_neg (by omega)]; rfl
  have hI : InvK (frD (fun _ => 0)) := fr_pa.1
  have hK : InvK (F00 xs 218) := al_InvK hal hI
  have er : rfQ (E00 L) 18 0 = 19 := rfl
  have z0' : ∀ j, j ≠ 4 → j ≠ 168 → F00 xs 218 j = 0 := fun j h4 h8 => by rw [f218, uC_ne h8, uC_ne h4]
  have t0 : ∀ j, j ≠ 4 → j ≠ 168 → tI (F00 xs 218 j) = 0 := fun j h4 h8 => by rw [z0' j h4 h8]; rfl
  have hst : stepsZ (F00 xs 218) = 0 := by
    unfold stepsZ
    rw [t0 3 (by decide) (by decide)]; rfl
  have hO : SnO (E00 L) (F00 xs) 18 (F00 xs 218) := by
    refine ⟨SnS_18, ?_, ?_, ?_, hK⟩
    · rw [er]; exact PlS_19
    · rw [er]
      have hp := (fr_pl (F := F00 xs) (p := 19) (r := fun _ => 0) (fun k hk => by
        rw [hf _ (by omega) (by omega)]
        rcases (show k = 0 ∨ k = 1 ∨ k = 2 ∨ k = 3 ∨ k = 4 ∨ k = 5 by omega) with rfl | rfl | rfl | rfl | rfl | rfl <;> rfl)).1
      obtain ⟨r0, r1, r2, r3, r4⟩ := hp
      unfold PlR
      rw [hal 0 (by omega) (by omega), hal 1 (by omega) (by omega), hal 2 (by omega) (by omega), hal 3 (by omega) (by omega), hal 168 (by omega) (by omega), hal 166 (by omega) (by omega), hal 167 (by omega) (by omega)]
      refine ⟨r0, fun i i0 i1 => ?_, fun x y x0 x1 y0 y1 => ?_, fun x x0 x1 => ?_, fun x k x0 x1 k0 k1 => ?_⟩
      · have := hI.1.2.2.1
        rw [hal (6 + i) (by omega) (by omega)]; exact r1 i i0 i1
      · rw [al_way hal hI.1]; exact r2 x y x0 x1 y0 y1
      · rw [hal (170 + 9 * x) (by omega) (by omega)]; exact r3 x x0 x1
      · rw [hal (170 + 9 * x) (by omega) (by omega)] at k1
        have hb := (hI.2.2.1 x x0 x1).1
        rw [hal (171 + 9 * x + k) (by omega) (by omega)]; exact r4 x k x0 x1 k0 k1
    · have e18 : F00 xs 18 = snRw 0 := rfl
      have e27 : ∀ k, k = 9 ∨ k = 10 ∨ k = 11 → F00 xs (18 + k) = fun _ => 0 := fun k hk => by
        rcases hk with rfl | rfl | rfl <;> rfl
      unfold SnR
      rw [e18, hst, t0 5 (by decide) (by decide), t0 169 (by decide) (by decide)]
      refine ⟨⟨?_, ?_, ?_⟩, ⟨?_, ?_, ?_, ?_⟩, fun i i0 i1 => by omega, fun i i0 i1 => by omega, fun x x0 x1 => ?_⟩
      · rfl
      · rw [z0' 5 (by decide) (by decide)]; rfl
      · rfl
      · exact Int.le_refl _
      · decide
      · exact Int.le_refl _
      · have : tI (F00 xs 218 168) = 20 := by rw [f218, uC_at]; rfl
        rw [this]; rfl
      · rw [e27 9 (by omega), e27 10 (by omega), e27 11 (by omega), z0' _ (by omega) (by omega), z0' _ (by omega) (by omega), z0' _ (by omega) (by omega)]
        exact ⟨rfl, rfl, rfl⟩
  refine ⟨⟨hO, by rw [hst, t0 5 (by decide) (by decide)]; exact Int.le_refl _, by rw [hst]; exact Int.le_refl _⟩, ⟨Or.inl er, fun i hi hn => absurd (show (E00 L).2.2.2 42 (i : Int) = 0 from rfl) hn⟩, ⟨fun i hi => Or.inl ⟨rfl, rfl⟩, fun i j hi hj hij hn _ => absurd (show (E00 L).2.2.2 42 (i : Int) = 0 from rfl) hn⟩, ⟨fun t ht => ?_, ⟨0, by omega, rfl, rfl, fun i i0 i1 => by omega⟩, rfl, rfl, rfl⟩, ⟨fun g hg => ?_, fun i hi => ?_⟩, ⟨Nat.le_refl _, rfl⟩⟩
  · have hc : ((E00 L).2.2.2 43 (t : Int) = 209 + 2 * t) := by
      show (if 0 ≤ (t : Int) ∧ (t : Int) < 4 then 209 + 2 * (t : Int).toNat else 0) = _
      rw [if_pos (by omega)]; omega
    have m1 : tI (F00 xs 243 (t : Int)) = -1 := by
      show tI (if 0 ≤ (t : Int) ∧ (t : Int) < 4 then -1 else 0) = -1
      rw [if_pos (by omega)]; rfl
    have m2 : tI (F00 xs 244 (t : Int)) = 0 := rfl
    refine ⟨hc, ?_, ?_, by omega, by omega, ?_⟩
    all_goals rcases (show t = 0 ∨ t = 1 ∨ t = 2 ∨ t = 3 by omega) with rfl | rfl | rfl | rfl
    all_goals first | exact fun i _ _ => rfl | rfl
  · show (if 0 ≤ (g : Int) ∧ (g : Int) < 4 then 174 + (g : Int).toNat else 0) = _
    rw [if_pos (by omega)]; omega
  · have e : RF0 49 = R00 49 := if_neg (by decide)
    have er : (E00 L).2.2.2 = RF0 := rfl
    rw [er, e, R00_49, if_pos (by omega)]; omega
theorem runs_all (L : Nat) (xs : Nat → Int32) (hL : L ≤ 3072) : RunsP L xs := by
  obtain ⟨h1, hr, e1, e2⟩ := tu_loop (d := 1000) hL (by omega) 512 0 0 (E00 L) (F00 xs) G00 none none CLS_00 (by omega) (by omega) (by omega) (by omega)
  refine ⟨h1, (run_start (by omega)).trans hr, ?_, ?_⟩
  · have : (E00 L).1 = 247 := rfl
    omega
  · have : (E00 L).2.1 = 115431 := rfl
    omega
end S94zzzzzs
