/-! reading a plain, theory 4 -/
section S94zzk
set_option linter.unusedVariables false
set_option linter.unusedSimpArgs false
theorem nm_0 {t : TkS} {lo hi : Int} (h : nmZ t lo hi = 0) : t.1 = 2 ∧ lo ≤ t.2.2.2 ∧ t.2.2.2 ≤ hi := by
  unfold nmZ at h
  by_cases c : t.1 = 2
  · rw [if_pos c] at h
    by_cases g : lo ≤ t.2.2.2 ∧ t.2.2.2 ≤ hi
    · exact ⟨c, g⟩
    · rw [if_neg g] at h; omega
  · rw [if_neg c] at h; omega
theorem av_st {T : Nat → Int} {n : Nat} {t : TkS} (h : TkN n t) : TkN n (av T n t) ∧ t.2.1 ≤ (av T n t).2.1 ∧ (t.1 ≠ 0 → t.2.1 < (av T n t).2.1) := by
  obtain ⟨a, b⟩ := av_inv (T := T) h.1
  have h3 := h.1.2.2.1
  exact ⟨a, by omega, fun z => by have := h.2 z; omega⟩
theorem InP_av {T : Nat → Int} {n : Nat} {D : Int → Int32} {t : TkS} {w : Int} (h : InP n D t w) : InP n D (av T n t) w ∧ t.2.1 ≤ (av T n t).2.1 := by
  obtain ⟨h1, h2, h3, h4⟩ := h
  obtain ⟨a, b, c⟩ := av_st (T := T) h2
  exact ⟨⟨h1, a, by omega, h4⟩, b⟩
theorem i_end {T : Nat → Int} {n : Nat} {s s' : PrS} {w : Int} (h : InP n s.1 s.2 w) (he : pEnd T n s = .inr s') : InP n s'.1 s'.2 w ∧ s.2.2.1 < s'.2.2.1 ∧ s'.1 3 = s.1 3 := by
  obtain ⟨h1, h2, h3, h4⟩ := h
  obtain ⟨a, b, c⟩ := av_st (T := T) h2
  unfold pEnd at he
  by_cases c3 : s.2.1 = 3
  · rw [if_pos c3] at he
    cases he
    have cc := c (by omega)
    have h0 := h1.1.1.1
    have hb := a.1.2.2.1
    have hb2 := a.1.2.2.2.1
    refine ⟨⟨PaJ_one h1 (Or.inl ⟨rfl, by omega, by omega⟩), a, ?_, h4⟩, cc, (uC_ne (show (3 : Int) ≠ 0 by decide) : uC s.1 0 (zI (tI (s.1 0) + 1)) 3 = s.1 3)⟩
    show tI (uC s.1 0 (zI (tI (s.1 0) + 1)) 0) ≤ (av T n s.2).2.1
    rw [uC_at, tI_zI (by omega)]; omega
  · rw [if_neg c3] at he; cases he
theorem i_one {T : Nat → Int} {n : Nat} {i lo hi : Int} {s s' : PrS} {w : Int} (h : InP n s.1 s.2 w) (hh : (i = 4 ∧ lo = 1 ∧ hi = 60) ∨ (i = 166 ∧ lo = 1 ∧ hi = 99) ∨ (i = 167 ∧ lo = 0 ∧ hi = 60) ∨ (i = 168 ∧ lo = 1 ∧ hi = 99)) (he : pOne T n i lo hi s = .inr s') : InP n s'.1 s'.2 w ∧ s.2.2.1 ≤ s'.2.2.1 ∧ s'.1 3 = s.1 3 := by
  obtain ⟨h1, h2, h3, h4⟩ := h
  obtain ⟨a, b, c⟩ := av_st (T := T) h2
  unfold pOne at he
  by_cases c3 : nmZ s.2 lo hi = 0
  · rw [if_pos c3] at he
    cases he
    obtain ⟨n1, n2, n3⟩ := nm_0 c3
    refine ⟨⟨PaJ_one h1 (by omega), a, ?_, h4⟩, b, (uC_ne (show (3 : Int) ≠ i by omega) : uC s.1 i (zI s.2.2.2.2) 3 = s.1 3)⟩
    show tI (uC s.1 i (zI s.2.2.2.2) 0) ≤ (av T n s.2).2.1
    rw [uC_ne (by omega)]; omega
  · rw [if_neg c3] at he; cases he
theorem bnd_inr {x : PrR} {f : PrS → PrR} {s : PrS} (h : bnd x f = .inr s) : ∃ u, x = .inr u ∧ f u = .inr s := by
  cases x with
  | inl e => cases h
  | inr u => exact ⟨u, rfl, h⟩
theorem i_storm {T : Nat → Int} {n : Nat} {s s' : PrS} {w : Int} (h : InP n s.1 s.2 w) (he : pStorm T n s = .inr s') : InP n s'.1 s'.2 w ∧ s.2.2.1 ≤ s'.2.2.1 ∧ s'.1 3 = s.1 3 := by
  obtain ⟨u, e1, e2⟩ := bnd_inr he
  obtain ⟨a, b, c⟩ := i_one (i := 166) (lo := 1) (hi := 99) h (by omega) e1
  obtain ⟨a2, b2, c2⟩ := i_one (i := 167) (lo := 0) (hi := 60) a (by omega) e2
  exact ⟨a2, by omega, c2.trans c⟩
theorem i_path {T : Nat → Int} {n : Nat} {D : Int → Int32} {t : TkS} {s' : PrS} {w : Int} (h : InP n D t w) (he : pPath T n D t = .inr s') : InP n s'.1 s'.2 w ∧ t.2.1 ≤ s'.2.2.1 ∧ s'.1 3 = D 3 := by
  obtain ⟨h1, h2, h3, h4⟩ := h
  obtain ⟨a, b, -⟩ := av_st (T := T) h2
  obtain ⟨a2, b2, -⟩ := av_st (T := T) a
  obtain ⟨a3, b3, -⟩ := av_st (T := T) a2
  have p2 := h1.1.1.2.2.1
  unfold pPath at he
  by_cases c0 : tI (D 2) = 16
  · rw [if_pos c0] at he; cases he
  · rw [if_neg c0] at he
    by_cases c1 : nmZ (av T n t) 0 (tI (D 1) - 1) = 0
    · rw [if_pos c1] at he
      by_cases c2 : nmZ (av T n (av T n t)) 0 (tI (D 1) - 1) = 0
      · rw [if_pos c2] at he
        by_cases c3 : (av T n (av T n t)).2.2.2 = (av T n t).2.2.2 ∨ pathZ D (av T n t).2.2.2 (av T n (av T n t)).2.2.2 ≠ -1
        · rw [if_pos c3] at he; cases he
        · rw [if_neg c3] at he
          cases he
          obtain ⟨-, n1, n2⟩ := nm_0 c1
          obtain ⟨-, m1, m2⟩ := nm_0 c2
          refine ⟨⟨PaJ_path h1 (by omega) ⟨n1, by omega⟩ ⟨m1, by omega⟩ (fun z => c3 (Or.inl z.symm)) (Decidable.byContradiction fun z => c3 (Or.inr z)), a3, ?_, h4⟩, by show t.2.1 ≤ (av T n (av T n (av T n t))).2.1; omega, (ap_ne (by omega) (by omega) (by omega) : addPa D (av T n t).2.2.2 (av T n (av T n t)).2.2.2 3 = D 3)⟩
          show tI (addPa D (av T n t).2.2.2 (av T n (av T n t)).2.2.2 0) ≤ (av T n (av T n (av T n t))).2.1
          rw [ap_ne (by omega) (by omega) (by omega)]; omega
      · rw [if_neg c2] at he; cases he
    · rw [if_neg c1] at he; cases he
theorem i_bt {T : Nat → Int} {n : Nat} {s' : PrS} : ∀ (m : Nat) (D : Int → Int32) (t : TkS), InP n D t (tI (D 3) + 1) → tI (D 3) < 4 → tI (D (170 + 9 * tI (D 3))) + m = 8 → pBt T n (170 + 9 * tI (D 3)) m D t = .inr s' → InP n s'.1 s'.2 (tI (D 3) + 1) ∧ t.2.1 ≤ s'.2.2.1 ∧ s'.1 3 = D 3 ∧ s'.1 1 = D 1 := by
  intro m
  induction m with
  | zero =>
    intro D t h h4 hl he
    unfold pBt at he
    by_cases c1 : nmZ t 0 (tI (D 1) - 1) = 0
    · rw [if_pos c1] at he; cases he
    · rw [if_neg c1] at he; cases he
  | succ m ih =>
    intro D t h h4 hl he
    obtain ⟨h1, h2, h3, h5⟩ := h
    obtain ⟨a, b, -⟩ := av_st (T := T) h2
    unfold pBt at he
    by_cases c1 : nmZ t 0 (tI (D 1) - 1) = 0
    · rw [if_pos c1] at he
      obtain ⟨-, n1, n2⟩ := nm_0 c1
      have w0 := h1.1.1.2.2.2.1
      have l0 := (h1.1.2.2.1 (tI (D 3)) w0.1 h4).1
      have hP := PaJ_bt h1 h4 (by omega) ⟨n1, by omega⟩
      obtain ⟨e3, e1, e0⟩ := bt_3 (D := D) (v := t.2.2.2) w0.1 l0.1
      have hq : tI (addBt D (170 + 9 * tI (D 3)) t.2.2.2 (170 + 9 * tI (D 3))) = tI (D (170 + 9 * tI (D 3))) + 1 := by
        unfold addBt; rw [uC_ne (by omega), uC_at, tI_zI (by omega)]
      have hI : InP n (addBt D (170 + 9 * tI (D 3)) t.2.2.2) (av T n t) (tI (D 3) + 1) := ⟨hP, a, by rw [e0]; omega, h5⟩
      by_cases c2 : (av T n t).1 = 2
      · rw [if_pos c2] at he
        have := ih (addBt D (170 + 9 * tI (D 3)) t.2.2.2) (av T n t)
        rw [e3, e1, hq] at this
        obtain ⟨r1, r2, r3, r4⟩ := this hI h4 (by omega) he
        exact ⟨r1, by omega, r3, r4⟩
      · rw [if_neg c2] at he
        cases he
        exact ⟨hI, b, e3, e1⟩
    · rw [if_neg c1] at he; cases he
theorem i_walk {T : Nat → Int} {n : Nat} {D : Int → Int32} {t : TkS} {s' : PrS} (h : InP n D t (tI (D 3))) (he : pWalk T n D t = .inr s') : InP n s'.1 s'.2 (tI (s'.1 3)) ∧ t.2.1 ≤ s'.2.2.1 := by
  obtain ⟨h1, h2, h3, h4⟩ := h
  obtain ⟨a, b, -⟩ := av_st (T := T) h2
  obtain ⟨a2, b2, -⟩ := av_st (T := T) a
  obtain ⟨a3, b3, -⟩ := av_st (T := T) a2
  have w0 := h1.1.1.2.2.2.1
  unfold pWalk at he
  by_cases c0 : tI (D 3) = 4
  · rw [if_pos c0] at he; cases he
  · rw [if_neg c0] at he
    have w4 : tI (D 3) < 4 := by omega
    rw [beg_id h1 w4] at he
    by_cases c1 : nmZ (av T n t) 0 (tI (D 1) - 1) = 0
    · rw [if_pos c1] at he
      obtain ⟨-, n1, n2⟩ := nm_0 c1
      have hm := PaJ_mono h1 (v := tI (D 3) + 1) (by omega)
      by_cases c2 : isW T 6 (av T n (av T n t)) = true
      · rw [if_pos c2] at he
        obtain ⟨u, e1, e2⟩ := bnd_inr he
        cases e2
        have hz := h1.2.2.2.2 (tI (D 3)) w0.1 (Int.le_refl _) w4
        obtain ⟨r1, r2, r3, r4⟩ := i_bt 8 D (av T n (av T n (av T n t))) ⟨hm, a3, by omega, h4⟩ w4 (by rw [hz, tz0]; rfl) e1
        obtain ⟨q1, q2, q3, q4⟩ := r1
        have hk := PaJ_wk (D := u.1) (v := (av T n t).2.2.2) (by rw [r3]; exact q1) (by rw [r3]; exact w4) ⟨n1, by rw [r4]; omega⟩
        have h01 := wk_01 (D := u.1) (v := (av T n t).2.2.2) (by rw [r3]; exact w0.1)
        exact ⟨⟨hk.1, q2, by show tI (addWk u.1 (av T n t).2.2.2 0) ≤ u.2.2.1; rw [h01.1]; exact q3, h4⟩, by show t.2.1 ≤ u.2.2.1; omega⟩
      · rw [if_neg c2] at he
        cases he
        have hk := PaJ_wk (D := D) (v := (av T n t).2.2.2) hm w4 ⟨n1, by omega⟩
        have h01 := wk_01 (D := D) (v := (av T n t).2.2.2) w0.1
        exact ⟨⟨hk.1, a2, by show tI (addWk D (av T n t).2.2.2 0) ≤ (av T n (av T n t)).2.1; rw [h01.1]; omega, h4⟩, by show t.2.1 ≤ (av T n (av T n t)).2.1; omega⟩
    · rw [if_neg c1] at he; cases he
theorem i_kind {T : Nat → Int} {n : Nat} {D : Int → Int32} {t : TkS} {s' : PrS} (h : InP n D t (tI (D 3))) (he : pKind T n D t = .inr s') : InP n s'.1 s'.2 (tI (s'.1 3)) ∧ t.2.1 ≤ s'.2.2.1 := by
  obtain ⟨h', b⟩ := InP_av (T := T) h
  unfold pKind at he
  by_cases c1 : isW T 1 t = true
  · rw [if_pos c1] at he
    obtain ⟨r1, r2, r3⟩ := i_path h he
    exact ⟨by rw [r3]; exact r1, r2⟩
  · rw [if_neg c1] at he
    by_cases c2 : isW T 2 t = true
    · rw [if_pos c2] at he; exact i_walk h he
    · rw [if_neg c2] at he
      by_cases c3 : isW T 3 t = true
      · rw [if_pos c3] at he
        obtain ⟨r1, r2, r3⟩ := i_one (i := 4) (lo := 1) (hi := 60) (s := (D, av T n t)) h' (by omega) he
        exact ⟨by rw [r3]; exact r1, Int.le_trans b r2⟩
      · rw [if_neg c3] at he
        by_cases c4 : isW T 4 t = true
        · rw [if_pos c4] at he
          obtain ⟨r1, r2, r3⟩ := i_storm (s := (D, av T n t)) h' he
          exact ⟨by rw [r3]; exact r1, Int.le_trans b r2⟩
        · rw [if_neg c4] at he
          by_cases c5 : isW T 5 t = true
          · rw [if_pos c5] at he
            obtain ⟨r1, r2, r3⟩ := i_one (i := 168) (lo := 1) (hi := 99) (s := (D, av T n t)) h' (by omega) he
            exact ⟨by rw [r3]; exact r1, Int.le_trans b r2⟩
          · rw [if_neg c5] at he; cases he
theorem i_line {T : Nat → Int} {n : Nat} {D : Int → Int32} {t : TkS} {s' : PrS} (h : InP n D t (tI (D 3))) (he : pLine T n D t = .inr s') : InP n s'.1 s'.2 (tI (s'.1 3)) ∧ t.2.1 < s'.2.2.1 := by
  obtain ⟨u, e1, e2⟩ := bnd_inr he
  obtain ⟨r1, r2⟩ := i_kind h e1
  obtain ⟨q1, q2, q3⟩ := i_end r1 e2
  exact ⟨by rw [q3]; exact q1, by omega⟩
theorem i_lines {T : Nat → Int} {n : Nat} {s' : PrS} : ∀ (m : Nat) (D : Int → Int32) (t : TkS), InP n D t (tI (D 3)) → (n : Int) ≤ t.2.1 + m → pLines T n m D t = .inr s' → InP n s'.1 s'.2 (tI (s'.1 3)) ∧ s'.2.1 = 0 := by
  intro m
  induction m with
  | zero =>
    intro D t h hn he
    unfold pLines at he
    cases he
    refine ⟨h, Decidable.byContradiction fun z => ?_⟩
    have := h.2.1.2 z
    have := h.2.1.1.2.2.2.1
    omega
  | succ m ih =>
    intro D t h hn he
    unfold pLines at he
    by_cases c : t.1 = 0
    · rw [if_pos c] at he
      cases he
      exact ⟨h, c⟩
    · rw [if_neg c] at he
      obtain ⟨u, e1, e2⟩ := bnd_inr he
      obtain ⟨r1, r2⟩ := i_line h e1
      exact ih u.1 u.2 r1 (by omega) e2
end S94zzk
