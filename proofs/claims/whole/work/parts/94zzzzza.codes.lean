/-! TOP: the codes of the answers -/
section S94zzzzza
set_option linter.unusedVariables false
set_option linter.unusedSimpArgs false
theorem sgC2_rg {F : Nat → Int → Int32} {G : Nat → Int → Int64} {K : Int → Int32} {x v : Int} : 0 ≤ (sgC2 F G K x v).1 ∧ (sgC2 F G K x v).1 ≤ 3 := by
  have h := sgZ_rg (F := F) (G := G) (K := K) (x := x)
  unfold sgC2
  (repeat' split) <;> first | decide | (dsimp only; omega) | omega
theorem co_prints {K : Int → Int32} {x y : Int} : 0 ≤ (a_prints K x y).1 ∧ (a_prints K x y).1 ≤ 1 := by
  unfold a_prints
  (try unfold tfZ); (repeat' split) <;> first | exact sgC2_rg | decide | (dsimp only; omega) | omega
theorem co_path {K : Int → Int32} {x y : Int} : 0 ≤ (a_path K x y).1 ∧ (a_path K x y).1 ≤ 2 := by
  unfold a_path
  (try unfold tfZ); (repeat' split) <;> first | exact sgC2_rg | decide | (dsimp only; omega) | omega
theorem co_walker {K : Int → Int32} {x y : Int} : 0 ≤ (a_walker K x y).1 ∧ (a_walker K x y).1 ≤ 2 := by
  unfold a_walker
  (try unfold tfZ); (repeat' split) <;> first | exact sgC2_rg | decide | (dsimp only; omega) | omega
theorem co_print {K : Int → Int32} {x y : Int} : 0 ≤ (a_print K x y).1 ∧ (a_print K x y).1 ≤ 2 := by
  unfold a_print
  (try unfold tfZ); (repeat' split) <;> first | exact sgC2_rg | decide | (dsimp only; omega) | omega
theorem co_age {K : Int → Int32} {x y : Int} : 0 ≤ (a_age K x y).1 ∧ (a_age K x y).1 ≤ 1 := by
  unfold a_age
  (try unfold tfZ); (repeat' split) <;> first | exact sgC2_rg | decide | (dsimp only; omega) | omega
theorem co_fades {K : Int → Int32} {x y : Int} : 0 ≤ (a_fades K x y).1 ∧ (a_fades K x y).1 ≤ 1 := by
  unfold a_fades
  (try unfold tfZ); (repeat' split) <;> first | exact sgC2_rg | decide | (dsimp only; omega) | omega
theorem co_hired {K : Int → Int32} {x : Int} : 0 ≤ (a_hired K x).1 ∧ (a_hired K x).1 ≤ 1 := by
  unfold a_hired
  (try unfold tfZ); (repeat' split) <;> first | exact sgC2_rg | decide | (dsimp only; omega) | omega
theorem co_hires {K : Int → Int32} {x y : Int} : 0 ≤ (a_hires K x y).1 ∧ (a_hires K x y).1 ≤ 2 := by
  unfold a_hires
  (try unfold tfZ); (repeat' split) <;> first | exact sgC2_rg | decide | (dsimp only; omega) | omega
theorem co_crossing {K : Int → Int32} {x y : Int} : 0 ≤ (a_crossing K x y).1 ∧ (a_crossing K x y).1 ≤ 1 := by
  unfold a_crossing
  (try unfold tfZ); (repeat' split) <;> first | exact sgC2_rg | decide | (dsimp only; omega) | omega
theorem co_seen {K : Int → Int32} {x y : Int} : 0 ≤ (a_seen K x y).1 ∧ (a_seen K x y).1 ≤ 1 := by
  unfold a_seen
  (try unfold tfZ); (repeat' split) <;> first | exact sgC2_rg | decide | (dsimp only; omega) | omega
theorem co_wolves {K : Int → Int32} : 0 ≤ (a_wolves K).1 ∧ (a_wolves K).1 ≤ 0 := by
  unfold a_wolves
  (try unfold tfZ); (repeat' split) <;> first | exact sgC2_rg | decide | (dsimp only; omega) | omega
theorem co_wolf {K : Int → Int32} {x y : Int} : 0 ≤ (a_wolf K x y).1 ∧ (a_wolf K x y).1 ≤ 2 := by
  unfold a_wolf
  (try unfold tfZ); (repeat' split) <;> first | exact sgC2_rg | decide | (dsimp only; omega) | omega
theorem co_hound {K : Int → Int32} {x y : Int} : 0 ≤ (a_hound K x y).1 ∧ (a_hound K x y).1 ≤ 2 := by
  unfold a_hound
  (try unfold tfZ); (repeat' split) <;> first | exact sgC2_rg | decide | (dsimp only; omega) | omega
theorem co_beat {K : Int → Int32} {x y : Int} : 0 ≤ (a_beat K x y).1 ∧ (a_beat K x y).1 ≤ 2 := by
  unfold a_beat
  (try unfold tfZ); (repeat' split) <;> first | exact sgC2_rg | decide | (dsimp only; omega) | omega
theorem co_remains {K : Int → Int32} {x y : Int} : 0 ≤ (a_remains K x y).1 ∧ (a_remains K x y).1 ≤ 2 := by
  unfold a_remains
  (try unfold tfZ); (repeat' split) <;> first | exact sgC2_rg | decide | (dsimp only; omega) | omega
theorem co_step {K : Int → Int32} {x y : Int} : 0 ≤ (a_step K x y).1 ∧ (a_step K x y).1 ≤ 0 := by
  unfold a_step
  (try unfold tfZ); (repeat' split) <;> first | exact sgC2_rg | decide | (dsimp only; omega) | omega
theorem co_storm {K : Int → Int32} {x : Int} : 0 ≤ (a_storm K x).1 ∧ (a_storm K x).1 ≤ 1 := by
  unfold a_storm
  (try unfold tfZ); (repeat' split) <;> first | exact sgC2_rg | decide | (dsimp only; omega) | omega
theorem co_noon {K : Int → Int32} : 0 ≤ (a_noon K).1 ∧ (a_noon K).1 ≤ 0 := by
  unfold a_noon
  (try unfold tfZ); (repeat' split) <;> first | exact sgC2_rg | decide | (dsimp only; omega) | omega
theorem co_keep {K : Int → Int32} {x : Int} : 0 ≤ (a_keep K x).1 ∧ (a_keep K x).1 ≤ 1 := by
  unfold a_keep
  (try unfold tfZ); (repeat' split) <;> first | exact sgC2_rg | decide | (dsimp only; omega) | omega
theorem co_rounds {K : Int → Int32} {x : Int} : 0 ≤ (a_rounds K x).1 ∧ (a_rounds K x).1 ≤ 1 := by
  unfold a_rounds
  (try unfold tfZ); (repeat' split) <;> first | exact sgC2_rg | decide | (dsimp only; omega) | omega
theorem co_perform {K : Int → Int32} {F : Nat → Int → Int32} {G : Nat → Int → Int64} {x : Int} : 0 ≤ (a_perform K F G x).1 ∧ (a_perform K F G x).1 ≤ 2 := by
  unfold a_perform
  (try unfold tfZ); (repeat' split) <;> first | exact sgC2_rg | decide | (dsimp only; omega) | omega
theorem co_judge {K : Int → Int32} {F : Nat → Int → Int32} {G : Nat → Int → Int64} {x y : Int} : 0 ≤ (a_judge K F G x y).1 ∧ (a_judge K F G x y).1 ≤ 3 := by
  unfold a_judge
  (try unfold tfZ); (repeat' split) <;> first | exact sgC2_rg | decide | (dsimp only; omega) | omega
theorem co_behind {K : Int → Int32} {F : Nat → Int → Int32} {G : Nat → Int → Int64} {x y z : Int} : 0 ≤ (a_behind K F G x y z).1 ∧ (a_behind K F G x y z).1 ≤ 2 := by
  unfold a_behind
  (try unfold tfZ); (repeat' split) <;> first | exact sgC2_rg | decide | (dsimp only; omega) | omega
theorem co_day {K : Int → Int32} {s : Int32} {x : Int} : 0 ≤ (a_day K s x).1 ∧ (a_day K s x).1 ≤ 2 := by
  unfold a_day
  (try unfold tfZ); (repeat' split) <;> first | exact sgC2_rg | decide | (dsimp only; omega) | omega
theorem co_tryb {K : Int → Int32} {x y : Int} : 0 ≤ (a_tryb K x y).1 ∧ (a_tryb K x y).1 ≤ 2 := by
  unfold a_tryb
  (try unfold tfZ); (repeat' split) <;> first | exact sgC2_rg | decide | (dsimp only; omega) | omega
theorem co_back {K : Int → Int32} {x : Int} : 0 ≤ (a_back K x).1 ∧ (a_back K x).1 ≤ 1 := by
  unfold a_back
  (try unfold tfZ); (repeat' split) <;> first | exact sgC2_rg | decide | (dsimp only; omega) | omega
theorem co_bare {K : Int → Int32} : 0 ≤ (a_bare K).1 ∧ (a_bare K).1 ≤ 0 := by
  unfold a_bare
  (try unfold tfZ); (repeat' split) <;> first | exact sgC2_rg | decide | (dsimp only; omega) | omega
theorem co_count {K : Int → Int32} {t x : Int} : 0 ≤ (a_count K t x).1 ∧ (a_count K t x).1 ≤ 0 := by
  unfold a_count
  (try unfold tfZ); (repeat' split) <;> first | exact sgC2_rg | decide | (dsimp only; omega) | omega
theorem co_fault {f g x : Int} : 0 ≤ (a_fault f g x).1 ∧ (a_fault f g x).1 ≤ 0 := by
  unfold a_fault
  (try unfold tfZ); (repeat' split) <;> first | exact sgC2_rg | decide | (dsimp only; omega) | omega
theorem co_reads {F : Nat → Int → Int32} {K : Int → Int32} {x : Int} : 0 ≤ (a_reads F K x).1 ∧ (a_reads F K x).1 ≤ 2 := by
  unfold a_reads
  (try unfold tfZ); (repeat' split) <;> first | exact sgC2_rg | decide | (dsimp only; omega) | omega
theorem co_dist {K : Int → Int32} {x y : Int} : 0 ≤ (a_dist K x y).1 ∧ (a_dist K x y).1 ≤ 1 := by
  unfold a_dist
  (try unfold tfZ); (repeat' split) <;> first | exact sgC2_rg | decide | (dsimp only; omega) | omega
theorem co_hunts {K : Int → Int32} {x y : Int} : 0 ≤ (a_hunts K x y).1 ∧ (a_hunts K x y).1 ≤ 1 := by
  unfold a_hunts
  (try unfold tfZ); (repeat' split) <;> first | exact sgC2_rg | decide | (dsimp only; omega) | omega
theorem co_hunter {K : Int → Int32} {x y : Int} : 0 ≤ (a_hunter K x y).1 ∧ (a_hunter K x y).1 ≤ 2 := by
  unfold a_hunter
  (try unfold tfZ); (repeat' split) <;> first | exact sgC2_rg | decide | (dsimp only; omega) | omega
theorem co_meets {K : Int → Int32} {x y : Int} : 0 ≤ (a_meets K x y).1 ∧ (a_meets K x y).1 ≤ 1 := by
  unfold a_meets
  (try unfold tfZ); (repeat' split) <;> first | exact sgC2_rg | decide | (dsimp only; omega) | omega
theorem co_homes {K : Int → Int32} {x y : Int} : 0 ≤ (a_homes K x y).1 ∧ (a_homes K x y).1 ≤ 1 := by
  unfold a_homes
  (try unfold tfZ); (repeat' split) <;> first | exact sgC2_rg | decide | (dsimp only; omega) | omega
theorem co_barg {F : Nat → Int → Int32} {G : Nat → Int → Int64} {K : Int → Int32} {x : Int} : 0 ≤ (a_barg F G K x).1 ∧ (a_barg F G K x).1 ≤ 3 := by
  unfold a_barg
  (try unfold tfZ); (repeat' split) <;> first | exact sgC2_rg | decide | (dsimp only; omega) | omega
theorem co_again {K : Int → Int32} {x : Int} : 0 ≤ (a_again K x).1 ∧ (a_again K x).1 ≤ 1 := by
  unfold a_again
  (try unfold tfZ); (repeat' split) <;> first | exact sgC2_rg | decide | (dsimp only; omega) | omega
theorem co_patrol {F : Nat → Int → Int32} {G : Nat → Int → Int64} {K : Int → Int32} {x : Int} : 0 ≤ (a_patrol F G K x).1 ∧ (a_patrol F G K x).1 ≤ 3 := by
  unfold a_patrol
  (try unfold tfZ); (repeat' split) <;> first | exact sgC2_rg | decide | (dsimp only; omega) | omega
theorem co_tends {F : Nat → Int → Int32} {G : Nat → Int → Int64} {K : Int → Int32} {x : Int} : 0 ≤ (a_tends F G K x).1 ∧ (a_tends F G K x).1 ≤ 3 := by
  unfold a_tends
  (try unfold tfZ); (repeat' split) <;> first | exact sgC2_rg | decide | (dsimp only; omega) | omega
theorem co_crowd {F : Nat → Int → Int32} {G : Nat → Int → Int64} {K : Int → Int32} {x : Int} : 0 ≤ (a_crowd F G K x).1 ∧ (a_crowd F G K x).1 ≤ 3 := by
  unfold a_crowd
  (try unfold tfZ); (repeat' split) <;> first | exact sgC2_rg | decide | (dsimp only; omega) | omega
theorem co_pens {F : Nat → Int → Int32} {G : Nat → Int → Int64} {K : Int → Int32} {x : Int} : 0 ≤ (a_pens F G K x).1 ∧ (a_pens F G K x).1 ≤ 3 := by
  unfold a_pens
  (try unfold tfZ); (repeat' split) <;> first | exact sgC2_rg | decide | (dsimp only; omega) | omega
theorem co_writes {F : Nat → Int → Int32} {G : Nat → Int → Int64} {K : Int → Int32} {x y : Int} : 0 ≤ (a_writes F G K x y).1 ∧ (a_writes F G K x y).1 ≤ 3 := by
  unfold a_writes
  (try unfold tfZ); (repeat' split) <;> first | exact sgC2_rg | decide | (dsimp only; omega) | omega
theorem co_lasts {F : Nat → Int → Int32} {G : Nat → Int → Int64} {K : Int → Int32} {x : Int} : 0 ≤ (a_lasts F G K x).1 ∧ (a_lasts F G K x).1 ≤ 3 := by
  unfold a_lasts
  (try unfold tfZ); (repeat' split) <;> first | exact sgC2_rg | decide | (dsimp only; omega) | omega
theorem co_blur {K : Int → Int32} {x y z : Int} : 0 ≤ (a_blur K x y z).1 ∧ (a_blur K x y z).1 ≤ 2 := by
  unfold a_blur
  (try unfold tfZ); (repeat' split) <;> first | exact sgC2_rg | decide | (dsimp only; omega) | omega
theorem co_signs {K : Int → Int32} {x y : Int} : 0 ≤ (a_signs K x y).1 ∧ (a_signs K x y).1 ≤ 2 := by
  unfold a_signs
  (try unfold tfZ); (repeat' split) <;> first | exact sgC2_rg | decide | (dsimp only; omega) | omega
theorem co_rows {K : Int → Int32} {x : Int} : 0 ≤ (a_rows K x).1 ∧ (a_rows K x).1 ≤ 1 := by
  unfold a_rows
  (try unfold tfZ); (repeat' split) <;> first | exact sgC2_rg | decide | (dsimp only; omega) | omega
theorem co_row {K : Int → Int32} {x k i : Int} : 0 ≤ (a_row K x k i).1 ∧ (a_row K x k i).1 ≤ 1 := by
  unfold a_row
  (try unfold tfZ); (repeat' split) <;> first | exact sgC2_rg | decide | (dsimp only; omega) | omega
theorem co_sure {K : Int → Int32} {x y : Int} : 0 ≤ (a_sure K x y).1 ∧ (a_sure K x y).1 ≤ 1 := by
  unfold a_sure
  (try unfold tfZ); (repeat' split) <;> first | exact sgC2_rg | decide | (dsimp only; omega) | omega
theorem co_two {K : Int → Int32} {x y : Int} : 0 ≤ (a_two K x y).1 ∧ (a_two K x y).1 ≤ 1 := by
  unfold a_two
  (try unfold tfZ); (repeat' split) <;> first | exact sgC2_rg | decide | (dsimp only; omega) | omega
theorem co_clear {K : Int → Int32} {x z y : Int} : 0 ≤ (a_clear K x z y).1 ∧ (a_clear K x z y).1 ≤ 2 := by
  unfold a_clear
  (try unfold tfZ); (repeat' split) <;> first | exact sgC2_rg | decide | (dsimp only; omega) | omega
end S94zzzzza
