/-! TOP: what the answers take from the trays -/
section S94zzzzzb
set_option linter.unusedVariables false
set_option linter.unusedSimpArgs false
/-- the trays of the model alike -/
def TmA (F : Nat → Int → Int32) (G : Nat → Int → Int64) (F1 : Nat → Int → Int32) (G1 : Nat → Int → Int64) : Prop := F1 243 = F 243 ∧ F1 244 = F 244 ∧ G1 245 = G 245
theorem TmA_C {E E1 : EnQ} {F F1 : Nat → Int → Int32} {G G1 : Nat → Int → Int64} (h : KeepC E F G E1 F1 G1) : TmA F G F1 G1 := ⟨h.1 243 (by omega) (by unfold scrC; omega), h.1 244 (by omega) (by unfold scrC; omega), h.2.2.1 245 (by omega) (by omega) (by omega)⟩
theorem TmA_O {F F1 : Nat → Int → Int32} {G G1 : Nat → Int → Int64} {c : Int} {v : Int64} (h : TmA F G F1 G1) : TmA F G F1 (outG G1 c v) := ⟨h.1, h.2.1, by rw [outG_ne (by omega)]; exact h.2.2⟩
theorem tm_tf {F F1 : Nat → Int → Int32} {G G1 : Nat → Int → Int64} (h : TmA F G F1 G1) {x : Int} : tfZ F1 x = tfZ F x := by unfold tfZ; rw [h.1]
theorem tm_dM {F F1 : Nat → Int → Int32} {G G1 : Nat → Int → Int64} (h : TmA F G F1 G1) {x : Int} : tdM F1 x = tdM F x := by unfold tdM; rw [h.2.1]
theorem tm_dA {F F1 : Nat → Int → Int32} {G G1 : Nat → Int → Int64} (h : TmA F G F1 G1) {x : Int} : tdA G1 x = tdA G x := by unfold tdA; rw [h.2.2]
theorem tm_n {F F1 : Nat → Int → Int32} {G G1 : Nat → Int → Int64} (h : TmA F G F1 G1) {x : Int} : tnZ G1 x = tnZ G x := by unfold tnZ; rw [h.2.2]
theorem tm_S {F F1 : Nat → Int → Int32} {G G1 : Nat → Int → Int64} (h : TmA F G F1 G1) {x : Int} : toS F1 G1 x = toS F G x := by unfold toS; rw [tm_n h, tm_dM h]
theorem tm_sg {F F1 : Nat → Int → Int32} {G G1 : Nat → Int → Int64} (h : TmA F G F1 G1) {K : Int → Int32} {x : Int} : sgZ F1 G1 K x = sgZ F G K x := by unfold sgZ; rw [tm_n h, tm_dM h, tm_tf h]
theorem tm_C2 {F F1 : Nat → Int → Int32} {G G1 : Nat → Int → Int64} (h : TmA F G F1 G1) {K : Int → Int32} {x v : Int} : sgC2 F1 G1 K x v = sgC2 F G K x v := by unfold sgC2; rw [tm_sg h]
theorem tm_writes {F F1 : Nat → Int → Int32} {G G1 : Nat → Int → Int64} (h : TmA F G F1 G1) {K : Int → Int32} {x y : Int} : a_writes F1 G1 K x y = a_writes F G K x y := by unfold a_writes; rw [tm_S h]; simp only [tm_C2 h]
theorem tm_pens {F F1 : Nat → Int → Int32} {G G1 : Nat → Int → Int64} (h : TmA F G F1 G1) {K : Int → Int32} {x : Int} : a_pens F1 G1 K x = a_pens F G K x := by unfold a_pens; rw [tm_S h]; simp only [tm_C2 h]
theorem tm_patrol {F F1 : Nat → Int → Int32} {G G1 : Nat → Int → Int64} (h : TmA F G F1 G1) {K : Int → Int32} {x : Int} : a_patrol F1 G1 K x = a_patrol F G K x := by unfold a_patrol; rw [tm_S h]; simp only [tm_C2 h]
theorem tm_tends {F F1 : Nat → Int → Int32} {G G1 : Nat → Int → Int64} (h : TmA F G F1 G1) {K : Int → Int32} {x : Int} : a_tends F1 G1 K x = a_tends F G K x := by unfold a_tends; rw [tm_S h]; simp only [tm_C2 h]
theorem tm_crowd {F F1 : Nat → Int → Int32} {G G1 : Nat → Int → Int64} (h : TmA F G F1 G1) {K : Int → Int32} {x : Int} : a_crowd F1 G1 K x = a_crowd F G K x := by unfold a_crowd; rw [tm_S h]; simp only [tm_C2 h]
theorem tm_lasts {F F1 : Nat → Int → Int32} {G G1 : Nat → Int → Int64} (h : TmA F G F1 G1) {K : Int → Int32} {x : Int} : a_lasts F1 G1 K x = a_lasts F G K x := by unfold a_lasts; rw [tm_S h]; simp only [tm_C2 h]
theorem tm_perform {F F1 : Nat → Int → Int32} {G G1 : Nat → Int → Int64} (h : TmA F G F1 G1) {K : Int → Int32} {x : Int} : a_perform K F1 G1 x = a_perform K F G x := by unfold a_perform; rw [tm_dA h, tm_dM h, h.1]
theorem tm_behind {F F1 : Nat → Int → Int32} {G G1 : Nat → Int → Int64} (h : TmA F G F1 G1) {K : Int → Int32} {x y z : Int} : a_behind K F1 G1 x y z = a_behind K F G x y z := by unfold a_behind; rw [tm_dA h, tm_dM h, h.1]
theorem tm_judge {F F1 : Nat → Int → Int32} {G G1 : Nat → Int → Int64} (h : TmA F G F1 G1) {K : Int → Int32} {x y : Int} : a_judge K F1 G1 x y = a_judge K F G x y := by unfold a_judge v_judge; rw [h.1]; simp only [tm_dA h, tm_dM h]
theorem tm_barg {F F1 : Nat → Int → Int32} {G G1 : Nat → Int → Int64} (h : TmA F G F1 G1) {K : Int → Int32} {x : Int} : a_barg F1 G1 K x = a_barg F G K x := by unfold a_barg nbP; rw [tm_n h, tm_dM h, tm_tf h]
theorem tm_reads {F F1 : Nat → Int → Int32} {G G1 : Nat → Int → Int64} (h : TmA F G F1 G1) {K : Int → Int32} {x : Int} : a_reads F1 K x = a_reads F K x := by unfold a_reads; rw [tm_dM h, tm_tf h]
end S94zzzzzb
