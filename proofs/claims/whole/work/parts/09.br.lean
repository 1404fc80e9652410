/-! ===== part 09: branches as if-then-else, so that what is decided is not looked at ===== -/
noncomputable def dcl (c : Prop) : Decidable c := Classical.propDecidable c
theorem iteP {c A B : Prop} {d : Decidable c} : (@ite Prop c d A B) = ((c → A) ∧ (¬ c → B)) := by
  by_cases h : c <;> simp [h]
theorem bx_ceq {nx : Kt} {K : Kr} {pc : Nat} {ls : List (Nat × Value)} {σ : St} {x y : Int32} {tgt : Nat} {r : List Value} : ap (i_ceq tgt) nx K pc ls (.int y :: .int x :: r) σ = @ite Prop (x = y) (dcl (x = y)) (nx tgt ls r σ) (nx (pc + 3) ls r σ) := by
  rw [iteP]; rfl
theorem bx_clt {nx : Kt} {K : Kr} {pc : Nat} {ls : List (Nat × Value)} {σ : St} {x y : Int32} {tgt : Nat} {r : List Value} : ap (i_clt tgt) nx K pc ls (.int y :: .int x :: r) σ = @ite Prop (x < y) (dcl (x < y)) (nx tgt ls r σ) (nx (pc + 3) ls r σ) := by
  rw [iteP]; rfl
theorem bx_cge {nx : Kt} {K : Kr} {pc : Nat} {ls : List (Nat × Value)} {σ : St} {x y : Int32} {tgt : Nat} {r : List Value} : ap (i_cge tgt) nx K pc ls (.int y :: .int x :: r) σ = @ite Prop (y ≤ x) (dcl (y ≤ x)) (nx tgt ls r σ) (nx (pc + 3) ls r σ) := by
  rw [iteP]; rfl
theorem bx_cgt {nx : Kt} {K : Kr} {pc : Nat} {ls : List (Nat × Value)} {σ : St} {x y : Int32} {tgt : Nat} {r : List Value} : ap (i_cgt tgt) nx K pc ls (.int y :: .int x :: r) σ = @ite Prop (y < x) (dcl (y < x)) (nx tgt ls r σ) (nx (pc + 3) ls r σ) := by
  rw [iteP]; rfl
theorem bx_cle {nx : Kt} {K : Kr} {pc : Nat} {ls : List (Nat × Value)} {σ : St} {x y : Int32} {tgt : Nat} {r : List Value} : ap (i_cle tgt) nx K pc ls (.int y :: .int x :: r) σ = @ite Prop (x ≤ y) (dcl (x ≤ y)) (nx tgt ls r σ) (nx (pc + 3) ls r σ) := by
  rw [iteP]; rfl
theorem bx_cne {nx : Kt} {K : Kr} {pc : Nat} {ls : List (Nat × Value)} {σ : St} {x y : Int32} {tgt : Nat} {r : List Value} : ap (i_cne tgt) nx K pc ls (.int y :: .int x :: r) σ = @ite Prop (x = y) (dcl (x = y)) (nx (pc + 3) ls r σ) (nx tgt ls r σ) := by
  rw [iteP, and_comm]; rfl
theorem bx_zeq {nx : Kt} {K : Kr} {pc : Nat} {ls : List (Nat × Value)} {σ : St} {x : Int32} {tgt : Nat} {r : List Value} : ap (i_zeq tgt) nx K pc ls (.int x :: r) σ = @ite Prop (x = 0) (dcl (x = 0)) (nx tgt ls r σ) (nx (pc + 3) ls r σ) := by
  rw [iteP]; rfl
theorem bx_zlt {nx : Kt} {K : Kr} {pc : Nat} {ls : List (Nat × Value)} {σ : St} {x : Int32} {tgt : Nat} {r : List Value} : ap (i_zlt tgt) nx K pc ls (.int x :: r) σ = @ite Prop (x < 0) (dcl (x < 0)) (nx tgt ls r σ) (nx (pc + 3) ls r σ) := by
  rw [iteP]; rfl
theorem bx_zge {nx : Kt} {K : Kr} {pc : Nat} {ls : List (Nat × Value)} {σ : St} {x : Int32} {tgt : Nat} {r : List Value} : ap (i_zge tgt) nx K pc ls (.int x :: r) σ = @ite Prop (0 ≤ x) (dcl (0 ≤ x)) (nx tgt ls r σ) (nx (pc + 3) ls r σ) := by
  rw [iteP]; rfl
theorem bx_zgt {nx : Kt} {K : Kr} {pc : Nat} {ls : List (Nat × Value)} {σ : St} {x : Int32} {tgt : Nat} {r : List Value} : ap (i_zgt tgt) nx K pc ls (.int x :: r) σ = @ite Prop (0 < x) (dcl (0 < x)) (nx tgt ls r σ) (nx (pc + 3) ls r σ) := by
  rw [iteP]; rfl
theorem bx_zle {nx : Kt} {K : Kr} {pc : Nat} {ls : List (Nat × Value)} {σ : St} {x : Int32} {tgt : Nat} {r : List Value} : ap (i_zle tgt) nx K pc ls (.int x :: r) σ = @ite Prop (x ≤ 0) (dcl (x ≤ 0)) (nx tgt ls r σ) (nx (pc + 3) ls r σ) := by
  rw [iteP]; rfl
theorem bx_zne {nx : Kt} {K : Kr} {pc : Nat} {ls : List (Nat × Value)} {σ : St} {x : Int32} {tgt : Nat} {r : List Value} : ap (i_zne tgt) nx K pc ls (.int x :: r) σ = @ite Prop (x = 0) (dcl (x = 0)) (nx (pc + 3) ls r σ) (nx tgt ls r σ) := by
  rw [iteP, and_comm]; rfl
