/-! ===== part 21: the greatest chance, the row that has it ===== -/
theorem mxL {x y : Int} (hx : -2 ^ 63 ≤ x ∧ x < 2 ^ 63) (hy : -2 ^ 63 ≤ y ∧ y < 2 ^ 63) : mL (Int64.ofInt x) (Int64.ofInt y) = Int64.ofInt (mx x y) := by
  unfold mx mL
  by_cases q : y < x
  · rw [if_pos ((cmpL hy hx).mpr q), if_pos q]
  · rw [if_neg (fun z => q ((cmpL hy hx).mp z)), if_neg q]
theorem mx4 {x0 x1 x2 x3 M : Int} (hM : M < 2 ^ 63) (h0 : 0 ≤ x0 ∧ x0 ≤ M) (h1 : 0 ≤ x1 ∧ x1 ≤ M) (h2 : 0 ≤ x2 ∧ x2 ≤ M) (h3 : 0 ≤ x3 ∧ x3 ≤ M) : m4 (Int64.ofInt x0) (Int64.ofInt x1) (Int64.ofInt x2) (Int64.ofInt x3) = Int64.ofInt (mx (mx (mx (mx 0 x0) x1) x2) x3) := by
  have b1 := mx_b (x := 0) (M := M) ⟨by omega, by omega⟩ h0
  have b2 := mx_b b1 h1
  have b3 := mx_b b2 h2
  have e0 := mxL (x := 0) (y := x0) ⟨by omega, by omega⟩ ⟨by omega, by omega⟩
  have e1 := mxL (x := mx 0 x0) (y := x1) ⟨by omega, by omega⟩ ⟨by omega, by omega⟩
  have e2 := mxL (x := mx (mx 0 x0) x1) (y := x2) ⟨by omega, by omega⟩ ⟨by omega, by omega⟩
  have e3 := mxL (x := mx (mx (mx 0 x0) x1) x2) (y := x3) ⟨by omega, by omega⟩ ⟨by omega, by omega⟩
  have z : (0 : Int64) = Int64.ofInt 0 := rfl
  unfold m4
  rw [z, e0, e1, e2, e3]
theorem gS_G {σ : St} {w : Nat → Nat → Nat} {val : Nat → Int} {m : Nat} {ms : List Nat} {lft : Nat} (hB : ∀ c, c < 2401 → sz c ≤ 6 → 0 ≤ val c ∧ val c ≤ 1) (hw : ∀ k, k < 4 → w m k ≤ 18) (hpw : PW w ms ≤ 139314069504) (hml : ms.length + lft < 6) (ho : ∀ k, k < 4 → σ.1 14 k = nI (w m k)) (hv : ∀ c, c < 2401 → sz c = lft + 1 → σ.2 13 (pl c) = Int64.ofInt (G w val ms c)) {c : Nat} (hc : c < 2401) (hs : sz c = lft) : gS σ (pl c) = Int64.ofInt (G w val (m :: ms) c) := by
  have hu := (pl_spec hc (by omega)).1
  have hi := fun k (hk : k < 4) => inc_spec hc (by omega : sz c < 6) hk
  have t : ∀ k, k < 4 → (σ.1 14 k).toInt64 * σ.2 13 (pl (c + pw k)) = Int64.ofInt ((w m k : Int) * G w val ms (c + pw k)) ∧ 0 ≤ (w m k : Int) * G w val ms (c + pw k) ∧ (w m k : Int) * G w val ms (c + pw k) ≤ 18 * 139314069504 := by
    intro k hk
    have h1 := (hi k hk).2.1
    have hb := G_bound (w := w) hB ms (c + pw k) (hi k hk).1 (by omega)
    rw [ho k hk, hv _ (hi k hk).1 (by omega), toL _ (by have := hw k hk; omega)]
    refine ⟨rfl, Int.mul_nonneg (Int.natCast_nonneg _) hb.1, ?_⟩
    have g := Int.mul_le_mul (show (w m k : Int) ≤ 18 by have := hw k hk; omega) (show G w val ms (c + pw k) ≤ 139314069504 by omega) hb.1 (by omega)
    exact g
  have t0 := t 0 (by decide)
  have t1 := t 1 (by decide)
  have t2 := t 2 (by decide)
  have t3 := t 3 (by decide)
  unfold gS
  rw [hu, t0.1, t1.1, t2.1, t3.1]
  exact mx4 (M := 18 * 139314069504) (by omega) t0.2 t1.2 t2.2 t3.2
