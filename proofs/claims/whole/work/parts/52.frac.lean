/-! lowest terms do not see a common factor -/
theorem frA_toInt {x y : Int} (hx : -2 ^ 63 < x ∧ x < 2 ^ 63) (hy : 0 < y ∧ y < 2 ^ 63) : (frA (Int64.ofInt x) (Int64.ofInt y)).toInt = (x.tdiv ((Nat.gcd x.natAbs y.toNat : Nat) : Int)).bmod (2 ^ 64) ∧ (frB (Int64.ofInt x) (Int64.ofInt y)).toInt = (y.tdiv ((Nat.gcd x.natAbs y.toNat : Nat) : Int)).bmod (2 ^ 64) := by
  have ea := ofI_b (x := x) (by omega) (by omega)
  have eb := ofI_b (x := y) (by omega) (by omega)
  have hg : Nat.gcd x.natAbs y.toNat < 2 ^ 63 := by
    have : Nat.gcd x.natAbs y.toNat ≤ y.toNat := Nat.gcd_le_right _ (by omega)
    omega
  unfold frA frB gc
  rw [ea, eb, Int64.toInt_div, Int64.toInt_div, pk_lT hg, ea, eb]
  exact ⟨rfl, rfl⟩
theorem frp_scale {w : Int32} {x y : Int} {g : Nat} (hg : 0 < g) (hy : 0 < y) (hx1 : -2 ^ 63 < x * g) (hx2 : x * g < 2 ^ 63) (hy2 : y * g < 2 ^ 63) : frp w (x * g) (y * g) = frp w x y := by
  have hg1 : (1 : Int) ≤ g := by omega
  have hyg : 0 < y * g := Int.mul_pos hy (by omega)
  have xb : -2 ^ 63 < x ∧ x < 2 ^ 63 := by
    rcases Int.le_total 0 x with q | q
    · have : x * 1 ≤ x * g := Int.mul_le_mul_of_nonneg_left hg1 q
      omega
    · have : x * g ≤ x * 1 := Int.mul_le_mul_of_nonpos_left q hg1
      omega
  have yb : y < 2 ^ 63 := by
    have : y * 1 ≤ y * g := Int.mul_le_mul_of_nonneg_left hg1 (by omega)
    omega
  have a := frA_toInt (x := x * g) (y := y * g) ⟨hx1, hx2⟩ ⟨hyg, hy2⟩
  have b := frA_toInt (x := x) (y := y) xb ⟨hy, yb⟩
  have eg : Nat.gcd (x * g).natAbs (y * g).toNat = Nat.gcd x.natAbs y.toNat * g := by
    rw [Int.natAbs_mul, Int.natAbs_natCast]
    have : (y * g).toNat = y.toNat * g := by
      rw [Int.toNat_mul (by omega) (by omega)]; rfl
    rw [this, Nat.gcd_mul_right]
  have ed : ∀ z : Int, (z * g).tdiv ((Nat.gcd x.natAbs y.toNat * g : Nat) : Int) = z.tdiv ((Nat.gcd x.natAbs y.toNat : Nat) : Int) := by
    intro z
    push_cast
    exact Int.mul_tdiv_mul_of_pos_left _ _ (by omega)
  rw [eg, ed, ed] at a
  unfold frp
  rw [Int64.toInt_inj.mp (a.1.trans b.1.symm), Int64.toInt_inj.mp (a.2.trans b.2.symm)]
