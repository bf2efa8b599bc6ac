/-! Bits of a whole number. -/
def tb (x i : Int) : Bool := x.toNat.testBit i.toNat
theorem tb_and {x i : Int} (x0 : 0 ≤ x) (x1 : x < 2147483648) (i0 : 0 ≤ i) (i1 : i < 31) : and32 x (shl32 1 i) ≠ 0 ↔ tb x i = true := by
  have p : (2 : Nat) ^ i.toNat ≤ 2 ^ 30 := Nat.pow_le_pow_right (by decide) (by omega)
  have z : (0 : Int) ≤ ((2 ^ i.toNat : Nat) : Int) := Int.natCast_nonneg _
  rw [shl1 i0 i1, and32_nat x0 x1 (by omega) (by omega), Int.toNat_natCast]
  unfold tb
  constructor
  · intro h
    apply Decidable.byContradiction
    intro q
    apply h
    have e : x.toNat &&& 2 ^ i.toNat = 0 := by
      apply Nat.eq_of_testBit_eq
      intro j
      rw [Nat.testBit_and, Nat.testBit_two_pow, Nat.zero_testBit]
      by_cases w : i.toNat = j
      · subst w
        rw [Bool.not_eq_true] at q
        rw [q]
        rfl
      · simp [w]
    rw [e]
    rfl
  · intro h e
    have e : x.toNat &&& 2 ^ i.toNat = 0 := by omega
    have z : (x.toNat &&& 2 ^ i.toNat).testBit i.toNat = true := by
      rw [Nat.testBit_and, Nat.testBit_two_pow, h]
      simp
    rw [e, Nat.zero_testBit] at z
    cases z
theorem tb_andz {x i : Int} (x0 : 0 ≤ x) (x1 : x < 2147483648) (i0 : 0 ≤ i) (i1 : i < 31) : and32 x (shl32 1 i) = 0 ↔ tb x i = false := by
  have := tb_and x0 x1 i0 i1
  constructor
  · intro h
    rw [← Bool.not_eq_true]
    exact fun q => (this.mpr q) h
  · intro h
    apply Decidable.byContradiction
    intro q
    rw [this.mp q] at h
    cases h
theorem or32_rg {x y : Int} {k : Nat} (hk : k ≤ 31) (x0 : 0 ≤ x) (x1 : x < 2 ^ k) (y0 : 0 ≤ y) (y1 : y < 2 ^ k) : 0 ≤ or32 x y ∧ or32 x y < 2 ^ k := by
  have p := pow2_le hk
  have e : (2 : Int) ^ 31 = 2147483648 := by decide
  have c := cast_pow2 k
  rw [or32_nat x0 (by omega) y0 (by omega)]
  have := Nat.or_lt_two_pow (n := k) (show x.toNat < 2 ^ k by omega) (show y.toNat < 2 ^ k by omega)
  omega
theorem shl1_rg {i : Int} {k : Nat} (hk : k ≤ 31) (i0 : 0 ≤ i) (i1 : i < k) : 0 ≤ shl32 1 i ∧ shl32 1 i < 2 ^ k := by
  rw [shl1 i0 (by omega)]
  have c := cast_pow2 k
  have p : (2 : Nat) ^ i.toNat < 2 ^ k := Nat.pow_lt_pow_right (by decide) (by omega)
  have z : (0 : Int) ≤ ((2 ^ i.toNat : Nat) : Int) := Int.natCast_nonneg _
  omega
theorem tb_or {x y j : Int} (x0 : 0 ≤ x) (x1 : x < 2147483648) (y0 : 0 ≤ y) (y1 : y < 2147483648) : tb (or32 x y) j = (tb x j || tb y j) := by
  unfold tb
  rw [or32_nat x0 x1 y0 y1, Int.toNat_natCast, Nat.testBit_or]
theorem tb_and2 {x y j : Int} (x0 : 0 ≤ x) (x1 : x < 2147483648) (y0 : 0 ≤ y) (y1 : y < 2147483648) : tb (and32 x y) j = (tb x j && tb y j) := by
  unfold tb
  rw [and32_nat x0 x1 y0 y1, Int.toNat_natCast, Nat.testBit_and]
theorem tb_shl {i j : Int} (i0 : 0 ≤ i) (i1 : i < 31) (j0 : 0 ≤ j) : tb (shl32 1 i) j = decide (i = j) := by
  unfold tb
  rw [shl1 i0 i1, Int.toNat_natCast, Nat.testBit_two_pow]
  apply decide_eq_decide.mpr
  omega
theorem tb_orb {x i j : Int} (x0 : 0 ≤ x) (x1 : x < 2147483648) (i0 : 0 ≤ i) (i1 : i < 31) (j0 : 0 ≤ j) : tb (or32 x (shl32 1 i)) j = (tb x j || decide (i = j)) := by
  have s := shl1_rg (k := 31) (by decide) i0 i1
  have e : (2 : Int) ^ 31 = 2147483648 := by decide
  rw [tb_or x0 x1 s.1 (by omega), tb_shl i0 i1 j0]
theorem int_ext {x y : Int} {k : Nat} (x0 : 0 ≤ x) (x1 : x < 2 ^ k) (y0 : 0 ≤ y) (y1 : y < 2 ^ k) (h : ∀ j : Int, 0 ≤ j → j < k → tb x j = tb y j) : x = y := by
  have c := cast_pow2 k
  have e : x.toNat = y.toNat := by
    apply Nat.eq_of_testBit_eq
    intro j
    by_cases q : j < k
    · have := h j (by omega) (by omega)
      unfold tb at this
      exact this
    · rw [Nat.testBit_lt_two_pow (Nat.lt_of_lt_of_le (show x.toNat < 2 ^ k by omega) (Nat.pow_le_pow_right (by decide) (by omega))), Nat.testBit_lt_two_pow (Nat.lt_of_lt_of_le (show y.toNat < 2 ^ k by omega) (Nat.pow_le_pow_right (by decide) (by omega)))]
  omega
