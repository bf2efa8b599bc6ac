/-! Bits of whole numbers that are not below 0. -/
theorem bv_of {x : Int} (h0 : 0 ≤ x) (h1 : x < 2147483648) : (Int32.ofInt x).toBitVec.toNat = x.toNat := by
  show (BitVec.ofInt 32 x).toNat = _
  rw [BitVec.toNat_ofInt]
  omega
theorem int_of_bv {y : Int32} (h : y.toBitVec.toNat < 2147483648) : y.toInt = (y.toBitVec.toNat : Int) := by
  show y.toBitVec.toInt = _
  rw [BitVec.toInt_eq_toNat_of_lt (by omega)]
theorem and32_nat {x y : Int} (hx : 0 ≤ x) (hx1 : x < 2147483648) (hy : 0 ≤ y) (hy1 : y < 2147483648) : and32 x y = ((x.toNat &&& y.toNat : Nat) : Int) := by
  have e : (Int32.ofInt x &&& Int32.ofInt y).toBitVec.toNat = x.toNat &&& y.toNat := by
    rw [Int32.toBitVec_and, BitVec.toNat_and, bv_of hx hx1, bv_of hy hy1]
  have l : x.toNat &&& y.toNat < 2 ^ 31 := Nat.and_lt_two_pow _ (by omega)
  unfold and32
  rw [int_of_bv (by rw [e]; exact l), e]
theorem or32_nat {x y : Int} (hx : 0 ≤ x) (hx1 : x < 2147483648) (hy : 0 ≤ y) (hy1 : y < 2147483648) : or32 x y = ((x.toNat ||| y.toNat : Nat) : Int) := by
  have e : (Int32.ofInt x ||| Int32.ofInt y).toBitVec.toNat = x.toNat ||| y.toNat := by
    rw [Int32.toBitVec_or, BitVec.toNat_or, bv_of hx hx1, bv_of hy hy1]
  have l : x.toNat ||| y.toNat < 2 ^ 31 := Nat.or_lt_two_pow (by omega) (by omega)
  unfold or32
  rw [int_of_bv (by rw [e]; exact l), e]
theorem xor32_nat {x y : Int} (hx : 0 ≤ x) (hx1 : x < 2147483648) (hy : 0 ≤ y) (hy1 : y < 2147483648) : xor32 x y = ((x.toNat ^^^ y.toNat : Nat) : Int) := by
  have e : (Int32.ofInt x ^^^ Int32.ofInt y).toBitVec.toNat = x.toNat ^^^ y.toNat := by
    rw [Int32.toBitVec_xor, BitVec.toNat_xor, bv_of hx hx1, bv_of hy hy1]
  have l : x.toNat ^^^ y.toNat < 2 ^ 31 := Nat.xor_lt_two_pow (by omega) (by omega)
  unfold xor32
  rw [int_of_bv (by rw [e]; exact l), e]
theorem shl1_fin : ∀ k : Fin 31, shl32 1 ((k : Nat) : Int) = ((2 ^ (k : Nat) : Nat) : Int) := by decide +kernel
theorem shl1 {k : Int} (h0 : 0 ≤ k) (h1 : k < 31) : shl32 1 k = ((2 ^ k.toNat : Nat) : Int) := by
  have := shl1_fin ⟨k.toNat, by omega⟩
  simp only [Int.toNat_of_nonneg h0] at this
  exact this
section BITS
variable {d bc bs n : Nat} {h : aH} {Q : aQ}
theorem R_J9_floorMod {x y : Int} (hx : 0 ≤ x) (hx1 : x < 2147483648) (hy : 0 < y) (hy1 : y < 2147483648) (k : Q (some (vI (x % y))) h n) : Rn d bc bs mJ9_floorMod_7cf53 0 [some (vI x), some (vI y), none] [] h n Q := by
  have hz : 0 ≤ xor32 x y := by rw [xor32_nat hx hx1 (by omega) hy1]; omega
  have hm : Int.tmod x y = x % y := Int.tmod_eq_emod_of_nonneg hx
  refine BJ9_floorMod_7cf53_0 (by first | omega | (simp only [Ls_len]; omega) | assumption | exact Ls_get (by omega) (by omega) | rfl | decide) ?_ ?_
  · intro hc1
    first
    | (exfalso; omega)
    | (
        refine BJ9_floorMod_7cf53_18  ?_
        (rw [hm]; exact k)
      )
  · intro hc2
    first
    | (exfalso; omega)
    | (
        refine BJ9_floorMod_7cf53_10  ?_ ?_
        · intro hc3
          first
          | (exfalso; omega)
          | (
              refine BJ9_floorMod_7cf53_18  ?_
              (rw [hm]; exact k)
            )
        · intro hc4
          first
          | (exfalso; omega)
          | (
              refine BJ9_floorMod_7cf53_14 (by first | omega | (simp only [Ls_len]; omega) | assumption | exact Ls_get (by omega) (by omega) | rfl | decide) ?_
              (rw [hm]; exact k)
            )
      )
end BITS
