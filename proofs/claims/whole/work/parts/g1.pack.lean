/-! How the reference packs a word's letters. -/
theorem bv64_of {x : Int} (h0 : 0 ≤ x) (h1 : x < 9223372036854775808) : (Int64.ofInt x).toBitVec.toNat = x.toNat := by
  show (BitVec.ofInt 64 x).toNat = _
  rw [BitVec.toNat_ofInt]
  omega
theorem int64_of_bv {y : Int64} (h : y.toBitVec.toNat < 9223372036854775808) : y.toInt = (y.toBitVec.toNat : Int) := by
  show y.toBitVec.toInt = _
  rw [BitVec.toInt_eq_toNat_of_lt (by omega)]
theorem or64_nat {x y : Int} (hx : 0 ≤ x) (hx1 : x < 9223372036854775808) (hy : 0 ≤ y) (hy1 : y < 9223372036854775808) : or64 x y = ((x.toNat ||| y.toNat : Nat) : Int) := by
  have e : (Int64.ofInt x ||| Int64.ofInt y).toBitVec.toNat = x.toNat ||| y.toNat := by
    rw [Int64.toBitVec_or, BitVec.toNat_or, bv64_of hx hx1, bv64_of hy hy1]
  have l : x.toNat ||| y.toNat < 2 ^ 63 := Nat.or_lt_two_pow (by omega) (by omega)
  unfold or64
  rw [int64_of_bv (by rw [e]; exact l), e]
theorem shl64_8 {x : Int} (h0 : 0 ≤ x) (h1 : x < 36028797018963968) : shl64 x 8 = x * 256 := by
  have e : ((Int32.ofInt 8).toInt64 &&& 63).toBitVec.smod 64 = 8#64 := by decide +kernel
  have e2 : (Int64.ofInt x <<< ((Int32.ofInt 8).toInt64 &&& 63)).toBitVec = (Int64.ofInt x).toBitVec <<< (8#64) := by rw [← e]; rfl
  have e3 : (Int64.ofInt x <<< ((Int32.ofInt 8).toInt64 &&& 63)).toBitVec.toNat = x.toNat * 256 := by
    rw [e2]
    show ((Int64.ofInt x).toBitVec <<< (8 : Nat)).toNat = _
    rw [BitVec.toNat_shiftLeft, bv64_of h0 (by omega), Nat.shiftLeft_eq]
    rw [Nat.mod_eq_of_lt (by omega)]
  unfold shl64
  rw [int64_of_bv (by rw [e3]; omega), e3]
  omega
theorem shr64_48 {x : Int} (h0 : 0 ≤ x) (h1 : x < 9223372036854775808) : shr64 x 48 = x / 281474976710656 := by
  have e : (((Int32.ofInt 48).toInt64 &&& 63).toBitVec.smod 64).toNat = 48 := by decide +kernel
  have e2 : (Int64.ofInt x >>> ((Int32.ofInt 48).toInt64 &&& 63)).toBitVec = (Int64.ofInt x).toBitVec.sshiftRight 48 := by rw [← e]; rfl
  unfold shr64
  show (Int64.ofInt x >>> ((Int32.ofInt 48).toInt64 &&& 63)).toBitVec.toInt = _
  rw [e2, BitVec.toInt_sshiftRight]
  have e4 : (Int64.ofInt x).toBitVec.toInt = x := by
    rw [BitVec.toInt_eq_toNat_of_lt (by rw [bv64_of h0 h1]; omega), bv64_of h0 h1]
    omega
  rw [e4, Int.shiftRight_eq_div_pow]
  rfl
def pk1 (w b : Int) : Int := if shr64 w 48 = 0 then or64 (shl64 w 8) b else 1152921504606846976
theorem pk_or {w b : Int} (w0 : 0 ≤ w) (w1 : w < 36028797018963968) (b0 : 0 ≤ b) (b1 : b < 256) : or64 (shl64 w 8) b = w * 256 + b := by
  rw [shl64_8 w0 w1, or64_nat (by omega) (by omega) b0 (by omega)]
  have e := Nat.shiftLeft_add_eq_or_of_lt (b := b.toNat) (i := 8) (by omega) w.toNat
  rw [Nat.shiftLeft_eq] at e
  have e2 : (w * 256).toNat = w.toNat * 2 ^ 8 := by omega
  rw [e2, ← e]
  omega
theorem pk1_lo {w b : Int} (w0 : 0 ≤ w) (w1 : w < 281474976710656) (b0 : 0 ≤ b) (b1 : b < 256) : pk1 w b = w * 256 + b := by
  unfold pk1
  rw [shr64_48 w0 (by omega), if_pos (by omega)]
  exact pk_or w0 (by omega) b0 b1
theorem pk1_hi {w b : Int} (w0 : 281474976710656 ≤ w) (w1 : w ≤ 1152921504606846976) : pk1 w b = 1152921504606846976 := by
  unfold pk1
  rw [shr64_48 (by omega) (by omega), if_neg (by omega)]
def pkL (l : List Int) : Int := l.foldl pk1 0
def ltOk (l : List Int) : Prop := ∀ b, b ∈ l → 0 < b ∧ b < 256
theorem pkL_app (l : List Int) (b : Int) : pkL (l ++ [b]) = pk1 (pkL l) b := by
  unfold pkL
  rw [List.foldl_append]
  rfl
theorem rev_ind {α : Type} {p : List α → Prop} (h0 : p []) (h1 : ∀ l b, p l → p (l ++ [b])) : ∀ l, p l := by
  have h : ∀ l : List α, p l.reverse := by
    intro l
    induction l with
    | nil => exact h0
    | cons b l ih => rw [List.reverse_cons]; exact h1 _ _ ih
  intro l
  have := h l.reverse
  rw [List.reverse_reverse] at this
  exact this
theorem ltOk_app {l : List Int} {b : Int} (h : ltOk (l ++ [b])) : ltOk l ∧ 0 < b ∧ b < 256 := ⟨fun x hx => h x (List.mem_append_left _ hx), h b (List.mem_append_right _ (List.mem_singleton_self b))⟩
theorem pkL_in : ∀ l : List Int, ltOk l → 0 ≤ pkL l ∧ pkL l ≤ 1152921504606846976 := by
  refine rev_ind ?_ ?_
  · intro _; exact ⟨Int.le_refl _, by show (0 : Int) ≤ 1152921504606846976; decide⟩
  · intro l b ih h
    have q := ltOk_app h
    have i := ih q.1
    rw [pkL_app]
    by_cases c : pkL l < 281474976710656
    · rw [pk1_lo i.1 c (by omega) (by omega)]; omega
    · rw [pk1_hi (by omega) i.2]; omega
/-- a word of so few letters is packed as no other one -/
theorem pkL_inj : ∀ l : List Int, ltOk l → ∀ m : List Int, ltOk m → m.length ≤ 6 → pkL l = pkL m → l = m := by
  have lo : ∀ m : List Int, ltOk m → ∀ k : Nat, k ≤ 6 → m.length ≤ k → pkL m < 256 ^ k := by
    refine rev_ind ?_ ?_
    · intro _ k _ _
      show (0 : Int) < 256 ^ k
      exact Int.pow_pos (by decide)
    · intro m b ih h k k6 hk
      have q := ltOk_app h
      rw [List.length_append, List.length_singleton] at hk
      obtain ⟨k, rfl⟩ : ∃ j, k = j + 1 := ⟨k - 1, by omega⟩
      have i := ih q.1 k (by omega) (by omega)
      have n := pkL_in m q.1
      have pw : (256 : Int) ^ k ≤ 1099511627776 := by
        rcases (show k = 0 ∨ k = 1 ∨ k = 2 ∨ k = 3 ∨ k = 4 ∨ k = 5 by omega) with rfl | rfl | rfl | rfl | rfl | rfl <;> decide
      rw [pkL_app, Int.pow_succ, pk1_lo n.1 (by omega) (by omega) (by omega)]
      omega
  have e6 : (256 : Int) ^ 6 = 281474976710656 := by decide
  have e5 : (256 : Int) ^ 5 = 1099511627776 := by decide
  refine rev_ind ?_ ?_
  · intro _
    refine rev_ind ?_ ?_
    · intro _ _ _; rfl
    · intro m b _ h hm e
      have q := ltOk_app h
      rw [List.length_append, List.length_singleton] at hm
      have n := pkL_in m q.1
      have i := lo m q.1 5 (by decide) (by omega)
      rw [pkL_app, pk1_lo n.1 (by omega) (by omega) (by omega)] at e
      have e : (0 : Int) = pkL m * 256 + b := e
      omega
  · intro l b ih h
    have q := ltOk_app h
    have n := pkL_in l q.1
    refine rev_ind ?_ ?_
    · intro _ _ e
      rw [pkL_app] at e
      have e : pk1 (pkL l) b = 0 := e
      by_cases c : pkL l < 281474976710656
      · rw [pk1_lo n.1 c (by omega) (by omega)] at e; omega
      · rw [pk1_hi (by omega) n.2] at e; omega
    · intro m c _ h2 hm e
      have r := ltOk_app h2
      rw [List.length_append, List.length_singleton] at hm
      have n2 := pkL_in m r.1
      have i := lo m r.1 5 (by decide) (by omega)
      rw [pkL_app, pkL_app, pk1_lo n2.1 (by omega) (by omega) (by omega)] at e
      by_cases d : pkL l < 281474976710656
      · rw [pk1_lo n.1 d (by omega) (by omega)] at e
        have e1 : b = c := by omega
        have e2 : pkL l = pkL m := by omega
        rw [ih q.1 m r.1 (by omega) e2, e1]
      · rw [pk1_hi (by omega) n.2] at e; omega
