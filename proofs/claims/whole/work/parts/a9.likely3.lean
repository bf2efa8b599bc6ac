/-! The reference: how likely it comes; the empty places. -/
section LIKELY3
variable {d bc bs n : Nat} {g h : aH} {Q : aQ} {W V : Int → Int → Int} {X : Int → Tx} {F B : Int → Int} {wr cm : Int}
theorem R_X13_divisor {A B : Nat} (k : Q (some (vL (Nat.gcd A B : Nat))) h n) : Rn d bc bs mX13_divisor 0 [some (vL A), none, some (vL B), none, none, none, none, none, none, none] [] h n Q := by
  have loop : ∀ (f b s : Nat) (l8 l9 : Option aV), s < f → Nat.gcd b s = Nat.gcd A B → Rn d bc bs mX13_divisor 6 [some (vL A), none, some (vL B), none, some (vL b), none, some (vL s), none, l8, l9] [] h n Q := by
    intro f
    induction f with
    | zero => intro b s l8 l9 hs; omega
    | succ f ih =>
      intro b s l8 l9 hs hg
      by_cases s0 : s = 0
      · subst s0
        rw [Nat.gcd_zero_right] at hg
        rw [← hg] at k
        refine BX13_divisor_6  ?_ ?_
        · intro hc1
          refine BX13_divisor_31  ?_
          exact k
        · intro hc2
          refine BX13_divisor_13 (by first | omega | (rw [fset_at]; omega) | (simp only [Ls_len]; omega) | assumption | exact Ls_get (by omega) (by omega) | exact up_at _ _ _ | rfl | decide) ?_
          (exfalso; omega)
      · have e1 : Int.tmod (b : Int) s = ((b % s : Nat) : Int) := by rw [Int.tmod_eq_emod_of_nonneg (by omega)]; rfl
        have hr := Nat.mod_lt b (show 0 < s by omega)
        have hg1 : Nat.gcd s (b % s) = Nat.gcd A B := by rw [← hg, Nat.gcd_comm b s, Nat.gcd_rec s b, Nat.gcd_comm]
        have ih1 := ih s (b % s) (some (vL ((b % s : Nat) : Int))) none (by omega) hg1
        refine BX13_divisor_6  ?_ ?_
        · intro hc1
          refine BX13_divisor_31  ?_
          (exfalso; omega)
        · intro hc2
          refine BX13_divisor_13 (by first | omega | (rw [fset_at]; omega) | (simp only [Ls_len]; omega) | assumption | exact Ls_get (by omega) (by omega) | exact up_at _ _ _ | rfl | decide) ?_
          (rw [e1]; exact ih1)
  refine BX13_divisor_0  ?_
  exact loop (B + 1) A B none none (by omega) rfl
theorem M_likely {p to m low : Int} (s : IsMo g h W V X F B wr cm) (ok : okW W) (k : ∀ h1, IsMo g h1 W V X F B wr cm → Q (some (vL (aLikely W p to m low))) h1 n) : Rn (d + 30) bc bs mX13_likely 0 [some (vR (some 301)), some (vI p), some (vI to), some (vI m), some (vI low), none, none, none, none, none, none, none, none, none] [] h n Q := by
  obtain ⟨M, e, ⟨⟨ts, te, ty, ⟨t1, t2, t3⟩, tp⟩, tb⟩, ⟨tv, tvb⟩, tx, ⟨⟨tt1, tt2, tt3⟩, tt4⟩, wr0, cm0, on⟩ := id s; obtain ⟨on1, on2, on3, on4, on5, on6, on7, on8⟩ := id on; have tt : tTp M F := ⟨⟨tt1, tt2, tt3⟩, tt4⟩; have m0 := e.o; have m1 := e.a1; have m2 := e.a2; have m3 := e.a3; have m4 := e.a4; have ts1 := ts.1; obtain ⟨te1, te2, te3, te4⟩ := id te; obtain ⟨⟨ty1, ty2, ty3, ty4, ty5⟩, ty6, ty7, ty8, ty9⟩ := id ty
  have o1 := ok.1
  have o5 := ok.2.2.2.2
  have o54 := o5.2.2.2.1
  have o12 := o1.2.2
  have k1 := k h s
  clear k
  unfold aLikely at k1
  have loop : (0 ≤ p ∧ p ≤ 9 ∧ 0 ≤ to ∧ to < W 3 3 ∧ 1 ≤ m ∧ m ≤ 8) → ∀ (j i : Nat) (l13 : Option aV), (i : Int) + j = m → Rn (d + 30) bc bs mX13_likely 44 [some (vR (some 301)), some (vI p), some (vI to), some (vI m), some (vI low), some (vI (drift (W 6) (W 1 73) i p)), some (vL (lkA W p to i)), none, some (vL (lkU W p to i)), none, some (vL (lkL i)), none, some (vI i), l13] [] h n Q := by
    intro hz j
    rw [if_pos hz] at k1
    induction j with
    | zero =>
      intro i l13 hi
      have e : i = m.toNat := by omega
      have L := lkL_le ⟨i, by omega⟩
      dsimp only at L
      have A := lk_ok (p := p) (to := to) o5 i
      subst e
      have u1 : lkU W p to m.toNat = ((lkU W p to m.toNat).toNat : Int) := by omega
      have u2 : lkL m.toNat = ((lkL m.toNat).toNat : Int) := by omega
      have gp : 0 < Nat.gcd (lkU W p to m.toNat).toNat (lkL m.toNat).toNat := Nat.gcd_pos_of_pos_right _ (by omega)
      generalize lkU W p to m.toNat = U at *
      generalize lkL m.toNat = LL at *
      have gg : Rn (d + 29) 0 0 mX13_divisor 0 [some (vL U), none, some (vL LL), none, none, none, none, none, none, none] [] h n (fun v h1 n1 => v = some (vL (Nat.gcd U.toNat LL.toNat : Nat)) ∧ h1 = h ∧ n1 = n) := by
        rw [u1, u2]
        exact R_X13_divisor ⟨rfl, rfl, rfl⟩
      generalize hG : Nat.gcd U.toNat LL.toNat = G at *
      have d1 : Int.tdiv U G = U / G := Int.tdiv_eq_ediv_of_nonneg (by omega)
      have d2 : Int.tdiv LL G = LL / G := Int.tdiv_eq_ediv_of_nonneg (by omega)
      have d3 : U / (G : Int) ≤ U := Int.ediv_le_self _ (by omega)
      have d4 : LL / (G : Int) ≤ LL := Int.ediv_le_self _ (by omega)
      have d5 : 0 ≤ U / (G : Int) := Int.ediv_nonneg (by omega) (by omega)
      have d6 : 0 ≤ LL / (G : Int) := Int.ediv_nonneg (by omega) (by omega)
      refine BX13_likely_44  ?_ ?_
      · intro hc1
        refine BX13_likely_165  ?_ ?_
        · intro hc2
          refine BX13_likely_175 ?_
          refine Rn.mono ?_ gg
          rintro v h1 n1 ⟨rfl, rfl, rfl⟩
          show Rn _ _ _ _ 184 _ [vL _, vL _] _ _ _
          refine BX13_likely_184 (by omega) (by omega) ?_
          rw [d1]; rw [if_pos (by omega)] at k1; exact k1
        · intro hc3
          refine BX13_likely_170 ?_
          refine Rn.mono ?_ gg
          rintro v h1 n1 ⟨rfl, rfl, rfl⟩
          show Rn _ _ _ _ 184 _ [vL _, vL _] _ _ _
          refine BX13_likely_184 (by omega) (by omega) ?_
          rw [d2]; rw [if_neg (by omega)] at k1; exact k1
      · intro hc4
        (exfalso; omega)
    | succ j ih =>
      intro i l13 hi
      have L := lkL_le ⟨i, by omega⟩
      dsimp only at L
      have A := lk_ok (p := p) (to := to) o5 i
      have dp := drift_ok o12 (t := W 1 73) (p := p) ⟨by omega, by omega⟩ i
      have ih1 := ih (i + 1) (some (vI 1)) (by omega)
      have ih2 := ih (i + 1) (some (vI 0)) (by omega)
      have a1 : 0 ≤ lkA W p to i * W 2 55 := Int.mul_nonneg A.1 o54.1
      have a2 : 0 ≤ lkA W p to i * (10 - W 2 56 - W 2 55) := Int.mul_nonneg A.1 (by omega)
      have a4 : 0 ≤ lkA W p to i * W 2 56 := Int.mul_nonneg A.1 o54.2.1
      have e1 : lkA W p to i * (10 - W 2 56) = lkA W p to i * 10 - lkA W p to i * W 2 56 := Int.mul_sub _ _ _
      have e2 : lkA W p to i * (10 - W 2 56 - W 2 55) = lkA W p to i * (10 - W 2 56) - lkA W p to i * W 2 55 := Int.mul_sub _ _ _
      rw [lkU, lkA, lkL, drift] at ih1 ih2
      have et : lkT W p to i = decide (lead (W 6) (W 1 73 + i) (drift (W 6) (W 1 73) i p) = atP (W 3 3) (W 0) to) := rfl
      have ea : atP (W 3 3) (W 0) to = W 0 to := by unfold atP; rw [if_pos (by omega)]
      rw [ea] at et
      rw [Int.mul_comm (lkU W p to i) 10] at ih1 ih2
      rw [← ty4, ← ty5] at ih1 ih2 a2 e2 o54
      rw [← ty4] at a1
      rw [← ty5] at a4 e1
      rw [← te1] at ih1 ih2 et dp ⊢
      have e3 : lkA W p to i * (10 - M 1 146 - 0) = lkA W p to i * (10 - M 1 146) := by rw [Int.sub_zero]
      refine BX13_likely_44  ?_ ?_
      · intro hc1
        (exfalso; omega)
      · intro hc2
        refine BX13_likely_50 (by first | assumption | exact up_at _ _ _ | (rw [up_ne (by omega)]; first | assumption | exact up_at _ _ _ | (rw [up_ne (by omega)]; assumption))) (by rfl) (by first | assumption | exact up_at _ _ _ | (rw [up_ne (by omega)]; first | assumption | exact up_at _ _ _ | (rw [up_ne (by omega)]; assumption))) (by first | exact Ls_get (by omega) (by omega) | assumption) (by first | omega | (rw [fset_at]; omega) | (simp only [Ls_len]; omega) | assumption | exact Ls_get (by omega) (by omega) | exact up_at _ _ _ | rfl | decide) ?_
        refine R_X13_flowsTo (by first | omega | (rw [fset_at]; omega) | (simp only [Ls_len]; omega) | assumption | exact Ls_get (by omega) (by omega) | exact up_at _ _ _ | rfl | decide) (by first | omega | (rw [fset_at]; omega) | (simp only [Ls_len]; omega) | assumption | exact Ls_get (by omega) (by omega) | exact up_at _ _ _ | rfl | decide) (by first | omega | (rw [fset_at]; omega) | (simp only [Ls_len]; omega) | assumption | exact Ls_get (by omega) (by omega) | exact up_at _ _ _ | rfl | decide) (by first | omega | (rw [fset_at]; omega) | (simp only [Ls_len]; omega) | assumption | exact Ls_get (by omega) (by omega) | exact up_at _ _ _ | rfl | decide) ?_
        refine BX13_likely_66 (by first | assumption | exact up_at _ _ _ | (rw [up_ne (by omega)]; first | assumption | exact up_at _ _ _ | (rw [up_ne (by omega)]; assumption))) ?_
        refine R_X13_ownP (by first | omega | (rw [fset_at]; omega) | (simp only [Ls_len]; omega) | assumption | exact Ls_get (by omega) (by omega) | exact up_at _ _ _ | rfl | decide) (by first | omega | (rw [fset_at]; omega) | (simp only [Ls_len]; omega) | assumption | exact Ls_get (by omega) (by omega) | exact up_at _ _ _ | rfl | decide) (by first | omega | (rw [fset_at]; omega) | (simp only [Ls_len]; omega) | assumption | exact Ls_get (by omega) (by omega) | exact up_at _ _ _ | rfl | decide) ?_
        refine BX13_likely_76  ?_ ?_
        · intro hc3
          refine BX13_likely_83 (by first | omega | (rw [fset_at]; omega) | (simp only [Ls_len]; omega) | assumption | exact Ls_get (by omega) (by omega) | exact up_at _ _ _ | rfl | decide) ?_ ?_
          · intro hc4
            refine BX13_likely_112 (by first | omega | (rw [fset_at]; omega) | (simp only [Ls_len]; omega) | assumption | exact Ls_get (by omega) (by omega) | exact up_at _ _ _ | rfl | decide) (by first | assumption | exact up_at _ _ _ | (rw [up_ne (by omega)]; first | assumption | exact up_at _ _ _ | (rw [up_ne (by omega)]; assumption))) (by rfl) (by first | assumption | exact up_at _ _ _ | (rw [up_ne (by omega)]; first | assumption | exact up_at _ _ _ | (rw [up_ne (by omega)]; assumption))) (by first | exact Ls_get (by omega) (by omega) | assumption) (by first | omega | (rw [fset_at]; omega) | (simp only [Ls_len]; omega) | assumption | exact Ls_get (by omega) (by omega) | exact up_at _ _ _ | rfl | decide) ?_ ?_
            · intro hc5
              refine BX13_likely_145 (by first | omega | (rw [fset_at]; omega) | (simp only [Ls_len]; omega) | assumption | exact Ls_get (by omega) (by omega) | exact up_at _ _ _ | rfl | decide) (by first | omega | (rw [fset_at]; omega) | (simp only [Ls_len]; omega) | assumption | exact Ls_get (by omega) (by omega) | exact up_at _ _ _ | rfl | decide) (by first | omega | (rw [fset_at]; omega) | (simp only [Ls_len]; omega) | assumption | exact Ls_get (by omega) (by omega) | exact up_at _ _ _ | rfl | decide) (by first | omega | (rw [fset_at]; omega) | (simp only [Ls_len]; omega) | assumption | exact Ls_get (by omega) (by omega) | exact up_at _ _ _ | rfl | decide) ?_
              first
              | (exfalso; omega)
              | (rw [if_pos (by rw [et]; exact decide_eq_true (by assumption)), if_pos (by rw [et]; exact decide_eq_true (by assumption))] at ih1; exact ih1)
              | (rw [if_neg (by rw [et]; simpa using ‹_›), if_neg (by rw [et]; simpa using ‹_›)] at ih2; rw [Int.sub_zero]; exact ih2)
            · intro hc6
              refine BX13_likely_134 (by first | assumption | exact up_at _ _ _ | (rw [up_ne (by omega)]; first | assumption | exact up_at _ _ _ | (rw [up_ne (by omega)]; assumption))) (by rfl) (by first | assumption | exact up_at _ _ _ | (rw [up_ne (by omega)]; first | assumption | exact up_at _ _ _ | (rw [up_ne (by omega)]; assumption))) (by first | exact Ls_get (by omega) (by omega) | assumption) (by first | omega | (rw [fset_at]; omega) | (simp only [Ls_len]; omega) | assumption | exact Ls_get (by omega) (by omega) | exact up_at _ _ _ | rfl | decide) (by first | omega | (rw [fset_at]; omega) | (simp only [Ls_len]; omega) | assumption | exact Ls_get (by omega) (by omega) | exact up_at _ _ _ | rfl | decide) (by first | omega | (rw [fset_at]; omega) | (simp only [Ls_len]; omega) | assumption | exact Ls_get (by omega) (by omega) | exact up_at _ _ _ | rfl | decide) (by first | omega | (rw [fset_at]; omega) | (simp only [Ls_len]; omega) | assumption | exact Ls_get (by omega) (by omega) | exact up_at _ _ _ | rfl | decide) ?_
              first
              | (exfalso; omega)
              | (rw [if_pos (by rw [et]; exact decide_eq_true (by assumption)), if_pos (by rw [et]; exact decide_eq_true (by assumption))] at ih1; exact ih1)
              | (rw [if_neg (by rw [et]; simpa using ‹_›), if_neg (by rw [et]; simpa using ‹_›)] at ih2; rw [Int.sub_zero]; exact ih2)
          · intro hc7
            exact absurd hc7 (by decide)
        · intro hc8
          refine BX13_likely_79 (by first | omega | (rw [fset_at]; omega) | (simp only [Ls_len]; omega) | assumption | exact Ls_get (by omega) (by omega) | exact up_at _ _ _ | rfl | decide) ?_ ?_
          · intro hc9
            exact absurd hc9 (by decide)
          · intro hc10
            refine BX13_likely_97 (by first | assumption | exact up_at _ _ _ | (rw [up_ne (by omega)]; first | assumption | exact up_at _ _ _ | (rw [up_ne (by omega)]; assumption))) (by rfl) (by first | assumption | exact up_at _ _ _ | (rw [up_ne (by omega)]; first | assumption | exact up_at _ _ _ | (rw [up_ne (by omega)]; assumption))) (by first | exact Ls_get (by omega) (by omega) | assumption) (by first | omega | (rw [fset_at]; omega) | (simp only [Ls_len]; omega) | assumption | exact Ls_get (by omega) (by omega) | exact up_at _ _ _ | rfl | decide) (by first | omega | (rw [fset_at]; omega) | (simp only [Ls_len]; omega) | assumption | exact Ls_get (by omega) (by omega) | exact up_at _ _ _ | rfl | decide) (by first | exact Ls_get (by omega) (by omega) | assumption) (by first | omega | (rw [fset_at]; omega) | (simp only [Ls_len]; omega) | assumption | exact Ls_get (by omega) (by omega) | exact up_at _ _ _ | rfl | decide) ?_ ?_
            · intro hc11
              refine BX13_likely_145 (by first | omega | (rw [fset_at]; omega) | (simp only [Ls_len]; omega) | assumption | exact Ls_get (by omega) (by omega) | exact up_at _ _ _ | rfl | decide) (by first | omega | (rw [fset_at]; omega) | (simp only [Ls_len]; omega) | assumption | exact Ls_get (by omega) (by omega) | exact up_at _ _ _ | rfl | decide) (by first | omega | (rw [fset_at]; omega) | (simp only [Ls_len]; omega) | assumption | exact Ls_get (by omega) (by omega) | exact up_at _ _ _ | rfl | decide) (by first | omega | (rw [fset_at]; omega) | (simp only [Ls_len]; omega) | assumption | exact Ls_get (by omega) (by omega) | exact up_at _ _ _ | rfl | decide) ?_
              first
              | (exfalso; omega)
              | (rw [if_pos (by rw [et]; exact decide_eq_true (by assumption)), if_pos (by rw [et]; exact decide_eq_true (by assumption))] at ih1; exact ih1)
              | (rw [if_neg (by rw [et]; simpa using ‹_›), if_neg (by rw [et]; simpa using ‹_›)] at ih2; rw [Int.sub_zero]; exact ih2)
            · intro hc12
              refine BX13_likely_134 (by first | assumption | exact up_at _ _ _ | (rw [up_ne (by omega)]; first | assumption | exact up_at _ _ _ | (rw [up_ne (by omega)]; assumption))) (by rfl) (by first | assumption | exact up_at _ _ _ | (rw [up_ne (by omega)]; first | assumption | exact up_at _ _ _ | (rw [up_ne (by omega)]; assumption))) (by first | exact Ls_get (by omega) (by omega) | assumption) (by first | omega | (rw [fset_at]; omega) | (simp only [Ls_len]; omega) | assumption | exact Ls_get (by omega) (by omega) | exact up_at _ _ _ | rfl | decide) (by first | omega | (rw [fset_at]; omega) | (simp only [Ls_len]; omega) | assumption | exact Ls_get (by omega) (by omega) | exact up_at _ _ _ | rfl | decide) (by first | omega | (rw [fset_at]; omega) | (simp only [Ls_len]; omega) | assumption | exact Ls_get (by omega) (by omega) | exact up_at _ _ _ | rfl | decide) (by first | omega | (rw [fset_at]; omega) | (simp only [Ls_len]; omega) | assumption | exact Ls_get (by omega) (by omega) | exact up_at _ _ _ | rfl | decide) ?_
              first
              | (exfalso; omega)
              | (rw [if_pos (by rw [et]; exact decide_eq_true (by assumption)), if_pos (by rw [et]; exact decide_eq_true (by assumption))] at ih1; exact ih1)
              | (rw [if_neg (by rw [et]; simpa using ‹_›), if_neg (by rw [et]; simpa using ‹_›)] at ih2; rw [Int.sub_zero]; exact ih2)
  refine BX13_likely_0  ?_
  refine R_X13_isPlace  ?_ ?_
  · intro w1 w2
    refine BX13_likely_4  ?_ ?_
    · intro hc1
      exact absurd hc1 (by decide)
    · intro hc2
      refine BX13_likely_7 (by first | assumption | exact up_at _ _ _ | (rw [up_ne (by omega)]; first | assumption | exact up_at _ _ _ | (rw [up_ne (by omega)]; assumption))) ?_
      refine R_X13_isPerson (by first | omega | (rw [fset_at]; omega) | (simp only [Ls_len]; omega) | assumption | exact Ls_get (by omega) (by omega) | exact up_at _ _ _ | rfl | decide) ?_ ?_
      · intro w1 w2
        refine BX13_likely_12  ?_ ?_
        · intro hc3
          exact absurd hc3 (by decide)
        · intro hc4
          refine BX13_likely_15  ?_
          refine R_X13_isIn  ?_ ?_
          · intro w1 w2
            refine BX13_likely_22  ?_ ?_
            · intro hc5
              refine BX13_likely_29  ?_
              exact loop ⟨by omega, by omega, by omega, by omega, by omega, by omega⟩ m.toNat 0 none (by omega)
            · intro hc6
              exact absurd hc6 (by decide)
          · intro w3
            refine BX13_likely_22  ?_ ?_
            · intro hc7
              exact absurd hc7 (by decide)
            · intro hc8
              refine BX13_likely_25  ?_
              (rw [if_neg (by omega)] at k1; exact k1)
      · intro w3
        refine BX13_likely_12  ?_ ?_
        · intro hc9
          refine BX13_likely_25  ?_
          (rw [if_neg (by omega)] at k1; exact k1)
        · intro hc10
          exact absurd hc10 (by decide)
  · intro w3
    refine BX13_likely_4  ?_ ?_
    · intro hc11
      refine BX13_likely_25  ?_
      (rw [if_neg (by omega)] at k1; exact k1)
    · intro hc12
      exact absurd hc12 (by decide)
end LIKELY3
/-! The empty places. -/
theorem tb_bits {f : Int → Bool} {j : Int} (j0 : 0 ≤ j) : ∀ k : Nat, tb (bits f k) j = (decide (j < k) && f j) := by
  intro k
  induction k with
  | zero =>
    rw [show decide (j < ((0 : Nat) : Int)) = false from decide_eq_false (by omega), Bool.false_and]
    exact Nat.zero_testBit _
  | succ k ih =>
    have b := bits_lt f k
    unfold bits
    have e : (bits f k).toNat < 2 ^ k := by have := cast_pow2 k; omega
    cases q : f k with
    | false =>
      rw [if_neg (by decide), Int.add_zero, ih]
      by_cases z : j = k
      · subst z; rw [q, Bool.and_false, Bool.and_false]
      · rw [decide_eq_decide.mpr (show j < (k : Int) ↔ j < ((k + 1 : Nat) : Int) by omega)]
    | true =>
      rw [if_pos rfl]
      have e2 : (bits f k + 2 ^ k).toNat = 2 ^ k * 1 + (bits f k).toNat := by have := cast_pow2 k; omega
      unfold tb at ih ⊢
      rw [e2, Nat.two_pow_add_eq_or_of_lt e 1, Nat.mul_one, Nat.testBit_or, ih, Nat.testBit_two_pow]
      by_cases z : j = k
      · subst z
        rw [decide_eq_true (show k = ((k : Int)).toNat from rfl), Bool.true_or, q, decide_eq_true (show (k : Int) < ((k + 1 : Nat) : Int) by omega)]
        rfl
      · rw [decide_eq_false (show ¬ k = j.toNat by omega), Bool.false_or, decide_eq_decide.mpr (show j < (k : Int) ↔ j < ((k + 1 : Nat) : Int) by omega)]
def emA (W : Int → Int → Int) : Nat → Int
  | 0 => 1023
  | k + 1 => and32 (emA W k) (xor32 (shl32 1 (W 0 k)) (-1))
def emB (W : Int → Int → Int) (a : Int) : Nat → Int
  | 0 => a
  | k + 1 => if 0 < floN (W 1) k then and32 (emB W a k) (xor32 (shl32 1 k) (-1)) else emB W a k
theorem emA_tb {W : Int → Int → Int} : ∀ k : Nat, (∀ i : Int, 0 ≤ i → i < k → 0 ≤ W 0 i ∧ W 0 i ≤ 9) → (0 ≤ emA W k ∧ emA W k ≤ 1023) ∧ ∀ j, 0 ≤ j → j ≤ 9 → tb (emA W k) j = decide (cnt (fun i => W 0 i = j) k = 0) := by
  intro k
  induction k with
  | zero =>
    intro hW
    refine ⟨by show (0 : Int) ≤ 1023 ∧ (1023 : Int) ≤ 1023; decide, fun j j0 j1 => ?_⟩
    show (1023 : Nat).testBit j.toNat = true
    rw [show (1023 : Nat) = 2 ^ 10 - 1 from rfl, Nat.testBit_two_pow_sub_one]
    exact decide_eq_true (by omega)
  | succ k ih =>
    intro hW
    obtain ⟨i1, i2⟩ := ih (fun i i0 i1 => hW i i0 (by omega))
    have w := hW k (by omega) (by omega)
    have r := andn_rg i1.1 i1.2 w.1 w.2
    refine ⟨⟨r.1, by show and32 (emA W k) (xor32 (shl32 1 (W 0 k)) (-1)) ≤ 1023; omega⟩, fun j j0 j1 => ?_⟩
    show tb (and32 (emA W k) (xor32 (shl32 1 (W 0 k)) (-1))) j = _
    have c := cnt_ge (fun i => decide (W 0 i = j)) k
    rw [andn_tb i1.1 i1.2 w.1 w.2 j0 j1, i2 j j0 j1, cnt]
    by_cases q : W 0 k = j
    · rw [decide_eq_true q, if_pos rfl, Bool.not_true, Bool.and_false]
      exact (decide_eq_false (by omega)).symm
    · rw [decide_eq_false q, if_neg (by decide), Int.add_zero, Bool.not_false, Bool.and_true]
theorem floN_ge (S : Int → Int) (p : Int) : 0 ≤ floN S p := (cnt_ge _ _).1
theorem emB_tb {W : Int → Int → Int} {a : Int} (a0 : 0 ≤ a) (a1 : a ≤ 1023) : ∀ k : Nat, k ≤ 10 → (0 ≤ emB W a k ∧ emB W a k ≤ 1023) ∧ ∀ j, 0 ≤ j → j ≤ 9 → tb (emB W a k) j = (tb a j && (decide (k ≤ j) || decide (floN (W 1) j = 0))) := by
  intro k
  induction k with
  | zero =>
    intro _
    refine ⟨⟨a0, a1⟩, fun j j0 j1 => ?_⟩
    rw [decide_eq_true (show ((0 : Nat) : Int) ≤ j by omega), Bool.true_or, Bool.and_true]
    rfl
  | succ k ih =>
    intro k10
    obtain ⟨i1, i2⟩ := ih (by omega)
    have f0 := floN_ge (W 1) k
    unfold emB
    split
    · have r := andn_rg i1.1 i1.2 (show (0 : Int) ≤ (k : Int) by omega) (by omega)
      refine ⟨⟨r.1, by omega⟩, fun j j0 j1 => ?_⟩
      rw [andn_tb i1.1 i1.2 (by omega) (by omega) j0 j1, i2 j j0 j1]
      by_cases q : (k : Int) = j
      · subst q
        rw [decide_eq_false (show ¬ floN (W 1) k = 0 by omega), decide_eq_false (show ¬ ((k + 1 : Nat) : Int) ≤ (k : Int) by omega), Bool.or_false, Bool.or_false, Bool.and_false, decide_eq_true (show (k : Int) = k from rfl), Bool.not_true, Bool.and_false]
      · rw [decide_eq_false q, Bool.not_false, Bool.and_true, decide_eq_decide.mpr (show (k : Int) ≤ j ↔ ((k + 1 : Nat) : Int) ≤ j by omega)]
    · refine ⟨i1, fun j j0 j1 => ?_⟩
      rw [i2 j j0 j1]
      by_cases q : (k : Int) = j
      · subst q
        rw [decide_eq_true (show floN (W 1) k = 0 by omega), Bool.or_true, Bool.or_true]
      · rw [decide_eq_decide.mpr (show (k : Int) ≤ j ↔ ((k + 1 : Nat) : Int) ≤ j by omega)]
theorem em_eq {W : Int → Int → Int} (hW : ∀ i : Int, 0 ≤ i → i < W 3 3 → 0 ≤ W 0 i ∧ W 0 i ≤ 9) : emB W (emA W (W 3 3).toNat) 10 = aEmpty W := by
  have a := emA_tb (W := W) (W 3 3).toNat (fun i i0 i1 => hW i i0 (by omega))
  have b := emB_tb (W := W) a.1.1 a.1.2 10 (by decide)
  have c := bits_lt (fun p => livesB W p && decide (floN (W 1) p = 0)) 10
  have e : (2 : Int) ^ 10 = 1024 := by decide
  refine int_ext (k := 10) b.1.1 (by omega) c.1 c.2 (fun j j0 j1 => ?_)
  unfold aEmpty
  rw [b.2 j j0 (by omega), a.2 j j0 (by omega), tb_bits j0, decide_eq_false (show ¬ ((10 : Nat) : Int) ≤ j by omega), Bool.false_or, decide_eq_true (show j < ((10 : Nat) : Int) by omega), Bool.true_and]
  rfl
section EMPTY
variable {d bc bs n : Nat} {g h : aH} {Q : aQ} {W V : Int → Int → Int} {X : Int → Tx} {F B : Int → Int} {wr cm : Int}
theorem M_empty (s : IsMo g h W V X F B wr cm) (ok : okW W) (k : ∀ h1, IsMo g h1 W V X F B wr cm → Q (some (vI (aEmpty W))) h1 n) : Rn (d + 30) bc bs mX13_empty 0 [some (vR (some 301)), none, none] [] h n Q := by
  have hW : ∀ i : Int, 0 ≤ i → i < W 3 3 → 0 ≤ W 0 i ∧ W 0 i ≤ 9 := fun i i0 i1 => (ok.1.2.1 i i0 i1).1
  have k1 := k h s
  rw [← em_eq hW] at k1
  obtain ⟨M, e, ⟨⟨ts, te, ty, ⟨t1, t2, t3⟩, tp⟩, tb⟩, ⟨tv, tvb⟩, tx, ⟨⟨tt1, tt2, tt3⟩, tt4⟩, wr0, cm0, on⟩ := id s; obtain ⟨on1, on2, on3, on4, on5, on6, on7, on8⟩ := id on; have tt : tTp M F := ⟨⟨tt1, tt2, tt3⟩, tt4⟩; have m0 := e.o; have m1 := e.a1; have m2 := e.a2; have m3 := e.a3; have m4 := e.a4; have ts1 := ts.1; obtain ⟨te1, te2, te3, te4⟩ := id te; obtain ⟨⟨ty1, ty2, ty3, ty4, ty5⟩, ty6, ty7, ty8, ty9⟩ := id ty
  have in37 : ∀ (m i : Nat), i + m = 10 → Rn (d + 30) bc bs mX13_empty 37 [some (vR (some 301)), some (vI (emB W (emA W (W 3 3).toNat) i)), some (vI (i : Int))] [] h n Q := by
    intro m
    induction m with
    | zero =>
      intro i hi
      have e9 : i = 10 := by omega
      subst e9
      refine BX13_empty_37  ?_ ?_
      · intro hc1
        first
        | (exfalso; omega)
        | (
            refine BX13_empty_65  ?_
            exact k1
          )
      · intro hc2
        first
        | (exfalso; omega)
        | (
            (exfalso; omega)
          )
    | succ m ih =>
      intro i hi
      have ih1 := ih (i + 1) (by omega)
      rw [emB] at ih1
      refine BX13_empty_37  ?_ ?_
      · intro hc1
        refine BX13_empty_65  ?_
        (exfalso; omega)
      · intro hc2
        refine BX13_empty_43 (by first | assumption | exact up_at _ _ _ | (rw [up_ne (by omega)]; first | assumption | exact up_at _ _ _ | (rw [up_ne (by omega)]; assumption))) ?_
        refine R_X13_afloatAt (by first | omega | (rw [fset_at]; omega) | (simp only [Ls_len]; omega) | assumption | exact Ls_get (by omega) (by omega) | exact up_at _ _ _ | rfl | decide) ?_
        refine BX13_empty_48  ?_ ?_
        · intro hc3
          refine BX13_empty_59 (by first | omega | (rw [fset_at]; omega) | (simp only [Ls_len]; omega) | assumption | exact Ls_get (by omega) (by omega) | exact up_at _ _ _ | rfl | decide) ?_
          first | (rw [if_pos (by omega)] at ih1; exact ih1) | (rw [if_neg (by omega)] at ih1; exact ih1)
        · intro hc4
          refine BX13_empty_51 (by first | omega | (rw [fset_at]; omega) | (simp only [Ls_len]; omega) | assumption | exact Ls_get (by omega) (by omega) | exact up_at _ _ _ | rfl | decide) ?_
          first | (rw [if_pos (by omega)] at ih1; exact ih1) | (rw [if_neg (by omega)] at ih1; exact ih1)
  have in6 : ∀ (m i : Nat), (i : Int) + m = W 3 3 → Rn (d + 30) bc bs mX13_empty 6 [some (vR (some 301)), some (vI (emA W i)), some (vI (i : Int))] [] h n Q := by
    intro m
    induction m with
    | zero =>
      intro i hi
      have e9 : i = (W 3 3).toNat := by omega
      subst e9
      refine BX13_empty_6 (by first | assumption | exact up_at _ _ _ | (rw [up_ne (by omega)]; first | assumption | exact up_at _ _ _ | (rw [up_ne (by omega)]; assumption))) (by rfl) (by first | assumption | exact up_at _ _ _ | (rw [up_ne (by omega)]; first | assumption | exact up_at _ _ _ | (rw [up_ne (by omega)]; assumption))) (by first | exact Ls_get (by omega) (by omega) | assumption) ?_ ?_
      · intro hc1
        first
        | (exfalso; omega)
        | (
            refine BX13_empty_35  ?_
            exact in37 10 0 (by omega)
          )
      · intro hc2
        first
        | (exfalso; omega)
        | (
            (exfalso; omega)
          )
    | succ m ih =>
      intro i hi
      have ih1 := ih (i + 1) (by omega)
      rw [emA] at ih1
      refine BX13_empty_6 (by first | assumption | exact up_at _ _ _ | (rw [up_ne (by omega)]; first | assumption | exact up_at _ _ _ | (rw [up_ne (by omega)]; assumption))) (by rfl) (by first | assumption | exact up_at _ _ _ | (rw [up_ne (by omega)]; first | assumption | exact up_at _ _ _ | (rw [up_ne (by omega)]; assumption))) (by first | exact Ls_get (by omega) (by omega) | assumption) ?_ ?_
      · intro hc1
        refine BX13_empty_35  ?_
        (exfalso; omega)
      · intro hc2
        refine BX13_empty_16 (by first | assumption | exact up_at _ _ _ | (rw [up_ne (by omega)]; first | assumption | exact up_at _ _ _ | (rw [up_ne (by omega)]; assumption))) ?_
        refine R_X13_ownP (by first | omega | (rw [fset_at]; omega) | (simp only [Ls_len]; omega) | assumption | exact Ls_get (by omega) (by omega) | exact up_at _ _ _ | rfl | decide) (by first | omega | (rw [fset_at]; omega) | (simp only [Ls_len]; omega) | assumption | exact Ls_get (by omega) (by omega) | exact up_at _ _ _ | rfl | decide) (by first | omega | (rw [fset_at]; omega) | (simp only [Ls_len]; omega) | assumption | exact Ls_get (by omega) (by omega) | exact up_at _ _ _ | rfl | decide) ?_
        refine BX13_empty_24 (by first | omega | (rw [fset_at]; omega) | (simp only [Ls_len]; omega) | assumption | exact Ls_get (by omega) (by omega) | exact up_at _ _ _ | rfl | decide) ?_
        exact ih1
  refine BX13_empty_0  ?_
  exact in6 (W 3 3).toNat 0 (by omega)
end EMPTY
