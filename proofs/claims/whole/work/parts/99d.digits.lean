/-! Digits. -/
def digN : Nat → Int → Int → Int
  | 0, _, i => i
  | m + 1, x, i => if x ≤ 0 then i else digN m (x / 10) (i + 1)
def digM (x : Int) : Int := digN 9 x 0
def tenN : Nat → Int
  | 0 => 1
  | m + 1 => tenN m * 10
theorem tenN_le : ∀ m, m ≤ 9 → 1 ≤ tenN m ∧ tenN m ≤ 1000000000 := by decide
theorem tenN_lt : ∀ m, m ≤ 8 → 1 ≤ tenN m ∧ tenN m ≤ 100000000 := by decide
section DIGITS
variable {d bc bs n : Nat} {h : aH} {Q : aQ}
theorem R_X3_digitsOf {x : Int} {l1 l2 : Option aV} (x0 : x < 2147483648) (k : Q (some (vI (digM x))) h n) : Rn d bc bs mX3_digitsOf 0 [some (vI x), l1, l2] [] h n Q := by
  have loop : ∀ (m : Nat) (y i : Int), 0 ≤ i → i + m = 9 → y < 2147483648 → Q (some (vI (digN m y i))) h n → Rn d bc bs mX3_digitsOf 4 [some (vI x), some (vI y), some (vI i)] [] h n Q := by
    intro m
    induction m with
    | zero =>
      intro y i i0 i1 y1 k
      have e : i = 9 := by omega
      subst e
      refine BX3_digitsOf_4  ?_ ?_
      · intro hc1
        first
        | (exfalso; omega)
        | (
            refine BX3_digitsOf_27  ?_
            exact k
          )
      · intro hc2
        first
        | (exfalso; omega)
        | (
            (exfalso; omega)
          )
    | succ m ih =>
      intro y i i0 i1 y1 k
      unfold digN at k
      refine BX3_digitsOf_4  ?_ ?_
      · intro hc1
        (exfalso; omega)
      · intro hc2
        refine BX3_digitsOf_10  ?_ ?_
        · intro hc3
          refine BX3_digitsOf_16 (by first | omega | assumption | rfl | decide) (by first | omega | assumption | rfl | decide) (by first | omega | assumption | rfl | decide) ?_
          (rw [if_neg (by omega)] at k; exact ih _ _ (by omega) (by omega) (by omega) k)
        · intro hc4
          refine BX3_digitsOf_14  ?_
          (rw [if_pos (by omega)] at k; exact k)
  refine BX3_digitsOf_0  ?_
  exact loop 9 x 0 (by omega) (by omega) x0 k
theorem digN_le : ∀ m x i, i ≤ digN m x i ∧ digN m x i ≤ i + m := by
  intro m
  induction m with
  | zero => intro x i; unfold digN; omega
  | succ m ih => intro x i; unfold digN; have := ih (x / 10) (i + 1); split <;> omega
theorem digM_le (x : Int) : 0 ≤ digM x ∧ digM x ≤ 9 := by have := digN_le 9 x 0; unfold digM; omega
def tenM (x : Int) : Int := tenN (if x ≤ 9 then x.toNat else 9)
theorem tenM_le (x : Int) : 1 ≤ tenM x ∧ tenM x ≤ 1000000000 := by unfold tenM; exact tenN_le _ (by split <;> omega)
theorem R_X3_tenTo {x : Int} {l1 l2 : Option aV} (k : Q (some (vI (tenM x))) h n) : Rn d bc bs mX3_tenTo 0 [some (vI x), l1, l2] [] h n Q := by
  have loop : ∀ (m j : Nat), j + m = 9 → ((j : Int) ≤ x ∨ j = 0) → Rn d bc bs mX3_tenTo 4 [some (vI x), some (vI (tenN j)), some (vI (j : Int))] [] h n Q := by
    intro m
    induction m with
    | zero =>
      intro j e1 e2
      have e : j = 9 := by omega
      subst e
      have t9 := tenN_le 9 (by decide)
      refine BX3_tenTo_4  ?_ ?_
      · intro hc1
        refine BX3_tenTo_26  ?_
        have e3 : tenM x = tenN 9 := by unfold tenM; congr 1; split <;> omega
        rw [e3] at k; exact k
      · intro hc2
        refine BX3_tenTo_9  ?_ ?_
        · intro hc3
          refine BX3_tenTo_26  ?_
          have e3 : tenM x = tenN 9 := by unfold tenM; congr 1; split <;> omega
          rw [e3] at k; exact k
        · intro hc4
          refine BX3_tenTo_15 (by first | omega | assumption | rfl | decide) (by first | omega | assumption | rfl | decide) ?_
          (exfalso; omega)
    | succ m ih =>
      intro j e1 e2
      have t9 := tenN_lt j (by omega)
      refine BX3_tenTo_4  ?_ ?_
      · intro hc1
        refine BX3_tenTo_26  ?_
        first
        | (exfalso; omega)
        | (have e3 : tenM x = tenN j := by (unfold tenM; congr 1; split <;> omega)
           rw [e3] at k; exact k)
      · intro hc2
        refine BX3_tenTo_9  ?_ ?_
        · intro hc3
          refine BX3_tenTo_26  ?_
          first
          | (exfalso; omega)
          | (have e3 : tenM x = tenN j := by (unfold tenM; congr 1; split <;> omega)
             rw [e3] at k; exact k)
        · intro hc4
          refine BX3_tenTo_15 (by first | omega | assumption | rfl | decide) (by first | omega | assumption | rfl | decide) ?_
          (have ih' := ih (j + 1) (by omega) (by omega); rw [show ((j + 1 : Nat) : Int) = (j : Int) + 1 by omega] at ih'; exact ih')
  refine BX3_tenTo_0  ?_
  exact loop 9 0 (by omega) (.inr rfl)
theorem tdiv_bd {x y : Int} (x0 : 0 ≤ x) (y0 : 0 < y) : 0 ≤ Int.tdiv x y ∧ Int.tdiv x y ≤ x := by
  rw [Int.tdiv_eq_ediv_of_nonneg x0]
  exact ⟨Int.ediv_nonneg x0 (by omega), Int.ediv_le_self y x0⟩
def stM (x y : Int) : Int := if 0 ≤ digM x - digM y ∧ Int.tdiv x (tenM (digM x - digM y)) = y then 1 else 0
theorem stM_01 (x y : Int) : stM x y = 0 ∨ stM x y = 1 := by unfold stM; split; exact .inr rfl; exact .inl rfl
theorem R_X3_withoutLast {x y : Int} {l2 : Option aV} (xn : 0 ≤ x) (x0 : x < 2147483648) (k : Q (some (vI (Int.tdiv x (tenM y)))) h n) : Rn (d + 1) bc bs mX3_withoutLast 0 [some (vI x), some (vI y), l2] [] h n Q := by
  have d3 := tenM_le y
  have d4 := tdiv_bd (y := tenM y) xn (by omega)
  refine BX3_withoutLast_0  ?_
  refine R_X3_tenTo  ?_
  refine BX3_withoutLast_4  ?_ ?_
  · intro hc1
    refine BX3_withoutLast_13 (by first | omega | assumption | rfl | decide) (by first | omega | assumption | rfl | decide) ?_
    exact k
  · intro hc2
    refine BX3_withoutLast_9  ?_
    (exfalso; omega)
theorem R_X3_lastOf {x y : Int} {l2 : Option aV} (k : Q (some (vI (Int.tmod x (tenM y)))) h n) : Rn (d + 1) bc bs mX3_lastOf 0 [some (vI x), some (vI y), l2] [] h n Q := by
  have d3 := tenM_le y
  refine BX3_lastOf_0  ?_
  refine R_X3_tenTo  ?_
  refine BX3_lastOf_4  ?_ ?_
  · intro hc1
    refine BX3_lastOf_13 (by first | omega | assumption | rfl | decide) ?_
    exact k
  · intro hc2
    refine BX3_lastOf_9  ?_
    (exfalso; omega)
theorem R_X3_startsWith {x y : Int} {l2 : Option aV} (xn : 0 ≤ x) (x0 : x < 2147483648) (y0 : y < 2147483648) (k : Q (some (vI (stM x y))) h n) : Rn (d + 2) bc bs mX3_startsWith 0 [some (vI x), some (vI y), l2] [] h n Q := by
  have d1 := digM_le x
  have d2 := digM_le y
  unfold stM at k
  refine BX3_startsWith_0  ?_
  refine R_X3_digitsOf (by first | omega | assumption | rfl | decide) ?_
  refine BX3_startsWith_4  ?_
  refine R_X3_digitsOf (by first | omega | assumption | rfl | decide) ?_
  refine BX3_startsWith_8 (by first | omega | assumption | rfl | decide) ?_ ?_
  · intro hc1
    refine BX3_startsWith_27  ?_
    (rw [if_neg (by omega)] at k; exact k)
  · intro hc2
    refine BX3_startsWith_14  ?_
    refine R_X3_withoutLast (by first | omega | assumption | rfl | decide) (by first | omega | assumption | rfl | decide) ?_
    refine BX3_startsWith_19  ?_ ?_
    · intro hc3
      refine BX3_startsWith_27  ?_
      (rw [if_neg (by omega)] at k; exact k)
    · intro hc4
      refine BX3_startsWith_23  ?_
      (rw [if_pos (by omega)] at k; exact k)
end DIGITS
