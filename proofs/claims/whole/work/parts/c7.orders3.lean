/-! Orders: counted from below and from above. -/
def sumL : Nat → (Nat → Int) → Int
  | 0, _ => 0
  | k + 1, f => sumL k f + f k
theorem sumL_ext {f g : Nat → Int} : ∀ k : Nat, (∀ l, l < k → f l = g l) → sumL k f = sumL k g := by
  intro k
  induction k with
  | zero => intro _; rfl
  | succ k ih => intro h; unfold sumL; rw [ih (fun l hl => h l (by omega)), h k (by omega)]
theorem sumL_0 : ∀ k : Nat, sumL k (fun _ => 0) = 0 := by
  intro k
  induction k with
  | zero => rfl
  | succ k ih => unfold sumL; rw [ih]; rfl
theorem sumL_add {f g : Nat → Int} : ∀ k : Nat, sumL k (fun l => f l + g l) = sumL k f + sumL k g := by
  intro k
  induction k with
  | zero => rfl
  | succ k ih =>
    show sumL k (fun l => f l + g l) + (f k + g k) = (sumL k f + f k) + (sumL k g + g k)
    rw [ih]; omega
theorem sumL_swap {a : Nat → Nat → Int} : ∀ k m : Nat, sumL k (fun l => sumL m (fun j => a l j)) = sumL m (fun j => sumL k (fun l => a l j)) := by
  intro k
  induction k with
  | zero => intro m; exact (sumL_0 m).symm
  | succ k ih =>
    intro m
    show sumL k (fun l => sumL m (fun j => a l j)) + sumL m (fun j => a k j) = _
    rw [ih, ← sumL_add]
    rfl
theorem sumL_if {f : Nat → Int} {c : Bool} : ∀ k : Nat, (if c = true then sumL k f else 0) = sumL k (fun j => if c = true then f j else 0) := by
  intro k
  cases c with
  | false => rw [if_neg (by decide)]; exact (sumL_0 k).symm
  | true => rw [if_pos rfl]; exact sumL_ext k fun l _ => (if_pos rfl).symm
theorem sumL_b {f : Nat → Int} {u : Int} : ∀ k : Nat, (∀ l, l < k → 0 ≤ f l ∧ f l ≤ u) → 0 ≤ sumL k f ∧ sumL k f ≤ k * u := by
  intro k
  induction k with
  | zero => intro _; unfold sumL; omega
  | succ k ih =>
    intro h
    have i1 := ih (fun l hl => h l (by omega))
    have i2 := h k (by omega)
    unfold sumL
    rw [show ((k + 1 : Nat) : Int) = (k : Int) + 1 by omega, Int.add_mul]
    omega
def inB (S l : Int) : Bool := decide (and32 S (shl32 1 l) ≠ 0)
def okB (nd : Nat → Int) (l : Nat) (S : Int) : Bool := decide (and32 (nd l) (xor32 S (-1)) = 0)
def pN (nd : Nat → Int) (n : Nat) : Nat → Int → Int → Int
  | 0, S, T => if S = T then 1 else 0
  | m + 1, S, T => sumL n (fun l => if (!inB S l && okB nd l S) = true then pN nd n m (or32 S (shl32 1 l)) T else 0)
def ch5B (s l : Nat) : Bool := (if inB s l = true then decide (othM s l < s ∧ 0 ≤ othM s l ∧ inB (othM s l) l = false ∧ or32 (othM s l) (shl32 1 l) = s ∧ popN 8 (othM s l).toNat + 1 = popN 8 s) else decide (othM s l = s ∧ 0 ≤ or32 s (shl32 1 l) ∧ or32 s (shl32 1 l) < 256 ∧ (s : Int) < or32 s (shl32 1 l) ∧ inB (or32 s (shl32 1 l)) l = true ∧ othM (or32 s (shl32 1 l)) l = s ∧ popN 8 (or32 s (shl32 1 l)).toNat = popN 8 s + 1))
theorem ch5_all : (List.range 256).all (fun s => (List.range 8).all (fun l => ch5B s l)) = true := by decide +kernel
theorem ch5_at {s : Int} {l : Nat} (s0 : 0 ≤ s) (s1 : s < 256) (b : l < 8) : ch5B s.toNat l = true := List.all_eq_true.mp (List.all_eq_true.mp ch5_all s.toNat (List.mem_range.mpr (by omega))) l (List.mem_range.mpr b)
theorem in_y {s : Int} {l : Nat} (s0 : 0 ≤ s) (s1 : s < 256) (b : l < 8) (h : inB s l = true) : othM s l < s ∧ 0 ≤ othM s l ∧ inB (othM s l) l = false ∧ or32 (othM s l) (shl32 1 l) = s ∧ popN 8 (othM s l).toNat + 1 = popN 8 s.toNat := by
  have z := ch5_at s0 s1 b
  unfold ch5B at z
  rw [show ((s.toNat : Nat) : Int) = s by omega, if_pos h] at z
  exact of_decide_eq_true z
theorem in_n {s : Int} {l : Nat} (s0 : 0 ≤ s) (s1 : s < 256) (b : l < 8) (h : inB s l = false) : othM s l = s ∧ 0 ≤ or32 s (shl32 1 l) ∧ or32 s (shl32 1 l) < 256 ∧ s < or32 s (shl32 1 l) ∧ inB (or32 s (shl32 1 l)) l = true ∧ othM (or32 s (shl32 1 l)) l = s ∧ popN 8 (or32 s (shl32 1 l)).toNat = popN 8 s.toNat + 1 := by
  have z := ch5_at s0 s1 b
  unfold ch5B at z
  rw [show ((s.toNat : Nat) : Int) = s by omega, if_neg (by rw [h]; decide)] at z
  exact of_decide_eq_true z
section PATHS
variable {nd : Nat → Int} {n : Nat}
theorem pN_b (n8 : n ≤ 8) : ∀ (m : Nat) (S T : Int), 0 ≤ pN nd n m S T ∧ pN nd n m S T ≤ pw8 m := by
  intro m
  induction m with
  | zero => intro S T; unfold pN; split <;> decide
  | succ m ih =>
    intro S T
    have p := pw8_pos m
    have z := sumL_b (f := fun l => if (!inB S l && okB nd l S) = true then pN nd n m (or32 S (shl32 1 l)) T else 0) (u := pw8 m) n (fun l _ => by
      try dsimp only
      split
      · exact ih _ _
      · omega)
    have e := Int.mul_le_mul_of_nonneg_right (show (n : Int) ≤ 8 by omega) (show 0 ≤ pw8 m by omega)
    show 0 ≤ sumL n _ ∧ sumL n _ ≤ 8 * pw8 m
    omega
theorem pN_last (n8 : n ≤ 8) : ∀ (m : Nat) (S T : Int), 0 ≤ S → S < 256 → 0 ≤ T → T < 256 → pN nd n (m + 1) S T = sumL n (fun l => if (inB T l && okB nd l (othM T l)) = true then pN nd n m S (othM T l) else 0) := by
  intro m
  induction m with
  | zero =>
    intro S T S0 S1 T0 T1
    refine sumL_ext n fun l hl => ?_
    try dsimp only
    have l8 : l < 8 := by omega
    cases h1 : inB S l with
    | true =>
      rw [if_neg (by simp)]
      cases h2 : inB T l with
      | false => rw [if_neg (by simp)]
      | true =>
        have t1 := in_y T0 T1 l8 h2
        have e : ¬ S = othM T l := fun q => by rw [q, t1.2.2.1] at h1; cases h1
        split
        · exact (if_neg e).symm
        · rfl
    | false =>
      have s1 := in_n S0 S1 l8 h1
      cases h2 : inB T l with
      | false =>
        rw [if_neg (show ¬ (false && okB nd l (othM T l)) = true by rw [Bool.false_and]; decide)]
        have e : ¬ or32 S (shl32 1 l) = T := fun q => by rw [← q, s1.2.2.2.2.1] at h2; cases h2
        split
        · exact if_neg e
        · rfl
      | true =>
        have t1 := in_y T0 T1 l8 h2
        rw [Bool.not_false, Bool.true_and, Bool.true_and]
        by_cases q : S = othM T l
        · have e : or32 S (shl32 1 l) = T := by rw [q]; exact t1.2.2.2.1
          rw [q] at e ⊢
          rw [show pN nd n 0 (or32 (othM T l) (shl32 1 l)) T = 1 from if_pos e, show pN nd n 0 (othM T l) (othM T l) = 1 from if_pos rfl]
        · have e : ¬ or32 S (shl32 1 l) = T := fun w => q (by rw [← w]; exact s1.2.2.2.2.2.1.symm)
          rw [show pN nd n 0 (or32 S (shl32 1 l)) T = 0 from if_neg e, show pN nd n 0 S (othM T l) = 0 from if_neg q]
          split <;> split <;> rfl
  | succ m ih =>
    intro S T S0 S1 T0 T1
    have e1 : pN nd n (m + 1 + 1) S T = sumL n (fun l => sumL n (fun j => if (!inB S l && okB nd l S) = true then (if (inB T j && okB nd j (othM T j)) = true then pN nd n m (or32 S (shl32 1 l)) (othM T j) else 0) else 0)) := by
      refine sumL_ext n fun l hl => ?_
      try dsimp only
      cases h1 : inB S l with
      | true =>
        rw [if_neg (by simp)]
        exact ((sumL_ext n fun j _ => if_neg (by simp)).trans (sumL_0 n)).symm
      | false =>
        have s1 := in_n S0 S1 (show l < 8 by omega) h1
        rw [ih _ _ s1.2.1 s1.2.2.1 T0 T1]
        exact sumL_if n
    rw [e1, sumL_swap]
    refine sumL_ext n fun j hj => ?_
    try dsimp only
    cases h2 : inB T j with
    | false => exact (sumL_ext n fun l _ => by rw [if_neg (show ¬ (false && okB nd j (othM T j)) = true by rw [Bool.false_and]; decide)]; split <;> rfl).trans (sumL_0 n)
    | true =>
      rw [Bool.true_and]
      cases h3 : okB nd j (othM T j) with
      | false =>
        refine (sumL_ext n fun l _ => ?_).trans (sumL_0 n)
        try dsimp only
        split
        · exact if_neg (by simp)
        · rfl
      | true =>
        rw [if_pos rfl]
        refine sumL_ext n fun l _ => ?_
        try dsimp only
        rw [if_pos rfl]
end PATHS
