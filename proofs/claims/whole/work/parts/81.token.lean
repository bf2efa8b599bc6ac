/-! Tokens, one by one. -/
def blB (c : Int) : Bool := decide (c = 32 ∨ c = 10)
def skN (F : Int → Int) : Nat → Int → Int
  | 0, p => p
  | k + 1, p => if blB (byA F p) = true then skN F k (p + 1) else p
def dgN (F : Int → Int) : Nat → Int → Int → Int × Int
  | 0, p, v => (p, v)
  | k + 1, p, v => if digB (byA F p) = true then dgN F k (p + 1) (min (v * 10 + byA F p - 48) 10000) else (p, v)
def ltN (F : Int → Int) : Nat → Int → Int
  | 0, p => p
  | k + 1, p => if letB (byA F p) = true then ltN F k (p + 1) else p
def wdS (F : Int → Int) (s e c : Int) (q : Int × Int × Int) : Int × Int × Int :=
  if c = 32 then (if q.2.2 = e - s then q.2.1 else q.1, q.2.1 + 1, 0)
  else (q.1, q.2.1, if q.2.2 = -1 then -1 else if byA F (s + q.2.2) = c then q.2.2 + 1 else -1)
def wdN (F : Int → Int) (s e : Int) : Nat → Int × Int × Int
  | 0 => (1, 16, 0)
  | i + 1 => wdS F s e (wch i) (wdN F s e i)
def sgK (c : Int) : Int := if c = 60 then 5 else if c = 62 then 6 else if c = 61 then 7 else if c = 35 then 8 else if c = 43 then 9 else if c = 45 then 10 else if c = 42 then 11 else if c = 47 then 12 else if c = 40 then 13 else if c = 41 then 14 else if c = 59 then 15 else 1
def sgT (F : Int → Int) (p : Int) : Int × Int := if byA F (p + 1) = 61 ∧ sgK (byA F p) = 5 then (3, p + 2) else if byA F (p + 1) = 61 ∧ sgK (byA F p) = 6 then (4, p + 2) else (sgK (byA F p), p + 1)
/-- what a token is, how much it is, where the next one may begin -/
def tkT (F : Int → Int) (s : Int) : Int × Int × Int :=
  if byA F s = -1 then (0, 0, s) else if digB (byA F s) = true then (2, (dgN F 300 s 0).2, (dgN F 300 s 0).1) else if letB (byA F s) = true then ((wdN F s (ltN F 300 s) 129).1, 0, ltN F 300 s) else ((sgT F s).1, 0, (sgT F s).2)
def tkS (F : Int → Int) (p : Int) : Int := skN F 300 p
def tkK (F : Int → Int) (p : Int) : Int := (tkT F (tkS F p)).1
def tkV (F : Int → Int) (p : Int) : Int := (tkT F (tkS F p)).2.1
def tkN (F : Int → Int) (p : Int) : Int := (tkT F (tkS F p)).2.2
theorem byA_lt {F : Int → Int} {i : Int} (h : byA F i ≠ -1) : 0 ≤ i ∧ i < F 2 := by
  unfold byA at h
  split at h
  · assumption
  · exact absurd rfl h
theorem bl_ne {c : Int} (h : blB c = true) : c ≠ -1 := by have := of_decide_eq_true h; omega
theorem dg_ne {c : Int} (h : digB c = true) : c ≠ -1 ∧ 48 ≤ c ∧ c ≤ 57 := by have := of_decide_eq_true h; omega
theorem lt_ne {c : Int} (h : letB c = true) : c ≠ -1 := by have := of_decide_eq_true h; omega
theorem skN_in {F : Int → Int} : ∀ (k : Nat) (p : Int), p ≤ F 2 → p ≤ skN F k p ∧ skN F k p ≤ F 2 := by
  intro k
  induction k with
  | zero => intro p h; exact ⟨Int.le_refl _, h⟩
  | succ k ih =>
    intro p h
    unfold skN
    split
    · have := byA_lt (bl_ne (by assumption))
      have := ih (p + 1) (by omega)
      omega
    · omega
theorem dgN_in {F : Int → Int} : ∀ (k : Nat) (p v : Int), p ≤ F 2 → 0 ≤ v → v ≤ 10000 → p ≤ (dgN F k p v).1 ∧ (dgN F k p v).1 ≤ F 2 ∧ 0 ≤ (dgN F k p v).2 ∧ (dgN F k p v).2 ≤ 10000 := by
  intro k
  induction k with
  | zero => intro p v h h0 h1; exact ⟨Int.le_refl _, h, h0, h1⟩
  | succ k ih =>
    intro p v h h0 h1
    unfold dgN
    split
    · have d := dg_ne (by assumption)
      have := byA_lt d.1
      have := ih (p + 1) (min (v * 10 + byA F p - 48) 10000) (by omega) (by omega) (by omega)
      omega
    · exact ⟨Int.le_refl _, h, h0, h1⟩
theorem ltN_in {F : Int → Int} : ∀ (k : Nat) (p : Int), p ≤ F 2 → p ≤ ltN F k p ∧ ltN F k p ≤ F 2 := by
  intro k
  induction k with
  | zero => intro p h; exact ⟨Int.le_refl _, h⟩
  | succ k ih =>
    intro p h
    unfold ltN
    split
    · have := byA_lt (lt_ne (by assumption))
      have := ih (p + 1) (by omega)
      omega
    · omega
theorem wdN_in {F : Int → Int} {s e : Int} : ∀ k : Nat, 0 ≤ (wdN F s e k).1 ∧ (wdN F s e k).1 < 16 + k + 1 ∧ 16 ≤ (wdN F s e k).2.1 ∧ (wdN F s e k).2.1 ≤ 16 + k ∧ -1 ≤ (wdN F s e k).2.2 ∧ (wdN F s e k).2.2 ≤ k := by
  intro k
  induction k with
  | zero => exact ⟨by show (0 : Int) ≤ 1; decide, by show (1 : Int) < 16 + 0 + 1; decide, by show (16 : Int) ≤ 16; decide, by show (16 : Int) ≤ 16 + 0; decide, by show (-1 : Int) ≤ 0; decide, by show (0 : Int) ≤ 0; decide⟩
  | succ k ih =>
    unfold wdN wdS
    refine ⟨?_, ?_, ?_, ?_, ?_, ?_⟩ <;> (repeat' split) <;> dsimp only <;> omega
theorem wdN_ge (F : Int → Int) (s e : Int) : ∀ k : Nat, (wdN F s e k).1 = 1 ∨ 16 ≤ (wdN F s e k).1 := by
  intro k
  have w := wdN_in (F := F) (s := s) (e := e) k
  induction k with
  | zero => exact .inl rfl
  | succ k ih =>
    have w := wdN_in (F := F) (s := s) (e := e) k
    have ih := ih w
    unfold wdN wdS
    (repeat' split) <;> dsimp only <;> omega
theorem sgK_ne2 (c : Int) : sgK c ≠ 2 := by
  unfold sgK
  (repeat' split) <;> decide
theorem sgT_ne2 (F : Int → Int) (q : Int) : (sgT F q).1 ≠ 2 := by
  unfold sgT
  split
  · show (3 : Int) ≠ 2
    decide
  · split
    · show (4 : Int) ≠ 2
      decide
    · exact sgK_ne2 _
section TOKEN
variable {d bc bs n : Nat} {h : aH} {Q : aQ} {F : Int → Int} {k s v p : Int}
theorem R_X9_signKind {c : Int} (kk : Q (some (vI (sgK c))) h n) : Rn d bc bs mX9_signKind 0 [some (vI c)] [] h n Q := by
  unfold sgK at kk
  refine BX9_signKind_0  ?_ ?_ ?_ ?_ ?_ ?_ ?_ ?_ ?_ ?_ ?_ ?_ ?_ ?_ ?_ ?_ ?_ ?_ ?_ ?_ ?_ ?_ ?_ ?_ ?_ ?_ ?_ ?_ ?_
  · intro hc1
    refine BX9_signKind_160  ?_
    (first | (rw [if_pos (by assumption)] at kk) | (rw [if_neg (by omega), if_pos (by assumption)] at kk) | (rw [if_neg (by omega), if_neg (by omega), if_pos (by assumption)] at kk) | (rw [if_neg (by omega), if_neg (by omega), if_neg (by omega), if_pos (by assumption)] at kk) | (rw [if_neg (by omega), if_neg (by omega), if_neg (by omega), if_neg (by omega), if_pos (by assumption)] at kk) | (rw [if_neg (by omega), if_neg (by omega), if_neg (by omega), if_neg (by omega), if_neg (by omega), if_pos (by assumption)] at kk) | (rw [if_neg (by omega), if_neg (by omega), if_neg (by omega), if_neg (by omega), if_neg (by omega), if_neg (by omega), if_pos (by assumption)] at kk) | (rw [if_neg (by omega), if_neg (by omega), if_neg (by omega), if_neg (by omega), if_neg (by omega), if_neg (by omega), if_neg (by omega), if_pos (by assumption)] at kk) | (rw [if_neg (by omega), if_neg (by omega), if_neg (by omega), if_neg (by omega), if_neg (by omega), if_neg (by omega), if_neg (by omega), if_neg (by omega), if_pos (by assumption)] at kk) | (rw [if_neg (by omega), if_neg (by omega), if_neg (by omega), if_neg (by omega), if_neg (by omega), if_neg (by omega), if_neg (by omega), if_neg (by omega), if_neg (by omega), if_pos (by assumption)] at kk) | (rw [if_neg (by omega), if_neg (by omega), if_neg (by omega), if_neg (by omega), if_neg (by omega), if_neg (by omega), if_neg (by omega), if_neg (by omega), if_neg (by omega), if_neg (by omega), if_pos (by assumption)] at kk) | (rw [if_neg (by omega), if_neg (by omega), if_neg (by omega), if_neg (by omega), if_neg (by omega), if_neg (by omega), if_neg (by omega), if_neg (by omega), if_neg (by omega), if_neg (by omega), if_neg (by omega)] at kk)); exact kk
  · intro hc2
    refine BX9_signKind_136  ?_
    (first | (rw [if_pos (by assumption)] at kk) | (rw [if_neg (by omega), if_pos (by assumption)] at kk) | (rw [if_neg (by omega), if_neg (by omega), if_pos (by assumption)] at kk) | (rw [if_neg (by omega), if_neg (by omega), if_neg (by omega), if_pos (by assumption)] at kk) | (rw [if_neg (by omega), if_neg (by omega), if_neg (by omega), if_neg (by omega), if_pos (by assumption)] at kk) | (rw [if_neg (by omega), if_neg (by omega), if_neg (by omega), if_neg (by omega), if_neg (by omega), if_pos (by assumption)] at kk) | (rw [if_neg (by omega), if_neg (by omega), if_neg (by omega), if_neg (by omega), if_neg (by omega), if_neg (by omega), if_pos (by assumption)] at kk) | (rw [if_neg (by omega), if_neg (by omega), if_neg (by omega), if_neg (by omega), if_neg (by omega), if_neg (by omega), if_neg (by omega), if_pos (by assumption)] at kk) | (rw [if_neg (by omega), if_neg (by omega), if_neg (by omega), if_neg (by omega), if_neg (by omega), if_neg (by omega), if_neg (by omega), if_neg (by omega), if_pos (by assumption)] at kk) | (rw [if_neg (by omega), if_neg (by omega), if_neg (by omega), if_neg (by omega), if_neg (by omega), if_neg (by omega), if_neg (by omega), if_neg (by omega), if_neg (by omega), if_pos (by assumption)] at kk) | (rw [if_neg (by omega), if_neg (by omega), if_neg (by omega), if_neg (by omega), if_neg (by omega), if_neg (by omega), if_neg (by omega), if_neg (by omega), if_neg (by omega), if_neg (by omega), if_pos (by assumption)] at kk) | (rw [if_neg (by omega), if_neg (by omega), if_neg (by omega), if_neg (by omega), if_neg (by omega), if_neg (by omega), if_neg (by omega), if_neg (by omega), if_neg (by omega), if_neg (by omega), if_neg (by omega)] at kk)); exact kk
  · intro hc3
    refine BX9_signKind_160  ?_
    (first | (rw [if_pos (by assumption)] at kk) | (rw [if_neg (by omega), if_pos (by assumption)] at kk) | (rw [if_neg (by omega), if_neg (by omega), if_pos (by assumption)] at kk) | (rw [if_neg (by omega), if_neg (by omega), if_neg (by omega), if_pos (by assumption)] at kk) | (rw [if_neg (by omega), if_neg (by omega), if_neg (by omega), if_neg (by omega), if_pos (by assumption)] at kk) | (rw [if_neg (by omega), if_neg (by omega), if_neg (by omega), if_neg (by omega), if_neg (by omega), if_pos (by assumption)] at kk) | (rw [if_neg (by omega), if_neg (by omega), if_neg (by omega), if_neg (by omega), if_neg (by omega), if_neg (by omega), if_pos (by assumption)] at kk) | (rw [if_neg (by omega), if_neg (by omega), if_neg (by omega), if_neg (by omega), if_neg (by omega), if_neg (by omega), if_neg (by omega), if_pos (by assumption)] at kk) | (rw [if_neg (by omega), if_neg (by omega), if_neg (by omega), if_neg (by omega), if_neg (by omega), if_neg (by omega), if_neg (by omega), if_neg (by omega), if_pos (by assumption)] at kk) | (rw [if_neg (by omega), if_neg (by omega), if_neg (by omega), if_neg (by omega), if_neg (by omega), if_neg (by omega), if_neg (by omega), if_neg (by omega), if_neg (by omega), if_pos (by assumption)] at kk) | (rw [if_neg (by omega), if_neg (by omega), if_neg (by omega), if_neg (by omega), if_neg (by omega), if_neg (by omega), if_neg (by omega), if_neg (by omega), if_neg (by omega), if_neg (by omega), if_pos (by assumption)] at kk) | (rw [if_neg (by omega), if_neg (by omega), if_neg (by omega), if_neg (by omega), if_neg (by omega), if_neg (by omega), if_neg (by omega), if_neg (by omega), if_neg (by omega), if_neg (by omega), if_neg (by omega)] at kk)); exact kk
  · intro hc4
    refine BX9_signKind_160  ?_
    (first | (rw [if_pos (by assumption)] at kk) | (rw [if_neg (by omega), if_pos (by assumption)] at kk) | (rw [if_neg (by omega), if_neg (by omega), if_pos (by assumption)] at kk) | (rw [if_neg (by omega), if_neg (by omega), if_neg (by omega), if_pos (by assumption)] at kk) | (rw [if_neg (by omega), if_neg (by omega), if_neg (by omega), if_neg (by omega), if_pos (by assumption)] at kk) | (rw [if_neg (by omega), if_neg (by omega), if_neg (by omega), if_neg (by omega), if_neg (by omega), if_pos (by assumption)] at kk) | (rw [if_neg (by omega), if_neg (by omega), if_neg (by omega), if_neg (by omega), if_neg (by omega), if_neg (by omega), if_pos (by assumption)] at kk) | (rw [if_neg (by omega), if_neg (by omega), if_neg (by omega), if_neg (by omega), if_neg (by omega), if_neg (by omega), if_neg (by omega), if_pos (by assumption)] at kk) | (rw [if_neg (by omega), if_neg (by omega), if_neg (by omega), if_neg (by omega), if_neg (by omega), if_neg (by omega), if_neg (by omega), if_neg (by omega), if_pos (by assumption)] at kk) | (rw [if_neg (by omega), if_neg (by omega), if_neg (by omega), if_neg (by omega), if_neg (by omega), if_neg (by omega), if_neg (by omega), if_neg (by omega), if_neg (by omega), if_pos (by assumption)] at kk) | (rw [if_neg (by omega), if_neg (by omega), if_neg (by omega), if_neg (by omega), if_neg (by omega), if_neg (by omega), if_neg (by omega), if_neg (by omega), if_neg (by omega), if_neg (by omega), if_pos (by assumption)] at kk) | (rw [if_neg (by omega), if_neg (by omega), if_neg (by omega), if_neg (by omega), if_neg (by omega), if_neg (by omega), if_neg (by omega), if_neg (by omega), if_neg (by omega), if_neg (by omega), if_neg (by omega)] at kk)); exact kk
  · intro hc5
    refine BX9_signKind_160  ?_
    (first | (rw [if_pos (by assumption)] at kk) | (rw [if_neg (by omega), if_pos (by assumption)] at kk) | (rw [if_neg (by omega), if_neg (by omega), if_pos (by assumption)] at kk) | (rw [if_neg (by omega), if_neg (by omega), if_neg (by omega), if_pos (by assumption)] at kk) | (rw [if_neg (by omega), if_neg (by omega), if_neg (by omega), if_neg (by omega), if_pos (by assumption)] at kk) | (rw [if_neg (by omega), if_neg (by omega), if_neg (by omega), if_neg (by omega), if_neg (by omega), if_pos (by assumption)] at kk) | (rw [if_neg (by omega), if_neg (by omega), if_neg (by omega), if_neg (by omega), if_neg (by omega), if_neg (by omega), if_pos (by assumption)] at kk) | (rw [if_neg (by omega), if_neg (by omega), if_neg (by omega), if_neg (by omega), if_neg (by omega), if_neg (by omega), if_neg (by omega), if_pos (by assumption)] at kk) | (rw [if_neg (by omega), if_neg (by omega), if_neg (by omega), if_neg (by omega), if_neg (by omega), if_neg (by omega), if_neg (by omega), if_neg (by omega), if_pos (by assumption)] at kk) | (rw [if_neg (by omega), if_neg (by omega), if_neg (by omega), if_neg (by omega), if_neg (by omega), if_neg (by omega), if_neg (by omega), if_neg (by omega), if_neg (by omega), if_pos (by assumption)] at kk) | (rw [if_neg (by omega), if_neg (by omega), if_neg (by omega), if_neg (by omega), if_neg (by omega), if_neg (by omega), if_neg (by omega), if_neg (by omega), if_neg (by omega), if_neg (by omega), if_pos (by assumption)] at kk) | (rw [if_neg (by omega), if_neg (by omega), if_neg (by omega), if_neg (by omega), if_neg (by omega), if_neg (by omega), if_neg (by omega), if_neg (by omega), if_neg (by omega), if_neg (by omega), if_neg (by omega)] at kk)); exact kk
  · intro hc6
    refine BX9_signKind_160  ?_
    (first | (rw [if_pos (by assumption)] at kk) | (rw [if_neg (by omega), if_pos (by assumption)] at kk) | (rw [if_neg (by omega), if_neg (by omega), if_pos (by assumption)] at kk) | (rw [if_neg (by omega), if_neg (by omega), if_neg (by omega), if_pos (by assumption)] at kk) | (rw [if_neg (by omega), if_neg (by omega), if_neg (by omega), if_neg (by omega), if_pos (by assumption)] at kk) | (rw [if_neg (by omega), if_neg (by omega), if_neg (by omega), if_neg (by omega), if_neg (by omega), if_pos (by assumption)] at kk) | (rw [if_neg (by omega), if_neg (by omega), if_neg (by omega), if_neg (by omega), if_neg (by omega), if_neg (by omega), if_pos (by assumption)] at kk) | (rw [if_neg (by omega), if_neg (by omega), if_neg (by omega), if_neg (by omega), if_neg (by omega), if_neg (by omega), if_neg (by omega), if_pos (by assumption)] at kk) | (rw [if_neg (by omega), if_neg (by omega), if_neg (by omega), if_neg (by omega), if_neg (by omega), if_neg (by omega), if_neg (by omega), if_neg (by omega), if_pos (by assumption)] at kk) | (rw [if_neg (by omega), if_neg (by omega), if_neg (by omega), if_neg (by omega), if_neg (by omega), if_neg (by omega), if_neg (by omega), if_neg (by omega), if_neg (by omega), if_pos (by assumption)] at kk) | (rw [if_neg (by omega), if_neg (by omega), if_neg (by omega), if_neg (by omega), if_neg (by omega), if_neg (by omega), if_neg (by omega), if_neg (by omega), if_neg (by omega), if_neg (by omega), if_pos (by assumption)] at kk) | (rw [if_neg (by omega), if_neg (by omega), if_neg (by omega), if_neg (by omega), if_neg (by omega), if_neg (by omega), if_neg (by omega), if_neg (by omega), if_neg (by omega), if_neg (by omega), if_neg (by omega)] at kk)); exact kk
  · intro hc7
    refine BX9_signKind_151  ?_
    (first | (rw [if_pos (by assumption)] at kk) | (rw [if_neg (by omega), if_pos (by assumption)] at kk) | (rw [if_neg (by omega), if_neg (by omega), if_pos (by assumption)] at kk) | (rw [if_neg (by omega), if_neg (by omega), if_neg (by omega), if_pos (by assumption)] at kk) | (rw [if_neg (by omega), if_neg (by omega), if_neg (by omega), if_neg (by omega), if_pos (by assumption)] at kk) | (rw [if_neg (by omega), if_neg (by omega), if_neg (by omega), if_neg (by omega), if_neg (by omega), if_pos (by assumption)] at kk) | (rw [if_neg (by omega), if_neg (by omega), if_neg (by omega), if_neg (by omega), if_neg (by omega), if_neg (by omega), if_pos (by assumption)] at kk) | (rw [if_neg (by omega), if_neg (by omega), if_neg (by omega), if_neg (by omega), if_neg (by omega), if_neg (by omega), if_neg (by omega), if_pos (by assumption)] at kk) | (rw [if_neg (by omega), if_neg (by omega), if_neg (by omega), if_neg (by omega), if_neg (by omega), if_neg (by omega), if_neg (by omega), if_neg (by omega), if_pos (by assumption)] at kk) | (rw [if_neg (by omega), if_neg (by omega), if_neg (by omega), if_neg (by omega), if_neg (by omega), if_neg (by omega), if_neg (by omega), if_neg (by omega), if_neg (by omega), if_pos (by assumption)] at kk) | (rw [if_neg (by omega), if_neg (by omega), if_neg (by omega), if_neg (by omega), if_neg (by omega), if_neg (by omega), if_neg (by omega), if_neg (by omega), if_neg (by omega), if_neg (by omega), if_pos (by assumption)] at kk) | (rw [if_neg (by omega), if_neg (by omega), if_neg (by omega), if_neg (by omega), if_neg (by omega), if_neg (by omega), if_neg (by omega), if_neg (by omega), if_neg (by omega), if_neg (by omega), if_neg (by omega)] at kk)); exact kk
  · intro hc8
    refine BX9_signKind_154  ?_
    (first | (rw [if_pos (by assumption)] at kk) | (rw [if_neg (by omega), if_pos (by assumption)] at kk) | (rw [if_neg (by omega), if_neg (by omega), if_pos (by assumption)] at kk) | (rw [if_neg (by omega), if_neg (by omega), if_neg (by omega), if_pos (by assumption)] at kk) | (rw [if_neg (by omega), if_neg (by omega), if_neg (by omega), if_neg (by omega), if_pos (by assumption)] at kk) | (rw [if_neg (by omega), if_neg (by omega), if_neg (by omega), if_neg (by omega), if_neg (by omega), if_pos (by assumption)] at kk) | (rw [if_neg (by omega), if_neg (by omega), if_neg (by omega), if_neg (by omega), if_neg (by omega), if_neg (by omega), if_pos (by assumption)] at kk) | (rw [if_neg (by omega), if_neg (by omega), if_neg (by omega), if_neg (by omega), if_neg (by omega), if_neg (by omega), if_neg (by omega), if_pos (by assumption)] at kk) | (rw [if_neg (by omega), if_neg (by omega), if_neg (by omega), if_neg (by omega), if_neg (by omega), if_neg (by omega), if_neg (by omega), if_neg (by omega), if_pos (by assumption)] at kk) | (rw [if_neg (by omega), if_neg (by omega), if_neg (by omega), if_neg (by omega), if_neg (by omega), if_neg (by omega), if_neg (by omega), if_neg (by omega), if_neg (by omega), if_pos (by assumption)] at kk) | (rw [if_neg (by omega), if_neg (by omega), if_neg (by omega), if_neg (by omega), if_neg (by omega), if_neg (by omega), if_neg (by omega), if_neg (by omega), if_neg (by omega), if_neg (by omega), if_pos (by assumption)] at kk) | (rw [if_neg (by omega), if_neg (by omega), if_neg (by omega), if_neg (by omega), if_neg (by omega), if_neg (by omega), if_neg (by omega), if_neg (by omega), if_neg (by omega), if_neg (by omega), if_neg (by omega)] at kk)); exact kk
  · intro hc9
    refine BX9_signKind_145  ?_
    (first | (rw [if_pos (by assumption)] at kk) | (rw [if_neg (by omega), if_pos (by assumption)] at kk) | (rw [if_neg (by omega), if_neg (by omega), if_pos (by assumption)] at kk) | (rw [if_neg (by omega), if_neg (by omega), if_neg (by omega), if_pos (by assumption)] at kk) | (rw [if_neg (by omega), if_neg (by omega), if_neg (by omega), if_neg (by omega), if_pos (by assumption)] at kk) | (rw [if_neg (by omega), if_neg (by omega), if_neg (by omega), if_neg (by omega), if_neg (by omega), if_pos (by assumption)] at kk) | (rw [if_neg (by omega), if_neg (by omega), if_neg (by omega), if_neg (by omega), if_neg (by omega), if_neg (by omega), if_pos (by assumption)] at kk) | (rw [if_neg (by omega), if_neg (by omega), if_neg (by omega), if_neg (by omega), if_neg (by omega), if_neg (by omega), if_neg (by omega), if_pos (by assumption)] at kk) | (rw [if_neg (by omega), if_neg (by omega), if_neg (by omega), if_neg (by omega), if_neg (by omega), if_neg (by omega), if_neg (by omega), if_neg (by omega), if_pos (by assumption)] at kk) | (rw [if_neg (by omega), if_neg (by omega), if_neg (by omega), if_neg (by omega), if_neg (by omega), if_neg (by omega), if_neg (by omega), if_neg (by omega), if_neg (by omega), if_pos (by assumption)] at kk) | (rw [if_neg (by omega), if_neg (by omega), if_neg (by omega), if_neg (by omega), if_neg (by omega), if_neg (by omega), if_neg (by omega), if_neg (by omega), if_neg (by omega), if_neg (by omega), if_pos (by assumption)] at kk) | (rw [if_neg (by omega), if_neg (by omega), if_neg (by omega), if_neg (by omega), if_neg (by omega), if_neg (by omega), if_neg (by omega), if_neg (by omega), if_neg (by omega), if_neg (by omega), if_neg (by omega)] at kk)); exact kk
  · intro hc10
    refine BX9_signKind_139  ?_
    (first | (rw [if_pos (by assumption)] at kk) | (rw [if_neg (by omega), if_pos (by assumption)] at kk) | (rw [if_neg (by omega), if_neg (by omega), if_pos (by assumption)] at kk) | (rw [if_neg (by omega), if_neg (by omega), if_neg (by omega), if_pos (by assumption)] at kk) | (rw [if_neg (by omega), if_neg (by omega), if_neg (by omega), if_neg (by omega), if_pos (by assumption)] at kk) | (rw [if_neg (by omega), if_neg (by omega), if_neg (by omega), if_neg (by omega), if_neg (by omega), if_pos (by assumption)] at kk) | (rw [if_neg (by omega), if_neg (by omega), if_neg (by omega), if_neg (by omega), if_neg (by omega), if_neg (by omega), if_pos (by assumption)] at kk) | (rw [if_neg (by omega), if_neg (by omega), if_neg (by omega), if_neg (by omega), if_neg (by omega), if_neg (by omega), if_neg (by omega), if_pos (by assumption)] at kk) | (rw [if_neg (by omega), if_neg (by omega), if_neg (by omega), if_neg (by omega), if_neg (by omega), if_neg (by omega), if_neg (by omega), if_neg (by omega), if_pos (by assumption)] at kk) | (rw [if_neg (by omega), if_neg (by omega), if_neg (by omega), if_neg (by omega), if_neg (by omega), if_neg (by omega), if_neg (by omega), if_neg (by omega), if_neg (by omega), if_pos (by assumption)] at kk) | (rw [if_neg (by omega), if_neg (by omega), if_neg (by omega), if_neg (by omega), if_neg (by omega), if_neg (by omega), if_neg (by omega), if_neg (by omega), if_neg (by omega), if_neg (by omega), if_pos (by assumption)] at kk) | (rw [if_neg (by omega), if_neg (by omega), if_neg (by omega), if_neg (by omega), if_neg (by omega), if_neg (by omega), if_neg (by omega), if_neg (by omega), if_neg (by omega), if_neg (by omega), if_neg (by omega)] at kk)); exact kk
  · intro hc11
    refine BX9_signKind_160  ?_
    (first | (rw [if_pos (by assumption)] at kk) | (rw [if_neg (by omega), if_pos (by assumption)] at kk) | (rw [if_neg (by omega), if_neg (by omega), if_pos (by assumption)] at kk) | (rw [if_neg (by omega), if_neg (by omega), if_neg (by omega), if_pos (by assumption)] at kk) | (rw [if_neg (by omega), if_neg (by omega), if_neg (by omega), if_neg (by omega), if_pos (by assumption)] at kk) | (rw [if_neg (by omega), if_neg (by omega), if_neg (by omega), if_neg (by omega), if_neg (by omega), if_pos (by assumption)] at kk) | (rw [if_neg (by omega), if_neg (by omega), if_neg (by omega), if_neg (by omega), if_neg (by omega), if_neg (by omega), if_pos (by assumption)] at kk) | (rw [if_neg (by omega), if_neg (by omega), if_neg (by omega), if_neg (by omega), if_neg (by omega), if_neg (by omega), if_neg (by omega), if_pos (by assumption)] at kk) | (rw [if_neg (by omega), if_neg (by omega), if_neg (by omega), if_neg (by omega), if_neg (by omega), if_neg (by omega), if_neg (by omega), if_neg (by omega), if_pos (by assumption)] at kk) | (rw [if_neg (by omega), if_neg (by omega), if_neg (by omega), if_neg (by omega), if_neg (by omega), if_neg (by omega), if_neg (by omega), if_neg (by omega), if_neg (by omega), if_pos (by assumption)] at kk) | (rw [if_neg (by omega), if_neg (by omega), if_neg (by omega), if_neg (by omega), if_neg (by omega), if_neg (by omega), if_neg (by omega), if_neg (by omega), if_neg (by omega), if_neg (by omega), if_pos (by assumption)] at kk) | (rw [if_neg (by omega), if_neg (by omega), if_neg (by omega), if_neg (by omega), if_neg (by omega), if_neg (by omega), if_neg (by omega), if_neg (by omega), if_neg (by omega), if_neg (by omega), if_neg (by omega)] at kk)); exact kk
  · intro hc12
    refine BX9_signKind_142  ?_
    (first | (rw [if_pos (by assumption)] at kk) | (rw [if_neg (by omega), if_pos (by assumption)] at kk) | (rw [if_neg (by omega), if_neg (by omega), if_pos (by assumption)] at kk) | (rw [if_neg (by omega), if_neg (by omega), if_neg (by omega), if_pos (by assumption)] at kk) | (rw [if_neg (by omega), if_neg (by omega), if_neg (by omega), if_neg (by omega), if_pos (by assumption)] at kk) | (rw [if_neg (by omega), if_neg (by omega), if_neg (by omega), if_neg (by omega), if_neg (by omega), if_pos (by assumption)] at kk) | (rw [if_neg (by omega), if_neg (by omega), if_neg (by omega), if_neg (by omega), if_neg (by omega), if_neg (by omega), if_pos (by assumption)] at kk) | (rw [if_neg (by omega), if_neg (by omega), if_neg (by omega), if_neg (by omega), if_neg (by omega), if_neg (by omega), if_neg (by omega), if_pos (by assumption)] at kk) | (rw [if_neg (by omega), if_neg (by omega), if_neg (by omega), if_neg (by omega), if_neg (by omega), if_neg (by omega), if_neg (by omega), if_neg (by omega), if_pos (by assumption)] at kk) | (rw [if_neg (by omega), if_neg (by omega), if_neg (by omega), if_neg (by omega), if_neg (by omega), if_neg (by omega), if_neg (by omega), if_neg (by omega), if_neg (by omega), if_pos (by assumption)] at kk) | (rw [if_neg (by omega), if_neg (by omega), if_neg (by omega), if_neg (by omega), if_neg (by omega), if_neg (by omega), if_neg (by omega), if_neg (by omega), if_neg (by omega), if_neg (by omega), if_pos (by assumption)] at kk) | (rw [if_neg (by omega), if_neg (by omega), if_neg (by omega), if_neg (by omega), if_neg (by omega), if_neg (by omega), if_neg (by omega), if_neg (by omega), if_neg (by omega), if_neg (by omega), if_neg (by omega)] at kk)); exact kk
  · intro hc13
    refine BX9_signKind_160  ?_
    (first | (rw [if_pos (by assumption)] at kk) | (rw [if_neg (by omega), if_pos (by assumption)] at kk) | (rw [if_neg (by omega), if_neg (by omega), if_pos (by assumption)] at kk) | (rw [if_neg (by omega), if_neg (by omega), if_neg (by omega), if_pos (by assumption)] at kk) | (rw [if_neg (by omega), if_neg (by omega), if_neg (by omega), if_neg (by omega), if_pos (by assumption)] at kk) | (rw [if_neg (by omega), if_neg (by omega), if_neg (by omega), if_neg (by omega), if_neg (by omega), if_pos (by assumption)] at kk) | (rw [if_neg (by omega), if_neg (by omega), if_neg (by omega), if_neg (by omega), if_neg (by omega), if_neg (by omega), if_pos (by assumption)] at kk) | (rw [if_neg (by omega), if_neg (by omega), if_neg (by omega), if_neg (by omega), if_neg (by omega), if_neg (by omega), if_neg (by omega), if_pos (by assumption)] at kk) | (rw [if_neg (by omega), if_neg (by omega), if_neg (by omega), if_neg (by omega), if_neg (by omega), if_neg (by omega), if_neg (by omega), if_neg (by omega), if_pos (by assumption)] at kk) | (rw [if_neg (by omega), if_neg (by omega), if_neg (by omega), if_neg (by omega), if_neg (by omega), if_neg (by omega), if_neg (by omega), if_neg (by omega), if_neg (by omega), if_pos (by assumption)] at kk) | (rw [if_neg (by omega), if_neg (by omega), if_neg (by omega), if_neg (by omega), if_neg (by omega), if_neg (by omega), if_neg (by omega), if_neg (by omega), if_neg (by omega), if_neg (by omega), if_pos (by assumption)] at kk) | (rw [if_neg (by omega), if_neg (by omega), if_neg (by omega), if_neg (by omega), if_neg (by omega), if_neg (by omega), if_neg (by omega), if_neg (by omega), if_neg (by omega), if_neg (by omega), if_neg (by omega)] at kk)); exact kk
  · intro hc14
    refine BX9_signKind_148  ?_
    (first | (rw [if_pos (by assumption)] at kk) | (rw [if_neg (by omega), if_pos (by assumption)] at kk) | (rw [if_neg (by omega), if_neg (by omega), if_pos (by assumption)] at kk) | (rw [if_neg (by omega), if_neg (by omega), if_neg (by omega), if_pos (by assumption)] at kk) | (rw [if_neg (by omega), if_neg (by omega), if_neg (by omega), if_neg (by omega), if_pos (by assumption)] at kk) | (rw [if_neg (by omega), if_neg (by omega), if_neg (by omega), if_neg (by omega), if_neg (by omega), if_pos (by assumption)] at kk) | (rw [if_neg (by omega), if_neg (by omega), if_neg (by omega), if_neg (by omega), if_neg (by omega), if_neg (by omega), if_pos (by assumption)] at kk) | (rw [if_neg (by omega), if_neg (by omega), if_neg (by omega), if_neg (by omega), if_neg (by omega), if_neg (by omega), if_neg (by omega), if_pos (by assumption)] at kk) | (rw [if_neg (by omega), if_neg (by omega), if_neg (by omega), if_neg (by omega), if_neg (by omega), if_neg (by omega), if_neg (by omega), if_neg (by omega), if_pos (by assumption)] at kk) | (rw [if_neg (by omega), if_neg (by omega), if_neg (by omega), if_neg (by omega), if_neg (by omega), if_neg (by omega), if_neg (by omega), if_neg (by omega), if_neg (by omega), if_pos (by assumption)] at kk) | (rw [if_neg (by omega), if_neg (by omega), if_neg (by omega), if_neg (by omega), if_neg (by omega), if_neg (by omega), if_neg (by omega), if_neg (by omega), if_neg (by omega), if_neg (by omega), if_pos (by assumption)] at kk) | (rw [if_neg (by omega), if_neg (by omega), if_neg (by omega), if_neg (by omega), if_neg (by omega), if_neg (by omega), if_neg (by omega), if_neg (by omega), if_neg (by omega), if_neg (by omega), if_neg (by omega)] at kk)); exact kk
  · intro hc15
    refine BX9_signKind_160  ?_
    (first | (rw [if_pos (by assumption)] at kk) | (rw [if_neg (by omega), if_pos (by assumption)] at kk) | (rw [if_neg (by omega), if_neg (by omega), if_pos (by assumption)] at kk) | (rw [if_neg (by omega), if_neg (by omega), if_neg (by omega), if_pos (by assumption)] at kk) | (rw [if_neg (by omega), if_neg (by omega), if_neg (by omega), if_neg (by omega), if_pos (by assumption)] at kk) | (rw [if_neg (by omega), if_neg (by omega), if_neg (by omega), if_neg (by omega), if_neg (by omega), if_pos (by assumption)] at kk) | (rw [if_neg (by omega), if_neg (by omega), if_neg (by omega), if_neg (by omega), if_neg (by omega), if_neg (by omega), if_pos (by assumption)] at kk) | (rw [if_neg (by omega), if_neg (by omega), if_neg (by omega), if_neg (by omega), if_neg (by omega), if_neg (by omega), if_neg (by omega), if_pos (by assumption)] at kk) | (rw [if_neg (by omega), if_neg (by omega), if_neg (by omega), if_neg (by omega), if_neg (by omega), if_neg (by omega), if_neg (by omega), if_neg (by omega), if_pos (by assumption)] at kk) | (rw [if_neg (by omega), if_neg (by omega), if_neg (by omega), if_neg (by omega), if_neg (by omega), if_neg (by omega), if_neg (by omega), if_neg (by omega), if_neg (by omega), if_pos (by assumption)] at kk) | (rw [if_neg (by omega), if_neg (by omega), if_neg (by omega), if_neg (by omega), if_neg (by omega), if_neg (by omega), if_neg (by omega), if_neg (by omega), if_neg (by omega), if_neg (by omega), if_pos (by assumption)] at kk) | (rw [if_neg (by omega), if_neg (by omega), if_neg (by omega), if_neg (by omega), if_neg (by omega), if_neg (by omega), if_neg (by omega), if_neg (by omega), if_neg (by omega), if_neg (by omega), if_neg (by omega)] at kk)); exact kk
  · intro hc16
    refine BX9_signKind_160  ?_
    (first | (rw [if_pos (by assumption)] at kk) | (rw [if_neg (by omega), if_pos (by assumption)] at kk) | (rw [if_neg (by omega), if_neg (by omega), if_pos (by assumption)] at kk) | (rw [if_neg (by omega), if_neg (by omega), if_neg (by omega), if_pos (by assumption)] at kk) | (rw [if_neg (by omega), if_neg (by omega), if_neg (by omega), if_neg (by omega), if_pos (by assumption)] at kk) | (rw [if_neg (by omega), if_neg (by omega), if_neg (by omega), if_neg (by omega), if_neg (by omega), if_pos (by assumption)] at kk) | (rw [if_neg (by omega), if_neg (by omega), if_neg (by omega), if_neg (by omega), if_neg (by omega), if_neg (by omega), if_pos (by assumption)] at kk) | (rw [if_neg (by omega), if_neg (by omega), if_neg (by omega), if_neg (by omega), if_neg (by omega), if_neg (by omega), if_neg (by omega), if_pos (by assumption)] at kk) | (rw [if_neg (by omega), if_neg (by omega), if_neg (by omega), if_neg (by omega), if_neg (by omega), if_neg (by omega), if_neg (by omega), if_neg (by omega), if_pos (by assumption)] at kk) | (rw [if_neg (by omega), if_neg (by omega), if_neg (by omega), if_neg (by omega), if_neg (by omega), if_neg (by omega), if_neg (by omega), if_neg (by omega), if_neg (by omega), if_pos (by assumption)] at kk) | (rw [if_neg (by omega), if_neg (by omega), if_neg (by omega), if_neg (by omega), if_neg (by omega), if_neg (by omega), if_neg (by omega), if_neg (by omega), if_neg (by omega), if_neg (by omega), if_pos (by assumption)] at kk) | (rw [if_neg (by omega), if_neg (by omega), if_neg (by omega), if_neg (by omega), if_neg (by omega), if_neg (by omega), if_neg (by omega), if_neg (by omega), if_neg (by omega), if_neg (by omega), if_neg (by omega)] at kk)); exact kk
  · intro hc17
    refine BX9_signKind_160  ?_
    (first | (rw [if_pos (by assumption)] at kk) | (rw [if_neg (by omega), if_pos (by assumption)] at kk) | (rw [if_neg (by omega), if_neg (by omega), if_pos (by assumption)] at kk) | (rw [if_neg (by omega), if_neg (by omega), if_neg (by omega), if_pos (by assumption)] at kk) | (rw [if_neg (by omega), if_neg (by omega), if_neg (by omega), if_neg (by omega), if_pos (by assumption)] at kk) | (rw [if_neg (by omega), if_neg (by omega), if_neg (by omega), if_neg (by omega), if_neg (by omega), if_pos (by assumption)] at kk) | (rw [if_neg (by omega), if_neg (by omega), if_neg (by omega), if_neg (by omega), if_neg (by omega), if_neg (by omega), if_pos (by assumption)] at kk) | (rw [if_neg (by omega), if_neg (by omega), if_neg (by omega), if_neg (by omega), if_neg (by omega), if_neg (by omega), if_neg (by omega), if_pos (by assumption)] at kk) | (rw [if_neg (by omega), if_neg (by omega), if_neg (by omega), if_neg (by omega), if_neg (by omega), if_neg (by omega), if_neg (by omega), if_neg (by omega), if_pos (by assumption)] at kk) | (rw [if_neg (by omega), if_neg (by omega), if_neg (by omega), if_neg (by omega), if_neg (by omega), if_neg (by omega), if_neg (by omega), if_neg (by omega), if_neg (by omega), if_pos (by assumption)] at kk) | (rw [if_neg (by omega), if_neg (by omega), if_neg (by omega), if_neg (by omega), if_neg (by omega), if_neg (by omega), if_neg (by omega), if_neg (by omega), if_neg (by omega), if_neg (by omega), if_pos (by assumption)] at kk) | (rw [if_neg (by omega), if_neg (by omega), if_neg (by omega), if_neg (by omega), if_neg (by omega), if_neg (by omega), if_neg (by omega), if_neg (by omega), if_neg (by omega), if_neg (by omega), if_neg (by omega)] at kk)); exact kk
  · intro hc18
    refine BX9_signKind_160  ?_
    (first | (rw [if_pos (by assumption)] at kk) | (rw [if_neg (by omega), if_pos (by assumption)] at kk) | (rw [if_neg (by omega), if_neg (by omega), if_pos (by assumption)] at kk) | (rw [if_neg (by omega), if_neg (by omega), if_neg (by omega), if_pos (by assumption)] at kk) | (rw [if_neg (by omega), if_neg (by omega), if_neg (by omega), if_neg (by omega), if_pos (by assumption)] at kk) | (rw [if_neg (by omega), if_neg (by omega), if_neg (by omega), if_neg (by omega), if_neg (by omega), if_pos (by assumption)] at kk) | (rw [if_neg (by omega), if_neg (by omega), if_neg (by omega), if_neg (by omega), if_neg (by omega), if_neg (by omega), if_pos (by assumption)] at kk) | (rw [if_neg (by omega), if_neg (by omega), if_neg (by omega), if_neg (by omega), if_neg (by omega), if_neg (by omega), if_neg (by omega), if_pos (by assumption)] at kk) | (rw [if_neg (by omega), if_neg (by omega), if_neg (by omega), if_neg (by omega), if_neg (by omega), if_neg (by omega), if_neg (by omega), if_neg (by omega), if_pos (by assumption)] at kk) | (rw [if_neg (by omega), if_neg (by omega), if_neg (by omega), if_neg (by omega), if_neg (by omega), if_neg (by omega), if_neg (by omega), if_neg (by omega), if_neg (by omega), if_pos (by assumption)] at kk) | (rw [if_neg (by omega), if_neg (by omega), if_neg (by omega), if_neg (by omega), if_neg (by omega), if_neg (by omega), if_neg (by omega), if_neg (by omega), if_neg (by omega), if_neg (by omega), if_pos (by assumption)] at kk) | (rw [if_neg (by omega), if_neg (by omega), if_neg (by omega), if_neg (by omega), if_neg (by omega), if_neg (by omega), if_neg (by omega), if_neg (by omega), if_neg (by omega), if_neg (by omega), if_neg (by omega)] at kk)); exact kk
  · intro hc19
    refine BX9_signKind_160  ?_
    (first | (rw [if_pos (by assumption)] at kk) | (rw [if_neg (by omega), if_pos (by assumption)] at kk) | (rw [if_neg (by omega), if_neg (by omega), if_pos (by assumption)] at kk) | (rw [if_neg (by omega), if_neg (by omega), if_neg (by omega), if_pos (by assumption)] at kk) | (rw [if_neg (by omega), if_neg (by omega), if_neg (by omega), if_neg (by omega), if_pos (by assumption)] at kk) | (rw [if_neg (by omega), if_neg (by omega), if_neg (by omega), if_neg (by omega), if_neg (by omega), if_pos (by assumption)] at kk) | (rw [if_neg (by omega), if_neg (by omega), if_neg (by omega), if_neg (by omega), if_neg (by omega), if_neg (by omega), if_pos (by assumption)] at kk) | (rw [if_neg (by omega), if_neg (by omega), if_neg (by omega), if_neg (by omega), if_neg (by omega), if_neg (by omega), if_neg (by omega), if_pos (by assumption)] at kk) | (rw [if_neg (by omega), if_neg (by omega), if_neg (by omega), if_neg (by omega), if_neg (by omega), if_neg (by omega), if_neg (by omega), if_neg (by omega), if_pos (by assumption)] at kk) | (rw [if_neg (by omega), if_neg (by omega), if_neg (by omega), if_neg (by omega), if_neg (by omega), if_neg (by omega), if_neg (by omega), if_neg (by omega), if_neg (by omega), if_pos (by assumption)] at kk) | (rw [if_neg (by omega), if_neg (by omega), if_neg (by omega), if_neg (by omega), if_neg (by omega), if_neg (by omega), if_neg (by omega), if_neg (by omega), if_neg (by omega), if_neg (by omega), if_pos (by assumption)] at kk) | (rw [if_neg (by omega), if_neg (by omega), if_neg (by omega), if_neg (by omega), if_neg (by omega), if_neg (by omega), if_neg (by omega), if_neg (by omega), if_neg (by omega), if_neg (by omega), if_neg (by omega)] at kk)); exact kk
  · intro hc20
    refine BX9_signKind_160  ?_
    (first | (rw [if_pos (by assumption)] at kk) | (rw [if_neg (by omega), if_pos (by assumption)] at kk) | (rw [if_neg (by omega), if_neg (by omega), if_pos (by assumption)] at kk) | (rw [if_neg (by omega), if_neg (by omega), if_neg (by omega), if_pos (by assumption)] at kk) | (rw [if_neg (by omega), if_neg (by omega), if_neg (by omega), if_neg (by omega), if_pos (by assumption)] at kk) | (rw [if_neg (by omega), if_neg (by omega), if_neg (by omega), if_neg (by omega), if_neg (by omega), if_pos (by assumption)] at kk) | (rw [if_neg (by omega), if_neg (by omega), if_neg (by omega), if_neg (by omega), if_neg (by omega), if_neg (by omega), if_pos (by assumption)] at kk) | (rw [if_neg (by omega), if_neg (by omega), if_neg (by omega), if_neg (by omega), if_neg (by omega), if_neg (by omega), if_neg (by omega), if_pos (by assumption)] at kk) | (rw [if_neg (by omega), if_neg (by omega), if_neg (by omega), if_neg (by omega), if_neg (by omega), if_neg (by omega), if_neg (by omega), if_neg (by omega), if_pos (by assumption)] at kk) | (rw [if_neg (by omega), if_neg (by omega), if_neg (by omega), if_neg (by omega), if_neg (by omega), if_neg (by omega), if_neg (by omega), if_neg (by omega), if_neg (by omega), if_pos (by assumption)] at kk) | (rw [if_neg (by omega), if_neg (by omega), if_neg (by omega), if_neg (by omega), if_neg (by omega), if_neg (by omega), if_neg (by omega), if_neg (by omega), if_neg (by omega), if_neg (by omega), if_pos (by assumption)] at kk) | (rw [if_neg (by omega), if_neg (by omega), if_neg (by omega), if_neg (by omega), if_neg (by omega), if_neg (by omega), if_neg (by omega), if_neg (by omega), if_neg (by omega), if_neg (by omega), if_neg (by omega)] at kk)); exact kk
  · intro hc21
    refine BX9_signKind_160  ?_
    (first | (rw [if_pos (by assumption)] at kk) | (rw [if_neg (by omega), if_pos (by assumption)] at kk) | (rw [if_neg (by omega), if_neg (by omega), if_pos (by assumption)] at kk) | (rw [if_neg (by omega), if_neg (by omega), if_neg (by omega), if_pos (by assumption)] at kk) | (rw [if_neg (by omega), if_neg (by omega), if_neg (by omega), if_neg (by omega), if_pos (by assumption)] at kk) | (rw [if_neg (by omega), if_neg (by omega), if_neg (by omega), if_neg (by omega), if_neg (by omega), if_pos (by assumption)] at kk) | (rw [if_neg (by omega), if_neg (by omega), if_neg (by omega), if_neg (by omega), if_neg (by omega), if_neg (by omega), if_pos (by assumption)] at kk) | (rw [if_neg (by omega), if_neg (by omega), if_neg (by omega), if_neg (by omega), if_neg (by omega), if_neg (by omega), if_neg (by omega), if_pos (by assumption)] at kk) | (rw [if_neg (by omega), if_neg (by omega), if_neg (by omega), if_neg (by omega), if_neg (by omega), if_neg (by omega), if_neg (by omega), if_neg (by omega), if_pos (by assumption)] at kk) | (rw [if_neg (by omega), if_neg (by omega), if_neg (by omega), if_neg (by omega), if_neg (by omega), if_neg (by omega), if_neg (by omega), if_neg (by omega), if_neg (by omega), if_pos (by assumption)] at kk) | (rw [if_neg (by omega), if_neg (by omega), if_neg (by omega), if_neg (by omega), if_neg (by omega), if_neg (by omega), if_neg (by omega), if_neg (by omega), if_neg (by omega), if_neg (by omega), if_pos (by assumption)] at kk) | (rw [if_neg (by omega), if_neg (by omega), if_neg (by omega), if_neg (by omega), if_neg (by omega), if_neg (by omega), if_neg (by omega), if_neg (by omega), if_neg (by omega), if_neg (by omega), if_neg (by omega)] at kk)); exact kk
  · intro hc22
    refine BX9_signKind_160  ?_
    (first | (rw [if_pos (by assumption)] at kk) | (rw [if_neg (by omega), if_pos (by assumption)] at kk) | (rw [if_neg (by omega), if_neg (by omega), if_pos (by assumption)] at kk) | (rw [if_neg (by omega), if_neg (by omega), if_neg (by omega), if_pos (by assumption)] at kk) | (rw [if_neg (by omega), if_neg (by omega), if_neg (by omega), if_neg (by omega), if_pos (by assumption)] at kk) | (rw [if_neg (by omega), if_neg (by omega), if_neg (by omega), if_neg (by omega), if_neg (by omega), if_pos (by assumption)] at kk) | (rw [if_neg (by omega), if_neg (by omega), if_neg (by omega), if_neg (by omega), if_neg (by omega), if_neg (by omega), if_pos (by assumption)] at kk) | (rw [if_neg (by omega), if_neg (by omega), if_neg (by omega), if_neg (by omega), if_neg (by omega), if_neg (by omega), if_neg (by omega), if_pos (by assumption)] at kk) | (rw [if_neg (by omega), if_neg (by omega), if_neg (by omega), if_neg (by omega), if_neg (by omega), if_neg (by omega), if_neg (by omega), if_neg (by omega), if_pos (by assumption)] at kk) | (rw [if_neg (by omega), if_neg (by omega), if_neg (by omega), if_neg (by omega), if_neg (by omega), if_neg (by omega), if_neg (by omega), if_neg (by omega), if_neg (by omega), if_pos (by assumption)] at kk) | (rw [if_neg (by omega), if_neg (by omega), if_neg (by omega), if_neg (by omega), if_neg (by omega), if_neg (by omega), if_neg (by omega), if_neg (by omega), if_neg (by omega), if_neg (by omega), if_pos (by assumption)] at kk) | (rw [if_neg (by omega), if_neg (by omega), if_neg (by omega), if_neg (by omega), if_neg (by omega), if_neg (by omega), if_neg (by omega), if_neg (by omega), if_neg (by omega), if_neg (by omega), if_neg (by omega)] at kk)); exact kk
  · intro hc23
    refine BX9_signKind_160  ?_
    (first | (rw [if_pos (by assumption)] at kk) | (rw [if_neg (by omega), if_pos (by assumption)] at kk) | (rw [if_neg (by omega), if_neg (by omega), if_pos (by assumption)] at kk) | (rw [if_neg (by omega), if_neg (by omega), if_neg (by omega), if_pos (by assumption)] at kk) | (rw [if_neg (by omega), if_neg (by omega), if_neg (by omega), if_neg (by omega), if_pos (by assumption)] at kk) | (rw [if_neg (by omega), if_neg (by omega), if_neg (by omega), if_neg (by omega), if_neg (by omega), if_pos (by assumption)] at kk) | (rw [if_neg (by omega), if_neg (by omega), if_neg (by omega), if_neg (by omega), if_neg (by omega), if_neg (by omega), if_pos (by assumption)] at kk) | (rw [if_neg (by omega), if_neg (by omega), if_neg (by omega), if_neg (by omega), if_neg (by omega), if_neg (by omega), if_neg (by omega), if_pos (by assumption)] at kk) | (rw [if_neg (by omega), if_neg (by omega), if_neg (by omega), if_neg (by omega), if_neg (by omega), if_neg (by omega), if_neg (by omega), if_neg (by omega), if_pos (by assumption)] at kk) | (rw [if_neg (by omega), if_neg (by omega), if_neg (by omega), if_neg (by omega), if_neg (by omega), if_neg (by omega), if_neg (by omega), if_neg (by omega), if_neg (by omega), if_pos (by assumption)] at kk) | (rw [if_neg (by omega), if_neg (by omega), if_neg (by omega), if_neg (by omega), if_neg (by omega), if_neg (by omega), if_neg (by omega), if_neg (by omega), if_neg (by omega), if_neg (by omega), if_pos (by assumption)] at kk) | (rw [if_neg (by omega), if_neg (by omega), if_neg (by omega), if_neg (by omega), if_neg (by omega), if_neg (by omega), if_neg (by omega), if_neg (by omega), if_neg (by omega), if_neg (by omega), if_neg (by omega)] at kk)); exact kk
  · intro hc24
    refine BX9_signKind_160  ?_
    (first | (rw [if_pos (by assumption)] at kk) | (rw [if_neg (by omega), if_pos (by assumption)] at kk) | (rw [if_neg (by omega), if_neg (by omega), if_pos (by assumption)] at kk) | (rw [if_neg (by omega), if_neg (by omega), if_neg (by omega), if_pos (by assumption)] at kk) | (rw [if_neg (by omega), if_neg (by omega), if_neg (by omega), if_neg (by omega), if_pos (by assumption)] at kk) | (rw [if_neg (by omega), if_neg (by omega), if_neg (by omega), if_neg (by omega), if_neg (by omega), if_pos (by assumption)] at kk) | (rw [if_neg (by omega), if_neg (by omega), if_neg (by omega), if_neg (by omega), if_neg (by omega), if_neg (by omega), if_pos (by assumption)] at kk) | (rw [if_neg (by omega), if_neg (by omega), if_neg (by omega), if_neg (by omega), if_neg (by omega), if_neg (by omega), if_neg (by omega), if_pos (by assumption)] at kk) | (rw [if_neg (by omega), if_neg (by omega), if_neg (by omega), if_neg (by omega), if_neg (by omega), if_neg (by omega), if_neg (by omega), if_neg (by omega), if_pos (by assumption)] at kk) | (rw [if_neg (by omega), if_neg (by omega), if_neg (by omega), if_neg (by omega), if_neg (by omega), if_neg (by omega), if_neg (by omega), if_neg (by omega), if_neg (by omega), if_pos (by assumption)] at kk) | (rw [if_neg (by omega), if_neg (by omega), if_neg (by omega), if_neg (by omega), if_neg (by omega), if_neg (by omega), if_neg (by omega), if_neg (by omega), if_neg (by omega), if_neg (by omega), if_pos (by assumption)] at kk) | (rw [if_neg (by omega), if_neg (by omega), if_neg (by omega), if_neg (by omega), if_neg (by omega), if_neg (by omega), if_neg (by omega), if_neg (by omega), if_neg (by omega), if_neg (by omega), if_neg (by omega)] at kk)); exact kk
  · intro hc25
    refine BX9_signKind_160  ?_
    (first | (rw [if_pos (by assumption)] at kk) | (rw [if_neg (by omega), if_pos (by assumption)] at kk) | (rw [if_neg (by omega), if_neg (by omega), if_pos (by assumption)] at kk) | (rw [if_neg (by omega), if_neg (by omega), if_neg (by omega), if_pos (by assumption)] at kk) | (rw [if_neg (by omega), if_neg (by omega), if_neg (by omega), if_neg (by omega), if_pos (by assumption)] at kk) | (rw [if_neg (by omega), if_neg (by omega), if_neg (by omega), if_neg (by omega), if_neg (by omega), if_pos (by assumption)] at kk) | (rw [if_neg (by omega), if_neg (by omega), if_neg (by omega), if_neg (by omega), if_neg (by omega), if_neg (by omega), if_pos (by assumption)] at kk) | (rw [if_neg (by omega), if_neg (by omega), if_neg (by omega), if_neg (by omega), if_neg (by omega), if_neg (by omega), if_neg (by omega), if_pos (by assumption)] at kk) | (rw [if_neg (by omega), if_neg (by omega), if_neg (by omega), if_neg (by omega), if_neg (by omega), if_neg (by omega), if_neg (by omega), if_neg (by omega), if_pos (by assumption)] at kk) | (rw [if_neg (by omega), if_neg (by omega), if_neg (by omega), if_neg (by omega), if_neg (by omega), if_neg (by omega), if_neg (by omega), if_neg (by omega), if_neg (by omega), if_pos (by assumption)] at kk) | (rw [if_neg (by omega), if_neg (by omega), if_neg (by omega), if_neg (by omega), if_neg (by omega), if_neg (by omega), if_neg (by omega), if_neg (by omega), if_neg (by omega), if_neg (by omega), if_pos (by assumption)] at kk) | (rw [if_neg (by omega), if_neg (by omega), if_neg (by omega), if_neg (by omega), if_neg (by omega), if_neg (by omega), if_neg (by omega), if_neg (by omega), if_neg (by omega), if_neg (by omega), if_neg (by omega)] at kk)); exact kk
  · intro hc26
    refine BX9_signKind_157  ?_
    (first | (rw [if_pos (by assumption)] at kk) | (rw [if_neg (by omega), if_pos (by assumption)] at kk) | (rw [if_neg (by omega), if_neg (by omega), if_pos (by assumption)] at kk) | (rw [if_neg (by omega), if_neg (by omega), if_neg (by omega), if_pos (by assumption)] at kk) | (rw [if_neg (by omega), if_neg (by omega), if_neg (by omega), if_neg (by omega), if_pos (by assumption)] at kk) | (rw [if_neg (by omega), if_neg (by omega), if_neg (by omega), if_neg (by omega), if_neg (by omega), if_pos (by assumption)] at kk) | (rw [if_neg (by omega), if_neg (by omega), if_neg (by omega), if_neg (by omega), if_neg (by omega), if_neg (by omega), if_pos (by assumption)] at kk) | (rw [if_neg (by omega), if_neg (by omega), if_neg (by omega), if_neg (by omega), if_neg (by omega), if_neg (by omega), if_neg (by omega), if_pos (by assumption)] at kk) | (rw [if_neg (by omega), if_neg (by omega), if_neg (by omega), if_neg (by omega), if_neg (by omega), if_neg (by omega), if_neg (by omega), if_neg (by omega), if_pos (by assumption)] at kk) | (rw [if_neg (by omega), if_neg (by omega), if_neg (by omega), if_neg (by omega), if_neg (by omega), if_neg (by omega), if_neg (by omega), if_neg (by omega), if_neg (by omega), if_pos (by assumption)] at kk) | (rw [if_neg (by omega), if_neg (by omega), if_neg (by omega), if_neg (by omega), if_neg (by omega), if_neg (by omega), if_neg (by omega), if_neg (by omega), if_neg (by omega), if_neg (by omega), if_pos (by assumption)] at kk) | (rw [if_neg (by omega), if_neg (by omega), if_neg (by omega), if_neg (by omega), if_neg (by omega), if_neg (by omega), if_neg (by omega), if_neg (by omega), if_neg (by omega), if_neg (by omega), if_neg (by omega)] at kk)); exact kk
  · intro hc27
    refine BX9_signKind_128  ?_
    (first | (rw [if_pos (by assumption)] at kk) | (rw [if_neg (by omega), if_pos (by assumption)] at kk) | (rw [if_neg (by omega), if_neg (by omega), if_pos (by assumption)] at kk) | (rw [if_neg (by omega), if_neg (by omega), if_neg (by omega), if_pos (by assumption)] at kk) | (rw [if_neg (by omega), if_neg (by omega), if_neg (by omega), if_neg (by omega), if_pos (by assumption)] at kk) | (rw [if_neg (by omega), if_neg (by omega), if_neg (by omega), if_neg (by omega), if_neg (by omega), if_pos (by assumption)] at kk) | (rw [if_neg (by omega), if_neg (by omega), if_neg (by omega), if_neg (by omega), if_neg (by omega), if_neg (by omega), if_pos (by assumption)] at kk) | (rw [if_neg (by omega), if_neg (by omega), if_neg (by omega), if_neg (by omega), if_neg (by omega), if_neg (by omega), if_neg (by omega), if_pos (by assumption)] at kk) | (rw [if_neg (by omega), if_neg (by omega), if_neg (by omega), if_neg (by omega), if_neg (by omega), if_neg (by omega), if_neg (by omega), if_neg (by omega), if_pos (by assumption)] at kk) | (rw [if_neg (by omega), if_neg (by omega), if_neg (by omega), if_neg (by omega), if_neg (by omega), if_neg (by omega), if_neg (by omega), if_neg (by omega), if_neg (by omega), if_pos (by assumption)] at kk) | (rw [if_neg (by omega), if_neg (by omega), if_neg (by omega), if_neg (by omega), if_neg (by omega), if_neg (by omega), if_neg (by omega), if_neg (by omega), if_neg (by omega), if_neg (by omega), if_pos (by assumption)] at kk) | (rw [if_neg (by omega), if_neg (by omega), if_neg (by omega), if_neg (by omega), if_neg (by omega), if_neg (by omega), if_neg (by omega), if_neg (by omega), if_neg (by omega), if_neg (by omega), if_neg (by omega)] at kk)); exact kk
  · intro hc28
    refine BX9_signKind_133  ?_
    (first | (rw [if_pos (by assumption)] at kk) | (rw [if_neg (by omega), if_pos (by assumption)] at kk) | (rw [if_neg (by omega), if_neg (by omega), if_pos (by assumption)] at kk) | (rw [if_neg (by omega), if_neg (by omega), if_neg (by omega), if_pos (by assumption)] at kk) | (rw [if_neg (by omega), if_neg (by omega), if_neg (by omega), if_neg (by omega), if_pos (by assumption)] at kk) | (rw [if_neg (by omega), if_neg (by omega), if_neg (by omega), if_neg (by omega), if_neg (by omega), if_pos (by assumption)] at kk) | (rw [if_neg (by omega), if_neg (by omega), if_neg (by omega), if_neg (by omega), if_neg (by omega), if_neg (by omega), if_pos (by assumption)] at kk) | (rw [if_neg (by omega), if_neg (by omega), if_neg (by omega), if_neg (by omega), if_neg (by omega), if_neg (by omega), if_neg (by omega), if_pos (by assumption)] at kk) | (rw [if_neg (by omega), if_neg (by omega), if_neg (by omega), if_neg (by omega), if_neg (by omega), if_neg (by omega), if_neg (by omega), if_neg (by omega), if_pos (by assumption)] at kk) | (rw [if_neg (by omega), if_neg (by omega), if_neg (by omega), if_neg (by omega), if_neg (by omega), if_neg (by omega), if_neg (by omega), if_neg (by omega), if_neg (by omega), if_pos (by assumption)] at kk) | (rw [if_neg (by omega), if_neg (by omega), if_neg (by omega), if_neg (by omega), if_neg (by omega), if_neg (by omega), if_neg (by omega), if_neg (by omega), if_neg (by omega), if_neg (by omega), if_pos (by assumption)] at kk) | (rw [if_neg (by omega), if_neg (by omega), if_neg (by omega), if_neg (by omega), if_neg (by omega), if_neg (by omega), if_neg (by omega), if_neg (by omega), if_neg (by omega), if_neg (by omega), if_neg (by omega)] at kk)); exact kk
  · intro hc29
    refine BX9_signKind_130  ?_
    (first | (rw [if_pos (by assumption)] at kk) | (rw [if_neg (by omega), if_pos (by assumption)] at kk) | (rw [if_neg (by omega), if_neg (by omega), if_pos (by assumption)] at kk) | (rw [if_neg (by omega), if_neg (by omega), if_neg (by omega), if_pos (by assumption)] at kk) | (rw [if_neg (by omega), if_neg (by omega), if_neg (by omega), if_neg (by omega), if_pos (by assumption)] at kk) | (rw [if_neg (by omega), if_neg (by omega), if_neg (by omega), if_neg (by omega), if_neg (by omega), if_pos (by assumption)] at kk) | (rw [if_neg (by omega), if_neg (by omega), if_neg (by omega), if_neg (by omega), if_neg (by omega), if_neg (by omega), if_pos (by assumption)] at kk) | (rw [if_neg (by omega), if_neg (by omega), if_neg (by omega), if_neg (by omega), if_neg (by omega), if_neg (by omega), if_neg (by omega), if_pos (by assumption)] at kk) | (rw [if_neg (by omega), if_neg (by omega), if_neg (by omega), if_neg (by omega), if_neg (by omega), if_neg (by omega), if_neg (by omega), if_neg (by omega), if_pos (by assumption)] at kk) | (rw [if_neg (by omega), if_neg (by omega), if_neg (by omega), if_neg (by omega), if_neg (by omega), if_neg (by omega), if_neg (by omega), if_neg (by omega), if_neg (by omega), if_pos (by assumption)] at kk) | (rw [if_neg (by omega), if_neg (by omega), if_neg (by omega), if_neg (by omega), if_neg (by omega), if_neg (by omega), if_neg (by omega), if_neg (by omega), if_neg (by omega), if_neg (by omega), if_pos (by assumption)] at kk) | (rw [if_neg (by omega), if_neg (by omega), if_neg (by omega), if_neg (by omega), if_neg (by omega), if_neg (by omega), if_neg (by omega), if_neg (by omega), if_neg (by omega), if_neg (by omega), if_neg (by omega)] at kk)); exact kk
theorem R_X9_readNumber (e : IsTk h F k s v p) (o : okF F) (p0 : 0 ≤ p) (p1 : p ≤ F 2) (kk : ∀ h1, Fr h h1 282 2 → IsTk h1 F 2 s (dgN F 300 p 0).2 (dgN F 300 p 0).1 → Q none h1 n) : Rn (d + 1) bc bs mX9_readNumber 0 [some (vR (some 282)), none] [] h n Q := by
  have o1 := o.1
  have loop : ∀ (m i : Nat) (h1 : aH) (p v : Int), i + m = 300 → 0 ≤ p → p ≤ F 2 → 0 ≤ v → v ≤ 10000 → Fr h h1 282 2 → IsTk h1 F 2 s v p → (∀ h1, Fr h h1 282 2 → IsTk h1 F 2 s (dgN F m p v).2 (dgN F m p v).1 → Q none h1 n) → Rn (d + 1) bc bs mX9_readNumber 12 [some (vR (some 282)), some (vI i)] [] h1 n Q := by
    intro m
    induction m with
    | zero =>
      intro i h1 p v hi p0 p1 v0 v1 f e kk
      refine BX9_readNumber_12  ?_ ?_
      · intro hc1
        first
        | (exfalso; omega)
        | (
            refine BX9_readNumber_78  ?_
            exact kk _ f e
          )
      · intro hc2
        first
        | (exfalso; omega)
        | (
            (exfalso; omega)
          )
    | succ m ih =>
      intro i h1 p v hi p0 p1 v0 v1 f e kk
      have e1 := e.1; have e2 := e.2
      have bi := byA_in o p
      unfold dgN at kk
      refine BX9_readNumber_12  ?_ ?_
      · intro hc1
        refine BX9_readNumber_78  ?_
        first | (exfalso; omega) | (rw [if_neg (by rw [w27]; decide)] at kk; exact kk _ f e)
      · intro hc2
        refine BX9_readNumber_19 (by first | assumption | exact up_at _ _ _ | (rw [up_ne (by omega)]; first | assumption | exact up_at _ _ _ | (rw [up_ne (by omega)]; first | assumption | exact up_at _ _ _ | (rw [up_ne (by omega)]; assumption)))) (by rfl) ?_
        refine R_X9_byteAt (by first | omega | assumption | (simp only [Ls_len]; omega) | exact Ls_get (by omega) (by omega) | rfl | decide) (by first | omega | assumption | (simp only [Ls_len]; omega) | exact Ls_get (by omega) (by omega) | rfl | decide) ?_
        refine BX9_readNumber_27  ?_
        refine R_X9_isDigit  ?_ ?_
        · intro w27
          refine BX9_readNumber_30  ?_ ?_
          · intro hc3
            exact absurd hc3 (by decide)
          · intro hc4
            refine BX9_readNumber_33 (by first | assumption | exact up_at _ _ _ | (rw [up_ne (by omega)]; first | assumption | exact up_at _ _ _ | (rw [up_ne (by omega)]; first | assumption | exact up_at _ _ _ | (rw [up_ne (by omega)]; assumption)))) (by rfl) (by first | omega | assumption | (simp only [Ls_len]; omega) | exact Ls_get (by omega) (by omega) | rfl | decide) (by rfl) ?_
            refine R_X9_byteAt (by first | omega | assumption | (simp only [Ls_len]; omega) | exact Ls_get (by omega) (by omega) | rfl | decide) (by first | omega | assumption | (simp only [Ls_len]; omega) | exact Ls_get (by omega) (by omega) | rfl | decide) ?_
            refine BX9_readNumber_49 (by first | omega | assumption | (simp only [Ls_len]; omega) | exact Ls_get (by omega) (by omega) | rfl | decide) (by first | omega | assumption | (simp only [Ls_len]; omega) | exact Ls_get (by omega) (by omega) | rfl | decide) ?_
            refine R_J9_min  ?_
            have dd := dg_ne w27
            have dl := byA_lt dd.1
            refine BX9_readNumber_59 (by first | assumption | exact up_at _ _ _ | (rw [up_ne (by omega)]; first | assumption | exact up_at _ _ _ | (rw [up_ne (by omega)]; first | assumption | exact up_at _ _ _ | (rw [up_ne (by omega)]; assumption)))) (by simp) ?_
            refine BX9_readNumber_62 (by first | assumption | exact up_at _ _ _ | (rw [up_ne (by omega)]; first | assumption | exact up_at _ _ _ | (rw [up_ne (by omega)]; first | assumption | exact up_at _ _ _ | (rw [up_ne (by omega)]; assumption)))) (by rfl) (by first | omega | assumption | (simp only [Ls_len]; omega) | exact Ls_get (by omega) (by omega) | rfl | decide) (by simp) ?_
            refine BX9_readNumber_72 (by first | omega | assumption | (simp only [Ls_len]; omega) | exact Ls_get (by omega) (by omega) | rfl | decide) ?_
            rw [if_pos w27] at kk
            rw [up_up]
            exact ih (i + 1) _ (p + 1) _ (by omega) (by omega) (by omega) (by omega) (by omega) (f.put (by decide) (by decide)) (e.st) kk
        · intro w27
          refine BX9_readNumber_30  ?_ ?_
          · intro hc5
            refine BX9_readNumber_78  ?_
            first | (exfalso; omega) | (rw [if_neg (by rw [w27]; decide)] at kk; exact kk _ f e)
          · intro hc6
            exact absurd hc6 (by decide)
  have e1 := e.1; have e2 := e.2
  refine BX9_readNumber_0 (by first | assumption | exact up_at _ _ _ | (rw [up_ne (by omega)]; first | assumption | exact up_at _ _ _ | (rw [up_ne (by omega)]; first | assumption | exact up_at _ _ _ | (rw [up_ne (by omega)]; assumption)))) (by simp) ?_
  refine BX9_readNumber_5 (by first | assumption | exact up_at _ _ _ | (rw [up_ne (by omega)]; first | assumption | exact up_at _ _ _ | (rw [up_ne (by omega)]; first | assumption | exact up_at _ _ _ | (rw [up_ne (by omega)]; assumption)))) (by simp) ?_
  rw [up_up]
  refine BX9_readNumber_10  ?_
  exact loop 300 0 _ p 0 (by decide) p0 p1 (by decide) (by decide) ((Fr.rf _ _ _).put (by decide) (by decide)) e.st kk
theorem R_X9_readSign (e : IsTk h F k s v p) (o : okF F) (p0 : 0 ≤ p) (p1 : p ≤ F 2) (kk : ∀ h1, Fr h h1 282 2 → IsTk h1 F (sgT F p).1 s v (sgT F p).2 → Q none h1 n) : Rn (d + 1) bc bs mX9_readSign 0 [some (vR (some 282)), some (vI (byA F p)), none] [] h n Q := by
  have o1 := o.1
  unfold sgT at kk
  have e1 := e.1; have e2 := e.2
  refine BX9_readSign_0 (by first | assumption | exact up_at _ _ _ | (rw [up_ne (by omega)]; first | assumption | exact up_at _ _ _ | (rw [up_ne (by omega)]; first | assumption | exact up_at _ _ _ | (rw [up_ne (by omega)]; assumption)))) (by rfl) (by first | omega | assumption | (simp only [Ls_len]; omega) | exact Ls_get (by omega) (by omega) | rfl | decide) ?_
  refine R_X9_byteAt (by first | omega | assumption | (simp only [Ls_len]; omega) | exact Ls_get (by omega) (by omega) | rfl | decide) (by first | omega | assumption | (simp only [Ls_len]; omega) | exact Ls_get (by omega) (by omega) | rfl | decide) ?_
  refine BX9_readSign_10  ?_ ?_
  · intro hc1
    refine BX9_readSign_19 (by first | assumption | exact up_at _ _ _ | (rw [up_ne (by omega)]; first | assumption | exact up_at _ _ _ | (rw [up_ne (by omega)]; first | assumption | exact up_at _ _ _ | (rw [up_ne (by omega)]; assumption)))) (by rfl) (by first | omega | assumption | (simp only [Ls_len]; omega) | exact Ls_get (by omega) (by omega) | rfl | decide) (by simp) ?_
    refine BX9_readSign_31  ?_
    refine R_X9_signKind  ?_
    refine BX9_readSign_36 (by first | assumption | exact up_at _ _ _ | (rw [up_ne (by omega)]; first | assumption | exact up_at _ _ _ | (rw [up_ne (by omega)]; first | assumption | exact up_at _ _ _ | (rw [up_ne (by omega)]; assumption)))) (by simp) ?_
    refine BX9_readSign_39  ?_ ?_
    · intro hc2
      refine BX9_readSign_44 (by first | assumption | exact up_at _ _ _ | (rw [up_ne (by omega)]; first | assumption | exact up_at _ _ _ | (rw [up_ne (by omega)]; first | assumption | exact up_at _ _ _ | (rw [up_ne (by omega)]; assumption)))) (by rfl) ?_ ?_
      · intro hc3
        refine BX9_readSign_70 (by first | assumption | exact up_at _ _ _ | (rw [up_ne (by omega)]; first | assumption | exact up_at _ _ _ | (rw [up_ne (by omega)]; first | assumption | exact up_at _ _ _ | (rw [up_ne (by omega)]; assumption)))) (by rfl) ?_ ?_
        · intro hc4
          refine BX9_readSign_94  ?_
          simp only [up_up]
          first | (rw [if_neg (by omega), if_pos (by omega)] at kk; rw [show p + 1 + 1 = p + 2 by omega]; exact kk _ ((Fr.rf h 282 2).put (by decide) (by decide)) e.st) | (rw [if_neg (by omega), if_neg (by omega)] at kk; exact kk _ ((Fr.rf h 282 2).put (by decide) (by decide)) e.st)
        · intro hc5
          refine BX9_readSign_79 (by first | assumption | exact up_at _ _ _ | (rw [up_ne (by omega)]; first | assumption | exact up_at _ _ _ | (rw [up_ne (by omega)]; first | assumption | exact up_at _ _ _ | (rw [up_ne (by omega)]; assumption)))) (by simp) ?_
          refine BX9_readSign_84 (by first | assumption | exact up_at _ _ _ | (rw [up_ne (by omega)]; first | assumption | exact up_at _ _ _ | (rw [up_ne (by omega)]; first | assumption | exact up_at _ _ _ | (rw [up_ne (by omega)]; assumption)))) (by rfl) (by first | omega | assumption | (simp only [Ls_len]; omega) | exact Ls_get (by omega) (by omega) | rfl | decide) (by simp) ?_
          refine BX9_readSign_94  ?_
          simp only [up_up]
          first | (rw [if_neg (by omega), if_pos (by omega)] at kk; rw [show p + 1 + 1 = p + 2 by omega]; exact kk _ ((Fr.rf h 282 2).put (by decide) (by decide)) e.st) | (rw [if_neg (by omega), if_neg (by omega)] at kk; exact kk _ ((Fr.rf h 282 2).put (by decide) (by decide)) e.st)
      · intro hc6
        refine BX9_readSign_52 (by first | assumption | exact up_at _ _ _ | (rw [up_ne (by omega)]; first | assumption | exact up_at _ _ _ | (rw [up_ne (by omega)]; first | assumption | exact up_at _ _ _ | (rw [up_ne (by omega)]; assumption)))) (by simp) ?_
        refine BX9_readSign_57 (by first | assumption | exact up_at _ _ _ | (rw [up_ne (by omega)]; first | assumption | exact up_at _ _ _ | (rw [up_ne (by omega)]; first | assumption | exact up_at _ _ _ | (rw [up_ne (by omega)]; assumption)))) (by rfl) (by first | omega | assumption | (simp only [Ls_len]; omega) | exact Ls_get (by omega) (by omega) | rfl | decide) (by simp) ?_
        refine BX9_readSign_67  ?_
        simp only [up_up]
        rw [if_pos (by omega)] at kk
        rw [show p + 1 + 1 = p + 2 by omega]
        exact kk _ ((Fr.rf h 282 2).put (by decide) (by decide)) e.st
    · intro hc7
      refine BX9_readSign_43  ?_
      simp only [up_up]
      rw [if_neg (by omega), if_neg (by omega)] at kk
      exact kk _ ((Fr.rf h 282 2).put (by decide) (by decide)) e.st
  · intro hc8
    refine BX9_readSign_15 (by first | assumption | exact up_at _ _ _ | (rw [up_ne (by omega)]; first | assumption | exact up_at _ _ _ | (rw [up_ne (by omega)]; first | assumption | exact up_at _ _ _ | (rw [up_ne (by omega)]; assumption)))) (by rfl) (by first | omega | assumption | (simp only [Ls_len]; omega) | exact Ls_get (by omega) (by omega) | rfl | decide) (by simp) ?_
    refine BX9_readSign_31  ?_
    refine R_X9_signKind  ?_
    refine BX9_readSign_36 (by first | assumption | exact up_at _ _ _ | (rw [up_ne (by omega)]; first | assumption | exact up_at _ _ _ | (rw [up_ne (by omega)]; first | assumption | exact up_at _ _ _ | (rw [up_ne (by omega)]; assumption)))) (by simp) ?_
    refine BX9_readSign_39  ?_ ?_
    · intro hc9
      refine BX9_readSign_44 (by first | assumption | exact up_at _ _ _ | (rw [up_ne (by omega)]; first | assumption | exact up_at _ _ _ | (rw [up_ne (by omega)]; first | assumption | exact up_at _ _ _ | (rw [up_ne (by omega)]; assumption)))) (by rfl) ?_ ?_
      · intro hc10
        refine BX9_readSign_70 (by first | assumption | exact up_at _ _ _ | (rw [up_ne (by omega)]; first | assumption | exact up_at _ _ _ | (rw [up_ne (by omega)]; first | assumption | exact up_at _ _ _ | (rw [up_ne (by omega)]; assumption)))) (by rfl) ?_ ?_
        · intro hc11
          refine BX9_readSign_94  ?_
          simp only [up_up]
          first | (rw [if_neg (by omega), if_pos (by omega)] at kk; rw [show p + 1 + 1 = p + 2 by omega]; exact kk _ ((Fr.rf h 282 2).put (by decide) (by decide)) e.st) | (rw [if_neg (by omega), if_neg (by omega)] at kk; exact kk _ ((Fr.rf h 282 2).put (by decide) (by decide)) e.st)
        · intro hc12
          refine BX9_readSign_79 (by first | assumption | exact up_at _ _ _ | (rw [up_ne (by omega)]; first | assumption | exact up_at _ _ _ | (rw [up_ne (by omega)]; first | assumption | exact up_at _ _ _ | (rw [up_ne (by omega)]; assumption)))) (by simp) ?_
          refine BX9_readSign_84 (by first | assumption | exact up_at _ _ _ | (rw [up_ne (by omega)]; first | assumption | exact up_at _ _ _ | (rw [up_ne (by omega)]; first | assumption | exact up_at _ _ _ | (rw [up_ne (by omega)]; assumption)))) (by rfl) (by first | omega | assumption | (simp only [Ls_len]; omega) | exact Ls_get (by omega) (by omega) | rfl | decide) (by simp) ?_
          refine BX9_readSign_94  ?_
          simp only [up_up]
          first | (rw [if_neg (by omega), if_pos (by omega)] at kk; rw [show p + 1 + 1 = p + 2 by omega]; exact kk _ ((Fr.rf h 282 2).put (by decide) (by decide)) e.st) | (rw [if_neg (by omega), if_neg (by omega)] at kk; exact kk _ ((Fr.rf h 282 2).put (by decide) (by decide)) e.st)
      · intro hc13
        refine BX9_readSign_52 (by first | assumption | exact up_at _ _ _ | (rw [up_ne (by omega)]; first | assumption | exact up_at _ _ _ | (rw [up_ne (by omega)]; first | assumption | exact up_at _ _ _ | (rw [up_ne (by omega)]; assumption)))) (by simp) ?_
        refine BX9_readSign_57 (by first | assumption | exact up_at _ _ _ | (rw [up_ne (by omega)]; first | assumption | exact up_at _ _ _ | (rw [up_ne (by omega)]; first | assumption | exact up_at _ _ _ | (rw [up_ne (by omega)]; assumption)))) (by rfl) (by first | omega | assumption | (simp only [Ls_len]; omega) | exact Ls_get (by omega) (by omega) | rfl | decide) (by simp) ?_
        refine BX9_readSign_67  ?_
        simp only [up_up]
        rw [if_pos (by omega)] at kk
        rw [show p + 1 + 1 = p + 2 by omega]
        exact kk _ ((Fr.rf h 282 2).put (by decide) (by decide)) e.st
    · intro hc14
      refine BX9_readSign_43  ?_
      simp only [up_up]
      rw [if_neg (by omega), if_neg (by omega)] at kk
      exact kk _ ((Fr.rf h 282 2).put (by decide) (by decide)) e.st
theorem R_X9_readWord (e : IsTk h F k p v p) (o : okF F) (p0 : 0 ≤ p) (p1 : p ≤ F 2) (kk : ∀ h1, Fr h h1 282 2 → IsTk h1 F (wdN F p (ltN F 300 p) 129).1 p v (ltN F 300 p) → Q none h1 n) : Rn (d + 5) bc bs mX9_readWord 0 [some (vR (some 282)), none, none, none, none] [] h n Q := by
  have o1 := o.1
  have l0 := ltN_in (F := F) 300 p p1
  have lp2 : ∀ (m i : Nat) (h1 : aH) (l4 : Option aV), i + m = 129 → Fr h h1 282 2 → IsTk h1 F (wdN F p (ltN F 300 p) i).1 p v (ltN F 300 p) → Rn (d + 5) bc bs mX9_readWord 51 [some (vR (some 282)), some (vI (wdN F p (ltN F 300 p) i).2.1), some (vI (wdN F p (ltN F 300 p) i).2.2), some (vI i), l4] [] h1 n Q := by
    intro m
    induction m with
    | zero =>
      intro i h1 l4 hi f e
      have e9 : i = 129 := by omega
      subst e9
      refine BX9_readWord_51  ?_
      refine R_J0_length  ?_
      refine BX9_readWord_57  ?_ ?_
      · intro hc1
        first
        | (exfalso; omega)
        | (
            refine BX9_readWord_135  ?_
            exact kk _ f e
          )
      · intro hc2
        first
        | (exfalso; omega)
        | (
            (exfalso; omega)
          )
    | succ m ih =>
      intro i h1 l4 hi f e
      have e1 := e.1; have e2 := e.2
      have wi := wdN_in (F := F) (s := p) (e := ltN F 300 p) i
      have ih1 := ih (i + 1)
      rw [wdN] at ih1
      unfold wdS at ih1
      generalize wdN F p (ltN F 300 p) i = q at *
      generalize ltN F 300 p = E at *
      refine BX9_readWord_51  ?_
      refine R_J0_length  ?_
      refine BX9_readWord_57  ?_ ?_
      · intro hc1
        (exfalso; omega)
      · intro hc2
        refine BX9_readWord_60  ?_
        refine R_J0_charAt (by first | omega | assumption | (simp only [Ls_len]; omega) | exact Ls_get (by omega) (by omega) | rfl | decide) (by first | omega | assumption | (simp only [Ls_len]; omega) | exact Ls_get (by omega) (by omega) | rfl | decide) ?_
        refine BX9_readWord_66  ?_ ?_
        · intro hc3
          refine BX9_readWord_101  ?_ ?_
          · intro hc4
            refine BX9_readWord_129 (by first | omega | assumption | (simp only [Ls_len]; omega) | exact Ls_get (by omega) (by omega) | rfl | decide) ?_
            first
            | (rw [if_pos (by assumption), if_pos (by omega)] at ih1; exact ih1 _ _ (by omega) (f.put (by decide) (by decide)) e.st)
            | (rw [if_pos (by assumption), if_neg (by omega)] at ih1; exact ih1 _ _ (by omega) f e)
            | (rw [if_neg (by assumption), if_pos (by assumption)] at ih1; exact ih1 _ _ (by omega) f e)
            | (rw [if_neg (by assumption), if_neg (by assumption), if_pos (by assumption)] at ih1; exact ih1 _ _ (by omega) f e)
            | (rw [if_neg (by assumption), if_neg (by assumption), if_neg (by assumption)] at ih1; exact ih1 _ _ (by omega) f e)
            | (rw [if_neg (by assumption), if_pos (by assumption), show (-1 : Int) = q.2.2 by omega] at ih1; exact ih1 _ _ (by omega) f e)
          · intro hc5
            refine BX9_readWord_106 (by first | assumption | exact up_at _ _ _ | (rw [up_ne (by omega)]; first | assumption | exact up_at _ _ _ | (rw [up_ne (by omega)]; first | assumption | exact up_at _ _ _ | (rw [up_ne (by omega)]; assumption)))) (by rfl) (by first | omega | assumption | (simp only [Ls_len]; omega) | exact Ls_get (by omega) (by omega) | rfl | decide) ?_
            refine R_X9_byteAt (by first | omega | assumption | (simp only [Ls_len]; omega) | exact Ls_get (by omega) (by omega) | rfl | decide) (by first | omega | assumption | (simp only [Ls_len]; omega) | exact Ls_get (by omega) (by omega) | rfl | decide) ?_
            refine BX9_readWord_116  ?_ ?_
            · intro hc6
              refine BX9_readWord_127 (by first | omega | assumption | (simp only [Ls_len]; omega) | exact Ls_get (by omega) (by omega) | rfl | decide) ?_
              first
              | (rw [if_pos (by assumption), if_pos (by omega)] at ih1; exact ih1 _ _ (by omega) (f.put (by decide) (by decide)) e.st)
              | (rw [if_pos (by assumption), if_neg (by omega)] at ih1; exact ih1 _ _ (by omega) f e)
              | (rw [if_neg (by assumption), if_pos (by assumption)] at ih1; exact ih1 _ _ (by omega) f e)
              | (rw [if_neg (by assumption), if_neg (by assumption), if_pos (by assumption)] at ih1; exact ih1 _ _ (by omega) f e)
              | (rw [if_neg (by assumption), if_neg (by assumption), if_neg (by assumption)] at ih1; exact ih1 _ _ (by omega) f e)
              | (rw [if_neg (by assumption), if_pos (by assumption), show (-1 : Int) = q.2.2 by omega] at ih1; exact ih1 _ _ (by omega) f e)
            · intro hc7
              refine BX9_readWord_121 (by first | omega | assumption | (simp only [Ls_len]; omega) | exact Ls_get (by omega) (by omega) | rfl | decide) (by first | omega | assumption | (simp only [Ls_len]; omega) | exact Ls_get (by omega) (by omega) | rfl | decide) ?_
              first
              | (rw [if_pos (by assumption), if_pos (by omega)] at ih1; exact ih1 _ _ (by omega) (f.put (by decide) (by decide)) e.st)
              | (rw [if_pos (by assumption), if_neg (by omega)] at ih1; exact ih1 _ _ (by omega) f e)
              | (rw [if_neg (by assumption), if_pos (by assumption)] at ih1; exact ih1 _ _ (by omega) f e)
              | (rw [if_neg (by assumption), if_neg (by assumption), if_pos (by assumption)] at ih1; exact ih1 _ _ (by omega) f e)
              | (rw [if_neg (by assumption), if_neg (by assumption), if_neg (by assumption)] at ih1; exact ih1 _ _ (by omega) f e)
              | (rw [if_neg (by assumption), if_pos (by assumption), show (-1 : Int) = q.2.2 by omega] at ih1; exact ih1 _ _ (by omega) f e)
        · intro hc8
          refine BX9_readWord_75 (by first | assumption | exact up_at _ _ _ | (rw [up_ne (by omega)]; first | assumption | exact up_at _ _ _ | (rw [up_ne (by omega)]; first | assumption | exact up_at _ _ _ | (rw [up_ne (by omega)]; assumption)))) (by rfl) (by rfl) (by first | omega | assumption | (simp only [Ls_len]; omega) | exact Ls_get (by omega) (by omega) | rfl | decide) ?_ ?_
          · intro hc9
            refine BX9_readWord_93 (by first | omega | assumption | (simp only [Ls_len]; omega) | exact Ls_get (by omega) (by omega) | rfl | decide) (by first | omega | assumption | (simp only [Ls_len]; omega) | exact Ls_get (by omega) (by omega) | rfl | decide) ?_
            first
            | (rw [if_pos (by assumption), if_pos (by omega)] at ih1; exact ih1 _ _ (by omega) (f.put (by decide) (by decide)) e.st)
            | (rw [if_pos (by assumption), if_neg (by omega)] at ih1; exact ih1 _ _ (by omega) f e)
            | (rw [if_neg (by assumption), if_pos (by assumption)] at ih1; exact ih1 _ _ (by omega) f e)
            | (rw [if_neg (by assumption), if_neg (by assumption), if_pos (by assumption)] at ih1; exact ih1 _ _ (by omega) f e)
            | (rw [if_neg (by assumption), if_neg (by assumption), if_neg (by assumption)] at ih1; exact ih1 _ _ (by omega) f e)
            | (rw [if_neg (by assumption), if_pos (by assumption), show (-1 : Int) = q.2.2 by omega] at ih1; exact ih1 _ _ (by omega) f e)
          · intro hc10
            refine BX9_readWord_88 (by first | assumption | exact up_at _ _ _ | (rw [up_ne (by omega)]; first | assumption | exact up_at _ _ _ | (rw [up_ne (by omega)]; first | assumption | exact up_at _ _ _ | (rw [up_ne (by omega)]; assumption)))) (by simp) ?_
            refine BX9_readWord_93 (by first | omega | assumption | (simp only [Ls_len]; omega) | exact Ls_get (by omega) (by omega) | rfl | decide) (by first | omega | assumption | (simp only [Ls_len]; omega) | exact Ls_get (by omega) (by omega) | rfl | decide) ?_
            first
            | (rw [if_pos (by assumption), if_pos (by omega)] at ih1; exact ih1 _ _ (by omega) (f.put (by decide) (by decide)) e.st)
            | (rw [if_pos (by assumption), if_neg (by omega)] at ih1; exact ih1 _ _ (by omega) f e)
            | (rw [if_neg (by assumption), if_pos (by assumption)] at ih1; exact ih1 _ _ (by omega) f e)
            | (rw [if_neg (by assumption), if_neg (by assumption), if_pos (by assumption)] at ih1; exact ih1 _ _ (by omega) f e)
            | (rw [if_neg (by assumption), if_neg (by assumption), if_neg (by assumption)] at ih1; exact ih1 _ _ (by omega) f e)
            | (rw [if_neg (by assumption), if_pos (by assumption), show (-1 : Int) = q.2.2 by omega] at ih1; exact ih1 _ _ (by omega) f e)
  have lp1 : ∀ (m i : Nat) (h1 : aH) (p9 : Int), i + m = 300 → 0 ≤ p9 → p9 ≤ F 2 → Fr h h1 282 2 → IsTk h1 F k p v p9 → ltN F m p9 = ltN F 300 p → Rn (d + 5) bc bs mX9_readWord 2 [some (vR (some 282)), some (vI i), none, none, none] [] h1 n Q := by
    intro m
    induction m with
    | zero =>
      intro i h1 p9 hi p0 p1 f e hp
      have e1 := e.1; have e2 := e.2
      have hp : p9 = ltN F 300 p := hp
      subst hp
      refine BX9_readWord_2  ?_ ?_
      · intro hc1
        first
        | (exfalso; omega)
        | (
            refine BX9_readWord_39 (by first | assumption | exact up_at _ _ _ | (rw [up_ne (by omega)]; first | assumption | exact up_at _ _ _ | (rw [up_ne (by omega)]; first | assumption | exact up_at _ _ _ | (rw [up_ne (by omega)]; assumption)))) (by simp) ?_
            refine BX9_readWord_44  ?_
            exact lp2 129 0 _ none (by decide) (f.put (by decide) (by decide)) e.st
          )
      · intro hc2
        first
        | (exfalso; omega)
        | (
            (exfalso; omega)
          )
    | succ m ih =>
      intro i h1 p9 hi p0 p1 f e hp
      have e1 := e.1; have e2 := e.2
      unfold ltN at hp
      refine BX9_readWord_2  ?_ ?_
      · intro hc1
        refine BX9_readWord_39 (by first | assumption | exact up_at _ _ _ | (rw [up_ne (by omega)]; first | assumption | exact up_at _ _ _ | (rw [up_ne (by omega)]; first | assumption | exact up_at _ _ _ | (rw [up_ne (by omega)]; assumption)))) (by simp) ?_
        refine BX9_readWord_44  ?_
        first
        | (exfalso; omega)
        | (rw [if_neg (by rw [w17]; decide)] at hp
           subst hp
           exact lp2 129 0 _ none (by decide) (f.put (by decide) (by decide)) e.st)
      · intro hc2
        refine BX9_readWord_9 (by first | assumption | exact up_at _ _ _ | (rw [up_ne (by omega)]; first | assumption | exact up_at _ _ _ | (rw [up_ne (by omega)]; first | assumption | exact up_at _ _ _ | (rw [up_ne (by omega)]; assumption)))) (by rfl) ?_
        refine R_X9_byteAt (by first | omega | assumption | (simp only [Ls_len]; omega) | exact Ls_get (by omega) (by omega) | rfl | decide) (by first | omega | assumption | (simp only [Ls_len]; omega) | exact Ls_get (by omega) (by omega) | rfl | decide) ?_
        refine BX9_readWord_17  ?_
        refine R_X9_isLetter  ?_ ?_
        · intro w17
          skip
          refine BX9_readWord_20  ?_ ?_
          · intro hc3
            exact absurd hc3 (by decide)
          · intro hc4
            refine BX9_readWord_23 (by first | assumption | exact up_at _ _ _ | (rw [up_ne (by omega)]; first | assumption | exact up_at _ _ _ | (rw [up_ne (by omega)]; first | assumption | exact up_at _ _ _ | (rw [up_ne (by omega)]; assumption)))) (by rfl) (by first | omega | assumption | (simp only [Ls_len]; omega) | exact Ls_get (by omega) (by omega) | rfl | decide) (by simp) ?_
            refine BX9_readWord_33 (by first | omega | assumption | (simp only [Ls_len]; omega) | exact Ls_get (by omega) (by omega) | rfl | decide) ?_
            rw [if_pos w17] at hp
            have dl := byA_lt (lt_ne w17)
            exact ih (i + 1) _ (p9 + 1) (by omega) (by omega) (by omega) (f.put (by decide) (by decide)) e.st hp
        · intro w17
          skip
          refine BX9_readWord_20  ?_ ?_
          · intro hc5
            refine BX9_readWord_39 (by first | assumption | exact up_at _ _ _ | (rw [up_ne (by omega)]; first | assumption | exact up_at _ _ _ | (rw [up_ne (by omega)]; first | assumption | exact up_at _ _ _ | (rw [up_ne (by omega)]; assumption)))) (by simp) ?_
            refine BX9_readWord_44  ?_
            first
            | (exfalso; omega)
            | (rw [if_neg (by rw [w17]; decide)] at hp
               subst hp
               exact lp2 129 0 _ none (by decide) (f.put (by decide) (by decide)) e.st)
          · intro hc6
            exact absurd hc6 (by decide)
  refine BX9_readWord_0  ?_
  exact lp1 300 0 h p (by decide) p0 p1 (Fr.rf _ _ _) e rfl
theorem tkS_in {F : Int → Int} {p : Int} (h : p ≤ F 2) : p ≤ tkS F p ∧ tkS F p ≤ F 2 := skN_in 300 p h
theorem tkT_in {F : Int → Int} {q : Int} (o : okF F) (h0 : 0 ≤ q) (h : q ≤ F 2) : q ≤ (tkT F q).2.2 ∧ (tkT F q).2.2 ≤ F 2 ∧ 0 ≤ (tkT F q).2.1 ∧ (tkT F q).2.1 ≤ 10000 := by
  have z : (0 : Int) ≤ 10000 := by decide
  unfold tkT
  split
  · exact ⟨Int.le_refl _, h, z00, z⟩
  · have bl := byA_lt (F := F) (i := q) (by assumption)
    split
    · have d := dgN_in (F := F) 300 q 0 h (by decide) (by decide)
      exact d
    · split
      · have d := ltN_in (F := F) 300 q h
        exact ⟨d.1, d.2, z00, z⟩
      · unfold sgT
        split
        · have := byA_lt (F := F) (i := q + 1) (by omega)
          dsimp only; omega
        · split
          · have := byA_lt (F := F) (i := q + 1) (by omega)
            dsimp only; omega
          · dsimp only; omega
theorem R_X9_comeToNext (e : IsTk h F k s v p) (o : okF F) (p0 : 0 ≤ p) (p1 : p ≤ F 2) (kk : ∀ h1 v1, Fr h h1 282 2 → IsTk h1 F (tkK F p) (tkS F p) v1 (tkN F p) → (tkK F p = 2 → v1 = tkV F p) → Q none h1 n) : Rn (d + 6) bc bs mX9_comeToNext 0 [some (vR (some 282)), none] [] h n Q := by
  have o1 := o.1
  have l0 := tkS_in (F := F) p1
  have T51 : ∀ (h1 : aH) (x1 : Int), Fr h h1 282 2 → IsTk h1 F k s v (tkS F p) → Rn (d + 6) bc bs mX9_comeToNext 51 [some (vR (some 282)), some (vI x1)] [] h1 n Q := by
    intro h1 x1 f e
    unfold tkK tkV tkN tkT at kk
    generalize tkS F p = q at *
    have f2 : Fr h (up h1 282 (cO 9 [vR (some 283), vI (F 2), vI k, vI q, vI v, vI q])) 282 2 := f.put (by decide) (by decide)
    have e9 : IsTk (up h1 282 (cO 9 [vR (some 283), vI (F 2), vI k, vI q, vI v, vI q])) F k q v q := e.st
    have e91 := e9.1
    have e1 := e.1; have e2 := e.2
    refine BX9_comeToNext_51 (by first | assumption | exact up_at _ _ _ | (rw [up_ne (by omega)]; first | assumption | exact up_at _ _ _ | (rw [up_ne (by omega)]; first | assumption | exact up_at _ _ _ | (rw [up_ne (by omega)]; assumption)))) (by rfl) (by simp) ?_
    refine BX9_comeToNext_59 (by first | assumption | exact up_at _ _ _ | (rw [up_ne (by omega)]; first | assumption | exact up_at _ _ _ | (rw [up_ne (by omega)]; first | assumption | exact up_at _ _ _ | (rw [up_ne (by omega)]; assumption)))) (by rfl) ?_
    refine R_X9_byteAt (by first | omega | assumption | (simp only [Ls_len]; omega) | exact Ls_get (by omega) (by omega) | rfl | decide) (by first | omega | assumption | (simp only [Ls_len]; omega) | exact Ls_get (by omega) (by omega) | rfl | decide) ?_
    refine BX9_comeToNext_67  ?_ ?_
    · intro hc1
      refine BX9_comeToNext_81  ?_
      refine R_X9_isDigit  ?_ ?_
      · intro w82
        refine BX9_comeToNext_85  ?_ ?_
        · intro hc2
          exact absurd hc2 (by decide)
        · intro hc3
          refine BX9_comeToNext_88 (by first | assumption | exact up_at _ _ _ | (rw [up_ne (by omega)]; first | assumption | exact up_at _ _ _ | (rw [up_ne (by omega)]; first | assumption | exact up_at _ _ _ | (rw [up_ne (by omega)]; assumption)))) ?_
          refine R_X9_readNumber (by first | omega | assumption | (simp only [Ls_len]; omega) | exact Ls_get (by omega) (by omega) | rfl | decide) (by first | omega | assumption | (simp only [Ls_len]; omega) | exact Ls_get (by omega) (by omega) | rfl | decide) (by first | omega | assumption | (simp only [Ls_len]; omega) | exact Ls_get (by omega) (by omega) | rfl | decide) (by first | omega | assumption | (simp only [Ls_len]; omega) | exact Ls_get (by omega) (by omega) | rfl | decide) ?_
          intro h89 r89 e89
          refine BX9_comeToNext_92  ?_
          rw [if_neg (by omega), if_pos w82] at kk
          exact kk _ _ (f2.tr r89) e89 (fun _ => rfl)
      · intro w82
        refine BX9_comeToNext_85  ?_ ?_
        · intro hc4
          refine BX9_comeToNext_95  ?_
          refine R_X9_isLetter  ?_ ?_
          · intro w96
            refine BX9_comeToNext_99  ?_ ?_
            · intro hc5
              exact absurd hc5 (by decide)
            · intro hc6
              refine BX9_comeToNext_102 (by first | assumption | exact up_at _ _ _ | (rw [up_ne (by omega)]; first | assumption | exact up_at _ _ _ | (rw [up_ne (by omega)]; first | assumption | exact up_at _ _ _ | (rw [up_ne (by omega)]; assumption)))) ?_
              refine R_X9_readWord (by first | omega | assumption | (simp only [Ls_len]; omega) | exact Ls_get (by omega) (by omega) | rfl | decide) (by first | omega | assumption | (simp only [Ls_len]; omega) | exact Ls_get (by omega) (by omega) | rfl | decide) (by first | omega | assumption | (simp only [Ls_len]; omega) | exact Ls_get (by omega) (by omega) | rfl | decide) (by first | omega | assumption | (simp only [Ls_len]; omega) | exact Ls_get (by omega) (by omega) | rfl | decide) ?_
              intro h103 r103 e103
              refine BX9_comeToNext_106  ?_
              rw [if_neg (by omega), if_neg (by rw [w82]; decide), if_pos w96] at kk
              exact kk _ _ (f2.tr r103) e103 (fun w => absurd w (by have := wdN_ge F q (ltN F 300 q) 129; dsimp only; omega))
          · intro w96
            refine BX9_comeToNext_99  ?_ ?_
            · intro hc7
              refine BX9_comeToNext_109 (by first | assumption | exact up_at _ _ _ | (rw [up_ne (by omega)]; first | assumption | exact up_at _ _ _ | (rw [up_ne (by omega)]; first | assumption | exact up_at _ _ _ | (rw [up_ne (by omega)]; assumption)))) ?_
              refine R_X9_readSign (by first | omega | assumption | (simp only [Ls_len]; omega) | exact Ls_get (by omega) (by omega) | rfl | decide) (by first | omega | assumption | (simp only [Ls_len]; omega) | exact Ls_get (by omega) (by omega) | rfl | decide) (by first | omega | assumption | (simp only [Ls_len]; omega) | exact Ls_get (by omega) (by omega) | rfl | decide) (by first | omega | assumption | (simp only [Ls_len]; omega) | exact Ls_get (by omega) (by omega) | rfl | decide) ?_
              intro h111 r111 e111
              refine BX9_comeToNext_114  ?_
              rw [if_neg (by omega), if_neg (by rw [w82]; decide), if_neg (by rw [w96]; decide)] at kk
              exact kk _ _ (f2.tr r111) e111 (fun w => absurd w (sgT_ne2 F q))
            · intro hc8
              exact absurd hc8 (by decide)
        · intro hc9
          exact absurd hc9 (by decide)
    · intro hc10
      refine BX9_comeToNext_73 (by first | assumption | exact up_at _ _ _ | (rw [up_ne (by omega)]; first | assumption | exact up_at _ _ _ | (rw [up_ne (by omega)]; first | assumption | exact up_at _ _ _ | (rw [up_ne (by omega)]; assumption)))) (by simp) ?_
      refine BX9_comeToNext_78  ?_
      rw [if_pos (by assumption)] at kk
      exact kk _ v (f2.put (by decide) (by decide)) e9.st (fun w => absurd w (by dsimp only; decide))
  have loop : ∀ (m i : Nat) (h1 : aH) (p9 : Int), i + m = 300 → 0 ≤ p9 → p9 ≤ F 2 → Fr h h1 282 2 → IsTk h1 F k s v p9 → skN F m p9 = tkS F p → Rn (d + 6) bc bs mX9_comeToNext 2 [some (vR (some 282)), some (vI i)] [] h1 n Q := by
    intro m
    induction m with
    | zero =>
      intro i h1 p9 hi p0 p1 f e hp
      have hp : p9 = tkS F p := hp
      subst hp
      refine BX9_comeToNext_2  ?_ ?_
      · intro hc1
        first
        | (exfalso; omega)
        | (
            exact T51 _ _ f e
          )
      · intro hc2
        first
        | (exfalso; omega)
        | (
            (exfalso; omega)
          )
    | succ m ih =>
      intro i h1 p9 hi p0 p1 f e hp
      have e1 := e.1; have e2 := e.2
      unfold skN at hp
      refine BX9_comeToNext_2  ?_ ?_
      · intro hc1
        first
        | (exfalso; omega)
        | (rw [if_neg (show ¬ blB (byA F p9) = true by unfold blB; rw [decide_eq_true_eq]; omega)] at hp
           subst hp
           exact T51 _ _ f e)
      · intro hc2
        refine BX9_comeToNext_9 (by first | assumption | exact up_at _ _ _ | (rw [up_ne (by omega)]; first | assumption | exact up_at _ _ _ | (rw [up_ne (by omega)]; first | assumption | exact up_at _ _ _ | (rw [up_ne (by omega)]; assumption)))) (by rfl) ?_
        refine R_X9_byteAt (by first | omega | assumption | (simp only [Ls_len]; omega) | exact Ls_get (by omega) (by omega) | rfl | decide) (by first | omega | assumption | (simp only [Ls_len]; omega) | exact Ls_get (by omega) (by omega) | rfl | decide) ?_
        refine BX9_comeToNext_17  ?_ ?_
        · intro hc3
          refine BX9_comeToNext_35 (by first | assumption | exact up_at _ _ _ | (rw [up_ne (by omega)]; first | assumption | exact up_at _ _ _ | (rw [up_ne (by omega)]; first | assumption | exact up_at _ _ _ | (rw [up_ne (by omega)]; assumption)))) (by rfl) (by first | omega | assumption | (simp only [Ls_len]; omega) | exact Ls_get (by omega) (by omega) | rfl | decide) (by simp) ?_
          refine BX9_comeToNext_45 (by first | omega | assumption | (simp only [Ls_len]; omega) | exact Ls_get (by omega) (by omega) | rfl | decide) ?_
          rw [if_pos (show blB (byA F p9) = true from decide_eq_true (by omega))] at hp
          have dl := byA_lt (F := F) (i := p9) (by omega)
          exact ih (i + 1) _ (p9 + 1) (by omega) (by omega) (by omega) (f.put (by decide) (by decide)) e.st hp
        · intro hc4
          refine BX9_comeToNext_22 (by first | assumption | exact up_at _ _ _ | (rw [up_ne (by omega)]; first | assumption | exact up_at _ _ _ | (rw [up_ne (by omega)]; first | assumption | exact up_at _ _ _ | (rw [up_ne (by omega)]; assumption)))) (by rfl) ?_
          refine R_X9_byteAt (by first | omega | assumption | (simp only [Ls_len]; omega) | exact Ls_get (by omega) (by omega) | rfl | decide) (by first | omega | assumption | (simp only [Ls_len]; omega) | exact Ls_get (by omega) (by omega) | rfl | decide) ?_
          refine BX9_comeToNext_30  ?_ ?_
          · intro hc5
            first
            | (exfalso; omega)
            | (rw [if_neg (show ¬ blB (byA F p9) = true by unfold blB; rw [decide_eq_true_eq]; omega)] at hp
               subst hp
               exact T51 _ _ f e)
          · intro hc6
            refine BX9_comeToNext_35 (by first | assumption | exact up_at _ _ _ | (rw [up_ne (by omega)]; first | assumption | exact up_at _ _ _ | (rw [up_ne (by omega)]; first | assumption | exact up_at _ _ _ | (rw [up_ne (by omega)]; assumption)))) (by rfl) (by first | omega | assumption | (simp only [Ls_len]; omega) | exact Ls_get (by omega) (by omega) | rfl | decide) (by simp) ?_
            refine BX9_comeToNext_45 (by first | omega | assumption | (simp only [Ls_len]; omega) | exact Ls_get (by omega) (by omega) | rfl | decide) ?_
            rw [if_pos (show blB (byA F p9) = true from decide_eq_true (by omega))] at hp
            have dl := byA_lt (F := F) (i := p9) (by omega)
            exact ih (i + 1) _ (p9 + 1) (by omega) (by omega) (by omega) (f.put (by decide) (by decide)) e.st hp
  refine BX9_comeToNext_0  ?_
  exact loop 300 0 h p (by decide) p0 p1 (Fr.rf _ _ _) e rfl
theorem R_X9_comeToFirst (e : IsTk h F k s v p) (o : okF F) (kk : ∀ h1 v1, Fr h h1 282 2 → IsTk h1 F (tkK F 0) (tkS F 0) v1 (tkN F 0) → (tkK F 0 = 2 → v1 = tkV F 0) → Q none h1 n) : Rn (d + 7) bc bs mX9_comeToFirst 0 [some (vR (some 282))] [] h n Q := by
  have o1 := o.1
  have e9 : IsTk (up h 282 (cO 9 [vR (some 283), vI (F 2), vI k, vI s, vI v, vI 0])) F k s v 0 := e.st
  have e1 := e.1; have e2 := e.2
  refine BX9_comeToFirst_0 (by first | assumption | exact up_at _ _ _ | (rw [up_ne (by omega)]; first | assumption | exact up_at _ _ _ | (rw [up_ne (by omega)]; first | assumption | exact up_at _ _ _ | (rw [up_ne (by omega)]; assumption)))) (by simp) ?_
  refine BX9_comeToFirst_5 (by first | assumption | exact up_at _ _ _ | (rw [up_ne (by omega)]; first | assumption | exact up_at _ _ _ | (rw [up_ne (by omega)]; first | assumption | exact up_at _ _ _ | (rw [up_ne (by omega)]; assumption)))) ?_
  refine R_X9_comeToNext (by first | omega | assumption | (simp only [Ls_len]; omega) | exact Ls_get (by omega) (by omega) | rfl | decide) (by first | omega | assumption | (simp only [Ls_len]; omega) | exact Ls_get (by omega) (by omega) | rfl | decide) (by first | omega | assumption | (simp only [Ls_len]; omega) | exact Ls_get (by omega) (by omega) | rfl | decide) (by first | omega | assumption | (simp only [Ls_len]; omega) | exact Ls_get (by omega) (by omega) | rfl | decide) ?_
  intro h6 v6 r6 e6 y6
  refine BX9_comeToFirst_9  ?_
  exact kk _ _ (((Fr.rf h 282 2).put (by decide) (by decide)).tr r6) e6 y6
theorem R_X9_hasRoom {m : Int} (e : IsTk h F k s v p) (o : okF F) (m0 : 0 ≤ m) (m1 : m ≤ 1000) (kt : F 2 + m ≤ 300 → Q (some (vI 1)) h n) (kf : 300 < F 2 + m → Q (some (vI 0)) h n) : Rn d bc bs mX9_hasRoom 0 [some (vR (some 282)), some (vI m)] [] h n Q := by
  have o1 := o.1
  have e1 := e.1; have e2 := e.2
  refine BX9_hasRoom_0 (by first | assumption | exact up_at _ _ _ | (rw [up_ne (by omega)]; first | assumption | exact up_at _ _ _ | (rw [up_ne (by omega)]; first | assumption | exact up_at _ _ _ | (rw [up_ne (by omega)]; assumption)))) (by rfl) (by first | omega | assumption | (simp only [Ls_len]; omega) | exact Ls_get (by omega) (by omega) | rfl | decide) ?_ ?_
  · intro hc1
    first
    | (exfalso; omega)
    | (
        refine BX9_hasRoom_16  ?_
        first | exact kt (by omega) | exact kf (by omega)
      )
  · intro hc2
    first
    | (exfalso; omega)
    | (
        refine BX9_hasRoom_12  ?_
        first | exact kt (by omega) | exact kf (by omega)
      )
end TOKEN
