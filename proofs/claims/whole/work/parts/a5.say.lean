/-! The reference: what is said. -/
section SY
variable {A Y : Int → Int} {p q : Int}
theorem tSy.f0 (t : tSy A Y) (o : (0 ≤ Y 52 ∧ Y 52 ≤ 6) ∧ (0 ≤ Y 53 ∧ Y 53 ≤ 8) ∧ 0 ≤ Y 54 ∧ Y 54 ≤ 8)  : tSy (fset A (4) (0)) (fset Y (52) (0)) := by
  obtain ⟨⟨a1, a2, a3, a4, a5⟩, t6, t7, t8, t9⟩ := t
  refine ⟨⟨?_, ?_, ?_, ?_, ?_⟩, fun j j0 j1 => ?_, fun j j0 j1 => ?_, fun j j0 j1 => ?_, fun j j0 j1 => ?_⟩
  · first | ((simp (disch := omega) only [fset_at, fset_ne]); assumption) | (simp (disch := omega) only [fset_at, fset_ne])
  · first | ((simp (disch := omega) only [fset_at, fset_ne]); assumption) | (simp (disch := omega) only [fset_at, fset_ne])
  · first | ((simp (disch := omega) only [fset_at, fset_ne]); assumption) | (simp (disch := omega) only [fset_at, fset_ne])
  · first | ((simp (disch := omega) only [fset_at, fset_ne]); assumption) | (simp (disch := omega) only [fset_at, fset_ne])
  · first | ((simp (disch := omega) only [fset_at, fset_ne]); assumption) | (simp (disch := omega) only [fset_at, fset_ne])
  · simp (disch := omega) only [fset_at] at j1; omega
  · (try simp (disch := omega) only [fset_ne] at j1)
    have z := t7 j j0 j1
    (simp (disch := omega) only [fset_at, fset_ne]); exact z
  · have z := t8 j j0 j1
    (simp (disch := omega) only [fset_at, fset_ne]); exact z
  · (try simp (disch := omega) only [fset_ne] at j1)
    have z := t9 j j0 j1
    (simp (disch := omega) only [fset_at, fset_ne]); exact z
theorem tSy.f1 (t : tSy A Y) (o : (0 ≤ Y 52 ∧ Y 52 ≤ 6) ∧ (0 ≤ Y 53 ∧ Y 53 ≤ 8) ∧ 0 ≤ Y 54 ∧ Y 54 ≤ 8) (h : Y 52 < 6) : tSy (fset (fset (fset A (125 + 2 * Y 52) (p)) (125 + 2 * Y 52 + 1) (q)) (4) (Y 52 + 1)) (fset (fset (fset Y (Y 52) (p)) (6 + Y 52) (q)) (52) (Y 52 + 1)) := by
  obtain ⟨⟨a1, a2, a3, a4, a5⟩, t6, t7, t8, t9⟩ := t
  refine ⟨⟨?_, ?_, ?_, ?_, ?_⟩, fun j j0 j1 => ?_, fun j j0 j1 => ?_, fun j j0 j1 => ?_, fun j j0 j1 => ?_⟩
  · first | ((simp (disch := omega) only [fset_at, fset_ne]); assumption) | (simp (disch := omega) only [fset_at, fset_ne])
  · first | ((simp (disch := omega) only [fset_at, fset_ne]); assumption) | (simp (disch := omega) only [fset_at, fset_ne])
  · first | ((simp (disch := omega) only [fset_at, fset_ne]); assumption) | (simp (disch := omega) only [fset_at, fset_ne])
  · first | ((simp (disch := omega) only [fset_at, fset_ne]); assumption) | (simp (disch := omega) only [fset_at, fset_ne])
  · first | ((simp (disch := omega) only [fset_at, fset_ne]); assumption) | (simp (disch := omega) only [fset_at, fset_ne])
  · simp (disch := omega) only [fset_at, fset_ne] at j1
    by_cases e1 : j = Y 52
    · subst e1; (simp (disch := omega) only [fset_at, fset_ne]); try exact ⟨trivial, trivial⟩
    · have z := t6 j j0 (by omega)
      (simp (disch := omega) only [fset_at, fset_ne]); exact z
  · (try simp (disch := omega) only [fset_ne] at j1)
    have z := t7 j j0 j1
    (simp (disch := omega) only [fset_at, fset_ne]); exact z
  · have z := t8 j j0 j1
    (simp (disch := omega) only [fset_at, fset_ne]); exact z
  · (try simp (disch := omega) only [fset_ne] at j1)
    have z := t9 j j0 j1
    (simp (disch := omega) only [fset_at, fset_ne]); exact z
theorem tSy.s0 (t : tSy A Y) (o : (0 ≤ Y 52 ∧ Y 52 ≤ 6) ∧ (0 ≤ Y 53 ∧ Y 53 ≤ 8) ∧ 0 ≤ Y 54 ∧ Y 54 ≤ 8)  : tSy (fset A (6) (0)) (fset Y (54) (0)) := by
  obtain ⟨⟨a1, a2, a3, a4, a5⟩, t6, t7, t8, t9⟩ := t
  refine ⟨⟨?_, ?_, ?_, ?_, ?_⟩, fun j j0 j1 => ?_, fun j j0 j1 => ?_, fun j j0 j1 => ?_, fun j j0 j1 => ?_⟩
  · first | ((simp (disch := omega) only [fset_at, fset_ne]); assumption) | (simp (disch := omega) only [fset_at, fset_ne])
  · first | ((simp (disch := omega) only [fset_at, fset_ne]); assumption) | (simp (disch := omega) only [fset_at, fset_ne])
  · first | ((simp (disch := omega) only [fset_at, fset_ne]); assumption) | (simp (disch := omega) only [fset_at, fset_ne])
  · first | ((simp (disch := omega) only [fset_at, fset_ne]); assumption) | (simp (disch := omega) only [fset_at, fset_ne])
  · first | ((simp (disch := omega) only [fset_at, fset_ne]); assumption) | (simp (disch := omega) only [fset_at, fset_ne])
  · (try simp (disch := omega) only [fset_ne] at j1)
    have z := t6 j j0 j1
    (simp (disch := omega) only [fset_at, fset_ne]); exact z
  · (try simp (disch := omega) only [fset_ne] at j1)
    have z := t7 j j0 j1
    (simp (disch := omega) only [fset_at, fset_ne]); exact z
  · have z := t8 j j0 j1
    (simp (disch := omega) only [fset_at, fset_ne]); exact z
  · simp (disch := omega) only [fset_at] at j1; omega
theorem tSy.s1 (t : tSy A Y) (o : (0 ≤ Y 52 ∧ Y 52 ≤ 6) ∧ (0 ≤ Y 53 ∧ Y 53 ≤ 8) ∧ 0 ≤ Y 54 ∧ Y 54 ≤ 8) (h : Y 54 < 8) : tSy (fset (fset (fset A (163 + 2 * Y 54) (p)) (163 + 2 * Y 54 + 1) (q)) (6) (Y 54 + 1)) (fset (fset (fset Y (36 + Y 54) (p)) (44 + Y 54) (q)) (54) (Y 54 + 1)) := by
  obtain ⟨⟨a1, a2, a3, a4, a5⟩, t6, t7, t8, t9⟩ := t
  refine ⟨⟨?_, ?_, ?_, ?_, ?_⟩, fun j j0 j1 => ?_, fun j j0 j1 => ?_, fun j j0 j1 => ?_, fun j j0 j1 => ?_⟩
  · first | ((simp (disch := omega) only [fset_at, fset_ne]); assumption) | (simp (disch := omega) only [fset_at, fset_ne])
  · first | ((simp (disch := omega) only [fset_at, fset_ne]); assumption) | (simp (disch := omega) only [fset_at, fset_ne])
  · first | ((simp (disch := omega) only [fset_at, fset_ne]); assumption) | (simp (disch := omega) only [fset_at, fset_ne])
  · first | ((simp (disch := omega) only [fset_at, fset_ne]); assumption) | (simp (disch := omega) only [fset_at, fset_ne])
  · first | ((simp (disch := omega) only [fset_at, fset_ne]); assumption) | (simp (disch := omega) only [fset_at, fset_ne])
  · (try simp (disch := omega) only [fset_ne] at j1)
    have z := t6 j j0 j1
    (simp (disch := omega) only [fset_at, fset_ne]); exact z
  · (try simp (disch := omega) only [fset_ne] at j1)
    have z := t7 j j0 j1
    (simp (disch := omega) only [fset_at, fset_ne]); exact z
  · have z := t8 j j0 j1
    (simp (disch := omega) only [fset_at, fset_ne]); exact z
  · simp (disch := omega) only [fset_at, fset_ne] at j1
    by_cases e1 : j = Y 54
    · subst e1; (simp (disch := omega) only [fset_at, fset_ne]); try exact ⟨trivial, trivial⟩
    · have z := t9 j j0 (by omega)
      (simp (disch := omega) only [fset_at, fset_ne]); exact z
theorem tSy.c0 (t : tSy A Y) (o : (0 ≤ Y 52 ∧ Y 52 ≤ 6) ∧ (0 ≤ Y 53 ∧ Y 53 ≤ 8) ∧ 0 ≤ Y 54 ∧ Y 54 ≤ 8)  : tSy (fset A (5) (0)) (fset Y (53) (0)) := by
  obtain ⟨⟨a1, a2, a3, a4, a5⟩, t6, t7, t8, t9⟩ := t
  refine ⟨⟨?_, ?_, ?_, ?_, ?_⟩, fun j j0 j1 => ?_, fun j j0 j1 => ?_, fun j j0 j1 => ?_, fun j j0 j1 => ?_⟩
  · first | ((simp (disch := omega) only [fset_at, fset_ne]); assumption) | (simp (disch := omega) only [fset_at, fset_ne])
  · first | ((simp (disch := omega) only [fset_at, fset_ne]); assumption) | (simp (disch := omega) only [fset_at, fset_ne])
  · first | ((simp (disch := omega) only [fset_at, fset_ne]); assumption) | (simp (disch := omega) only [fset_at, fset_ne])
  · first | ((simp (disch := omega) only [fset_at, fset_ne]); assumption) | (simp (disch := omega) only [fset_at, fset_ne])
  · first | ((simp (disch := omega) only [fset_at, fset_ne]); assumption) | (simp (disch := omega) only [fset_at, fset_ne])
  · (try simp (disch := omega) only [fset_ne] at j1)
    have z := t6 j j0 j1
    (simp (disch := omega) only [fset_at, fset_ne]); exact z
  · simp (disch := omega) only [fset_at] at j1; omega
  · have z := t8 j j0 j1
    (simp (disch := omega) only [fset_at, fset_ne]); exact z
  · (try simp (disch := omega) only [fset_ne] at j1)
    have z := t9 j j0 j1
    (simp (disch := omega) only [fset_at, fset_ne]); exact z
theorem tSy.c1 (t : tSy A Y) (o : (0 ≤ Y 52 ∧ Y 52 ≤ 6) ∧ (0 ≤ Y 53 ∧ Y 53 ≤ 8) ∧ 0 ≤ Y 54 ∧ Y 54 ≤ 8) (h : Y 53 < 8) : tSy (fset (fset A (137 + Y 53) (p)) (5) (Y 53 + 1)) (fset (fset Y (12 + Y 53) (p)) (53) (Y 53 + 1)) := by
  obtain ⟨⟨a1, a2, a3, a4, a5⟩, t6, t7, t8, t9⟩ := t
  refine ⟨⟨?_, ?_, ?_, ?_, ?_⟩, fun j j0 j1 => ?_, fun j j0 j1 => ?_, fun j j0 j1 => ?_, fun j j0 j1 => ?_⟩
  · first | ((simp (disch := omega) only [fset_at, fset_ne]); assumption) | (simp (disch := omega) only [fset_at, fset_ne])
  · first | ((simp (disch := omega) only [fset_at, fset_ne]); assumption) | (simp (disch := omega) only [fset_at, fset_ne])
  · first | ((simp (disch := omega) only [fset_at, fset_ne]); assumption) | (simp (disch := omega) only [fset_at, fset_ne])
  · first | ((simp (disch := omega) only [fset_at, fset_ne]); assumption) | (simp (disch := omega) only [fset_at, fset_ne])
  · first | ((simp (disch := omega) only [fset_at, fset_ne]); assumption) | (simp (disch := omega) only [fset_at, fset_ne])
  · (try simp (disch := omega) only [fset_ne] at j1)
    have z := t6 j j0 j1
    (simp (disch := omega) only [fset_at, fset_ne]); exact z
  · simp (disch := omega) only [fset_at, fset_ne] at j1
    by_cases e1 : j = Y 53
    · subst e1; (simp (disch := omega) only [fset_at, fset_ne]); try exact ⟨trivial, trivial⟩
    · have z := t7 j j0 (by omega)
      (simp (disch := omega) only [fset_at, fset_ne]); exact z
  · have z := t8 j j0 j1
    (simp (disch := omega) only [fset_at, fset_ne]); exact z
  · (try simp (disch := omega) only [fset_ne] at j1)
    have z := t9 j j0 j1
    (simp (disch := omega) only [fset_at, fset_ne]); exact z
theorem tSy.od (t : tSy A Y) (o : (0 ≤ Y 52 ∧ Y 52 ≤ 6) ∧ (0 ≤ Y 53 ∧ Y 53 ≤ 8) ∧ 0 ≤ Y 54 ∧ Y 54 ≤ 8)  : tSy (fset (fset A (145) (p)) (146) (q)) (fset (fset Y (55) (p)) (56) (q)) := by
  obtain ⟨⟨a1, a2, a3, a4, a5⟩, t6, t7, t8, t9⟩ := t
  refine ⟨⟨?_, ?_, ?_, ?_, ?_⟩, fun j j0 j1 => ?_, fun j j0 j1 => ?_, fun j j0 j1 => ?_, fun j j0 j1 => ?_⟩
  · first | ((simp (disch := omega) only [fset_at, fset_ne]); assumption) | (simp (disch := omega) only [fset_at, fset_ne])
  · first | ((simp (disch := omega) only [fset_at, fset_ne]); assumption) | (simp (disch := omega) only [fset_at, fset_ne])
  · first | ((simp (disch := omega) only [fset_at, fset_ne]); assumption) | (simp (disch := omega) only [fset_at, fset_ne])
  · first | ((simp (disch := omega) only [fset_at, fset_ne]); assumption) | (simp (disch := omega) only [fset_at, fset_ne])
  · first | ((simp (disch := omega) only [fset_at, fset_ne]); assumption) | (simp (disch := omega) only [fset_at, fset_ne])
  · (try simp (disch := omega) only [fset_ne] at j1)
    have z := t6 j j0 j1
    (simp (disch := omega) only [fset_at, fset_ne]); exact z
  · (try simp (disch := omega) only [fset_ne] at j1)
    have z := t7 j j0 j1
    (simp (disch := omega) only [fset_at, fset_ne]); exact z
  · have z := t8 j j0 j1
    (simp (disch := omega) only [fset_at, fset_ne]); exact z
  · (try simp (disch := omega) only [fset_ne] at j1)
    have z := t9 j j0 j1
    (simp (disch := omega) only [fset_at, fset_ne]); exact z
theorem tSy.hv (t : tSy A Y) (o : (0 ≤ Y 52 ∧ Y 52 ≤ 6) ∧ (0 ≤ Y 53 ∧ Y 53 ≤ 8) ∧ 0 ≤ Y 54 ∧ Y 54 ≤ 8) {u v : Int} (p0 : 0 ≤ p) (p1 : p < 8) (q0 : 0 ≤ q) (q1 : q < 8) (h : p ≠ q) : tSy (fset (fset A (147 + p) (u)) (147 + q) (v)) (fset (fset Y (20 + p) (u)) (20 + q) (v)) := by
  obtain ⟨⟨a1, a2, a3, a4, a5⟩, t6, t7, t8, t9⟩ := t
  refine ⟨⟨?_, ?_, ?_, ?_, ?_⟩, fun j j0 j1 => ?_, fun j j0 j1 => ?_, fun j j0 j1 => ?_, fun j j0 j1 => ?_⟩
  · first | ((simp (disch := omega) only [fset_at, fset_ne]); assumption) | (simp (disch := omega) only [fset_at, fset_ne])
  · first | ((simp (disch := omega) only [fset_at, fset_ne]); assumption) | (simp (disch := omega) only [fset_at, fset_ne])
  · first | ((simp (disch := omega) only [fset_at, fset_ne]); assumption) | (simp (disch := omega) only [fset_at, fset_ne])
  · first | ((simp (disch := omega) only [fset_at, fset_ne]); assumption) | (simp (disch := omega) only [fset_at, fset_ne])
  · first | ((simp (disch := omega) only [fset_at, fset_ne]); assumption) | (simp (disch := omega) only [fset_at, fset_ne])
  · (try simp (disch := omega) only [fset_ne] at j1)
    have z := t6 j j0 j1
    (simp (disch := omega) only [fset_at, fset_ne]); exact z
  · (try simp (disch := omega) only [fset_ne] at j1)
    have z := t7 j j0 j1
    (simp (disch := omega) only [fset_at, fset_ne]); exact z
  · have z := t8 j j0 j1
    have w1 := (t8 p (by omega) (by omega)).1
    have w2 := (t8 q (by omega) (by omega)).1
    by_cases e1 : j = p
    · subst e1; (simp (disch := omega) only [fset_at, fset_ne]); exact ⟨trivial, z.2⟩
    · by_cases e2 : j = q
      · subst e2; (simp (disch := omega) only [fset_at, fset_ne]); exact ⟨trivial, z.2⟩
      · (simp (disch := omega) only [fset_at, fset_ne]); exact z
  · (try simp (disch := omega) only [fset_ne] at j1)
    have z := t9 j j0 j1
    (simp (disch := omega) only [fset_at, fset_ne]); exact z
theorem tSy.wr (t : tSy A Y) (o : (0 ≤ Y 52 ∧ Y 52 ≤ 6) ∧ (0 ≤ Y 53 ∧ Y 53 ≤ 8) ∧ 0 ≤ Y 54 ∧ Y 54 ≤ 8) {u : Int} (q0 : 0 ≤ q) (q1 : q < 8) : tSy (fset A (155 + q) (u)) (fset Y (28 + q) (u)) := by
  obtain ⟨⟨a1, a2, a3, a4, a5⟩, t6, t7, t8, t9⟩ := t
  refine ⟨⟨?_, ?_, ?_, ?_, ?_⟩, fun j j0 j1 => ?_, fun j j0 j1 => ?_, fun j j0 j1 => ?_, fun j j0 j1 => ?_⟩
  · first | ((simp (disch := omega) only [fset_at, fset_ne]); assumption) | (simp (disch := omega) only [fset_at, fset_ne])
  · first | ((simp (disch := omega) only [fset_at, fset_ne]); assumption) | (simp (disch := omega) only [fset_at, fset_ne])
  · first | ((simp (disch := omega) only [fset_at, fset_ne]); assumption) | (simp (disch := omega) only [fset_at, fset_ne])
  · first | ((simp (disch := omega) only [fset_at, fset_ne]); assumption) | (simp (disch := omega) only [fset_at, fset_ne])
  · first | ((simp (disch := omega) only [fset_at, fset_ne]); assumption) | (simp (disch := omega) only [fset_at, fset_ne])
  · (try simp (disch := omega) only [fset_ne] at j1)
    have z := t6 j j0 j1
    (simp (disch := omega) only [fset_at, fset_ne]); exact z
  · (try simp (disch := omega) only [fset_ne] at j1)
    have z := t7 j j0 j1
    (simp (disch := omega) only [fset_at, fset_ne]); exact z
  · have z := t8 j j0 j1
    by_cases e1 : j = q
    · subst e1; (simp (disch := omega) only [fset_at, fset_ne]); exact ⟨z.1, trivial⟩
    · (simp (disch := omega) only [fset_at, fset_ne]); exact z
  · (try simp (disch := omega) only [fset_ne] at j1)
    have z := t9 j j0 j1
    (simp (disch := omega) only [fset_at, fset_ne]); exact z
end SY
section SAYC
variable {d bc bs n : Nat} {g h : aH} {Q : aQ} {W V : Int → Int → Int} {X : Int → Tx} {F B : Int → Int} {wr cm : Int}
theorem okN.say {Y : Int → Int} (o : okN W) (h : 0 ≤ Y 52 ∧ Y 52 ≤ 6 ∧ 0 ≤ Y 53 ∧ Y 53 ≤ 8 ∧ 0 ≤ Y 54 ∧ Y 54 ≤ 8) : okN (fset W 2 Y) := by
  obtain ⟨o1, o2, o3, o4, o5, o6, o7, o8⟩ := o
  refine ⟨o1, o2, o3, o4, o5, o6, h, fun j j0 j1 => ?_⟩
  rw [fset_ne (by omega)]
  exact o8 j j0 j1
theorem mkY {M : Int → Int → Int} {A Y : Int → Int} (e : IsM g h M) (ta : TA (M 1) W) (tb : tBk (M 1) (if wr = 1 then W 1 else B)) (tv : TA (M 2) V) (tvb : tBk (M 2) (V 1)) (tx : ∀ t, 0 ≤ t → t < W 3 1 → tTx (M 3) (705 * t) (X t)) (tt : tTp M F) (w : wrT M B wr) (c : M 0 24 = cm) (on : okN W) (q : ∀ i, (i < 4 ∨ (7 ≤ i ∧ i < 125) ∨ 179 ≤ i) → A i = M 1 i) (ty : tSy A Y) (o7 : 0 ≤ Y 52 ∧ Y 52 ≤ 6 ∧ 0 ≤ Y 53 ∧ Y 53 ≤ 8 ∧ 0 ≤ Y 54 ∧ Y 54 ≤ 8) : IsMo g (up h 302 (cI (Ls 3389 A))) (fset W 2 Y) V X F B wr cm := mkA e (ta.say q ty on) (tb.say q) tv tvb tx tt w c (on.say o7)
theorem M_found {x y : Int} (s : IsMo g h W V X F B wr cm) (k : ∀ h1, IsMo g h1 (sFound W x y) V X F B wr cm → Q (some (vI (aFound W x y))) h1 n) : Rn (d + 30) bc bs mX13_found 0 [some (vR (some 301)), some (vI x), some (vI y)] [] h n Q := by
  obtain ⟨M, e, ⟨⟨ts, te, ty, ⟨t1, t2, t3⟩, tp⟩, tb⟩, ⟨tv, tvb⟩, tx, ⟨⟨tt1, tt2, tt3⟩, tt4⟩, wr0, cm0, on⟩ := id s; obtain ⟨on1, on2, on3, on4, on5, on6, on7, on8⟩ := id on; have tt : tTp M F := ⟨⟨tt1, tt2, tt3⟩, tt4⟩; have m0 := e.o; have m1 := e.a1; have m2 := e.a2; have m3 := e.a3; have m4 := e.a4; have ts1 := ts.1; obtain ⟨te1, te2, te3, te4⟩ := id te; obtain ⟨⟨ty1, ty2, ty3, ty4, ty5⟩, ty6, ty7, ty8, ty9⟩ := id ty
  have ta : TA (M 1) W := ⟨ts, te, ty, ⟨t1, t2, t3⟩, tp⟩
  have q1 : fset (M 1) (125 + 2 * M 1 4) x 4 = M 1 4 := fset_ne (by omega)
  have q2 : fset (fset (M 1) (125 + 2 * M 1 4) x) (125 + 2 * fset (M 1) (125 + 2 * M 1 4) x 4 + 1) y 4 = M 1 4 := by rw [fset_ne (by omega), q1]
  unfold aFound sFound at k
  refine BX13_found_0  ?_ ?_
  · intro hc1
    refine BX13_found_14  ?_
    refine R_X13_isPlace  ?_ ?_
    · intro w1 w2
      refine BX13_found_18  ?_ ?_
      · intro hc2
        exact absurd hc2 (by decide)
      · intro hc3
        refine BX13_found_21  ?_
        refine R_X13_isIn  ?_ ?_
        · intro w1 w2
          refine BX13_found_28  ?_ ?_
          · intro hc4
            exact absurd hc4 (by decide)
          · intro hc5
            refine BX13_found_31 (by first | assumption | exact up_at _ _ _ | (rw [up_ne (by omega)]; first | assumption | exact up_at _ _ _ | (rw [up_ne (by omega)]; assumption))) (by rfl) (by first | assumption | exact up_at _ _ _ | (rw [up_ne (by omega)]; first | assumption | exact up_at _ _ _ | (rw [up_ne (by omega)]; assumption))) (by first | exact Ls_get (by omega) (by omega) | assumption) ?_ ?_
            · intro hc6
              refine BX13_found_45 (by first | assumption | exact up_at _ _ _ | (rw [up_ne (by omega)]; first | assumption | exact up_at _ _ _ | (rw [up_ne (by omega)]; assumption))) (by rfl) (by first | assumption | exact up_at _ _ _ | (rw [up_ne (by omega)]; first | assumption | exact up_at _ _ _ | (rw [up_ne (by omega)]; assumption))) (by first | exact Ls_get (by omega) (by omega) | assumption) (by first | omega | (rw [fset_at]; omega) | (simp only [Ls_len]; omega) | assumption | exact Ls_get (by omega) (by omega) | exact up_at _ _ _ | rfl | decide) (by first | omega | (rw [fset_at]; omega) | (simp only [Ls_len]; omega) | assumption | exact Ls_get (by omega) (by omega) | exact up_at _ _ _ | rfl | decide) (by first | omega | (rw [fset_at]; omega) | (simp only [Ls_len]; omega) | assumption | exact Ls_get (by omega) (by omega) | exact up_at _ _ _ | rfl | decide) (by first | omega | (rw [fset_at]; omega) | (simp only [Ls_len]; omega) | assumption | exact Ls_get (by omega) (by omega) | exact up_at _ _ _ | rfl | decide) (by first | omega | (rw [fset_at]; omega) | (simp only [Ls_len]; omega) | assumption | exact Ls_get (by omega) (by omega) | exact up_at _ _ _ | rfl | decide) ?_
              try rw [Ls_set (by omega)]
              refine BX13_found_62 (by first | assumption | exact up_at _ _ _ | (rw [up_ne (by omega)]; first | assumption | exact up_at _ _ _ | (rw [up_ne (by omega)]; assumption))) (by rfl) (by first | assumption | exact up_at _ _ _ | (rw [up_ne (by omega)]; first | assumption | exact up_at _ _ _ | (rw [up_ne (by omega)]; assumption))) (by first | exact Ls_get (by omega) (by omega) | assumption) (by first | omega | (rw [fset_at]; omega) | (simp only [Ls_len]; omega) | assumption | exact Ls_get (by omega) (by omega) | exact up_at _ _ _ | rfl | decide) (by first | omega | (rw [fset_at]; omega) | (simp only [Ls_len]; omega) | assumption | exact Ls_get (by omega) (by omega) | exact up_at _ _ _ | rfl | decide) (by first | omega | (rw [fset_at]; omega) | (simp only [Ls_len]; omega) | assumption | exact Ls_get (by omega) (by omega) | exact up_at _ _ _ | rfl | decide) (by first | omega | (rw [fset_at]; omega) | (simp only [Ls_len]; omega) | assumption | exact Ls_get (by omega) (by omega) | exact up_at _ _ _ | rfl | decide) (by first | omega | (rw [fset_at]; omega) | (simp only [Ls_len]; omega) | assumption | exact Ls_get (by omega) (by omega) | exact up_at _ _ _ | rfl | decide) (by first | omega | (rw [fset_at]; omega) | (simp only [Ls_len]; omega) | assumption | exact Ls_get (by omega) (by omega) | exact up_at _ _ _ | rfl | decide) ?_
              try rw [Ls_set (by omega)]
              refine BX13_found_81 (by first | assumption | exact up_at _ _ _ | (rw [up_ne (by omega)]; first | assumption | exact up_at _ _ _ | (rw [up_ne (by omega)]; assumption))) (by rfl) (by first | assumption | exact up_at _ _ _ | (rw [up_ne (by omega)]; first | assumption | exact up_at _ _ _ | (rw [up_ne (by omega)]; assumption))) (by first | exact Ls_get (by omega) (by omega) | assumption) (by first | omega | (rw [fset_at]; omega) | (simp only [Ls_len]; omega) | assumption | exact Ls_get (by omega) (by omega) | exact up_at _ _ _ | rfl | decide) (by first | omega | (rw [fset_at]; omega) | (simp only [Ls_len]; omega) | assumption | exact Ls_get (by omega) (by omega) | exact up_at _ _ _ | rfl | decide) (by first | omega | (rw [fset_at]; omega) | (simp only [Ls_len]; omega) | assumption | exact Ls_get (by omega) (by omega) | exact up_at _ _ _ | rfl | decide) ?_
              try rw [Ls_set (by omega)]
              refine BX13_found_91 (by first | assumption | exact up_at _ _ _ | (rw [up_ne (by omega)]; first | assumption | exact up_at _ _ _ | (rw [up_ne (by omega)]; assumption))) (by rfl) (by first | assumption | exact up_at _ _ _ | (rw [up_ne (by omega)]; first | assumption | exact up_at _ _ _ | (rw [up_ne (by omega)]; assumption))) (by first | exact Ls_get (by omega) (by omega) | assumption) ?_
              rw [if_neg (by omega), if_pos (by omega), if_neg (by omega), if_pos (by omega)] at k
              rw [up_up, up_up, fset_at, q2, q1, ty1]
              refine k _ (mkY e ta tb tv tvb tx tt wr0 cm0 on (fun i hi => ?_) (ty.f1 (by omega) (by omega)) ?_)
              · rw [fset_ne (by omega), fset_ne (by omega), fset_ne (by omega)]
              · (simp (disch := omega) only [fset_at, fset_ne])
                omega
            · intro hc7
              refine BX13_found_42  ?_
              (rw [if_neg (by omega), if_neg (by omega), if_neg (by omega), if_neg (by omega)] at k; exact k _ s)
        · intro w3
          refine BX13_found_28  ?_ ?_
          · intro hc8
            refine BX13_found_42  ?_
            (rw [if_neg (by omega), if_neg (by omega), if_neg (by omega), if_neg (by omega)] at k; exact k _ s)
          · intro hc9
            exact absurd hc9 (by decide)
    · intro w3
      refine BX13_found_18  ?_ ?_
      · intro hc10
        refine BX13_found_42  ?_
        (rw [if_neg (by omega), if_neg (by omega), if_neg (by omega), if_neg (by omega)] at k; exact k _ s)
      · intro hc11
        exact absurd hc11 (by decide)
  · intro hc12
    refine BX13_found_5 (by first | assumption | exact up_at _ _ _ | (rw [up_ne (by omega)]; first | assumption | exact up_at _ _ _ | (rw [up_ne (by omega)]; assumption))) (by rfl) (by first | assumption | exact up_at _ _ _ | (rw [up_ne (by omega)]; first | assumption | exact up_at _ _ _ | (rw [up_ne (by omega)]; assumption))) (by first | omega | (rw [fset_at]; omega) | (simp only [Ls_len]; omega) | assumption | exact Ls_get (by omega) (by omega) | exact up_at _ _ _ | rfl | decide) (by first | omega | (rw [fset_at]; omega) | (simp only [Ls_len]; omega) | assumption | exact Ls_get (by omega) (by omega) | exact up_at _ _ _ | rfl | decide) ?_
    try rw [Ls_set (by omega)]
    refine BX13_found_12  ?_
    rw [if_pos (by omega), if_pos (by omega)] at k
    refine k _ (mkY e ta tb tv tvb tx tt wr0 cm0 on (fun i hi => fset_ne (by omega)) (ty.f0 (by omega)) ?_)
    (simp (disch := omega) only [fset_at, fset_ne])
    omega
theorem M_said {x y : Int} (s : IsMo g h W V X F B wr cm) (k : ∀ h1, IsMo g h1 (sSaid W x y) V X F B wr cm → Q (some (vI (aSaid W x y))) h1 n) : Rn (d + 30) bc bs mX13_said 0 [some (vR (some 301)), some (vI x), some (vI y)] [] h n Q := by
  obtain ⟨M, e, ⟨⟨ts, te, ty, ⟨t1, t2, t3⟩, tp⟩, tb⟩, ⟨tv, tvb⟩, tx, ⟨⟨tt1, tt2, tt3⟩, tt4⟩, wr0, cm0, on⟩ := id s; obtain ⟨on1, on2, on3, on4, on5, on6, on7, on8⟩ := id on; have tt : tTp M F := ⟨⟨tt1, tt2, tt3⟩, tt4⟩; have m0 := e.o; have m1 := e.a1; have m2 := e.a2; have m3 := e.a3; have m4 := e.a4; have ts1 := ts.1; obtain ⟨te1, te2, te3, te4⟩ := id te; obtain ⟨⟨ty1, ty2, ty3, ty4, ty5⟩, ty6, ty7, ty8, ty9⟩ := id ty
  have ta : TA (M 1) W := ⟨ts, te, ty, ⟨t1, t2, t3⟩, tp⟩
  have q1 : fset (M 1) (163 + 2 * M 1 6) x 6 = M 1 6 := fset_ne (by omega)
  have q2 : fset (fset (M 1) (163 + 2 * M 1 6) x) (163 + 2 * fset (M 1) (163 + 2 * M 1 6) x 6 + 1) y 6 = M 1 6 := by rw [fset_ne (by omega), q1]
  unfold aSaid sSaid at k
  refine BX13_said_0  ?_ ?_
  · intro hc1
    refine BX13_said_15 (by first | assumption | exact up_at _ _ _ | (rw [up_ne (by omega)]; first | assumption | exact up_at _ _ _ | (rw [up_ne (by omega)]; assumption))) ?_
    refine R_X13_isBottle (by first | omega | (rw [fset_at]; omega) | (simp only [Ls_len]; omega) | assumption | exact Ls_get (by omega) (by omega) | exact up_at _ _ _ | rfl | decide) ?_ ?_
    · intro w1 w2
      refine BX13_said_20  ?_ ?_
      · intro hc2
        exact absurd hc2 (by decide)
      · intro hc3
        refine BX13_said_23  ?_
        refine R_X13_isIn  ?_ ?_
        · intro w1 w2
          refine BX13_said_30  ?_ ?_
          · intro hc4
            exact absurd hc4 (by decide)
          · intro hc5
            refine BX13_said_33 (by first | assumption | exact up_at _ _ _ | (rw [up_ne (by omega)]; first | assumption | exact up_at _ _ _ | (rw [up_ne (by omega)]; assumption))) (by rfl) (by first | assumption | exact up_at _ _ _ | (rw [up_ne (by omega)]; first | assumption | exact up_at _ _ _ | (rw [up_ne (by omega)]; assumption))) (by first | exact Ls_get (by omega) (by omega) | assumption) ?_ ?_
            · intro hc6
              refine BX13_said_48 (by first | assumption | exact up_at _ _ _ | (rw [up_ne (by omega)]; first | assumption | exact up_at _ _ _ | (rw [up_ne (by omega)]; assumption))) (by rfl) (by first | assumption | exact up_at _ _ _ | (rw [up_ne (by omega)]; first | assumption | exact up_at _ _ _ | (rw [up_ne (by omega)]; assumption))) (by first | exact Ls_get (by omega) (by omega) | assumption) (by first | omega | (rw [fset_at]; omega) | (simp only [Ls_len]; omega) | assumption | exact Ls_get (by omega) (by omega) | exact up_at _ _ _ | rfl | decide) (by first | omega | (rw [fset_at]; omega) | (simp only [Ls_len]; omega) | assumption | exact Ls_get (by omega) (by omega) | exact up_at _ _ _ | rfl | decide) (by first | omega | (rw [fset_at]; omega) | (simp only [Ls_len]; omega) | assumption | exact Ls_get (by omega) (by omega) | exact up_at _ _ _ | rfl | decide) (by first | omega | (rw [fset_at]; omega) | (simp only [Ls_len]; omega) | assumption | exact Ls_get (by omega) (by omega) | exact up_at _ _ _ | rfl | decide) (by first | omega | (rw [fset_at]; omega) | (simp only [Ls_len]; omega) | assumption | exact Ls_get (by omega) (by omega) | exact up_at _ _ _ | rfl | decide) ?_
              try rw [Ls_set (by omega)]
              refine BX13_said_67 (by first | assumption | exact up_at _ _ _ | (rw [up_ne (by omega)]; first | assumption | exact up_at _ _ _ | (rw [up_ne (by omega)]; assumption))) (by rfl) (by first | assumption | exact up_at _ _ _ | (rw [up_ne (by omega)]; first | assumption | exact up_at _ _ _ | (rw [up_ne (by omega)]; assumption))) (by first | exact Ls_get (by omega) (by omega) | assumption) (by first | omega | (rw [fset_at]; omega) | (simp only [Ls_len]; omega) | assumption | exact Ls_get (by omega) (by omega) | exact up_at _ _ _ | rfl | decide) (by first | omega | (rw [fset_at]; omega) | (simp only [Ls_len]; omega) | assumption | exact Ls_get (by omega) (by omega) | exact up_at _ _ _ | rfl | decide) (by first | omega | (rw [fset_at]; omega) | (simp only [Ls_len]; omega) | assumption | exact Ls_get (by omega) (by omega) | exact up_at _ _ _ | rfl | decide) (by first | omega | (rw [fset_at]; omega) | (simp only [Ls_len]; omega) | assumption | exact Ls_get (by omega) (by omega) | exact up_at _ _ _ | rfl | decide) (by first | omega | (rw [fset_at]; omega) | (simp only [Ls_len]; omega) | assumption | exact Ls_get (by omega) (by omega) | exact up_at _ _ _ | rfl | decide) (by first | omega | (rw [fset_at]; omega) | (simp only [Ls_len]; omega) | assumption | exact Ls_get (by omega) (by omega) | exact up_at _ _ _ | rfl | decide) ?_
              try rw [Ls_set (by omega)]
              refine BX13_said_88 (by first | assumption | exact up_at _ _ _ | (rw [up_ne (by omega)]; first | assumption | exact up_at _ _ _ | (rw [up_ne (by omega)]; assumption))) (by rfl) (by first | assumption | exact up_at _ _ _ | (rw [up_ne (by omega)]; first | assumption | exact up_at _ _ _ | (rw [up_ne (by omega)]; assumption))) (by first | exact Ls_get (by omega) (by omega) | assumption) (by first | omega | (rw [fset_at]; omega) | (simp only [Ls_len]; omega) | assumption | exact Ls_get (by omega) (by omega) | exact up_at _ _ _ | rfl | decide) (by first | omega | (rw [fset_at]; omega) | (simp only [Ls_len]; omega) | assumption | exact Ls_get (by omega) (by omega) | exact up_at _ _ _ | rfl | decide) (by first | omega | (rw [fset_at]; omega) | (simp only [Ls_len]; omega) | assumption | exact Ls_get (by omega) (by omega) | exact up_at _ _ _ | rfl | decide) ?_
              try rw [Ls_set (by omega)]
              refine BX13_said_99 (by first | assumption | exact up_at _ _ _ | (rw [up_ne (by omega)]; first | assumption | exact up_at _ _ _ | (rw [up_ne (by omega)]; assumption))) (by rfl) (by first | assumption | exact up_at _ _ _ | (rw [up_ne (by omega)]; first | assumption | exact up_at _ _ _ | (rw [up_ne (by omega)]; assumption))) (by first | exact Ls_get (by omega) (by omega) | assumption) ?_
              rw [if_neg (by omega), if_pos (by omega), if_neg (by omega), if_pos (by omega)] at k
              rw [up_up, up_up, fset_at, q2, q1, ty3]
              refine k _ (mkY e ta tb tv tvb tx tt wr0 cm0 on (fun i hi => ?_) (ty.s1 (by omega) (by omega)) ?_)
              · rw [fset_ne (by omega), fset_ne (by omega), fset_ne (by omega)]
              · (simp (disch := omega) only [fset_at, fset_ne])
                omega
            · intro hc7
              refine BX13_said_45  ?_
              (rw [if_neg (by omega), if_neg (by omega), if_neg (by omega), if_neg (by omega)] at k; exact k _ s)
        · intro w3
          refine BX13_said_30  ?_ ?_
          · intro hc8
            refine BX13_said_45  ?_
            (rw [if_neg (by omega), if_neg (by omega), if_neg (by omega), if_neg (by omega)] at k; exact k _ s)
          · intro hc9
            exact absurd hc9 (by decide)
    · intro w3
      refine BX13_said_20  ?_ ?_
      · intro hc10
        refine BX13_said_45  ?_
        (rw [if_neg (by omega), if_neg (by omega), if_neg (by omega), if_neg (by omega)] at k; exact k _ s)
      · intro hc11
        exact absurd hc11 (by decide)
  · intro hc12
    refine BX13_said_5 (by first | assumption | exact up_at _ _ _ | (rw [up_ne (by omega)]; first | assumption | exact up_at _ _ _ | (rw [up_ne (by omega)]; assumption))) (by rfl) (by first | assumption | exact up_at _ _ _ | (rw [up_ne (by omega)]; first | assumption | exact up_at _ _ _ | (rw [up_ne (by omega)]; assumption))) (by first | omega | (rw [fset_at]; omega) | (simp only [Ls_len]; omega) | assumption | exact Ls_get (by omega) (by omega) | exact up_at _ _ _ | rfl | decide) (by first | omega | (rw [fset_at]; omega) | (simp only [Ls_len]; omega) | assumption | exact Ls_get (by omega) (by omega) | exact up_at _ _ _ | rfl | decide) ?_
    try rw [Ls_set (by omega)]
    refine BX13_said_13  ?_
    rw [if_pos (by omega), if_pos (by omega)] at k
    refine k _ (mkY e ta tb tv tvb tx tt wr0 cm0 on (fun i hi => fset_ne (by omega)) (ty.s0 (by omega)) ?_)
    (simp (disch := omega) only [fset_at, fset_ne])
    omega
theorem M_odds {x y : Int} (s : IsMo g h W V X F B wr cm) (k : ∀ h1, IsMo g h1 (sOdds W x y) V X F B wr cm → Q (some (vI (aOdds x y))) h1 n) : Rn (d + 30) bc bs mX13_odds 0 [some (vR (some 301)), some (vI x), some (vI y)] [] h n Q := by
  obtain ⟨M, e, ⟨⟨ts, te, ty, ⟨t1, t2, t3⟩, tp⟩, tb⟩, ⟨tv, tvb⟩, tx, ⟨⟨tt1, tt2, tt3⟩, tt4⟩, wr0, cm0, on⟩ := id s; obtain ⟨on1, on2, on3, on4, on5, on6, on7, on8⟩ := id on; have tt : tTp M F := ⟨⟨tt1, tt2, tt3⟩, tt4⟩; have m0 := e.o; have m1 := e.a1; have m2 := e.a2; have m3 := e.a3; have m4 := e.a4; have ts1 := ts.1; obtain ⟨te1, te2, te3, te4⟩ := id te; obtain ⟨⟨ty1, ty2, ty3, ty4, ty5⟩, ty6, ty7, ty8, ty9⟩ := id ty
  have ta : TA (M 1) W := ⟨ts, te, ty, ⟨t1, t2, t3⟩, tp⟩
  unfold aOdds sOdds at k
  refine BX13_odds_0  ?_
  refine R_X13_isIn  ?_ ?_
  · intro w1 w2
    refine BX13_odds_7  ?_ ?_
    · intro hc1
      exact absurd hc1 (by decide)
    · intro hc2
      refine BX13_odds_10  ?_
      refine R_X13_isIn  ?_ ?_
      · intro w1 w2
        refine BX13_odds_17  ?_ ?_
        · intro hc3
          exact absurd hc3 (by decide)
        · intro hc4
          refine BX13_odds_20 (by first | omega | (rw [fset_at]; omega) | (simp only [Ls_len]; omega) | assumption | exact Ls_get (by omega) (by omega) | exact up_at _ _ _ | rfl | decide) ?_ ?_
          · intro hc5
            refine BX13_odds_30 (by first | assumption | exact up_at _ _ _ | (rw [up_ne (by omega)]; first | assumption | exact up_at _ _ _ | (rw [up_ne (by omega)]; assumption))) (by rfl) (by first | assumption | exact up_at _ _ _ | (rw [up_ne (by omega)]; first | assumption | exact up_at _ _ _ | (rw [up_ne (by omega)]; assumption))) (by first | omega | (rw [fset_at]; omega) | (simp only [Ls_len]; omega) | assumption | exact Ls_get (by omega) (by omega) | exact up_at _ _ _ | rfl | decide) (by first | omega | (rw [fset_at]; omega) | (simp only [Ls_len]; omega) | assumption | exact Ls_get (by omega) (by omega) | exact up_at _ _ _ | rfl | decide) ?_
            try rw [Ls_set (by omega)]
            refine BX13_odds_39 (by first | assumption | exact up_at _ _ _ | (rw [up_ne (by omega)]; first | assumption | exact up_at _ _ _ | (rw [up_ne (by omega)]; assumption))) (by rfl) (by first | assumption | exact up_at _ _ _ | (rw [up_ne (by omega)]; first | assumption | exact up_at _ _ _ | (rw [up_ne (by omega)]; assumption))) (by first | omega | (rw [fset_at]; omega) | (simp only [Ls_len]; omega) | assumption | exact Ls_get (by omega) (by omega) | exact up_at _ _ _ | rfl | decide) (by first | omega | (rw [fset_at]; omega) | (simp only [Ls_len]; omega) | assumption | exact Ls_get (by omega) (by omega) | exact up_at _ _ _ | rfl | decide) ?_
            try rw [Ls_set (by omega)]
            refine BX13_odds_48  ?_
            rw [if_pos (by omega), if_pos (by omega)] at k
            rw [up_up]
            refine k _ (mkY e ta tb tv tvb tx tt wr0 cm0 on (fun i hi => ?_) (ty.od (by omega)) ?_)
            · rw [fset_ne (by omega), fset_ne (by omega)]
            · (simp (disch := omega) only [fset_at, fset_ne])
              omega
          · intro hc6
            refine BX13_odds_28  ?_
            (rw [if_neg (by omega), if_neg (by omega)] at k; exact k _ s)
      · intro w3
        refine BX13_odds_17  ?_ ?_
        · intro hc7
          refine BX13_odds_28  ?_
          (rw [if_neg (by omega), if_neg (by omega)] at k; exact k _ s)
        · intro hc8
          exact absurd hc8 (by decide)
  · intro w3
    refine BX13_odds_7  ?_ ?_
    · intro hc9
      refine BX13_odds_28  ?_
      (rw [if_neg (by omega), if_neg (by omega)] at k; exact k _ s)
    · intro hc10
      exact absurd hc10 (by decide)
end SAYC
