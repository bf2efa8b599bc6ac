/-! The reference: a step is kept, a step is taken back. -/
def sfA (A : Int → Int) (k : Int) : Int → Int := fun j => if 179 ≤ j ∧ j < 179 + k then A (j + 106) else A j
theorem sfA_s {A : Int → Int} {k : Int} (k0 : 0 ≤ k) : fset (sfA A k) (179 + k) (sfA A k (285 + k)) = sfA A (k + 1) := by
  funext j
  by_cases q : j = 179 + k
  · subst q; rw [fset_at]; unfold sfA
    rw [if_neg (by omega), if_pos (by omega)]
    congr 1; omega
  · rw [fset_ne q]; unfold sfA
    by_cases q2 : 179 ≤ j ∧ j < 179 + k
    · rw [if_pos q2, if_pos (by omega)]
    · rw [if_neg q2, if_neg (by omega)]
theorem sfA_0 {A : Int → Int} : sfA A 0 = A := by funext j; unfold sfA; rw [if_neg (by omega)]
/-- so many from c on are laid at x -/
def cyA (A : Int → Int) (x c k : Int) : Int → Int := fun j => if x ≤ j ∧ j < x + k then A (c + (j - x)) else A j
theorem cyA_s {A : Int → Int} {x c k : Int} (k0 : 0 ≤ k) (hd : c + k < x ∨ x + k ≤ c + k) : fset (cyA A x c k) (x + k) (cyA A x c k (c + k)) = cyA A x c (k + 1) := by
  funext j
  by_cases q : j = x + k
  · subst q; rw [fset_at]; unfold cyA
    rw [if_neg (by omega), if_pos (by omega)]
    congr 1; omega
  · rw [fset_ne q]; unfold cyA
    by_cases q2 : x ≤ j ∧ j < x + k
    · rw [if_pos q2, if_pos (by omega)]
    · rw [if_neg q2, if_neg (by omega)]
theorem cyA_0 {A : Int → Int} {x c : Int} : cyA A x c 0 = A := by funext j; unfold cyA; rw [if_neg (by omega)]
section TSP
variable {A A2 S Z : Int → Int} {s s2 : Int}
theorem tSp.of (t : tSp A s Z) (z : Z 72 ≤ 12 ∧ Z 75 ≤ 30) (e : ∀ j, 0 ≤ j → j < 106 → A2 (179 + 106 * s2 + j) = A (179 + 106 * s + j)) : tSp A2 s2 Z := by
  obtain ⟨⟨t1, t2, t3, t4⟩, t5, t6⟩ := t
  have e0 := e 0 (by decide) (by decide)
  rw [Int.add_zero, Int.add_zero] at e0
  refine ⟨⟨e0.trans t1, (e 1 (by decide) (by decide)).trans t2, (e 2 (by decide) (by decide)).trans t3, (e 3 (by decide) (by decide)).trans t4⟩, fun b w b0 b1 w0 w1 => (e _ (by omega) (by omega)).trans (t5 b w b0 b1 w0 w1), fun l l0 l1 => ?_⟩
  rw [e _ (by omega) (by omega)]
  exact t6 l l0 l1
theorem tSp.cur (te : tSe A S) (tb : tBk A S) (z : S 72 ≤ 12 ∧ S 75 ≤ 30) (e : ∀ j, 0 ≤ j → j < 76 → A2 (179 + 106 * s + j) = A (7 + j)) (e2 : ∀ l, 0 ≤ l → l < 30 → A2 (179 + 106 * s + (76 + l)) = A (3359 + l)) : tSp A2 s S := by
  obtain ⟨t1, t2, t3, t4⟩ := te
  have e0 := e 0 (by decide) (by decide)
  rw [Int.add_zero, Int.add_zero] at e0
  refine ⟨⟨e0.trans t1, (e 1 (by decide) (by decide)).trans t2, (e 2 (by decide) (by decide)).trans t3, (e 3 (by decide) (by decide)).trans tb.1⟩, fun b w b0 b1 w0 w1 => ?_, fun l l0 l1 => ?_⟩
  · rw [e _ (by omega) (by omega), show 7 + (4 + 6 * b + w) = 11 + 6 * b + w by omega]
    exact t4 b w b0 b1 w0 w1
  · rw [e2 _ (by omega) (by omega)]
    exact tb.2 l l0 l1
theorem tSp.back (t : tSp A s Z) (z : Z 72 ≤ 12 ∧ Z 75 ≤ 30) (e : ∀ j, 0 ≤ j → j < 76 → A2 (7 + j) = A (179 + 106 * s + j)) (e2 : ∀ l, 0 ≤ l → l < 30 → A2 (3359 + l) = A (179 + 106 * s + (76 + l))) : tSe A2 Z ∧ tBk A2 Z := by
  obtain ⟨⟨t1, t2, t3, t4⟩, t5, t6⟩ := t
  have e0 := e 0 (by decide) (by decide)
  rw [Int.add_zero, Int.add_zero] at e0
  refine ⟨⟨e0.trans t1, (e 1 (by decide) (by decide)).trans t2, (e 2 (by decide) (by decide)).trans t3, fun b w b0 b1 w0 w1 => ?_⟩, (e 3 (by decide) (by decide)).trans t4, fun l l0 l1 => ?_⟩
  · have := e (4 + 6 * b + w) (by omega) (by omega)
    rw [show 7 + (4 + 6 * b + w) = 11 + 6 * b + w by omega] at this
    exact this.trans (t5 b w b0 b1 w0 w1)
  · rw [e2 _ (by omega) (by omega)]
    exact t6 l l0 l1
end TSP
theorem keepM_hi {W : Int → Int → Int} {j : Int} (j0 : 0 ≤ j) : keepM W (10 + j) = stKeep (W 3 0) (fun j => W (10 + j)) (W 1) j := by
  show (if 10 + j = 3 then _ else if 10 ≤ 10 + j then _ else _) = _
  rw [if_neg (by omega), if_pos (by omega), show 10 + j - 10 = j by omega]
/-- what a kept step needs of the row -/
theorem TA.keep {A A2 : Int → Int} {W : Int → Int → Int} (a : TA A W) (tb : tBk A (W 1)) (o : okN W) (e : ∀ i, i ≠ 3 → (i < 179 ∨ 3359 ≤ i) → A2 i = A i) (e3 : A2 3 = stLen (W 3 0)) (es : ∀ s, 0 ≤ s → s < stLen (W 3 0) - 1 → ∀ j, 0 ≤ j → j < 106 → A2 (179 + 106 * s + j) = A (179 + 106 * (if 30 ≤ W 3 0 then s + 1 else s) + j)) (ec : ∀ j, 0 ≤ j → j < 76 → A2 (179 + 106 * (stLen (W 3 0) - 1) + j) = A (7 + j)) (ec2 : ∀ l, 0 ≤ l → l < 30 → A2 (179 + 106 * (stLen (W 3 0) - 1) + (76 + l)) = A (3359 + l)) : TA A2 (keepM W) ∧ tBk A2 (W 1) := by
  have a9 := a
  obtain ⟨⟨s1, s2, s3⟩, te, ⟨⟨a1, a2, a3, a4, a5⟩, t6, t7, t8, t9⟩, ⟨u1, u2, u3⟩, tp⟩ := a
  obtain ⟨o1, o2, o3, o4, o5, o6, o7, o8⟩ := o
  have el : stLen (W 3 0) = if 30 ≤ W 3 0 then 30 else W 3 0 + 1 := rfl
  refine ⟨⟨⟨?_, fun q q0 q1 => ?_, fun t q t0 t1 q0 q1 => ?_⟩, te.cong o2.2 (fun i i0 i1 i2 => e i (by omega) (by omega)) (fun _ _ => rfl), ⟨⟨?_, ?_, ?_, ?_, ?_⟩, fun j j0 j1 => ?_, fun j j0 j1 => ?_, fun j j0 j1 => ?_, fun j j0 j1 => ?_⟩, ⟨?_, ?_, ?_⟩, fun s s0 s1 => ?_⟩, ?_⟩
  · rw [e _ (by omega) (by omega)]; exact s1
  · have q1 : q < W 3 3 := q1
    rw [e _ (by omega) (by omega), e _ (by omega) (by omega)]; exact s2 q q0 q1
  · rw [e _ (by omega) (by omega)]; exact s3 t q t0 t1 q0 q1
  · rw [e _ (by omega) (by omega)]; exact a1
  · rw [e _ (by omega) (by omega)]; exact a2
  · rw [e _ (by omega) (by omega)]; exact a3
  · rw [e _ (by omega) (by omega)]; exact a4
  · rw [e _ (by omega) (by omega)]; exact a5
  · have j1 : j < W 2 52 := j1
    rw [e _ (by omega) (by omega), e _ (by omega) (by omega)]; exact t6 j j0 j1
  · have j1 : j < W 2 53 := j1
    rw [e _ (by omega) (by omega)]; exact t7 j j0 j1
  · rw [e _ (by omega) (by omega), e _ (by omega) (by omega)]; exact t8 j j0 j1
  · have j1 : j < W 2 54 := j1
    rw [e _ (by omega) (by omega), e _ (by omega) (by omega)]; exact t9 j j0 j1
  · rw [e _ (by omega) (by omega)]; exact u1
  · rw [e _ (by omega) (by omega)]; exact u2
  · exact e3
  · have hs : s < stLen (W 3 0) := s1
    rw [keepM_hi s0]
    by_cases w : s = stLen (W 3 0) - 1
    · have ez : stKeep (W 3 0) (fun j => W (10 + j)) (W 1) s = W 1 := by
        unfold stKeep
        by_cases q : 30 ≤ W 3 0
        · rw [if_pos q] at el
          rw [if_pos q, show s = 29 by omega, fset_at]
        · rw [if_neg q] at el
          rw [if_neg q, show s = W 3 0 by omega, fset_at]
      rw [ez, w]
      exact tSp.cur te tb ⟨o2.2, o3.2⟩ ec ec2
    · have e9 := es s s0 (by omega)
      by_cases q : 30 ≤ W 3 0
      · rw [if_pos q] at el e9
        have ez : stKeep (W 3 0) (fun j => W (10 + j)) (W 1) s = W (10 + (s + 1)) := by
          unfold stKeep
          rw [if_pos q, fset_ne (by omega)]
          unfold rot
          rw [if_neg (by omega)]
        rw [ez]
        have o9 := o8 (s + 1) (by omega) (by omega)
        exact (tp (s + 1) (by omega) (by omega)).of (by omega) e9
      · rw [if_neg q] at el e9
        have ez : stKeep (W 3 0) (fun j => W (10 + j)) (W 1) s = W (10 + s) := by
          unfold stKeep
          rw [if_neg q, fset_ne (by omega)]
        rw [ez]
        have o9 := o8 s (by omega) (by omega)
        exact (tp s (by omega) (by omega)).of (by omega) e9
  · exact tb.cong (e _ (by omega) (by omega)) (fun i hi => e _ (by omega) (by omega)) rfl (fun _ _ => rfl)
theorem okN.keep {W : Int → Int → Int} (o : okN W) : okN (keepM W) := by
  obtain ⟨o1, o2, o3, o4, o5, o6, o7, o8⟩ := o
  have el : stLen (W 3 0) = if 30 ≤ W 3 0 then 30 else W 3 0 + 1 := rfl
  refine ⟨o1, o2, o3, ?_, o5, o6, o7, fun j j0 j1 => ?_⟩
  · show 0 ≤ stLen (W 3 0) ∧ stLen (W 3 0) ≤ 30
    rw [el]; split <;> omega
  · have j1 : j < stLen (W 3 0) := j1
    rw [keepM_hi j0]
    unfold stKeep
    by_cases q : 30 ≤ W 3 0
    · rw [if_pos q] at el ⊢
      by_cases w : j = 29
      · subst w; rw [fset_at]; exact ⟨o2, o3⟩
      · rw [fset_ne w]; unfold rot; rw [if_neg w]; exact o8 _ (by omega) (by omega)
    · rw [if_neg q] at el ⊢
      by_cases w : j = W 3 0
      · subst w; rw [fset_at]; exact ⟨o2, o3⟩
      · rw [fset_ne w]; exact o8 _ (by omega) (by omega)
section KEEP
variable {d bc bs n : Nat} {g h : aH} {Q : aQ} {W V : Int → Int → Int} {X : Int → Tx} {F B : Int → Int} {wr cm : Int} {M : Int → Int → Int}
theorem keep_tail {A1 : Int → Int} {L : Int} {l1 l2 : Option aV} (e : IsM g h (fset M 1 A1)) (L0 : 0 ≤ L) (L1 : L ≤ 29) (a3 : A1 3 = L) (k : ∀ h1, IsM g h1 (fset M 1 (fset (cyA (cyA A1 (179 + 106 * L) 7 76) (179 + 106 * L + 76) 3359 30) 3 (L + 1))) → Q none h1 n) : Rn d bc bs mX13_keep 56 [some (vR (some 301)), l1, l2] [] h n Q := by
  have lb : ∀ (m : Nat) (i : Int) (h1 : aH), 0 ≤ i → i + m = 30 → IsM g h1 (fset M 1 (cyA (cyA A1 (179 + 106 * L) 7 76) (179 + 106 * L + 76) 3359 i)) → Rn d bc bs mX13_keep 103 [some (vR (some 301)), some (vI (179 + 106 * L)), some (vI i)] [] h1 n Q := by
    intro m
    induction m with
    | zero =>
      intro i h1 i0 im e1
      have e9 : i = 30 := by omega
      subst e9
      have m0 := e1.o
      have m1 : h1 302 = cI (Ls 3389 (cyA (cyA A1 (179 + 106 * L) 7 76) (179 + 106 * L + 76) 3359 30)) := e1.a1
      have v3 : cyA (cyA A1 (179 + 106 * L) 7 76) (179 + 106 * L + 76) 3359 30 3 = L := by
        unfold cyA
        rw [if_neg (by omega), if_neg (by omega)]
        exact a3
      have e2 := e1.s1 (f := fset (cyA (cyA A1 (179 + 106 * L) 7 76) (179 + 106 * L + 76) 3359 30) 3 (L + 1))
      rw [fset2] at e2
      refine BX13_keep_103  ?_ ?_
      · intro hc1
        first
        | (exfalso; omega)
        | (
            refine BX13_keep_136 (by first | assumption | exact up_at _ _ _ | (rw [up_ne (by omega)]; first | assumption | exact up_at _ _ _ | (rw [up_ne (by omega)]; assumption))) (by rfl) (by first | assumption | exact up_at _ _ _ | (rw [up_ne (by omega)]; first | assumption | exact up_at _ _ _ | (rw [up_ne (by omega)]; assumption))) (by first | exact Ls_get (by omega) (by omega) | assumption) (by first | omega | (rw [fset_at]; omega) | (simp only [Ls_len]; omega) | assumption | exact Ls_get (by omega) (by omega) | exact up_at _ _ _ | rfl | decide) (by first | omega | (rw [fset_at]; omega) | (simp only [Ls_len]; omega) | assumption | exact Ls_get (by omega) (by omega) | exact up_at _ _ _ | rfl | decide) (by first | omega | (rw [fset_at]; omega) | (simp only [Ls_len]; omega) | assumption | exact Ls_get (by omega) (by omega) | exact up_at _ _ _ | rfl | decide) ?_
            try rw [Ls_set (by omega)]
            refine BX13_keep_146  ?_
            (rw [v3]; exact k _ e2)
          )
      · intro hc2
        first
        | (exfalso; omega)
        | (
            (exfalso; omega)
          )
    | succ m ih =>
      intro i h1 i0 im e1
      have m0 := e1.o
      have m1 : h1 302 = cI (Ls 3389 (cyA (cyA A1 (179 + 106 * L) 7 76) (179 + 106 * L + 76) 3359 i)) := e1.a1
      have e2 := e1.s1 (f := cyA (cyA A1 (179 + 106 * L) 7 76) (179 + 106 * L + 76) 3359 (i + 1))
      rw [fset2] at e2
      refine BX13_keep_103  ?_ ?_
      · intro hc1
        first
        | (exfalso; omega)
        | (
            (exfalso; omega)
          )
      · intro hc2
        first
        | (exfalso; omega)
        | (
            refine BX13_keep_109 (by first | assumption | exact up_at _ _ _ | (rw [up_ne (by omega)]; first | assumption | exact up_at _ _ _ | (rw [up_ne (by omega)]; assumption))) (by rfl) (by first | omega | (rw [fset_at]; omega) | (simp only [Ls_len]; omega) | assumption | exact Ls_get (by omega) (by omega) | exact up_at _ _ _ | rfl | decide) (by first | omega | (rw [fset_at]; omega) | (simp only [Ls_len]; omega) | assumption | exact Ls_get (by omega) (by omega) | exact up_at _ _ _ | rfl | decide) (by first | omega | (rw [fset_at]; omega) | (simp only [Ls_len]; omega) | assumption | exact Ls_get (by omega) (by omega) | exact up_at _ _ _ | rfl | decide) (by first | assumption | exact up_at _ _ _ | (rw [up_ne (by omega)]; first | assumption | exact up_at _ _ _ | (rw [up_ne (by omega)]; assumption))) (by first | omega | (rw [fset_at]; omega) | (simp only [Ls_len]; omega) | assumption | exact Ls_get (by omega) (by omega) | exact up_at _ _ _ | rfl | decide) (by first | exact Ls_get (by omega) (by omega) | assumption) (by first | omega | (rw [fset_at]; omega) | (simp only [Ls_len]; omega) | assumption | exact Ls_get (by omega) (by omega) | exact up_at _ _ _ | rfl | decide) (by first | omega | (rw [fset_at]; omega) | (simp only [Ls_len]; omega) | assumption | exact Ls_get (by omega) (by omega) | exact up_at _ _ _ | rfl | decide) (by first | omega | (rw [fset_at]; omega) | (simp only [Ls_len]; omega) | assumption | exact Ls_get (by omega) (by omega) | exact up_at _ _ _ | rfl | decide) ?_
            try rw [Ls_set (by omega)]
            refine BX13_keep_130 (by first | omega | (rw [fset_at]; omega) | (simp only [Ls_len]; omega) | assumption | exact Ls_get (by omega) (by omega) | exact up_at _ _ _ | rfl | decide) ?_
            (rw [cyA_s i0 (by omega)]; exact ih _ _ (by omega) (by omega) e2)
          )
  have la : ∀ (m : Nat) (i : Int) (h1 : aH), 0 ≤ i → i + m = 76 → IsM g h1 (fset M 1 (cyA A1 (179 + 106 * L) 7 i)) → Rn d bc bs mX13_keep 72 [some (vR (some 301)), some (vI (179 + 106 * L)), some (vI i)] [] h1 n Q := by
    intro m
    induction m with
    | zero =>
      intro i h1 i0 im e1
      have e9 : i = 76 := by omega
      subst e9
      have m0 := e1.o
      refine BX13_keep_72  ?_ ?_
      · intro hc1
        first
        | (exfalso; omega)
        | (
            refine BX13_keep_101  ?_
            exact lb 30 0 h1 (by decide) (by decide) (by rw [cyA_0]; exact e1)
          )
      · intro hc2
        first
        | (exfalso; omega)
        | (
            (exfalso; omega)
          )
    | succ m ih =>
      intro i h1 i0 im e1
      have m0 := e1.o
      have m1 : h1 302 = cI (Ls 3389 (cyA A1 (179 + 106 * L) 7 i)) := e1.a1
      have e2 := e1.s1 (f := cyA A1 (179 + 106 * L) 7 (i + 1))
      rw [fset2] at e2
      refine BX13_keep_72  ?_ ?_
      · intro hc1
        first
        | (exfalso; omega)
        | (
            (exfalso; omega)
          )
      · intro hc2
        first
        | (exfalso; omega)
        | (
            refine BX13_keep_78 (by first | assumption | exact up_at _ _ _ | (rw [up_ne (by omega)]; first | assumption | exact up_at _ _ _ | (rw [up_ne (by omega)]; assumption))) (by rfl) (by first | omega | (rw [fset_at]; omega) | (simp only [Ls_len]; omega) | assumption | exact Ls_get (by omega) (by omega) | exact up_at _ _ _ | rfl | decide) (by first | omega | (rw [fset_at]; omega) | (simp only [Ls_len]; omega) | assumption | exact Ls_get (by omega) (by omega) | exact up_at _ _ _ | rfl | decide) (by first | assumption | exact up_at _ _ _ | (rw [up_ne (by omega)]; first | assumption | exact up_at _ _ _ | (rw [up_ne (by omega)]; assumption))) (by first | omega | (rw [fset_at]; omega) | (simp only [Ls_len]; omega) | assumption | exact Ls_get (by omega) (by omega) | exact up_at _ _ _ | rfl | decide) (by first | exact Ls_get (by omega) (by omega) | assumption) (by first | omega | (rw [fset_at]; omega) | (simp only [Ls_len]; omega) | assumption | exact Ls_get (by omega) (by omega) | exact up_at _ _ _ | rfl | decide) (by first | omega | (rw [fset_at]; omega) | (simp only [Ls_len]; omega) | assumption | exact Ls_get (by omega) (by omega) | exact up_at _ _ _ | rfl | decide) (by first | omega | (rw [fset_at]; omega) | (simp only [Ls_len]; omega) | assumption | exact Ls_get (by omega) (by omega) | exact up_at _ _ _ | rfl | decide) ?_
            try rw [Ls_set (by omega)]
            refine BX13_keep_95 (by first | omega | (rw [fset_at]; omega) | (simp only [Ls_len]; omega) | assumption | exact Ls_get (by omega) (by omega) | exact up_at _ _ _ | rfl | decide) ?_
            (rw [cyA_s i0 (by omega)]; exact ih _ _ (by omega) (by omega) e2)
          )
  have m0 := e.o
  have m1 : h 302 = cI (Ls 3389 A1) := e.a1
  refine BX13_keep_56 (by first | assumption | exact up_at _ _ _ | (rw [up_ne (by omega)]; first | assumption | exact up_at _ _ _ | (rw [up_ne (by omega)]; assumption))) (by rfl) (by first | assumption | exact up_at _ _ _ | (rw [up_ne (by omega)]; first | assumption | exact up_at _ _ _ | (rw [up_ne (by omega)]; assumption))) (by first | exact Ls_get (by omega) (by omega) | assumption) (by first | omega | (rw [fset_at]; omega) | (simp only [Ls_len]; omega) | assumption | exact Ls_get (by omega) (by omega) | exact up_at _ _ _ | rfl | decide) (by first | omega | (rw [fset_at]; omega) | (simp only [Ls_len]; omega) | assumption | exact Ls_get (by omega) (by omega) | exact up_at _ _ _ | rfl | decide) ?_
  (rw [a3]; exact la 76 0 h (by decide) (by decide) (by rw [cyA_0]; exact e))
theorem R_X13_keep {l1 l2 : Option aV} (s : IsMo g h W V X F B 1 cm) (k : ∀ h1, IsMo g h1 (keepM W) V X F B 1 cm → Q none h1 n) : Rn d bc bs mX13_keep 0 [some (vR (some 301)), l1, l2] [] h n Q := by
  obtain ⟨M, e, t⟩ := id s
  obtain ⟨⟨ta, tb⟩, tv, tx, tt, wr0, cm0, on⟩ := id t
  rw [if_pos rfl] at tb
  have o4 := on.2.2.2.1
  have t3 : M 1 3 = W 3 0 := ta.2.2.2.1.2.2
  have m0 := e.o
  have m1 := e.a1
  have el : stLen (W 3 0) = if 30 ≤ W 3 0 then 30 else W 3 0 + 1 := rfl
  have fin : ∀ (h1 : aH) (A2 : Int → Int), IsM g h1 (fset M 1 A2) → TA A2 (keepM W) ∧ tBk A2 (W 1) → IsMo g h1 (keepM W) V X F B 1 cm := fun h1 A2 e1 z => ⟨fset M 1 A2, e1, ⟨z.1, by rw [if_pos rfl]; exact z.2⟩, tv, tx, tt, wr0, cm0, on.keep⟩
  by_cases q : W 3 0 = 30
  · rw [if_pos (by omega)] at el
    have loop : ∀ (m : Nat) (i : Int) (h1 : aH) (l2 : Option aV), 0 ≤ i → i + m = 3074 → IsM g h1 (fset M 1 (sfA (M 1) i)) → Rn d bc bs mX13_keep 13 [some (vR (some 301)), some (vI i), l2] [] h1 n Q := by
      intro m
      induction m with
      | zero =>
        intro i h1 l2 i0 im e1
        have e9 : i = 3074 := by omega
        subst e9
        have m0 := e1.o
        have m1 : h1 302 = cI (Ls 3389 (sfA (M 1) 3074)) := e1.a1
        have v3 : sfA (M 1) 3074 3 = 30 := by unfold sfA; rw [if_neg (by omega)]; omega
        have e2 := e1.s1 (f := fset (sfA (M 1) 3074) 3 29)
        rw [fset2] at e2
        refine BX13_keep_13  ?_ ?_
        · intro hc1
          first
          | (exfalso; omega)
          | (
              refine BX13_keep_46 (by first | assumption | exact up_at _ _ _ | (rw [up_ne (by omega)]; first | assumption | exact up_at _ _ _ | (rw [up_ne (by omega)]; assumption))) (by rfl) (by first | assumption | exact up_at _ _ _ | (rw [up_ne (by omega)]; first | assumption | exact up_at _ _ _ | (rw [up_ne (by omega)]; assumption))) (by first | exact Ls_get (by omega) (by omega) | assumption) (by first | omega | (rw [fset_at]; omega) | (simp only [Ls_len]; omega) | assumption | exact Ls_get (by omega) (by omega) | exact up_at _ _ _ | rfl | decide) (by first | omega | (rw [fset_at]; omega) | (simp only [Ls_len]; omega) | assumption | exact Ls_get (by omega) (by omega) | exact up_at _ _ _ | rfl | decide) (by first | omega | (rw [fset_at]; omega) | (simp only [Ls_len]; omega) | assumption | exact Ls_get (by omega) (by omega) | exact up_at _ _ _ | rfl | decide) ?_
              try rw [Ls_set (by omega)]
              rw [v3, show (30 : Int) - 1 = 29 from rfl]
              refine keep_tail e2 (by decide) (by decide) (fset_at _ _ _) (fun h2 e3 => k _ (fin _ _ e3 (TA.keep ta tb on (fun i i0 i1 => ?_) ?_ (fun s s0 s1 j j0 j1 => ?_) (fun j j0 j1 => ?_) (fun j j0 j1 => ?_))))
              · rw [fset_ne i0]; unfold cyA; rw [if_neg (by omega), if_neg (by omega), fset_ne i0]; unfold sfA; rw [if_neg (by omega)]
              · rw [fset_at, el]; rfl
              · rw [el] at s1; rw [if_pos (by omega), fset_ne (by omega)]; unfold cyA; rw [if_neg (by omega), if_neg (by omega), fset_ne (by omega)]; unfold sfA; rw [if_pos (by omega)]; congr 1; omega
              · rw [el, fset_ne (by omega)]; unfold cyA; rw [if_neg (by omega), if_pos (by omega), fset_ne (by omega)]; unfold sfA; rw [if_neg (by omega)]; congr 1; omega
              · rw [el, fset_ne (by omega)]; unfold cyA; rw [if_pos (by omega), if_neg (by omega), fset_ne (by omega)]; unfold sfA; rw [if_neg (by omega)]; congr 1; omega
            )
        · intro hc2
          first
          | (exfalso; omega)
          | (
              (exfalso; omega)
            )
      | succ m ih =>
        intro i h1 l2 i0 im e1
        have m0 := e1.o
        have m1 : h1 302 = cI (Ls 3389 (sfA (M 1) i)) := e1.a1
        have e2 := e1.s1 (f := sfA (M 1) (i + 1))
        rw [fset2] at e2
        refine BX13_keep_13  ?_ ?_
        · intro hc1
          first
          | (exfalso; omega)
          | (
              (exfalso; omega)
            )
        · intro hc2
          first
          | (exfalso; omega)
          | (
              refine BX13_keep_20 (by first | assumption | exact up_at _ _ _ | (rw [up_ne (by omega)]; first | assumption | exact up_at _ _ _ | (rw [up_ne (by omega)]; assumption))) (by rfl) (by first | omega | (rw [fset_at]; omega) | (simp only [Ls_len]; omega) | assumption | exact Ls_get (by omega) (by omega) | exact up_at _ _ _ | rfl | decide) (by first | omega | (rw [fset_at]; omega) | (simp only [Ls_len]; omega) | assumption | exact Ls_get (by omega) (by omega) | exact up_at _ _ _ | rfl | decide) (by first | assumption | exact up_at _ _ _ | (rw [up_ne (by omega)]; first | assumption | exact up_at _ _ _ | (rw [up_ne (by omega)]; assumption))) (by first | omega | (rw [fset_at]; omega) | (simp only [Ls_len]; omega) | assumption | exact Ls_get (by omega) (by omega) | exact up_at _ _ _ | rfl | decide) (by first | exact Ls_get (by omega) (by omega) | assumption) (by first | omega | (rw [fset_at]; omega) | (simp only [Ls_len]; omega) | assumption | exact Ls_get (by omega) (by omega) | exact up_at _ _ _ | rfl | decide) (by first | omega | (rw [fset_at]; omega) | (simp only [Ls_len]; omega) | assumption | exact Ls_get (by omega) (by omega) | exact up_at _ _ _ | rfl | decide) (by first | omega | (rw [fset_at]; omega) | (simp only [Ls_len]; omega) | assumption | exact Ls_get (by omega) (by omega) | exact up_at _ _ _ | rfl | decide) ?_
              try rw [Ls_set (by omega)]
              refine BX13_keep_40 (by first | omega | (rw [fset_at]; omega) | (simp only [Ls_len]; omega) | assumption | exact Ls_get (by omega) (by omega) | exact up_at _ _ _ | rfl | decide) ?_
              (rw [sfA_s i0]; exact ih _ _ _ (by omega) (by omega) e2)
            )
    refine BX13_keep_0 (by first | assumption | exact up_at _ _ _ | (rw [up_ne (by omega)]; first | assumption | exact up_at _ _ _ | (rw [up_ne (by omega)]; assumption))) (by rfl) (by first | assumption | exact up_at _ _ _ | (rw [up_ne (by omega)]; first | assumption | exact up_at _ _ _ | (rw [up_ne (by omega)]; assumption))) (by first | exact Ls_get (by omega) (by omega) | assumption) ?_ ?_
    · intro hc1
      (exfalso; omega)
    · intro hc2
      refine BX13_keep_11  ?_
      exact loop 3074 0 h _ (by decide) (by decide) (by rw [sfA_0, fset_id]; exact e)
  · rw [if_neg (by omega)] at el
    have e0 : IsM g h (fset M 1 (M 1)) := by rw [fset_id]; exact e
    have tl : ∀ l1 l2, Rn d bc bs mX13_keep 56 [some (vR (some 301)), l1, l2] [] h n Q := by
      intro l1 l2
      refine keep_tail e0 o4.1 (by omega) t3 (fun h2 e3 => k _ (fin _ _ e3 (TA.keep ta tb on (fun i i0 i1 => ?_) ?_ (fun s s0 s1 j j0 j1 => ?_) (fun j j0 j1 => ?_) (fun j j0 j1 => ?_))))
      · rw [fset_ne i0]; unfold cyA; rw [if_neg (by omega), if_neg (by omega)]
      · rw [fset_at, el]
      · rw [el] at s1; rw [if_neg (by omega), fset_ne (by omega)]; unfold cyA; rw [if_neg (by omega), if_neg (by omega)]
      · rw [el, fset_ne (by omega)]; unfold cyA; rw [if_neg (by omega), if_pos (by omega)]; congr 1; omega
      · rw [el, fset_ne (by omega)]; unfold cyA; rw [if_pos (by omega), if_neg (by omega)]; congr 1; omega
    refine BX13_keep_0 (by first | assumption | exact up_at _ _ _ | (rw [up_ne (by omega)]; first | assumption | exact up_at _ _ _ | (rw [up_ne (by omega)]; assumption))) (by rfl) (by first | assumption | exact up_at _ _ _ | (rw [up_ne (by omega)]; first | assumption | exact up_at _ _ _ | (rw [up_ne (by omega)]; assumption))) (by first | exact Ls_get (by omega) (by omega) | assumption) ?_ ?_
    · intro hc1
      exact tl _ _
    · intro hc2
      refine BX13_keep_11  ?_
      (exfalso; omega)
end KEEP
