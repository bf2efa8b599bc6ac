/-! The reference's making. -/
def a0P (i : Int) : Int → Int := fun j => if j = 8 then 227 else if j = 2 then -1 else if (95 ≤ j ∧ j < 125) ∧ (j - 95) % 10 < i then cu0 (j - 95) else 0
def a0A : Int → Int := fset (fset (a0P 10) 145 5) 146 1
theorem a0P_s {i : Int} (i0 : 0 ≤ i) (i1 : i < 10) : fset (fset (fset (a0P i) (95 + i) ((i + 1) % 10)) (105 + i) ((i + 3) % 10)) (115 + i) i = a0P (i + 1) := by
  funext j
  by_cases q1 : j = 115 + i
  · subst q1; rw [fset_at]; unfold a0P cu0; rw [if_neg (by omega), if_neg (by omega), if_pos (by omega), if_neg (by omega), if_neg (by omega)]; omega
  · rw [fset_ne q1]
    by_cases q2 : j = 105 + i
    · subst q2; rw [fset_at]; unfold a0P cu0; rw [if_neg (by omega), if_neg (by omega), if_pos (by omega), if_neg (by omega), if_pos (by omega)]; omega
    · rw [fset_ne q2]
      by_cases q3 : j = 95 + i
      · subst q3; rw [fset_at]; unfold a0P cu0; rw [if_neg (by omega), if_neg (by omega), if_pos (by omega), if_pos (by omega)]; omega
      · rw [fset_ne q3]; unfold a0P
        by_cases q4 : (95 ≤ j ∧ j < 125) ∧ (j - 95) % 10 < i
        · rw [if_pos q4, if_pos (show (95 ≤ j ∧ j < 125) ∧ (j - 95) % 10 < i + 1 by omega)]
        · rw [if_neg q4, if_neg (show ¬ ((95 ≤ j ∧ j < 125) ∧ (j - 95) % 10 < i + 1) by omega)]
theorem a0A_at {j : Int} : a0A j = if j = 146 then 1 else if j = 145 then 5 else a0P 10 j := by
  unfold a0A
  by_cases q1 : j = 146
  · subst q1; rw [fset_at, if_pos rfl]
  · rw [fset_ne q1, if_neg q1]
    by_cases q2 : j = 145
    · subst q2; rw [fset_at, if_pos rfl]
    · rw [fset_ne q2, if_neg q2]
theorem a0A_cu {j : Int} (j0 : 0 ≤ j) (j1 : j < 30) : a0A (95 + j) = cu0 j := by
  rw [a0A_at, if_neg (by omega), if_neg (by omega)]
  unfold a0P
  rw [if_neg (by omega), if_neg (by omega), if_pos (by omega), show 95 + j - 95 = j by omega]
theorem a0A_z {j : Int} (h : j ≠ 8 ∧ j ≠ 2 ∧ j ≠ 145 ∧ j ≠ 146 ∧ (j < 95 ∨ 125 ≤ j)) : a0A j = 0 := by
  rw [a0A_at, if_neg (by omega), if_neg (by omega)]
  unfold a0P
  rw [if_neg (by omega), if_neg (by omega), if_neg (by omega)]
theorem TA.start : TA a0A w0 ∧ tBk a0A (w0 1) := by
  have e33 : w0 3 3 = 0 := rfl
  have e72 : w0 1 72 = 0 := rfl
  have e52 : w0 2 52 = 0 := rfl
  have e53 : w0 2 53 = 0 := rfl
  have e54 : w0 2 54 = 0 := rfl
  have e30 : w0 3 0 = 0 := rfl
  have e75 : w0 1 75 = 0 := rfl
  refine ⟨⟨⟨a0A_z (by decide), fun p p0 p1 => by omega, fun t p t0 t1 p0 p1 => ?_⟩, ⟨a0A_z (by decide), ?_, a0A_z (by decide), fun b w b0 b1 => by omega⟩, ⟨⟨a0A_z (by decide), a0A_z (by decide), a0A_z (by decide), rfl, rfl⟩, fun i i0 i1 => by omega, fun i i0 i1 => by omega, fun i i0 i1 => ⟨?_, ?_⟩, fun i i0 i1 => by omega⟩, ⟨a0A_z (by decide), rfl, a0A_z (by decide)⟩, fun s s0 s1 => by omega⟩, a0A_z (by decide), fun l l0 l1 => by omega⟩
  · rw [show 95 + 10 * t + p = 95 + (t * 10 + p) by omega, a0A_cu (by omega) (by omega)]; rfl
  · rfl
  · rw [a0A_z (by omega)]
    show (0 : Int) = sa0 (20 + i)
    unfold sa0
    rw [if_neg (by omega), if_neg (by omega)]
  · rw [a0A_z (by omega)]
    show (0 : Int) = sa0 (28 + i)
    unfold sa0
    rw [if_neg (by omega), if_neg (by omega)]
def m0F : Int → Int := fun j => if j = 5 ∨ j = 6 then -1 else if j = 23 then 1 else 0
section INIT13
variable {d bc bs n : Nat} {g h : aH} {Q : aQ} {M : Int → Int → Int}
theorem init13_tail {l1 : Option aV} (e : IsM h h M) (h0 : M 0 = m0F) (h1 : M 1 = fun _ => 0) (h2 : M 2 = fun _ => 0) (k : ∀ h1, Fr h h1 301 16 → (∀ X B, IsMo h1 h1 w0 w0 X f0 B 1 0) → Q none h1 n) : Rn (d + 1) bc bs mX13_init 146 [some (vR (some 301)), l1] [] h n Q := by
  have fin : ∀ (h3 : aH), IsM h h3 (fset (fset M 1 a0A) 2 a0A) → ∀ X B, IsMo h3 h3 w0 w0 X f0 B 1 0 := by
    intro h3 e3 X B
    obtain ⟨f, r⟩ := e3
    refine ⟨fset (fset M 1 a0A) 2 a0A, ⟨Fr.rf _ _ _, r⟩, ⟨TA.start.1, by rw [if_pos rfl]; exact TA.start.2⟩, TA.start, fun t t0 t1 => ?_, ⟨⟨?_, ?_, ?_⟩, fun i i0 i1 => ?_⟩, ⟨?_, fun q => absurd q (by decide)⟩, ?_, ⟨by decide, by decide, by decide, by decide, by decide, by decide, by decide, fun j j0 j1 => ?_⟩⟩
    · have : w0 3 1 = 0 := rfl
      omega
    · show M 0 4 = 0; rw [h0]; rfl
    · show M 0 5 = -1; rw [h0]; rfl
    · show M 0 6 = -1; rw [h0]; rfl
    · have : f0 2 = 0 := rfl
      omega
    · show M 0 23 = 1; rw [h0]; rfl
    · show M 0 24 = 0; rw [h0]; rfl
    · have : w0 3 0 = 0 := rfl
      omega
  have loop : ∀ (m : Nat) (i : Int) (h3 : aH), 0 ≤ i → i + m = 10 → IsM h h3 (fset M 1 (a0P i)) → Rn (d + 1) bc bs mX13_init 165 [some (vR (some 301)), some (vI i)] [] h3 n Q := by
    intro m
    induction m with
    | zero =>
      intro i h3 i0 im e1
      have e9 : i = 10 := by omega
      subst e9
      have m0 := e1.o
      have m1 : h3 302 = cI (Ls 3389 (a0P 10)) := e1.a1
      have m2 : h3 303 = cI (Ls 3389 (fun _ => 0)) := by rw [← h2]; exact e1.a2
      have e2 := e1.s1 (f := a0A)
      rw [fset2] at e2
      refine BX13_init_165  ?_ ?_
      · intro hc1
        first
        | (exfalso; omega)
        | (
            refine BX13_init_217 (by first | assumption | exact up_at _ _ _ | (rw [up_ne (by omega)]; first | assumption | exact up_at _ _ _ | (rw [up_ne (by omega)]; first | assumption | exact up_at _ _ _ | (rw [up_ne (by omega)]; first | assumption | exact up_at _ _ _ | (rw [up_ne (by omega)]; first | assumption | exact up_at _ _ _ | (rw [up_ne (by omega)]; assumption)))))) (by rfl) (by first | assumption | exact up_at _ _ _ | (rw [up_ne (by omega)]; first | assumption | exact up_at _ _ _ | (rw [up_ne (by omega)]; first | assumption | exact up_at _ _ _ | (rw [up_ne (by omega)]; first | assumption | exact up_at _ _ _ | (rw [up_ne (by omega)]; first | assumption | exact up_at _ _ _ | (rw [up_ne (by omega)]; assumption)))))) (by first | omega | (rw [fset_at]; omega) | (simp only [Ls_len]; omega) | assumption | exact Ls_get (by omega) (by omega) | exact up_at _ _ _ | rfl | decide) (by first | omega | (rw [fset_at]; omega) | (simp only [Ls_len]; omega) | assumption | exact Ls_get (by omega) (by omega) | exact up_at _ _ _ | rfl | decide) ?_
            try rw [Ls_set (by omega)]
            refine BX13_init_226 (by first | assumption | exact up_at _ _ _ | (rw [up_ne (by omega)]; first | assumption | exact up_at _ _ _ | (rw [up_ne (by omega)]; first | assumption | exact up_at _ _ _ | (rw [up_ne (by omega)]; first | assumption | exact up_at _ _ _ | (rw [up_ne (by omega)]; first | assumption | exact up_at _ _ _ | (rw [up_ne (by omega)]; assumption)))))) (by rfl) (by first | assumption | exact up_at _ _ _ | (rw [up_ne (by omega)]; first | assumption | exact up_at _ _ _ | (rw [up_ne (by omega)]; first | assumption | exact up_at _ _ _ | (rw [up_ne (by omega)]; first | assumption | exact up_at _ _ _ | (rw [up_ne (by omega)]; first | assumption | exact up_at _ _ _ | (rw [up_ne (by omega)]; assumption)))))) (by first | omega | (rw [fset_at]; omega) | (simp only [Ls_len]; omega) | assumption | exact Ls_get (by omega) (by omega) | exact up_at _ _ _ | rfl | decide) (by first | omega | (rw [fset_at]; omega) | (simp only [Ls_len]; omega) | assumption | exact Ls_get (by omega) (by omega) | exact up_at _ _ _ | rfl | decide) ?_
            try rw [Ls_set (by omega)]
            rw [up_up, show fset (fset (a0P 10) 145 5) 146 1 = a0A from rfl]
            have n0 := e2.o
            have n1 := e2.a1
            have n2 := e2.a2
            refine BX13_init_235 n0 rfl rfl ?_
            refine R_X13_copy n1 n2 (by decide) (by decide) (by decide) ?_
            intro h4 r4 e4
            have q := r4.eq_up e4
            subst q
            refine BX13_init_246 ?_
            have e5 := e2.s2 (f := a0A)
            exact k _ e5.fr (fin _ e5)
          )
      · intro hc2
        first
        | (exfalso; omega)
        | (
            (exfalso; omega)
          )
    | succ m ih =>
      intro i h3 i0 im e1
      have m0 := e1.o
      have m1 : h3 302 = cI (Ls 3389 (a0P i)) := e1.a1
      have e2 := e1.s1 (f := a0P (i + 1))
      rw [fset2] at e2
      refine BX13_init_165  ?_ ?_
      · intro hc1
        first
        | (exfalso; omega)
        | (
            (exfalso; omega)
          )
      · intro hc2
        first
        | (exfalso; omega)
        | (
            refine BX13_init_171 (by first | assumption | exact up_at _ _ _ | (rw [up_ne (by omega)]; first | assumption | exact up_at _ _ _ | (rw [up_ne (by omega)]; first | assumption | exact up_at _ _ _ | (rw [up_ne (by omega)]; first | assumption | exact up_at _ _ _ | (rw [up_ne (by omega)]; first | assumption | exact up_at _ _ _ | (rw [up_ne (by omega)]; assumption)))))) (by rfl) (by first | omega | (rw [fset_at]; omega) | (simp only [Ls_len]; omega) | assumption | exact Ls_get (by omega) (by omega) | exact up_at _ _ _ | rfl | decide) (by first | omega | (rw [fset_at]; omega) | (simp only [Ls_len]; omega) | assumption | exact Ls_get (by omega) (by omega) | exact up_at _ _ _ | rfl | decide) (by first | omega | (rw [fset_at]; omega) | (simp only [Ls_len]; omega) | assumption | exact Ls_get (by omega) (by omega) | exact up_at _ _ _ | rfl | decide) (by first | assumption | exact up_at _ _ _ | (rw [up_ne (by omega)]; first | assumption | exact up_at _ _ _ | (rw [up_ne (by omega)]; first | assumption | exact up_at _ _ _ | (rw [up_ne (by omega)]; first | assumption | exact up_at _ _ _ | (rw [up_ne (by omega)]; first | assumption | exact up_at _ _ _ | (rw [up_ne (by omega)]; assumption)))))) (by first | omega | (rw [fset_at]; omega) | (simp only [Ls_len]; omega) | assumption | exact Ls_get (by omega) (by omega) | exact up_at _ _ _ | rfl | decide) (by first | omega | (rw [fset_at]; omega) | (simp only [Ls_len]; omega) | assumption | exact Ls_get (by omega) (by omega) | exact up_at _ _ _ | rfl | decide) (by first | omega | (rw [fset_at]; omega) | (simp only [Ls_len]; omega) | assumption | exact Ls_get (by omega) (by omega) | exact up_at _ _ _ | rfl | decide) ?_
            try rw [Ls_set (by omega)]
            refine BX13_init_186 (by first | assumption | exact up_at _ _ _ | (rw [up_ne (by omega)]; first | assumption | exact up_at _ _ _ | (rw [up_ne (by omega)]; first | assumption | exact up_at _ _ _ | (rw [up_ne (by omega)]; first | assumption | exact up_at _ _ _ | (rw [up_ne (by omega)]; first | assumption | exact up_at _ _ _ | (rw [up_ne (by omega)]; assumption)))))) (by rfl) (by first | omega | (rw [fset_at]; omega) | (simp only [Ls_len]; omega) | assumption | exact Ls_get (by omega) (by omega) | exact up_at _ _ _ | rfl | decide) (by first | omega | (rw [fset_at]; omega) | (simp only [Ls_len]; omega) | assumption | exact Ls_get (by omega) (by omega) | exact up_at _ _ _ | rfl | decide) (by first | omega | (rw [fset_at]; omega) | (simp only [Ls_len]; omega) | assumption | exact Ls_get (by omega) (by omega) | exact up_at _ _ _ | rfl | decide) (by first | assumption | exact up_at _ _ _ | (rw [up_ne (by omega)]; first | assumption | exact up_at _ _ _ | (rw [up_ne (by omega)]; first | assumption | exact up_at _ _ _ | (rw [up_ne (by omega)]; first | assumption | exact up_at _ _ _ | (rw [up_ne (by omega)]; first | assumption | exact up_at _ _ _ | (rw [up_ne (by omega)]; assumption)))))) (by first | omega | (rw [fset_at]; omega) | (simp only [Ls_len]; omega) | assumption | exact Ls_get (by omega) (by omega) | exact up_at _ _ _ | rfl | decide) (by first | omega | (rw [fset_at]; omega) | (simp only [Ls_len]; omega) | assumption | exact Ls_get (by omega) (by omega) | exact up_at _ _ _ | rfl | decide) (by first | omega | (rw [fset_at]; omega) | (simp only [Ls_len]; omega) | assumption | exact Ls_get (by omega) (by omega) | exact up_at _ _ _ | rfl | decide) ?_
            try rw [Ls_set (by omega)]
            refine BX13_init_201 (by first | assumption | exact up_at _ _ _ | (rw [up_ne (by omega)]; first | assumption | exact up_at _ _ _ | (rw [up_ne (by omega)]; first | assumption | exact up_at _ _ _ | (rw [up_ne (by omega)]; first | assumption | exact up_at _ _ _ | (rw [up_ne (by omega)]; first | assumption | exact up_at _ _ _ | (rw [up_ne (by omega)]; assumption)))))) (by rfl) (by first | omega | (rw [fset_at]; omega) | (simp only [Ls_len]; omega) | assumption | exact Ls_get (by omega) (by omega) | exact up_at _ _ _ | rfl | decide) (by first | assumption | exact up_at _ _ _ | (rw [up_ne (by omega)]; first | assumption | exact up_at _ _ _ | (rw [up_ne (by omega)]; first | assumption | exact up_at _ _ _ | (rw [up_ne (by omega)]; first | assumption | exact up_at _ _ _ | (rw [up_ne (by omega)]; first | assumption | exact up_at _ _ _ | (rw [up_ne (by omega)]; assumption)))))) (by first | omega | (rw [fset_at]; omega) | (simp only [Ls_len]; omega) | assumption | exact Ls_get (by omega) (by omega) | exact up_at _ _ _ | rfl | decide) (by first | omega | (rw [fset_at]; omega) | (simp only [Ls_len]; omega) | assumption | exact Ls_get (by omega) (by omega) | exact up_at _ _ _ | rfl | decide) (by first | omega | (rw [fset_at]; omega) | (simp only [Ls_len]; omega) | assumption | exact Ls_get (by omega) (by omega) | exact up_at _ _ _ | rfl | decide) ?_
            try rw [Ls_set (by omega)]
            refine BX13_init_211 (by first | omega | (rw [fset_at]; omega) | (simp only [Ls_len]; omega) | assumption | exact Ls_get (by omega) (by omega) | exact up_at _ _ _ | rfl | decide) ?_
            (rw [up_up, up_up, a0P_s i0 (by omega)]; exact ih _ _ (by omega) (by omega) e2)
          )
  have m0 := e.o
  have m1 : h 302 = cI (Ls 3389 (fun _ => 0)) := by rw [← h1]; exact e.a1
  have ea : fset (fset (fun _ => (0 : Int)) 8 227) 2 (-1) = a0P 0 := by
    funext j
    unfold a0P
    by_cases q : j = 2
    · subst q; rw [fset_at]; rfl
    · rw [fset_ne q]
      by_cases q2 : j = 8
      · subst q2; rw [fset_at]; rfl
      · rw [fset_ne q2, if_neg q2, if_neg q, if_neg (by omega)]
  refine BX13_init_146 (by first | assumption | exact up_at _ _ _ | (rw [up_ne (by omega)]; first | assumption | exact up_at _ _ _ | (rw [up_ne (by omega)]; first | assumption | exact up_at _ _ _ | (rw [up_ne (by omega)]; first | assumption | exact up_at _ _ _ | (rw [up_ne (by omega)]; first | assumption | exact up_at _ _ _ | (rw [up_ne (by omega)]; assumption)))))) (by rfl) (by first | assumption | exact up_at _ _ _ | (rw [up_ne (by omega)]; first | assumption | exact up_at _ _ _ | (rw [up_ne (by omega)]; first | assumption | exact up_at _ _ _ | (rw [up_ne (by omega)]; first | assumption | exact up_at _ _ _ | (rw [up_ne (by omega)]; first | assumption | exact up_at _ _ _ | (rw [up_ne (by omega)]; assumption)))))) (by first | omega | (rw [fset_at]; omega) | (simp only [Ls_len]; omega) | assumption | exact Ls_get (by omega) (by omega) | exact up_at _ _ _ | rfl | decide) (by first | omega | (rw [fset_at]; omega) | (simp only [Ls_len]; omega) | assumption | exact Ls_get (by omega) (by omega) | exact up_at _ _ _ | rfl | decide) ?_
  try rw [Ls_set (by omega)]
  refine BX13_init_156 (by first | assumption | exact up_at _ _ _ | (rw [up_ne (by omega)]; first | assumption | exact up_at _ _ _ | (rw [up_ne (by omega)]; first | assumption | exact up_at _ _ _ | (rw [up_ne (by omega)]; first | assumption | exact up_at _ _ _ | (rw [up_ne (by omega)]; first | assumption | exact up_at _ _ _ | (rw [up_ne (by omega)]; assumption)))))) (by rfl) (by first | assumption | exact up_at _ _ _ | (rw [up_ne (by omega)]; first | assumption | exact up_at _ _ _ | (rw [up_ne (by omega)]; first | assumption | exact up_at _ _ _ | (rw [up_ne (by omega)]; first | assumption | exact up_at _ _ _ | (rw [up_ne (by omega)]; first | assumption | exact up_at _ _ _ | (rw [up_ne (by omega)]; assumption)))))) (by first | omega | (rw [fset_at]; omega) | (simp only [Ls_len]; omega) | assumption | exact Ls_get (by omega) (by omega) | exact up_at _ _ _ | rfl | decide) (by first | omega | (rw [fset_at]; omega) | (simp only [Ls_len]; omega) | assumption | exact Ls_get (by omega) (by omega) | exact up_at _ _ _ | rfl | decide) ?_
  try rw [Ls_set (by omega)]
  refine BX13_init_163  ?_
  rw [up_up, ea]
  exact loop 10 0 _ (by decide) (by decide) e.s1
theorem R_X13_init (hh : h 301 = cO 13 [vR none, vR none, vR none, vR none, vI 0, vI 0, vI 0, vI 0, vI 0, vI 0, vI 0, vL 0, vI 0, vI 0, vI 0, vR none, vI 0, vI 0, vI 0, vI 0, vR none, vR none, vR none, vI 0, vI 0, vR none, vR none, vR none, vI 0, vI 0, vR none, vR none, vR none, vR none]) (k : ∀ h1, Fr h h1 301 16 → (∀ X B, IsMo h1 h1 w0 w0 X f0 B 1 0) → Q none h1 317) : Rn (d + 1) 15 12091 mX13_init 0 [some (vR (some 301)), none] [] h 302 Q := by
  refine BX13_init_0  ?_
  refine BX13_init_10 (by first | assumption | exact up_at _ _ _ | (rw [up_ne (by omega)]; first | assumption | exact up_at _ _ _ | (rw [up_ne (by omega)]; first | assumption | exact up_at _ _ _ | (rw [up_ne (by omega)]; first | assumption | exact up_at _ _ _ | (rw [up_ne (by omega)]; first | assumption | exact up_at _ _ _ | (rw [up_ne (by omega)]; assumption)))))) (by simp) ?_
  refine BX13_init_13  ?_
  refine BX13_init_19 (by first | assumption | exact up_at _ _ _ | (rw [up_ne (by omega)]; first | assumption | exact up_at _ _ _ | (rw [up_ne (by omega)]; first | assumption | exact up_at _ _ _ | (rw [up_ne (by omega)]; first | assumption | exact up_at _ _ _ | (rw [up_ne (by omega)]; first | assumption | exact up_at _ _ _ | (rw [up_ne (by omega)]; assumption)))))) (by simp) ?_
  refine BX13_init_22  ?_
  refine BX13_init_28 (by first | assumption | exact up_at _ _ _ | (rw [up_ne (by omega)]; first | assumption | exact up_at _ _ _ | (rw [up_ne (by omega)]; first | assumption | exact up_at _ _ _ | (rw [up_ne (by omega)]; first | assumption | exact up_at _ _ _ | (rw [up_ne (by omega)]; first | assumption | exact up_at _ _ _ | (rw [up_ne (by omega)]; assumption)))))) (by simp) ?_
  refine BX13_init_31  ?_
  refine BX13_init_37 (by first | assumption | exact up_at _ _ _ | (rw [up_ne (by omega)]; first | assumption | exact up_at _ _ _ | (rw [up_ne (by omega)]; first | assumption | exact up_at _ _ _ | (rw [up_ne (by omega)]; first | assumption | exact up_at _ _ _ | (rw [up_ne (by omega)]; first | assumption | exact up_at _ _ _ | (rw [up_ne (by omega)]; assumption)))))) (by simp) ?_
  refine BX13_init_40 (by first | assumption | exact up_at _ _ _ | (rw [up_ne (by omega)]; first | assumption | exact up_at _ _ _ | (rw [up_ne (by omega)]; first | assumption | exact up_at _ _ _ | (rw [up_ne (by omega)]; first | assumption | exact up_at _ _ _ | (rw [up_ne (by omega)]; first | assumption | exact up_at _ _ _ | (rw [up_ne (by omega)]; assumption)))))) (by simp) ?_
  refine BX13_init_45 (by first | assumption | exact up_at _ _ _ | (rw [up_ne (by omega)]; first | assumption | exact up_at _ _ _ | (rw [up_ne (by omega)]; first | assumption | exact up_at _ _ _ | (rw [up_ne (by omega)]; first | assumption | exact up_at _ _ _ | (rw [up_ne (by omega)]; first | assumption | exact up_at _ _ _ | (rw [up_ne (by omega)]; assumption)))))) (by simp) ?_
  refine BX13_init_50  ?_
  refine BX13_init_56 (by first | assumption | exact up_at _ _ _ | (rw [up_ne (by omega)]; first | assumption | exact up_at _ _ _ | (rw [up_ne (by omega)]; first | assumption | exact up_at _ _ _ | (rw [up_ne (by omega)]; first | assumption | exact up_at _ _ _ | (rw [up_ne (by omega)]; first | assumption | exact up_at _ _ _ | (rw [up_ne (by omega)]; assumption)))))) (by simp) ?_
  refine BX13_init_59  ?_
  refine BX13_init_64 (by first | assumption | exact up_at _ _ _ | (rw [up_ne (by omega)]; first | assumption | exact up_at _ _ _ | (rw [up_ne (by omega)]; first | assumption | exact up_at _ _ _ | (rw [up_ne (by omega)]; first | assumption | exact up_at _ _ _ | (rw [up_ne (by omega)]; first | assumption | exact up_at _ _ _ | (rw [up_ne (by omega)]; assumption)))))) (by simp) ?_
  refine BX13_init_67  ?_
  refine BX13_init_73 (by first | assumption | exact up_at _ _ _ | (rw [up_ne (by omega)]; first | assumption | exact up_at _ _ _ | (rw [up_ne (by omega)]; first | assumption | exact up_at _ _ _ | (rw [up_ne (by omega)]; first | assumption | exact up_at _ _ _ | (rw [up_ne (by omega)]; first | assumption | exact up_at _ _ _ | (rw [up_ne (by omega)]; assumption)))))) (by simp) ?_
  refine BX13_init_76  ?_
  refine BX13_init_82 (by first | assumption | exact up_at _ _ _ | (rw [up_ne (by omega)]; first | assumption | exact up_at _ _ _ | (rw [up_ne (by omega)]; first | assumption | exact up_at _ _ _ | (rw [up_ne (by omega)]; first | assumption | exact up_at _ _ _ | (rw [up_ne (by omega)]; first | assumption | exact up_at _ _ _ | (rw [up_ne (by omega)]; assumption)))))) (by simp) ?_
  refine BX13_init_85 (by first | assumption | exact up_at _ _ _ | (rw [up_ne (by omega)]; first | assumption | exact up_at _ _ _ | (rw [up_ne (by omega)]; first | assumption | exact up_at _ _ _ | (rw [up_ne (by omega)]; first | assumption | exact up_at _ _ _ | (rw [up_ne (by omega)]; first | assumption | exact up_at _ _ _ | (rw [up_ne (by omega)]; assumption)))))) (by simp) ?_
  refine BX13_init_90  ?_
  refine BX13_init_95 (by first | assumption | exact up_at _ _ _ | (rw [up_ne (by omega)]; first | assumption | exact up_at _ _ _ | (rw [up_ne (by omega)]; first | assumption | exact up_at _ _ _ | (rw [up_ne (by omega)]; first | assumption | exact up_at _ _ _ | (rw [up_ne (by omega)]; first | assumption | exact up_at _ _ _ | (rw [up_ne (by omega)]; assumption)))))) (by simp) ?_
  refine BX13_init_98  ?_
  refine BX13_init_102 (by first | assumption | exact up_at _ _ _ | (rw [up_ne (by omega)]; first | assumption | exact up_at _ _ _ | (rw [up_ne (by omega)]; first | assumption | exact up_at _ _ _ | (rw [up_ne (by omega)]; first | assumption | exact up_at _ _ _ | (rw [up_ne (by omega)]; first | assumption | exact up_at _ _ _ | (rw [up_ne (by omega)]; assumption)))))) (by simp) ?_
  refine BX13_init_105  ?_
  refine BX13_init_109 (by first | assumption | exact up_at _ _ _ | (rw [up_ne (by omega)]; first | assumption | exact up_at _ _ _ | (rw [up_ne (by omega)]; first | assumption | exact up_at _ _ _ | (rw [up_ne (by omega)]; first | assumption | exact up_at _ _ _ | (rw [up_ne (by omega)]; first | assumption | exact up_at _ _ _ | (rw [up_ne (by omega)]; assumption)))))) (by simp) ?_
  refine BX13_init_112  ?_
  refine BX13_init_118 (by first | assumption | exact up_at _ _ _ | (rw [up_ne (by omega)]; first | assumption | exact up_at _ _ _ | (rw [up_ne (by omega)]; first | assumption | exact up_at _ _ _ | (rw [up_ne (by omega)]; first | assumption | exact up_at _ _ _ | (rw [up_ne (by omega)]; first | assumption | exact up_at _ _ _ | (rw [up_ne (by omega)]; assumption)))))) (by simp) ?_
  refine BX13_init_121  ?_
  refine BX13_init_126 (by first | assumption | exact up_at _ _ _ | (rw [up_ne (by omega)]; first | assumption | exact up_at _ _ _ | (rw [up_ne (by omega)]; first | assumption | exact up_at _ _ _ | (rw [up_ne (by omega)]; first | assumption | exact up_at _ _ _ | (rw [up_ne (by omega)]; first | assumption | exact up_at _ _ _ | (rw [up_ne (by omega)]; assumption)))))) (by simp) ?_
  refine BX13_init_129  ?_
  refine BX13_init_134 (by first | assumption | exact up_at _ _ _ | (rw [up_ne (by omega)]; first | assumption | exact up_at _ _ _ | (rw [up_ne (by omega)]; first | assumption | exact up_at _ _ _ | (rw [up_ne (by omega)]; first | assumption | exact up_at _ _ _ | (rw [up_ne (by omega)]; first | assumption | exact up_at _ _ _ | (rw [up_ne (by omega)]; assumption)))))) (by simp) ?_
  refine BX13_init_137  ?_
  refine BX13_init_143 (by first | assumption | exact up_at _ _ _ | (rw [up_ne (by omega)]; first | assumption | exact up_at _ _ _ | (rw [up_ne (by omega)]; first | assumption | exact up_at _ _ _ | (rw [up_ne (by omega)]; first | assumption | exact up_at _ _ _ | (rw [up_ne (by omega)]; first | assumption | exact up_at _ _ _ | (rw [up_ne (by omega)]; assumption)))))) (by simp) ?_
  have f : ∀ h3 : aH, Q = Q → True := fun _ _ => trivial
  refine init13_tail (M := fun i => if i = 0 then m0F else fun _ => 0) ⟨Fr.rf _ _ _, ?_⟩ rfl rfl rfl (fun h3 r3 p3 => k h3 (Fr.tr ?_ r3) p3)
  · refine ⟨?_, ?_, ?_, ?_, ?_, ?_, ?_, ?_, ?_, ?_, ?_, ?_, ?_, ?_, ?_, ?_⟩
    all_goals (simp (disch := omega) only [up_at, up_ne, Ls_rep] <;> rfl)
  · exact (by repeat' (first | exact Fr.rf _ _ _ | assumption | refine Fr.put ?_ (by omega) (by omega)))
end INIT13
