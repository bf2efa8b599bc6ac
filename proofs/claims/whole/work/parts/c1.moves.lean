/-! The reference: undo, toss, fish, again. -/
theorem wSt_hi {W : Int → Int → Int} {c : Int} {U : Int → Int → Int} {j : Int} (j0 : 0 ≤ j) : wSt W c U (10 + j) = U j := by
  show (if 10 + j = 3 then _ else if 10 ≤ 10 + j then _ else _) = _
  rw [if_neg (by omega), if_pos (by omega), show 10 + j - 10 = j by omega]
theorem TA.undo {A A2 : Int → Int} {W : Int → Int → Int} (a : TA A W) (o : okN W) (h0 : 0 < W 3 0) (e : ∀ i, i ≠ 3 → (i < 7 ∨ (83 ≤ i ∧ i < 3359)) → A2 i = A i) (e3 : A2 3 = W 3 0 - 1) (ec : ∀ j, 0 ≤ j → j < 76 → A2 (7 + j) = A (179 + 106 * (W 3 0 - 1) + j)) (ec2 : ∀ l, 0 ≤ l → l < 30 → A2 (3359 + l) = A (179 + 106 * (W 3 0 - 1) + (76 + l))) : TA A2 (fset (wSt W (W 3 0 - 1) (fun j => W (10 + j))) 1 (W (10 + (W 3 0 - 1)))) ∧ tBk A2 (W (10 + (W 3 0 - 1))) := by
  obtain ⟨⟨s1, s2, s3⟩, te, ⟨⟨a1, a2, a3, a4, a5⟩, t6, t7, t8, t9⟩, ⟨u1, u2, u3⟩, tp⟩ := a
  obtain ⟨o1, o2, o3, o4, o5, o6, o7, o8⟩ := o
  have o9 := o8 (W 3 0 - 1) (by omega) (by omega)
  have tq := (tp (W 3 0 - 1) (by omega) (by omega)).back (A2 := A2) (by omega) ec ec2
  refine ⟨⟨⟨?_, fun q q0 q1 => ?_, fun t q t0 t1 q0 q1 => ?_⟩, tq.1, ⟨⟨?_, ?_, ?_, ?_, ?_⟩, fun j j0 j1 => ?_, fun j j0 j1 => ?_, fun j j0 j1 => ?_, fun j j0 j1 => ?_⟩, ⟨?_, ?_, ?_⟩, fun s s0 s1 => ?_⟩, tq.2⟩
  · rw [e _ (by omega) (by omega)]; exact s1
  · have q1 : q < W 3 3 := q1
    rw [e _ (by omega) (by omega), e _ (by omega) (by omega)]; exact s2 q q0 q1
  · rw [e _ (by omega) (by omega)]; exact s3 t q t0 t1 q0 q1
  · rw [e _ (by omega) (by omega)]; exact a1
  · rw [e _ (by omega) (by omega)]; exact a2
  · rw [e _ (by omega) (by omega)]; exact a3
  · rw [e _ (by omega) (by omega)]; exact a4
  · rw [e _ (by omega) (by omega)]; exact a5
  · have j1 : j < W 2 52 := j1
    rw [e _ (by omega) (by omega), e _ (by omega) (by omega)]; exact t6 j j0 j1
  · have j1 : j < W 2 53 := j1
    rw [e _ (by omega) (by omega)]; exact t7 j j0 j1
  · rw [e _ (by omega) (by omega), e _ (by omega) (by omega)]; exact t8 j j0 j1
  · have j1 : j < W 2 54 := j1
    rw [e _ (by omega) (by omega), e _ (by omega) (by omega)]; exact t9 j j0 j1
  · rw [e _ (by omega) (by omega)]; exact u1
  · rw [e _ (by omega) (by omega)]; exact u2
  · exact e3
  · have hs : s < W 3 0 - 1 := s1
    rw [fset_ne (by omega), wSt_hi s0]
    have o9 := o8 s s0 (by omega)
    exact (tp s s0 (by omega)).of (by omega) (fun j j0 j1 => e _ (by omega) (by omega))
section MOVES
variable {d bc bs n : Nat} {g h : aH} {Q : aQ} {W V : Int → Int → Int} {X : Int → Tx} {F B : Int → Int} {wr cm : Int} {M : Int → Int → Int}
theorem M_undo (s : IsMo g h W V X F B 1 cm) (ok : okW W) (k : ∀ h1, IsMo g h1 (sUndo W) V X F B 1 cm → Q (some (vI (aUndo W))) h1 n) : Rn (d + 30) bc bs mX13_undo 0 [some (vR (some 301)), none, none] [] h n Q := by
  obtain ⟨M, e, t⟩ := id s
  obtain ⟨⟨ta, tb⟩, tv, tx, tt, wr0, cm0, on⟩ := id t
  have o4 := on.2.2.2.1
  have t3 : M 1 3 = W 3 0 := ta.2.2.2.1.2.2
  have m0 := e.o
  have m1 := e.a1
  unfold aUndo sUndo at k
  by_cases q : W 3 0 = 0
  · rw [if_pos q, if_pos q] at k
    refine BX13_undo_0 (by first | assumption | exact up_at _ _ _ | (rw [up_ne (by omega)]; first | assumption | exact up_at _ _ _ | (rw [up_ne (by omega)]; assumption))) (by rfl) (by first | assumption | exact up_at _ _ _ | (rw [up_ne (by omega)]; first | assumption | exact up_at _ _ _ | (rw [up_ne (by omega)]; assumption))) (by first | exact Ls_get (by omega) (by omega) | assumption) ?_ ?_
    · intro hc1
      first
      | (exfalso; omega)
      | (
          (exfalso; omega)
        )
    · intro hc2
      first
      | (exfalso; omega)
      | (
          refine BX13_undo_9  ?_
          exact k _ s
        )
  · rw [if_neg q, if_neg q] at k
    have ok4 := ok.2.2.2.1 (W 3 0 - 1) (by omega) (by omega)
    have q4 := ok4.1
    obtain ⟨L, hL⟩ : ∃ L, L = W 3 0 - 1 := ⟨_, rfl⟩
    obtain ⟨A1, hA⟩ : ∃ A1, A1 = fset (M 1) 3 L := ⟨_, rfl⟩
    have a3 : A1 3 = L := by rw [hA]; exact fset_at _ _ _
    have hi : ∀ i, i ≠ 3 → A1 i = M 1 i := fun i hi => by rw [hA]; exact fset_ne hi
    have lb : ∀ (m : Nat) (i : Int) (h1 : aH), 0 ≤ i → i + m = 30 → IsM g h1 (fset M 1 (cyA (cyA A1 7 (179 + 106 * L) 76) 3359 (179 + 106 * L + 76) i)) → Rn (d + 30) bc bs mX13_undo 68 [some (vR (some 301)), some (vI (179 + 106 * L)), some (vI i)] [] h1 n Q := by
      intro m
      induction m with
      | zero =>
        intro i h1 i0 im e1
        have e9 : i = 30 := by omega
        subst e9
        have m0 := e1.o
        have m1 : h1 302 = cI (Ls 3389 (cyA (cyA A1 7 (179 + 106 * L) 76) 3359 (179 + 106 * L + 76) 30)) := e1.a1
        have v3 : cyA (cyA A1 7 (179 + 106 * L) 76) 3359 (179 + 106 * L + 76) 30 3 = W 3 0 - 1 := by
          unfold cyA
          rw [if_neg (by omega), if_neg (by omega)]
          omega
        have z := TA.undo (A2 := cyA (cyA A1 7 (179 + 106 * L) 76) 3359 (179 + 106 * L + 76) 30) ta on (by omega) (fun i i0 i1 => by
          unfold cyA; rw [if_neg (by omega), if_neg (by omega)]; exact hi i i0) v3 (fun j j0 j1 => by
          unfold cyA; rw [if_neg (by omega), if_pos (by omega), hi _ (by omega)]; congr 1; omega) (fun l l0 l1 => by
          unfold cyA; rw [if_pos (by omega), if_neg (by omega), hi _ (by omega)]; congr 1; omega)
        have on2 : okN (fset (wSt W (W 3 0 - 1) (fun j => W (10 + j))) 1 (W (10 + (W 3 0 - 1)))) := by
          obtain ⟨o1, o2, o3, o4, o5, o6, o7, o8⟩ := on
          have o9 := o8 (W 3 0 - 1) (by omega) (by omega)
          refine ⟨o1, o9.1, o9.2, ⟨by show 0 ≤ W 3 0 - 1; omega, by show W 3 0 - 1 ≤ 30; omega⟩, o5, ?_, o7, fun j j0 j1 => ?_⟩
          · show 0 ≤ W (10 + (W 3 0 - 1)) 73 ∧ W (10 + (W 3 0 - 1)) 73 ≤ 9999
            omega
          · have j1 : j < W 3 0 - 1 := j1
            rw [fset_ne (by omega), wSt_hi j0]
            exact o8 j j0 (by omega)
        refine BX13_undo_68  ?_ ?_
        · intro hc1
          first
          | (exfalso; omega)
          | (
              refine BX13_undo_101 (by first | assumption | exact up_at _ _ _ | (rw [up_ne (by omega)]; first | assumption | exact up_at _ _ _ | (rw [up_ne (by omega)]; assumption))) (by rfl) (by first | assumption | exact up_at _ _ _ | (rw [up_ne (by omega)]; first | assumption | exact up_at _ _ _ | (rw [up_ne (by omega)]; assumption))) (by first | exact Ls_get (by omega) (by omega) | assumption) ?_
              (rw [v3]; exact k _ ⟨_, e1, ⟨z.1, by rw [if_pos rfl]; exact z.2⟩, tv, tx, tt, wr0, cm0, on2⟩)
            )
        · intro hc2
          first
          | (exfalso; omega)
          | (
              (exfalso; omega)
            )
      | succ m ih =>
        intro i h1 i0 im e1
        have m0 := e1.o
        have m1 : h1 302 = cI (Ls 3389 (cyA (cyA A1 7 (179 + 106 * L) 76) 3359 (179 + 106 * L + 76) i)) := e1.a1
        have e2 := e1.s1 (f := cyA (cyA A1 7 (179 + 106 * L) 76) 3359 (179 + 106 * L + 76) (i + 1))
        rw [fset2] at e2
        refine BX13_undo_68  ?_ ?_
        · intro hc1
          first
          | (exfalso; omega)
          | (
              (exfalso; omega)
            )
        · intro hc2
          first
          | (exfalso; omega)
          | (
              refine BX13_undo_74 (by first | assumption | exact up_at _ _ _ | (rw [up_ne (by omega)]; first | assumption | exact up_at _ _ _ | (rw [up_ne (by omega)]; assumption))) (by rfl) (by first | omega | (rw [fset_at]; omega) | (simp only [Ls_len]; omega) | assumption | exact Ls_get (by omega) (by omega) | exact up_at _ _ _ | rfl | decide) (by first | omega | (rw [fset_at]; omega) | (simp only [Ls_len]; omega) | assumption | exact Ls_get (by omega) (by omega) | exact up_at _ _ _ | rfl | decide) (by first | omega | (rw [fset_at]; omega) | (simp only [Ls_len]; omega) | assumption | exact Ls_get (by omega) (by omega) | exact up_at _ _ _ | rfl | decide) (by first | assumption | exact up_at _ _ _ | (rw [up_ne (by omega)]; first | assumption | exact up_at _ _ _ | (rw [up_ne (by omega)]; assumption))) (by first | omega | (rw [fset_at]; omega) | (simp only [Ls_len]; omega) | assumption | exact Ls_get (by omega) (by omega) | exact up_at _ _ _ | rfl | decide) (by first | exact Ls_get (by omega) (by omega) | assumption) (by first | omega | (rw [fset_at]; omega) | (simp only [Ls_len]; omega) | assumption | exact Ls_get (by omega) (by omega) | exact up_at _ _ _ | rfl | decide) (by first | omega | (rw [fset_at]; omega) | (simp only [Ls_len]; omega) | assumption | exact Ls_get (by omega) (by omega) | exact up_at _ _ _ | rfl | decide) (by first | omega | (rw [fset_at]; omega) | (simp only [Ls_len]; omega) | assumption | exact Ls_get (by omega) (by omega) | exact up_at _ _ _ | rfl | decide) ?_
              try rw [Ls_set (by omega)]
              refine BX13_undo_95 (by first | omega | (rw [fset_at]; omega) | (simp only [Ls_len]; omega) | assumption | exact Ls_get (by omega) (by omega) | exact up_at _ _ _ | rfl | decide) ?_
              (rw [cyA_s i0 (by omega)]; exact ih _ _ (by omega) (by omega) e2)
            )
    have la : ∀ (m : Nat) (i : Int) (h1 : aH), 0 ≤ i → i + m = 76 → IsM g h1 (fset M 1 (cyA A1 7 (179 + 106 * L) i)) → Rn (d + 30) bc bs mX13_undo 37 [some (vR (some 301)), some (vI (179 + 106 * L)), some (vI i)] [] h1 n Q := by
      intro m
      induction m with
      | zero =>
        intro i h1 i0 im e1
        have e9 : i = 76 := by omega
        subst e9
        have m0 := e1.o
        refine BX13_undo_37  ?_ ?_
        · intro hc1
          first
          | (exfalso; omega)
          | (
              refine BX13_undo_66  ?_
              exact lb 30 0 h1 (by decide) (by decide) (by rw [cyA_0]; exact e1)
            )
        · intro hc2
          first
          | (exfalso; omega)
          | (
              (exfalso; omega)
            )
      | succ m ih =>
        intro i h1 i0 im e1
        have m0 := e1.o
        have m1 : h1 302 = cI (Ls 3389 (cyA A1 7 (179 + 106 * L) i)) := e1.a1
        have e2 := e1.s1 (f := cyA A1 7 (179 + 106 * L) (i + 1))
        rw [fset2] at e2
        refine BX13_undo_37  ?_ ?_
        · intro hc1
          first
          | (exfalso; omega)
          | (
              (exfalso; omega)
            )
        · intro hc2
          first
          | (exfalso; omega)
          | (
              refine BX13_undo_43 (by first | assumption | exact up_at _ _ _ | (rw [up_ne (by omega)]; first | assumption | exact up_at _ _ _ | (rw [up_ne (by omega)]; assumption))) (by rfl) (by first | omega | (rw [fset_at]; omega) | (simp only [Ls_len]; omega) | assumption | exact Ls_get (by omega) (by omega) | exact up_at _ _ _ | rfl | decide) (by first | omega | (rw [fset_at]; omega) | (simp only [Ls_len]; omega) | assumption | exact Ls_get (by omega) (by omega) | exact up_at _ _ _ | rfl | decide) (by first | assumption | exact up_at _ _ _ | (rw [up_ne (by omega)]; first | assumption | exact up_at _ _ _ | (rw [up_ne (by omega)]; assumption))) (by first | omega | (rw [fset_at]; omega) | (simp only [Ls_len]; omega) | assumption | exact Ls_get (by omega) (by omega) | exact up_at _ _ _ | rfl | decide) (by first | exact Ls_get (by omega) (by omega) | assumption) (by first | omega | (rw [fset_at]; omega) | (simp only [Ls_len]; omega) | assumption | exact Ls_get (by omega) (by omega) | exact up_at _ _ _ | rfl | decide) (by first | omega | (rw [fset_at]; omega) | (simp only [Ls_len]; omega) | assumption | exact Ls_get (by omega) (by omega) | exact up_at _ _ _ | rfl | decide) (by first | omega | (rw [fset_at]; omega) | (simp only [Ls_len]; omega) | assumption | exact Ls_get (by omega) (by omega) | exact up_at _ _ _ | rfl | decide) ?_
              try rw [Ls_set (by omega)]
              refine BX13_undo_60 (by first | omega | (rw [fset_at]; omega) | (simp only [Ls_len]; omega) | assumption | exact Ls_get (by omega) (by omega) | exact up_at _ _ _ | rfl | decide) ?_
              (rw [cyA_s i0 (by omega)]; exact ih _ _ (by omega) (by omega) e2)
            )
    have e2 := e.s1 (f := A1)
    refine BX13_undo_0 (by first | assumption | exact up_at _ _ _ | (rw [up_ne (by omega)]; first | assumption | exact up_at _ _ _ | (rw [up_ne (by omega)]; assumption))) (by rfl) (by first | assumption | exact up_at _ _ _ | (rw [up_ne (by omega)]; first | assumption | exact up_at _ _ _ | (rw [up_ne (by omega)]; assumption))) (by first | exact Ls_get (by omega) (by omega) | assumption) ?_ ?_
    · intro hc1
      refine BX13_undo_11 (by first | assumption | exact up_at _ _ _ | (rw [up_ne (by omega)]; first | assumption | exact up_at _ _ _ | (rw [up_ne (by omega)]; assumption))) (by rfl) (by first | assumption | exact up_at _ _ _ | (rw [up_ne (by omega)]; first | assumption | exact up_at _ _ _ | (rw [up_ne (by omega)]; assumption))) (by first | exact Ls_get (by omega) (by omega) | assumption) (by first | omega | (rw [fset_at]; omega) | (simp only [Ls_len]; omega) | assumption | exact Ls_get (by omega) (by omega) | exact up_at _ _ _ | rfl | decide) (by first | omega | (rw [fset_at]; omega) | (simp only [Ls_len]; omega) | assumption | exact Ls_get (by omega) (by omega) | exact up_at _ _ _ | rfl | decide) (by first | omega | (rw [fset_at]; omega) | (simp only [Ls_len]; omega) | assumption | exact Ls_get (by omega) (by omega) | exact up_at _ _ _ | rfl | decide) ?_
      try rw [Ls_set (by omega)]
      rw [t3, ← hL, ← hA]
      have m0 := e2.o
      have m1 : (up h 302 (cI (Ls 3389 A1))) 302 = cI (Ls 3389 A1) := up_at _ _ _
      refine BX13_undo_21 m0 rfl m1 (Ls_get (by decide) (by decide)) (by omega) (by omega) ?_
      rw [a3]
      exact la 76 0 _ (by decide) (by decide) (by rw [cyA_0]; exact e2)
    · intro hc2
      refine BX13_undo_9  ?_
      (exfalso; omega)
theorem R_X13_canToss {x y : Int} (s : IsMo g h W V X F B wr cm) (k1 : 0 ≤ x → x < W 3 3 → 0 ≤ y → y < W 3 3 → x ≠ y → W 1 72 < 12 → Q (some (vI 1)) h n) (k0 : ¬((0 ≤ x ∧ x < W 3 3) ∧ (0 ≤ y ∧ y < W 3 3) ∧ x ≠ y ∧ W 1 72 < 12) → Q (some (vI 0)) h n) : Rn (d + 2) bc bs mX13_canToss 0 [some (vR (some 301)), some (vI x), some (vI y)] [] h n Q := by
  obtain ⟨M, e, ⟨⟨ts, te, ty, ⟨t1, t2, t3⟩, tp⟩, tb⟩, ⟨tv, tvb⟩, tx, ⟨⟨tt1, tt2, tt3⟩, tt4⟩, wr0, cm0, on⟩ := id s; obtain ⟨on1, on2, on3, on4, on5, on6, on7, on8⟩ := id on; have tt : tTp M F := ⟨⟨tt1, tt2, tt3⟩, tt4⟩; have m0 := e.o; have m1 := e.a1; have m2 := e.a2; have m3 := e.a3; have m4 := e.a4; have ts1 := ts.1; obtain ⟨te1, te2, te3, te4⟩ := id te; obtain ⟨⟨ty1, ty2, ty3, ty4, ty5⟩, ty6, ty7, ty8, ty9⟩ := id ty
  refine BX13_canToss_0 (by first | assumption | exact up_at _ _ _ | (rw [up_ne (by omega)]; first | assumption | exact up_at _ _ _ | (rw [up_ne (by omega)]; assumption))) ?_
  refine R_X13_isPerson (by first | omega | (rw [fset_at]; omega) | (simp only [Ls_len]; omega) | assumption | exact Ls_get (by omega) (by omega) | exact up_at _ _ _ | rfl | decide) ?_ ?_
  · intro w1 w2
    refine BX13_canToss_5  ?_ ?_
    · intro hc1
      exact absurd hc1 (by decide)
    · intro hc2
      refine BX13_canToss_8 (by first | assumption | exact up_at _ _ _ | (rw [up_ne (by omega)]; first | assumption | exact up_at _ _ _ | (rw [up_ne (by omega)]; assumption))) ?_
      refine R_X13_isPerson (by first | omega | (rw [fset_at]; omega) | (simp only [Ls_len]; omega) | assumption | exact Ls_get (by omega) (by omega) | exact up_at _ _ _ | rfl | decide) ?_ ?_
      · intro w1 w2
        refine BX13_canToss_13  ?_ ?_
        · intro hc3
          exact absurd hc3 (by decide)
        · intro hc4
          refine BX13_canToss_16  ?_ ?_
          · intro hc5
            refine BX13_canToss_37  ?_
            exact k0 (by omega)
          · intro hc6
            refine BX13_canToss_21 (by first | assumption | exact up_at _ _ _ | (rw [up_ne (by omega)]; first | assumption | exact up_at _ _ _ | (rw [up_ne (by omega)]; assumption))) (by rfl) (by first | assumption | exact up_at _ _ _ | (rw [up_ne (by omega)]; first | assumption | exact up_at _ _ _ | (rw [up_ne (by omega)]; assumption))) (by first | exact Ls_get (by omega) (by omega) | assumption) ?_ ?_
            · intro hc7
              refine BX13_canToss_37  ?_
              exact k0 (by omega)
            · intro hc8
              refine BX13_canToss_33  ?_
              exact k1 (by omega) (by omega) (by omega) (by omega) (by omega) (by omega)
      · intro w3
        refine BX13_canToss_13  ?_ ?_
        · intro hc9
          refine BX13_canToss_37  ?_
          exact k0 (by omega)
        · intro hc10
          exact absurd hc10 (by decide)
  · intro w3
    refine BX13_canToss_5  ?_ ?_
    · intro hc11
      refine BX13_canToss_37  ?_
      exact k0 (by omega)
    · intro hc12
      exact absurd hc12 (by decide)
theorem R_X13_canFish {b p : Int} (s : IsMo g h W V X F B wr cm) (k1 : 0 ≤ b → b < W 1 72 → W 1 (b * 6 + 4) = 0 → 0 ≤ p → p < W 3 3 → W 1 (b * 6 + 0) ≠ p → W 1 (b * 6 + 2) = W 0 p → Q (some (vI 1)) h n) (k0 : ¬((0 ≤ b ∧ b < W 1 72) ∧ W 1 (b * 6 + 4) = 0 ∧ (0 ≤ p ∧ p < W 3 3) ∧ W 1 (b * 6 + 0) ≠ p ∧ W 1 (b * 6 + 2) = W 0 p) → Q (some (vI 0)) h n) : Rn (d + 3) bc bs mX13_canFish 0 [some (vR (some 301)), some (vI b), some (vI p)] [] h n Q := by
  obtain ⟨M, e, ⟨⟨ts, te, ty, ⟨t1, t2, t3⟩, tp⟩, tb⟩, ⟨tv, tvb⟩, tx, ⟨⟨tt1, tt2, tt3⟩, tt4⟩, wr0, cm0, on⟩ := id s; obtain ⟨on1, on2, on3, on4, on5, on6, on7, on8⟩ := id on; have tt : tTp M F := ⟨⟨tt1, tt2, tt3⟩, tt4⟩; have m0 := e.o; have m1 := e.a1; have m2 := e.a2; have m3 := e.a3; have m4 := e.a4; have ts1 := ts.1; obtain ⟨te1, te2, te3, te4⟩ := id te; obtain ⟨⟨ty1, ty2, ty3, ty4, ty5⟩, ty6, ty7, ty8, ty9⟩ := id ty
  refine BX13_canFish_0 (by first | assumption | exact up_at _ _ _ | (rw [up_ne (by omega)]; first | assumption | exact up_at _ _ _ | (rw [up_ne (by omega)]; assumption))) ?_
  refine R_X13_isAfloat (by first | omega | (rw [fset_at]; omega) | (simp only [Ls_len]; omega) | assumption | exact Ls_get (by omega) (by omega) | exact up_at _ _ _ | rfl | decide) ?_ ?_
  · intro w1 w2 w3
    refine BX13_canFish_5  ?_ ?_
    · intro hc1
      exact absurd hc1 (by decide)
    · intro hc2
      refine BX13_canFish_8 (by first | assumption | exact up_at _ _ _ | (rw [up_ne (by omega)]; first | assumption | exact up_at _ _ _ | (rw [up_ne (by omega)]; assumption))) ?_
      refine R_X13_isPerson (by first | omega | (rw [fset_at]; omega) | (simp only [Ls_len]; omega) | assumption | exact Ls_get (by omega) (by omega) | exact up_at _ _ _ | rfl | decide) ?_ ?_
      · intro w1 w2
        refine BX13_canFish_13  ?_ ?_
        · intro hc3
          exact absurd hc3 (by decide)
        · intro hc4
          refine BX13_canFish_16 (by first | assumption | exact up_at _ _ _ | (rw [up_ne (by omega)]; first | assumption | exact up_at _ _ _ | (rw [up_ne (by omega)]; assumption))) ?_
          refine R_X13_get (by first | omega | (rw [fset_at]; omega) | (simp only [Ls_len]; omega) | assumption | exact Ls_get (by omega) (by omega) | exact up_at _ _ _ | rfl | decide) (by first | omega | (rw [fset_at]; omega) | (simp only [Ls_len]; omega) | assumption | exact Ls_get (by omega) (by omega) | exact up_at _ _ _ | rfl | decide) (by first | omega | (rw [fset_at]; omega) | (simp only [Ls_len]; omega) | assumption | exact Ls_get (by omega) (by omega) | exact up_at _ _ _ | rfl | decide) (by first | omega | (rw [fset_at]; omega) | (simp only [Ls_len]; omega) | assumption | exact Ls_get (by omega) (by omega) | exact up_at _ _ _ | rfl | decide) (by first | omega | (rw [fset_at]; omega) | (simp only [Ls_len]; omega) | assumption | exact Ls_get (by omega) (by omega) | exact up_at _ _ _ | rfl | decide) ?_
          refine BX13_canFish_22 (by first | assumption | exact up_at _ _ _ | (rw [up_ne (by omega)]; first | assumption | exact up_at _ _ _ | (rw [up_ne (by omega)]; assumption))) ?_
          refine R_X13_ownP (by first | omega | (rw [fset_at]; omega) | (simp only [Ls_len]; omega) | assumption | exact Ls_get (by omega) (by omega) | exact up_at _ _ _ | rfl | decide) (by first | omega | (rw [fset_at]; omega) | (simp only [Ls_len]; omega) | assumption | exact Ls_get (by omega) (by omega) | exact up_at _ _ _ | rfl | decide) (by first | omega | (rw [fset_at]; omega) | (simp only [Ls_len]; omega) | assumption | exact Ls_get (by omega) (by omega) | exact up_at _ _ _ | rfl | decide) ?_
          refine BX13_canFish_28  ?_ ?_
          · intro hc5
            refine BX13_canFish_45  ?_
            exact k0 (by omega)
          · intro hc6
            refine BX13_canFish_31 (by first | assumption | exact up_at _ _ _ | (rw [up_ne (by omega)]; first | assumption | exact up_at _ _ _ | (rw [up_ne (by omega)]; assumption))) ?_
            refine R_X13_get (by first | omega | (rw [fset_at]; omega) | (simp only [Ls_len]; omega) | assumption | exact Ls_get (by omega) (by omega) | exact up_at _ _ _ | rfl | decide) (by first | omega | (rw [fset_at]; omega) | (simp only [Ls_len]; omega) | assumption | exact Ls_get (by omega) (by omega) | exact up_at _ _ _ | rfl | decide) (by first | omega | (rw [fset_at]; omega) | (simp only [Ls_len]; omega) | assumption | exact Ls_get (by omega) (by omega) | exact up_at _ _ _ | rfl | decide) (by first | omega | (rw [fset_at]; omega) | (simp only [Ls_len]; omega) | assumption | exact Ls_get (by omega) (by omega) | exact up_at _ _ _ | rfl | decide) (by first | omega | (rw [fset_at]; omega) | (simp only [Ls_len]; omega) | assumption | exact Ls_get (by omega) (by omega) | exact up_at _ _ _ | rfl | decide) ?_
            refine BX13_canFish_37  ?_ ?_
            · intro hc7
              refine BX13_canFish_45  ?_
              exact k0 (by omega)
            · intro hc8
              refine BX13_canFish_41  ?_
              exact k1 (by omega) (by omega) (by omega) (by omega) (by omega) (by omega) (by omega)
      · intro w3
        refine BX13_canFish_13  ?_ ?_
        · intro hc9
          refine BX13_canFish_45  ?_
          exact k0 (by omega)
        · intro hc10
          exact absurd hc10 (by decide)
  · intro w4
    refine BX13_canFish_5  ?_ ?_
    · intro hc11
      refine BX13_canFish_45  ?_
      exact k0 (by omega)
    · intro hc12
      exact absurd hc12 (by decide)
theorem R_X13_canAgain {b : Int} (s : IsMo g h W V X F B wr cm) (k1 : 0 ≤ b → b < W 1 72 → 3 ≤ W 1 (b * 6 + 4) → Q (some (vI 1)) h n) (k0 : ¬((0 ≤ b ∧ b < W 1 72) ∧ 3 ≤ W 1 (b * 6 + 4)) → Q (some (vI 0)) h n) : Rn (d + 2) bc bs mX13_canAgain 0 [some (vR (some 301)), some (vI b)] [] h n Q := by
  obtain ⟨M, e, ⟨⟨ts, te, ty, ⟨t1, t2, t3⟩, tp⟩, tb⟩, ⟨tv, tvb⟩, tx, ⟨⟨tt1, tt2, tt3⟩, tt4⟩, wr0, cm0, on⟩ := id s; obtain ⟨on1, on2, on3, on4, on5, on6, on7, on8⟩ := id on; have tt : tTp M F := ⟨⟨tt1, tt2, tt3⟩, tt4⟩; have m0 := e.o; have m1 := e.a1; have m2 := e.a2; have m3 := e.a3; have m4 := e.a4; have ts1 := ts.1; obtain ⟨te1, te2, te3, te4⟩ := id te; obtain ⟨⟨ty1, ty2, ty3, ty4, ty5⟩, ty6, ty7, ty8, ty9⟩ := id ty
  refine BX13_canAgain_0 (by first | assumption | exact up_at _ _ _ | (rw [up_ne (by omega)]; first | assumption | exact up_at _ _ _ | (rw [up_ne (by omega)]; assumption))) ?_
  refine R_X13_isBottle (by first | omega | (rw [fset_at]; omega) | (simp only [Ls_len]; omega) | assumption | exact Ls_get (by omega) (by omega) | exact up_at _ _ _ | rfl | decide) ?_ ?_
  · intro w1 w2
    refine BX13_canAgain_5  ?_ ?_
    · intro hc1
      exact absurd hc1 (by decide)
    · intro hc2
      refine BX13_canAgain_8 (by first | assumption | exact up_at _ _ _ | (rw [up_ne (by omega)]; first | assumption | exact up_at _ _ _ | (rw [up_ne (by omega)]; assumption))) ?_
      refine R_X13_get (by first | omega | (rw [fset_at]; omega) | (simp only [Ls_len]; omega) | assumption | exact Ls_get (by omega) (by omega) | exact up_at _ _ _ | rfl | decide) (by first | omega | (rw [fset_at]; omega) | (simp only [Ls_len]; omega) | assumption | exact Ls_get (by omega) (by omega) | exact up_at _ _ _ | rfl | decide) (by first | omega | (rw [fset_at]; omega) | (simp only [Ls_len]; omega) | assumption | exact Ls_get (by omega) (by omega) | exact up_at _ _ _ | rfl | decide) (by first | omega | (rw [fset_at]; omega) | (simp only [Ls_len]; omega) | assumption | exact Ls_get (by omega) (by omega) | exact up_at _ _ _ | rfl | decide) (by first | omega | (rw [fset_at]; omega) | (simp only [Ls_len]; omega) | assumption | exact Ls_get (by omega) (by omega) | exact up_at _ _ _ | rfl | decide) ?_
      refine BX13_canAgain_14  ?_ ?_
      · intro hc3
        refine BX13_canAgain_22  ?_
        exact k0 (by omega)
      · intro hc4
        refine BX13_canAgain_18  ?_
        exact k1 (by omega) (by omega) (by omega)
  · intro w3
    refine BX13_canAgain_5  ?_ ?_
    · intro hc5
      refine BX13_canAgain_22  ?_
      exact k0 (by omega)
    · intro hc6
      exact absurd hc6 (by decide)
theorem R_X13_fishNow {b p : Int} (s : IsMo g h W V X F B wr cm) (w01 : wr = 0 ∨ wr = 1) (b0 : 0 ≤ b) (b1 : b < W 1 72) (p0 : 0 ≤ p) (p1 : p ≤ 5) (q0 : 0 ≤ W 1 (b * 6 + 2)) (q1 : W 1 (b * 6 + 2) ≤ 9) (k : ∀ h1, IsMo g h1 (fishW W b p) V X F B wr cm → Q none h1 n) : Rn (d + 2) bc bs mX13_fishNow 0 [some (vR (some 301)), some (vI b), some (vI p)] [] h n Q := by
  have on2 : W 1 72 ≤ 12 := by obtain ⟨M, e, t⟩ := id s; exact t.2.2.2.2.2.2.2.1.2
  obtain ⟨S1, hS1⟩ : ∃ S1, S1 = fset (W 1) (b * 6 + 4) (3 + p) := ⟨_, rfl⟩
  have f4 : fset W 1 S1 1 72 = W 1 72 := by rw [fset_at, hS1]; exact fset_ne (by omega)
  have f5 : fset W 1 S1 1 (b * 6 + 2) = W 1 (b * 6 + 2) := by rw [fset_at, hS1]; exact fset_ne (by omega)
  unfold fishW at k
  rw [← hS1] at k
  obtain ⟨M, e, t⟩ := id s
  have m0 := e.o
  refine BX13_fishNow_0 (by first | omega | (rw [fset_at]; omega) | (simp only [Ls_len]; omega) | assumption | exact Ls_get (by omega) (by omega) | exact up_at _ _ _ | rfl | decide) (by first | assumption | exact up_at _ _ _ | (rw [up_ne (by omega)]; first | assumption | exact up_at _ _ _ | (rw [up_ne (by omega)]; assumption))) ?_
  refine R_X13_put (by first | omega | (rw [fset_at]; omega) | (simp only [Ls_len]; omega) | assumption | exact Ls_get (by omega) (by omega) | exact up_at _ _ _ | rfl | decide) (by first | omega | (rw [fset_at]; omega) | (simp only [Ls_len]; omega) | assumption | exact Ls_get (by omega) (by omega) | exact up_at _ _ _ | rfl | decide) (by first | omega | (rw [fset_at]; omega) | (simp only [Ls_len]; omega) | assumption | exact Ls_get (by omega) (by omega) | exact up_at _ _ _ | rfl | decide) (by first | omega | (rw [fset_at]; omega) | (simp only [Ls_len]; omega) | assumption | exact Ls_get (by omega) (by omega) | exact up_at _ _ _ | rfl | decide) (by first | omega | (rw [fset_at]; omega) | (simp only [Ls_len]; omega) | assumption | exact Ls_get (by omega) (by omega) | exact up_at _ _ _ | rfl | decide) ?_
  intro h6 s6
  rw [← hS1] at s6
  obtain ⟨M4, e4, t4⟩ := id s6
  have m0 := e4.o
  refine BX13_fishNow_9 (by first | assumption | exact up_at _ _ _ | (rw [up_ne (by omega)]; first | assumption | exact up_at _ _ _ | (rw [up_ne (by omega)]; assumption))) ?_
  refine R_X13_write (by first | omega | (rw [fset_at]; omega) | (simp only [Ls_len]; omega) | assumption | exact Ls_get (by omega) (by omega) | exact up_at _ _ _ | rfl | decide) (by first | omega | (rw [fset_at]; omega) | (simp only [Ls_len]; omega) | assumption | exact Ls_get (by omega) (by omega) | exact up_at _ _ _ | rfl | decide) (by first | omega | (rw [fset_at]; omega) | (simp only [Ls_len]; omega) | assumption | exact Ls_get (by omega) (by omega) | exact up_at _ _ _ | rfl | decide) (by first | omega | (rw [fset_at]; omega) | (simp only [Ls_len]; omega) | assumption | exact Ls_get (by omega) (by omega) | exact up_at _ _ _ | rfl | decide) (by first | omega | (rw [fset_at]; omega) | (simp only [Ls_len]; omega) | assumption | exact Ls_get (by omega) (by omega) | exact up_at _ _ _ | rfl | decide) (by first | omega | (rw [fset_at]; omega) | (simp only [Ls_len]; omega) | assumption | exact Ls_get (by omega) (by omega) | exact up_at _ _ _ | rfl | decide) (by first | omega | (rw [fset_at]; omega) | (simp only [Ls_len]; omega) | assumption | exact Ls_get (by omega) (by omega) | exact up_at _ _ _ | rfl | decide) (by first | omega | (rw [fset_at]; omega) | (simp only [Ls_len]; omega) | assumption | exact Ls_get (by omega) (by omega) | exact up_at _ _ _ | rfl | decide) ?_
  intro h12 s12
  refine BX13_fishNow_15  ?_
  (rw [fset2, show (fset W 1 S1) 1 = S1 from fset_at _ _ _] at s12; exact k _ s12)
theorem R_X13_againNow {b : Int} (s : IsMo g h W V X F B wr cm) (b0 : 0 ≤ b) (b1 : b < W 1 72) (p0 : 3 ≤ W 1 (b * 6 + 4)) (p1 : W 1 (b * 6 + 4) < 3 + W 3 3) (k : ∀ h1, IsMo g h1 (againW W b) V X F B wr cm → Q none h1 n) : Rn (d + 2) bc bs mX13_againNow 0 [some (vR (some 301)), some (vI b)] [] h n Q := by
  have on2 : W 1 72 ≤ 12 := by obtain ⟨M, e, t⟩ := id s; exact t.2.2.2.2.2.2.2.1.2
  have on1 : W 3 3 ≤ 6 := by obtain ⟨M, e, t⟩ := id s; exact t.2.2.2.2.2.2.1.2
  have ap : atP (W 3 3) (W 0) (W 1 (b * 6 + 4) - 3) = W 0 (W 1 (b * 6 + 4) - 3) := by unfold atP; rw [if_pos (by omega)]
  obtain ⟨S1, hS1⟩ : ∃ S1, S1 = fset (W 1) (b * 6 + 2) (W 0 (W 1 (b * 6 + 4) - 3)) := ⟨_, rfl⟩
  have f4 : fset W 1 S1 1 72 = W 1 72 := by rw [fset_at, hS1]; exact fset_ne (by omega)
  unfold againW at k
  rw [ap, ← hS1] at k
  obtain ⟨M, e, t⟩ := id s
  have m0 := e.o
  refine BX13_againNow_0 (by first | assumption | exact up_at _ _ _ | (rw [up_ne (by omega)]; first | assumption | exact up_at _ _ _ | (rw [up_ne (by omega)]; assumption))) ?_
  refine R_X13_get (by first | omega | (rw [fset_at]; omega) | (simp only [Ls_len]; omega) | assumption | exact Ls_get (by omega) (by omega) | exact up_at _ _ _ | rfl | decide) (by first | omega | (rw [fset_at]; omega) | (simp only [Ls_len]; omega) | assumption | exact Ls_get (by omega) (by omega) | exact up_at _ _ _ | rfl | decide) (by first | omega | (rw [fset_at]; omega) | (simp only [Ls_len]; omega) | assumption | exact Ls_get (by omega) (by omega) | exact up_at _ _ _ | rfl | decide) (by first | omega | (rw [fset_at]; omega) | (simp only [Ls_len]; omega) | assumption | exact Ls_get (by omega) (by omega) | exact up_at _ _ _ | rfl | decide) (by first | omega | (rw [fset_at]; omega) | (simp only [Ls_len]; omega) | assumption | exact Ls_get (by omega) (by omega) | exact up_at _ _ _ | rfl | decide) ?_
  refine BX13_againNow_10 (by first | omega | (rw [fset_at]; omega) | (simp only [Ls_len]; omega) | assumption | exact Ls_get (by omega) (by omega) | exact up_at _ _ _ | rfl | decide) (by first | assumption | exact up_at _ _ _ | (rw [up_ne (by omega)]; first | assumption | exact up_at _ _ _ | (rw [up_ne (by omega)]; assumption))) ?_
  refine R_X13_ownP (by first | omega | (rw [fset_at]; omega) | (simp only [Ls_len]; omega) | assumption | exact Ls_get (by omega) (by omega) | exact up_at _ _ _ | rfl | decide) (by first | omega | (rw [fset_at]; omega) | (simp only [Ls_len]; omega) | assumption | exact Ls_get (by omega) (by omega) | exact up_at _ _ _ | rfl | decide) (by first | omega | (rw [fset_at]; omega) | (simp only [Ls_len]; omega) | assumption | exact Ls_get (by omega) (by omega) | exact up_at _ _ _ | rfl | decide) ?_
  refine BX13_againNow_16 (by first | assumption | exact up_at _ _ _ | (rw [up_ne (by omega)]; first | assumption | exact up_at _ _ _ | (rw [up_ne (by omega)]; assumption))) ?_
  refine R_X13_put (by first | omega | (rw [fset_at]; omega) | (simp only [Ls_len]; omega) | assumption | exact Ls_get (by omega) (by omega) | exact up_at _ _ _ | rfl | decide) (by first | omega | (rw [fset_at]; omega) | (simp only [Ls_len]; omega) | assumption | exact Ls_get (by omega) (by omega) | exact up_at _ _ _ | rfl | decide) (by first | omega | (rw [fset_at]; omega) | (simp only [Ls_len]; omega) | assumption | exact Ls_get (by omega) (by omega) | exact up_at _ _ _ | rfl | decide) (by first | omega | (rw [fset_at]; omega) | (simp only [Ls_len]; omega) | assumption | exact Ls_get (by omega) (by omega) | exact up_at _ _ _ | rfl | decide) (by first | omega | (rw [fset_at]; omega) | (simp only [Ls_len]; omega) | assumption | exact Ls_get (by omega) (by omega) | exact up_at _ _ _ | rfl | decide) ?_
  intro h16 s16
  rw [← hS1] at s16
  obtain ⟨M4, e4, t4⟩ := id s16
  have m0 := e4.o
  refine BX13_againNow_19 (by first | assumption | exact up_at _ _ _ | (rw [up_ne (by omega)]; first | assumption | exact up_at _ _ _ | (rw [up_ne (by omega)]; assumption))) ?_
  refine R_X13_put (by first | omega | (rw [fset_at]; omega) | (simp only [Ls_len]; omega) | assumption | exact Ls_get (by omega) (by omega) | exact up_at _ _ _ | rfl | decide) (by first | omega | (rw [fset_at]; omega) | (simp only [Ls_len]; omega) | assumption | exact Ls_get (by omega) (by omega) | exact up_at _ _ _ | rfl | decide) (by first | omega | (rw [fset_at]; omega) | (simp only [Ls_len]; omega) | assumption | exact Ls_get (by omega) (by omega) | exact up_at _ _ _ | rfl | decide) (by first | omega | (rw [fset_at]; omega) | (simp only [Ls_len]; omega) | assumption | exact Ls_get (by omega) (by omega) | exact up_at _ _ _ | rfl | decide) (by first | omega | (rw [fset_at]; omega) | (simp only [Ls_len]; omega) | assumption | exact Ls_get (by omega) (by omega) | exact up_at _ _ _ | rfl | decide) ?_
  intro h23 s23
  refine BX13_againNow_26  ?_
  (rw [fset2, show (fset W 1 S1) 1 = S1 from fset_at _ _ _] at s23; exact k _ s23)
end MOVES
