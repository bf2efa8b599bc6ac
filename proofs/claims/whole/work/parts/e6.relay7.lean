/-! Relay: the reference's answer. -/
theorem relay_rs {W : Int → Int → Int} {x y a : Int} {b : Int → Int} (hP : W 3 3 ≤ 6) (f0 : 0 ≤ x) (f1 : x < W 3 3) (g0 : 0 ≤ y) (g1 : y < W 3 3) (ne : x ≠ y) : rsR (laS W x y 5 (1000000, a, b)) (relM W x y (fun _ => 0) (fun _ => 0)) ∧ okR (relM W x y (fun _ => 0) (fun _ => 0)) 4 := by
  have r := la_rel hP f0 f1 g0 g1 ne (S := (1000000, a, b)) (R := (-1, 0, (fun _ => 0), (fun _ => 0))) ⟨(show (0 : Int) ≤ 1000000 by decide), fun z => absurd z (show ¬ (1000000 : Int) ≤ 60 by decide), fun _ => rfl⟩ 5 (by decide)
  have e : (if 5 ≤ (min 4 (W 3 3 - 2) + 1).toNat then 5 else (min 4 (W 3 3 - 2) + 1).toNat) = (min 4 (W 3 3 - 2) + 1).toNat := by
    split <;> omega
  rw [e] at r
  exact ⟨r, relN_ok4 (k := (min 4 (W 3 3 - 2) + 1).toNat) ⟨.inl rfl, by decide, by decide⟩ (by omega)⟩
section RELAY7
variable {d bc bs n : Nat} {g h : aH} {Q : aQ} {W V : Int → Int → Int} {X : Int → Tx} {F B : Int → Int} {wr cm : Int}
theorem M_relay {x y i : Int} (s : IsMo g h W V X F B wr cm) (ok : okW W) (k : ∀ h1, IsMo g h1 W V X F B wr cm → Q (some (vI (aRelay W x y i))) h1 n) : Rn (d + 30) bc bs mX13_relay 0 [some (vR (some 301)), some (vI x), some (vI y), some (vI i)] [] h n Q := by
  have hP : W 3 3 ≤ 6 := s.choose_spec.2.2.2.2.2.2.2.1.2
  obtain ⟨M, e, t⟩ := id s
  have m0 := e.o
  unfold aRelay at k
  refine BX13_relay_0 (by first | assumption | exact up_at _ _ _ | (rw [up_ne (by omega)]; first | assumption | exact up_at _ _ _ | (rw [up_ne (by omega)]; assumption))) ?_
  refine R_X13_isPerson (by first | omega | (rw [fset_at]; omega) | (simp only [Ls_len]; omega) | assumption | exact Ls_get (by omega) (by omega) | exact up_at _ _ _ | rfl | decide) ?_ ?_
  · intro w1 w2
    refine BX13_relay_5  ?_ ?_
    · intro hc1
      exact absurd hc1 (by decide)
    · intro hc2
      refine BX13_relay_8 (by first | assumption | exact up_at _ _ _ | (rw [up_ne (by omega)]; first | assumption | exact up_at _ _ _ | (rw [up_ne (by omega)]; assumption))) ?_
      refine R_X13_isPerson (by first | omega | (rw [fset_at]; omega) | (simp only [Ls_len]; omega) | assumption | exact Ls_get (by omega) (by omega) | exact up_at _ _ _ | rfl | decide) ?_ ?_
      · intro w1 w2
        refine BX13_relay_13  ?_ ?_
        · intro hc3
          exact absurd hc3 (by decide)
        · intro hc4
          refine BX13_relay_16  ?_ ?_
          · intro hc5
            refine BX13_relay_24 (by first | assumption | exact up_at _ _ _ | (rw [up_ne (by omega)]; first | assumption | exact up_at _ _ _ | (rw [up_ne (by omega)]; assumption))) ?_
            refine R_X13_layRelay (by first | omega | (rw [fset_at]; omega) | (simp only [Ls_len]; omega) | assumption | exact Ls_get (by omega) (by omega) | exact up_at _ _ _ | rfl | decide) (by first | omega | (rw [fset_at]; omega) | (simp only [Ls_len]; omega) | assumption | exact Ls_get (by omega) (by omega) | exact up_at _ _ _ | rfl | decide) (by first | omega | (rw [fset_at]; omega) | (simp only [Ls_len]; omega) | assumption | exact Ls_get (by omega) (by omega) | exact up_at _ _ _ | rfl | decide) (by first | omega | (rw [fset_at]; omega) | (simp only [Ls_len]; omega) | assumption | exact Ls_get (by omega) (by omega) | exact up_at _ _ _ | rfl | decide) (by first | omega | (rw [fset_at]; omega) | (simp only [Ls_len]; omega) | assumption | exact Ls_get (by omega) (by omega) | exact up_at _ _ _ | rfl | decide) (by first | omega | (rw [fset_at]; omega) | (simp only [Ls_len]; omega) | assumption | exact Ls_get (by omega) (by omega) | exact up_at _ _ _ | rfl | decide) (by first | omega | (rw [fset_at]; omega) | (simp only [Ls_len]; omega) | assumption | exact Ls_get (by omega) (by omega) | exact up_at _ _ _ | rfl | decide) ?_
            intro h27 row27 a27 b27 st27
            have rr := relay_rs (W := W) (x := x) (y := y) (a := a27) (b := b27) hP (by omega) (by omega) (by omega) (by omega) (by omega)
            rw [if_pos (show 0 ≤ x ∧ x < W 3 3 ∧ 0 ≤ y ∧ y < W 3 3 ∧ x ≠ y by omega)] at k
            generalize laS W x y 5 (1000000, a27, b27) = SS at rr st27
            generalize relM W x y (fun _ => 0) (fun _ => 0) = RR at rr k
            obtain ⟨⟨q0, q1, q2⟩, q3, q4, q5⟩ := rr
            have s9 := st27.is
            obtain ⟨M7, e7, t7, r1, r2, r3, r4⟩ := id st27
            have n0 := e7.o
            have n11 : h27 312 = cI (Ls 4 SS.2.2) := by (rw [← r2]; exact e7.a11)
            have q6 : M7 0 29 ≤ 60 → 0 ≤ M7 0 28 ∧ M7 0 28 ≤ 4 := fun z => by (have := q1 (by omega); omega)
            refine BX13_relay_30 (by first | assumption | exact up_at _ _ _ | (rw [up_ne (by omega)]; first | assumption | exact up_at _ _ _ | (rw [up_ne (by omega)]; assumption))) (by rfl) ?_ ?_
            · intro hc6
              refine BX13_relay_53  ?_
              by_cases z : SS.1 ≤ 60
              · have q1' := q1 z
                rw [if_neg (by omega), if_neg (by omega), if_neg (by omega)] at k
                exact k _ s9
              · rw [if_pos (q2 (by omega))] at k
                exact k _ s9
            · intro hc7
              refine BX13_relay_39 (by first | assumption | exact up_at _ _ _ | (rw [up_ne (by omega)]; first | assumption | exact up_at _ _ _ | (rw [up_ne (by omega)]; assumption))) (by rfl) (by first | omega | (rw [fset_at]; omega) | (simp only [Ls_len]; omega) | assumption | exact Ls_get (by omega) (by omega) | exact up_at _ _ _ | rfl | decide) ?_
              refine R_X13_isIn  ?_ ?_
              · intro w1 w2
                refine BX13_relay_50  ?_ ?_
                · intro hc8
                  refine BX13_relay_56  ?_ ?_
                  · intro hc9
                    refine BX13_relay_68 (by first | assumption | exact up_at _ _ _ | (rw [up_ne (by omega)]; first | assumption | exact up_at _ _ _ | (rw [up_ne (by omega)]; assumption))) (by rfl) (by first | assumption | exact up_at _ _ _ | (rw [up_ne (by omega)]; first | assumption | exact up_at _ _ _ | (rw [up_ne (by omega)]; assumption))) (by first | omega | (rw [fset_at]; omega) | (simp only [Ls_len]; omega) | assumption | exact Ls_get (by omega) (by omega) | exact up_at _ _ _ | rfl | decide) (by first | exact Ls_get (by omega) (by omega) | assumption) ?_
                    have q1' := q1 (by omega)
                    rw [if_neg (by omega), if_neg (by omega), if_pos (by omega), q1'.2.2 i (by omega) (by omega)] at k
                    exact k _ s9
                  · intro hc10
                    refine BX13_relay_61 (by first | assumption | exact up_at _ _ _ | (rw [up_ne (by omega)]; first | assumption | exact up_at _ _ _ | (rw [up_ne (by omega)]; assumption))) (by rfl) ?_
                    have q1' := q1 (by omega)
                    rw [if_neg (by omega), if_pos (by omega)] at k
                    rw [show M7 0 29 = RR.1 by omega]
                    exact k _ s9
                · intro hc11
                  exact absurd hc11 (by decide)
              · intro w3
                refine BX13_relay_50  ?_ ?_
                · intro hc12
                  exact absurd hc12 (by decide)
                · intro hc13
                  refine BX13_relay_53  ?_
                  by_cases z : SS.1 ≤ 60
                  · have q1' := q1 z
                    rw [if_neg (by omega), if_neg (by omega), if_neg (by omega)] at k
                    exact k _ s9
                  · rw [if_pos (q2 (by omega))] at k
                    exact k _ s9
          · intro hc14
            refine BX13_relay_21  ?_
            (rw [if_neg (by omega)] at k; exact k _ s)
      · intro w3
        refine BX13_relay_13  ?_ ?_
        · intro hc15
          refine BX13_relay_21  ?_
          (rw [if_neg (by omega)] at k; exact k _ s)
        · intro hc16
          exact absurd hc16 (by decide)
  · intro w3
    refine BX13_relay_5  ?_ ?_
    · intro hc17
      refine BX13_relay_21  ?_
      (rw [if_neg (by omega)] at k; exact k _ s)
    · intro hc18
      exact absurd hc18 (by decide)
end RELAY7
