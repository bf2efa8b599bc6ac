/-! Clear: the reference's answer. -/
section CLEAR7
variable {d bc bs n : Nat} {g h : aH} {Q : aQ} {W V : Int → Int → Int} {X : Int → Tx} {F B : Int → Int} {wr cm : Int}
theorem M_clear {x : Int} (s : IsMo g h W V X F B wr cm) (oc : okC (W 2)) (k : ∀ h1, IsMo g h1 W V X F B wr cm → Q (some (vI (aClear W x))) h1 n) : Rn (d + 30) bc bs mX13_clear 0 [some (vR (some 301)), some (vI x), none] [] h n Q := by
  obtain ⟨M, e, t⟩ := id s
  have m0 := e.o
  have wd := oc.1
  have sc := su_clr oc
  have tq : ∀ L, MT (fset M 12 L) W V X F B wr cm := fun L => MT.q t (fun k hk => fset_ne (by omega))
  have s0 : 0 ≤ suM (W 2) 32 := by
    rcases sc.1 with q | ⟨q, m, i, i0, i1, p⟩
    · rw [q]; decide
    · exact (PaN_rg wd _ _ _ p).2.2
  unfold aClear aSu at k
  refine BX13_clear_0  ?_
  refine R_X13_isIn  ?_ ?_
  · intro w1 w2
    refine BX13_clear_6  ?_ ?_
    · intro hc1
      refine BX13_clear_11 (by first | assumption | exact up_at _ _ _ | (rw [up_ne (by omega)]; first | assumption | exact up_at _ _ _ | (rw [up_ne (by omega)]; assumption))) ?_
      refine R_X13_shortestTwo (by first | omega | (rw [fset_at]; omega) | (simp only [Ls_len]; omega) | assumption | exact Ls_get (by omega) (by omega) | exact up_at _ _ _ | rfl | decide) (by first | omega | (rw [fset_at]; omega) | (simp only [Ls_len]; omega) | assumption | exact Ls_get (by omega) (by omega) | exact up_at _ _ _ | rfl | decide) (by first | omega | (rw [fset_at]; omega) | (simp only [Ls_len]; omega) | assumption | exact Ls_get (by omega) (by omega) | exact up_at _ _ _ | rfl | decide) ?_
      intro h12 L12 v12 e12 p12
      have ev := clr_eq p12 sc
      subst ev
      refine BX13_clear_15  ?_ ?_
      · intro hc2
        refine BX13_clear_35  ?_ ?_
        · intro hc3
          refine BX13_clear_46  ?_
          (first | (exfalso; omega) | (rw [if_pos (by omega), if_pos (by omega), if_neg (show ¬ suM (W 2) 32 = 1000000 by omega)] at k; exact k _ ⟨_, e12, tq _⟩))
        · intro hc4
          refine BX13_clear_42  ?_
          (first | (exfalso; omega) | (rw [if_pos (by omega), if_pos (by omega), if_pos (show suM (W 2) 32 = 1000000 by omega)] at k; exact k _ ⟨_, e12, tq _⟩))
      · intro hc5
        refine BX13_clear_20  ?_ ?_
        · intro hc6
          refine BX13_clear_31  ?_
          (first | (exfalso; omega) | (rw [if_pos (by omega), if_neg (by omega), if_neg (show ¬ suM (W 2) 32 = 1000000 by omega), if_neg (by omega)] at k; exact k _ ⟨_, e12, tq _⟩))
        · intro hc7
          refine BX13_clear_27  ?_
          (first | (exfalso; omega) | (rw [if_pos (by omega), if_neg (by omega)] at k; generalize suM (W 2) 32 = u at *; rw [if_pos (by omega)] at k; exact k _ ⟨_, e12, tq _⟩))
    · intro hc8
      exact absurd hc8 (by decide)
  · intro w3
    refine BX13_clear_6  ?_ ?_
    · intro hc9
      exact absurd hc9 (by decide)
    · intro hc10
      refine BX13_clear_9  ?_
      (first | (exfalso; omega) | (rw [if_neg (by omega)] at k; exact k _ s))
end CLEAR7
