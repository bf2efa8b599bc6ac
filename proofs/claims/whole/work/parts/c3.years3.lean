/-! The reference: years of draws, what is foretold. -/
def asB (A S : Int → Int) : Int → Int := fun j => if 1000 ≤ j then A (j - 1000) else S j
section YEARS3
variable {d bc bs n : Nat} {g h : aH} {Q : aQ} {W V : Int → Int → Int} {X : Int → Tx} {F B : Int → Int} {wr cm : Int} {M : Int → Int → Int}
theorem R_X13_happens {x : Int} {l2 : Option aV} (s : IsMo g h W V X F B 1 cm) (ok : okW W) (x0 : 0 ≤ x) (x1 : x < 100000) (c0 : 0 ≤ cm) (c1 : cm < 900000) (k : ∀ h1 c2, cm ≤ c2 → c2 ≤ cm + 12 → IsMo g h1 (liveM X W x) V X F B 1 c2 → Q none h1 n) : Rn (d + 9) bc bs mX13_happens 0 [some (vR (some 301)), some (vI x), l2] [] h n Q := by
  obtain ⟨M, e, ⟨⟨ts, te, ty, ⟨t1, t2, t3⟩, tp⟩, tb⟩, ⟨tv, tvb⟩, tx, ⟨⟨tt1, tt2, tt3⟩, tt4⟩, wr0, cm0, on⟩ := id s; obtain ⟨on1, on2, on3, on4, on5, on6, on7, on8⟩ := id on; have tt : tTp M F := ⟨⟨tt1, tt2, tt3⟩, tt4⟩; have m0 := e.o; have m1 := e.a1; have m2 := e.a2; have m3 := e.a3; have m4 := e.a4; have ts1 := ts.1; obtain ⟨te1, te2, te3, te4⟩ := id te; obtain ⟨⟨ty1, ty2, ty3, ty4, ty5⟩, ty6, ty7, ty8, ty9⟩ := id ty
  have hp : W 1 72 ≤ 0 ∨ 0 < W 3 3 := by
    by_cases q : 0 < W 1 72
    · have := ok.2.1.2 0 (by decide) q; unfold okBo at this; omega
    · omega
  have em1 : Int.tmod x (M 1 0) = x % W 3 3 := by rw [ts1, Int.tmod_eq_emod_of_nonneg x0]
  have em2 : Int.tmod (x / 6) (M 1 0) = x / 6 % W 3 3 := by rw [ts1, Int.tmod_eq_emod_of_nonneg (by omega)]
  have em3 : Int.tmod x (M 1 9) = x % W 1 72 := by rw [te3, Int.tmod_eq_emod_of_nonneg x0]
  have r1 : W 3 3 ≤ 0 ∨ (0 ≤ Int.tmod x (M 1 0) ∧ Int.tmod x (M 1 0) < W 3 3) := by
    rw [em1]
    by_cases q : 0 < W 3 3
    · exact .inr ⟨Int.emod_nonneg _ (by omega), Int.emod_lt_of_pos _ q⟩
    · omega
  have r2 : W 3 3 ≤ 0 ∨ (0 ≤ Int.tmod (x / 6) (M 1 0) ∧ Int.tmod (x / 6) (M 1 0) < W 3 3) := by
    rw [em2]
    by_cases q : 0 < W 3 3
    · exact .inr ⟨Int.emod_nonneg _ (by omega), Int.emod_lt_of_pos _ q⟩
    · omega
  have r3 : W 1 72 ≤ 0 ∨ (0 ≤ Int.tmod x (M 1 9) ∧ Int.tmod x (M 1 9) < W 1 72) := by
    rw [em3]
    by_cases q : 0 < W 1 72
    · exact .inr ⟨Int.emod_nonneg _ (by omega), Int.emod_lt_of_pos _ q⟩
    · omega
  have ob : W 1 72 ≤ 0 ∨ ((0 ≤ W 1 (Int.tmod x (M 1 9) * 6 + 2) ∧ W 1 (Int.tmod x (M 1 9) * 6 + 2) ≤ 9) ∧ W 1 (Int.tmod x (M 1 9) * 6 + 4) < 3 + W 3 3) := by
    by_cases q : 0 < W 1 72
    · have := ok.2.1.2 (Int.tmod x (M 1 9)) (by omega) (by omega); unfold okBo at this; exact .inr ⟨this.2.2.1, this.2.2.2.2.1.2⟩
    · omega
  have ap : W 3 3 ≤ 0 ∨ atP (W 3 3) (W 0) (Int.tmod (x / 6) (M 1 0)) = W 0 (Int.tmod (x / 6) (M 1 0)) := by
    by_cases q : 0 < W 3 3
    · right; unfold atP; rw [if_pos (by omega)]
    · omega
  have st0 : stepM 0 W = W := rfl
  unfold liveM at k
  by_cases z4 : 4 ≤ x % 6
  · rw [if_pos z4] at k
    have po := fun ht => passW_ok (X := X) ok ht
    refine BX13_happens_0 (by first | omega | (rw [fset_at]; omega) | (simp only [Ls_len]; omega) | assumption | exact Ls_get (by omega) (by omega) | exact up_at _ _ _ | rfl | decide) ?_ ?_
    · intro hc1
      first
      | (exfalso; omega)
      | (
          (exfalso; omega)
        )
    · intro hc2
      first
      | (exfalso; omega)
      | (
          refine BX13_happens_8 (by first | assumption | exact up_at _ _ _ | (rw [up_ne (by omega)]; first | assumption | exact up_at _ _ _ | (rw [up_ne (by omega)]; assumption))) (by rfl) (by first | assumption | exact up_at _ _ _ | (rw [up_ne (by omega)]; first | assumption | exact up_at _ _ _ | (rw [up_ne (by omega)]; assumption))) (by first | exact Ls_get (by omega) (by omega) | assumption) ?_ ?_
          · intro hc3
            first
            | (exfalso; omega)
            | (
                refine BX13_happens_25  ?_
                first
                | (rw [if_neg (by omega)] at k; exact k _ _ (by omega) (by omega) s)
                | (have p9 := po (by omega); rw [if_pos (by omega)] at k; exact k _ _ (by omega) (by omega) s22)
              )
          · intro hc4
            first
            | (exfalso; omega)
            | (
                refine BX13_happens_21 (by first | assumption | exact up_at _ _ _ | (rw [up_ne (by omega)]; first | assumption | exact up_at _ _ _ | (rw [up_ne (by omega)]; assumption))) ?_
                refine R_X13_pass (by first | omega | (rw [fset_at]; omega) | (simp only [Ls_len]; omega) | assumption | exact Ls_get (by omega) (by omega) | exact up_at _ _ _ | rfl | decide) (by first | omega | (rw [fset_at]; omega) | (simp only [Ls_len]; omega) | assumption | exact Ls_get (by omega) (by omega) | exact up_at _ _ _ | rfl | decide) (by first | omega | (rw [fset_at]; omega) | (simp only [Ls_len]; omega) | assumption | exact Ls_get (by omega) (by omega) | exact up_at _ _ _ | rfl | decide) (by first | omega | (rw [fset_at]; omega) | (simp only [Ls_len]; omega) | assumption | exact Ls_get (by omega) (by omega) | exact up_at _ _ _ | rfl | decide) (by first | omega | (rw [fset_at]; omega) | (simp only [Ls_len]; omega) | assumption | exact Ls_get (by omega) (by omega) | exact up_at _ _ _ | rfl | decide) (by first | omega | (rw [fset_at]; omega) | (simp only [Ls_len]; omega) | assumption | exact Ls_get (by omega) (by omega) | exact up_at _ _ _ | rfl | decide) ?_
                intro h22 s22
                refine BX13_happens_25  ?_
                first
                | (rw [if_neg (by omega)] at k; exact k _ _ (by omega) (by omega) s)
                | (have p9 := po (by omega); rw [if_pos (by omega)] at k; exact k _ _ (by omega) (by omega) s22)
              )
        )
  rw [if_neg z4] at k
  by_cases z3 : x % 6 = 3
  · rw [if_pos z3, ← em3] at k
    refine BX13_happens_0 (by first | omega | (rw [fset_at]; omega) | (simp only [Ls_len]; omega) | assumption | exact Ls_get (by omega) (by omega) | exact up_at _ _ _ | rfl | decide) ?_ ?_
    · intro hc1
      refine BX13_happens_26 (by first | omega | (rw [fset_at]; omega) | (simp only [Ls_len]; omega) | assumption | exact Ls_get (by omega) (by omega) | exact up_at _ _ _ | rfl | decide) ?_ ?_
      · intro hc2
        refine BX13_happens_99 (by first | assumption | exact up_at _ _ _ | (rw [up_ne (by omega)]; first | assumption | exact up_at _ _ _ | (rw [up_ne (by omega)]; assumption))) (by rfl) (by first | assumption | exact up_at _ _ _ | (rw [up_ne (by omega)]; first | assumption | exact up_at _ _ _ | (rw [up_ne (by omega)]; assumption))) (by first | exact Ls_get (by omega) (by omega) | assumption) ?_ ?_
        · intro hc3
          refine BX13_happens_110 (by first | assumption | exact up_at _ _ _ | (rw [up_ne (by omega)]; first | assumption | exact up_at _ _ _ | (rw [up_ne (by omega)]; assumption))) (by rfl) (by first | assumption | exact up_at _ _ _ | (rw [up_ne (by omega)]; first | assumption | exact up_at _ _ _ | (rw [up_ne (by omega)]; assumption))) (by first | exact Ls_get (by omega) (by omega) | assumption) (by first | omega | (rw [fset_at]; omega) | (simp only [Ls_len]; omega) | assumption | exact Ls_get (by omega) (by omega) | exact up_at _ _ _ | rfl | decide) (by first | omega | (rw [fset_at]; omega) | (simp only [Ls_len]; omega) | assumption | exact Ls_get (by omega) (by omega) | exact up_at _ _ _ | rfl | decide) ?_ ?_
          · intro hc4
            refine BX13_happens_166 (by first | assumption | exact up_at _ _ _ | (rw [up_ne (by omega)]; first | assumption | exact up_at _ _ _ | (rw [up_ne (by omega)]; assumption))) ?_
            refine R_X13_canAgain (by first | omega | (rw [fset_at]; omega) | (simp only [Ls_len]; omega) | assumption | exact Ls_get (by omega) (by omega) | exact up_at _ _ _ | rfl | decide) ?_ ?_
            · intro c1 c2 c3
              refine BX13_happens_171  ?_ ?_
              · intro hc5
                exact absurd hc5 (by decide)
              · intro hc6
                refine BX13_happens_174 (by first | assumption | exact up_at _ _ _ | (rw [up_ne (by omega)]; first | assumption | exact up_at _ _ _ | (rw [up_ne (by omega)]; assumption))) ?_
                refine R_X13_againNow (by first | omega | (rw [fset_at]; omega) | (simp only [Ls_len]; omega) | assumption | exact Ls_get (by omega) (by omega) | exact up_at _ _ _ | rfl | decide) (by first | omega | (rw [fset_at]; omega) | (simp only [Ls_len]; omega) | assumption | exact Ls_get (by omega) (by omega) | exact up_at _ _ _ | rfl | decide) (by first | omega | (rw [fset_at]; omega) | (simp only [Ls_len]; omega) | assumption | exact Ls_get (by omega) (by omega) | exact up_at _ _ _ | rfl | decide) (by first | omega | (rw [fset_at]; omega) | (simp only [Ls_len]; omega) | assumption | exact Ls_get (by omega) (by omega) | exact up_at _ _ _ | rfl | decide) (by first | omega | (rw [fset_at]; omega) | (simp only [Ls_len]; omega) | assumption | exact Ls_get (by omega) (by omega) | exact up_at _ _ _ | rfl | decide) ?_
                intro h176 s176
                refine BX13_happens_179  ?_
                rw [if_pos (by omega)] at k
                unfold sAgain at k
                first
                | (rw [if_pos (show againB W (Int.tmod x (M 1 9)) = true from decide_eq_true (by omega)), st0] at k; exact k _ _ (by omega) (by omega) s176)
                | (rw [if_neg (show ¬ againB W (Int.tmod x (M 1 9)) = true from fun q => by have q1 := of_decide_eq_true q; omega)] at k; exact k _ _ (by omega) (by omega) s)
            · intro c4
              refine BX13_happens_171  ?_ ?_
              · intro hc7
                refine BX13_happens_179  ?_
                rw [if_pos (by omega)] at k
                unfold sAgain at k
                first
                | (rw [if_pos (show againB W (Int.tmod x (M 1 9)) = true from decide_eq_true (by omega)), st0] at k; exact k _ _ (by omega) (by omega) s176)
                | (rw [if_neg (show ¬ againB W (Int.tmod x (M 1 9)) = true from fun q => by have q1 := of_decide_eq_true q; omega)] at k; exact k _ _ (by omega) (by omega) s)
              · intro hc8
                exact absurd hc8 (by decide)
          · intro hc9
            (exfalso; omega)
        · intro hc10
          refine BX13_happens_109  ?_
          (rw [if_neg (by omega)] at k; exact k _ _ (by omega) (by omega) s)
      · intro hc11
        (exfalso; omega)
    · intro hc12
      (exfalso; omega)
  rw [if_neg z3] at k
  by_cases z2 : x % 6 = 2
  · rw [if_pos z2, ← em3, ← em2] at k
    refine BX13_happens_0 (by first | omega | (rw [fset_at]; omega) | (simp only [Ls_len]; omega) | assumption | exact Ls_get (by omega) (by omega) | exact up_at _ _ _ | rfl | decide) ?_ ?_
    · intro hc1
      refine BX13_happens_26 (by first | omega | (rw [fset_at]; omega) | (simp only [Ls_len]; omega) | assumption | exact Ls_get (by omega) (by omega) | exact up_at _ _ _ | rfl | decide) ?_ ?_
      · intro hc2
        refine BX13_happens_99 (by first | assumption | exact up_at _ _ _ | (rw [up_ne (by omega)]; first | assumption | exact up_at _ _ _ | (rw [up_ne (by omega)]; assumption))) (by rfl) (by first | assumption | exact up_at _ _ _ | (rw [up_ne (by omega)]; first | assumption | exact up_at _ _ _ | (rw [up_ne (by omega)]; assumption))) (by first | exact Ls_get (by omega) (by omega) | assumption) ?_ ?_
        · intro hc3
          refine BX13_happens_110 (by first | assumption | exact up_at _ _ _ | (rw [up_ne (by omega)]; first | assumption | exact up_at _ _ _ | (rw [up_ne (by omega)]; assumption))) (by rfl) (by first | assumption | exact up_at _ _ _ | (rw [up_ne (by omega)]; first | assumption | exact up_at _ _ _ | (rw [up_ne (by omega)]; assumption))) (by first | exact Ls_get (by omega) (by omega) | assumption) (by first | omega | (rw [fset_at]; omega) | (simp only [Ls_len]; omega) | assumption | exact Ls_get (by omega) (by omega) | exact up_at _ _ _ | rfl | decide) (by first | omega | (rw [fset_at]; omega) | (simp only [Ls_len]; omega) | assumption | exact Ls_get (by omega) (by omega) | exact up_at _ _ _ | rfl | decide) ?_ ?_
          · intro hc4
            (exfalso; omega)
          · intro hc5
            refine BX13_happens_128 (by first | omega | (rw [fset_at]; omega) | (simp only [Ls_len]; omega) | assumption | exact Ls_get (by omega) (by omega) | exact up_at _ _ _ | rfl | decide) (by first | omega | (rw [fset_at]; omega) | (simp only [Ls_len]; omega) | assumption | exact Ls_get (by omega) (by omega) | exact up_at _ _ _ | rfl | decide) (by first | assumption | exact up_at _ _ _ | (rw [up_ne (by omega)]; first | assumption | exact up_at _ _ _ | (rw [up_ne (by omega)]; assumption))) (by rfl) (by first | assumption | exact up_at _ _ _ | (rw [up_ne (by omega)]; first | assumption | exact up_at _ _ _ | (rw [up_ne (by omega)]; assumption))) (by first | exact Ls_get (by omega) (by omega) | assumption) (by first | omega | (rw [fset_at]; omega) | (simp only [Ls_len]; omega) | assumption | exact Ls_get (by omega) (by omega) | exact up_at _ _ _ | rfl | decide) ?_
            refine R_X13_canFish (by first | omega | (rw [fset_at]; omega) | (simp only [Ls_len]; omega) | assumption | exact Ls_get (by omega) (by omega) | exact up_at _ _ _ | rfl | decide) ?_ ?_
            · intro c1 c2 c3 c4 c5 c6 c7
              refine BX13_happens_144  ?_ ?_
              · intro hc6
                exact absurd hc6 (by decide)
              · intro hc7
                refine BX13_happens_147 (by first | omega | (rw [fset_at]; omega) | (simp only [Ls_len]; omega) | assumption | exact Ls_get (by omega) (by omega) | exact up_at _ _ _ | rfl | decide) (by first | omega | (rw [fset_at]; omega) | (simp only [Ls_len]; omega) | assumption | exact Ls_get (by omega) (by omega) | exact up_at _ _ _ | rfl | decide) (by first | assumption | exact up_at _ _ _ | (rw [up_ne (by omega)]; first | assumption | exact up_at _ _ _ | (rw [up_ne (by omega)]; assumption))) (by rfl) (by first | assumption | exact up_at _ _ _ | (rw [up_ne (by omega)]; first | assumption | exact up_at _ _ _ | (rw [up_ne (by omega)]; assumption))) (by first | exact Ls_get (by omega) (by omega) | assumption) (by first | omega | (rw [fset_at]; omega) | (simp only [Ls_len]; omega) | assumption | exact Ls_get (by omega) (by omega) | exact up_at _ _ _ | rfl | decide) ?_
                refine R_X13_fishNow (by first | omega | (rw [fset_at]; omega) | (simp only [Ls_len]; omega) | assumption | exact Ls_get (by omega) (by omega) | exact up_at _ _ _ | rfl | decide) (by first | omega | (rw [fset_at]; omega) | (simp only [Ls_len]; omega) | assumption | exact Ls_get (by omega) (by omega) | exact up_at _ _ _ | rfl | decide) (by first | omega | (rw [fset_at]; omega) | (simp only [Ls_len]; omega) | assumption | exact Ls_get (by omega) (by omega) | exact up_at _ _ _ | rfl | decide) (by first | omega | (rw [fset_at]; omega) | (simp only [Ls_len]; omega) | assumption | exact Ls_get (by omega) (by omega) | exact up_at _ _ _ | rfl | decide) (by first | omega | (rw [fset_at]; omega) | (simp only [Ls_len]; omega) | assumption | exact Ls_get (by omega) (by omega) | exact up_at _ _ _ | rfl | decide) (by first | omega | (rw [fset_at]; omega) | (simp only [Ls_len]; omega) | assumption | exact Ls_get (by omega) (by omega) | exact up_at _ _ _ | rfl | decide) (by first | omega | (rw [fset_at]; omega) | (simp only [Ls_len]; omega) | assumption | exact Ls_get (by omega) (by omega) | exact up_at _ _ _ | rfl | decide) (by first | omega | (rw [fset_at]; omega) | (simp only [Ls_len]; omega) | assumption | exact Ls_get (by omega) (by omega) | exact up_at _ _ _ | rfl | decide) ?_
                intro h160 s160
                refine BX13_happens_163  ?_
                rw [if_pos (by omega)] at k
                unfold sFish at k
                rw [if_pos (show fishB W (Int.tmod x (M 1 9)) (Int.tmod (x / 6) (M 1 0)) = true from decide_eq_true (by omega)), st0] at k
                exact k _ _ (by omega) (by omega) s160
            · intro c8
              refine BX13_happens_144  ?_ ?_
              · intro hc8
                refine BX13_happens_179  ?_
                rw [if_pos (by omega)] at k
                unfold sFish at k
                rw [if_neg (show ¬ fishB W (Int.tmod x (M 1 9)) (Int.tmod (x / 6) (M 1 0)) = true from fun q => by have q1 := of_decide_eq_true q; omega)] at k
                exact k _ _ (by omega) (by omega) s
              · intro hc9
                exact absurd hc9 (by decide)
        · intro hc10
          refine BX13_happens_109  ?_
          (rw [if_neg (by omega)] at k; exact k _ _ (by omega) (by omega) s)
      · intro hc11
        (exfalso; omega)
    · intro hc12
      (exfalso; omega)
  rw [if_neg z2, ← em1, ← em2] at k
  refine BX13_happens_0 (by first | omega | (rw [fset_at]; omega) | (simp only [Ls_len]; omega) | assumption | exact Ls_get (by omega) (by omega) | exact up_at _ _ _ | rfl | decide) ?_ ?_
  · intro hc1
    refine BX13_happens_26 (by first | omega | (rw [fset_at]; omega) | (simp only [Ls_len]; omega) | assumption | exact Ls_get (by omega) (by omega) | exact up_at _ _ _ | rfl | decide) ?_ ?_
    · intro hc2
      (exfalso; omega)
    · intro hc3
      refine BX13_happens_34 (by first | assumption | exact up_at _ _ _ | (rw [up_ne (by omega)]; first | assumption | exact up_at _ _ _ | (rw [up_ne (by omega)]; assumption))) (by rfl) (by first | assumption | exact up_at _ _ _ | (rw [up_ne (by omega)]; first | assumption | exact up_at _ _ _ | (rw [up_ne (by omega)]; assumption))) (by first | exact Ls_get (by omega) (by omega) | assumption) ?_ ?_
      · intro hc4
        refine BX13_happens_98  ?_
        first
        | (rw [if_neg (by omega)] at k; exact k _ _ (by omega) (by omega) s)
        | (rw [if_pos (by omega)] at k
           unfold sToss at k
           first
           | (rw [if_pos (show tossB W (Int.tmod x (M 1 0)) (Int.tmod (x / 6) (M 1 0)) (1 + x % 30) = true from decide_eq_true (by omega)), st0] at k; exact k _ _ (by omega) (by omega) s95)
           | (rw [if_neg (show ¬ tossB W (Int.tmod x (M 1 0)) (Int.tmod (x / 6) (M 1 0)) (1 + x % 30) = true from fun q => by have q1 := of_decide_eq_true q; omega)] at k; exact k _ _ (by omega) (by omega) s))
      · intro hc5
        refine BX13_happens_43 (by first | assumption | exact up_at _ _ _ | (rw [up_ne (by omega)]; first | assumption | exact up_at _ _ _ | (rw [up_ne (by omega)]; assumption))) (by rfl) (by first | assumption | exact up_at _ _ _ | (rw [up_ne (by omega)]; first | assumption | exact up_at _ _ _ | (rw [up_ne (by omega)]; assumption))) (by first | exact Ls_get (by omega) (by omega) | assumption) (by first | omega | (rw [fset_at]; omega) | (simp only [Ls_len]; omega) | assumption | exact Ls_get (by omega) (by omega) | exact up_at _ _ _ | rfl | decide) (by first | omega | (rw [fset_at]; omega) | (simp only [Ls_len]; omega) | assumption | exact Ls_get (by omega) (by omega) | exact up_at _ _ _ | rfl | decide) (by first | omega | (rw [fset_at]; omega) | (simp only [Ls_len]; omega) | assumption | exact Ls_get (by omega) (by omega) | exact up_at _ _ _ | rfl | decide) ?_
        refine R_X13_canToss (by first | omega | (rw [fset_at]; omega) | (simp only [Ls_len]; omega) | assumption | exact Ls_get (by omega) (by omega) | exact up_at _ _ _ | rfl | decide) ?_ ?_
        · intro c1 c2 c3 c4 c5 c6
          refine BX13_happens_66  ?_ ?_
          · intro hc6
            exact absurd hc6 (by decide)
          · intro hc7
            refine BX13_happens_69 (by first | assumption | exact up_at _ _ _ | (rw [up_ne (by omega)]; first | assumption | exact up_at _ _ _ | (rw [up_ne (by omega)]; assumption))) (by rfl) (by first | assumption | exact up_at _ _ _ | (rw [up_ne (by omega)]; first | assumption | exact up_at _ _ _ | (rw [up_ne (by omega)]; assumption))) (by first | exact Ls_get (by omega) (by omega) | assumption) (by first | omega | (rw [fset_at]; omega) | (simp only [Ls_len]; omega) | assumption | exact Ls_get (by omega) (by omega) | exact up_at _ _ _ | rfl | decide) (by first | omega | (rw [fset_at]; omega) | (simp only [Ls_len]; omega) | assumption | exact Ls_get (by omega) (by omega) | exact up_at _ _ _ | rfl | decide) (by first | omega | (rw [fset_at]; omega) | (simp only [Ls_len]; omega) | assumption | exact Ls_get (by omega) (by omega) | exact up_at _ _ _ | rfl | decide) (by first | omega | (rw [fset_at]; omega) | (simp only [Ls_len]; omega) | assumption | exact Ls_get (by omega) (by omega) | exact up_at _ _ _ | rfl | decide) ?_
            refine R_X13_tossNow (by first | omega | (rw [fset_at]; omega) | (simp only [Ls_len]; omega) | assumption | exact Ls_get (by omega) (by omega) | exact up_at _ _ _ | rfl | decide) (by first | omega | (rw [fset_at]; omega) | (simp only [Ls_len]; omega) | assumption | exact Ls_get (by omega) (by omega) | exact up_at _ _ _ | rfl | decide) (by first | omega | (rw [fset_at]; omega) | (simp only [Ls_len]; omega) | assumption | exact Ls_get (by omega) (by omega) | exact up_at _ _ _ | rfl | decide) (by first | omega | (rw [fset_at]; omega) | (simp only [Ls_len]; omega) | assumption | exact Ls_get (by omega) (by omega) | exact up_at _ _ _ | rfl | decide) ?_
            intro h95 s95
            refine BX13_happens_98  ?_
            first
            | (rw [if_neg (by omega)] at k; exact k _ _ (by omega) (by omega) s)
            | (rw [if_pos (by omega)] at k
               unfold sToss at k
               first
               | (rw [if_pos (show tossB W (Int.tmod x (M 1 0)) (Int.tmod (x / 6) (M 1 0)) (1 + x % 30) = true from decide_eq_true (by omega)), st0] at k; exact k _ _ (by omega) (by omega) s95)
               | (rw [if_neg (show ¬ tossB W (Int.tmod x (M 1 0)) (Int.tmod (x / 6) (M 1 0)) (1 + x % 30) = true from fun q => by have q1 := of_decide_eq_true q; omega)] at k; exact k _ _ (by omega) (by omega) s))
        · intro c7
          refine BX13_happens_66  ?_ ?_
          · intro hc8
            refine BX13_happens_98  ?_
            first
            | (rw [if_neg (by omega)] at k; exact k _ _ (by omega) (by omega) s)
            | (rw [if_pos (by omega)] at k
               unfold sToss at k
               first
               | (rw [if_pos (show tossB W (Int.tmod x (M 1 0)) (Int.tmod (x / 6) (M 1 0)) (1 + x % 30) = true from decide_eq_true (by omega)), st0] at k; exact k _ _ (by omega) (by omega) s95)
               | (rw [if_neg (show ¬ tossB W (Int.tmod x (M 1 0)) (Int.tmod (x / 6) (M 1 0)) (1 + x % 30) = true from fun q => by have q1 := of_decide_eq_true q; omega)] at k; exact k _ _ (by omega) (by omega) s))
          · intro hc9
            exact absurd hc9 (by decide)
  · intro hc10
    (exfalso; omega)
theorem M_years {z m : Int} (s : IsMo g h W V X F B 1 cm) (ok : okW W) (c0 : 0 ≤ cm) (c1 : cm < 800000) (k : ∀ h1 c2, cm ≤ c2 → c2 ≤ cm + 480 → IsMo g h1 (sYears X W z m) V X F B 1 c2 → Q (some (vI (aYears X W z m))) h1 n) : Rn (d + 30) bc bs mX13_years 0 [some (vR (some 301)), some (vI z), some (vI m), none, none] [] h n Q := by
  unfold aYears sYears at k
  have loop : (0 ≤ z ∧ z ≤ 9999 ∧ 1 ≤ m ∧ m ≤ 40) → ∀ (j i : Nat) (h1 : aH) (c2 : Int) (l4 : Option aV), (i : Int) + j = m → cm ≤ c2 → c2 ≤ cm + 12 * i → IsMo g h1 (yearsM X (seedW W z) i) V X F B 1 c2 → Rn (d + 30) bc bs mX13_years 43 [some (vR (some 301)), some (vI z), some (vI m), some (vI (i : Int)), l4] [] h1 n Q := by
    intro hz j
    rw [if_pos hz, if_pos hz] at k
    induction j with
    | zero =>
      intro i h1 c2 l4 hi c3 c4 s1
      have e9 : i = m.toNat := by omega
      subst e9
      obtain ⟨M, e, t⟩ := id s1
      have m0 := e.o
      have m1 := e.a1
      have te1 : M 1 7 = yearsM X (seedW W z) m.toNat 1 73 := t.1.1.2.1.1
      refine BX13_years_43  ?_ ?_
      · intro hc1
        first
        | (exfalso; omega)
        | (
            refine BX13_years_73 (by first | assumption | exact up_at _ _ _ | (rw [up_ne (by omega)]; first | assumption | exact up_at _ _ _ | (rw [up_ne (by omega)]; assumption))) (by rfl) (by first | assumption | exact up_at _ _ _ | (rw [up_ne (by omega)]; first | assumption | exact up_at _ _ _ | (rw [up_ne (by omega)]; assumption))) (by first | exact Ls_get (by omega) (by omega) | assumption) ?_
            (rw [te1]; exact k _ _ c3 (by omega) s1)
          )
      · intro hc2
        first
        | (exfalso; omega)
        | (
            (exfalso; omega)
          )
    | succ j ih =>
      intro i h1 c2 l4 hi c3 c4 s1
      have oky := okW_years (X := X) (okW_seed (z := z) ok (by omega) (by omega)) i
      have ok1 := okW_dr oky
      have q1 := oky.2.1.1
      have os := oky.2.1
      obtain ⟨M, e, t⟩ := id s1
      have m0 := e.o
      have m1 := e.a1
      have te2 : M 1 8 = yearsM X (seedW W z) i 1 74 := t.1.1.2.1.2.1
      have ih1 := ih (i + 1)
      unfold yearsM at ih1
      rw [← te2] at ih1 q1
      refine BX13_years_43  ?_ ?_
      · intro hc1
        first
        | (exfalso; omega)
        | (
            refine BX13_years_73 (by first | assumption | exact up_at _ _ _ | (rw [up_ne (by omega)]; first | assumption | exact up_at _ _ _ | (rw [up_ne (by omega)]; assumption))) (by rfl) (by first | assumption | exact up_at _ _ _ | (rw [up_ne (by omega)]; first | assumption | exact up_at _ _ _ | (rw [up_ne (by omega)]; assumption))) (by first | exact Ls_get (by omega) (by omega) | assumption) ?_
            (exfalso; omega)
          )
      · intro hc2
        first
        | (exfalso; omega)
        | (
            refine BX13_years_48 (by first | assumption | exact up_at _ _ _ | (rw [up_ne (by omega)]; first | assumption | exact up_at _ _ _ | (rw [up_ne (by omega)]; assumption))) (by rfl) (by first | assumption | exact up_at _ _ _ | (rw [up_ne (by omega)]; first | assumption | exact up_at _ _ _ | (rw [up_ne (by omega)]; assumption))) (by first | exact Ls_get (by omega) (by omega) | assumption) ?_
            refine R_X13_anew (by first | omega | (rw [fset_at]; omega) | (simp only [Ls_len]; omega) | assumption | exact Ls_get (by omega) (by omega) | exact up_at _ _ _ | rfl | decide) (by first | omega | (rw [fset_at]; omega) | (simp only [Ls_len]; omega) | assumption | exact Ls_get (by omega) (by omega) | exact up_at _ _ _ | rfl | decide) ?_
            intro h58 s58
            obtain ⟨_, e58, _⟩ := id s58
            have m0 := e58.o
            refine BX13_years_61 (by first | assumption | exact up_at _ _ _ | (rw [up_ne (by omega)]; first | assumption | exact up_at _ _ _ | (rw [up_ne (by omega)]; assumption))) ?_
            refine R_X13_happens (by first | omega | (rw [fset_at]; omega) | (simp only [Ls_len]; omega) | assumption | exact Ls_get (by omega) (by omega) | exact up_at _ _ _ | rfl | decide) (by first | omega | (rw [fset_at]; omega) | (simp only [Ls_len]; omega) | assumption | exact Ls_get (by omega) (by omega) | exact up_at _ _ _ | rfl | decide) (by first | omega | (rw [fset_at]; omega) | (simp only [Ls_len]; omega) | assumption | exact Ls_get (by omega) (by omega) | exact up_at _ _ _ | rfl | decide) (by first | omega | (rw [fset_at]; omega) | (simp only [Ls_len]; omega) | assumption | exact Ls_get (by omega) (by omega) | exact up_at _ _ _ | rfl | decide) (by first | omega | (rw [fset_at]; omega) | (simp only [Ls_len]; omega) | assumption | exact Ls_get (by omega) (by omega) | exact up_at _ _ _ | rfl | decide) (by first | omega | (rw [fset_at]; omega) | (simp only [Ls_len]; omega) | assumption | exact Ls_get (by omega) (by omega) | exact up_at _ _ _ | rfl | decide) ?_
            intro h64 c64 p64 q64 s64
            refine BX13_years_67 (by first | omega | (rw [fset_at]; omega) | (simp only [Ls_len]; omega) | assumption | exact Ls_get (by omega) (by omega) | exact up_at _ _ _ | rfl | decide) ?_
            exact ih1 _ _ _ (by omega) (by omega) (by omega) s64
          )
  obtain ⟨M, e, ⟨⟨ts, te, ty, ⟨t1, t2, t3⟩, tp⟩, tb⟩, ⟨tv, tvb⟩, tx, ⟨⟨tt1, tt2, tt3⟩, tt4⟩, wr0, cm0, on⟩ := id s; obtain ⟨on1, on2, on3, on4, on5, on6, on7, on8⟩ := id on; have tt : tTp M F := ⟨⟨tt1, tt2, tt3⟩, tt4⟩; have m0 := e.o; have m1 := e.a1; have m2 := e.a2; have m3 := e.a3; have m4 := e.a4; have ts1 := ts.1; obtain ⟨te1, te2, te3, te4⟩ := id te; obtain ⟨⟨ty1, ty2, ty3, ty4, ty5⟩, ty6, ty7, ty8, ty9⟩ := id ty
  refine BX13_years_0  ?_
  refine R_X13_isIn  ?_ ?_
  · intro w1 w2
    refine BX13_years_8  ?_ ?_
    · intro hc1
      exact absurd hc1 (by decide)
    · intro hc2
      refine BX13_years_11  ?_
      refine R_X13_isIn  ?_ ?_
      · intro w1 w2
        refine BX13_years_18  ?_ ?_
        · intro hc3
          refine BX13_years_23 (by first | assumption | exact up_at _ _ _ | (rw [up_ne (by omega)]; first | assumption | exact up_at _ _ _ | (rw [up_ne (by omega)]; assumption))) ?_
          refine R_X13_keep (by first | omega | (rw [fset_at]; omega) | (simp only [Ls_len]; omega) | assumption | exact Ls_get (by omega) (by omega) | exact up_at _ _ _ | rfl | decide) ?_
          intro h24 s24
          obtain ⟨M9, e9, t9⟩ := id s24
          have m0 := e9.o
          have m1 := e9.a1
          refine BX13_years_27 (by first | assumption | exact up_at _ _ _ | (rw [up_ne (by omega)]; first | assumption | exact up_at _ _ _ | (rw [up_ne (by omega)]; assumption))) (by rfl) (by first | omega | (rw [fset_at]; omega) | (simp only [Ls_len]; omega) | assumption | exact Ls_get (by omega) (by omega) | exact up_at _ _ _ | rfl | decide) (by first | omega | (rw [fset_at]; omega) | (simp only [Ls_len]; omega) | assumption | exact Ls_get (by omega) (by omega) | exact up_at _ _ _ | rfl | decide) (by first | assumption | exact up_at _ _ _ | (rw [up_ne (by omega)]; first | assumption | exact up_at _ _ _ | (rw [up_ne (by omega)]; assumption))) (by first | omega | (rw [fset_at]; omega) | (simp only [Ls_len]; omega) | assumption | exact Ls_get (by omega) (by omega) | exact up_at _ _ _ | rfl | decide) (by first | omega | (rw [fset_at]; omega) | (simp only [Ls_len]; omega) | assumption | exact Ls_get (by omega) (by omega) | exact up_at _ _ _ | rfl | decide) ?_
          try rw [Ls_set (by omega)]
          refine BX13_years_41  ?_
          have te := t9.1.1.2.1
          have o9 := t9.2.2.2.2.2.2
          obtain ⟨o91, o92, o93, o94, o95, o96, o97, o98⟩ := id o9
          have s9 := mkS (S := fset (keepM W 1) 74 (z * 2 + 227)) e9 t9 (A := fset (M9 1) 8 (z * 2 + 227)) (fun i hi => fset_ne (by omega)) ⟨?_, ?_, ?_, fun b w b0 b1 w0 w1 => ?_⟩ (fset_ne (by omega)) (fun j j0 => bk_ne (by omega) j0) (by simp (disch := omega) only [fset_ne, fset_at]; omega)
          · exact loop ⟨by omega, by omega, by omega, by omega⟩ m.toNat 0 _ cm _ (by omega) (by omega) (by omega) s9
          · rw [fset_ne (by omega), fset_ne (by omega)]; exact te.1
          · rw [fset_at, fset_at]
          · rw [fset_ne (by omega), fset_ne (by omega)]; exact te.2.2.1
          · rw [fset_ne (by omega)] at b1; rw [fset_ne (by omega), fset_ne (by omega)]; exact te.2.2.2 b w b0 b1 w0 w1
        · intro hc4
          exact absurd hc4 (by decide)
      · intro w3
        refine BX13_years_18  ?_ ?_
        · intro hc5
          exact absurd hc5 (by decide)
        · intro hc6
          refine BX13_years_21  ?_
          (rw [if_neg (by omega), if_neg (by omega)] at k; exact k _ _ (by omega) (by omega) s)
  · intro w3
    refine BX13_years_8  ?_ ?_
    · intro hc7
      refine BX13_years_21  ?_
      (rw [if_neg (by omega), if_neg (by omega)] at k; exact k _ _ (by omega) (by omega) s)
    · intro hc8
      exact absurd hc8 (by decide)
theorem R_X13_setAside {l1 : Option aV} (s : IsMo g h W V X F B 1 cm) (k : ∀ h1 A, tSe A (W 1) → A 10 = W 1 75 → IsMo g h1 W V X F (asB A (W 1)) 0 cm → Q none h1 n) : Rn d bc bs mX13_setAside 0 [some (vR (some 301)), l1] [] h n Q := by
  obtain ⟨M, e, t⟩ := id s
  obtain ⟨⟨ta, tb⟩, tv, tx, tt, wr0, cm0, on⟩ := id t
  rw [if_pos rfl] at tb
  have fin : ∀ (h1 : aH) (G : Int → Int), IsM g h1 (fset M 9 G) → (∀ i, 7 ≤ i → i < 83 → G i = M 1 i) → IsMo g (up h1 301 (cO 13 (List.set (mf (M 0)) 23 (vI 0)))) W V X F (asB (M 1) (W 1)) 0 cm := by
    intro h1 G e1 hG
    have e2 := e1.fld (F := fset (M 0) 23 0)
    refine ⟨fset (fset M 9 G) 0 (fset (M 0) 23 0), by rw [mfs_23]; exact e2, ⟨ta, ?_⟩, tv, tx, tt, ⟨(show fset (M 0) 23 0 23 = 0 from fset_at _ _ _), fun _ i i0 i1 => ?_⟩, cm0, on⟩
    · show tBk (M 1) (if (0 : Int) = 1 then W 1 else asB (M 1) (W 1))
      rw [if_neg (by decide)]
      have on3 := on.2.2.1
      refine ⟨by rw [tb.1]; unfold asB; rw [if_neg (by decide)], fun l l0 l1 => ?_⟩
      have l1 : l < W 1 75 := by unfold asB at l1; rw [if_neg (by decide)] at l1; exact l1
      have z := tb.2 l l0 l1
      unfold pkE bk at z ⊢
      unfold asB
      rw [if_neg (by omega), if_neg (by omega), if_neg (by omega), if_neg (by omega)]
      exact z
    · show G i = asB (M 1) (W 1) (1000 + i)
      unfold asB
      rw [if_pos (by omega), hG i i0 i1]
      congr 1; omega
  have loop : ∀ (j : Nat) (i : Int) (h1 : aH) (G : Int → Int), 7 ≤ i → i + j = 83 → IsM g h1 (fset M 9 G) → (∀ u, 7 ≤ u → u < i → G u = M 1 u) → Rn d bc bs mX13_setAside 3 [some (vR (some 301)), some (vI i)] [] h1 n Q := by
    intro j
    induction j with
    | zero =>
      intro i h1 G i0 ij e1 hG
      have m0 : h1 301 = cO 13 (mf (M 0)) := e1.o
      refine BX13_setAside_3  ?_ ?_
      · intro hc1
        first
        | (exfalso; omega)
        | (
            refine BX13_setAside_27 (by first | assumption | exact up_at _ _ _ | (rw [up_ne (by omega)]; first | assumption | exact up_at _ _ _ | (rw [up_ne (by omega)]; assumption))) (by unfold mf; simp) ?_
            refine BX13_setAside_32  ?_
            exact k _ _ ta.2.1 tb.1 (fin h1 G e1 (fun u u0 u1 => hG u u0 (by omega)))
          )
      · intro hc2
        first
        | (exfalso; omega)
        | (
            (exfalso; omega)
          )
    | succ j ih =>
      intro i h1 G i0 ij e1 hG
      have m0 : h1 301 = cO 13 (mf (M 0)) := e1.o
      have m1 : h1 302 = cI (Ls 3389 (M 1)) := e1.a1
      have m9 : h1 310 = cI (Ls 83 G) := e1.a9
      have e2 := e1.s9 (f := fset G i (M 1 i))
      rw [fset2] at e2
      refine BX13_setAside_3  ?_ ?_
      · intro hc1
        first
        | (exfalso; omega)
        | (
            (exfalso; omega)
          )
      · intro hc2
        first
        | (exfalso; omega)
        | (
            refine BX13_setAside_9 (by first | assumption | exact up_at _ _ _ | (rw [up_ne (by omega)]; first | assumption | exact up_at _ _ _ | (rw [up_ne (by omega)]; assumption))) (by rfl) (by rfl) (by first | assumption | exact up_at _ _ _ | (rw [up_ne (by omega)]; first | assumption | exact up_at _ _ _ | (rw [up_ne (by omega)]; assumption))) (by first | omega | (rw [fset_at]; omega) | (simp only [Ls_len]; omega) | assumption | exact Ls_get (by omega) (by omega) | exact up_at _ _ _ | rfl | decide) (by first | exact Ls_get (by omega) (by omega) | assumption) (by first | assumption | exact up_at _ _ _ | (rw [up_ne (by omega)]; first | assumption | exact up_at _ _ _ | (rw [up_ne (by omega)]; assumption))) (by first | omega | (rw [fset_at]; omega) | (simp only [Ls_len]; omega) | assumption | exact Ls_get (by omega) (by omega) | exact up_at _ _ _ | rfl | decide) (by first | omega | (rw [fset_at]; omega) | (simp only [Ls_len]; omega) | assumption | exact Ls_get (by omega) (by omega) | exact up_at _ _ _ | rfl | decide) ?_
            try rw [Ls_set (by omega)]
            refine BX13_setAside_21 (by first | omega | (rw [fset_at]; omega) | (simp only [Ls_len]; omega) | assumption | exact Ls_get (by omega) (by omega) | exact up_at _ _ _ | rfl | decide) ?_
            refine ih _ _ _ (by omega) (by omega) e2 (fun u u0 u1 => ?_)
            by_cases q : u = i
            · subst q; exact fset_at _ _ _
            · rw [fset_ne q]; exact hG u u0 (by omega)
          )
  refine BX13_setAside_0  ?_
  exact loop 76 7 h (M 9) (by decide) (by decide) (by rw [fset_id]; exact e) (fun u u0 u1 => by omega)
theorem R_X13_putBack {A S : Int → Int} {l1 : Option aV} (s : IsMo g h (fset W 1 S) V X F (asB A (W 1)) 0 cm) (tA : tSe A (W 1)) (a10 : A 10 = W 1 75) (on1 : okN W) (k : ∀ h1, (∀ B, IsMo g h1 W V X F B 1 cm) → Q none h1 n) : Rn d bc bs mX13_putBack 0 [some (vR (some 301)), l1] [] h n Q := by
  obtain ⟨M, e, t⟩ := id s
  obtain ⟨⟨ta, tb⟩, tv, tx, tt, wr0, cm0, on⟩ := id t
  rw [if_neg (by decide)] at tb
  have hB := wr0.2 rfl
  have hB2 : ∀ i, 7 ≤ i → i < 83 → M 9 i = A i := fun i i0 i1 => by
    rw [hB i i0 i1]; unfold asB; rw [if_pos (by omega)]; congr 1; omega
  have fin : ∀ (B : Int → Int) (h1 : aH) (A2 : Int → Int), IsM g h1 (fset M 1 A2) → (∀ i, 7 ≤ i → i < 83 → A2 i = A i) → (∀ i, (i < 7 ∨ 83 ≤ i) → A2 i = M 1 i) → IsMo g (up h1 301 (cO 13 (List.set (mf (M 0)) 23 (vI 1)))) W V X F B 1 cm := by
    intro B h1 A2 e1 h2 h3
    have e2 := e1.fld (F := fset (M 0) 23 1)
    have on3 := on1.2.2.1
    have z := ta.sea (A2 := A2) (S := W 1) (fun i hi => h3 i (by omega)) (tA.cong on1.2.1.2 (fun i i0 i1 _ => h2 i i0 i1) (fun _ _ => rfl)) on
    rw [fset2, fset_id] at z
    refine ⟨fset (fset M 1 A2) 0 (fset (M 0) 23 1), by rw [mfs_23]; exact e2, ⟨z, ?_⟩, tv, tx, tt, ⟨(show fset (M 0) 23 1 23 = 1 from fset_at _ _ _), fun q => absurd q (by decide)⟩, cm0, on1⟩
    show tBk A2 (if (1 : Int) = 1 then W 1 else B)
    rw [if_pos rfl]
    refine ⟨(h2 10 (by decide) (by decide)).trans a10, fun l l0 l1 => ?_⟩
    rw [h3 _ (by omega)]
    have z2 := tb.2 l l0 (by unfold asB; rw [if_neg (by decide)]; exact l1)
    unfold pkE bk at z2 ⊢
    unfold asB at z2
    rw [if_neg (by omega), if_neg (by omega), if_neg (by omega), if_neg (by omega)] at z2
    exact z2
  have loop : ∀ (j : Nat) (i : Int) (h1 : aH) (A2 : Int → Int), 7 ≤ i → i + j = 83 → IsM g h1 (fset M 1 A2) → (∀ u, 7 ≤ u → u < i → A2 u = A u) → (∀ u, (u < 7 ∨ 83 ≤ u) → A2 u = M 1 u) → Rn d bc bs mX13_putBack 3 [some (vR (some 301)), some (vI i)] [] h1 n Q := by
    intro j
    induction j with
    | zero =>
      intro i h1 A2 i0 ij e1 h2 h3
      have m0 : h1 301 = cO 13 (mf (M 0)) := e1.o
      refine BX13_putBack_3  ?_ ?_
      · intro hc1
        first
        | (exfalso; omega)
        | (
            refine BX13_putBack_27 (by first | assumption | exact up_at _ _ _ | (rw [up_ne (by omega)]; first | assumption | exact up_at _ _ _ | (rw [up_ne (by omega)]; assumption))) (by unfold mf; simp) ?_
            refine BX13_putBack_32  ?_
            exact k _ (fun B => fin B h1 A2 e1 (fun u u0 u1 => h2 u u0 (by omega)) h3)
          )
      · intro hc2
        first
        | (exfalso; omega)
        | (
            (exfalso; omega)
          )
    | succ j ih =>
      intro i h1 A2 i0 ij e1 h2 h3
      have m0 : h1 301 = cO 13 (mf (M 0)) := e1.o
      have m1 : h1 302 = cI (Ls 3389 A2) := e1.a1
      have m9 : h1 310 = cI (Ls 83 (M 9)) := e1.a9
      have e2 := e1.s1 (f := fset A2 i (M 9 i))
      rw [fset2] at e2
      refine BX13_putBack_3  ?_ ?_
      · intro hc1
        first
        | (exfalso; omega)
        | (
            (exfalso; omega)
          )
      · intro hc2
        first
        | (exfalso; omega)
        | (
            refine BX13_putBack_9 (by first | assumption | exact up_at _ _ _ | (rw [up_ne (by omega)]; first | assumption | exact up_at _ _ _ | (rw [up_ne (by omega)]; assumption))) (by rfl) (by rfl) (by first | assumption | exact up_at _ _ _ | (rw [up_ne (by omega)]; first | assumption | exact up_at _ _ _ | (rw [up_ne (by omega)]; assumption))) (by first | omega | (rw [fset_at]; omega) | (simp only [Ls_len]; omega) | assumption | exact Ls_get (by omega) (by omega) | exact up_at _ _ _ | rfl | decide) (by first | exact Ls_get (by omega) (by omega) | assumption) (by first | assumption | exact up_at _ _ _ | (rw [up_ne (by omega)]; first | assumption | exact up_at _ _ _ | (rw [up_ne (by omega)]; assumption))) (by first | omega | (rw [fset_at]; omega) | (simp only [Ls_len]; omega) | assumption | exact Ls_get (by omega) (by omega) | exact up_at _ _ _ | rfl | decide) (by first | omega | (rw [fset_at]; omega) | (simp only [Ls_len]; omega) | assumption | exact Ls_get (by omega) (by omega) | exact up_at _ _ _ | rfl | decide) ?_
            try rw [Ls_set (by omega)]
            refine BX13_putBack_21 (by first | omega | (rw [fset_at]; omega) | (simp only [Ls_len]; omega) | assumption | exact Ls_get (by omega) (by omega) | exact up_at _ _ _ | rfl | decide) ?_
            refine ih _ _ _ (by omega) (by omega) e2 (fun u u0 u1 => ?_) (fun u hu => ?_)
            · by_cases q : u = i
              · subst q; rw [fset_at]; exact hB2 u u0 (by omega)
              · rw [fset_ne q]; exact h2 u u0 (by omega)
            · rw [fset_ne (by omega)]; exact h3 u hu
          )
  refine BX13_putBack_0  ?_
  exact loop 76 7 h (M 1) (by decide) (by decide) (by rw [fset_id]; exact e) (fun u u0 u1 => by omega) (fun _ _ => rfl)
end YEARS3
