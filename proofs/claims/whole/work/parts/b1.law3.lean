/-! The reference: a law's clause worked off. -/
section LAW3
variable {d bc bs n : Nat} {g h : aH} {Q : aQ} {W V : Int → Int → Int} {X : Int → Tx} {F B : Int → Int} {wr cm : Int}
theorem R_X13_clip {x : Int} (k : Q (some (vL (lim x))) h n) : Rn d bc bs mX13_clip 0 [some (vL x), none] [] h n Q := by
  have e : lim x = max (-1000000) (min 1000000 x) := rfl
  refine BX13_clip_0  ?_ ?_
  · intro hc1
    refine BX13_clip_14  ?_ ?_
    · intro hc2
      refine BX13_clip_28  ?_
      (rw [show lim x = x by omega] at k; exact k)
    · intro hc3
      refine BX13_clip_22  ?_
      (rw [show lim x = -1000000 by omega] at k; exact k)
  · intro hc4
    refine BX13_clip_8  ?_
    (rw [show lim x = 1000000 by omega] at k; exact k)
theorem mul_bd {x y : Int} (x0 : okV x) (y0 : okV y) : -1000000000000 ≤ x * y ∧ x * y ≤ 1000000000000 := by
  obtain ⟨a, b⟩ := x0
  obtain ⟨c, e⟩ := y0
  have h1 := Int.mul_nonneg (show 0 ≤ 1000000 - x by omega) (show 0 ≤ 1000000 - y by omega)
  have h2 := Int.mul_nonneg (show 0 ≤ 1000000 + x by omega) (show 0 ≤ 1000000 + y by omega)
  have h3 := Int.mul_nonneg (show 0 ≤ 1000000 - x by omega) (show 0 ≤ 1000000 + y by omega)
  have h4 := Int.mul_nonneg (show 0 ≤ 1000000 + x by omega) (show 0 ≤ 1000000 - y by omega)
  rw [Int.sub_mul, Int.mul_sub, Int.mul_sub] at h1
  rw [Int.add_mul, Int.mul_add, Int.mul_add] at h2
  rw [Int.sub_mul, Int.mul_add, Int.mul_add] at h3
  rw [Int.add_mul, Int.mul_sub, Int.mul_sub] at h4
  omega
theorem tdiv_bd2 {x y : Int} (x0 : okV x) : -1000000 ≤ Int.tdiv x y ∧ Int.tdiv x y ≤ 1000000 := by
  obtain ⟨a, b⟩ := x0
  have z := Int.natAbs_tdiv_le_natAbs x y
  omega
theorem R_X13_two {o x y : Int} (x0 : okV x) (y0 : okV y) (k : Q (some (vL (mTwo o x y))) h n) : Rn (d + 1) bc bs mX13_two 0 [some (vI o), some (vL x), none, some (vL y), none] [] h n Q := by
  have m := mul_bd x0 y0
  have q := tdiv_bd2 (y := y) x0
  obtain ⟨xa, xb⟩ := id x0
  obtain ⟨ya, yb⟩ := id y0
  unfold mTwo at k
  refine BX13_two_0  ?_ ?_ ?_ ?_
  · intro hc1
    refine BX13_two_49  ?_ ?_
    · intro hc2
      refine BX13_two_59 (by first | omega | (rw [fset_at]; omega) | (simp only [Ls_len]; omega) | assumption | exact Ls_get (by omega) (by omega) | exact up_at _ _ _ | rfl | decide) (by first | omega | (rw [fset_at]; omega) | (simp only [Ls_len]; omega) | assumption | exact Ls_get (by omega) (by omega) | exact up_at _ _ _ | rfl | decide) ?_
      refine R_X13_clip  ?_
      refine BX13_two_65  ?_
      (rw [if_neg (by omega), if_neg (by omega), if_neg (by omega), if_neg (by omega)] at k; exact k)
    · intro hc3
      refine BX13_two_55  ?_
      (rw [if_neg (by omega), if_neg (by omega), if_neg (by omega), if_pos (by omega)] at k; exact k)
  · intro hc4
    refine BX13_two_28 (by first | omega | (rw [fset_at]; omega) | (simp only [Ls_len]; omega) | assumption | exact Ls_get (by omega) (by omega) | exact up_at _ _ _ | rfl | decide) ?_
    refine R_X13_clip  ?_
    refine BX13_two_34  ?_
    (rw [if_pos (by omega)] at k; exact k)
  · intro hc5
    refine BX13_two_35 (by first | omega | (rw [fset_at]; omega) | (simp only [Ls_len]; omega) | assumption | exact Ls_get (by omega) (by omega) | exact up_at _ _ _ | rfl | decide) ?_
    refine R_X13_clip  ?_
    refine BX13_two_41  ?_
    (rw [if_neg (by omega), if_pos (by omega)] at k; exact k)
  · intro hc6
    refine BX13_two_42 (by first | omega | (rw [fset_at]; omega) | (simp only [Ls_len]; omega) | assumption | exact Ls_get (by omega) (by omega) | exact up_at _ _ _ | rfl | decide) ?_
    refine R_X13_clip  ?_
    refine BX13_two_48  ?_
    (rw [if_neg (by omega), if_neg (by omega), if_pos (by omega)] at k; exact k)
theorem R_X13_isAsked {o x y : Int} (k : Q (some (vI (mAsk o x y))) h n) : Rn d bc bs mX13_isAsked 0 [some (vI o), some (vL x), none, some (vL y), none] [] h n Q := by
  unfold mAsk at k
  refine BX13_isAsked_0  ?_ ?_
  · intro hc1
    refine BX13_isAsked_20  ?_ ?_
    · intro hc2
      refine BX13_isAsked_40  ?_ ?_
      · intro hc3
        refine BX13_isAsked_60  ?_ ?_
        · intro hc4
          refine BX13_isAsked_80  ?_ ?_
          · intro hc5
            refine BX13_isAsked_100  ?_ ?_
            · intro hc6
              refine BX13_isAsked_110  ?_
              (rw [if_neg (by omega), if_neg (by omega), if_neg (by omega), if_neg (by omega), if_neg (by omega), if_pos (by omega)] at k; exact k)
            · intro hc7
              refine BX13_isAsked_106  ?_
              (rw [if_neg (by omega), if_neg (by omega), if_neg (by omega), if_neg (by omega), if_neg (by omega), if_neg (by omega)] at k; exact k)
          · intro hc8
            refine BX13_isAsked_86  ?_ ?_
            · intro hc9
              refine BX13_isAsked_96  ?_
              (rw [if_neg (by omega), if_neg (by omega), if_neg (by omega), if_neg (by omega), if_pos (by omega), if_neg (by omega)] at k; exact k)
            · intro hc10
              refine BX13_isAsked_92  ?_
              (rw [if_neg (by omega), if_neg (by omega), if_neg (by omega), if_neg (by omega), if_pos (by omega), if_pos (by omega)] at k; exact k)
        · intro hc11
          refine BX13_isAsked_66  ?_ ?_
          · intro hc12
            refine BX13_isAsked_76  ?_
            (rw [if_neg (by omega), if_neg (by omega), if_neg (by omega), if_pos (by omega), if_neg (by omega)] at k; exact k)
          · intro hc13
            refine BX13_isAsked_72  ?_
            (rw [if_neg (by omega), if_neg (by omega), if_neg (by omega), if_pos (by omega), if_pos (by omega)] at k; exact k)
      · intro hc14
        refine BX13_isAsked_46  ?_ ?_
        · intro hc15
          refine BX13_isAsked_56  ?_
          (rw [if_neg (by omega), if_neg (by omega), if_pos (by omega), if_neg (by omega)] at k; exact k)
        · intro hc16
          refine BX13_isAsked_52  ?_
          (rw [if_neg (by omega), if_neg (by omega), if_pos (by omega), if_pos (by omega)] at k; exact k)
    · intro hc17
      refine BX13_isAsked_26  ?_ ?_
      · intro hc18
        refine BX13_isAsked_36  ?_
        (rw [if_neg (by omega), if_pos (by omega), if_neg (by omega)] at k; exact k)
      · intro hc19
        refine BX13_isAsked_32  ?_
        (rw [if_neg (by omega), if_pos (by omega), if_pos (by omega)] at k; exact k)
  · intro hc20
    refine BX13_isAsked_6  ?_ ?_
    · intro hc21
      refine BX13_isAsked_16  ?_
      (rw [if_pos (by omega), if_neg (by omega)] at k; exact k)
    · intro hc22
      refine BX13_isAsked_12  ?_
      (rw [if_pos (by omega), if_pos (by omega)] at k; exact k)
theorem R_X13_laterBy {x y : Int} {l4 l5 : Option aV} (x0 : okV x) (y0 : okV y) (k : Q (some (vL (lim (max 0 (x - y))))) h n) : Rn d bc bs mX13_laterBy 0 [some (vL x), none, some (vL y), none, l4, l5] [] h n Q := by
  obtain ⟨xa, xb⟩ := id x0
  obtain ⟨ya, yb⟩ := id y0
  have e : lim (max 0 (x - y)) = max (-1000000) (min 1000000 (max 0 (x - y))) := rfl
  refine BX13_laterBy_0 (by first | omega | (rw [fset_at]; omega) | (simp only [Ls_len]; omega) | assumption | exact Ls_get (by omega) (by omega) | exact up_at _ _ _ | rfl | decide) ?_ ?_
  · intro hc1
    refine BX13_laterBy_16  ?_ ?_
    · intro hc2
      refine BX13_laterBy_31  ?_
      (rw [show lim (max 0 (x - y)) = x - y by omega] at k; exact k)
    · intro hc3
      refine BX13_laterBy_25  ?_
      (rw [show lim (max 0 (x - y)) = 1000000 by omega] at k; exact k)
  · intro hc4
    refine BX13_laterBy_12  ?_
    (rw [show lim (max 0 (x - y)) = 0 by omega] at k; exact k)
theorem R_X13_joined {o t u : Int} (k : Q (some (vI (mJn o t u))) h n) : Rn d bc bs mX13_joined 0 [some (vI o), some (vI t), some (vI u)] [] h n Q := by
  unfold mJn at k
  refine BX13_joined_0  ?_ ?_
  · intro hc1
    refine BX13_joined_22  ?_ ?_
    · intro hc2
      refine BX13_joined_30  ?_
      (rw [if_neg (by omega)] at k; first | (rw [if_neg (by omega)] at k; exact k) | (rw [if_pos (by omega), if_neg (by omega)] at k; exact k))
    · intro hc3
      refine BX13_joined_26  ?_ ?_
      · intro hc4
        refine BX13_joined_34  ?_
        (rw [if_neg (by omega), if_pos (by omega), if_pos (by omega)] at k; exact k)
      · intro hc5
        refine BX13_joined_30  ?_
        (rw [if_neg (by omega)] at k; first | (rw [if_neg (by omega)] at k; exact k) | (rw [if_pos (by omega), if_neg (by omega)] at k; exact k))
  · intro hc6
    refine BX13_joined_6  ?_ ?_
    · intro hc7
      refine BX13_joined_18  ?_
      (rw [if_pos (by omega)] at k; first | (rw [if_pos (by omega)] at k; exact k) | (rw [if_neg (by omega), if_pos (by omega)] at k; exact k))
    · intro hc8
      refine BX13_joined_10  ?_ ?_
      · intro hc9
        refine BX13_joined_18  ?_
        (rw [if_pos (by omega)] at k; first | (rw [if_pos (by omega)] at k; exact k) | (rw [if_neg (by omega), if_pos (by omega)] at k; exact k))
      · intro hc10
        refine BX13_joined_14  ?_
        (rw [if_pos (by omega), if_neg (by omega), if_neg (by omega)] at k; exact k)
theorem R_X13_placesOf {p : Int} (s : IsMo g h W V X F B wr cm) (p0 : okV p) (k : Q (some (vL (atP (W 3 3) (W 0) p))) h n) : Rn (d + 1) bc bs mX13_placesOf 0 [some (vR (some 301)), some (vL p), none] [] h n Q := by
  obtain ⟨M, e, ⟨⟨ts, te, ty, ⟨t1, t2, t3⟩, tp⟩, tb⟩, ⟨tv, tvb⟩, tx, ⟨⟨tt1, tt2, tt3⟩, tt4⟩, wr0, cm0, on⟩ := id s; obtain ⟨on1, on2, on3, on4, on5, on6, on7, on8⟩ := id on; have tt : tTp M F := ⟨⟨tt1, tt2, tt3⟩, tt4⟩; have m0 := e.o; have m1 := e.a1; have m2 := e.a2; have m3 := e.a3; have m4 := e.a4; have ts1 := ts.1; obtain ⟨te1, te2, te3, te4⟩ := id te; obtain ⟨⟨ty1, ty2, ty3, ty4, ty5⟩, ty6, ty7, ty8, ty9⟩ := id ty
  obtain ⟨xa, xb⟩ := id p0
  unfold atP at k
  refine BX13_placesOf_0  ?_ ?_
  · intro hc1
    refine BX13_placesOf_29  ?_
    (rw [if_neg (by omega)] at k; exact k)
  · intro hc2
    refine BX13_placesOf_6 (by first | assumption | exact up_at _ _ _ | (rw [up_ne (by omega)]; first | assumption | exact up_at _ _ _ | (rw [up_ne (by omega)]; assumption))) (by rfl) (by first | assumption | exact up_at _ _ _ | (rw [up_ne (by omega)]; first | assumption | exact up_at _ _ _ | (rw [up_ne (by omega)]; assumption))) (by first | exact Ls_get (by omega) (by omega) | assumption) ?_ ?_
    · intro hc3
      refine BX13_placesOf_29  ?_
      (rw [if_neg (by omega)] at k; exact k)
    · intro hc4
      refine BX13_placesOf_18 (by first | omega | (rw [fset_at]; omega) | (simp only [Ls_len]; omega) | assumption | exact Ls_get (by omega) (by omega) | exact up_at _ _ _ | rfl | decide) (by first | assumption | exact up_at _ _ _ | (rw [up_ne (by omega)]; first | assumption | exact up_at _ _ _ | (rw [up_ne (by omega)]; assumption))) ?_
      refine R_X13_ownP (by first | omega | (rw [fset_at]; omega) | (simp only [Ls_len]; omega) | assumption | exact Ls_get (by omega) (by omega) | exact up_at _ _ _ | rfl | decide) (by first | omega | (rw [fset_at]; omega) | (simp only [Ls_len]; omega) | assumption | exact Ls_get (by omega) (by omega) | exact up_at _ _ _ | rfl | decide) (by first | omega | (rw [fset_at]; omega) | (simp only [Ls_len]; omega) | assumption | exact Ls_get (by omega) (by omega) | exact up_at _ _ _ | rfl | decide) ?_
      refine BX13_placesOf_25  ?_
      (rw [if_pos (by omega)] at k; exact k)
theorem R_X13_cut {x lo hi : Int} (h0 : lo ≤ hi) (h1 : -2147483648 ≤ lo) (h2 : hi < 2147483648) (k : Q (some (vI (max lo (min hi x)))) h n) : Rn d bc bs mX13_cut 0 [some (vL x), none, some (vI lo), some (vI hi)] [] h n Q := by
  refine BX13_cut_0  ?_ ?_
  · intro hc1
    refine BX13_cut_11  ?_ ?_
    · intro hc2
      refine BX13_cut_22 (by first | omega | (rw [fset_at]; omega) | (simp only [Ls_len]; omega) | assumption | exact Ls_get (by omega) (by omega) | exact up_at _ _ _ | rfl | decide) ?_
      (rw [show max lo (min hi x) = x by omega] at k; exact k)
    · intro hc3
      refine BX13_cut_18  ?_
      (rw [show max lo (min hi x) = hi by omega] at k; exact k)
  · intro hc4
    refine BX13_cut_7  ?_
    (rw [show max lo (min hi x) = lo by omega] at k; exact k)
end LAW3
