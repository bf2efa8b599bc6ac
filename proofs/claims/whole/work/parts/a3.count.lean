/-! The reference: what is counted and told. -/
theorem or32_zero {x : Int} (h0 : 0 ≤ x) (h1 : x < 2147483648) : or32 x 0 = x := by
  rw [or32_nat h0 h1 (by decide) (by decide), show ((0 : Int)).toNat = 0 from rfl, Nat.or_zero]
  omega
section COUNT
variable {d bc bs n : Nat} {g h : aH} {Q : aQ} {W V : Int → Int → Int} {X : Int → Tx} {F B : Int → Int} {wr cm : Int}
theorem R_X13_withHow {p : Int} (s : IsMo g h W V X F B wr cm) (k : Q (some (vI (howN (W 1) p))) h n) : Rn (d + 1) bc bs mX13_withHow 0 [some (vR (some 301)), some (vI p), none, none] [] h n Q := by
  obtain ⟨M, e, ⟨⟨ts, te, ty, ⟨t1, t2, t3⟩, tp⟩, tb⟩, ⟨tv, tvb⟩, tx, ⟨⟨tt1, tt2, tt3⟩, tt4⟩, wr0, cm0, on⟩ := id s; obtain ⟨on1, on2, on3, on4, on5, on6, on7, on8⟩ := id on; have tt : tTp M F := ⟨⟨tt1, tt2, tt3⟩, tt4⟩; have m0 := e.o; have m1 := e.a1; have m2 := e.a2; have m3 := e.a3; have m4 := e.a4; have ts1 := ts.1; obtain ⟨te1, te2, te3, te4⟩ := id te; obtain ⟨⟨ty1, ty2, ty3, ty4, ty5⟩, ty6, ty7, ty8, ty9⟩ := id ty
  have loop : ∀ (m : Nat) (i : Nat), (i : Int) + m = W 1 72 → Rn (d + 1) bc bs mX13_withHow 4 [some (vR (some 301)), some (vI p), some (vI (bits (fun b => W 1 (b * 6 + 4) = p) i)), some (vI i)] [] h n Q := by
    intro m
    induction m with
    | zero =>
      intro i hi
      have e9 : i = (W 1 72).toNat := by omega
      refine BX13_withHow_4 (by first | assumption | exact up_at _ _ _ | (rw [up_ne (by omega)]; first | assumption | exact up_at _ _ _ | (rw [up_ne (by omega)]; assumption))) (by rfl) (by first | assumption | exact up_at _ _ _ | (rw [up_ne (by omega)]; first | assumption | exact up_at _ _ _ | (rw [up_ne (by omega)]; assumption))) (by first | exact Ls_get (by omega) (by omega) | assumption) ?_ ?_
      · intro hc1
        first
        | (exfalso; omega)
        | (
            refine BX13_withHow_41  ?_
            (rw [e9]; exact k)
          )
      · intro hc2
        first
        | (exfalso; omega)
        | (
            refine BX13_withHow_15 (by first | assumption | exact up_at _ _ _ | (rw [up_ne (by omega)]; first | assumption | exact up_at _ _ _ | (rw [up_ne (by omega)]; assumption))) ?_
            refine R_X13_get (by first | omega | (simp only [Ls_len]; omega) | assumption | exact Ls_get (by omega) (by omega) | rfl | decide) (by first | omega | (simp only [Ls_len]; omega) | assumption | exact Ls_get (by omega) (by omega) | rfl | decide) (by first | omega | (simp only [Ls_len]; omega) | assumption | exact Ls_get (by omega) (by omega) | rfl | decide) (by first | omega | (simp only [Ls_len]; omega) | assumption | exact Ls_get (by omega) (by omega) | rfl | decide) (by first | omega | (simp only [Ls_len]; omega) | assumption | exact Ls_get (by omega) (by omega) | rfl | decide) ?_
            refine BX13_withHow_22  ?_ ?_
            · intro hc3
              first
              | (exfalso; omega)
              | (
                  refine BX13_withHow_32 (by first | omega | (simp only [Ls_len]; omega) | assumption | exact Ls_get (by omega) (by omega) | rfl | decide) ?_
                  (exfalso; omega)
                )
            · intro hc4
              first
              | (exfalso; omega)
              | (
                  refine BX13_withHow_26 (by first | omega | (simp only [Ls_len]; omega) | assumption | exact Ls_get (by omega) (by omega) | rfl | decide) ?_
                  (exfalso; omega)
                )
          )
    | succ m ih =>
      intro i hi
      have c1 := bits_lt (fun b => W 1 (b * 6 + 4) = p) i
      have c2 := pow2_le (show i ≤ 12 by omega)
      have c3 : (2 : Int) ^ 12 = 4096 := by decide
      have ih1 := ih (i + 1) (by omega)
      rw [bits] at ih1
      refine BX13_withHow_4 (by first | assumption | exact up_at _ _ _ | (rw [up_ne (by omega)]; first | assumption | exact up_at _ _ _ | (rw [up_ne (by omega)]; assumption))) (by rfl) (by first | assumption | exact up_at _ _ _ | (rw [up_ne (by omega)]; first | assumption | exact up_at _ _ _ | (rw [up_ne (by omega)]; assumption))) (by first | exact Ls_get (by omega) (by omega) | assumption) ?_ ?_
      · intro hc1
        refine BX13_withHow_41  ?_
        (exfalso; omega)
      · intro hc2
        refine BX13_withHow_15 (by first | assumption | exact up_at _ _ _ | (rw [up_ne (by omega)]; first | assumption | exact up_at _ _ _ | (rw [up_ne (by omega)]; assumption))) ?_
        refine R_X13_get (by first | omega | (simp only [Ls_len]; omega) | assumption | exact Ls_get (by omega) (by omega) | rfl | decide) (by first | omega | (simp only [Ls_len]; omega) | assumption | exact Ls_get (by omega) (by omega) | rfl | decide) (by first | omega | (simp only [Ls_len]; omega) | assumption | exact Ls_get (by omega) (by omega) | rfl | decide) (by first | omega | (simp only [Ls_len]; omega) | assumption | exact Ls_get (by omega) (by omega) | rfl | decide) (by first | omega | (simp only [Ls_len]; omega) | assumption | exact Ls_get (by omega) (by omega) | rfl | decide) ?_
        refine BX13_withHow_22  ?_ ?_
        · intro hc3
          refine BX13_withHow_32 (by first | omega | (simp only [Ls_len]; omega) | assumption | exact Ls_get (by omega) (by omega) | rfl | decide) ?_
          first | (rw [if_pos (by simp_all), ← or_bit c1.1 c1.2 (by omega)] at ih1; exact ih1) | (rw [if_neg (by simp_all), Int.add_zero] at ih1; rw [or32_zero c1.1 (by omega)]; exact ih1)
        · intro hc4
          refine BX13_withHow_26 (by first | omega | (simp only [Ls_len]; omega) | assumption | exact Ls_get (by omega) (by omega) | rfl | decide) ?_
          first | (rw [if_pos (by simp_all), ← or_bit c1.1 c1.2 (by omega)] at ih1; exact ih1) | (rw [if_neg (by simp_all), Int.add_zero] at ih1; rw [or32_zero c1.1 (by omega)]; exact ih1)
  refine BX13_withHow_0  ?_
  exact loop (W 1 72).toNat 0 (by omega)
theorem R_X13_cameTo {p : Int} (s : IsMo g h W V X F B wr cm) (k : Q (some (vI (comeN (W 1) p))) h n) : Rn (d + 1) bc bs mX13_cameTo 0 [some (vR (some 301)), some (vI p), none, none] [] h n Q := by
  obtain ⟨M, e, ⟨⟨ts, te, ty, ⟨t1, t2, t3⟩, tp⟩, tb⟩, ⟨tv, tvb⟩, tx, ⟨⟨tt1, tt2, tt3⟩, tt4⟩, wr0, cm0, on⟩ := id s; obtain ⟨on1, on2, on3, on4, on5, on6, on7, on8⟩ := id on; have tt : tTp M F := ⟨⟨tt1, tt2, tt3⟩, tt4⟩; have m0 := e.o; have m1 := e.a1; have m2 := e.a2; have m3 := e.a3; have m4 := e.a4; have ts1 := ts.1; obtain ⟨te1, te2, te3, te4⟩ := id te; obtain ⟨⟨ty1, ty2, ty3, ty4, ty5⟩, ty6, ty7, ty8, ty9⟩ := id ty
  have loop : ∀ (m : Nat) (i : Nat), (i : Int) + m = W 1 72 → Rn (d + 1) bc bs mX13_cameTo 4 [some (vR (some 301)), some (vI p), some (vI (cnt (fun b => W 1 (b * 6 + 4) = 1 ∧ W 1 (b * 6 + 1) = p) i)), some (vI i)] [] h n Q := by
    intro m
    induction m with
    | zero =>
      intro i hi
      have e9 : i = (W 1 72).toNat := by omega
      refine BX13_cameTo_4 (by first | assumption | exact up_at _ _ _ | (rw [up_ne (by omega)]; first | assumption | exact up_at _ _ _ | (rw [up_ne (by omega)]; assumption))) (by rfl) (by first | assumption | exact up_at _ _ _ | (rw [up_ne (by omega)]; first | assumption | exact up_at _ _ _ | (rw [up_ne (by omega)]; assumption))) (by first | exact Ls_get (by omega) (by omega) | assumption) ?_ ?_
      · intro hc1
        first
        | (exfalso; omega)
        | (
            refine BX13_cameTo_49  ?_
            (rw [e9]; exact k)
          )
      · intro hc2
        first
        | (exfalso; omega)
        | (
            refine BX13_cameTo_15 (by first | assumption | exact up_at _ _ _ | (rw [up_ne (by omega)]; first | assumption | exact up_at _ _ _ | (rw [up_ne (by omega)]; assumption))) ?_
            refine R_X13_get (by first | omega | (simp only [Ls_len]; omega) | assumption | exact Ls_get (by omega) (by omega) | rfl | decide) (by first | omega | (simp only [Ls_len]; omega) | assumption | exact Ls_get (by omega) (by omega) | rfl | decide) (by first | omega | (simp only [Ls_len]; omega) | assumption | exact Ls_get (by omega) (by omega) | rfl | decide) (by first | omega | (simp only [Ls_len]; omega) | assumption | exact Ls_get (by omega) (by omega) | rfl | decide) (by first | omega | (simp only [Ls_len]; omega) | assumption | exact Ls_get (by omega) (by omega) | rfl | decide) ?_
            refine BX13_cameTo_22  ?_ ?_
            · intro hc3
              first
              | (exfalso; omega)
              | (
                  refine BX13_cameTo_40 (by first | omega | (simp only [Ls_len]; omega) | assumption | exact Ls_get (by omega) (by omega) | rfl | decide) (by first | omega | (simp only [Ls_len]; omega) | assumption | exact Ls_get (by omega) (by omega) | rfl | decide) ?_
                  (exfalso; omega)
                )
            · intro hc4
              first
              | (exfalso; omega)
              | (
                  refine BX13_cameTo_26 (by first | assumption | exact up_at _ _ _ | (rw [up_ne (by omega)]; first | assumption | exact up_at _ _ _ | (rw [up_ne (by omega)]; assumption))) ?_
                  refine R_X13_get (by first | omega | (simp only [Ls_len]; omega) | assumption | exact Ls_get (by omega) (by omega) | rfl | decide) (by first | omega | (simp only [Ls_len]; omega) | assumption | exact Ls_get (by omega) (by omega) | rfl | decide) (by first | omega | (simp only [Ls_len]; omega) | assumption | exact Ls_get (by omega) (by omega) | rfl | decide) (by first | omega | (simp only [Ls_len]; omega) | assumption | exact Ls_get (by omega) (by omega) | rfl | decide) (by first | omega | (simp only [Ls_len]; omega) | assumption | exact Ls_get (by omega) (by omega) | rfl | decide) ?_
                  refine BX13_cameTo_32  ?_ ?_
                  · intro hc5
                    first
                    | (exfalso; omega)
                    | (
                        refine BX13_cameTo_40 (by first | omega | (simp only [Ls_len]; omega) | assumption | exact Ls_get (by omega) (by omega) | rfl | decide) (by first | omega | (simp only [Ls_len]; omega) | assumption | exact Ls_get (by omega) (by omega) | rfl | decide) ?_
                        (exfalso; omega)
                      )
                  · intro hc6
                    first
                    | (exfalso; omega)
                    | (
                        refine BX13_cameTo_36 (by first | omega | (simp only [Ls_len]; omega) | assumption | exact Ls_get (by omega) (by omega) | rfl | decide) (by first | omega | (simp only [Ls_len]; omega) | assumption | exact Ls_get (by omega) (by omega) | rfl | decide) ?_
                        (exfalso; omega)
                      )
                )
          )
    | succ m ih =>
      intro i hi
      have c1 := cnt_ge (fun b => W 1 (b * 6 + 4) = 1 ∧ W 1 (b * 6 + 1) = p) i
      have ih1 := ih (i + 1) (by omega)
      rw [cnt] at ih1
      refine BX13_cameTo_4 (by first | assumption | exact up_at _ _ _ | (rw [up_ne (by omega)]; first | assumption | exact up_at _ _ _ | (rw [up_ne (by omega)]; assumption))) (by rfl) (by first | assumption | exact up_at _ _ _ | (rw [up_ne (by omega)]; first | assumption | exact up_at _ _ _ | (rw [up_ne (by omega)]; assumption))) (by first | exact Ls_get (by omega) (by omega) | assumption) ?_ ?_
      · intro hc1
        refine BX13_cameTo_49  ?_
        (exfalso; omega)
      · intro hc2
        refine BX13_cameTo_15 (by first | assumption | exact up_at _ _ _ | (rw [up_ne (by omega)]; first | assumption | exact up_at _ _ _ | (rw [up_ne (by omega)]; assumption))) ?_
        refine R_X13_get (by first | omega | (simp only [Ls_len]; omega) | assumption | exact Ls_get (by omega) (by omega) | rfl | decide) (by first | omega | (simp only [Ls_len]; omega) | assumption | exact Ls_get (by omega) (by omega) | rfl | decide) (by first | omega | (simp only [Ls_len]; omega) | assumption | exact Ls_get (by omega) (by omega) | rfl | decide) (by first | omega | (simp only [Ls_len]; omega) | assumption | exact Ls_get (by omega) (by omega) | rfl | decide) (by first | omega | (simp only [Ls_len]; omega) | assumption | exact Ls_get (by omega) (by omega) | rfl | decide) ?_
        refine BX13_cameTo_22  ?_ ?_
        · intro hc3
          refine BX13_cameTo_40 (by first | omega | (simp only [Ls_len]; omega) | assumption | exact Ls_get (by omega) (by omega) | rfl | decide) (by first | omega | (simp only [Ls_len]; omega) | assumption | exact Ls_get (by omega) (by omega) | rfl | decide) ?_
          first | (rw [if_pos (by simp_all)] at ih1; exact ih1) | (rw [if_neg (by simp_all)] at ih1; exact ih1)
        · intro hc4
          refine BX13_cameTo_26 (by first | assumption | exact up_at _ _ _ | (rw [up_ne (by omega)]; first | assumption | exact up_at _ _ _ | (rw [up_ne (by omega)]; assumption))) ?_
          refine R_X13_get (by first | omega | (simp only [Ls_len]; omega) | assumption | exact Ls_get (by omega) (by omega) | rfl | decide) (by first | omega | (simp only [Ls_len]; omega) | assumption | exact Ls_get (by omega) (by omega) | rfl | decide) (by first | omega | (simp only [Ls_len]; omega) | assumption | exact Ls_get (by omega) (by omega) | rfl | decide) (by first | omega | (simp only [Ls_len]; omega) | assumption | exact Ls_get (by omega) (by omega) | rfl | decide) (by first | omega | (simp only [Ls_len]; omega) | assumption | exact Ls_get (by omega) (by omega) | rfl | decide) ?_
          refine BX13_cameTo_32  ?_ ?_
          · intro hc5
            refine BX13_cameTo_40 (by first | omega | (simp only [Ls_len]; omega) | assumption | exact Ls_get (by omega) (by omega) | rfl | decide) (by first | omega | (simp only [Ls_len]; omega) | assumption | exact Ls_get (by omega) (by omega) | rfl | decide) ?_
            first | (rw [if_pos (by simp_all)] at ih1; exact ih1) | (rw [if_neg (by simp_all)] at ih1; exact ih1)
          · intro hc6
            refine BX13_cameTo_36 (by first | omega | (simp only [Ls_len]; omega) | assumption | exact Ls_get (by omega) (by omega) | rfl | decide) (by first | omega | (simp only [Ls_len]; omega) | assumption | exact Ls_get (by omega) (by omega) | rfl | decide) ?_
            first | (rw [if_pos (by simp_all)] at ih1; exact ih1) | (rw [if_neg (by simp_all)] at ih1; exact ih1)
  refine BX13_cameTo_0  ?_
  exact loop (W 1 72).toNat 0 (by omega)
theorem R_X13_afloatAt {p : Int} (s : IsMo g h W V X F B wr cm) (k : Q (some (vI (floN (W 1) p))) h n) : Rn (d + 3) bc bs mX13_afloatAt 0 [some (vR (some 301)), some (vI p), none, none] [] h n Q := by
  obtain ⟨M, e, ⟨⟨ts, te, ty, ⟨t1, t2, t3⟩, tp⟩, tb⟩, ⟨tv, tvb⟩, tx, ⟨⟨tt1, tt2, tt3⟩, tt4⟩, wr0, cm0, on⟩ := id s; obtain ⟨on1, on2, on3, on4, on5, on6, on7, on8⟩ := id on; have tt : tTp M F := ⟨⟨tt1, tt2, tt3⟩, tt4⟩; have m0 := e.o; have m1 := e.a1; have m2 := e.a2; have m3 := e.a3; have m4 := e.a4; have ts1 := ts.1; obtain ⟨te1, te2, te3, te4⟩ := id te; obtain ⟨⟨ty1, ty2, ty3, ty4, ty5⟩, ty6, ty7, ty8, ty9⟩ := id ty
  have loop : ∀ (m : Nat) (i : Nat), (i : Int) + m = W 1 72 → Rn (d + 3) bc bs mX13_afloatAt 4 [some (vR (some 301)), some (vI p), some (vI (cnt (fun b => W 1 (b * 6 + 4) = 0 ∧ W 1 (b * 6 + 2) = p) i)), some (vI i)] [] h n Q := by
    intro m
    induction m with
    | zero =>
      intro i hi
      have e9 : i = (W 1 72).toNat := by omega
      refine BX13_afloatAt_4 (by first | assumption | exact up_at _ _ _ | (rw [up_ne (by omega)]; first | assumption | exact up_at _ _ _ | (rw [up_ne (by omega)]; assumption))) (by rfl) (by first | assumption | exact up_at _ _ _ | (rw [up_ne (by omega)]; first | assumption | exact up_at _ _ _ | (rw [up_ne (by omega)]; assumption))) (by first | exact Ls_get (by omega) (by omega) | assumption) ?_ ?_
      · intro hc1
        first
        | (exfalso; omega)
        | (
            refine BX13_afloatAt_47  ?_
            (rw [e9]; exact k)
          )
      · intro hc2
        first
        | (exfalso; omega)
        | (
            (exfalso; omega)
          )
    | succ m ih =>
      intro i hi
      have c1 := cnt_ge (fun b => W 1 (b * 6 + 4) = 0 ∧ W 1 (b * 6 + 2) = p) i
      have ih1 := ih (i + 1) (by omega)
      rw [cnt] at ih1
      refine BX13_afloatAt_4 (by first | assumption | exact up_at _ _ _ | (rw [up_ne (by omega)]; first | assumption | exact up_at _ _ _ | (rw [up_ne (by omega)]; assumption))) (by rfl) (by first | assumption | exact up_at _ _ _ | (rw [up_ne (by omega)]; first | assumption | exact up_at _ _ _ | (rw [up_ne (by omega)]; assumption))) (by first | exact Ls_get (by omega) (by omega) | assumption) ?_ ?_
      · intro hc1
        refine BX13_afloatAt_47  ?_
        (exfalso; omega)
      · intro hc2
        refine BX13_afloatAt_15 (by first | assumption | exact up_at _ _ _ | (rw [up_ne (by omega)]; first | assumption | exact up_at _ _ _ | (rw [up_ne (by omega)]; assumption))) ?_
        refine R_X13_isAfloat (by first | omega | (simp only [Ls_len]; omega) | assumption | exact Ls_get (by omega) (by omega) | rfl | decide) ?_ ?_
        · intro w1 w2 w3
          refine BX13_afloatAt_21  ?_ ?_
          · intro hc3
            exact absurd hc3 (by decide)
          · intro hc4
            refine BX13_afloatAt_24 (by first | assumption | exact up_at _ _ _ | (rw [up_ne (by omega)]; first | assumption | exact up_at _ _ _ | (rw [up_ne (by omega)]; assumption))) ?_
            refine R_X13_get (by first | omega | (simp only [Ls_len]; omega) | assumption | exact Ls_get (by omega) (by omega) | rfl | decide) (by first | omega | (simp only [Ls_len]; omega) | assumption | exact Ls_get (by omega) (by omega) | rfl | decide) (by first | omega | (simp only [Ls_len]; omega) | assumption | exact Ls_get (by omega) (by omega) | rfl | decide) (by first | omega | (simp only [Ls_len]; omega) | assumption | exact Ls_get (by omega) (by omega) | rfl | decide) (by first | omega | (simp only [Ls_len]; omega) | assumption | exact Ls_get (by omega) (by omega) | rfl | decide) ?_
            refine BX13_afloatAt_30  ?_ ?_
            · intro hc5
              refine BX13_afloatAt_38 (by first | omega | (simp only [Ls_len]; omega) | assumption | exact Ls_get (by omega) (by omega) | rfl | decide) (by first | omega | (simp only [Ls_len]; omega) | assumption | exact Ls_get (by omega) (by omega) | rfl | decide) ?_
              first
              | (rw [if_pos (by simp_all)] at ih1; exact ih1)
              | (rw [if_neg (by simp_all)] at ih1; exact ih1)
              | (rw [if_neg (by simp; omega)] at ih1; exact ih1)
            · intro hc6
              refine BX13_afloatAt_34 (by first | omega | (simp only [Ls_len]; omega) | assumption | exact Ls_get (by omega) (by omega) | rfl | decide) (by first | omega | (simp only [Ls_len]; omega) | assumption | exact Ls_get (by omega) (by omega) | rfl | decide) ?_
              first
              | (rw [if_pos (by simp_all)] at ih1; exact ih1)
              | (rw [if_neg (by simp_all)] at ih1; exact ih1)
              | (rw [if_neg (by simp; omega)] at ih1; exact ih1)
        · intro w4
          refine BX13_afloatAt_21  ?_ ?_
          · intro hc7
            refine BX13_afloatAt_38 (by first | omega | (simp only [Ls_len]; omega) | assumption | exact Ls_get (by omega) (by omega) | rfl | decide) (by first | omega | (simp only [Ls_len]; omega) | assumption | exact Ls_get (by omega) (by omega) | rfl | decide) ?_
            first
            | (rw [if_pos (by simp_all)] at ih1; exact ih1)
            | (rw [if_neg (by simp_all)] at ih1; exact ih1)
            | (rw [if_neg (by simp; omega)] at ih1; exact ih1)
          · intro hc8
            exact absurd hc8 (by decide)
  refine BX13_afloatAt_0  ?_
  exact loop (W 1 72).toNat 0 (by omega)
theorem R_X13_entry {i w : Int} {l3 : Option aV} (s : IsMo g h W V X F B 1 cm) (i0 : 0 ≤ i) (i1 : i < W 1 75) (w0 : 0 ≤ w) (w1 : w ≤ 3) (k : Q (some (vI (bk (W 1) (i * 4 + w)))) h n) : Rn d bc bs mX13_entry 0 [some (vR (some 301)), some (vI i), some (vI w), l3] [] h n Q := by
  obtain ⟨M, e, ⟨⟨ts, te, ty, ⟨t1, t2, t3⟩, tp⟩, tb⟩, ⟨tv, tvb⟩, tx, ⟨⟨tt1, tt2, tt3⟩, tt4⟩, wr0, cm0, on⟩ := id s; obtain ⟨on1, on2, on3, on4, on5, on6, on7, on8⟩ := id on; have tt : tTp M F := ⟨⟨tt1, tt2, tt3⟩, tt4⟩; have m0 := e.o; have m1 := e.a1; have m2 := e.a2; have m3 := e.a3; have m4 := e.a4; have ts1 := ts.1; obtain ⟨te1, te2, te3, te4⟩ := id te; obtain ⟨⟨ty1, ty2, ty3, ty4, ty5⟩, ty6, ty7, ty8, ty9⟩ := id ty
  rw [if_pos rfl] at tb
  obtain ⟨q1, q2, q3, q4, q5⟩ := tb.2 i i0 i1
  unfold pkM at q1
  refine BX13_entry_0 (by first | assumption | exact up_at _ _ _ | (rw [up_ne (by omega)]; first | assumption | exact up_at _ _ _ | (rw [up_ne (by omega)]; assumption))) (by rfl) (by first | omega | (simp only [Ls_len]; omega) | assumption | exact Ls_get (by omega) (by omega) | rfl | decide) (by first | assumption | exact up_at _ _ _ | (rw [up_ne (by omega)]; first | assumption | exact up_at _ _ _ | (rw [up_ne (by omega)]; assumption))) (by first | omega | (simp only [Ls_len]; omega) | assumption | exact Ls_get (by omega) (by omega) | rfl | decide) (by first | exact Ls_get (by omega) (by omega) | assumption) ?_ ?_
  · intro hc1
    refine BX13_entry_23  ?_ ?_
    · intro hc2
      refine BX13_entry_38  ?_ ?_
      · intro hc3
        refine BX13_entry_52 (by first | omega | (simp only [Ls_len]; omega) | assumption | exact Ls_get (by omega) (by omega) | rfl | decide) ?_
        (have q0 : w = 3 := by omega); subst q0; rw [show M 1 (3359 + i) % 10 = bk (W 1) (i * 4 + 3) by omega]; exact k
      · intro hc4
        refine BX13_entry_43 (by first | omega | (simp only [Ls_len]; omega) | assumption | exact Ls_get (by omega) (by omega) | rfl | decide) (by first | omega | (simp only [Ls_len]; omega) | assumption | exact Ls_get (by omega) (by omega) | rfl | decide) (by first | omega | (simp only [Ls_len]; omega) | assumption | exact Ls_get (by omega) (by omega) | rfl | decide) ?_
        (have q0 : w = 2 := by omega); subst q0; rw [show M 1 (3359 + i) / 10 % 3 = bk (W 1) (i * 4 + 2) by omega]; exact k
    · intro hc5
      refine BX13_entry_28 (by first | omega | (simp only [Ls_len]; omega) | assumption | exact Ls_get (by omega) (by omega) | rfl | decide) (by first | omega | (simp only [Ls_len]; omega) | assumption | exact Ls_get (by omega) (by omega) | rfl | decide) (by first | omega | (simp only [Ls_len]; omega) | assumption | exact Ls_get (by omega) (by omega) | rfl | decide) ?_
      (have q0 : w = 1 := by omega); subst q0; rw [show M 1 (3359 + i) / 30 % 12 = bk (W 1) (i * 4 + 1) by omega]; exact k
  · intro hc6
    refine BX13_entry_15 (by first | omega | (simp only [Ls_len]; omega) | assumption | exact Ls_get (by omega) (by omega) | rfl | decide) (by first | omega | (simp only [Ls_len]; omega) | assumption | exact Ls_get (by omega) (by omega) | rfl | decide) ?_
    (have q0 : w = 0 := by omega); subst q0; rw [show i * 4 + 0 = i * 4 by omega] at k; rw [show M 1 (3359 + i) / 360 = bk (W 1) (i * 4) by omega]; exact k
theorem M_of {p w : Int} (s : IsMo g h W V X F B wr cm) (k : ∀ h1, IsMo g h1 W V X F B wr cm → Q (some (vI (aOf W p w))) h1 n) : Rn (d + 30) bc bs mX13_of 0 [some (vR (some 301)), some (vI p), some (vI w)] [] h n Q := by
  obtain ⟨M, e, ⟨⟨ts, te, ty, ⟨t1, t2, t3⟩, tp⟩, tb⟩, ⟨tv, tvb⟩, tx, ⟨⟨tt1, tt2, tt3⟩, tt4⟩, wr0, cm0, on⟩ := id s; obtain ⟨on1, on2, on3, on4, on5, on6, on7, on8⟩ := id on; have tt : tTp M F := ⟨⟨tt1, tt2, tt3⟩, tt4⟩; have m0 := e.o; have m1 := e.a1; have m2 := e.a2; have m3 := e.a3; have m4 := e.a4; have ts1 := ts.1; obtain ⟨te1, te2, te3, te4⟩ := id te; obtain ⟨⟨ty1, ty2, ty3, ty4, ty5⟩, ty6, ty7, ty8, ty9⟩ := id ty
  unfold aOf at k
  refine BX13_of_0 (by first | assumption | exact up_at _ _ _ | (rw [up_ne (by omega)]; first | assumption | exact up_at _ _ _ | (rw [up_ne (by omega)]; assumption))) ?_
  refine R_X13_isPerson (by first | omega | (simp only [Ls_len]; omega) | assumption | exact Ls_get (by omega) (by omega) | rfl | decide) ?_ ?_
  · intro w1 w2
    refine BX13_of_5  ?_ ?_
    · intro hc1
      refine BX13_of_10  ?_
      refine R_X13_isIn  ?_ ?_
      · intro w1 w2
        refine BX13_of_16  ?_ ?_
        · intro hc2
          exact absurd hc2 (by decide)
        · intro hc3
          refine BX13_of_19 (by first | assumption | exact up_at _ _ _ | (rw [up_ne (by omega)]; first | assumption | exact up_at _ _ _ | (rw [up_ne (by omega)]; assumption))) ?_
          refine R_X13_own (by first | omega | (simp only [Ls_len]; omega) | assumption | exact Ls_get (by omega) (by omega) | rfl | decide) (by first | omega | (simp only [Ls_len]; omega) | assumption | exact Ls_get (by omega) (by omega) | rfl | decide) (by first | omega | (simp only [Ls_len]; omega) | assumption | exact Ls_get (by omega) (by omega) | rfl | decide) (by first | omega | (simp only [Ls_len]; omega) | assumption | exact Ls_get (by omega) (by omega) | rfl | decide) (by first | omega | (simp only [Ls_len]; omega) | assumption | exact Ls_get (by omega) (by omega) | rfl | decide) ?_ ?_
          · intro q0
            refine BX13_of_25  ?_
            (rw [if_pos (by omega)] at k; first | (rw [if_pos (by omega)] at k; exact k _ s) | (rw [if_neg (by omega), if_pos (by omega)] at k; exact k _ s))
          · intro q0
            refine BX13_of_25  ?_
            (rw [if_pos (by omega)] at k; first | (rw [if_pos (by omega)] at k; exact k _ s) | (rw [if_neg (by omega), if_pos (by omega)] at k; exact k _ s))
      · intro w3
        refine BX13_of_16  ?_ ?_
        · intro hc4
          refine BX13_of_28  ?_ ?_
          · intro hc5
            refine BX13_of_41  ?_ ?_
            · intro hc6
              refine BX13_of_56  ?_
              (rw [if_pos (by omega), if_neg (by omega), if_neg (by omega), if_neg (by omega), if_neg (by omega)] at k; exact k _ s)
            · intro hc7
              refine BX13_of_46 (by first | omega | (simp only [Ls_len]; omega) | assumption | exact Ls_get (by omega) (by omega) | rfl | decide) (by first | assumption | exact up_at _ _ _ | (rw [up_ne (by omega)]; first | assumption | exact up_at _ _ _ | (rw [up_ne (by omega)]; assumption))) ?_
              refine R_X13_withHow (by first | omega | (simp only [Ls_len]; omega) | assumption | exact Ls_get (by omega) (by omega) | rfl | decide) ?_
              refine BX13_of_53  ?_
              (rw [if_pos (by omega), if_neg (by omega), if_neg (by omega), if_neg (by omega), if_pos (by omega)] at k; exact k _ s)
          · intro hc8
            refine BX13_of_33 (by first | assumption | exact up_at _ _ _ | (rw [up_ne (by omega)]; first | assumption | exact up_at _ _ _ | (rw [up_ne (by omega)]; assumption))) ?_
            refine R_X13_cameTo (by first | omega | (simp only [Ls_len]; omega) | assumption | exact Ls_get (by omega) (by omega) | rfl | decide) ?_
            refine BX13_of_38  ?_
            (rw [if_pos (by omega), if_neg (by omega), if_neg (by omega), if_pos (by omega)] at k; exact k _ s)
        · intro hc9
          exact absurd hc9 (by decide)
    · intro hc10
      exact absurd hc10 (by decide)
  · intro w3
    refine BX13_of_5  ?_ ?_
    · intro hc11
      exact absurd hc11 (by decide)
    · intro hc12
      refine BX13_of_8  ?_
      (rw [if_neg (by omega)] at k; exact k _ s)
theorem M_is {w : Int} (s : IsMo g h W V X F B wr cm) (k : ∀ h1, IsMo g h1 W V X F B wr cm → Q (some (vI (aIs W w))) h1 n) : Rn (d + 30) bc bs mX13_is 0 [some (vR (some 301)), some (vI w)] [] h n Q := by
  obtain ⟨M, e, ⟨⟨ts, te, ty, ⟨t1, t2, t3⟩, tp⟩, tb⟩, ⟨tv, tvb⟩, tx, ⟨⟨tt1, tt2, tt3⟩, tt4⟩, wr0, cm0, on⟩ := id s; obtain ⟨on1, on2, on3, on4, on5, on6, on7, on8⟩ := id on; have tt : tTp M F := ⟨⟨tt1, tt2, tt3⟩, tt4⟩; have m0 := e.o; have m1 := e.a1; have m2 := e.a2; have m3 := e.a3; have m4 := e.a4; have ts1 := ts.1; obtain ⟨te1, te2, te3, te4⟩ := id te; obtain ⟨⟨ty1, ty2, ty3, ty4, ty5⟩, ty6, ty7, ty8, ty9⟩ := id ty
  unfold aIs at k
  refine BX13_is_0  ?_ ?_
  · intro hc1
    refine BX13_is_14  ?_ ?_
    · intro hc2
      refine BX13_is_29  ?_ ?_
      · intro hc3
        refine BX13_is_42  ?_ ?_
        · intro hc4
          refine BX13_is_57  ?_
          (rw [if_neg (by omega), if_neg (by omega), if_neg (by omega), if_neg (by omega)] at k; exact k _ s)
        · intro hc5
          refine BX13_is_47 (by first | assumption | exact up_at _ _ _ | (rw [up_ne (by omega)]; first | assumption | exact up_at _ _ _ | (rw [up_ne (by omega)]; assumption))) (by rfl) (by first | assumption | exact up_at _ _ _ | (rw [up_ne (by omega)]; first | assumption | exact up_at _ _ _ | (rw [up_ne (by omega)]; assumption))) (by first | exact Ls_get (by omega) (by omega) | assumption) ?_
          (rw [if_neg (by omega), if_neg (by omega), if_neg (by omega), if_pos (by omega)] at k; rw [te3]; exact k _ s)
      · intro hc6
        refine BX13_is_34 (by first | assumption | exact up_at _ _ _ | (rw [up_ne (by omega)]; first | assumption | exact up_at _ _ _ | (rw [up_ne (by omega)]; assumption))) ?_
        refine R_X13_withHow (by first | omega | (simp only [Ls_len]; omega) | assumption | exact Ls_get (by omega) (by omega) | rfl | decide) ?_
        refine BX13_is_39  ?_
        (rw [if_neg (by omega), if_neg (by omega), if_pos (by omega)] at k; exact k _ s)
    · intro hc7
      refine BX13_is_19 (by first | assumption | exact up_at _ _ _ | (rw [up_ne (by omega)]; first | assumption | exact up_at _ _ _ | (rw [up_ne (by omega)]; assumption))) (by rfl) (by first | assumption | exact up_at _ _ _ | (rw [up_ne (by omega)]; first | assumption | exact up_at _ _ _ | (rw [up_ne (by omega)]; assumption))) (by first | exact Ls_get (by omega) (by omega) | assumption) ?_
      (rw [if_neg (by omega), if_pos (by omega)] at k; rw [te2]; exact k _ s)
  · intro hc8
    refine BX13_is_4 (by first | assumption | exact up_at _ _ _ | (rw [up_ne (by omega)]; first | assumption | exact up_at _ _ _ | (rw [up_ne (by omega)]; assumption))) (by rfl) (by first | assumption | exact up_at _ _ _ | (rw [up_ne (by omega)]; first | assumption | exact up_at _ _ _ | (rw [up_ne (by omega)]; assumption))) (by first | exact Ls_get (by omega) (by omega) | assumption) ?_
    (rw [if_pos (by omega)] at k; rw [te1]; exact k _ s)
theorem M_book {i w : Int} (s : IsMo g h W V X F B 1 cm) (k : ∀ h1, IsMo g h1 W V X F B 1 cm → Q (some (vI (aBook W i w))) h1 n) : Rn (d + 30) bc bs mX13_book 0 [some (vR (some 301)), some (vI i), some (vI w)] [] h n Q := by
  obtain ⟨M, e, ⟨⟨ts, te, ty, ⟨t1, t2, t3⟩, tp⟩, tb⟩, ⟨tv, tvb⟩, tx, ⟨⟨tt1, tt2, tt3⟩, tt4⟩, wr0, cm0, on⟩ := id s; obtain ⟨on1, on2, on3, on4, on5, on6, on7, on8⟩ := id on; have tt : tTp M F := ⟨⟨tt1, tt2, tt3⟩, tt4⟩; have m0 := e.o; have m1 := e.a1; have m2 := e.a2; have m3 := e.a3; have m4 := e.a4; have ts1 := ts.1; obtain ⟨te1, te2, te3, te4⟩ := id te; obtain ⟨⟨ty1, ty2, ty3, ty4, ty5⟩, ty6, ty7, ty8, ty9⟩ := id ty
  rw [if_pos rfl] at tb
  have tb1 := tb.1
  unfold aBook at k
  refine BX13_book_0  ?_ ?_
  · intro hc1
    refine BX13_book_13 (by first | assumption | exact up_at _ _ _ | (rw [up_ne (by omega)]; first | assumption | exact up_at _ _ _ | (rw [up_ne (by omega)]; assumption))) (by rfl) (by first | assumption | exact up_at _ _ _ | (rw [up_ne (by omega)]; first | assumption | exact up_at _ _ _ | (rw [up_ne (by omega)]; assumption))) (by first | exact Ls_get (by omega) (by omega) | assumption) (by first | omega | (simp only [Ls_len]; omega) | assumption | exact Ls_get (by omega) (by omega) | rfl | decide) ?_
    refine R_X13_isIn  ?_ ?_
    · intro w1 w2
      refine BX13_book_27  ?_ ?_
      · intro hc2
        exact absurd hc2 (by decide)
      · intro hc3
        refine BX13_book_30  ?_
        refine R_X13_isIn  ?_ ?_
        · intro w1 w2
          refine BX13_book_36  ?_ ?_
          · intro hc4
            exact absurd hc4 (by decide)
          · intro hc5
            refine BX13_book_39 (by first | assumption | exact up_at _ _ _ | (rw [up_ne (by omega)]; first | assumption | exact up_at _ _ _ | (rw [up_ne (by omega)]; assumption))) ?_
            refine R_X13_entry (by first | omega | (simp only [Ls_len]; omega) | assumption | exact Ls_get (by omega) (by omega) | rfl | decide) (by first | omega | (simp only [Ls_len]; omega) | assumption | exact Ls_get (by omega) (by omega) | rfl | decide) (by first | omega | (simp only [Ls_len]; omega) | assumption | exact Ls_get (by omega) (by omega) | rfl | decide) (by first | omega | (simp only [Ls_len]; omega) | assumption | exact Ls_get (by omega) (by omega) | rfl | decide) (by first | omega | (simp only [Ls_len]; omega) | assumption | exact Ls_get (by omega) (by omega) | rfl | decide) ?_
            refine BX13_book_45  ?_
            (rw [if_neg (by omega), if_pos (by omega)] at k; exact k _ s)
        · intro w3
          refine BX13_book_36  ?_ ?_
          · intro hc6
            refine BX13_book_48  ?_
            (rw [if_neg (by omega), if_neg (by omega)] at k; exact k _ s)
          · intro hc7
            exact absurd hc7 (by decide)
    · intro w3
      refine BX13_book_27  ?_ ?_
      · intro hc8
        refine BX13_book_48  ?_
        (rw [if_neg (by omega), if_neg (by omega)] at k; exact k _ s)
      · intro hc9
        exact absurd hc9 (by decide)
  · intro hc10
    refine BX13_book_5 (by first | assumption | exact up_at _ _ _ | (rw [up_ne (by omega)]; first | assumption | exact up_at _ _ _ | (rw [up_ne (by omega)]; assumption))) (by rfl) (by first | assumption | exact up_at _ _ _ | (rw [up_ne (by omega)]; first | assumption | exact up_at _ _ _ | (rw [up_ne (by omega)]; assumption))) (by first | exact Ls_get (by omega) (by omega) | assumption) ?_
    (rw [if_pos (by omega)] at k; rw [tb1]; exact k _ s)
theorem M_ledger {w : Int} (s : IsMo g h W V X F B 1 cm) (k : ∀ h1, IsMo g h1 W V X F B 1 cm → Q (some (vI (aLedger W w))) h1 n) : Rn (d + 30) bc bs mX13_ledger 0 [some (vR (some 301)), some (vI w), none, none] [] h n Q := by
  obtain ⟨M, e, ⟨⟨ts, te, ty, ⟨t1, t2, t3⟩, tp⟩, tb⟩, ⟨tv, tvb⟩, tx, ⟨⟨tt1, tt2, tt3⟩, tt4⟩, wr0, cm0, on⟩ := id s; obtain ⟨on1, on2, on3, on4, on5, on6, on7, on8⟩ := id on; have tt : tTp M F := ⟨⟨tt1, tt2, tt3⟩, tt4⟩; have m0 := e.o; have m1 := e.a1; have m2 := e.a2; have m3 := e.a3; have m4 := e.a4; have ts1 := ts.1; obtain ⟨te1, te2, te3, te4⟩ := id te; obtain ⟨⟨ty1, ty2, ty3, ty4, ty5⟩, ty6, ty7, ty8, ty9⟩ := id ty
  rw [if_pos rfl] at tb
  have tb1 := tb.1
  unfold aLedger at k
  have loop : 0 ≤ w → w ≤ 2 → ∀ (m : Nat) (i : Nat), (i : Int) + m = W 1 75 → Rn (d + 30) bc bs mX13_ledger 16 [some (vR (some 301)), some (vI w), some (vI (cnt (fun l => bk (W 1) (l * 4 + 2) = w) i)), some (vI i)] [] h n Q := by
    intro u0 u1 m
    rw [if_pos ⟨u0, u1⟩] at k
    induction m with
    | zero =>
      intro i hi
      have e9 : i = (W 1 75).toNat := by omega
      refine BX13_ledger_16 (by first | assumption | exact up_at _ _ _ | (rw [up_ne (by omega)]; first | assumption | exact up_at _ _ _ | (rw [up_ne (by omega)]; assumption))) (by rfl) (by first | assumption | exact up_at _ _ _ | (rw [up_ne (by omega)]; first | assumption | exact up_at _ _ _ | (rw [up_ne (by omega)]; assumption))) (by first | exact Ls_get (by omega) (by omega) | assumption) ?_ ?_
      · intro hc1
        first
        | (exfalso; omega)
        | (
            refine BX13_ledger_51  ?_
            (rw [e9]; exact k _ s)
          )
      · intro hc2
        first
        | (exfalso; omega)
        | (
            refine BX13_ledger_27 (by first | assumption | exact up_at _ _ _ | (rw [up_ne (by omega)]; first | assumption | exact up_at _ _ _ | (rw [up_ne (by omega)]; assumption))) ?_
            refine R_X13_entry (by first | omega | (simp only [Ls_len]; omega) | assumption | exact Ls_get (by omega) (by omega) | rfl | decide) (by first | omega | (simp only [Ls_len]; omega) | assumption | exact Ls_get (by omega) (by omega) | rfl | decide) (by first | omega | (simp only [Ls_len]; omega) | assumption | exact Ls_get (by omega) (by omega) | rfl | decide) (by first | omega | (simp only [Ls_len]; omega) | assumption | exact Ls_get (by omega) (by omega) | rfl | decide) (by first | omega | (simp only [Ls_len]; omega) | assumption | exact Ls_get (by omega) (by omega) | rfl | decide) ?_
            refine BX13_ledger_34  ?_ ?_
            · intro hc3
              first
              | (exfalso; omega)
              | (
                  refine BX13_ledger_42 (by first | omega | (simp only [Ls_len]; omega) | assumption | exact Ls_get (by omega) (by omega) | rfl | decide) (by first | omega | (simp only [Ls_len]; omega) | assumption | exact Ls_get (by omega) (by omega) | rfl | decide) ?_
                  (exfalso; omega)
                )
            · intro hc4
              first
              | (exfalso; omega)
              | (
                  refine BX13_ledger_38 (by first | omega | (simp only [Ls_len]; omega) | assumption | exact Ls_get (by omega) (by omega) | rfl | decide) (by first | omega | (simp only [Ls_len]; omega) | assumption | exact Ls_get (by omega) (by omega) | rfl | decide) ?_
                  (exfalso; omega)
                )
          )
    | succ m ih =>
      intro i hi
      have c1 := cnt_ge (fun l => bk (W 1) (l * 4 + 2) = w) i
      have ih1 := ih (i + 1) (by omega)
      rw [cnt] at ih1
      refine BX13_ledger_16 (by first | assumption | exact up_at _ _ _ | (rw [up_ne (by omega)]; first | assumption | exact up_at _ _ _ | (rw [up_ne (by omega)]; assumption))) (by rfl) (by first | assumption | exact up_at _ _ _ | (rw [up_ne (by omega)]; first | assumption | exact up_at _ _ _ | (rw [up_ne (by omega)]; assumption))) (by first | exact Ls_get (by omega) (by omega) | assumption) ?_ ?_
      · intro hc1
        refine BX13_ledger_51  ?_
        (exfalso; omega)
      · intro hc2
        refine BX13_ledger_27 (by first | assumption | exact up_at _ _ _ | (rw [up_ne (by omega)]; first | assumption | exact up_at _ _ _ | (rw [up_ne (by omega)]; assumption))) ?_
        refine R_X13_entry (by first | omega | (simp only [Ls_len]; omega) | assumption | exact Ls_get (by omega) (by omega) | rfl | decide) (by first | omega | (simp only [Ls_len]; omega) | assumption | exact Ls_get (by omega) (by omega) | rfl | decide) (by first | omega | (simp only [Ls_len]; omega) | assumption | exact Ls_get (by omega) (by omega) | rfl | decide) (by first | omega | (simp only [Ls_len]; omega) | assumption | exact Ls_get (by omega) (by omega) | rfl | decide) (by first | omega | (simp only [Ls_len]; omega) | assumption | exact Ls_get (by omega) (by omega) | rfl | decide) ?_
        refine BX13_ledger_34  ?_ ?_
        · intro hc3
          refine BX13_ledger_42 (by first | omega | (simp only [Ls_len]; omega) | assumption | exact Ls_get (by omega) (by omega) | rfl | decide) (by first | omega | (simp only [Ls_len]; omega) | assumption | exact Ls_get (by omega) (by omega) | rfl | decide) ?_
          first | (rw [if_pos (by simp_all)] at ih1; exact ih1) | (rw [if_neg (by simp_all)] at ih1; exact ih1)
        · intro hc4
          refine BX13_ledger_38 (by first | omega | (simp only [Ls_len]; omega) | assumption | exact Ls_get (by omega) (by omega) | rfl | decide) (by first | omega | (simp only [Ls_len]; omega) | assumption | exact Ls_get (by omega) (by omega) | rfl | decide) ?_
          first | (rw [if_pos (by simp_all)] at ih1; exact ih1) | (rw [if_neg (by simp_all)] at ih1; exact ih1)
  refine BX13_ledger_0  ?_
  refine R_X13_isIn  ?_ ?_
  · intro w1 w2
    refine BX13_ledger_6  ?_ ?_
    · intro hc1
      refine BX13_ledger_12  ?_
      exact loop (by omega) (by omega) (W 1 75).toNat 0 (by omega)
    · intro hc2
      exact absurd hc2 (by decide)
  · intro w3
    refine BX13_ledger_6  ?_ ?_
    · intro hc3
      exact absurd hc3 (by decide)
    · intro hc4
      refine BX13_ledger_9  ?_
      (rw [if_neg (by omega)] at k; exact k _ s)
end COUNT
/-! The greatest, the eldest, the empty places. -/
theorem topN_v (f : Int → Int) : ∀ k : Nat, ((topN f k).1 = -1 ∧ (topN f k).2 = 0) ∨ (0 ≤ (topN f k).1 ∧ (topN f k).1 < k ∧ (topN f k).2 = f (topN f k).1) := by
  intro k
  induction k with
  | zero => exact .inl ⟨rfl, rfl⟩
  | succ k ih =>
    unfold topN
    split
    · exact .inr ⟨by show (0 : Int) ≤ k; omega, by show (k : Int) < ((k + 1 : Nat) : Int); omega, rfl⟩
    · rcases ih with q | q
      · exact .inl q
      · exact .inr ⟨q.1, by omega, q.2.2⟩
theorem eldN_v (S : Int → Int) : ∀ k : Nat, eldN S k = -1 ∨ (0 ≤ eldN S k ∧ eldN S k < k) := by
  intro k
  induction k with
  | zero => exact .inl rfl
  | succ k ih =>
    unfold eldN
    split
    · right; omega
    · rcases ih with q | q
      · exact .inl q
      · right; omega
section COUNT2
variable {d bc bs n : Nat} {g h : aH} {Q : aQ} {W V : Int → Int → Int} {X : Int → Tx} {F B : Int → Int} {wr cm : Int}
theorem M_luckiest (s : IsMo g h W V X F B wr cm) (k : ∀ h1, IsMo g h1 W V X F B wr cm → Q (some (vI (aLuckiest W))) h1 n) : Rn (d + 30) bc bs mX13_luckiest 0 [some (vR (some 301)), none, none] [] h n Q := by
  obtain ⟨M, e, ⟨⟨ts, te, ty, ⟨t1, t2, t3⟩, tp⟩, tb⟩, ⟨tv, tvb⟩, tx, ⟨⟨tt1, tt2, tt3⟩, tt4⟩, wr0, cm0, on⟩ := id s; obtain ⟨on1, on2, on3, on4, on5, on6, on7, on8⟩ := id on; have tt : tTp M F := ⟨⟨tt1, tt2, tt3⟩, tt4⟩; have m0 := e.o; have m1 := e.a1; have m2 := e.a2; have m3 := e.a3; have m4 := e.a4; have ts1 := ts.1; obtain ⟨te1, te2, te3, te4⟩ := id te; obtain ⟨⟨ty1, ty2, ty3, ty4, ty5⟩, ty6, ty7, ty8, ty9⟩ := id ty
  unfold aLuckiest at k
  have loop : ∀ (m : Nat) (i : Nat), (i : Int) + m = W 3 3 → Rn (d + 30) bc bs mX13_luckiest 4 [some (vR (some 301)), some (vI (topN (comeN (W 1)) i).1), some (vI (i : Int))] [] h n Q := by
    intro m
    induction m with
    | zero =>
      intro i hi
      have e9 : i = (W 3 3).toNat := by omega
      refine BX13_luckiest_4 (by first | assumption | exact up_at _ _ _ | (rw [up_ne (by omega)]; first | assumption | exact up_at _ _ _ | (rw [up_ne (by omega)]; assumption))) (by rfl) (by first | assumption | exact up_at _ _ _ | (rw [up_ne (by omega)]; first | assumption | exact up_at _ _ _ | (rw [up_ne (by omega)]; assumption))) (by first | exact Ls_get (by omega) (by omega) | assumption) ?_ ?_
      · intro hc1
        first
        | (exfalso; omega)
        | (
            refine BX13_luckiest_44  ?_
            (rw [e9]; exact k _ s)
          )
      · intro hc2
        first
        | (exfalso; omega)
        | (
            (exfalso; omega)
          )
    | succ m ih =>
      intro i hi
      have c1 := topN_v (comeN (W 1)) i
      have ih1 := ih (i + 1) (by omega)
      rw [topN] at ih1
      refine BX13_luckiest_4 (by first | assumption | exact up_at _ _ _ | (rw [up_ne (by omega)]; first | assumption | exact up_at _ _ _ | (rw [up_ne (by omega)]; assumption))) (by rfl) (by first | assumption | exact up_at _ _ _ | (rw [up_ne (by omega)]; first | assumption | exact up_at _ _ _ | (rw [up_ne (by omega)]; assumption))) (by first | exact Ls_get (by omega) (by omega) | assumption) ?_ ?_
      · intro hc1
        refine BX13_luckiest_44  ?_
        (exfalso; omega)
      · intro hc2
        refine BX13_luckiest_14 (by first | assumption | exact up_at _ _ _ | (rw [up_ne (by omega)]; first | assumption | exact up_at _ _ _ | (rw [up_ne (by omega)]; assumption))) ?_
        refine R_X13_cameTo (by first | omega | (simp only [Ls_len]; omega) | assumption | exact Ls_get (by omega) (by omega) | rfl | decide) ?_
        refine BX13_luckiest_19  ?_ ?_
        · intro hc3
          refine BX13_luckiest_28 (by first | assumption | exact up_at _ _ _ | (rw [up_ne (by omega)]; first | assumption | exact up_at _ _ _ | (rw [up_ne (by omega)]; assumption))) ?_
          refine R_X13_cameTo (by first | omega | (simp only [Ls_len]; omega) | assumption | exact Ls_get (by omega) (by omega) | rfl | decide) ?_
          refine BX13_luckiest_33  ?_ ?_
          · intro hc4
            refine BX13_luckiest_38 (by first | omega | (simp only [Ls_len]; omega) | assumption | exact Ls_get (by omega) (by omega) | rfl | decide) ?_
            first
            | (exfalso; omega)
            | (rw [if_pos (by omega)] at ih1; exact ih1)
            | (rw [if_neg (by omega)] at ih1; exact ih1)
          · intro hc5
            refine BX13_luckiest_36 (by first | omega | (simp only [Ls_len]; omega) | assumption | exact Ls_get (by omega) (by omega) | rfl | decide) ?_
            first
            | (exfalso; omega)
            | (rw [if_pos (by omega)] at ih1; exact ih1)
            | (rw [if_neg (by omega)] at ih1; exact ih1)
        · intro hc6
          refine BX13_luckiest_24  ?_ ?_
          · intro hc7
            refine BX13_luckiest_38 (by first | omega | (simp only [Ls_len]; omega) | assumption | exact Ls_get (by omega) (by omega) | rfl | decide) ?_
            first
            | (exfalso; omega)
            | (rw [if_pos (by omega)] at ih1; exact ih1)
            | (rw [if_neg (by omega)] at ih1; exact ih1)
          · intro hc8
            refine BX13_luckiest_36 (by first | omega | (simp only [Ls_len]; omega) | assumption | exact Ls_get (by omega) (by omega) | rfl | decide) ?_
            first
            | (exfalso; omega)
            | (rw [if_pos (by omega)] at ih1; exact ih1)
            | (rw [if_neg (by omega)] at ih1; exact ih1)
  refine BX13_luckiest_0  ?_
  exact loop (W 3 3).toNat 0 (by omega)
theorem M_crowd (s : IsMo g h W V X F B wr cm) (k : ∀ h1, IsMo g h1 W V X F B wr cm → Q (some (vI (aCrowd W))) h1 n) : Rn (d + 30) bc bs mX13_crowd 0 [some (vR (some 301)), none, none] [] h n Q := by
  obtain ⟨M, e, ⟨⟨ts, te, ty, ⟨t1, t2, t3⟩, tp⟩, tb⟩, ⟨tv, tvb⟩, tx, ⟨⟨tt1, tt2, tt3⟩, tt4⟩, wr0, cm0, on⟩ := id s; obtain ⟨on1, on2, on3, on4, on5, on6, on7, on8⟩ := id on; have tt : tTp M F := ⟨⟨tt1, tt2, tt3⟩, tt4⟩; have m0 := e.o; have m1 := e.a1; have m2 := e.a2; have m3 := e.a3; have m4 := e.a4; have ts1 := ts.1; obtain ⟨te1, te2, te3, te4⟩ := id te; obtain ⟨⟨ty1, ty2, ty3, ty4, ty5⟩, ty6, ty7, ty8, ty9⟩ := id ty
  unfold aCrowd at k
  have loop : ∀ (m : Nat) (i : Nat), i + m = 10 → Rn (d + 30) bc bs mX13_crowd 4 [some (vR (some 301)), some (vI (topN (floN (W 1)) i).1), some (vI (i : Int))] [] h n Q := by
    intro m
    induction m with
    | zero =>
      intro i hi
      have e9 : i = 10 := by omega
      refine BX13_crowd_4  ?_ ?_
      · intro hc1
        first
        | (exfalso; omega)
        | (
            refine BX13_crowd_40  ?_
            (rw [e9]; exact k _ s)
          )
      · intro hc2
        first
        | (exfalso; omega)
        | (
            (exfalso; omega)
          )
    | succ m ih =>
      intro i hi
      have c1 := topN_v (floN (W 1)) i
      have ih1 := ih (i + 1) (by omega)
      rw [topN] at ih1
      refine BX13_crowd_4  ?_ ?_
      · intro hc1
        refine BX13_crowd_40  ?_
        (exfalso; omega)
      · intro hc2
        refine BX13_crowd_10 (by first | assumption | exact up_at _ _ _ | (rw [up_ne (by omega)]; first | assumption | exact up_at _ _ _ | (rw [up_ne (by omega)]; assumption))) ?_
        refine R_X13_afloatAt (by first | omega | (simp only [Ls_len]; omega) | assumption | exact Ls_get (by omega) (by omega) | rfl | decide) ?_
        refine BX13_crowd_15  ?_ ?_
        · intro hc3
          refine BX13_crowd_24 (by first | assumption | exact up_at _ _ _ | (rw [up_ne (by omega)]; first | assumption | exact up_at _ _ _ | (rw [up_ne (by omega)]; assumption))) ?_
          refine R_X13_afloatAt (by first | omega | (simp only [Ls_len]; omega) | assumption | exact Ls_get (by omega) (by omega) | rfl | decide) ?_
          refine BX13_crowd_29  ?_ ?_
          · intro hc4
            refine BX13_crowd_34 (by first | omega | (simp only [Ls_len]; omega) | assumption | exact Ls_get (by omega) (by omega) | rfl | decide) ?_
            first
            | (exfalso; omega)
            | (rw [if_pos (by omega)] at ih1; exact ih1)
            | (rw [if_neg (by omega)] at ih1; exact ih1)
          · intro hc5
            refine BX13_crowd_32 (by first | omega | (simp only [Ls_len]; omega) | assumption | exact Ls_get (by omega) (by omega) | rfl | decide) ?_
            first
            | (exfalso; omega)
            | (rw [if_pos (by omega)] at ih1; exact ih1)
            | (rw [if_neg (by omega)] at ih1; exact ih1)
        · intro hc6
          refine BX13_crowd_20  ?_ ?_
          · intro hc7
            refine BX13_crowd_34 (by first | omega | (simp only [Ls_len]; omega) | assumption | exact Ls_get (by omega) (by omega) | rfl | decide) ?_
            first
            | (exfalso; omega)
            | (rw [if_pos (by omega)] at ih1; exact ih1)
            | (rw [if_neg (by omega)] at ih1; exact ih1)
          · intro hc8
            refine BX13_crowd_32 (by first | omega | (simp only [Ls_len]; omega) | assumption | exact Ls_get (by omega) (by omega) | rfl | decide) ?_
            first
            | (exfalso; omega)
            | (rw [if_pos (by omega)] at ih1; exact ih1)
            | (rw [if_neg (by omega)] at ih1; exact ih1)
  refine BX13_crowd_0  ?_
  exact loop 10 0 (by omega)
theorem M_eldest (s : IsMo g h W V X F B wr cm) (k : ∀ h1, IsMo g h1 W V X F B wr cm → Q (some (vI (aEldest W))) h1 n) : Rn (d + 30) bc bs mX13_eldest 0 [some (vR (some 301)), none, none] [] h n Q := by
  obtain ⟨M, e, ⟨⟨ts, te, ty, ⟨t1, t2, t3⟩, tp⟩, tb⟩, ⟨tv, tvb⟩, tx, ⟨⟨tt1, tt2, tt3⟩, tt4⟩, wr0, cm0, on⟩ := id s; obtain ⟨on1, on2, on3, on4, on5, on6, on7, on8⟩ := id on; have tt : tTp M F := ⟨⟨tt1, tt2, tt3⟩, tt4⟩; have m0 := e.o; have m1 := e.a1; have m2 := e.a2; have m3 := e.a3; have m4 := e.a4; have ts1 := ts.1; obtain ⟨te1, te2, te3, te4⟩ := id te; obtain ⟨⟨ty1, ty2, ty3, ty4, ty5⟩, ty6, ty7, ty8, ty9⟩ := id ty
  unfold aEldest at k
  have loop : ∀ (m : Nat) (i : Nat), (i : Int) + m = W 1 72 → Rn (d + 30) bc bs mX13_eldest 4 [some (vR (some 301)), some (vI (eldN (W 1) i)), some (vI (i : Int))] [] h n Q := by
    intro m
    induction m with
    | zero =>
      intro i hi
      have e9 : i = (W 1 72).toNat := by omega
      refine BX13_eldest_4 (by first | assumption | exact up_at _ _ _ | (rw [up_ne (by omega)]; first | assumption | exact up_at _ _ _ | (rw [up_ne (by omega)]; assumption))) (by rfl) (by first | assumption | exact up_at _ _ _ | (rw [up_ne (by omega)]; first | assumption | exact up_at _ _ _ | (rw [up_ne (by omega)]; assumption))) (by first | exact Ls_get (by omega) (by omega) | assumption) ?_ ?_
      · intro hc1
        first
        | (exfalso; omega)
        | (
            refine BX13_eldest_51  ?_
            (rw [e9]; exact k _ s)
          )
      · intro hc2
        first
        | (exfalso; omega)
        | (
            (exfalso; omega)
          )
    | succ m ih =>
      intro i hi
      have c1 := eldN_v (W 1) i
      have ih1 := ih (i + 1) (by omega)
      rw [eldN] at ih1
      refine BX13_eldest_4 (by first | assumption | exact up_at _ _ _ | (rw [up_ne (by omega)]; first | assumption | exact up_at _ _ _ | (rw [up_ne (by omega)]; assumption))) (by rfl) (by first | assumption | exact up_at _ _ _ | (rw [up_ne (by omega)]; first | assumption | exact up_at _ _ _ | (rw [up_ne (by omega)]; assumption))) (by first | exact Ls_get (by omega) (by omega) | assumption) ?_ ?_
      · intro hc1
        refine BX13_eldest_51  ?_
        (exfalso; omega)
      · intro hc2
        refine BX13_eldest_15 (by first | assumption | exact up_at _ _ _ | (rw [up_ne (by omega)]; first | assumption | exact up_at _ _ _ | (rw [up_ne (by omega)]; assumption))) ?_
        refine R_X13_isAfloat (by first | omega | (simp only [Ls_len]; omega) | assumption | exact Ls_get (by omega) (by omega) | rfl | decide) ?_ ?_
        · intro w1 w2 w3
          refine BX13_eldest_20  ?_ ?_
          · intro hc3
            exact absurd hc3 (by decide)
          · intro hc4
            refine BX13_eldest_23  ?_ ?_
            · intro hc5
              refine BX13_eldest_43 (by first | omega | (simp only [Ls_len]; omega) | assumption | exact Ls_get (by omega) (by omega) | rfl | decide) ?_
              first
              | (exfalso; omega)
              | (rw [if_pos (by omega)] at ih1; exact ih1)
              | (rw [if_neg (by omega)] at ih1; exact ih1)
            · intro hc6
              refine BX13_eldest_28 (by first | assumption | exact up_at _ _ _ | (rw [up_ne (by omega)]; first | assumption | exact up_at _ _ _ | (rw [up_ne (by omega)]; assumption))) ?_
              refine R_X13_get (by first | omega | (simp only [Ls_len]; omega) | assumption | exact Ls_get (by omega) (by omega) | rfl | decide) (by first | omega | (simp only [Ls_len]; omega) | assumption | exact Ls_get (by omega) (by omega) | rfl | decide) (by first | omega | (simp only [Ls_len]; omega) | assumption | exact Ls_get (by omega) (by omega) | rfl | decide) (by first | omega | (simp only [Ls_len]; omega) | assumption | exact Ls_get (by omega) (by omega) | rfl | decide) (by first | omega | (simp only [Ls_len]; omega) | assumption | exact Ls_get (by omega) (by omega) | rfl | decide) ?_
              refine BX13_eldest_34 (by first | assumption | exact up_at _ _ _ | (rw [up_ne (by omega)]; first | assumption | exact up_at _ _ _ | (rw [up_ne (by omega)]; assumption))) ?_
              refine R_X13_get (by first | omega | (simp only [Ls_len]; omega) | assumption | exact Ls_get (by omega) (by omega) | rfl | decide) (by first | omega | (simp only [Ls_len]; omega) | assumption | exact Ls_get (by omega) (by omega) | rfl | decide) (by first | omega | (simp only [Ls_len]; omega) | assumption | exact Ls_get (by omega) (by omega) | rfl | decide) (by first | omega | (simp only [Ls_len]; omega) | assumption | exact Ls_get (by omega) (by omega) | rfl | decide) (by first | omega | (simp only [Ls_len]; omega) | assumption | exact Ls_get (by omega) (by omega) | rfl | decide) ?_
              refine BX13_eldest_40  ?_ ?_
              · intro hc7
                refine BX13_eldest_45 (by first | omega | (simp only [Ls_len]; omega) | assumption | exact Ls_get (by omega) (by omega) | rfl | decide) ?_
                first
                | (exfalso; omega)
                | (rw [if_pos (by omega)] at ih1; exact ih1)
                | (rw [if_neg (by omega)] at ih1; exact ih1)
              · intro hc8
                refine BX13_eldest_43 (by first | omega | (simp only [Ls_len]; omega) | assumption | exact Ls_get (by omega) (by omega) | rfl | decide) ?_
                first
                | (exfalso; omega)
                | (rw [if_pos (by omega)] at ih1; exact ih1)
                | (rw [if_neg (by omega)] at ih1; exact ih1)
        · intro w4
          refine BX13_eldest_20  ?_ ?_
          · intro hc9
            refine BX13_eldest_45 (by first | omega | (simp only [Ls_len]; omega) | assumption | exact Ls_get (by omega) (by omega) | rfl | decide) ?_
            first
            | (exfalso; omega)
            | (rw [if_pos (by omega)] at ih1; exact ih1)
            | (rw [if_neg (by omega)] at ih1; exact ih1)
          · intro hc10
            exact absurd hc10 (by decide)
  refine BX13_eldest_0  ?_
  exact loop (W 1 72).toNat 0 (by omega)
end COUNT2
