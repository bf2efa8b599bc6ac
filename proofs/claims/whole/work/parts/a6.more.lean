/-! The reference: halves, writes, code, the tape, the image, the drift. -/
def ch2B (x l : Nat) : Bool := decide (and32 (shr32 x l) 1 = 1) == decide (and32 (x : Int) (shl32 1 l) ≠ 0)
theorem ch2_all : (List.range 256).all (fun x => (List.range 8).all (fun l => ch2B x l)) = true := by decide +kernel
theorem has_at {x l : Int} (x0 : 0 ≤ x) (x1 : x ≤ 255) (l0 : 0 ≤ l) (l1 : l ≤ 7) : (and32 (shr32 x l) 1 = 1) ↔ and32 x (shl32 1 l) ≠ 0 := by
  have z := List.all_eq_true.mp (List.all_eq_true.mp ch2_all x.toNat (List.mem_range.mpr (by omega))) l.toNat (List.mem_range.mpr (by omega))
  unfold ch2B at z
  rw [show ((x.toNat : Nat) : Int) = x by omega, show ((l.toNat : Nat) : Int) = l by omega] at z
  exact decide_eq_decide.mp (eq_of_beq z)
section MORE
variable {d bc bs n : Nat} {g h : aH} {Q : aQ} {W V : Int → Int → Int} {X : Int → Tx} {F B : Int → Int} {wr cm : Int}
theorem R_X13_has {x l : Int} (x0 : 0 ≤ x) (x1 : x ≤ 255) (l0 : 0 ≤ l) (l1 : l ≤ 7) (k1 : and32 x (shl32 1 l) ≠ 0 → Q (some (vI 1)) h n) (k0 : and32 x (shl32 1 l) = 0 → Q (some (vI 0)) h n) : Rn d bc bs mX13_has 0 [some (vI x), some (vI l)] [] h n Q := by
  have z := has_at x0 x1 l0 l1
  refine BX13_has_0  ?_ ?_
  · intro hc1
    refine BX13_has_13  ?_
    exact k0 (by omega)
  · intro hc2
    refine BX13_has_9  ?_
    exact k1 (by omega)
theorem R_X13_isLetter {x : Int} (k1 : 0 ≤ x → x ≤ 7 → Q (some (vI 1)) h n) (k0 : (x < 0 ∨ 7 < x) → Q (some (vI 0)) h n) : Rn (d + 1) bc bs mX13_isLetter 0 [some (vI x)] [] h n Q := by
  refine BX13_isLetter_0  ?_
  refine R_X13_isIn  ?_ ?_
  · intro w1 w2
    refine BX13_isLetter_7 (by first | omega | (rw [fset_at]; omega) | (simp only [Ls_len]; omega) | assumption | exact Ls_get (by omega) (by omega) | exact up_at _ _ _ | rfl | decide) ?_
    first | exact k1 (by assumption) (by assumption) | exact k0 (by assumption)
  · intro w3
    refine BX13_isLetter_7 (by first | omega | (rw [fset_at]; omega) | (simp only [Ls_len]; omega) | assumption | exact Ls_get (by omega) (by omega) | exact up_at _ _ _ | rfl | decide) ?_
    first | exact k1 (by assumption) (by assumption) | exact k0 (by assumption)
theorem M_halves {x y : Int} (s : IsMo g h W V X F B wr cm) (ok : okW W) (k : ∀ h1, IsMo g h1 (sHalves W x y) V X F B wr cm → Q (some (vI (aHalves W x y))) h1 n) : Rn (d + 30) bc bs mX13_halves 0 [some (vR (some 301)), some (vI x), some (vI y)] [] h n Q := by
  obtain ⟨M, e, ⟨⟨ts, te, ty, ⟨t1, t2, t3⟩, tp⟩, tb⟩, ⟨tv, tvb⟩, tx, ⟨⟨tt1, tt2, tt3⟩, tt4⟩, wr0, cm0, on⟩ := id s; obtain ⟨on1, on2, on3, on4, on5, on6, on7, on8⟩ := id on; have tt : tTp M F := ⟨⟨tt1, tt2, tt3⟩, tt4⟩; have m0 := e.o; have m1 := e.a1; have m2 := e.a2; have m3 := e.a3; have m4 := e.a4; have ts1 := ts.1; obtain ⟨te1, te2, te3, te4⟩ := id te; obtain ⟨⟨ty1, ty2, ty3, ty4, ty5⟩, ty6, ty7, ty8, ty9⟩ := id ty
  have ta : TA (M 1) W := ⟨ts, te, ty, ⟨t1, t2, t3⟩, tp⟩
  have z1 : x < 0 ∨ 7 < x ∨ (M 1 (147 + x) = W 2 (20 + x) ∧ 0 ≤ W 2 (20 + x) ∧ W 2 (20 + x) ≤ 255) := by
    by_cases c : 0 ≤ x ∧ x ≤ 7
    · have a := ty8 x (by omega) (by omega)
      have b := ok.2.2.2.2.2.2.2.2.2.2.1 x (by omega) (by omega)
      exact .inr (.inr ⟨a.1, b.1⟩)
    · omega
  have z2 : y < 0 ∨ 7 < y ∨ x = y ∨ fset (M 1) (147 + x) (or32 (M 1 (147 + x)) (shl32 1 y)) (147 + y) = W 2 (20 + y) := by
    by_cases c : (0 ≤ y ∧ y ≤ 7) ∧ x ≠ y
    · have a := ty8 y (by omega) (by omega)
      refine .inr (.inr (.inr ?_))
      rw [fset_ne (by omega)]
      exact a.1
    · omega
  unfold aHalves sHalves at k
  refine BX13_halves_0  ?_
  refine R_X13_isLetter  ?_ ?_
  · intro w1 w2
    refine BX13_halves_4  ?_ ?_
    · intro hc1
      exact absurd hc1 (by decide)
    · intro hc2
      refine BX13_halves_7  ?_
      refine R_X13_isLetter  ?_ ?_
      · intro w1 w2
        refine BX13_halves_11  ?_ ?_
        · intro hc3
          exact absurd hc3 (by decide)
        · intro hc4
          refine BX13_halves_14  ?_ ?_
          · intro hc5
            refine BX13_halves_36  ?_
            (rw [if_neg (by omega), if_neg (by omega)] at k; exact k _ s)
          · intro hc6
            refine BX13_halves_19 (by first | assumption | exact up_at _ _ _ | (rw [up_ne (by omega)]; first | assumption | exact up_at _ _ _ | (rw [up_ne (by omega)]; assumption))) (by rfl) (by first | omega | (rw [fset_at]; omega) | (simp only [Ls_len]; omega) | assumption | exact Ls_get (by omega) (by omega) | exact up_at _ _ _ | rfl | decide) (by first | assumption | exact up_at _ _ _ | (rw [up_ne (by omega)]; first | assumption | exact up_at _ _ _ | (rw [up_ne (by omega)]; assumption))) (by first | omega | (rw [fset_at]; omega) | (simp only [Ls_len]; omega) | assumption | exact Ls_get (by omega) (by omega) | exact up_at _ _ _ | rfl | decide) (by first | exact Ls_get (by omega) (by omega) | assumption) ?_
            refine R_X13_has (by first | omega | (rw [fset_at]; omega) | (simp only [Ls_len]; omega) | assumption | exact Ls_get (by omega) (by omega) | exact up_at _ _ _ | rfl | decide) (by first | omega | (rw [fset_at]; omega) | (simp only [Ls_len]; omega) | assumption | exact Ls_get (by omega) (by omega) | exact up_at _ _ _ | rfl | decide) (by first | omega | (rw [fset_at]; omega) | (simp only [Ls_len]; omega) | assumption | exact Ls_get (by omega) (by omega) | exact up_at _ _ _ | rfl | decide) (by first | omega | (rw [fset_at]; omega) | (simp only [Ls_len]; omega) | assumption | exact Ls_get (by omega) (by omega) | exact up_at _ _ _ | rfl | decide) ?_ ?_
            · intro w5
              have z3 : M 1 (147 + x) = W 2 (20 + x) := by omega
              first | rw [z3] at w5 | rw [z3] at w6
              refine BX13_halves_33  ?_ ?_
              · intro hc7
                exact absurd hc7 (by decide)
              · intro hc8
                refine BX13_halves_36  ?_
                (rw [if_neg (by omega), if_neg (by omega)] at k; exact k _ s)
            · intro w6
              have z3 : M 1 (147 + x) = W 2 (20 + x) := by omega
              first | rw [z3] at w5 | rw [z3] at w6
              refine BX13_halves_33  ?_ ?_
              · intro hc9
                refine BX13_halves_38 (by first | assumption | exact up_at _ _ _ | (rw [up_ne (by omega)]; first | assumption | exact up_at _ _ _ | (rw [up_ne (by omega)]; assumption))) (by rfl) (by first | omega | (rw [fset_at]; omega) | (simp only [Ls_len]; omega) | assumption | exact Ls_get (by omega) (by omega) | exact up_at _ _ _ | rfl | decide) (by first | assumption | exact up_at _ _ _ | (rw [up_ne (by omega)]; first | assumption | exact up_at _ _ _ | (rw [up_ne (by omega)]; assumption))) (by first | omega | (rw [fset_at]; omega) | (simp only [Ls_len]; omega) | assumption | exact Ls_get (by omega) (by omega) | exact up_at _ _ _ | rfl | decide) (by first | exact Ls_get (by omega) (by omega) | assumption) (by first | omega | (rw [fset_at]; omega) | (simp only [Ls_len]; omega) | assumption | exact Ls_get (by omega) (by omega) | exact up_at _ _ _ | rfl | decide) (by first | omega | (rw [fset_at]; omega) | (simp only [Ls_len]; omega) | assumption | exact Ls_get (by omega) (by omega) | exact up_at _ _ _ | rfl | decide) ?_
                try rw [Ls_set (by omega)]
                refine BX13_halves_54 (by first | assumption | exact up_at _ _ _ | (rw [up_ne (by omega)]; first | assumption | exact up_at _ _ _ | (rw [up_ne (by omega)]; assumption))) (by rfl) (by first | omega | (rw [fset_at]; omega) | (simp only [Ls_len]; omega) | assumption | exact Ls_get (by omega) (by omega) | exact up_at _ _ _ | rfl | decide) (by first | assumption | exact up_at _ _ _ | (rw [up_ne (by omega)]; first | assumption | exact up_at _ _ _ | (rw [up_ne (by omega)]; assumption))) (by first | omega | (rw [fset_at]; omega) | (simp only [Ls_len]; omega) | assumption | exact Ls_get (by omega) (by omega) | exact up_at _ _ _ | rfl | decide) (by first | exact Ls_get (by omega) (by omega) | assumption) (by first | omega | (rw [fset_at]; omega) | (simp only [Ls_len]; omega) | assumption | exact Ls_get (by omega) (by omega) | exact up_at _ _ _ | rfl | decide) (by first | omega | (rw [fset_at]; omega) | (simp only [Ls_len]; omega) | assumption | exact Ls_get (by omega) (by omega) | exact up_at _ _ _ | rfl | decide) ?_
                try rw [Ls_set (by omega)]
                refine BX13_halves_70  ?_
                rw [if_pos (by omega), if_pos (by omega)] at k
                have z4 : fset (M 1) (147 + x) (or32 (M 1 (147 + x)) (shl32 1 y)) (147 + y) = W 2 (20 + y) := by omega
                rw [up_up, z4, z3]
                refine k _ (mkY e ta tb tv tvb tx tt wr0 cm0 on (fun i hi => ?_) (ty.hv (by omega) (by omega) (by omega) (by omega) (by omega) (by omega)) ?_)
                · rw [fset_ne (by omega), fset_ne (by omega)]
                · unfold hvY
                  simp (disch := omega) only [fset_ne]
                  omega
              · intro hc10
                exact absurd hc10 (by decide)
      · intro w3
        refine BX13_halves_11  ?_ ?_
        · intro hc11
          refine BX13_halves_36  ?_
          (rw [if_neg (by omega), if_neg (by omega)] at k; exact k _ s)
        · intro hc12
          exact absurd hc12 (by decide)
  · intro w3
    refine BX13_halves_4  ?_ ?_
    · intro hc13
      refine BX13_halves_36  ?_
      (rw [if_neg (by omega), if_neg (by omega)] at k; exact k _ s)
    · intro hc14
      exact absurd hc14 (by decide)
theorem M_writes {x y : Int} (s : IsMo g h W V X F B wr cm) (ok : okW W) (k : ∀ h1, IsMo g h1 (sWrites W x y) V X F B wr cm → Q (some (vI (aWrites W x y))) h1 n) : Rn (d + 30) bc bs mX13_writes 0 [some (vR (some 301)), some (vI x), some (vI y)] [] h n Q := by
  obtain ⟨M, e, ⟨⟨ts, te, ty, ⟨t1, t2, t3⟩, tp⟩, tb⟩, ⟨tv, tvb⟩, tx, ⟨⟨tt1, tt2, tt3⟩, tt4⟩, wr0, cm0, on⟩ := id s; obtain ⟨on1, on2, on3, on4, on5, on6, on7, on8⟩ := id on; have tt : tTp M F := ⟨⟨tt1, tt2, tt3⟩, tt4⟩; have m0 := e.o; have m1 := e.a1; have m2 := e.a2; have m3 := e.a3; have m4 := e.a4; have ts1 := ts.1; obtain ⟨te1, te2, te3, te4⟩ := id te; obtain ⟨⟨ty1, ty2, ty3, ty4, ty5⟩, ty6, ty7, ty8, ty9⟩ := id ty
  have ta : TA (M 1) W := ⟨ts, te, ty, ⟨t1, t2, t3⟩, tp⟩
  have z1 : y < 0 ∨ 7 < y ∨ (M 1 (155 + y) = W 2 (28 + y) ∧ 0 ≤ W 2 (28 + y) ∧ W 2 (28 + y) ≤ 255) := by
    by_cases c : 0 ≤ y ∧ y ≤ 7
    · have a := ty8 y (by omega) (by omega)
      have b := ok.2.2.2.2.2.2.2.2.2.2.1 y (by omega) (by omega)
      exact .inr (.inr ⟨a.2, b.2⟩)
    · omega
  unfold aWrites sWrites at k
  refine BX13_writes_0  ?_
  refine R_X13_isLetter  ?_ ?_
  · intro w1 w2
    refine BX13_writes_4  ?_ ?_
    · intro hc1
      exact absurd hc1 (by decide)
    · intro hc2
      refine BX13_writes_7  ?_
      refine R_X13_isLetter  ?_ ?_
      · intro w1 w2
        refine BX13_writes_11  ?_ ?_
        · intro hc3
          exact absurd hc3 (by decide)
        · intro hc4
          refine BX13_writes_14  ?_ ?_
          · intro hc5
            refine BX13_writes_36  ?_
            (rw [if_neg (by omega), if_neg (by omega)] at k; exact k _ s)
          · intro hc6
            refine BX13_writes_19 (by first | assumption | exact up_at _ _ _ | (rw [up_ne (by omega)]; first | assumption | exact up_at _ _ _ | (rw [up_ne (by omega)]; assumption))) (by rfl) (by first | omega | (rw [fset_at]; omega) | (simp only [Ls_len]; omega) | assumption | exact Ls_get (by omega) (by omega) | exact up_at _ _ _ | rfl | decide) (by first | assumption | exact up_at _ _ _ | (rw [up_ne (by omega)]; first | assumption | exact up_at _ _ _ | (rw [up_ne (by omega)]; assumption))) (by first | omega | (rw [fset_at]; omega) | (simp only [Ls_len]; omega) | assumption | exact Ls_get (by omega) (by omega) | exact up_at _ _ _ | rfl | decide) (by first | exact Ls_get (by omega) (by omega) | assumption) ?_
            refine R_X13_has (by first | omega | (rw [fset_at]; omega) | (simp only [Ls_len]; omega) | assumption | exact Ls_get (by omega) (by omega) | exact up_at _ _ _ | rfl | decide) (by first | omega | (rw [fset_at]; omega) | (simp only [Ls_len]; omega) | assumption | exact Ls_get (by omega) (by omega) | exact up_at _ _ _ | rfl | decide) (by first | omega | (rw [fset_at]; omega) | (simp only [Ls_len]; omega) | assumption | exact Ls_get (by omega) (by omega) | exact up_at _ _ _ | rfl | decide) (by first | omega | (rw [fset_at]; omega) | (simp only [Ls_len]; omega) | assumption | exact Ls_get (by omega) (by omega) | exact up_at _ _ _ | rfl | decide) ?_ ?_
            · intro w5
              have z3 : M 1 (155 + y) = W 2 (28 + y) := by omega
              first | rw [z3] at w5 | rw [z3] at w6
              refine BX13_writes_33  ?_ ?_
              · intro hc7
                exact absurd hc7 (by decide)
              · intro hc8
                refine BX13_writes_36  ?_
                (rw [if_neg (by omega), if_neg (by omega)] at k; exact k _ s)
            · intro w6
              have z3 : M 1 (155 + y) = W 2 (28 + y) := by omega
              first | rw [z3] at w5 | rw [z3] at w6
              refine BX13_writes_33  ?_ ?_
              · intro hc9
                refine BX13_writes_38 (by first | assumption | exact up_at _ _ _ | (rw [up_ne (by omega)]; first | assumption | exact up_at _ _ _ | (rw [up_ne (by omega)]; assumption))) (by rfl) (by first | omega | (rw [fset_at]; omega) | (simp only [Ls_len]; omega) | assumption | exact Ls_get (by omega) (by omega) | exact up_at _ _ _ | rfl | decide) (by first | assumption | exact up_at _ _ _ | (rw [up_ne (by omega)]; first | assumption | exact up_at _ _ _ | (rw [up_ne (by omega)]; assumption))) (by first | omega | (rw [fset_at]; omega) | (simp only [Ls_len]; omega) | assumption | exact Ls_get (by omega) (by omega) | exact up_at _ _ _ | rfl | decide) (by first | exact Ls_get (by omega) (by omega) | assumption) (by first | omega | (rw [fset_at]; omega) | (simp only [Ls_len]; omega) | assumption | exact Ls_get (by omega) (by omega) | exact up_at _ _ _ | rfl | decide) (by first | omega | (rw [fset_at]; omega) | (simp only [Ls_len]; omega) | assumption | exact Ls_get (by omega) (by omega) | exact up_at _ _ _ | rfl | decide) ?_
                try rw [Ls_set (by omega)]
                refine BX13_writes_54  ?_
                rw [if_pos (by omega), if_pos (by omega)] at k
                rw [z3]
                refine k _ (mkY e ta tb tv tvb tx tt wr0 cm0 on (fun i hi => ?_) (ty.wr (by omega) (by omega) (by omega)) ?_)
                · rw [fset_ne (by omega)]
                · simp (disch := omega) only [fset_ne]
                  omega
              · intro hc10
                exact absurd hc10 (by decide)
      · intro w3
        refine BX13_writes_11  ?_ ?_
        · intro hc11
          refine BX13_writes_36  ?_
          (rw [if_neg (by omega), if_neg (by omega)] at k; exact k _ s)
        · intro hc12
          exact absurd hc12 (by decide)
  · intro w3
    refine BX13_writes_4  ?_ ?_
    · intro hc13
      refine BX13_writes_36  ?_
      (rw [if_neg (by omega), if_neg (by omega)] at k; exact k _ s)
    · intro hc14
      exact absurd hc14 (by decide)
theorem R_X13_isWithoutNought {x : Int} {l1 : Option aV} (x1 : x ≤ 9999) (k : Q (some (vI (wrdN 4 x))) h n) : Rn d bc bs mX13_isWithoutNought 0 [some (vI x), l1] [] h n Q := by
  have loop : ∀ (m : Nat) (y : Int), m ≤ 4 → y < tenN m → Q (some (vI (wrdN m y))) h n → Rn d bc bs mX13_isWithoutNought 2 [some (vI x), some (vI y)] [] h n Q := by
    intro m
    induction m with
    | zero =>
      intro y m4 y1 k
      have y1 : y < 1 := y1
      refine BX13_isWithoutNought_2  ?_ ?_
      · intro hc1
        first
        | (exfalso; omega)
        | (
            refine BX13_isWithoutNought_23  ?_
            first | exact k | (exfalso; omega)
          )
      · intro hc2
        first
        | (exfalso; omega)
        | (
            (exfalso; omega)
          )
    | succ m ih =>
      intro y m4 y1 k
      have y1 : y < tenN m * 10 := y1
      have t1 := tenN_lt m (by omega)
      unfold wrdN at k
      refine BX13_isWithoutNought_2  ?_ ?_
      · intro hc1
        refine BX13_isWithoutNought_23  ?_
        (rw [if_pos (by omega)] at k; exact k)
      · intro hc2
        refine BX13_isWithoutNought_6 (by first | omega | (rw [fset_at]; omega) | (simp only [Ls_len]; omega) | assumption | exact Ls_get (by omega) (by omega) | exact up_at _ _ _ | rfl | decide) ?_ ?_
        · intro hc3
          refine BX13_isWithoutNought_15 (by first | omega | (rw [fset_at]; omega) | (simp only [Ls_len]; omega) | assumption | exact Ls_get (by omega) (by omega) | exact up_at _ _ _ | rfl | decide) (by first | omega | (rw [fset_at]; omega) | (simp only [Ls_len]; omega) | assumption | exact Ls_get (by omega) (by omega) | exact up_at _ _ _ | rfl | decide) ?_
          (rw [if_neg (by omega), if_neg (by omega)] at k; exact ih _ (by omega) (by omega) k)
        · intro hc4
          refine BX13_isWithoutNought_13  ?_
          (rw [if_neg (by omega), if_pos (by omega)] at k; exact k)
  refine BX13_isWithoutNought_0  ?_
  exact loop 4 x (by omega) (by have : tenN 4 = 10000 := rfl; omega) k
theorem M_code {x : Int} (s : IsMo g h W V X F B wr cm) (k : ∀ h1, IsMo g h1 (sCode W x) V X F B wr cm → Q (some (vI (aCode W x))) h1 n) : Rn (d + 30) bc bs mX13_code 0 [some (vR (some 301)), some (vI x), none] [] h n Q := by
  obtain ⟨M, e, ⟨⟨ts, te, ty, ⟨t1, t2, t3⟩, tp⟩, tb⟩, ⟨tv, tvb⟩, tx, ⟨⟨tt1, tt2, tt3⟩, tt4⟩, wr0, cm0, on⟩ := id s; obtain ⟨on1, on2, on3, on4, on5, on6, on7, on8⟩ := id on; have tt : tTp M F := ⟨⟨tt1, tt2, tt3⟩, tt4⟩; have m0 := e.o; have m1 := e.a1; have m2 := e.a2; have m3 := e.a3; have m4 := e.a4; have ts1 := ts.1; obtain ⟨te1, te2, te3, te4⟩ := id te; obtain ⟨⟨ty1, ty2, ty3, ty4, ty5⟩, ty6, ty7, ty8, ty9⟩ := id ty
  have ta : TA (M 1) W := ⟨ts, te, ty, ⟨t1, t2, t3⟩, tp⟩
  have q1 := wrdN_01 4 x
  have q2 := hasN_01 (Y := W 2) (x := x) (W 2 53).toNat 0
  have q3 : fset (M 1) (137 + M 1 5) x 5 = M 1 5 := fset_ne (by omega)
  have iw : aIsWord x = if 1 ≤ x ∧ x ≤ 9999 then wrdN 4 x else 0 := rfl
  unfold aCode sCode at k
  obtain ⟨H, hH⟩ : ∃ H, hasN (W 2) x (W 2 53).toNat 0 = H := ⟨_, rfl⟩
  rw [hH] at k q2
  have loop : x ≠ -1 → aIsWord x ≠ 0 → W 2 53 < 8 → ∀ (m : Nat) (i : Int), 0 ≤ i → i + m = W 2 53 → hasN (W 2) x m i = H → Rn (d + 30) bc bs mX13_code 48 [some (vR (some 301)), some (vI x), some (vI i)] [] h n Q := by
    intro u1 u2 u3 m
    induction m with
    | zero =>
      intro i i0 im hq
      have hq : 0 = H := hq
      refine BX13_code_48 (by first | assumption | exact up_at _ _ _ | (rw [up_ne (by omega)]; first | assumption | exact up_at _ _ _ | (rw [up_ne (by omega)]; assumption))) (by rfl) (by first | assumption | exact up_at _ _ _ | (rw [up_ne (by omega)]; first | assumption | exact up_at _ _ _ | (rw [up_ne (by omega)]; assumption))) (by first | exact Ls_get (by omega) (by omega) | assumption) ?_ ?_
      · intro hc1
        first
        | (exfalso; omega)
        | (
            refine BX13_code_81 (by first | assumption | exact up_at _ _ _ | (rw [up_ne (by omega)]; first | assumption | exact up_at _ _ _ | (rw [up_ne (by omega)]; assumption))) (by rfl) (by first | assumption | exact up_at _ _ _ | (rw [up_ne (by omega)]; first | assumption | exact up_at _ _ _ | (rw [up_ne (by omega)]; assumption))) (by first | exact Ls_get (by omega) (by omega) | assumption) (by first | omega | (rw [fset_at]; omega) | (simp only [Ls_len]; omega) | assumption | exact Ls_get (by omega) (by omega) | exact up_at _ _ _ | rfl | decide) (by first | omega | (rw [fset_at]; omega) | (simp only [Ls_len]; omega) | assumption | exact Ls_get (by omega) (by omega) | exact up_at _ _ _ | rfl | decide) (by first | omega | (rw [fset_at]; omega) | (simp only [Ls_len]; omega) | assumption | exact Ls_get (by omega) (by omega) | exact up_at _ _ _ | rfl | decide) (by first | omega | (rw [fset_at]; omega) | (simp only [Ls_len]; omega) | assumption | exact Ls_get (by omega) (by omega) | exact up_at _ _ _ | rfl | decide) ?_
            try rw [Ls_set (by omega)]
            refine BX13_code_97 (by first | assumption | exact up_at _ _ _ | (rw [up_ne (by omega)]; first | assumption | exact up_at _ _ _ | (rw [up_ne (by omega)]; assumption))) (by rfl) (by first | assumption | exact up_at _ _ _ | (rw [up_ne (by omega)]; first | assumption | exact up_at _ _ _ | (rw [up_ne (by omega)]; assumption))) (by first | exact Ls_get (by omega) (by omega) | assumption) (by first | omega | (rw [fset_at]; omega) | (simp only [Ls_len]; omega) | assumption | exact Ls_get (by omega) (by omega) | exact up_at _ _ _ | rfl | decide) (by first | omega | (rw [fset_at]; omega) | (simp only [Ls_len]; omega) | assumption | exact Ls_get (by omega) (by omega) | exact up_at _ _ _ | rfl | decide) (by first | omega | (rw [fset_at]; omega) | (simp only [Ls_len]; omega) | assumption | exact Ls_get (by omega) (by omega) | exact up_at _ _ _ | rfl | decide) ?_
            try rw [Ls_set (by omega)]
            refine BX13_code_107 (by first | assumption | exact up_at _ _ _ | (rw [up_ne (by omega)]; first | assumption | exact up_at _ _ _ | (rw [up_ne (by omega)]; assumption))) (by rfl) (by first | assumption | exact up_at _ _ _ | (rw [up_ne (by omega)]; first | assumption | exact up_at _ _ _ | (rw [up_ne (by omega)]; assumption))) (by first | exact Ls_get (by omega) (by omega) | assumption) ?_
            rw [if_neg (by omega), if_neg (by omega), if_neg (by omega), if_neg (by omega)] at k
            rw [up_up, fset_at, q3, ty2]
            refine k _ (mkY e ta tb tv tvb tx tt wr0 cm0 on (fun i hi => ?_) (ty.c1 (by omega) (by omega)) ?_)
            · rw [fset_ne (by omega), fset_ne (by omega)]
            · simp (disch := omega) only [fset_ne, fset_at]
              omega
          )
      · intro hc2
        first
        | (exfalso; omega)
        | (
            (exfalso; omega)
          )
    | succ m ih =>
      intro i i0 im hq
      unfold hasN at hq
      have z := ty7 i (by omega) (by omega)
      refine BX13_code_48 (by first | assumption | exact up_at _ _ _ | (rw [up_ne (by omega)]; first | assumption | exact up_at _ _ _ | (rw [up_ne (by omega)]; assumption))) (by rfl) (by first | assumption | exact up_at _ _ _ | (rw [up_ne (by omega)]; first | assumption | exact up_at _ _ _ | (rw [up_ne (by omega)]; assumption))) (by first | exact Ls_get (by omega) (by omega) | assumption) ?_ ?_
      · intro hc1
        refine BX13_code_81 (by first | assumption | exact up_at _ _ _ | (rw [up_ne (by omega)]; first | assumption | exact up_at _ _ _ | (rw [up_ne (by omega)]; assumption))) (by rfl) (by first | assumption | exact up_at _ _ _ | (rw [up_ne (by omega)]; first | assumption | exact up_at _ _ _ | (rw [up_ne (by omega)]; assumption))) (by first | exact Ls_get (by omega) (by omega) | assumption) (by first | omega | (rw [fset_at]; omega) | (simp only [Ls_len]; omega) | assumption | exact Ls_get (by omega) (by omega) | exact up_at _ _ _ | rfl | decide) (by first | omega | (rw [fset_at]; omega) | (simp only [Ls_len]; omega) | assumption | exact Ls_get (by omega) (by omega) | exact up_at _ _ _ | rfl | decide) (by first | omega | (rw [fset_at]; omega) | (simp only [Ls_len]; omega) | assumption | exact Ls_get (by omega) (by omega) | exact up_at _ _ _ | rfl | decide) (by first | omega | (rw [fset_at]; omega) | (simp only [Ls_len]; omega) | assumption | exact Ls_get (by omega) (by omega) | exact up_at _ _ _ | rfl | decide) ?_
        try rw [Ls_set (by omega)]
        refine BX13_code_97 (by first | assumption | exact up_at _ _ _ | (rw [up_ne (by omega)]; first | assumption | exact up_at _ _ _ | (rw [up_ne (by omega)]; assumption))) (by rfl) (by first | assumption | exact up_at _ _ _ | (rw [up_ne (by omega)]; first | assumption | exact up_at _ _ _ | (rw [up_ne (by omega)]; assumption))) (by first | exact Ls_get (by omega) (by omega) | assumption) (by first | omega | (rw [fset_at]; omega) | (simp only [Ls_len]; omega) | assumption | exact Ls_get (by omega) (by omega) | exact up_at _ _ _ | rfl | decide) (by first | omega | (rw [fset_at]; omega) | (simp only [Ls_len]; omega) | assumption | exact Ls_get (by omega) (by omega) | exact up_at _ _ _ | rfl | decide) (by first | omega | (rw [fset_at]; omega) | (simp only [Ls_len]; omega) | assumption | exact Ls_get (by omega) (by omega) | exact up_at _ _ _ | rfl | decide) ?_
        try rw [Ls_set (by omega)]
        refine BX13_code_107 (by first | assumption | exact up_at _ _ _ | (rw [up_ne (by omega)]; first | assumption | exact up_at _ _ _ | (rw [up_ne (by omega)]; assumption))) (by rfl) (by first | assumption | exact up_at _ _ _ | (rw [up_ne (by omega)]; first | assumption | exact up_at _ _ _ | (rw [up_ne (by omega)]; assumption))) (by first | exact Ls_get (by omega) (by omega) | assumption) ?_
        (exfalso; omega)
      · intro hc2
        refine BX13_code_58 (by first | assumption | exact up_at _ _ _ | (rw [up_ne (by omega)]; first | assumption | exact up_at _ _ _ | (rw [up_ne (by omega)]; assumption))) (by rfl) (by first | omega | (rw [fset_at]; omega) | (simp only [Ls_len]; omega) | assumption | exact Ls_get (by omega) (by omega) | exact up_at _ _ _ | rfl | decide) (by first | assumption | exact up_at _ _ _ | (rw [up_ne (by omega)]; first | assumption | exact up_at _ _ _ | (rw [up_ne (by omega)]; assumption))) (by first | omega | (rw [fset_at]; omega) | (simp only [Ls_len]; omega) | assumption | exact Ls_get (by omega) (by omega) | exact up_at _ _ _ | rfl | decide) (by first | exact Ls_get (by omega) (by omega) | assumption) ?_ ?_
        · intro hc3
          refine BX13_code_75 (by first | omega | (rw [fset_at]; omega) | (simp only [Ls_len]; omega) | assumption | exact Ls_get (by omega) (by omega) | exact up_at _ _ _ | rfl | decide) ?_
          (rw [if_neg (by omega)] at hq; exact ih _ (by omega) (by omega) hq)
        · intro hc4
          refine BX13_code_72  ?_
          rw [if_pos (by omega)] at hq
          rw [if_neg (by omega), if_pos (by omega), if_neg (by omega), if_pos (by omega)] at k
          exact k _ s
  refine BX13_code_0  ?_ ?_
  · intro hc1
    refine BX13_code_14  ?_
    refine R_X13_isIn  ?_ ?_
    · intro w1 w2
      refine BX13_code_22  ?_ ?_
      · intro hc2
        exact absurd hc2 (by decide)
      · intro hc3
        refine BX13_code_25  ?_
        refine R_X13_isWithoutNought (by first | omega | (rw [fset_at]; omega) | (simp only [Ls_len]; omega) | assumption | exact Ls_get (by omega) (by omega) | exact up_at _ _ _ | rfl | decide) ?_
        refine BX13_code_29  ?_ ?_
        · intro hc4
          refine BX13_code_43  ?_
          (rw [if_neg (by omega), if_pos (by omega), if_neg (by omega), if_pos (by omega)] at k; exact k _ s)
        · intro hc5
          refine BX13_code_32 (by first | assumption | exact up_at _ _ _ | (rw [up_ne (by omega)]; first | assumption | exact up_at _ _ _ | (rw [up_ne (by omega)]; assumption))) (by rfl) (by first | assumption | exact up_at _ _ _ | (rw [up_ne (by omega)]; first | assumption | exact up_at _ _ _ | (rw [up_ne (by omega)]; assumption))) (by first | exact Ls_get (by omega) (by omega) | assumption) ?_ ?_
          · intro hc6
            refine BX13_code_46  ?_
            exact loop (by omega) (by omega) (by omega) (W 2 53).toNat 0 (by omega) (by omega) hH
          · intro hc7
            refine BX13_code_43  ?_
            (rw [if_neg (by omega), if_pos (by omega), if_neg (by omega), if_pos (by omega)] at k; exact k _ s)
    · intro w3
      refine BX13_code_22  ?_ ?_
      · intro hc8
        refine BX13_code_43  ?_
        (rw [if_neg (by omega), if_pos (by omega), if_neg (by omega), if_pos (by omega)] at k; exact k _ s)
      · intro hc9
        exact absurd hc9 (by decide)
  · intro hc10
    refine BX13_code_5 (by first | assumption | exact up_at _ _ _ | (rw [up_ne (by omega)]; first | assumption | exact up_at _ _ _ | (rw [up_ne (by omega)]; assumption))) (by rfl) (by first | assumption | exact up_at _ _ _ | (rw [up_ne (by omega)]; first | assumption | exact up_at _ _ _ | (rw [up_ne (by omega)]; assumption))) (by first | omega | (rw [fset_at]; omega) | (simp only [Ls_len]; omega) | assumption | exact Ls_get (by omega) (by omega) | exact up_at _ _ _ | rfl | decide) (by first | omega | (rw [fset_at]; omega) | (simp only [Ls_len]; omega) | assumption | exact Ls_get (by omega) (by omega) | exact up_at _ _ _ | rfl | decide) ?_
    try rw [Ls_set (by omega)]
    refine BX13_code_12  ?_
    rw [if_pos (by omega), if_pos (by omega)] at k
    refine k _ (mkY e ta tb tv tvb tx tt wr0 cm0 on (fun i hi => fset_ne (by omega)) (ty.c0 (by omega)) ?_)
    simp (disch := omega) only [fset_ne, fset_at]
    omega
end MORE
