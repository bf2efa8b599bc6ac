/-! The reference: toss, fish, again, tides. -/
section TOSS2
variable {d bc bs n : Nat} {g h : aH} {Q : aQ} {W V : Int → Int → Int} {X : Int → Tx} {F B : Int → Int} {wr cm : Int} {M : Int → Int → Int}
theorem R_X13_putS {b w v : Int} (e : IsM g h M) (t : MT M W V X F B wr cm) (b0 : b = W 1 72) (b1 : W 1 72 < 12) (w0 : 0 ≤ w) (w1 : w < 6) (k : ∀ h1 M1, IsM g h1 M1 → MT M1 W V X F B wr cm → M1 1 = fset (M 1) (11 + 6 * b + w) v → Q none h1 n) : Rn d bc bs mX13_put 0 [some (vR (some 301)), some (vI b), some (vI w), some (vI v)] [] h n Q := by
  obtain ⟨⟨ta, tb⟩, tv, tx, tt, wr0, cm0, on⟩ := id t
  have on2 := on.2.1
  have m0 := e.o
  have m1 := e.a1
  have ta2 := ta.sea (A2 := fset (M 1) (11 + 6 * b + w) v) (fun i hi => fset_ne (by omega)) (ta.2.1.slot on2.1 b0 b1 w0 w1) on
  rw [fset_id] at ta2
  refine BX13_put_0 (by first | assumption | exact up_at _ _ _ | (rw [up_ne (by omega)]; first | assumption | exact up_at _ _ _ | (rw [up_ne (by omega)]; assumption))) (by rfl) (by first | omega | (rw [fset_at]; omega) | (simp only [Ls_len]; omega) | assumption | exact Ls_get (by omega) (by omega) | exact up_at _ _ _ | rfl | decide) (by first | omega | (rw [fset_at]; omega) | (simp only [Ls_len]; omega) | assumption | exact Ls_get (by omega) (by omega) | exact up_at _ _ _ | rfl | decide) (by first | omega | (rw [fset_at]; omega) | (simp only [Ls_len]; omega) | assumption | exact Ls_get (by omega) (by omega) | exact up_at _ _ _ | rfl | decide) (by first | assumption | exact up_at _ _ _ | (rw [up_ne (by omega)]; first | assumption | exact up_at _ _ _ | (rw [up_ne (by omega)]; assumption))) (by first | omega | (rw [fset_at]; omega) | (simp only [Ls_len]; omega) | assumption | exact Ls_get (by omega) (by omega) | exact up_at _ _ _ | rfl | decide) (by first | omega | (rw [fset_at]; omega) | (simp only [Ls_len]; omega) | assumption | exact Ls_get (by omega) (by omega) | exact up_at _ _ _ | rfl | decide) (by first | omega | (rw [fset_at]; omega) | (simp only [Ls_len]; omega) | assumption | exact Ls_get (by omega) (by omega) | exact up_at _ _ _ | rfl | decide) ?_
  try rw [Ls_set (by omega)]
  refine BX13_put_15  ?_
  exact k _ (fset M 1 (fset (M 1) (11 + 6 * b + w) v)) e.s1 ⟨⟨ta2, tb.cong (fset_ne (by omega)) (fun i hi => fset_ne (by omega)) rfl (fun _ _ => rfl)⟩, tv, tx, tt, wr0, cm0, on⟩ (fset_at _ _ _)
theorem tSe.toss {A S : Int → Int} {fr to pl co : Int} (t : tSe A S) (s0 : 0 ≤ S 72) (s1 : S 72 < 12) : tSe (fset (fset (fset (fset (fset (fset (fset A (11 + 6 * S 72 + 0) fr) (11 + 6 * S 72 + 1) to) (11 + 6 * S 72 + 2) pl) (11 + 6 * S 72 + 3) co) (11 + 6 * S 72 + 4) 0) (11 + 6 * S 72 + 5) (S 73)) 9 (S 72 + 1)) (tossS S fr to pl co) := by
  obtain ⟨t1, t2, t3, t4⟩ := t
  unfold tossS
  refine ⟨?_, ?_, ?_, fun b w b0 b1 w0 w1 => ?_⟩
  · simp (disch := omega) only [fset_ne]; exact t1
  · simp (disch := omega) only [fset_ne]; exact t2
  · simp (disch := omega) only [fset_ne, fset_at]
  · simp (disch := omega) only [fset_ne, fset_at] at b1
    by_cases q : b = S 72
    · subst q
      have ew : w = 0 ∨ w = 1 ∨ w = 2 ∨ w = 3 ∨ w = 4 ∨ w = 5 := by omega
      rcases ew with z | z | z | z | z | z <;> subst z <;> simp (disch := omega) only [fset_ne, fset_at]
    · have := t4 b w b0 (by omega) w0 w1
      simp (disch := omega) only [fset_ne]
      exact this
theorem R_X13_tossNow {x y c : Int} {l4 : Option aV} (s : IsMo g h W V X F B wr cm) (x0 : 0 ≤ x) (x1 : x < W 3 3) (b1 : W 1 72 < 12) (k : ∀ h1, IsMo g h1 (tossW W x y c) V X F B wr cm → Q none h1 n) : Rn (d + 2) bc bs mX13_tossNow 0 [some (vR (some 301)), some (vI x), some (vI y), some (vI c), l4] [] h n Q := by
  obtain ⟨M, e, t⟩ := id s
  have on := t.2.2.2.2.2.2
  have on2 := on.2.1
  have on3 := on.2.2.1
  have on6 := on.2.2.2.2.2.1
  have te3 : M 1 9 = W 1 72 := t.1.1.2.1.2.2.1
  have te := t.1.1.2.1
  have ap : atP (W 3 3) (W 0) x = W 0 x := by unfold atP; rw [if_pos (by omega)]
  unfold tossW at k
  rw [ap] at k
  have m0 := e.o
  have m1 := e.a1
  refine BX13_tossNow_0 (by first | assumption | exact up_at _ _ _ | (rw [up_ne (by omega)]; first | assumption | exact up_at _ _ _ | (rw [up_ne (by omega)]; assumption))) (by rfl) (by first | assumption | exact up_at _ _ _ | (rw [up_ne (by omega)]; first | assumption | exact up_at _ _ _ | (rw [up_ne (by omega)]; assumption))) (by first | exact Ls_get (by omega) (by omega) | assumption) ?_
  refine R_X13_putS (by first | omega | (rw [fset_at]; omega) | (simp only [Ls_len]; omega) | assumption | exact Ls_get (by omega) (by omega) | exact up_at _ _ _ | rfl | decide) (by first | omega | (rw [fset_at]; omega) | (simp only [Ls_len]; omega) | assumption | exact Ls_get (by omega) (by omega) | exact up_at _ _ _ | rfl | decide) (by first | omega | (rw [fset_at]; omega) | (simp only [Ls_len]; omega) | assumption | exact Ls_get (by omega) (by omega) | exact up_at _ _ _ | rfl | decide) (by first | omega | (rw [fset_at]; omega) | (simp only [Ls_len]; omega) | assumption | exact Ls_get (by omega) (by omega) | exact up_at _ _ _ | rfl | decide) (by first | omega | (rw [fset_at]; omega) | (simp only [Ls_len]; omega) | assumption | exact Ls_get (by omega) (by omega) | exact up_at _ _ _ | rfl | decide) (by first | omega | (rw [fset_at]; omega) | (simp only [Ls_len]; omega) | assumption | exact Ls_get (by omega) (by omega) | exact up_at _ _ _ | rfl | decide) ?_
  intro h1 M1 e1 t1 f1
  have s1 : IsMo g h1 W V X F B wr cm := ⟨M1, e1, t1⟩
  have m0 := e1.o
  refine BX13_tossNow_17 (by first | assumption | exact up_at _ _ _ | (rw [up_ne (by omega)]; first | assumption | exact up_at _ _ _ | (rw [up_ne (by omega)]; assumption))) ?_
  refine R_X13_putS (by first | omega | (rw [fset_at]; omega) | (simp only [Ls_len]; omega) | assumption | exact Ls_get (by omega) (by omega) | exact up_at _ _ _ | rfl | decide) (by first | omega | (rw [fset_at]; omega) | (simp only [Ls_len]; omega) | assumption | exact Ls_get (by omega) (by omega) | exact up_at _ _ _ | rfl | decide) (by first | omega | (rw [fset_at]; omega) | (simp only [Ls_len]; omega) | assumption | exact Ls_get (by omega) (by omega) | exact up_at _ _ _ | rfl | decide) (by first | omega | (rw [fset_at]; omega) | (simp only [Ls_len]; omega) | assumption | exact Ls_get (by omega) (by omega) | exact up_at _ _ _ | rfl | decide) (by first | omega | (rw [fset_at]; omega) | (simp only [Ls_len]; omega) | assumption | exact Ls_get (by omega) (by omega) | exact up_at _ _ _ | rfl | decide) (by first | omega | (rw [fset_at]; omega) | (simp only [Ls_len]; omega) | assumption | exact Ls_get (by omega) (by omega) | exact up_at _ _ _ | rfl | decide) ?_
  intro h2 M2 e2 t2 f2
  have s2 : IsMo g h2 W V X F B wr cm := ⟨M2, e2, t2⟩
  have m0 := e2.o
  refine BX13_tossNow_25 (by first | assumption | exact up_at _ _ _ | (rw [up_ne (by omega)]; first | assumption | exact up_at _ _ _ | (rw [up_ne (by omega)]; assumption))) ?_
  refine R_X13_ownP (by first | omega | (rw [fset_at]; omega) | (simp only [Ls_len]; omega) | assumption | exact Ls_get (by omega) (by omega) | exact up_at _ _ _ | rfl | decide) (by first | omega | (rw [fset_at]; omega) | (simp only [Ls_len]; omega) | assumption | exact Ls_get (by omega) (by omega) | exact up_at _ _ _ | rfl | decide) (by first | omega | (rw [fset_at]; omega) | (simp only [Ls_len]; omega) | assumption | exact Ls_get (by omega) (by omega) | exact up_at _ _ _ | rfl | decide) ?_
  refine BX13_tossNow_35 (by first | assumption | exact up_at _ _ _ | (rw [up_ne (by omega)]; first | assumption | exact up_at _ _ _ | (rw [up_ne (by omega)]; assumption))) ?_
  refine R_X13_putS (by first | omega | (rw [fset_at]; omega) | (simp only [Ls_len]; omega) | assumption | exact Ls_get (by omega) (by omega) | exact up_at _ _ _ | rfl | decide) (by first | omega | (rw [fset_at]; omega) | (simp only [Ls_len]; omega) | assumption | exact Ls_get (by omega) (by omega) | exact up_at _ _ _ | rfl | decide) (by first | omega | (rw [fset_at]; omega) | (simp only [Ls_len]; omega) | assumption | exact Ls_get (by omega) (by omega) | exact up_at _ _ _ | rfl | decide) (by first | omega | (rw [fset_at]; omega) | (simp only [Ls_len]; omega) | assumption | exact Ls_get (by omega) (by omega) | exact up_at _ _ _ | rfl | decide) (by first | omega | (rw [fset_at]; omega) | (simp only [Ls_len]; omega) | assumption | exact Ls_get (by omega) (by omega) | exact up_at _ _ _ | rfl | decide) (by first | omega | (rw [fset_at]; omega) | (simp only [Ls_len]; omega) | assumption | exact Ls_get (by omega) (by omega) | exact up_at _ _ _ | rfl | decide) ?_
  intro h3 M3 e3 t3 f3
  have m0 := e3.o
  refine BX13_tossNow_38 (by first | assumption | exact up_at _ _ _ | (rw [up_ne (by omega)]; first | assumption | exact up_at _ _ _ | (rw [up_ne (by omega)]; assumption))) ?_
  refine R_X13_putS (by first | omega | (rw [fset_at]; omega) | (simp only [Ls_len]; omega) | assumption | exact Ls_get (by omega) (by omega) | exact up_at _ _ _ | rfl | decide) (by first | omega | (rw [fset_at]; omega) | (simp only [Ls_len]; omega) | assumption | exact Ls_get (by omega) (by omega) | exact up_at _ _ _ | rfl | decide) (by first | omega | (rw [fset_at]; omega) | (simp only [Ls_len]; omega) | assumption | exact Ls_get (by omega) (by omega) | exact up_at _ _ _ | rfl | decide) (by first | omega | (rw [fset_at]; omega) | (simp only [Ls_len]; omega) | assumption | exact Ls_get (by omega) (by omega) | exact up_at _ _ _ | rfl | decide) (by first | omega | (rw [fset_at]; omega) | (simp only [Ls_len]; omega) | assumption | exact Ls_get (by omega) (by omega) | exact up_at _ _ _ | rfl | decide) (by first | omega | (rw [fset_at]; omega) | (simp only [Ls_len]; omega) | assumption | exact Ls_get (by omega) (by omega) | exact up_at _ _ _ | rfl | decide) ?_
  intro h4 M4 e4 t4 f4
  have m0 := e4.o
  refine BX13_tossNow_46 (by first | assumption | exact up_at _ _ _ | (rw [up_ne (by omega)]; first | assumption | exact up_at _ _ _ | (rw [up_ne (by omega)]; assumption))) ?_
  refine R_X13_putS (by first | omega | (rw [fset_at]; omega) | (simp only [Ls_len]; omega) | assumption | exact Ls_get (by omega) (by omega) | exact up_at _ _ _ | rfl | decide) (by first | omega | (rw [fset_at]; omega) | (simp only [Ls_len]; omega) | assumption | exact Ls_get (by omega) (by omega) | exact up_at _ _ _ | rfl | decide) (by first | omega | (rw [fset_at]; omega) | (simp only [Ls_len]; omega) | assumption | exact Ls_get (by omega) (by omega) | exact up_at _ _ _ | rfl | decide) (by first | omega | (rw [fset_at]; omega) | (simp only [Ls_len]; omega) | assumption | exact Ls_get (by omega) (by omega) | exact up_at _ _ _ | rfl | decide) (by first | omega | (rw [fset_at]; omega) | (simp only [Ls_len]; omega) | assumption | exact Ls_get (by omega) (by omega) | exact up_at _ _ _ | rfl | decide) (by first | omega | (rw [fset_at]; omega) | (simp only [Ls_len]; omega) | assumption | exact Ls_get (by omega) (by omega) | exact up_at _ _ _ | rfl | decide) ?_
  intro h5 M5 e5 t5 f5
  have m0 := e5.o
  have m1 := e5.a1
  have v7 : M5 1 7 = W 1 73 := t5.1.1.2.1.1
  refine BX13_tossNow_54 (by first | assumption | exact up_at _ _ _ | (rw [up_ne (by omega)]; first | assumption | exact up_at _ _ _ | (rw [up_ne (by omega)]; assumption))) (by rfl) (by first | assumption | exact up_at _ _ _ | (rw [up_ne (by omega)]; first | assumption | exact up_at _ _ _ | (rw [up_ne (by omega)]; assumption))) (by first | exact Ls_get (by omega) (by omega) | assumption) ?_
  refine R_X13_putS (by first | omega | (rw [fset_at]; omega) | (simp only [Ls_len]; omega) | assumption | exact Ls_get (by omega) (by omega) | exact up_at _ _ _ | rfl | decide) (by first | omega | (rw [fset_at]; omega) | (simp only [Ls_len]; omega) | assumption | exact Ls_get (by omega) (by omega) | exact up_at _ _ _ | rfl | decide) (by first | omega | (rw [fset_at]; omega) | (simp only [Ls_len]; omega) | assumption | exact Ls_get (by omega) (by omega) | exact up_at _ _ _ | rfl | decide) (by first | omega | (rw [fset_at]; omega) | (simp only [Ls_len]; omega) | assumption | exact Ls_get (by omega) (by omega) | exact up_at _ _ _ | rfl | decide) (by first | omega | (rw [fset_at]; omega) | (simp only [Ls_len]; omega) | assumption | exact Ls_get (by omega) (by omega) | exact up_at _ _ _ | rfl | decide) (by first | omega | (rw [fset_at]; omega) | (simp only [Ls_len]; omega) | assumption | exact Ls_get (by omega) (by omega) | exact up_at _ _ _ | rfl | decide) ?_
  intro h6 M6 e6 t6 f6
  have m0 := e6.o
  have m1 := e6.a1
  have v9 : M6 1 9 = W 1 72 := t6.1.1.2.1.2.2.1
  refine BX13_tossNow_68 (by first | assumption | exact up_at _ _ _ | (rw [up_ne (by omega)]; first | assumption | exact up_at _ _ _ | (rw [up_ne (by omega)]; assumption))) (by rfl) (by first | assumption | exact up_at _ _ _ | (rw [up_ne (by omega)]; first | assumption | exact up_at _ _ _ | (rw [up_ne (by omega)]; assumption))) (by first | exact Ls_get (by omega) (by omega) | assumption) (by first | omega | (rw [fset_at]; omega) | (simp only [Ls_len]; omega) | assumption | exact Ls_get (by omega) (by omega) | exact up_at _ _ _ | rfl | decide) (by first | omega | (rw [fset_at]; omega) | (simp only [Ls_len]; omega) | assumption | exact Ls_get (by omega) (by omega) | exact up_at _ _ _ | rfl | decide) (by first | omega | (rw [fset_at]; omega) | (simp only [Ls_len]; omega) | assumption | exact Ls_get (by omega) (by omega) | exact up_at _ _ _ | rfl | decide) ?_
  try rw [Ls_set (by omega)]
  refine BX13_tossNow_79  ?_
  rw [v9]
  rw [v7] at f6
  rw [te3] at f1 f2 f3 f4 f5 f6
  have fz : fset (M6 1) 9 (W 1 72 + 1) = fset (fset (fset (fset (fset (fset (fset (M 1) (11 + 6 * W 1 72 + 0) x) (11 + 6 * W 1 72 + 1) y) (11 + 6 * W 1 72 + 2) (W 0 x)) (11 + 6 * W 1 72 + 3) c) (11 + 6 * W 1 72 + 4) 0) (11 + 6 * W 1 72 + 5) (W 1 73)) 9 (W 1 72 + 1) := by rw [f6, f5, f4, f3, f2, f1]
  have tz := te.toss (fr := x) (to := y) (pl := W 0 x) (co := c) on2.1 b1
  rw [← fz] at tz
  refine k _ (mkS e6 t6 (fun i hi => fset_ne (by omega)) tz ?_ (fun j j0 => ?_) ?_)
  · unfold tossS; simp (disch := omega) only [fset_ne]
  · show tossS (W 1) x y (W 0 x) c (76 + j) = W 1 (76 + j)
    unfold tossS; simp (disch := omega) only [fset_ne]
  · unfold tossS; simp (disch := omega) only [fset_ne, fset_at]; omega
theorem M_toss {x y c : Int} (s : IsMo g h W V X F B 1 cm) (k : ∀ h1, IsMo g h1 (sToss 1 W x y c) V X F B 1 cm → Q (some (vI (aToss W x y c))) h1 n) : Rn (d + 20) bc bs mX13_toss 0 [some (vR (some 301)), some (vI x), some (vI y), some (vI c)] [] h n Q := by
  obtain ⟨M, e, ⟨⟨ts, te, ty, ⟨t1, t2, t3⟩, tp⟩, tb⟩, ⟨tv, tvb⟩, tx, ⟨⟨tt1, tt2, tt3⟩, tt4⟩, wr0, cm0, on⟩ := id s; obtain ⟨on1, on2, on3, on4, on5, on6, on7, on8⟩ := id on; have tt : tTp M F := ⟨⟨tt1, tt2, tt3⟩, tt4⟩; have m0 := e.o; have m1 := e.a1; have m2 := e.a2; have m3 := e.a3; have m4 := e.a4; have ts1 := ts.1; obtain ⟨te1, te2, te3, te4⟩ := id te; obtain ⟨⟨ty1, ty2, ty3, ty4, ty5⟩, ty6, ty7, ty8, ty9⟩ := id ty
  unfold aToss sToss at k
  have e33 : keepM W 3 3 = W 3 3 := rfl
  have e72 : keepM W 1 72 = W 1 72 := rfl
  refine BX13_toss_0 (by first | assumption | exact up_at _ _ _ | (rw [up_ne (by omega)]; first | assumption | exact up_at _ _ _ | (rw [up_ne (by omega)]; assumption))) ?_
  refine R_X13_canToss (by first | omega | (rw [fset_at]; omega) | (simp only [Ls_len]; omega) | assumption | exact Ls_get (by omega) (by omega) | exact up_at _ _ _ | rfl | decide) ?_ ?_
  · intro c1 c2 c3 c4 c5 c6
    refine BX13_toss_6  ?_ ?_
    · intro hc1
      exact absurd hc1 (by decide)
    · intro hc2
      refine BX13_toss_9  ?_
      refine R_X13_isIn  ?_ ?_
      · intro w1 w2
        refine BX13_toss_16  ?_ ?_
        · intro hc3
          refine BX13_toss_21 (by first | assumption | exact up_at _ _ _ | (rw [up_ne (by omega)]; first | assumption | exact up_at _ _ _ | (rw [up_ne (by omega)]; assumption))) ?_
          refine R_X13_keep (by first | omega | (rw [fset_at]; omega) | (simp only [Ls_len]; omega) | assumption | exact Ls_get (by omega) (by omega) | exact up_at _ _ _ | rfl | decide) ?_
          intro h22 s22
          obtain ⟨_, e22, _⟩ := id s22
          have m0 := e22.o
          refine BX13_toss_25 (by first | assumption | exact up_at _ _ _ | (rw [up_ne (by omega)]; first | assumption | exact up_at _ _ _ | (rw [up_ne (by omega)]; assumption))) ?_
          refine R_X13_tossNow (by first | omega | (rw [fset_at]; omega) | (simp only [Ls_len]; omega) | assumption | exact Ls_get (by omega) (by omega) | exact up_at _ _ _ | rfl | decide) (by first | omega | (rw [fset_at]; omega) | (simp only [Ls_len]; omega) | assumption | exact Ls_get (by omega) (by omega) | exact up_at _ _ _ | rfl | decide) (by first | omega | (rw [fset_at]; omega) | (simp only [Ls_len]; omega) | assumption | exact Ls_get (by omega) (by omega) | exact up_at _ _ _ | rfl | decide) (by first | omega | (rw [fset_at]; omega) | (simp only [Ls_len]; omega) | assumption | exact Ls_get (by omega) (by omega) | exact up_at _ _ _ | rfl | decide) ?_
          intro h29 s29
          obtain ⟨M9, e29, t29⟩ := id s29
          have m0 := e29.o
          have m1 := e29.a1
          have v9 : M9 1 9 = W 1 72 + 1 := by have := t29.1.1.2.1.2.2.1; rw [this]; show tossS (keepM W 1) x y _ c 72 = _; unfold tossS; simp (disch := omega) only [fset_ne, fset_at]; rfl
          refine BX13_toss_32 (by first | assumption | exact up_at _ _ _ | (rw [up_ne (by omega)]; first | assumption | exact up_at _ _ _ | (rw [up_ne (by omega)]; assumption))) (by rfl) (by first | assumption | exact up_at _ _ _ | (rw [up_ne (by omega)]; first | assumption | exact up_at _ _ _ | (rw [up_ne (by omega)]; assumption))) (by first | exact Ls_get (by omega) (by omega) | assumption) (by first | omega | (rw [fset_at]; omega) | (simp only [Ls_len]; omega) | assumption | exact Ls_get (by omega) (by omega) | exact up_at _ _ _ | rfl | decide) ?_
          have hb : tossB W x y c = true := decide_eq_true (by omega)
          rw [if_pos hb, if_pos hb] at k
          rw [v9, show W 1 72 + 1 - 1 = W 1 72 by omega]
          exact k _ s29
        · intro hc4
          exact absurd hc4 (by decide)
      · intro w3
        refine BX13_toss_16  ?_ ?_
        · intro hc5
          exact absurd hc5 (by decide)
        · intro hc6
          refine BX13_toss_19  ?_
          have hb : ¬ tossB W x y c = true := fun q => by have := of_decide_eq_true q; omega
          rw [if_neg hb, if_neg hb] at k; exact k _ s
  · intro c7
    refine BX13_toss_6  ?_ ?_
    · intro hc7
      refine BX13_toss_19  ?_
      have hb : ¬ tossB W x y c = true := fun q => by have := of_decide_eq_true q; omega
      rw [if_neg hb, if_neg hb] at k; exact k _ s
    · intro hc8
      exact absurd hc8 (by decide)
theorem M_fish {b p : Int} (s : IsMo g h W V X F B 1 cm) (ok : okW W) (k : ∀ h1, IsMo g h1 (sFish 1 W b p) V X F B 1 cm → Q (some (vI (aFish W b p))) h1 n) : Rn (d + 20) bc bs mX13_fish 0 [some (vR (some 301)), some (vI b), some (vI p)] [] h n Q := by
  obtain ⟨M, e, ⟨⟨ts, te, ty, ⟨t1, t2, t3⟩, tp⟩, tb⟩, ⟨tv, tvb⟩, tx, ⟨⟨tt1, tt2, tt3⟩, tt4⟩, wr0, cm0, on⟩ := id s; obtain ⟨on1, on2, on3, on4, on5, on6, on7, on8⟩ := id on; have tt : tTp M F := ⟨⟨tt1, tt2, tt3⟩, tt4⟩; have m0 := e.o; have m1 := e.a1; have m2 := e.a2; have m3 := e.a3; have m4 := e.a4; have ts1 := ts.1; obtain ⟨te1, te2, te3, te4⟩ := id te; obtain ⟨⟨ty1, ty2, ty3, ty4, ty5⟩, ty6, ty7, ty8, ty9⟩ := id ty
  unfold aFish sFish at k
  have e72 : keepM W 1 72 = W 1 72 := rfl
  have e2 : keepM W 1 (b * 6 + 2) = W 1 (b * 6 + 2) := rfl
  have ob : ¬ (0 ≤ b ∧ b < W 1 72) ∨ (0 ≤ W 1 (b * 6 + 2) ∧ W 1 (b * 6 + 2) ≤ 9) := by
    by_cases q : 0 ≤ b ∧ b < W 1 72
    · have := ok.2.1.2 b q.1 q.2; unfold okBo at this; exact .inr this.2.2.1
    · exact .inl q
  have ap : 0 ≤ p → p < W 3 3 → atP (W 3 3) (W 0) p = W 0 p := fun p0 p1 => by unfold atP; rw [if_pos (by omega)]
  refine BX13_fish_0 (by first | assumption | exact up_at _ _ _ | (rw [up_ne (by omega)]; first | assumption | exact up_at _ _ _ | (rw [up_ne (by omega)]; assumption))) ?_
  refine R_X13_canFish (by first | omega | (rw [fset_at]; omega) | (simp only [Ls_len]; omega) | assumption | exact Ls_get (by omega) (by omega) | exact up_at _ _ _ | rfl | decide) ?_ ?_
  · intro c1 c2 c3 c4 c5 c6 c7
    refine BX13_fish_6  ?_ ?_
    · intro hc1
      refine BX13_fish_11 (by first | assumption | exact up_at _ _ _ | (rw [up_ne (by omega)]; first | assumption | exact up_at _ _ _ | (rw [up_ne (by omega)]; assumption))) ?_
      refine R_X13_keep (by first | omega | (rw [fset_at]; omega) | (simp only [Ls_len]; omega) | assumption | exact Ls_get (by omega) (by omega) | exact up_at _ _ _ | rfl | decide) ?_
      intro h12 s12
      obtain ⟨_, e12, _⟩ := id s12
      have m0 := e12.o
      refine BX13_fish_15 (by first | assumption | exact up_at _ _ _ | (rw [up_ne (by omega)]; first | assumption | exact up_at _ _ _ | (rw [up_ne (by omega)]; assumption))) ?_
      refine R_X13_fishNow (by first | omega | (rw [fset_at]; omega) | (simp only [Ls_len]; omega) | assumption | exact Ls_get (by omega) (by omega) | exact up_at _ _ _ | rfl | decide) (by first | omega | (rw [fset_at]; omega) | (simp only [Ls_len]; omega) | assumption | exact Ls_get (by omega) (by omega) | exact up_at _ _ _ | rfl | decide) (by first | omega | (rw [fset_at]; omega) | (simp only [Ls_len]; omega) | assumption | exact Ls_get (by omega) (by omega) | exact up_at _ _ _ | rfl | decide) (by first | omega | (rw [fset_at]; omega) | (simp only [Ls_len]; omega) | assumption | exact Ls_get (by omega) (by omega) | exact up_at _ _ _ | rfl | decide) (by first | omega | (rw [fset_at]; omega) | (simp only [Ls_len]; omega) | assumption | exact Ls_get (by omega) (by omega) | exact up_at _ _ _ | rfl | decide) (by first | omega | (rw [fset_at]; omega) | (simp only [Ls_len]; omega) | assumption | exact Ls_get (by omega) (by omega) | exact up_at _ _ _ | rfl | decide) (by first | omega | (rw [fset_at]; omega) | (simp only [Ls_len]; omega) | assumption | exact Ls_get (by omega) (by omega) | exact up_at _ _ _ | rfl | decide) (by first | omega | (rw [fset_at]; omega) | (simp only [Ls_len]; omega) | assumption | exact Ls_get (by omega) (by omega) | exact up_at _ _ _ | rfl | decide) ?_
      intro h18 s18
      refine BX13_fish_21  ?_
      have hb : fishB W b p = true := decide_eq_true (by have := ap c4 c5; omega)
      rw [if_pos hb, if_pos hb] at k
      exact k _ s18
    · intro hc2
      exact absurd hc2 (by decide)
  · intro c8
    refine BX13_fish_6  ?_ ?_
    · intro hc3
      exact absurd hc3 (by decide)
    · intro hc4
      refine BX13_fish_9  ?_
      have hb : ¬ fishB W b p = true := fun q => by
        have q1 := of_decide_eq_true q
        have q2 := ap q1.2.2.1.1 q1.2.2.1.2
        omega
      rw [if_neg hb, if_neg hb] at k; exact k _ s
theorem M_again {b : Int} (s : IsMo g h W V X F B 1 cm) (ok : okW W) (k : ∀ h1, IsMo g h1 (sAgain 1 W b) V X F B 1 cm → Q (some (vI (aAgain W b))) h1 n) : Rn (d + 20) bc bs mX13_again 0 [some (vR (some 301)), some (vI b)] [] h n Q := by
  obtain ⟨M, e, ⟨⟨ts, te, ty, ⟨t1, t2, t3⟩, tp⟩, tb⟩, ⟨tv, tvb⟩, tx, ⟨⟨tt1, tt2, tt3⟩, tt4⟩, wr0, cm0, on⟩ := id s; obtain ⟨on1, on2, on3, on4, on5, on6, on7, on8⟩ := id on; have tt : tTp M F := ⟨⟨tt1, tt2, tt3⟩, tt4⟩; have m0 := e.o; have m1 := e.a1; have m2 := e.a2; have m3 := e.a3; have m4 := e.a4; have ts1 := ts.1; obtain ⟨te1, te2, te3, te4⟩ := id te; obtain ⟨⟨ty1, ty2, ty3, ty4, ty5⟩, ty6, ty7, ty8, ty9⟩ := id ty
  unfold aAgain sAgain at k
  have e72 : keepM W 1 72 = W 1 72 := rfl
  have e4 : keepM W 1 (b * 6 + 4) = W 1 (b * 6 + 4) := rfl
  have e33 : keepM W 3 3 = W 3 3 := rfl
  have ob : ¬ (0 ≤ b ∧ b < W 1 72) ∨ (W 1 (b * 6 + 4) < 3 + W 3 3) := by
    by_cases q : 0 ≤ b ∧ b < W 1 72
    · have := ok.2.1.2 b q.1 q.2; unfold okBo at this; exact .inr this.2.2.2.2.1.2
    · exact .inl q
  refine BX13_again_0 (by first | assumption | exact up_at _ _ _ | (rw [up_ne (by omega)]; first | assumption | exact up_at _ _ _ | (rw [up_ne (by omega)]; assumption))) ?_
  refine R_X13_canAgain (by first | omega | (rw [fset_at]; omega) | (simp only [Ls_len]; omega) | assumption | exact Ls_get (by omega) (by omega) | exact up_at _ _ _ | rfl | decide) ?_ ?_
  · intro c1 c2 c3
    refine BX13_again_5  ?_ ?_
    · intro hc1
      refine BX13_again_10 (by first | assumption | exact up_at _ _ _ | (rw [up_ne (by omega)]; first | assumption | exact up_at _ _ _ | (rw [up_ne (by omega)]; assumption))) ?_
      refine R_X13_keep (by first | omega | (rw [fset_at]; omega) | (simp only [Ls_len]; omega) | assumption | exact Ls_get (by omega) (by omega) | exact up_at _ _ _ | rfl | decide) ?_
      intro h11 s11
      obtain ⟨_, e11, _⟩ := id s11
      have m0 := e11.o
      refine BX13_again_14 (by first | assumption | exact up_at _ _ _ | (rw [up_ne (by omega)]; first | assumption | exact up_at _ _ _ | (rw [up_ne (by omega)]; assumption))) ?_
      refine R_X13_againNow (by first | omega | (rw [fset_at]; omega) | (simp only [Ls_len]; omega) | assumption | exact Ls_get (by omega) (by omega) | exact up_at _ _ _ | rfl | decide) (by first | omega | (rw [fset_at]; omega) | (simp only [Ls_len]; omega) | assumption | exact Ls_get (by omega) (by omega) | exact up_at _ _ _ | rfl | decide) (by first | omega | (rw [fset_at]; omega) | (simp only [Ls_len]; omega) | assumption | exact Ls_get (by omega) (by omega) | exact up_at _ _ _ | rfl | decide) (by first | omega | (rw [fset_at]; omega) | (simp only [Ls_len]; omega) | assumption | exact Ls_get (by omega) (by omega) | exact up_at _ _ _ | rfl | decide) (by first | omega | (rw [fset_at]; omega) | (simp only [Ls_len]; omega) | assumption | exact Ls_get (by omega) (by omega) | exact up_at _ _ _ | rfl | decide) ?_
      intro h16 s16
      refine BX13_again_19  ?_
      have hb : againB W b = true := decide_eq_true (by omega)
      rw [if_pos hb, if_pos hb] at k
      exact k _ s16
    · intro hc2
      exact absurd hc2 (by decide)
  · intro c4
    refine BX13_again_5  ?_ ?_
    · intro hc3
      exact absurd hc3 (by decide)
    · intro hc4
      refine BX13_again_8  ?_
      have hb : ¬ againB W b = true := fun q => by have q1 := of_decide_eq_true q; omega
      rw [if_neg hb, if_neg hb] at k; exact k _ s
theorem R_X13_arePassed {m : Int} {l2 : Option aV} (s : IsMo g h W V X F B 1 cm) (ok : okW W) (m0 : 0 ≤ m) (m1 : m ≤ 60) (k : ∀ h1, IsMo g h1 (tidesM X W m.toNat).1 V X F B 1 (tidesM X W m.toNat).2 → Q (some (vI (if W 1 73 + m ≤ 9999 then 1 else 0))) h1 n) : Rn (d + 9) bc bs mX13_arePassed 0 [some (vR (some 301)), some (vI m), l2] [] h n Q := by
  have loop : ∀ (j i : Nat) (h1 : aH), (i : Int) + j = m → (tidesM X W i).1 1 73 = W 1 73 + i → IsMo g h1 (tidesM X W i).1 V X F B 1 (tidesM X W i).2 → Rn (d + 9) bc bs mX13_arePassed 7 [some (vR (some 301)), some (vI m), some (vI (i : Int))] [] h1 n Q := by
    intro j
    induction j with
    | zero =>
      intro i h1 hi ht s1
      have e9 : i = m.toNat := by omega
      have tk := tidesM_ok (X := X) ok i
      have q1 := tk.1.2.1.1
      subst e9
      rw [if_pos (by omega)] at k
      refine BX13_arePassed_7  ?_ ?_
      · intro hc1
        first
        | (exfalso; omega)
        | (
            refine BX13_arePassed_41  ?_
            exact k _ s1
          )
      · intro hc2
        first
        | (exfalso; omega)
        | (
            (exfalso; omega)
          )
    | succ j ih =>
      intro i h1 hi ht s1
      have tk := tidesM_ok (X := X) ok i
      have q1 := tk.1.2.1.1
      have ih1 := ih (i + 1)
      unfold tidesM at ih1
      obtain ⟨M, e, t⟩ := id s1
      have n0 := e.o
      have n1 := e.a1
      have te1 : M 1 7 = (tidesM X W i).1 1 73 := t.1.1.2.1.1
      by_cases q : (tidesM X W i).1 1 73 < 9999
      · rw [if_pos q] at ih1
        have tw := tideW_ok (X := X) tk.1 q
        have okk := okW_keep tk.1
        have q73 : keepM (tidesM X W i).1 1 73 < 9999 := q
        refine BX13_arePassed_7  ?_ ?_
        · intro hc1
          first
          | (exfalso; omega)
          | (
              (exfalso; omega)
            )
        · intro hc2
          first
          | (exfalso; omega)
          | (
              refine BX13_arePassed_12 (by first | assumption | exact up_at _ _ _ | (rw [up_ne (by omega)]; first | assumption | exact up_at _ _ _ | (rw [up_ne (by omega)]; assumption))) (by rfl) (by first | assumption | exact up_at _ _ _ | (rw [up_ne (by omega)]; first | assumption | exact up_at _ _ _ | (rw [up_ne (by omega)]; assumption))) (by first | exact Ls_get (by omega) (by omega) | assumption) ?_ ?_
              · intro hc3
                first
                | (exfalso; omega)
                | (
                    refine BX13_arePassed_27 (by first | assumption | exact up_at _ _ _ | (rw [up_ne (by omega)]; first | assumption | exact up_at _ _ _ | (rw [up_ne (by omega)]; assumption))) ?_
                    refine R_X13_keep (by first | omega | (rw [fset_at]; omega) | (simp only [Ls_len]; omega) | assumption | exact Ls_get (by omega) (by omega) | exact up_at _ _ _ | rfl | decide) ?_
                    intro h28 s28
                    obtain ⟨_, e28, _⟩ := id s28
                    have n0 := e28.o
                    refine BX13_arePassed_31 (by first | assumption | exact up_at _ _ _ | (rw [up_ne (by omega)]; first | assumption | exact up_at _ _ _ | (rw [up_ne (by omega)]; assumption))) ?_
                    refine R_X13_pass (by first | omega | (rw [fset_at]; omega) | (simp only [Ls_len]; omega) | assumption | exact Ls_get (by omega) (by omega) | exact up_at _ _ _ | rfl | decide) (by first | omega | (rw [fset_at]; omega) | (simp only [Ls_len]; omega) | assumption | exact Ls_get (by omega) (by omega) | exact up_at _ _ _ | rfl | decide) (by first | omega | (rw [fset_at]; omega) | (simp only [Ls_len]; omega) | assumption | exact Ls_get (by omega) (by omega) | exact up_at _ _ _ | rfl | decide) (by first | omega | (rw [fset_at]; omega) | (simp only [Ls_len]; omega) | assumption | exact Ls_get (by omega) (by omega) | exact up_at _ _ _ | rfl | decide) (by first | omega | (rw [fset_at]; omega) | (simp only [Ls_len]; omega) | assumption | exact Ls_get (by omega) (by omega) | exact up_at _ _ _ | rfl | decide) (by first | omega | (rw [fset_at]; omega) | (simp only [Ls_len]; omega) | assumption | exact Ls_get (by omega) (by omega) | exact up_at _ _ _ | rfl | decide) ?_
                    intro h32 s32
                    refine BX13_arePassed_35 (by first | omega | (rw [fset_at]; omega) | (simp only [Ls_len]; omega) | assumption | exact Ls_get (by omega) (by omega) | exact up_at _ _ _ | rfl | decide) ?_
                    exact ih1 _ (by omega) (by rw [tw.2.1]; omega) s32
                  )
              · intro hc4
                first
                | (exfalso; omega)
                | (
                    (exfalso; omega)
                  )
            )
      · have st := tidesM_stuck q (m.toNat - i)
        rw [show i + (m.toNat - i) = m.toNat by omega] at st
        rw [st, if_neg (by omega)] at k
        refine BX13_arePassed_7  ?_ ?_
        · intro hc1
          first
          | (exfalso; omega)
          | (
              (exfalso; omega)
            )
        · intro hc2
          first
          | (exfalso; omega)
          | (
              refine BX13_arePassed_12 (by first | assumption | exact up_at _ _ _ | (rw [up_ne (by omega)]; first | assumption | exact up_at _ _ _ | (rw [up_ne (by omega)]; assumption))) (by rfl) (by first | assumption | exact up_at _ _ _ | (rw [up_ne (by omega)]; first | assumption | exact up_at _ _ _ | (rw [up_ne (by omega)]; assumption))) (by first | exact Ls_get (by omega) (by omega) | assumption) ?_ ?_
              · intro hc3
                first
                | (exfalso; omega)
                | (
                    (exfalso; omega)
                  )
              · intro hc4
                first
                | (exfalso; omega)
                | (
                    refine BX13_arePassed_25  ?_
                    exact k _ s1
                  )
            )
  obtain ⟨M, e, t⟩ := id s
  have n0 := e.o
  have s2 := mkC (c := 0) e t
  refine BX13_arePassed_0 (by first | assumption | exact up_at _ _ _ | (rw [up_ne (by omega)]; first | assumption | exact up_at _ _ _ | (rw [up_ne (by omega)]; assumption))) (by unfold mf; simp) ?_
  refine BX13_arePassed_5  ?_
  exact loop m.toNat 0 _ (by omega) (Int.add_zero _).symm s2
theorem M_tide {m : Int} (s : IsMo g h W V X F B 1 cm) (ok : okW W) (k : ∀ h1 c2, (c2 = cm ∨ (0 ≤ c2 ∧ c2 ≤ 720)) → IsMo g h1 (sTide X W m) V X F B 1 c2 → Q (some (vI (aTide X W m))) h1 n) : Rn (d + 30) bc bs mX13_tide 0 [some (vR (some 301)), some (vI m)] [] h n Q := by
  obtain ⟨M, e, ⟨⟨ts, te, ty, ⟨t1, t2, t3⟩, tp⟩, tb⟩, ⟨tv, tvb⟩, tx, ⟨⟨tt1, tt2, tt3⟩, tt4⟩, wr0, cm0, on⟩ := id s; obtain ⟨on1, on2, on3, on4, on5, on6, on7, on8⟩ := id on; have tt : tTp M F := ⟨⟨tt1, tt2, tt3⟩, tt4⟩; have m0 := e.o; have m1 := e.a1; have m2 := e.a2; have m3 := e.a3; have m4 := e.a4; have ts1 := ts.1; obtain ⟨te1, te2, te3, te4⟩ := id te; obtain ⟨⟨ty1, ty2, ty3, ty4, ty5⟩, ty6, ty7, ty8, ty9⟩ := id ty
  unfold aTide sTide at k
  have tk := tidesM_ok (X := X) ok m.toNat
  refine BX13_tide_0  ?_
  refine R_X13_isIn  ?_ ?_
  · intro w1 w2
    refine BX13_tide_7  ?_ ?_
    · intro hc1
      exact absurd hc1 (by decide)
    · intro hc2
      refine BX13_tide_10 (by first | assumption | exact up_at _ _ _ | (rw [up_ne (by omega)]; first | assumption | exact up_at _ _ _ | (rw [up_ne (by omega)]; assumption))) (by rfl) (by first | assumption | exact up_at _ _ _ | (rw [up_ne (by omega)]; first | assumption | exact up_at _ _ _ | (rw [up_ne (by omega)]; assumption))) (by first | exact Ls_get (by omega) (by omega) | assumption) (by first | omega | (rw [fset_at]; omega) | (simp only [Ls_len]; omega) | assumption | exact Ls_get (by omega) (by omega) | exact up_at _ _ _ | rfl | decide) ?_ ?_
      · intro hc3
        refine BX13_tide_40  ?_
        first | (rw [if_neg (by omega), if_neg (by omega)] at k; exact k _ _ (.inl rfl) s) | (exfalso; omega)
      · intro hc4
        refine BX13_tide_25 (by first | assumption | exact up_at _ _ _ | (rw [up_ne (by omega)]; first | assumption | exact up_at _ _ _ | (rw [up_ne (by omega)]; assumption))) ?_
        refine R_X13_arePassed (by first | omega | (rw [fset_at]; omega) | (simp only [Ls_len]; omega) | assumption | exact Ls_get (by omega) (by omega) | exact up_at _ _ _ | rfl | decide) (by first | omega | (rw [fset_at]; omega) | (simp only [Ls_len]; omega) | assumption | exact Ls_get (by omega) (by omega) | exact up_at _ _ _ | rfl | decide) (by first | omega | (rw [fset_at]; omega) | (simp only [Ls_len]; omega) | assumption | exact Ls_get (by omega) (by omega) | exact up_at _ _ _ | rfl | decide) (by first | omega | (rw [fset_at]; omega) | (simp only [Ls_len]; omega) | assumption | exact Ls_get (by omega) (by omega) | exact up_at _ _ _ | rfl | decide) ?_
        intro h27 s27
        obtain ⟨M9, e27, t27⟩ := id s27
        have n0 := e27.o
        have c27 : M9 0 24 = (tidesM X W m.toNat).2 := t27.2.2.2.2.2.1
        rw [if_pos (show W 1 73 + m ≤ 9999 by omega)]
        refine BX13_tide_30  ?_ ?_
        · intro hc5
          refine BX13_tide_40  ?_
          first | (rw [if_neg (by omega), if_neg (by omega)] at k; exact k _ _ (.inl rfl) s) | (exfalso; omega)
        · intro hc6
          refine BX13_tide_33 (by first | assumption | exact up_at _ _ _ | (rw [up_ne (by omega)]; first | assumption | exact up_at _ _ _ | (rw [up_ne (by omega)]; assumption))) (by rfl) ?_
          (rw [if_pos (by omega), if_pos (by omega)] at k; rw [c27]; exact k _ _ (.inr (by omega)) s27)
  · intro w3
    refine BX13_tide_7  ?_ ?_
    · intro hc7
      refine BX13_tide_40  ?_
      first | (rw [if_neg (by omega), if_neg (by omega)] at k; exact k _ _ (.inl rfl) s) | (exfalso; omega)
    · intro hc8
      exact absurd hc8 (by decide)
end TOSS2
