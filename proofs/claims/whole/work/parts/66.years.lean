theorem tossS_ok {np fr to pl co : Int} {S : Int → Int} (q : okSe np S) (hb : S 72 < 12) (f0 : 0 ≤ fr) (f1 : fr < np) (t0 : 0 ≤ to) (t1 : to < np) (p0 : 0 ≤ pl) (p1 : pl ≤ 9) (c0 : 0 ≤ co) (c1 : co ≤ 99) : okSe np (tossS S fr to pl co) := by
  obtain ⟨q1, q2⟩ := q
  have e72 : tossS S fr to pl co 72 = S 72 + 1 := by unfold tossS; repeat (first | rw [fset_at] | rw [fset_ne (by omega)])
  have e : ∀ j, 73 ≤ j → tossS S fr to pl co j = S j := fun j hj => by unfold tossS; repeat rw [fset_ne (by omega)]
  refine ⟨by rw [e72, e _ (by decide), e _ (by decide), e _ (by decide)]; omega, fun c c0 c1 => ?_⟩
  rw [e72] at c1
  by_cases w : c = S 72
  · subst w
    unfold okBo tossS
    simp (disch := omega) only [fset_at, fset_ne]
    omega
  · have z := q2 c c0 (by omega)
    unfold okBo at z ⊢
    unfold tossS
    simp (disch := omega) only [fset_ne]
    exact z
theorem okW_step {c : Int} {W : Int → Int → Int} (ok : okW W) : okW (stepM c W) := by
  unfold stepM
  split
  · exact ok
  · exact okW_keep ok
theorem okW_toss {c fr to co : Int} {W : Int → Int → Int} (ok : okW W) : okW (sToss c W fr to co) := by
  unfold sToss
  split
  · rename_i e
    have e := of_decide_eq_true e
    have p := (atP_ok ok.1 fr).1
    refine okW_sea (okW_step ok) ?_
    rw [step33, step1, step0]
    exact tossS_ok ok.2.1 (by omega) (by omega) (by omega) (by omega) (by omega) (by omega) (by omega) (by omega) (by omega)
  · exact ok
theorem okW_fish {c b p : Int} {W : Int → Int → Int} (ok : okW W) : okW (sFish c W b p) := by
  unfold sFish
  split
  · rename_i e
    have e := of_decide_eq_true e
    have := ok.2.1.1
    refine okW_sea (okW_step ok) ?_
    rw [step33, step1]
    exact (ok.2.1.how (by omega) (by omega) (by omega) (by omega)).wr
  · exact ok
theorem okW_again {c b : Int} {W : Int → Int → Int} (ok : okW W) : okW (sAgain c W b) := by
  unfold sAgain
  split
  · rename_i e
    have e := of_decide_eq_true e
    have p := (atP_ok ok.1 (W 1 (b * 6 + 4) - 3)).1
    have := ok.2.1.1
    have := ok.1.1
    refine okW_sea (okW_step ok) ?_
    rw [step33, step1, step0]
    exact (ok.2.1.at p.1 p.2 (by omega) (by omega)).how (by omega) (by omega) (by omega) (by omega)
  · exact ok
theorem okW_dr {W : Int → Int → Int} (ok : okW W) : okW (fset W 1 (drM (W 1))) := okW_sea ok ok.2.1.dr
theorem okW_live {X : Int → Tx} {W : Int → Int → Int} {x : Int} (ok : okW W) : okW (liveM X W x) := by
  unfold liveM
  split
  · split
    · exact okW_sea ok (passW_ok ok (by assumption)).1
    · exact ok
  · split
    · split
      · exact okW_again ok
      · exact ok
    · split
      · split
        · exact okW_fish ok
        · exact ok
      · split
        · exact okW_toss ok
        · exact ok
theorem okW_seed {W : Int → Int → Int} {z : Int} (ok : okW W) (z0 : 0 ≤ z) (z1 : z ≤ 9999) : okW (seedW W z) := by
  refine okW_sea (okW_keep ok) ?_
  obtain ⟨q1, q2⟩ := ok.2.1
  refine ⟨by rw [fset_ne (by decide), fset_ne (by decide), fset_at, fset_ne (by decide)]; omega, fun c c0 c1 => ?_⟩
  rw [fset_ne (by decide)] at c1
  exact okBo_lo (fun j j0 j1 => fset_ne (by omega)) c0 (by omega) (q2 c c0 c1)
theorem okW_years {X : Int → Tx} {W : Int → Int → Int} (ok : okW W) : ∀ k : Nat, okW (yearsM X W k) := by
  intro k
  induction k with
  | zero => exact ok
  | succ k ih => exact okW_live (okW_dr ih)
section YEARS
variable {d bc bs n : Nat} {g h : aH} {Q : aQ} {W V : Int → Int → Int} {X : Int → Tx} {F : Int → Int}
theorem P_liveYear {x : Int} (s : IsPo g h W V X F) (ok : okW W) (x0 : 0 ≤ x) (x1 : x < 100000) (k : ∀ h1, IsPo g h1 (liveM X W x) V X F → Q none h1 n) : Rn (d + 25) bc bs mX12_liveYear 0 [some (vR (some 1)), some (vI x), none, none, none] [] h n Q := by
  obtain ⟨fp, p1, w, v, tp, gr, ⟨lx, la⟩, ro, ri, Gx, gl⟩ := id s; have w1 := w.1; have sh := w.2.1; have se := w.2.2.1; obtain ⟨Ts, ps, st, ste⟩ := w.2.2.2.1; have sa := w.2.2.2.2.1; have sh1 := sh.1; have se1 := se.1; have st1 := st.1; have sa1 := sa.1; obtain ⟨tl, la1⟩ := la.ob; have gl1 := gl.1; have bk0 := se.2.2; have bk1 := bk0.1
  obtain ⟨o1, o2, o3, o4, o5⟩ := id ok; have o11 := o1.1; have o21 := o2.1; have o51 := o5.1; have o52 := o5.2.1; have o53 := o5.2.2.1; have o54 := o5.2.2.2.1
  have m1 : Int.tmod x (W 1 72) = x % W 1 72 := Int.tmod_eq_emod_of_nonneg x0
  have m2 : Int.tmod x (W 3 3) = x % W 3 3 := Int.tmod_eq_emod_of_nonneg x0
  have m3 : Int.tmod (x / 6) (W 3 3) = x / 6 % W 3 3 := Int.tmod_eq_emod_of_nonneg (by omega)
  unfold liveM at k
  refine BX12_liveYear_0 (by first | omega | assumption | (simp only [Ls_len]; omega) | exact Ls_get (by omega) (by omega) | rfl | decide) (by first | assumption | exact up_at _ _ _ | (rw [up_ne (by omega)]; first | assumption | exact up_at _ _ _ | (rw [up_ne (by omega)]; first | assumption | exact up_at _ _ _ | (rw [up_ne (by omega)]; assumption)))) (by rfl) (by first | assumption | exact up_at _ _ _ | (rw [up_ne (by omega)]; first | assumption | exact up_at _ _ _ | (rw [up_ne (by omega)]; first | assumption | exact up_at _ _ _ | (rw [up_ne (by omega)]; assumption)))) (by rfl) (by first | assumption | exact up_at _ _ _ | (rw [up_ne (by omega)]; first | assumption | exact up_at _ _ _ | (rw [up_ne (by omega)]; first | assumption | exact up_at _ _ _ | (rw [up_ne (by omega)]; assumption)))) (by rfl) (by rfl) (by first | assumption | exact up_at _ _ _ | (rw [up_ne (by omega)]; first | assumption | exact up_at _ _ _ | (rw [up_ne (by omega)]; first | assumption | exact up_at _ _ _ | (rw [up_ne (by omega)]; assumption)))) (by rfl) ?_ ?_
  · intro hc1
    refine BX12_liveYear_81  ?_ ?_
    · intro hc2
      refine BX12_liveYear_104  ?_ ?_
      · intro hc3
        refine BX12_liveYear_137  ?_ ?_
        · intro hc4
          refine BX12_liveYear_162  ?_
          first | (rw [if_pos (by omega), if_neg (by omega)] at k; exact k _ s) | (rw [if_neg (by omega), if_pos (by omega), if_neg (by omega)] at k; exact k _ s) | (rw [if_neg (by omega), if_neg (by omega), if_pos (by omega), if_neg (by omega)] at k; exact k _ s) | (rw [if_neg (by omega), if_neg (by omega), if_neg (by omega), if_neg (by omega)] at k; exact k _ s)
        · intro hc5
          refine BX12_liveYear_141 (by first | omega | assumption | (simp only [Ls_len]; omega) | exact Ls_get (by omega) (by omega) | rfl | decide) (by first | omega | assumption | (simp only [Ls_len]; omega) | exact Ls_get (by omega) (by omega) | rfl | decide) (by first | omega | assumption | (simp only [Ls_len]; omega) | exact Ls_get (by omega) (by omega) | rfl | decide) (by first | omega | assumption | (simp only [Ls_len]; omega) | exact Ls_get (by omega) (by omega) | rfl | decide) (by first | assumption | exact up_at _ _ _ | (rw [up_ne (by omega)]; first | assumption | exact up_at _ _ _ | (rw [up_ne (by omega)]; first | assumption | exact up_at _ _ _ | (rw [up_ne (by omega)]; assumption)))) ?_
          refine P_tossBottle (by first | omega | assumption | (simp only [Ls_len]; omega) | exact Ls_get (by omega) (by omega) | rfl | decide) (by first | omega | assumption | (simp only [Ls_len]; omega) | exact Ls_get (by omega) (by omega) | rfl | decide) ?_
          intro h158 s158
          refine BX12_liveYear_161  ?_
          rw [if_neg (by omega), if_neg (by omega), if_neg (by omega), if_pos (by assumption), ← m2, ← m3] at k
          exact k _ s158
      · intro hc6
        refine BX12_liveYear_109  ?_ ?_
        · intro hc7
          refine BX12_liveYear_162  ?_
          first | (rw [if_pos (by omega), if_neg (by omega)] at k; exact k _ s) | (rw [if_neg (by omega), if_pos (by omega), if_neg (by omega)] at k; exact k _ s) | (rw [if_neg (by omega), if_neg (by omega), if_pos (by omega), if_neg (by omega)] at k; exact k _ s) | (rw [if_neg (by omega), if_neg (by omega), if_neg (by omega), if_neg (by omega)] at k; exact k _ s)
        · intro hc8
          refine BX12_liveYear_114  ?_ ?_
          · intro hc9
            refine BX12_liveYear_162  ?_
            first | (rw [if_pos (by omega), if_neg (by omega)] at k; exact k _ s) | (rw [if_neg (by omega), if_pos (by omega), if_neg (by omega)] at k; exact k _ s) | (rw [if_neg (by omega), if_neg (by omega), if_pos (by omega), if_neg (by omega)] at k; exact k _ s) | (rw [if_neg (by omega), if_neg (by omega), if_neg (by omega), if_neg (by omega)] at k; exact k _ s)
          · intro hc10
            refine BX12_liveYear_118 (by first | omega | assumption | (simp only [Ls_len]; omega) | exact Ls_get (by omega) (by omega) | rfl | decide) (by first | omega | assumption | (simp only [Ls_len]; omega) | exact Ls_get (by omega) (by omega) | rfl | decide) (by first | omega | assumption | (simp only [Ls_len]; omega) | exact Ls_get (by omega) (by omega) | rfl | decide) (by first | omega | assumption | (simp only [Ls_len]; omega) | exact Ls_get (by omega) (by omega) | rfl | decide) (by first | assumption | exact up_at _ _ _ | (rw [up_ne (by omega)]; first | assumption | exact up_at _ _ _ | (rw [up_ne (by omega)]; first | assumption | exact up_at _ _ _ | (rw [up_ne (by omega)]; assumption)))) ?_
            refine P_fishBottle (by first | omega | assumption | (simp only [Ls_len]; omega) | exact Ls_get (by omega) (by omega) | rfl | decide) (by first | omega | assumption | (simp only [Ls_len]; omega) | exact Ls_get (by omega) (by omega) | rfl | decide) ?_
            intro h130 s130
            refine BX12_liveYear_133  ?_
            rw [if_neg (by omega), if_neg (by omega), if_pos (by omega), if_pos ⟨by assumption, by assumption⟩, ← m1, ← m3] at k
            exact k _ s130
    · intro hc11
      refine BX12_liveYear_86  ?_ ?_
      · intro hc12
        refine BX12_liveYear_162  ?_
        first | (rw [if_pos (by omega), if_neg (by omega)] at k; exact k _ s) | (rw [if_neg (by omega), if_pos (by omega), if_neg (by omega)] at k; exact k _ s) | (rw [if_neg (by omega), if_neg (by omega), if_pos (by omega), if_neg (by omega)] at k; exact k _ s) | (rw [if_neg (by omega), if_neg (by omega), if_neg (by omega), if_neg (by omega)] at k; exact k _ s)
      · intro hc13
        refine BX12_liveYear_91 (by first | omega | assumption | (simp only [Ls_len]; omega) | exact Ls_get (by omega) (by omega) | rfl | decide) (by first | assumption | exact up_at _ _ _ | (rw [up_ne (by omega)]; first | assumption | exact up_at _ _ _ | (rw [up_ne (by omega)]; first | assumption | exact up_at _ _ _ | (rw [up_ne (by omega)]; assumption)))) ?_
        refine P_tossAgain (by first | omega | assumption | (simp only [Ls_len]; omega) | exact Ls_get (by omega) (by omega) | rfl | decide) (by first | omega | assumption | (simp only [Ls_len]; omega) | exact Ls_get (by omega) (by omega) | rfl | decide) ?_
        intro h97 s97
        refine BX12_liveYear_100  ?_
        rw [if_neg (by omega), if_pos (by omega), if_pos (by assumption), ← m1] at k
        exact k _ s97
  · intro hc14
    refine BX12_liveYear_33 (by first | assumption | exact up_at _ _ _ | (rw [up_ne (by omega)]; first | assumption | exact up_at _ _ _ | (rw [up_ne (by omega)]; first | assumption | exact up_at _ _ _ | (rw [up_ne (by omega)]; assumption)))) (by rfl) (by first | assumption | exact up_at _ _ _ | (rw [up_ne (by omega)]; first | assumption | exact up_at _ _ _ | (rw [up_ne (by omega)]; first | assumption | exact up_at _ _ _ | (rw [up_ne (by omega)]; assumption)))) (by rfl) (by first | assumption | exact up_at _ _ _ | (rw [up_ne (by omega)]; first | assumption | exact up_at _ _ _ | (rw [up_ne (by omega)]; first | assumption | exact up_at _ _ _ | (rw [up_ne (by omega)]; assumption)))) (by rfl) ?_ ?_
    · intro hc15
      refine BX12_liveYear_162  ?_
      first | (rw [if_pos (by omega), if_neg (by omega)] at k; exact k _ s) | (rw [if_neg (by omega), if_pos (by omega), if_neg (by omega)] at k; exact k _ s) | (rw [if_neg (by omega), if_neg (by omega), if_pos (by omega), if_neg (by omega)] at k; exact k _ s) | (rw [if_neg (by omega), if_neg (by omega), if_neg (by omega), if_neg (by omega)] at k; exact k _ s)
    · intro hc16
      refine BX12_liveYear_49 (by first | assumption | exact up_at _ _ _ | (rw [up_ne (by omega)]; first | assumption | exact up_at _ _ _ | (rw [up_ne (by omega)]; first | assumption | exact up_at _ _ _ | (rw [up_ne (by omega)]; assumption)))) (by rfl) (by rfl) (by first | assumption | exact up_at _ _ _ | (rw [up_ne (by omega)]; first | assumption | exact up_at _ _ _ | (rw [up_ne (by omega)]; first | assumption | exact up_at _ _ _ | (rw [up_ne (by omega)]; assumption)))) (by rfl) (by rfl) ?_
      refine R_X11_rules (by first | omega | assumption | (simp only [Ls_len]; omega) | exact Ls_get (by omega) (by omega) | rfl | decide) (by first | omega | assumption | (simp only [Ls_len]; omega) | exact Ls_get (by omega) (by omega) | rfl | decide) (by first | omega | assumption | (simp only [Ls_len]; omega) | exact Ls_get (by omega) (by omega) | rfl | decide) ?_
      intro r71 x71
      have lw := s.lw x71
      refine BX12_liveYear_74 (by first | assumption | exact up_at _ _ _ | (rw [up_ne (by omega)]; first | assumption | exact up_at _ _ _ | (rw [up_ne (by omega)]; first | assumption | exact up_at _ _ _ | (rw [up_ne (by omega)]; assumption)))) ?_
      refine R_X2_passTide (by first | omega | assumption | (simp only [Ls_len]; omega) | exact Ls_get (by omega) (by omega) | rfl | decide) (by first | omega | assumption | (simp only [Ls_len]; omega) | exact Ls_get (by omega) (by omega) | rfl | decide) (by first | omega | assumption | (simp only [Ls_len]; omega) | exact Ls_get (by omega) (by omega) | rfl | decide) ?_
      intro h74 r74 w74
      have z := s.pas r74 w74
      refine BX12_liveYear_77  ?_
      rw [if_pos (by omega), if_pos (by assumption)] at k
      exact k _ z
theorem P_years {z m : Int} (s : IsPo g h W V X F) (ok : okW W) (k : ∀ h1, IsPo g h1 (sYears X W z m) V X F → Q (some (vI (aYears X W z m))) h1 n) : Rn (d + 30) bc bs mX12_years 0 [some (vR (some 1)), some (vI z), some (vI m), none] [] h n Q := by
  have kn : ¬ (0 ≤ z ∧ z ≤ 9999 ∧ 1 ≤ m ∧ m ≤ 40) → Q (some (vI (-1))) h n := fun e => by
    have k1 := k h
    rw [sYears, aYears, if_neg e, if_neg e] at k1
    exact k1 s
  have ky : (0 ≤ z ∧ z ≤ 9999 ∧ 1 ≤ m ∧ m ≤ 40) → ∀ h1, IsPo g h1 (yearsM X (seedW W z) m.toNat) V X F → Q (some (vI (yearsM X (seedW W z) m.toNat 1 73))) h1 n := fun e h1 => by
    have k1 := k h1
    rw [sYears, aYears, if_pos e, if_pos e] at k1
    exact k1
  clear k
  have loop : (0 ≤ z ∧ z ≤ 9999 ∧ 1 ≤ m ∧ m ≤ 40) → ∀ (j i : Nat) (h1 : aH), (i : Int) + j = m → IsPo g h1 (yearsM X (seedW W z) i) V X F → Rn (d + 30) bc bs mX12_years 59 [some (vR (some 1)), some (vI z), some (vI m), some (vI i)] [] h1 n Q := by
    intro hz j
    have ky := ky hz
    induction j with
    | zero =>
      intro i h1 hi s
      have e : i = m.toNat := by omega
      subst e
      obtain ⟨fp, p1, w, v, tp, gr, ⟨lx, la⟩, ro, ri, Gx, gl⟩ := id s; have w1 := w.1; have sh := w.2.1; have se := w.2.2.1; obtain ⟨Ts, ps, st, ste⟩ := w.2.2.2.1; have sa := w.2.2.2.2.1; have sh1 := sh.1; have se1 := se.1; have st1 := st.1; have sa1 := sa.1; obtain ⟨tl, la1⟩ := la.ob; have gl1 := gl.1; have bk0 := se.2.2; have bk1 := bk0.1
      refine BX12_years_59  ?_ ?_
      · intro hc1
        first
        | (exfalso; omega)
        | (
            refine BX12_years_84 (by first | assumption | exact up_at _ _ _ | (rw [up_ne (by omega)]; first | assumption | exact up_at _ _ _ | (rw [up_ne (by omega)]; first | assumption | exact up_at _ _ _ | (rw [up_ne (by omega)]; assumption)))) (by rfl) (by first | assumption | exact up_at _ _ _ | (rw [up_ne (by omega)]; first | assumption | exact up_at _ _ _ | (rw [up_ne (by omega)]; first | assumption | exact up_at _ _ _ | (rw [up_ne (by omega)]; assumption)))) (by rfl) (by first | assumption | exact up_at _ _ _ | (rw [up_ne (by omega)]; first | assumption | exact up_at _ _ _ | (rw [up_ne (by omega)]; first | assumption | exact up_at _ _ _ | (rw [up_ne (by omega)]; assumption)))) (by rfl) ?_
            exact ky _ s
          )
      · intro hc2
        first
        | (exfalso; omega)
        | (
            (exfalso; omega)
          )
    | succ j ih =>
      intro i h1 hi s
      have ok := okW_years (X := X) (okW_seed ok hz.1 hz.2.1) i
      have okd := okW_dr ok
      have ih1 := ih (i + 1)
      obtain ⟨fp, p1, w, v, tp, gr, ⟨lx, la⟩, ro, ri, Gx, gl⟩ := id s; have w1 := w.1; have sh := w.2.1; have se := w.2.2.1; obtain ⟨Ts, ps, st, ste⟩ := w.2.2.2.1; have sa := w.2.2.2.2.1; have sh1 := sh.1; have se1 := se.1; have st1 := st.1; have sa1 := sa.1; obtain ⟨tl, la1⟩ := la.ob; have gl1 := gl.1; have bk0 := se.2.2; have bk1 := bk0.1
      obtain ⟨o1, o2, o3, o4, o5⟩ := id ok; have o11 := o1.1; have o21 := o2.1; have o51 := o5.1; have o52 := o5.2.1; have o53 := o5.2.2.1; have o54 := o5.2.2.2.1
      refine BX12_years_59  ?_ ?_
      · intro hc1
        first
        | (exfalso; omega)
        | (
            (exfalso; omega)
          )
      · intro hc2
        first
        | (exfalso; omega)
        | (
            refine BX12_years_64 (by first | assumption | exact up_at _ _ _ | (rw [up_ne (by omega)]; first | assumption | exact up_at _ _ _ | (rw [up_ne (by omega)]; first | assumption | exact up_at _ _ _ | (rw [up_ne (by omega)]; assumption)))) (by rfl) (by first | assumption | exact up_at _ _ _ | (rw [up_ne (by omega)]; first | assumption | exact up_at _ _ _ | (rw [up_ne (by omega)]; first | assumption | exact up_at _ _ _ | (rw [up_ne (by omega)]; assumption)))) (by rfl) (by first | assumption | exact up_at _ _ _ | (rw [up_ne (by omega)]; first | assumption | exact up_at _ _ _ | (rw [up_ne (by omega)]; first | assumption | exact up_at _ _ _ | (rw [up_ne (by omega)]; assumption)))) ?_
            refine R_X6_draw (by first | omega | assumption | (simp only [Ls_len]; omega) | exact Ls_get (by omega) (by omega) | rfl | decide) (by first | omega | assumption | (simp only [Ls_len]; omega) | exact Ls_get (by omega) (by omega) | rfl | decide) (by first | omega | assumption | (simp only [Ls_len]; omega) | exact Ls_get (by omega) (by omega) | rfl | decide) (by first | omega | assumption | (simp only [Ls_len]; omega) | exact Ls_get (by omega) (by omega) | rfl | decide) ?_
            intro h72 r72 e72
            have s : IsPo g _ (fset (yearsM X (seedW W z) i) 1 (drM (yearsM X (seedW W z) i 1))) V X F := s.sea r72 e72
            obtain ⟨fp, p1, w, v, tp, gr, ⟨lx, la⟩, ro, ri, Gx, gl⟩ := id s; have w1 := w.1; have sh := w.2.1; have se := w.2.2.1; obtain ⟨Ts, ps, st, ste⟩ := w.2.2.2.1; have sa := w.2.2.2.2.1; have sh1 := sh.1; have se1 := se.1; have st1 := st.1; have sa1 := sa.1; obtain ⟨tl, la1⟩ := la.ob; have gl1 := gl.1; have bk0 := se.2.2; have bk1 := bk0.1
            refine BX12_years_75 (by first | assumption | exact up_at _ _ _ | (rw [up_ne (by omega)]; first | assumption | exact up_at _ _ _ | (rw [up_ne (by omega)]; first | assumption | exact up_at _ _ _ | (rw [up_ne (by omega)]; assumption)))) ?_
            refine P_liveYear (by first | omega | assumption | (simp only [Ls_len]; omega) | exact Ls_get (by omega) (by omega) | rfl | decide) (by first | omega | assumption | (simp only [Ls_len]; omega) | exact Ls_get (by omega) (by omega) | rfl | decide) (by first | omega | assumption | (simp only [Ls_len]; omega) | exact Ls_get (by omega) (by omega) | rfl | decide) (by first | omega | assumption | (simp only [Ls_len]; omega) | exact Ls_get (by omega) (by omega) | rfl | decide) ?_
            intro h75 s75
            refine BX12_years_78 (by first | omega | assumption | (simp only [Ls_len]; omega) | exact Ls_get (by omega) (by omega) | rfl | decide) ?_
            exact ih1 _ (by omega) s75
          )
  obtain ⟨fp, p1, w, v, tp, gr, ⟨lx, la⟩, ro, ri, Gx, gl⟩ := id s; have w1 := w.1; have sh := w.2.1; have se := w.2.2.1; obtain ⟨Ts, ps, st, ste⟩ := w.2.2.2.1; have sa := w.2.2.2.2.1; have sh1 := sh.1; have se1 := se.1; have st1 := st.1; have sa1 := sa.1; obtain ⟨tl, la1⟩ := la.ob; have gl1 := gl.1; have bk0 := se.2.2; have bk1 := bk0.1
  obtain ⟨o1, o2, o3, o4, o5⟩ := id ok; have o11 := o1.1; have o21 := o2.1; have o51 := o5.1; have o52 := o5.2.1; have o53 := o5.2.2.1; have o54 := o5.2.2.2.1
  refine BX12_years_0  ?_
  refine R_X12_within  ?_ ?_
  · intro w1 w2
    refine BX12_years_8  ?_ ?_
    · intro hc1
      exact absurd hc1 (by decide)
    · intro hc2
      refine BX12_years_11  ?_
      refine R_X12_within  ?_ ?_
      · intro w1 w2
        refine BX12_years_18  ?_ ?_
        · intro hc3
          refine BX12_years_23 (by first | assumption | exact up_at _ _ _ | (rw [up_ne (by omega)]; first | assumption | exact up_at _ _ _ | (rw [up_ne (by omega)]; first | assumption | exact up_at _ _ _ | (rw [up_ne (by omega)]; assumption)))) (by rfl) (by first | assumption | exact up_at _ _ _ | (rw [up_ne (by omega)]; first | assumption | exact up_at _ _ _ | (rw [up_ne (by omega)]; first | assumption | exact up_at _ _ _ | (rw [up_ne (by omega)]; assumption)))) (by rfl) (by rfl) (by first | assumption | exact up_at _ _ _ | (rw [up_ne (by omega)]; first | assumption | exact up_at _ _ _ | (rw [up_ne (by omega)]; first | assumption | exact up_at _ _ _ | (rw [up_ne (by omega)]; assumption)))) ?_
          refine R_X8_keep (by first | omega | assumption | (simp only [Ls_len]; omega) | exact Ls_get (by omega) (by omega) | rfl | decide) (by first | omega | assumption | (simp only [Ls_len]; omega) | exact Ls_get (by omega) (by omega) | rfl | decide) (by first | omega | assumption | (simp only [Ls_len]; omega) | exact Ls_get (by omega) (by omega) | rfl | decide) (by first | omega | assumption | (simp only [Ls_len]; omega) | exact Ls_get (by omega) (by omega) | rfl | decide) (by first | omega | assumption | (simp only [Ls_len]; omega) | exact Ls_get (by omega) (by omega) | rfl | decide) (by first | omega | assumption | (simp only [Ls_len]; omega) | exact Ls_get (by omega) (by omega) | rfl | decide) (by first | omega | assumption | (simp only [Ls_len]; omega) | exact Ls_get (by omega) (by omega) | rfl | decide) ?_
          intro h37 p37 r37 s37
          have s := s.keep (by omega) r37 s37 ste
          obtain ⟨fp, p1, w, v, tp, gr, ⟨lx, la⟩, ro, ri, Gx, gl⟩ := id s; have w1 := w.1; have sh := w.2.1; have se := w.2.2.1; obtain ⟨Ts, ps, st, ste⟩ := w.2.2.2.1; have sa := w.2.2.2.2.1; have sh1 := sh.1; have se1 := se.1; have st1 := st.1; have sa1 := sa.1; obtain ⟨tl, la1⟩ := la.ob; have gl1 := gl.1; have bk0 := se.2.2; have bk1 := bk0.1
          refine BX12_years_40 (by first | assumption | exact up_at _ _ _ | (rw [up_ne (by omega)]; first | assumption | exact up_at _ _ _ | (rw [up_ne (by omega)]; first | assumption | exact up_at _ _ _ | (rw [up_ne (by omega)]; assumption)))) (by rfl) (by first | assumption | exact up_at _ _ _ | (rw [up_ne (by omega)]; first | assumption | exact up_at _ _ _ | (rw [up_ne (by omega)]; first | assumption | exact up_at _ _ _ | (rw [up_ne (by omega)]; assumption)))) (by rfl) (by first | omega | assumption | (simp only [Ls_len]; omega) | exact Ls_get (by omega) (by omega) | rfl | decide) (by first | omega | assumption | (simp only [Ls_len]; omega) | exact Ls_get (by omega) (by omega) | rfl | decide) (by first | assumption | exact up_at _ _ _ | (rw [up_ne (by omega)]; first | assumption | exact up_at _ _ _ | (rw [up_ne (by omega)]; first | assumption | exact up_at _ _ _ | (rw [up_ne (by omega)]; assumption)))) (by simp) ?_
          refine BX12_years_57  ?_
          refine loop ⟨by omega, by omega, by omega, by omega⟩ m.toNat 0 _ (by omega) ?_
          exact s.sea (Fr.wd (Fr.one _ (2 + 5) _) (by decide) (by decide)) se.dr
        · intro hc4
          exact absurd hc4 (by decide)
      · intro w3
        refine BX12_years_18  ?_ ?_
        · intro hc5
          exact absurd hc5 (by decide)
        · intro hc6
          refine BX12_years_21  ?_
          exact kn (by omega)
  · intro w3
    refine BX12_years_8  ?_ ?_
    · intro hc7
      refine BX12_years_21  ?_
      exact kn (by omega)
    · intro hc8
      exact absurd hc8 (by decide)
theorem foreS_ok {X : Int → Tx} {W : Int → Int → Int} (ok : okW W) : ∀ k : Nat, okSe (W 3 3) (foreS X W k) ∧ foreS X W k 72 = W 1 72 ∧ (foreS X W k 73 = W 1 73 + k ∨ foreS X W k 73 = 9999) := by
  intro k
  induction k with
  | zero => exact ⟨ok.2.1, rfl, .inl (Int.add_zero _).symm⟩
  | succ k ih =>
    obtain ⟨i1, i2, i3⟩ := ih
    unfold foreS
    split
    · have p := passW_ok (X := X) (okW_sea ok i1) (by assumption)
      have p3 : (passW X (fset W 1 (foreS X W k))).1 73 = foreS X W k 73 + 1 := p.2.2.1
      exact ⟨p.1, p.2.1.trans i2, by omega⟩
    · have := i1.1
      exact ⟨i1, i2, by omega⟩
theorem foreS_stuck {X : Int → Tx} {W : Int → Int → Int} {k : Nat} (h : ¬ foreS X W k 73 < 9999) : ∀ m, foreS X W (k + m) = foreS X W k := by
  intro m
  induction m with
  | zero => rfl
  | succ m ih =>
    have e : foreS X W (k + (m + 1)) = if foreS X W (k + m) 73 < 9999 then (passW X (fset W 1 (foreS X W (k + m)))).1 else foreS X W (k + m) := rfl
    rw [e, ih, if_neg h]
theorem P_foretold {m b w : Int} (s : IsPo g h W V X F) (ok : okW W) (k : ∀ h1, IsPo g h1 W V X F → Q (some (vI (aForetold X W m b w))) h1 n) : Rn (d + 30) bc bs mX12_foretold 0 [some (vR (some 1)), some (vI m), some (vI b), some (vI w), none] [] h n Q := by
  unfold aForetold at k
  have loop : (1 ≤ m ∧ m ≤ 60 ∧ 0 ≤ b ∧ b < W 1 72 ∧ 0 ≤ w ∧ w ≤ 2) → ∀ (j i : Nat) (h1 : aH), (i : Int) + j = m → IsPo g h1 W V X F → IsSe h1 297 (foreS X W i) → Rn (d + 30) bc bs mX12_foretold 52 [some (vR (some 1)), some (vI m), some (vI b), some (vI w), some (vI i)] [] h1 n Q := by
    intro hz j
    rw [if_pos hz] at k
    induction j with
    | zero =>
      intro i h1 hi s e
      have e9 : i = m.toNat := by omega
      subst e9
      obtain ⟨fp, p1, w, v, tp, gr, ⟨lx, la⟩, ro, ri, Gx, gl⟩ := id s; have w1 := w.1; have sh := w.2.1; have se := w.2.2.1; obtain ⟨Ts, ps, st, ste⟩ := w.2.2.2.1; have sa := w.2.2.2.2.1; have sh1 := sh.1; have se1 := se.1; have st1 := st.1; have sa1 := sa.1; obtain ⟨tl, la1⟩ := la.ob; have gl1 := gl.1; have bk0 := se.2.2; have bk1 := bk0.1
      obtain ⟨o1, o2, o3, o4, o5⟩ := id ok; have o11 := o1.1; have o21 := o2.1; have o51 := o5.1; have o52 := o5.2.1; have o53 := o5.2.2.1; have o54 := o5.2.2.2.1
      have e := e
      have e1 := e.1
      refine BX12_foretold_52  ?_ ?_
      · intro hc1
        first
        | (exfalso; omega)
        | (
            refine BX12_foretold_103 (by first | assumption | exact up_at _ _ _ | (rw [up_ne (by omega)]; first | assumption | exact up_at _ _ _ | (rw [up_ne (by omega)]; first | assumption | exact up_at _ _ _ | (rw [up_ne (by omega)]; assumption)))) (by rfl) (by first | omega | assumption | (simp only [Ls_len]; omega) | exact Ls_get (by omega) (by omega) | rfl | decide) (by first | assumption | exact up_at _ _ _ | (rw [up_ne (by omega)]; first | assumption | exact up_at _ _ _ | (rw [up_ne (by omega)]; first | assumption | exact up_at _ _ _ | (rw [up_ne (by omega)]; assumption)))) ?_
            refine R_X6_get (by first | omega | assumption | (simp only [Ls_len]; omega) | exact Ls_get (by omega) (by omega) | rfl | decide) (by first | omega | assumption | (simp only [Ls_len]; omega) | exact Ls_get (by omega) (by omega) | rfl | decide) (by first | omega | assumption | (simp only [Ls_len]; omega) | exact Ls_get (by omega) (by omega) | rfl | decide) (by first | omega | assumption | (simp only [Ls_len]; omega) | exact Ls_get (by omega) (by omega) | rfl | decide) (by first | omega | assumption | (simp only [Ls_len]; omega) | exact Ls_get (by omega) (by omega) | rfl | decide) (by first | omega | assumption | (simp only [Ls_len]; omega) | exact Ls_get (by omega) (by omega) | rfl | decide) ?_
            refine BX12_foretold_114  ?_
            exact k _ s
          )
      · intro hc2
        first
        | (exfalso; omega)
        | (
            (exfalso; omega)
          )
    | succ j ih =>
      intro i h1 hi s e
      have f := foreS_ok (X := X) ok i
      have f1 := f.1
      have f2 := f.1.1
      obtain ⟨fp, p1, w, v, tp, gr, ⟨lx, la⟩, ro, ri, Gx, gl⟩ := id s; have w1 := w.1; have sh := w.2.1; have se := w.2.2.1; obtain ⟨Ts, ps, st, ste⟩ := w.2.2.2.1; have sa := w.2.2.2.2.1; have sh1 := sh.1; have se1 := se.1; have st1 := st.1; have sa1 := sa.1; obtain ⟨tl, la1⟩ := la.ob; have gl1 := gl.1; have bk0 := se.2.2; have bk1 := bk0.1
      obtain ⟨o1, o2, o3, o4, o5⟩ := id ok; have o11 := o1.1; have o21 := o2.1; have o51 := o5.1; have o52 := o5.2.1; have o53 := o5.2.2.1; have o54 := o5.2.2.2.1
      have e := e
      have e1 := e.1
      refine BX12_foretold_52  ?_ ?_
      · intro hc1
        refine BX12_foretold_103 (by first | assumption | exact up_at _ _ _ | (rw [up_ne (by omega)]; first | assumption | exact up_at _ _ _ | (rw [up_ne (by omega)]; first | assumption | exact up_at _ _ _ | (rw [up_ne (by omega)]; assumption)))) (by rfl) (by first | omega | assumption | (simp only [Ls_len]; omega) | exact Ls_get (by omega) (by omega) | rfl | decide) (by first | assumption | exact up_at _ _ _ | (rw [up_ne (by omega)]; first | assumption | exact up_at _ _ _ | (rw [up_ne (by omega)]; first | assumption | exact up_at _ _ _ | (rw [up_ne (by omega)]; assumption)))) ?_
        refine R_X6_get (by first | omega | assumption | (simp only [Ls_len]; omega) | exact Ls_get (by omega) (by omega) | rfl | decide) (by first | omega | assumption | (simp only [Ls_len]; omega) | exact Ls_get (by omega) (by omega) | rfl | decide) (by first | omega | assumption | (simp only [Ls_len]; omega) | exact Ls_get (by omega) (by omega) | rfl | decide) (by first | omega | assumption | (simp only [Ls_len]; omega) | exact Ls_get (by omega) (by omega) | rfl | decide) (by first | omega | assumption | (simp only [Ls_len]; omega) | exact Ls_get (by omega) (by omega) | rfl | decide) (by first | omega | assumption | (simp only [Ls_len]; omega) | exact Ls_get (by omega) (by omega) | rfl | decide) ?_
        refine BX12_foretold_114  ?_
        first
        | (exfalso; omega)
        | (have e9 := foreS_stuck (X := X) (W := W) (k := i) (by omega) (m.toNat - i)
           rw [show i + (m.toNat - i) = m.toNat by omega] at e9
           rw [e9] at k
           exact k _ s)
      · intro hc2
        refine BX12_foretold_58 (by first | assumption | exact up_at _ _ _ | (rw [up_ne (by omega)]; first | assumption | exact up_at _ _ _ | (rw [up_ne (by omega)]; first | assumption | exact up_at _ _ _ | (rw [up_ne (by omega)]; assumption)))) (by rfl) (by first | assumption | exact up_at _ _ _ | (rw [up_ne (by omega)]; first | assumption | exact up_at _ _ _ | (rw [up_ne (by omega)]; first | assumption | exact up_at _ _ _ | (rw [up_ne (by omega)]; assumption)))) (by rfl) ?_ ?_
        · intro hc3
          refine BX12_foretold_103 (by first | assumption | exact up_at _ _ _ | (rw [up_ne (by omega)]; first | assumption | exact up_at _ _ _ | (rw [up_ne (by omega)]; first | assumption | exact up_at _ _ _ | (rw [up_ne (by omega)]; assumption)))) (by rfl) (by first | omega | assumption | (simp only [Ls_len]; omega) | exact Ls_get (by omega) (by omega) | rfl | decide) (by first | assumption | exact up_at _ _ _ | (rw [up_ne (by omega)]; first | assumption | exact up_at _ _ _ | (rw [up_ne (by omega)]; first | assumption | exact up_at _ _ _ | (rw [up_ne (by omega)]; assumption)))) ?_
          refine R_X6_get (by first | omega | assumption | (simp only [Ls_len]; omega) | exact Ls_get (by omega) (by omega) | rfl | decide) (by first | omega | assumption | (simp only [Ls_len]; omega) | exact Ls_get (by omega) (by omega) | rfl | decide) (by first | omega | assumption | (simp only [Ls_len]; omega) | exact Ls_get (by omega) (by omega) | rfl | decide) (by first | omega | assumption | (simp only [Ls_len]; omega) | exact Ls_get (by omega) (by omega) | rfl | decide) (by first | omega | assumption | (simp only [Ls_len]; omega) | exact Ls_get (by omega) (by omega) | rfl | decide) (by first | omega | assumption | (simp only [Ls_len]; omega) | exact Ls_get (by omega) (by omega) | rfl | decide) ?_
          refine BX12_foretold_114  ?_
          first
          | (exfalso; omega)
          | (have e9 := foreS_stuck (X := X) (W := W) (k := i) (by omega) (m.toNat - i)
             rw [show i + (m.toNat - i) = m.toNat by omega] at e9
             rw [e9] at k
             exact k _ s)
        · intro hc4
          refine BX12_foretold_71 (by first | assumption | exact up_at _ _ _ | (rw [up_ne (by omega)]; first | assumption | exact up_at _ _ _ | (rw [up_ne (by omega)]; first | assumption | exact up_at _ _ _ | (rw [up_ne (by omega)]; assumption)))) (by rfl) (by rfl) (by rfl) (by first | assumption | exact up_at _ _ _ | (rw [up_ne (by omega)]; first | assumption | exact up_at _ _ _ | (rw [up_ne (by omega)]; first | assumption | exact up_at _ _ _ | (rw [up_ne (by omega)]; assumption)))) (by rfl) ?_
          refine R_X11_rules (by first | omega | assumption | (simp only [Ls_len]; omega) | exact Ls_get (by omega) (by omega) | rfl | decide) (by first | omega | assumption | (simp only [Ls_len]; omega) | exact Ls_get (by omega) (by omega) | rfl | decide) (by first | omega | assumption | (simp only [Ls_len]; omega) | exact Ls_get (by omega) (by omega) | rfl | decide) ?_
          intro r90 x90
          have lw := s.lg e x90
          refine BX12_foretold_93 (by first | assumption | exact up_at _ _ _ | (rw [up_ne (by omega)]; first | assumption | exact up_at _ _ _ | (rw [up_ne (by omega)]; first | assumption | exact up_at _ _ _ | (rw [up_ne (by omega)]; assumption)))) ?_
          refine R_X2_passTide (by first | omega | assumption | (simp only [Ls_len]; omega) | exact Ls_get (by omega) (by omega) | rfl | decide) (by first | omega | assumption | (simp only [Ls_len]; omega) | exact Ls_get (by omega) (by omega) | rfl | decide) (by first | omega | assumption | (simp only [Ls_len]; omega) | exact Ls_get (by omega) (by omega) | rfl | decide) ?_
          intro h93 r93 w93
          refine BX12_foretold_96 (by first | omega | assumption | (simp only [Ls_len]; omega) | exact Ls_get (by omega) (by omega) | rfl | decide) ?_
          have e9 : foreS X W (i + 1) = (passW X (fset W 1 (foreS X W i))).1 := by rw [foreS, if_pos (by assumption)]
          have ih1 := ih (i + 1) _ (by omega) (s.pag r93 w93)
          rw [e9] at ih1
          exact ih1 w93.2.1
  obtain ⟨fp, p1, w, v, tp, gr, ⟨lx, la⟩, ro, ri, Gx, gl⟩ := id s; have w1 := w.1; have sh := w.2.1; have se := w.2.2.1; obtain ⟨Ts, ps, st, ste⟩ := w.2.2.2.1; have sa := w.2.2.2.2.1; have sh1 := sh.1; have se1 := se.1; have st1 := st.1; have sa1 := sa.1; obtain ⟨tl, la1⟩ := la.ob; have gl1 := gl.1; have bk0 := se.2.2; have bk1 := bk0.1
  obtain ⟨o1, o2, o3, o4, o5⟩ := id ok; have o11 := o1.1; have o21 := o2.1; have o51 := o5.1; have o52 := o5.2.1; have o53 := o5.2.2.1; have o54 := o5.2.2.2.1
  refine BX12_foretold_0  ?_
  refine R_X12_within  ?_ ?_
  · intro w1 w2
    refine BX12_foretold_7  ?_ ?_
    · intro hc1
      exact absurd hc1 (by decide)
    · intro hc2
      refine BX12_foretold_10 (by first | assumption | exact up_at _ _ _ | (rw [up_ne (by omega)]; first | assumption | exact up_at _ _ _ | (rw [up_ne (by omega)]; first | assumption | exact up_at _ _ _ | (rw [up_ne (by omega)]; assumption)))) (by rfl) (by first | assumption | exact up_at _ _ _ | (rw [up_ne (by omega)]; first | assumption | exact up_at _ _ _ | (rw [up_ne (by omega)]; first | assumption | exact up_at _ _ _ | (rw [up_ne (by omega)]; assumption)))) (by rfl) (by first | assumption | exact up_at _ _ _ | (rw [up_ne (by omega)]; first | assumption | exact up_at _ _ _ | (rw [up_ne (by omega)]; first | assumption | exact up_at _ _ _ | (rw [up_ne (by omega)]; assumption)))) ?_
      refine R_X6_hasBottle (by first | omega | assumption | (simp only [Ls_len]; omega) | exact Ls_get (by omega) (by omega) | rfl | decide) (by first | omega | assumption | (simp only [Ls_len]; omega) | exact Ls_get (by omega) (by omega) | rfl | decide) ?_ ?_
      · intro w1 w2
        refine BX12_foretold_21  ?_ ?_
        · intro hc3
          exact absurd hc3 (by decide)
        · intro hc4
          refine BX12_foretold_24  ?_
          refine R_X12_within  ?_ ?_
          · intro w1 w2
            refine BX12_foretold_30  ?_ ?_
            · intro hc5
              refine BX12_foretold_35 (by first | assumption | exact up_at _ _ _ | (rw [up_ne (by omega)]; first | assumption | exact up_at _ _ _ | (rw [up_ne (by omega)]; first | assumption | exact up_at _ _ _ | (rw [up_ne (by omega)]; assumption)))) (by rfl) (by rfl) (by first | assumption | exact up_at _ _ _ | (rw [up_ne (by omega)]; first | assumption | exact up_at _ _ _ | (rw [up_ne (by omega)]; first | assumption | exact up_at _ _ _ | (rw [up_ne (by omega)]; assumption)))) (by rfl) (by first | assumption | exact up_at _ _ _ | (rw [up_ne (by omega)]; first | assumption | exact up_at _ _ _ | (rw [up_ne (by omega)]; first | assumption | exact up_at _ _ _ | (rw [up_ne (by omega)]; assumption)))) ?_
              refine R_X6_copyFrom (by first | omega | assumption | (simp only [Ls_len]; omega) | exact Ls_get (by omega) (by omega) | rfl | decide) (by first | omega | assumption | (simp only [Ls_len]; omega) | exact Ls_get (by omega) (by omega) | rfl | decide) (by first | omega | assumption | (simp only [Ls_len]; omega) | exact Ls_get (by omega) (by omega) | rfl | decide) (by first | omega | assumption | (simp only [Ls_len]; omega) | exact Ls_get (by omega) (by omega) | rfl | decide) (by first | omega | assumption | (simp only [Ls_len]; omega) | exact Ls_get (by omega) (by omega) | rfl | decide) ?_
              intro h46 r46 e46
              have s := s.gla r46 e46
              refine BX12_foretold_49  ?_
              exact loop ⟨by omega, by omega, by omega, by omega, by omega, by omega⟩ m.toNat 0 _ (by omega) s e46
            · intro hc6
              exact absurd hc6 (by decide)
          · intro w3
            refine BX12_foretold_30  ?_ ?_
            · intro hc7
              exact absurd hc7 (by decide)
            · intro hc8
              refine BX12_foretold_33  ?_
              (rw [if_neg (by omega)] at k; exact k _ s)
      · intro w3
        refine BX12_foretold_21  ?_ ?_
        · intro hc9
          refine BX12_foretold_33  ?_
          (rw [if_neg (by omega)] at k; exact k _ s)
        · intro hc10
          exact absurd hc10 (by decide)
  · intro w3
    refine BX12_foretold_7  ?_ ?_
    · intro hc11
      refine BX12_foretold_33  ?_
      (rw [if_neg (by omega)] at k; exact k _ s)
    · intro hc12
      exact absurd hc12 (by decide)
theorem P_ends {b : Int} (s : IsPo g h W V X F) (ok : okW W) (k : ∀ h1, IsPo g h1 W V X F → Q (some (vI (aEnds X W b))) h1 n) : Rn (d + 30) bc bs mX12_ends 0 [some (vR (some 1)), some (vI b), none] [] h n Q := by
  unfold aEnds at k
  have loop : ∀ (j : Nat) (i : Int) (h1 : aH) (S : Int → Int), i + j = 61 → 1 ≤ i → 0 ≤ b → b < W 1 72 → okSe (W 3 3) S → S 72 = W 1 72 → IsPo g h1 W V X F → IsSe h1 297 S → (∀ h1, IsPo g h1 W V X F → Q (some (vI (endsM X W b j i S))) h1 n) → Rn (d + 30) bc bs mX12_ends 32 [some (vR (some 1)), some (vI b), some (vI i)] [] h1 n Q := by
    intro j
    induction j with
    | zero =>
      intro i h1 S hi i1 b0 b1 q q2 s e k
      obtain ⟨fp, p1, w, v, tp, gr, ⟨lx, la⟩, ro, ri, Gx, gl⟩ := id s; have w1 := w.1; have sh := w.2.1; have se := w.2.2.1; obtain ⟨Ts, ps, st, ste⟩ := w.2.2.2.1; have sa := w.2.2.2.2.1; have sh1 := sh.1; have se1 := se.1; have st1 := st.1; have sa1 := sa.1; obtain ⟨tl, la1⟩ := la.ob; have gl1 := gl.1; have bk0 := se.2.2; have bk1 := bk0.1
      obtain ⟨o1, o2, o3, o4, o5⟩ := id ok; have o11 := o1.1; have o21 := o2.1; have o51 := o5.1; have o52 := o5.2.1; have o53 := o5.2.2.1; have o54 := o5.2.2.2.1
      have e := e
      have e1 := e.1
      refine BX12_ends_32  ?_ ?_
      · intro hc1
        first
        | (exfalso; omega)
        | (
            refine BX12_ends_96  ?_
            exact k _ s
          )
      · intro hc2
        first
        | (exfalso; omega)
        | (
            (exfalso; omega)
          )
    | succ j ih =>
      intro i h1 S hi i1 b0 b1 q q2 s e k
      have q3 := q.1
      obtain ⟨fp, p1, w, v, tp, gr, ⟨lx, la⟩, ro, ri, Gx, gl⟩ := id s; have w1 := w.1; have sh := w.2.1; have se := w.2.2.1; obtain ⟨Ts, ps, st, ste⟩ := w.2.2.2.1; have sa := w.2.2.2.2.1; have sh1 := sh.1; have se1 := se.1; have st1 := st.1; have sa1 := sa.1; obtain ⟨tl, la1⟩ := la.ob; have gl1 := gl.1; have bk0 := se.2.2; have bk1 := bk0.1
      obtain ⟨o1, o2, o3, o4, o5⟩ := id ok; have o11 := o1.1; have o21 := o2.1; have o51 := o5.1; have o52 := o5.2.1; have o53 := o5.2.2.1; have o54 := o5.2.2.2.1
      have e := e
      have e1 := e.1
      unfold endsM at k
      refine BX12_ends_32  ?_ ?_
      · intro hc1
        refine BX12_ends_96  ?_
        first | (exfalso; omega) | (rw [if_neg (by omega)] at k; exact k _ s)
      · intro hc2
        refine BX12_ends_38 (by first | assumption | exact up_at _ _ _ | (rw [up_ne (by omega)]; first | assumption | exact up_at _ _ _ | (rw [up_ne (by omega)]; first | assumption | exact up_at _ _ _ | (rw [up_ne (by omega)]; assumption)))) (by rfl) (by first | assumption | exact up_at _ _ _ | (rw [up_ne (by omega)]; first | assumption | exact up_at _ _ _ | (rw [up_ne (by omega)]; first | assumption | exact up_at _ _ _ | (rw [up_ne (by omega)]; assumption)))) (by rfl) ?_ ?_
        · intro hc3
          refine BX12_ends_96  ?_
          first | (exfalso; omega) | (rw [if_neg (by omega)] at k; exact k _ s)
        · intro hc4
          refine BX12_ends_51 (by first | assumption | exact up_at _ _ _ | (rw [up_ne (by omega)]; first | assumption | exact up_at _ _ _ | (rw [up_ne (by omega)]; first | assumption | exact up_at _ _ _ | (rw [up_ne (by omega)]; assumption)))) (by rfl) (by rfl) (by rfl) (by first | assumption | exact up_at _ _ _ | (rw [up_ne (by omega)]; first | assumption | exact up_at _ _ _ | (rw [up_ne (by omega)]; first | assumption | exact up_at _ _ _ | (rw [up_ne (by omega)]; assumption)))) (by rfl) ?_
          refine R_X11_rules (by first | omega | assumption | (simp only [Ls_len]; omega) | exact Ls_get (by omega) (by omega) | rfl | decide) (by first | omega | assumption | (simp only [Ls_len]; omega) | exact Ls_get (by omega) (by omega) | rfl | decide) (by first | omega | assumption | (simp only [Ls_len]; omega) | exact Ls_get (by omega) (by omega) | rfl | decide) ?_
          intro r70 x70
          have lw := s.lg e x70
          refine BX12_ends_73 (by first | assumption | exact up_at _ _ _ | (rw [up_ne (by omega)]; first | assumption | exact up_at _ _ _ | (rw [up_ne (by omega)]; first | assumption | exact up_at _ _ _ | (rw [up_ne (by omega)]; assumption)))) ?_
          refine R_X2_passTide (by first | omega | assumption | (simp only [Ls_len]; omega) | exact Ls_get (by omega) (by omega) | rfl | decide) (by first | omega | assumption | (simp only [Ls_len]; omega) | exact Ls_get (by omega) (by omega) | rfl | decide) (by first | omega | assumption | (simp only [Ls_len]; omega) | exact Ls_get (by omega) (by omega) | rfl | decide) ?_
          intro h73 r73 w73
          have pk := passW_ok (X := X) (okW_sea ok q) (by assumption)
          have pk2 : (passM (coOf (ruX W X)) (weOf (ruX W X)) (W 3 3) (W 0) (W 5) (W 6) S).1 72 = S 72 := pk.2.1
          have s := s.pag r73 w73
          obtain ⟨fp, p1, w, v, tp, gr, ⟨lx, la⟩, ro, ri, Gx, gl⟩ := id s; have w1 := w.1; have sh := w.2.1; have se := w.2.2.1; obtain ⟨Ts, ps, st, ste⟩ := w.2.2.2.1; have sa := w.2.2.2.2.1; have sh1 := sh.1; have se1 := se.1; have st1 := st.1; have sa1 := sa.1; obtain ⟨tl, la1⟩ := la.ob; have gl1 := gl.1; have bk0 := se.2.2; have bk1 := bk0.1
          have e : IsSe h73 297 (passM (coOf (ruX W X)) (weOf (ruX W X)) (W 3 3) (W 0) (W 5) (W 6) S).1 := w73.2.1
          have e1 := e.1
          rw [if_pos (by assumption)] at k
          refine BX12_ends_76 (by first | assumption | exact up_at _ _ _ | (rw [up_ne (by omega)]; first | assumption | exact up_at _ _ _ | (rw [up_ne (by omega)]; first | assumption | exact up_at _ _ _ | (rw [up_ne (by omega)]; assumption)))) (by rfl) (by first | assumption | exact up_at _ _ _ | (rw [up_ne (by omega)]; first | assumption | exact up_at _ _ _ | (rw [up_ne (by omega)]; first | assumption | exact up_at _ _ _ | (rw [up_ne (by omega)]; assumption)))) ?_
          refine R_X6_isAfloat (by first | omega | assumption | (simp only [Ls_len]; omega) | exact Ls_get (by omega) (by omega) | rfl | decide) (by first | omega | assumption | (simp only [Ls_len]; omega) | exact Ls_get (by omega) (by omega) | rfl | decide) (by first | omega | assumption | (simp only [Ls_len]; omega) | exact Ls_get (by omega) (by omega) | rfl | decide) ?_ ?_
          · intro w1 w2 w3
            refine BX12_ends_85  ?_ ?_
            · intro hc5
              refine BX12_ends_90 (by first | omega | assumption | (simp only [Ls_len]; omega) | exact Ls_get (by omega) (by omega) | rfl | decide) ?_
              have w9 : (passW X (fset W 1 S)).1 (b * 6 + 4) = 0 := (show (passM (coOf (ruX W X)) (weOf (ruX W X)) (W 3 3) (W 0) (W 5) (W 6) S).1 (b * 6 + 4) = 0 by omega)
              rw [if_pos w9] at k
              exact ih (i + 1) _ _ (by omega) (by omega) b0 b1 pk.1 (pk2.trans q2) s e k
            · intro hc6
              exact absurd hc6 (by decide)
          · intro w4
            refine BX12_ends_85  ?_ ?_
            · intro hc7
              exact absurd hc7 (by decide)
            · intro hc8
              refine BX12_ends_88  ?_
              have w9 : ¬ (passW X (fset W 1 S)).1 (b * 6 + 4) = 0 := (show ¬ (passM (coOf (ruX W X)) (weOf (ruX W X)) (W 3 3) (W 0) (W 5) (W 6) S).1 (b * 6 + 4) = 0 by omega)
              rw [if_neg w9] at k
              exact k _ s
  obtain ⟨fp, p1, w, v, tp, gr, ⟨lx, la⟩, ro, ri, Gx, gl⟩ := id s; have w1 := w.1; have sh := w.2.1; have se := w.2.2.1; obtain ⟨Ts, ps, st, ste⟩ := w.2.2.2.1; have sa := w.2.2.2.2.1; have sh1 := sh.1; have se1 := se.1; have st1 := st.1; have sa1 := sa.1; obtain ⟨tl, la1⟩ := la.ob; have gl1 := gl.1; have bk0 := se.2.2; have bk1 := bk0.1
  obtain ⟨o1, o2, o3, o4, o5⟩ := id ok; have o11 := o1.1; have o21 := o2.1; have o51 := o5.1; have o52 := o5.2.1; have o53 := o5.2.2.1; have o54 := o5.2.2.2.1
  refine BX12_ends_0 (by first | assumption | exact up_at _ _ _ | (rw [up_ne (by omega)]; first | assumption | exact up_at _ _ _ | (rw [up_ne (by omega)]; first | assumption | exact up_at _ _ _ | (rw [up_ne (by omega)]; assumption)))) (by rfl) (by first | assumption | exact up_at _ _ _ | (rw [up_ne (by omega)]; first | assumption | exact up_at _ _ _ | (rw [up_ne (by omega)]; first | assumption | exact up_at _ _ _ | (rw [up_ne (by omega)]; assumption)))) (by rfl) (by first | assumption | exact up_at _ _ _ | (rw [up_ne (by omega)]; first | assumption | exact up_at _ _ _ | (rw [up_ne (by omega)]; first | assumption | exact up_at _ _ _ | (rw [up_ne (by omega)]; assumption)))) ?_
  refine R_X6_isAfloat (by first | omega | assumption | (simp only [Ls_len]; omega) | exact Ls_get (by omega) (by omega) | rfl | decide) (by first | omega | assumption | (simp only [Ls_len]; omega) | exact Ls_get (by omega) (by omega) | rfl | decide) (by first | omega | assumption | (simp only [Ls_len]; omega) | exact Ls_get (by omega) (by omega) | rfl | decide) ?_ ?_
  · intro w1 w2 w3
    refine BX12_ends_11  ?_ ?_
    · intro hc1
      refine BX12_ends_16 (by first | assumption | exact up_at _ _ _ | (rw [up_ne (by omega)]; first | assumption | exact up_at _ _ _ | (rw [up_ne (by omega)]; first | assumption | exact up_at _ _ _ | (rw [up_ne (by omega)]; assumption)))) (by rfl) (by rfl) (by first | assumption | exact up_at _ _ _ | (rw [up_ne (by omega)]; first | assumption | exact up_at _ _ _ | (rw [up_ne (by omega)]; first | assumption | exact up_at _ _ _ | (rw [up_ne (by omega)]; assumption)))) (by rfl) (by first | assumption | exact up_at _ _ _ | (rw [up_ne (by omega)]; first | assumption | exact up_at _ _ _ | (rw [up_ne (by omega)]; first | assumption | exact up_at _ _ _ | (rw [up_ne (by omega)]; assumption)))) ?_
      refine R_X6_copyFrom (by first | omega | assumption | (simp only [Ls_len]; omega) | exact Ls_get (by omega) (by omega) | rfl | decide) (by first | omega | assumption | (simp only [Ls_len]; omega) | exact Ls_get (by omega) (by omega) | rfl | decide) (by first | omega | assumption | (simp only [Ls_len]; omega) | exact Ls_get (by omega) (by omega) | rfl | decide) (by first | omega | assumption | (simp only [Ls_len]; omega) | exact Ls_get (by omega) (by omega) | rfl | decide) (by first | omega | assumption | (simp only [Ls_len]; omega) | exact Ls_get (by omega) (by omega) | rfl | decide) ?_
      intro h27 r27 e27
      have s := s.gla r27 e27
      rw [if_pos (by omega)] at k
      refine BX12_ends_30  ?_
      exact loop 60 1 _ _ (by omega) (by omega) (by omega) (by omega) o2 rfl s e27 k
    · intro hc2
      exact absurd hc2 (by decide)
  · intro w4
    refine BX12_ends_11  ?_ ?_
    · intro hc3
      exact absurd hc3 (by decide)
    · intro hc4
      refine BX12_ends_14  ?_
      (rw [if_neg (by omega)] at k; exact k _ s)
end YEARS
