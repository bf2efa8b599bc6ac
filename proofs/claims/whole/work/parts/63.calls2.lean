theorem stKeep_ext {c : Int} {T U : Int → Int → Int} {S : Int → Int} (hc : c ≤ 30) (hu : ∀ j, 0 ≤ j → j < c → T j = U j) : ∀ j, 0 ≤ j → j < stLen c → stKeep c T S j = stKeep c U S j := by
  intro j j0 j1
  unfold stLen at j1
  unfold stKeep
  by_cases q : 30 ≤ c
  · rw [if_pos q, if_pos q]
    rw [if_pos q] at j1
    by_cases e : j = 29
    · subst e; rw [fset_at, fset_at]
    · rw [fset_ne e, fset_ne e]
      unfold rot
      rw [if_neg e]
      exact hu _ (by omega) (by omega)
  · rw [if_neg q, if_neg q]
    rw [if_neg q] at j1
    by_cases e : j = c
    · subst e; rw [fset_at, fset_at]
    · rw [fset_ne e, fset_ne e]; exact hu j j0 (by omega)
theorem IsPo.keep {g h h1 : aH} {W V : Int → Int → Int} {X : Int → Tx} {F : Int → Int} {T : Int → Int → Int} {p : Int → Int} (s : IsPo g h W V X F) (hc : W 3 0 ≤ 30) (f : Fr h h1 (2 + 9) 122) (e : IsSt h1 (2 + 9) (stLen (W 3 0)) (stKeep (W 3 0) T (W 1)) p) (hu : ∀ j, 0 ≤ j → j < W 3 0 → T j = W (10 + j)) : IsPo g h1 (keepM W) V X F :=
  s.stp f e (stKeep_ext hc hu)
theorem IsPo.undo {g h h1 : aH} {W V : Int → Int → Int} {X : Int → Tx} {F : Int → Int} {c : Int} {T : Int → Int → Int} {p : Int → Int} {S : Int → Int} (s : IsPo g h W V X F) (f : Fr h h1 (2 + 5) 5) (e : IsSt h1 (2 + 9) c T p) (e2 : IsSe h1 (2 + 5) S) (hu : ∀ j, 0 ≤ j → j < c → T j = W (10 + j)) : IsPo g h1 (fset (wSt W c (fun j => W (10 + j))) 1 S) V X F := by
  refine s.now (f.wd (by decide) (by decide)) ?_
  obtain ⟨s1, s2, s3, -, s6, sc, s7⟩ := s.2.2.1
  refine ⟨by rw [f _ (by decide)]; exact s1, s2.fr f (by decide), e2, ⟨T, p, e, fun j j0 j1 => ?_⟩, s6.fr f (by decide), sc, s7.fr f (by decide) (by decide)⟩
  show T j = if 10 + j = 1 then S else if 10 + j = 3 then _ else if 10 ≤ 10 + j then W (10 + (10 + j - 10)) else W (10 + j)
  rw [if_neg (by omega), if_neg (by omega), if_pos (by omega), show 10 + (10 + j - 10) = 10 + j by omega]
  exact hu j j0 j1
section CALLS2
variable {d bc bs n : Nat} {g h : aH} {Q : aQ} {W V : Int → Int → Int} {X : Int → Tx} {F : Int → Int}
theorem P_end {m : Int} (s : IsPo g h W V X F) (k : ∀ h1, IsPo g h1 W V X (sEnd F m) → Q (some (vI (aEnd F m))) h1 n) : Rn (d + 30) bc bs mX12_end 0 [some (vR (some 1)), some (vI m)] [] h n Q := by
  obtain ⟨fp, p1, w, v, tp, gr, ⟨lx, la⟩, ro, ri, Gx, gl⟩ := id s; have w1 := w.1; have sh := w.2.1; have se := w.2.2.1; obtain ⟨Ts, ps, st, ste⟩ := w.2.2.2.1; have sa := w.2.2.2.2.1; have sh1 := sh.1; have se1 := se.1; have st1 := st.1; have sa1 := sa.1; obtain ⟨tl, la1⟩ := la.ob; have gl1 := gl.1; have bk0 := se.2.2; have bk1 := bk0.1
  obtain ⟨n1, n2, n3, n4, tp1, tp2⟩ := tp
  unfold sEnd aEnd at k
  refine BX12_end_0 (by first | assumption | exact up_at _ _ _ | (rw [up_ne (by omega)]; first | assumption | exact up_at _ _ _ | (rw [up_ne (by omega)]; first | assumption | exact up_at _ _ _ | (rw [up_ne (by omega)]; assumption)))) (by rfl) (by first | assumption | exact up_at _ _ _ | (rw [up_ne (by omega)]; first | assumption | exact up_at _ _ _ | (rw [up_ne (by omega)]; first | assumption | exact up_at _ _ _ | (rw [up_ne (by omega)]; assumption)))) (by rfl) ?_
  refine R_X12_within  ?_ ?_
  · intro w1 w2
    refine BX12_end_12  ?_ ?_
    · intro hc1
      refine BX12_end_17 (by first | assumption | exact up_at _ _ _ | (rw [up_ne (by omega)]; first | assumption | exact up_at _ _ _ | (rw [up_ne (by omega)]; first | assumption | exact up_at _ _ _ | (rw [up_ne (by omega)]; assumption)))) (by rfl) (by first | assumption | exact up_at _ _ _ | (rw [up_ne (by omega)]; first | assumption | exact up_at _ _ _ | (rw [up_ne (by omega)]; first | assumption | exact up_at _ _ _ | (rw [up_ne (by omega)]; assumption)))) (by simp) ?_
      refine BX12_end_25  ?_
      rw [if_pos (by omega), if_pos (by omega)] at k
      refine k _ (s.tap ((Fr.one h 282 _).wd (by decide) (by decide)) ⟨n1, n2, n3, n4, ?_, ?_⟩ (fset_ne (by decide)) (fset_ne (by decide)))
      · rw [up_at, fset_at]; rfl
      · rw [up_ne (by decide), tp2]
        exact congrArg cI (Ls_ext fun j j0 j1 => by show F (3 + j) = fset F 2 m (3 + j); rw [fset_ne (by omega)])
    · intro hc2
      exact absurd hc2 (by decide)
  · intro w3
    refine BX12_end_12  ?_ ?_
    · intro hc3
      exact absurd hc3 (by decide)
    · intro hc4
      refine BX12_end_15  ?_
      (rw [if_neg (by omega), if_neg (by omega)] at k; exact k _ s)
theorem P_by {t : Int} (s : IsPo g h W V X F) (ok : okW W) (k : ∀ h1, IsPo g h1 (sBy W t) V X F → Q (some (vI (aBy W t))) h1 n) : Rn (d + 30) bc bs mX12_by 0 [some (vR (some 1)), some (vI t)] [] h n Q := by
  obtain ⟨fp, p1, w, v, tp, gr, ⟨lx, la⟩, ro, ri, Gx, gl⟩ := id s; have w1 := w.1; have sh := w.2.1; have se := w.2.2.1; obtain ⟨Ts, ps, st, ste⟩ := w.2.2.2.1; have sa := w.2.2.2.2.1; have sh1 := sh.1; have se1 := se.1; have st1 := st.1; have sa1 := sa.1; obtain ⟨tl, la1⟩ := la.ob; have gl1 := gl.1; have bk0 := se.2.2; have bk1 := bk0.1
  obtain ⟨o1, o2, o3, o4, o5⟩ := ok; have o11 := o1.1; have o21 := o2.1; have o51 := o5.1; have o52 := o5.2.1; have o53 := o5.2.2.1; have o54 := o5.2.2.2.1
  unfold sBy aBy at k
  refine BX12_by_0 (by first | assumption | exact up_at _ _ _ | (rw [up_ne (by omega)]; first | assumption | exact up_at _ _ _ | (rw [up_ne (by omega)]; first | assumption | exact up_at _ _ _ | (rw [up_ne (by omega)]; assumption)))) (by rfl) (by first | assumption | exact up_at _ _ _ | (rw [up_ne (by omega)]; first | assumption | exact up_at _ _ _ | (rw [up_ne (by omega)]; first | assumption | exact up_at _ _ _ | (rw [up_ne (by omega)]; assumption)))) (by rfl) (by first | omega | assumption | (simp only [Ls_len]; omega) | exact Ls_get (by omega) (by omega) | rfl | decide) ?_
  refine R_X12_within  ?_ ?_
  · intro w1 w2
    refine BX12_by_14  ?_ ?_
    · intro hc1
      refine BX12_by_19 (by first | assumption | exact up_at _ _ _ | (rw [up_ne (by omega)]; first | assumption | exact up_at _ _ _ | (rw [up_ne (by omega)]; first | assumption | exact up_at _ _ _ | (rw [up_ne (by omega)]; assumption)))) (by rfl) (by first | assumption | exact up_at _ _ _ | (rw [up_ne (by omega)]; first | assumption | exact up_at _ _ _ | (rw [up_ne (by omega)]; first | assumption | exact up_at _ _ _ | (rw [up_ne (by omega)]; assumption)))) (by simp) ?_
      refine BX12_by_27  ?_
      rw [if_pos (by omega), if_pos (by omega)] at k
      have r1 := Fr.one h 2 (cO 11 ([vR (some (2 + 1)), vR (some (2 + 5)), vR (some (2 + 9)), vR (some (2 + 131)), vR (some (2 + 139)), vI (W 3 1), vI (W 3 2)].set 6 (vI t)))
      refine k _ (s.now (r1.wd (by decide) (by decide)) ?_)
      obtain ⟨sc, sx⟩ := w.2.2.2.2.2
      refine ⟨?_, sh.fr r1 (by decide), se.fr r1 (by decide), ⟨Ts, ps, st.fr r1 (by decide), fun j j0 j1 => ?_⟩, sa.fr r1 (by decide), sc, sx.fr r1 (by decide) (by decide)⟩
      · rw [up_at]; rfl
      · rw [fset_ne (by omega)]; exact ste j j0 j1
    · intro hc2
      exact absurd hc2 (by decide)
  · intro w3
    refine BX12_by_14  ?_ ?_
    · intro hc3
      exact absurd hc3 (by decide)
    · intro hc4
      refine BX12_by_17  ?_
      (rw [if_neg (by omega), if_neg (by omega)] at k; exact k _ s)
theorem P_odds {c z : Int} (s : IsPo g h W V X F) (k : ∀ h1, IsPo g h1 (sOdds W c z) V X F → Q (some (vI (aOdds c z))) h1 n) : Rn (d + 30) bc bs mX12_odds 0 [some (vR (some 1)), some (vI c), some (vI z)] [] h n Q := by
  obtain ⟨fp, p1, w, v, tp, gr, ⟨lx, la⟩, ro, ri, Gx, gl⟩ := id s; have w1 := w.1; have sh := w.2.1; have se := w.2.2.1; obtain ⟨Ts, ps, st, ste⟩ := w.2.2.2.1; have sa := w.2.2.2.2.1; have sh1 := sh.1; have se1 := se.1; have st1 := st.1; have sa1 := sa.1; obtain ⟨tl, la1⟩ := la.ob; have gl1 := gl.1; have bk0 := se.2.2; have bk1 := bk0.1
  unfold sOdds aOdds at k
  refine BX12_odds_0  ?_
  refine R_X12_within  ?_ ?_
  · intro w1 w2
    refine BX12_odds_7  ?_ ?_
    · intro hc1
      exact absurd hc1 (by decide)
    · intro hc2
      refine BX12_odds_10 (by first | omega | assumption | (simp only [Ls_len]; omega) | exact Ls_get (by omega) (by omega) | rfl | decide) ?_
      refine R_X12_within  ?_ ?_
      · intro w1 w2
        refine BX12_odds_19  ?_ ?_
        · intro hc3
          refine BX12_odds_24 (by first | assumption | exact up_at _ _ _ | (rw [up_ne (by omega)]; first | assumption | exact up_at _ _ _ | (rw [up_ne (by omega)]; first | assumption | exact up_at _ _ _ | (rw [up_ne (by omega)]; assumption)))) (by rfl) (by first | assumption | exact up_at _ _ _ | (rw [up_ne (by omega)]; first | assumption | exact up_at _ _ _ | (rw [up_ne (by omega)]; first | assumption | exact up_at _ _ _ | (rw [up_ne (by omega)]; assumption)))) (by rfl) (by first | assumption | exact up_at _ _ _ | (rw [up_ne (by omega)]; first | assumption | exact up_at _ _ _ | (rw [up_ne (by omega)]; first | assumption | exact up_at _ _ _ | (rw [up_ne (by omega)]; assumption)))) (by simp) ?_
          refine BX12_odds_35 (by first | assumption | exact up_at _ _ _ | (rw [up_ne (by omega)]; first | assumption | exact up_at _ _ _ | (rw [up_ne (by omega)]; first | assumption | exact up_at _ _ _ | (rw [up_ne (by omega)]; assumption)))) (by rfl) (by first | assumption | exact up_at _ _ _ | (rw [up_ne (by omega)]; first | assumption | exact up_at _ _ _ | (rw [up_ne (by omega)]; first | assumption | exact up_at _ _ _ | (rw [up_ne (by omega)]; assumption)))) (by rfl) (by first | assumption | exact up_at _ _ _ | (rw [up_ne (by omega)]; first | assumption | exact up_at _ _ _ | (rw [up_ne (by omega)]; first | assumption | exact up_at _ _ _ | (rw [up_ne (by omega)]; assumption)))) (by simp) ?_
          refine BX12_odds_46  ?_
          rw [if_pos (by omega), if_pos (by omega)] at k
          refine k _ (s.say ((((Fr.rf h (2 + 131) 8).put (by decide) (by decide)).put (by decide) (by decide))) ?_)
          obtain ⟨s1, s2, s3, s4, s5, s6, s7, s8⟩ := sa
          (refine ⟨?_, ?_, ?_, ?_, ?_, ?_, ?_, ?_⟩ <;> (simp (disch := omega) only [up_at, up_ne, fset_at, fset_ne, Ls_off_ne, Ls_off_at, Ls_fst_ne, Ls_fs_off]; try first | assumption | rfl))
        · intro hc4
          exact absurd hc4 (by decide)
      · intro w3
        refine BX12_odds_19  ?_ ?_
        · intro hc5
          exact absurd hc5 (by decide)
        · intro hc6
          refine BX12_odds_22  ?_
          (rw [if_neg (by omega), if_neg (by omega)] at k; exact k _ s)
  · intro w3
    refine BX12_odds_7  ?_ ?_
    · intro hc7
      refine BX12_odds_22  ?_
      (rw [if_neg (by omega), if_neg (by omega)] at k; exact k _ s)
    · intro hc8
      exact absurd hc8 (by decide)
theorem P_undo (s : IsPo g h W V X F) (ok : okW W) (k : ∀ h1, IsPo g h1 (sUndo W) V X F → Q (some (vI (aUndo W))) h1 n) : Rn (d + 30) bc bs mX12_undo 0 [some (vR (some 1))] [] h n Q := by
  obtain ⟨fp, p1, w, v, tp, gr, ⟨lx, la⟩, ro, ri, Gx, gl⟩ := id s; have w1 := w.1; have sh := w.2.1; have se := w.2.2.1; obtain ⟨Ts, ps, st, ste⟩ := w.2.2.2.1; have sa := w.2.2.2.2.1; have sh1 := sh.1; have se1 := se.1; have st1 := st.1; have sa1 := sa.1; obtain ⟨tl, la1⟩ := la.ob; have gl1 := gl.1; have bk0 := se.2.2; have bk1 := bk0.1
  obtain ⟨o1, o2, o3, o4, o5⟩ := ok; have o11 := o1.1; have o21 := o2.1; have o51 := o5.1; have o52 := o5.2.1; have o53 := o5.2.2.1; have o54 := o5.2.2.2.1
  unfold sUndo aUndo at k
  refine BX12_undo_0 (by first | assumption | exact up_at _ _ _ | (rw [up_ne (by omega)]; first | assumption | exact up_at _ _ _ | (rw [up_ne (by omega)]; first | assumption | exact up_at _ _ _ | (rw [up_ne (by omega)]; assumption)))) (by rfl) (by first | assumption | exact up_at _ _ _ | (rw [up_ne (by omega)]; first | assumption | exact up_at _ _ _ | (rw [up_ne (by omega)]; first | assumption | exact up_at _ _ _ | (rw [up_ne (by omega)]; assumption)))) (by rfl) (by rfl) (by first | assumption | exact up_at _ _ _ | (rw [up_ne (by omega)]; first | assumption | exact up_at _ _ _ | (rw [up_ne (by omega)]; first | assumption | exact up_at _ _ _ | (rw [up_ne (by omega)]; assumption)))) ?_
  refine R_X8_takeBack (by first | omega | assumption | (simp only [Ls_len]; omega) | exact Ls_get (by omega) (by omega) | rfl | decide) (by first | omega | assumption | (simp only [Ls_len]; omega) | exact Ls_get (by omega) (by omega) | rfl | decide) (by first | omega | assumption | (simp only [Ls_len]; omega) | exact Ls_get (by omega) (by omega) | rfl | decide) (by first | omega | assumption | (simp only [Ls_len]; omega) | exact Ls_get (by omega) (by omega) | rfl | decide) (by first | omega | assumption | (simp only [Ls_len]; omega) | exact Ls_get (by omega) (by omega) | rfl | decide) (by first | omega | assumption | (simp only [Ls_len]; omega) | exact Ls_get (by omega) (by omega) | rfl | decide) (by first | omega | assumption | (simp only [Ls_len]; omega) | exact Ls_get (by omega) (by omega) | rfl | decide) ?_ ?_
  · intro w1
    refine BX12_undo_17  ?_
    first
    | (rw [if_pos (by omega), if_pos (by omega)] at k; exact k _ s)
    | (rw [if_neg (by omega), if_neg (by omega)] at k
       have q := ste (W 3 0 - 1) (by omega) (by omega)
       rw [q] at e14
       exact k _ (s.undo r14 s14 e14 fun j j0 j1 => ste j j0 (by omega)))
  · intro w1 h14 r14 s14 e14
    refine BX12_undo_17  ?_
    first
    | (rw [if_pos (by omega), if_pos (by omega)] at k; exact k _ s)
    | (rw [if_neg (by omega), if_neg (by omega)] at k
       have q := ste (W 3 0 - 1) (by omega) (by omega)
       rw [q] at e14
       exact k _ (s.undo r14 s14 e14 fun j j0 j1 => ste j j0 (by omega)))
theorem P_image (s : IsPo g h W V X F) (ok : okW W) (k : ∀ h1, IsPo g h1 W W X F → Q (some (vI (W 1 73))) h1 n) : Rn (d + 30) bc bs mX12_image 0 [some (vR (some 1))] [] h n Q := by
  obtain ⟨fp, p1, w, v, tp, gr, ⟨lx, la⟩, ro, ri, Gx, gl⟩ := id s; have w1 := w.1; have sh := w.2.1; have se := w.2.2.1; obtain ⟨Ts, ps, st, ste⟩ := w.2.2.2.1; have sa := w.2.2.2.2.1; have sh1 := sh.1; have se1 := se.1; have st1 := st.1; have sa1 := sa.1; obtain ⟨tl, la1⟩ := la.ob; have gl1 := gl.1; have bk0 := se.2.2; have bk1 := bk0.1
  obtain ⟨o1, o2, o3, o4, o5⟩ := ok; have o11 := o1.1; have o21 := o2.1; have o51 := o5.1; have o52 := o5.2.1; have o53 := o5.2.2.1; have o54 := o5.2.2.2.1
  have v1 := v.1
  refine BX12_image_0 (by first | assumption | exact up_at _ _ _ | (rw [up_ne (by omega)]; first | assumption | exact up_at _ _ _ | (rw [up_ne (by omega)]; first | assumption | exact up_at _ _ _ | (rw [up_ne (by omega)]; assumption)))) (by rfl) (by rfl) (by first | assumption | exact up_at _ _ _ | (rw [up_ne (by omega)]; first | assumption | exact up_at _ _ _ | (rw [up_ne (by omega)]; first | assumption | exact up_at _ _ _ | (rw [up_ne (by omega)]; assumption)))) ?_
  refine R_X11_copyFrom (by first | omega | assumption | (simp only [Ls_len]; omega) | exact Ls_get (by omega) (by omega) | rfl | decide) (by first | omega | assumption | (simp only [Ls_len]; omega) | exact Ls_get (by omega) (by omega) | rfl | decide) (by first | omega | assumption | (simp only [Ls_len]; omega) | exact Ls_get (by omega) (by omega) | rfl | decide) (by first | omega | assumption | (simp only [Ls_len]; omega) | exact Ls_get (by omega) (by omega) | rfl | decide) (by first | omega | assumption | (simp only [Ls_len]; omega) | exact Ls_get (by omega) (by omega) | rfl | decide) (by first | omega | assumption | (simp only [Ls_len]; omega) | exact Ls_get (by omega) (by omega) | rfl | decide) (by first | omega | assumption | (simp only [Ls_len]; omega) | exact Ls_get (by omega) (by omega) | rfl | decide) (by first | omega | assumption | (simp only [Ls_len]; omega) | exact Ls_get (by omega) (by omega) | rfl | decide) (by first | omega | assumption | (simp only [Ls_len]; omega) | exact Ls_get (by omega) (by omega) | rfl | decide) ?_
  intro h8 r8 w8
  have s := s.kep r8 w8
  obtain ⟨fp, p1, w, v, tp, gr, ⟨lx, la⟩, ro, ri, Gx, gl⟩ := id s; have w1 := w.1; have sh := w.2.1; have se := w.2.2.1; obtain ⟨Ts, ps, st, ste⟩ := w.2.2.2.1; have sa := w.2.2.2.2.1; have sh1 := sh.1; have se1 := se.1; have st1 := st.1; have sa1 := sa.1; obtain ⟨tl, la1⟩ := la.ob; have gl1 := gl.1; have bk0 := se.2.2; have bk1 := bk0.1
  refine BX12_image_11 (by first | assumption | exact up_at _ _ _ | (rw [up_ne (by omega)]; first | assumption | exact up_at _ _ _ | (rw [up_ne (by omega)]; first | assumption | exact up_at _ _ _ | (rw [up_ne (by omega)]; assumption)))) (by rfl) (by first | assumption | exact up_at _ _ _ | (rw [up_ne (by omega)]; first | assumption | exact up_at _ _ _ | (rw [up_ne (by omega)]; first | assumption | exact up_at _ _ _ | (rw [up_ne (by omega)]; assumption)))) (by rfl) (by first | assumption | exact up_at _ _ _ | (rw [up_ne (by omega)]; first | assumption | exact up_at _ _ _ | (rw [up_ne (by omega)]; first | assumption | exact up_at _ _ _ | (rw [up_ne (by omega)]; assumption)))) (by rfl) ?_
  exact k _ s
theorem P_back (s : IsPo g h W V X F) (ok : okW V) (k : ∀ h1, IsPo g h1 V V X F → Q (some (vI (V 1 73))) h1 n) : Rn (d + 30) bc bs mX12_back 0 [some (vR (some 1))] [] h n Q := by
  obtain ⟨fp, p1, w, v, tp, gr, ⟨lx, la⟩, ro, ri, Gx, gl⟩ := id s; have w1 := w.1; have sh := w.2.1; have se := w.2.2.1; obtain ⟨Ts, ps, st, ste⟩ := w.2.2.2.1; have sa := w.2.2.2.2.1; have sh1 := sh.1; have se1 := se.1; have st1 := st.1; have sa1 := sa.1; obtain ⟨tl, la1⟩ := la.ob; have gl1 := gl.1; have bk0 := se.2.2; have bk1 := bk0.1
  obtain ⟨o1, o2, o3, o4, o5⟩ := ok; have o11 := o1.1; have o21 := o2.1; have o51 := o5.1; have o52 := o5.2.1; have o53 := o5.2.2.1; have o54 := o5.2.2.2.1
  have v1 := v.1
  refine BX12_back_0 (by first | assumption | exact up_at _ _ _ | (rw [up_ne (by omega)]; first | assumption | exact up_at _ _ _ | (rw [up_ne (by omega)]; first | assumption | exact up_at _ _ _ | (rw [up_ne (by omega)]; assumption)))) (by rfl) (by rfl) (by first | assumption | exact up_at _ _ _ | (rw [up_ne (by omega)]; first | assumption | exact up_at _ _ _ | (rw [up_ne (by omega)]; first | assumption | exact up_at _ _ _ | (rw [up_ne (by omega)]; assumption)))) ?_
  refine R_X11_copyFrom (by first | omega | assumption | (simp only [Ls_len]; omega) | exact Ls_get (by omega) (by omega) | rfl | decide) (by first | omega | assumption | (simp only [Ls_len]; omega) | exact Ls_get (by omega) (by omega) | rfl | decide) (by first | omega | assumption | (simp only [Ls_len]; omega) | exact Ls_get (by omega) (by omega) | rfl | decide) (by first | omega | assumption | (simp only [Ls_len]; omega) | exact Ls_get (by omega) (by omega) | rfl | decide) (by first | omega | assumption | (simp only [Ls_len]; omega) | exact Ls_get (by omega) (by omega) | rfl | decide) (by first | omega | assumption | (simp only [Ls_len]; omega) | exact Ls_get (by omega) (by omega) | rfl | decide) (by first | omega | assumption | (simp only [Ls_len]; omega) | exact Ls_get (by omega) (by omega) | rfl | decide) (by first | omega | assumption | (simp only [Ls_len]; omega) | exact Ls_get (by omega) (by omega) | rfl | decide) (by first | omega | assumption | (simp only [Ls_len]; omega) | exact Ls_get (by omega) (by omega) | rfl | decide) ?_
  intro h8 r8 w8
  have s := s.now r8 w8
  obtain ⟨fp, p1, w, v, tp, gr, ⟨lx, la⟩, ro, ri, Gx, gl⟩ := id s; have w1 := w.1; have sh := w.2.1; have se := w.2.2.1; obtain ⟨Ts, ps, st, ste⟩ := w.2.2.2.1; have sa := w.2.2.2.2.1; have sh1 := sh.1; have se1 := se.1; have st1 := st.1; have sa1 := sa.1; obtain ⟨tl, la1⟩ := la.ob; have gl1 := gl.1; have bk0 := se.2.2; have bk1 := bk0.1
  refine BX12_back_11 (by first | assumption | exact up_at _ _ _ | (rw [up_ne (by omega)]; first | assumption | exact up_at _ _ _ | (rw [up_ne (by omega)]; first | assumption | exact up_at _ _ _ | (rw [up_ne (by omega)]; assumption)))) (by rfl) (by first | assumption | exact up_at _ _ _ | (rw [up_ne (by omega)]; first | assumption | exact up_at _ _ _ | (rw [up_ne (by omega)]; first | assumption | exact up_at _ _ _ | (rw [up_ne (by omega)]; assumption)))) (by rfl) (by first | assumption | exact up_at _ _ _ | (rw [up_ne (by omega)]; first | assumption | exact up_at _ _ _ | (rw [up_ne (by omega)]; first | assumption | exact up_at _ _ _ | (rw [up_ne (by omega)]; assumption)))) (by rfl) ?_
  exact k _ s
theorem P_tossBottle {fr to co c : Int} (s : IsPo g h W V X F) (ok : okW W) (k : ∀ h1, IsPo g h1 (sToss c W fr to co) V X F → Q (some (vI (aToss W fr to co))) h1 n) : Rn (d + 20) bc bs mX12_tossBottle 0 [some (vR (some 1)), some (vI fr), some (vI to), some (vI co), some (vI c), none] [] h n Q := by
  obtain ⟨fp, p1, w, v, tp, gr, ⟨lx, la⟩, ro, ri, Gx, gl⟩ := id s; have w1 := w.1; have sh := w.2.1; have se := w.2.2.1; obtain ⟨Ts, ps, st, ste⟩ := w.2.2.2.1; have sa := w.2.2.2.2.1; have sh1 := sh.1; have se1 := se.1; have st1 := st.1; have sa1 := sa.1; obtain ⟨tl, la1⟩ := la.ob; have gl1 := gl.1; have bk0 := se.2.2; have bk1 := bk0.1
  obtain ⟨o1, o2, o3, o4, o5⟩ := ok; have o11 := o1.1; have o21 := o2.1; have o51 := o5.1; have o52 := o5.2.1; have o53 := o5.2.2.1; have o54 := o5.2.2.2.1
  have kn : tossB W fr to co = false → Q (some (vI (-1))) h n := fun e => by
    have k1 := k h
    rw [aToss, sToss, e] at k1
    exact k1 s
  have ky : tossB W fr to co = true → ∀ h1, IsPo g h1 (tossW (stepM c W) fr to co) V X F → Q (some (vI (W 1 72))) h1 n := fun e h1 => by
    have k1 := k h1
    rw [aToss, sToss, e] at k1
    exact k1
  clear k
  have T94 : ∀ (h1 : aH) (x5 : Int), tossB W fr to co = true → W 1 72 < 12 → IsPo g h1 (stepM c W) V X F → Rn (d + 20) bc bs mX12_tossBottle 94 [some (vR (some 1)), some (vI fr), some (vI to), some (vI co), some (vI c), some (vI x5)] [] h1 n Q := by
    intro h1 x5 e h12 s
    have g1 : stepM c W 1 = W 1 := by unfold stepM; split <;> rfl
    have g2 : stepM c W 3 3 = W 3 3 := by unfold stepM; split <;> rfl
    have g3 : stepM c W 0 = W 0 := by unfold stepM; split <;> rfl
    have ky := ky e
    rw [tossW, g1, g2, g3] at ky
    obtain ⟨fp, p1, w, v, tp, gr, ⟨lx, la⟩, ro, ri, Gx, gl⟩ := id s; have w1 := w.1; have sh := w.2.1; have se := w.2.2.1; obtain ⟨Ts, ps, st, ste⟩ := w.2.2.2.1; have sa := w.2.2.2.2.1; have sh1 := sh.1; have se1 := se.1; have st1 := st.1; have sa1 := sa.1; obtain ⟨tl, la1⟩ := la.ob; have gl1 := gl.1; have bk0 := se.2.2; have bk1 := bk0.1
    rw [g1] at se se1
    rw [g2, g3] at sh
    rw [g2] at sh1
    refine BX12_tossBottle_94 (by first | assumption | exact up_at _ _ _ | (rw [up_ne (by omega)]; first | assumption | exact up_at _ _ _ | (rw [up_ne (by omega)]; first | assumption | exact up_at _ _ _ | (rw [up_ne (by omega)]; assumption)))) (by rfl) (by first | assumption | exact up_at _ _ _ | (rw [up_ne (by omega)]; first | assumption | exact up_at _ _ _ | (rw [up_ne (by omega)]; first | assumption | exact up_at _ _ _ | (rw [up_ne (by omega)]; assumption)))) (by rfl) (by rfl) (by first | assumption | exact up_at _ _ _ | (rw [up_ne (by omega)]; first | assumption | exact up_at _ _ _ | (rw [up_ne (by omega)]; first | assumption | exact up_at _ _ _ | (rw [up_ne (by omega)]; assumption)))) ?_
    refine R_X7_placeAt (by first | omega | assumption | (simp only [Ls_len]; omega) | exact Ls_get (by omega) (by omega) | rfl | decide) (by first | omega | assumption | (simp only [Ls_len]; omega) | exact Ls_get (by omega) (by omega) | rfl | decide) ?_
    refine BX12_tossBottle_114 (by first | assumption | exact up_at _ _ _ | (rw [up_ne (by omega)]; first | assumption | exact up_at _ _ _ | (rw [up_ne (by omega)]; first | assumption | exact up_at _ _ _ | (rw [up_ne (by omega)]; assumption)))) ?_
    refine R_X6_addBottle (by first | omega | assumption | (simp only [Ls_len]; omega) | exact Ls_get (by omega) (by omega) | rfl | decide) (by first | omega | assumption | (simp only [Ls_len]; omega) | exact Ls_get (by omega) (by omega) | rfl | decide) (by first | omega | assumption | (simp only [Ls_len]; omega) | exact Ls_get (by omega) (by omega) | rfl | decide) (by first | omega | assumption | (simp only [Ls_len]; omega) | exact Ls_get (by omega) (by omega) | rfl | decide) ?_
    intro h115 r115 e115
    refine BX12_tossBottle_118  ?_
    exact ky _ (s.sea r115 e115)
  refine BX12_tossBottle_0 (by first | assumption | exact up_at _ _ _ | (rw [up_ne (by omega)]; first | assumption | exact up_at _ _ _ | (rw [up_ne (by omega)]; first | assumption | exact up_at _ _ _ | (rw [up_ne (by omega)]; assumption)))) (by rfl) (by first | assumption | exact up_at _ _ _ | (rw [up_ne (by omega)]; first | assumption | exact up_at _ _ _ | (rw [up_ne (by omega)]; first | assumption | exact up_at _ _ _ | (rw [up_ne (by omega)]; assumption)))) (by rfl) (by first | assumption | exact up_at _ _ _ | (rw [up_ne (by omega)]; first | assumption | exact up_at _ _ _ | (rw [up_ne (by omega)]; first | assumption | exact up_at _ _ _ | (rw [up_ne (by omega)]; assumption)))) ?_
  refine R_X7_hasPerson (by first | omega | assumption | (simp only [Ls_len]; omega) | exact Ls_get (by omega) (by omega) | rfl | decide) ?_ ?_
  · intro w1 w2
    refine BX12_tossBottle_11  ?_ ?_
    · intro hc1
      exact absurd hc1 (by decide)
    · intro hc2
      refine BX12_tossBottle_14 (by first | assumption | exact up_at _ _ _ | (rw [up_ne (by omega)]; first | assumption | exact up_at _ _ _ | (rw [up_ne (by omega)]; first | assumption | exact up_at _ _ _ | (rw [up_ne (by omega)]; assumption)))) (by rfl) (by first | assumption | exact up_at _ _ _ | (rw [up_ne (by omega)]; first | assumption | exact up_at _ _ _ | (rw [up_ne (by omega)]; first | assumption | exact up_at _ _ _ | (rw [up_ne (by omega)]; assumption)))) (by rfl) (by first | assumption | exact up_at _ _ _ | (rw [up_ne (by omega)]; first | assumption | exact up_at _ _ _ | (rw [up_ne (by omega)]; first | assumption | exact up_at _ _ _ | (rw [up_ne (by omega)]; assumption)))) ?_
      refine R_X7_hasPerson (by first | omega | assumption | (simp only [Ls_len]; omega) | exact Ls_get (by omega) (by omega) | rfl | decide) ?_ ?_
      · intro w1 w2
        refine BX12_tossBottle_25  ?_ ?_
        · intro hc3
          exact absurd hc3 (by decide)
        · intro hc4
          refine BX12_tossBottle_28  ?_ ?_
          · intro hc5
            refine BX12_tossBottle_62  ?_ ?_
            · intro hc6
              exact absurd hc6 (by decide)
            · intro hc7
              refine BX12_tossBottle_70  ?_
              first | exact kn (decide_eq_false (fun q => by omega)) | (exfalso; omega)
          · intro hc8
            refine BX12_tossBottle_33  ?_
            refine R_X12_within  ?_ ?_
            · intro w1 w2
              refine BX12_tossBottle_40  ?_ ?_
              · intro hc9
                exact absurd hc9 (by decide)
              · intro hc10
                refine BX12_tossBottle_43 (by first | assumption | exact up_at _ _ _ | (rw [up_ne (by omega)]; first | assumption | exact up_at _ _ _ | (rw [up_ne (by omega)]; first | assumption | exact up_at _ _ _ | (rw [up_ne (by omega)]; assumption)))) (by rfl) (by first | assumption | exact up_at _ _ _ | (rw [up_ne (by omega)]; first | assumption | exact up_at _ _ _ | (rw [up_ne (by omega)]; first | assumption | exact up_at _ _ _ | (rw [up_ne (by omega)]; assumption)))) (by rfl) (by first | assumption | exact up_at _ _ _ | (rw [up_ne (by omega)]; first | assumption | exact up_at _ _ _ | (rw [up_ne (by omega)]; first | assumption | exact up_at _ _ _ | (rw [up_ne (by omega)]; assumption)))) (by rfl) ?_ ?_
                · intro hc11
                  refine BX12_tossBottle_62  ?_ ?_
                  · intro hc12
                    exact absurd hc12 (by decide)
                  · intro hc13
                    refine BX12_tossBottle_70  ?_
                    first | exact kn (decide_eq_false (fun q => by omega)) | (exfalso; omega)
                · intro hc14
                  refine BX12_tossBottle_58  ?_ ?_
                  · intro hc15
                    refine BX12_tossBottle_72  ?_ ?_
                    · intro hc16
                      first | (exfalso; omega) | (refine T94 _ _ (decide_eq_true ⟨⟨by omega, by omega⟩, ⟨by omega, by omega⟩, by omega, ⟨by omega, by omega⟩, by omega⟩) (by omega) ?_; first | (rw [show stepM c W = keepM W from if_neg (by assumption)]; exact s) | (rw [show stepM c W = W from if_pos (by assumption)]; exact s))
                    · intro hc17
                      refine BX12_tossBottle_77 (by first | assumption | exact up_at _ _ _ | (rw [up_ne (by omega)]; first | assumption | exact up_at _ _ _ | (rw [up_ne (by omega)]; first | assumption | exact up_at _ _ _ | (rw [up_ne (by omega)]; assumption)))) (by rfl) (by first | assumption | exact up_at _ _ _ | (rw [up_ne (by omega)]; first | assumption | exact up_at _ _ _ | (rw [up_ne (by omega)]; first | assumption | exact up_at _ _ _ | (rw [up_ne (by omega)]; assumption)))) (by rfl) (by rfl) (by first | assumption | exact up_at _ _ _ | (rw [up_ne (by omega)]; first | assumption | exact up_at _ _ _ | (rw [up_ne (by omega)]; first | assumption | exact up_at _ _ _ | (rw [up_ne (by omega)]; assumption)))) ?_
                      refine R_X8_keep (by first | omega | assumption | (simp only [Ls_len]; omega) | exact Ls_get (by omega) (by omega) | rfl | decide) (by first | omega | assumption | (simp only [Ls_len]; omega) | exact Ls_get (by omega) (by omega) | rfl | decide) (by first | omega | assumption | (simp only [Ls_len]; omega) | exact Ls_get (by omega) (by omega) | rfl | decide) (by first | omega | assumption | (simp only [Ls_len]; omega) | exact Ls_get (by omega) (by omega) | rfl | decide) (by first | omega | assumption | (simp only [Ls_len]; omega) | exact Ls_get (by omega) (by omega) | rfl | decide) (by first | omega | assumption | (simp only [Ls_len]; omega) | exact Ls_get (by omega) (by omega) | rfl | decide) (by first | omega | assumption | (simp only [Ls_len]; omega) | exact Ls_get (by omega) (by omega) | rfl | decide) ?_
                      intro h91 p91 r91 s91
                      have s := s.keep (by omega) r91 s91 ste
                      first | (exfalso; omega) | (refine T94 _ _ (decide_eq_true ⟨⟨by omega, by omega⟩, ⟨by omega, by omega⟩, by omega, ⟨by omega, by omega⟩, by omega⟩) (by omega) ?_; first | (rw [show stepM c W = keepM W from if_neg (by assumption)]; exact s) | (rw [show stepM c W = W from if_pos (by assumption)]; exact s))
                  · intro hc18
                    exact absurd hc18 (by decide)
            · intro w3
              refine BX12_tossBottle_40  ?_ ?_
              · intro hc19
                refine BX12_tossBottle_62  ?_ ?_
                · intro hc20
                  exact absurd hc20 (by decide)
                · intro hc21
                  refine BX12_tossBottle_70  ?_
                  first | exact kn (decide_eq_false (fun q => by omega)) | (exfalso; omega)
              · intro hc22
                exact absurd hc22 (by decide)
      · intro w3
        refine BX12_tossBottle_25  ?_ ?_
        · intro hc23
          refine BX12_tossBottle_62  ?_ ?_
          · intro hc24
            exact absurd hc24 (by decide)
          · intro hc25
            refine BX12_tossBottle_70  ?_
            first | exact kn (decide_eq_false (fun q => by omega)) | (exfalso; omega)
        · intro hc26
          exact absurd hc26 (by decide)
  · intro w3
    refine BX12_tossBottle_11  ?_ ?_
    · intro hc27
      refine BX12_tossBottle_62  ?_ ?_
      · intro hc28
        exact absurd hc28 (by decide)
      · intro hc29
        refine BX12_tossBottle_70  ?_
        first | exact kn (decide_eq_false (fun q => by omega)) | (exfalso; omega)
    · intro hc30
      exact absurd hc30 (by decide)
end CALLS2
