/-! The reference: a bottle's parts, the book, the draws. -/
section SEAT
variable {A A2 S S2 : Int → Int} {W : Int → Int → Int}
/-- only the sea is changed -/
theorem TA.sea (a : TA A W) (e : ∀ i, (i < 7 ∨ (83 ≤ i ∧ i < 3359)) → A2 i = A i) (te : tSe A2 S) (o : okN W) : TA A2 (fset W 1 S) := by
  obtain ⟨⟨s1, s2, s3⟩, _, ⟨⟨a1, a2, a3, a4, a5⟩, t6, t7, t8, t9⟩, ⟨u1, u2, u3⟩, tp⟩ := a
  obtain ⟨o1, o2, o3, o4, o5, o6, o7, o8⟩ := o
  refine ⟨⟨?_, fun q q0 q1 => ?_, fun t q t0 t1 q0 q1 => ?_⟩, te, ⟨⟨?_, ?_, ?_, ?_, ?_⟩, fun j j0 j1 => ?_, fun j j0 j1 => ?_, fun j j0 j1 => ?_, fun j j0 j1 => ?_⟩, ⟨?_, ?_, ?_⟩, fun s s0 s1 => ?_⟩
  · rw [e _ (by omega)]; exact s1
  · have q1 : q < W 3 3 := q1
    rw [e _ (by omega), e _ (by omega)]; exact s2 q q0 q1
  · rw [e _ (by omega)]; exact s3 t q t0 t1 q0 q1
  · rw [e _ (by omega)]; exact a1
  · rw [e _ (by omega)]; exact a2
  · rw [e _ (by omega)]; exact a3
  · rw [e _ (by omega)]; exact a4
  · rw [e _ (by omega)]; exact a5
  · have j1 : j < W 2 52 := j1
    rw [e _ (by omega), e _ (by omega)]; exact t6 j j0 j1
  · have j1 : j < W 2 53 := j1
    rw [e _ (by omega)]; exact t7 j j0 j1
  · rw [e _ (by omega), e _ (by omega)]; exact t8 j j0 j1
  · have j1 : j < W 2 54 := j1
    rw [e _ (by omega), e _ (by omega)]; exact t9 j j0 j1
  · rw [e _ (by omega)]; exact u1
  · rw [e _ (by omega)]; exact u2
  · rw [e _ (by omega)]; exact u3
  · have hs : s < W 3 0 := s1
    rw [fset_ne (by omega)]
    have o9 := o8 s s0 hs
    obtain ⟨⟨t1, t2, t3, t4⟩, t5, t6⟩ := tp s s0 hs
    refine ⟨⟨?_, ?_, ?_, ?_⟩, fun b w b0 b1 w0 w1 => ?_, fun l l0 l1 => ?_⟩
    · rw [e _ (by omega)]; exact t1
    · rw [e _ (by omega)]; exact t2
    · rw [e _ (by omega)]; exact t3
    · rw [e _ (by omega)]; exact t4
    · rw [e _ (by omega)]; exact t5 b w b0 b1 w0 w1
    · rw [e _ (by omega)]; exact t6 l l0 l1
theorem okN.sea (o : okN W) (h : 0 ≤ S 72 ∧ S 72 ≤ 12 ∧ 0 ≤ S 75 ∧ S 75 ≤ 30 ∧ 0 ≤ S 73 ∧ S 73 ≤ 9999) : okN (fset W 1 S) := by
  obtain ⟨o1, o2, o3, o4, o5, o6, o7, o8⟩ := o
  refine ⟨o1, ⟨h.1, h.2.1⟩, ⟨h.2.2.1, h.2.2.2.1⟩, o4, o5, h.2.2.2.2, o7, fun j j0 j1 => ?_⟩
  rw [fset_ne (by omega)]
  exact o8 j j0 j1
theorem tSe.put {b w v : Int} (t : tSe A S) (o : S 72 ≤ 12) (b0 : 0 ≤ b) (b1 : b < S 72) (w0 : 0 ≤ w) (w1 : w < 6) : tSe (fset A (11 + 6 * b + w) v) (fset S (b * 6 + w) v) := by
  obtain ⟨t1, t2, t3, t4⟩ := t
  refine ⟨?_, ?_, ?_, fun b' w' b0' b1' w0' w1' => ?_⟩
  · rw [fset_ne (by omega), fset_ne (by omega)]; exact t1
  · rw [fset_ne (by omega), fset_ne (by omega)]; exact t2
  · rw [fset_ne (by omega), fset_ne (by omega)]; exact t3
  · rw [fset_ne (by omega)] at b1'
    by_cases q : b' * 6 + w' = b * 6 + w
    · rw [q, fset_at, show 11 + 6 * b' + w' = 11 + 6 * b + w by omega, fset_at]
    · rw [fset_ne q, fset_ne (by omega)]; exact t4 b' w' b0' b1' w0' w1'
theorem tSe.slot {b w v : Int} (t : tSe A S) (b0 : 0 ≤ S 72) (b1 : b = S 72) (b2 : S 72 < 12) (w0 : 0 ≤ w) (w1 : w < 6) : tSe (fset A (11 + 6 * b + w) v) S := by
  obtain ⟨t1, t2, t3, t4⟩ := t
  refine ⟨?_, ?_, ?_, fun b' w' b0' b1' w0' w1' => ?_⟩
  · rw [fset_ne (by omega)]; exact t1
  · rw [fset_ne (by omega)]; exact t2
  · rw [fset_ne (by omega)]; exact t3
  · rw [fset_ne (by omega)]; exact t4 b' w' b0' b1' w0' w1'
/-- a book reads alike where its rows are alike -/
theorem tBk.cong (t : tBk A S) (e10 : A2 10 = A 10) (e : ∀ i, 3359 ≤ i → A2 i = A i) (e75 : S2 75 = S 75) (eb : ∀ j, 0 ≤ j → bk S2 j = bk S j) : tBk A2 S2 := by
  obtain ⟨t1, t2⟩ := t
  refine ⟨by rw [e10, e75]; exact t1, fun l l0 l1 => ?_⟩
  rw [e75] at l1
  rw [e _ (by omega)]
  have := t2 l l0 l1
  unfold pkE at this ⊢
  rw [eb _ (by omega), eb _ (by omega), eb _ (by omega), eb _ (by omega)]
  exact this
theorem bk_ne {i v j : Int} (h : i < 76) (j0 : 0 ≤ j) : bk (fset S i v) j = bk S j := fset_ne (by omega)
end SEAT
section PUTS
variable {d bc bs n : Nat} {g h : aH} {Q : aQ} {W V : Int → Int → Int} {X : Int → Tx} {F B : Int → Int} {wr cm : Int} {M : Int → Int → Int}
/-- a change of the sea that leaves its book alone -/
theorem mkS {A S : Int → Int} (e : IsM g h M) (t : MT M W V X F B wr cm) (q : ∀ i, (i < 7 ∨ i = 10 ∨ 83 ≤ i) → A i = M 1 i) (te : tSe A S) (e75 : S 75 = W 1 75) (eb : ∀ j, 0 ≤ j → bk S j = bk (W 1) j) (o : 0 ≤ S 72 ∧ S 72 ≤ 12 ∧ 0 ≤ S 75 ∧ S 75 ≤ 30 ∧ 0 ≤ S 73 ∧ S 73 ≤ 9999) : IsMo g (up h 302 (cI (Ls 3389 A))) (fset W 1 S) V X F B wr cm := by
  obtain ⟨⟨ta, tb⟩, tv, tx, tt, wr0, cm0, on⟩ := t
  refine ⟨fset M 1 A, e.s1, ⟨ta.sea (fun i hi => q i (by omega)) te on, ?_⟩, tv, tx, tt, wr0, cm0, on.sea o⟩
  show tBk A (if wr = 1 then S else B)
  by_cases w1 : wr = 1
  · rw [if_pos w1] at tb ⊢
    exact tb.cong (q _ (by omega)) (fun i hi => q i (by omega)) e75 eb
  · rw [if_neg w1] at tb ⊢
    exact tb.cong (q _ (by omega)) (fun i hi => q i (by omega)) rfl (fun _ _ => rfl)
theorem R_X13_put {b w v : Int} (s : IsMo g h W V X F B wr cm) (b0 : 0 ≤ b) (b1 : b < W 1 72) (w0 : 0 ≤ w) (w1 : w < 6) (k : ∀ h1, IsMo g h1 (fset W 1 (fset (W 1) (b * 6 + w) v)) V X F B wr cm → Q none h1 n) : Rn d bc bs mX13_put 0 [some (vR (some 301)), some (vI b), some (vI w), some (vI v)] [] h n Q := by
  obtain ⟨M, e, t⟩ := id s
  have on := t.2.2.2.2.2.2
  obtain ⟨o1, o2, o3, o4, o5, o6, o7, o8⟩ := id on
  have te := t.1.1.2.1
  have m0 := e.o
  have m1 := e.a1
  refine BX13_put_0 (by first | assumption | exact up_at _ _ _ | (rw [up_ne (by omega)]; first | assumption | exact up_at _ _ _ | (rw [up_ne (by omega)]; assumption))) (by rfl) (by first | omega | (rw [fset_at]; omega) | (simp only [Ls_len]; omega) | assumption | exact Ls_get (by omega) (by omega) | exact up_at _ _ _ | rfl | decide) (by first | omega | (rw [fset_at]; omega) | (simp only [Ls_len]; omega) | assumption | exact Ls_get (by omega) (by omega) | exact up_at _ _ _ | rfl | decide) (by first | omega | (rw [fset_at]; omega) | (simp only [Ls_len]; omega) | assumption | exact Ls_get (by omega) (by omega) | exact up_at _ _ _ | rfl | decide) (by first | assumption | exact up_at _ _ _ | (rw [up_ne (by omega)]; first | assumption | exact up_at _ _ _ | (rw [up_ne (by omega)]; assumption))) (by first | omega | (rw [fset_at]; omega) | (simp only [Ls_len]; omega) | assumption | exact Ls_get (by omega) (by omega) | exact up_at _ _ _ | rfl | decide) (by first | omega | (rw [fset_at]; omega) | (simp only [Ls_len]; omega) | assumption | exact Ls_get (by omega) (by omega) | exact up_at _ _ _ | rfl | decide) (by first | omega | (rw [fset_at]; omega) | (simp only [Ls_len]; omega) | assumption | exact Ls_get (by omega) (by omega) | exact up_at _ _ _ | rfl | decide) ?_
  try rw [Ls_set (by omega)]
  refine BX13_put_15  ?_
  exact k _ (mkS e t (fun i hi => fset_ne (by omega)) (te.put (by omega) b0 b1 w0 w1) (fset_ne (by omega)) (fun j j0 => bk_ne (by omega) j0) (by simp (disch := omega) only [fset_ne]; omega))
theorem R_X13_anew (s : IsMo g h W V X F B wr cm) (ok : okSe (W 3 3) (W 1)) (k : ∀ h1, IsMo g h1 (fset W 1 (drM (W 1))) V X F B wr cm → Q none h1 n) : Rn d bc bs mX13_anew 0 [some (vR (some 301))] [] h n Q := by
  obtain ⟨M, e, t⟩ := id s
  have on := t.2.2.2.2.2.2
  obtain ⟨o1, o2, o3, o4, o5, o6, o7, o8⟩ := id on
  have te := t.1.1.2.1
  have te2 := te.2.1
  have q1 := ok.1
  have m0 := e.o
  have m1 := e.a1
  refine BX13_anew_0 (by first | assumption | exact up_at _ _ _ | (rw [up_ne (by omega)]; first | assumption | exact up_at _ _ _ | (rw [up_ne (by omega)]; assumption))) (by rfl) (by first | assumption | exact up_at _ _ _ | (rw [up_ne (by omega)]; first | assumption | exact up_at _ _ _ | (rw [up_ne (by omega)]; assumption))) (by first | exact Ls_get (by omega) (by omega) | assumption) (by first | omega | (rw [fset_at]; omega) | (simp only [Ls_len]; omega) | assumption | exact Ls_get (by omega) (by omega) | exact up_at _ _ _ | rfl | decide) (by first | omega | (rw [fset_at]; omega) | (simp only [Ls_len]; omega) | assumption | exact Ls_get (by omega) (by omega) | exact up_at _ _ _ | rfl | decide) (by first | omega | (rw [fset_at]; omega) | (simp only [Ls_len]; omega) | assumption | exact Ls_get (by omega) (by omega) | exact up_at _ _ _ | rfl | decide) (by first | omega | (rw [fset_at]; omega) | (simp only [Ls_len]; omega) | assumption | exact Ls_get (by omega) (by omega) | exact up_at _ _ _ | rfl | decide) (by first | omega | (rw [fset_at]; omega) | (simp only [Ls_len]; omega) | assumption | exact Ls_get (by omega) (by omega) | exact up_at _ _ _ | rfl | decide) (by first | omega | (rw [fset_at]; omega) | (simp only [Ls_len]; omega) | assumption | exact Ls_get (by omega) (by omega) | exact up_at _ _ _ | rfl | decide) ?_
  try rw [Ls_set (by omega)]
  refine BX13_anew_28  ?_
  rw [te2]
  refine k _ (mkS e t (fun i hi => fset_ne (by omega)) ⟨?_, ?_, ?_, fun b w b0 b1 w0 w1 => ?_⟩ (fset_ne (by omega)) (fun j j0 => bk_ne (by omega) j0) (by unfold drM; simp (disch := omega) only [fset_ne]; omega))
  · unfold drM; rw [fset_ne (by omega), fset_ne (by omega)]; exact te.1
  · unfold drM; rw [fset_at, fset_at]
  · unfold drM; rw [fset_ne (by omega), fset_ne (by omega)]; exact te.2.2.1
  · unfold drM at b1 ⊢; rw [fset_ne (by omega)] at b1; rw [fset_ne (by omega), fset_ne (by omega)]; exact te.2.2.2 b w b0 b1 w0 w1
end PUTS
