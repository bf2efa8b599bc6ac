/-! The reference: what changes persons, currents, sayings, the tape. -/
section TIE2
variable {A : Int → Int} {W : Int → Int → Int}
theorem wSh_hi {np s : Int} {pl lk cu : Int → Int} (s0 : 0 ≤ s) : wSh W np pl lk cu (10 + s) = W (10 + s) := by
  unfold wSh
  rw [if_neg (by omega), if_neg (by omega), if_neg (by omega), if_neg (by omega)]
theorem okN.sh {np : Int} {pl lk cu : Int → Int} (o : okN W) (n0 : 0 ≤ np ∧ np ≤ 6) : okN (wSh W np pl lk cu) := by
  obtain ⟨o1, o2, o3, o4, o5, o6, o7, o8⟩ := o
  exact ⟨n0, o2, o3, o4, o5, o6, o7, fun j j0 j1 => by rw [wSh_hi j0]; exact o8 j j0 j1⟩
theorem okN.by {x : Int} (o : okN W) : okN (fset W 3 (fset (W 3) 2 x)) := by
  obtain ⟨o1, o2, o3, o4, o5, o6, o7, o8⟩ := o
  exact ⟨o1, o2, o3, o4, o5, o6, o7, fun j j0 j1 => by rw [fset_ne (by omega)]; exact o8 j j0 j1⟩
theorem TA.person {p l : Int} (t : TA A W) (o : okN W) (h6 : W 3 3 < 6) : TA (fset (fset (fset A (83 + 2 * W 3 3) p) (83 + 2 * W 3 3 + 1) l) 0 (W 3 3 + 1)) (wSh W (W 3 3 + 1) (fset (W 0) (W 3 3) p) (fset (W 5) (W 3 3) l) (W 6)) := by
  obtain ⟨ts, te, ty, ⟨t1, t2, t3⟩, tp⟩ := t
  obtain ⟨o1, o2, o3, o4, o5, o6, o7, o8⟩ := o
  refine ⟨⟨fset_at _ _ _, fun q q0 q1 => ?_, fun t q t0 t1 q0 q1 => ?_⟩, ((te.ne (by omega) (by omega)).ne (by omega) (by omega)).ne (by omega) (by omega), ((ty.ne (by omega) (by omega)).ne (by omega) (by omega)).ne (by omega) (by omega), ⟨?_, ?_, ?_⟩, fun s s0 s1 => by rw [wSh_hi s0]; exact (((tp s s0 s1).lo (by omega)).lo (by omega)).lo (by omega)⟩
  · have q1 : q < W 3 3 + 1 := q1
    show _ = fset (W 0) (W 3 3) p q ∧ _ = fset (W 5) (W 3 3) l q
    by_cases e : q = W 3 3
    · subst e
      rw [fset_ne (by omega), fset_ne (by omega), fset_at, fset_at, fset_ne (by omega), fset_at, fset_at]
      exact ⟨rfl, rfl⟩
    · rw [fset_ne (by omega), fset_ne (by omega), fset_ne (by omega), fset_ne e, fset_ne (by omega), fset_ne (by omega), fset_ne (by omega), fset_ne e]
      exact ts.2.1 q q0 (by omega)
  · rw [fset_ne (by omega), fset_ne (by omega), fset_ne (by omega)]; exact ts.2.2 t q t0 t1 q0 q1
  · rw [fset_ne (by omega), fset_ne (by omega), fset_ne (by omega)]; exact t1
  · rw [fset_ne (by omega), fset_ne (by omega), fset_ne (by omega)]; exact t2
  · rw [fset_ne (by omega), fset_ne (by omega), fset_ne (by omega)]; exact t3
theorem TA.current {t p q : Int} (a : TA A W) (o : okN W) (t0 : 0 ≤ t) (t1 : t ≤ 2) (p0 : 0 ≤ p) (p1 : p ≤ 9) : TA (fset A (95 + 10 * t + p) q) (wSh W (W 3 3) (W 0) (W 5) (fset (W 6) (t * 10 + p) q)) := by
  obtain ⟨ts, te, ty, ⟨u1, u2, u3⟩, tp⟩ := a
  obtain ⟨o1, o2, o3, o4, o5, o6, o7, o8⟩ := o
  refine ⟨⟨?_, fun q q0 q1 => ?_, fun t' q' t0' t1' q0 q1 => ?_⟩, te.ne (by omega) (by omega), ty.ne (by omega) (by omega), ⟨?_, ?_, ?_⟩, fun s s0 s1 => by rw [wSh_hi s0]; exact (tp s s0 s1).lo (by omega)⟩
  · rw [fset_ne (by omega)]; exact ts.1
  · have q1 : q < W 3 3 := q1
    rw [fset_ne (by omega), fset_ne (by omega)]; exact ts.2.1 q q0 q1
  · show _ = fset (W 6) (t * 10 + p) q (t' * 10 + q')
    by_cases e : 95 + 10 * t' + q' = 95 + 10 * t + p
    · rw [e, fset_at, show t' * 10 + q' = t * 10 + p by omega, fset_at]
    · rw [fset_ne e, fset_ne (by omega)]; exact ts.2.2 t' q' t0' t1' q0 q1
  · rw [fset_ne (by omega)]; exact u1
  · rw [fset_ne (by omega)]; exact u2
  · rw [fset_ne (by omega)]; exact u3
theorem TA.by {x : Int} (a : TA A W) (o : okN W) : TA (fset A 2 x) (fset W 3 (fset (W 3) 2 x)) := by
  obtain ⟨ts, te, ty, ⟨u1, u2, u3⟩, tp⟩ := a
  obtain ⟨o1, o2, o3, o4, o5, o6, o7, o8⟩ := o
  exact ⟨ts.ne (by omega) (by omega), te.ne (by omega) (by omega), ty.ne (by omega) (by omega), ⟨u1, rfl, u3⟩, fun s s0 s1 => by rw [fset_ne (by omega)]; exact (tp s s0 s1).lo (by omega)⟩
/-- only the sayings are changed -/
theorem TA.say {A2 Y : Int → Int} (a : TA A W) (e : ∀ i, (i < 4 ∨ (7 ≤ i ∧ i < 125) ∨ 179 ≤ i) → A2 i = A i) (ty : tSy A2 Y) (o : okN W) : TA A2 (fset W 2 Y) := by
  obtain ⟨⟨s1, s2, s3⟩, ⟨e1, e2, e3, e4⟩, _, ⟨u1, u2, u3⟩, tp⟩ := a
  obtain ⟨o1, o2, o3, o4, o5, o6, o7, o8⟩ := o
  refine ⟨⟨?_, fun q q0 q1 => ?_, fun t q t0 t1 q0 q1 => ?_⟩, ⟨?_, ?_, ?_, fun b w b0 b1 w0 w1 => ?_⟩, ty, ⟨?_, ?_, ?_⟩, fun s s0 s1 => ?_⟩
  · rw [e _ (by omega)]; exact s1
  · have q1 : q < W 3 3 := q1
    rw [e _ (by omega), e _ (by omega)]; exact s2 q q0 q1
  · rw [e _ (by omega)]; exact s3 t q t0 t1 q0 q1
  · rw [e _ (by omega)]; exact e1
  · rw [e _ (by omega)]; exact e2
  · rw [e _ (by omega)]; exact e3
  · have b1 : b < W 1 72 := b1
    rw [e _ (by omega)]; exact e4 b w b0 b1 w0 w1
  · rw [e _ (by omega)]; exact u1
  · rw [e _ (by omega)]; exact u2
  · rw [e _ (by omega)]; exact u3
  · have hs : s < W 3 0 := s1
    rw [fset_ne (by omega)]
    obtain ⟨⟨t1, t2, t3, t4⟩, t5, t6⟩ := tp s s0 hs
    refine ⟨⟨?_, ?_, ?_, ?_⟩, fun b w b0 b1 w0 w1 => ?_, fun l l0 l1 => ?_⟩
    · rw [e _ (by omega)]; exact t1
    · rw [e _ (by omega)]; exact t2
    · rw [e _ (by omega)]; exact t3
    · rw [e _ (by omega)]; exact t4
    · rw [e _ (by omega)]; exact t5 b w b0 b1 w0 w1
    · rw [e _ (by omega)]; exact t6 l l0 l1
theorem tBk.say {A2 S : Int → Int} (t : tBk A S) (e : ∀ i, (i < 4 ∨ (7 ≤ i ∧ i < 125) ∨ 179 ≤ i) → A2 i = A i) : tBk A2 S := ⟨by rw [e _ (by omega)]; exact t.1, fun l l0 l1 => by rw [e _ (by omega)]; exact t.2 l l0 l1⟩
end TIE2
section UPD
variable {d bc bs n : Nat} {g h : aH} {Q : aQ} {W V : Int → Int → Int} {X : Int → Tx} {F B : Int → Int} {wr cm : Int}
theorem M_person {p l : Int} (s : IsMo g h W V X F B wr cm) (k : ∀ h1, IsMo g h1 (sPerson W p l) V X F B wr cm → Q (some (vI (aPerson W p l))) h1 n) : Rn (d + 30) bc bs mX13_person 0 [some (vR (some 301)), some (vI p), some (vI l)] [] h n Q := by
  obtain ⟨M, e, ⟨⟨ts, te, ty, ⟨t1, t2, t3⟩, tp⟩, tb⟩, ⟨tv, tvb⟩, tx, ⟨⟨tt1, tt2, tt3⟩, tt4⟩, wr0, cm0, on⟩ := id s; obtain ⟨on1, on2, on3, on4, on5, on6, on7, on8⟩ := id on; have tt : tTp M F := ⟨⟨tt1, tt2, tt3⟩, tt4⟩; have m0 := e.o; have m1 := e.a1; have m2 := e.a2; have m3 := e.a3; have m4 := e.a4; have ts1 := ts.1; obtain ⟨te1, te2, te3, te4⟩ := id te; obtain ⟨⟨ty1, ty2, ty3, ty4, ty5⟩, ty6, ty7, ty8, ty9⟩ := id ty
  have q1 : fset (M 1) (83 + 2 * M 1 0) p 0 = M 1 0 := fset_ne (by omega)
  have q2 : fset (fset (M 1) (83 + 2 * M 1 0) p) (83 + 2 * fset (M 1) (83 + 2 * M 1 0) p 0 + 1) l 0 = M 1 0 := by rw [fset_ne (by omega), q1]
  unfold aPerson sPerson at k
  refine BX13_person_0  ?_
  refine R_X13_isPlace  ?_ ?_
  · intro w1 w2
    refine BX13_person_4  ?_ ?_
    · intro hc1
      exact absurd hc1 (by decide)
    · intro hc2
      refine BX13_person_7  ?_
      refine R_X13_isIn  ?_ ?_
      · intro w1 w2
        refine BX13_person_14  ?_ ?_
        · intro hc3
          exact absurd hc3 (by decide)
        · intro hc4
          refine BX13_person_17 (by first | assumption | exact up_at _ _ _ | (rw [up_ne (by omega)]; first | assumption | exact up_at _ _ _ | (rw [up_ne (by omega)]; assumption))) (by rfl) (by first | assumption | exact up_at _ _ _ | (rw [up_ne (by omega)]; first | assumption | exact up_at _ _ _ | (rw [up_ne (by omega)]; assumption))) (by first | exact Ls_get (by omega) (by omega) | assumption) ?_ ?_
          · intro hc5
            refine BX13_person_30 (by first | assumption | exact up_at _ _ _ | (rw [up_ne (by omega)]; first | assumption | exact up_at _ _ _ | (rw [up_ne (by omega)]; assumption))) (by rfl) (by first | assumption | exact up_at _ _ _ | (rw [up_ne (by omega)]; first | assumption | exact up_at _ _ _ | (rw [up_ne (by omega)]; assumption))) (by first | exact Ls_get (by omega) (by omega) | assumption) (by first | omega | (rw [fset_at]; omega) | (simp only [Ls_len]; omega) | assumption | exact Ls_get (by omega) (by omega) | exact up_at _ _ _ | rfl | decide) (by first | omega | (rw [fset_at]; omega) | (simp only [Ls_len]; omega) | assumption | exact Ls_get (by omega) (by omega) | exact up_at _ _ _ | rfl | decide) (by first | omega | (rw [fset_at]; omega) | (simp only [Ls_len]; omega) | assumption | exact Ls_get (by omega) (by omega) | exact up_at _ _ _ | rfl | decide) (by first | omega | (rw [fset_at]; omega) | (simp only [Ls_len]; omega) | assumption | exact Ls_get (by omega) (by omega) | exact up_at _ _ _ | rfl | decide) (by first | omega | (rw [fset_at]; omega) | (simp only [Ls_len]; omega) | assumption | exact Ls_get (by omega) (by omega) | exact up_at _ _ _ | rfl | decide) ?_
            try rw [Ls_set (by omega)]
            refine BX13_person_47 (by first | assumption | exact up_at _ _ _ | (rw [up_ne (by omega)]; first | assumption | exact up_at _ _ _ | (rw [up_ne (by omega)]; assumption))) (by rfl) (by first | assumption | exact up_at _ _ _ | (rw [up_ne (by omega)]; first | assumption | exact up_at _ _ _ | (rw [up_ne (by omega)]; assumption))) (by first | exact Ls_get (by omega) (by omega) | assumption) (by first | omega | (rw [fset_at]; omega) | (simp only [Ls_len]; omega) | assumption | exact Ls_get (by omega) (by omega) | exact up_at _ _ _ | rfl | decide) (by first | omega | (rw [fset_at]; omega) | (simp only [Ls_len]; omega) | assumption | exact Ls_get (by omega) (by omega) | exact up_at _ _ _ | rfl | decide) (by first | omega | (rw [fset_at]; omega) | (simp only [Ls_len]; omega) | assumption | exact Ls_get (by omega) (by omega) | exact up_at _ _ _ | rfl | decide) (by first | omega | (rw [fset_at]; omega) | (simp only [Ls_len]; omega) | assumption | exact Ls_get (by omega) (by omega) | exact up_at _ _ _ | rfl | decide) (by first | omega | (rw [fset_at]; omega) | (simp only [Ls_len]; omega) | assumption | exact Ls_get (by omega) (by omega) | exact up_at _ _ _ | rfl | decide) (by first | omega | (rw [fset_at]; omega) | (simp only [Ls_len]; omega) | assumption | exact Ls_get (by omega) (by omega) | exact up_at _ _ _ | rfl | decide) ?_
            try rw [Ls_set (by omega)]
            refine BX13_person_66 (by first | assumption | exact up_at _ _ _ | (rw [up_ne (by omega)]; first | assumption | exact up_at _ _ _ | (rw [up_ne (by omega)]; assumption))) (by rfl) (by first | assumption | exact up_at _ _ _ | (rw [up_ne (by omega)]; first | assumption | exact up_at _ _ _ | (rw [up_ne (by omega)]; assumption))) (by first | exact Ls_get (by omega) (by omega) | assumption) (by first | omega | (rw [fset_at]; omega) | (simp only [Ls_len]; omega) | assumption | exact Ls_get (by omega) (by omega) | exact up_at _ _ _ | rfl | decide) (by first | omega | (rw [fset_at]; omega) | (simp only [Ls_len]; omega) | assumption | exact Ls_get (by omega) (by omega) | exact up_at _ _ _ | rfl | decide) (by first | omega | (rw [fset_at]; omega) | (simp only [Ls_len]; omega) | assumption | exact Ls_get (by omega) (by omega) | exact up_at _ _ _ | rfl | decide) ?_
            try rw [Ls_set (by omega)]
            refine BX13_person_76 (by first | assumption | exact up_at _ _ _ | (rw [up_ne (by omega)]; first | assumption | exact up_at _ _ _ | (rw [up_ne (by omega)]; assumption))) (by rfl) (by first | assumption | exact up_at _ _ _ | (rw [up_ne (by omega)]; first | assumption | exact up_at _ _ _ | (rw [up_ne (by omega)]; assumption))) (by first | exact Ls_get (by omega) (by omega) | assumption) (by first | omega | (rw [fset_at]; omega) | (simp only [Ls_len]; omega) | assumption | exact Ls_get (by omega) (by omega) | exact up_at _ _ _ | rfl | decide) ?_
            rw [if_pos (by omega), if_pos (by omega)] at k
            rw [up_up, up_up, fset_at, q2, q1, ts1, show W 3 3 + 1 - 1 = W 3 3 by omega]
            have a := TA.person (p := p) (l := l) ⟨ts, te, ty, ⟨t1, t2, t3⟩, tp⟩ on (by omega)
            exact k _ (mkA e a (((tb.ne (by omega)).ne (by omega)).ne (by omega)) tv tvb tx tt wr0 cm0 (on.sh (by omega)))
          · intro hc6
            refine BX13_person_28  ?_
            (rw [if_neg (by omega), if_neg (by omega)] at k; exact k _ s)
      · intro w3
        refine BX13_person_14  ?_ ?_
        · intro hc7
          refine BX13_person_28  ?_
          (rw [if_neg (by omega), if_neg (by omega)] at k; exact k _ s)
        · intro hc8
          exact absurd hc8 (by decide)
  · intro w3
    refine BX13_person_4  ?_ ?_
    · intro hc9
      refine BX13_person_28  ?_
      (rw [if_neg (by omega), if_neg (by omega)] at k; exact k _ s)
    · intro hc10
      exact absurd hc10 (by decide)
theorem M_current {t p q : Int} (s : IsMo g h W V X F B wr cm) (k : ∀ h1, IsMo g h1 (sCurrent W t p q) V X F B wr cm → Q (some (vI (aCurrent t p q))) h1 n) : Rn (d + 30) bc bs mX13_current 0 [some (vR (some 301)), some (vI t), some (vI p), some (vI q)] [] h n Q := by
  obtain ⟨M, e, ⟨⟨ts, te, ty, ⟨t1, t2, t3⟩, tp⟩, tb⟩, ⟨tv, tvb⟩, tx, ⟨⟨tt1, tt2, tt3⟩, tt4⟩, wr0, cm0, on⟩ := id s; obtain ⟨on1, on2, on3, on4, on5, on6, on7, on8⟩ := id on; have tt : tTp M F := ⟨⟨tt1, tt2, tt3⟩, tt4⟩; have m0 := e.o; have m1 := e.a1; have m2 := e.a2; have m3 := e.a3; have m4 := e.a4; have ts1 := ts.1; obtain ⟨te1, te2, te3, te4⟩ := id te; obtain ⟨⟨ty1, ty2, ty3, ty4, ty5⟩, ty6, ty7, ty8, ty9⟩ := id ty
  unfold aCurrent sCurrent at k
  refine BX13_current_0  ?_
  refine R_X13_isIn  ?_ ?_
  · intro w1 w2
    refine BX13_current_6  ?_ ?_
    · intro hc1
      exact absurd hc1 (by decide)
    · intro hc2
      refine BX13_current_9  ?_
      refine R_X13_isPlace  ?_ ?_
      · intro w1 w2
        refine BX13_current_13  ?_ ?_
        · intro hc3
          exact absurd hc3 (by decide)
        · intro hc4
          refine BX13_current_16  ?_
          refine R_X13_isPlace  ?_ ?_
          · intro w1 w2
            refine BX13_current_20  ?_ ?_
            · intro hc5
              refine BX13_current_25 (by first | assumption | exact up_at _ _ _ | (rw [up_ne (by omega)]; first | assumption | exact up_at _ _ _ | (rw [up_ne (by omega)]; assumption))) (by rfl) (by first | omega | (rw [fset_at]; omega) | (simp only [Ls_len]; omega) | assumption | exact Ls_get (by omega) (by omega) | exact up_at _ _ _ | rfl | decide) (by first | omega | (rw [fset_at]; omega) | (simp only [Ls_len]; omega) | assumption | exact Ls_get (by omega) (by omega) | exact up_at _ _ _ | rfl | decide) (by first | omega | (rw [fset_at]; omega) | (simp only [Ls_len]; omega) | assumption | exact Ls_get (by omega) (by omega) | exact up_at _ _ _ | rfl | decide) (by first | assumption | exact up_at _ _ _ | (rw [up_ne (by omega)]; first | assumption | exact up_at _ _ _ | (rw [up_ne (by omega)]; assumption))) (by first | omega | (rw [fset_at]; omega) | (simp only [Ls_len]; omega) | assumption | exact Ls_get (by omega) (by omega) | exact up_at _ _ _ | rfl | decide) (by first | omega | (rw [fset_at]; omega) | (simp only [Ls_len]; omega) | assumption | exact Ls_get (by omega) (by omega) | exact up_at _ _ _ | rfl | decide) (by first | omega | (rw [fset_at]; omega) | (simp only [Ls_len]; omega) | assumption | exact Ls_get (by omega) (by omega) | exact up_at _ _ _ | rfl | decide) ?_
              try rw [Ls_set (by omega)]
              refine BX13_current_40  ?_
              rw [if_pos (by omega), if_pos (by omega)] at k
              have on' := on.sh (np := W 3 3) (pl := W 0) (lk := W 5) (cu := fset (W 6) (t * 10 + p) q) on1
              have a := TA.current (q := q) ⟨ts, te, ty, ⟨t1, t2, t3⟩, tp⟩ on (show 0 ≤ t by omega) (show t ≤ 2 by omega) (show 0 ≤ p by omega) (show p ≤ 9 by omega)
              exact k _ (mkA e a (tb.ne (by omega)) tv tvb tx tt wr0 cm0 on')
            · intro hc6
              exact absurd hc6 (by decide)
          · intro w3
            refine BX13_current_20  ?_ ?_
            · intro hc7
              exact absurd hc7 (by decide)
            · intro hc8
              refine BX13_current_23  ?_
              (rw [if_neg (by omega), if_neg (by omega)] at k; exact k _ s)
      · intro w3
        refine BX13_current_13  ?_ ?_
        · intro hc9
          refine BX13_current_23  ?_
          (rw [if_neg (by omega), if_neg (by omega)] at k; exact k _ s)
        · intro hc10
          exact absurd hc10 (by decide)
  · intro w3
    refine BX13_current_6  ?_ ?_
    · intro hc11
      refine BX13_current_23  ?_
      (rw [if_neg (by omega), if_neg (by omega)] at k; exact k _ s)
    · intro hc12
      exact absurd hc12 (by decide)
theorem M_by {x : Int} (s : IsMo g h W V X F B wr cm) (k : ∀ h1, IsMo g h1 (sBy W x) V X F B wr cm → Q (some (vI (aBy W x))) h1 n) : Rn (d + 30) bc bs mX13_by 0 [some (vR (some 301)), some (vI x)] [] h n Q := by
  obtain ⟨M, e, ⟨⟨ts, te, ty, ⟨t1, t2, t3⟩, tp⟩, tb⟩, ⟨tv, tvb⟩, tx, ⟨⟨tt1, tt2, tt3⟩, tt4⟩, wr0, cm0, on⟩ := id s; obtain ⟨on1, on2, on3, on4, on5, on6, on7, on8⟩ := id on; have tt : tTp M F := ⟨⟨tt1, tt2, tt3⟩, tt4⟩; have m0 := e.o; have m1 := e.a1; have m2 := e.a2; have m3 := e.a3; have m4 := e.a4; have ts1 := ts.1; obtain ⟨te1, te2, te3, te4⟩ := id te; obtain ⟨⟨ty1, ty2, ty3, ty4, ty5⟩, ty6, ty7, ty8, ty9⟩ := id ty
  unfold aBy sBy at k
  refine BX13_by_0 (by first | assumption | exact up_at _ _ _ | (rw [up_ne (by omega)]; first | assumption | exact up_at _ _ _ | (rw [up_ne (by omega)]; assumption))) (by rfl) (by first | assumption | exact up_at _ _ _ | (rw [up_ne (by omega)]; first | assumption | exact up_at _ _ _ | (rw [up_ne (by omega)]; assumption))) (by first | exact Ls_get (by omega) (by omega) | assumption) (by first | omega | (rw [fset_at]; omega) | (simp only [Ls_len]; omega) | assumption | exact Ls_get (by omega) (by omega) | exact up_at _ _ _ | rfl | decide) ?_
  refine R_X13_isIn  ?_ ?_
  · intro w1 w2
    refine BX13_by_13  ?_ ?_
    · intro hc1
      refine BX13_by_18 (by first | assumption | exact up_at _ _ _ | (rw [up_ne (by omega)]; first | assumption | exact up_at _ _ _ | (rw [up_ne (by omega)]; assumption))) (by rfl) (by first | assumption | exact up_at _ _ _ | (rw [up_ne (by omega)]; first | assumption | exact up_at _ _ _ | (rw [up_ne (by omega)]; assumption))) (by first | omega | (rw [fset_at]; omega) | (simp only [Ls_len]; omega) | assumption | exact Ls_get (by omega) (by omega) | exact up_at _ _ _ | rfl | decide) (by first | omega | (rw [fset_at]; omega) | (simp only [Ls_len]; omega) | assumption | exact Ls_get (by omega) (by omega) | exact up_at _ _ _ | rfl | decide) ?_
      try rw [Ls_set (by omega)]
      refine BX13_by_25  ?_
      rw [if_pos (by omega), if_pos (by omega)] at k
      have a := TA.by (x := x) ⟨ts, te, ty, ⟨t1, t2, t3⟩, tp⟩ on
      exact k _ (mkA e a (tb.ne (by omega)) tv tvb tx tt wr0 cm0 on.by)
    · intro hc2
      exact absurd hc2 (by decide)
  · intro w3
    refine BX13_by_13  ?_ ?_
    · intro hc3
      exact absurd hc3 (by decide)
    · intro hc4
      refine BX13_by_16  ?_
      (rw [if_neg (by omega), if_neg (by omega)] at k; exact k _ s)
end UPD
