/-! The reference: the tape, the image, the drift. -/
theorem Fr.eq_up {h h1 : aH} {a : Nat} {c : aC} (f : Fr h h1 a 1) (e : h1 a = c) : h1 = up h a c := by
  funext x
  by_cases q : x = a
  · subst q; rw [up_at, e]
  · rw [up_ne q]; exact f x (by omega)
def cpF (f g : Int → Int) (i : Int) : Int → Int := fun j => if j < i then f j else g j
def putsM : Nat → (Int → Int) → Int → Int → Int
  | 0, F, _ => F
  | m + 1, F, x => putsM m (putB F (byM x (8 * m))) x
section TAPE2
variable {d bc bs n : Nat} {g h : aH} {Q : aQ} {W V : Int → Int → Int} {X : Int → Tx} {F B : Int → Int} {wr cm : Int}
theorem IsMo.putb {M : Int → Int → Int} {b : Int} (e : IsM g h M) (ta : TA (M 1) W) (tb : tBk (M 1) (if wr = 1 then W 1 else B)) (tv : TA (M 2) V) (tvb : tBk (M 2) (V 1)) (tx : ∀ t, 0 ≤ t → t < W 3 1 → tTx (M 3) (705 * t) (X t)) (tt : tTp M F) (w : wrT M B wr) (c : M 0 24 = cm) (on : okN W) (f0 : 0 ≤ F 2) : IsMo g (up (up h 305 (cI (Ls 300 (fset (M 4) (M 0 4) b)))) 301 (cO 13 (List.set (mf (M 0)) 4 (vI (M 0 4 + 1))))) W V X (putB F b) B wr cm := by
  obtain ⟨⟨u1, u2, u3⟩, u4⟩ := tt
  have e2 := (e.s4 (f := fset (M 4) (M 0 4) b)).fld (F := fset (M 0) 4 (M 0 4 + 1))
  refine ⟨fset (fset M 4 (fset (M 4) (M 0 4) b)) 0 (fset (M 0) 4 (M 0 4 + 1)), by rw [mfs_4]; exact e2, ⟨ta, tb⟩, ⟨tv, tvb⟩, tx, ⟨⟨?_, ?_, ?_⟩, fun i i0 i1 => ?_⟩, w, c, on⟩
  · show fset (M 0) 4 (M 0 4 + 1) 4 = putB F b 2
    unfold putB
    rw [fset_at, fset_at, u1]
  · show M 0 5 = putB F b 0
    unfold putB
    rw [fset_ne (by omega), fset_ne (by omega), u2]
  · show M 0 6 = putB F b 1
    unfold putB
    rw [fset_ne (by omega), fset_ne (by omega), u3]
  · show fset (M 4) (M 0 4) b i = putB F b (3 + i)
    unfold putB at i1 ⊢
    rw [fset_at] at i1
    rw [show fset (fset F (3 + F 2) b) 2 (F 2 + 1) (3 + i) = fset F (3 + F 2) b (3 + i) from fset_ne (by omega)]
    by_cases q : i = F 2
    · subst q; rw [u1, fset_at, fset_at]
    · rw [u1, fset_ne q, fset_ne (by omega)]; exact u4 i i0 (by omega)
theorem R_X13_four {x : Int} {l2 : Option aV} (s : IsMo g h W V X F B wr cm) (f0 : 0 ≤ F 2) (f1 : F 2 + 4 ≤ 300) (k : ∀ h1, IsMo g h1 W V X (fourM F x) B wr cm → Q none h1 n) : Rn d bc bs mX13_four 0 [some (vR (some 301)), some (vI x), l2] [] h n Q := by
  have loop : ∀ (m : Nat) (j : Int) (F : Int → Int) (h : aH), j = 8 * (m : Int) - 8 → m ≤ 4 → 0 ≤ F 2 → F 2 + m ≤ 300 → IsMo g h W V X F B wr cm → (∀ h1, IsMo g h1 W V X (putsM m F x) B wr cm → Q none h1 n) → Rn d bc bs mX13_four 3 [some (vR (some 301)), some (vI x), some (vI j)] [] h n Q := by
    intro m
    induction m with
    | zero =>
      intro j F h jm m4 f0 f1 s k
      obtain ⟨M, e, ⟨⟨ts, te, ty, ⟨t1, t2, t3⟩, tp⟩, tb⟩, ⟨tv, tvb⟩, tx, ⟨⟨tt1, tt2, tt3⟩, tt4⟩, wr0, cm0, on⟩ := id s; obtain ⟨on1, on2, on3, on4, on5, on6, on7, on8⟩ := id on; have tt : tTp M F := ⟨⟨tt1, tt2, tt3⟩, tt4⟩; have m0 := e.o; have m1 := e.a1; have m2 := e.a2; have m3 := e.a3; have m4 := e.a4; have ts1 := ts.1; obtain ⟨te1, te2, te3, te4⟩ := id te; obtain ⟨⟨ty1, ty2, ty3, ty4, ty5⟩, ty6, ty7, ty8, ty9⟩ := id ty
      refine BX13_four_3  ?_ ?_
      · intro hc1
        first
        | (exfalso; omega)
        | (
            refine BX13_four_39  ?_
            exact k _ s
          )
      · intro hc2
        first
        | (exfalso; omega)
        | (
            (exfalso; omega)
          )
    | succ m ih =>
      intro j F h jm m4 f0 f1 s k
      obtain ⟨M, e, ⟨⟨ts, te, ty, ⟨t1, t2, t3⟩, tp⟩, tb⟩, ⟨tv, tvb⟩, tx, ⟨⟨tt1, tt2, tt3⟩, tt4⟩, wr0, cm0, on⟩ := id s; obtain ⟨on1, on2, on3, on4, on5, on6, on7, on8⟩ := id on; have tt : tTp M F := ⟨⟨tt1, tt2, tt3⟩, tt4⟩; have m0 := e.o; have m1 := e.a1; have m2 := e.a2; have m3 := e.a3; have m4 := e.a4; have ts1 := ts.1; obtain ⟨te1, te2, te3, te4⟩ := id te; obtain ⟨⟨ty1, ty2, ty3, ty4, ty5⟩, ty6, ty7, ty8, ty9⟩ := id ty
      have s2 := IsMo.putb (b := byM x j) e ⟨ts, te, ty, ⟨t1, t2, t3⟩, tp⟩ tb tv tvb tx tt wr0 cm0 on f0
      have e2 : putB F (byM x j) 2 = F 2 + 1 := fset_at _ _ _
      refine BX13_four_3  ?_ ?_
      · intro hc1
        first
        | (exfalso; omega)
        | (
            refine BX13_four_39  ?_
            (exfalso; omega)
          )
      · intro hc2
        first
        | (exfalso; omega)
        | (
            refine BX13_four_7 (by first | assumption | exact up_at _ _ _ | (rw [up_ne (by omega)]; first | assumption | exact up_at _ _ _ | (rw [up_ne (by omega)]; assumption))) (by rfl) (by rfl) (by first | assumption | exact up_at _ _ _ | (rw [up_ne (by omega)]; first | assumption | exact up_at _ _ _ | (rw [up_ne (by omega)]; assumption))) (by first | omega | (rw [fset_at]; omega) | (simp only [Ls_len]; omega) | assumption | exact Ls_get (by omega) (by omega) | exact up_at _ _ _ | rfl | decide) (by first | omega | (rw [fset_at]; omega) | (simp only [Ls_len]; omega) | assumption | exact Ls_get (by omega) (by omega) | exact up_at _ _ _ | rfl | decide) (by first | omega | (rw [fset_at]; omega) | (simp only [Ls_len]; omega) | assumption | exact Ls_get (by omega) (by omega) | exact up_at _ _ _ | rfl | decide) ?_
            try rw [Ls_set (by omega)]
            refine BX13_four_23 (by first | assumption | exact up_at _ _ _ | (rw [up_ne (by omega)]; first | assumption | exact up_at _ _ _ | (rw [up_ne (by omega)]; assumption))) (by rfl) (by first | omega | (rw [fset_at]; omega) | (simp only [Ls_len]; omega) | assumption | exact Ls_get (by omega) (by omega) | exact up_at _ _ _ | rfl | decide) (by unfold mf; simp) ?_
            refine BX13_four_33 (by first | omega | (rw [fset_at]; omega) | (simp only [Ls_len]; omega) | assumption | exact Ls_get (by omega) (by omega) | exact up_at _ _ _ | rfl | decide) ?_
            refine ih _ _ _ (by omega) (by omega) (by omega) (by omega) s2 ?_
            have ej : j = 8 * (m : Int) := by omega
            rw [ej]
            exact k
          )
  refine BX13_four_0  ?_
  exact loop 4 24 F h (by decide) (by decide) f0 (by omega) s k
theorem M_feed {a b c dd e : Int} (s : IsMo g h W V X F B wr cm) (o : okF F) (k : ∀ h1, IsMo g h1 W V X (sFeed F a b c dd e) B wr cm → Q (some (vI (aFeed F))) h1 n) : Rn (d + 30) bc bs mX13_feed 0 [some (vR (some 301)), some (vI a), some (vI b), some (vI c), some (vI dd), some (vI e)] [] h n Q := by
  have o1 := o.1
  have f1 := fourM_2 F a
  have f2 := fourM_2 (fourM F a) b
  have f3 := fourM_2 (fourM (fourM F a) b) c
  have f4 := fourM_2 (fourM (fourM (fourM F a) b) c) dd
  have f5 := fourM_2 (fourM (fourM (fourM (fourM F a) b) c) dd) e
  unfold aFeed sFeed at k
  obtain ⟨M, ee, _, _, _, ⟨⟨tt1, _⟩, _⟩, _⟩ := id s
  have m0 := ee.o
  refine BX13_feed_0 (by first | assumption | exact up_at _ _ _ | (rw [up_ne (by omega)]; first | assumption | exact up_at _ _ _ | (rw [up_ne (by omega)]; assumption))) (by rfl) (by first | omega | (rw [fset_at]; omega) | (simp only [Ls_len]; omega) | assumption | exact Ls_get (by omega) (by omega) | exact up_at _ _ _ | rfl | decide) ?_ ?_
  · intro hc1
    refine BX13_feed_15 (by first | assumption | exact up_at _ _ _ | (rw [up_ne (by omega)]; first | assumption | exact up_at _ _ _ | (rw [up_ne (by omega)]; assumption))) ?_
    refine R_X13_four (by first | omega | (rw [fset_at]; omega) | (simp only [Ls_len]; omega) | assumption | exact Ls_get (by omega) (by omega) | exact up_at _ _ _ | rfl | decide) (by first | omega | (rw [fset_at]; omega) | (simp only [Ls_len]; omega) | assumption | exact Ls_get (by omega) (by omega) | exact up_at _ _ _ | rfl | decide) (by first | omega | (rw [fset_at]; omega) | (simp only [Ls_len]; omega) | assumption | exact Ls_get (by omega) (by omega) | exact up_at _ _ _ | rfl | decide) ?_
    intro h17 s17
    obtain ⟨M1, e1, _⟩ := id s17
    have m17 := e1.o
    refine BX13_feed_20 (by first | assumption | exact up_at _ _ _ | (rw [up_ne (by omega)]; first | assumption | exact up_at _ _ _ | (rw [up_ne (by omega)]; assumption))) ?_
    refine R_X13_four (by first | omega | (rw [fset_at]; omega) | (simp only [Ls_len]; omega) | assumption | exact Ls_get (by omega) (by omega) | exact up_at _ _ _ | rfl | decide) (by first | omega | (rw [fset_at]; omega) | (simp only [Ls_len]; omega) | assumption | exact Ls_get (by omega) (by omega) | exact up_at _ _ _ | rfl | decide) (by first | omega | (rw [fset_at]; omega) | (simp only [Ls_len]; omega) | assumption | exact Ls_get (by omega) (by omega) | exact up_at _ _ _ | rfl | decide) ?_
    intro h22 s22
    obtain ⟨M2, e2, _⟩ := id s22
    have m22 := e2.o
    refine BX13_feed_25 (by first | assumption | exact up_at _ _ _ | (rw [up_ne (by omega)]; first | assumption | exact up_at _ _ _ | (rw [up_ne (by omega)]; assumption))) ?_
    refine R_X13_four (by first | omega | (rw [fset_at]; omega) | (simp only [Ls_len]; omega) | assumption | exact Ls_get (by omega) (by omega) | exact up_at _ _ _ | rfl | decide) (by first | omega | (rw [fset_at]; omega) | (simp only [Ls_len]; omega) | assumption | exact Ls_get (by omega) (by omega) | exact up_at _ _ _ | rfl | decide) (by first | omega | (rw [fset_at]; omega) | (simp only [Ls_len]; omega) | assumption | exact Ls_get (by omega) (by omega) | exact up_at _ _ _ | rfl | decide) ?_
    intro h27 s27
    obtain ⟨M3, e3, _⟩ := id s27
    have m27 := e3.o
    refine BX13_feed_30 (by first | assumption | exact up_at _ _ _ | (rw [up_ne (by omega)]; first | assumption | exact up_at _ _ _ | (rw [up_ne (by omega)]; assumption))) ?_
    refine R_X13_four (by first | omega | (rw [fset_at]; omega) | (simp only [Ls_len]; omega) | assumption | exact Ls_get (by omega) (by omega) | exact up_at _ _ _ | rfl | decide) (by first | omega | (rw [fset_at]; omega) | (simp only [Ls_len]; omega) | assumption | exact Ls_get (by omega) (by omega) | exact up_at _ _ _ | rfl | decide) (by first | omega | (rw [fset_at]; omega) | (simp only [Ls_len]; omega) | assumption | exact Ls_get (by omega) (by omega) | exact up_at _ _ _ | rfl | decide) ?_
    intro h33 s33
    obtain ⟨M4, e4, _⟩ := id s33
    have m33 := e4.o
    refine BX13_feed_36 (by first | assumption | exact up_at _ _ _ | (rw [up_ne (by omega)]; first | assumption | exact up_at _ _ _ | (rw [up_ne (by omega)]; assumption))) ?_
    refine R_X13_four (by first | omega | (rw [fset_at]; omega) | (simp only [Ls_len]; omega) | assumption | exact Ls_get (by omega) (by omega) | exact up_at _ _ _ | rfl | decide) (by first | omega | (rw [fset_at]; omega) | (simp only [Ls_len]; omega) | assumption | exact Ls_get (by omega) (by omega) | exact up_at _ _ _ | rfl | decide) (by first | omega | (rw [fset_at]; omega) | (simp only [Ls_len]; omega) | assumption | exact Ls_get (by omega) (by omega) | exact up_at _ _ _ | rfl | decide) ?_
    intro h39 s39
    obtain ⟨M5, e5, _, _, _, ⟨⟨tt5, _⟩, _⟩, _⟩ := id s39
    have m39 := e5.o
    refine BX13_feed_42 (by first | assumption | exact up_at _ _ _ | (rw [up_ne (by omega)]; first | assumption | exact up_at _ _ _ | (rw [up_ne (by omega)]; assumption))) (by rfl) ?_
    rw [if_pos (by omega), if_pos (by omega)] at k
    rw [show M5 0 4 = F 2 + 20 by omega]
    exact k _ s39
  · intro hc2
    refine BX13_feed_13  ?_
    (rw [if_neg (by omega), if_neg (by omega)] at k; exact k _ s)
theorem M_end {x : Int} (s : IsMo g h W V X F B wr cm) (k : ∀ h1, IsMo g h1 W V X (sEnd F x) B wr cm → Q (some (vI (aEnd F x))) h1 n) : Rn (d + 30) bc bs mX13_end 0 [some (vR (some 301)), some (vI x)] [] h n Q := by
  obtain ⟨M, e, ⟨⟨ts, te, ty, ⟨t1, t2, t3⟩, tp⟩, tb⟩, ⟨tv, tvb⟩, tx, ⟨⟨tt1, tt2, tt3⟩, tt4⟩, wr0, cm0, on⟩ := id s; obtain ⟨on1, on2, on3, on4, on5, on6, on7, on8⟩ := id on; have tt : tTp M F := ⟨⟨tt1, tt2, tt3⟩, tt4⟩; have m0 := e.o; have m1 := e.a1; have m2 := e.a2; have m3 := e.a3; have m4 := e.a4; have ts1 := ts.1; obtain ⟨te1, te2, te3, te4⟩ := id te; obtain ⟨⟨ty1, ty2, ty3, ty4, ty5⟩, ty6, ty7, ty8, ty9⟩ := id ty
  unfold aEnd sEnd at k
  refine BX13_end_0 (by first | assumption | exact up_at _ _ _ | (rw [up_ne (by omega)]; first | assumption | exact up_at _ _ _ | (rw [up_ne (by omega)]; assumption))) (by rfl) ?_
  refine R_X13_isIn  ?_ ?_
  · intro w1 w2
    refine BX13_end_9  ?_ ?_
    · intro hc1
      refine BX13_end_14 (by first | assumption | exact up_at _ _ _ | (rw [up_ne (by omega)]; first | assumption | exact up_at _ _ _ | (rw [up_ne (by omega)]; assumption))) (by unfold mf; simp) ?_
      refine BX13_end_19  ?_
      rw [if_pos (by omega), if_pos (by omega)] at k
      have e2 := e.fld (F := fset (M 0) 4 x)
      refine k _ ⟨fset M 0 (fset (M 0) 4 x), by rw [mfs_4]; exact e2, ⟨⟨ts, te, ty, ⟨t1, t2, t3⟩, tp⟩, tb⟩, ⟨tv, tvb⟩, tx, ⟨⟨?_, ?_, ?_⟩, fun i i0 i1 => ?_⟩, wr0, cm0, on⟩
      · show fset (M 0) 4 x 4 = fset F 2 x 2
        rw [fset_at, fset_at]
      · exact tt2
      · exact tt3
      · rw [fset_at] at i1
        show M 4 i = fset F 2 x (3 + i)
        rw [fset_ne (by omega)]
        exact tt4 i i0 (by omega)
    · intro hc2
      exact absurd hc2 (by decide)
  · intro w3
    refine BX13_end_9  ?_ ?_
    · intro hc3
      exact absurd hc3 (by decide)
    · intro hc4
      refine BX13_end_12  ?_
      (rw [if_neg (by omega), if_neg (by omega)] at k; exact k _ s)
theorem R_X13_copy {a b : Nat} {f gg : Int → Int} {l2 : Option aV} (ha : h a = cI (Ls 3389 f)) (hb : h b = cI (Ls 3389 gg)) (a0 : a ≠ 0) (b0 : b ≠ 0) (ab : a ≠ b) (k : ∀ h1, Fr h h1 b 1 → h1 b = cI (Ls 3389 f) → Q none h1 n) : Rn d bc bs mX13_copy 0 [some (vR (some a)), some (vR (some b)), l2] [] h n Q := by
  have loop : ∀ (m : Nat) (i : Int) (h1 : aH), 0 ≤ i → i + m = 3389 → Fr h h1 b 1 → h1 b = cI (Ls 3389 (cpF f gg i)) → Rn d bc bs mX13_copy 2 [some (vR (some a)), some (vR (some b)), some (vI i)] [] h1 n Q := by
    intro m
    induction m with
    | zero =>
      intro i h1 i0 i1 r e
      refine BX13_copy_2  ?_ ?_
      · intro hc1
        first
        | (exfalso; omega)
        | (
            refine BX13_copy_21  ?_
            exact k _ r (e.trans (congrArg _ (Ls_ext fun j j0 j1 => by unfold cpF; rw [if_pos (by omega)])))
          )
      · intro hc2
        first
        | (exfalso; omega)
        | (
            (exfalso; omega)
          )
    | succ m ih =>
      intro i h1 i0 i1 r e
      have z := (r a (by omega)).trans ha
      refine BX13_copy_2  ?_ ?_
      · intro hc1
        first
        | (exfalso; omega)
        | (
            refine BX13_copy_21  ?_
            (exfalso; omega)
          )
      · intro hc2
        first
        | (exfalso; omega)
        | (
            refine BX13_copy_9 (by first | assumption | exact up_at _ _ _ | (rw [up_ne (by omega)]; first | assumption | exact up_at _ _ _ | (rw [up_ne (by omega)]; assumption))) (by first | omega | (rw [fset_at]; omega) | (simp only [Ls_len]; omega) | assumption | exact Ls_get (by omega) (by omega) | exact up_at _ _ _ | rfl | decide) (by first | exact Ls_get (by omega) (by omega) | assumption) (by first | assumption | exact up_at _ _ _ | (rw [up_ne (by omega)]; first | assumption | exact up_at _ _ _ | (rw [up_ne (by omega)]; assumption))) (by first | omega | (rw [fset_at]; omega) | (simp only [Ls_len]; omega) | assumption | exact Ls_get (by omega) (by omega) | exact up_at _ _ _ | rfl | decide) (by first | omega | (rw [fset_at]; omega) | (simp only [Ls_len]; omega) | assumption | exact Ls_get (by omega) (by omega) | exact up_at _ _ _ | rfl | decide) ?_
            try rw [Ls_set (by omega)]
            refine BX13_copy_15 (by first | omega | (rw [fset_at]; omega) | (simp only [Ls_len]; omega) | assumption | exact Ls_get (by omega) (by omega) | exact up_at _ _ _ | rfl | decide) ?_
            refine ih _ _ (by omega) (by omega) (r.put (by omega) (by omega)) ?_
            rw [up_at]
            refine congrArg _ (Ls_ext fun j j0 j1 => ?_)
            by_cases q : j = i
            · subst q; rw [fset_at]; unfold cpF; rw [if_pos (by omega)]
            · rw [fset_ne q]; unfold cpF
              by_cases q2 : j < i
              · rw [if_pos q2, if_pos (by omega)]
              · rw [if_neg q2, if_neg (by omega)]
          )
  refine BX13_copy_0  ?_
  exact loop 3389 0 h (by decide) (by decide) (Fr.rf h b 1) (hb.trans (congrArg _ (Ls_ext fun j j0 j1 => by unfold cpF; rw [if_neg (by omega)])))
theorem M_image (s : IsMo g h W V X F B 1 cm) (k : ∀ h1, IsMo g h1 W W X F B 1 cm → Q (some (vI (W 1 73))) h1 n) : Rn (d + 30) bc bs mX13_image 0 [some (vR (some 301))] [] h n Q := by
  obtain ⟨M, e, ⟨⟨ts, te, ty, ⟨t1, t2, t3⟩, tp⟩, tb⟩, ⟨tv, tvb⟩, tx, ⟨⟨tt1, tt2, tt3⟩, tt4⟩, wr0, cm0, on⟩ := id s; obtain ⟨on1, on2, on3, on4, on5, on6, on7, on8⟩ := id on; have tt : tTp M F := ⟨⟨tt1, tt2, tt3⟩, tt4⟩; have m0 := e.o; have m1 := e.a1; have m2 := e.a2; have m3 := e.a3; have m4 := e.a4; have ts1 := ts.1; obtain ⟨te1, te2, te3, te4⟩ := id te; obtain ⟨⟨ty1, ty2, ty3, ty4, ty5⟩, ty6, ty7, ty8, ty9⟩ := id ty
  rw [if_pos rfl] at tb
  refine BX13_image_0 (by first | assumption | exact up_at _ _ _ | (rw [up_ne (by omega)]; first | assumption | exact up_at _ _ _ | (rw [up_ne (by omega)]; assumption))) (by rfl) (by rfl) ?_
  refine R_X13_copy (by first | omega | (rw [fset_at]; omega) | (simp only [Ls_len]; omega) | assumption | exact Ls_get (by omega) (by omega) | exact up_at _ _ _ | rfl | decide) (by first | omega | (rw [fset_at]; omega) | (simp only [Ls_len]; omega) | assumption | exact Ls_get (by omega) (by omega) | exact up_at _ _ _ | rfl | decide) (by first | omega | (rw [fset_at]; omega) | (simp only [Ls_len]; omega) | assumption | exact Ls_get (by omega) (by omega) | exact up_at _ _ _ | rfl | decide) (by first | omega | (rw [fset_at]; omega) | (simp only [Ls_len]; omega) | assumption | exact Ls_get (by omega) (by omega) | exact up_at _ _ _ | rfl | decide) (by first | omega | (rw [fset_at]; omega) | (simp only [Ls_len]; omega) | assumption | exact Ls_get (by omega) (by omega) | exact up_at _ _ _ | rfl | decide) ?_
  intro h8 r8 e8
  have q := r8.eq_up e8
  subst q
  have x2 := e.s2 (f := M 1)
  have y0 := x2.o
  have y1 := x2.a1
  refine BX13_image_11 (by first | assumption | exact up_at _ _ _ | (rw [up_ne (by omega)]; first | assumption | exact up_at _ _ _ | (rw [up_ne (by omega)]; assumption))) (by rfl) (by first | assumption | exact up_at _ _ _ | (rw [up_ne (by omega)]; first | assumption | exact up_at _ _ _ | (rw [up_ne (by omega)]; assumption))) (by first | exact Ls_get (by omega) (by omega) | assumption) ?_
  show Q (some (vI (M 1 7))) _ n
  rw [te1]
  exact k _ ⟨_, x2, ⟨⟨ts, te, ty, ⟨t1, t2, t3⟩, tp⟩, by rw [if_pos rfl]; exact tb⟩, ⟨⟨ts, te, ty, ⟨t1, t2, t3⟩, tp⟩, tb⟩, tx, tt, wr0, cm0, on⟩
theorem M_back (s : IsMo g h W V X F B 1 cm) (ov : okN V) (vx : V 3 1 ≤ W 3 1) (k : ∀ h1, IsMo g h1 V V X F B 1 cm → Q (some (vI (V 1 73))) h1 n) : Rn (d + 30) bc bs mX13_back 0 [some (vR (some 301))] [] h n Q := by
  obtain ⟨M, e, ⟨⟨ts, te, ty, ⟨t1, t2, t3⟩, tp⟩, tb⟩, ⟨tv, tvb⟩, tx, ⟨⟨tt1, tt2, tt3⟩, tt4⟩, wr0, cm0, on⟩ := id s; obtain ⟨on1, on2, on3, on4, on5, on6, on7, on8⟩ := id on; have tt : tTp M F := ⟨⟨tt1, tt2, tt3⟩, tt4⟩; have m0 := e.o; have m1 := e.a1; have m2 := e.a2; have m3 := e.a3; have m4 := e.a4; have ts1 := ts.1; obtain ⟨te1, te2, te3, te4⟩ := id te; obtain ⟨⟨ty1, ty2, ty3, ty4, ty5⟩, ty6, ty7, ty8, ty9⟩ := id ty
  refine BX13_back_0 (by first | assumption | exact up_at _ _ _ | (rw [up_ne (by omega)]; first | assumption | exact up_at _ _ _ | (rw [up_ne (by omega)]; assumption))) (by rfl) (by rfl) ?_
  refine R_X13_copy (by first | omega | (rw [fset_at]; omega) | (simp only [Ls_len]; omega) | assumption | exact Ls_get (by omega) (by omega) | exact up_at _ _ _ | rfl | decide) (by first | omega | (rw [fset_at]; omega) | (simp only [Ls_len]; omega) | assumption | exact Ls_get (by omega) (by omega) | exact up_at _ _ _ | rfl | decide) (by first | omega | (rw [fset_at]; omega) | (simp only [Ls_len]; omega) | assumption | exact Ls_get (by omega) (by omega) | exact up_at _ _ _ | rfl | decide) (by first | omega | (rw [fset_at]; omega) | (simp only [Ls_len]; omega) | assumption | exact Ls_get (by omega) (by omega) | exact up_at _ _ _ | rfl | decide) (by first | omega | (rw [fset_at]; omega) | (simp only [Ls_len]; omega) | assumption | exact Ls_get (by omega) (by omega) | exact up_at _ _ _ | rfl | decide) ?_
  intro h8 r8 e8
  have q := r8.eq_up e8
  subst q
  have x2 := e.s1 (f := M 2)
  have y0 := x2.o
  have y1 := x2.a1
  refine BX13_back_11 (by first | assumption | exact up_at _ _ _ | (rw [up_ne (by omega)]; first | assumption | exact up_at _ _ _ | (rw [up_ne (by omega)]; assumption))) (by rfl) (by first | assumption | exact up_at _ _ _ | (rw [up_ne (by omega)]; first | assumption | exact up_at _ _ _ | (rw [up_ne (by omega)]; assumption))) (by first | exact Ls_get (by omega) (by omega) | assumption) ?_
  show Q (some (vI (M 2 7))) _ n
  rw [tv.2.1.1]
  exact k _ ⟨_, x2, ⟨tv, by rw [if_pos rfl]; exact tvb⟩, ⟨tv, tvb⟩, fun t t0 tl => tx t t0 (by omega), tt, wr0, cm0, ov⟩
end TAPE2
