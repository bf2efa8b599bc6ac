/-! Soonest: the reference. -/
theorem fnd_min {f : Int → Bool} : ∀ (k : Nat) (s y : Int), 1 ≤ s → s ≤ y → y < s + k → f y = true → fnd f k s ≠ 0 ∧ fnd f k s ≤ y := by
  intro k
  induction k with
  | zero => intro s y _ a b; omega
  | succ k ih =>
    intro s y s0 a b h
    unfold fnd
    by_cases q : f s = true
    · rw [if_pos q]; omega
    · rw [if_neg q]
      have e : y ≠ s := fun w => q (by rw [← w]; exact h)
      exact ih (s + 1) y (by omega) (by omega) (by omega) h
def meetP (cu : Int → Int) (a b t w x : Int) : Prop := drift cu (t + w) x.toNat a = b
theorem mtN_spec {cu : Int → Int} {a b t D : Int} : ∀ k : Nat, ((mtN cu a b t D k).1 = -1 ∧ ∀ w x : Int, 0 ≤ w → w < k → 1 ≤ x → x ≤ D → w + x ≤ 60 → ¬ meetP cu a b t w x) ∨ ((mtN cu a b t D k).1 ≠ -1 ∧ (0 ≤ (mtN cu a b t D k).2 ∧ (mtN cu a b t D k).2 < k) ∧ (1 ≤ (mtN cu a b t D k).1 - (mtN cu a b t D k).2 ∧ (mtN cu a b t D k).1 - (mtN cu a b t D k).2 ≤ D ∧ (mtN cu a b t D k).1 ≤ 60) ∧ meetP cu a b t (mtN cu a b t D k).2 ((mtN cu a b t D k).1 - (mtN cu a b t D k).2) ∧ ∀ w x : Int, 0 ≤ w → w < k → 1 ≤ x → x ≤ D → w + x ≤ 60 → meetP cu a b t w x → (mtN cu a b t D k).1 < w + x ∨ ((mtN cu a b t D k).1 = w + x ∧ (mtN cu a b t D k).2 ≤ w)) := by
  intro k
  induction k with
  | zero => exact .inl ⟨rfl, fun w x w0 w1 => by omega⟩
  | succ k ih =>
    have ei : mtN cu a b t D (k + 1) = mtS cu a b t D k (mtN cu a b t D k) := rfl
    rw [ei]
    generalize mtN cu a b t D k = q at ih
    have em : mtM D k q = min D ((if q.1 = -1 then 61 else q.1) - k - 1) := rfl
    unfold mtS
    by_cases hz : fnd (mtF cu a b t k) (mtM D k q).toNat 1 = 0
    · rw [if_pos hz]
      have no : ∀ x, 1 ≤ x → x ≤ mtM D k q → ¬ meetP cu a b t k x := fun x x0 x1 hm => (fnd_min (f := mtF cu a b t k) (mtM D k q).toNat 1 x (by decide) x0 (by omega) (by unfold mtF; unfold meetP at hm; exact decide_eq_true hm)).1 hz
      rcases ih with ⟨h1, h2⟩ | ⟨h1, h2, h3, h4, h5⟩
      · left
        refine ⟨h1, fun w x w0 w1 x0 x1 s60 => ?_⟩
        by_cases e : w = k
        · subst e
          rw [if_pos h1] at em
          exact no x x0 (by omega)
        · exact h2 w x w0 (by omega) x0 x1 s60
      · right
        refine ⟨h1, ⟨h2.1, by omega⟩, h3, h4, fun w x w0 w1 x0 x1 s60 hm => ?_⟩
        by_cases e : w = k
        · subst e
          rw [if_neg h1] at em
          have := no x x0
          by_cases z : x ≤ mtM D k q
          · exact absurd hm (this z)
          · omega
        · exact h5 w x w0 (by omega) x0 x1 s60 hm
    · rw [if_neg hz]
      rcases fnd_in (mtF cu a b t k) (mtM D k q).toNat 1 (by decide) with z | ⟨y0, y1, y2⟩
      · exact absurd z hz
      · have mn : ∀ x, 1 ≤ x → x ≤ mtM D k q → meetP cu a b t k x → fnd (mtF cu a b t k) (mtM D k q).toNat 1 ≤ x := fun x x0 x1 hm => (fnd_min (f := mtF cu a b t k) (mtM D k q).toNat 1 x (by decide) x0 (by omega) (by unfold mtF; unfold meetP at hm; exact decide_eq_true hm)).2
        generalize fnd (mtF cu a b t k) (mtM D k q).toNat 1 = y at y0 y1 y2 mn hz
        have hy : meetP cu a b t k y := by unfold mtF at y2; unfold meetP; exact of_decide_eq_true y2
        right
        dsimp only
        refine ⟨by omega, ⟨by omega, by omega⟩, ⟨by omega, by omega, ?_⟩, ?_, fun w x w0 w1 x0 x1 s60 hm => ?_⟩
        · rcases ih with ⟨h1, _⟩ | ⟨h1, _, h3, _⟩
          · rw [if_pos h1] at em; omega
          · rw [if_neg h1] at em; omega
        · rw [show (k : Int) + y - k = y by omega]; exact hy
        · by_cases e : w = k
          · subst e
            by_cases z : x ≤ mtM D k q
            · have := mn x x0 z hm; omega
            · omega
          · rcases ih with ⟨h1, h2⟩ | ⟨h1, _, h3, _, h5⟩
            · exact absurd hm (h2 w x w0 (by omega) x0 x1 s60)
            · rw [if_neg h1] at em
              have := h5 w x w0 (by omega) x0 x1 s60 hm
              omega
section SOON
variable {d bc bs n : Nat} {g h : aH} {Q : aQ} {W V : Int → Int → Int} {X : Int → Tx} {F B : Int → Int} {wr cm : Int} {M : Int → Int → Int}
theorem M_soonest {x y u : Int} (s : IsMo g h W V X F B wr cm) (ok : okW W) (k : ∀ h1, IsMo g h1 W V X F B wr cm → Q (some (vI (aSoonest W x y u))) h1 n) : Rn (d + 30) bc bs mX13_soonest 0 [some (vR (some 301)), some (vI x), some (vI y), some (vI u), none, none] [] h n Q := by
  have hc : okCu (W 6) := ok.1.2.2
  unfold aSoonest at k
  obtain ⟨M, e, ⟨⟨ts, te, ty, ⟨t1, t2, t3⟩, tp⟩, tb⟩, ⟨tv, tvb⟩, tx, ⟨⟨tt1, tt2, tt3⟩, tt4⟩, wr0, cm0, on⟩ := id s; obtain ⟨on1, on2, on3, on4, on5, on6, on7, on8⟩ := id on; have tt : tTp M F := ⟨⟨tt1, tt2, tt3⟩, tt4⟩; have m0 := e.o; have m1 := e.a1; have m2 := e.a2; have m3 := e.a3; have m4 := e.a4; have ts1 := ts.1; obtain ⟨te1, te2, te3, te4⟩ := id te; obtain ⟨⟨ty1, ty2, ty3, ty4, ty5⟩, ty6, ty7, ty8, ty9⟩ := id ty
  by_cases hz : 0 ≤ x ∧ x < W 3 3 ∧ 0 ≤ y ∧ y < W 3 3 ∧ 0 ≤ u ∧ u ≤ 1
  · rw [if_pos hz] at k
    have px := (ok.1.2.1 x (by omega) (by omega)).1
    have ax : atP (W 3 3) (W 0) x = W 0 x := by unfold atP; rw [if_pos (by omega)]
    have ay : atP (W 3 3) (W 0) y = W 0 y := by unfold atP; rw [if_pos (by omega)]
    rw [ax, ay] at k
    have sp := mtN_spec (cu := W 6) (a := W 0 x) (b := W 0 y) (t := W 1 73) (D := 60) 10
    generalize mtN (W 6) (W 0 x) (W 0 y) (W 1 73) 60 10 = q at k sp
    have fin : ∀ al w, 1 ≤ al → al ≤ 60 → 0 ≤ w → w < 10 → w < al → (∀ w' x', 0 ≤ w' → w' < 10 → 1 ≤ x' → (w' + x' < al ∨ (w' + x' = al ∧ w' < w)) → ¬ meetP (W 6) (W 0 x) (W 0 y) (W 1 73) w' x') → meetP (W 6) (W 0 x) (W 0 y) (W 1 73) w (al - w) → q.1 = al ∧ q.2 = w := by
      intro al w a0 a1 w0 w1 w2 hno hm
      rcases sp with ⟨h1, h2⟩ | ⟨h1, h2, h3, h4, h5⟩
      · exact absurd hm (h2 w (al - w) w0 w1 (by omega) (by omega) (by omega))
      · have z := h5 w (al - w) w0 w1 (by omega) (by omega) (by omega) hm
        by_cases c : q.1 < al ∨ (q.1 = al ∧ q.2 < w)
        · exact absurd h4 (hno q.2 (q.1 - q.2) h2.1 h2.2 h3.1 (by omega))
        · omega
    have inw : ∀ (al : Int), 1 ≤ al → al ≤ 60 → (∀ l5, (∀ w' x', 0 ≤ w' → w' < 10 → 1 ≤ x' → w' + x' < al + 1 → ¬ meetP (W 6) (W 0 x) (W 0 y) (W 1 73) w' x') → Rn (d + 30) bc bs mX13_soonest 30 [some (vR (some 301)), some (vI x), some (vI y), some (vI u), some (vI (al + 1)), l5] [] h n Q) → ∀ (m : Nat) (w : Int), 0 ≤ w → w + m = 10 → w ≤ al → (∀ w' x', 0 ≤ w' → w' < 10 → 1 ≤ x' → (w' + x' < al ∨ (w' + x' = al ∧ w' < w)) → ¬ meetP (W 6) (W 0 x) (W 0 y) (W 1 73) w' x') → Rn (d + 30) bc bs mX13_soonest 40 [some (vR (some 301)), some (vI x), some (vI y), some (vI u), some (vI al), some (vI w)] [] h n Q := by
      intro al a0 a1 K m
      induction m with
      | zero =>
        intro w w0 wm wa hno
        have K1 := fun l5 => K l5 (fun w' x' p0 p1 p2 p3 => hno w' x' p0 p1 p2 (by omega))
        refine BX13_soonest_40  ?_ ?_
        · intro hc1
          first
          | (exfalso; omega)
          | (
              refine BX13_soonest_98 (by first | omega | (rw [fset_at]; omega) | (simp only [Ls_len]; omega) | assumption | exact Ls_get (by omega) (by omega) | exact up_at _ _ _ | rfl | decide) ?_
              exact K1 _
            )
        · intro hc2
          first
          | (exfalso; omega)
          | (
              (exfalso; omega)
            )
      | succ m ih =>
        intro w w0 wm wa hno
        by_cases wl : w < al
        · have f9 := fin al w a0 a1 w0 (by omega) wl hno
          refine BX13_soonest_40  ?_ ?_
          · intro hc1
            first
            | (exfalso; omega)
            | (
                (exfalso; omega)
              )
          · intro hc2
            first
            | (exfalso; omega)
            | (
                refine BX13_soonest_47  ?_ ?_
                · intro hc3
                  first
                  | (exfalso; omega)
                  | (
                      (exfalso; omega)
                    )
                · intro hc4
                  first
                  | (exfalso; omega)
                  | (
                      refine BX13_soonest_54 (by first | assumption | exact up_at _ _ _ | (rw [up_ne (by omega)]; first | assumption | exact up_at _ _ _ | (rw [up_ne (by omega)]; assumption))) ?_
                      refine R_X13_ownP (by first | omega | (rw [fset_at]; omega) | (simp only [Ls_len]; omega) | assumption | exact Ls_get (by omega) (by omega) | exact up_at _ _ _ | rfl | decide) (by first | omega | (rw [fset_at]; omega) | (simp only [Ls_len]; omega) | assumption | exact Ls_get (by omega) (by omega) | exact up_at _ _ _ | rfl | decide) (by first | omega | (rw [fset_at]; omega) | (simp only [Ls_len]; omega) | assumption | exact Ls_get (by omega) (by omega) | exact up_at _ _ _ | rfl | decide) ?_
                      refine BX13_soonest_61 (by first | omega | (rw [fset_at]; omega) | (simp only [Ls_len]; omega) | assumption | exact Ls_get (by omega) (by omega) | exact up_at _ _ _ | rfl | decide) (by first | assumption | exact up_at _ _ _ | (rw [up_ne (by omega)]; first | assumption | exact up_at _ _ _ | (rw [up_ne (by omega)]; assumption))) ?_
                      refine R_X13_drifted (by first | omega | (rw [fset_at]; omega) | (simp only [Ls_len]; omega) | assumption | exact Ls_get (by omega) (by omega) | exact up_at _ _ _ | rfl | decide) (by first | omega | (rw [fset_at]; omega) | (simp only [Ls_len]; omega) | assumption | exact Ls_get (by omega) (by omega) | exact up_at _ _ _ | rfl | decide) (by first | omega | (rw [fset_at]; omega) | (simp only [Ls_len]; omega) | assumption | exact Ls_get (by omega) (by omega) | exact up_at _ _ _ | rfl | decide) (by first | omega | (rw [fset_at]; omega) | (simp only [Ls_len]; omega) | assumption | exact Ls_get (by omega) (by omega) | exact up_at _ _ _ | rfl | decide) (by first | omega | (rw [fset_at]; omega) | (simp only [Ls_len]; omega) | assumption | exact Ls_get (by omega) (by omega) | exact up_at _ _ _ | rfl | decide) (by first | omega | (rw [fset_at]; omega) | (simp only [Ls_len]; omega) | assumption | exact Ls_get (by omega) (by omega) | exact up_at _ _ _ | rfl | decide) (by first | omega | (rw [fset_at]; omega) | (simp only [Ls_len]; omega) | assumption | exact Ls_get (by omega) (by omega) | exact up_at _ _ _ | rfl | decide) ?_
                      refine BX13_soonest_71 (by first | assumption | exact up_at _ _ _ | (rw [up_ne (by omega)]; first | assumption | exact up_at _ _ _ | (rw [up_ne (by omega)]; assumption))) ?_
                      refine R_X13_ownP (by first | omega | (rw [fset_at]; omega) | (simp only [Ls_len]; omega) | assumption | exact Ls_get (by omega) (by omega) | exact up_at _ _ _ | rfl | decide) (by first | omega | (rw [fset_at]; omega) | (simp only [Ls_len]; omega) | assumption | exact Ls_get (by omega) (by omega) | exact up_at _ _ _ | rfl | decide) (by first | omega | (rw [fset_at]; omega) | (simp only [Ls_len]; omega) | assumption | exact Ls_get (by omega) (by omega) | exact up_at _ _ _ | rfl | decide) ?_
                      refine BX13_soonest_77  ?_ ?_
                      · intro hc5
                        first
                        | (exfalso; omega)
                        | (
                            refine BX13_soonest_92 (by first | omega | (rw [fset_at]; omega) | (simp only [Ls_len]; omega) | assumption | exact Ls_get (by omega) (by omega) | exact up_at _ _ _ | rfl | decide) ?_
                            refine ih (w + 1) (by omega) (by omega) (by omega) (fun w' x' p0 p1 p2 p3 hm => ?_)
                            by_cases e : w' + x' = al ∧ w' = w
                            · obtain ⟨e1, e2⟩ := e
                              unfold meetP at hm
                              rw [show x' = al - w by omega, e2] at hm
                              omega
                            · exact hno w' x' p0 p1 p2 (by omega) hm
                          )
                      · intro hc6
                        first
                        | (exfalso; omega)
                        | (
                            refine BX13_soonest_80  ?_ ?_
                            · intro hc7
                              first
                              | (exfalso; omega)
                              | (
                                  refine BX13_soonest_89  ?_
                                  have f8 := f9 (by unfold meetP; omega)
                                  first
                                  | (rw [if_pos (by omega), f8.1] at k; exact k _ s)
                                  | (rw [if_neg (by omega), f8.2] at k; exact k _ s)
                                )
                            · intro hc8
                              first
                              | (exfalso; omega)
                              | (
                                  refine BX13_soonest_84  ?_
                                  have f8 := f9 (by unfold meetP; omega)
                                  first
                                  | (rw [if_pos (by omega), f8.1] at k; exact k _ s)
                                  | (rw [if_neg (by omega), f8.2] at k; exact k _ s)
                                )
                          )
                    )
              )
        · have K1 := fun l5 => K l5 (fun w' x' p0 p1 p2 p3 => hno w' x' p0 p1 p2 (by omega))
          refine BX13_soonest_40  ?_ ?_
          · intro hc1
            first
            | (exfalso; omega)
            | (
                refine BX13_soonest_98 (by first | omega | (rw [fset_at]; omega) | (simp only [Ls_len]; omega) | assumption | exact Ls_get (by omega) (by omega) | exact up_at _ _ _ | rfl | decide) ?_
                exact K1 _
              )
          · intro hc2
            first
            | (exfalso; omega)
            | (
                refine BX13_soonest_47  ?_ ?_
                · intro hc3
                  first
                  | (exfalso; omega)
                  | (
                      refine BX13_soonest_98 (by first | omega | (rw [fset_at]; omega) | (simp only [Ls_len]; omega) | assumption | exact Ls_get (by omega) (by omega) | exact up_at _ _ _ | rfl | decide) ?_
                      exact K1 _
                    )
                · intro hc4
                  first
                  | (exfalso; omega)
                  | (
                      (exfalso; omega)
                    )
              )
    have ina : ∀ (m : Nat) (al : Int) (l5 : Option aV), 1 ≤ al → al + m = 61 → (∀ w' x', 0 ≤ w' → w' < 10 → 1 ≤ x' → w' + x' < al → ¬ meetP (W 6) (W 0 x) (W 0 y) (W 1 73) w' x') → Rn (d + 30) bc bs mX13_soonest 30 [some (vR (some 301)), some (vI x), some (vI y), some (vI u), some (vI al), l5] [] h n Q := by
      intro m
      induction m with
      | zero =>
        intro al l5 a0 am hno
        have e1 : q.1 = -1 := by
          rcases sp with ⟨h1, h2⟩ | ⟨h1, h2, h3, h4, h5⟩
          · exact h1
          · exact absurd h4 (hno q.2 (q.1 - q.2) h2.1 h2.2 h3.1 (by omega))
        rw [if_pos (.inr e1), e1] at k
        refine BX13_soonest_30  ?_ ?_
        · intro hc1
          first
          | (exfalso; omega)
          | (
              refine BX13_soonest_104  ?_
              exact k _ s
            )
        · intro hc2
          first
          | (exfalso; omega)
          | (
              (exfalso; omega)
            )
      | succ m ih =>
        intro al l5 a0 am hno
        have w9 := inw al a0 (by omega) (fun l5 hn => ih (al + 1) l5 (by omega) (by omega) (fun w' x' p0 p1 p2 p3 => hn w' x' p0 p1 p2 p3)) 10 0 (by decide) (by decide) (by omega) (fun w' x' p0 p1 p2 p3 => hno w' x' p0 p1 p2 (by omega))
        refine BX13_soonest_30  ?_ ?_
        · intro hc1
          first
          | (exfalso; omega)
          | (
              refine BX13_soonest_104  ?_
              (exfalso; omega)
            )
        · intro hc2
          first
          | (exfalso; omega)
          | (
              refine BX13_soonest_37  ?_
              exact w9
            )
    refine BX13_soonest_0 (by first | assumption | exact up_at _ _ _ | (rw [up_ne (by omega)]; first | assumption | exact up_at _ _ _ | (rw [up_ne (by omega)]; assumption))) ?_
    refine R_X13_isPerson (by first | omega | (rw [fset_at]; omega) | (simp only [Ls_len]; omega) | assumption | exact Ls_get (by omega) (by omega) | exact up_at _ _ _ | rfl | decide) ?_ ?_
    · intro w1 w2
      refine BX13_soonest_5  ?_ ?_
      · intro hc1
        exact absurd hc1 (by decide)
      · intro hc2
        refine BX13_soonest_8 (by first | assumption | exact up_at _ _ _ | (rw [up_ne (by omega)]; first | assumption | exact up_at _ _ _ | (rw [up_ne (by omega)]; assumption))) ?_
        refine R_X13_isPerson (by first | omega | (rw [fset_at]; omega) | (simp only [Ls_len]; omega) | assumption | exact Ls_get (by omega) (by omega) | exact up_at _ _ _ | rfl | decide) ?_ ?_
        · intro w1 w2
          refine BX13_soonest_13  ?_ ?_
          · intro hc3
            exact absurd hc3 (by decide)
          · intro hc4
            refine BX13_soonest_16  ?_
            refine R_X13_isIn  ?_ ?_
            · intro w1 w2
              refine BX13_soonest_22  ?_ ?_
              · intro hc5
                refine BX13_soonest_27  ?_
                exact ina 60 1 _ (by decide) (by decide) (fun w' x' p0 p1 p2 p3 => by omega)
              · intro hc6
                exact absurd hc6 (by decide)
            · intro w3
              refine BX13_soonest_22  ?_ ?_
              · intro hc7
                exact absurd hc7 (by decide)
              · intro hc8
                refine BX13_soonest_25  ?_
                (exfalso; omega)
        · intro w3
          refine BX13_soonest_13  ?_ ?_
          · intro hc9
            refine BX13_soonest_25  ?_
            (exfalso; omega)
          · intro hc10
            exact absurd hc10 (by decide)
    · intro w3
      refine BX13_soonest_5  ?_ ?_
      · intro hc11
        refine BX13_soonest_25  ?_
        (exfalso; omega)
      · intro hc12
        exact absurd hc12 (by decide)
  · rw [if_neg hz] at k
    refine BX13_soonest_0 (by first | assumption | exact up_at _ _ _ | (rw [up_ne (by omega)]; first | assumption | exact up_at _ _ _ | (rw [up_ne (by omega)]; assumption))) ?_
    refine R_X13_isPerson (by first | omega | (rw [fset_at]; omega) | (simp only [Ls_len]; omega) | assumption | exact Ls_get (by omega) (by omega) | exact up_at _ _ _ | rfl | decide) ?_ ?_
    · intro w1 w2
      refine BX13_soonest_5  ?_ ?_
      · intro hc1
        exact absurd hc1 (by decide)
      · intro hc2
        refine BX13_soonest_8 (by first | assumption | exact up_at _ _ _ | (rw [up_ne (by omega)]; first | assumption | exact up_at _ _ _ | (rw [up_ne (by omega)]; assumption))) ?_
        refine R_X13_isPerson (by first | omega | (rw [fset_at]; omega) | (simp only [Ls_len]; omega) | assumption | exact Ls_get (by omega) (by omega) | exact up_at _ _ _ | rfl | decide) ?_ ?_
        · intro w1 w2
          refine BX13_soonest_13  ?_ ?_
          · intro hc3
            exact absurd hc3 (by decide)
          · intro hc4
            refine BX13_soonest_16  ?_
            refine R_X13_isIn  ?_ ?_
            · intro w1 w2
              refine BX13_soonest_22  ?_ ?_
              · intro hc5
                refine BX13_soonest_27  ?_
                (exfalso; omega)
              · intro hc6
                exact absurd hc6 (by decide)
            · intro w3
              refine BX13_soonest_22  ?_ ?_
              · intro hc7
                exact absurd hc7 (by decide)
              · intro hc8
                refine BX13_soonest_25  ?_
                exact k _ s
        · intro w3
          refine BX13_soonest_13  ?_ ?_
          · intro hc9
            refine BX13_soonest_25  ?_
            exact k _ s
          · intro hc10
            exact absurd hc10 (by decide)
    · intro w3
      refine BX13_soonest_5  ?_ ?_
      · intro hc11
        refine BX13_soonest_25  ?_
        exact k _ s
      · intro hc12
        exact absurd hc12 (by decide)
end SOON
