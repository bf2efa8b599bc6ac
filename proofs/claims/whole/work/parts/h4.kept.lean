/-! What every call keeps. -/
def Sm (W W2 : Int → Int → Int) : Prop := W2 3 1 = W 3 1 ∧ W2 2 = W 2
theorem Sm.rf {W : Int → Int → Int} : Sm W W := ⟨rfl, rfl⟩
theorem Sm.tr {W W2 W3 : Int → Int → Int} (a : Sm W W2) (b : Sm W2 W3) : Sm W W3 := ⟨b.1.trans a.1, b.2.trans a.2⟩
def Inv (W V : Int → Int → Int) (X : Int → Tx) (F : Int → Int) : Prop := okW W ∧ okW V ∧ okF F ∧ okX W X ∧ okX V X ∧ V 3 1 ≤ W 3 1 ∧ okC (W 2) ∧ okC (V 2)
section KEPT
variable {W V : Int → Int → Int} {X : Int → Tx} {F : Int → Int}
theorem Sm.person {p l : Int} : Sm W (sPerson W p l) := by unfold sPerson; split <;> exact ⟨rfl, rfl⟩
theorem Sm.current {t p q : Int} : Sm W (sCurrent W t p q) := by unfold sCurrent; split <;> exact ⟨rfl, rfl⟩
theorem Sm.keep : Sm W (keepM W) := ⟨rfl, rfl⟩
theorem Sm.sea {S : Int → Int} : Sm W (fset W 1 S) := ⟨rfl, rfl⟩
theorem Sm.step {c : Int} : Sm W (stepM c W) := by unfold stepM; split <;> exact ⟨rfl, rfl⟩
theorem Sm.toss {c fr to co : Int} : Sm W (sToss c W fr to co) := by
  unfold sToss
  split
  · exact Sm.step.tr Sm.sea
  · exact Sm.rf
theorem Sm.fish {c b p : Int} : Sm W (sFish c W b p) := by
  unfold sFish
  split
  · exact Sm.step.tr Sm.sea
  · exact Sm.rf
theorem Sm.again {c b : Int} : Sm W (sAgain c W b) := by
  unfold sAgain
  split
  · exact Sm.step.tr Sm.sea
  · exact Sm.rf
theorem Sm.tides : ∀ k : Nat, Sm W (tidesM X W k).1 := by
  intro k
  induction k with
  | zero => exact Sm.rf
  | succ k ih =>
    unfold tidesM
    split
    · exact ih.tr (Sm.keep.tr Sm.sea)
    · exact ih
theorem Sm.tide {m : Int} : Sm W (sTide X W m) := by
  unfold sTide
  split
  · exact Sm.tides _
  · exact Sm.rf
theorem Sm.live {x : Int} : Sm W (liveM X W x) := by
  unfold liveM
  split
  · split
    · exact Sm.sea
    · exact Sm.rf
  · split
    · split
      · exact Sm.again
      · exact Sm.rf
    · split
      · split
        · exact Sm.fish
        · exact Sm.rf
      · split
        · exact Sm.toss
        · exact Sm.rf
theorem Sm.yearsN : ∀ k : Nat, Sm W (yearsM X W k) := by
  intro k
  induction k with
  | zero => exact Sm.rf
  | succ k ih => exact ih.tr (Sm.sea.tr Sm.live)
theorem Sm.years {z m : Int} : Sm W (sYears X W z m) := by
  unfold sYears
  split
  · exact (Sm.keep.tr Sm.sea).tr (Sm.yearsN _)
  · exact Sm.rf
theorem Sm.pT {T : Tx} {i : Int} : Sm W (plT X T W i).1 := by
  show Sm W (plW X W (T.2.1 (i * 4 + 0)) (T.2.1 (i * 4 + 1)) (T.2.1 (i * 4 + 2)) (T.2.1 (i * 4 + 3))).1
  unfold plW
  split
  · exact Sm.person
  · split
    · exact Sm.current
    · split
      · exact Sm.toss
      · split
        · exact Sm.fish
        · split
          · exact Sm.again
          · split
            · exact Sm.tides _
            · exact Sm.rf
theorem Sm.pN {T : Tx} : ∀ (m : Nat) (i : Int) (W : Int → Int → Int), Sm W (playN X T m i W).1 := by
  intro m
  induction m with
  | zero => intro i W; exact Sm.rf
  | succ m ih =>
    intro i W
    have e : (playN X T (m + 1) i W).1 = (if (plT X T W i).2 = 0 then ((plT X T W i).1, i) else playN X T m (i + 1) (plT X T W i).1).1 := rfl
    rw [e]
    split
    · exact Sm.pT
    · exact Sm.pT.tr (ih _ _)
theorem Sm.played {t : Int} : Sm W (sPlayed X W t) := by
  unfold sPlayed
  split
  · exact Sm.pN _ _ _
  · exact Sm.rf
theorem Sm.undo : Sm W (sUndo W) := by unfold sUndo; split <;> exact ⟨rfl, rfl⟩
theorem okW_tide {m : Int} (ok : okW W) : okW (sTide X W m) := by
  unfold sTide
  split
  · exact (tidesM_ok ok _).1
  · exact ok
theorem okW_yrs {z m : Int} (ok : okW W) : okW (sYears X W z m) := by
  unfold sYears
  split
  · rename_i c
    exact okW_years (okW_seed ok c.1 c.2.1) _
  · exact ok
theorem okW_played {t : Int} (ok : okW W) : okW (sPlayed X W t) := by
  unfold sPlayed
  split
  · exact (playN_ok _ _ _ ok).1
  · exact ok
theorem okW_undo (ok : okW W) : okW (sUndo W) := by
  unfold sUndo
  split
  · exact ok
  · rename_i c
    obtain ⟨o1, o2, o3, o4, o5⟩ := ok
    refine ⟨o1, o4 (W 3 0 - 1) (by omega) (by omega), ?_, fun j j0 j1 => ?_, o5⟩
    · have e0 : fset (wSt W (W 3 0 - 1) (fun j => W (10 + j))) 1 (W (10 + (W 3 0 - 1))) 3 0 = W 3 0 - 1 := rfl
      have e1 : fset (wSt W (W 3 0 - 1) (fun j => W (10 + j))) 1 (W (10 + (W 3 0 - 1))) 3 1 = W 3 1 := rfl
      have e2 : fset (wSt W (W 3 0 - 1) (fun j => W (10 + j))) 1 (W (10 + (W 3 0 - 1))) 3 2 = W 3 2 := rfl
      rw [e0, e1, e2]
      omega
    · have j1 : j < W 3 0 - 1 := j1
      have e : fset (wSt W (W 3 0 - 1) (fun j => W (10 + j))) 1 (W (10 + (W 3 0 - 1))) (10 + j) = W (10 + j) := by
        rw [fset_ne (by omega)]
        show (if 10 + j = 3 then _ else if 10 ≤ 10 + j then W (10 + (10 + j - 10)) else W (10 + j)) = _
        rw [if_neg (by omega), if_pos (by omega), show 10 + (10 + j - 10) = 10 + j by omega]
      rw [e]
      exact o4 j j0 (by omega)
theorem okW_3 {i v : Int} (ok : okW W) (hi : i = 1 ∨ i = 2) (h : (0 ≤ fset (W 3) i v 1 ∧ fset (W 3) i v 1 ≤ 4) ∧ -1 ≤ fset (W 3) i v 2 ∧ fset (W 3) i v 2 < fset (W 3) i v 1) : okW (fset W 3 (fset (W 3) i v)) := by
  obtain ⟨o1, o2, o3, o4, o5⟩ := ok
  have e3 : fset W 3 (fset (W 3) i v) 3 3 = W 3 3 := fset_ne (by omega)
  have e0 : fset W 3 (fset (W 3) i v) 3 0 = W 3 0 := fset_ne (by omega)
  have ek : ∀ k, k ≠ 3 → fset W 3 (fset (W 3) i v) k = W k := fun k hk => fset_ne hk
  unfold okW
  rw [e3, e0, ek 0 (by decide), ek 5 (by decide), ek 6 (by decide), ek 1 (by decide), ek 2 (by decide)]
  refine ⟨o1, o2, ⟨o3.1, o3.2.1, h.1.1, h.1.2, h.2.1, h.2.2⟩, fun j j0 j1 => ?_, o5⟩
  rw [ek _ (by omega)]
  exact o4 j j0 j1
theorem okW_by {t : Int} (ok : okW W) : okW (sBy W t) := by
  unfold sBy
  split
  · have o3 := ok.2.2.1
    exact okW_3 ok (.inr rfl) (by rw [fset_at, fset_ne (by decide)]; omega)
  · exact ok
theorem okW_text (ok : okW W) (h : W 3 1 < 4) : okW (fset W 3 (fset (W 3) 1 (W 3 1 + 1))) := by
  have o3 := ok.2.2.1
  exact okW_3 ok (.inl rfl) (by rw [fset_at, fset_ne (by decide)]; omega)
theorem Sm.by {t : Int} : Sm W (sBy W t) := by unfold sBy; split <;> exact ⟨rfl, rfl⟩
theorem okW_say {Y : Int → Int} (ok : okW W) (h : okSy Y) : okW (fset W 2 Y) := by
  obtain ⟨o1, o2, o3, o4, o5⟩ := ok
  refine ⟨o1, o2, o3, fun j j0 j1 => ?_, h⟩
  have j1 : j < W 3 0 := j1
  show okSe (W 3 3) (fset W 2 Y (10 + j))
  rw [fset_ne (by omega)]
  exact o4 j j0 j1
theorem okC.eq {Y Z : Int → Int} (h : okC Y) (e53 : Z 53 = Y 53) (e : ∀ i, 0 ≤ i → i < Y 53 → Z (12 + i) = Y (12 + i)) : okC Z := by
  obtain ⟨⟨h1, h2⟩, h3, h4⟩ := h
  refine ⟨⟨by rw [e53]; exact h1, fun i i0 i1 => ?_⟩, fun i i0 i1 => ?_, fun i j i0 i1 j0 j1 q => ?_⟩
  · rw [e53] at i1; rw [e i i0 i1]; exact h2 i i0 i1
  · rw [e53] at i1; rw [e i i0 i1]; exact h3 i i0 i1
  · rw [e53] at i1 j1
    rw [e i i0 i1, e j j0 j1] at q
    exact h4 i j i0 i1 j0 j1 q
/-- the sayings: kept, and the codes with them -/
theorem say_found {p n : Int} (ok : okW W) (oc : okC (W 2)) : okW (sFound W p n) ∧ (sFound W p n) 3 1 = W 3 1 ∧ okC (sFound W p n 2) := by
  obtain ⟨y1, y2, y3, y4, y5, y6, y7, y8⟩ := ok.2.2.2.2
  unfold sFound
  split
  · refine ⟨okW_say ok ⟨?_, ?_, ?_, ?_, fun i i0 i1 => ?_, ?_, ?_, ?_⟩, rfl, oc.eq (by show fset (W 2) 52 0 53 = _; exact fset_ne (by decide)) fun i i0 i1 => by show fset (W 2) 52 0 (12 + i) = _; exact fset_ne (by omega)⟩
    · rw [fset_at]; omega
    · rw [fset_ne (by decide)]; exact y2
    · rw [fset_ne (by decide)]; exact y3
    · rw [fset_ne (by decide), fset_ne (by decide)]; exact y4
    · rw [fset_at] at i1; omega
    · intro i i0 i1; rw [fset_ne (by decide)] at i1; rw [fset_ne (by omega)]; exact y6 i i0 i1
    · intro i i0 i1; rw [fset_ne (by omega), fset_ne (by omega)]; exact y7 i i0 i1
    · intro i i0 i1; rw [fset_ne (by decide)] at i1; rw [fset_ne (by omega), fset_ne (by omega)]; exact y8 i i0 i1
  · split
    · rename_i c
      refine ⟨okW_say ok ⟨?_, ?_, ?_, ?_, fun i i0 i1 => ?_, ?_, ?_, ?_⟩, rfl, oc.eq (by show fset (fset (fset (W 2) (W 2 52) p) (6 + W 2 52) n) 52 (W 2 52 + 1) 53 = _; rw [fset_ne (by omega), fset_ne (by omega), fset_ne (by omega)]) fun i i0 i1 => by show fset (fset (fset (W 2) (W 2 52) p) (6 + W 2 52) n) 52 (W 2 52 + 1) (12 + i) = _; rw [fset_ne (by omega), fset_ne (by omega), fset_ne (by omega)]⟩
      · rw [fset_at]; omega
      · rw [fset_ne (by omega), fset_ne (by omega), fset_ne (by omega)]; exact y2
      · rw [fset_ne (by omega), fset_ne (by omega), fset_ne (by omega)]; exact y3
      · rw [fset_ne (by omega), fset_ne (by omega), fset_ne (by omega), fset_ne (by omega), fset_ne (by omega), fset_ne (by omega)]; exact y4
      · rw [fset_at] at i1
        rw [fset_ne (show i ≠ 52 by omega), fset_ne (show 6 + i ≠ 52 by omega)]
        by_cases q : i = W 2 52
        · subst q
          rw [fset_ne (show W 2 52 ≠ 6 + W 2 52 by omega), fset_at, fset_at]
          omega
        · rw [fset_ne (show i ≠ 6 + W 2 52 by omega), fset_ne q, fset_ne (show 6 + i ≠ 6 + W 2 52 by omega), fset_ne (show 6 + i ≠ W 2 52 by omega)]
          exact y5 i i0 (by omega)
      · intro i i0 i1
        rw [fset_ne (by omega), fset_ne (by omega), fset_ne (by omega)] at i1
        rw [fset_ne (by omega), fset_ne (by omega), fset_ne (by omega)]
        exact y6 i i0 i1
      · intro i i0 i1
        rw [fset_ne (by omega), fset_ne (by omega), fset_ne (by omega), fset_ne (by omega), fset_ne (by omega), fset_ne (by omega)]
        exact y7 i i0 i1
      · intro i i0 i1
        rw [fset_ne (by omega), fset_ne (by omega), fset_ne (by omega)] at i1
        rw [fset_ne (by omega), fset_ne (by omega), fset_ne (by omega), fset_ne (by omega), fset_ne (by omega), fset_ne (by omega)]
        exact y8 i i0 i1
    · exact ⟨ok, rfl, oc⟩
theorem say_said {b n : Int} (ok : okW W) (oc : okC (W 2)) : okW (sSaid W b n) ∧ (sSaid W b n) 3 1 = W 3 1 ∧ okC (sSaid W b n 2) := by
  obtain ⟨y1, y2, y3, y4, y5, y6, y7, y8⟩ := ok.2.2.2.2
  have o72 := ok.2.1.1
  unfold sSaid
  split
  · refine ⟨okW_say ok ⟨?_, ?_, ?_, ?_, ?_, ?_, ?_, fun i i0 i1 => ?_⟩, rfl, oc.eq (by show fset (W 2) 54 0 53 = _; exact fset_ne (by decide)) fun i i0 i1 => by show fset (W 2) 54 0 (12 + i) = _; exact fset_ne (by omega)⟩
    · rw [fset_ne (by decide)]; exact y1
    · rw [fset_ne (by decide)]; exact y2
    · rw [fset_at]; omega
    · rw [fset_ne (by decide), fset_ne (by decide)]; exact y4
    · intro i i0 i1; rw [fset_ne (by decide)] at i1; rw [fset_ne (by omega), fset_ne (by omega)]; exact y5 i i0 i1
    · intro i i0 i1; rw [fset_ne (by decide)] at i1; rw [fset_ne (by omega)]; exact y6 i i0 i1
    · intro i i0 i1; rw [fset_ne (by omega), fset_ne (by omega)]; exact y7 i i0 i1
    · rw [fset_at] at i1; omega
  · split
    · rename_i c
      refine ⟨okW_say ok ⟨?_, ?_, ?_, ?_, ?_, ?_, ?_, fun i i0 i1 => ?_⟩, rfl, oc.eq (by show fset (fset (fset (W 2) (36 + W 2 54) b) (44 + W 2 54) n) 54 (W 2 54 + 1) 53 = _; rw [fset_ne (by omega), fset_ne (by omega), fset_ne (by omega)]) fun i i0 i1 => by show fset (fset (fset (W 2) (36 + W 2 54) b) (44 + W 2 54) n) 54 (W 2 54 + 1) (12 + i) = _; rw [fset_ne (by omega), fset_ne (by omega), fset_ne (by omega)]⟩
      · rw [fset_ne (by omega), fset_ne (by omega), fset_ne (by omega)]; exact y1
      · rw [fset_ne (by omega), fset_ne (by omega), fset_ne (by omega)]; exact y2
      · rw [fset_at]; omega
      · rw [fset_ne (by omega), fset_ne (by omega), fset_ne (by omega), fset_ne (by omega), fset_ne (by omega), fset_ne (by omega)]; exact y4
      · intro i i0 i1
        rw [fset_ne (by omega), fset_ne (by omega), fset_ne (by omega)] at i1
        rw [fset_ne (by omega), fset_ne (by omega), fset_ne (by omega), fset_ne (by omega), fset_ne (by omega), fset_ne (by omega)]
        exact y5 i i0 i1
      · intro i i0 i1
        rw [fset_ne (by omega), fset_ne (by omega), fset_ne (by omega)] at i1
        rw [fset_ne (by omega), fset_ne (by omega), fset_ne (by omega)]
        exact y6 i i0 i1
      · intro i i0 i1
        rw [fset_ne (by omega), fset_ne (by omega), fset_ne (by omega), fset_ne (by omega), fset_ne (by omega), fset_ne (by omega)]
        exact y7 i i0 i1
      · rw [fset_at] at i1
        rw [fset_ne (show 36 + i ≠ 54 by omega), fset_ne (show 44 + i ≠ 54 by omega)]
        by_cases q : i = W 2 54
        · subst q
          rw [fset_ne (show 36 + W 2 54 ≠ 44 + W 2 54 by omega), fset_at, fset_at]
          omega
        · rw [fset_ne (show 36 + i ≠ 44 + W 2 54 by omega), fset_ne (show 36 + i ≠ 36 + W 2 54 by omega), fset_ne (show 44 + i ≠ 44 + W 2 54 by omega), fset_ne (show 44 + i ≠ 36 + W 2 54 by omega)]
          exact y8 i i0 (by omega)
    · exact ⟨ok, rfl, oc⟩
theorem say_odds {c z : Int} (ok : okW W) (oc : okC (W 2)) : okW (sOdds W c z) ∧ (sOdds W c z) 3 1 = W 3 1 ∧ okC (sOdds W c z 2) := by
  obtain ⟨y1, y2, y3, y4, y5, y6, y7, y8⟩ := ok.2.2.2.2
  unfold sOdds
  split
  · rename_i q
    refine ⟨okW_say ok ⟨?_, ?_, ?_, ?_, ?_, ?_, ?_, ?_⟩, rfl, oc.eq (by show fset (fset (W 2) 55 c) 56 z 53 = _; rw [fset_ne (by decide), fset_ne (by decide)]) fun i i0 i1 => by have := y2; show fset (fset (W 2) 55 c) 56 z (12 + i) = _; rw [fset_ne (by omega), fset_ne (by omega)]⟩
    · rw [fset_ne (by decide), fset_ne (by decide)]; exact y1
    · rw [fset_ne (by decide), fset_ne (by decide)]; exact y2
    · rw [fset_ne (by decide), fset_ne (by decide)]; exact y3
    · rw [fset_ne (show (55 : Int) ≠ 56 by decide), fset_at, fset_at]; omega
    · intro i i0 i1
      rw [fset_ne (by decide), fset_ne (by decide)] at i1
      rw [fset_ne (by omega), fset_ne (by omega), fset_ne (by omega), fset_ne (by omega)]
      exact y5 i i0 i1
    · intro i i0 i1
      rw [fset_ne (by decide), fset_ne (by decide)] at i1
      rw [fset_ne (by omega), fset_ne (by omega)]
      exact y6 i i0 i1
    · intro i i0 i1
      rw [fset_ne (by omega), fset_ne (by omega), fset_ne (by omega), fset_ne (by omega)]
      exact y7 i i0 i1
    · intro i i0 i1
      rw [fset_ne (by decide), fset_ne (by decide)] at i1
      rw [fset_ne (by omega), fset_ne (by omega), fset_ne (by omega), fset_ne (by omega)]
      exact y8 i i0 i1
  · exact ⟨ok, rfl, oc⟩
theorem bit255 {a i : Int} (a0 : 0 ≤ a) (a1 : a ≤ 255) (i0 : 0 ≤ i) (i1 : i ≤ 7) : 0 ≤ or32 a (shl32 1 i) ∧ or32 a (shl32 1 i) ≤ 255 := by
  have s := shl1_rg (k := 8) (by decide) i0 (by omega)
  have e : (2 : Int) ^ 8 = 256 := by decide
  have o := or32_rg (k := 8) (by decide) a0 (by omega) s.1 s.2
  omega
theorem say_bit {Y : Int → Int} (ok : okW W) (oc : okC (W 2)) (e : ∀ j, (j < 20 ∨ 36 ≤ j) → Y j = W 2 j) (r : ∀ j, 20 ≤ j → j < 36 → 0 ≤ Y j ∧ Y j ≤ 255) : okW (fset W 2 Y) ∧ (fset W 2 Y) 3 1 = W 3 1 ∧ okC (fset W 2 Y 2) := by
  obtain ⟨y1, y2, y3, y4, y5, y6, y7, y8⟩ := ok.2.2.2.2
  refine ⟨okW_say ok ⟨?_, ?_, ?_, ?_, ?_, ?_, ?_, ?_⟩, rfl, oc.eq (e 53 (by decide)) fun i i0 i1 => e _ (by omega)⟩
  · rw [e 52 (by decide)]; exact y1
  · rw [e 53 (by decide)]; exact y2
  · rw [e 54 (by decide)]; exact y3
  · rw [e 55 (by decide), e 56 (by decide)]; exact y4
  · intro i i0 i1; rw [e 52 (by decide)] at i1; rw [e _ (by omega), e _ (by omega)]; exact y5 i i0 i1
  · intro i i0 i1; rw [e 53 (by decide)] at i1; rw [e _ (by omega)]; exact y6 i i0 i1
  · intro i i0 i1; exact ⟨r _ (by omega) (by omega), r _ (by omega) (by omega)⟩
  · intro i i0 i1; rw [e 54 (by decide)] at i1; rw [e _ (by omega), e _ (by omega)]; exact y8 i i0 i1
theorem bits_in (ok : okW W) {j : Int} (j0 : 20 ≤ j) (j1 : j < 36) : 0 ≤ W 2 j ∧ W 2 j ≤ 255 := by
  have y7 := ok.2.2.2.2.2.2.2.2.2.2.1
  by_cases q : j < 28
  · have := (y7 (j - 20) (by omega) (by omega)).1
    rw [show 20 + (j - 20) = j by omega] at this
    exact this
  · have := (y7 (j - 28) (by omega) (by omega)).2
    rw [show 28 + (j - 28) = j by omega] at this
    exact this
theorem say_halves {x y : Int} (ok : okW W) (oc : okC (W 2)) : okW (sHalves W x y) ∧ (sHalves W x y) 3 1 = W 3 1 ∧ okC (sHalves W x y 2) := by
  unfold sHalves
  split
  · rename_i q
    refine say_bit ok oc (fun j hj => ?_) fun j j0 j1 => ?_
    · unfold hvY
      rw [fset_ne (by omega), fset_ne (by omega)]
    · unfold hvY
      by_cases e1 : j = 20 + y
      · subst e1
        rw [fset_at]
        have b := bits_in ok (j := 20 + y) j0 j1
        exact bit255 b.1 b.2 (by omega) (by omega)
      · rw [fset_ne e1]
        by_cases e2 : j = 20 + x
        · subst e2
          rw [fset_at]
          have b := bits_in ok (j := 20 + x) j0 j1
          exact bit255 b.1 b.2 (by omega) (by omega)
        · rw [fset_ne e2]
          exact bits_in ok j0 j1
  · exact ⟨ok, rfl, oc⟩
theorem say_writes {x y : Int} (ok : okW W) (oc : okC (W 2)) : okW (sWrites W x y) ∧ (sWrites W x y) 3 1 = W 3 1 ∧ okC (sWrites W x y 2) := by
  unfold sWrites
  split
  · rename_i q
    refine say_bit ok oc (fun j hj => ?_) fun j j0 j1 => ?_
    · rw [fset_ne (by omega)]
    · by_cases e1 : j = 28 + y
      · subst e1
        rw [fset_at]
        have b := bits_in ok (j := 28 + y) j0 j1
        exact bit255 b.1 b.2 (by omega) (by omega)
      · rw [fset_ne e1]
        exact bits_in ok j0 j1
  · exact ⟨ok, rfl, oc⟩
theorem wrd_nz {x : Int} (x0 : 1 ≤ x) (x1 : x ≤ 9999) (h : wrdN 4 x ≠ 0) : nzD x := by
  have s : ∀ (m : Nat) (x : Int), 1 ≤ x → wrdN (m + 1) x ≠ 0 → x % 10 ≠ 0 ∧ wrdN m (x / 10) ≠ 0 := by
    intro m x h0 h
    unfold wrdN at h
    rw [if_neg (by omega)] at h
    by_cases q : x % 10 = 0
    · rw [if_pos q] at h; exact absurd rfl h
    · rw [if_neg q] at h; exact ⟨q, h⟩
  have s1 := s 3 x x0 h
  refine ⟨s1.1, fun q => ?_, fun q => ?_, fun q => ?_⟩
  · exact (s 2 (x / 10) (by omega) s1.2).1
  · have s2 := s 2 (x / 10) (by omega) s1.2
    have := (s 1 (x / 10 / 10) (by omega) s2.2).1
    rw [show x / 10 / 10 = x / 100 by omega] at this
    exact this
  · have s2 := s 2 (x / 10) (by omega) s1.2
    have s3 := s 1 (x / 10 / 10) (by omega) s2.2
    have := (s 0 (x / 10 / 10 / 10) (by omega) s3.2).1
    rw [show x / 10 / 10 / 10 = x / 1000 by omega] at this
    exact this
theorem has_no {Y : Int → Int} {x : Int} : ∀ (m : Nat) (i : Int), hasN Y x m i ≠ 1 → ∀ j, i ≤ j → j < i + m → Y (12 + j) ≠ x := by
  intro m
  induction m with
  | zero => intro i _ j j0 j1; omega
  | succ m ih =>
    intro i h j j0 j1
    unfold hasN at h
    by_cases q : Y (12 + i) = x
    · rw [if_pos q] at h; exact absurd rfl h
    · rw [if_neg q] at h
      by_cases e : j = i
      · subst e; exact q
      · exact ih (i + 1) h j (by omega) (by omega)
theorem say_code {x : Int} (ok : okW W) (oc : okC (W 2)) : okW (sCode W x) ∧ (sCode W x) 3 1 = W 3 1 ∧ okC (sCode W x 2) := by
  obtain ⟨y1, y2, y3, y4, y5, y6, y7, y8⟩ := ok.2.2.2.2
  unfold sCode
  split
  · refine ⟨okW_say ok ⟨?_, ?_, ?_, ?_, ?_, ?_, ?_, ?_⟩, rfl, ⟨⟨?_, ?_⟩, ?_, ?_⟩⟩
    · rw [fset_ne (by decide)]; exact y1
    · rw [fset_at]; omega
    · rw [fset_ne (by decide)]; exact y3
    · rw [fset_ne (by decide), fset_ne (by decide)]; exact y4
    · intro i i0 i1; rw [fset_ne (by decide)] at i1; rw [fset_ne (by omega), fset_ne (by omega)]; exact y5 i i0 i1
    · intro i i0 i1; rw [fset_at] at i1; omega
    · intro i i0 i1; rw [fset_ne (by omega), fset_ne (by omega)]; exact y7 i i0 i1
    · intro i i0 i1; rw [fset_ne (by decide)] at i1; rw [fset_ne (by omega), fset_ne (by omega)]; exact y8 i i0 i1
    · show 0 ≤ fset (W 2) 53 0 53 ∧ fset (W 2) 53 0 53 ≤ 8
      rw [fset_at]; omega
    · intro i i0 i1; have i1 : i < fset (W 2) 53 0 53 := i1; rw [fset_at] at i1; omega
    · intro i i0 i1; have i1 : i < fset (W 2) 53 0 53 := i1; rw [fset_at] at i1; omega
    · intro i j i0 i1; have i1 : i < fset (W 2) 53 0 53 := i1; rw [fset_at] at i1; omega
  · split
    · exact ⟨ok, rfl, oc⟩
    · rename_i q1 q2
      have a0 : aIsWord x ≠ 0 := fun w => q2 (.inl w)
      have a8 : W 2 53 < 8 := by
        refine Int.not_le.mp fun w => q2 (.inr (.inl w))
      have ah : hasN (W 2) x (W 2 53).toNat 0 ≠ 1 := fun w => q2 (.inr (.inr w))
      have xr : 1 ≤ x ∧ x ≤ 9999 := by
        refine Decidable.byContradiction fun w => a0 ?_
        unfold aIsWord
        rw [if_neg w]
      have nz : nzD x := by
        unfold aIsWord at a0
        rw [if_pos xr] at a0
        exact wrd_nz xr.1 xr.2 a0
      have no := has_no (Y := W 2) (x := x) (W 2 53).toNat 0 ah
      have E : ∀ j, j ≠ 53 → j ≠ 12 + W 2 53 → fset (fset (W 2) (12 + W 2 53) x) 53 (W 2 53 + 1) j = W 2 j := fun j h1 h2 => by rw [fset_ne h1, fset_ne h2]
      have E53 : fset (fset (W 2) (12 + W 2 53) x) 53 (W 2 53 + 1) 53 = W 2 53 + 1 := fset_at _ _ _
      have En : fset (fset (W 2) (12 + W 2 53) x) 53 (W 2 53 + 1) (12 + W 2 53) = x := by rw [fset_ne (by omega), fset_at]
      generalize hZ : fset (fset (W 2) (12 + W 2 53) x) 53 (W 2 53 + 1) = Z at *
      obtain ⟨⟨c1, c2⟩, c3, c4⟩ := oc
      have get : ∀ i, 0 ≤ i → i < W 2 53 + 1 → (i < W 2 53 ∧ Z (12 + i) = W 2 (12 + i)) ∨ (i = W 2 53 ∧ Z (12 + i) = x) := by
        intro i i0 i1
        by_cases q : i = W 2 53
        · right; refine ⟨q, ?_⟩; rw [q]; exact En
        · left; exact ⟨by omega, E _ (by omega) (by omega)⟩
      refine ⟨okW_say ok ⟨?_, ?_, ?_, ?_, ?_, ?_, ?_, ?_⟩, rfl, ⟨⟨?_, fun i i0 i1 => ?_⟩, fun i i0 i1 => ?_, fun i j i0 i1 j0 j1 e => ?_⟩⟩
      · rw [E 52 (by omega) (by omega)]; exact y1
      · rw [E53]; omega
      · rw [E 54 (by omega) (by omega)]; exact y3
      · rw [E 55 (by omega) (by omega), E 56 (by omega) (by omega)]; exact y4
      · intro i i0 i1; rw [E 52 (by omega) (by omega)] at i1; rw [E _ (by omega) (by omega), E _ (by omega) (by omega)]; exact y5 i i0 i1
      · intro i i0 i1
        rw [E53] at i1
        rcases get i i0 i1 with ⟨g1, g2⟩ | ⟨g1, g2⟩
        · rw [g2]; exact y6 i i0 g1
        · rw [g2]; exact xr
      · intro i i0 i1; rw [E _ (by omega) (by omega), E _ (by omega) (by omega)]; exact y7 i i0 i1
      · intro i i0 i1; rw [E 54 (by omega) (by omega)] at i1; rw [E _ (by omega) (by omega), E _ (by omega) (by omega)]; exact y8 i i0 i1
      · show 0 ≤ Z 53 ∧ Z 53 ≤ 8
        rw [E53]; omega
      · have i1 : i < Z 53 := i1
        rw [E53] at i1
        show 1 ≤ Z (12 + i) ∧ Z (12 + i) ≤ 9999
        rcases get i i0 i1 with ⟨g1, g2⟩ | ⟨g1, g2⟩
        · rw [g2]; exact c2 i i0 g1
        · rw [g2]; exact xr
      · have i1 : i < Z 53 := i1
        rw [E53] at i1
        show nzD (Z (12 + i))
        rcases get i i0 i1 with ⟨g1, g2⟩ | ⟨g1, g2⟩
        · rw [g2]; exact c3 i i0 g1
        · rw [g2]; exact nz
      · have i1 : i < Z 53 := i1
        have j1 : j < Z 53 := j1
        rw [E53] at i1 j1
        have e : Z (12 + i) = Z (12 + j) := e
        rcases get i i0 i1 with ⟨g1, g2⟩ | ⟨g1, g2⟩ <;> rcases get j j0 j1 with ⟨k1, k2⟩ | ⟨k1, k2⟩
        · rw [g2, k2] at e; exact c4 i j i0 g1 j0 k1 e
        · rw [g2, k2] at e; exact absurd e (no i i0 (by omega))
        · rw [g2, k2] at e; exact absurd e.symm (no j j0 (by omega))
        · omega
theorem Inv.sm {W2 : Int → Int → Int} (v : Inv W V X F) (ok : okW W2) (s : Sm W W2) : Inv W2 V X F := by
  obtain ⟨v1, v2, v3, v4, v5, v6, v7, v8⟩ := v
  exact ⟨ok, v2, v3, fun j j0 j1 => v4 j j0 (by rw [← s.1]; exact j1), v5, by rw [s.1]; exact v6, by rw [s.2]; exact v7, v8⟩
theorem Inv.say {W2 : Int → Int → Int} (v : Inv W V X F) (h : okW W2 ∧ W2 3 1 = W 3 1 ∧ okC (W2 2)) : Inv W2 V X F := by
  obtain ⟨v1, v2, v3, v4, v5, v6, v7, v8⟩ := v
  exact ⟨h.1, v2, v3, fun j j0 j1 => v4 j j0 (by rw [← h.2.1]; exact j1), v5, by rw [h.2.1]; exact v6, h.2.2, v8⟩
theorem Inv.tape {F2 : Int → Int} (v : Inv W V X F) (o : okF F2) : Inv W V X F2 := ⟨v.1, v.2.1, o, v.2.2.2⟩
theorem Inv.image (v : Inv W V X F) : Inv W W X F := ⟨v.1, v.1, v.2.2.1, v.2.2.2.1, v.2.2.2.1, Int.le_refl _, v.2.2.2.2.2.2.1, v.2.2.2.2.2.2.1⟩
theorem Inv.back (v : Inv W V X F) : Inv V V X F := ⟨v.2.1, v.2.1, v.2.2.1, v.2.2.2.2.1, v.2.2.2.2.1, Int.le_refl _, v.2.2.2.2.2.2.2, v.2.2.2.2.2.2.2⟩
theorem okF_end {n : Int} (o : okF F) : okF (sEnd F n) := by
  unfold sEnd
  split
  · rename_i c
    refine ⟨by rw [fset_at]; have := o.1; omega, fun i i0 i1 => ?_⟩
    rw [fset_at] at i1
    rw [fset_ne (by omega)]
    exact o.2 i i0 (by omega)
  · exact o
theorem okF_four {x : Int} (o : okF F) (h : F 2 + 4 ≤ 300) : okF (fourM F x) := by
  have o1 := o.1
  have e : ∀ (F : Int → Int) (b : Int), putB F b 2 = F 2 + 1 := fun F b => fset_at _ _ _
  have a1 := putB_ok o (by omega) (and255 (shr32 x 24)).1 (and255 (shr32 x 24)).2
  have a2 := putB_ok a1 (by rw [e]; omega) (and255 (shr32 x 16)).1 (and255 (shr32 x 16)).2
  have a3 := putB_ok a2 (by rw [e, e]; omega) (and255 (shr32 x 8)).1 (and255 (shr32 x 8)).2
  exact putB_ok a3 (by rw [e, e, e]; omega) (and255 (shr32 x 0)).1 (and255 (shr32 x 0)).2
theorem okF_feed {a b c d e : Int} (o : okF F) : okF (sFeed F a b c d e) := by
  unfold sFeed
  split
  · rename_i q
    have f := fourM_2
    exact okF_four (okF_four (okF_four (okF_four (okF_four o (by omega)) (by rw [f]; omega)) (by rw [f, f]; omega)) (by rw [f, f, f]; omega)) (by rw [f, f, f, f]; omega)
  · exact o
theorem okF_tx {fa pl : Int} : okF (txF F fa pl) := by
  have e : txF F fa pl 2 = 0 := by unfold txF; rw [fset_ne (by decide), fset_ne (by decide), fset_at]
  exact ⟨by omega, fun i i0 i1 => by omega⟩
theorem Inv.bad {fa pl : Int} (v : Inv W V X F) : Inv W V X (txF F fa pl) := v.tape okF_tx
theorem Inv.text {T : Tx} {fa pl : Int} (v : Inv W V X F) (h : W 3 1 < 4) (t : okTx T) : Inv (fset W 3 (fset (W 3) 1 (W 3 1 + 1))) V (fset X (W 3 1) T) (txF F fa pl) := by
  obtain ⟨v1, v2, v3, v4, v5, v6, v7, v8⟩ := v
  refine ⟨okW_text v1 h, v2, okF_tx, fun j j0 j1 => ?_, fun j j0 j1 => ?_, ?_, v7, v8⟩
  · have j1 : j < W 3 1 + 1 := j1
    by_cases q : j = W 3 1
    · subst q; rw [fset_at]; exact t
    · rw [fset_ne q]; exact v4 j j0 (by omega)
  · rw [fset_ne (by omega)]; exact v5 j j0 j1
  · show V 3 1 ≤ W 3 1 + 1
    omega
theorem Inv.start : Inv w0 w0 X f0 := by
  have ok : okW w0 := by
    refine ⟨⟨by decide, fun j j0 j1 => ?_, fun j j0 j1 => ?_⟩, ⟨by decide, fun b b0 b1 => ?_⟩, by decide, fun j j0 j1 => ?_, ⟨by decide, by decide, by decide, by decide, fun i i0 i1 => ?_, fun i i0 i1 => ?_, fun i i0 i1 => ?_, fun i i0 i1 => ?_⟩⟩
    · have j1 : j < 0 := j1; omega
    · show 0 ≤ cu0 j ∧ cu0 j ≤ 9
      unfold cu0
      split
      · omega
      · split <;> omega
    · have b1 : b < 0 := b1; omega
    · have j1 : j < 0 := j1; omega
    · have i1 : i < 0 := i1; omega
    · have i1 : i < 0 := i1; omega
    · have e : ∀ j, 20 ≤ j → j < 36 → sa0 j = 0 := by
        intro j a b
        unfold sa0
        (repeat' split) <;> omega
      show (0 ≤ sa0 (20 + i) ∧ sa0 (20 + i) ≤ 255) ∧ 0 ≤ sa0 (28 + i) ∧ sa0 (28 + i) ≤ 255
      rw [e _ (by omega) (by omega), e _ (by omega) (by omega)]
      decide
    · have i1 : i < 0 := i1; omega
  have ox : okX w0 X := fun j j0 j1 => by have j1 : j < 0 := j1; omega
  have oc : okC (w0 2) := ⟨⟨by decide, fun i i0 i1 => by have i1 : i < 0 := i1; omega⟩, fun i i0 i1 => by have i1 : i < 0 := i1; omega, fun i j i0 i1 => by have i1 : i < 0 := i1; omega⟩
  have of : okF f0 := ⟨by decide, fun i i0 i1 => by have i1 : i < 0 := i1; omega⟩
  exact ⟨ok, ok, of, ox, ox, Int.le_refl _, oc, oc⟩
end KEPT
