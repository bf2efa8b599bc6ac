/-! Halves. -/
def aHalves (W : Int → Int → Int) (x y : Int) : Int := if (0 ≤ x ∧ x ≤ 7 ∧ 0 ≤ y ∧ y ≤ 7 ∧ x ≠ y) ∧ and32 (W 2 (20 + x)) (shl32 1 y) = 0 then 1 else 0
def hvY (Y : Int → Int) (x y : Int) : Int → Int := fset (fset Y (20 + x) (or32 (Y (20 + x)) (shl32 1 y))) (20 + y) (or32 (Y (20 + y)) (shl32 1 x))
def sHalves (W : Int → Int → Int) (x y : Int) : Int → Int → Int := if (0 ≤ x ∧ x ≤ 7 ∧ 0 ≤ y ∧ y ≤ 7 ∧ x ≠ y) ∧ and32 (W 2 (20 + x)) (shl32 1 y) = 0 then fset W 2 (hvY (W 2) x y) else W
theorem off_fset {c i v : Int} {Y : Int → Int} : off c (fset Y (c + i) v) = fset (off c Y) i v := by
  funext j
  unfold off
  by_cases q : j = i
  · subst q; rw [fset_at, fset_at]
  · rw [fset_ne (by omega), fset_ne q]
section HALVES
variable {d bc bs n : Nat} {h : aH} {Q : aQ} {a : Nat} {Y : Int → Int}
theorem R_X5_addHalves {x y : Int} (s : IsSa h a Y) (ha : a ≠ 0) (k0 : (x < 0 ∨ 7 < x ∨ y < 0 ∨ 7 < y ∨ x = y) → Q (some (vI 0)) h n) (k2 : 0 ≤ x → x ≤ 7 → 0 ≤ y → y ≤ 7 → x ≠ y → and32 (Y (20 + x)) (shl32 1 y) ≠ 0 → Q (some (vI 0)) h n) (k1 : 0 ≤ x → x ≤ 7 → 0 ≤ y → y ≤ 7 → x ≠ y → and32 (Y (20 + x)) (shl32 1 y) = 0 → ∀ h1, Fr h h1 a 8 → IsSa h1 a (hvY Y x y) → Q (some (vI 1)) h1 n) : Rn (d + 2) bc bs mX5_addHalves 0 [some (vR (some a)), some (vI x), some (vI y)] [] h n Q := by
  have l1 := Ls_len 8 (off 20 Y)
  have s9 := s
  obtain ⟨s1, s2, s3, s4, s5, s6, s7, s8⟩ := s
  refine BX5_addHalves_0  ?_
  refine R_X5_areUnlike  ?_ ?_
  · intro w0
    refine BX5_addHalves_5  ?_ ?_
    · intro hc1
      refine BX5_addHalves_20  ?_
      first | exact k0 (by omega) | exact k2 (by assumption) (by assumption) (by assumption) (by assumption) (by assumption) (by assumption)
    · intro hc2
      exact absurd hc2 (by decide)
  · intro w1 w2 w3 w4 w5
    refine BX5_addHalves_5  ?_ ?_
    · intro hc3
      exact absurd hc3 (by decide)
    · intro hc4
      refine BX5_addHalves_8 (by first | assumption | exact up_at _ _ _ | (rw [up_ne (by omega)]; first | assumption | exact up_at _ _ _ | (rw [up_ne (by omega)]; first | assumption | exact up_at _ _ _ | (rw [up_ne (by omega)]; assumption)))) ?_
      refine R_X5_unlikeOf (by first | omega | assumption | exact up_at _ _ _ | (simp only [Ls_len]; omega) | exact Ls_get (by omega) (by omega) | rfl | decide) (by first | omega | assumption | exact up_at _ _ _ | (simp only [Ls_len]; omega) | exact Ls_get (by omega) (by omega) | rfl | decide) (by first | omega | assumption | exact up_at _ _ _ | (simp only [Ls_len]; omega) | exact Ls_get (by omega) (by omega) | rfl | decide) (by first | omega | assumption | exact up_at _ _ _ | (simp only [Ls_len]; omega) | exact Ls_get (by omega) (by omega) | rfl | decide) ?_
      refine BX5_addHalves_13  ?_ ?_
      · intro hc5
        refine BX5_addHalves_22 (by first | assumption | exact up_at _ _ _ | (rw [up_ne (by omega)]; first | assumption | exact up_at _ _ _ | (rw [up_ne (by omega)]; first | assumption | exact up_at _ _ _ | (rw [up_ne (by omega)]; assumption)))) (by rfl) ?_
        refine R_X5_unlikeOf (by first | omega | assumption | exact up_at _ _ _ | (simp only [Ls_len]; omega) | exact Ls_get (by omega) (by omega) | rfl | decide) (by first | omega | assumption | exact up_at _ _ _ | (simp only [Ls_len]; omega) | exact Ls_get (by omega) (by omega) | rfl | decide) (by first | omega | assumption | exact up_at _ _ _ | (simp only [Ls_len]; omega) | exact Ls_get (by omega) (by omega) | rfl | decide) (by first | omega | assumption | exact up_at _ _ _ | (simp only [Ls_len]; omega) | exact Ls_get (by omega) (by omega) | rfl | decide) ?_
        refine BX5_addHalves_32  ?_
        refine R_X12_setCell (by first | omega | assumption | exact up_at _ _ _ | (simp only [Ls_len]; omega) | exact Ls_get (by omega) (by omega) | rfl | decide) (by first | omega | assumption | exact up_at _ _ _ | (simp only [Ls_len]; omega) | exact Ls_get (by omega) (by omega) | rfl | decide) (by first | omega | assumption | exact up_at _ _ _ | (simp only [Ls_len]; omega) | exact Ls_get (by omega) (by omega) | rfl | decide) (by first | omega | assumption | exact up_at _ _ _ | (simp only [Ls_len]; omega) | exact Ls_get (by omega) (by omega) | rfl | decide) (by first | omega | assumption | exact up_at _ _ _ | (simp only [Ls_len]; omega) | exact Ls_get (by omega) (by omega) | rfl | decide) ?_
        rw [Ls_set (by omega)]
        have t9 : IsSa (up h (a + 4) (cI (Ls 8 (fset (off 20 Y) x (or32 (Y (20 + x)) (shl32 1 y)))))) a (fset Y (20 + x) (or32 (Y (20 + x)) (shl32 1 y))) := by (refine ⟨?_, ?_, ?_, ?_, ?_, ?_, ?_, ?_⟩ <;> (simp (disch := omega) only [up_at, up_ne, fset_at, fset_ne, Ls_off_ne, Ls_off_at, Ls_fst_ne, Ls_fs_off]; try first | assumption | rfl))
        refine BX5_addHalves_39 (by first | assumption | exact up_at _ _ _ | (rw [up_ne (by omega)]; first | assumption | exact up_at _ _ _ | (rw [up_ne (by omega)]; first | assumption | exact up_at _ _ _ | (rw [up_ne (by omega)]; assumption)))) (by rfl) ?_
        refine R_X5_unlikeOf (by first | omega | assumption | exact up_at _ _ _ | (simp only [Ls_len]; omega) | exact Ls_get (by omega) (by omega) | rfl | decide) (by first | omega | assumption | exact up_at _ _ _ | (simp only [Ls_len]; omega) | exact Ls_get (by omega) (by omega) | rfl | decide) (by first | omega | assumption | exact up_at _ _ _ | (simp only [Ls_len]; omega) | exact Ls_get (by omega) (by omega) | rfl | decide) (by first | omega | assumption | exact up_at _ _ _ | (simp only [Ls_len]; omega) | exact Ls_get (by omega) (by omega) | rfl | decide) ?_
        refine BX5_addHalves_49  ?_
        refine R_X12_setCell (by first | omega | assumption | exact up_at _ _ _ | (simp only [Ls_len]; omega) | exact Ls_get (by omega) (by omega) | rfl | decide) (by first | omega | assumption | exact up_at _ _ _ | (simp only [Ls_len]; omega) | exact Ls_get (by omega) (by omega) | rfl | decide) (by first | omega | assumption | exact up_at _ _ _ | (simp only [Ls_len]; omega) | exact Ls_get (by omega) (by omega) | rfl | decide) (by first | omega | assumption | exact up_at _ _ _ | (simp only [Ls_len]; omega) | exact Ls_get (by omega) (by omega) | rfl | decide) (by first | omega | assumption | exact up_at _ _ _ | (simp only [Ls_len]; omega) | exact Ls_get (by omega) (by omega) | rfl | decide) ?_
        refine BX5_addHalves_56  ?_
        rw [Ls_set (by omega), fset_ne (show 20 + y ≠ 20 + x by omega), up_up]
        refine k1 (by assumption) (by assumption) (by assumption) (by assumption) (by assumption) (by assumption) _ ((Fr.rf h a 8).put (by omega) (by omega)) ?_
        unfold hvY
        (refine ⟨?_, ?_, ?_, ?_, ?_, ?_, ?_, ?_⟩ <;> (simp (disch := omega) only [up_at, up_ne, fset_at, fset_ne, Ls_off_ne, Ls_off_at, Ls_fst_ne, Ls_fs_off]; try first | assumption | rfl))
        rw [off_fset]
      · intro hc6
        refine BX5_addHalves_20  ?_
        first | exact k0 (by omega) | exact k2 (by assumption) (by assumption) (by assumption) (by assumption) (by assumption) (by assumption)
end HALVES
section HALVES2
variable {d bc bs n : Nat} {g h : aH} {Q : aQ} {W V : Int → Int → Int} {X : Int → Tx} {F : Int → Int}
theorem P_halves {x y : Int} (s : IsPo g h W V X F) (k : ∀ h1, IsPo g h1 (sHalves W x y) V X F → Q (some (vI (aHalves W x y))) h1 n) : Rn (d + 30) bc bs mX12_halves 0 [some (vR (some 1)), some (vI x), some (vI y)] [] h n Q := by
  obtain ⟨fp, p1, w, v, tp, gr, ⟨lx, la⟩, ro, ri, Gx, gl⟩ := id s; have w1 := w.1; have sh := w.2.1; have se := w.2.2.1; obtain ⟨Ts, ps, st, ste⟩ := w.2.2.2.1; have sa := w.2.2.2.2.1; have sh1 := sh.1; have se1 := se.1; have st1 := st.1; have sa1 := sa.1; obtain ⟨tl, la1⟩ := la.ob; have gl1 := gl.1; have bk0 := se.2.2; have bk1 := bk0.1
  unfold aHalves sHalves at k
  refine BX12_halves_0 (by first | assumption | exact up_at _ _ _ | (rw [up_ne (by omega)]; first | assumption | exact up_at _ _ _ | (rw [up_ne (by omega)]; first | assumption | exact up_at _ _ _ | (rw [up_ne (by omega)]; assumption)))) (by rfl) (by first | assumption | exact up_at _ _ _ | (rw [up_ne (by omega)]; first | assumption | exact up_at _ _ _ | (rw [up_ne (by omega)]; first | assumption | exact up_at _ _ _ | (rw [up_ne (by omega)]; assumption)))) (by rfl) (by first | assumption | exact up_at _ _ _ | (rw [up_ne (by omega)]; first | assumption | exact up_at _ _ _ | (rw [up_ne (by omega)]; first | assumption | exact up_at _ _ _ | (rw [up_ne (by omega)]; assumption)))) ?_
  refine R_X5_addHalves (by first | omega | assumption | (simp only [Ls_len]; omega) | exact Ls_get (by omega) (by omega) | rfl | decide) (by first | omega | assumption | (simp only [Ls_len]; omega) | exact Ls_get (by omega) (by omega) | rfl | decide) ?_ ?_ ?_
  · intro w0
    refine BX12_halves_12 (by first | omega | assumption | (simp only [Ls_len]; omega) | exact Ls_get (by omega) (by omega) | rfl | decide) ?_
    first
    | (rw [if_neg (by omega), if_neg (by omega)] at k; exact k _ s)
    | (rw [if_neg (fun q => w6 q.2), if_neg (fun q => w6 q.2)] at k; exact k _ s)
    | (rw [if_pos ⟨⟨w1, w2, w3, w4, w5⟩, w6⟩, if_pos ⟨⟨w1, w2, w3, w4, w5⟩, w6⟩] at k; exact k _ (s.say (by assumption) (by assumption)))
  · intro w1 w2 w3 w4 w5 w6
    refine BX12_halves_12 (by first | omega | assumption | (simp only [Ls_len]; omega) | exact Ls_get (by omega) (by omega) | rfl | decide) ?_
    first
    | (rw [if_neg (by omega), if_neg (by omega)] at k; exact k _ s)
    | (rw [if_neg (fun q => w6 q.2), if_neg (fun q => w6 q.2)] at k; exact k _ s)
    | (rw [if_pos ⟨⟨w1, w2, w3, w4, w5⟩, w6⟩, if_pos ⟨⟨w1, w2, w3, w4, w5⟩, w6⟩] at k; exact k _ (s.say (by assumption) (by assumption)))
  · intro w1 w2 w3 w4 w5 w6 h9 r9 s9
    refine BX12_halves_12 (by first | omega | assumption | (simp only [Ls_len]; omega) | exact Ls_get (by omega) (by omega) | rfl | decide) ?_
    first
    | (rw [if_neg (by omega), if_neg (by omega)] at k; exact k _ s)
    | (rw [if_neg (fun q => w6 q.2), if_neg (fun q => w6 q.2)] at k; exact k _ s)
    | (rw [if_pos ⟨⟨w1, w2, w3, w4, w5⟩, w6⟩, if_pos ⟨⟨w1, w2, w3, w4, w5⟩, w6⟩] at k; exact k _ (s.say (by assumption) (by assumption)))
end HALVES2
