/-! Code, writes: what is said of words and signs. -/
def wrdN : Nat → Int → Int
  | 0, _ => 1
  | m + 1, x => if x ≤ 0 then 1 else if x % 10 = 0 then 0 else wrdN m (x / 10)
def aIsWord (x : Int) : Int := if 1 ≤ x ∧ x ≤ 9999 then wrdN 4 x else 0
def hasN (Y : Int → Int) (x : Int) : Nat → Int → Int
  | 0, _ => 0
  | m + 1, i => if Y (12 + i) = x then 1 else hasN Y x m (i + 1)
def aWrites (W : Int → Int → Int) (x y : Int) : Int := if (0 ≤ x ∧ x ≤ 7 ∧ 0 ≤ y ∧ y ≤ 7 ∧ x ≠ y) ∧ and32 (W 2 (28 + y)) (shl32 1 x) = 0 then 1 else 0
def sWrites (W : Int → Int → Int) (x y : Int) : Int → Int → Int := if (0 ≤ x ∧ x ≤ 7 ∧ 0 ≤ y ∧ y ≤ 7 ∧ x ≠ y) ∧ and32 (W 2 (28 + y)) (shl32 1 x) = 0 then fset W 2 (fset (W 2) (28 + y) (or32 (W 2 (28 + y)) (shl32 1 x))) else W
theorem wrdN_01 : ∀ m x, wrdN m x = 0 ∨ wrdN m x = 1 := by
  intro m
  induction m with
  | zero => intro x; exact .inr rfl
  | succ m ih => intro x; unfold wrdN; split; exact .inr rfl; split; exact .inl rfl; exact ih _
theorem aIsWord_01 (x : Int) : aIsWord x = 0 ∨ aIsWord x = 1 := by unfold aIsWord; split; exact wrdN_01 _ _; exact .inl rfl
section CODE
variable {d bc bs n : Nat} {g h : aH} {Q : aQ} {W V : Int → Int → Int} {X : Int → Tx} {F : Int → Int}
theorem P_writes {x y : Int} (s : IsPo g h W V X F) (k : ∀ h1, IsPo g h1 (sWrites W x y) V X F → Q (some (vI (aWrites W x y))) h1 n) : Rn (d + 30) bc bs mX12_writes 0 [some (vR (some 1)), some (vI x), some (vI y)] [] h n Q := by
  obtain ⟨fp, p1, w, v, tp, gr, ⟨lx, la⟩, ro, ri, Gx, gl⟩ := id s; have w1 := w.1; have sh := w.2.1; have se := w.2.2.1; obtain ⟨Ts, ps, st, ste⟩ := w.2.2.2.1; have sa := w.2.2.2.2.1; have sh1 := sh.1; have se1 := se.1; have st1 := st.1; have sa1 := sa.1; obtain ⟨tl, la1⟩ := la.ob; have gl1 := gl.1; have bk0 := se.2.2; have bk1 := bk0.1
  unfold aWrites sWrites at k
  refine BX12_writes_0 (by first | assumption | exact up_at _ _ _ | (rw [up_ne (by omega)]; first | assumption | exact up_at _ _ _ | (rw [up_ne (by omega)]; first | assumption | exact up_at _ _ _ | (rw [up_ne (by omega)]; assumption)))) (by rfl) (by first | assumption | exact up_at _ _ _ | (rw [up_ne (by omega)]; first | assumption | exact up_at _ _ _ | (rw [up_ne (by omega)]; first | assumption | exact up_at _ _ _ | (rw [up_ne (by omega)]; assumption)))) (by rfl) (by first | assumption | exact up_at _ _ _ | (rw [up_ne (by omega)]; first | assumption | exact up_at _ _ _ | (rw [up_ne (by omega)]; first | assumption | exact up_at _ _ _ | (rw [up_ne (by omega)]; assumption)))) ?_
  refine R_X5_addWrites (by first | omega | assumption | (simp only [Ls_len]; omega) | exact Ls_get (by omega) (by omega) | rfl | decide) (by first | omega | assumption | (simp only [Ls_len]; omega) | exact Ls_get (by omega) (by omega) | rfl | decide) ?_ ?_ ?_
  · intro w0
    refine BX12_writes_12 (by first | omega | assumption | (simp only [Ls_len]; omega) | exact Ls_get (by omega) (by omega) | rfl | decide) ?_
    first
    | (rw [if_neg (by omega), if_neg (by omega)] at k; exact k _ s)
    | (rw [if_neg (fun q => w6 q.2), if_neg (fun q => w6 q.2)] at k; exact k _ s)
    | (rw [if_pos ⟨⟨w1, w2, w3, w4, w5⟩, w6⟩, if_pos ⟨⟨w1, w2, w3, w4, w5⟩, w6⟩] at k; exact k _ (s.say (by assumption) (by assumption)))
  · intro w1 w2 w3 w4 w5 w6
    refine BX12_writes_12 (by first | omega | assumption | (simp only [Ls_len]; omega) | exact Ls_get (by omega) (by omega) | rfl | decide) ?_
    first
    | (rw [if_neg (by omega), if_neg (by omega)] at k; exact k _ s)
    | (rw [if_neg (fun q => w6 q.2), if_neg (fun q => w6 q.2)] at k; exact k _ s)
    | (rw [if_pos ⟨⟨w1, w2, w3, w4, w5⟩, w6⟩, if_pos ⟨⟨w1, w2, w3, w4, w5⟩, w6⟩] at k; exact k _ (s.say (by assumption) (by assumption)))
  · intro w1 w2 w3 w4 w5 w6 h9 r9 s9
    refine BX12_writes_12 (by first | omega | assumption | (simp only [Ls_len]; omega) | exact Ls_get (by omega) (by omega) | rfl | decide) ?_
    first
    | (rw [if_neg (by omega), if_neg (by omega)] at k; exact k _ s)
    | (rw [if_neg (fun q => w6 q.2), if_neg (fun q => w6 q.2)] at k; exact k _ s)
    | (rw [if_pos ⟨⟨w1, w2, w3, w4, w5⟩, w6⟩, if_pos ⟨⟨w1, w2, w3, w4, w5⟩, w6⟩] at k; exact k _ (s.say (by assumption) (by assumption)))
theorem R_X3_isWord {r : Nat} {x : Int} (k : Q (some (vI (aIsWord x))) h n) : Rn (d + 2) bc bs mX3_isWord 0 [some (vR (some r)), some (vI x), none, none] [] h n Q := by
  have loop : ∀ (m : Nat) (y i : Int), 0 ≤ i → i + m = 4 → y ≤ 9999 → 0 ≤ y → Q (some (vI (wrdN m y))) h n → Rn (d + 2) bc bs mX3_isWord 17 [some (vR (some r)), some (vI x), some (vI y), some (vI i)] [] h n Q := by
    intro m
    induction m with
    | zero =>
      intro y i i0 i1 y1 y0 k
      refine BX3_isWord_17  ?_ ?_
      · intro hc1
        first
        | (exfalso; omega)
        | (
            refine BX3_isWord_46  ?_
            exact k
          )
      · intro hc2
        first
        | (exfalso; omega)
        | (
            (exfalso; omega)
          )
    | succ m ih =>
      intro y i i0 i1 y1 y0 k
      unfold wrdN at k
      refine BX3_isWord_17  ?_ ?_
      · intro hc1
        refine BX3_isWord_46  ?_
        first | (exfalso; omega) | (rw [if_pos (by omega)] at k; exact k)
      · intro hc2
        refine BX3_isWord_22  ?_ ?_
        · intro hc3
          refine BX3_isWord_46  ?_
          first | (exfalso; omega) | (rw [if_pos (by omega)] at k; exact k)
        · intro hc4
          refine BX3_isWord_26 (by first | omega | assumption | (simp only [Ls_len]; omega) | exact Ls_get (by omega) (by omega) | rfl | decide) ?_ ?_
          · intro hc5
            refine BX3_isWord_35 (by first | omega | assumption | (simp only [Ls_len]; omega) | exact Ls_get (by omega) (by omega) | rfl | decide) (by first | omega | assumption | (simp only [Ls_len]; omega) | exact Ls_get (by omega) (by omega) | rfl | decide) (by first | omega | assumption | (simp only [Ls_len]; omega) | exact Ls_get (by omega) (by omega) | rfl | decide) ?_
            (rw [if_neg (by omega), if_neg (by omega)] at k; exact ih _ _ (by omega) (by omega) (by omega) (by omega) k)
          · intro hc6
            refine BX3_isWord_33  ?_
            (rw [if_neg (by omega), if_pos (by omega)] at k; exact k)
  unfold aIsWord at k
  refine BX3_isWord_0  ?_
  refine R_X12_within  ?_ ?_
  · intro w1 w2
    refine BX3_isWord_8  ?_ ?_
    · intro hc1
      refine BX3_isWord_13  ?_
      (rw [if_pos (by omega)] at k; exact loop 4 x 0 (by omega) (by omega) (by omega) (by omega) k)
    · intro hc2
      exact absurd hc2 (by decide)
  · intro w3
    refine BX3_isWord_8  ?_ ?_
    · intro hc3
      exact absurd hc3 (by decide)
    · intro hc4
      refine BX3_isWord_11  ?_
      first | (exfalso; omega) | (rw [if_neg (by omega)] at k; exact k)
end CODE
