/-! Whose law. -/
def saidN (W : Int → Int → Int) (T : Option Tx) : Nat → Int → Int
  | 0, _ => 1
  | m + 1, i => if 0 ≤ W 2 (36 + i) ∧ W 2 (36 + i) < W 1 72 then (if comesM (coOf T) (W 1) (W 3 3) (W 0) (W 5) (W 2 (36 + i)) = W 2 (44 + i) then saidN W T m (i + 1) else 0) else saidN W T m (i + 1)
def sayM (W : Int → Int → Int) (T : Option Tx) : Int := saidN W T (W 2 54).toNat 0
theorem saidN_01 {W : Int → Int → Int} {T : Option Tx} : ∀ m i, saidN W T m i = 0 ∨ saidN W T m i = 1 := by
  intro m
  induction m with
  | zero => intro i; exact .inr rfl
  | succ m ih => intro i; unfold saidN; split; (split; exact ih _; exact .inl rfl); exact ih _
def whoN (W : Int → Int → Int) (X : Int → Tx) : Nat → Int → Int → Int
  | 0, _, a => a
  | m + 1, i, a => whoN W X m (i + 1) (if sayM W (textX W X i) = 0 then a else or32 a (shl32 1 i))
def aWhose (W : Int → Int → Int) (X : Int → Tx) : Int := whoN W X (W 3 1).toNat 0 0
section WHOSE
variable {d bc bs n : Nat} {g h : aH} {Q : aQ} {W V : Int → Int → Int} {X : Int → Tx} {F : Int → Int}
theorem P_allSaidBy {r : Option Nat} {T : Option Tx} (s : IsPo g h W V X F) (ok : okW W) (xr : IsR h r T) (k : ∀ h1, IsPo g h1 W V X F → Q (some (vI (sayM W T))) h1 n) : Rn (d + 10) bc bs mX12_allSaidBy 0 [some (vR (some 1)), some (vR r), none, none] [] h n Q := by
  have loop : ∀ (m : Nat) (i : Int) (l3 : Option aV) (h1 : aH), 0 ≤ i → i + m = W 2 54 → IsPo g h1 W V X F → IsR h1 r T → (∀ h2, IsPo g h2 W V X F → Q (some (vI (saidN W T m i))) h2 n) → Rn (d + 10) bc bs mX12_allSaidBy 2 [some (vR (some 1)), some (vR r), some (vI i), l3] [] h1 n Q := by
    intro m
    induction m with
    | zero =>
      intro i l3 h1 i0 i1 s xr k
      obtain ⟨fp, p1, w, v, tp, gr, ⟨lx, la⟩, ro, ri, Gx, gl⟩ := id s; have w1 := w.1; have sh := w.2.1; have se := w.2.2.1; obtain ⟨Ts, ps, st, ste⟩ := w.2.2.2.1; have sa := w.2.2.2.2.1; have sh1 := sh.1; have se1 := se.1; have st1 := st.1; have sa1 := sa.1; obtain ⟨tl, la1⟩ := la.ob; have gl1 := gl.1; have bk0 := se.2.2; have bk1 := bk0.1
      obtain ⟨o1, o2, o3, o4, o5⟩ := id ok; have o11 := o1.1; have o21 := o2.1; have o51 := o5.1; have o52 := o5.2.1; have o53 := o5.2.2.1; have o54 := o5.2.2.2.1
      refine BX12_allSaidBy_2 (by first | assumption | exact up_at _ _ _ | (rw [up_ne (by omega)]; first | assumption | exact up_at _ _ _ | (rw [up_ne (by omega)]; first | assumption | exact up_at _ _ _ | (rw [up_ne (by omega)]; assumption)))) (by rfl) (by first | assumption | exact up_at _ _ _ | (rw [up_ne (by omega)]; first | assumption | exact up_at _ _ _ | (rw [up_ne (by omega)]; first | assumption | exact up_at _ _ _ | (rw [up_ne (by omega)]; assumption)))) (by rfl) (by first | assumption | exact up_at _ _ _ | (rw [up_ne (by omega)]; first | assumption | exact up_at _ _ _ | (rw [up_ne (by omega)]; first | assumption | exact up_at _ _ _ | (rw [up_ne (by omega)]; assumption)))) (by rfl) ?_ ?_
      · intro hc1
        first
        | (exfalso; omega)
        | (
            refine BX12_allSaidBy_90  ?_
            exact k _ s
          )
      · intro hc2
        first
        | (exfalso; omega)
        | (
            (exfalso; omega)
          )
    | succ m ih =>
      intro i l3 h1 i0 i1 s xr k
      have lw : LwH h1 287 (2 + 5) (2 + 1) r T (W 3 3) (W 0) (W 5) (W 6) (W 1) := ⟨by decide, s.2.2.1.2.2.1, s.2.2.1.2.1, xr, s.2.2.2.2.2.2.1⟩
      unfold saidN at k
      obtain ⟨fp, p1, w, v, tp, gr, ⟨lx, la⟩, ro, ri, Gx, gl⟩ := id s; have w1 := w.1; have sh := w.2.1; have se := w.2.2.1; obtain ⟨Ts, ps, st, ste⟩ := w.2.2.2.1; have sa := w.2.2.2.2.1; have sh1 := sh.1; have se1 := se.1; have st1 := st.1; have sa1 := sa.1; obtain ⟨tl, la1⟩ := la.ob; have gl1 := gl.1; have bk0 := se.2.2; have bk1 := bk0.1
      obtain ⟨o1, o2, o3, o4, o5⟩ := id ok; have o11 := o1.1; have o21 := o2.1; have o51 := o5.1; have o52 := o5.2.1; have o53 := o5.2.2.1; have o54 := o5.2.2.2.1
      refine BX12_allSaidBy_2 (by first | assumption | exact up_at _ _ _ | (rw [up_ne (by omega)]; first | assumption | exact up_at _ _ _ | (rw [up_ne (by omega)]; first | assumption | exact up_at _ _ _ | (rw [up_ne (by omega)]; assumption)))) (by rfl) (by first | assumption | exact up_at _ _ _ | (rw [up_ne (by omega)]; first | assumption | exact up_at _ _ _ | (rw [up_ne (by omega)]; first | assumption | exact up_at _ _ _ | (rw [up_ne (by omega)]; assumption)))) (by rfl) (by first | assumption | exact up_at _ _ _ | (rw [up_ne (by omega)]; first | assumption | exact up_at _ _ _ | (rw [up_ne (by omega)]; first | assumption | exact up_at _ _ _ | (rw [up_ne (by omega)]; assumption)))) (by rfl) ?_ ?_
      · intro hc1
        (exfalso; omega)
      · intro hc2
        refine BX12_allSaidBy_16 (by first | assumption | exact up_at _ _ _ | (rw [up_ne (by omega)]; first | assumption | exact up_at _ _ _ | (rw [up_ne (by omega)]; first | assumption | exact up_at _ _ _ | (rw [up_ne (by omega)]; assumption)))) (by rfl) (by first | assumption | exact up_at _ _ _ | (rw [up_ne (by omega)]; first | assumption | exact up_at _ _ _ | (rw [up_ne (by omega)]; first | assumption | exact up_at _ _ _ | (rw [up_ne (by omega)]; assumption)))) (by rfl) (by first | assumption | exact up_at _ _ _ | (rw [up_ne (by omega)]; first | assumption | exact up_at _ _ _ | (rw [up_ne (by omega)]; first | assumption | exact up_at _ _ _ | (rw [up_ne (by omega)]; assumption)))) ?_
        refine R_X5_saidBottle (by first | omega | assumption | (simp only [Ls_len]; omega) | exact Ls_get (by omega) (by omega) | rfl | decide) (by first | omega | assumption | (simp only [Ls_len]; omega) | exact Ls_get (by omega) (by omega) | rfl | decide) (by first | omega | assumption | (simp only [Ls_len]; omega) | exact Ls_get (by omega) (by omega) | rfl | decide) (by first | omega | assumption | (simp only [Ls_len]; omega) | exact Ls_get (by omega) (by omega) | rfl | decide) ?_
        refine BX12_allSaidBy_27 (by first | assumption | exact up_at _ _ _ | (rw [up_ne (by omega)]; first | assumption | exact up_at _ _ _ | (rw [up_ne (by omega)]; first | assumption | exact up_at _ _ _ | (rw [up_ne (by omega)]; assumption)))) (by rfl) (by first | assumption | exact up_at _ _ _ | (rw [up_ne (by omega)]; first | assumption | exact up_at _ _ _ | (rw [up_ne (by omega)]; first | assumption | exact up_at _ _ _ | (rw [up_ne (by omega)]; assumption)))) (by rfl) (by first | assumption | exact up_at _ _ _ | (rw [up_ne (by omega)]; first | assumption | exact up_at _ _ _ | (rw [up_ne (by omega)]; first | assumption | exact up_at _ _ _ | (rw [up_ne (by omega)]; assumption)))) ?_
        refine R_X6_hasBottle (by first | omega | assumption | (simp only [Ls_len]; omega) | exact Ls_get (by omega) (by omega) | rfl | decide) (by first | omega | assumption | (simp only [Ls_len]; omega) | exact Ls_get (by omega) (by omega) | rfl | decide) ?_ ?_
        · intro w1 w2
          refine BX12_allSaidBy_39  ?_ ?_
          · intro hc3
            refine BX12_allSaidBy_45 (by first | assumption | exact up_at _ _ _ | (rw [up_ne (by omega)]; first | assumption | exact up_at _ _ _ | (rw [up_ne (by omega)]; first | assumption | exact up_at _ _ _ | (rw [up_ne (by omega)]; assumption)))) (by rfl) (by rfl) (by first | assumption | exact up_at _ _ _ | (rw [up_ne (by omega)]; first | assumption | exact up_at _ _ _ | (rw [up_ne (by omega)]; first | assumption | exact up_at _ _ _ | (rw [up_ne (by omega)]; assumption)))) (by rfl) (by rfl) (by first | assumption | exact up_at _ _ _ | (rw [up_ne (by omega)]; first | assumption | exact up_at _ _ _ | (rw [up_ne (by omega)]; first | assumption | exact up_at _ _ _ | (rw [up_ne (by omega)]; assumption)))) ?_
            refine R_X2_comesOf (by first | omega | assumption | (simp only [Ls_len]; omega) | exact Ls_get (by omega) (by omega) | rfl | decide) (by first | omega | assumption | (simp only [Ls_len]; omega) | exact Ls_get (by omega) (by omega) | rfl | decide) (by first | omega | assumption | (simp only [Ls_len]; omega) | exact Ls_get (by omega) (by omega) | rfl | decide) (by first | omega | assumption | (simp only [Ls_len]; omega) | exact Ls_get (by omega) (by omega) | rfl | decide) (by first | omega | assumption | (simp only [Ls_len]; omega) | exact Ls_get (by omega) (by omega) | rfl | decide) ?_
            intro h65 r65 w65
            have xr2 := w65.2.2.2.1
            obtain ⟨lq, hlq⟩ := w65.2.2.2.2
            have s := s.law r65 hlq
            obtain ⟨fp, p1, w, v, tp, gr, ⟨lx, la⟩, ro, ri, Gx, gl⟩ := id s; have w1 := w.1; have sh := w.2.1; have se := w.2.2.1; obtain ⟨Ts, ps, st, ste⟩ := w.2.2.2.1; have sa := w.2.2.2.2.1; have sh1 := sh.1; have se1 := se.1; have st1 := st.1; have sa1 := sa.1; obtain ⟨tl, la1⟩ := la.ob; have gl1 := gl.1; have bk0 := se.2.2; have bk1 := bk0.1
            refine BX12_allSaidBy_68 (by first | assumption | exact up_at _ _ _ | (rw [up_ne (by omega)]; first | assumption | exact up_at _ _ _ | (rw [up_ne (by omega)]; first | assumption | exact up_at _ _ _ | (rw [up_ne (by omega)]; assumption)))) (by rfl) (by first | assumption | exact up_at _ _ _ | (rw [up_ne (by omega)]; first | assumption | exact up_at _ _ _ | (rw [up_ne (by omega)]; first | assumption | exact up_at _ _ _ | (rw [up_ne (by omega)]; assumption)))) (by rfl) (by first | assumption | exact up_at _ _ _ | (rw [up_ne (by omega)]; first | assumption | exact up_at _ _ _ | (rw [up_ne (by omega)]; first | assumption | exact up_at _ _ _ | (rw [up_ne (by omega)]; assumption)))) ?_
            refine R_X5_saidComes (by first | omega | assumption | (simp only [Ls_len]; omega) | exact Ls_get (by omega) (by omega) | rfl | decide) (by first | omega | assumption | (simp only [Ls_len]; omega) | exact Ls_get (by omega) (by omega) | rfl | decide) (by first | omega | assumption | (simp only [Ls_len]; omega) | exact Ls_get (by omega) (by omega) | rfl | decide) (by first | omega | assumption | (simp only [Ls_len]; omega) | exact Ls_get (by omega) (by omega) | rfl | decide) ?_
            refine BX12_allSaidBy_79  ?_ ?_
            · intro hc4
              refine BX12_allSaidBy_84 (by first | omega | assumption | (simp only [Ls_len]; omega) | exact Ls_get (by omega) (by omega) | rfl | decide) ?_
              first
              | (rw [if_neg (by omega)] at k; exact ih _ _ _ (by omega) (by omega) s xr k)
              | (rw [if_pos (by omega), if_pos (by omega)] at k; exact ih _ _ _ (by omega) (by omega) s xr2 k)
              | (exfalso; omega)
            · intro hc5
              refine BX12_allSaidBy_82  ?_
              (rw [if_pos (by omega), if_neg (by omega)] at k; exact k _ s)
          · intro hc6
            exact absurd hc6 (by decide)
        · intro w3
          refine BX12_allSaidBy_39  ?_ ?_
          · intro hc7
            exact absurd hc7 (by decide)
          · intro hc8
            refine BX12_allSaidBy_42 (by first | omega | assumption | (simp only [Ls_len]; omega) | exact Ls_get (by omega) (by omega) | rfl | decide) ?_
            first
            | (rw [if_neg (by omega)] at k; exact ih _ _ _ (by omega) (by omega) s xr k)
            | (rw [if_pos (by omega), if_pos (by omega)] at k; exact ih _ _ _ (by omega) (by omega) s xr2 k)
            | (exfalso; omega)
  obtain ⟨fp, p1, w, v, tp, gr, ⟨lx, la⟩, ro, ri, Gx, gl⟩ := id s; have w1 := w.1; have sh := w.2.1; have se := w.2.2.1; obtain ⟨Ts, ps, st, ste⟩ := w.2.2.2.1; have sa := w.2.2.2.2.1; have sh1 := sh.1; have se1 := se.1; have st1 := st.1; have sa1 := sa.1; obtain ⟨tl, la1⟩ := la.ob; have gl1 := gl.1; have bk0 := se.2.2; have bk1 := bk0.1
  obtain ⟨o1, o2, o3, o4, o5⟩ := id ok; have o11 := o1.1; have o21 := o2.1; have o51 := o5.1; have o52 := o5.2.1; have o53 := o5.2.2.1; have o54 := o5.2.2.2.1
  refine BX12_allSaidBy_0  ?_
  exact loop (W 2 54).toNat 0 none h (by omega) (by omega) s xr k
theorem P_whose (s : IsPo g h W V X F) (ok : okW W) (k : ∀ h1, IsPo g h1 W V X F → Q (some (vI (aWhose W X))) h1 n) : Rn (d + 30) bc bs mX12_whose 0 [some (vR (some 1)), none, none] [] h n Q := by
  have loop : ∀ (m : Nat) (i a : Int) (h1 : aH), 0 ≤ i → i + m = W 3 1 → IsPo g h1 W V X F → (∀ h2, IsPo g h2 W V X F → Q (some (vI (whoN W X m i a))) h2 n) → Rn (d + 30) bc bs mX12_whose 4 [some (vR (some 1)), some (vI a), some (vI i)] [] h1 n Q := by
    intro m
    induction m with
    | zero =>
      intro i a h1 i0 i1 s k
      obtain ⟨fp, p1, w, v, tp, gr, ⟨lx, la⟩, ro, ri, Gx, gl⟩ := id s; have w1 := w.1; have sh := w.2.1; have se := w.2.2.1; obtain ⟨Ts, ps, st, ste⟩ := w.2.2.2.1; have sa := w.2.2.2.2.1; have sh1 := sh.1; have se1 := se.1; have st1 := st.1; have sa1 := sa.1; obtain ⟨tl, la1⟩ := la.ob; have gl1 := gl.1; have bk0 := se.2.2; have bk1 := bk0.1
      obtain ⟨o1, o2, o3, o4, o5⟩ := id ok; have o11 := o1.1; have o21 := o2.1; have o51 := o5.1; have o52 := o5.2.1; have o53 := o5.2.2.1; have o54 := o5.2.2.2.1
      refine BX12_whose_4 (by first | assumption | exact up_at _ _ _ | (rw [up_ne (by omega)]; first | assumption | exact up_at _ _ _ | (rw [up_ne (by omega)]; first | assumption | exact up_at _ _ _ | (rw [up_ne (by omega)]; assumption)))) (by rfl) (by first | assumption | exact up_at _ _ _ | (rw [up_ne (by omega)]; first | assumption | exact up_at _ _ _ | (rw [up_ne (by omega)]; first | assumption | exact up_at _ _ _ | (rw [up_ne (by omega)]; assumption)))) (by rfl) ?_ ?_
      · intro hc1
        first
        | (exfalso; omega)
        | (
            refine BX12_whose_42  ?_
            exact k _ s
          )
      · intro hc2
        first
        | (exfalso; omega)
        | (
            (exfalso; omega)
          )
    | succ m ih =>
      intro i a h1 i0 i1 s k
      have q1 := saidN_01 (W := W) (T := textX W X i) (W 2 54).toNat 0
      unfold whoN at k
      obtain ⟨fp, p1, w, v, tp, gr, ⟨lx, la⟩, ro, ri, Gx, gl⟩ := id s; have w1 := w.1; have sh := w.2.1; have se := w.2.2.1; obtain ⟨Ts, ps, st, ste⟩ := w.2.2.2.1; have sa := w.2.2.2.2.1; have sh1 := sh.1; have se1 := se.1; have st1 := st.1; have sa1 := sa.1; obtain ⟨tl, la1⟩ := la.ob; have gl1 := gl.1; have bk0 := se.2.2; have bk1 := bk0.1
      obtain ⟨o1, o2, o3, o4, o5⟩ := id ok; have o11 := o1.1; have o21 := o2.1; have o51 := o5.1; have o52 := o5.2.1; have o53 := o5.2.2.1; have o54 := o5.2.2.2.1
      refine BX12_whose_4 (by first | assumption | exact up_at _ _ _ | (rw [up_ne (by omega)]; first | assumption | exact up_at _ _ _ | (rw [up_ne (by omega)]; first | assumption | exact up_at _ _ _ | (rw [up_ne (by omega)]; assumption)))) (by rfl) (by first | assumption | exact up_at _ _ _ | (rw [up_ne (by omega)]; first | assumption | exact up_at _ _ _ | (rw [up_ne (by omega)]; first | assumption | exact up_at _ _ _ | (rw [up_ne (by omega)]; assumption)))) (by rfl) ?_ ?_
      · intro hc1
        (exfalso; omega)
      · intro hc2
        refine BX12_whose_15 (by first | assumption | exact up_at _ _ _ | (rw [up_ne (by omega)]; first | assumption | exact up_at _ _ _ | (rw [up_ne (by omega)]; first | assumption | exact up_at _ _ _ | (rw [up_ne (by omega)]; assumption)))) (by rfl) (by first | assumption | exact up_at _ _ _ | (rw [up_ne (by omega)]; first | assumption | exact up_at _ _ _ | (rw [up_ne (by omega)]; first | assumption | exact up_at _ _ _ | (rw [up_ne (by omega)]; assumption)))) ?_
        refine R_X11_textOf (by first | omega | assumption | (simp only [Ls_len]; omega) | exact Ls_get (by omega) (by omega) | rfl | decide) (by first | omega | assumption | (simp only [Ls_len]; omega) | exact Ls_get (by omega) (by omega) | rfl | decide) (by first | omega | assumption | (simp only [Ls_len]; omega) | exact Ls_get (by omega) (by omega) | rfl | decide) ?_
        intro r21 x21
        refine BX12_whose_24 (by first | assumption | exact up_at _ _ _ | (rw [up_ne (by omega)]; first | assumption | exact up_at _ _ _ | (rw [up_ne (by omega)]; first | assumption | exact up_at _ _ _ | (rw [up_ne (by omega)]; assumption)))) ?_
        refine P_allSaidBy (by first | omega | assumption | (simp only [Ls_len]; omega) | exact Ls_get (by omega) (by omega) | rfl | decide) (by first | omega | assumption | (simp only [Ls_len]; omega) | exact Ls_get (by omega) (by omega) | rfl | decide) (by first | omega | assumption | (simp only [Ls_len]; omega) | exact Ls_get (by omega) (by omega) | rfl | decide) ?_
        intro h24 s24
        refine BX12_whose_27  ?_ ?_
        · intro hc3
          refine BX12_whose_36 (by first | omega | assumption | (simp only [Ls_len]; omega) | exact Ls_get (by omega) (by omega) | rfl | decide) ?_
          first
          | (rw [if_pos (by assumption)] at k; exact ih _ _ _ (by omega) (by omega) (by assumption) k)
          | (rw [if_neg (by assumption)] at k; exact ih _ _ _ (by omega) (by omega) (by assumption) k)
        · intro hc4
          refine BX12_whose_30 (by first | omega | assumption | (simp only [Ls_len]; omega) | exact Ls_get (by omega) (by omega) | rfl | decide) ?_
          first
          | (rw [if_pos (by assumption)] at k; exact ih _ _ _ (by omega) (by omega) (by assumption) k)
          | (rw [if_neg (by assumption)] at k; exact ih _ _ _ (by omega) (by omega) (by assumption) k)
  obtain ⟨fp, p1, w, v, tp, gr, ⟨lx, la⟩, ro, ri, Gx, gl⟩ := id s; have w1 := w.1; have sh := w.2.1; have se := w.2.2.1; obtain ⟨Ts, ps, st, ste⟩ := w.2.2.2.1; have sa := w.2.2.2.2.1; have sh1 := sh.1; have se1 := se.1; have st1 := st.1; have sa1 := sa.1; obtain ⟨tl, la1⟩ := la.ob; have gl1 := gl.1; have bk0 := se.2.2; have bk1 := bk0.1
  obtain ⟨o1, o2, o3, o4, o5⟩ := id ok; have o11 := o1.1; have o21 := o2.1; have o51 := o5.1; have o52 := o5.2.1; have o53 := o5.2.2.1; have o54 := o5.2.2.2.1
  refine BX12_whose_0  ?_
  exact loop (W 3 1).toNat 0 0 h (by omega) (by omega) s k
end WHOSE
