/-! A text stays where it lies; played. -/
def pinG (g h : aH) : aH := fun x => if 317 ≤ x then h x else g x
section PIN
variable {g h h1 : aH} {W V W2 V2 : Int → Int → Int} {X X2 : Int → Tx} {F F2 : Int → Int}
theorem IsPo.pin (s : IsPo g h W V X F) : IsPo (pinG g h) h W V X F :=
  ⟨⟨fun x hx => (s.1.1 x hx).trans (if_neg (by omega)).symm, fun x hx _ => (if_pos hx).symm⟩, s.2⟩
theorem IsPo.unpin (p : FP g h) (s : IsPo (pinG g h) h1 W V X F) : IsPo g h1 W V X F := by
  refine ⟨⟨fun x hx => (s.1.1 x hx).trans (if_neg (by omega)), fun x hx hg => ?_⟩, s.2⟩
  have e : pinG g h x = h x := if_pos hx
  have e2 := p.2 x hx hg
  have e3 := s.1.2 x hx (by rw [e, e2]; exact hg)
  rw [e3, e, e2]
theorem IsTx.pin {x : Nat} {T : Tx} (tx : IsTx h x T) (p : FP (pinG g h) h1) : IsTx h1 x T := by
  have h9 : ∃ h2 : aH, h2 = fun y => if 317 ≤ y then h y else h1 y := ⟨_, rfl⟩
  obtain ⟨h2, eh⟩ := h9
  have hi : ∀ y, 317 ≤ y → h2 y = h y := fun y hy => by rw [eh]; exact if_pos hy
  have ex : Ex h2 h1 := fun y hy => by
    by_cases q : 317 ≤ y
    · rw [hi y q] at hy ⊢
      have e : pinG g h y = h y := if_pos q
      exact (p.2 y q (by rw [e]; exact hy)).trans e
    · rw [eh]; exact (if_neg q).symm
  exact (tx.hi hi).ext ex
end PIN
theorem playN_ok {X : Int → Tx} {T : Tx} : ∀ m (i : Int) (W : Int → Int → Int), okW W → okW (playN X T m i W).1 ∧ sameT W (playN X T m i W).1 := by
  intro m
  induction m with
  | zero => intro i W ok; exact ⟨ok, rfl, rfl⟩
  | succ m ih =>
    intro i W ok
    unfold playN
    have a := plT_ok (X := X) (T := T) (i := i) ok
    have b := plT_t (X := X) (T := T) (W := W) (i := i)
    split
    · exact ⟨a, b⟩
    · have c := ih (i + 1) _ a
      exact ⟨c.1, c.2.1.trans b.1, c.2.2.trans b.2⟩
section PLAYED2
variable {d bc bs n : Nat} {g h : aH} {Q : aQ} {W V : Int → Int → Int} {X : Int → Tx} {F : Int → Int}
theorem P_played {t : Int} (s : IsPo g h W V X F) (ok : okW W) (ox : okX W X) (k : ∀ h1, IsPo g h1 (sPlayed X W t) V X F → Q (some (vI (aPlayed X W t))) h1 n) : Rn (d + 30) bc bs mX12_played 0 [some (vR (some 1)), some (vI t), none, none, none] [] h n Q := by
  have p0 := s.1
  have loop : ∀ (m : Nat) (i : Int) (x : Nat) (W1 : Int → Int → Int) (h1 : aH), 0 ≤ i → i + m = (X t).1 → okTx (X t) → IsTx h x (X t) → okW W1 → IsPo (pinG g h) h1 W1 V X F → (∀ h2, IsPo g h2 (playN X (X t) m i W1).1 V X F → Q (some (vI (playN X (X t) m i W1).2)) h2 n) → Rn (d + 30) bc bs mX12_played 24 [some (vR (some 1)), some (vI t), some (vR (some x)), some (vI (X t).1), some (vI i)] [] h1 n Q := by
    intro m
    induction m with
    | zero =>
      intro i x W1 h1 i0 i1 tk tx ok s k
      obtain ⟨fp, p1, w, v, tp, gr, ⟨lx, la⟩, ro, ri, Gx, gl⟩ := id s; have w1 := w.1; have sh := w.2.1; have se := w.2.2.1; obtain ⟨Ts, ps, st, ste⟩ := w.2.2.2.1; have sa := w.2.2.2.2.1; have sh1 := sh.1; have se1 := se.1; have st1 := st.1; have sa1 := sa.1; obtain ⟨tl, la1⟩ := la.ob; have gl1 := gl.1; have bk0 := se.2.2; have bk1 := bk0.1
      refine BX12_played_24  ?_ ?_
      · intro hc1
        first
        | (exfalso; omega)
        | (
            refine BX12_played_49  ?_
            exact k _ (s.unpin p0)
          )
      · intro hc2
        first
        | (exfalso; omega)
        | (
            (exfalso; omega)
          )
    | succ m ih =>
      intro i x W1 h1 i0 i1 tk tx ok s k
      have tx1 := tx.pin s.1
      have tk1 := tk.1
      have a := plT_ok (X := X) (T := X t) (i := i) ok
      unfold playN at k
      obtain ⟨fp, p1, w, v, tp, gr, ⟨lx, la⟩, ro, ri, Gx, gl⟩ := id s; have w1 := w.1; have sh := w.2.1; have se := w.2.2.1; obtain ⟨Ts, ps, st, ste⟩ := w.2.2.2.1; have sa := w.2.2.2.2.1; have sh1 := sh.1; have se1 := se.1; have st1 := st.1; have sa1 := sa.1; obtain ⟨tl, la1⟩ := la.ob; have gl1 := gl.1; have bk0 := se.2.2; have bk1 := bk0.1
      refine BX12_played_24  ?_ ?_
      · intro hc1
        first
        | (exfalso; omega)
        | (
            (exfalso; omega)
          )
      · intro hc2
        first
        | (exfalso; omega)
        | (
            refine BX12_played_30 (by first | assumption | exact up_at _ _ _ | (rw [up_ne (by omega)]; first | assumption | exact up_at _ _ _ | (rw [up_ne (by omega)]; first | assumption | exact up_at _ _ _ | (rw [up_ne (by omega)]; assumption)))) ?_
            refine P_playClause (by first | omega | assumption | (simp only [Ls_len]; omega) | exact Ls_get (by omega) (by omega) | rfl | decide) (by first | omega | assumption | (simp only [Ls_len]; omega) | exact Ls_get (by omega) (by omega) | rfl | decide) (by first | omega | assumption | (simp only [Ls_len]; omega) | exact Ls_get (by omega) (by omega) | rfl | decide) (by first | omega | assumption | (simp only [Ls_len]; omega) | exact Ls_get (by omega) (by omega) | rfl | decide) (by first | omega | assumption | (simp only [Ls_len]; omega) | exact Ls_get (by omega) (by omega) | rfl | decide) (by first | omega | assumption | (simp only [Ls_len]; omega) | exact Ls_get (by omega) (by omega) | rfl | decide) ?_
            intro h34 s34
            refine BX12_played_37  ?_ ?_
            · intro hc3
              first
              | (exfalso; omega)
              | (
                  refine BX12_played_43 (by first | omega | assumption | (simp only [Ls_len]; omega) | exact Ls_get (by omega) (by omega) | rfl | decide) ?_
                  rw [if_neg (by assumption)] at k
                  exact ih (i + 1) x _ _ (by omega) (by omega) tk tx a (by assumption) k
                )
            · intro hc4
              first
              | (exfalso; omega)
              | (
                  refine BX12_played_40  ?_
                  (rw [if_pos (by assumption)] at k; exact k _ (IsPo.unpin p0 (by assumption)))
                )
          )
  obtain ⟨fp, p1, w, v, tp, gr, ⟨lx, la⟩, ro, ri, Gx, gl⟩ := id s; have w1 := w.1; have sh := w.2.1; have se := w.2.2.1; obtain ⟨Ts, ps, st, ste⟩ := w.2.2.2.1; have sa := w.2.2.2.2.1; have sh1 := sh.1; have se1 := se.1; have st1 := st.1; have sa1 := sa.1; obtain ⟨tl, la1⟩ := la.ob; have gl1 := gl.1; have bk0 := se.2.2; have bk1 := bk0.1
  obtain ⟨o1, o2, o3, o4, o5⟩ := id ok; have o11 := o1.1; have o21 := o2.1; have o51 := o5.1; have o52 := o5.2.1; have o53 := o5.2.2.1; have o54 := o5.2.2.2.1
  have at16 : ∀ x : Nat, (0 ≤ t ∧ t < W 3 1) → IsTx h x (X t) → Rn (d + 30) bc bs mX12_played 16 [some (vR (some 1)), some (vI t), some (vR (some x)), none, none] [] h n Q := by
    intro x tt tx
    have tk := ox t tt.1 tt.2
    have tk1 := tk.1.1
    obtain ⟨_, rc, oc, ow, mm, y2, y3, y4, y5, y6, y7, y8⟩ := id tx
    unfold sPlayed aPlayed at k
    rw [if_pos tt, if_pos tt] at k
    refine BX12_played_16 (by first | assumption | exact up_at _ _ _ | (rw [up_ne (by omega)]; first | assumption | exact up_at _ _ _ | (rw [up_ne (by omega)]; first | assumption | exact up_at _ _ _ | (rw [up_ne (by omega)]; assumption)))) ?_
    refine R_X10_countClauses (by first | omega | assumption | (simp only [Ls_len]; omega) | exact Ls_get (by omega) (by omega) | rfl | decide) ?_
    refine BX12_played_20  ?_
    exact loop (X t).1.toNat 0 x W h (by omega) (by omega) tk tx ok s.pin k
  refine BX12_played_0 (by first | assumption | exact up_at _ _ _ | (rw [up_ne (by omega)]; first | assumption | exact up_at _ _ _ | (rw [up_ne (by omega)]; first | assumption | exact up_at _ _ _ | (rw [up_ne (by omega)]; assumption)))) (by rfl) (by first | assumption | exact up_at _ _ _ | (rw [up_ne (by omega)]; first | assumption | exact up_at _ _ _ | (rw [up_ne (by omega)]; first | assumption | exact up_at _ _ _ | (rw [up_ne (by omega)]; assumption)))) ?_
  refine R_X11_textOf (by first | omega | assumption | (simp only [Ls_len]; omega) | exact Ls_get (by omega) (by omega) | rfl | decide) (by first | omega | assumption | (simp only [Ls_len]; omega) | exact Ls_get (by omega) (by omega) | rfl | decide) (by first | omega | assumption | (simp only [Ls_len]; omega) | exact Ls_get (by omega) (by omega) | rfl | decide) ?_
  intro r5 x5
  refine BX12_played_8  ?_ ?_
  · intro ahc1 hc1
    cases hc1
    all_goals
    (
      by_cases tt : 0 ≤ t ∧ t < W 3 1
      · rw [textX, if_pos tt] at x5
        exact at16 _ tt x5
      · exfalso
        rw [textX, if_neg tt] at x5
        exact x5
    )
  · intro hc2
    cases hc2
    all_goals
    (
      refine BX12_played_13  ?_
      unfold sPlayed aPlayed at k
      by_cases tt : 0 ≤ t ∧ t < W 3 1
      · exfalso
        rw [textX, if_pos tt] at x5
        exact x5
      · rw [if_neg tt, if_neg tt] at k
        exact k _ s
    )
end PLAYED2
