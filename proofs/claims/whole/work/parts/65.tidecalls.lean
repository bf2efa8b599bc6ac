/-! Tides, years, what is foretold. -/
def passW (X : Int → Tx) (W : Int → Int → Int) : (Int → Int) × Int := passM (coOf (ruX W X)) (weOf (ruX W X)) (W 3 3) (W 0) (W 5) (W 6) (W 1)
def tideW (X : Int → Tx) (W : Int → Int → Int) : (Int → Int → Int) × Int := (fset (keepM W) 1 (passW X (keepM W)).1, (passW X (keepM W)).2)
def tidesM (X : Int → Tx) (W : Int → Int → Int) : Nat → (Int → Int → Int) × Int
  | 0 => (W, 0)
  | k + 1 => if (tidesM X W k).1 1 73 < 9999 then ((tideW X (tidesM X W k).1).1, (tidesM X W k).2 + (tideW X (tidesM X W k).1).2) else tidesM X W k
def aTide (X : Int → Tx) (W : Int → Int → Int) (n : Int) : Int := if 1 ≤ n ∧ n ≤ 60 ∧ W 1 73 + n ≤ 9999 then (tidesM X W n.toNat).2 else -1
def sTide (X : Int → Tx) (W : Int → Int → Int) (n : Int) : Int → Int → Int := if 1 ≤ n ∧ n ≤ 60 ∧ W 1 73 + n ≤ 9999 then (tidesM X W n.toNat).1 else W
def liveM (X : Int → Tx) (W : Int → Int → Int) (x : Int) : Int → Int → Int :=
  if 4 ≤ x % 6 then (if W 1 73 < 9999 then fset W 1 (passW X W).1 else W)
  else if x % 6 = 3 then (if 0 < W 1 72 then sAgain 0 W (x % W 1 72) else W)
  else if x % 6 = 2 then (if 0 < W 1 72 ∧ 0 < W 3 3 then sFish 0 W (x % W 1 72) (x / 6 % W 3 3) else W)
  else if 0 < W 3 3 then sToss 0 W (x % W 3 3) (x / 6 % W 3 3) (1 + x % 30) else W
def yearsM (X : Int → Tx) (W : Int → Int → Int) : Nat → Int → Int → Int
  | 0 => W
  | k + 1 => liveM X (fset (yearsM X W k) 1 (drM (yearsM X W k 1))) (yearsM X W k 1 74)
def seedW (W : Int → Int → Int) (z : Int) : Int → Int → Int := fset (keepM W) 1 (fset (W 1) 74 (z * 2 + 227))
def sYears (X : Int → Tx) (W : Int → Int → Int) (z n : Int) : Int → Int → Int := if 0 ≤ z ∧ z ≤ 9999 ∧ 1 ≤ n ∧ n ≤ 40 then yearsM X (seedW W z) n.toNat else W
def aYears (X : Int → Tx) (W : Int → Int → Int) (z n : Int) : Int := if 0 ≤ z ∧ z ≤ 9999 ∧ 1 ≤ n ∧ n ≤ 40 then yearsM X (seedW W z) n.toNat 1 73 else -1
def foreS (X : Int → Tx) (W : Int → Int → Int) : Nat → Int → Int
  | 0 => W 1
  | k + 1 => if foreS X W k 73 < 9999 then (passW X (fset W 1 (foreS X W k))).1 else foreS X W k
def aForetold (X : Int → Tx) (W : Int → Int → Int) (n b w : Int) : Int := if 1 ≤ n ∧ n ≤ 60 ∧ 0 ≤ b ∧ b < W 1 72 ∧ 0 ≤ w ∧ w ≤ 2 then foreS X W n.toNat (b * 6 + (2 + w)) else -1
def endsM (X : Int → Tx) (W : Int → Int → Int) (b : Int) : Nat → Int → (Int → Int) → Int
  | 0, _, _ => -1
  | m + 1, i, S => if S 73 < 9999 then (if (passW X (fset W 1 S)).1 (b * 6 + 4) = 0 then endsM X W b m (i + 1) (passW X (fset W 1 S)).1 else i) else -1
def aEnds (X : Int → Tx) (W : Int → Int → Int) (b : Int) : Int := if 0 ≤ b ∧ b < W 1 72 ∧ W 1 (b * 6 + 4) = 0 then endsM X W b 60 1 (W 1) else -1
theorem okW_sea {W : Int → Int → Int} {S : Int → Int} (ok : okW W) (q : okSe (W 3 3) S) : okW (fset W 1 S) := by
  obtain ⟨o1, o2, o3, o4, o5⟩ := ok
  refine ⟨o1, q, o3, fun j j0 j1 => ?_, o5⟩
  show okSe (W 3 3) (fset W 1 S (10 + j))
  rw [fset_ne (show 10 + j ≠ 1 by omega)]
  exact o4 j j0 j1
theorem okW_keep {W : Int → Int → Int} (ok : okW W) : okW (keepM W) := by
  obtain ⟨o1, o2, o3, o4, o5⟩ := ok
  refine ⟨o1, o2, ?_, fun j j0 j1 => ?_, o5⟩
  · have e : keepM W 3 0 = stLen (W 3 0) := rfl
    have e1 : keepM W 3 1 = W 3 1 := rfl
    have e2 : keepM W 3 2 = W 3 2 := rfl
    rw [e, e1, e2]
    unfold stLen
    split <;> omega
  · have j1 : j < stLen (W 3 0) := j1
    have e : keepM W (10 + j) = stKeep (W 3 0) (fun j => W (10 + j)) (W 1) j := by
      show (if 10 + j = 3 then _ else if 10 ≤ 10 + j then _ else _) = _
      rw [if_neg (by omega), if_pos (by omega), show 10 + j - 10 = j by omega]
    rw [e]
    show okSe (W 3 3) _
    unfold stLen at j1
    unfold stKeep
    by_cases q : 30 ≤ W 3 0
    · rw [if_pos q] at j1 ⊢
      by_cases w : j = 29
      · subst w; rw [fset_at]; exact o2
      · rw [fset_ne w]; unfold rot; rw [if_neg w]; exact o4 _ (by omega) (by omega)
    · rw [if_neg q] at j1 ⊢
      by_cases w : j = W 3 0
      · subst w; rw [fset_at]; exact o2
      · rw [fset_ne w]; exact o4 _ (by omega) (by omega)
theorem passW_ok {X : Int → Tx} {W : Int → Int → Int} (ok : okW W) (ht : W 1 73 < 9999) : okSe (W 3 3) (passW X W).1 ∧ (passW X W).1 72 = W 1 72 ∧ (passW X W).1 73 = W 1 73 + 1 ∧ 0 ≤ (passW X W).2 ∧ (passW X W).2 ≤ 12 := passM_ok ok.1 ok.2.1 ht
theorem tideW_ok {X : Int → Tx} {W : Int → Int → Int} (ok : okW W) (ht : W 1 73 < 9999) : okW (tideW X W).1 ∧ (tideW X W).1 1 73 = W 1 73 + 1 ∧ 0 ≤ (tideW X W).2 ∧ (tideW X W).2 ≤ 12 := by
  have p := passW_ok (X := X) (okW_keep ok) ht
  exact ⟨okW_sea (okW_keep ok) p.1, p.2.2.1, p.2.2.2⟩
theorem tidesM_ok {X : Int → Tx} {W : Int → Int → Int} (ok : okW W) : ∀ k : Nat, okW (tidesM X W k).1 ∧ 0 ≤ (tidesM X W k).2 ∧ (tidesM X W k).2 ≤ 12 * k ∧ ((tidesM X W k).1 1 73 = W 1 73 + k ∨ (tidesM X W k).1 1 73 = 9999) := by
  intro k
  induction k with
  | zero => exact ⟨ok, z00, z00, .inl (Int.add_zero _).symm⟩
  | succ k ih =>
    obtain ⟨i1, i2, i3, i4⟩ := ih
    unfold tidesM
    split
    · have t := tideW_ok (X := X) i1 (by assumption)
      refine ⟨t.1, ?_, ?_, ?_⟩ <;> dsimp only <;> omega
    · have := i1.2.1.1
      exact ⟨i1, i2, by omega, .inr (by omega)⟩
theorem tidesM_stuck {X : Int → Tx} {W : Int → Int → Int} {k : Nat} (h : ¬ (tidesM X W k).1 1 73 < 9999) : ∀ m, tidesM X W (k + m) = tidesM X W k := by
  intro m
  induction m with
  | zero => rfl
  | succ m ih =>
    have e : tidesM X W (k + (m + 1)) = if (tidesM X W (k + m)).1 1 73 < 9999 then ((tideW X (tidesM X W (k + m)).1).1, (tidesM X W (k + m)).2 + (tideW X (tidesM X W (k + m)).1).2) else tidesM X W (k + m) := rfl
    rw [e, ih, if_neg h]
theorem Fr.symm {h h1 : aH} {lo k : Nat} (f : Fr h h1 lo k) : Fr h1 h lo k := fun x hx => (f x hx).symm
theorem IsPo.lw {g h : aH} {W V : Int → Int → Int} {X : Int → Tx} {F : Int → Int} {r : Option Nat} (s : IsPo g h W V X F) (x : IsR h r (textX W X (W 3 2))) : LwH h 287 (2 + 5) (2 + 1) r (ruX W X) (W 3 3) (W 0) (W 5) (W 6) (W 1) :=
  ⟨by decide, s.2.2.1.2.2.1, s.2.2.1.2.1, x, s.2.2.2.2.2.2.1⟩
theorem IsPo.lg {g h : aH} {W V : Int → Int → Int} {X : Int → Tx} {F G : Int → Int} {r : Option Nat} (s : IsPo g h W V X F) (e : IsSe h 297 G) (x : IsR h r (textX W X (W 3 2))) : LwH h 287 297 (2 + 1) r (ruX W X) (W 3 3) (W 0) (W 5) (W 6) G :=
  ⟨by decide, e, s.2.2.1.2.1, x, s.2.2.2.2.2.2.1⟩
theorem IsPo.pas {g h h1 : aH} {W V : Int → Int → Int} {X : Int → Tx} {F S : Int → Int} {z : Nat} {r : Option Nat} {T : Option Tx} {np : Int} {pl lk cu : Int → Int} (s : IsPo g h W V X F) (f : Fr2 h h1 (2 + 5) 4 287 2) (w : LwH h1 287 (2 + 5) z r T np pl lk cu S) : IsPo g h1 (fset W 1 S) V X F := by
  obtain ⟨h2, f1, f2⟩ := f.split
  obtain ⟨l, hl⟩ := w.2.2.2.2
  exact (s.sea f1 (w.2.1.fr f2.symm (by decide))).law f2 hl
theorem IsPo.pag {g h h1 : aH} {W V : Int → Int → Int} {X : Int → Tx} {F S : Int → Int} {z : Nat} {r : Option Nat} {T : Option Tx} {np : Int} {pl lk cu : Int → Int} (s : IsPo g h W V X F) (f : Fr2 h h1 297 4 287 2) (w : LwH h1 287 297 z r T np pl lk cu S) : IsPo g h1 W V X F := by
  obtain ⟨h2, f1, f2⟩ := f.split
  obtain ⟨l, hl⟩ := w.2.2.2.2
  exact (s.gla f1 (w.2.1.fr f2.symm (by decide))).law f2 hl
section CALLS4
variable {d bc bs n : Nat} {g h : aH} {Q : aQ} {W V : Int → Int → Int} {X : Int → Tx} {F : Int → Int}
theorem P_passTides {m : Int} (s : IsPo g h W V X F) (ok : okW W) (m0 : 0 ≤ m) (m1 : m ≤ 60) (k : ∀ h1, IsPo g h1 (tidesM X W m.toNat).1 V X F → Q (some (vI (tidesM X W m.toNat).2)) h1 n) : Rn (d + 20) bc bs mX12_passTides 0 [some (vR (some 1)), some (vI m), none, none] [] h n Q := by
  have loop : ∀ (j i : Nat) (h1 : aH), (i : Int) + j = m → IsPo g h1 (tidesM X W i).1 V X F → Rn (d + 20) bc bs mX12_passTides 4 [some (vR (some 1)), some (vI m), some (vI (tidesM X W i).2), some (vI i)] [] h1 n Q := by
    intro j
    induction j with
    | zero =>
      intro i h1 hi s
      have e : i = m.toNat := by omega
      subst e
      obtain ⟨fp, p1, w, v, tp, gr, ⟨lx, la⟩, ro, ri, Gx, gl⟩ := id s; have w1 := w.1; have sh := w.2.1; have se := w.2.2.1; obtain ⟨Ts, ps, st, ste⟩ := w.2.2.2.1; have sa := w.2.2.2.2.1; have sh1 := sh.1; have se1 := se.1; have st1 := st.1; have sa1 := sa.1; obtain ⟨tl, la1⟩ := la.ob; have gl1 := gl.1; have bk0 := se.2.2; have bk1 := bk0.1
      refine BX12_passTides_4  ?_ ?_
      · intro hc1
        first
        | (exfalso; omega)
        | (
            refine BX12_passTides_79  ?_
            exact k _ s
          )
      · intro hc2
        first
        | (exfalso; omega)
        | (
            (exfalso; omega)
          )
    | succ j ih =>
      intro i h1 hi s
      have t := tidesM_ok (X := X) ok i
      have ok := t.1
      have ih1 := ih (i + 1)
      obtain ⟨fp, p1, w, v, tp, gr, ⟨lx, la⟩, ro, ri, Gx, gl⟩ := id s; have w1 := w.1; have sh := w.2.1; have se := w.2.2.1; obtain ⟨Ts, ps, st, ste⟩ := w.2.2.2.1; have sa := w.2.2.2.2.1; have sh1 := sh.1; have se1 := se.1; have st1 := st.1; have sa1 := sa.1; obtain ⟨tl, la1⟩ := la.ob; have gl1 := gl.1; have bk0 := se.2.2; have bk1 := bk0.1
      obtain ⟨o1, o2, o3, o4, o5⟩ := id ok; have o11 := o1.1; have o21 := o2.1; have o51 := o5.1; have o52 := o5.2.1; have o53 := o5.2.2.1; have o54 := o5.2.2.2.1
      refine BX12_passTides_4  ?_ ?_
      · intro hc1
        refine BX12_passTides_79  ?_
        first
        | (exfalso; omega)
        | (have e9 := tidesM_stuck (X := X) (W := W) (k := i) (by omega) (m.toNat - i)
           rw [show i + (m.toNat - i) = m.toNat by omega] at e9
           rw [e9] at k
           exact k _ s)
      · intro hc2
        refine BX12_passTides_9 (by first | assumption | exact up_at _ _ _ | (rw [up_ne (by omega)]; first | assumption | exact up_at _ _ _ | (rw [up_ne (by omega)]; first | assumption | exact up_at _ _ _ | (rw [up_ne (by omega)]; assumption)))) (by rfl) (by first | assumption | exact up_at _ _ _ | (rw [up_ne (by omega)]; first | assumption | exact up_at _ _ _ | (rw [up_ne (by omega)]; first | assumption | exact up_at _ _ _ | (rw [up_ne (by omega)]; assumption)))) (by rfl) (by first | assumption | exact up_at _ _ _ | (rw [up_ne (by omega)]; first | assumption | exact up_at _ _ _ | (rw [up_ne (by omega)]; first | assumption | exact up_at _ _ _ | (rw [up_ne (by omega)]; assumption)))) (by rfl) ?_ ?_
        · intro hc3
          refine BX12_passTides_79  ?_
          first
          | (exfalso; omega)
          | (have e9 := tidesM_stuck (X := X) (W := W) (k := i) (by omega) (m.toNat - i)
             rw [show i + (m.toNat - i) = m.toNat by omega] at e9
             rw [e9] at k
             exact k _ s)
        · intro hc4
          refine BX12_passTides_25 (by first | assumption | exact up_at _ _ _ | (rw [up_ne (by omega)]; first | assumption | exact up_at _ _ _ | (rw [up_ne (by omega)]; first | assumption | exact up_at _ _ _ | (rw [up_ne (by omega)]; assumption)))) (by rfl) (by first | assumption | exact up_at _ _ _ | (rw [up_ne (by omega)]; first | assumption | exact up_at _ _ _ | (rw [up_ne (by omega)]; first | assumption | exact up_at _ _ _ | (rw [up_ne (by omega)]; assumption)))) (by rfl) (by rfl) (by first | assumption | exact up_at _ _ _ | (rw [up_ne (by omega)]; first | assumption | exact up_at _ _ _ | (rw [up_ne (by omega)]; first | assumption | exact up_at _ _ _ | (rw [up_ne (by omega)]; assumption)))) ?_
          refine R_X8_keep (by first | omega | assumption | (simp only [Ls_len]; omega) | exact Ls_get (by omega) (by omega) | rfl | decide) (by first | omega | assumption | (simp only [Ls_len]; omega) | exact Ls_get (by omega) (by omega) | rfl | decide) (by first | omega | assumption | (simp only [Ls_len]; omega) | exact Ls_get (by omega) (by omega) | rfl | decide) (by first | omega | assumption | (simp only [Ls_len]; omega) | exact Ls_get (by omega) (by omega) | rfl | decide) (by first | omega | assumption | (simp only [Ls_len]; omega) | exact Ls_get (by omega) (by omega) | rfl | decide) (by first | omega | assumption | (simp only [Ls_len]; omega) | exact Ls_get (by omega) (by omega) | rfl | decide) (by first | omega | assumption | (simp only [Ls_len]; omega) | exact Ls_get (by omega) (by omega) | rfl | decide) ?_
          intro h39 p39 r39 s39
          have s := s.keep (by omega) r39 s39 ste
          have ok := okW_keep ok
          obtain ⟨fp, p1, w, v, tp, gr, ⟨lx, la⟩, ro, ri, Gx, gl⟩ := id s; have w1 := w.1; have sh := w.2.1; have se := w.2.2.1; obtain ⟨Ts, ps, st, ste⟩ := w.2.2.2.1; have sa := w.2.2.2.2.1; have sh1 := sh.1; have se1 := se.1; have st1 := st.1; have sa1 := sa.1; obtain ⟨tl, la1⟩ := la.ob; have gl1 := gl.1; have bk0 := se.2.2; have bk1 := bk0.1
          obtain ⟨o1, o2, o3, o4, o5⟩ := id ok; have o11 := o1.1; have o21 := o2.1; have o51 := o5.1; have o52 := o5.2.1; have o53 := o5.2.2.1; have o54 := o5.2.2.2.1
          refine BX12_passTides_42 (by first | assumption | exact up_at _ _ _ | (rw [up_ne (by omega)]; first | assumption | exact up_at _ _ _ | (rw [up_ne (by omega)]; first | assumption | exact up_at _ _ _ | (rw [up_ne (by omega)]; assumption)))) (by rfl) (by rfl) (by first | assumption | exact up_at _ _ _ | (rw [up_ne (by omega)]; first | assumption | exact up_at _ _ _ | (rw [up_ne (by omega)]; first | assumption | exact up_at _ _ _ | (rw [up_ne (by omega)]; assumption)))) (by rfl) (by rfl) ?_
          refine R_X11_rules (by first | omega | assumption | (simp only [Ls_len]; omega) | exact Ls_get (by omega) (by omega) | rfl | decide) (by first | omega | assumption | (simp only [Ls_len]; omega) | exact Ls_get (by omega) (by omega) | rfl | decide) (by first | omega | assumption | (simp only [Ls_len]; omega) | exact Ls_get (by omega) (by omega) | rfl | decide) ?_
          intro r65 x65
          have lw := s.lw x65
          have pq : 0 ≤ (passM (coOf (ruX (keepM (tidesM X W i).1) X)) (weOf (ruX (keepM (tidesM X W i).1) X)) (keepM (tidesM X W i).1 3 3) (keepM (tidesM X W i).1 0) (keepM (tidesM X W i).1 5) (keepM (tidesM X W i).1 6) (keepM (tidesM X W i).1 1)).2 ∧ (passM (coOf (ruX (keepM (tidesM X W i).1) X)) (weOf (ruX (keepM (tidesM X W i).1) X)) (keepM (tidesM X W i).1 3 3) (keepM (tidesM X W i).1 0) (keepM (tidesM X W i).1 5) (keepM (tidesM X W i).1 6) (keepM (tidesM X W i).1 1)).2 ≤ 12 := (passW_ok (X := X) ok (by assumption)).2.2.2
          refine BX12_passTides_68 (by first | assumption | exact up_at _ _ _ | (rw [up_ne (by omega)]; first | assumption | exact up_at _ _ _ | (rw [up_ne (by omega)]; first | assumption | exact up_at _ _ _ | (rw [up_ne (by omega)]; assumption)))) ?_
          refine R_X2_passTide (by first | omega | assumption | (simp only [Ls_len]; omega) | exact Ls_get (by omega) (by omega) | rfl | decide) (by first | omega | assumption | (simp only [Ls_len]; omega) | exact Ls_get (by omega) (by omega) | rfl | decide) (by first | omega | assumption | (simp only [Ls_len]; omega) | exact Ls_get (by omega) (by omega) | rfl | decide) ?_
          intro h68 r68 w68
          refine BX12_passTides_71 (by first | omega | assumption | (simp only [Ls_len]; omega) | exact Ls_get (by omega) (by omega) | rfl | decide) (by first | omega | assumption | (simp only [Ls_len]; omega) | exact Ls_get (by omega) (by omega) | rfl | decide) ?_
          have z := s.pas r68 w68
          have e9 : tidesM X W (i + 1) = ((tideW X (tidesM X W i).1).1, (tidesM X W i).2 + (tideW X (tidesM X W i).1).2) := by rw [tidesM, if_pos (by assumption)]
          rw [e9] at ih1
          exact ih1 _ (by omega) z
  refine BX12_passTides_0  ?_
  exact loop m.toNat 0 h (by omega) s
theorem P_tide {m : Int} (s : IsPo g h W V X F) (ok : okW W) (k : ∀ h1, IsPo g h1 (sTide X W m) V X F → Q (some (vI (aTide X W m))) h1 n) : Rn (d + 30) bc bs mX12_tide 0 [some (vR (some 1)), some (vI m)] [] h n Q := by
  obtain ⟨fp, p1, w, v, tp, gr, ⟨lx, la⟩, ro, ri, Gx, gl⟩ := id s; have w1 := w.1; have sh := w.2.1; have se := w.2.2.1; obtain ⟨Ts, ps, st, ste⟩ := w.2.2.2.1; have sa := w.2.2.2.2.1; have sh1 := sh.1; have se1 := se.1; have st1 := st.1; have sa1 := sa.1; obtain ⟨tl, la1⟩ := la.ob; have gl1 := gl.1; have bk0 := se.2.2; have bk1 := bk0.1
  obtain ⟨o1, o2, o3, o4, o5⟩ := id ok; have o11 := o1.1; have o21 := o2.1; have o51 := o5.1; have o52 := o5.2.1; have o53 := o5.2.2.1; have o54 := o5.2.2.2.1
  unfold sTide aTide at k
  refine BX12_tide_0  ?_
  refine R_X12_within  ?_ ?_
  · intro w1 w2
    refine BX12_tide_7  ?_ ?_
    · intro hc1
      exact absurd hc1 (by decide)
    · intro hc2
      refine BX12_tide_10 (by first | assumption | exact up_at _ _ _ | (rw [up_ne (by omega)]; first | assumption | exact up_at _ _ _ | (rw [up_ne (by omega)]; first | assumption | exact up_at _ _ _ | (rw [up_ne (by omega)]; assumption)))) (by rfl) (by first | assumption | exact up_at _ _ _ | (rw [up_ne (by omega)]; first | assumption | exact up_at _ _ _ | (rw [up_ne (by omega)]; first | assumption | exact up_at _ _ _ | (rw [up_ne (by omega)]; assumption)))) (by rfl) (by first | assumption | exact up_at _ _ _ | (rw [up_ne (by omega)]; first | assumption | exact up_at _ _ _ | (rw [up_ne (by omega)]; first | assumption | exact up_at _ _ _ | (rw [up_ne (by omega)]; assumption)))) (by rfl) (by first | omega | assumption | (simp only [Ls_len]; omega) | exact Ls_get (by omega) (by omega) | rfl | decide) ?_ ?_
      · intro hc3
        first
        | (exfalso; omega)
        | (
            refine BX12_tide_30 (by first | assumption | exact up_at _ _ _ | (rw [up_ne (by omega)]; first | assumption | exact up_at _ _ _ | (rw [up_ne (by omega)]; first | assumption | exact up_at _ _ _ | (rw [up_ne (by omega)]; assumption)))) ?_
            refine P_passTides (by first | omega | assumption | (simp only [Ls_len]; omega) | exact Ls_get (by omega) (by omega) | rfl | decide) (by first | omega | assumption | (simp only [Ls_len]; omega) | exact Ls_get (by omega) (by omega) | rfl | decide) (by first | omega | assumption | (simp only [Ls_len]; omega) | exact Ls_get (by omega) (by omega) | rfl | decide) (by first | omega | assumption | (simp only [Ls_len]; omega) | exact Ls_get (by omega) (by omega) | rfl | decide) ?_
            intro h32 s32
            refine BX12_tide_35  ?_
            first | (rw [if_neg (by omega), if_neg (by omega)] at k; exact k _ s) | (rw [if_pos (by omega), if_pos (by omega)] at k; exact k _ s32)
          )
      · intro hc4
        first
        | (exfalso; omega)
        | (
            refine BX12_tide_28  ?_
            first | (rw [if_neg (by omega), if_neg (by omega)] at k; exact k _ s) | (rw [if_pos (by omega), if_pos (by omega)] at k; exact k _ s32)
          )
  · intro w3
    refine BX12_tide_7  ?_ ?_
    · intro hc5
      refine BX12_tide_28  ?_
      first | (rw [if_neg (by omega), if_neg (by omega)] at k; exact k _ s) | (rw [if_pos (by omega), if_pos (by omega)] at k; exact k _ s32)
    · intro hc6
      exact absurd hc6 (by decide)
end CALLS4
