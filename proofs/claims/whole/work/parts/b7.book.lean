/-! The reference: the book. -/
def shA (A : Int → Int) (k : Int) : Int → Int := fun j => if 3359 ≤ j ∧ j < 3358 + k then A (j + 1) else A j
theorem shA_s {A : Int → Int} {k : Int} (k0 : 1 ≤ k) : fset (shA A k) (3359 + k - 1) (shA A k (3359 + k)) = shA A (k + 1) := by
  funext j
  by_cases q : j = 3359 + k - 1
  · subst q; rw [fset_at]; unfold shA
    rw [if_neg (by omega), if_pos (by omega)]
    congr 1; omega
  · rw [fset_ne q]; unfold shA
    by_cases q2 : 3359 ≤ j ∧ j < 3358 + k
    · rw [if_pos q2, if_pos (by omega)]
    · rw [if_neg q2, if_neg (by omega)]
theorem shA_1 {A : Int → Int} : shA A 1 = A := by funext j; unfold shA; rw [if_neg (by omega)]
section BKADD
variable {A S f : Int → Int} {L t b w a l u : Int}
theorem bkAdd_n (hu : 0 ≤ u) (hu4 : u < 4) (e : l = if 30 ≤ L then 29 else L) : bkAdd L f t b w a (l * 4 + u) = if u = 0 then t else if u = 1 then b else if u = 2 then w else a := by
  unfold bkAdd
  rw [← e]
  have hc : u = 0 ∨ u = 1 ∨ u = 2 ∨ u = 3 := by omega
  rcases hc with q | q | q | q <;> subst q
  · rw [fset_ne (by omega), fset_ne (by omega), fset_ne (by omega), show l * 4 + 0 = l * 4 by omega, fset_at]; rfl
  · rw [fset_ne (by omega), fset_ne (by omega), fset_at]; rfl
  · rw [fset_ne (by omega), fset_at]; rfl
  · rw [fset_at]; rfl
theorem bkAdd_o (hu : 0 ≤ u) (hu4 : u < 4) (l0 : 0 ≤ l) (e : l < if 30 ≤ L then 29 else L) : bkAdd L f t b w a (l * 4 + u) = if 30 ≤ L then f ((l + 1) * 4 + u) else f (l * 4 + u) := by
  unfold bkAdd
  by_cases q : 30 ≤ L
  · rw [if_pos q] at e
    rw [if_pos q, if_pos q, if_pos q, fset_ne (by omega), fset_ne (by omega), fset_ne (by omega), fset_ne (by omega), if_pos (by omega)]
    congr 1; omega
  · rw [if_neg q] at e
    rw [if_neg q, if_neg q, if_neg q, fset_ne (by omega), fset_ne (by omega), fset_ne (by omega), fset_ne (by omega)]
theorem seaBook_bk (j0 : 0 ≤ l) : bk (seaBook S t b w a) l = bkAdd (S 75) (bk S) t b w a l := by
  unfold bk seaBook
  rw [if_neg (by omega), if_pos (by omega), show 76 + l - 76 = l by omega]
  rfl
theorem seaBook_75 : seaBook S t b w a 75 = bkLen (S 75) := by unfold seaBook; rw [if_pos rfl]
theorem pkE_add (hr : (0 ≤ t ∧ t ≤ 9999) ∧ (0 ≤ b ∧ b ≤ 11) ∧ (0 ≤ w ∧ w ≤ 2) ∧ 0 ≤ a ∧ a ≤ 9) (e : l = if 30 ≤ S 75 then 29 else S 75) (l0 : 0 ≤ l) : pkE (pkM t b w a) (bk (seaBook S t b w a)) l := by
  have e0 := bkAdd_n (f := bk S) (t := t) (b := b) (w := w) (a := a) (u := 0) (by decide) (by decide) e
  have e1 := bkAdd_n (f := bk S) (t := t) (b := b) (w := w) (a := a) (u := 1) (by decide) (by decide) e
  have e2 := bkAdd_n (f := bk S) (t := t) (b := b) (w := w) (a := a) (u := 2) (by decide) (by decide) e
  have e3 := bkAdd_n (f := bk S) (t := t) (b := b) (w := w) (a := a) (u := 3) (by decide) (by decide) e
  rw [show l * 4 + 0 = l * 4 by omega] at e0
  unfold pkE
  rw [seaBook_bk (by omega), seaBook_bk (by omega), seaBook_bk (by omega), seaBook_bk (by omega), e0, e1, e2, e3]
  exact ⟨rfl, hr⟩
theorem pkE_old {v : Int} (e : l < if 30 ≤ S 75 then 29 else S 75) (l0 : 0 ≤ l) (h : pkE v (bk S) (if 30 ≤ S 75 then l + 1 else l)) : pkE v (bk (seaBook S t b w a)) l := by
  have e0 := bkAdd_o (f := bk S) (t := t) (b := b) (w := w) (a := a) (u := 0) (by decide) (by decide) l0 e
  have e1 := bkAdd_o (f := bk S) (t := t) (b := b) (w := w) (a := a) (u := 1) (by decide) (by decide) l0 e
  have e2 := bkAdd_o (f := bk S) (t := t) (b := b) (w := w) (a := a) (u := 2) (by decide) (by decide) l0 e
  have e3 := bkAdd_o (f := bk S) (t := t) (b := b) (w := w) (a := a) (u := 3) (by decide) (by decide) l0 e
  rw [show l * 4 + 0 = l * 4 by omega, show (l + 1) * 4 + 0 = (l + 1) * 4 by omega] at e0
  unfold pkE at h ⊢
  rw [seaBook_bk (by omega), seaBook_bk (by omega), seaBook_bk (by omega), seaBook_bk (by omega), e0, e1, e2, e3]
  by_cases q : 30 ≤ S 75
  · rw [if_pos q] at h
    rw [if_pos q, if_pos q, if_pos q, if_pos q]
    exact h
  · rw [if_neg q] at h
    rw [if_neg q, if_neg q, if_neg q, if_neg q]
    exact h
theorem tBk.add (h : tBk A S) (s0 : 0 ≤ S 75) (s1 : S 75 < 30) (hr : (0 ≤ t ∧ t ≤ 9999) ∧ (0 ≤ b ∧ b ≤ 11) ∧ (0 ≤ w ∧ w ≤ 2) ∧ 0 ≤ a ∧ a ≤ 9) : tBk (fset (fset A (3359 + S 75) (pkM t b w a)) 10 (S 75 + 1)) (seaBook S t b w a) := by
  have el : bkLen (S 75) = S 75 + 1 := by unfold bkLen; rw [if_neg (by omega)]
  refine ⟨by rw [fset_at, seaBook_75, el], fun l l0 l1 => ?_⟩
  rw [seaBook_75, el] at l1
  rw [fset_ne (by omega)]
  by_cases q : l = S 75
  · subst q; rw [fset_at]; exact pkE_add hr (by rw [if_neg (by omega)]) l0
  · rw [fset_ne (by omega)]
    refine pkE_old (by rw [if_neg (by omega)]; omega) l0 ?_
    rw [if_neg (by omega)]
    exact h.2 l l0 (by omega)
theorem tBk.add2 (h : tBk A S) (s0 : S 75 = 30) (hr : (0 ≤ t ∧ t ≤ 9999) ∧ (0 ≤ b ∧ b ≤ 11) ∧ (0 ≤ w ∧ w ≤ 2) ∧ 0 ≤ a ∧ a ≤ 9) : tBk (fset (fset (fset (shA A 30) 10 29) (3359 + 29) (pkM t b w a)) 10 30) (seaBook S t b w a) := by
  have el : bkLen (S 75) = 30 := by unfold bkLen; rw [if_pos (by omega)]
  refine ⟨by rw [fset_at, seaBook_75, el], fun l l0 l1 => ?_⟩
  rw [seaBook_75, el] at l1
  rw [fset_ne (by omega)]
  by_cases q : l = 29
  · subst q; rw [fset_at]; exact pkE_add hr (by rw [if_pos (by omega)]) l0
  · rw [fset_ne (by omega), fset_ne (by omega)]
    refine pkE_old (by rw [if_pos (by omega)]; omega) l0 ?_
    rw [if_pos (by omega)]
    unfold shA
    rw [if_pos (by omega)]
    have := h.2 (l + 1) (by omega) (by omega)
    rw [show 3359 + (l + 1) = 3359 + l + 1 by omega] at this
    exact this
theorem tSe.cong {A2 S2 : Int → Int} (h : tSe A S) (s1 : S 72 ≤ 12) (e : ∀ i, 7 ≤ i → i < 83 → i ≠ 10 → A2 i = A i) (e2 : ∀ j, j < 75 → S2 j = S j) : tSe A2 S2 := by
  obtain ⟨t1, t2, t3, t4⟩ := h
  refine ⟨?_, ?_, ?_, fun b w b0 b1 w0 w1 => ?_⟩
  · rw [e _ (by omega) (by omega) (by omega), e2 _ (by omega)]; exact t1
  · rw [e _ (by omega) (by omega) (by omega), e2 _ (by omega)]; exact t2
  · rw [e _ (by omega) (by omega) (by omega), e2 _ (by omega)]; exact t3
  · rw [e2 _ (by omega)] at b1
    rw [e _ (by omega) (by omega) (by omega), e2 _ (by omega)]; exact t4 b w b0 b1 w0 w1
end BKADD
section WRITE
variable {d bc bs n : Nat} {g h : aH} {Q : aQ} {W V : Int → Int → Int} {X : Int → Tx} {F B : Int → Int} {wr cm : Int} {M : Int → Int → Int}
theorem fset_id {α : Type} {f : Int → α} {i : Int} : fset f i (f i) = f := by
  funext j
  by_cases q : j = i
  · subst q; exact fset_at _ _ _
  · exact fset_ne q
theorem fset2 {α : Type} {f : Int → α} {i : Int} {u v : α} : fset (fset f i u) i v = fset f i v := by
  funext j
  by_cases q : j = i
  · subst q; rw [fset_at, fset_at]
  · rw [fset_ne q, fset_ne q, fset_ne q]
theorem R_X13_getM {b w : Int} (e : IsM g h M) (b0 : 0 ≤ b) (b1 : b < 12) (w0 : 0 ≤ w) (w1 : w < 6) (k : Q (some (vI (M 1 (11 + 6 * b + w)))) h n) : Rn d bc bs mX13_get 0 [some (vR (some 301)), some (vI b), some (vI w)] [] h n Q := by
  have m0 := e.o
  have m1 := e.a1
  refine BX13_get_0 (by first | assumption | exact up_at _ _ _ | (rw [up_ne (by omega)]; first | assumption | exact up_at _ _ _ | (rw [up_ne (by omega)]; assumption))) (by rfl) (by first | omega | (rw [fset_at]; omega) | (simp only [Ls_len]; omega) | assumption | exact Ls_get (by omega) (by omega) | exact up_at _ _ _ | rfl | decide) (by first | omega | (rw [fset_at]; omega) | (simp only [Ls_len]; omega) | assumption | exact Ls_get (by omega) (by omega) | exact up_at _ _ _ | rfl | decide) (by first | omega | (rw [fset_at]; omega) | (simp only [Ls_len]; omega) | assumption | exact Ls_get (by omega) (by omega) | exact up_at _ _ _ | rfl | decide) (by first | assumption | exact up_at _ _ _ | (rw [up_ne (by omega)]; first | assumption | exact up_at _ _ _ | (rw [up_ne (by omega)]; assumption))) (by first | omega | (rw [fset_at]; omega) | (simp only [Ls_len]; omega) | assumption | exact Ls_get (by omega) (by omega) | exact up_at _ _ _ | rfl | decide) (by first | exact Ls_get (by omega) (by omega) | assumption) ?_
  exact k
theorem mkB {A0 A : Int → Int} {b w : Int} (e : IsM g h (fset M 1 A0)) (t : MT M W V X F B 1 cm) (q : ∀ i, i ≠ 10 → i < 3359 → A i = M 1 i) (tb : tBk A (wrM (W 1) b w)) : IsMo g (up h 302 (cI (Ls 3389 A))) (fset W 1 (wrM (W 1) b w)) V X F B 1 cm := by
  obtain ⟨⟨ta, _⟩, tv, tx, tt, wr0, cm0, on⟩ := t
  have o2 := on.2.1
  have o3 := on.2.2.1
  have o6 := on.2.2.2.2.2.1
  have lo : ∀ j, j < 75 → wrM (W 1) b w j = W 1 j := fun j hj => seaBook_lo hj
  have e75 : wrM (W 1) b w 75 = bkLen (W 1 75) := seaBook_75
  have eb : bkLen (W 1 75) = if 30 ≤ W 1 75 then 30 else W 1 75 + 1 := rfl
  refine ⟨fset (fset M 1 A0) 1 A, e.s1, ⟨ta.sea (fun i hi => q i (by omega) (by omega)) (ta.2.1.cong o2.2 (fun i i0 i1 i2 => q i i2 (by omega)) lo) on, ?_⟩, tv, tx, tt, wr0, cm0, on.sea ?_⟩
  · show tBk A (if (1 : Int) = 1 then wrM (W 1) b w else B)
    rw [if_pos rfl]
    exact tb
  · rw [lo 72 (by decide), lo 73 (by decide), e75, eb]
    split <;> omega
theorem write_tail {A : Int → Int} {b w L L1 : Int} {l3 : Option aV} (e : IsM g h (fset M 1 A)) (t : MT M W V X F B 1 cm) (b0 : 0 ≤ b) (b1 : b < W 1 72) (w0 : 0 ≤ w) (w1 : w ≤ 2) (p0 : 0 ≤ W 1 (b * 6 + 2)) (p1 : W 1 (b * 6 + 2) ≤ 9) (a10 : A 10 = L) (L0 : 0 ≤ L) (L2 : L ≤ 29) (eL : L1 = L + 1) (q : ∀ i, i ≠ 10 → i < 3359 → A i = M 1 i) (tb : tBk (fset (fset A (3359 + L) (pkM (W 1 73) b w (W 1 (b * 6 + 2)))) 10 L1) (wrM (W 1) b w)) (k : ∀ h1, IsMo g h1 (fset W 1 (wrM (W 1) b w)) V X F B 1 cm → Q none h1 n) : Rn (d + 1) bc bs mX13_write 67 [some (vR (some 301)), some (vI b), some (vI w), l3] [] h n Q := by
  have on := t.2.2.2.2.2.2
  have o2 := on.2.1
  have o6 := on.2.2.2.2.2.1
  have te := t.1.1.2.1
  have hp := te.2.2.2 b 2 b0 b1 (by decide) (by decide)
  have a7 : A 7 = W 1 73 := (q 7 (by decide) (by decide)).trans te.1
  have ap : A (11 + 6 * b + 2) = W 1 (b * 6 + 2) := (q _ (by omega) (by omega)).trans hp
  have q1 : fset A (3359 + A 10) (((A 7 * 12 + b) * 3 + w) * 10 + A (11 + 6 * b + 2)) 10 = A 10 := fset_ne (by omega)
  have m0 := e.o
  have m1 : h 302 = cI (Ls 3389 A) := e.a1
  refine BX13_write_67 (by first | assumption | exact up_at _ _ _ | (rw [up_ne (by omega)]; first | assumption | exact up_at _ _ _ | (rw [up_ne (by omega)]; assumption))) (by rfl) (by first | assumption | exact up_at _ _ _ | (rw [up_ne (by omega)]; first | assumption | exact up_at _ _ _ | (rw [up_ne (by omega)]; assumption))) (by first | exact Ls_get (by omega) (by omega) | assumption) (by first | omega | (rw [fset_at]; omega) | (simp only [Ls_len]; omega) | assumption | exact Ls_get (by omega) (by omega) | exact up_at _ _ _ | rfl | decide) (by first | exact Ls_get (by omega) (by omega) | assumption) (by first | omega | (rw [fset_at]; omega) | (simp only [Ls_len]; omega) | assumption | exact Ls_get (by omega) (by omega) | exact up_at _ _ _ | rfl | decide) (by first | omega | (rw [fset_at]; omega) | (simp only [Ls_len]; omega) | assumption | exact Ls_get (by omega) (by omega) | exact up_at _ _ _ | rfl | decide) (by first | omega | (rw [fset_at]; omega) | (simp only [Ls_len]; omega) | assumption | exact Ls_get (by omega) (by omega) | exact up_at _ _ _ | rfl | decide) (by first | omega | (rw [fset_at]; omega) | (simp only [Ls_len]; omega) | assumption | exact Ls_get (by omega) (by omega) | exact up_at _ _ _ | rfl | decide) (by first | omega | (rw [fset_at]; omega) | (simp only [Ls_len]; omega) | assumption | exact Ls_get (by omega) (by omega) | exact up_at _ _ _ | rfl | decide) ?_
  refine R_X13_getM (by first | omega | (rw [fset_at]; omega) | (simp only [Ls_len]; omega) | assumption | exact Ls_get (by omega) (by omega) | exact up_at _ _ _ | rfl | decide) (by first | omega | (rw [fset_at]; omega) | (simp only [Ls_len]; omega) | assumption | exact Ls_get (by omega) (by omega) | exact up_at _ _ _ | rfl | decide) (by first | omega | (rw [fset_at]; omega) | (simp only [Ls_len]; omega) | assumption | exact Ls_get (by omega) (by omega) | exact up_at _ _ _ | rfl | decide) (by first | omega | (rw [fset_at]; omega) | (simp only [Ls_len]; omega) | assumption | exact Ls_get (by omega) (by omega) | exact up_at _ _ _ | rfl | decide) (by first | omega | (rw [fset_at]; omega) | (simp only [Ls_len]; omega) | assumption | exact Ls_get (by omega) (by omega) | exact up_at _ _ _ | rfl | decide) ?_
  refine BX13_write_107 (by first | omega | (rw [fset_at]; omega) | (simp only [Ls_len]; omega) | assumption | exact Ls_get (by omega) (by omega) | exact up_at _ _ _ | rfl | decide) (by first | assumption | exact up_at _ _ _ | (rw [up_ne (by omega)]; first | assumption | exact up_at _ _ _ | (rw [up_ne (by omega)]; assumption))) (by first | omega | (rw [fset_at]; omega) | (simp only [Ls_len]; omega) | assumption | exact Ls_get (by omega) (by omega) | exact up_at _ _ _ | rfl | decide) (by first | omega | (rw [fset_at]; omega) | (simp only [Ls_len]; omega) | assumption | exact Ls_get (by omega) (by omega) | exact up_at _ _ _ | rfl | decide) (by first | omega | (rw [fset_at]; omega) | (simp only [Ls_len]; omega) | assumption | exact Ls_get (by omega) (by omega) | exact up_at _ _ _ | rfl | decide) ?_
  try rw [Ls_set (by omega)]
  refine BX13_write_109 (by first | assumption | exact up_at _ _ _ | (rw [up_ne (by omega)]; first | assumption | exact up_at _ _ _ | (rw [up_ne (by omega)]; assumption))) (by rfl) (by first | assumption | exact up_at _ _ _ | (rw [up_ne (by omega)]; first | assumption | exact up_at _ _ _ | (rw [up_ne (by omega)]; assumption))) (by first | exact Ls_get (by omega) (by omega) | assumption) (by first | omega | (rw [fset_at]; omega) | (simp only [Ls_len]; omega) | assumption | exact Ls_get (by omega) (by omega) | exact up_at _ _ _ | rfl | decide) (by first | omega | (rw [fset_at]; omega) | (simp only [Ls_len]; omega) | assumption | exact Ls_get (by omega) (by omega) | exact up_at _ _ _ | rfl | decide) (by first | omega | (rw [fset_at]; omega) | (simp only [Ls_len]; omega) | assumption | exact Ls_get (by omega) (by omega) | exact up_at _ _ _ | rfl | decide) ?_
  try rw [Ls_set (by omega)]
  refine BX13_write_120  ?_
  rw [up_up]
  refine k _ (mkB e t (fun i i0 i1 => ?_) ?_)
  · rw [fset_ne (by omega), fset_ne (by omega)]; exact q i i0 i1
  · rw [show fset M 1 A 1 = A from fset_at _ _ _, q1, a10, a7, ap, ← eL]
    exact tb
theorem R_X13_write {b w : Int} (s : IsMo g h W V X F B wr cm) (w01 : wr = 0 ∨ wr = 1) (b0 : 0 ≤ b) (b1 : b < W 1 72) (w0 : 0 ≤ w) (w1 : w ≤ 2) (p0 : 0 ≤ W 1 (b * 6 + 2)) (p1 : W 1 (b * 6 + 2) ≤ 9) (k : ∀ h1, IsMo g h1 (fset W 1 (wrM (W 1) b w)) V X F B wr cm → Q none h1 n) : Rn (d + 1) bc bs mX13_write 0 [some (vR (some 301)), some (vI b), some (vI w), none] [] h n Q := by
  rcases w01 with q | q
  · subst q
    obtain ⟨M, e, ⟨⟨ta, tb⟩, tv, tx, tt, wr0, cm0, on⟩⟩ := id s
    have o2 := on.2.1
    have o3 := on.2.2.1
    have o6 := on.2.2.2.2.2.1
    have lo : ∀ j, j < 75 → wrM (W 1) b w j = W 1 j := fun j hj => seaBook_lo hj
    have e75 : wrM (W 1) b w 75 = bkLen (W 1 75) := seaBook_75
    have eb : bkLen (W 1 75) = if 30 ≤ W 1 75 then 30 else W 1 75 + 1 := rfl
    have m0 := e.o
    have m1 := e.a1
    have wr1 := wr0.1
    rw [if_neg (by decide)] at tb
    have s2 : IsMo g h (fset W 1 (wrM (W 1) b w)) V X F B 0 cm := ⟨M, e, ⟨ta.sea (fun i hi => rfl) (ta.2.1.cong o2.2 (fun i i0 i1 i2 => rfl) lo) on, by rw [if_neg (by decide)]; exact tb⟩, tv, tx, tt, wr0, cm0, on.sea (by rw [lo 72 (by decide), lo 73 (by decide), e75, eb]; split <;> omega)⟩
    refine BX13_write_0 (by first | assumption | exact up_at _ _ _ | (rw [up_ne (by omega)]; first | assumption | exact up_at _ _ _ | (rw [up_ne (by omega)]; assumption))) (by rfl) ?_ ?_
    · intro hc1
      first
      | (exfalso; omega)
      | (
          (exfalso; omega)
        )
    · intro hc2
      first
      | (exfalso; omega)
      | (
          refine BX13_write_7  ?_
          exact k _ s2
        )
  · subst q
    obtain ⟨M, e, t⟩ := id s
    have on := t.2.2.2.2.2.2
    have o2 := on.2.1
    have o3 := on.2.2.1
    have o6 := on.2.2.2.2.2.1
    have wr0 : M 0 23 = 1 := t.2.2.2.2.1.1
    have te := t.1.1.2.1
    have tb := t.1.2
    rw [if_pos rfl] at tb
    have tb1 := tb.1
    have m0 := e.o
    have m1 := e.a1
    have hr : (0 ≤ W 1 73 ∧ W 1 73 ≤ 9999) ∧ (0 ≤ b ∧ b ≤ 11) ∧ (0 ≤ w ∧ w ≤ 2) ∧ 0 ≤ W 1 (b * 6 + 2) ∧ W 1 (b * 6 + 2) ≤ 9 := by omega
    by_cases q30 : W 1 75 = 30
    · have u0 : M 1 10 = 30 := by omega
      have loop : ∀ (m : Nat) (i : Int) (h1 : aH), 1 ≤ i → i + m = 30 → IsM g h1 (fset M 1 (shA (M 1) i)) → Rn (d + 1) bc bs mX13_write 22 [some (vR (some 301)), some (vI b), some (vI w), some (vI i)] [] h1 n Q := by
        intro m
        induction m with
        | zero =>
          intro i h1 i0 im e1
          have e9 : i = 30 := by omega
          subst e9
          have m0 := e1.o
          have m1 : h1 302 = cI (Ls 3389 (shA (M 1) 30)) := e1.a1
          have v1 : shA (M 1) 30 10 = 30 := by unfold shA; rw [if_neg (by decide)]; exact u0
          have e2 := e1.s1 (f := fset (shA (M 1) 30) 10 29)
          rw [fset2] at e2
          have tl := write_tail (d := d) (bc := bc) (bs := bs) (L := 29) (L1 := 30) (l3 := some (vI 30)) e2 t b0 b1 w0 w1 p0 p1 (fset_at _ _ _) (by decide) (by decide) rfl (fun i i0 i1 => by rw [fset_ne i0]; unfold shA; rw [if_neg (by omega)]) (tb.add2 q30 hr) k
          refine BX13_write_22  ?_ ?_
          · intro hc1
            first
            | (exfalso; omega)
            | (
                refine BX13_write_56 (by first | assumption | exact up_at _ _ _ | (rw [up_ne (by omega)]; first | assumption | exact up_at _ _ _ | (rw [up_ne (by omega)]; assumption))) (by rfl) (by first | assumption | exact up_at _ _ _ | (rw [up_ne (by omega)]; first | assumption | exact up_at _ _ _ | (rw [up_ne (by omega)]; assumption))) (by first | exact Ls_get (by omega) (by omega) | assumption) (by first | omega | (rw [fset_at]; omega) | (simp only [Ls_len]; omega) | assumption | exact Ls_get (by omega) (by omega) | exact up_at _ _ _ | rfl | decide) (by first | omega | (rw [fset_at]; omega) | (simp only [Ls_len]; omega) | assumption | exact Ls_get (by omega) (by omega) | exact up_at _ _ _ | rfl | decide) (by first | omega | (rw [fset_at]; omega) | (simp only [Ls_len]; omega) | assumption | exact Ls_get (by omega) (by omega) | exact up_at _ _ _ | rfl | decide) ?_
                try rw [Ls_set (by omega)]
                (rw [v1, show (30 : Int) - 1 = 29 from rfl]; exact tl)
              )
          · intro hc2
            first
            | (exfalso; omega)
            | (
                (exfalso; omega)
              )
        | succ m ih =>
          intro i h1 i0 im e1
          have m0 := e1.o
          have m1 : h1 302 = cI (Ls 3389 (shA (M 1) i)) := e1.a1
          have e2 := e1.s1 (f := shA (M 1) (i + 1))
          rw [fset2] at e2
          refine BX13_write_22  ?_ ?_
          · intro hc1
            first
            | (exfalso; omega)
            | (
                (exfalso; omega)
              )
          · intro hc2
            first
            | (exfalso; omega)
            | (
                refine BX13_write_28 (by first | assumption | exact up_at _ _ _ | (rw [up_ne (by omega)]; first | assumption | exact up_at _ _ _ | (rw [up_ne (by omega)]; assumption))) (by rfl) (by first | omega | (rw [fset_at]; omega) | (simp only [Ls_len]; omega) | assumption | exact Ls_get (by omega) (by omega) | exact up_at _ _ _ | rfl | decide) (by first | omega | (rw [fset_at]; omega) | (simp only [Ls_len]; omega) | assumption | exact Ls_get (by omega) (by omega) | exact up_at _ _ _ | rfl | decide) (by first | assumption | exact up_at _ _ _ | (rw [up_ne (by omega)]; first | assumption | exact up_at _ _ _ | (rw [up_ne (by omega)]; assumption))) (by first | omega | (rw [fset_at]; omega) | (simp only [Ls_len]; omega) | assumption | exact Ls_get (by omega) (by omega) | exact up_at _ _ _ | rfl | decide) (by first | exact Ls_get (by omega) (by omega) | assumption) (by first | omega | (rw [fset_at]; omega) | (simp only [Ls_len]; omega) | assumption | exact Ls_get (by omega) (by omega) | exact up_at _ _ _ | rfl | decide) (by first | omega | (rw [fset_at]; omega) | (simp only [Ls_len]; omega) | assumption | exact Ls_get (by omega) (by omega) | exact up_at _ _ _ | rfl | decide) (by first | omega | (rw [fset_at]; omega) | (simp only [Ls_len]; omega) | assumption | exact Ls_get (by omega) (by omega) | exact up_at _ _ _ | rfl | decide) ?_
                try rw [Ls_set (by omega)]
                refine BX13_write_50 (by first | omega | (rw [fset_at]; omega) | (simp only [Ls_len]; omega) | assumption | exact Ls_get (by omega) (by omega) | exact up_at _ _ _ | rfl | decide) ?_
                (rw [shA_s i0]; exact ih _ _ (by omega) (by omega) e2)
              )
      refine BX13_write_0 (by first | assumption | exact up_at _ _ _ | (rw [up_ne (by omega)]; first | assumption | exact up_at _ _ _ | (rw [up_ne (by omega)]; assumption))) (by rfl) ?_ ?_
      · intro hc1
        refine BX13_write_8 (by first | assumption | exact up_at _ _ _ | (rw [up_ne (by omega)]; first | assumption | exact up_at _ _ _ | (rw [up_ne (by omega)]; assumption))) (by rfl) (by first | assumption | exact up_at _ _ _ | (rw [up_ne (by omega)]; first | assumption | exact up_at _ _ _ | (rw [up_ne (by omega)]; assumption))) (by first | exact Ls_get (by omega) (by omega) | assumption) ?_ ?_
        · intro hc2
          (exfalso; omega)
        · intro hc3
          refine BX13_write_20  ?_
          exact loop 29 1 h (by decide) (by decide) (by rw [shA_1, fset_id]; exact e)
      · intro hc4
        refine BX13_write_7  ?_
        (exfalso; omega)
    · have e0 : IsM g h (fset M 1 (M 1)) := by rw [fset_id]; exact e
      have tl : ∀ l3, Rn (d + 1) bc bs mX13_write 67 [some (vR (some 301)), some (vI b), some (vI w), l3] [] h n Q := fun l3 => write_tail (L := W 1 75) (L1 := W 1 75 + 1) e0 t b0 b1 w0 w1 p0 p1 tb1 (by omega) (by omega) rfl (fun i i0 i1 => rfl) (tb.add (by omega) (by omega) hr) k
      refine BX13_write_0 (by first | assumption | exact up_at _ _ _ | (rw [up_ne (by omega)]; first | assumption | exact up_at _ _ _ | (rw [up_ne (by omega)]; assumption))) (by rfl) ?_ ?_
      · intro hc1
        refine BX13_write_8 (by first | assumption | exact up_at _ _ _ | (rw [up_ne (by omega)]; first | assumption | exact up_at _ _ _ | (rw [up_ne (by omega)]; assumption))) (by rfl) (by first | assumption | exact up_at _ _ _ | (rw [up_ne (by omega)]; first | assumption | exact up_at _ _ _ | (rw [up_ne (by omega)]; assumption))) (by first | exact Ls_get (by omega) (by omega) | assumption) ?_ ?_
        · intro hc2
          exact tl _
        · intro hc3
          refine BX13_write_20  ?_
          (exfalso; omega)
      · intro hc4
        refine BX13_write_7  ?_
        (exfalso; omega)
end WRITE
