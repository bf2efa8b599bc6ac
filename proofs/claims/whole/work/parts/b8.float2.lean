/-! The reference: one floats on, a tide passes. -/
theorem cnt_ext {p q : Int → Bool} : ∀ k : Nat, (∀ i : Int, 0 ≤ i → i < k → p i = q i) → cnt p k = cnt q k := by
  intro k
  induction k with
  | zero => intro _; rfl
  | succ k ih =>
    intro h
    unfold cnt
    rw [ih (fun i i0 i1 => h i i0 (by omega)), h k (by omega) (by omega)]
theorem envM_dr {S lk : Int → Int} {np b : Int} (b0 : 0 ≤ b) (b1 : b < 12) (s0 : 0 ≤ S 72 ∧ S 72 ≤ 12) : envM (drM S) np lk b = envM S np lk b := by
  funext k
  unfold envM drM
  rw [fset_ne (by omega), fset_ne (by omega), fset_ne (by omega), fset_ne (by omega), fset_ne (by omega), fset_ne (by omega), fset_ne (by omega)]
  have e : cnt (fun c => fset S 74 ((S 74 * 461 + 349) % 30637) (c * 6 + 4) = 0 ∧ fset S 74 ((S 74 * 461 + 349) % 30637) (c * 6 + 2) = S (b * 6 + 2)) (S 72).toNat = cnt (fun c => S (c * 6 + 4) = 0 ∧ S (c * 6 + 2) = S (b * 6 + 2)) (S 72).toNat := by
    refine cnt_ext _ (fun i i0 i1 => ?_)
    rw [fset_ne (by omega), fset_ne (by omega)]
  rw [e]
theorem comes_dr {co : Option Dn} {S pl lk : Int → Int} {np b : Int} (b0 : 0 ≤ b) (b1 : b < 12) (s0 : 0 ≤ S 72 ∧ S 72 ≤ 12) : comesM co (drM S) np pl lk b = comesM co S np pl lk b := by
  unfold comesM
  cases co with
  | none => show atP np lk (drM S (b * 6 + 1)) + 1 = _; unfold drM; rw [fset_ne (by omega)]
  | some D => show max 0 (min 10 (D (envM (drM S) np lk b) (atP np pl))) = _; rw [envM_dr b0 b1 s0]
theorem wears_rg {we : Option Dn} {S pl lk : Int → Int} {np b : Int} : 0 ≤ wearsM we S np pl lk b ∧ wearsM we S np pl lk b ≤ 99 := by unfold wearsM; split <;> omega
section FLOAT2
variable {d bc bs n : Nat} {g h : aH} {Q : aQ} {W V : Int → Int → Int} {X : Int → Tx} {F B : Int → Int} {wr cm : Int} {M : Int → Int → Int}
theorem mkC {c : Int} (e : IsM g h M) (t : MT M W V X F B wr cm) : IsMo g (up h 301 (cO 13 (List.set (mf (M 0)) 24 (vI c)))) W V X F B wr c := by
  obtain ⟨⟨ta, tb⟩, tv, tx, tt, wr0, cm0, on⟩ := t
  have e2 := e.fld (F := fset (M 0) 24 c)
  exact ⟨fset M 0 (fset (M 0) 24 c), by rw [mfs_24]; exact e2, ⟨ta, tb⟩, tv, tx, tt, wr0, (show fset (M 0) 24 c 24 = c from fset_at _ _ _), on⟩
theorem R_X13_finish {b hw : Int} (s : IsMo g h W V X F B wr cm) (w01 : wr = 0 ∨ wr = 1) (b0 : 0 ≤ b) (b1 : b < W 1 72) (c0 : 0 ≤ cm) (c1 : cm < 10000000) (hw1 : hw = 1 ∨ hw = 2) (p0 : 0 ≤ W 1 (b * 6 + 2)) (p1 : W 1 (b * 6 + 2) ≤ 9) (k : ∀ h1, IsMo g h1 (fset W 1 (wrM (fset (W 1) (b * 6 + 4) hw) b (if hw = 1 then 0 else 1))) V X F B wr (cm + if hw = 1 then 1 else 0) → Q none h1 n) : Rn (d + 2) bc bs mX13_finish 0 [some (vR (some 301)), some (vI b), some (vI hw)] [] h n Q := by
  have on2 : W 1 72 ≤ 12 := by obtain ⟨M, e, t⟩ := id s; exact t.2.2.2.2.2.2.2.1.2
  have f1 : (fset W 1 (fset (W 1) (b * 6 + 4) hw)) 1 = fset (W 1) (b * 6 + 4) hw := fset_at _ _ _
  have f2 : fset (W 1) (b * 6 + 4) hw 72 = W 1 72 := fset_ne (by omega)
  have f3 : fset (W 1) (b * 6 + 4) hw (b * 6 + 2) = W 1 (b * 6 + 2) := fset_ne (by omega)
  obtain ⟨S1, hS1⟩ : ∃ S1, S1 = fset (W 1) (b * 6 + 4) hw := ⟨_, rfl⟩
  rw [← hS1] at k f1 f2 f3
  have f4 : fset W 1 S1 1 72 = W 1 72 := by rw [fset_at]; exact f2
  have f5 : fset W 1 S1 1 (b * 6 + 2) = W 1 (b * 6 + 2) := by rw [fset_at]; exact f3
  obtain ⟨M, e, t⟩ := id s
  have m0 := e.o
  refine BX13_finish_0 (by first | assumption | exact up_at _ _ _ | (rw [up_ne (by omega)]; first | assumption | exact up_at _ _ _ | (rw [up_ne (by omega)]; assumption))) ?_
  refine R_X13_put (by first | omega | (rw [fset_at]; omega) | (simp only [Ls_len]; omega) | assumption | exact Ls_get (by omega) (by omega) | exact up_at _ _ _ | rfl | decide) (by first | omega | (rw [fset_at]; omega) | (simp only [Ls_len]; omega) | assumption | exact Ls_get (by omega) (by omega) | exact up_at _ _ _ | rfl | decide) (by first | omega | (rw [fset_at]; omega) | (simp only [Ls_len]; omega) | assumption | exact Ls_get (by omega) (by omega) | exact up_at _ _ _ | rfl | decide) (by first | omega | (rw [fset_at]; omega) | (simp only [Ls_len]; omega) | assumption | exact Ls_get (by omega) (by omega) | exact up_at _ _ _ | rfl | decide) (by first | omega | (rw [fset_at]; omega) | (simp only [Ls_len]; omega) | assumption | exact Ls_get (by omega) (by omega) | exact up_at _ _ _ | rfl | decide) ?_
  intro h4 s4
  rw [← hS1] at s4
  obtain ⟨M4, e4, t4⟩ := id s4
  have m0 := e4.o
  have cm4 : M4 0 24 = cm := t4.2.2.2.2.2.1
  refine BX13_finish_7 (by first | assumption | exact up_at _ _ _ | (rw [up_ne (by omega)]; first | assumption | exact up_at _ _ _ | (rw [up_ne (by omega)]; assumption))) (by rfl) ?_ ?_
  · intro hc1
    refine BX13_finish_21 (by first | omega | (rw [fset_at]; omega) | (simp only [Ls_len]; omega) | assumption | exact Ls_get (by omega) (by omega) | exact up_at _ _ _ | rfl | decide) (by first | assumption | exact up_at _ _ _ | (rw [up_ne (by omega)]; first | assumption | exact up_at _ _ _ | (rw [up_ne (by omega)]; assumption))) (by unfold mf; simp) ?_
    have s5 := mkC (c := M4 0 24 + 0) e4 t4
    refine BX13_finish_26  ?_ ?_
    · intro hc2
      refine BX13_finish_37 (by first | assumption | exact up_at _ _ _ | (rw [up_ne (by omega)]; first | assumption | exact up_at _ _ _ | (rw [up_ne (by omega)]; assumption))) ?_
      refine R_X13_write (by first | omega | (rw [fset_at]; omega) | (simp only [Ls_len]; omega) | assumption | exact Ls_get (by omega) (by omega) | exact up_at _ _ _ | rfl | decide) (by first | omega | (rw [fset_at]; omega) | (simp only [Ls_len]; omega) | assumption | exact Ls_get (by omega) (by omega) | exact up_at _ _ _ | rfl | decide) (by first | omega | (rw [fset_at]; omega) | (simp only [Ls_len]; omega) | assumption | exact Ls_get (by omega) (by omega) | exact up_at _ _ _ | rfl | decide) (by first | omega | (rw [fset_at]; omega) | (simp only [Ls_len]; omega) | assumption | exact Ls_get (by omega) (by omega) | exact up_at _ _ _ | rfl | decide) (by first | omega | (rw [fset_at]; omega) | (simp only [Ls_len]; omega) | assumption | exact Ls_get (by omega) (by omega) | exact up_at _ _ _ | rfl | decide) (by first | omega | (rw [fset_at]; omega) | (simp only [Ls_len]; omega) | assumption | exact Ls_get (by omega) (by omega) | exact up_at _ _ _ | rfl | decide) (by first | omega | (rw [fset_at]; omega) | (simp only [Ls_len]; omega) | assumption | exact Ls_get (by omega) (by omega) | exact up_at _ _ _ | rfl | decide) (by first | omega | (rw [fset_at]; omega) | (simp only [Ls_len]; omega) | assumption | exact Ls_get (by omega) (by omega) | exact up_at _ _ _ | rfl | decide) ?_
      intro h38 s38
      refine BX13_finish_41  ?_
      rw [fset2, show (fset W 1 S1) 1 = S1 from fset_at _ _ _] at s38
      first
      | (exfalso; omega)
      | (rw [if_pos (by omega), if_pos (by omega)] at k; rw [cm4] at s38; exact k _ s38)
      | (rw [if_neg (by omega), if_neg (by omega)] at k; rw [cm4] at s38; exact k _ s38)
    · intro hc3
      refine BX13_finish_33 (by first | assumption | exact up_at _ _ _ | (rw [up_ne (by omega)]; first | assumption | exact up_at _ _ _ | (rw [up_ne (by omega)]; assumption))) ?_
      refine R_X13_write (by first | omega | (rw [fset_at]; omega) | (simp only [Ls_len]; omega) | assumption | exact Ls_get (by omega) (by omega) | exact up_at _ _ _ | rfl | decide) (by first | omega | (rw [fset_at]; omega) | (simp only [Ls_len]; omega) | assumption | exact Ls_get (by omega) (by omega) | exact up_at _ _ _ | rfl | decide) (by first | omega | (rw [fset_at]; omega) | (simp only [Ls_len]; omega) | assumption | exact Ls_get (by omega) (by omega) | exact up_at _ _ _ | rfl | decide) (by first | omega | (rw [fset_at]; omega) | (simp only [Ls_len]; omega) | assumption | exact Ls_get (by omega) (by omega) | exact up_at _ _ _ | rfl | decide) (by first | omega | (rw [fset_at]; omega) | (simp only [Ls_len]; omega) | assumption | exact Ls_get (by omega) (by omega) | exact up_at _ _ _ | rfl | decide) (by first | omega | (rw [fset_at]; omega) | (simp only [Ls_len]; omega) | assumption | exact Ls_get (by omega) (by omega) | exact up_at _ _ _ | rfl | decide) (by first | omega | (rw [fset_at]; omega) | (simp only [Ls_len]; omega) | assumption | exact Ls_get (by omega) (by omega) | exact up_at _ _ _ | rfl | decide) (by first | omega | (rw [fset_at]; omega) | (simp only [Ls_len]; omega) | assumption | exact Ls_get (by omega) (by omega) | exact up_at _ _ _ | rfl | decide) ?_
      intro h38 s38
      refine BX13_finish_41  ?_
      rw [fset2, show (fset W 1 S1) 1 = S1 from fset_at _ _ _] at s38
      first
      | (exfalso; omega)
      | (rw [if_pos (by omega), if_pos (by omega)] at k; rw [cm4] at s38; exact k _ s38)
      | (rw [if_neg (by omega), if_neg (by omega)] at k; rw [cm4] at s38; exact k _ s38)
  · intro hc4
    refine BX13_finish_17 (by first | omega | (rw [fset_at]; omega) | (simp only [Ls_len]; omega) | assumption | exact Ls_get (by omega) (by omega) | exact up_at _ _ _ | rfl | decide) (by first | assumption | exact up_at _ _ _ | (rw [up_ne (by omega)]; first | assumption | exact up_at _ _ _ | (rw [up_ne (by omega)]; assumption))) (by unfold mf; simp) ?_
    have s5 := mkC (c := M4 0 24 + 1) e4 t4
    refine BX13_finish_26  ?_ ?_
    · intro hc5
      refine BX13_finish_37 (by first | assumption | exact up_at _ _ _ | (rw [up_ne (by omega)]; first | assumption | exact up_at _ _ _ | (rw [up_ne (by omega)]; assumption))) ?_
      refine R_X13_write (by first | omega | (rw [fset_at]; omega) | (simp only [Ls_len]; omega) | assumption | exact Ls_get (by omega) (by omega) | exact up_at _ _ _ | rfl | decide) (by first | omega | (rw [fset_at]; omega) | (simp only [Ls_len]; omega) | assumption | exact Ls_get (by omega) (by omega) | exact up_at _ _ _ | rfl | decide) (by first | omega | (rw [fset_at]; omega) | (simp only [Ls_len]; omega) | assumption | exact Ls_get (by omega) (by omega) | exact up_at _ _ _ | rfl | decide) (by first | omega | (rw [fset_at]; omega) | (simp only [Ls_len]; omega) | assumption | exact Ls_get (by omega) (by omega) | exact up_at _ _ _ | rfl | decide) (by first | omega | (rw [fset_at]; omega) | (simp only [Ls_len]; omega) | assumption | exact Ls_get (by omega) (by omega) | exact up_at _ _ _ | rfl | decide) (by first | omega | (rw [fset_at]; omega) | (simp only [Ls_len]; omega) | assumption | exact Ls_get (by omega) (by omega) | exact up_at _ _ _ | rfl | decide) (by first | omega | (rw [fset_at]; omega) | (simp only [Ls_len]; omega) | assumption | exact Ls_get (by omega) (by omega) | exact up_at _ _ _ | rfl | decide) (by first | omega | (rw [fset_at]; omega) | (simp only [Ls_len]; omega) | assumption | exact Ls_get (by omega) (by omega) | exact up_at _ _ _ | rfl | decide) ?_
      intro h38 s38
      refine BX13_finish_41  ?_
      rw [fset2, show (fset W 1 S1) 1 = S1 from fset_at _ _ _] at s38
      first
      | (exfalso; omega)
      | (rw [if_pos (by omega), if_pos (by omega)] at k; rw [cm4] at s38; exact k _ s38)
      | (rw [if_neg (by omega), if_neg (by omega)] at k; rw [cm4] at s38; exact k _ s38)
    · intro hc6
      refine BX13_finish_33 (by first | assumption | exact up_at _ _ _ | (rw [up_ne (by omega)]; first | assumption | exact up_at _ _ _ | (rw [up_ne (by omega)]; assumption))) ?_
      refine R_X13_write (by first | omega | (rw [fset_at]; omega) | (simp only [Ls_len]; omega) | assumption | exact Ls_get (by omega) (by omega) | exact up_at _ _ _ | rfl | decide) (by first | omega | (rw [fset_at]; omega) | (simp only [Ls_len]; omega) | assumption | exact Ls_get (by omega) (by omega) | exact up_at _ _ _ | rfl | decide) (by first | omega | (rw [fset_at]; omega) | (simp only [Ls_len]; omega) | assumption | exact Ls_get (by omega) (by omega) | exact up_at _ _ _ | rfl | decide) (by first | omega | (rw [fset_at]; omega) | (simp only [Ls_len]; omega) | assumption | exact Ls_get (by omega) (by omega) | exact up_at _ _ _ | rfl | decide) (by first | omega | (rw [fset_at]; omega) | (simp only [Ls_len]; omega) | assumption | exact Ls_get (by omega) (by omega) | exact up_at _ _ _ | rfl | decide) (by first | omega | (rw [fset_at]; omega) | (simp only [Ls_len]; omega) | assumption | exact Ls_get (by omega) (by omega) | exact up_at _ _ _ | rfl | decide) (by first | omega | (rw [fset_at]; omega) | (simp only [Ls_len]; omega) | assumption | exact Ls_get (by omega) (by omega) | exact up_at _ _ _ | rfl | decide) (by first | omega | (rw [fset_at]; omega) | (simp only [Ls_len]; omega) | assumption | exact Ls_get (by omega) (by omega) | exact up_at _ _ _ | rfl | decide) ?_
      intro h38 s38
      refine BX13_finish_41  ?_
      rw [fset2, show (fset W 1 S1) 1 = S1 from fset_at _ _ _] at s38
      first
      | (exfalso; omega)
      | (rw [if_pos (by omega), if_pos (by omega)] at k; rw [cm4] at s38; exact k _ s38)
      | (rw [if_neg (by omega), if_neg (by omega)] at k; rw [cm4] at s38; exact k _ s38)
theorem R_X13_floatOn {b : Int} (s : IsMo g h W V X F B wr cm) (ok : okW W) (w01 : wr = 0 ∨ wr = 1) (b0 : 0 ≤ b) (b1 : b < W 1 72) (c0 : 0 ≤ cm) (c1 : cm < 10000000) (ha : W 1 (b * 6 + 4) = 0) (k : ∀ h1, IsMo g h1 (fset W 1 (floatM (coOf (ruX W X)) (weOf (ruX W X)) (W 3 3) (W 0) (W 5) (W 6) (W 1) b).1) V X F B wr (cm + (floatM (coOf (ruX W X)) (weOf (ruX W X)) (W 3 3) (W 0) (W 5) (W 6) (W 1) b).2) → Q none h1 n) : Rn (d + 6) bc bs mX13_floatOn 0 [some (vR (some 301)), some (vI b), none] [] h n Q := by
  obtain ⟨M, e, t⟩ := id s
  have m0 := e.o
  have m1 := e.a1
  have te1 : M 1 7 = W 1 73 := t.1.1.2.1.1
  have q2 := ok.2.1.1
  have ob := ok.2.1.2 b b0 b1
  unfold okBo at ob
  have ol := lead_ok ok.1.2.2 (t := W 1 73) (p := W 1 (b * 6 + 2)) (by omega)
  unfold floatM at k
  rw [if_pos ha] at k
  obtain ⟨S1, hS1⟩ : ∃ S1, S1 = flA (W 6) (W 1) b := ⟨_, rfl⟩
  rw [← hS1] at k
  have ok1 : okW (fset W 1 S1) := by rw [hS1]; exact okW_sea ok (ok.2.1.at ol.1 ol.2 b0 (by omega))
  have g1 : fset W 1 S1 1 = S1 := fset_at _ _ _
  have v72 : S1 72 = W 1 72 := by rw [hS1]; exact fset_ne (by omega)
  have v3 : S1 (b * 6 + 3) = W 1 (b * 6 + 3) := by rw [hS1]; exact fset_ne (by omega)
  have v1 : S1 (b * 6 + 1) = W 1 (b * 6 + 1) := by rw [hS1]; exact fset_ne (by omega)
  have v2 : S1 (b * 6 + 2) = lead (W 6) (W 1 73) (W 1 (b * 6 + 2)) := by rw [hS1]; exact fset_at _ _ _
  have v74 : S1 74 = W 1 74 := by rw [hS1]; exact fset_ne (by omega)
  have u72 : fset W 1 S1 1 72 = W 1 72 := by rw [g1]; exact v72
  obtain ⟨wv, hwv⟩ : ∃ wv, wv = wearsM (weOf (ruX W X)) S1 (W 3 3) (W 0) (W 5) b := ⟨_, rfl⟩
  have wr9 := wears_rg (we := weOf (ruX W X)) (S := S1) (pl := W 0) (lk := W 5) (np := W 3 3) (b := b)
  rw [← hwv] at wr9
  obtain ⟨S2, hS2⟩ : ∃ S2, S2 = flC (weOf (ruX W X)) (W 3 3) (W 0) (W 5) S1 b := ⟨_, rfl⟩
  rw [← hS2] at k
  have hS3 : S2 = fset S1 (b * 6 + 3) (max 0 (S1 (b * 6 + 3) - wv)) := by rw [hS2, hwv]; rfl
  have ok2 : okW (fset W 1 S2) := by
    rw [hS3]
    have := okW_sea ok1 (S := fset S1 (b * 6 + 3) (max 0 (S1 (b * 6 + 3) - wv))) (okSe.cork ok1.2.1 (by omega) (by omega) b0 (by omega))
    rw [fset2] at this
    exact this
  have g2 : fset W 1 S2 1 = S2 := fset_at _ _ _
  have x72 : S2 72 = W 1 72 := by rw [hS3, fset_ne (by omega)]; exact v72
  have x1 : S2 (b * 6 + 1) = W 1 (b * 6 + 1) := by rw [hS3, fset_ne (by omega)]; exact v1
  have x2 : S2 (b * 6 + 2) = lead (W 6) (W 1 73) (W 1 (b * 6 + 2)) := by rw [hS3, fset_ne (by omega)]; exact v2
  have x74 : S2 74 = W 1 74 := by rw [hS3, fset_ne (by omega)]; exact v74
  have y72 : fset W 1 S2 1 72 = W 1 72 := by rw [g2]; exact x72
  have y2 : fset W 1 S2 1 (b * 6 + 2) = lead (W 6) (W 1 73) (W 1 (b * 6 + 2)) := by rw [g2]; exact x2
  have z72 : fset W 1 (drM S2) 1 72 = W 1 72 := by rw [fset_at]; unfold drM; rw [fset_ne (by omega)]; exact x72
  have z2 : fset W 1 (drM S2) 1 (b * 6 + 2) = lead (W 6) (W 1 73) (W 1 (b * 6 + 2)) := by rw [fset_at]; unfold drM; rw [fset_ne (by omega)]; exact x2
  have os2 : okSe (fset W 1 S2 3 3) (fset W 1 S2 1) := ok2.2.1
  have ok33 : (fset W 1 S2) 3 3 = W 3 3 := rfl
  have ok32 := ok.2.2.1
  have g31 : (fset W 1 S2) 3 1 = W 3 1 := rfl
  have cdr := comes_dr (co := coOf (ruX W X)) (pl := W 0) (lk := W 5) (np := W 3 3) (S := S2) (b := b) b0 (by omega) (by omega)
  have ap : atP (W 3 3) (W 0) (S2 (b * 6 + 1)) = W 0 (S2 (b * 6 + 1)) := by unfold atP; rw [if_pos (by omega)]
  unfold flF at k
  rw [ap, cdr] at k
  refine BX13_floatOn_0 (by first | assumption | exact up_at _ _ _ | (rw [up_ne (by omega)]; first | assumption | exact up_at _ _ _ | (rw [up_ne (by omega)]; assumption))) (by rfl) (by first | assumption | exact up_at _ _ _ | (rw [up_ne (by omega)]; first | assumption | exact up_at _ _ _ | (rw [up_ne (by omega)]; assumption))) (by first | exact Ls_get (by omega) (by omega) | assumption) ?_
  refine R_X13_get (by first | omega | (rw [fset_at]; omega) | (simp only [Ls_len]; omega) | assumption | exact Ls_get (by omega) (by omega) | exact up_at _ _ _ | rfl | decide) (by first | omega | (rw [fset_at]; omega) | (simp only [Ls_len]; omega) | assumption | exact Ls_get (by omega) (by omega) | exact up_at _ _ _ | rfl | decide) (by first | omega | (rw [fset_at]; omega) | (simp only [Ls_len]; omega) | assumption | exact Ls_get (by omega) (by omega) | exact up_at _ _ _ | rfl | decide) (by first | omega | (rw [fset_at]; omega) | (simp only [Ls_len]; omega) | assumption | exact Ls_get (by omega) (by omega) | exact up_at _ _ _ | rfl | decide) (by first | omega | (rw [fset_at]; omega) | (simp only [Ls_len]; omega) | assumption | exact Ls_get (by omega) (by omega) | exact up_at _ _ _ | rfl | decide) ?_
  refine BX13_floatOn_17 (by first | assumption | exact up_at _ _ _ | (rw [up_ne (by omega)]; first | assumption | exact up_at _ _ _ | (rw [up_ne (by omega)]; assumption))) ?_
  refine R_X13_flowsTo (by first | omega | (rw [fset_at]; omega) | (simp only [Ls_len]; omega) | assumption | exact Ls_get (by omega) (by omega) | exact up_at _ _ _ | rfl | decide) (by first | omega | (rw [fset_at]; omega) | (simp only [Ls_len]; omega) | assumption | exact Ls_get (by omega) (by omega) | exact up_at _ _ _ | rfl | decide) (by first | omega | (rw [fset_at]; omega) | (simp only [Ls_len]; omega) | assumption | exact Ls_get (by omega) (by omega) | exact up_at _ _ _ | rfl | decide) (by first | omega | (rw [fset_at]; omega) | (simp only [Ls_len]; omega) | assumption | exact Ls_get (by omega) (by omega) | exact up_at _ _ _ | rfl | decide) ?_
  refine BX13_floatOn_20 (by first | assumption | exact up_at _ _ _ | (rw [up_ne (by omega)]; first | assumption | exact up_at _ _ _ | (rw [up_ne (by omega)]; assumption))) ?_
  refine R_X13_put (by first | omega | (rw [fset_at]; omega) | (simp only [Ls_len]; omega) | assumption | exact Ls_get (by omega) (by omega) | exact up_at _ _ _ | rfl | decide) (by first | omega | (rw [fset_at]; omega) | (simp only [Ls_len]; omega) | assumption | exact Ls_get (by omega) (by omega) | exact up_at _ _ _ | rfl | decide) (by first | omega | (rw [fset_at]; omega) | (simp only [Ls_len]; omega) | assumption | exact Ls_get (by omega) (by omega) | exact up_at _ _ _ | rfl | decide) (by first | omega | (rw [fset_at]; omega) | (simp only [Ls_len]; omega) | assumption | exact Ls_get (by omega) (by omega) | exact up_at _ _ _ | rfl | decide) (by first | omega | (rw [fset_at]; omega) | (simp only [Ls_len]; omega) | assumption | exact Ls_get (by omega) (by omega) | exact up_at _ _ _ | rfl | decide) ?_
  intro h20 s20
  rw [te1] at s20
  have s20 : IsMo g h20 (fset W 1 S1) V X F B wr cm := by rw [hS1]; exact s20
  obtain ⟨_, e20, _⟩ := id s20
  have m0 := e20.o
  refine BX13_floatOn_23 (by first | assumption | exact up_at _ _ _ | (rw [up_ne (by omega)]; first | assumption | exact up_at _ _ _ | (rw [up_ne (by omega)]; assumption))) ?_
  refine R_X13_get (by first | omega | (rw [fset_at]; omega) | (simp only [Ls_len]; omega) | assumption | exact Ls_get (by omega) (by omega) | exact up_at _ _ _ | rfl | decide) (by first | omega | (rw [fset_at]; omega) | (simp only [Ls_len]; omega) | assumption | exact Ls_get (by omega) (by omega) | exact up_at _ _ _ | rfl | decide) (by first | omega | (rw [fset_at]; omega) | (simp only [Ls_len]; omega) | assumption | exact Ls_get (by omega) (by omega) | exact up_at _ _ _ | rfl | decide) (by first | omega | (rw [fset_at]; omega) | (simp only [Ls_len]; omega) | assumption | exact Ls_get (by omega) (by omega) | exact up_at _ _ _ | rfl | decide) (by first | omega | (rw [fset_at]; omega) | (simp only [Ls_len]; omega) | assumption | exact Ls_get (by omega) (by omega) | exact up_at _ _ _ | rfl | decide) ?_
  rw [g1]
  refine BX13_floatOn_32 (by first | assumption | exact up_at _ _ _ | (rw [up_ne (by omega)]; first | assumption | exact up_at _ _ _ | (rw [up_ne (by omega)]; assumption))) ?_
  refine R_X13_wearsOf (by first | omega | (rw [fset_at]; omega) | (simp only [Ls_len]; omega) | assumption | exact Ls_get (by omega) (by omega) | exact up_at _ _ _ | rfl | decide) (by first | omega | (rw [fset_at]; omega) | (simp only [Ls_len]; omega) | assumption | exact Ls_get (by omega) (by omega) | exact up_at _ _ _ | rfl | decide) (by first | omega | (rw [fset_at]; omega) | (simp only [Ls_len]; omega) | assumption | exact Ls_get (by omega) (by omega) | exact up_at _ _ _ | rfl | decide) (by first | omega | (rw [fset_at]; omega) | (simp only [Ls_len]; omega) | assumption | exact Ls_get (by omega) (by omega) | exact up_at _ _ _ | rfl | decide) ?_
  intro h34 s34
  rw [show wearsM (weOf (ruX (fset W 1 S1) X)) (fset W 1 S1 1) (fset W 1 S1 3 3) (fset W 1 S1 0) (fset W 1 S1 5) b = wv from hwv.symm]
  obtain ⟨_, e34, _⟩ := id s34
  have m0 := e34.o
  refine BX13_floatOn_37 (by first | omega | (rw [fset_at]; omega) | (simp only [Ls_len]; omega) | assumption | exact Ls_get (by omega) (by omega) | exact up_at _ _ _ | rfl | decide) ?_
  refine R_X13_cut (by first | omega | (rw [fset_at]; omega) | (simp only [Ls_len]; omega) | assumption | exact Ls_get (by omega) (by omega) | exact up_at _ _ _ | rfl | decide) (by first | omega | (rw [fset_at]; omega) | (simp only [Ls_len]; omega) | assumption | exact Ls_get (by omega) (by omega) | exact up_at _ _ _ | rfl | decide) (by first | omega | (rw [fset_at]; omega) | (simp only [Ls_len]; omega) | assumption | exact Ls_get (by omega) (by omega) | exact up_at _ _ _ | rfl | decide) ?_
  rw [show max 0 (min 99 (S1 (b * 6 + 3) - wv)) = max 0 (S1 (b * 6 + 3) - wv) by omega]
  refine BX13_floatOn_45 (by first | assumption | exact up_at _ _ _ | (rw [up_ne (by omega)]; first | assumption | exact up_at _ _ _ | (rw [up_ne (by omega)]; assumption))) ?_
  refine R_X13_put (by first | omega | (rw [fset_at]; omega) | (simp only [Ls_len]; omega) | assumption | exact Ls_get (by omega) (by omega) | exact up_at _ _ _ | rfl | decide) (by first | omega | (rw [fset_at]; omega) | (simp only [Ls_len]; omega) | assumption | exact Ls_get (by omega) (by omega) | exact up_at _ _ _ | rfl | decide) (by first | omega | (rw [fset_at]; omega) | (simp only [Ls_len]; omega) | assumption | exact Ls_get (by omega) (by omega) | exact up_at _ _ _ | rfl | decide) (by first | omega | (rw [fset_at]; omega) | (simp only [Ls_len]; omega) | assumption | exact Ls_get (by omega) (by omega) | exact up_at _ _ _ | rfl | decide) (by first | omega | (rw [fset_at]; omega) | (simp only [Ls_len]; omega) | assumption | exact Ls_get (by omega) (by omega) | exact up_at _ _ _ | rfl | decide) ?_
  intro h45 s45
  rw [fset2, g1, ← hS3] at s45
  obtain ⟨M5, e5, t5⟩ := id s45
  have m0 := e5.o
  have m1 := e5.a1
  have d5 : M5 1 8 = S2 74 := t5.1.1.2.1.2.1
  have d6 : M5 1 2 = W 3 2 := t5.1.1.2.2.2.1.2.1
  refine BX13_floatOn_48 (by first | assumption | exact up_at _ _ _ | (rw [up_ne (by omega)]; first | assumption | exact up_at _ _ _ | (rw [up_ne (by omega)]; assumption))) ?_
  refine R_X13_get (by first | omega | (rw [fset_at]; omega) | (simp only [Ls_len]; omega) | assumption | exact Ls_get (by omega) (by omega) | exact up_at _ _ _ | rfl | decide) (by first | omega | (rw [fset_at]; omega) | (simp only [Ls_len]; omega) | assumption | exact Ls_get (by omega) (by omega) | exact up_at _ _ _ | rfl | decide) (by first | omega | (rw [fset_at]; omega) | (simp only [Ls_len]; omega) | assumption | exact Ls_get (by omega) (by omega) | exact up_at _ _ _ | rfl | decide) (by first | omega | (rw [fset_at]; omega) | (simp only [Ls_len]; omega) | assumption | exact Ls_get (by omega) (by omega) | exact up_at _ _ _ | rfl | decide) (by first | omega | (rw [fset_at]; omega) | (simp only [Ls_len]; omega) | assumption | exact Ls_get (by omega) (by omega) | exact up_at _ _ _ | rfl | decide) ?_
  rw [g2]
  refine BX13_floatOn_54  ?_ ?_
  · intro hc1
    refine BX13_floatOn_64 (by first | assumption | exact up_at _ _ _ | (rw [up_ne (by omega)]; first | assumption | exact up_at _ _ _ | (rw [up_ne (by omega)]; assumption))) ?_
    refine R_X13_get (by first | omega | (rw [fset_at]; omega) | (simp only [Ls_len]; omega) | assumption | exact Ls_get (by omega) (by omega) | exact up_at _ _ _ | rfl | decide) (by first | omega | (rw [fset_at]; omega) | (simp only [Ls_len]; omega) | assumption | exact Ls_get (by omega) (by omega) | exact up_at _ _ _ | rfl | decide) (by first | omega | (rw [fset_at]; omega) | (simp only [Ls_len]; omega) | assumption | exact Ls_get (by omega) (by omega) | exact up_at _ _ _ | rfl | decide) (by first | omega | (rw [fset_at]; omega) | (simp only [Ls_len]; omega) | assumption | exact Ls_get (by omega) (by omega) | exact up_at _ _ _ | rfl | decide) (by first | omega | (rw [fset_at]; omega) | (simp only [Ls_len]; omega) | assumption | exact Ls_get (by omega) (by omega) | exact up_at _ _ _ | rfl | decide) ?_
    rw [g2]
    refine BX13_floatOn_70 (by first | assumption | exact up_at _ _ _ | (rw [up_ne (by omega)]; first | assumption | exact up_at _ _ _ | (rw [up_ne (by omega)]; assumption))) ?_
    refine R_X13_get (by first | omega | (rw [fset_at]; omega) | (simp only [Ls_len]; omega) | assumption | exact Ls_get (by omega) (by omega) | exact up_at _ _ _ | rfl | decide) (by first | omega | (rw [fset_at]; omega) | (simp only [Ls_len]; omega) | assumption | exact Ls_get (by omega) (by omega) | exact up_at _ _ _ | rfl | decide) (by first | omega | (rw [fset_at]; omega) | (simp only [Ls_len]; omega) | assumption | exact Ls_get (by omega) (by omega) | exact up_at _ _ _ | rfl | decide) (by first | omega | (rw [fset_at]; omega) | (simp only [Ls_len]; omega) | assumption | exact Ls_get (by omega) (by omega) | exact up_at _ _ _ | rfl | decide) (by first | omega | (rw [fset_at]; omega) | (simp only [Ls_len]; omega) | assumption | exact Ls_get (by omega) (by omega) | exact up_at _ _ _ | rfl | decide) ?_
    rw [g2]
    refine BX13_floatOn_77 (by first | assumption | exact up_at _ _ _ | (rw [up_ne (by omega)]; first | assumption | exact up_at _ _ _ | (rw [up_ne (by omega)]; assumption))) ?_
    refine R_X13_ownP (by first | omega | (rw [fset_at]; omega) | (simp only [Ls_len]; omega) | assumption | exact Ls_get (by omega) (by omega) | exact up_at _ _ _ | rfl | decide) (by first | omega | (rw [fset_at]; omega) | (simp only [Ls_len]; omega) | assumption | exact Ls_get (by omega) (by omega) | exact up_at _ _ _ | rfl | decide) (by first | omega | (rw [fset_at]; omega) | (simp only [Ls_len]; omega) | assumption | exact Ls_get (by omega) (by omega) | exact up_at _ _ _ | rfl | decide) ?_
    rw [show fset W 1 S2 0 = W 0 from rfl]
    refine BX13_floatOn_81  ?_ ?_
    · intro hc2
      refine BX13_floatOn_85 (by first | assumption | exact up_at _ _ _ | (rw [up_ne (by omega)]; first | assumption | exact up_at _ _ _ | (rw [up_ne (by omega)]; assumption))) (by rfl) (by first | assumption | exact up_at _ _ _ | (rw [up_ne (by omega)]; first | assumption | exact up_at _ _ _ | (rw [up_ne (by omega)]; assumption))) (by first | exact Ls_get (by omega) (by omega) | assumption) (by first | omega | (rw [fset_at]; omega) | (simp only [Ls_len]; omega) | assumption | exact Ls_get (by omega) (by omega) | exact up_at _ _ _ | rfl | decide) (by first | exact Ls_get (by omega) (by omega) | assumption) ?_
      refine R_X13_comesOf (by first | omega | (rw [fset_at]; omega) | (simp only [Ls_len]; omega) | assumption | exact Ls_get (by omega) (by omega) | exact up_at _ _ _ | rfl | decide) (by first | omega | (rw [fset_at]; omega) | (simp only [Ls_len]; omega) | assumption | exact Ls_get (by omega) (by omega) | exact up_at _ _ _ | rfl | decide) (by first | omega | (rw [fset_at]; omega) | (simp only [Ls_len]; omega) | assumption | exact Ls_get (by omega) (by omega) | exact up_at _ _ _ | rfl | decide) (by first | omega | (rw [fset_at]; omega) | (simp only [Ls_len]; omega) | assumption | exact Ls_get (by omega) (by omega) | exact up_at _ _ _ | rfl | decide) (by first | omega | (rw [fset_at]; omega) | (simp only [Ls_len]; omega) | assumption | exact Ls_get (by omega) (by omega) | exact up_at _ _ _ | rfl | decide) (by first | omega | (rw [fset_at]; omega) | (simp only [Ls_len]; omega) | assumption | exact Ls_get (by omega) (by omega) | exact up_at _ _ _ | rfl | decide) ?_
      intro h103 s103
      rw [d6, d5]
      rw [show comesM (coOf (textX (fset W 1 S2) X (W 3 2))) (fset W 1 S2 1) (fset W 1 S2 3 3) (fset W 1 S2 0) (fset W 1 S2 5) b = comesM (coOf (ruX W X)) S2 (W 3 3) (W 0) (W 5) b from rfl]
      obtain ⟨_, e7, _⟩ := id s103
      have m0 := e7.o
      refine BX13_floatOn_106  ?_ ?_
      · intro hc3
        refine BX13_floatOn_113 (by first | assumption | exact up_at _ _ _ | (rw [up_ne (by omega)]; first | assumption | exact up_at _ _ _ | (rw [up_ne (by omega)]; assumption))) ?_
        refine R_X13_anew (by first | omega | (rw [fset_at]; omega) | (simp only [Ls_len]; omega) | assumption | exact Ls_get (by omega) (by omega) | exact up_at _ _ _ | rfl | decide) (by first | omega | (rw [fset_at]; omega) | (simp only [Ls_len]; omega) | assumption | exact Ls_get (by omega) (by omega) | exact up_at _ _ _ | rfl | decide) ?_
        intro h116 s116
        rw [fset2, g2] at s116
        obtain ⟨_, e6, _⟩ := id s116
        have m0 := e6.o
        refine BX13_floatOn_119  ?_ ?_
        · intro hc4
          refine BX13_floatOn_129  ?_
          first
          | (exfalso; omega)
          | (rw [if_neg (by omega), if_pos (by omega), if_neg (by omega)] at k; rw [Int.add_zero] at k; exact k _ s116)
          | (rw [fset2, show fset W 1 (drM S2) 1 = drM S2 from fset_at _ _ _] at s126; rw [if_neg (by omega), if_pos (by omega), if_pos (by omega)] at k; exact k _ s126)
        · intro hc5
          refine BX13_floatOn_123 (by first | assumption | exact up_at _ _ _ | (rw [up_ne (by omega)]; first | assumption | exact up_at _ _ _ | (rw [up_ne (by omega)]; assumption))) ?_
          refine R_X13_finish (by first | omega | (rw [fset_at]; omega) | (simp only [Ls_len]; omega) | assumption | exact Ls_get (by omega) (by omega) | exact up_at _ _ _ | rfl | decide) (by first | omega | (rw [fset_at]; omega) | (simp only [Ls_len]; omega) | assumption | exact Ls_get (by omega) (by omega) | exact up_at _ _ _ | rfl | decide) (by first | omega | (rw [fset_at]; omega) | (simp only [Ls_len]; omega) | assumption | exact Ls_get (by omega) (by omega) | exact up_at _ _ _ | rfl | decide) (by first | omega | (rw [fset_at]; omega) | (simp only [Ls_len]; omega) | assumption | exact Ls_get (by omega) (by omega) | exact up_at _ _ _ | rfl | decide) (by first | omega | (rw [fset_at]; omega) | (simp only [Ls_len]; omega) | assumption | exact Ls_get (by omega) (by omega) | exact up_at _ _ _ | rfl | decide) (by first | omega | (rw [fset_at]; omega) | (simp only [Ls_len]; omega) | assumption | exact Ls_get (by omega) (by omega) | exact up_at _ _ _ | rfl | decide) (by first | omega | (rw [fset_at]; omega) | (simp only [Ls_len]; omega) | assumption | exact Ls_get (by omega) (by omega) | exact up_at _ _ _ | rfl | decide) (by first | omega | (rw [fset_at]; omega) | (simp only [Ls_len]; omega) | assumption | exact Ls_get (by omega) (by omega) | exact up_at _ _ _ | rfl | decide) (by first | omega | (rw [fset_at]; omega) | (simp only [Ls_len]; omega) | assumption | exact Ls_get (by omega) (by omega) | exact up_at _ _ _ | rfl | decide) ?_
          intro h126 s126
          refine BX13_floatOn_129  ?_
          first
          | (exfalso; omega)
          | (rw [if_neg (by omega), if_pos (by omega), if_neg (by omega)] at k; rw [Int.add_zero] at k; exact k _ s116)
          | (rw [fset2, show fset W 1 (drM S2) 1 = drM S2 from fset_at _ _ _] at s126; rw [if_neg (by omega), if_pos (by omega), if_pos (by omega)] at k; exact k _ s126)
      · intro hc6
        refine BX13_floatOn_109 (by first | assumption | exact up_at _ _ _ | (rw [up_ne (by omega)]; first | assumption | exact up_at _ _ _ | (rw [up_ne (by omega)]; assumption))) ?_
        refine R_X13_anew (by first | omega | (rw [fset_at]; omega) | (simp only [Ls_len]; omega) | assumption | exact Ls_get (by omega) (by omega) | exact up_at _ _ _ | rfl | decide) (by first | omega | (rw [fset_at]; omega) | (simp only [Ls_len]; omega) | assumption | exact Ls_get (by omega) (by omega) | exact up_at _ _ _ | rfl | decide) ?_
        intro h116 s116
        rw [fset2, g2] at s116
        obtain ⟨_, e6, _⟩ := id s116
        have m0 := e6.o
        refine BX13_floatOn_119  ?_ ?_
        · intro hc7
          refine BX13_floatOn_129  ?_
          first
          | (exfalso; omega)
          | (rw [if_neg (by omega), if_pos (by omega), if_neg (by omega)] at k; rw [Int.add_zero] at k; exact k _ s116)
          | (rw [fset2, show fset W 1 (drM S2) 1 = drM S2 from fset_at _ _ _] at s126; rw [if_neg (by omega), if_pos (by omega), if_pos (by omega)] at k; exact k _ s126)
        · intro hc8
          refine BX13_floatOn_123 (by first | assumption | exact up_at _ _ _ | (rw [up_ne (by omega)]; first | assumption | exact up_at _ _ _ | (rw [up_ne (by omega)]; assumption))) ?_
          refine R_X13_finish (by first | omega | (rw [fset_at]; omega) | (simp only [Ls_len]; omega) | assumption | exact Ls_get (by omega) (by omega) | exact up_at _ _ _ | rfl | decide) (by first | omega | (rw [fset_at]; omega) | (simp only [Ls_len]; omega) | assumption | exact Ls_get (by omega) (by omega) | exact up_at _ _ _ | rfl | decide) (by first | omega | (rw [fset_at]; omega) | (simp only [Ls_len]; omega) | assumption | exact Ls_get (by omega) (by omega) | exact up_at _ _ _ | rfl | decide) (by first | omega | (rw [fset_at]; omega) | (simp only [Ls_len]; omega) | assumption | exact Ls_get (by omega) (by omega) | exact up_at _ _ _ | rfl | decide) (by first | omega | (rw [fset_at]; omega) | (simp only [Ls_len]; omega) | assumption | exact Ls_get (by omega) (by omega) | exact up_at _ _ _ | rfl | decide) (by first | omega | (rw [fset_at]; omega) | (simp only [Ls_len]; omega) | assumption | exact Ls_get (by omega) (by omega) | exact up_at _ _ _ | rfl | decide) (by first | omega | (rw [fset_at]; omega) | (simp only [Ls_len]; omega) | assumption | exact Ls_get (by omega) (by omega) | exact up_at _ _ _ | rfl | decide) (by first | omega | (rw [fset_at]; omega) | (simp only [Ls_len]; omega) | assumption | exact Ls_get (by omega) (by omega) | exact up_at _ _ _ | rfl | decide) (by first | omega | (rw [fset_at]; omega) | (simp only [Ls_len]; omega) | assumption | exact Ls_get (by omega) (by omega) | exact up_at _ _ _ | rfl | decide) ?_
          intro h126 s126
          refine BX13_floatOn_129  ?_
          first
          | (exfalso; omega)
          | (rw [if_neg (by omega), if_pos (by omega), if_neg (by omega)] at k; rw [Int.add_zero] at k; exact k _ s116)
          | (rw [fset2, show fset W 1 (drM S2) 1 = drM S2 from fset_at _ _ _] at s126; rw [if_neg (by omega), if_pos (by omega), if_pos (by omega)] at k; exact k _ s126)
    · intro hc9
      refine BX13_floatOn_84  ?_
      (rw [if_neg (by assumption), if_neg (by assumption)] at k; rw [Int.add_zero] at k; exact k _ s45)
  · intro hc10
    refine BX13_floatOn_57 (by first | assumption | exact up_at _ _ _ | (rw [up_ne (by omega)]; first | assumption | exact up_at _ _ _ | (rw [up_ne (by omega)]; assumption))) ?_
    refine R_X13_finish (by first | omega | (rw [fset_at]; omega) | (simp only [Ls_len]; omega) | assumption | exact Ls_get (by omega) (by omega) | exact up_at _ _ _ | rfl | decide) (by first | omega | (rw [fset_at]; omega) | (simp only [Ls_len]; omega) | assumption | exact Ls_get (by omega) (by omega) | exact up_at _ _ _ | rfl | decide) (by first | omega | (rw [fset_at]; omega) | (simp only [Ls_len]; omega) | assumption | exact Ls_get (by omega) (by omega) | exact up_at _ _ _ | rfl | decide) (by first | omega | (rw [fset_at]; omega) | (simp only [Ls_len]; omega) | assumption | exact Ls_get (by omega) (by omega) | exact up_at _ _ _ | rfl | decide) (by first | omega | (rw [fset_at]; omega) | (simp only [Ls_len]; omega) | assumption | exact Ls_get (by omega) (by omega) | exact up_at _ _ _ | rfl | decide) (by first | omega | (rw [fset_at]; omega) | (simp only [Ls_len]; omega) | assumption | exact Ls_get (by omega) (by omega) | exact up_at _ _ _ | rfl | decide) (by first | omega | (rw [fset_at]; omega) | (simp only [Ls_len]; omega) | assumption | exact Ls_get (by omega) (by omega) | exact up_at _ _ _ | rfl | decide) (by first | omega | (rw [fset_at]; omega) | (simp only [Ls_len]; omega) | assumption | exact Ls_get (by omega) (by omega) | exact up_at _ _ _ | rfl | decide) (by first | omega | (rw [fset_at]; omega) | (simp only [Ls_len]; omega) | assumption | exact Ls_get (by omega) (by omega) | exact up_at _ _ _ | rfl | decide) ?_
    intro h60 s60
    refine BX13_floatOn_63  ?_
    rw [fset2, g2] at s60
    rw [if_pos (by assumption)] at k
    exact k _ s60
theorem R_X13_pass {l1 : Option aV} (s : IsMo g h W V X F B wr cm) (ok : okW W) (w01 : wr = 0 ∨ wr = 1) (ht : W 1 73 < 9999) (c0 : 0 ≤ cm) (c1 : cm < 1000000) (k : ∀ h1, IsMo g h1 (fset W 1 (passW X W).1) V X F B wr (cm + (passW X W).2) → Q none h1 n) : Rn (d + 7) bc bs mX13_pass 0 [some (vR (some 301)), l1] [] h n Q := by
  have loop : ∀ (m i : Nat) (h1 : aH), (i : Int) + m = W 1 72 → IsMo g h1 (fset W 1 (passN (coOf (ruX W X)) (weOf (ruX W X)) (W 3 3) (W 0) (W 5) (W 6) (W 1) i).1) V X F B wr (cm + (passN (coOf (ruX W X)) (weOf (ruX W X)) (W 3 3) (W 0) (W 5) (W 6) (W 1) i).2) → Rn (d + 7) bc bs mX13_pass 2 [some (vR (some 301)), some (vI (i : Int))] [] h1 n Q := by
    intro m
    induction m with
    | zero =>
      intro i h1 hi s1
      have e9 : i = (W 1 72).toNat := by omega
      have po := passN_ok (co := coOf (ruX W X)) (we := weOf (ruX W X)) ok.1 ok.2.1 i (by omega)
      subst e9
      obtain ⟨S1, hS1⟩ : ∃ S1, S1 = (passN (coOf (ruX W X)) (weOf (ruX W X)) (W 3 3) (W 0) (W 5) (W 6) (W 1) (W 1 72).toNat).1 := ⟨_, rfl⟩
      rw [← hS1] at s1 po
      have q1 := po.1.1
      obtain ⟨M, e, t⟩ := id s1
      have m0 := e.o
      have m1 := e.a1
      have te := t.1.1.2.1
      have te1 : M 1 7 = S1 73 := te.1
      have te3 : M 1 9 = S1 72 := te.2.2.1
      refine BX13_pass_2 (by first | assumption | exact up_at _ _ _ | (rw [up_ne (by omega)]; first | assumption | exact up_at _ _ _ | (rw [up_ne (by omega)]; assumption))) (by rfl) (by first | assumption | exact up_at _ _ _ | (rw [up_ne (by omega)]; first | assumption | exact up_at _ _ _ | (rw [up_ne (by omega)]; assumption))) (by first | exact Ls_get (by omega) (by omega) | assumption) ?_ ?_
      · intro hc1
        first
        | (exfalso; omega)
        | (
            refine BX13_pass_32 (by first | assumption | exact up_at _ _ _ | (rw [up_ne (by omega)]; first | assumption | exact up_at _ _ _ | (rw [up_ne (by omega)]; assumption))) (by rfl) (by first | assumption | exact up_at _ _ _ | (rw [up_ne (by omega)]; first | assumption | exact up_at _ _ _ | (rw [up_ne (by omega)]; assumption))) (by first | exact Ls_get (by omega) (by omega) | assumption) (by first | omega | (rw [fset_at]; omega) | (simp only [Ls_len]; omega) | assumption | exact Ls_get (by omega) (by omega) | exact up_at _ _ _ | rfl | decide) (by first | omega | (rw [fset_at]; omega) | (simp only [Ls_len]; omega) | assumption | exact Ls_get (by omega) (by omega) | exact up_at _ _ _ | rfl | decide) (by first | omega | (rw [fset_at]; omega) | (simp only [Ls_len]; omega) | assumption | exact Ls_get (by omega) (by omega) | exact up_at _ _ _ | rfl | decide) ?_
            try rw [Ls_set (by omega)]
            refine BX13_pass_43  ?_
            have s2 := mkS (S := fset S1 73 (M 1 7 + 1)) e t (A := fset (M 1) 7 (M 1 7 + 1)) (fun i hi => fset_ne (by omega)) ⟨?_, ?_, ?_, fun b w b0 b1 w0 w1 => ?_⟩ (fset_ne (by omega)) (fun j j0 => bk_ne (by omega) j0) (by simp (disch := omega) only [fset_ne, fset_at]; omega)
            · rw [fset2] at s2
              have ep : (passW X W).1 = fset S1 73 (W 1 73 + 1) := by rw [hS1]; rfl
              have ep2 : (passW X W).2 = (passN (coOf (ruX W X)) (weOf (ruX W X)) (W 3 3) (W 0) (W 5) (W 6) (W 1) (W 1 72).toNat).2 := rfl
              rw [ep, ep2] at k
              have e73 : M 1 7 = W 1 73 := by omega
              rw [e73] at s2 ⊢
              exact k _ s2
            · rw [fset_at, fset_at]
            · rw [fset_ne (by omega), fset_ne (by omega)]; exact te.2.1
            · rw [fset_ne (by omega), fset_ne (by omega)]; exact te3
            · rw [fset_ne (by omega)] at b1; rw [fset_ne (by omega), fset_ne (by omega)]; exact te.2.2.2 b w b0 b1 w0 w1
          )
      · intro hc2
        first
        | (exfalso; omega)
        | (
            (exfalso; omega)
          )
    | succ m ih =>
      intro i h1 hi s1
      have po := passN_ok (co := coOf (ruX W X)) (we := weOf (ruX W X)) ok.1 ok.2.1 i (by omega)
      have ih1 := ih (i + 1)
      unfold passN at ih1
      obtain ⟨S1, hS1⟩ : ∃ S1, S1 = (passN (coOf (ruX W X)) (weOf (ruX W X)) (W 3 3) (W 0) (W 5) (W 6) (W 1) i).1 := ⟨_, rfl⟩
      obtain ⟨c9, hc9⟩ : ∃ c9, c9 = (passN (coOf (ruX W X)) (weOf (ruX W X)) (W 3 3) (W 0) (W 5) (W 6) (W 1) i).2 := ⟨_, rfl⟩
      rw [← hS1, ← hc9] at s1 po ih1
      have q1 := po.1.1
      have g1 : fset W 1 S1 1 = S1 := fset_at _ _ _
      have ok1 : okW (fset W 1 S1) := okW_sea ok po.1
      have u72 : fset W 1 S1 1 72 = W 1 72 := by rw [g1]; omega
      have u4 : fset W 1 S1 1 ((i : Int) * 6 + 4) = S1 ((i : Int) * 6 + 4) := by rw [g1]
      obtain ⟨M, e, t⟩ := id s1
      have m0 := e.o
      have m1 := e.a1
      have te3 : M 1 9 = S1 72 := t.1.1.2.1.2.2.1
      unfold floatM at ih1
      refine BX13_pass_2 (by first | assumption | exact up_at _ _ _ | (rw [up_ne (by omega)]; first | assumption | exact up_at _ _ _ | (rw [up_ne (by omega)]; assumption))) (by rfl) (by first | assumption | exact up_at _ _ _ | (rw [up_ne (by omega)]; first | assumption | exact up_at _ _ _ | (rw [up_ne (by omega)]; assumption))) (by first | exact Ls_get (by omega) (by omega) | assumption) ?_ ?_
      · intro hc1
        (exfalso; omega)
      · intro hc2
        refine BX13_pass_13 (by first | assumption | exact up_at _ _ _ | (rw [up_ne (by omega)]; first | assumption | exact up_at _ _ _ | (rw [up_ne (by omega)]; assumption))) ?_
        refine R_X13_isAfloat (by first | omega | (rw [fset_at]; omega) | (simp only [Ls_len]; omega) | assumption | exact Ls_get (by omega) (by omega) | exact up_at _ _ _ | rfl | decide) ?_ ?_
        · intro w1 w2 w3
          refine BX13_pass_18  ?_ ?_
          · intro hc3
            exact absurd hc3 (by decide)
          · intro hc4
            refine BX13_pass_21 (by first | assumption | exact up_at _ _ _ | (rw [up_ne (by omega)]; first | assumption | exact up_at _ _ _ | (rw [up_ne (by omega)]; assumption))) ?_
            refine R_X13_floatOn (by first | omega | (rw [fset_at]; omega) | (simp only [Ls_len]; omega) | assumption | exact Ls_get (by omega) (by omega) | exact up_at _ _ _ | rfl | decide) (by first | omega | (rw [fset_at]; omega) | (simp only [Ls_len]; omega) | assumption | exact Ls_get (by omega) (by omega) | exact up_at _ _ _ | rfl | decide) (by first | omega | (rw [fset_at]; omega) | (simp only [Ls_len]; omega) | assumption | exact Ls_get (by omega) (by omega) | exact up_at _ _ _ | rfl | decide) (by first | omega | (rw [fset_at]; omega) | (simp only [Ls_len]; omega) | assumption | exact Ls_get (by omega) (by omega) | exact up_at _ _ _ | rfl | decide) (by first | omega | (rw [fset_at]; omega) | (simp only [Ls_len]; omega) | assumption | exact Ls_get (by omega) (by omega) | exact up_at _ _ _ | rfl | decide) (by first | omega | (rw [fset_at]; omega) | (simp only [Ls_len]; omega) | assumption | exact Ls_get (by omega) (by omega) | exact up_at _ _ _ | rfl | decide) (by first | omega | (rw [fset_at]; omega) | (simp only [Ls_len]; omega) | assumption | exact Ls_get (by omega) (by omega) | exact up_at _ _ _ | rfl | decide) (by first | omega | (rw [fset_at]; omega) | (simp only [Ls_len]; omega) | assumption | exact Ls_get (by omega) (by omega) | exact up_at _ _ _ | rfl | decide) ?_
            intro h23 s23
            refine BX13_pass_26 (by first | omega | (rw [fset_at]; omega) | (simp only [Ls_len]; omega) | assumption | exact Ls_get (by omega) (by omega) | exact up_at _ _ _ | rfl | decide) ?_
            first
            | (rw [if_neg (by omega)] at ih1; exact ih1 _ (by omega) (by rw [Int.add_zero]; exact s1))
            | (rw [fset2] at s23
               have fm : floatM (coOf (ruX (fset W 1 S1) X)) (weOf (ruX (fset W 1 S1) X)) (fset W 1 S1 3 3) (fset W 1 S1 0) (fset W 1 S1 5) (fset W 1 S1 6) (fset W 1 S1 1) i = floatM (coOf (ruX W X)) (weOf (ruX W X)) (W 3 3) (W 0) (W 5) (W 6) S1 i := rfl
               rw [fm] at s23
               unfold floatM at s23
               rw [Int.add_assoc] at s23
               exact ih1 _ (by omega) s23)
        · intro w4
          refine BX13_pass_18  ?_ ?_
          · intro hc5
            refine BX13_pass_26 (by first | omega | (rw [fset_at]; omega) | (simp only [Ls_len]; omega) | assumption | exact Ls_get (by omega) (by omega) | exact up_at _ _ _ | rfl | decide) ?_
            first
            | (rw [if_neg (by omega)] at ih1; exact ih1 _ (by omega) (by rw [Int.add_zero]; exact s1))
            | (rw [fset2] at s23
               have fm : floatM (coOf (ruX (fset W 1 S1) X)) (weOf (ruX (fset W 1 S1) X)) (fset W 1 S1 3 3) (fset W 1 S1 0) (fset W 1 S1 5) (fset W 1 S1 6) (fset W 1 S1 1) i = floatM (coOf (ruX W X)) (weOf (ruX W X)) (W 3 3) (W 0) (W 5) (W 6) S1 i := rfl
               rw [fm] at s23
               unfold floatM at s23
               rw [Int.add_assoc] at s23
               exact ih1 _ (by omega) s23)
          · intro hc6
            exact absurd hc6 (by decide)
  refine BX13_pass_0  ?_
  exact loop (W 1 72).toNat 0 h (by obtain ⟨M, e, t⟩ := id s; have := t.2.2.2.2.2.2.2.1; omega) (by rw [show (passN (coOf (ruX W X)) (weOf (ruX W X)) (W 3 3) (W 0) (W 5) (W 6) (W 1) 0) = (W 1, 0) from rfl, fset_id, Int.add_zero]; exact s)
end FLOAT2
