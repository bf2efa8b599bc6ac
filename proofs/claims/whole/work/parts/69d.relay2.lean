section RELAY2
theorem R_X4_goOn {W : Int → Int → Int} {z : Nat} {go wa : Int} (o : okSh (W 3 3) (W 0) (W 5) (W 6)) (hz : z ≠ 0) (hz2 : z + 4 ≤ 289) (t0 : 0 ≤ W 1 73) (t1 : W 1 73 ≤ 9999) (wa1 : wa ≤ 4) : ∀ (k : Nat) {d bc bs n : Nat} {h : aH} {Q : aQ} {w0 p tm dp us : Int} {R : Rl}, IsSh h z (W 3 3) (W 0) (W 5) (W 6) → dp + k = wa → 0 ≤ dp → 0 ≤ tm → tm ≤ 60 → 0 ≤ us → us < 64 → RoR h w0 go wa R → (∀ h1 w1, Fr h h1 289 3 → RoR h1 w1 go wa (goM W go wa k p tm dp us R) → Q none h1 n) → Rn (d + 2 * k + 6) bc bs mX4_goOn 0 [some (vR (some 289)), some (vR (some z)), some (vI p), some (vI (W 1 73)), some (vI tm), some (vI dp), some (vI us), none] [] h n Q := by
  intro k
  induction k with
  | zero =>
    intro d bc bs n h Q w0 p tm dp us R zs hd d0 m0 m1 u0 u1 s K
    have s1 := s.1
    refine BX4_goOn_0 (by first | assumption | exact up_at _ _ _ | (rw [up_ne (by omega)]; first | assumption | exact up_at _ _ _ | (rw [up_ne (by omega)]; first | assumption | exact up_at _ _ _ | (rw [up_ne (by omega)]; assumption)))) (by rfl) ?_ ?_
    · intro hc1
      first
      | (exfalso; omega)
      | (
          refine BX4_goOn_19  ?_
          (exfalso; omega)
        )
    · intro hc2
      first
      | (exfalso; omega)
      | (
          refine BX4_goOn_9 (by first | assumption | exact up_at _ _ _ | (rw [up_ne (by omega)]; first | assumption | exact up_at _ _ _ | (rw [up_ne (by omega)]; first | assumption | exact up_at _ _ _ | (rw [up_ne (by omega)]; assumption)))) ?_
          refine R_X4_arrive (by first | omega | assumption | (simp only [Ls_len]; omega) | exact Ls_get (by omega) (by omega) | rfl | decide) (by first | omega | assumption | (simp only [Ls_len]; omega) | exact Ls_get (by omega) (by omega) | rfl | decide) (by first | omega | assumption | (simp only [Ls_len]; omega) | exact Ls_get (by omega) (by omega) | rfl | decide) (by first | omega | assumption | (simp only [Ls_len]; omega) | exact Ls_get (by omega) (by omega) | rfl | decide) (by first | omega | assumption | (simp only [Ls_len]; omega) | exact Ls_get (by omega) (by omega) | rfl | decide) (by first | omega | assumption | (simp only [Ls_len]; omega) | exact Ls_get (by omega) (by omega) | rfl | decide) (by first | omega | assumption | (simp only [Ls_len]; omega) | exact Ls_get (by omega) (by omega) | rfl | decide) (by first | omega | assumption | (simp only [Ls_len]; omega) | exact Ls_get (by omega) (by omega) | rfl | decide) (by first | omega | assumption | (simp only [Ls_len]; omega) | exact Ls_get (by omega) (by omega) | rfl | decide) ?_
          intro h15 w15 r15 s15
          refine BX4_goOn_18  ?_
          exact K _ _ r15 s15
        )
  | succ k ih =>
    intro d bc bs n h Q w0 p tm dp us R zs hd d0 m0 m1 u0 u1 s K
    have s1 := s.1
    have z1 := zs.1
    have o1 := o.1
    have gby : ∀ (j : Nat) (h1 : aH) (w1 : Int) (R2 : Rl) (Q1 : aQ), (j : Int) < W 3 3 → tb us (j : Int) = false → IsSh h1 z (W 3 3) (W 0) (W 5) (W 6) → RoR h1 w1 go wa R2 → (∀ h2 w2, Fr h1 h2 289 3 → RoR h2 w2 go wa (if tb us (j : Int) = true ∨ legM W p j tm = -1 ∨ 60 < tm + legM W p j tm then R2 else goM W go wa k j (tm + legM W p j tm) (dp + 1) (or32 us (shl32 1 (j : Int))) (R2.1, R2.2.1, R2.2.2.1, fset R2.2.2.2 dp (j : Int))) → Q1 none h2 n) → Rn (d + 2 * (k + 1) + 5) 0 0 mX4_goBy 0 [some (vR (some 289)), some (vI j), some (vR (some z)), some (vI p), some (vI (W 1 73)), some (vI tm), some (vI dp), some (vI us), none] [] h1 n Q1 := by
      intro j h1 w1 R2 Q1 hj nu zs s K1
      have z1 := zs.1
      have lg := legM_in W p j tm
      have lgd : legM W p j tm = (mtN (W 6) (atP (W 3 3) (W 0) p) (atP (W 3 3) (W 0) j) (W 1 73 + tm) 20 10).1 := rfl
      have s1 := s.1
      have sh := shl1_rg (i := (j : Int)) (k := 6) (by decide) (by omega) (by omega)
      have e6 : (2 : Int) ^ 6 = 64 := by decide
      have og := or32_rg (x := us) (y := shl32 1 (j : Int)) (k := 6) (by decide) u0 (by omega) sh.1 sh.2
      have l1 := Ls_len 4 R2.2.2.2
      generalize legM W p j tm = leg at *
      refine BX4_goBy_0 (by first | omega | assumption | (simp only [Ls_len]; omega) | exact Ls_get (by omega) (by omega) | rfl | decide) (by first | assumption | exact up_at _ _ _ | (rw [up_ne (by omega)]; first | assumption | exact up_at _ _ _ | (rw [up_ne (by omega)]; first | assumption | exact up_at _ _ _ | (rw [up_ne (by omega)]; assumption)))) ?_
      refine R_X4_meet (by first | omega | assumption | (simp only [Ls_len]; omega) | exact Ls_get (by omega) (by omega) | rfl | decide) (by first | omega | assumption | (simp only [Ls_len]; omega) | exact Ls_get (by omega) (by omega) | rfl | decide) (by first | omega | assumption | (simp only [Ls_len]; omega) | exact Ls_get (by omega) (by omega) | rfl | decide) (by first | omega | assumption | (simp only [Ls_len]; omega) | exact Ls_get (by omega) (by omega) | rfl | decide) (by first | omega | assumption | (simp only [Ls_len]; omega) | exact Ls_get (by omega) (by omega) | rfl | decide) (by first | omega | assumption | (simp only [Ls_len]; omega) | exact Ls_get (by omega) (by omega) | rfl | decide) (by first | omega | assumption | (simp only [Ls_len]; omega) | exact Ls_get (by omega) (by omega) | rfl | decide) (by first | omega | assumption | (simp only [Ls_len]; omega) | exact Ls_get (by omega) (by omega) | rfl | decide) (by first | omega | assumption | (simp only [Ls_len]; omega) | exact Ls_get (by omega) (by omega) | rfl | decide) ?_
      intro h11 w11 r11 s11 y11
      rw [← lgd]
      obtain ⟨v1, v2, v3⟩ := id s11
      refine BX4_goBy_14  ?_ ?_
      · intro hc1
        refine BX4_goBy_32  ?_
        rw [if_pos (.inr (by omega))] at K1
        exact K1 _ _ r11 s11
      · intro hc2
        refine BX4_goBy_22 (by first | omega | assumption | (simp only [Ls_len]; omega) | exact Ls_get (by omega) (by omega) | rfl | decide) ?_ ?_
        · intro hc3
          refine BX4_goBy_33 (by first | assumption | exact up_at _ _ _ | (rw [up_ne (by omega)]; first | assumption | exact up_at _ _ _ | (rw [up_ne (by omega)]; first | assumption | exact up_at _ _ _ | (rw [up_ne (by omega)]; assumption)))) (by rfl) ?_
          refine R_X12_setCell (by first | omega | assumption | (simp only [Ls_len]; omega) | exact Ls_get (by omega) (by omega) | rfl | decide) (by first | omega | assumption | (simp only [Ls_len]; omega) | exact Ls_get (by omega) (by omega) | rfl | decide) (by first | omega | assumption | (simp only [Ls_len]; omega) | exact Ls_get (by omega) (by omega) | rfl | decide) (by first | omega | assumption | (simp only [Ls_len]; omega) | exact Ls_get (by omega) (by omega) | rfl | decide) (by first | omega | assumption | (simp only [Ls_len]; omega) | exact Ls_get (by omega) (by omega) | rfl | decide) ?_
          rw [Ls_set d0]
          have f9 := Fr.one h11 290 (cI (Ls 4 (fset R2.2.2.2 dp (j : Int))))
          have v1' : up h11 290 (cI (Ls 4 (fset R2.2.2.2 dp (j : Int)))) 289 = _ := (up_ne (by decide)).trans v1
          refine BX4_goBy_43 (by omega) (by omega) v1' ?_
          rw [if_neg (show ¬ (tb us (j : Int) = true ∨ leg = -1 ∨ 60 < tm + leg) from fun q => by rcases q with q | q | q; (rw [nu] at q; cases q); omega; omega)] at K1
          refine Rn.deep (d := d + 2 * k + 6) (by omega) (ih (d := d) (R := (R2.1, R2.2.1, R2.2.2.1, fset R2.2.2.2 dp (j : Int))) ((zs.fr r11 (by omega)).fr f9 (by omega)) (by omega) (by omega) (by omega) (by omega) og.1 (by omega) ⟨v1', up_at _ _ _, (up_ne (by decide)).trans v3⟩ fun h2 w2 f2 s2 => ?_)
          refine BX4_goBy_66 ?_
          exact K1 h2 w2 ((r11.tr (f9.wd (by decide) (by decide))).tr f2) s2
        · intro hc4
          refine BX4_goBy_32  ?_
          rw [if_pos (.inr (by omega))] at K1
          exact K1 _ _ r11 s11
    have loop : ∀ (m j : Nat) (h1 : aH) (w1 : Int), (j : Int) + m = W 3 3 → Fr h h1 289 3 → RoR h1 w1 go wa (foldN (fun nx R => if tb us nx = true ∨ legM W p nx tm = -1 ∨ 60 < tm + legM W p nx tm then R else goM W go wa k nx (tm + legM W p nx tm) (dp + 1) (or32 us (shl32 1 nx)) (R.1, R.2.1, R.2.2.1, fset R.2.2.2 dp nx)) j R) → Rn (d + 2 * (k + 1) + 6) bc bs mX4_goOn 22 [some (vR (some 289)), some (vR (some z)), some (vI p), some (vI (W 1 73)), some (vI tm), some (vI dp), some (vI us), some (vI j)] [] h1 n Q := by
      intro m
      induction m with
      | zero =>
        intro j h1 w1 hj f s
        have z1 := (zs.fr f (by omega)).1
        have e : j = (W 3 3).toNat := by omega
        subst e
        refine BX4_goOn_22 (by first | assumption | exact up_at _ _ _ | (rw [up_ne (by omega)]; first | assumption | exact up_at _ _ _ | (rw [up_ne (by omega)]; first | assumption | exact up_at _ _ _ | (rw [up_ne (by omega)]; assumption)))) (by rfl) ?_ ?_
        · intro hc1
          first
          | (exfalso; omega)
          | (
              refine BX4_goOn_62  ?_
              exact K _ _ f s
            )
        · intro hc2
          first
          | (exfalso; omega)
          | (
              (exfalso; omega)
            )
      | succ m ih2 =>
        intro j h1 w1 hj f s
        have zs := zs.fr f (by omega)
        have z1 := zs.1
        have ih3 := ih2 (j + 1)
        clear ih2
        have tz := tb_andz (x := us) (i := (j : Int)) u0 (by omega) (by omega) (by omega)
        have tn := tb_and (x := us) (i := (j : Int)) u0 (by omega) (by omega) (by omega)
        rw [foldN] at ih3
        generalize foldN (fun nx R => if tb us nx = true ∨ legM W p nx tm = -1 ∨ 60 < tm + legM W p nx tm then R else goM W go wa k nx (tm + legM W p nx tm) (dp + 1) (or32 us (shl32 1 nx)) (R.1, R.2.1, R.2.2.1, fset R.2.2.2 dp nx)) j R = R2 at *
        have s1 := s.1
        refine BX4_goOn_22 (by first | assumption | exact up_at _ _ _ | (rw [up_ne (by omega)]; first | assumption | exact up_at _ _ _ | (rw [up_ne (by omega)]; first | assumption | exact up_at _ _ _ | (rw [up_ne (by omega)]; assumption)))) (by rfl) ?_ ?_
        · intro hc1
          (exfalso; omega)
        · intro hc2
          refine BX4_goOn_31  ?_ ?_
          · intro hc3
            refine BX4_goOn_56 (by first | omega | assumption | (simp only [Ls_len]; omega) | exact Ls_get (by omega) (by omega) | rfl | decide) ?_
            first
            | (exfalso; omega)
            | (rw [if_pos (.inl (tn.mp (by assumption)))] at ih3; exact ih3 _ _ (by omega) f s)
          · intro hc4
            refine BX4_goOn_41 s1 ?_
            refine gby j _ w1 R2 _ (by omega) (tz.mp (by assumption)) zs s fun h2 w2 f2 s2 => ?_
            refine BX4_goOn_56 (by omega) ?_
            exact ih3 h2 w2 (by omega) (f.tr f2) s2
    refine BX4_goOn_0 (by first | assumption | exact up_at _ _ _ | (rw [up_ne (by omega)]; first | assumption | exact up_at _ _ _ | (rw [up_ne (by omega)]; first | assumption | exact up_at _ _ _ | (rw [up_ne (by omega)]; assumption)))) (by rfl) ?_ ?_
    · intro hc1
      first
      | (exfalso; omega)
      | (
          refine BX4_goOn_19  ?_
          exact loop (W 3 3).toNat 0 h w0 (by omega) (Fr.rf _ _ _) s
        )
    · intro hc2
      first
      | (exfalso; omega)
      | (
          (exfalso; omega)
        )
end RELAY2
