section WORLD2
variable {d bc bs n : Nat} {h : aH} {Q : aQ} {w o : Nat} {W V : Int → Int → Int} {X : Int → Tx}
theorem wcopy46 (s : IsW h w W X) (t : IsW h o V X) (hw : w ≠ 0) (ho : o ≠ 0) (hd : w + 140 ≤ o ∨ o + 140 ≤ w) (h3 : w + 140 ≤ 317) (h4 : o + 140 ≤ 317) (e0 : W 0 = V 0) (e1 : W 1 = V 1) (e2 : W 2 = V 2) (e30 : W 3 0 = V 3 0) (e33 : W 3 3 = V 3 3) (e5 : W 5 = V 5) (e6 : W 6 = V 6) (e7 : ∀ j, 0 ≤ j → j < V 3 0 → V (10 + j) = W (10 + j)) (k : ∀ h1, Fr h h1 w 140 → IsW h1 w V X → Q none h1 n) : Rn (d + 5) bc bs mX11_copyFrom 46 [some (vR (some w)), some (vR (some o)), some (vI 0)] [] h n Q := by
  obtain ⟨s1, s2, s3, ⟨T, p, s4, s5⟩, s6, sc, s7, s8, s9⟩ := s
  obtain ⟨t1, t2, t3, t4, t6, sc2, t7, t8, t9⟩ := t
  have loop : ∀ (m i : Nat) (F : Int → Option Nat), i + m = 4 → (∀ j : Int, 0 ≤ j → j < i → F j = sc2 j) → Rn (d + 5) bc bs mX11_copyFrom 46 [some (vR (some w)), some (vR (some o)), some (vI i)] [] (up h (w + 139) (cQ 10 (Ls 4 F))) n Q := by
    intro m
    induction m with
    | zero =>
      intro i F hi hF
      have e4 : i = 4 := by omega
      subst e4
      have l1 := Ls_len 4 F
      have eF : Ls 4 F = Ls 4 sc2 := Ls_ext fun j j0 j1 => hF j j0 (by omega)
      refine BX11_copyFrom_46 (by first | assumption | exact up_at _ _ _ | (rw [up_ne (by omega)]; first | assumption | exact up_at _ _ _ | (rw [up_ne (by omega)]; first | assumption | exact up_at _ _ _ | (rw [up_ne (by omega)]; assumption)))) (by rfl) (by first | assumption | exact up_at _ _ _ | (rw [up_ne (by omega)]; first | assumption | exact up_at _ _ _ | (rw [up_ne (by omega)]; first | assumption | exact up_at _ _ _ | (rw [up_ne (by omega)]; assumption)))) (by first | omega | assumption | (simp only [Ls_len]; omega) | exact Ls_get (by omega) (by omega) | rfl | decide) (by first | omega | assumption | (simp only [Ls_len]; omega) | exact Ls_get (by omega) (by omega) | rfl | decide) ?_ ?_
      · intro hc1
        first
        | (exfalso; omega)
        | (
            refine BX11_copyFrom_82 (by first | assumption | exact up_at _ _ _ | (rw [up_ne (by omega)]; first | assumption | exact up_at _ _ _ | (rw [up_ne (by omega)]; first | assumption | exact up_at _ _ _ | (rw [up_ne (by omega)]; assumption)))) (by rfl) (by first | assumption | exact up_at _ _ _ | (rw [up_ne (by omega)]; first | assumption | exact up_at _ _ _ | (rw [up_ne (by omega)]; first | assumption | exact up_at _ _ _ | (rw [up_ne (by omega)]; assumption)))) (by simp) ?_
            refine BX11_copyFrom_90 (by first | assumption | exact up_at _ _ _ | (rw [up_ne (by omega)]; first | assumption | exact up_at _ _ _ | (rw [up_ne (by omega)]; first | assumption | exact up_at _ _ _ | (rw [up_ne (by omega)]; assumption)))) (by rfl) (by first | assumption | exact up_at _ _ _ | (rw [up_ne (by omega)]; first | assumption | exact up_at _ _ _ | (rw [up_ne (by omega)]; first | assumption | exact up_at _ _ _ | (rw [up_ne (by omega)]; assumption)))) (by simp) ?_
            refine BX11_copyFrom_98  ?_
            rw [up_up]
            have r1 := Fr.one h (w + 139) (cQ 10 (Ls 4 F))
            have r2 := Fr.one (up h (w + 139) (cQ 10 (Ls 4 F))) w (cO 11 [vR (some (w + 1)), vR (some (w + 5)), vR (some (w + 9)), vR (some (w + 131)), vR (some (w + 139)), vI (V 3 1), vI (V 3 2)])
            refine k _ ((r1.wd (by omega) (by omega)).tr (r2.wd (by omega) (by omega))) ⟨?_, ?_, ?_, ?_, ?_, sc2, ?_, ?_, ?_⟩
            · exact up_at _ _ _
            · rw [← e33, ← e0, ← e5, ← e6]; exact (s2.fr r1 (by omega)).fr r2 (by omega)
            · rw [← e1]; exact (s3.fr r1 (by omega)).fr r2 (by omega)
            · exact ⟨T, p, by rw [← e30]; exact (s4.fr r1 (by omega)).fr r2 (by omega), fun j j0 j1 => by rw [e7 j j0 j1]; exact s5 j j0 (by omega)⟩
            · rw [← e2]; exact (s6.fr r1 (by omega)).fr r2 (by omega)
            · rw [up_ne (by omega), up_at, eF]
            · exact (t8.fr r1 (by omega)).fr r2 (by omega)
            · intro j j0 j1
              obtain ⟨y, y1, y2⟩ := t9 j j0 j1
              exact ⟨y, y1, (y2.fr r1 (by omega)).fr r2 (by omega)⟩
          )
      · intro hc2
        first
        | (exfalso; omega)
        | (
            (exfalso; omega)
          )
    | succ m ih =>
      intro i F hi hF
      have l1 := Ls_len 4 F
      have l2 := Ls_len 4 sc2
      have z1 : up h (w + 139) (cQ 10 (Ls 4 F)) w = _ := (up_ne (by omega)).trans s1
      have z2 : up h (w + 139) (cQ 10 (Ls 4 F)) o = _ := (up_ne (by omega)).trans t1
      have z3 : up h (w + 139) (cQ 10 (Ls 4 F)) (o + 139) = _ := (up_ne (by omega)).trans t7
      have z4 : up h (w + 139) (cQ 10 (Ls 4 F)) (w + 139) = _ := up_at _ _ _
      have g1 : (Ls 4 sc2)[(i : Int).toNat]? = some (sc2 i) := Ls_get (by omega) (by omega)
      have ih1 := ih (i + 1) (fset F i (sc2 i)) (by omega) (fun j j0 j1 => by
        by_cases q : j = i
        · subst q; exact fset_at _ _ _
        · rw [fset_ne q]; exact hF j j0 (by omega))
      refine BX11_copyFrom_46 (by first | assumption | exact up_at _ _ _ | (rw [up_ne (by omega)]; first | assumption | exact up_at _ _ _ | (rw [up_ne (by omega)]; first | assumption | exact up_at _ _ _ | (rw [up_ne (by omega)]; assumption)))) (by rfl) (by first | assumption | exact up_at _ _ _ | (rw [up_ne (by omega)]; first | assumption | exact up_at _ _ _ | (rw [up_ne (by omega)]; first | assumption | exact up_at _ _ _ | (rw [up_ne (by omega)]; assumption)))) (by first | omega | assumption | (simp only [Ls_len]; omega) | exact Ls_get (by omega) (by omega) | rfl | decide) (by first | omega | assumption | (simp only [Ls_len]; omega) | exact Ls_get (by omega) (by omega) | rfl | decide) ?_ ?_
      · intro hc1
        first
        | (exfalso; omega)
        | (
            (exfalso; omega)
          )
      · intro hc2
        first
        | (exfalso; omega)
        | (
            refine BX11_copyFrom_55 (by first | assumption | exact up_at _ _ _ | (rw [up_ne (by omega)]; first | assumption | exact up_at _ _ _ | (rw [up_ne (by omega)]; first | assumption | exact up_at _ _ _ | (rw [up_ne (by omega)]; assumption)))) (by rfl) (by first | assumption | exact up_at _ _ _ | (rw [up_ne (by omega)]; first | assumption | exact up_at _ _ _ | (rw [up_ne (by omega)]; first | assumption | exact up_at _ _ _ | (rw [up_ne (by omega)]; assumption)))) (by first | omega | assumption | (simp only [Ls_len]; omega) | exact Ls_get (by omega) (by omega) | rfl | decide) (by first | omega | assumption | (simp only [Ls_len]; omega) | exact Ls_get (by omega) (by omega) | rfl | decide) ?_ ?_
            · intro hc3
              first
              | (exfalso; omega)
              | (
                  (exfalso; omega)
                )
            · intro hc4
              first
              | (exfalso; omega)
              | (
                  rcases t8 i (by omega) (by omega) with e | ⟨x, f, e, hx, hx3⟩
                  · rw [e] at g1 ih1
                    refine BX11_copyFrom_64N z1 rfl z2 rfl z3 (by omega) g1 (by omega) z4 (by omega) (by omega) ?_
                    rw [up_up, Ls_set (by omega)]
                    refine BX11_copyFrom_76 (by omega) ?_
                    exact ih1
                  · rw [e] at g1 ih1
                    have z5 : up h (w + 139) (cQ 10 (Ls 4 F)) x = _ := (up_ne (by omega)).trans hx
                    refine BX11_copyFrom_64 z1 rfl z2 rfl z3 (by omega) g1 (by omega) z4 (by omega) z5 (by omega) ?_
                    rw [up_up, Ls_set (by omega)]
                    refine BX11_copyFrom_76 (by omega) ?_
                    exact ih1
                )
          )
  have e0 := loop 4 0 sc (by omega) (fun j j0 j1 => by omega)
  rw [up_self s7] at e0
  exact e0
theorem R_X11_copyFrom (s : IsW h w W X) (t : IsW h o V X) (hw : w ≠ 0) (ho : o ≠ 0) (hd : w + 140 ≤ o ∨ o + 140 ≤ w) (h3 : w + 140 ≤ 317) (h4 : o + 140 ≤ 317) (h0 : 0 ≤ V 3 0) (h1 : V 3 0 ≤ 30) (k : ∀ h1, Fr h h1 w 140 → IsW h1 w V X → Q none h1 n) : Rn (d + 5) bc bs mX11_copyFrom 0 [some (vR (some w)), some (vR (some o)), none] [] h n Q := by
  have s1 := s.1
  have s2 := s.2.1
  have s3 := s2.1
  have t1 := t.1
  have t2 := t.2.1
  refine BX11_copyFrom_0 (by first | assumption | exact up_at _ _ _ | (rw [up_ne (by omega)]; first | assumption | exact up_at _ _ _ | (rw [up_ne (by omega)]; first | assumption | exact up_at _ _ _ | (rw [up_ne (by omega)]; assumption)))) (by rfl) (by first | assumption | exact up_at _ _ _ | (rw [up_ne (by omega)]; first | assumption | exact up_at _ _ _ | (rw [up_ne (by omega)]; first | assumption | exact up_at _ _ _ | (rw [up_ne (by omega)]; assumption)))) (by rfl) (by first | assumption | exact up_at _ _ _ | (rw [up_ne (by omega)]; first | assumption | exact up_at _ _ _ | (rw [up_ne (by omega)]; first | assumption | exact up_at _ _ _ | (rw [up_ne (by omega)]; assumption)))) ?_
  refine R_X7_copyFrom (by first | omega | assumption | (simp only [Ls_len]; omega) | exact Ls_get (by omega) (by omega) | rfl | decide) (by first | omega | assumption | (simp only [Ls_len]; omega) | exact Ls_get (by omega) (by omega) | rfl | decide) (by first | omega | assumption | (simp only [Ls_len]; omega) | exact Ls_get (by omega) (by omega) | rfl | decide) (by first | omega | assumption | (simp only [Ls_len]; omega) | exact Ls_get (by omega) (by omega) | rfl | decide) (by first | omega | assumption | (simp only [Ls_len]; omega) | exact Ls_get (by omega) (by omega) | rfl | decide) ?_
  intro h8 r8 s8
  have s := s.sho r8 s8 h3
  have t := t.fr r8 (by omega) (by omega)
  have s1 := s.1
  have t1 := t.1
  have s2 := s.2.2.1
  have t2 := t.2.2.1
  have s3 := s2.1
  refine BX11_copyFrom_11 (by first | assumption | exact up_at _ _ _ | (rw [up_ne (by omega)]; first | assumption | exact up_at _ _ _ | (rw [up_ne (by omega)]; first | assumption | exact up_at _ _ _ | (rw [up_ne (by omega)]; assumption)))) (by rfl) (by first | assumption | exact up_at _ _ _ | (rw [up_ne (by omega)]; first | assumption | exact up_at _ _ _ | (rw [up_ne (by omega)]; first | assumption | exact up_at _ _ _ | (rw [up_ne (by omega)]; assumption)))) (by rfl) (by first | assumption | exact up_at _ _ _ | (rw [up_ne (by omega)]; first | assumption | exact up_at _ _ _ | (rw [up_ne (by omega)]; first | assumption | exact up_at _ _ _ | (rw [up_ne (by omega)]; assumption)))) ?_
  refine R_X6_copyFrom (by first | omega | assumption | (simp only [Ls_len]; omega) | exact Ls_get (by omega) (by omega) | rfl | decide) (by first | omega | assumption | (simp only [Ls_len]; omega) | exact Ls_get (by omega) (by omega) | rfl | decide) (by first | omega | assumption | (simp only [Ls_len]; omega) | exact Ls_get (by omega) (by omega) | rfl | decide) (by first | omega | assumption | (simp only [Ls_len]; omega) | exact Ls_get (by omega) (by omega) | rfl | decide) (by first | omega | assumption | (simp only [Ls_len]; omega) | exact Ls_get (by omega) (by omega) | rfl | decide) ?_
  intro h19 r19 s19
  have s := s.sea r19 s19 h3
  have t := t.fr r19 (by omega) (by omega)
  have s1 := s.1
  have t1 := t.1
  obtain ⟨Ts, ps, s2, -⟩ := s.2.2.2.1
  obtain ⟨Tt, pt, t2, t5⟩ := t.2.2.2.1
  have s3 := s2.1
  refine BX11_copyFrom_22 (by first | assumption | exact up_at _ _ _ | (rw [up_ne (by omega)]; first | assumption | exact up_at _ _ _ | (rw [up_ne (by omega)]; first | assumption | exact up_at _ _ _ | (rw [up_ne (by omega)]; assumption)))) (by rfl) (by first | assumption | exact up_at _ _ _ | (rw [up_ne (by omega)]; first | assumption | exact up_at _ _ _ | (rw [up_ne (by omega)]; first | assumption | exact up_at _ _ _ | (rw [up_ne (by omega)]; assumption)))) (by rfl) (by first | assumption | exact up_at _ _ _ | (rw [up_ne (by omega)]; first | assumption | exact up_at _ _ _ | (rw [up_ne (by omega)]; first | assumption | exact up_at _ _ _ | (rw [up_ne (by omega)]; assumption)))) ?_
  refine R_X8_copyFrom (by first | omega | assumption | (simp only [Ls_len]; omega) | exact Ls_get (by omega) (by omega) | rfl | decide) (by first | omega | assumption | (simp only [Ls_len]; omega) | exact Ls_get (by omega) (by omega) | rfl | decide) (by first | omega | assumption | (simp only [Ls_len]; omega) | exact Ls_get (by omega) (by omega) | rfl | decide) (by first | omega | assumption | (simp only [Ls_len]; omega) | exact Ls_get (by omega) (by omega) | rfl | decide) (by first | omega | assumption | (simp only [Ls_len]; omega) | exact Ls_get (by omega) (by omega) | rfl | decide) (by first | omega | assumption | (simp only [Ls_len]; omega) | exact Ls_get (by omega) (by omega) | rfl | decide) (by first | omega | assumption | (simp only [Ls_len]; omega) | exact Ls_get (by omega) (by omega) | rfl | decide) ?_
  intro h30 T30 r30 s30 f30
  have s := s.stp (U := fun j => V (10 + j)) r30 s30 (fun j j0 j1 => (f30 j j0 j1).trans (t5 j j0 j1)) h3
  have t := t.fr r30 (by omega) (by omega)
  have s1 := s.1
  have t1 := t.1
  have s2 := s.2.2.2.2.1
  have t2 := t.2.2.2.2.1
  have s3 := s2.1
  refine BX11_copyFrom_33 (by first | assumption | exact up_at _ _ _ | (rw [up_ne (by omega)]; first | assumption | exact up_at _ _ _ | (rw [up_ne (by omega)]; first | assumption | exact up_at _ _ _ | (rw [up_ne (by omega)]; assumption)))) (by rfl) (by first | assumption | exact up_at _ _ _ | (rw [up_ne (by omega)]; first | assumption | exact up_at _ _ _ | (rw [up_ne (by omega)]; first | assumption | exact up_at _ _ _ | (rw [up_ne (by omega)]; assumption)))) (by rfl) (by first | assumption | exact up_at _ _ _ | (rw [up_ne (by omega)]; first | assumption | exact up_at _ _ _ | (rw [up_ne (by omega)]; first | assumption | exact up_at _ _ _ | (rw [up_ne (by omega)]; assumption)))) ?_
  refine R_X5_copyFrom (by first | omega | assumption | (simp only [Ls_len]; omega) | exact Ls_get (by omega) (by omega) | rfl | decide) (by first | omega | assumption | (simp only [Ls_len]; omega) | exact Ls_get (by omega) (by omega) | rfl | decide) (by first | omega | assumption | (simp only [Ls_len]; omega) | exact Ls_get (by omega) (by omega) | rfl | decide) (by first | omega | assumption | (simp only [Ls_len]; omega) | exact Ls_get (by omega) (by omega) | rfl | decide) (by first | omega | assumption | (simp only [Ls_len]; omega) | exact Ls_get (by omega) (by omega) | rfl | decide) ?_
  intro h41 r41 s41
  have s := s.say r41 s41 h3
  have t := t.fr r41 (by omega) (by omega)
  refine BX11_copyFrom_44  ?_
  refine wcopy46 s t hw ho hd h3 h4 rfl rfl rfl rfl rfl rfl rfl (fun j j0 j1 => ?_) fun h5 r5 => k h5 ((((r8.wd (by omega) (by omega)).tr (r19.wd (by omega) (by omega))).tr (r30.wd (by omega) (by omega))).tr (r41.wd (by omega) (by omega)) |>.tr r5)
  show V (10 + j) = if 10 + j = 2 then V 2 else if 10 + j = 3 then _ else if 10 ≤ 10 + j then V (10 + (10 + j - 10)) else _
  rw [if_neg (by omega), if_neg (by omega), if_pos (by omega), show 10 + (10 + j - 10) = 10 + j by omega]
end WORLD2
