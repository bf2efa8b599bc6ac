/-! Relays in the reference: all lengths. -/
section RELAY5
variable {d bc bs n : Nat} {g h : aH} {Q : aQ} {W V : Int → Int → Int} {X : Int → Tx} {F B : Int → Int} {wr cm : Int} {M : Int → Int → Int} {row : Int → Int} {S : Sl} {fr to many : Int}
theorem R_X13_layRelay {l3 l4 l5 l6 : Option aV} (s : IsMo g h W V X F B wr cm) (ok : okW W) (hP : W 3 3 ≤ 6) (f0 : 0 ≤ fr) (f1 : fr < W 3 3) (g0 : 0 ≤ to) (g1 : to < W 3 3) (k : ∀ h1 row a b, StR g h1 W V X F B wr cm row (laS W fr to 5 (1000000, a, b)) → Q none h1 n) : Rn (d + 6) bc bs mX13_layRelay 0 [some (vR (some 301)), some (vI fr), some (vI to), l3, l4, l5, l6] [] h n Q := by
  have loop : ∀ (m c : Nat) (a : Int) (b : Int → Int) (h : aH) (row : Int → Int) (l4 l5 l6 : Option aV), c + m = 5 → StR g h W V X F B wr cm row (laS W fr to c (1000000, a, b)) → Rn (d + 6) bc bs mX13_layRelay 9 [some (vR (some 301)), some (vI fr), some (vI to), some (vI (c : Int)), l4, l5, l6] [] h n Q := by
    intro m
    induction m with
    | zero =>
      intro c a b h row l4 l5 l6 hc st
      have ec : c = 5 := by omega
      subst ec
      refine BX13_layRelay_9  ?_ ?_
      · intro hc1
        first
        | (exfalso; omega)
        | (
            refine BX13_layRelay_143  ?_
            exact k _ _ _ _ st
          )
      · intro hc2
        first
        | (exfalso; omega)
        | (
            (exfalso; omega)
          )
    | succ m ih =>
      intro c a b h row l4 l5 l6 hc st
      have nxt : ∀ h1 row1 l5 l6, StR g h1 W V X F B wr cm row1 (enN W fr to c c 0 (fun _ => 0) (laS W fr to c (1000000, a, b))) → Rn (d + 6) bc bs mX13_layRelay 47 [some (vR (some 301)), some (vI fr), some (vI to), some (vI (c : Int)), some (vI 0), l5, l6] [] h1 n Q := by
        intro h1 row1 l5 l6 s1
        have z := ih (c + 1) a b h1 row1 (some (vI 0)) l5 l6 (by omega) s1
        rw [show (((c + 1 : Nat) : Int)) = (c : Int) + 1 by omega] at z
        refine BX13_layRelay_47  ?_ ?_
        · intro hc1
          first
          | (exfalso; omega)
          | (
              refine BX13_layRelay_137 (by first | omega | (rw [fset_at]; omega) | (simp only [Ls_len]; omega) | assumption | exact Ls_get (by omega) (by omega) | exact up_at _ _ _ | rfl | decide) ?_
              exact z
            )
        · intro hc2
          first
          | (exfalso; omega)
          | (
              (exfalso; omega)
            )
      by_cases q : c = 0
      · subst q
        have hh : ∀ l5 l6, Rn (d + 6) bc bs mX13_layRelay 47 [some (vR (some 301)), some (vI fr), some (vI to), some (vI ((0 : Nat) : Int)), some (vI 1), l5, l6] [] h n Q := lay_leaf st ok f0 f1 g0 g1 (by decide) (by decide) (fun i i0 i1 => by omega) (fun _ h1 l5 l6 s1 => nxt h1 row l5 l6 (by show StR g h1 W V X F B wr cm row (leafS W fr to ((0 : Nat) : Int) (fun _ => 0) (laS W fr to 0 (1000000, a, b))); rw [leafS_ext (row' := row) (by decide) (fun i i0 i1 => by omega)]; exact s1)) (fun z => by omega)
        refine BX13_layRelay_9  ?_ ?_
        · intro hc1
          refine BX13_layRelay_143  ?_
          (exfalso; omega)
        · intro hc2
          refine BX13_layRelay_14  ?_ ?_
          · intro hc3
            refine BX13_layRelay_25  ?_ ?_
            · intro hc4
              refine BX13_layRelay_40  ?_
              exact hh _ _
            · intro hc5
              (exfalso; omega)
          · intro hc6
            (exfalso; omega)
      · obtain ⟨j, hj⟩ : ∃ j, c = j + 1 := ⟨c - 1, by omega⟩
        obtain ⟨M, e, t, r1, r2, r3, r4⟩ := id st
        have a0 := e.o
        have a10 : h 311 = cI (Ls 4 row) := by rw [← r1]; exact e.a10
        have s2 := st.w10 (i := 0) (v := -1)
        have f29 : ∀ l4 l5 l6, Rn (d + 6) bc bs mX13_layRelay 29 [some (vR (some 301)), some (vI fr), some (vI to), some (vI (c : Int)), l4, l5, l6] [] (up h 311 (cI (Ls 4 (fset row 0 (-1))))) n Q := by
          intro l4 l5 l6
          have s3 := s2
          generalize up h 311 (cI (Ls 4 (fset row 0 (-1)))) = h2 at s3 ⊢
          obtain ⟨M3, e3, t3⟩ := s3.is
          refine BX13_layRelay_29 e3.o ?_
          refine Rn.mono (Q := qqR Q d bc bs fr to (c : Int)) ?_ ?_
          · rintro v h3 n3 ⟨b', rfl, b01, K⟩
            rcases b01 with rfl | rfl
            · exact BX13_layRelay_37 (fun _ => BX13_layRelay_44 (K _ _)) (fun q => absurd rfl q)
            · exact BX13_layRelay_37 (fun q => absurd q (by decide)) (fun _ => BX13_layRelay_40 (K _ _))
          · refine BX13_isNextRow_0 ?_
            refine row_adv s3 (by decide) (by omega) (by omega) (fset_at _ _ _) (by decide) (by decide) (fun h3 s4 => ?_)
            refine row_bt ok hP f0 f1 g0 g1 (by omega) j 0 (by decide) (by omega) (W 3 3).toNat 0 (fun _ => 0) _ _ h3 _ (by decide) (by omega) (fset_at _ _ _) (fun i i0 i1 => by omega) s4 (fun h' row' x4' hpre st' => ?_)
            refine BX13_isNextRow_4 (fun _ => BX13_isNextRow_109 (fun _ => BX13_isNextRow_118 ?_) (fun q => by omega)) (fun q => by omega)
            refine ⟨0, rfl, .inl rfl, fun l5 l6 => nxt h' row' l5 l6 ?_⟩
            rw [hj] at st' ⊢
            exact st'
        refine BX13_layRelay_9  ?_ ?_
        · intro hc1
          refine BX13_layRelay_143  ?_
          (exfalso; omega)
        · intro hc2
          refine BX13_layRelay_14  ?_ ?_
          · intro hc3
            refine BX13_layRelay_25  ?_ ?_
            · intro hc4
              refine BX13_layRelay_40  ?_
              (exfalso; omega)
            · intro hc5
              (first | exact f29 _ _ _ | (exfalso; omega))
          · intro hc6
            refine BX13_layRelay_18 (by first | assumption | exact up_at _ _ _ | (rw [up_ne (by omega)]; first | assumption | exact up_at _ _ _ | (rw [up_ne (by omega)]; assumption))) (by rfl) (by first | assumption | exact up_at _ _ _ | (rw [up_ne (by omega)]; first | assumption | exact up_at _ _ _ | (rw [up_ne (by omega)]; assumption))) (by first | omega | (rw [fset_at]; omega) | (simp only [Ls_len]; omega) | assumption | exact Ls_get (by omega) (by omega) | exact up_at _ _ _ | rfl | decide) (by first | omega | (rw [fset_at]; omega) | (simp only [Ls_len]; omega) | assumption | exact Ls_get (by omega) (by omega) | exact up_at _ _ _ | rfl | decide) ?_
            try rw [Ls_set (by omega)]
            refine BX13_layRelay_25  ?_ ?_
            · intro hc7
              refine BX13_layRelay_40  ?_
              (exfalso; omega)
            · intro hc8
              (first | exact f29 _ _ _ | (exfalso; omega))
  obtain ⟨M, e, t⟩ := id s
  have a0 := e.o
  have f7 : ∀ h1 l3 l4 l5 l6, StR g h1 W V X F B wr cm (M 10) (1000000, M 0 28, M 11) → Rn (d + 6) bc bs mX13_layRelay 7 [some (vR (some 301)), some (vI fr), some (vI to), l3, l4, l5, l6] [] h1 n Q := by
    intro h1 l3 l4 l5 l6 s1
    refine BX13_layRelay_7  ?_
    exact loop 5 0 _ _ _ _ _ _ _ (by decide) s1
  refine BX13_layRelay_0 (by first | assumption | exact up_at _ _ _ | (rw [up_ne (by omega)]; first | assumption | exact up_at _ _ _ | (rw [up_ne (by omega)]; assumption))) (by unfold mf; simp) ?_
  exact f7 _ _ _ _ _ (StR.f29 (S := (M 0 29, M 0 28, M 11)) e t rfl rfl rfl)
end RELAY5
