/-! The reference: foretold, ends, whose law, a text played. -/
theorem IsMo.B {g h : aH} {W V : Int → Int → Int} {X : Int → Tx} {F B B2 : Int → Int} {cm : Int} (s : IsMo g h W V X F B 1 cm) : IsMo g h W V X F B2 1 cm := by
  obtain ⟨M, e, ⟨⟨ta, tb⟩, tv, tx, tt, wr0, cm0, on⟩⟩ := s
  rw [if_pos rfl] at tb
  exact ⟨M, e, ⟨ta, by rw [if_pos rfl]; exact tb⟩, tv, tx, tt, ⟨wr0.1, fun q => absurd q (by decide)⟩, cm0, on⟩
section FORE
variable {d bc bs n : Nat} {g h : aH} {Q : aQ} {W V : Int → Int → Int} {X : Int → Tx} {F B : Int → Int} {wr cm : Int} {M : Int → Int → Int}
theorem M_foretold {m b w : Int} (s : IsMo g h W V X F B 1 cm) (ok : okW W) (c0 : 0 ≤ cm) (c1 : cm < 800000) (k : ∀ h1 c2, cm ≤ c2 → c2 ≤ cm + 720 → IsMo g h1 W V X F B 1 c2 → Q (some (vI (aForetold X W m b w))) h1 n) : Rn (d + 30) bc bs mX13_foretold 0 [some (vR (some 301)), some (vI m), some (vI b), some (vI w), none] [] h n Q := by
  unfold aForetold at k
  have on1 := ok.n
  have loop : ∀ (A : Int → Int), tSe A (W 1) → A 10 = W 1 75 → (1 ≤ m ∧ m ≤ 60 ∧ 0 ≤ b ∧ b < W 1 72 ∧ 0 ≤ w ∧ w ≤ 2) → ∀ (j i : Nat) (h1 : aH) (c2 : Int), (i : Int) + j = m → cm ≤ c2 → c2 ≤ cm + 12 * i → IsMo g h1 (fset W 1 (foreS X W i)) V X F (asB A (W 1)) 0 c2 → Rn (d + 30) bc bs mX13_foretold 36 [some (vR (some 301)), some (vI m), some (vI b), some (vI w), some (vI (i : Int))] [] h1 n Q := by
    intro A tA a10 hz j
    rw [if_pos hz] at k
    induction j with
    | zero =>
      intro i h1 c2 hi c3 c4 s1
      have e9 : i = m.toNat := by omega
      subst e9
      have fo := foreS_ok (X := X) ok m.toNat
      have u72 : fset W 1 (foreS X W m.toNat) 1 72 = W 1 72 := by rw [fset_at]; exact fo.2.1
      obtain ⟨M, e, t⟩ := id s1
      have m0 := e.o
      refine BX13_foretold_36  ?_ ?_
      · intro hc1
        first
        | (exfalso; omega)
        | (
            refine BX13_foretold_65 (by first | omega | (rw [fset_at]; omega) | (simp only [Ls_len]; omega) | assumption | exact Ls_get (by omega) (by omega) | exact up_at _ _ _ | rfl | decide) (by first | assumption | exact up_at _ _ _ | (rw [up_ne (by omega)]; first | assumption | exact up_at _ _ _ | (rw [up_ne (by omega)]; assumption))) ?_
            refine R_X13_get (by first | omega | (rw [fset_at]; omega) | (simp only [Ls_len]; omega) | assumption | exact Ls_get (by omega) (by omega) | exact up_at _ _ _ | rfl | decide) (by first | omega | (rw [fset_at]; omega) | (simp only [Ls_len]; omega) | assumption | exact Ls_get (by omega) (by omega) | exact up_at _ _ _ | rfl | decide) (by first | omega | (rw [fset_at]; omega) | (simp only [Ls_len]; omega) | assumption | exact Ls_get (by omega) (by omega) | exact up_at _ _ _ | rfl | decide) (by first | omega | (rw [fset_at]; omega) | (simp only [Ls_len]; omega) | assumption | exact Ls_get (by omega) (by omega) | exact up_at _ _ _ | rfl | decide) (by first | omega | (rw [fset_at]; omega) | (simp only [Ls_len]; omega) | assumption | exact Ls_get (by omega) (by omega) | exact up_at _ _ _ | rfl | decide) ?_
            rw [show fset W 1 (foreS X W m.toNat) 1 = foreS X W m.toNat from fset_at _ _ _]
            refine BX13_foretold_73 (by first | assumption | exact up_at _ _ _ | (rw [up_ne (by omega)]; first | assumption | exact up_at _ _ _ | (rw [up_ne (by omega)]; assumption))) ?_
            refine R_X13_putBack (by first | omega | (rw [fset_at]; omega) | (simp only [Ls_len]; omega) | assumption | exact Ls_get (by omega) (by omega) | exact up_at _ _ _ | rfl | decide) (by first | omega | (rw [fset_at]; omega) | (simp only [Ls_len]; omega) | assumption | exact Ls_get (by omega) (by omega) | exact up_at _ _ _ | rfl | decide) (by first | omega | (rw [fset_at]; omega) | (simp only [Ls_len]; omega) | assumption | exact Ls_get (by omega) (by omega) | exact up_at _ _ _ | rfl | decide) (by first | omega | (rw [fset_at]; omega) | (simp only [Ls_len]; omega) | assumption | exact Ls_get (by omega) (by omega) | exact up_at _ _ _ | rfl | decide) ?_
            intro h76 s76
            refine BX13_foretold_79  ?_
            exact k _ _ c3 (by omega) (s76 B)
          )
      · intro hc2
        first
        | (exfalso; omega)
        | (
            (exfalso; omega)
          )
    | succ j ih =>
      intro i h1 c2 hi c3 c4 s1
      have fo := foreS_ok (X := X) ok i
      have ok1 := okW_sea ok fo.1
      have q1 := fo.1.1
      obtain ⟨M, e, t⟩ := id s1
      have m0 := e.o
      have m1 := e.a1
      have te1 : M 1 7 = foreS X W i 73 := t.1.1.2.1.1
      have ih1 := ih (i + 1)
      unfold foreS at ih1
      by_cases q : foreS X W i 73 < 9999
      · rw [if_pos q] at ih1
        have u73 : fset W 1 (foreS X W i) 1 73 < 9999 := by rw [fset_at]; exact q
        have po := passW_ok (X := X) ok1 u73
        refine BX13_foretold_36  ?_ ?_
        · intro hc1
          first
          | (exfalso; omega)
          | (
              (exfalso; omega)
            )
        · intro hc2
          first
          | (exfalso; omega)
          | (
              refine BX13_foretold_42 (by first | assumption | exact up_at _ _ _ | (rw [up_ne (by omega)]; first | assumption | exact up_at _ _ _ | (rw [up_ne (by omega)]; assumption))) (by rfl) (by first | assumption | exact up_at _ _ _ | (rw [up_ne (by omega)]; first | assumption | exact up_at _ _ _ | (rw [up_ne (by omega)]; assumption))) (by first | exact Ls_get (by omega) (by omega) | assumption) ?_ ?_
              · intro hc3
                first
                | (exfalso; omega)
                | (
                    refine BX13_foretold_59 (by first | omega | (rw [fset_at]; omega) | (simp only [Ls_len]; omega) | assumption | exact Ls_get (by omega) (by omega) | exact up_at _ _ _ | rfl | decide) ?_
                    first | (exfalso; omega) | exact ih1 _ _ (by omega) (by omega) (by omega) s56
                  )
              · intro hc4
                first
                | (exfalso; omega)
                | (
                    refine BX13_foretold_55 (by first | assumption | exact up_at _ _ _ | (rw [up_ne (by omega)]; first | assumption | exact up_at _ _ _ | (rw [up_ne (by omega)]; assumption))) ?_
                    refine R_X13_pass (by first | omega | (rw [fset_at]; omega) | (simp only [Ls_len]; omega) | assumption | exact Ls_get (by omega) (by omega) | exact up_at _ _ _ | rfl | decide) (by first | omega | (rw [fset_at]; omega) | (simp only [Ls_len]; omega) | assumption | exact Ls_get (by omega) (by omega) | exact up_at _ _ _ | rfl | decide) (by first | omega | (rw [fset_at]; omega) | (simp only [Ls_len]; omega) | assumption | exact Ls_get (by omega) (by omega) | exact up_at _ _ _ | rfl | decide) (by first | omega | (rw [fset_at]; omega) | (simp only [Ls_len]; omega) | assumption | exact Ls_get (by omega) (by omega) | exact up_at _ _ _ | rfl | decide) (by first | omega | (rw [fset_at]; omega) | (simp only [Ls_len]; omega) | assumption | exact Ls_get (by omega) (by omega) | exact up_at _ _ _ | rfl | decide) (by first | omega | (rw [fset_at]; omega) | (simp only [Ls_len]; omega) | assumption | exact Ls_get (by omega) (by omega) | exact up_at _ _ _ | rfl | decide) ?_
                    intro h56 s56
                    rw [fset2] at s56
                    refine BX13_foretold_59 (by first | omega | (rw [fset_at]; omega) | (simp only [Ls_len]; omega) | assumption | exact Ls_get (by omega) (by omega) | exact up_at _ _ _ | rfl | decide) ?_
                    first | (exfalso; omega) | exact ih1 _ _ (by omega) (by omega) (by omega) s56
                  )
            )
      · rw [if_neg q] at ih1
        refine BX13_foretold_36  ?_ ?_
        · intro hc1
          first
          | (exfalso; omega)
          | (
              (exfalso; omega)
            )
        · intro hc2
          first
          | (exfalso; omega)
          | (
              refine BX13_foretold_42 (by first | assumption | exact up_at _ _ _ | (rw [up_ne (by omega)]; first | assumption | exact up_at _ _ _ | (rw [up_ne (by omega)]; assumption))) (by rfl) (by first | assumption | exact up_at _ _ _ | (rw [up_ne (by omega)]; first | assumption | exact up_at _ _ _ | (rw [up_ne (by omega)]; assumption))) (by first | exact Ls_get (by omega) (by omega) | assumption) ?_ ?_
              · intro hc3
                first
                | (exfalso; omega)
                | (
                    refine BX13_foretold_59 (by first | omega | (rw [fset_at]; omega) | (simp only [Ls_len]; omega) | assumption | exact Ls_get (by omega) (by omega) | exact up_at _ _ _ | rfl | decide) ?_
                    exact ih1 _ _ (by omega) (by omega) (by omega) s1
                  )
              · intro hc4
                first
                | (exfalso; omega)
                | (
                    (exfalso; omega)
                  )
            )
  obtain ⟨M, e, ⟨⟨ts, te, ty, ⟨t1, t2, t3⟩, tp⟩, tb⟩, ⟨tv, tvb⟩, tx, ⟨⟨tt1, tt2, tt3⟩, tt4⟩, wr0, cm0, on⟩ := id s; obtain ⟨on1, on2, on3, on4, on5, on6, on7, on8⟩ := id on; have tt : tTp M F := ⟨⟨tt1, tt2, tt3⟩, tt4⟩; have m0 := e.o; have m1 := e.a1; have m2 := e.a2; have m3 := e.a3; have m4 := e.a4; have ts1 := ts.1; obtain ⟨te1, te2, te3, te4⟩ := id te; obtain ⟨⟨ty1, ty2, ty3, ty4, ty5⟩, ty6, ty7, ty8, ty9⟩ := id ty
  refine BX13_foretold_0  ?_
  refine R_X13_isIn  ?_ ?_
  · intro w1 w2
    refine BX13_foretold_7  ?_ ?_
    · intro hc1
      exact absurd hc1 (by decide)
    · intro hc2
      refine BX13_foretold_10 (by first | assumption | exact up_at _ _ _ | (rw [up_ne (by omega)]; first | assumption | exact up_at _ _ _ | (rw [up_ne (by omega)]; assumption))) ?_
      refine R_X13_isBottle (by first | omega | (rw [fset_at]; omega) | (simp only [Ls_len]; omega) | assumption | exact Ls_get (by omega) (by omega) | exact up_at _ _ _ | rfl | decide) ?_ ?_
      · intro w1 w2
        refine BX13_foretold_15  ?_ ?_
        · intro hc3
          exact absurd hc3 (by decide)
        · intro hc4
          refine BX13_foretold_18  ?_
          refine R_X13_isIn  ?_ ?_
          · intro w1 w2
            refine BX13_foretold_24  ?_ ?_
            · intro hc5
              refine BX13_foretold_29 (by first | assumption | exact up_at _ _ _ | (rw [up_ne (by omega)]; first | assumption | exact up_at _ _ _ | (rw [up_ne (by omega)]; assumption))) ?_
              refine R_X13_setAside (by first | omega | (rw [fset_at]; omega) | (simp only [Ls_len]; omega) | assumption | exact Ls_get (by omega) (by omega) | exact up_at _ _ _ | rfl | decide) ?_
              intro h30 A30 p30 q30 s30
              refine BX13_foretold_33  ?_
              exact loop A30 p30 q30 ⟨by omega, by omega, by omega, by omega, by omega, by omega⟩ m.toNat 0 _ cm (by omega) (by omega) (by omega) (by rw [show foreS X W 0 = W 1 from rfl, fset_id]; exact s30)
            · intro hc6
              exact absurd hc6 (by decide)
          · intro w3
            refine BX13_foretold_24  ?_ ?_
            · intro hc7
              exact absurd hc7 (by decide)
            · intro hc8
              refine BX13_foretold_27  ?_
              (rw [if_neg (by omega)] at k; exact k _ _ (by omega) (by omega) s)
      · intro w3
        refine BX13_foretold_15  ?_ ?_
        · intro hc9
          refine BX13_foretold_27  ?_
          (rw [if_neg (by omega)] at k; exact k _ _ (by omega) (by omega) s)
        · intro hc10
          exact absurd hc10 (by decide)
  · intro w3
    refine BX13_foretold_7  ?_ ?_
    · intro hc11
      refine BX13_foretold_27  ?_
      (rw [if_neg (by omega)] at k; exact k _ _ (by omega) (by omega) s)
    · intro hc12
      exact absurd hc12 (by decide)
theorem M_ends {b : Int} (s : IsMo g h W V X F B 1 cm) (ok : okW W) (c0 : 0 ≤ cm) (c1 : cm < 800000) (k : ∀ h1 c2, cm ≤ c2 → c2 ≤ cm + 720 → IsMo g h1 W V X F B 1 c2 → Q (some (vI (aEnds X W b))) h1 n) : Rn (d + 30) bc bs mX13_ends 0 [some (vR (some 301)), some (vI b), none, none] [] h n Q := by
  unfold aEnds at k
  have on1 := ok.n
  have fin : ∀ (A S : Int → Int) (i c2 : Int) (h1 : aH), tSe A (W 1) → A 10 = W 1 75 → 0 ≤ b → b < W 1 72 → S 72 = W 1 72 → cm ≤ c2 → c2 ≤ cm + 720 → IsMo g h1 (fset W 1 S) V X F (asB A (W 1)) 0 c2 → Q = Q → (∀ h1, cm ≤ c2 → IsMo g h1 W V X F B 1 c2 → Q (some (vI (if S (b * 6 + 4) = 0 then -1 else i))) h1 n) → Rn (d + 30) bc bs mX13_ends 53 [some (vR (some 301)), some (vI b), some (vI i), none] [] h1 n Q := by
    intro A S i c2 h1 tA a10 b0 b1 s72 c3 c4 s1 _ K
    have g1 : fset W 1 S 1 = S := fset_at _ _ _
    have u72 : fset W 1 S 1 72 = W 1 72 := by rw [g1]; exact s72
    have u4 : fset W 1 S 1 (b * 6 + 4) = S (b * 6 + 4) := by rw [g1]
    obtain ⟨M, e, t⟩ := id s1
    have m0 := e.o
    refine BX13_ends_53 (by first | assumption | exact up_at _ _ _ | (rw [up_ne (by omega)]; first | assumption | exact up_at _ _ _ | (rw [up_ne (by omega)]; assumption))) ?_
    refine R_X13_isAfloat (by first | omega | (rw [fset_at]; omega) | (simp only [Ls_len]; omega) | assumption | exact Ls_get (by omega) (by omega) | exact up_at _ _ _ | rfl | decide) ?_ ?_
    · intro w1 w2 w3
      refine BX13_ends_58  ?_ ?_
      · intro hc1
        exact absurd hc1 (by decide)
      · intro hc2
        refine BX13_ends_61 (by first | assumption | exact up_at _ _ _ | (rw [up_ne (by omega)]; first | assumption | exact up_at _ _ _ | (rw [up_ne (by omega)]; assumption))) ?_
        refine R_X13_putBack (by first | omega | (rw [fset_at]; omega) | (simp only [Ls_len]; omega) | assumption | exact Ls_get (by omega) (by omega) | exact up_at _ _ _ | rfl | decide) (by first | omega | (rw [fset_at]; omega) | (simp only [Ls_len]; omega) | assumption | exact Ls_get (by omega) (by omega) | exact up_at _ _ _ | rfl | decide) (by first | omega | (rw [fset_at]; omega) | (simp only [Ls_len]; omega) | assumption | exact Ls_get (by omega) (by omega) | exact up_at _ _ _ | rfl | decide) (by first | omega | (rw [fset_at]; omega) | (simp only [Ls_len]; omega) | assumption | exact Ls_get (by omega) (by omega) | exact up_at _ _ _ | rfl | decide) ?_
        intro h68 s68
        refine BX13_ends_71  ?_
        first | (exfalso; omega) | (rw [if_pos (by omega)] at K; exact K _ c3 (s68 B)) | (rw [if_neg (by omega)] at K; exact K _ c3 (s68 B))
    · intro w4
      refine BX13_ends_58  ?_ ?_
      · intro hc3
        refine BX13_ends_65 (by first | assumption | exact up_at _ _ _ | (rw [up_ne (by omega)]; first | assumption | exact up_at _ _ _ | (rw [up_ne (by omega)]; assumption))) ?_
        refine R_X13_putBack (by first | omega | (rw [fset_at]; omega) | (simp only [Ls_len]; omega) | assumption | exact Ls_get (by omega) (by omega) | exact up_at _ _ _ | rfl | decide) (by first | omega | (rw [fset_at]; omega) | (simp only [Ls_len]; omega) | assumption | exact Ls_get (by omega) (by omega) | exact up_at _ _ _ | rfl | decide) (by first | omega | (rw [fset_at]; omega) | (simp only [Ls_len]; omega) | assumption | exact Ls_get (by omega) (by omega) | exact up_at _ _ _ | rfl | decide) (by first | omega | (rw [fset_at]; omega) | (simp only [Ls_len]; omega) | assumption | exact Ls_get (by omega) (by omega) | exact up_at _ _ _ | rfl | decide) ?_
        intro h68 s68
        refine BX13_ends_71  ?_
        first | (exfalso; omega) | (rw [if_pos (by omega)] at K; exact K _ c3 (s68 B)) | (rw [if_neg (by omega)] at K; exact K _ c3 (s68 B))
      · intro hc4
        exact absurd hc4 (by decide)
  have loop : ∀ (A : Int → Int), tSe A (W 1) → A 10 = W 1 75 → 0 ≤ b → b < W 1 72 → ∀ (j : Nat) (i c2 : Int) (S : Int → Int) (h1 : aH), 0 ≤ i → i + j = 60 → okSe (W 3 3) S → S 72 = W 1 72 → S (b * 6 + 4) = 0 → cm ≤ c2 → c2 ≤ cm + 12 * i → IsMo g h1 (fset W 1 S) V X F (asB A (W 1)) 0 c2 → (∀ h1 c2, cm ≤ c2 → c2 ≤ cm + 720 → IsMo g h1 W V X F B 1 c2 → Q (some (vI (endsM X W b j (i + 1) S))) h1 n) → Rn (d + 30) bc bs mX13_ends 16 [some (vR (some 301)), some (vI b), some (vI i), none] [] h1 n Q := by
    intro A tA a10 b0 b1 j
    induction j with
    | zero =>
      intro i c2 S h1 i0 ij os s72 sa c3 c4 s1 k
      have f9 := fin A S i c2 h1 tA a10 b0 b1 s72 c3 (by omega) s1 rfl (fun h2 _ s2 => by rw [if_pos sa]; exact k _ _ c3 (by omega) s2)
      obtain ⟨M, e, t⟩ := id s1
      have m0 := e.o
      refine BX13_ends_16  ?_ ?_
      · intro hc1
        first
        | (exfalso; omega)
        | (
            exact f9
          )
      · intro hc2
        first
        | (exfalso; omega)
        | (
            (exfalso; omega)
          )
    | succ j ih =>
      intro i c2 S h1 i0 ij os s72 sa c3 c4 s1 k
      have ok1 := okW_sea ok os
      have q1 := os.1
      have g1 : fset W 1 S 1 = S := fset_at _ _ _
      have u72 : fset W 1 S 1 72 = W 1 72 := by rw [g1]; exact s72
      have u4 : fset W 1 S 1 (b * 6 + 4) = 0 := by rw [g1]; exact sa
      obtain ⟨M, e, t⟩ := id s1
      have m0 := e.o
      have m1 := e.a1
      have te1 : M 1 7 = S 73 := t.1.1.2.1.1
      unfold endsM at k
      by_cases q : S 73 < 9999
      · rw [if_pos q] at k
        have u73 : fset W 1 S 1 73 < 9999 := by rw [g1]; exact q
        have po := passW_ok (X := X) ok1 u73
        have po2 : (passW X (fset W 1 S)).1 72 = W 1 72 := po.2.1.trans u72
        by_cases q2 : (passW X (fset W 1 S)).1 (b * 6 + 4) = 0
        · rw [if_pos q2] at k
          refine BX13_ends_16  ?_ ?_
          · intro hc1
            first
            | (exfalso; omega)
            | (
                (exfalso; omega)
              )
          · intro hc2
            first
            | (exfalso; omega)
            | (
                refine BX13_ends_22 (by first | assumption | exact up_at _ _ _ | (rw [up_ne (by omega)]; first | assumption | exact up_at _ _ _ | (rw [up_ne (by omega)]; assumption))) (by rfl) (by first | assumption | exact up_at _ _ _ | (rw [up_ne (by omega)]; first | assumption | exact up_at _ _ _ | (rw [up_ne (by omega)]; assumption))) (by first | exact Ls_get (by omega) (by omega) | assumption) ?_ ?_
                · intro hc3
                  first
                  | (exfalso; omega)
                  | (
                      (exfalso; omega)
                    )
                · intro hc4
                  first
                  | (exfalso; omega)
                  | (
                      refine BX13_ends_35 (by first | assumption | exact up_at _ _ _ | (rw [up_ne (by omega)]; first | assumption | exact up_at _ _ _ | (rw [up_ne (by omega)]; assumption))) ?_
                      refine R_X13_isAfloat (by first | omega | (rw [fset_at]; omega) | (simp only [Ls_len]; omega) | assumption | exact Ls_get (by omega) (by omega) | exact up_at _ _ _ | rfl | decide) ?_ ?_
                      · intro w1 w2 w3
                        refine BX13_ends_40  ?_ ?_
                        · intro hc5
                          exact absurd hc5 (by decide)
                        · intro hc6
                          refine BX13_ends_43 (by first | assumption | exact up_at _ _ _ | (rw [up_ne (by omega)]; first | assumption | exact up_at _ _ _ | (rw [up_ne (by omega)]; assumption))) ?_
                          refine R_X13_pass (by first | omega | (rw [fset_at]; omega) | (simp only [Ls_len]; omega) | assumption | exact Ls_get (by omega) (by omega) | exact up_at _ _ _ | rfl | decide) (by first | omega | (rw [fset_at]; omega) | (simp only [Ls_len]; omega) | assumption | exact Ls_get (by omega) (by omega) | exact up_at _ _ _ | rfl | decide) (by first | omega | (rw [fset_at]; omega) | (simp only [Ls_len]; omega) | assumption | exact Ls_get (by omega) (by omega) | exact up_at _ _ _ | rfl | decide) (by first | omega | (rw [fset_at]; omega) | (simp only [Ls_len]; omega) | assumption | exact Ls_get (by omega) (by omega) | exact up_at _ _ _ | rfl | decide) (by first | omega | (rw [fset_at]; omega) | (simp only [Ls_len]; omega) | assumption | exact Ls_get (by omega) (by omega) | exact up_at _ _ _ | rfl | decide) (by first | omega | (rw [fset_at]; omega) | (simp only [Ls_len]; omega) | assumption | exact Ls_get (by omega) (by omega) | exact up_at _ _ _ | rfl | decide) ?_
                          intro h44 s44
                          rw [fset2] at s44
                          refine BX13_ends_47 (by first | omega | (rw [fset_at]; omega) | (simp only [Ls_len]; omega) | assumption | exact Ls_get (by omega) (by omega) | exact up_at _ _ _ | rfl | decide) ?_
                          exact ih _ _ _ _ (by omega) (by omega) po.1 po2 q2 (by omega) (by omega) s44 k
                      · intro w4
                        refine BX13_ends_40  ?_ ?_
                        · intro hc7
                          (exfalso; omega)
                        · intro hc8
                          exact absurd hc8 (by decide)
                    )
              )
        · rw [if_neg q2] at k
          have out : ∀ (h2 : aH) (c5 : Int), cm ≤ c5 → c5 ≤ cm + 720 → IsMo g h2 (fset W 1 (passW X (fset W 1 S)).1) V X F (asB A (W 1)) 0 c5 → Rn (d + 30) bc bs mX13_ends 16 [some (vR (some 301)), some (vI b), some (vI (i + 1)), none] [] h2 n Q := by
            intro h2 c5 c6 c7 s2
            have f9 := fin A _ (i + 1) c5 h2 tA a10 b0 b1 po2 c6 c7 s2 rfl (fun h2 _ s2 => by rw [if_neg q2]; exact k _ _ c6 c7 s2)
            have v72 : fset W 1 (passW X (fset W 1 S)).1 1 72 = W 1 72 := by rw [fset_at]; exact po2
            have v4 : fset W 1 (passW X (fset W 1 S)).1 1 (b * 6 + 4) ≠ 0 := by rw [fset_at]; exact q2
            obtain ⟨M2, e2, t2⟩ := id s2
            have m0 := e2.o
            have m1 := e2.a1
            refine BX13_ends_16  ?_ ?_
            · intro hc1
              exact f9
            · intro hc2
              refine BX13_ends_22 (by first | assumption | exact up_at _ _ _ | (rw [up_ne (by omega)]; first | assumption | exact up_at _ _ _ | (rw [up_ne (by omega)]; assumption))) (by rfl) (by first | assumption | exact up_at _ _ _ | (rw [up_ne (by omega)]; first | assumption | exact up_at _ _ _ | (rw [up_ne (by omega)]; assumption))) (by first | exact Ls_get (by omega) (by omega) | assumption) ?_ ?_
              · intro hc3
                exact f9
              · intro hc4
                refine BX13_ends_35 (by first | assumption | exact up_at _ _ _ | (rw [up_ne (by omega)]; first | assumption | exact up_at _ _ _ | (rw [up_ne (by omega)]; assumption))) ?_
                refine R_X13_isAfloat (by first | omega | (rw [fset_at]; omega) | (simp only [Ls_len]; omega) | assumption | exact Ls_get (by omega) (by omega) | exact up_at _ _ _ | rfl | decide) ?_ ?_
                · intro w1 w2 w3
                  refine BX13_ends_40  ?_ ?_
                  · intro hc5
                    exact absurd hc5 (by decide)
                  · intro hc6
                    (exfalso; omega)
                · intro w4
                  refine BX13_ends_40  ?_ ?_
                  · intro hc7
                    exact f9
                  · intro hc8
                    exact absurd hc8 (by decide)
          refine BX13_ends_16  ?_ ?_
          · intro hc1
            first
            | (exfalso; omega)
            | (
                (exfalso; omega)
              )
          · intro hc2
            first
            | (exfalso; omega)
            | (
                refine BX13_ends_22 (by first | assumption | exact up_at _ _ _ | (rw [up_ne (by omega)]; first | assumption | exact up_at _ _ _ | (rw [up_ne (by omega)]; assumption))) (by rfl) (by first | assumption | exact up_at _ _ _ | (rw [up_ne (by omega)]; first | assumption | exact up_at _ _ _ | (rw [up_ne (by omega)]; assumption))) (by first | exact Ls_get (by omega) (by omega) | assumption) ?_ ?_
                · intro hc3
                  first
                  | (exfalso; omega)
                  | (
                      (exfalso; omega)
                    )
                · intro hc4
                  first
                  | (exfalso; omega)
                  | (
                      refine BX13_ends_35 (by first | assumption | exact up_at _ _ _ | (rw [up_ne (by omega)]; first | assumption | exact up_at _ _ _ | (rw [up_ne (by omega)]; assumption))) ?_
                      refine R_X13_isAfloat (by first | omega | (rw [fset_at]; omega) | (simp only [Ls_len]; omega) | assumption | exact Ls_get (by omega) (by omega) | exact up_at _ _ _ | rfl | decide) ?_ ?_
                      · intro w1 w2 w3
                        refine BX13_ends_40  ?_ ?_
                        · intro hc5
                          exact absurd hc5 (by decide)
                        · intro hc6
                          refine BX13_ends_43 (by first | assumption | exact up_at _ _ _ | (rw [up_ne (by omega)]; first | assumption | exact up_at _ _ _ | (rw [up_ne (by omega)]; assumption))) ?_
                          refine R_X13_pass (by first | omega | (rw [fset_at]; omega) | (simp only [Ls_len]; omega) | assumption | exact Ls_get (by omega) (by omega) | exact up_at _ _ _ | rfl | decide) (by first | omega | (rw [fset_at]; omega) | (simp only [Ls_len]; omega) | assumption | exact Ls_get (by omega) (by omega) | exact up_at _ _ _ | rfl | decide) (by first | omega | (rw [fset_at]; omega) | (simp only [Ls_len]; omega) | assumption | exact Ls_get (by omega) (by omega) | exact up_at _ _ _ | rfl | decide) (by first | omega | (rw [fset_at]; omega) | (simp only [Ls_len]; omega) | assumption | exact Ls_get (by omega) (by omega) | exact up_at _ _ _ | rfl | decide) (by first | omega | (rw [fset_at]; omega) | (simp only [Ls_len]; omega) | assumption | exact Ls_get (by omega) (by omega) | exact up_at _ _ _ | rfl | decide) (by first | omega | (rw [fset_at]; omega) | (simp only [Ls_len]; omega) | assumption | exact Ls_get (by omega) (by omega) | exact up_at _ _ _ | rfl | decide) ?_
                          intro h44 s44
                          rw [fset2] at s44
                          refine BX13_ends_47 (by first | omega | (rw [fset_at]; omega) | (simp only [Ls_len]; omega) | assumption | exact Ls_get (by omega) (by omega) | exact up_at _ _ _ | rfl | decide) ?_
                          exact out _ _ (by omega) (by omega) s44
                      · intro w4
                        refine BX13_ends_40  ?_ ?_
                        · intro hc7
                          (exfalso; omega)
                        · intro hc8
                          exact absurd hc8 (by decide)
                    )
              )
      · rw [if_neg q] at k
        have f9 := fin A S i c2 h1 tA a10 b0 b1 s72 c3 (by omega) s1 rfl (fun h2 _ s2 => by rw [if_pos sa]; exact k _ _ c3 (by omega) s2)
        refine BX13_ends_16  ?_ ?_
        · intro hc1
          exact f9
        · intro hc2
          refine BX13_ends_22 (by first | assumption | exact up_at _ _ _ | (rw [up_ne (by omega)]; first | assumption | exact up_at _ _ _ | (rw [up_ne (by omega)]; assumption))) (by rfl) (by first | assumption | exact up_at _ _ _ | (rw [up_ne (by omega)]; first | assumption | exact up_at _ _ _ | (rw [up_ne (by omega)]; assumption))) (by first | exact Ls_get (by omega) (by omega) | assumption) ?_ ?_
          · intro hc3
            exact f9
          · intro hc4
            (exfalso; omega)
  obtain ⟨M, e, ⟨⟨ts, te, ty, ⟨t1, t2, t3⟩, tp⟩, tb⟩, ⟨tv, tvb⟩, tx, ⟨⟨tt1, tt2, tt3⟩, tt4⟩, wr0, cm0, on⟩ := id s; obtain ⟨on1, on2, on3, on4, on5, on6, on7, on8⟩ := id on; have tt : tTp M F := ⟨⟨tt1, tt2, tt3⟩, tt4⟩; have m0 := e.o; have m1 := e.a1; have m2 := e.a2; have m3 := e.a3; have m4 := e.a4; have ts1 := ts.1; obtain ⟨te1, te2, te3, te4⟩ := id te; obtain ⟨⟨ty1, ty2, ty3, ty4, ty5⟩, ty6, ty7, ty8, ty9⟩ := id ty
  refine BX13_ends_0 (by first | assumption | exact up_at _ _ _ | (rw [up_ne (by omega)]; first | assumption | exact up_at _ _ _ | (rw [up_ne (by omega)]; assumption))) ?_
  refine R_X13_isAfloat (by first | omega | (rw [fset_at]; omega) | (simp only [Ls_len]; omega) | assumption | exact Ls_get (by omega) (by omega) | exact up_at _ _ _ | rfl | decide) ?_ ?_
  · intro w1 w2 w3
    refine BX13_ends_5  ?_ ?_
    · intro hc1
      refine BX13_ends_10 (by first | assumption | exact up_at _ _ _ | (rw [up_ne (by omega)]; first | assumption | exact up_at _ _ _ | (rw [up_ne (by omega)]; assumption))) ?_
      refine R_X13_setAside (by first | omega | (rw [fset_at]; omega) | (simp only [Ls_len]; omega) | assumption | exact Ls_get (by omega) (by omega) | exact up_at _ _ _ | rfl | decide) ?_
      intro h11 A11 p11 q11 s11
      refine BX13_ends_14  ?_
      rw [if_pos (by omega)] at k
      exact loop A11 p11 q11 (by omega) (by omega) 60 0 cm (W 1) _ (by omega) (by omega) ok.2.1 rfl (by omega) (by omega) (by omega) (by rw [fset_id]; exact s11) k
    · intro hc2
      exact absurd hc2 (by decide)
  · intro w4
    refine BX13_ends_5  ?_ ?_
    · intro hc3
      exact absurd hc3 (by decide)
    · intro hc4
      refine BX13_ends_8  ?_
      (rw [if_neg (by omega)] at k; exact k _ _ (by omega) (by omega) s)
theorem M_whose (s : IsMo g h W V X F B wr cm) (ok : okW W) (k : ∀ h1, IsMo g h1 W V X F B wr cm → Q (some (vI (aWhose W X))) h1 n) : Rn (d + 30) bc bs mX13_whose 0 [some (vR (some 301)), none, none, none, none] [] h n Q := by
  have in21 : ∀ (t a : Int), 0 ≤ t → t < W 3 1 → ∀ (m : Nat) (j v V0 : Int) (h1 : aH), 0 ≤ j → j + m = W 2 54 → (v = 0 ∨ v = 1) → V0 = (if v = 0 then 0 else saidN W (textX W X t) m j) → IsMo g h1 W V X F B wr cm → (∀ (h2 : aH) (x4 : Int), IsMo g h2 W V X F B wr cm → Rn (d + 30) bc bs mX13_whose 93 [some (vR (some 301)), some (vI a), some (vI t), some (vI V0), some (vI x4)] [] h2 n Q) → Rn (d + 30) bc bs mX13_whose 21 [some (vR (some 301)), some (vI a), some (vI t), some (vI v), some (vI (163 + 2 * j))] [] h1 n Q := by
    intro t a t0 t1 m
    induction m with
    | zero =>
      intro j v V0 h1 j0 jm v01 hV s K
      have e9 : V0 = v := by rw [hV]; rcases v01 with q | q <;> subst q <;> rfl
      subst e9
      obtain ⟨M, e, ⟨⟨ts, te, ty, ⟨t1, t2, t3⟩, tp⟩, tb⟩, ⟨tv, tvb⟩, tx, ⟨⟨tt1, tt2, tt3⟩, tt4⟩, wr0, cm0, on⟩ := id s; obtain ⟨on1, on2, on3, on4, on5, on6, on7, on8⟩ := id on; have tt : tTp M F := ⟨⟨tt1, tt2, tt3⟩, tt4⟩; have m0 := e.o; have m1 := e.a1; have m2 := e.a2; have m3 := e.a3; have m4 := e.a4; have ts1 := ts.1; obtain ⟨te1, te2, te3, te4⟩ := id te; obtain ⟨⟨ty1, ty2, ty3, ty4, ty5⟩, ty6, ty7, ty8, ty9⟩ := id ty
      refine BX13_whose_21 (by first | assumption | exact up_at _ _ _ | (rw [up_ne (by omega)]; first | assumption | exact up_at _ _ _ | (rw [up_ne (by omega)]; assumption))) (by rfl) (by first | assumption | exact up_at _ _ _ | (rw [up_ne (by omega)]; first | assumption | exact up_at _ _ _ | (rw [up_ne (by omega)]; assumption))) (by first | exact Ls_get (by omega) (by omega) | assumption) (by first | omega | (rw [fset_at]; omega) | (simp only [Ls_len]; omega) | assumption | exact Ls_get (by omega) (by omega) | exact up_at _ _ _ | rfl | decide) (by first | omega | (rw [fset_at]; omega) | (simp only [Ls_len]; omega) | assumption | exact Ls_get (by omega) (by omega) | exact up_at _ _ _ | rfl | decide) ?_ ?_
      · intro hc1
        exact K _ _ s
      · intro hc2
        (exfalso; omega)
    | succ m ih =>
      intro j v V0 h1 j0 jm v01 hV s K
      unfold saidN at hV
      have ih1 := fun v h2 => ih (j + 1) v V0 h2 (by omega) (by omega)
      rw [show 163 + 2 * (j + 1) = 163 + 2 * j + 2 by omega] at ih1
      obtain ⟨M, e, ⟨⟨ts, te, ty, ⟨t1, t2, t3⟩, tp⟩, tb⟩, ⟨tv, tvb⟩, tx, ⟨⟨tt1, tt2, tt3⟩, tt4⟩, wr0, cm0, on⟩ := id s; obtain ⟨on1, on2, on3, on4, on5, on6, on7, on8⟩ := id on; have tt : tTp M F := ⟨⟨tt1, tt2, tt3⟩, tt4⟩; have m0 := e.o; have m1 := e.a1; have m2 := e.a2; have m3 := e.a3; have m4 := e.a4; have ts1 := ts.1; obtain ⟨te1, te2, te3, te4⟩ := id te; obtain ⟨⟨ty1, ty2, ty3, ty4, ty5⟩, ty6, ty7, ty8, ty9⟩ := id ty
      have y9 := ty9 j j0 (by omega)
      have dj : ∀ q, q = M 1 (163 + 2 * j) → q = W 2 (36 + j) := fun q e => e.trans y9.1
      refine BX13_whose_21 (by first | assumption | exact up_at _ _ _ | (rw [up_ne (by omega)]; first | assumption | exact up_at _ _ _ | (rw [up_ne (by omega)]; assumption))) (by rfl) (by first | assumption | exact up_at _ _ _ | (rw [up_ne (by omega)]; first | assumption | exact up_at _ _ _ | (rw [up_ne (by omega)]; assumption))) (by first | exact Ls_get (by omega) (by omega) | assumption) (by first | omega | (rw [fset_at]; omega) | (simp only [Ls_len]; omega) | assumption | exact Ls_get (by omega) (by omega) | exact up_at _ _ _ | rfl | decide) (by first | omega | (rw [fset_at]; omega) | (simp only [Ls_len]; omega) | assumption | exact Ls_get (by omega) (by omega) | exact up_at _ _ _ | rfl | decide) ?_ ?_
      · intro hc1
        (exfalso; omega)
      · intro hc2
        refine BX13_whose_39  ?_ ?_
        · intro hc3
          refine BX13_whose_85 (by first | omega | (rw [fset_at]; omega) | (simp only [Ls_len]; omega) | assumption | exact Ls_get (by omega) (by omega) | exact up_at _ _ _ | rfl | decide) ?_
          first
          | (exfalso; omega)
          | (rw [if_pos (by omega)] at hV
             exact ih1 0 _ (.inl rfl) (by rw [if_pos rfl]; exact hV) s K)
          | (rw [if_neg (by omega), if_neg (by omega)] at hV
             exact ih1 1 _ (.inr rfl) (by rw [if_neg (by decide)]; exact hV) s K)
          | (rw [if_neg (by omega), if_pos (by omega), if_pos (by omega)] at hV
             exact ih1 1 _ (.inr rfl) (by rw [if_neg (by decide)]; exact hV) s66 K)
          | (rw [if_neg (by omega), if_pos (by omega), if_neg (by omega)] at hV
             exact ih1 0 _ (.inl rfl) (by rw [if_pos rfl]; exact hV) s66 K)
        · intro hc4
          refine BX13_whose_43 (by first | assumption | exact up_at _ _ _ | (rw [up_ne (by omega)]; first | assumption | exact up_at _ _ _ | (rw [up_ne (by omega)]; assumption))) (by rfl) (by first | assumption | exact up_at _ _ _ | (rw [up_ne (by omega)]; first | assumption | exact up_at _ _ _ | (rw [up_ne (by omega)]; assumption))) (by first | omega | (rw [fset_at]; omega) | (simp only [Ls_len]; omega) | assumption | exact Ls_get (by omega) (by omega) | exact up_at _ _ _ | rfl | decide) (by first | exact Ls_get (by omega) (by omega) | assumption) ?_
          refine R_X13_isBottle (by first | omega | (rw [fset_at]; omega) | (simp only [Ls_len]; omega) | assumption | exact Ls_get (by omega) (by omega) | exact up_at _ _ _ | rfl | decide) ?_ ?_
          · intro w1 w2
            refine BX13_whose_54  ?_ ?_
            · intro hc5
              exact absurd hc5 (by decide)
            · intro hc6
              refine BX13_whose_57 (by first | assumption | exact up_at _ _ _ | (rw [up_ne (by omega)]; first | assumption | exact up_at _ _ _ | (rw [up_ne (by omega)]; assumption))) (by rfl) (by first | assumption | exact up_at _ _ _ | (rw [up_ne (by omega)]; first | assumption | exact up_at _ _ _ | (rw [up_ne (by omega)]; assumption))) (by first | omega | (rw [fset_at]; omega) | (simp only [Ls_len]; omega) | assumption | exact Ls_get (by omega) (by omega) | exact up_at _ _ _ | rfl | decide) (by first | exact Ls_get (by omega) (by omega) | assumption) ?_
              refine R_X13_comesOf (by first | omega | (rw [fset_at]; omega) | (simp only [Ls_len]; omega) | assumption | exact Ls_get (by omega) (by omega) | exact up_at _ _ _ | rfl | decide) (by first | omega | (rw [fset_at]; omega) | (simp only [Ls_len]; omega) | assumption | exact Ls_get (by omega) (by omega) | exact up_at _ _ _ | rfl | decide) (by first | omega | (rw [fset_at]; omega) | (simp only [Ls_len]; omega) | assumption | exact Ls_get (by omega) (by omega) | exact up_at _ _ _ | rfl | decide) (by first | omega | (rw [fset_at]; omega) | (simp only [Ls_len]; omega) | assumption | exact Ls_get (by omega) (by omega) | exact up_at _ _ _ | rfl | decide) (by first | omega | (rw [fset_at]; omega) | (simp only [Ls_len]; omega) | assumption | exact Ls_get (by omega) (by omega) | exact up_at _ _ _ | rfl | decide) (by first | omega | (rw [fset_at]; omega) | (simp only [Ls_len]; omega) | assumption | exact Ls_get (by omega) (by omega) | exact up_at _ _ _ | rfl | decide) ?_
              intro h66 s66
              obtain ⟨M6, e66, t66⟩ := id s66
              have m0 := e66.o
              have m1 := e66.a1
              have z9 : M6 1 (163 + 2 * j + 1) = W 2 (44 + j) := (t66.1.1.2.2.1.2.2.2.2 j j0 (by omega)).2
              rw [y9.1]
              refine BX13_whose_69 (by first | assumption | exact up_at _ _ _ | (rw [up_ne (by omega)]; first | assumption | exact up_at _ _ _ | (rw [up_ne (by omega)]; assumption))) (by rfl) (by first | omega | (rw [fset_at]; omega) | (simp only [Ls_len]; omega) | assumption | exact Ls_get (by omega) (by omega) | exact up_at _ _ _ | rfl | decide) (by first | assumption | exact up_at _ _ _ | (rw [up_ne (by omega)]; first | assumption | exact up_at _ _ _ | (rw [up_ne (by omega)]; assumption))) (by first | omega | (rw [fset_at]; omega) | (simp only [Ls_len]; omega) | assumption | exact Ls_get (by omega) (by omega) | exact up_at _ _ _ | rfl | decide) (by first | exact Ls_get (by omega) (by omega) | assumption) ?_ ?_
              · intro hc7
                refine BX13_whose_85 (by first | omega | (rw [fset_at]; omega) | (simp only [Ls_len]; omega) | assumption | exact Ls_get (by omega) (by omega) | exact up_at _ _ _ | rfl | decide) ?_
                first
                | (exfalso; omega)
                | (rw [if_pos (by omega)] at hV
                   exact ih1 0 _ (.inl rfl) (by rw [if_pos rfl]; exact hV) s K)
                | (rw [if_neg (by omega), if_neg (by omega)] at hV
                   exact ih1 1 _ (.inr rfl) (by rw [if_neg (by decide)]; exact hV) s K)
                | (rw [if_neg (by omega), if_pos (by omega), if_pos (by omega)] at hV
                   exact ih1 1 _ (.inr rfl) (by rw [if_neg (by decide)]; exact hV) s66 K)
                | (rw [if_neg (by omega), if_pos (by omega), if_neg (by omega)] at hV
                   exact ih1 0 _ (.inl rfl) (by rw [if_pos rfl]; exact hV) s66 K)
              · intro hc8
                refine BX13_whose_81 (by first | omega | (rw [fset_at]; omega) | (simp only [Ls_len]; omega) | assumption | exact Ls_get (by omega) (by omega) | exact up_at _ _ _ | rfl | decide) ?_
                first
                | (exfalso; omega)
                | (rw [if_pos (by omega)] at hV
                   exact ih1 0 _ (.inl rfl) (by rw [if_pos rfl]; exact hV) s K)
                | (rw [if_neg (by omega), if_neg (by omega)] at hV
                   exact ih1 1 _ (.inr rfl) (by rw [if_neg (by decide)]; exact hV) s K)
                | (rw [if_neg (by omega), if_pos (by omega), if_pos (by omega)] at hV
                   exact ih1 1 _ (.inr rfl) (by rw [if_neg (by decide)]; exact hV) s66 K)
                | (rw [if_neg (by omega), if_pos (by omega), if_neg (by omega)] at hV
                   exact ih1 0 _ (.inl rfl) (by rw [if_pos rfl]; exact hV) s66 K)
          · intro w3
            refine BX13_whose_54  ?_ ?_
            · intro hc9
              refine BX13_whose_81 (by first | omega | (rw [fset_at]; omega) | (simp only [Ls_len]; omega) | assumption | exact Ls_get (by omega) (by omega) | exact up_at _ _ _ | rfl | decide) ?_
              first
              | (exfalso; omega)
              | (rw [if_pos (by omega)] at hV
                 exact ih1 0 _ (.inl rfl) (by rw [if_pos rfl]; exact hV) s K)
              | (rw [if_neg (by omega), if_neg (by omega)] at hV
                 exact ih1 1 _ (.inr rfl) (by rw [if_neg (by decide)]; exact hV) s K)
              | (rw [if_neg (by omega), if_pos (by omega), if_pos (by omega)] at hV
                 exact ih1 1 _ (.inr rfl) (by rw [if_neg (by decide)]; exact hV) s66 K)
              | (rw [if_neg (by omega), if_pos (by omega), if_neg (by omega)] at hV
                 exact ih1 0 _ (.inl rfl) (by rw [if_pos rfl]; exact hV) s66 K)
            · intro hc10
              exact absurd hc10 (by decide)
  have k1 := k
  unfold aWhose at k1
  have in4 : ∀ (m : Nat) (i a : Int) (l3 l4 : Option aV) (h1 : aH), 0 ≤ i → i + m = W 3 1 → (0 ≤ a ∧ a < 16) → IsMo g h1 W V X F B wr cm → (∀ h2, IsMo g h2 W V X F B wr cm → Q (some (vI (whoN W X m i a))) h2 n) → Rn (d + 30) bc bs mX13_whose 4 [some (vR (some 301)), some (vI a), some (vI i), l3, l4] [] h1 n Q := by
    intro m
    induction m with
    | zero =>
      intro i a l3 l4 h1 i0 im ha s K
      obtain ⟨M, e, ⟨⟨ts, te, ty, ⟨t1, t2, t3⟩, tp⟩, tb⟩, ⟨tv, tvb⟩, tx, ⟨⟨tt1, tt2, tt3⟩, tt4⟩, wr0, cm0, on⟩ := id s; obtain ⟨on1, on2, on3, on4, on5, on6, on7, on8⟩ := id on; have tt : tTp M F := ⟨⟨tt1, tt2, tt3⟩, tt4⟩; have m0 := e.o; have m1 := e.a1; have m2 := e.a2; have m3 := e.a3; have m4 := e.a4; have ts1 := ts.1; obtain ⟨te1, te2, te3, te4⟩ := id te; obtain ⟨⟨ty1, ty2, ty3, ty4, ty5⟩, ty6, ty7, ty8, ty9⟩ := id ty
      refine BX13_whose_4 (by first | assumption | exact up_at _ _ _ | (rw [up_ne (by omega)]; first | assumption | exact up_at _ _ _ | (rw [up_ne (by omega)]; assumption))) (by rfl) (by first | assumption | exact up_at _ _ _ | (rw [up_ne (by omega)]; first | assumption | exact up_at _ _ _ | (rw [up_ne (by omega)]; assumption))) (by first | exact Ls_get (by omega) (by omega) | assumption) ?_ ?_
      · intro hc1
        first
        | (exfalso; omega)
        | (
            refine BX13_whose_113  ?_
            exact K _ s
          )
      · intro hc2
        first
        | (exfalso; omega)
        | (
            (exfalso; omega)
          )
    | succ m ih =>
      intro i a l3 l4 h1 i0 im ha s K
      unfold whoN at K
      have on5 : W 3 1 ≤ 4 := ok.2.2.1.2.2.2.1
      have s01 := saidN_01 (W := W) (T := textX W X i) (W 2 54).toNat 0
      have sm : sayM W (textX W X i) = saidN W (textX W X i) (W 2 54).toNat 0 := rfl
      have r2 : (2 : Int) ^ 4 = 16 := by decide
      have rg := shl1_rg (i := i) (k := 4) (by decide) i0 (by omega)
      have rg2 := or32_rg (x := a) (y := shl32 1 i) (k := 4) (by decide) ha.1 (by omega) rg.1 rg.2
      have o54 := ok.n.2.2.2.2.2.2.1
      have t93 : ∀ (h2 : aH) (x4 : Int), IsMo g h2 W V X F B wr cm → Rn (d + 30) bc bs mX13_whose 93 [some (vR (some 301)), some (vI a), some (vI i), some (vI (saidN W (textX W X i) (W 2 54).toNat 0)), some (vI x4)] [] h2 n Q := by
        intro h2 x4 s2
        refine BX13_whose_93  ?_ ?_
        · intro hc1
          refine BX13_whose_104 (by first | omega | (rw [fset_at]; omega) | (simp only [Ls_len]; omega) | assumption | exact Ls_get (by omega) (by omega) | exact up_at _ _ _ | rfl | decide) ?_
          first
          | (rw [if_neg (by omega)] at K; exact ih _ _ _ _ _ (by omega) (by omega) (by omega) s2 K)
          | (rw [if_pos (by omega)] at K; rw [or32_zero ha.1 (by omega)]; exact ih _ _ _ _ _ (by omega) (by omega) ha s2 K)
        · intro hc2
          refine BX13_whose_98 (by first | omega | (rw [fset_at]; omega) | (simp only [Ls_len]; omega) | assumption | exact Ls_get (by omega) (by omega) | exact up_at _ _ _ | rfl | decide) ?_
          first
          | (rw [if_neg (by omega)] at K; exact ih _ _ _ _ _ (by omega) (by omega) (by omega) s2 K)
          | (rw [if_pos (by omega)] at K; rw [or32_zero ha.1 (by omega)]; exact ih _ _ _ _ _ (by omega) (by omega) ha s2 K)
      have i21 := fun h2 s2 => in21 i a i0 (by omega) (W 2 54).toNat 0 1 _ h2 (by decide) (by omega) (.inr rfl) (by rw [if_neg (by decide)]) s2 t93
      obtain ⟨M, e, ⟨⟨ts, te, ty, ⟨t1, t2, t3⟩, tp⟩, tb⟩, ⟨tv, tvb⟩, tx, ⟨⟨tt1, tt2, tt3⟩, tt4⟩, wr0, cm0, on⟩ := id s; obtain ⟨on1, on2, on3, on4, on5, on6, on7, on8⟩ := id on; have tt : tTp M F := ⟨⟨tt1, tt2, tt3⟩, tt4⟩; have m0 := e.o; have m1 := e.a1; have m2 := e.a2; have m3 := e.a3; have m4 := e.a4; have ts1 := ts.1; obtain ⟨te1, te2, te3, te4⟩ := id te; obtain ⟨⟨ty1, ty2, ty3, ty4, ty5⟩, ty6, ty7, ty8, ty9⟩ := id ty
      refine BX13_whose_4 (by first | assumption | exact up_at _ _ _ | (rw [up_ne (by omega)]; first | assumption | exact up_at _ _ _ | (rw [up_ne (by omega)]; assumption))) (by rfl) (by first | assumption | exact up_at _ _ _ | (rw [up_ne (by omega)]; first | assumption | exact up_at _ _ _ | (rw [up_ne (by omega)]; assumption))) (by first | exact Ls_get (by omega) (by omega) | assumption) ?_ ?_
      · intro hc1
        first
        | (exfalso; omega)
        | (
            refine BX13_whose_113  ?_
            (exfalso; omega)
          )
      · intro hc2
        first
        | (exfalso; omega)
        | (
            refine BX13_whose_14  ?_
            exact i21 _ s
          )
  refine BX13_whose_0  ?_
  exact in4 (W 3 1).toNat 0 0 _ _ h (by decide) (by have := ok.2.2.1.2.2.1; omega) (by decide) s k1
end FORE
