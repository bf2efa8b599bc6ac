/-! The reference: how likely a bottle comes, how its cork wears. -/
def selM (sort : Int) (T : Option Tx) : Option Dn := if sort = 0 then coOf T else weOf T
def sayV (D : Option Dn) (wo : Int) (env pl : Int → Int) : Int := match D with
  | none => wo
  | some D => D env pl
section SAYS
variable {d bc bs n : Nat} {g h : aH} {Q : aQ} {W V : Int → Int → Int} {X : Int → Tx} {F B : Int → Int} {wr cm : Int} {M : Int → Int → Int}
theorem R_X13_says {env : Int → Int} {T so wo top : Int} (e : IsM g h M) (t : MT M W V X F B wr cm) (T0 : -1 ≤ T) (T1 : T < W 3 1) (s01 : so = 0 ∨ so = 1) (top0 : 0 ≤ top ∧ top ≤ 99) (wo0 : 0 ≤ wo ∧ wo ≤ 100) (hn : ∀ j, 0 ≤ j → j ≤ 7 → M 6 j = env j) (oe : okE env (atP (W 3 3) (W 0))) (k : ∀ h2, IsMo g h2 W V X F B wr cm → Q (some (vI (max 0 (min top (sayV (selM so (textX W X T)) wo env (atP (W 3 3) (W 0))))))) h2 n) : Rn (d + 4) bc bs mX13_says 0 [some (vR (some 301)), some (vI T), some (vI so), some (vI wo), some (vI top), none] [] h n Q := by
  have m0 := e.o
  have m3 := e.a3
  have s : IsMo g h W V X F B wr cm := ⟨M, e, t⟩
  have tx := t.2.2.1
  have on5 := t.2.2.2.2.2.2.2.2.2.2.1
  have non : ∀ i, selM so (textX W X T) = none → 0 ≤ i → i ≤ 24 → Rn (d + 4) bc bs mX13_says 63 [some (vR (some 301)), some (vI T), some (vI so), some (vI wo), some (vI top), some (vI i)] [] h n Q := by
    intro i hs i0 i1
    rw [hs] at k
    refine BX13_says_63  ?_
    refine R_X13_cut (by first | omega | (simp only [Ls_len]; omega) | assumption | exact Ls_get (by omega) (by omega) | exact up_at _ _ _ | rfl | decide) (by first | omega | (simp only [Ls_len]; omega) | assumption | exact Ls_get (by omega) (by omega) | exact up_at _ _ _ | rfl | decide) (by first | omega | (simp only [Ls_len]; omega) | assumption | exact Ls_get (by omega) (by omega) | exact up_at _ _ _ | rfl | decide) ?_
    refine BX13_says_71  ?_
    exact k _ s
  have loop : 0 ≤ T → ∀ (m : Nat) (i : Int), 0 ≤ i → i + m = (X T).1 → (∀ j, 0 ≤ j → j < i → (X T).2.1 (j * 4 + 0) ≠ 16 + so) → Rn (d + 4) bc bs mX13_says 3 [some (vR (some 301)), some (vI T), some (vI so), some (vI wo), some (vI top), some (vI i)] [] h n Q := by
    intro T2
    obtain ⟨⟨c0, c1⟩, c2, c3, c4, c5⟩ := tx T T2 T1
    have et : textX W X T = some (X T) := by unfold textX; rw [if_pos ⟨T2, T1⟩]
    intro m
    induction m with
    | zero =>
      intro i i0 i1 hj
      have hs : selM so (textX W X T) = none := by
        rw [et]
        unfold selM
        rcases s01 with q | q
        · subst q
          rw [if_pos rfl]
          rcases c4 with q | ⟨j, j0, j1, j2⟩
          · exact q
          · exact absurd j2 (hj j j0 (by omega))
        · subst q
          rw [if_neg (by decide)]
          rcases c5 with q | ⟨j, j0, j1, j2⟩
          · exact q
          · exact absurd j2 (hj j j0 (by omega))
      have no1 := non i hs i0 (by omega)
      refine BX13_says_3  ?_ ?_
      · intro hc1
        first
        | (exfalso; omega)
        | (
            exact no1
          )
      · intro hc2
        first
        | (exfalso; omega)
        | (
            refine BX13_says_7 (by first | assumption | exact up_at _ _ _ | (rw [up_ne (by omega)]; first | assumption | exact up_at _ _ _ | (rw [up_ne (by omega)]; assumption))) (by rfl) (by first | omega | (simp only [Ls_len]; omega) | assumption | exact Ls_get (by omega) (by omega) | exact up_at _ _ _ | rfl | decide) (by first | assumption | exact up_at _ _ _ | (rw [up_ne (by omega)]; first | assumption | exact up_at _ _ _ | (rw [up_ne (by omega)]; assumption))) (by first | omega | (simp only [Ls_len]; omega) | assumption | exact Ls_get (by omega) (by omega) | exact up_at _ _ _ | rfl | decide) (by first | exact Ls_get (by omega) (by omega) | assumption) ?_ ?_
            · intro hc3
              first
              | (exfalso; omega)
              | (
                  exact no1
                )
            · intro hc4
              first
              | (exfalso; omega)
              | (
                  (exfalso; omega)
                )
          )
    | succ m ih =>
      intro i i0 i1 hj
      obtain ⟨⟨g1, g2, g3⟩, g4, g5, g6, g7, g8⟩ := c3 i i0 (by omega)
      have fin : (X T).2.1 (i * 4 + 0) = 16 + so → ∃ D, selM so (textX W X T) = some D ∧ MDen (M 3) (705 * T + 97) (M 3 (705 * T + 1 + 4 * i + 1)) (M 3 (705 * T + 1 + 4 * i + 2)) D := by
        intro hk
        rw [et]
        unfold selM
        rcases s01 with q | q
        · subst q
          rw [if_pos rfl]
          exact g7 hk
        · subst q
          rw [if_neg (by decide)]
          exact g8 hk
      by_cases hk : (X T).2.1 (i * 4 + 0) = 16 + so
      · obtain ⟨D, d1, d2⟩ := fin hk
        rw [d1] at k
        refine BX13_says_3  ?_ ?_
        · intro hc1
          first
          | (exfalso; omega)
          | (
              (exfalso; omega)
            )
        · intro hc2
          first
          | (exfalso; omega)
          | (
              refine BX13_says_7 (by first | assumption | exact up_at _ _ _ | (rw [up_ne (by omega)]; first | assumption | exact up_at _ _ _ | (rw [up_ne (by omega)]; assumption))) (by rfl) (by first | omega | (simp only [Ls_len]; omega) | assumption | exact Ls_get (by omega) (by omega) | exact up_at _ _ _ | rfl | decide) (by first | assumption | exact up_at _ _ _ | (rw [up_ne (by omega)]; first | assumption | exact up_at _ _ _ | (rw [up_ne (by omega)]; assumption))) (by first | omega | (simp only [Ls_len]; omega) | assumption | exact Ls_get (by omega) (by omega) | exact up_at _ _ _ | rfl | decide) (by first | exact Ls_get (by omega) (by omega) | assumption) ?_ ?_
              · intro hc3
                first
                | (exfalso; omega)
                | (
                    (exfalso; omega)
                  )
              · intro hc4
                first
                | (exfalso; omega)
                | (
                    refine BX13_says_22 (by first | assumption | exact up_at _ _ _ | (rw [up_ne (by omega)]; first | assumption | exact up_at _ _ _ | (rw [up_ne (by omega)]; assumption))) (by rfl) (by first | omega | (simp only [Ls_len]; omega) | assumption | exact Ls_get (by omega) (by omega) | exact up_at _ _ _ | rfl | decide) (by first | omega | (simp only [Ls_len]; omega) | assumption | exact Ls_get (by omega) (by omega) | exact up_at _ _ _ | rfl | decide) (by first | omega | (simp only [Ls_len]; omega) | assumption | exact Ls_get (by omega) (by omega) | exact up_at _ _ _ | rfl | decide) (by first | omega | (simp only [Ls_len]; omega) | assumption | exact Ls_get (by omega) (by omega) | exact up_at _ _ _ | rfl | decide) (by first | assumption | exact up_at _ _ _ | (rw [up_ne (by omega)]; first | assumption | exact up_at _ _ _ | (rw [up_ne (by omega)]; assumption))) (by first | omega | (simp only [Ls_len]; omega) | assumption | exact Ls_get (by omega) (by omega) | exact up_at _ _ _ | rfl | decide) (by first | exact Ls_get (by omega) (by omega) | assumption) ?_ ?_
                    · intro hc5
                      first
                      | (exfalso; omega)
                      | (
                          refine BX13_says_57 (by first | omega | (simp only [Ls_len]; omega) | assumption | exact Ls_get (by omega) (by omega) | exact up_at _ _ _ | rfl | decide) ?_
                          (exfalso; omega)
                        )
                    · intro hc6
                      first
                      | (exfalso; omega)
                      | (
                          refine BX13_says_43 (by first | assumption | exact up_at _ _ _ | (rw [up_ne (by omega)]; first | assumption | exact up_at _ _ _ | (rw [up_ne (by omega)]; assumption))) ?_
                          refine R_X13_summedUp (by first | omega | (simp only [Ls_len]; omega) | assumption | exact Ls_get (by omega) (by omega) | exact up_at _ _ _ | rfl | decide) (by first | omega | (simp only [Ls_len]; omega) | assumption | exact Ls_get (by omega) (by omega) | exact up_at _ _ _ | rfl | decide) (by first | omega | (simp only [Ls_len]; omega) | assumption | exact Ls_get (by omega) (by omega) | exact up_at _ _ _ | rfl | decide) (by first | omega | (simp only [Ls_len]; omega) | assumption | exact Ls_get (by omega) (by omega) | exact up_at _ _ _ | rfl | decide) (by first | omega | (simp only [Ls_len]; omega) | assumption | exact Ls_get (by omega) (by omega) | exact up_at _ _ _ | rfl | decide) (by first | omega | (simp only [Ls_len]; omega) | assumption | exact Ls_get (by omega) (by omega) | exact up_at _ _ _ | rfl | decide) (by first | omega | (simp only [Ls_len]; omega) | assumption | exact Ls_get (by omega) (by omega) | exact up_at _ _ _ | rfl | decide) (by first | omega | (simp only [Ls_len]; omega) | assumption | exact Ls_get (by omega) (by omega) | exact up_at _ _ _ | rfl | decide) (by first | omega | (simp only [Ls_len]; omega) | assumption | exact Ls_get (by omega) (by omega) | exact up_at _ _ _ | rfl | decide) ?_
                          intro h47 M47 e47 q47
                          refine BX13_says_50  ?_
                          refine R_X13_cut (by first | omega | (simp only [Ls_len]; omega) | assumption | exact Ls_get (by omega) (by omega) | exact up_at _ _ _ | rfl | decide) (by first | omega | (simp only [Ls_len]; omega) | assumption | exact Ls_get (by omega) (by omega) | exact up_at _ _ _ | rfl | decide) (by first | omega | (simp only [Ls_len]; omega) | assumption | exact Ls_get (by omega) (by omega) | exact up_at _ _ _ | rfl | decide) ?_
                          refine BX13_says_56  ?_
                          exact k _ ⟨M47, e47, t.q (fun k hk => q47 k (by omega))⟩
                        )
                  )
            )
      · skip
        refine BX13_says_3  ?_ ?_
        · intro hc1
          first
          | (exfalso; omega)
          | (
              (exfalso; omega)
            )
        · intro hc2
          first
          | (exfalso; omega)
          | (
              refine BX13_says_7 (by first | assumption | exact up_at _ _ _ | (rw [up_ne (by omega)]; first | assumption | exact up_at _ _ _ | (rw [up_ne (by omega)]; assumption))) (by rfl) (by first | omega | (simp only [Ls_len]; omega) | assumption | exact Ls_get (by omega) (by omega) | exact up_at _ _ _ | rfl | decide) (by first | assumption | exact up_at _ _ _ | (rw [up_ne (by omega)]; first | assumption | exact up_at _ _ _ | (rw [up_ne (by omega)]; assumption))) (by first | omega | (simp only [Ls_len]; omega) | assumption | exact Ls_get (by omega) (by omega) | exact up_at _ _ _ | rfl | decide) (by first | exact Ls_get (by omega) (by omega) | assumption) ?_ ?_
              · intro hc3
                first
                | (exfalso; omega)
                | (
                    (exfalso; omega)
                  )
              · intro hc4
                first
                | (exfalso; omega)
                | (
                    refine BX13_says_22 (by first | assumption | exact up_at _ _ _ | (rw [up_ne (by omega)]; first | assumption | exact up_at _ _ _ | (rw [up_ne (by omega)]; assumption))) (by rfl) (by first | omega | (simp only [Ls_len]; omega) | assumption | exact Ls_get (by omega) (by omega) | exact up_at _ _ _ | rfl | decide) (by first | omega | (simp only [Ls_len]; omega) | assumption | exact Ls_get (by omega) (by omega) | exact up_at _ _ _ | rfl | decide) (by first | omega | (simp only [Ls_len]; omega) | assumption | exact Ls_get (by omega) (by omega) | exact up_at _ _ _ | rfl | decide) (by first | omega | (simp only [Ls_len]; omega) | assumption | exact Ls_get (by omega) (by omega) | exact up_at _ _ _ | rfl | decide) (by first | assumption | exact up_at _ _ _ | (rw [up_ne (by omega)]; first | assumption | exact up_at _ _ _ | (rw [up_ne (by omega)]; assumption))) (by first | omega | (simp only [Ls_len]; omega) | assumption | exact Ls_get (by omega) (by omega) | exact up_at _ _ _ | rfl | decide) (by first | exact Ls_get (by omega) (by omega) | assumption) ?_ ?_
                    · intro hc5
                      first
                      | (exfalso; omega)
                      | (
                          refine BX13_says_57 (by first | omega | (simp only [Ls_len]; omega) | assumption | exact Ls_get (by omega) (by omega) | exact up_at _ _ _ | rfl | decide) ?_
                          exact ih _ (by omega) (by omega) (fun j j0 j1 => by by_cases z : j = i; (subst z; exact hk); exact hj j j0 (by omega))
                        )
                    · intro hc6
                      first
                      | (exfalso; omega)
                      | (
                          (exfalso; omega)
                        )
                  )
            )
  by_cases T2 : 0 ≤ T
  · have lp := loop T2 (X T).1.toNat 0 (by omega) (by have := (tx T T2 T1).1; omega) (fun j j0 j1 => by omega)
    refine BX13_says_0  ?_
    exact lp
  · have no1 := non 0 (by rw [show textX W X T = none by unfold textX; exact if_neg (fun q => T2 q.1)]; unfold selM; split <;> rfl) (by decide) (by decide)
    refine BX13_says_0  ?_
    refine BX13_says_3 ?_ ?_
    · intro _; exact no1
    · intro _; exfalso; omega
theorem say_co {D : Option Dn} {S pl lk : Int → Int} {np b : Int} : max 0 (min 10 (sayV D (atP np lk (S (b * 6 + 1)) + 1) (envM S np lk b) (atP np pl))) = (match D with | none => max 0 (min 10 (atP np lk (S (b * 6 + 1)) + 1)) | some D => max 0 (min 10 (D (envM S np lk b) (atP np pl)))) := by
  cases D <;> rfl
theorem R_X13_comesOf {T b : Int} (s : IsMo g h W V X F B wr cm) (ok : okW W) (T0 : -1 ≤ T) (T1 : T < W 3 1) (b0 : 0 ≤ b) (b1 : b < W 1 72) (k : ∀ h2, IsMo g h2 W V X F B wr cm → Q (some (vI (comesM (coOf (textX W X T)) (W 1) (W 3 3) (W 0) (W 5) b))) h2 n) : Rn (d + 5) bc bs mX13_comesOf 0 [some (vR (some 301)), some (vI T), some (vI b)] [] h n Q := by
  have oe := envM_ok ok.1 ok.2.1 b0 b1
  have al := (atP_ok ok.1 (W 1 (b * 6 + 1))).2
  have e3 : envM (W 1) (W 3 3) (W 5) b 3 = atP (W 3 3) (W 5) (W 1 (b * 6 + 1)) := rfl
  obtain ⟨M, e, t⟩ := id s
  have m0 := e.o
  refine BX13_comesOf_0 (by first | assumption | exact up_at _ _ _ | (rw [up_ne (by omega)]; first | assumption | exact up_at _ _ _ | (rw [up_ne (by omega)]; assumption))) ?_
  refine R_X13_name (by first | omega | (simp only [Ls_len]; omega) | assumption | exact Ls_get (by omega) (by omega) | exact up_at _ _ _ | rfl | decide) (by first | omega | (simp only [Ls_len]; omega) | assumption | exact Ls_get (by omega) (by omega) | exact up_at _ _ _ | rfl | decide) (by first | omega | (simp only [Ls_len]; omega) | assumption | exact Ls_get (by omega) (by omega) | exact up_at _ _ _ | rfl | decide) (by first | omega | (simp only [Ls_len]; omega) | assumption | exact Ls_get (by omega) (by omega) | exact up_at _ _ _ | rfl | decide) ?_
  intro h2 M2 e2 t2 f2
  have m0 := e2.o
  have m6 := e2.a6
  have z3 : M2 6 3 = atP (W 3 3) (W 5) (W 1 (b * 6 + 1)) := (f2 3 (by decide) (by decide)).trans e3
  refine BX13_comesOf_5 (by first | assumption | exact up_at _ _ _ | (rw [up_ne (by omega)]; first | assumption | exact up_at _ _ _ | (rw [up_ne (by omega)]; assumption))) (by rfl) (by first | assumption | exact up_at _ _ _ | (rw [up_ne (by omega)]; first | assumption | exact up_at _ _ _ | (rw [up_ne (by omega)]; assumption))) (by first | exact Ls_get (by omega) (by omega) | assumption) (by first | omega | (simp only [Ls_len]; omega) | assumption | exact Ls_get (by omega) (by omega) | exact up_at _ _ _ | rfl | decide) ?_
  refine R_X13_says (by first | omega | (simp only [Ls_len]; omega) | assumption | exact Ls_get (by omega) (by omega) | exact up_at _ _ _ | rfl | decide) (by first | omega | (simp only [Ls_len]; omega) | assumption | exact Ls_get (by omega) (by omega) | exact up_at _ _ _ | rfl | decide) (by first | omega | (simp only [Ls_len]; omega) | assumption | exact Ls_get (by omega) (by omega) | exact up_at _ _ _ | rfl | decide) (by first | omega | (simp only [Ls_len]; omega) | assumption | exact Ls_get (by omega) (by omega) | exact up_at _ _ _ | rfl | decide) (by first | omega | (simp only [Ls_len]; omega) | assumption | exact Ls_get (by omega) (by omega) | exact up_at _ _ _ | rfl | decide) (by first | omega | (simp only [Ls_len]; omega) | assumption | exact Ls_get (by omega) (by omega) | exact up_at _ _ _ | rfl | decide) (by first | omega | (simp only [Ls_len]; omega) | assumption | exact Ls_get (by omega) (by omega) | exact up_at _ _ _ | rfl | decide) (by first | omega | (simp only [Ls_len]; omega) | assumption | exact Ls_get (by omega) (by omega) | exact up_at _ _ _ | rfl | decide) (by first | omega | (simp only [Ls_len]; omega) | assumption | exact Ls_get (by omega) (by omega) | exact up_at _ _ _ | rfl | decide) ?_
  intro h18 s18
  refine BX13_comesOf_21  ?_
  have k1 := k _ s18
  rw [z3]
  cases hD : coOf (textX W X T) with
  | none =>
    rw [hD] at k1
    have q : selM 0 (textX W X T) = none := hD
    rw [q]
    show Q (some (vI (max 0 (min 10 (atP (W 3 3) (W 5) (W 1 (b * 6 + 1)) + 1))))) _ _
    rw [show max 0 (min 10 (atP (W 3 3) (W 5) (W 1 (b * 6 + 1)) + 1)) = atP (W 3 3) (W 5) (W 1 (b * 6 + 1)) + 1 by omega]
    exact k1
  | some D =>
    rw [hD] at k1
    have q : selM 0 (textX W X T) = some D := hD
    rw [q]
    exact k1
theorem R_X13_wearsOf {b : Int} (s : IsMo g h W V X F B wr cm) (ok : okW W) (b0 : 0 ≤ b) (b1 : b < W 1 72) (k : ∀ h2, IsMo g h2 W V X F B wr cm → Q (some (vI (wearsM (weOf (ruX W X)) (W 1) (W 3 3) (W 0) (W 5) b))) h2 n) : Rn (d + 5) bc bs mX13_wearsOf 0 [some (vR (some 301)), some (vI b)] [] h n Q := by
  have oe := envM_ok ok.1 ok.2.1 b0 b1
  have o3 := ok.2.2.1
  obtain ⟨M, e, t⟩ := id s
  have m0 := e.o
  refine BX13_wearsOf_0 (by first | assumption | exact up_at _ _ _ | (rw [up_ne (by omega)]; first | assumption | exact up_at _ _ _ | (rw [up_ne (by omega)]; assumption))) ?_
  refine R_X13_name (by first | omega | (simp only [Ls_len]; omega) | assumption | exact Ls_get (by omega) (by omega) | exact up_at _ _ _ | rfl | decide) (by first | omega | (simp only [Ls_len]; omega) | assumption | exact Ls_get (by omega) (by omega) | exact up_at _ _ _ | rfl | decide) (by first | omega | (simp only [Ls_len]; omega) | assumption | exact Ls_get (by omega) (by omega) | exact up_at _ _ _ | rfl | decide) (by first | omega | (simp only [Ls_len]; omega) | assumption | exact Ls_get (by omega) (by omega) | exact up_at _ _ _ | rfl | decide) ?_
  intro h2 M2 e2 t2 f2
  have m0 := e2.o
  have m1 := e2.a1
  have z2 : M2 1 2 = W 3 2 := t2.1.1.2.2.2.1.2.1
  refine BX13_wearsOf_5 (by first | assumption | exact up_at _ _ _ | (rw [up_ne (by omega)]; first | assumption | exact up_at _ _ _ | (rw [up_ne (by omega)]; assumption))) (by rfl) (by first | assumption | exact up_at _ _ _ | (rw [up_ne (by omega)]; first | assumption | exact up_at _ _ _ | (rw [up_ne (by omega)]; assumption))) (by first | exact Ls_get (by omega) (by omega) | assumption) ?_
  refine R_X13_says (by first | omega | (simp only [Ls_len]; omega) | assumption | exact Ls_get (by omega) (by omega) | exact up_at _ _ _ | rfl | decide) (by first | omega | (simp only [Ls_len]; omega) | assumption | exact Ls_get (by omega) (by omega) | exact up_at _ _ _ | rfl | decide) (by first | omega | (simp only [Ls_len]; omega) | assumption | exact Ls_get (by omega) (by omega) | exact up_at _ _ _ | rfl | decide) (by first | omega | (simp only [Ls_len]; omega) | assumption | exact Ls_get (by omega) (by omega) | exact up_at _ _ _ | rfl | decide) (by first | omega | (simp only [Ls_len]; omega) | assumption | exact Ls_get (by omega) (by omega) | exact up_at _ _ _ | rfl | decide) (by first | omega | (simp only [Ls_len]; omega) | assumption | exact Ls_get (by omega) (by omega) | exact up_at _ _ _ | rfl | decide) (by first | omega | (simp only [Ls_len]; omega) | assumption | exact Ls_get (by omega) (by omega) | exact up_at _ _ _ | rfl | decide) (by first | omega | (simp only [Ls_len]; omega) | assumption | exact Ls_get (by omega) (by omega) | exact up_at _ _ _ | rfl | decide) (by first | omega | (simp only [Ls_len]; omega) | assumption | exact Ls_get (by omega) (by omega) | exact up_at _ _ _ | rfl | decide) ?_
  intro h16 s16
  refine BX13_wearsOf_19  ?_
  have k1 := k _ s16
  rw [z2]
  cases hD : weOf (textX W X (W 3 2)) with
  | none =>
    have hE : weOf (ruX W X) = none := hD
    rw [hE] at k1
    have q : selM 1 (textX W X (W 3 2)) = none := hD
    rw [q]
    exact k1
  | some D =>
    have hE : weOf (ruX W X) = some D := hD
    rw [hE] at k1
    have q : selM 1 (textX W X (W 3 2)) = some D := hD
    rw [q]
    exact k1
theorem M_ofBottle {b u : Int} (s : IsMo g h W V X F B wr cm) (ok : okW W) (k : ∀ h1, IsMo g h1 W V X F B wr cm → Q (some (vI (aOfBottle W X b u))) h1 n) : Rn (d + 30) bc bs mX13_ofBottle 0 [some (vR (some 301)), some (vI b), some (vI u)] [] h n Q := by
  have o3 := ok.2.2.1
  unfold aOfBottle at k
  obtain ⟨M, e, ⟨⟨ts, te, ty, ⟨t1, t2, t3⟩, tp⟩, tb⟩, ⟨tv, tvb⟩, tx, ⟨⟨tt1, tt2, tt3⟩, tt4⟩, wr0, cm0, on⟩ := id s; obtain ⟨on1, on2, on3, on4, on5, on6, on7, on8⟩ := id on; have tt : tTp M F := ⟨⟨tt1, tt2, tt3⟩, tt4⟩; have m0 := e.o; have m1 := e.a1; have m2 := e.a2; have m3 := e.a3; have m4 := e.a4; have ts1 := ts.1; obtain ⟨te1, te2, te3, te4⟩ := id te; obtain ⟨⟨ty1, ty2, ty3, ty4, ty5⟩, ty6, ty7, ty8, ty9⟩ := id ty
  refine BX13_ofBottle_0 (by first | assumption | exact up_at _ _ _ | (rw [up_ne (by omega)]; first | assumption | exact up_at _ _ _ | (rw [up_ne (by omega)]; assumption))) ?_
  refine R_X13_isBottle (by first | omega | (simp only [Ls_len]; omega) | assumption | exact Ls_get (by omega) (by omega) | exact up_at _ _ _ | rfl | decide) ?_ ?_
  · intro w1 w2
    refine BX13_ofBottle_5  ?_ ?_
    · intro hc1
      refine BX13_ofBottle_11  ?_
      refine R_X13_isIn  ?_ ?_
      · intro w1 w2
        refine BX13_ofBottle_17  ?_ ?_
        · intro hc2
          exact absurd hc2 (by decide)
        · intro hc3
          refine BX13_ofBottle_20 (by first | assumption | exact up_at _ _ _ | (rw [up_ne (by omega)]; first | assumption | exact up_at _ _ _ | (rw [up_ne (by omega)]; assumption))) ?_
          refine R_X13_get (by first | omega | (simp only [Ls_len]; omega) | assumption | exact Ls_get (by omega) (by omega) | exact up_at _ _ _ | rfl | decide) (by first | omega | (simp only [Ls_len]; omega) | assumption | exact Ls_get (by omega) (by omega) | exact up_at _ _ _ | rfl | decide) (by first | omega | (simp only [Ls_len]; omega) | assumption | exact Ls_get (by omega) (by omega) | exact up_at _ _ _ | rfl | decide) (by first | omega | (simp only [Ls_len]; omega) | assumption | exact Ls_get (by omega) (by omega) | exact up_at _ _ _ | rfl | decide) (by first | omega | (simp only [Ls_len]; omega) | assumption | exact Ls_get (by omega) (by omega) | exact up_at _ _ _ | rfl | decide) ?_
          refine BX13_ofBottle_26  ?_
          (rw [if_pos (by omega), if_pos (by omega)] at k; exact k _ s)
      · intro w3
        refine BX13_ofBottle_17  ?_ ?_
        · intro hc4
          refine BX13_ofBottle_29  ?_ ?_
          · intro hc5
            refine BX13_ofBottle_49  ?_ ?_
            · intro hc6
              refine BX13_ofBottle_63  ?_
              (rw [if_pos (by omega), if_neg (by omega), if_neg (by omega), if_neg (by omega)] at k; exact k _ s)
            · intro hc7
              refine BX13_ofBottle_55 (by first | assumption | exact up_at _ _ _ | (rw [up_ne (by omega)]; first | assumption | exact up_at _ _ _ | (rw [up_ne (by omega)]; assumption))) ?_
              refine R_X13_wearsOf (by first | omega | (simp only [Ls_len]; omega) | assumption | exact Ls_get (by omega) (by omega) | exact up_at _ _ _ | rfl | decide) (by first | omega | (simp only [Ls_len]; omega) | assumption | exact Ls_get (by omega) (by omega) | exact up_at _ _ _ | rfl | decide) (by first | omega | (simp only [Ls_len]; omega) | assumption | exact Ls_get (by omega) (by omega) | exact up_at _ _ _ | rfl | decide) (by first | omega | (simp only [Ls_len]; omega) | assumption | exact Ls_get (by omega) (by omega) | exact up_at _ _ _ | rfl | decide) ?_
              intro h57 s57
              refine BX13_ofBottle_60  ?_
              (rw [if_pos (by omega), if_neg (by omega), if_neg (by omega), if_pos (by omega)] at k; exact k _ s57)
          · intro hc8
            refine BX13_ofBottle_35 (by first | assumption | exact up_at _ _ _ | (rw [up_ne (by omega)]; first | assumption | exact up_at _ _ _ | (rw [up_ne (by omega)]; assumption))) (by rfl) (by first | assumption | exact up_at _ _ _ | (rw [up_ne (by omega)]; first | assumption | exact up_at _ _ _ | (rw [up_ne (by omega)]; assumption))) (by first | exact Ls_get (by omega) (by omega) | assumption) ?_
            refine R_X13_comesOf (by first | omega | (simp only [Ls_len]; omega) | assumption | exact Ls_get (by omega) (by omega) | exact up_at _ _ _ | rfl | decide) (by first | omega | (simp only [Ls_len]; omega) | assumption | exact Ls_get (by omega) (by omega) | exact up_at _ _ _ | rfl | decide) (by first | omega | (simp only [Ls_len]; omega) | assumption | exact Ls_get (by omega) (by omega) | exact up_at _ _ _ | rfl | decide) (by first | omega | (simp only [Ls_len]; omega) | assumption | exact Ls_get (by omega) (by omega) | exact up_at _ _ _ | rfl | decide) (by first | omega | (simp only [Ls_len]; omega) | assumption | exact Ls_get (by omega) (by omega) | exact up_at _ _ _ | rfl | decide) (by first | omega | (simp only [Ls_len]; omega) | assumption | exact Ls_get (by omega) (by omega) | exact up_at _ _ _ | rfl | decide) ?_
            intro h43 s43
            refine BX13_ofBottle_46  ?_
            (rw [if_pos (by omega), if_neg (by omega), if_pos (by omega)] at k; rw [t2]; exact k _ s43)
        · intro hc9
          exact absurd hc9 (by decide)
    · intro hc10
      exact absurd hc10 (by decide)
  · intro w3
    refine BX13_ofBottle_5  ?_ ?_
    · intro hc11
      exact absurd hc11 (by decide)
    · intro hc12
      refine BX13_ofBottle_8  ?_
      (rw [if_neg (by omega)] at k; exact k _ s)
end SAYS
