/-! A clause, the whole text, as it is read. -/
abbrev Cs : Type := Ps × (Int → Int) × Int × Option Lw × Option Lw
def cbP (F : Int → Int) (q : Cs) : Ps := if kdP F q.1 < 16 ∨ 23 < kdP F q.1 then rfP F 1 q.1 else if (kdP F q.1 = 16 ∧ q.2.2.2.1 ≠ none) ∨ (kdP F q.1 = 17 ∧ q.2.2.2.2 ≠ none) then rfP F 4 q.1 else if 24 ≤ q.2.2.1 then rfP F 6 q.1 else q.1
def zeP (S : Ps) : Ps := (S.1, S.2.1, S.2.2.1, 0, S.2.2.2.2)
def lawP (F : Int → Int) (iw : Int) (S : Ps) : Ps := gk F iw 3000 3 0 (zeP (advP F S))
def lwO (T : Ps) : Lw := (T.2.2.2.1.toNat, padG 300 T.2.2.2.2)
def clN (F : Int → Int) (q : Cs) : Ps × (Int → Int) := nuP F q.2.2.1 (kdP F q.1) (advP F q.1, fset q.2.1 (q.2.2.1 * 4 + 0) (kdP F q.1))
def clP (F : Int → Int) (q : Cs) : Cs :=
  if kdP F q.1 = 16 then (wanP F 15 (lawP F 0 q.1), fset q.2.1 (q.2.2.1 * 4 + 0) (kdP F q.1), q.2.2.1 + 1, some (lwO (lawP F 0 q.1)), q.2.2.2.2)
  else if kdP F q.1 = 17 then (wanP F 15 (lawP F 1 q.1), fset q.2.1 (q.2.2.1 * 4 + 0) (kdP F q.1), q.2.2.1 + 1, q.2.2.2.1, some (lwO (lawP F 1 q.1)))
  else (wanP F 15 (clN F q).1, (clN F q).2, q.2.2.1 + 1, q.2.2.2.1, q.2.2.2.2)
section TEXT2
variable {d bc bs n n0 : Nat} {h : aH} {Q : aQ} {F cl : Int → Int} {cc op iw : Int} {ca wa : Option Nat} {q : Cs}
theorem lwn {n0 n : Nat} {a : Option Nat} {L : Option Lw} (s : LwAt h n0 n a L) : a = none ↔ L = none := by
  rcases a with _ | a <;> rcases L with _ | L
  · exact ⟨fun _ => rfl, fun _ => rfl⟩
  · exact s.elim
  · exact s.elim
  · exact ⟨fun e => (by cases e), fun e => (by cases e)⟩
theorem R_X1_canBegin (s : Gm h F q.2.2.1 ca wa q.2.1 op iw q.1) (lc : LwAt h n0 n ca q.2.2.2.1) (lw : LwAt h n0 n wa q.2.2.2.2) (f0 : q.1.1 = 0) (c0 : 0 ≤ q.2.2.1) (c1 : q.2.2.1 ≤ 24) (kt : (cbP F q).1 = 0 → cbP F q = q.1 → 16 ≤ kdP F q.1 → kdP F q.1 ≤ 23 → (kdP F q.1 = 16 → q.2.2.2.1 = none) → (kdP F q.1 = 17 → q.2.2.2.2 = none) → q.2.2.1 < 24 → Q (some (vI 1)) h n) (kf : ∀ h1, Fr h h1 282 5 → Gm h1 F q.2.2.1 ca wa q.2.1 op iw (cbP F q) → (cbP F q).1 ≠ 0 → Q (some (vI 0)) h1 n) : Rn (d + 2) bc bs mX1_canBegin 0 [some (vR (some 284)), some (vR (some 282)), none] [] h n Q := by
  obtain ⟨S, cl, cc, co, we⟩ := q
  dsimp only at *
  obtain ⟨⟨tv, tk, tvv⟩, g1, g2, g3⟩ := id s; have tk1 := tk.1
  have ec := lwn lc
  have ew := lwn lw
  have kd : kdP F S = tkK F S.2.2.1 := rfl
  unfold cbP at kt kf
  dsimp only at kt kf
  have r0 : ∀ c, c ≠ 0 → (rfP F c S).1 = c := fun c hc => by unfold rfP; rw [if_pos f0]
  have e1 := r0 1 (by decide)
  have e4 := r0 4 (by decide)
  have e6 := r0 6 (by decide)
  rcases ca with _ | ca <;> rcases co with _ | co <;> rcases wa with _ | wa <;> rcases we with _ | we <;> first | exact lc.elim | exact lw.elim | skip
  · skip
    refine BX1_canBegin_0 (by first | assumption | exact up_at _ _ _ | (rw [up_ne (by omega)]; first | assumption | exact up_at _ _ _ | (rw [up_ne (by omega)]; first | assumption | exact up_at _ _ _ | (rw [up_ne (by omega)]; assumption)))) (by rfl) ?_ ?_
    · intro hc1
      refine BX1_canBegin_17 (by first | assumption | exact up_at _ _ _ | (rw [up_ne (by omega)]; first | assumption | exact up_at _ _ _ | (rw [up_ne (by omega)]; first | assumption | exact up_at _ _ _ | (rw [up_ne (by omega)]; assumption)))) ?_
      refine R_X1_refuse (by first | omega | assumption | (simp only [Ls_len]; omega) | exact Ls_get (by omega) (by omega) | rfl | decide) ?_
      intro h20 r20 s20
      have s := s20
      obtain ⟨⟨tv, tk, tvv⟩, g1, g2, g3⟩ := id s; have tk1 := tk.1
      refine BX1_canBegin_23 (by first | assumption | exact up_at _ _ _ | (rw [up_ne (by omega)]; first | assumption | exact up_at _ _ _ | (rw [up_ne (by omega)]; first | assumption | exact up_at _ _ _ | (rw [up_ne (by omega)]; assumption)))) (by rfl) ?_ ?_
      · intro hc2
        refine BX1_canBegin_88  ?_
        first
        | (exfalso; omega)
        | (rw [if_pos (by omega)] at kf; exact kf _ r20 s20 (by omega))
        | (rw [if_neg (by omega), if_pos (by simp_all)] at kf; exact kf _ r55 s55 (by omega))
        | (rw [if_neg (by omega), if_neg (by simp_all <;> omega), if_pos (by omega)] at kf; exact kf _ r74 s74 (by omega))
      · intro hc3
        refine BX1_canBegin_84  ?_
        first
        | (exfalso; omega)
        | (rw [if_neg (by omega), if_neg (by simp_all <;> omega), if_neg (by omega)] at kt
           exact kt f0 rfl (by omega) (by omega) (by simp_all) (by simp_all) (by omega))
    · intro hc4
      refine BX1_canBegin_11  ?_ ?_
      · intro hc5
        refine BX1_canBegin_26  ?_ ?_
        · intro hc6
          refine BX1_canBegin_39  ?_ ?_
          · intro hc7
            refine BX1_canBegin_61 (by first | assumption | exact up_at _ _ _ | (rw [up_ne (by omega)]; first | assumption | exact up_at _ _ _ | (rw [up_ne (by omega)]; first | assumption | exact up_at _ _ _ | (rw [up_ne (by omega)]; assumption)))) (by rfl) ?_ ?_
            · intro hc8
              refine BX1_canBegin_77 (by first | assumption | exact up_at _ _ _ | (rw [up_ne (by omega)]; first | assumption | exact up_at _ _ _ | (rw [up_ne (by omega)]; first | assumption | exact up_at _ _ _ | (rw [up_ne (by omega)]; assumption)))) (by rfl) ?_ ?_
              · intro hc9
                refine BX1_canBegin_88  ?_
                first
                | (exfalso; omega)
                | (rw [if_pos (by omega)] at kf; exact kf _ r20 s20 (by omega))
                | (rw [if_neg (by omega), if_pos (by simp_all)] at kf; exact kf _ r55 s55 (by omega))
                | (rw [if_neg (by omega), if_neg (by simp_all <;> omega), if_pos (by omega)] at kf; exact kf _ r74 s74 (by omega))
              · intro hc10
                refine BX1_canBegin_84  ?_
                first
                | (exfalso; omega)
                | (rw [if_neg (by omega), if_neg (by simp_all <;> omega), if_neg (by omega)] at kt
                   exact kt f0 rfl (by omega) (by omega) (by simp_all) (by simp_all) (by omega))
            · intro hc11
              refine BX1_canBegin_70 (by first | assumption | exact up_at _ _ _ | (rw [up_ne (by omega)]; first | assumption | exact up_at _ _ _ | (rw [up_ne (by omega)]; first | assumption | exact up_at _ _ _ | (rw [up_ne (by omega)]; assumption)))) ?_
              refine R_X1_refuse (by first | omega | assumption | (simp only [Ls_len]; omega) | exact Ls_get (by omega) (by omega) | rfl | decide) ?_
              intro h74 r74 s74
              have s := s74
              obtain ⟨⟨tv, tk, tvv⟩, g1, g2, g3⟩ := id s; have tk1 := tk.1
              refine BX1_canBegin_77 (by first | assumption | exact up_at _ _ _ | (rw [up_ne (by omega)]; first | assumption | exact up_at _ _ _ | (rw [up_ne (by omega)]; first | assumption | exact up_at _ _ _ | (rw [up_ne (by omega)]; assumption)))) (by rfl) ?_ ?_
              · intro hc12
                refine BX1_canBegin_88  ?_
                first
                | (exfalso; omega)
                | (rw [if_pos (by omega)] at kf; exact kf _ r20 s20 (by omega))
                | (rw [if_neg (by omega), if_pos (by simp_all)] at kf; exact kf _ r55 s55 (by omega))
                | (rw [if_neg (by omega), if_neg (by simp_all <;> omega), if_pos (by omega)] at kf; exact kf _ r74 s74 (by omega))
              · intro hc13
                refine BX1_canBegin_84  ?_
                first
                | (exfalso; omega)
                | (rw [if_neg (by omega), if_neg (by simp_all <;> omega), if_neg (by omega)] at kt
                   exact kt f0 rfl (by omega) (by omega) (by simp_all) (by simp_all) (by omega))
          · intro hc14
            refine BX1_canBegin_45 (by first | assumption | exact up_at _ _ _ | (rw [up_ne (by omega)]; first | assumption | exact up_at _ _ _ | (rw [up_ne (by omega)]; first | assumption | exact up_at _ _ _ | (rw [up_ne (by omega)]; assumption)))) (by rfl) ?_ ?_
            · intro hc15
              cases hc15
              all_goals
              (
                refine BX1_canBegin_61 (by first | assumption | exact up_at _ _ _ | (rw [up_ne (by omega)]; first | assumption | exact up_at _ _ _ | (rw [up_ne (by omega)]; first | assumption | exact up_at _ _ _ | (rw [up_ne (by omega)]; assumption)))) (by rfl) ?_ ?_
                · intro hc16
                  refine BX1_canBegin_77 (by first | assumption | exact up_at _ _ _ | (rw [up_ne (by omega)]; first | assumption | exact up_at _ _ _ | (rw [up_ne (by omega)]; first | assumption | exact up_at _ _ _ | (rw [up_ne (by omega)]; assumption)))) (by rfl) ?_ ?_
                  · intro hc17
                    refine BX1_canBegin_88  ?_
                    first
                    | (exfalso; omega)
                    | (rw [if_pos (by omega)] at kf; exact kf _ r20 s20 (by omega))
                    | (rw [if_neg (by omega), if_pos (by simp_all)] at kf; exact kf _ r55 s55 (by omega))
                    | (rw [if_neg (by omega), if_neg (by simp_all <;> omega), if_pos (by omega)] at kf; exact kf _ r74 s74 (by omega))
                  · intro hc18
                    refine BX1_canBegin_84  ?_
                    first
                    | (exfalso; omega)
                    | (rw [if_neg (by omega), if_neg (by simp_all <;> omega), if_neg (by omega)] at kt
                       exact kt f0 rfl (by omega) (by omega) (by simp_all) (by simp_all) (by omega))
                · intro hc19
                  refine BX1_canBegin_70 (by first | assumption | exact up_at _ _ _ | (rw [up_ne (by omega)]; first | assumption | exact up_at _ _ _ | (rw [up_ne (by omega)]; first | assumption | exact up_at _ _ _ | (rw [up_ne (by omega)]; assumption)))) ?_
                  refine R_X1_refuse (by first | omega | assumption | (simp only [Ls_len]; omega) | exact Ls_get (by omega) (by omega) | rfl | decide) ?_
                  intro h74 r74 s74
                  have s := s74
                  obtain ⟨⟨tv, tk, tvv⟩, g1, g2, g3⟩ := id s; have tk1 := tk.1
                  refine BX1_canBegin_77 (by first | assumption | exact up_at _ _ _ | (rw [up_ne (by omega)]; first | assumption | exact up_at _ _ _ | (rw [up_ne (by omega)]; first | assumption | exact up_at _ _ _ | (rw [up_ne (by omega)]; assumption)))) (by rfl) ?_ ?_
                  · intro hc20
                    refine BX1_canBegin_88  ?_
                    first
                    | (exfalso; omega)
                    | (rw [if_pos (by omega)] at kf; exact kf _ r20 s20 (by omega))
                    | (rw [if_neg (by omega), if_pos (by simp_all)] at kf; exact kf _ r55 s55 (by omega))
                    | (rw [if_neg (by omega), if_neg (by simp_all <;> omega), if_pos (by omega)] at kf; exact kf _ r74 s74 (by omega))
                  · intro hc21
                    refine BX1_canBegin_84  ?_
                    first
                    | (exfalso; omega)
                    | (rw [if_neg (by omega), if_neg (by simp_all <;> omega), if_neg (by omega)] at kt
                       exact kt f0 rfl (by omega) (by omega) (by simp_all) (by simp_all) (by omega))
              )
            · intro ahc22 hc22
              cases hc22
              all_goals
              (
                refine BX1_canBegin_52 (by first | assumption | exact up_at _ _ _ | (rw [up_ne (by omega)]; first | assumption | exact up_at _ _ _ | (rw [up_ne (by omega)]; first | assumption | exact up_at _ _ _ | (rw [up_ne (by omega)]; assumption)))) ?_
                refine R_X1_refuse (by first | omega | assumption | (simp only [Ls_len]; omega) | exact Ls_get (by omega) (by omega) | rfl | decide) ?_
                intro h55 r55 s55
                have s := s55
                obtain ⟨⟨tv, tk, tvv⟩, g1, g2, g3⟩ := id s; have tk1 := tk.1
                refine BX1_canBegin_58 (by first | assumption | exact up_at _ _ _ | (rw [up_ne (by omega)]; first | assumption | exact up_at _ _ _ | (rw [up_ne (by omega)]; first | assumption | exact up_at _ _ _ | (rw [up_ne (by omega)]; assumption)))) (by rfl) ?_ ?_
                · intro hc23
                  refine BX1_canBegin_88  ?_
                  first
                  | (exfalso; omega)
                  | (rw [if_pos (by omega)] at kf; exact kf _ r20 s20 (by omega))
                  | (rw [if_neg (by omega), if_pos (by simp_all)] at kf; exact kf _ r55 s55 (by omega))
                  | (rw [if_neg (by omega), if_neg (by simp_all <;> omega), if_pos (by omega)] at kf; exact kf _ r74 s74 (by omega))
                · intro hc24
                  refine BX1_canBegin_84  ?_
                  first
                  | (exfalso; omega)
                  | (rw [if_neg (by omega), if_neg (by simp_all <;> omega), if_neg (by omega)] at kt
                     exact kt f0 rfl (by omega) (by omega) (by simp_all) (by simp_all) (by omega))
              )
        · intro hc25
          refine BX1_canBegin_32 (by first | assumption | exact up_at _ _ _ | (rw [up_ne (by omega)]; first | assumption | exact up_at _ _ _ | (rw [up_ne (by omega)]; first | assumption | exact up_at _ _ _ | (rw [up_ne (by omega)]; assumption)))) (by rfl) ?_ ?_
          · intro ahc26 hc26
            cases hc26
            all_goals
            (
              refine BX1_canBegin_52 (by first | assumption | exact up_at _ _ _ | (rw [up_ne (by omega)]; first | assumption | exact up_at _ _ _ | (rw [up_ne (by omega)]; first | assumption | exact up_at _ _ _ | (rw [up_ne (by omega)]; assumption)))) ?_
              refine R_X1_refuse (by first | omega | assumption | (simp only [Ls_len]; omega) | exact Ls_get (by omega) (by omega) | rfl | decide) ?_
              intro h55 r55 s55
              have s := s55
              obtain ⟨⟨tv, tk, tvv⟩, g1, g2, g3⟩ := id s; have tk1 := tk.1
              refine BX1_canBegin_58 (by first | assumption | exact up_at _ _ _ | (rw [up_ne (by omega)]; first | assumption | exact up_at _ _ _ | (rw [up_ne (by omega)]; first | assumption | exact up_at _ _ _ | (rw [up_ne (by omega)]; assumption)))) (by rfl) ?_ ?_
              · intro hc27
                refine BX1_canBegin_88  ?_
                first
                | (exfalso; omega)
                | (rw [if_pos (by omega)] at kf; exact kf _ r20 s20 (by omega))
                | (rw [if_neg (by omega), if_pos (by simp_all)] at kf; exact kf _ r55 s55 (by omega))
                | (rw [if_neg (by omega), if_neg (by simp_all <;> omega), if_pos (by omega)] at kf; exact kf _ r74 s74 (by omega))
              · intro hc28
                refine BX1_canBegin_84  ?_
                first
                | (exfalso; omega)
                | (rw [if_neg (by omega), if_neg (by simp_all <;> omega), if_neg (by omega)] at kt
                   exact kt f0 rfl (by omega) (by omega) (by simp_all) (by simp_all) (by omega))
            )
          · intro hc29
            cases hc29
            all_goals
            (
              refine BX1_canBegin_39  ?_ ?_
              · intro hc30
                refine BX1_canBegin_61 (by first | assumption | exact up_at _ _ _ | (rw [up_ne (by omega)]; first | assumption | exact up_at _ _ _ | (rw [up_ne (by omega)]; first | assumption | exact up_at _ _ _ | (rw [up_ne (by omega)]; assumption)))) (by rfl) ?_ ?_
                · intro hc31
                  refine BX1_canBegin_77 (by first | assumption | exact up_at _ _ _ | (rw [up_ne (by omega)]; first | assumption | exact up_at _ _ _ | (rw [up_ne (by omega)]; first | assumption | exact up_at _ _ _ | (rw [up_ne (by omega)]; assumption)))) (by rfl) ?_ ?_
                  · intro hc32
                    refine BX1_canBegin_88  ?_
                    first
                    | (exfalso; omega)
                    | (rw [if_pos (by omega)] at kf; exact kf _ r20 s20 (by omega))
                    | (rw [if_neg (by omega), if_pos (by simp_all)] at kf; exact kf _ r55 s55 (by omega))
                    | (rw [if_neg (by omega), if_neg (by simp_all <;> omega), if_pos (by omega)] at kf; exact kf _ r74 s74 (by omega))
                  · intro hc33
                    refine BX1_canBegin_84  ?_
                    first
                    | (exfalso; omega)
                    | (rw [if_neg (by omega), if_neg (by simp_all <;> omega), if_neg (by omega)] at kt
                       exact kt f0 rfl (by omega) (by omega) (by simp_all) (by simp_all) (by omega))
                · intro hc34
                  refine BX1_canBegin_70 (by first | assumption | exact up_at _ _ _ | (rw [up_ne (by omega)]; first | assumption | exact up_at _ _ _ | (rw [up_ne (by omega)]; first | assumption | exact up_at _ _ _ | (rw [up_ne (by omega)]; assumption)))) ?_
                  refine R_X1_refuse (by first | omega | assumption | (simp only [Ls_len]; omega) | exact Ls_get (by omega) (by omega) | rfl | decide) ?_
                  intro h74 r74 s74
                  have s := s74
                  obtain ⟨⟨tv, tk, tvv⟩, g1, g2, g3⟩ := id s; have tk1 := tk.1
                  refine BX1_canBegin_77 (by first | assumption | exact up_at _ _ _ | (rw [up_ne (by omega)]; first | assumption | exact up_at _ _ _ | (rw [up_ne (by omega)]; first | assumption | exact up_at _ _ _ | (rw [up_ne (by omega)]; assumption)))) (by rfl) ?_ ?_
                  · intro hc35
                    refine BX1_canBegin_88  ?_
                    first
                    | (exfalso; omega)
                    | (rw [if_pos (by omega)] at kf; exact kf _ r20 s20 (by omega))
                    | (rw [if_neg (by omega), if_pos (by simp_all)] at kf; exact kf _ r55 s55 (by omega))
                    | (rw [if_neg (by omega), if_neg (by simp_all <;> omega), if_pos (by omega)] at kf; exact kf _ r74 s74 (by omega))
                  · intro hc36
                    refine BX1_canBegin_84  ?_
                    first
                    | (exfalso; omega)
                    | (rw [if_neg (by omega), if_neg (by simp_all <;> omega), if_neg (by omega)] at kt
                       exact kt f0 rfl (by omega) (by omega) (by simp_all) (by simp_all) (by omega))
              · intro hc37
                refine BX1_canBegin_45 (by first | assumption | exact up_at _ _ _ | (rw [up_ne (by omega)]; first | assumption | exact up_at _ _ _ | (rw [up_ne (by omega)]; first | assumption | exact up_at _ _ _ | (rw [up_ne (by omega)]; assumption)))) (by rfl) ?_ ?_
                · intro hc38
                  cases hc38
                  all_goals
                  (
                    refine BX1_canBegin_61 (by first | assumption | exact up_at _ _ _ | (rw [up_ne (by omega)]; first | assumption | exact up_at _ _ _ | (rw [up_ne (by omega)]; first | assumption | exact up_at _ _ _ | (rw [up_ne (by omega)]; assumption)))) (by rfl) ?_ ?_
                    · intro hc39
                      refine BX1_canBegin_77 (by first | assumption | exact up_at _ _ _ | (rw [up_ne (by omega)]; first | assumption | exact up_at _ _ _ | (rw [up_ne (by omega)]; first | assumption | exact up_at _ _ _ | (rw [up_ne (by omega)]; assumption)))) (by rfl) ?_ ?_
                      · intro hc40
                        refine BX1_canBegin_88  ?_
                        first
                        | (exfalso; omega)
                        | (rw [if_pos (by omega)] at kf; exact kf _ r20 s20 (by omega))
                        | (rw [if_neg (by omega), if_pos (by simp_all)] at kf; exact kf _ r55 s55 (by omega))
                        | (rw [if_neg (by omega), if_neg (by simp_all <;> omega), if_pos (by omega)] at kf; exact kf _ r74 s74 (by omega))
                      · intro hc41
                        refine BX1_canBegin_84  ?_
                        first
                        | (exfalso; omega)
                        | (rw [if_neg (by omega), if_neg (by simp_all <;> omega), if_neg (by omega)] at kt
                           exact kt f0 rfl (by omega) (by omega) (by simp_all) (by simp_all) (by omega))
                    · intro hc42
                      refine BX1_canBegin_70 (by first | assumption | exact up_at _ _ _ | (rw [up_ne (by omega)]; first | assumption | exact up_at _ _ _ | (rw [up_ne (by omega)]; first | assumption | exact up_at _ _ _ | (rw [up_ne (by omega)]; assumption)))) ?_
                      refine R_X1_refuse (by first | omega | assumption | (simp only [Ls_len]; omega) | exact Ls_get (by omega) (by omega) | rfl | decide) ?_
                      intro h74 r74 s74
                      have s := s74
                      obtain ⟨⟨tv, tk, tvv⟩, g1, g2, g3⟩ := id s; have tk1 := tk.1
                      refine BX1_canBegin_77 (by first | assumption | exact up_at _ _ _ | (rw [up_ne (by omega)]; first | assumption | exact up_at _ _ _ | (rw [up_ne (by omega)]; first | assumption | exact up_at _ _ _ | (rw [up_ne (by omega)]; assumption)))) (by rfl) ?_ ?_
                      · intro hc43
                        refine BX1_canBegin_88  ?_
                        first
                        | (exfalso; omega)
                        | (rw [if_pos (by omega)] at kf; exact kf _ r20 s20 (by omega))
                        | (rw [if_neg (by omega), if_pos (by simp_all)] at kf; exact kf _ r55 s55 (by omega))
                        | (rw [if_neg (by omega), if_neg (by simp_all <;> omega), if_pos (by omega)] at kf; exact kf _ r74 s74 (by omega))
                      · intro hc44
                        refine BX1_canBegin_84  ?_
                        first
                        | (exfalso; omega)
                        | (rw [if_neg (by omega), if_neg (by simp_all <;> omega), if_neg (by omega)] at kt
                           exact kt f0 rfl (by omega) (by omega) (by simp_all) (by simp_all) (by omega))
                  )
                · intro ahc45 hc45
                  cases hc45
                  all_goals
                  (
                    refine BX1_canBegin_52 (by first | assumption | exact up_at _ _ _ | (rw [up_ne (by omega)]; first | assumption | exact up_at _ _ _ | (rw [up_ne (by omega)]; first | assumption | exact up_at _ _ _ | (rw [up_ne (by omega)]; assumption)))) ?_
                    refine R_X1_refuse (by first | omega | assumption | (simp only [Ls_len]; omega) | exact Ls_get (by omega) (by omega) | rfl | decide) ?_
                    intro h55 r55 s55
                    have s := s55
                    obtain ⟨⟨tv, tk, tvv⟩, g1, g2, g3⟩ := id s; have tk1 := tk.1
                    refine BX1_canBegin_58 (by first | assumption | exact up_at _ _ _ | (rw [up_ne (by omega)]; first | assumption | exact up_at _ _ _ | (rw [up_ne (by omega)]; first | assumption | exact up_at _ _ _ | (rw [up_ne (by omega)]; assumption)))) (by rfl) ?_ ?_
                    · intro hc46
                      refine BX1_canBegin_88  ?_
                      first
                      | (exfalso; omega)
                      | (rw [if_pos (by omega)] at kf; exact kf _ r20 s20 (by omega))
                      | (rw [if_neg (by omega), if_pos (by simp_all)] at kf; exact kf _ r55 s55 (by omega))
                      | (rw [if_neg (by omega), if_neg (by simp_all <;> omega), if_pos (by omega)] at kf; exact kf _ r74 s74 (by omega))
                    · intro hc47
                      refine BX1_canBegin_84  ?_
                      first
                      | (exfalso; omega)
                      | (rw [if_neg (by omega), if_neg (by simp_all <;> omega), if_neg (by omega)] at kt
                         exact kt f0 rfl (by omega) (by omega) (by simp_all) (by simp_all) (by omega))
                  )
            )
      · intro hc48
        refine BX1_canBegin_17 (by first | assumption | exact up_at _ _ _ | (rw [up_ne (by omega)]; first | assumption | exact up_at _ _ _ | (rw [up_ne (by omega)]; first | assumption | exact up_at _ _ _ | (rw [up_ne (by omega)]; assumption)))) ?_
        refine R_X1_refuse (by first | omega | assumption | (simp only [Ls_len]; omega) | exact Ls_get (by omega) (by omega) | rfl | decide) ?_
        intro h20 r20 s20
        have s := s20
        obtain ⟨⟨tv, tk, tvv⟩, g1, g2, g3⟩ := id s; have tk1 := tk.1
        refine BX1_canBegin_23 (by first | assumption | exact up_at _ _ _ | (rw [up_ne (by omega)]; first | assumption | exact up_at _ _ _ | (rw [up_ne (by omega)]; first | assumption | exact up_at _ _ _ | (rw [up_ne (by omega)]; assumption)))) (by rfl) ?_ ?_
        · intro hc49
          refine BX1_canBegin_88  ?_
          first
          | (exfalso; omega)
          | (rw [if_pos (by omega)] at kf; exact kf _ r20 s20 (by omega))
          | (rw [if_neg (by omega), if_pos (by simp_all)] at kf; exact kf _ r55 s55 (by omega))
          | (rw [if_neg (by omega), if_neg (by simp_all <;> omega), if_pos (by omega)] at kf; exact kf _ r74 s74 (by omega))
        · intro hc50
          refine BX1_canBegin_84  ?_
          first
          | (exfalso; omega)
          | (rw [if_neg (by omega), if_neg (by simp_all <;> omega), if_neg (by omega)] at kt
             exact kt f0 rfl (by omega) (by omega) (by simp_all) (by simp_all) (by omega))
  · skip
    refine BX1_canBegin_0 (by first | assumption | exact up_at _ _ _ | (rw [up_ne (by omega)]; first | assumption | exact up_at _ _ _ | (rw [up_ne (by omega)]; first | assumption | exact up_at _ _ _ | (rw [up_ne (by omega)]; assumption)))) (by rfl) ?_ ?_
    · intro hc1
      refine BX1_canBegin_17 (by first | assumption | exact up_at _ _ _ | (rw [up_ne (by omega)]; first | assumption | exact up_at _ _ _ | (rw [up_ne (by omega)]; first | assumption | exact up_at _ _ _ | (rw [up_ne (by omega)]; assumption)))) ?_
      refine R_X1_refuse (by first | omega | assumption | (simp only [Ls_len]; omega) | exact Ls_get (by omega) (by omega) | rfl | decide) ?_
      intro h20 r20 s20
      have s := s20
      obtain ⟨⟨tv, tk, tvv⟩, g1, g2, g3⟩ := id s; have tk1 := tk.1
      refine BX1_canBegin_23 (by first | assumption | exact up_at _ _ _ | (rw [up_ne (by omega)]; first | assumption | exact up_at _ _ _ | (rw [up_ne (by omega)]; first | assumption | exact up_at _ _ _ | (rw [up_ne (by omega)]; assumption)))) (by rfl) ?_ ?_
      · intro hc2
        refine BX1_canBegin_88  ?_
        first
        | (exfalso; omega)
        | (rw [if_pos (by omega)] at kf; exact kf _ r20 s20 (by omega))
        | (rw [if_neg (by omega), if_pos (by simp_all)] at kf; exact kf _ r55 s55 (by omega))
        | (rw [if_neg (by omega), if_neg (by simp_all <;> omega), if_pos (by omega)] at kf; exact kf _ r74 s74 (by omega))
      · intro hc3
        refine BX1_canBegin_84  ?_
        first
        | (exfalso; omega)
        | (rw [if_neg (by omega), if_neg (by simp_all <;> omega), if_neg (by omega)] at kt
           exact kt f0 rfl (by omega) (by omega) (by simp_all) (by simp_all) (by omega))
    · intro hc4
      refine BX1_canBegin_11  ?_ ?_
      · intro hc5
        refine BX1_canBegin_26  ?_ ?_
        · intro hc6
          refine BX1_canBegin_39  ?_ ?_
          · intro hc7
            refine BX1_canBegin_61 (by first | assumption | exact up_at _ _ _ | (rw [up_ne (by omega)]; first | assumption | exact up_at _ _ _ | (rw [up_ne (by omega)]; first | assumption | exact up_at _ _ _ | (rw [up_ne (by omega)]; assumption)))) (by rfl) ?_ ?_
            · intro hc8
              refine BX1_canBegin_77 (by first | assumption | exact up_at _ _ _ | (rw [up_ne (by omega)]; first | assumption | exact up_at _ _ _ | (rw [up_ne (by omega)]; first | assumption | exact up_at _ _ _ | (rw [up_ne (by omega)]; assumption)))) (by rfl) ?_ ?_
              · intro hc9
                refine BX1_canBegin_88  ?_
                first
                | (exfalso; omega)
                | (rw [if_pos (by omega)] at kf; exact kf _ r20 s20 (by omega))
                | (rw [if_neg (by omega), if_pos (by simp_all)] at kf; exact kf _ r55 s55 (by omega))
                | (rw [if_neg (by omega), if_neg (by simp_all <;> omega), if_pos (by omega)] at kf; exact kf _ r74 s74 (by omega))
              · intro hc10
                refine BX1_canBegin_84  ?_
                first
                | (exfalso; omega)
                | (rw [if_neg (by omega), if_neg (by simp_all <;> omega), if_neg (by omega)] at kt
                   exact kt f0 rfl (by omega) (by omega) (by simp_all) (by simp_all) (by omega))
            · intro hc11
              refine BX1_canBegin_70 (by first | assumption | exact up_at _ _ _ | (rw [up_ne (by omega)]; first | assumption | exact up_at _ _ _ | (rw [up_ne (by omega)]; first | assumption | exact up_at _ _ _ | (rw [up_ne (by omega)]; assumption)))) ?_
              refine R_X1_refuse (by first | omega | assumption | (simp only [Ls_len]; omega) | exact Ls_get (by omega) (by omega) | rfl | decide) ?_
              intro h74 r74 s74
              have s := s74
              obtain ⟨⟨tv, tk, tvv⟩, g1, g2, g3⟩ := id s; have tk1 := tk.1
              refine BX1_canBegin_77 (by first | assumption | exact up_at _ _ _ | (rw [up_ne (by omega)]; first | assumption | exact up_at _ _ _ | (rw [up_ne (by omega)]; first | assumption | exact up_at _ _ _ | (rw [up_ne (by omega)]; assumption)))) (by rfl) ?_ ?_
              · intro hc12
                refine BX1_canBegin_88  ?_
                first
                | (exfalso; omega)
                | (rw [if_pos (by omega)] at kf; exact kf _ r20 s20 (by omega))
                | (rw [if_neg (by omega), if_pos (by simp_all)] at kf; exact kf _ r55 s55 (by omega))
                | (rw [if_neg (by omega), if_neg (by simp_all <;> omega), if_pos (by omega)] at kf; exact kf _ r74 s74 (by omega))
              · intro hc13
                refine BX1_canBegin_84  ?_
                first
                | (exfalso; omega)
                | (rw [if_neg (by omega), if_neg (by simp_all <;> omega), if_neg (by omega)] at kt
                   exact kt f0 rfl (by omega) (by omega) (by simp_all) (by simp_all) (by omega))
          · intro hc14
            refine BX1_canBegin_45 (by first | assumption | exact up_at _ _ _ | (rw [up_ne (by omega)]; first | assumption | exact up_at _ _ _ | (rw [up_ne (by omega)]; first | assumption | exact up_at _ _ _ | (rw [up_ne (by omega)]; assumption)))) (by rfl) ?_ ?_
            · intro hc15
              cases hc15
              all_goals
              (
                refine BX1_canBegin_61 (by first | assumption | exact up_at _ _ _ | (rw [up_ne (by omega)]; first | assumption | exact up_at _ _ _ | (rw [up_ne (by omega)]; first | assumption | exact up_at _ _ _ | (rw [up_ne (by omega)]; assumption)))) (by rfl) ?_ ?_
                · intro hc16
                  refine BX1_canBegin_77 (by first | assumption | exact up_at _ _ _ | (rw [up_ne (by omega)]; first | assumption | exact up_at _ _ _ | (rw [up_ne (by omega)]; first | assumption | exact up_at _ _ _ | (rw [up_ne (by omega)]; assumption)))) (by rfl) ?_ ?_
                  · intro hc17
                    refine BX1_canBegin_88  ?_
                    first
                    | (exfalso; omega)
                    | (rw [if_pos (by omega)] at kf; exact kf _ r20 s20 (by omega))
                    | (rw [if_neg (by omega), if_pos (by simp_all)] at kf; exact kf _ r55 s55 (by omega))
                    | (rw [if_neg (by omega), if_neg (by simp_all <;> omega), if_pos (by omega)] at kf; exact kf _ r74 s74 (by omega))
                  · intro hc18
                    refine BX1_canBegin_84  ?_
                    first
                    | (exfalso; omega)
                    | (rw [if_neg (by omega), if_neg (by simp_all <;> omega), if_neg (by omega)] at kt
                       exact kt f0 rfl (by omega) (by omega) (by simp_all) (by simp_all) (by omega))
                · intro hc19
                  refine BX1_canBegin_70 (by first | assumption | exact up_at _ _ _ | (rw [up_ne (by omega)]; first | assumption | exact up_at _ _ _ | (rw [up_ne (by omega)]; first | assumption | exact up_at _ _ _ | (rw [up_ne (by omega)]; assumption)))) ?_
                  refine R_X1_refuse (by first | omega | assumption | (simp only [Ls_len]; omega) | exact Ls_get (by omega) (by omega) | rfl | decide) ?_
                  intro h74 r74 s74
                  have s := s74
                  obtain ⟨⟨tv, tk, tvv⟩, g1, g2, g3⟩ := id s; have tk1 := tk.1
                  refine BX1_canBegin_77 (by first | assumption | exact up_at _ _ _ | (rw [up_ne (by omega)]; first | assumption | exact up_at _ _ _ | (rw [up_ne (by omega)]; first | assumption | exact up_at _ _ _ | (rw [up_ne (by omega)]; assumption)))) (by rfl) ?_ ?_
                  · intro hc20
                    refine BX1_canBegin_88  ?_
                    first
                    | (exfalso; omega)
                    | (rw [if_pos (by omega)] at kf; exact kf _ r20 s20 (by omega))
                    | (rw [if_neg (by omega), if_pos (by simp_all)] at kf; exact kf _ r55 s55 (by omega))
                    | (rw [if_neg (by omega), if_neg (by simp_all <;> omega), if_pos (by omega)] at kf; exact kf _ r74 s74 (by omega))
                  · intro hc21
                    refine BX1_canBegin_84  ?_
                    first
                    | (exfalso; omega)
                    | (rw [if_neg (by omega), if_neg (by simp_all <;> omega), if_neg (by omega)] at kt
                       exact kt f0 rfl (by omega) (by omega) (by simp_all) (by simp_all) (by omega))
              )
            · intro ahc22 hc22
              cases hc22
              all_goals
              (
                refine BX1_canBegin_52 (by first | assumption | exact up_at _ _ _ | (rw [up_ne (by omega)]; first | assumption | exact up_at _ _ _ | (rw [up_ne (by omega)]; first | assumption | exact up_at _ _ _ | (rw [up_ne (by omega)]; assumption)))) ?_
                refine R_X1_refuse (by first | omega | assumption | (simp only [Ls_len]; omega) | exact Ls_get (by omega) (by omega) | rfl | decide) ?_
                intro h55 r55 s55
                have s := s55
                obtain ⟨⟨tv, tk, tvv⟩, g1, g2, g3⟩ := id s; have tk1 := tk.1
                refine BX1_canBegin_58 (by first | assumption | exact up_at _ _ _ | (rw [up_ne (by omega)]; first | assumption | exact up_at _ _ _ | (rw [up_ne (by omega)]; first | assumption | exact up_at _ _ _ | (rw [up_ne (by omega)]; assumption)))) (by rfl) ?_ ?_
                · intro hc23
                  refine BX1_canBegin_88  ?_
                  first
                  | (exfalso; omega)
                  | (rw [if_pos (by omega)] at kf; exact kf _ r20 s20 (by omega))
                  | (rw [if_neg (by omega), if_pos (by simp_all)] at kf; exact kf _ r55 s55 (by omega))
                  | (rw [if_neg (by omega), if_neg (by simp_all <;> omega), if_pos (by omega)] at kf; exact kf _ r74 s74 (by omega))
                · intro hc24
                  refine BX1_canBegin_84  ?_
                  first
                  | (exfalso; omega)
                  | (rw [if_neg (by omega), if_neg (by simp_all <;> omega), if_neg (by omega)] at kt
                     exact kt f0 rfl (by omega) (by omega) (by simp_all) (by simp_all) (by omega))
              )
        · intro hc25
          refine BX1_canBegin_32 (by first | assumption | exact up_at _ _ _ | (rw [up_ne (by omega)]; first | assumption | exact up_at _ _ _ | (rw [up_ne (by omega)]; first | assumption | exact up_at _ _ _ | (rw [up_ne (by omega)]; assumption)))) (by rfl) ?_ ?_
          · intro ahc26 hc26
            cases hc26
            all_goals
            (
              refine BX1_canBegin_52 (by first | assumption | exact up_at _ _ _ | (rw [up_ne (by omega)]; first | assumption | exact up_at _ _ _ | (rw [up_ne (by omega)]; first | assumption | exact up_at _ _ _ | (rw [up_ne (by omega)]; assumption)))) ?_
              refine R_X1_refuse (by first | omega | assumption | (simp only [Ls_len]; omega) | exact Ls_get (by omega) (by omega) | rfl | decide) ?_
              intro h55 r55 s55
              have s := s55
              obtain ⟨⟨tv, tk, tvv⟩, g1, g2, g3⟩ := id s; have tk1 := tk.1
              refine BX1_canBegin_58 (by first | assumption | exact up_at _ _ _ | (rw [up_ne (by omega)]; first | assumption | exact up_at _ _ _ | (rw [up_ne (by omega)]; first | assumption | exact up_at _ _ _ | (rw [up_ne (by omega)]; assumption)))) (by rfl) ?_ ?_
              · intro hc27
                refine BX1_canBegin_88  ?_
                first
                | (exfalso; omega)
                | (rw [if_pos (by omega)] at kf; exact kf _ r20 s20 (by omega))
                | (rw [if_neg (by omega), if_pos (by simp_all)] at kf; exact kf _ r55 s55 (by omega))
                | (rw [if_neg (by omega), if_neg (by simp_all <;> omega), if_pos (by omega)] at kf; exact kf _ r74 s74 (by omega))
              · intro hc28
                refine BX1_canBegin_84  ?_
                first
                | (exfalso; omega)
                | (rw [if_neg (by omega), if_neg (by simp_all <;> omega), if_neg (by omega)] at kt
                   exact kt f0 rfl (by omega) (by omega) (by simp_all) (by simp_all) (by omega))
            )
          · intro hc29
            cases hc29
            all_goals
            (
              refine BX1_canBegin_39  ?_ ?_
              · intro hc30
                refine BX1_canBegin_61 (by first | assumption | exact up_at _ _ _ | (rw [up_ne (by omega)]; first | assumption | exact up_at _ _ _ | (rw [up_ne (by omega)]; first | assumption | exact up_at _ _ _ | (rw [up_ne (by omega)]; assumption)))) (by rfl) ?_ ?_
                · intro hc31
                  refine BX1_canBegin_77 (by first | assumption | exact up_at _ _ _ | (rw [up_ne (by omega)]; first | assumption | exact up_at _ _ _ | (rw [up_ne (by omega)]; first | assumption | exact up_at _ _ _ | (rw [up_ne (by omega)]; assumption)))) (by rfl) ?_ ?_
                  · intro hc32
                    refine BX1_canBegin_88  ?_
                    first
                    | (exfalso; omega)
                    | (rw [if_pos (by omega)] at kf; exact kf _ r20 s20 (by omega))
                    | (rw [if_neg (by omega), if_pos (by simp_all)] at kf; exact kf _ r55 s55 (by omega))
                    | (rw [if_neg (by omega), if_neg (by simp_all <;> omega), if_pos (by omega)] at kf; exact kf _ r74 s74 (by omega))
                  · intro hc33
                    refine BX1_canBegin_84  ?_
                    first
                    | (exfalso; omega)
                    | (rw [if_neg (by omega), if_neg (by simp_all <;> omega), if_neg (by omega)] at kt
                       exact kt f0 rfl (by omega) (by omega) (by simp_all) (by simp_all) (by omega))
                · intro hc34
                  refine BX1_canBegin_70 (by first | assumption | exact up_at _ _ _ | (rw [up_ne (by omega)]; first | assumption | exact up_at _ _ _ | (rw [up_ne (by omega)]; first | assumption | exact up_at _ _ _ | (rw [up_ne (by omega)]; assumption)))) ?_
                  refine R_X1_refuse (by first | omega | assumption | (simp only [Ls_len]; omega) | exact Ls_get (by omega) (by omega) | rfl | decide) ?_
                  intro h74 r74 s74
                  have s := s74
                  obtain ⟨⟨tv, tk, tvv⟩, g1, g2, g3⟩ := id s; have tk1 := tk.1
                  refine BX1_canBegin_77 (by first | assumption | exact up_at _ _ _ | (rw [up_ne (by omega)]; first | assumption | exact up_at _ _ _ | (rw [up_ne (by omega)]; first | assumption | exact up_at _ _ _ | (rw [up_ne (by omega)]; assumption)))) (by rfl) ?_ ?_
                  · intro hc35
                    refine BX1_canBegin_88  ?_
                    first
                    | (exfalso; omega)
                    | (rw [if_pos (by omega)] at kf; exact kf _ r20 s20 (by omega))
                    | (rw [if_neg (by omega), if_pos (by simp_all)] at kf; exact kf _ r55 s55 (by omega))
                    | (rw [if_neg (by omega), if_neg (by simp_all <;> omega), if_pos (by omega)] at kf; exact kf _ r74 s74 (by omega))
                  · intro hc36
                    refine BX1_canBegin_84  ?_
                    first
                    | (exfalso; omega)
                    | (rw [if_neg (by omega), if_neg (by simp_all <;> omega), if_neg (by omega)] at kt
                       exact kt f0 rfl (by omega) (by omega) (by simp_all) (by simp_all) (by omega))
              · intro hc37
                refine BX1_canBegin_45 (by first | assumption | exact up_at _ _ _ | (rw [up_ne (by omega)]; first | assumption | exact up_at _ _ _ | (rw [up_ne (by omega)]; first | assumption | exact up_at _ _ _ | (rw [up_ne (by omega)]; assumption)))) (by rfl) ?_ ?_
                · intro hc38
                  cases hc38
                  all_goals
                  (
                    refine BX1_canBegin_61 (by first | assumption | exact up_at _ _ _ | (rw [up_ne (by omega)]; first | assumption | exact up_at _ _ _ | (rw [up_ne (by omega)]; first | assumption | exact up_at _ _ _ | (rw [up_ne (by omega)]; assumption)))) (by rfl) ?_ ?_
                    · intro hc39
                      refine BX1_canBegin_77 (by first | assumption | exact up_at _ _ _ | (rw [up_ne (by omega)]; first | assumption | exact up_at _ _ _ | (rw [up_ne (by omega)]; first | assumption | exact up_at _ _ _ | (rw [up_ne (by omega)]; assumption)))) (by rfl) ?_ ?_
                      · intro hc40
                        refine BX1_canBegin_88  ?_
                        first
                        | (exfalso; omega)
                        | (rw [if_pos (by omega)] at kf; exact kf _ r20 s20 (by omega))
                        | (rw [if_neg (by omega), if_pos (by simp_all)] at kf; exact kf _ r55 s55 (by omega))
                        | (rw [if_neg (by omega), if_neg (by simp_all <;> omega), if_pos (by omega)] at kf; exact kf _ r74 s74 (by omega))
                      · intro hc41
                        refine BX1_canBegin_84  ?_
                        first
                        | (exfalso; omega)
                        | (rw [if_neg (by omega), if_neg (by simp_all <;> omega), if_neg (by omega)] at kt
                           exact kt f0 rfl (by omega) (by omega) (by simp_all) (by simp_all) (by omega))
                    · intro hc42
                      refine BX1_canBegin_70 (by first | assumption | exact up_at _ _ _ | (rw [up_ne (by omega)]; first | assumption | exact up_at _ _ _ | (rw [up_ne (by omega)]; first | assumption | exact up_at _ _ _ | (rw [up_ne (by omega)]; assumption)))) ?_
                      refine R_X1_refuse (by first | omega | assumption | (simp only [Ls_len]; omega) | exact Ls_get (by omega) (by omega) | rfl | decide) ?_
                      intro h74 r74 s74
                      have s := s74
                      obtain ⟨⟨tv, tk, tvv⟩, g1, g2, g3⟩ := id s; have tk1 := tk.1
                      refine BX1_canBegin_77 (by first | assumption | exact up_at _ _ _ | (rw [up_ne (by omega)]; first | assumption | exact up_at _ _ _ | (rw [up_ne (by omega)]; first | assumption | exact up_at _ _ _ | (rw [up_ne (by omega)]; assumption)))) (by rfl) ?_ ?_
                      · intro hc43
                        refine BX1_canBegin_88  ?_
                        first
                        | (exfalso; omega)
                        | (rw [if_pos (by omega)] at kf; exact kf _ r20 s20 (by omega))
                        | (rw [if_neg (by omega), if_pos (by simp_all)] at kf; exact kf _ r55 s55 (by omega))
                        | (rw [if_neg (by omega), if_neg (by simp_all <;> omega), if_pos (by omega)] at kf; exact kf _ r74 s74 (by omega))
                      · intro hc44
                        refine BX1_canBegin_84  ?_
                        first
                        | (exfalso; omega)
                        | (rw [if_neg (by omega), if_neg (by simp_all <;> omega), if_neg (by omega)] at kt
                           exact kt f0 rfl (by omega) (by omega) (by simp_all) (by simp_all) (by omega))
                  )
                · intro ahc45 hc45
                  cases hc45
                  all_goals
                  (
                    refine BX1_canBegin_52 (by first | assumption | exact up_at _ _ _ | (rw [up_ne (by omega)]; first | assumption | exact up_at _ _ _ | (rw [up_ne (by omega)]; first | assumption | exact up_at _ _ _ | (rw [up_ne (by omega)]; assumption)))) ?_
                    refine R_X1_refuse (by first | omega | assumption | (simp only [Ls_len]; omega) | exact Ls_get (by omega) (by omega) | rfl | decide) ?_
                    intro h55 r55 s55
                    have s := s55
                    obtain ⟨⟨tv, tk, tvv⟩, g1, g2, g3⟩ := id s; have tk1 := tk.1
                    refine BX1_canBegin_58 (by first | assumption | exact up_at _ _ _ | (rw [up_ne (by omega)]; first | assumption | exact up_at _ _ _ | (rw [up_ne (by omega)]; first | assumption | exact up_at _ _ _ | (rw [up_ne (by omega)]; assumption)))) (by rfl) ?_ ?_
                    · intro hc46
                      refine BX1_canBegin_88  ?_
                      first
                      | (exfalso; omega)
                      | (rw [if_pos (by omega)] at kf; exact kf _ r20 s20 (by omega))
                      | (rw [if_neg (by omega), if_pos (by simp_all)] at kf; exact kf _ r55 s55 (by omega))
                      | (rw [if_neg (by omega), if_neg (by simp_all <;> omega), if_pos (by omega)] at kf; exact kf _ r74 s74 (by omega))
                    · intro hc47
                      refine BX1_canBegin_84  ?_
                      first
                      | (exfalso; omega)
                      | (rw [if_neg (by omega), if_neg (by simp_all <;> omega), if_neg (by omega)] at kt
                         exact kt f0 rfl (by omega) (by omega) (by simp_all) (by simp_all) (by omega))
                  )
            )
      · intro hc48
        refine BX1_canBegin_17 (by first | assumption | exact up_at _ _ _ | (rw [up_ne (by omega)]; first | assumption | exact up_at _ _ _ | (rw [up_ne (by omega)]; first | assumption | exact up_at _ _ _ | (rw [up_ne (by omega)]; assumption)))) ?_
        refine R_X1_refuse (by first | omega | assumption | (simp only [Ls_len]; omega) | exact Ls_get (by omega) (by omega) | rfl | decide) ?_
        intro h20 r20 s20
        have s := s20
        obtain ⟨⟨tv, tk, tvv⟩, g1, g2, g3⟩ := id s; have tk1 := tk.1
        refine BX1_canBegin_23 (by first | assumption | exact up_at _ _ _ | (rw [up_ne (by omega)]; first | assumption | exact up_at _ _ _ | (rw [up_ne (by omega)]; first | assumption | exact up_at _ _ _ | (rw [up_ne (by omega)]; assumption)))) (by rfl) ?_ ?_
        · intro hc49
          refine BX1_canBegin_88  ?_
          first
          | (exfalso; omega)
          | (rw [if_pos (by omega)] at kf; exact kf _ r20 s20 (by omega))
          | (rw [if_neg (by omega), if_pos (by simp_all)] at kf; exact kf _ r55 s55 (by omega))
          | (rw [if_neg (by omega), if_neg (by simp_all <;> omega), if_pos (by omega)] at kf; exact kf _ r74 s74 (by omega))
        · intro hc50
          refine BX1_canBegin_84  ?_
          first
          | (exfalso; omega)
          | (rw [if_neg (by omega), if_neg (by simp_all <;> omega), if_neg (by omega)] at kt
             exact kt f0 rfl (by omega) (by omega) (by simp_all) (by simp_all) (by omega))
  · skip
    refine BX1_canBegin_0 (by first | assumption | exact up_at _ _ _ | (rw [up_ne (by omega)]; first | assumption | exact up_at _ _ _ | (rw [up_ne (by omega)]; first | assumption | exact up_at _ _ _ | (rw [up_ne (by omega)]; assumption)))) (by rfl) ?_ ?_
    · intro hc1
      refine BX1_canBegin_17 (by first | assumption | exact up_at _ _ _ | (rw [up_ne (by omega)]; first | assumption | exact up_at _ _ _ | (rw [up_ne (by omega)]; first | assumption | exact up_at _ _ _ | (rw [up_ne (by omega)]; assumption)))) ?_
      refine R_X1_refuse (by first | omega | assumption | (simp only [Ls_len]; omega) | exact Ls_get (by omega) (by omega) | rfl | decide) ?_
      intro h20 r20 s20
      have s := s20
      obtain ⟨⟨tv, tk, tvv⟩, g1, g2, g3⟩ := id s; have tk1 := tk.1
      refine BX1_canBegin_23 (by first | assumption | exact up_at _ _ _ | (rw [up_ne (by omega)]; first | assumption | exact up_at _ _ _ | (rw [up_ne (by omega)]; first | assumption | exact up_at _ _ _ | (rw [up_ne (by omega)]; assumption)))) (by rfl) ?_ ?_
      · intro hc2
        refine BX1_canBegin_88  ?_
        first
        | (exfalso; omega)
        | (rw [if_pos (by omega)] at kf; exact kf _ r20 s20 (by omega))
        | (rw [if_neg (by omega), if_pos (by simp_all)] at kf; exact kf _ r55 s55 (by omega))
        | (rw [if_neg (by omega), if_neg (by simp_all <;> omega), if_pos (by omega)] at kf; exact kf _ r74 s74 (by omega))
      · intro hc3
        refine BX1_canBegin_84  ?_
        first
        | (exfalso; omega)
        | (rw [if_neg (by omega), if_neg (by simp_all <;> omega), if_neg (by omega)] at kt
           exact kt f0 rfl (by omega) (by omega) (by simp_all) (by simp_all) (by omega))
    · intro hc4
      refine BX1_canBegin_11  ?_ ?_
      · intro hc5
        refine BX1_canBegin_26  ?_ ?_
        · intro hc6
          refine BX1_canBegin_39  ?_ ?_
          · intro hc7
            refine BX1_canBegin_61 (by first | assumption | exact up_at _ _ _ | (rw [up_ne (by omega)]; first | assumption | exact up_at _ _ _ | (rw [up_ne (by omega)]; first | assumption | exact up_at _ _ _ | (rw [up_ne (by omega)]; assumption)))) (by rfl) ?_ ?_
            · intro hc8
              refine BX1_canBegin_77 (by first | assumption | exact up_at _ _ _ | (rw [up_ne (by omega)]; first | assumption | exact up_at _ _ _ | (rw [up_ne (by omega)]; first | assumption | exact up_at _ _ _ | (rw [up_ne (by omega)]; assumption)))) (by rfl) ?_ ?_
              · intro hc9
                refine BX1_canBegin_88  ?_
                first
                | (exfalso; omega)
                | (rw [if_pos (by omega)] at kf; exact kf _ r20 s20 (by omega))
                | (rw [if_neg (by omega), if_pos (by simp_all)] at kf; exact kf _ r55 s55 (by omega))
                | (rw [if_neg (by omega), if_neg (by simp_all <;> omega), if_pos (by omega)] at kf; exact kf _ r74 s74 (by omega))
              · intro hc10
                refine BX1_canBegin_84  ?_
                first
                | (exfalso; omega)
                | (rw [if_neg (by omega), if_neg (by simp_all <;> omega), if_neg (by omega)] at kt
                   exact kt f0 rfl (by omega) (by omega) (by simp_all) (by simp_all) (by omega))
            · intro hc11
              refine BX1_canBegin_70 (by first | assumption | exact up_at _ _ _ | (rw [up_ne (by omega)]; first | assumption | exact up_at _ _ _ | (rw [up_ne (by omega)]; first | assumption | exact up_at _ _ _ | (rw [up_ne (by omega)]; assumption)))) ?_
              refine R_X1_refuse (by first | omega | assumption | (simp only [Ls_len]; omega) | exact Ls_get (by omega) (by omega) | rfl | decide) ?_
              intro h74 r74 s74
              have s := s74
              obtain ⟨⟨tv, tk, tvv⟩, g1, g2, g3⟩ := id s; have tk1 := tk.1
              refine BX1_canBegin_77 (by first | assumption | exact up_at _ _ _ | (rw [up_ne (by omega)]; first | assumption | exact up_at _ _ _ | (rw [up_ne (by omega)]; first | assumption | exact up_at _ _ _ | (rw [up_ne (by omega)]; assumption)))) (by rfl) ?_ ?_
              · intro hc12
                refine BX1_canBegin_88  ?_
                first
                | (exfalso; omega)
                | (rw [if_pos (by omega)] at kf; exact kf _ r20 s20 (by omega))
                | (rw [if_neg (by omega), if_pos (by simp_all)] at kf; exact kf _ r55 s55 (by omega))
                | (rw [if_neg (by omega), if_neg (by simp_all <;> omega), if_pos (by omega)] at kf; exact kf _ r74 s74 (by omega))
              · intro hc13
                refine BX1_canBegin_84  ?_
                first
                | (exfalso; omega)
                | (rw [if_neg (by omega), if_neg (by simp_all <;> omega), if_neg (by omega)] at kt
                   exact kt f0 rfl (by omega) (by omega) (by simp_all) (by simp_all) (by omega))
          · intro hc14
            refine BX1_canBegin_45 (by first | assumption | exact up_at _ _ _ | (rw [up_ne (by omega)]; first | assumption | exact up_at _ _ _ | (rw [up_ne (by omega)]; first | assumption | exact up_at _ _ _ | (rw [up_ne (by omega)]; assumption)))) (by rfl) ?_ ?_
            · intro hc15
              cases hc15
              all_goals
              (
                refine BX1_canBegin_61 (by first | assumption | exact up_at _ _ _ | (rw [up_ne (by omega)]; first | assumption | exact up_at _ _ _ | (rw [up_ne (by omega)]; first | assumption | exact up_at _ _ _ | (rw [up_ne (by omega)]; assumption)))) (by rfl) ?_ ?_
                · intro hc16
                  refine BX1_canBegin_77 (by first | assumption | exact up_at _ _ _ | (rw [up_ne (by omega)]; first | assumption | exact up_at _ _ _ | (rw [up_ne (by omega)]; first | assumption | exact up_at _ _ _ | (rw [up_ne (by omega)]; assumption)))) (by rfl) ?_ ?_
                  · intro hc17
                    refine BX1_canBegin_88  ?_
                    first
                    | (exfalso; omega)
                    | (rw [if_pos (by omega)] at kf; exact kf _ r20 s20 (by omega))
                    | (rw [if_neg (by omega), if_pos (by simp_all)] at kf; exact kf _ r55 s55 (by omega))
                    | (rw [if_neg (by omega), if_neg (by simp_all <;> omega), if_pos (by omega)] at kf; exact kf _ r74 s74 (by omega))
                  · intro hc18
                    refine BX1_canBegin_84  ?_
                    first
                    | (exfalso; omega)
                    | (rw [if_neg (by omega), if_neg (by simp_all <;> omega), if_neg (by omega)] at kt
                       exact kt f0 rfl (by omega) (by omega) (by simp_all) (by simp_all) (by omega))
                · intro hc19
                  refine BX1_canBegin_70 (by first | assumption | exact up_at _ _ _ | (rw [up_ne (by omega)]; first | assumption | exact up_at _ _ _ | (rw [up_ne (by omega)]; first | assumption | exact up_at _ _ _ | (rw [up_ne (by omega)]; assumption)))) ?_
                  refine R_X1_refuse (by first | omega | assumption | (simp only [Ls_len]; omega) | exact Ls_get (by omega) (by omega) | rfl | decide) ?_
                  intro h74 r74 s74
                  have s := s74
                  obtain ⟨⟨tv, tk, tvv⟩, g1, g2, g3⟩ := id s; have tk1 := tk.1
                  refine BX1_canBegin_77 (by first | assumption | exact up_at _ _ _ | (rw [up_ne (by omega)]; first | assumption | exact up_at _ _ _ | (rw [up_ne (by omega)]; first | assumption | exact up_at _ _ _ | (rw [up_ne (by omega)]; assumption)))) (by rfl) ?_ ?_
                  · intro hc20
                    refine BX1_canBegin_88  ?_
                    first
                    | (exfalso; omega)
                    | (rw [if_pos (by omega)] at kf; exact kf _ r20 s20 (by omega))
                    | (rw [if_neg (by omega), if_pos (by simp_all)] at kf; exact kf _ r55 s55 (by omega))
                    | (rw [if_neg (by omega), if_neg (by simp_all <;> omega), if_pos (by omega)] at kf; exact kf _ r74 s74 (by omega))
                  · intro hc21
                    refine BX1_canBegin_84  ?_
                    first
                    | (exfalso; omega)
                    | (rw [if_neg (by omega), if_neg (by simp_all <;> omega), if_neg (by omega)] at kt
                       exact kt f0 rfl (by omega) (by omega) (by simp_all) (by simp_all) (by omega))
              )
            · intro ahc22 hc22
              cases hc22
              all_goals
              (
                refine BX1_canBegin_52 (by first | assumption | exact up_at _ _ _ | (rw [up_ne (by omega)]; first | assumption | exact up_at _ _ _ | (rw [up_ne (by omega)]; first | assumption | exact up_at _ _ _ | (rw [up_ne (by omega)]; assumption)))) ?_
                refine R_X1_refuse (by first | omega | assumption | (simp only [Ls_len]; omega) | exact Ls_get (by omega) (by omega) | rfl | decide) ?_
                intro h55 r55 s55
                have s := s55
                obtain ⟨⟨tv, tk, tvv⟩, g1, g2, g3⟩ := id s; have tk1 := tk.1
                refine BX1_canBegin_58 (by first | assumption | exact up_at _ _ _ | (rw [up_ne (by omega)]; first | assumption | exact up_at _ _ _ | (rw [up_ne (by omega)]; first | assumption | exact up_at _ _ _ | (rw [up_ne (by omega)]; assumption)))) (by rfl) ?_ ?_
                · intro hc23
                  refine BX1_canBegin_88  ?_
                  first
                  | (exfalso; omega)
                  | (rw [if_pos (by omega)] at kf; exact kf _ r20 s20 (by omega))
                  | (rw [if_neg (by omega), if_pos (by simp_all)] at kf; exact kf _ r55 s55 (by omega))
                  | (rw [if_neg (by omega), if_neg (by simp_all <;> omega), if_pos (by omega)] at kf; exact kf _ r74 s74 (by omega))
                · intro hc24
                  refine BX1_canBegin_84  ?_
                  first
                  | (exfalso; omega)
                  | (rw [if_neg (by omega), if_neg (by simp_all <;> omega), if_neg (by omega)] at kt
                     exact kt f0 rfl (by omega) (by omega) (by simp_all) (by simp_all) (by omega))
              )
        · intro hc25
          refine BX1_canBegin_32 (by first | assumption | exact up_at _ _ _ | (rw [up_ne (by omega)]; first | assumption | exact up_at _ _ _ | (rw [up_ne (by omega)]; first | assumption | exact up_at _ _ _ | (rw [up_ne (by omega)]; assumption)))) (by rfl) ?_ ?_
          · intro ahc26 hc26
            cases hc26
            all_goals
            (
              refine BX1_canBegin_52 (by first | assumption | exact up_at _ _ _ | (rw [up_ne (by omega)]; first | assumption | exact up_at _ _ _ | (rw [up_ne (by omega)]; first | assumption | exact up_at _ _ _ | (rw [up_ne (by omega)]; assumption)))) ?_
              refine R_X1_refuse (by first | omega | assumption | (simp only [Ls_len]; omega) | exact Ls_get (by omega) (by omega) | rfl | decide) ?_
              intro h55 r55 s55
              have s := s55
              obtain ⟨⟨tv, tk, tvv⟩, g1, g2, g3⟩ := id s; have tk1 := tk.1
              refine BX1_canBegin_58 (by first | assumption | exact up_at _ _ _ | (rw [up_ne (by omega)]; first | assumption | exact up_at _ _ _ | (rw [up_ne (by omega)]; first | assumption | exact up_at _ _ _ | (rw [up_ne (by omega)]; assumption)))) (by rfl) ?_ ?_
              · intro hc27
                refine BX1_canBegin_88  ?_
                first
                | (exfalso; omega)
                | (rw [if_pos (by omega)] at kf; exact kf _ r20 s20 (by omega))
                | (rw [if_neg (by omega), if_pos (by simp_all)] at kf; exact kf _ r55 s55 (by omega))
                | (rw [if_neg (by omega), if_neg (by simp_all <;> omega), if_pos (by omega)] at kf; exact kf _ r74 s74 (by omega))
              · intro hc28
                refine BX1_canBegin_84  ?_
                first
                | (exfalso; omega)
                | (rw [if_neg (by omega), if_neg (by simp_all <;> omega), if_neg (by omega)] at kt
                   exact kt f0 rfl (by omega) (by omega) (by simp_all) (by simp_all) (by omega))
            )
          · intro hc29
            cases hc29
            all_goals
            (
              refine BX1_canBegin_39  ?_ ?_
              · intro hc30
                refine BX1_canBegin_61 (by first | assumption | exact up_at _ _ _ | (rw [up_ne (by omega)]; first | assumption | exact up_at _ _ _ | (rw [up_ne (by omega)]; first | assumption | exact up_at _ _ _ | (rw [up_ne (by omega)]; assumption)))) (by rfl) ?_ ?_
                · intro hc31
                  refine BX1_canBegin_77 (by first | assumption | exact up_at _ _ _ | (rw [up_ne (by omega)]; first | assumption | exact up_at _ _ _ | (rw [up_ne (by omega)]; first | assumption | exact up_at _ _ _ | (rw [up_ne (by omega)]; assumption)))) (by rfl) ?_ ?_
                  · intro hc32
                    refine BX1_canBegin_88  ?_
                    first
                    | (exfalso; omega)
                    | (rw [if_pos (by omega)] at kf; exact kf _ r20 s20 (by omega))
                    | (rw [if_neg (by omega), if_pos (by simp_all)] at kf; exact kf _ r55 s55 (by omega))
                    | (rw [if_neg (by omega), if_neg (by simp_all <;> omega), if_pos (by omega)] at kf; exact kf _ r74 s74 (by omega))
                  · intro hc33
                    refine BX1_canBegin_84  ?_
                    first
                    | (exfalso; omega)
                    | (rw [if_neg (by omega), if_neg (by simp_all <;> omega), if_neg (by omega)] at kt
                       exact kt f0 rfl (by omega) (by omega) (by simp_all) (by simp_all) (by omega))
                · intro hc34
                  refine BX1_canBegin_70 (by first | assumption | exact up_at _ _ _ | (rw [up_ne (by omega)]; first | assumption | exact up_at _ _ _ | (rw [up_ne (by omega)]; first | assumption | exact up_at _ _ _ | (rw [up_ne (by omega)]; assumption)))) ?_
                  refine R_X1_refuse (by first | omega | assumption | (simp only [Ls_len]; omega) | exact Ls_get (by omega) (by omega) | rfl | decide) ?_
                  intro h74 r74 s74
                  have s := s74
                  obtain ⟨⟨tv, tk, tvv⟩, g1, g2, g3⟩ := id s; have tk1 := tk.1
                  refine BX1_canBegin_77 (by first | assumption | exact up_at _ _ _ | (rw [up_ne (by omega)]; first | assumption | exact up_at _ _ _ | (rw [up_ne (by omega)]; first | assumption | exact up_at _ _ _ | (rw [up_ne (by omega)]; assumption)))) (by rfl) ?_ ?_
                  · intro hc35
                    refine BX1_canBegin_88  ?_
                    first
                    | (exfalso; omega)
                    | (rw [if_pos (by omega)] at kf; exact kf _ r20 s20 (by omega))
                    | (rw [if_neg (by omega), if_pos (by simp_all)] at kf; exact kf _ r55 s55 (by omega))
                    | (rw [if_neg (by omega), if_neg (by simp_all <;> omega), if_pos (by omega)] at kf; exact kf _ r74 s74 (by omega))
                  · intro hc36
                    refine BX1_canBegin_84  ?_
                    first
                    | (exfalso; omega)
                    | (rw [if_neg (by omega), if_neg (by simp_all <;> omega), if_neg (by omega)] at kt
                       exact kt f0 rfl (by omega) (by omega) (by simp_all) (by simp_all) (by omega))
              · intro hc37
                refine BX1_canBegin_45 (by first | assumption | exact up_at _ _ _ | (rw [up_ne (by omega)]; first | assumption | exact up_at _ _ _ | (rw [up_ne (by omega)]; first | assumption | exact up_at _ _ _ | (rw [up_ne (by omega)]; assumption)))) (by rfl) ?_ ?_
                · intro hc38
                  cases hc38
                  all_goals
                  (
                    refine BX1_canBegin_61 (by first | assumption | exact up_at _ _ _ | (rw [up_ne (by omega)]; first | assumption | exact up_at _ _ _ | (rw [up_ne (by omega)]; first | assumption | exact up_at _ _ _ | (rw [up_ne (by omega)]; assumption)))) (by rfl) ?_ ?_
                    · intro hc39
                      refine BX1_canBegin_77 (by first | assumption | exact up_at _ _ _ | (rw [up_ne (by omega)]; first | assumption | exact up_at _ _ _ | (rw [up_ne (by omega)]; first | assumption | exact up_at _ _ _ | (rw [up_ne (by omega)]; assumption)))) (by rfl) ?_ ?_
                      · intro hc40
                        refine BX1_canBegin_88  ?_
                        first
                        | (exfalso; omega)
                        | (rw [if_pos (by omega)] at kf; exact kf _ r20 s20 (by omega))
                        | (rw [if_neg (by omega), if_pos (by simp_all)] at kf; exact kf _ r55 s55 (by omega))
                        | (rw [if_neg (by omega), if_neg (by simp_all <;> omega), if_pos (by omega)] at kf; exact kf _ r74 s74 (by omega))
                      · intro hc41
                        refine BX1_canBegin_84  ?_
                        first
                        | (exfalso; omega)
                        | (rw [if_neg (by omega), if_neg (by simp_all <;> omega), if_neg (by omega)] at kt
                           exact kt f0 rfl (by omega) (by omega) (by simp_all) (by simp_all) (by omega))
                    · intro hc42
                      refine BX1_canBegin_70 (by first | assumption | exact up_at _ _ _ | (rw [up_ne (by omega)]; first | assumption | exact up_at _ _ _ | (rw [up_ne (by omega)]; first | assumption | exact up_at _ _ _ | (rw [up_ne (by omega)]; assumption)))) ?_
                      refine R_X1_refuse (by first | omega | assumption | (simp only [Ls_len]; omega) | exact Ls_get (by omega) (by omega) | rfl | decide) ?_
                      intro h74 r74 s74
                      have s := s74
                      obtain ⟨⟨tv, tk, tvv⟩, g1, g2, g3⟩ := id s; have tk1 := tk.1
                      refine BX1_canBegin_77 (by first | assumption | exact up_at _ _ _ | (rw [up_ne (by omega)]; first | assumption | exact up_at _ _ _ | (rw [up_ne (by omega)]; first | assumption | exact up_at _ _ _ | (rw [up_ne (by omega)]; assumption)))) (by rfl) ?_ ?_
                      · intro hc43
                        refine BX1_canBegin_88  ?_
                        first
                        | (exfalso; omega)
                        | (rw [if_pos (by omega)] at kf; exact kf _ r20 s20 (by omega))
                        | (rw [if_neg (by omega), if_pos (by simp_all)] at kf; exact kf _ r55 s55 (by omega))
                        | (rw [if_neg (by omega), if_neg (by simp_all <;> omega), if_pos (by omega)] at kf; exact kf _ r74 s74 (by omega))
                      · intro hc44
                        refine BX1_canBegin_84  ?_
                        first
                        | (exfalso; omega)
                        | (rw [if_neg (by omega), if_neg (by simp_all <;> omega), if_neg (by omega)] at kt
                           exact kt f0 rfl (by omega) (by omega) (by simp_all) (by simp_all) (by omega))
                  )
                · intro ahc45 hc45
                  cases hc45
                  all_goals
                  (
                    refine BX1_canBegin_52 (by first | assumption | exact up_at _ _ _ | (rw [up_ne (by omega)]; first | assumption | exact up_at _ _ _ | (rw [up_ne (by omega)]; first | assumption | exact up_at _ _ _ | (rw [up_ne (by omega)]; assumption)))) ?_
                    refine R_X1_refuse (by first | omega | assumption | (simp only [Ls_len]; omega) | exact Ls_get (by omega) (by omega) | rfl | decide) ?_
                    intro h55 r55 s55
                    have s := s55
                    obtain ⟨⟨tv, tk, tvv⟩, g1, g2, g3⟩ := id s; have tk1 := tk.1
                    refine BX1_canBegin_58 (by first | assumption | exact up_at _ _ _ | (rw [up_ne (by omega)]; first | assumption | exact up_at _ _ _ | (rw [up_ne (by omega)]; first | assumption | exact up_at _ _ _ | (rw [up_ne (by omega)]; assumption)))) (by rfl) ?_ ?_
                    · intro hc46
                      refine BX1_canBegin_88  ?_
                      first
                      | (exfalso; omega)
                      | (rw [if_pos (by omega)] at kf; exact kf _ r20 s20 (by omega))
                      | (rw [if_neg (by omega), if_pos (by simp_all)] at kf; exact kf _ r55 s55 (by omega))
                      | (rw [if_neg (by omega), if_neg (by simp_all <;> omega), if_pos (by omega)] at kf; exact kf _ r74 s74 (by omega))
                    · intro hc47
                      refine BX1_canBegin_84  ?_
                      first
                      | (exfalso; omega)
                      | (rw [if_neg (by omega), if_neg (by simp_all <;> omega), if_neg (by omega)] at kt
                         exact kt f0 rfl (by omega) (by omega) (by simp_all) (by simp_all) (by omega))
                  )
            )
      · intro hc48
        refine BX1_canBegin_17 (by first | assumption | exact up_at _ _ _ | (rw [up_ne (by omega)]; first | assumption | exact up_at _ _ _ | (rw [up_ne (by omega)]; first | assumption | exact up_at _ _ _ | (rw [up_ne (by omega)]; assumption)))) ?_
        refine R_X1_refuse (by first | omega | assumption | (simp only [Ls_len]; omega) | exact Ls_get (by omega) (by omega) | rfl | decide) ?_
        intro h20 r20 s20
        have s := s20
        obtain ⟨⟨tv, tk, tvv⟩, g1, g2, g3⟩ := id s; have tk1 := tk.1
        refine BX1_canBegin_23 (by first | assumption | exact up_at _ _ _ | (rw [up_ne (by omega)]; first | assumption | exact up_at _ _ _ | (rw [up_ne (by omega)]; first | assumption | exact up_at _ _ _ | (rw [up_ne (by omega)]; assumption)))) (by rfl) ?_ ?_
        · intro hc49
          refine BX1_canBegin_88  ?_
          first
          | (exfalso; omega)
          | (rw [if_pos (by omega)] at kf; exact kf _ r20 s20 (by omega))
          | (rw [if_neg (by omega), if_pos (by simp_all)] at kf; exact kf _ r55 s55 (by omega))
          | (rw [if_neg (by omega), if_neg (by simp_all <;> omega), if_pos (by omega)] at kf; exact kf _ r74 s74 (by omega))
        · intro hc50
          refine BX1_canBegin_84  ?_
          first
          | (exfalso; omega)
          | (rw [if_neg (by omega), if_neg (by simp_all <;> omega), if_neg (by omega)] at kt
             exact kt f0 rfl (by omega) (by omega) (by simp_all) (by simp_all) (by omega))
  · skip
    refine BX1_canBegin_0 (by first | assumption | exact up_at _ _ _ | (rw [up_ne (by omega)]; first | assumption | exact up_at _ _ _ | (rw [up_ne (by omega)]; first | assumption | exact up_at _ _ _ | (rw [up_ne (by omega)]; assumption)))) (by rfl) ?_ ?_
    · intro hc1
      refine BX1_canBegin_17 (by first | assumption | exact up_at _ _ _ | (rw [up_ne (by omega)]; first | assumption | exact up_at _ _ _ | (rw [up_ne (by omega)]; first | assumption | exact up_at _ _ _ | (rw [up_ne (by omega)]; assumption)))) ?_
      refine R_X1_refuse (by first | omega | assumption | (simp only [Ls_len]; omega) | exact Ls_get (by omega) (by omega) | rfl | decide) ?_
      intro h20 r20 s20
      have s := s20
      obtain ⟨⟨tv, tk, tvv⟩, g1, g2, g3⟩ := id s; have tk1 := tk.1
      refine BX1_canBegin_23 (by first | assumption | exact up_at _ _ _ | (rw [up_ne (by omega)]; first | assumption | exact up_at _ _ _ | (rw [up_ne (by omega)]; first | assumption | exact up_at _ _ _ | (rw [up_ne (by omega)]; assumption)))) (by rfl) ?_ ?_
      · intro hc2
        refine BX1_canBegin_88  ?_
        first
        | (exfalso; omega)
        | (rw [if_pos (by omega)] at kf; exact kf _ r20 s20 (by omega))
        | (rw [if_neg (by omega), if_pos (by simp_all)] at kf; exact kf _ r55 s55 (by omega))
        | (rw [if_neg (by omega), if_neg (by simp_all <;> omega), if_pos (by omega)] at kf; exact kf _ r74 s74 (by omega))
      · intro hc3
        refine BX1_canBegin_84  ?_
        first
        | (exfalso; omega)
        | (rw [if_neg (by omega), if_neg (by simp_all <;> omega), if_neg (by omega)] at kt
           exact kt f0 rfl (by omega) (by omega) (by simp_all) (by simp_all) (by omega))
    · intro hc4
      refine BX1_canBegin_11  ?_ ?_
      · intro hc5
        refine BX1_canBegin_26  ?_ ?_
        · intro hc6
          refine BX1_canBegin_39  ?_ ?_
          · intro hc7
            refine BX1_canBegin_61 (by first | assumption | exact up_at _ _ _ | (rw [up_ne (by omega)]; first | assumption | exact up_at _ _ _ | (rw [up_ne (by omega)]; first | assumption | exact up_at _ _ _ | (rw [up_ne (by omega)]; assumption)))) (by rfl) ?_ ?_
            · intro hc8
              refine BX1_canBegin_77 (by first | assumption | exact up_at _ _ _ | (rw [up_ne (by omega)]; first | assumption | exact up_at _ _ _ | (rw [up_ne (by omega)]; first | assumption | exact up_at _ _ _ | (rw [up_ne (by omega)]; assumption)))) (by rfl) ?_ ?_
              · intro hc9
                refine BX1_canBegin_88  ?_
                first
                | (exfalso; omega)
                | (rw [if_pos (by omega)] at kf; exact kf _ r20 s20 (by omega))
                | (rw [if_neg (by omega), if_pos (by simp_all)] at kf; exact kf _ r55 s55 (by omega))
                | (rw [if_neg (by omega), if_neg (by simp_all <;> omega), if_pos (by omega)] at kf; exact kf _ r74 s74 (by omega))
              · intro hc10
                refine BX1_canBegin_84  ?_
                first
                | (exfalso; omega)
                | (rw [if_neg (by omega), if_neg (by simp_all <;> omega), if_neg (by omega)] at kt
                   exact kt f0 rfl (by omega) (by omega) (by simp_all) (by simp_all) (by omega))
            · intro hc11
              refine BX1_canBegin_70 (by first | assumption | exact up_at _ _ _ | (rw [up_ne (by omega)]; first | assumption | exact up_at _ _ _ | (rw [up_ne (by omega)]; first | assumption | exact up_at _ _ _ | (rw [up_ne (by omega)]; assumption)))) ?_
              refine R_X1_refuse (by first | omega | assumption | (simp only [Ls_len]; omega) | exact Ls_get (by omega) (by omega) | rfl | decide) ?_
              intro h74 r74 s74
              have s := s74
              obtain ⟨⟨tv, tk, tvv⟩, g1, g2, g3⟩ := id s; have tk1 := tk.1
              refine BX1_canBegin_77 (by first | assumption | exact up_at _ _ _ | (rw [up_ne (by omega)]; first | assumption | exact up_at _ _ _ | (rw [up_ne (by omega)]; first | assumption | exact up_at _ _ _ | (rw [up_ne (by omega)]; assumption)))) (by rfl) ?_ ?_
              · intro hc12
                refine BX1_canBegin_88  ?_
                first
                | (exfalso; omega)
                | (rw [if_pos (by omega)] at kf; exact kf _ r20 s20 (by omega))
                | (rw [if_neg (by omega), if_pos (by simp_all)] at kf; exact kf _ r55 s55 (by omega))
                | (rw [if_neg (by omega), if_neg (by simp_all <;> omega), if_pos (by omega)] at kf; exact kf _ r74 s74 (by omega))
              · intro hc13
                refine BX1_canBegin_84  ?_
                first
                | (exfalso; omega)
                | (rw [if_neg (by omega), if_neg (by simp_all <;> omega), if_neg (by omega)] at kt
                   exact kt f0 rfl (by omega) (by omega) (by simp_all) (by simp_all) (by omega))
          · intro hc14
            refine BX1_canBegin_45 (by first | assumption | exact up_at _ _ _ | (rw [up_ne (by omega)]; first | assumption | exact up_at _ _ _ | (rw [up_ne (by omega)]; first | assumption | exact up_at _ _ _ | (rw [up_ne (by omega)]; assumption)))) (by rfl) ?_ ?_
            · intro hc15
              cases hc15
              all_goals
              (
                refine BX1_canBegin_61 (by first | assumption | exact up_at _ _ _ | (rw [up_ne (by omega)]; first | assumption | exact up_at _ _ _ | (rw [up_ne (by omega)]; first | assumption | exact up_at _ _ _ | (rw [up_ne (by omega)]; assumption)))) (by rfl) ?_ ?_
                · intro hc16
                  refine BX1_canBegin_77 (by first | assumption | exact up_at _ _ _ | (rw [up_ne (by omega)]; first | assumption | exact up_at _ _ _ | (rw [up_ne (by omega)]; first | assumption | exact up_at _ _ _ | (rw [up_ne (by omega)]; assumption)))) (by rfl) ?_ ?_
                  · intro hc17
                    refine BX1_canBegin_88  ?_
                    first
                    | (exfalso; omega)
                    | (rw [if_pos (by omega)] at kf; exact kf _ r20 s20 (by omega))
                    | (rw [if_neg (by omega), if_pos (by simp_all)] at kf; exact kf _ r55 s55 (by omega))
                    | (rw [if_neg (by omega), if_neg (by simp_all <;> omega), if_pos (by omega)] at kf; exact kf _ r74 s74 (by omega))
                  · intro hc18
                    refine BX1_canBegin_84  ?_
                    first
                    | (exfalso; omega)
                    | (rw [if_neg (by omega), if_neg (by simp_all <;> omega), if_neg (by omega)] at kt
                       exact kt f0 rfl (by omega) (by omega) (by simp_all) (by simp_all) (by omega))
                · intro hc19
                  refine BX1_canBegin_70 (by first | assumption | exact up_at _ _ _ | (rw [up_ne (by omega)]; first | assumption | exact up_at _ _ _ | (rw [up_ne (by omega)]; first | assumption | exact up_at _ _ _ | (rw [up_ne (by omega)]; assumption)))) ?_
                  refine R_X1_refuse (by first | omega | assumption | (simp only [Ls_len]; omega) | exact Ls_get (by omega) (by omega) | rfl | decide) ?_
                  intro h74 r74 s74
                  have s := s74
                  obtain ⟨⟨tv, tk, tvv⟩, g1, g2, g3⟩ := id s; have tk1 := tk.1
                  refine BX1_canBegin_77 (by first | assumption | exact up_at _ _ _ | (rw [up_ne (by omega)]; first | assumption | exact up_at _ _ _ | (rw [up_ne (by omega)]; first | assumption | exact up_at _ _ _ | (rw [up_ne (by omega)]; assumption)))) (by rfl) ?_ ?_
                  · intro hc20
                    refine BX1_canBegin_88  ?_
                    first
                    | (exfalso; omega)
                    | (rw [if_pos (by omega)] at kf; exact kf _ r20 s20 (by omega))
                    | (rw [if_neg (by omega), if_pos (by simp_all)] at kf; exact kf _ r55 s55 (by omega))
                    | (rw [if_neg (by omega), if_neg (by simp_all <;> omega), if_pos (by omega)] at kf; exact kf _ r74 s74 (by omega))
                  · intro hc21
                    refine BX1_canBegin_84  ?_
                    first
                    | (exfalso; omega)
                    | (rw [if_neg (by omega), if_neg (by simp_all <;> omega), if_neg (by omega)] at kt
                       exact kt f0 rfl (by omega) (by omega) (by simp_all) (by simp_all) (by omega))
              )
            · intro ahc22 hc22
              cases hc22
              all_goals
              (
                refine BX1_canBegin_52 (by first | assumption | exact up_at _ _ _ | (rw [up_ne (by omega)]; first | assumption | exact up_at _ _ _ | (rw [up_ne (by omega)]; first | assumption | exact up_at _ _ _ | (rw [up_ne (by omega)]; assumption)))) ?_
                refine R_X1_refuse (by first | omega | assumption | (simp only [Ls_len]; omega) | exact Ls_get (by omega) (by omega) | rfl | decide) ?_
                intro h55 r55 s55
                have s := s55
                obtain ⟨⟨tv, tk, tvv⟩, g1, g2, g3⟩ := id s; have tk1 := tk.1
                refine BX1_canBegin_58 (by first | assumption | exact up_at _ _ _ | (rw [up_ne (by omega)]; first | assumption | exact up_at _ _ _ | (rw [up_ne (by omega)]; first | assumption | exact up_at _ _ _ | (rw [up_ne (by omega)]; assumption)))) (by rfl) ?_ ?_
                · intro hc23
                  refine BX1_canBegin_88  ?_
                  first
                  | (exfalso; omega)
                  | (rw [if_pos (by omega)] at kf; exact kf _ r20 s20 (by omega))
                  | (rw [if_neg (by omega), if_pos (by simp_all)] at kf; exact kf _ r55 s55 (by omega))
                  | (rw [if_neg (by omega), if_neg (by simp_all <;> omega), if_pos (by omega)] at kf; exact kf _ r74 s74 (by omega))
                · intro hc24
                  refine BX1_canBegin_84  ?_
                  first
                  | (exfalso; omega)
                  | (rw [if_neg (by omega), if_neg (by simp_all <;> omega), if_neg (by omega)] at kt
                     exact kt f0 rfl (by omega) (by omega) (by simp_all) (by simp_all) (by omega))
              )
        · intro hc25
          refine BX1_canBegin_32 (by first | assumption | exact up_at _ _ _ | (rw [up_ne (by omega)]; first | assumption | exact up_at _ _ _ | (rw [up_ne (by omega)]; first | assumption | exact up_at _ _ _ | (rw [up_ne (by omega)]; assumption)))) (by rfl) ?_ ?_
          · intro ahc26 hc26
            cases hc26
            all_goals
            (
              refine BX1_canBegin_52 (by first | assumption | exact up_at _ _ _ | (rw [up_ne (by omega)]; first | assumption | exact up_at _ _ _ | (rw [up_ne (by omega)]; first | assumption | exact up_at _ _ _ | (rw [up_ne (by omega)]; assumption)))) ?_
              refine R_X1_refuse (by first | omega | assumption | (simp only [Ls_len]; omega) | exact Ls_get (by omega) (by omega) | rfl | decide) ?_
              intro h55 r55 s55
              have s := s55
              obtain ⟨⟨tv, tk, tvv⟩, g1, g2, g3⟩ := id s; have tk1 := tk.1
              refine BX1_canBegin_58 (by first | assumption | exact up_at _ _ _ | (rw [up_ne (by omega)]; first | assumption | exact up_at _ _ _ | (rw [up_ne (by omega)]; first | assumption | exact up_at _ _ _ | (rw [up_ne (by omega)]; assumption)))) (by rfl) ?_ ?_
              · intro hc27
                refine BX1_canBegin_88  ?_
                first
                | (exfalso; omega)
                | (rw [if_pos (by omega)] at kf; exact kf _ r20 s20 (by omega))
                | (rw [if_neg (by omega), if_pos (by simp_all)] at kf; exact kf _ r55 s55 (by omega))
                | (rw [if_neg (by omega), if_neg (by simp_all <;> omega), if_pos (by omega)] at kf; exact kf _ r74 s74 (by omega))
              · intro hc28
                refine BX1_canBegin_84  ?_
                first
                | (exfalso; omega)
                | (rw [if_neg (by omega), if_neg (by simp_all <;> omega), if_neg (by omega)] at kt
                   exact kt f0 rfl (by omega) (by omega) (by simp_all) (by simp_all) (by omega))
            )
          · intro hc29
            cases hc29
            all_goals
            (
              refine BX1_canBegin_39  ?_ ?_
              · intro hc30
                refine BX1_canBegin_61 (by first | assumption | exact up_at _ _ _ | (rw [up_ne (by omega)]; first | assumption | exact up_at _ _ _ | (rw [up_ne (by omega)]; first | assumption | exact up_at _ _ _ | (rw [up_ne (by omega)]; assumption)))) (by rfl) ?_ ?_
                · intro hc31
                  refine BX1_canBegin_77 (by first | assumption | exact up_at _ _ _ | (rw [up_ne (by omega)]; first | assumption | exact up_at _ _ _ | (rw [up_ne (by omega)]; first | assumption | exact up_at _ _ _ | (rw [up_ne (by omega)]; assumption)))) (by rfl) ?_ ?_
                  · intro hc32
                    refine BX1_canBegin_88  ?_
                    first
                    | (exfalso; omega)
                    | (rw [if_pos (by omega)] at kf; exact kf _ r20 s20 (by omega))
                    | (rw [if_neg (by omega), if_pos (by simp_all)] at kf; exact kf _ r55 s55 (by omega))
                    | (rw [if_neg (by omega), if_neg (by simp_all <;> omega), if_pos (by omega)] at kf; exact kf _ r74 s74 (by omega))
                  · intro hc33
                    refine BX1_canBegin_84  ?_
                    first
                    | (exfalso; omega)
                    | (rw [if_neg (by omega), if_neg (by simp_all <;> omega), if_neg (by omega)] at kt
                       exact kt f0 rfl (by omega) (by omega) (by simp_all) (by simp_all) (by omega))
                · intro hc34
                  refine BX1_canBegin_70 (by first | assumption | exact up_at _ _ _ | (rw [up_ne (by omega)]; first | assumption | exact up_at _ _ _ | (rw [up_ne (by omega)]; first | assumption | exact up_at _ _ _ | (rw [up_ne (by omega)]; assumption)))) ?_
                  refine R_X1_refuse (by first | omega | assumption | (simp only [Ls_len]; omega) | exact Ls_get (by omega) (by omega) | rfl | decide) ?_
                  intro h74 r74 s74
                  have s := s74
                  obtain ⟨⟨tv, tk, tvv⟩, g1, g2, g3⟩ := id s; have tk1 := tk.1
                  refine BX1_canBegin_77 (by first | assumption | exact up_at _ _ _ | (rw [up_ne (by omega)]; first | assumption | exact up_at _ _ _ | (rw [up_ne (by omega)]; first | assumption | exact up_at _ _ _ | (rw [up_ne (by omega)]; assumption)))) (by rfl) ?_ ?_
                  · intro hc35
                    refine BX1_canBegin_88  ?_
                    first
                    | (exfalso; omega)
                    | (rw [if_pos (by omega)] at kf; exact kf _ r20 s20 (by omega))
                    | (rw [if_neg (by omega), if_pos (by simp_all)] at kf; exact kf _ r55 s55 (by omega))
                    | (rw [if_neg (by omega), if_neg (by simp_all <;> omega), if_pos (by omega)] at kf; exact kf _ r74 s74 (by omega))
                  · intro hc36
                    refine BX1_canBegin_84  ?_
                    first
                    | (exfalso; omega)
                    | (rw [if_neg (by omega), if_neg (by simp_all <;> omega), if_neg (by omega)] at kt
                       exact kt f0 rfl (by omega) (by omega) (by simp_all) (by simp_all) (by omega))
              · intro hc37
                refine BX1_canBegin_45 (by first | assumption | exact up_at _ _ _ | (rw [up_ne (by omega)]; first | assumption | exact up_at _ _ _ | (rw [up_ne (by omega)]; first | assumption | exact up_at _ _ _ | (rw [up_ne (by omega)]; assumption)))) (by rfl) ?_ ?_
                · intro hc38
                  cases hc38
                  all_goals
                  (
                    refine BX1_canBegin_61 (by first | assumption | exact up_at _ _ _ | (rw [up_ne (by omega)]; first | assumption | exact up_at _ _ _ | (rw [up_ne (by omega)]; first | assumption | exact up_at _ _ _ | (rw [up_ne (by omega)]; assumption)))) (by rfl) ?_ ?_
                    · intro hc39
                      refine BX1_canBegin_77 (by first | assumption | exact up_at _ _ _ | (rw [up_ne (by omega)]; first | assumption | exact up_at _ _ _ | (rw [up_ne (by omega)]; first | assumption | exact up_at _ _ _ | (rw [up_ne (by omega)]; assumption)))) (by rfl) ?_ ?_
                      · intro hc40
                        refine BX1_canBegin_88  ?_
                        first
                        | (exfalso; omega)
                        | (rw [if_pos (by omega)] at kf; exact kf _ r20 s20 (by omega))
                        | (rw [if_neg (by omega), if_pos (by simp_all)] at kf; exact kf _ r55 s55 (by omega))
                        | (rw [if_neg (by omega), if_neg (by simp_all <;> omega), if_pos (by omega)] at kf; exact kf _ r74 s74 (by omega))
                      · intro hc41
                        refine BX1_canBegin_84  ?_
                        first
                        | (exfalso; omega)
                        | (rw [if_neg (by omega), if_neg (by simp_all <;> omega), if_neg (by omega)] at kt
                           exact kt f0 rfl (by omega) (by omega) (by simp_all) (by simp_all) (by omega))
                    · intro hc42
                      refine BX1_canBegin_70 (by first | assumption | exact up_at _ _ _ | (rw [up_ne (by omega)]; first | assumption | exact up_at _ _ _ | (rw [up_ne (by omega)]; first | assumption | exact up_at _ _ _ | (rw [up_ne (by omega)]; assumption)))) ?_
                      refine R_X1_refuse (by first | omega | assumption | (simp only [Ls_len]; omega) | exact Ls_get (by omega) (by omega) | rfl | decide) ?_
                      intro h74 r74 s74
                      have s := s74
                      obtain ⟨⟨tv, tk, tvv⟩, g1, g2, g3⟩ := id s; have tk1 := tk.1
                      refine BX1_canBegin_77 (by first | assumption | exact up_at _ _ _ | (rw [up_ne (by omega)]; first | assumption | exact up_at _ _ _ | (rw [up_ne (by omega)]; first | assumption | exact up_at _ _ _ | (rw [up_ne (by omega)]; assumption)))) (by rfl) ?_ ?_
                      · intro hc43
                        refine BX1_canBegin_88  ?_
                        first
                        | (exfalso; omega)
                        | (rw [if_pos (by omega)] at kf; exact kf _ r20 s20 (by omega))
                        | (rw [if_neg (by omega), if_pos (by simp_all)] at kf; exact kf _ r55 s55 (by omega))
                        | (rw [if_neg (by omega), if_neg (by simp_all <;> omega), if_pos (by omega)] at kf; exact kf _ r74 s74 (by omega))
                      · intro hc44
                        refine BX1_canBegin_84  ?_
                        first
                        | (exfalso; omega)
                        | (rw [if_neg (by omega), if_neg (by simp_all <;> omega), if_neg (by omega)] at kt
                           exact kt f0 rfl (by omega) (by omega) (by simp_all) (by simp_all) (by omega))
                  )
                · intro ahc45 hc45
                  cases hc45
                  all_goals
                  (
                    refine BX1_canBegin_52 (by first | assumption | exact up_at _ _ _ | (rw [up_ne (by omega)]; first | assumption | exact up_at _ _ _ | (rw [up_ne (by omega)]; first | assumption | exact up_at _ _ _ | (rw [up_ne (by omega)]; assumption)))) ?_
                    refine R_X1_refuse (by first | omega | assumption | (simp only [Ls_len]; omega) | exact Ls_get (by omega) (by omega) | rfl | decide) ?_
                    intro h55 r55 s55
                    have s := s55
                    obtain ⟨⟨tv, tk, tvv⟩, g1, g2, g3⟩ := id s; have tk1 := tk.1
                    refine BX1_canBegin_58 (by first | assumption | exact up_at _ _ _ | (rw [up_ne (by omega)]; first | assumption | exact up_at _ _ _ | (rw [up_ne (by omega)]; first | assumption | exact up_at _ _ _ | (rw [up_ne (by omega)]; assumption)))) (by rfl) ?_ ?_
                    · intro hc46
                      refine BX1_canBegin_88  ?_
                      first
                      | (exfalso; omega)
                      | (rw [if_pos (by omega)] at kf; exact kf _ r20 s20 (by omega))
                      | (rw [if_neg (by omega), if_pos (by simp_all)] at kf; exact kf _ r55 s55 (by omega))
                      | (rw [if_neg (by omega), if_neg (by simp_all <;> omega), if_pos (by omega)] at kf; exact kf _ r74 s74 (by omega))
                    · intro hc47
                      refine BX1_canBegin_84  ?_
                      first
                      | (exfalso; omega)
                      | (rw [if_neg (by omega), if_neg (by simp_all <;> omega), if_neg (by omega)] at kt
                         exact kt f0 rfl (by omega) (by omega) (by simp_all) (by simp_all) (by omega))
                  )
            )
      · intro hc48
        refine BX1_canBegin_17 (by first | assumption | exact up_at _ _ _ | (rw [up_ne (by omega)]; first | assumption | exact up_at _ _ _ | (rw [up_ne (by omega)]; first | assumption | exact up_at _ _ _ | (rw [up_ne (by omega)]; assumption)))) ?_
        refine R_X1_refuse (by first | omega | assumption | (simp only [Ls_len]; omega) | exact Ls_get (by omega) (by omega) | rfl | decide) ?_
        intro h20 r20 s20
        have s := s20
        obtain ⟨⟨tv, tk, tvv⟩, g1, g2, g3⟩ := id s; have tk1 := tk.1
        refine BX1_canBegin_23 (by first | assumption | exact up_at _ _ _ | (rw [up_ne (by omega)]; first | assumption | exact up_at _ _ _ | (rw [up_ne (by omega)]; first | assumption | exact up_at _ _ _ | (rw [up_ne (by omega)]; assumption)))) (by rfl) ?_ ?_
        · intro hc49
          refine BX1_canBegin_88  ?_
          first
          | (exfalso; omega)
          | (rw [if_pos (by omega)] at kf; exact kf _ r20 s20 (by omega))
          | (rw [if_neg (by omega), if_pos (by simp_all)] at kf; exact kf _ r55 s55 (by omega))
          | (rw [if_neg (by omega), if_neg (by simp_all <;> omega), if_pos (by omega)] at kf; exact kf _ r74 s74 (by omega))
        · intro hc50
          refine BX1_canBegin_84  ?_
          first
          | (exfalso; omega)
          | (rw [if_neg (by omega), if_neg (by simp_all <;> omega), if_neg (by omega)] at kt
             exact kt f0 rfl (by omega) (by omega) (by simp_all) (by simp_all) (by omega))
end TEXT2
