section GKL
variable {F cl : Int → Int} {cc iw : Int} {co we : Option Nat} {f : Nat}
theorem advZ {S : Ps} (o : okF F) (z : okZ F S) (hk : kdP F S ≠ 0) : okZ F (advP F S) := by
  have a := advP_le o z hk
  exact (a.1.tr (leQ.rf a.1.2.1) (show (-2 : Int) + 0 ≤ 0 by decide)).ok z
theorem R_X1_readPlainNumber {d bc bs n : Nat} {h : aH} {Q : aQ} {op : Int} {S : Ps} (s : Gm h F cc co we cl op iw S) (o : okF F) (z : okZ F S) (hk : kdP F S = 2) (k : ∀ h1, Fr h h1 282 5 → Gm h1 F cc co we cl op iw (if 9999 < tkV F S.2.2.1 then rfP F 2 S else advP F (addP 2 (tkV F S.2.2.1) S)) → Q none h1 n) : Rn (d + 7) bc bs mX1_readPlainNumber 0 [some (vR (some 284)), some (vR (some 282))] [] h n Q := by
  obtain ⟨⟨tv, tk, tvv⟩, g1, g2, g3⟩ := id s; have tk1 := tk.1
  have o1 := o.1
  obtain ⟨z1, z2, z3, z4⟩ := id z
  have tn := tkN_gt o z1 z2 (show tkK F S.2.2.1 ≠ 0 by unfold kdP at hk; omega)
  have ev : tv = tkV F S.2.2.1 := tvv hk
  subst ev
  have sn := tkS_in (F := F) z2
  have tr : 0 ≤ tkV F S.2.2.1 ∧ tkV F S.2.2.1 ≤ 10000 := (tkT_in (F := F) o (by omega) sn.2).2.2
  have tn2 : 0 ≤ tkN F (addP 2 (tkV F S.2.2.1) S).2.2.1 ∧ tkN F (addP 2 (tkV F S.2.2.1) S).2.2.1 ≤ F 2 := by show 0 ≤ tkN F S.2.2.1 ∧ tkN F S.2.2.1 ≤ F 2; omega
  refine BX1_readPlainNumber_0 (by first | assumption | exact up_at _ _ _ | (rw [up_ne (by omega)]; first | assumption | exact up_at _ _ _ | (rw [up_ne (by omega)]; first | assumption | exact up_at _ _ _ | (rw [up_ne (by omega)]; assumption)))) (by rfl) ?_ ?_
  · intro hc1
    first
    | (exfalso; omega)
    | (
        refine BX1_readPlainNumber_17 (by first | assumption | exact up_at _ _ _ | (rw [up_ne (by omega)]; first | assumption | exact up_at _ _ _ | (rw [up_ne (by omega)]; first | assumption | exact up_at _ _ _ | (rw [up_ne (by omega)]; assumption)))) (by rfl) (by first | assumption | exact up_at _ _ _ | (rw [up_ne (by omega)]; first | assumption | exact up_at _ _ _ | (rw [up_ne (by omega)]; first | assumption | exact up_at _ _ _ | (rw [up_ne (by omega)]; assumption)))) ?_
        refine R_X1_addSign (by first | omega | assumption | exact okZ.q (by assumption) | (simp only [Ls_len]; omega) | exact Ls_get (by omega) (by omega) | rfl | decide) (by first | omega | assumption | exact okZ.q (by assumption) | (simp only [Ls_len]; omega) | exact Ls_get (by omega) (by omega) | rfl | decide) (by first | omega | assumption | exact okZ.q (by assumption) | (simp only [Ls_len]; omega) | exact Ls_get (by omega) (by omega) | rfl | decide) (by first | omega | assumption | exact okZ.q (by assumption) | (simp only [Ls_len]; omega) | exact Ls_get (by omega) (by omega) | rfl | decide) (by first | omega | assumption | exact okZ.q (by assumption) | (simp only [Ls_len]; omega) | exact Ls_get (by omega) (by omega) | rfl | decide) (by first | omega | assumption | exact okZ.q (by assumption) | (simp only [Ls_len]; omega) | exact Ls_get (by omega) (by omega) | rfl | decide) (by first | omega | assumption | exact okZ.q (by assumption) | (simp only [Ls_len]; omega) | exact Ls_get (by omega) (by omega) | rfl | decide) ?_
        intro h23 r23 s23
        have s := s23
        obtain ⟨⟨tv, tk, tvv⟩, g1, g2, g3⟩ := id s; have tk1 := tk.1
        refine BX1_readPlainNumber_26 (by first | assumption | exact up_at _ _ _ | (rw [up_ne (by omega)]; first | assumption | exact up_at _ _ _ | (rw [up_ne (by omega)]; first | assumption | exact up_at _ _ _ | (rw [up_ne (by omega)]; assumption)))) ?_
        refine R_X9_comeToNext (by first | omega | assumption | exact okZ.q (by assumption) | (simp only [Ls_len]; omega) | exact Ls_get (by omega) (by omega) | rfl | decide) (by first | omega | assumption | exact okZ.q (by assumption) | (simp only [Ls_len]; omega) | exact Ls_get (by omega) (by omega) | rfl | decide) (by first | omega | assumption | exact okZ.q (by assumption) | (simp only [Ls_len]; omega) | exact Ls_get (by omega) (by omega) | rfl | decide) (by first | omega | assumption | exact okZ.q (by assumption) | (simp only [Ls_len]; omega) | exact Ls_get (by omega) (by omega) | rfl | decide) ?_
        intro h28 v28 r28 e28 y28
        refine BX1_readPlainNumber_31  ?_
        rw [if_neg (by omega)] at k
        exact k _ (r23.tr (r28.wd (by decide) (by decide))) (s.adv r28 e28 y28)
      )
  · intro hc2
    first
    | (exfalso; omega)
    | (
        refine BX1_readPlainNumber_10 (by first | assumption | exact up_at _ _ _ | (rw [up_ne (by omega)]; first | assumption | exact up_at _ _ _ | (rw [up_ne (by omega)]; first | assumption | exact up_at _ _ _ | (rw [up_ne (by omega)]; assumption)))) ?_
        refine R_X1_refuse (by first | omega | assumption | exact okZ.q (by assumption) | (simp only [Ls_len]; omega) | exact Ls_get (by omega) (by omega) | rfl | decide) ?_
        intro h13 r13 s13
        refine BX1_readPlainNumber_16  ?_
        rw [if_pos (by omega)] at k
        exact k _ r13 s13
      )
theorem R_X1_readName {d bc bs n : Nat} {h : aH} {Q : aQ} {op : Int} {S : Ps} (s : Gm h F cc co we cl op iw S) (o : okF F) (z : okZ F S) (k0 : 23 ≤ kdP F S) (k1 : kdP F S ≤ 30) (k : ∀ h1, Fr h h1 282 5 → Gm h1 F cc co we cl op iw (if iw ≠ 0 ∧ kdP F S = 30 then rfP F 5 S else advP F (addP (kdP F S) 0 S)) → Q none h1 n) : Rn (d + 7) bc bs mX1_readName 0 [some (vR (some 284)), some (vR (some 282))] [] h n Q := by
  obtain ⟨⟨tv, tk, tvv⟩, g1, g2, g3⟩ := id s; have tk1 := tk.1
  have o1 := o.1
  obtain ⟨z1, z2, z3, z4⟩ := id z
  have kd : kdP F S = tkK F S.2.2.1 := rfl
  have tn := tkN_gt o z1 z2 (show tkK F S.2.2.1 ≠ 0 by omega)
  rw [kd] at k k0 k1
  have tn2 : 0 ≤ tkN F (addP (tkK F S.2.2.1) 0 S).2.2.1 ∧ tkN F (addP (tkK F S.2.2.1) 0 S).2.2.1 ≤ F 2 := by show 0 ≤ tkN F S.2.2.1 ∧ tkN F S.2.2.1 ≤ F 2; omega
  refine BX1_readName_0 (by first | assumption | exact up_at _ _ _ | (rw [up_ne (by omega)]; first | assumption | exact up_at _ _ _ | (rw [up_ne (by omega)]; first | assumption | exact up_at _ _ _ | (rw [up_ne (by omega)]; assumption)))) (by rfl) ?_ ?_
  · intro hc1
    refine BX1_readName_23 (by first | assumption | exact up_at _ _ _ | (rw [up_ne (by omega)]; first | assumption | exact up_at _ _ _ | (rw [up_ne (by omega)]; first | assumption | exact up_at _ _ _ | (rw [up_ne (by omega)]; assumption)))) (by rfl) (by first | assumption | exact up_at _ _ _ | (rw [up_ne (by omega)]; first | assumption | exact up_at _ _ _ | (rw [up_ne (by omega)]; first | assumption | exact up_at _ _ _ | (rw [up_ne (by omega)]; assumption)))) ?_
    refine R_X1_addSign (by first | omega | assumption | exact okZ.q (by assumption) | (simp only [Ls_len]; omega) | exact Ls_get (by omega) (by omega) | rfl | decide) (by first | omega | assumption | exact okZ.q (by assumption) | (simp only [Ls_len]; omega) | exact Ls_get (by omega) (by omega) | rfl | decide) (by first | omega | assumption | exact okZ.q (by assumption) | (simp only [Ls_len]; omega) | exact Ls_get (by omega) (by omega) | rfl | decide) (by first | omega | assumption | exact okZ.q (by assumption) | (simp only [Ls_len]; omega) | exact Ls_get (by omega) (by omega) | rfl | decide) (by first | omega | assumption | exact okZ.q (by assumption) | (simp only [Ls_len]; omega) | exact Ls_get (by omega) (by omega) | rfl | decide) (by first | omega | assumption | exact okZ.q (by assumption) | (simp only [Ls_len]; omega) | exact Ls_get (by omega) (by omega) | rfl | decide) (by first | omega | assumption | exact okZ.q (by assumption) | (simp only [Ls_len]; omega) | exact Ls_get (by omega) (by omega) | rfl | decide) ?_
    intro h29 r29 s29
    have s := s29
    obtain ⟨⟨tv, tk, tvv⟩, g1, g2, g3⟩ := id s; have tk1 := tk.1
    refine BX1_readName_32 (by first | assumption | exact up_at _ _ _ | (rw [up_ne (by omega)]; first | assumption | exact up_at _ _ _ | (rw [up_ne (by omega)]; first | assumption | exact up_at _ _ _ | (rw [up_ne (by omega)]; assumption)))) ?_
    refine R_X9_comeToNext (by first | omega | assumption | exact okZ.q (by assumption) | (simp only [Ls_len]; omega) | exact Ls_get (by omega) (by omega) | rfl | decide) (by first | omega | assumption | exact okZ.q (by assumption) | (simp only [Ls_len]; omega) | exact Ls_get (by omega) (by omega) | rfl | decide) (by first | omega | assumption | exact okZ.q (by assumption) | (simp only [Ls_len]; omega) | exact Ls_get (by omega) (by omega) | rfl | decide) (by first | omega | assumption | exact okZ.q (by assumption) | (simp only [Ls_len]; omega) | exact Ls_get (by omega) (by omega) | rfl | decide) ?_
    intro h34 v34 r34 e34 y34
    refine BX1_readName_37  ?_
    rw [if_neg (by omega)] at k
    exact k _ (r29.tr (r34.wd (by decide) (by decide))) (s.adv r34 e34 y34)
  · intro hc2
    refine BX1_readName_7 (by first | assumption | exact up_at _ _ _ | (rw [up_ne (by omega)]; first | assumption | exact up_at _ _ _ | (rw [up_ne (by omega)]; first | assumption | exact up_at _ _ _ | (rw [up_ne (by omega)]; assumption)))) (by rfl) ?_ ?_
    · intro hc3
      refine BX1_readName_23 (by first | assumption | exact up_at _ _ _ | (rw [up_ne (by omega)]; first | assumption | exact up_at _ _ _ | (rw [up_ne (by omega)]; first | assumption | exact up_at _ _ _ | (rw [up_ne (by omega)]; assumption)))) (by rfl) (by first | assumption | exact up_at _ _ _ | (rw [up_ne (by omega)]; first | assumption | exact up_at _ _ _ | (rw [up_ne (by omega)]; first | assumption | exact up_at _ _ _ | (rw [up_ne (by omega)]; assumption)))) ?_
      refine R_X1_addSign (by first | omega | assumption | exact okZ.q (by assumption) | (simp only [Ls_len]; omega) | exact Ls_get (by omega) (by omega) | rfl | decide) (by first | omega | assumption | exact okZ.q (by assumption) | (simp only [Ls_len]; omega) | exact Ls_get (by omega) (by omega) | rfl | decide) (by first | omega | assumption | exact okZ.q (by assumption) | (simp only [Ls_len]; omega) | exact Ls_get (by omega) (by omega) | rfl | decide) (by first | omega | assumption | exact okZ.q (by assumption) | (simp only [Ls_len]; omega) | exact Ls_get (by omega) (by omega) | rfl | decide) (by first | omega | assumption | exact okZ.q (by assumption) | (simp only [Ls_len]; omega) | exact Ls_get (by omega) (by omega) | rfl | decide) (by first | omega | assumption | exact okZ.q (by assumption) | (simp only [Ls_len]; omega) | exact Ls_get (by omega) (by omega) | rfl | decide) (by first | omega | assumption | exact okZ.q (by assumption) | (simp only [Ls_len]; omega) | exact Ls_get (by omega) (by omega) | rfl | decide) ?_
      intro h29 r29 s29
      have s := s29
      obtain ⟨⟨tv, tk, tvv⟩, g1, g2, g3⟩ := id s; have tk1 := tk.1
      refine BX1_readName_32 (by first | assumption | exact up_at _ _ _ | (rw [up_ne (by omega)]; first | assumption | exact up_at _ _ _ | (rw [up_ne (by omega)]; first | assumption | exact up_at _ _ _ | (rw [up_ne (by omega)]; assumption)))) ?_
      refine R_X9_comeToNext (by first | omega | assumption | exact okZ.q (by assumption) | (simp only [Ls_len]; omega) | exact Ls_get (by omega) (by omega) | rfl | decide) (by first | omega | assumption | exact okZ.q (by assumption) | (simp only [Ls_len]; omega) | exact Ls_get (by omega) (by omega) | rfl | decide) (by first | omega | assumption | exact okZ.q (by assumption) | (simp only [Ls_len]; omega) | exact Ls_get (by omega) (by omega) | rfl | decide) (by first | omega | assumption | exact okZ.q (by assumption) | (simp only [Ls_len]; omega) | exact Ls_get (by omega) (by omega) | rfl | decide) ?_
      intro h34 v34 r34 e34 y34
      refine BX1_readName_37  ?_
      rw [if_neg (by omega)] at k
      exact k _ (r29.tr (r34.wd (by decide) (by decide))) (s.adv r34 e34 y34)
    · intro hc4
      refine BX1_readName_16 (by first | assumption | exact up_at _ _ _ | (rw [up_ne (by omega)]; first | assumption | exact up_at _ _ _ | (rw [up_ne (by omega)]; first | assumption | exact up_at _ _ _ | (rw [up_ne (by omega)]; assumption)))) ?_
      refine R_X1_refuse (by first | omega | assumption | exact okZ.q (by assumption) | (simp only [Ls_len]; omega) | exact Ls_get (by omega) (by omega) | rfl | decide) ?_
      intro h19 r19 s19
      refine BX1_readName_22  ?_
      rw [if_pos (by omega)] at k
      exact k _ r19 s19
theorem gk_0 (o : okF F) (A : GKA F cc co we cl iw f) : GK0 F cc co we cl iw (f + 1) := by
  intro d bc bs n h Q S r op hop hop0 s z _ ms k
  have ek : gk F iw (f + 1) 0 op S = if S.1 ≠ 0 then S else if kdP F S = 2 then (if 9999 < tkV F S.2.2.1 then rfP F 2 S else advP F (addP 2 (tkV F S.2.2.1) S)) else if 23 ≤ kdP F S ∧ kdP F S ≤ 30 then (if iw ≠ 0 ∧ kdP F S = 30 then rfP F 5 S else advP F (addP (kdP F S) 0 S)) else if opB (kdP F S) = false then rfP F 1 S else if 8 ≤ op then rfP F 3 S else gk F iw f 11 (op + 1) S := rfl
  rw [ek] at k
  obtain ⟨⟨tv, tk, tvv⟩, g1, g2, g3⟩ := id s; have tk1 := tk.1
  have kd : kdP F S = tkK F S.2.2.1 := rfl
  have B87 : S.1 = 0 → kdP F S ≠ 2 → ¬ (23 ≤ kdP F S ∧ kdP F S ≤ 30) → opB (kdP F S) = true → op < 8 → Rn (d + 10 * r + 10) bc bs mX1_readOne 87 [some (vR (some 284)), some (vR (some 282))] [] h n Q := by
    intro b1 b2 b3 b4 b5
    rw [if_neg (by omega), if_neg b2, if_neg b3, if_neg (by rw [b4]; decide), if_neg (by omega)] at k
    obtain ⟨r', hr⟩ : ∃ r', r = r' + 1 := ⟨r - 1, by omega⟩
    subst hr
    have s2 := s.op (op2 := op + 1)
    have f2 := Fr.one h 284 (cO 1 [vR (some 285), vR (some 286), vI cc, vI S.2.2.2.1, vI (op + 1), vI iw, vR co, vR we, vI S.1, vI S.2.1])
    have s21 := s2.2.1
    refine BX1_readOne_87 (by first | assumption | exact up_at _ _ _ | (rw [up_ne (by omega)]; first | assumption | exact up_at _ _ _ | (rw [up_ne (by omega)]; first | assumption | exact up_at _ _ _ | (rw [up_ne (by omega)]; assumption)))) (by rfl) (by first | omega | assumption | exact okZ.q (by assumption) | (simp only [Ls_len]; omega) | exact Ls_get (by omega) (by omega) | rfl | decide) (by simp) ?_
    refine BX1_readOne_97 s21 ?_
    refine Rn.deep (d := d + 10 * r' + 18) (by omega) ((A.2.2.2.2.2.2.2.2.2.2.2.1) d 0 0 n _ _ S r' (op + 1) (by omega) (by omega) s2 z b4 (by omega) fun h3 f3 s3 => ?_)
    have s31 := s3.2.1
    have s4 := s3.op (op2 := op)
    have f4 := Fr.one h3 284 (cO 1 [vR (some 285), vR (some 286), vI cc, vI (gk F iw f 11 (op + 1) S).2.2.2.1, vI op, vI iw, vR co, vR we, vI (gk F iw f 11 (op + 1) S).1, vI (gk F iw f 11 (op + 1) S).2.1])
    refine BX1_readOne_102 s31 rfl (by omega) (by simp) ?_
    rw [show op + 1 - 1 = op by omega]
    refine BX1_readOne_112 ?_
    exact k _ (((f2.wd (by decide) (by decide)).tr f3).tr (f4.wd (by decide) (by decide))) s4
  refine BX1_readOne_0 (by first | assumption | exact up_at _ _ _ | (rw [up_ne (by omega)]; first | assumption | exact up_at _ _ _ | (rw [up_ne (by omega)]; first | assumption | exact up_at _ _ _ | (rw [up_ne (by omega)]; assumption)))) (by rfl) ?_ ?_
  · intro hc1
    refine BX1_readOne_8 (by first | assumption | exact up_at _ _ _ | (rw [up_ne (by omega)]; first | assumption | exact up_at _ _ _ | (rw [up_ne (by omega)]; first | assumption | exact up_at _ _ _ | (rw [up_ne (by omega)]; assumption)))) (by rfl) ?_ ?_
    · intro hc2
      refine BX1_readOne_24 (by first | assumption | exact up_at _ _ _ | (rw [up_ne (by omega)]; first | assumption | exact up_at _ _ _ | (rw [up_ne (by omega)]; first | assumption | exact up_at _ _ _ | (rw [up_ne (by omega)]; assumption)))) (by rfl) ?_ ?_
      · intro hc3
        refine BX1_readOne_50 (by first | assumption | exact up_at _ _ _ | (rw [up_ne (by omega)]; first | assumption | exact up_at _ _ _ | (rw [up_ne (by omega)]; first | assumption | exact up_at _ _ _ | (rw [up_ne (by omega)]; assumption)))) (by rfl) ?_
        refine R_X1_isOpener  ?_ ?_
        · intro w54
          refine BX1_readOne_57  ?_ ?_
          · intro hc4
            refine BX1_readOne_69 (by first | assumption | exact up_at _ _ _ | (rw [up_ne (by omega)]; first | assumption | exact up_at _ _ _ | (rw [up_ne (by omega)]; first | assumption | exact up_at _ _ _ | (rw [up_ne (by omega)]; assumption)))) (by rfl) ?_ ?_
            · intro hc5
              exact B87 (by omega) (by omega) (by omega) (by assumption) (by omega)
            · intro hc6
              refine BX1_readOne_78 (by first | assumption | exact up_at _ _ _ | (rw [up_ne (by omega)]; first | assumption | exact up_at _ _ _ | (rw [up_ne (by omega)]; first | assumption | exact up_at _ _ _ | (rw [up_ne (by omega)]; assumption)))) ?_
              refine R_X1_refuse (by first | omega | assumption | exact okZ.q (by assumption) | (simp only [Ls_len]; omega) | exact Ls_get (by omega) (by omega) | rfl | decide) ?_
              intro h81 r81 s81
              refine BX1_readOne_84  ?_
              rw [if_neg (by omega), if_neg (by omega), if_neg (by omega), if_neg (by rw [show opB (kdP F S) = true by assumption]; decide), if_pos (by omega)] at k
              exact k _ r81 s81
          · intro hc7
            exact absurd hc7 (by decide)
        · intro w54
          refine BX1_readOne_57  ?_ ?_
          · intro hc8
            exact absurd hc8 (by decide)
          · intro hc9
            refine BX1_readOne_60 (by first | assumption | exact up_at _ _ _ | (rw [up_ne (by omega)]; first | assumption | exact up_at _ _ _ | (rw [up_ne (by omega)]; first | assumption | exact up_at _ _ _ | (rw [up_ne (by omega)]; assumption)))) ?_
            refine R_X1_refuse (by first | omega | assumption | exact okZ.q (by assumption) | (simp only [Ls_len]; omega) | exact Ls_get (by omega) (by omega) | rfl | decide) ?_
            intro h63 r63 s63
            refine BX1_readOne_66  ?_
            rw [if_neg (by omega), if_neg (by omega), if_neg (by omega), if_pos (by assumption)] at k
            exact k _ r63 s63
      · intro hc10
        refine BX1_readOne_33 (by first | assumption | exact up_at _ _ _ | (rw [up_ne (by omega)]; first | assumption | exact up_at _ _ _ | (rw [up_ne (by omega)]; first | assumption | exact up_at _ _ _ | (rw [up_ne (by omega)]; assumption)))) (by rfl) ?_ ?_
        · intro hc11
          refine BX1_readOne_50 (by first | assumption | exact up_at _ _ _ | (rw [up_ne (by omega)]; first | assumption | exact up_at _ _ _ | (rw [up_ne (by omega)]; first | assumption | exact up_at _ _ _ | (rw [up_ne (by omega)]; assumption)))) (by rfl) ?_
          refine R_X1_isOpener  ?_ ?_
          · intro w54
            refine BX1_readOne_57  ?_ ?_
            · intro hc12
              refine BX1_readOne_69 (by first | assumption | exact up_at _ _ _ | (rw [up_ne (by omega)]; first | assumption | exact up_at _ _ _ | (rw [up_ne (by omega)]; first | assumption | exact up_at _ _ _ | (rw [up_ne (by omega)]; assumption)))) (by rfl) ?_ ?_
              · intro hc13
                exact B87 (by omega) (by omega) (by omega) (by assumption) (by omega)
              · intro hc14
                refine BX1_readOne_78 (by first | assumption | exact up_at _ _ _ | (rw [up_ne (by omega)]; first | assumption | exact up_at _ _ _ | (rw [up_ne (by omega)]; first | assumption | exact up_at _ _ _ | (rw [up_ne (by omega)]; assumption)))) ?_
                refine R_X1_refuse (by first | omega | assumption | exact okZ.q (by assumption) | (simp only [Ls_len]; omega) | exact Ls_get (by omega) (by omega) | rfl | decide) ?_
                intro h81 r81 s81
                refine BX1_readOne_84  ?_
                rw [if_neg (by omega), if_neg (by omega), if_neg (by omega), if_neg (by rw [show opB (kdP F S) = true by assumption]; decide), if_pos (by omega)] at k
                exact k _ r81 s81
            · intro hc15
              exact absurd hc15 (by decide)
          · intro w54
            refine BX1_readOne_57  ?_ ?_
            · intro hc16
              exact absurd hc16 (by decide)
            · intro hc17
              refine BX1_readOne_60 (by first | assumption | exact up_at _ _ _ | (rw [up_ne (by omega)]; first | assumption | exact up_at _ _ _ | (rw [up_ne (by omega)]; first | assumption | exact up_at _ _ _ | (rw [up_ne (by omega)]; assumption)))) ?_
              refine R_X1_refuse (by first | omega | assumption | exact okZ.q (by assumption) | (simp only [Ls_len]; omega) | exact Ls_get (by omega) (by omega) | rfl | decide) ?_
              intro h63 r63 s63
              refine BX1_readOne_66  ?_
              rw [if_neg (by omega), if_neg (by omega), if_neg (by omega), if_pos (by assumption)] at k
              exact k _ r63 s63
        · intro hc18
          refine BX1_readOne_42 (by first | assumption | exact up_at _ _ _ | (rw [up_ne (by omega)]; first | assumption | exact up_at _ _ _ | (rw [up_ne (by omega)]; first | assumption | exact up_at _ _ _ | (rw [up_ne (by omega)]; assumption)))) ?_
          refine R_X1_readName (by first | omega | assumption | exact okZ.q (by assumption) | (simp only [Ls_len]; omega) | exact Ls_get (by omega) (by omega) | rfl | decide) (by first | omega | assumption | exact okZ.q (by assumption) | (simp only [Ls_len]; omega) | exact Ls_get (by omega) (by omega) | rfl | decide) (by first | omega | assumption | exact okZ.q (by assumption) | (simp only [Ls_len]; omega) | exact Ls_get (by omega) (by omega) | rfl | decide) (by first | omega | assumption | exact okZ.q (by assumption) | (simp only [Ls_len]; omega) | exact Ls_get (by omega) (by omega) | rfl | decide) (by first | omega | assumption | exact okZ.q (by assumption) | (simp only [Ls_len]; omega) | exact Ls_get (by omega) (by omega) | rfl | decide) ?_
          intro h44 r44 s44
          refine BX1_readOne_47  ?_
          rw [if_neg (by omega), if_neg (by omega), if_pos (by omega)] at k
          exact k _ r44 s44
    · intro hc19
      refine BX1_readOne_16 (by first | assumption | exact up_at _ _ _ | (rw [up_ne (by omega)]; first | assumption | exact up_at _ _ _ | (rw [up_ne (by omega)]; first | assumption | exact up_at _ _ _ | (rw [up_ne (by omega)]; assumption)))) ?_
      refine R_X1_readPlainNumber (by first | omega | assumption | exact okZ.q (by assumption) | (simp only [Ls_len]; omega) | exact Ls_get (by omega) (by omega) | rfl | decide) (by first | omega | assumption | exact okZ.q (by assumption) | (simp only [Ls_len]; omega) | exact Ls_get (by omega) (by omega) | rfl | decide) (by first | omega | assumption | exact okZ.q (by assumption) | (simp only [Ls_len]; omega) | exact Ls_get (by omega) (by omega) | rfl | decide) (by first | omega | assumption | exact okZ.q (by assumption) | (simp only [Ls_len]; omega) | exact Ls_get (by omega) (by omega) | rfl | decide) ?_
      intro h18 r18 s18
      refine BX1_readOne_21  ?_
      rw [if_neg (by omega), if_pos (by omega)] at k
      exact k _ r18 s18
  · intro hc20
    refine BX1_readOne_7  ?_
    rw [if_pos (by omega)] at k
    exact k _ (Fr.rf _ _ _) s
theorem gk_5 (o : okF F) (A : GKA F cc co we cl iw f) : GK5 F cc co we cl iw (f + 1) := by
  intro d bc bs n h Q S r op hop hop0 s z _ ms k
  have C3 := fun {d bc bs n : Nat} {h : aH} {Q : aQ} {S : Ps} (s : Gm h F cc co we cl op iw S) (z : okZ F S) => (A.2.2.2.1) d bc bs n h Q S r op hop hop0 s z trivial
  have ek : gk F iw (f + 1) 5 op S = if kdP F (gk F iw f 3 op S) < 3 ∨ 8 < kdP F (gk F iw f 3 op S) then rfP F 1 (gk F iw f 3 op S) else if (gk F iw f 3 op S).1 ≠ 0 then gk F iw f 3 op S else addP (kdP F (gk F iw f 3 op S)) 0 (gk F iw f 3 op (advP F (gk F iw f 3 op S))) := rfl
  rw [ek] at k
  have L : leQ F 0 S (gk F iw f 3 op S) := gk_le o f 3 op S z (fun e => absurd e (by decide)) (fun e => absurd e (by decide))
  have z2 := L.ok z
  obtain ⟨l1, l2, l5, l4⟩ := id L
  have o1 := o.1
  have z0 := z.1
  have kd : kdP F (gk F iw f 3 op S) = tkK F (gk F iw f 3 op S).2.2.1 := rfl
  have B36 : ∀ h1, Fr h h1 282 5 → Gm h1 F cc co we cl op iw (gk F iw f 3 op S) → 3 ≤ kdP F (gk F iw f 3 op S) → kdP F (gk F iw f 3 op S) ≤ 8 → (gk F iw f 3 op S).1 = 0 → Rn (d + 10 * r + 13) bc bs mX1_readComparison 36 [some (vR (some 284)), some (vR (some 282)), some (vI (kdP F (gk F iw f 3 op S)))] [] h1 n Q := by
    intro h1 f1 s b1 b2 b3
    rw [if_neg (by omega), if_neg (by omega)] at k
    clear kd
    generalize gk F iw f 3 op S = T at *
    have a := advP_le o z2 (by omega)
    have az := advZ o z2 (show kdP F T ≠ 0 by omega)
    have tn := tkN_gt o z2.1 z2.2.1 (show tkK F T.2.2.1 ≠ 0 by unfold kdP at b1; omega)
    have L2 : leQ F 0 (advP F T) (gk F iw f 3 op (advP F T)) := gk_le o f 3 op _ az (fun e => absurd e (by decide)) (fun e => absurd e (by decide))
    have z3 := L2.ok az
    have p1 : (advP F T).2.2.1 = tkN F T.2.2.1 := rfl
    obtain ⟨y1, y2, y3, y4⟩ := id z3
    obtain ⟨⟨tv, tk, tvv⟩, g1, g2, g3⟩ := id s; have tk1 := tk.1
    refine BX1_readComparison_36 (by first | assumption | exact up_at _ _ _ | (rw [up_ne (by omega)]; first | assumption | exact up_at _ _ _ | (rw [up_ne (by omega)]; first | assumption | exact up_at _ _ _ | (rw [up_ne (by omega)]; assumption)))) ?_
    refine R_X9_comeToNext (by first | omega | assumption | exact okZ.q (by assumption) | (simp only [Ls_len]; omega) | exact Ls_get (by omega) (by omega) | rfl | decide) (by first | omega | assumption | exact okZ.q (by assumption) | (simp only [Ls_len]; omega) | exact Ls_get (by omega) (by omega) | rfl | decide) (by first | omega | assumption | exact okZ.q (by assumption) | (simp only [Ls_len]; omega) | exact Ls_get (by omega) (by omega) | rfl | decide) (by first | omega | assumption | exact okZ.q (by assumption) | (simp only [Ls_len]; omega) | exact Ls_get (by omega) (by omega) | rfl | decide) ?_
    intro h37 v37 r37 e37 y37
    have s := s.adv r37 e37 y37
    obtain ⟨⟨tv, tk, tvv⟩, g1, g2, g3⟩ := id s; have tk1 := tk.1
    refine BX1_readComparison_40 (by first | assumption | exact up_at _ _ _ | (rw [up_ne (by omega)]; first | assumption | exact up_at _ _ _ | (rw [up_ne (by omega)]; first | assumption | exact up_at _ _ _ | (rw [up_ne (by omega)]; assumption)))) ?_
    refine C3 (by first | omega | assumption | exact okZ.q (by assumption) | (simp only [Ls_len]; omega) | exact Ls_get (by omega) (by omega) | rfl | decide) (by first | omega | assumption | exact okZ.q (by assumption) | (simp only [Ls_len]; omega) | exact Ls_get (by omega) (by omega) | rfl | decide) (by first | omega | assumption | exact okZ.q (by assumption) | (simp only [Ls_len]; omega) | exact Ls_get (by omega) (by omega) | rfl | decide) ?_
    intro h42 r42 s42
    have s := s42
    obtain ⟨⟨tv, tk, tvv⟩, g1, g2, g3⟩ := id s; have tk1 := tk.1
    refine BX1_readComparison_45 (by first | assumption | exact up_at _ _ _ | (rw [up_ne (by omega)]; first | assumption | exact up_at _ _ _ | (rw [up_ne (by omega)]; first | assumption | exact up_at _ _ _ | (rw [up_ne (by omega)]; assumption)))) ?_
    refine R_X1_addSign (by first | omega | assumption | exact okZ.q (by assumption) | (simp only [Ls_len]; omega) | exact Ls_get (by omega) (by omega) | rfl | decide) (by first | omega | assumption | exact okZ.q (by assumption) | (simp only [Ls_len]; omega) | exact Ls_get (by omega) (by omega) | rfl | decide) (by first | omega | assumption | exact okZ.q (by assumption) | (simp only [Ls_len]; omega) | exact Ls_get (by omega) (by omega) | rfl | decide) (by first | omega | assumption | exact okZ.q (by assumption) | (simp only [Ls_len]; omega) | exact Ls_get (by omega) (by omega) | rfl | decide) (by first | omega | assumption | exact okZ.q (by assumption) | (simp only [Ls_len]; omega) | exact Ls_get (by omega) (by omega) | rfl | decide) (by first | omega | assumption | exact okZ.q (by assumption) | (simp only [Ls_len]; omega) | exact Ls_get (by omega) (by omega) | rfl | decide) (by first | omega | assumption | exact okZ.q (by assumption) | (simp only [Ls_len]; omega) | exact Ls_get (by omega) (by omega) | rfl | decide) ?_
    intro h48 r48 s48
    refine BX1_readComparison_51  ?_
    exact k _ (((f1.tr (r37.wd (by decide) (by decide))).tr r42).tr r48) s48
  obtain ⟨⟨tv, tk, tvv⟩, g1, g2, g3⟩ := id s; have tk1 := tk.1
  refine BX1_readComparison_0 (by first | assumption | exact up_at _ _ _ | (rw [up_ne (by omega)]; first | assumption | exact up_at _ _ _ | (rw [up_ne (by omega)]; first | assumption | exact up_at _ _ _ | (rw [up_ne (by omega)]; assumption)))) ?_
  refine C3 (by first | omega | assumption | exact okZ.q (by assumption) | (simp only [Ls_len]; omega) | exact Ls_get (by omega) (by omega) | rfl | decide) (by first | omega | assumption | exact okZ.q (by assumption) | (simp only [Ls_len]; omega) | exact Ls_get (by omega) (by omega) | rfl | decide) (by first | omega | assumption | exact okZ.q (by assumption) | (simp only [Ls_len]; omega) | exact Ls_get (by omega) (by omega) | rfl | decide) ?_
  intro h2 r2 s2
  have s := s2
  obtain ⟨⟨tv, tk, tvv⟩, g1, g2, g3⟩ := id s; have tk1 := tk.1
  refine BX1_readComparison_5 (by first | assumption | exact up_at _ _ _ | (rw [up_ne (by omega)]; first | assumption | exact up_at _ _ _ | (rw [up_ne (by omega)]; first | assumption | exact up_at _ _ _ | (rw [up_ne (by omega)]; assumption)))) (by rfl) ?_ ?_
  · intro hc1
    refine BX1_readComparison_21 (by first | assumption | exact up_at _ _ _ | (rw [up_ne (by omega)]; first | assumption | exact up_at _ _ _ | (rw [up_ne (by omega)]; first | assumption | exact up_at _ _ _ | (rw [up_ne (by omega)]; assumption)))) ?_
    refine R_X1_refuse (by first | omega | assumption | exact okZ.q (by assumption) | (simp only [Ls_len]; omega) | exact Ls_get (by omega) (by omega) | rfl | decide) ?_
    intro h24 r24 s24
    refine BX1_readComparison_27  ?_
    rw [if_pos (by omega)] at k
    exact k _ (r2.tr r24) s24
  · intro hc2
    refine BX1_readComparison_15  ?_ ?_
    · intro hc3
      refine BX1_readComparison_28 (by first | assumption | exact up_at _ _ _ | (rw [up_ne (by omega)]; first | assumption | exact up_at _ _ _ | (rw [up_ne (by omega)]; first | assumption | exact up_at _ _ _ | (rw [up_ne (by omega)]; assumption)))) (by rfl) ?_ ?_
      · intro hc4
        exact B36 _ r2 s (by omega) (by omega) (by omega)
      · intro hc5
        refine BX1_readComparison_35  ?_
        rw [if_neg (by omega), if_pos (by omega)] at k
        exact k _ r2 s
    · intro hc6
      refine BX1_readComparison_21 (by first | assumption | exact up_at _ _ _ | (rw [up_ne (by omega)]; first | assumption | exact up_at _ _ _ | (rw [up_ne (by omega)]; first | assumption | exact up_at _ _ _ | (rw [up_ne (by omega)]; assumption)))) ?_
      refine R_X1_refuse (by first | omega | assumption | exact okZ.q (by assumption) | (simp only [Ls_len]; omega) | exact Ls_get (by omega) (by omega) | rfl | decide) ?_
      intro h24 r24 s24
      refine BX1_readComparison_27  ?_
      rw [if_pos (by omega)] at k
      exact k _ (r2.tr r24) s24
theorem gk_6 (o : okF F) (A : GKA F cc co we cl iw f) : GK6 F cc co we cl iw (f + 1) := by
  intro d bc bs n h Q S r op hop hop0 s z _ ms k
  have C5 := fun {d bc bs n : Nat} {h : aH} {Q : aQ} {S : Ps} (s : Gm h F cc co we cl op iw S) (z : okZ F S) => (A.2.2.2.2.2.1) d bc bs n h Q S r op hop hop0 s z trivial
  have ek : gk F iw (f + 1) 6 op S = if S.1 ≠ 0 then S else if kdP F S ≠ 41 then gk F iw f 5 op S else if 8 ≤ op then rfP F 3 S else addP 41 0 (gk F iw f 6 (op + 1) (advP F S)) := rfl
  rw [ek] at k
  have o1 := o.1
  have z0 := z.1
  have kd : kdP F S = tkK F S.2.2.1 := rfl
  obtain ⟨⟨tv, tk, tvv⟩, g1, g2, g3⟩ := id s; have tk1 := tk.1
  have B43 : S.1 = 0 → kdP F S = 41 → op < 8 → Rn (d + 10 * r + 14) bc bs mX1_readAsk 43 [some (vR (some 284)), some (vR (some 282))] [] h n Q := by
    intro b1 b2 b3
    rw [if_neg (by omega), if_neg (by omega), if_neg (by omega)] at k
    obtain ⟨r', hr⟩ : ∃ r', r = r' + 1 := ⟨r - 1, by omega⟩
    subst hr
    have a := advP_le o z (by omega)
    have az := advZ o z (show kdP F S ≠ 0 by omega)
    have tn := tkN_gt o z.1 z.2.1 (show tkK F S.2.2.1 ≠ 0 by omega)
    have L2 : leQ F 0 (advP F S) (gk F iw f 6 (op + 1) (advP F S)) := gk_le o f 6 (op + 1) _ az (fun e => absurd e (by decide)) (fun e => absurd e (by decide))
    have z3 := L2.ok az
    obtain ⟨y1, y2, y3, y4⟩ := id z3
    have s2 := s.op (op2 := op + 1)
    have f2 := Fr.one h 284 (cO 1 [vR (some 285), vR (some 286), vI cc, vI S.2.2.2.1, vI (op + 1), vI iw, vR co, vR we, vI S.1, vI S.2.1])
    have p1 : (advP F S).2.2.1 = tkN F S.2.2.1 := rfl
    have C6 : ∀ {bc bs n : Nat} {h : aH} {Q : aQ}, Gm h F cc co we cl (op + 1) iw (advP F S) → (∀ h1, Fr h h1 282 5 → Gm h1 F cc co we cl (op + 1) iw (gk F iw f 6 (op + 1) (advP F S)) → Q none h1 n) → Rn (d + 10 * (r' + 1) + 12) bc bs mX1_readAsk 0 [some (vR (some 284)), some (vR (some 282))] [] h n Q := fun s k => Rn.deep (d := d + 10 * r' + 14) (by omega) (A.2.2.2.2.2.2.1 d _ _ _ _ _ (advP F S) r' (op + 1) (by omega) (by omega) s az trivial (by omega) k)
    have D0 : ∀ {bc bs n : Nat} {h : aH} {Q : aQ}, Gm h F cc co we cl (op + 1) iw S → (∀ h1, Fr h h1 282 5 → Gm h1 F cc co we cl (op + 1) iw (addP 41 0 (gk F iw f 6 (op + 1) (advP F S))) → Q none h1 n) → Rn (d + 10 * (r' + 1) + 13) bc bs mX1_readDenied 0 [some (vR (some 284)), some (vR (some 282))] [] h n Q := by
      intro bc bs n h Q s k
      obtain ⟨⟨tv, tk, tvv⟩, g1, g2, g3⟩ := id s; have tk1 := tk.1
      refine BX1_readDenied_0 (by first | assumption | exact up_at _ _ _ | (rw [up_ne (by omega)]; first | assumption | exact up_at _ _ _ | (rw [up_ne (by omega)]; first | assumption | exact up_at _ _ _ | (rw [up_ne (by omega)]; assumption)))) ?_
      refine R_X9_comeToNext (by first | omega | assumption | exact okZ.q (by assumption) | (simp only [Ls_len]; omega) | exact Ls_get (by omega) (by omega) | rfl | decide) (by first | omega | assumption | exact okZ.q (by assumption) | (simp only [Ls_len]; omega) | exact Ls_get (by omega) (by omega) | rfl | decide) (by first | omega | assumption | exact okZ.q (by assumption) | (simp only [Ls_len]; omega) | exact Ls_get (by omega) (by omega) | rfl | decide) (by first | omega | assumption | exact okZ.q (by assumption) | (simp only [Ls_len]; omega) | exact Ls_get (by omega) (by omega) | rfl | decide) ?_
      intro h1 v1 r1 e1 y1
      have s := s.adv r1 e1 y1
      obtain ⟨⟨tv, tk, tvv⟩, g1, g2, g3⟩ := id s; have tk1 := tk.1
      refine BX1_readDenied_4 (by first | assumption | exact up_at _ _ _ | (rw [up_ne (by omega)]; first | assumption | exact up_at _ _ _ | (rw [up_ne (by omega)]; first | assumption | exact up_at _ _ _ | (rw [up_ne (by omega)]; assumption)))) ?_
      refine C6 (by first | omega | assumption | exact okZ.q (by assumption) | (simp only [Ls_len]; omega) | exact Ls_get (by omega) (by omega) | rfl | decide) ?_
      intro h6 r6 s6
      have s := s6
      obtain ⟨⟨tv, tk, tvv⟩, g1, g2, g3⟩ := id s; have tk1 := tk.1
      refine BX1_readDenied_9 g1 ?_
      refine R_X1_addSign s y3 (by omega) (by decide) (by decide) (by decide) (by decide) fun h5 f5 s5 => ?_
      refine BX1_readDenied_16 ?_
      exact k _ (((r1.wd (by decide) (by decide)).tr r6).tr f5) s5
    refine BX1_readAsk_43 (by first | assumption | exact up_at _ _ _ | (rw [up_ne (by omega)]; first | assumption | exact up_at _ _ _ | (rw [up_ne (by omega)]; first | assumption | exact up_at _ _ _ | (rw [up_ne (by omega)]; assumption)))) (by rfl) (by first | omega | assumption | exact okZ.q (by assumption) | (simp only [Ls_len]; omega) | exact Ls_get (by omega) (by omega) | rfl | decide) (by simp) ?_
    obtain ⟨⟨tv, tk, tvv⟩, g1, g2, g3⟩ := id s2
    have tk1 := tk.1
    refine BX1_readAsk_53 (by first | assumption | exact up_at _ _ _ | (rw [up_ne (by omega)]; first | assumption | exact up_at _ _ _ | (rw [up_ne (by omega)]; first | assumption | exact up_at _ _ _ | (rw [up_ne (by omega)]; assumption)))) ?_
    refine D0 (by first | omega | assumption | exact okZ.q (by assumption) | (simp only [Ls_len]; omega) | exact Ls_get (by omega) (by omega) | rfl | decide) ?_
    intro h55 r55 s55
    have s51 := s55.2.1
    refine BX1_readAsk_58 s51 rfl (by omega) (by simp) ?_
    rw [show op + 1 - 1 = op by omega]
    refine BX1_readAsk_68 ?_
    exact k _ (((f2.wd (by decide) (by decide)).tr r55).tr ((Fr.one h55 284 _).wd (by decide) (by decide))) (s55.op (op2 := op))
  refine BX1_readAsk_0 (by first | assumption | exact up_at _ _ _ | (rw [up_ne (by omega)]; first | assumption | exact up_at _ _ _ | (rw [up_ne (by omega)]; first | assumption | exact up_at _ _ _ | (rw [up_ne (by omega)]; assumption)))) (by rfl) ?_ ?_
  · intro hc1
    refine BX1_readAsk_8 (by first | assumption | exact up_at _ _ _ | (rw [up_ne (by omega)]; first | assumption | exact up_at _ _ _ | (rw [up_ne (by omega)]; first | assumption | exact up_at _ _ _ | (rw [up_ne (by omega)]; assumption)))) (by rfl) ?_ ?_
    · intro hc2
      refine BX1_readAsk_25 (by first | assumption | exact up_at _ _ _ | (rw [up_ne (by omega)]; first | assumption | exact up_at _ _ _ | (rw [up_ne (by omega)]; first | assumption | exact up_at _ _ _ | (rw [up_ne (by omega)]; assumption)))) (by rfl) ?_ ?_
      · intro hc3
        exact B43 (by omega) (by omega) (by omega)
      · intro hc4
        refine BX1_readAsk_34 (by first | assumption | exact up_at _ _ _ | (rw [up_ne (by omega)]; first | assumption | exact up_at _ _ _ | (rw [up_ne (by omega)]; first | assumption | exact up_at _ _ _ | (rw [up_ne (by omega)]; assumption)))) ?_
        refine R_X1_refuse (by first | omega | assumption | exact okZ.q (by assumption) | (simp only [Ls_len]; omega) | exact Ls_get (by omega) (by omega) | rfl | decide) ?_
        intro h37 r37 s37
        refine BX1_readAsk_40  ?_
        rw [if_neg (by omega), if_neg (by omega), if_pos (by omega)] at k
        exact k _ r37 s37
    · intro hc5
      refine BX1_readAsk_17 (by first | assumption | exact up_at _ _ _ | (rw [up_ne (by omega)]; first | assumption | exact up_at _ _ _ | (rw [up_ne (by omega)]; first | assumption | exact up_at _ _ _ | (rw [up_ne (by omega)]; assumption)))) ?_
      refine C5 (by first | omega | assumption | exact okZ.q (by assumption) | (simp only [Ls_len]; omega) | exact Ls_get (by omega) (by omega) | rfl | decide) (by first | omega | assumption | exact okZ.q (by assumption) | (simp only [Ls_len]; omega) | exact Ls_get (by omega) (by omega) | rfl | decide) (by first | omega | assumption | exact okZ.q (by assumption) | (simp only [Ls_len]; omega) | exact Ls_get (by omega) (by omega) | rfl | decide) ?_
      intro h19 r19 s19
      refine BX1_readAsk_22  ?_
      rw [if_neg (by omega), if_pos (by omega)] at k
      exact k _ r19 s19
  · intro hc6
    refine BX1_readAsk_7  ?_
    rw [if_pos (by omega)] at k
    exact k _ (Fr.rf _ _ _) s
end GKL
