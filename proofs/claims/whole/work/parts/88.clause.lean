/-! Clauses, their numbers. -/
def rnP (F : Int → Int) (cc w lo hi : Int) (q : Ps × (Int → Int)) : Ps × (Int → Int) :=
  if seP F 2 q.1 = true then (if lo ≤ tkV F q.1.2.2.1 ∧ tkV F q.1.2.2.1 ≤ hi then (advP F q.1, fset q.2 (cc * 4 + w) (tkV F q.1.2.2.1)) else (rfP F 2 q.1, q.2)) else (rfP F 1 q.1, q.2)
def wnP (F : Int → Int) (k : Int) (q : Ps × (Int → Int)) : Ps × (Int → Int) := (wanP F k q.1, q.2)
/-- the numbers of a clause that is no law -/
def nuP (F : Int → Int) (cc k : Int) (q : Ps × (Int → Int)) : Ps × (Int → Int) :=
  if k = 18 then rnP F cc 2 0 9 (wnP F 26 (rnP F cc 1 0 9 q))
  else if k = 19 then rnP F cc 3 0 9 (wnP F 29 (rnP F cc 2 0 9 (wnP F 28 (rnP F cc 1 0 2 q))))
  else if k = 20 then rnP F cc 3 1 99 (wnP F 25 (rnP F cc 2 0 5 (wnP F 29 (rnP F cc 1 0 5 q))))
  else if k = 21 then rnP F cc 2 0 5 (wnP F 31 (rnP F cc 1 0 11 q))
  else if k = 22 then rnP F cc 1 0 11 q
  else rnP F cc 1 1 60 q
theorem advQ {F : Int → Int} {S : Ps} (o : okF F) (z : okQ F S) (hk : kdP F S ≠ 0) : okQ F (advP F S) := by
  have := tkN_gt o z.1 z.2.1 hk
  have := z.1
  exact ⟨by show 0 ≤ tkN F S.2.2.1; omega, by show tkN F S.2.2.1 ≤ F 2; omega, trivial⟩
theorem rfQ {F : Int → Int} {c : Int} {S : Ps} (z : okQ F S) : okQ F (rfP F c S) := by
  unfold okQ
  rw [rfP_eq]
  exact z
theorem rnP_ok {F : Int → Int} {cc w lo hi : Int} {q : Ps × (Int → Int)} (o : okF F) (z : okQ F q.1) : okQ F (rnP F cc w lo hi q).1 := by
  unfold rnP
  split
  · have e := seP_kd (by assumption)
    split
    · exact advQ o z (by omega)
    · exact rfQ z
  · exact rfQ z
theorem wanQ {F : Int → Int} {k : Int} {S : Ps} (o : okF F) (hk : k ≠ 0) (z : okQ F S) : okQ F (wanP F k S) := by
  unfold wanP
  split
  · have e := seP_kd (by assumption)
    exact advQ o z (by omega)
  · exact rfQ z
theorem wnP_ok {F : Int → Int} {k : Int} {q : Ps × (Int → Int)} (o : okF F) (hk : k ≠ 0) (z : okQ F q.1) : okQ F (wnP F k q).1 := wanQ o hk z
theorem nuP_ok {F : Int → Int} {cc k : Int} {q : Ps × (Int → Int)} (o : okF F) (z : okQ F q.1) : okQ F (nuP F cc k q).1 := by
  unfold nuP
  split
  · exact rnP_ok o (wnP_ok o (by decide) (rnP_ok o z))
  · split
    · exact rnP_ok o (wnP_ok o (by decide) (rnP_ok o (wnP_ok o (by decide) (rnP_ok o z))))
    · split
      · exact rnP_ok o (wnP_ok o (by decide) (rnP_ok o (wnP_ok o (by decide) (rnP_ok o z))))
      · split
        · exact rnP_ok o (wnP_ok o (by decide) (rnP_ok o z))
        · split
          · exact rnP_ok o z
          · exact rnP_ok o z
section CLAUSE
variable {d bc bs n : Nat} {h : aH} {Q : aQ} {F cl : Int → Int} {cc op iw : Int} {co we : Option Nat} {S : Ps}
theorem R_X1_notePart {w v : Int} (s : Gm h F cc co we cl op iw S) (c0 : 0 ≤ cc) (c1 : cc < 24) (w0 : 0 ≤ w) (w1 : w < 4) (k : ∀ h1, Fr h h1 282 5 → Gm h1 F cc co we (fset cl (cc * 4 + w) v) op iw S → Q none h1 n) : Rn (d + 1) bc bs mX1_notePart 0 [some (vR (some 284)), some (vI w), some (vI v)] [] h n Q := by
  obtain ⟨⟨tv, tk, tvv⟩, g1, g2, g3⟩ := id s; have tk1 := tk.1
  have l1 := Ls_len 96 cl
  refine BX1_notePart_0 (by first | assumption | exact up_at _ _ _ | (rw [up_ne (by omega)]; first | assumption | exact up_at _ _ _ | (rw [up_ne (by omega)]; first | assumption | exact up_at _ _ _ | (rw [up_ne (by omega)]; assumption)))) (by rfl) (by rfl) (by first | omega | assumption | (simp only [Ls_len]; omega) | exact Ls_get (by omega) (by omega) | rfl | decide) (by first | omega | assumption | (simp only [Ls_len]; omega) | exact Ls_get (by omega) (by omega) | rfl | decide) ?_
  refine R_X12_setCell (by first | omega | assumption | (simp only [Ls_len]; omega) | exact Ls_get (by omega) (by omega) | rfl | decide) (by first | omega | assumption | (simp only [Ls_len]; omega) | exact Ls_get (by omega) (by omega) | rfl | decide) (by first | omega | assumption | (simp only [Ls_len]; omega) | exact Ls_get (by omega) (by omega) | rfl | decide) (by first | omega | assumption | (simp only [Ls_len]; omega) | exact Ls_get (by omega) (by omega) | rfl | decide) (by first | omega | assumption | (simp only [Ls_len]; omega) | exact Ls_get (by omega) (by omega) | rfl | decide) ?_
  refine BX1_notePart_16  ?_
  rw [Ls_set (by omega)]
  have f1 := Fr.one h 285 (cI (Ls 96 (fset cl (cc * 4 + w) v)))
  exact k _ (f1.wd (by decide) (by decide)) ⟨⟨tv, tk.fr f1 (by decide), tvv⟩, (up_ne (by decide)).trans g1, up_at _ _ _, (up_ne (by decide)).trans g3⟩
theorem R_X1_readNumber {w lo hi : Int} {q : Ps × (Int → Int)} (s : Gm h F cc co we q.2 op iw q.1) (o : okF F) (z : okQ F q.1) (c0 : 0 ≤ cc) (c1 : cc < 24) (w0 : 0 ≤ w) (w1 : w < 4) (k : ∀ h1, Fr h h1 282 5 → Gm h1 F cc co we (rnP F cc w lo hi q).2 op iw (rnP F cc w lo hi q).1 → Q none h1 n) : Rn (d + 7) bc bs mX1_readNumber 0 [some (vR (some 284)), some (vR (some 282)), some (vI w), some (vI lo), some (vI hi)] [] h n Q := by
  obtain ⟨S, cl⟩ := q
  dsimp only at s z
  obtain ⟨⟨tv, tk, tvv⟩, g1, g2, g3⟩ := id s; have tk1 := tk.1
  have o1 := o.1
  obtain ⟨z1, z2, -⟩ := id z
  have tn : seP F 2 S = true → (0 ≤ tkN F S.2.2.1 ∧ tkN F S.2.2.1 ≤ F 2) ∧ tv = tkV F S.2.2.1 := by
    intro w
    have q := (seP_kd w).2
    unfold kdP at q
    have := tkN_gt o z1 z2 (show tkK F S.2.2.1 ≠ 0 by omega)
    exact ⟨by omega, tvv q⟩
  unfold rnP at k
  dsimp only at k
  refine BX1_readNumber_0 (by first | assumption | exact up_at _ _ _ | (rw [up_ne (by omega)]; first | assumption | exact up_at _ _ _ | (rw [up_ne (by omega)]; first | assumption | exact up_at _ _ _ | (rw [up_ne (by omega)]; assumption)))) ?_
  refine R_X1_sees (by first | omega | assumption | (simp only [Ls_len]; omega) | exact Ls_get (by omega) (by omega) | rfl | decide) ?_ ?_
  · intro sq
    obtain ⟨tn, te⟩ := tn sq
    subst te
    refine BX1_readNumber_6  ?_ ?_
    · intro hc1
      refine BX1_readNumber_18 (by first | assumption | exact up_at _ _ _ | (rw [up_ne (by omega)]; first | assumption | exact up_at _ _ _ | (rw [up_ne (by omega)]; first | assumption | exact up_at _ _ _ | (rw [up_ne (by omega)]; assumption)))) (by rfl) ?_
      refine R_X12_within  ?_ ?_
      · intro w1 w2
        refine BX1_readNumber_28  ?_ ?_
        · intro hc2
          refine BX1_readNumber_40 (by first | assumption | exact up_at _ _ _ | (rw [up_ne (by omega)]; first | assumption | exact up_at _ _ _ | (rw [up_ne (by omega)]; first | assumption | exact up_at _ _ _ | (rw [up_ne (by omega)]; assumption)))) (by rfl) (by first | assumption | exact up_at _ _ _ | (rw [up_ne (by omega)]; first | assumption | exact up_at _ _ _ | (rw [up_ne (by omega)]; first | assumption | exact up_at _ _ _ | (rw [up_ne (by omega)]; assumption)))) ?_
          refine R_X1_notePart (by first | omega | assumption | (simp only [Ls_len]; omega) | exact Ls_get (by omega) (by omega) | rfl | decide) (by first | omega | assumption | (simp only [Ls_len]; omega) | exact Ls_get (by omega) (by omega) | rfl | decide) (by first | omega | assumption | (simp only [Ls_len]; omega) | exact Ls_get (by omega) (by omega) | rfl | decide) (by first | omega | assumption | (simp only [Ls_len]; omega) | exact Ls_get (by omega) (by omega) | rfl | decide) (by first | omega | assumption | (simp only [Ls_len]; omega) | exact Ls_get (by omega) (by omega) | rfl | decide) ?_
          intro h46 r46 s46
          have s := s46
          obtain ⟨⟨tv, tk, tvv⟩, g1, g2, g3⟩ := id s; have tk1 := tk.1
          refine BX1_readNumber_49 (by first | assumption | exact up_at _ _ _ | (rw [up_ne (by omega)]; first | assumption | exact up_at _ _ _ | (rw [up_ne (by omega)]; first | assumption | exact up_at _ _ _ | (rw [up_ne (by omega)]; assumption)))) ?_
          refine R_X9_comeToNext (by first | omega | assumption | (simp only [Ls_len]; omega) | exact Ls_get (by omega) (by omega) | rfl | decide) (by first | omega | assumption | (simp only [Ls_len]; omega) | exact Ls_get (by omega) (by omega) | rfl | decide) (by first | omega | assumption | (simp only [Ls_len]; omega) | exact Ls_get (by omega) (by omega) | rfl | decide) (by first | omega | assumption | (simp only [Ls_len]; omega) | exact Ls_get (by omega) (by omega) | rfl | decide) ?_
          intro h50 v50 r50 e50 y50
          refine BX1_readNumber_53  ?_
          rw [if_pos sq, if_pos (by omega)] at k
          exact k _ (r46.tr (r50.wd (by decide) (by decide))) (s.adv r50 e50 y50)
        · intro hc3
          exact absurd hc3 (by decide)
      · intro w3
        refine BX1_readNumber_28  ?_ ?_
        · intro hc4
          exact absurd hc4 (by decide)
        · intro hc5
          refine BX1_readNumber_31 (by first | assumption | exact up_at _ _ _ | (rw [up_ne (by omega)]; first | assumption | exact up_at _ _ _ | (rw [up_ne (by omega)]; first | assumption | exact up_at _ _ _ | (rw [up_ne (by omega)]; assumption)))) ?_
          refine R_X1_refuse (by first | omega | assumption | (simp only [Ls_len]; omega) | exact Ls_get (by omega) (by omega) | rfl | decide) ?_
          intro h34 r34 s34
          refine BX1_readNumber_37  ?_
          rw [if_pos sq, if_neg (by omega)] at k
          exact k _ r34 s34
    · intro hc6
      exact absurd hc6 (by decide)
  · intro sq
    refine BX1_readNumber_6  ?_ ?_
    · intro hc7
      exact absurd hc7 (by decide)
    · intro hc8
      refine BX1_readNumber_9 (by first | assumption | exact up_at _ _ _ | (rw [up_ne (by omega)]; first | assumption | exact up_at _ _ _ | (rw [up_ne (by omega)]; first | assumption | exact up_at _ _ _ | (rw [up_ne (by omega)]; assumption)))) ?_
      refine R_X1_refuse (by first | omega | assumption | (simp only [Ls_len]; omega) | exact Ls_get (by omega) (by omega) | rfl | decide) ?_
      intro h12 r12 s12
      refine BX1_readNumber_15  ?_
      rw [if_neg (not_se sq)] at k
      exact k _ r12 s12
theorem R_X1_readNumbers {kd : Int} {q : Ps × (Int → Int)} (s : Gm h F cc co we q.2 op iw q.1) (o : okF F) (z : okQ F q.1) (c0 : 0 ≤ cc) (c1 : cc < 24) (k : ∀ h1, Fr h h1 282 5 → Gm h1 F cc co we (nuP F cc kd q).2 op iw (nuP F cc kd q).1 → Q none h1 n) : Rn (d + 8) bc bs mX1_readNumbers 0 [some (vR (some 284)), some (vR (some 282)), some (vI kd)] [] h n Q := by
  unfold nuP at k
  obtain ⟨⟨tv, tk, tvv⟩, g1, g2, g3⟩ := id s; have tk1 := tk.1
  refine BX1_readNumbers_0  ?_ ?_ ?_ ?_ ?_ ?_
  · intro hc1
    rw [if_neg (by omega), if_neg (by omega), if_neg (by omega), if_neg (by omega), if_neg (by omega)] at k
    refine BX1_readNumbers_188 g1 ?_
    refine R_X1_readNumber (q := q) s o z c0 c1 (by decide) (by decide) fun h1 f1 s1 => ?_
    refine BX1_readNumbers_197 ?_
    exact k _ f1 s1
  · intro hc2
    rw [if_pos (by assumption)] at k
    refine BX1_readNumbers_36 g1 ?_
    refine R_X1_readNumber (q := q) s o z c0 c1 (by decide) (by decide) fun h1 f1 s1 => ?_
    refine BX1_readNumbers_45 s1.2.1 ?_
    refine R_X1_want s1 o (rnP_ok o z) (by decide) fun h2 f2 s2 => ?_
    refine BX1_readNumbers_52 s2.2.1 ?_
    refine R_X1_readNumber (q := wnP F 26 (rnP F cc 1 0 9 q)) s2 o (wnP_ok o (by decide) (rnP_ok o z)) c0 c1 (by decide) (by decide) fun h3 f3 s3 => ?_
    refine BX1_readNumbers_61 ?_
    exact k _ ((f1.tr f2).tr f3) s3
  · intro hc3
    rw [if_neg (by omega), if_pos (by assumption)] at k
    refine BX1_readNumbers_64 g1 ?_
    refine R_X1_readNumber (q := q) s o z c0 c1 (by decide) (by decide) fun h1 f1 s1 => ?_
    refine BX1_readNumbers_72 s1.2.1 ?_
    refine R_X1_want s1 o (rnP_ok o z) (by decide) fun h2 f2 s2 => ?_
    refine BX1_readNumbers_79 s2.2.1 ?_
    refine R_X1_readNumber (q := wnP F 28 (rnP F cc 1 0 2 q)) s2 o (wnP_ok o (by decide) (rnP_ok o z)) c0 c1 (by decide) (by decide) fun h3 f3 s3 => ?_
    refine BX1_readNumbers_88 s3.2.1 ?_
    refine R_X1_want s3 o (rnP_ok o (wnP_ok o (by decide) (rnP_ok o z))) (by decide) fun h4 f4 s4 => ?_
    refine BX1_readNumbers_95 s4.2.1 ?_
    refine R_X1_readNumber (q := wnP F 29 (rnP F cc 2 0 9 (wnP F 28 (rnP F cc 1 0 2 q)))) s4 o (wnP_ok o (by decide) (rnP_ok o (wnP_ok o (by decide) (rnP_ok o z)))) c0 c1 (by decide) (by decide) fun h5 f5 s5 => ?_
    refine BX1_readNumbers_104 ?_
    exact k _ ((((f1.tr f2).tr f3).tr f4).tr f5) s5
  · intro hc4
    rw [if_neg (by omega), if_neg (by omega), if_pos (by assumption)] at k
    refine BX1_readNumbers_107 g1 ?_
    refine R_X1_readNumber (q := q) s o z c0 c1 (by decide) (by decide) fun h1 f1 s1 => ?_
    refine BX1_readNumbers_115 s1.2.1 ?_
    refine R_X1_want s1 o (rnP_ok o z) (by decide) fun h2 f2 s2 => ?_
    refine BX1_readNumbers_122 s2.2.1 ?_
    refine R_X1_readNumber (q := wnP F 29 (rnP F cc 1 0 5 q)) s2 o (wnP_ok o (by decide) (rnP_ok o z)) c0 c1 (by decide) (by decide) fun h3 f3 s3 => ?_
    refine BX1_readNumbers_130 s3.2.1 ?_
    refine R_X1_want s3 o (rnP_ok o (wnP_ok o (by decide) (rnP_ok o z))) (by decide) fun h4 f4 s4 => ?_
    refine BX1_readNumbers_137 s4.2.1 ?_
    refine R_X1_readNumber (q := wnP F 25 (rnP F cc 2 0 5 (wnP F 29 (rnP F cc 1 0 5 q)))) s4 o (wnP_ok o (by decide) (rnP_ok o (wnP_ok o (by decide) (rnP_ok o z)))) c0 c1 (by decide) (by decide) fun h5 f5 s5 => ?_
    refine BX1_readNumbers_146 ?_
    exact k _ ((((f1.tr f2).tr f3).tr f4).tr f5) s5
  · intro hc5
    rw [if_neg (by omega), if_neg (by omega), if_neg (by omega), if_pos (by assumption)] at k
    refine BX1_readNumbers_149 g1 ?_
    refine R_X1_readNumber (q := q) s o z c0 c1 (by decide) (by decide) fun h1 f1 s1 => ?_
    refine BX1_readNumbers_158 s1.2.1 ?_
    refine R_X1_want s1 o (rnP_ok o z) (by decide) fun h2 f2 s2 => ?_
    refine BX1_readNumbers_165 s2.2.1 ?_
    refine R_X1_readNumber (q := wnP F 31 (rnP F cc 1 0 11 q)) s2 o (wnP_ok o (by decide) (rnP_ok o z)) c0 c1 (by decide) (by decide) fun h3 f3 s3 => ?_
    refine BX1_readNumbers_173 ?_
    exact k _ ((f1.tr f2).tr f3) s3
  · intro hc6
    rw [if_neg (by omega), if_neg (by omega), if_neg (by omega), if_neg (by omega), if_pos (by assumption)] at k
    refine BX1_readNumbers_176 g1 ?_
    refine R_X1_readNumber (q := q) s o z c0 c1 (by decide) (by decide) fun h1 f1 s1 => ?_
    refine BX1_readNumbers_185 ?_
    exact k _ f1 s1
end CLAUSE
