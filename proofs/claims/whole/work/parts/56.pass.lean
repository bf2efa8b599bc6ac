section PASS
variable {d bc bs n : Nat} {h : aH} {Q : aQ} {a s z : Nat} {r : Option Nat} {T : Option Tx} {np b came : Int} {pl lk cu S : Int → Int} {l6 l7 : Option aV}
theorem R_X7_placeAt {p : Int} (s : IsSh h a np pl lk cu) (hn : np ≤ 6) (k : Q (some (vI (atP np pl p))) h n) : Rn d bc bs mX7_placeOf 0 [some (vR (some a)), some (vI p)] [] h n Q := R_X7_placeOf s hn k
theorem R_X7_luckAt {p : Int} (s : IsSh h a np pl lk cu) (hn : np ≤ 6) (k : Q (some (vI (atP np lk p))) h n) : Rn d bc bs mX7_luckOf 0 [some (vR (some a)), some (vI p)] [] h n Q := R_X7_luckOf s hn k
theorem wearsM_le {we : Option Dn} : wearsM we S np pl lk b ≤ 99 := by unfold wearsM; split <;> omega
theorem fl82 (w : LwH h a s z r T np pl lk cu S) (o : okSh np pl lk cu) (q : okSe np S) (b0 : 0 ≤ b) (b1 : b < S 72) (c0 : 0 ≤ came) (c1 : came < 100) (K : ∀ h1 l6 l7, Fr2 h h1 s 4 a 2 → LwH h1 a s z r T np pl lk cu (flF (coOf T) np pl lk S b).1 → Rn (d + 6) bc bs mX2_passTide 6 [some (vR (some a)), some (vR (some s)), some (vR (some z)), some (vR r), some (vI (came + (flF (coOf T) np pl lk S b).2)), some (vI (b + 1)), l6, l7] [] h1 n Q) : Rn (d + 6) bc bs mX2_passTide 82 [some (vR (some a)), some (vR (some s)), some (vR (some z)), some (vR r), some (vI came), some (vI b), some (vI (S (b * 6 + 3))), l7] [] h n Q := by
  obtain ⟨w1, w2, w3, w4, w5, w6, w7, w8, w9⟩ := w.1
  have q1 := q.1
  have q2 := q.2 b b0 b1
  have o1 := o.1
  have z3 := q.dr
  have z1 := (q.how (v := 2) (by decide) (by omega) b0 (by omega)).1
  have z4 := z3.1
  have z2 := (z3.how (v := 1) (by decide) (by omega) b0 (by omega)).1
  have b2 : b < drM S 72 := by unfold drM; rw [fset_ne (by decide)]; exact b1
  have b3 : drM S 73 = S 73 := fset_ne (by decide)
  unfold okBo at q2
  have e := w.2.1; have y1 := e.1; have f := w.2.2.1; have f1 := f.1; obtain ⟨lx, v4⟩ := w.2.2.2.2; obtain ⟨tx, y3⟩ := v4.ob
  refine BX2_passTide_82  ?_ ?_
  · intro hc1
    refine BX2_passTide_105 (by first | assumption | exact up_at _ _ _ | (rw [up_ne (by omega)]; first | assumption | exact up_at _ _ _ | (rw [up_ne (by omega)]; first | assumption | exact up_at _ _ _ | (rw [up_ne (by omega)]; assumption)))) ?_
    refine R_X6_get (by first | omega | assumption | (simp only [Ls_len]; omega) | exact Ls_get (by omega) (by omega) | rfl | decide) (by first | omega | assumption | (simp only [Ls_len]; omega) | exact Ls_get (by omega) (by omega) | rfl | decide) (by first | omega | assumption | (simp only [Ls_len]; omega) | exact Ls_get (by omega) (by omega) | rfl | decide) (by first | omega | assumption | (simp only [Ls_len]; omega) | exact Ls_get (by omega) (by omega) | rfl | decide) (by first | omega | assumption | (simp only [Ls_len]; omega) | exact Ls_get (by omega) (by omega) | rfl | decide) (by first | omega | assumption | (simp only [Ls_len]; omega) | exact Ls_get (by omega) (by omega) | rfl | decide) ?_
    refine BX2_passTide_112 (by first | assumption | exact up_at _ _ _ | (rw [up_ne (by omega)]; first | assumption | exact up_at _ _ _ | (rw [up_ne (by omega)]; first | assumption | exact up_at _ _ _ | (rw [up_ne (by omega)]; assumption)))) ?_
    refine R_X6_get (by first | omega | assumption | (simp only [Ls_len]; omega) | exact Ls_get (by omega) (by omega) | rfl | decide) (by first | omega | assumption | (simp only [Ls_len]; omega) | exact Ls_get (by omega) (by omega) | rfl | decide) (by first | omega | assumption | (simp only [Ls_len]; omega) | exact Ls_get (by omega) (by omega) | rfl | decide) (by first | omega | assumption | (simp only [Ls_len]; omega) | exact Ls_get (by omega) (by omega) | rfl | decide) (by first | omega | assumption | (simp only [Ls_len]; omega) | exact Ls_get (by omega) (by omega) | rfl | decide) (by first | omega | assumption | (simp only [Ls_len]; omega) | exact Ls_get (by omega) (by omega) | rfl | decide) ?_
    refine BX2_passTide_120 (by first | assumption | exact up_at _ _ _ | (rw [up_ne (by omega)]; first | assumption | exact up_at _ _ _ | (rw [up_ne (by omega)]; first | assumption | exact up_at _ _ _ | (rw [up_ne (by omega)]; assumption)))) ?_
    refine R_X7_placeAt (by first | omega | assumption | (simp only [Ls_len]; omega) | exact Ls_get (by omega) (by omega) | rfl | decide) (by first | omega | assumption | (simp only [Ls_len]; omega) | exact Ls_get (by omega) (by omega) | rfl | decide) ?_
    refine BX2_passTide_123  ?_ ?_
    · intro hc2
      refine BX2_passTide_170 (by first | omega | assumption | (simp only [Ls_len]; omega) | exact Ls_get (by omega) (by omega) | rfl | decide) ?_
      first
      | (have ef : flF (coOf T) np pl lk S b = (wrM (fset S (b * 6 + 4) 2) b 1, 0) := by unfold flF; rw [if_pos (by assumption)]
         simp only [ef, Int.add_zero] at K
         exact K _ _ _ ((Fr2.a r92).tr (Fr2.a r99)) w)
      | (have ef : flF (coOf T) np pl lk S b = (wrM (fset (drM S) (b * 6 + 4) 1) b 0, 1) := by unfold flF; rw [if_neg (by assumption), if_pos (by assumption), if_pos (by assumption)]
         simp only [ef] at K
         exact K _ _ _ ((((Fr2.a r127).tr (Fr2.b r143)).tr (Fr2.a r157)).tr (Fr2.a r164)) w)
      | (have ef : flF (coOf T) np pl lk S b = (drM S, 0) := by unfold flF; rw [if_neg (by assumption), if_pos (by assumption), if_neg (by omega)]
         simp only [ef, Int.add_zero] at K
         exact K _ _ _ ((Fr2.a r127).tr (Fr2.b r143)) w)
      | (have ef : flF (coOf T) np pl lk S b = (S, 0) := by unfold flF; rw [if_neg (by assumption), if_neg (by assumption)]
         simp only [ef, Int.add_zero] at K
         exact K _ _ _ (Fr2.rf _ _ _ _ _) w)
    · intro hc3
      refine BX2_passTide_126 (by first | assumption | exact up_at _ _ _ | (rw [up_ne (by omega)]; first | assumption | exact up_at _ _ _ | (rw [up_ne (by omega)]; first | assumption | exact up_at _ _ _ | (rw [up_ne (by omega)]; assumption)))) ?_
      refine R_X6_draw (by first | omega | assumption | (simp only [Ls_len]; omega) | exact Ls_get (by omega) (by omega) | rfl | decide) (by first | omega | assumption | (simp only [Ls_len]; omega) | exact Ls_get (by omega) (by omega) | rfl | decide) (by first | omega | assumption | (simp only [Ls_len]; omega) | exact Ls_get (by omega) (by omega) | rfl | decide) (by first | omega | assumption | (simp only [Ls_len]; omega) | exact Ls_get (by omega) (by omega) | rfl | decide) ?_
      intro h127 r127 e127
      have w : LwH _ a s z r T np pl lk cu (drM S) := w.sea r127 e127
      have e := w.2.1; have y1 := e.1; have f := w.2.2.1; have f1 := f.1; obtain ⟨lx, v4⟩ := w.2.2.2.2; obtain ⟨tx, y3⟩ := v4.ob
      refine BX2_passTide_130 (by first | omega | assumption | (simp only [Ls_len]; omega) | exact Ls_get (by omega) (by omega) | rfl | decide) (by first | assumption | exact up_at _ _ _ | (rw [up_ne (by omega)]; first | assumption | exact up_at _ _ _ | (rw [up_ne (by omega)]; first | assumption | exact up_at _ _ _ | (rw [up_ne (by omega)]; assumption)))) ?_
      refine R_X2_comesOf (by first | omega | assumption | (simp only [Ls_len]; omega) | exact Ls_get (by omega) (by omega) | rfl | decide) (by first | omega | assumption | (simp only [Ls_len]; omega) | exact Ls_get (by omega) (by omega) | rfl | decide) (by first | omega | assumption | (simp only [Ls_len]; omega) | exact Ls_get (by omega) (by omega) | rfl | decide) (by first | omega | assumption | (simp only [Ls_len]; omega) | exact Ls_get (by omega) (by omega) | rfl | decide) (by first | omega | assumption | (simp only [Ls_len]; omega) | exact Ls_get (by omega) (by omega) | rfl | decide) ?_
      intro h143 r143 w143
      have w := w143
      have e := w.2.1; have y1 := e.1; have f := w.2.2.1; have f1 := f.1; obtain ⟨lx, v4⟩ := w.2.2.2.2; obtain ⟨tx, y3⟩ := v4.ob
      refine BX2_passTide_146  ?_ ?_
      · intro hc4
        refine BX2_passTide_152 (by first | assumption | exact up_at _ _ _ | (rw [up_ne (by omega)]; first | assumption | exact up_at _ _ _ | (rw [up_ne (by omega)]; first | assumption | exact up_at _ _ _ | (rw [up_ne (by omega)]; assumption)))) ?_
        refine R_X6_set (by first | omega | assumption | (simp only [Ls_len]; omega) | exact Ls_get (by omega) (by omega) | rfl | decide) (by first | omega | assumption | (simp only [Ls_len]; omega) | exact Ls_get (by omega) (by omega) | rfl | decide) (by first | omega | assumption | (simp only [Ls_len]; omega) | exact Ls_get (by omega) (by omega) | rfl | decide) (by first | omega | assumption | (simp only [Ls_len]; omega) | exact Ls_get (by omega) (by omega) | rfl | decide) (by first | omega | assumption | (simp only [Ls_len]; omega) | exact Ls_get (by omega) (by omega) | rfl | decide) (by first | omega | assumption | (simp only [Ls_len]; omega) | exact Ls_get (by omega) (by omega) | rfl | decide) ?_
        intro h157 r157 e157
        have w : LwH _ a s z r T np pl lk cu (fset (drM S) (b * 6 + 4) 1) := w.sea r157 e157
        have e := w.2.1; have y1 := e.1; have f := w.2.2.1; have f1 := f.1; obtain ⟨lx, v4⟩ := w.2.2.2.2; obtain ⟨tx, y3⟩ := v4.ob
        refine BX2_passTide_160 (by first | assumption | exact up_at _ _ _ | (rw [up_ne (by omega)]; first | assumption | exact up_at _ _ _ | (rw [up_ne (by omega)]; first | assumption | exact up_at _ _ _ | (rw [up_ne (by omega)]; assumption)))) ?_
        refine R_X6_writeDown (by first | omega | assumption | (simp only [Ls_len]; omega) | exact Ls_get (by omega) (by omega) | rfl | decide) (by first | omega | assumption | (simp only [Ls_len]; omega) | exact Ls_get (by omega) (by omega) | rfl | decide) (by first | omega | assumption | (simp only [Ls_len]; omega) | exact Ls_get (by omega) (by omega) | rfl | decide) (by first | omega | assumption | (simp only [Ls_len]; omega) | exact Ls_get (by omega) (by omega) | rfl | decide) (by first | omega | assumption | (simp only [Ls_len]; omega) | exact Ls_get (by omega) (by omega) | rfl | decide) (by first | omega | assumption | (simp only [Ls_len]; omega) | exact Ls_get (by omega) (by omega) | rfl | decide) ?_
        intro h164 r164 e164
        have w : LwH _ a s z r T np pl lk cu (wrM (fset (drM S) (b * 6 + 4) 1) b 0) := w.sea r164 e164
        refine BX2_passTide_167 (by first | omega | assumption | (simp only [Ls_len]; omega) | exact Ls_get (by omega) (by omega) | rfl | decide) (by first | omega | assumption | (simp only [Ls_len]; omega) | exact Ls_get (by omega) (by omega) | rfl | decide) ?_
        first
        | (have ef : flF (coOf T) np pl lk S b = (wrM (fset S (b * 6 + 4) 2) b 1, 0) := by unfold flF; rw [if_pos (by assumption)]
           simp only [ef, Int.add_zero] at K
           exact K _ _ _ ((Fr2.a r92).tr (Fr2.a r99)) w)
        | (have ef : flF (coOf T) np pl lk S b = (wrM (fset (drM S) (b * 6 + 4) 1) b 0, 1) := by unfold flF; rw [if_neg (by assumption), if_pos (by assumption), if_pos (by assumption)]
           simp only [ef] at K
           exact K _ _ _ ((((Fr2.a r127).tr (Fr2.b r143)).tr (Fr2.a r157)).tr (Fr2.a r164)) w)
        | (have ef : flF (coOf T) np pl lk S b = (drM S, 0) := by unfold flF; rw [if_neg (by assumption), if_pos (by assumption), if_neg (by omega)]
           simp only [ef, Int.add_zero] at K
           exact K _ _ _ ((Fr2.a r127).tr (Fr2.b r143)) w)
        | (have ef : flF (coOf T) np pl lk S b = (S, 0) := by unfold flF; rw [if_neg (by assumption), if_neg (by assumption)]
           simp only [ef, Int.add_zero] at K
           exact K _ _ _ (Fr2.rf _ _ _ _ _) w)
      · intro hc5
        refine BX2_passTide_149 (by first | omega | assumption | (simp only [Ls_len]; omega) | exact Ls_get (by omega) (by omega) | rfl | decide) ?_
        first
        | (have ef : flF (coOf T) np pl lk S b = (wrM (fset S (b * 6 + 4) 2) b 1, 0) := by unfold flF; rw [if_pos (by assumption)]
           simp only [ef, Int.add_zero] at K
           exact K _ _ _ ((Fr2.a r92).tr (Fr2.a r99)) w)
        | (have ef : flF (coOf T) np pl lk S b = (wrM (fset (drM S) (b * 6 + 4) 1) b 0, 1) := by unfold flF; rw [if_neg (by assumption), if_pos (by assumption), if_pos (by assumption)]
           simp only [ef] at K
           exact K _ _ _ ((((Fr2.a r127).tr (Fr2.b r143)).tr (Fr2.a r157)).tr (Fr2.a r164)) w)
        | (have ef : flF (coOf T) np pl lk S b = (drM S, 0) := by unfold flF; rw [if_neg (by assumption), if_pos (by assumption), if_neg (by omega)]
           simp only [ef, Int.add_zero] at K
           exact K _ _ _ ((Fr2.a r127).tr (Fr2.b r143)) w)
        | (have ef : flF (coOf T) np pl lk S b = (S, 0) := by unfold flF; rw [if_neg (by assumption), if_neg (by assumption)]
           simp only [ef, Int.add_zero] at K
           exact K _ _ _ (Fr2.rf _ _ _ _ _) w)
  · intro hc6
    refine BX2_passTide_87 (by first | assumption | exact up_at _ _ _ | (rw [up_ne (by omega)]; first | assumption | exact up_at _ _ _ | (rw [up_ne (by omega)]; first | assumption | exact up_at _ _ _ | (rw [up_ne (by omega)]; assumption)))) ?_
    refine R_X6_set (by first | omega | assumption | (simp only [Ls_len]; omega) | exact Ls_get (by omega) (by omega) | rfl | decide) (by first | omega | assumption | (simp only [Ls_len]; omega) | exact Ls_get (by omega) (by omega) | rfl | decide) (by first | omega | assumption | (simp only [Ls_len]; omega) | exact Ls_get (by omega) (by omega) | rfl | decide) (by first | omega | assumption | (simp only [Ls_len]; omega) | exact Ls_get (by omega) (by omega) | rfl | decide) (by first | omega | assumption | (simp only [Ls_len]; omega) | exact Ls_get (by omega) (by omega) | rfl | decide) (by first | omega | assumption | (simp only [Ls_len]; omega) | exact Ls_get (by omega) (by omega) | rfl | decide) ?_
    intro h92 r92 e92
    have w : LwH _ a s z r T np pl lk cu (fset S (b * 6 + 4) 2) := w.sea r92 e92
    have e := w.2.1; have y1 := e.1; have f := w.2.2.1; have f1 := f.1; obtain ⟨lx, v4⟩ := w.2.2.2.2; obtain ⟨tx, y3⟩ := v4.ob
    refine BX2_passTide_95 (by first | assumption | exact up_at _ _ _ | (rw [up_ne (by omega)]; first | assumption | exact up_at _ _ _ | (rw [up_ne (by omega)]; first | assumption | exact up_at _ _ _ | (rw [up_ne (by omega)]; assumption)))) ?_
    refine R_X6_writeDown (by first | omega | assumption | (simp only [Ls_len]; omega) | exact Ls_get (by omega) (by omega) | rfl | decide) (by first | omega | assumption | (simp only [Ls_len]; omega) | exact Ls_get (by omega) (by omega) | rfl | decide) (by first | omega | assumption | (simp only [Ls_len]; omega) | exact Ls_get (by omega) (by omega) | rfl | decide) (by first | omega | assumption | (simp only [Ls_len]; omega) | exact Ls_get (by omega) (by omega) | rfl | decide) (by first | omega | assumption | (simp only [Ls_len]; omega) | exact Ls_get (by omega) (by omega) | rfl | decide) (by first | omega | assumption | (simp only [Ls_len]; omega) | exact Ls_get (by omega) (by omega) | rfl | decide) ?_
    intro h99 r99 e99
    have w : LwH _ a s z r T np pl lk cu (wrM (fset S (b * 6 + 4) 2) b 1) := w.sea r99 e99
    refine BX2_passTide_102 (by first | omega | assumption | (simp only [Ls_len]; omega) | exact Ls_get (by omega) (by omega) | rfl | decide) ?_
    first
    | (have ef : flF (coOf T) np pl lk S b = (wrM (fset S (b * 6 + 4) 2) b 1, 0) := by unfold flF; rw [if_pos (by assumption)]
       simp only [ef, Int.add_zero] at K
       exact K _ _ _ ((Fr2.a r92).tr (Fr2.a r99)) w)
    | (have ef : flF (coOf T) np pl lk S b = (wrM (fset (drM S) (b * 6 + 4) 1) b 0, 1) := by unfold flF; rw [if_neg (by assumption), if_pos (by assumption), if_pos (by assumption)]
       simp only [ef] at K
       exact K _ _ _ ((((Fr2.a r127).tr (Fr2.b r143)).tr (Fr2.a r157)).tr (Fr2.a r164)) w)
    | (have ef : flF (coOf T) np pl lk S b = (drM S, 0) := by unfold flF; rw [if_neg (by assumption), if_pos (by assumption), if_neg (by omega)]
       simp only [ef, Int.add_zero] at K
       exact K _ _ _ ((Fr2.a r127).tr (Fr2.b r143)) w)
    | (have ef : flF (coOf T) np pl lk S b = (S, 0) := by unfold flF; rw [if_neg (by assumption), if_neg (by assumption)]
       simp only [ef, Int.add_zero] at K
       exact K _ _ _ (Fr2.rf _ _ _ _ _) w)
theorem fl28 (w : LwH h a s z r T np pl lk cu S) (o : okSh np pl lk cu) (q : okSe np S) (b0 : 0 ≤ b) (b1 : b < S 72) (K : ∀ h1 l7, Fr2 h h1 s 4 a 2 → LwH h1 a s z r T np pl lk cu (flC (weOf T) np pl lk (flA cu S b) b) → Rn (d + 6) bc bs mX2_passTide 82 [some (vR (some a)), some (vR (some s)), some (vR (some z)), some (vR r), some (vI came), some (vI b), some (vI (flC (weOf T) np pl lk (flA cu S b) b (b * 6 + 3))), l7] [] h1 n Q) : Rn (d + 6) bc bs mX2_passTide 28 [some (vR (some a)), some (vR (some s)), some (vR (some z)), some (vR r), some (vI came), some (vI b), l6, l7] [] h n Q := by
  obtain ⟨w1, w2, w3, w4, w5, w6, w7, w8, w9⟩ := w.1
  have q1 := q.1
  have q2 := q.2 b b0 b1
  have o1 := o.1
  have q3 := flA_ok o q b0 b1
  have b2 : b < flA cu S b 72 := by rw [flA_hi (by omega) (by decide)]; exact b1
  have q4 := q3.2 b b0 b2
  have g1 := wearsM_le (we := weOf T) (S := flA cu S b) (np := np) (pl := pl) (lk := lk) (b := b)
  have g2 := wearsM_ge (we := weOf T) (S := flA cu S b) (np := np) (pl := pl) (lk := lk) (b := b)
  unfold okBo at q2 q4
  rw [show flC (weOf T) np pl lk (flA cu S b) b (b * 6 + 3) = max 0 (flA cu S b (b * 6 + 3) - wearsM (weOf T) (flA cu S b) np pl lk b) from fset_at _ _ _] at K
  have e := w.2.1; have y1 := e.1; have f := w.2.2.1; have f1 := f.1; obtain ⟨lx, v4⟩ := w.2.2.2.2; obtain ⟨tx, y3⟩ := v4.ob
  refine BX2_passTide_28 (by first | assumption | exact up_at _ _ _ | (rw [up_ne (by omega)]; first | assumption | exact up_at _ _ _ | (rw [up_ne (by omega)]; first | assumption | exact up_at _ _ _ | (rw [up_ne (by omega)]; assumption)))) (by rfl) ?_
  refine R_X6_get (by first | omega | assumption | (simp only [Ls_len]; omega) | exact Ls_get (by omega) (by omega) | rfl | decide) (by first | omega | assumption | (simp only [Ls_len]; omega) | exact Ls_get (by omega) (by omega) | rfl | decide) (by first | omega | assumption | (simp only [Ls_len]; omega) | exact Ls_get (by omega) (by omega) | rfl | decide) (by first | omega | assumption | (simp only [Ls_len]; omega) | exact Ls_get (by omega) (by omega) | rfl | decide) (by first | omega | assumption | (simp only [Ls_len]; omega) | exact Ls_get (by omega) (by omega) | rfl | decide) (by first | omega | assumption | (simp only [Ls_len]; omega) | exact Ls_get (by omega) (by omega) | rfl | decide) ?_
  refine BX2_passTide_44 (by first | assumption | exact up_at _ _ _ | (rw [up_ne (by omega)]; first | assumption | exact up_at _ _ _ | (rw [up_ne (by omega)]; first | assumption | exact up_at _ _ _ | (rw [up_ne (by omega)]; assumption)))) ?_
  refine R_X7_leadsTo (by first | omega | assumption | (simp only [Ls_len]; omega) | exact Ls_get (by omega) (by omega) | rfl | decide) (by first | omega | assumption | (simp only [Ls_len]; omega) | exact Ls_get (by omega) (by omega) | rfl | decide) (by first | omega | assumption | (simp only [Ls_len]; omega) | exact Ls_get (by omega) (by omega) | rfl | decide) (by first | omega | assumption | (simp only [Ls_len]; omega) | exact Ls_get (by omega) (by omega) | rfl | decide) (by first | omega | assumption | (simp only [Ls_len]; omega) | exact Ls_get (by omega) (by omega) | rfl | decide) ?_
  refine BX2_passTide_47 (by first | assumption | exact up_at _ _ _ | (rw [up_ne (by omega)]; first | assumption | exact up_at _ _ _ | (rw [up_ne (by omega)]; first | assumption | exact up_at _ _ _ | (rw [up_ne (by omega)]; assumption)))) ?_
  refine R_X6_set (by first | omega | assumption | (simp only [Ls_len]; omega) | exact Ls_get (by omega) (by omega) | rfl | decide) (by first | omega | assumption | (simp only [Ls_len]; omega) | exact Ls_get (by omega) (by omega) | rfl | decide) (by first | omega | assumption | (simp only [Ls_len]; omega) | exact Ls_get (by omega) (by omega) | rfl | decide) (by first | omega | assumption | (simp only [Ls_len]; omega) | exact Ls_get (by omega) (by omega) | rfl | decide) (by first | omega | assumption | (simp only [Ls_len]; omega) | exact Ls_get (by omega) (by omega) | rfl | decide) (by first | omega | assumption | (simp only [Ls_len]; omega) | exact Ls_get (by omega) (by omega) | rfl | decide) ?_
  intro h47 r47 e47
  have w : LwH _ a s z r T np pl lk cu (flA cu S b) := w.sea r47 e47
  have e := w.2.1; have y1 := e.1; have f := w.2.2.1; have f1 := f.1; obtain ⟨lx, v4⟩ := w.2.2.2.2; obtain ⟨tx, y3⟩ := v4.ob
  refine BX2_passTide_50 (by first | assumption | exact up_at _ _ _ | (rw [up_ne (by omega)]; first | assumption | exact up_at _ _ _ | (rw [up_ne (by omega)]; first | assumption | exact up_at _ _ _ | (rw [up_ne (by omega)]; assumption)))) ?_
  refine R_X6_get (by first | omega | assumption | (simp only [Ls_len]; omega) | exact Ls_get (by omega) (by omega) | rfl | decide) (by first | omega | assumption | (simp only [Ls_len]; omega) | exact Ls_get (by omega) (by omega) | rfl | decide) (by first | omega | assumption | (simp only [Ls_len]; omega) | exact Ls_get (by omega) (by omega) | rfl | decide) (by first | omega | assumption | (simp only [Ls_len]; omega) | exact Ls_get (by omega) (by omega) | rfl | decide) (by first | omega | assumption | (simp only [Ls_len]; omega) | exact Ls_get (by omega) (by omega) | rfl | decide) (by first | omega | assumption | (simp only [Ls_len]; omega) | exact Ls_get (by omega) (by omega) | rfl | decide) ?_
  refine BX2_passTide_58 (by first | assumption | exact up_at _ _ _ | (rw [up_ne (by omega)]; first | assumption | exact up_at _ _ _ | (rw [up_ne (by omega)]; first | assumption | exact up_at _ _ _ | (rw [up_ne (by omega)]; assumption)))) ?_
  refine R_X2_wearsOf (by first | omega | assumption | (simp only [Ls_len]; omega) | exact Ls_get (by omega) (by omega) | rfl | decide) (by first | omega | assumption | (simp only [Ls_len]; omega) | exact Ls_get (by omega) (by omega) | rfl | decide) (by first | omega | assumption | (simp only [Ls_len]; omega) | exact Ls_get (by omega) (by omega) | rfl | decide) (by first | omega | assumption | (simp only [Ls_len]; omega) | exact Ls_get (by omega) (by omega) | rfl | decide) (by first | omega | assumption | (simp only [Ls_len]; omega) | exact Ls_get (by omega) (by omega) | rfl | decide) ?_
  intro h64 r64 w64
  have w := w64
  have e := w.2.1; have y1 := e.1; have f := w.2.2.1; have f1 := f.1; obtain ⟨lx, v4⟩ := w.2.2.2.2; obtain ⟨tx, y3⟩ := v4.ob
  refine BX2_passTide_67 (by first | omega | assumption | (simp only [Ls_len]; omega) | exact Ls_get (by omega) (by omega) | rfl | decide) ?_
  refine R_J9_max  ?_
  refine BX2_passTide_71 (by first | assumption | exact up_at _ _ _ | (rw [up_ne (by omega)]; first | assumption | exact up_at _ _ _ | (rw [up_ne (by omega)]; first | assumption | exact up_at _ _ _ | (rw [up_ne (by omega)]; assumption)))) ?_
  refine R_X6_set (by first | omega | assumption | (simp only [Ls_len]; omega) | exact Ls_get (by omega) (by omega) | rfl | decide) (by first | omega | assumption | (simp only [Ls_len]; omega) | exact Ls_get (by omega) (by omega) | rfl | decide) (by first | omega | assumption | (simp only [Ls_len]; omega) | exact Ls_get (by omega) (by omega) | rfl | decide) (by first | omega | assumption | (simp only [Ls_len]; omega) | exact Ls_get (by omega) (by omega) | rfl | decide) (by first | omega | assumption | (simp only [Ls_len]; omega) | exact Ls_get (by omega) (by omega) | rfl | decide) (by first | omega | assumption | (simp only [Ls_len]; omega) | exact Ls_get (by omega) (by omega) | rfl | decide) ?_
  intro h79 r79 e79
  have w : LwH _ a s z r T np pl lk cu (flC (weOf T) np pl lk (flA cu S b) b) := w.sea r79 e79
  exact K _ _ (((Fr2.a r47).tr (Fr2.b r64)).tr (Fr2.a r79)) w
theorem fl6 (w : LwH h a s z r T np pl lk cu S) (o : okSh np pl lk cu) (q : okSe np S) (b0 : 0 ≤ b) (b1 : b < S 72) (c0 : 0 ≤ came) (c1 : came < 100) (K : ∀ h1 l6 l7, Fr2 h h1 s 4 a 2 → LwH h1 a s z r T np pl lk cu (floatM (coOf T) (weOf T) np pl lk cu S b).1 → Rn (d + 6) bc bs mX2_passTide 6 [some (vR (some a)), some (vR (some s)), some (vR (some z)), some (vR r), some (vI (came + (floatM (coOf T) (weOf T) np pl lk cu S b).2)), some (vI (b + 1)), l6, l7] [] h1 n Q) : Rn (d + 6) bc bs mX2_passTide 6 [some (vR (some a)), some (vR (some s)), some (vR (some z)), some (vR r), some (vI came), some (vI b), l6, l7] [] h n Q := by
  obtain ⟨w1, w2, w3, w4, w5, w6, w7, w8, w9⟩ := w.1
  have q1 := q.1
  have e2 : flC (weOf T) np pl lk (flA cu S b) b 72 = S 72 := (flC_hi (by omega) (by decide)).trans (flA_hi (by omega) (by decide))
  have e := w.2.1; have y1 := e.1; have f := w.2.2.1; have f1 := f.1; obtain ⟨lx, v4⟩ := w.2.2.2.2; obtain ⟨tx, y3⟩ := v4.ob
  refine BX2_passTide_6 (by first | assumption | exact up_at _ _ _ | (rw [up_ne (by omega)]; first | assumption | exact up_at _ _ _ | (rw [up_ne (by omega)]; first | assumption | exact up_at _ _ _ | (rw [up_ne (by omega)]; assumption)))) (by rfl) ?_ ?_
  · intro hc1
    (exfalso; omega)
  · intro hc2
    refine BX2_passTide_15 (by first | assumption | exact up_at _ _ _ | (rw [up_ne (by omega)]; first | assumption | exact up_at _ _ _ | (rw [up_ne (by omega)]; first | assumption | exact up_at _ _ _ | (rw [up_ne (by omega)]; assumption)))) ?_
    refine R_X6_get (by first | omega | assumption | (simp only [Ls_len]; omega) | exact Ls_get (by omega) (by omega) | rfl | decide) (by first | omega | assumption | (simp only [Ls_len]; omega) | exact Ls_get (by omega) (by omega) | rfl | decide) (by first | omega | assumption | (simp only [Ls_len]; omega) | exact Ls_get (by omega) (by omega) | rfl | decide) (by first | omega | assumption | (simp only [Ls_len]; omega) | exact Ls_get (by omega) (by omega) | rfl | decide) (by first | omega | assumption | (simp only [Ls_len]; omega) | exact Ls_get (by omega) (by omega) | rfl | decide) (by first | omega | assumption | (simp only [Ls_len]; omega) | exact Ls_get (by omega) (by omega) | rfl | decide) ?_
    refine BX2_passTide_22  ?_ ?_
    · intro hc3
      have ef : floatM (coOf T) (weOf T) np pl lk cu S b = flF (coOf T) np pl lk (flC (weOf T) np pl lk (flA cu S b) b) b := by unfold floatM; rw [if_pos (by assumption)]
      simp only [ef] at K
      refine fl28 w o q b0 b1 fun h1 m7 g1 w => ?_
      refine fl82 w o (flC_ok (flA_ok o q b0 b1) b0 (by rw [flA_hi (by omega) (by decide)]; exact b1)) b0 (by omega) c0 c1 fun h2 m6 m7 g2 w => ?_
      exact K _ _ _ (g1.tr g2) w
    · intro hc4
      refine BX2_passTide_25 (by first | omega | assumption | (simp only [Ls_len]; omega) | exact Ls_get (by omega) (by omega) | rfl | decide) ?_
      have ef : floatM (coOf T) (weOf T) np pl lk cu S b = (S, 0) := by unfold floatM; rw [if_neg (by assumption)]
      simp only [ef, Int.add_zero] at K
      exact K _ _ _ (Fr2.rf _ _ _ _ _) w
theorem R_X2_passTide (w : LwH h a s z r T np pl lk cu S) (o : okSh np pl lk cu) (q : okSe np S) (k : ∀ h1, Fr2 h h1 s 4 a 2 → LwH h1 a s z r T np pl lk cu (passM (coOf T) (weOf T) np pl lk cu S).1 → Q (some (vI (passM (coOf T) (weOf T) np pl lk cu S).2)) h1 n) : Rn (d + 6) bc bs mX2_passTide 0 [some (vR (some a)), some (vR (some s)), some (vR (some z)), some (vR r), none, none, none, none] [] h n Q := by
  obtain ⟨w1, w2, w3, w4, w5, w6, w7, w8, w9⟩ := w.1
  have q1 := q.1
  have loop : ∀ (m i : Nat) (h1 : aH) (l6 l7 : Option aV), (i : Int) + m = S 72 → Fr2 h h1 s 4 a 2 → LwH h1 a s z r T np pl lk cu (passN (coOf T) (weOf T) np pl lk cu S i).1 → Rn (d + 6) bc bs mX2_passTide 6 [some (vR (some a)), some (vR (some s)), some (vR (some z)), some (vR r), some (vI (passN (coOf T) (weOf T) np pl lk cu S i).2), some (vI i), l6, l7] [] h1 n Q := by
    intro m
    induction m with
    | zero =>
      intro i h1 l6 l7 hi g w
      have p := passN_ok (co := coOf T) (we := weOf T) o q i (by omega)
      have e9 : i = (S 72).toNat := by omega
      have e := w.2.1; have y1 := e.1; have f := w.2.2.1; have f1 := f.1; obtain ⟨lx, v4⟩ := w.2.2.2.2; obtain ⟨tx, y3⟩ := v4.ob
      refine BX2_passTide_6 (by first | assumption | exact up_at _ _ _ | (rw [up_ne (by omega)]; first | assumption | exact up_at _ _ _ | (rw [up_ne (by omega)]; first | assumption | exact up_at _ _ _ | (rw [up_ne (by omega)]; assumption)))) (by rfl) ?_ ?_
      · intro hc1
        first
        | (exfalso; omega)
        | (
            refine BX2_passTide_176 (by first | assumption | exact up_at _ _ _ | (rw [up_ne (by omega)]; first | assumption | exact up_at _ _ _ | (rw [up_ne (by omega)]; first | assumption | exact up_at _ _ _ | (rw [up_ne (by omega)]; assumption)))) (by rfl) (by first | omega | assumption | (simp only [Ls_len]; omega) | exact Ls_get (by omega) (by omega) | rfl | decide) (by simp) ?_
            refine BX2_passTide_186  ?_
            have w : LwH _ a s z r T np pl lk cu _ := w.sea (Fr.wd (Fr.one h1 s (cO 6 [vR (some (s + 1)), vR (some (s + 2)), vI ((passN (coOf T) (weOf T) np pl lk cu S i).1 72), vI ((passN (coOf T) (weOf T) np pl lk cu S i).1 73 + 1), vI ((passN (coOf T) (weOf T) np pl lk cu S i).1 74)])) (by omega) (by omega)) (e.ti (v := (passN (coOf T) (weOf T) np pl lk cu S i).1 73 + 1))
            rw [p.2.2.1] at w ⊢
            subst e9
            exact k _ (g.tr (Fr2.a (Fr.wd (Fr.one h1 s _) (by omega) (by omega)))) w
          )
      · intro hc2
        first
        | (exfalso; omega)
        | (
            (exfalso; omega)
          )
    | succ m ih =>
      intro i h1 l6 l7 hi g w
      have p := passN_ok (co := coOf T) (we := weOf T) o q i (by omega)
      refine fl6 w o p.1 (by omega) (by omega) p.2.2.2.1 (by omega) fun h2 m6 m7 g2 w2 => ?_
      exact ih (i + 1) h2 m6 m7 (by omega) (g.tr g2) w2
  refine BX2_passTide_0  ?_
  exact loop (S 72).toNat 0 h none none (by omega) (Fr2.rf _ _ _ _ _) w
end PASS
