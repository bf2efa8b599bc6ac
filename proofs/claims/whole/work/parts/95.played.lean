/-! Played by a text; whose law. -/
def okTx (T : Tx) : Prop := (0 ≤ T.1 ∧ T.1 ≤ 24) ∧ ∀ i, 0 ≤ i → i < T.1 → T.2.1 (i * 4 + 0) = 23 → 1 ≤ T.2.1 (i * 4 + 1) ∧ T.2.1 (i * 4 + 1) ≤ 60
def okX (W : Int → Int → Int) (X : Int → Tx) : Prop := ∀ j, 0 ≤ j → j < W 3 1 → okTx (X j)
def plW (X : Int → Tx) (W : Int → Int → Int) (k a b c : Int) : (Int → Int → Int) × Int :=
  if k = 18 then (sPerson W a b, if aPerson W a b = -1 then 0 else 1)
  else if k = 19 then (sCurrent W a b c, aCurrent a b c)
  else if k = 20 then (sToss 1 W a b c, if aToss W a b c = -1 then 0 else 1)
  else if k = 21 then (sFish 1 W a b, aFish W a b)
  else if k = 22 then (sAgain 1 W a, aAgain W a)
  else if k = 23 then ((tidesM X W a.toNat).1, if W 1 73 + a ≤ 9999 then 1 else 0)
  else (W, 1)
def plT (X : Int → Tx) (T : Tx) (W : Int → Int → Int) (i : Int) : (Int → Int → Int) × Int := plW X W (T.2.1 (i * 4 + 0)) (T.2.1 (i * 4 + 1)) (T.2.1 (i * 4 + 2)) (T.2.1 (i * 4 + 3))
def playN (X : Int → Tx) (T : Tx) : Nat → Int → (Int → Int → Int) → (Int → Int → Int) × Int
  | 0, _, W => (W, -1)
  | m + 1, i, W => if (plT X T W i).2 = 0 then ((plT X T W i).1, i) else playN X T m (i + 1) (plT X T W i).1
def sPlayed (X : Int → Tx) (W : Int → Int → Int) (t : Int) : Int → Int → Int := if 0 ≤ t ∧ t < W 3 1 then (playN X (X t) (X t).1.toNat 0 W).1 else W
def aPlayed (X : Int → Tx) (W : Int → Int → Int) (t : Int) : Int := if 0 ≤ t ∧ t < W 3 1 then (playN X (X t) (X t).1.toNat 0 W).2 else -2
theorem okW_person {W : Int → Int → Int} {p l : Int} (ok : okW W) : okW (sPerson W p l) := by
  unfold sPerson
  split
  · rename_i c
    obtain ⟨⟨a1, a2, a3⟩, o2, o3, o4, o5⟩ := ok
    have eS : ∀ S, okSe (W 3 3) S → okSe (W 3 3 + 1) S := fun S q => ⟨q.1, fun b b0 b1 => by have := q.2 b b0 b1; unfold okBo at this ⊢; omega⟩
    refine ⟨⟨by show 0 ≤ W 3 3 + 1 ∧ W 3 3 + 1 ≤ 6; omega, fun j j0 j1 => ?_, a3⟩, eS _ o2, o3, fun j j0 j1 => ?_, o5⟩
    · have j1 : j < W 3 3 + 1 := j1
      show (0 ≤ fset (W 0) (W 3 3) p j ∧ fset (W 0) (W 3 3) p j ≤ 9) ∧ 0 ≤ fset (W 5) (W 3 3) l j ∧ fset (W 5) (W 3 3) l j ≤ 9
      by_cases q : j = W 3 3
      · subst q; rw [fset_at, fset_at]; omega
      · rw [fset_ne q, fset_ne q]; exact a2 j j0 (by omega)
    · show okSe (W 3 3 + 1) (if 10 + j = 0 then _ else if 10 + j = 5 then _ else if 10 + j = 6 then _ else if 10 + j = 3 then _ else W (10 + j))
      rw [if_neg (by omega), if_neg (by omega), if_neg (by omega), if_neg (by omega)]
      exact eS _ (o4 j j0 j1)
  · exact ok
theorem okW_current {W : Int → Int → Int} {t p q : Int} (ok : okW W) : okW (sCurrent W t p q) := by
  unfold sCurrent
  split
  · rename_i c
    obtain ⟨⟨a1, a2, a3⟩, o2, o3, o4, o5⟩ := ok
    refine ⟨⟨a1, a2, fun j j0 j1 => ?_⟩, o2, o3, fun j j0 j1 => ?_, o5⟩
    · show 0 ≤ fset (W 6) (t * 10 + p) q j ∧ fset (W 6) (t * 10 + p) q j ≤ 9
      by_cases w : j = t * 10 + p
      · subst w; rw [fset_at]; omega
      · rw [fset_ne w]; exact a3 j j0 j1
    · show okSe (W 3 3) (if 10 + j = 0 then _ else if 10 + j = 5 then _ else if 10 + j = 6 then _ else if 10 + j = 3 then _ else W (10 + j))
      rw [if_neg (by omega), if_neg (by omega), if_neg (by omega), if_neg (by omega)]
      exact o4 j j0 j1
  · exact ok
theorem plT_ok {X : Int → Tx} {T : Tx} {W : Int → Int → Int} {i : Int} (ok : okW W) : okW (plT X T W i).1 := by
  unfold plT plW
  split
  · exact okW_person ok
  · split
    · exact okW_current ok
    · split
      · exact okW_toss ok
      · split
        · exact okW_fish ok
        · split
          · exact okW_again ok
          · split
            · exact (tidesM_ok ok _).1
            · exact ok
/-- how many texts there are, and which rules, no clause changes -/
def sameT (W V : Int → Int → Int) : Prop := V 3 1 = W 3 1 ∧ V 3 2 = W 3 2
theorem tidesM_t {X : Int → Tx} {W : Int → Int → Int} : ∀ k, sameT W (tidesM X W k).1 := by
  intro k
  induction k with
  | zero => exact ⟨rfl, rfl⟩
  | succ k ih =>
    unfold tidesM
    split
    · exact ih
    · exact ih
theorem step_t {c : Int} {W : Int → Int → Int} : sameT W (stepM c W) := by unfold stepM; split <;> exact ⟨rfl, rfl⟩
theorem plT_t {X : Int → Tx} {T : Tx} {W : Int → Int → Int} {i : Int} : sameT W (plT X T W i).1 := by
  unfold plT plW
  split
  · unfold sPerson; dsimp only; split <;> exact ⟨rfl, rfl⟩
  · split
    · unfold sCurrent; dsimp only; split <;> exact ⟨rfl, rfl⟩
    · split
      · unfold sToss; dsimp only; split
        · exact step_t (c := 1)
        · exact ⟨rfl, rfl⟩
      · split
        · unfold sFish; dsimp only; split
          · exact step_t (c := 1)
          · exact ⟨rfl, rfl⟩
        · split
          · unfold sAgain; dsimp only; split
            · exact step_t (c := 1)
            · exact ⟨rfl, rfl⟩
          · split
            · exact tidesM_t _
            · exact ⟨rfl, rfl⟩
section PL
variable {X : Int → Tx} {W : Int → Int → Int} {k a b c : Int}
theorem pl18 (z : k = 18) : plW X W k a b c = (sPerson W a b, if aPerson W a b = -1 then 0 else 1) := by subst z; rfl
theorem pl19 (z : k = 19) : plW X W k a b c = (sCurrent W a b c, aCurrent a b c) := by subst z; rfl
theorem pl20 (z : k = 20) : plW X W k a b c = (sToss 1 W a b c, if aToss W a b c = -1 then 0 else 1) := by subst z; rfl
theorem pl21 (z : k = 21) : plW X W k a b c = (sFish 1 W a b, aFish W a b) := by subst z; rfl
theorem pl22 (z : k = 22) : plW X W k a b c = (sAgain 1 W a, aAgain W a) := by subst z; rfl
theorem pl23 (z : k = 23) : plW X W k a b c = ((tidesM X W a.toNat).1, if W 1 73 + a ≤ 9999 then 1 else 0) := by subst z; rfl
theorem plE (z : k < 18 ∨ 23 < k) : plW X W k a b c = (W, 1) := by unfold plW; rw [if_neg (by omega), if_neg (by omega), if_neg (by omega), if_neg (by omega), if_neg (by omega), if_neg (by omega)]
theorem pl18n (z : k = 18) (w : ¬(0 ≤ a ∧ a ≤ 9 ∧ 0 ≤ b ∧ b ≤ 9 ∧ W 3 3 < 6)) : plW X W k a b c = (W, 0) := by rw [pl18 z]; unfold sPerson aPerson; rw [if_neg w, if_neg w]; rfl
theorem pl18p (z : k = 18) (o : 0 ≤ W 3 3) (w : 0 ≤ a ∧ a ≤ 9 ∧ 0 ≤ b ∧ b ≤ 9 ∧ W 3 3 < 6) : plW X W k a b c = (wSh W (W 3 3 + 1) (fset (W 0) (W 3 3) a) (fset (W 5) (W 3 3) b) (W 6), 1) := by rw [pl18 z]; unfold sPerson aPerson; rw [if_pos w, if_pos w, if_neg (by omega)]
theorem pl19n (z : k = 19) (w : ¬(0 ≤ a ∧ a ≤ 2 ∧ 0 ≤ b ∧ b ≤ 9 ∧ 0 ≤ c ∧ c ≤ 9)) : plW X W k a b c = (W, 0) := by rw [pl19 z]; unfold sCurrent aCurrent; rw [if_neg w, if_neg w]
theorem pl19p (z : k = 19) (w : 0 ≤ a ∧ a ≤ 2 ∧ 0 ≤ b ∧ b ≤ 9 ∧ 0 ≤ c ∧ c ≤ 9) : plW X W k a b c = (wSh W (W 3 3) (W 0) (W 5) (fset (W 6) (a * 10 + b) c), 1) := by rw [pl19 z]; unfold sCurrent aCurrent; rw [if_pos w, if_pos w]
theorem pl20n (z : k = 20) (w : aToss W a b c = -1) : plW X W k a b c = (sToss 1 W a b c, 0) := by rw [pl20 z, if_pos w]
theorem pl20p (z : k = 20) (w : aToss W a b c ≠ -1) : plW X W k a b c = (sToss 1 W a b c, 1) := by rw [pl20 z, if_neg w]
theorem pl23n (z : k = 23) (w : ¬ W 1 73 + a ≤ 9999) : plW X W k a b c = ((tidesM X W a.toNat).1, 0) := by rw [pl23 z, if_neg w]
theorem pl23p (z : k = 23) (w : W 1 73 + a ≤ 9999) : plW X W k a b c = ((tidesM X W a.toNat).1, 1) := by rw [pl23 z, if_pos w]
end PL
section PLAYED
variable {d bc bs n : Nat} {g h : aH} {Q : aQ} {W V : Int → Int → Int} {X : Int → Tx} {F : Int → Int}
theorem R_X10_part {x : Nat} {T : Tx} {i u : Int} (s : IsTx h x T) (i0 : 0 ≤ i) (i1 : i < T.1) (u0 : 0 ≤ u) (u1 : u < 4) (k : Q (some (vI (T.2.1 (i * 4 + u)))) h n) : Rn (d + 1) bc bs mX10_part 0 [some (vR (some x)), some (vI i), some (vI u)] [] h n Q := by
  obtain ⟨s1, rc, oc, ow, m, s2, s3, s4, s5, s6, s7, s8⟩ := s
  have l1 := Ls_len (4 * m) T.2.1
  refine BX10_part_0 (by first | assumption | exact up_at _ _ _ | (rw [up_ne (by omega)]; first | assumption | exact up_at _ _ _ | (rw [up_ne (by omega)]; first | assumption | exact up_at _ _ _ | (rw [up_ne (by omega)]; assumption)))) (by rfl) (by first | omega | assumption | (simp only [Ls_len]; omega) | exact Ls_get (by omega) (by omega) | rfl | decide) (by first | omega | assumption | (simp only [Ls_len]; omega) | exact Ls_get (by omega) (by omega) | rfl | decide) ?_
  refine R_X12_cell (by first | omega | assumption | (simp only [Ls_len]; omega) | exact Ls_get (by omega) (by omega) | rfl | decide) (by first | omega | assumption | (simp only [Ls_len]; omega) | exact Ls_get (by omega) (by omega) | rfl | decide) (by first | omega | assumption | (simp only [Ls_len]; omega) | exact Ls_get (by omega) (by omega) | rfl | decide) (by first | omega | assumption | (simp only [Ls_len]; omega) | exact Ls_get (by omega) (by omega) | rfl | decide) (by first | omega | assumption | (simp only [Ls_len]; omega) | exact Ls_get (by omega) (by omega) | rfl | decide) ?_
  refine BX10_part_12  ?_
  exact k
theorem R_X10_countClauses {x : Nat} {T : Tx} (s : IsTx h x T) (k : Q (some (vI T.1)) h n) : Rn d bc bs mX10_countClauses 0 [some (vR (some x))] [] h n Q := by
  obtain ⟨s1, rc, oc, ow, m, s2, s3, s4, s5, s6, s7, s8⟩ := s
  have l1 := Ls_len (4 * m) T.2.1
  have e : (((Ls (4 * m) T.2.1).length : Int)) / 4 = T.1 := by rw [l1]; omega
  refine BX10_countClauses_0 (by first | assumption | exact up_at _ _ _ | (rw [up_ne (by omega)]; first | assumption | exact up_at _ _ _ | (rw [up_ne (by omega)]; first | assumption | exact up_at _ _ _ | (rw [up_ne (by omega)]; assumption)))) (by rfl) (by first | assumption | exact up_at _ _ _ | (rw [up_ne (by omega)]; first | assumption | exact up_at _ _ _ | (rw [up_ne (by omega)]; first | assumption | exact up_at _ _ _ | (rw [up_ne (by omega)]; assumption)))) (by first | omega | assumption | (simp only [Ls_len]; omega) | exact Ls_get (by omega) (by omega) | rfl | decide) (by first | omega | assumption | (simp only [Ls_len]; omega) | exact Ls_get (by omega) (by omega) | rfl | decide) (by first | omega | assumption | (simp only [Ls_len]; omega) | exact Ls_get (by omega) (by omega) | rfl | decide) (by first | omega | assumption | (simp only [Ls_len]; omega) | exact Ls_get (by omega) (by omega) | rfl | decide) ?_
  (rw [e]; exact k)
theorem P_playClause {t i : Int} {x : Nat} (s : IsPo g h W V X F) (ok : okW W) (tx : IsTx h x (X t)) (tk : okTx (X t)) (i0 : 0 ≤ i) (i1 : i < (X t).1) (k : ∀ h1, IsPo g h1 (plT X (X t) W i).1 V X F → Q (some (vI (plT X (X t) W i).2)) h1 n) : Rn (d + 25) bc bs mX12_playClause 0 [some (vR (some 1)), some (vR (some x)), some (vI i), none, none, none, none] [] h n Q := by
  obtain ⟨_, rc, oc, ow, m, y2, y3, y4, y5, y6, y7, y8⟩ := id tx
  have tk2 := tk.2 i i0 i1
  have tk1 := tk.1
  unfold plT at k
  obtain ⟨fp, p1, w, v, tp, gr, ⟨lx, la⟩, ro, ri, Gx, gl⟩ := id s; have w1 := w.1; have sh := w.2.1; have se := w.2.2.1; obtain ⟨Ts, ps, st, ste⟩ := w.2.2.2.1; have sa := w.2.2.2.2.1; have sh1 := sh.1; have se1 := se.1; have st1 := st.1; have sa1 := sa.1; obtain ⟨tl, la1⟩ := la.ob; have gl1 := gl.1; have bk0 := se.2.2; have bk1 := bk0.1
  obtain ⟨o1, o2, o3, o4, o5⟩ := id ok; have o11 := o1.1; have o21 := o2.1; have o51 := o5.1; have o52 := o5.2.1; have o53 := o5.2.2.1; have o54 := o5.2.2.2.1
  have q1 := aFish_01 W ((X t).2.1 (i * 4 + 1)) ((X t).2.1 (i * 4 + 2))
  have q2 := aAgain_01 W ((X t).2.1 (i * 4 + 1))
  refine BX12_playClause_0 (by first | assumption | exact up_at _ _ _ | (rw [up_ne (by omega)]; first | assumption | exact up_at _ _ _ | (rw [up_ne (by omega)]; first | assumption | exact up_at _ _ _ | (rw [up_ne (by omega)]; assumption)))) ?_
  refine R_X10_part (by first | omega | assumption | (simp only [Ls_len]; omega) | exact Ls_get (by omega) (by omega) | rfl | decide) (by first | omega | assumption | (simp only [Ls_len]; omega) | exact Ls_get (by omega) (by omega) | rfl | decide) (by first | omega | assumption | (simp only [Ls_len]; omega) | exact Ls_get (by omega) (by omega) | rfl | decide) (by first | omega | assumption | (simp only [Ls_len]; omega) | exact Ls_get (by omega) (by omega) | rfl | decide) (by first | omega | assumption | (simp only [Ls_len]; omega) | exact Ls_get (by omega) (by omega) | rfl | decide) ?_
  refine BX12_playClause_6 (by first | assumption | exact up_at _ _ _ | (rw [up_ne (by omega)]; first | assumption | exact up_at _ _ _ | (rw [up_ne (by omega)]; first | assumption | exact up_at _ _ _ | (rw [up_ne (by omega)]; assumption)))) ?_
  refine R_X10_part (by first | omega | assumption | (simp only [Ls_len]; omega) | exact Ls_get (by omega) (by omega) | rfl | decide) (by first | omega | assumption | (simp only [Ls_len]; omega) | exact Ls_get (by omega) (by omega) | rfl | decide) (by first | omega | assumption | (simp only [Ls_len]; omega) | exact Ls_get (by omega) (by omega) | rfl | decide) (by first | omega | assumption | (simp only [Ls_len]; omega) | exact Ls_get (by omega) (by omega) | rfl | decide) (by first | omega | assumption | (simp only [Ls_len]; omega) | exact Ls_get (by omega) (by omega) | rfl | decide) ?_
  refine BX12_playClause_13 (by first | assumption | exact up_at _ _ _ | (rw [up_ne (by omega)]; first | assumption | exact up_at _ _ _ | (rw [up_ne (by omega)]; first | assumption | exact up_at _ _ _ | (rw [up_ne (by omega)]; assumption)))) ?_
  refine R_X10_part (by first | omega | assumption | (simp only [Ls_len]; omega) | exact Ls_get (by omega) (by omega) | rfl | decide) (by first | omega | assumption | (simp only [Ls_len]; omega) | exact Ls_get (by omega) (by omega) | rfl | decide) (by first | omega | assumption | (simp only [Ls_len]; omega) | exact Ls_get (by omega) (by omega) | rfl | decide) (by first | omega | assumption | (simp only [Ls_len]; omega) | exact Ls_get (by omega) (by omega) | rfl | decide) (by first | omega | assumption | (simp only [Ls_len]; omega) | exact Ls_get (by omega) (by omega) | rfl | decide) ?_
  refine BX12_playClause_21 (by first | assumption | exact up_at _ _ _ | (rw [up_ne (by omega)]; first | assumption | exact up_at _ _ _ | (rw [up_ne (by omega)]; first | assumption | exact up_at _ _ _ | (rw [up_ne (by omega)]; assumption)))) ?_
  refine R_X10_part (by first | omega | assumption | (simp only [Ls_len]; omega) | exact Ls_get (by omega) (by omega) | rfl | decide) (by first | omega | assumption | (simp only [Ls_len]; omega) | exact Ls_get (by omega) (by omega) | rfl | decide) (by first | omega | assumption | (simp only [Ls_len]; omega) | exact Ls_get (by omega) (by omega) | rfl | decide) (by first | omega | assumption | (simp only [Ls_len]; omega) | exact Ls_get (by omega) (by omega) | rfl | decide) (by first | omega | assumption | (simp only [Ls_len]; omega) | exact Ls_get (by omega) (by omega) | rfl | decide) ?_
  refine BX12_playClause_29  ?_ ?_ ?_ ?_ ?_ ?_ ?_
  · intro hc1
    refine BX12_playClause_177  ?_
    (rw [plE (by assumption)] at k; exact k _ s)
  · intro hc2
    refine BX12_playClause_68 (by first | assumption | exact up_at _ _ _ | (rw [up_ne (by omega)]; first | assumption | exact up_at _ _ _ | (rw [up_ne (by omega)]; first | assumption | exact up_at _ _ _ | (rw [up_ne (by omega)]; assumption)))) (by rfl) (by first | assumption | exact up_at _ _ _ | (rw [up_ne (by omega)]; first | assumption | exact up_at _ _ _ | (rw [up_ne (by omega)]; first | assumption | exact up_at _ _ _ | (rw [up_ne (by omega)]; assumption)))) (by rfl) (by first | assumption | exact up_at _ _ _ | (rw [up_ne (by omega)]; first | assumption | exact up_at _ _ _ | (rw [up_ne (by omega)]; first | assumption | exact up_at _ _ _ | (rw [up_ne (by omega)]; assumption)))) ?_
    refine R_X7_addPerson (by first | omega | assumption | (simp only [Ls_len]; omega) | exact Ls_get (by omega) (by omega) | rfl | decide) (by first | omega | assumption | (simp only [Ls_len]; omega) | exact Ls_get (by omega) (by omega) | rfl | decide) (by first | omega | assumption | (simp only [Ls_len]; omega) | exact Ls_get (by omega) (by omega) | rfl | decide) ?_ ?_
    · intro w0
      refine BX12_playClause_81  ?_ ?_
      · intro hc3
        refine BX12_playClause_89  ?_
        first | (rw [pl18n (by assumption) (by omega)] at k; exact k _ s) | (rw [pl18n (by assumption) (by omega)] at k; exact k _ (by assumption)) | (exfalso; omega)
      · intro hc4
        refine BX12_playClause_85  ?_
        first | (exfalso; omega) | (rw [pl18p (by assumption) (by omega) (by omega)] at k; exact k _ (s.sho (by assumption) (by assumption)))
    · intro w1 w2 w3 w4 w5 h78 r78 e78
      refine BX12_playClause_81  ?_ ?_
      · intro hc5
        refine BX12_playClause_89  ?_
        first | (rw [pl18n (by assumption) (by omega)] at k; exact k _ s) | (rw [pl18n (by assumption) (by omega)] at k; exact k _ (by assumption)) | (exfalso; omega)
      · intro hc6
        refine BX12_playClause_85  ?_
        first | (exfalso; omega) | (rw [pl18p (by assumption) (by omega) (by omega)] at k; exact k _ (s.sho (by assumption) (by assumption)))
  · intro hc7
    refine BX12_playClause_91 (by first | assumption | exact up_at _ _ _ | (rw [up_ne (by omega)]; first | assumption | exact up_at _ _ _ | (rw [up_ne (by omega)]; first | assumption | exact up_at _ _ _ | (rw [up_ne (by omega)]; assumption)))) (by rfl) (by first | assumption | exact up_at _ _ _ | (rw [up_ne (by omega)]; first | assumption | exact up_at _ _ _ | (rw [up_ne (by omega)]; first | assumption | exact up_at _ _ _ | (rw [up_ne (by omega)]; assumption)))) (by rfl) (by first | assumption | exact up_at _ _ _ | (rw [up_ne (by omega)]; first | assumption | exact up_at _ _ _ | (rw [up_ne (by omega)]; first | assumption | exact up_at _ _ _ | (rw [up_ne (by omega)]; assumption)))) ?_
    refine R_X7_tellCurrent (by first | omega | assumption | (simp only [Ls_len]; omega) | exact Ls_get (by omega) (by omega) | rfl | decide) (by first | omega | assumption | (simp only [Ls_len]; omega) | exact Ls_get (by omega) (by omega) | rfl | decide) ?_ ?_
    · intro w0
      refine BX12_playClause_106 (by first | omega | assumption | (simp only [Ls_len]; omega) | exact Ls_get (by omega) (by omega) | rfl | decide) ?_
      first | (rw [pl19n (by assumption) (by omega)] at k; exact k _ s) | (rw [pl19p (by assumption) (by omega)] at k; exact k _ (s.sho (by assumption) (by assumption)))
    · intro w1 w2 w3 w4 w5 w6 h103 r103 e103
      refine BX12_playClause_106 (by first | omega | assumption | (simp only [Ls_len]; omega) | exact Ls_get (by omega) (by omega) | rfl | decide) ?_
      first | (rw [pl19n (by assumption) (by omega)] at k; exact k _ s) | (rw [pl19p (by assumption) (by omega)] at k; exact k _ (s.sho (by assumption) (by assumption)))
  · intro hc8
    refine BX12_playClause_107 (by first | assumption | exact up_at _ _ _ | (rw [up_ne (by omega)]; first | assumption | exact up_at _ _ _ | (rw [up_ne (by omega)]; first | assumption | exact up_at _ _ _ | (rw [up_ne (by omega)]; assumption)))) ?_
    refine P_tossBottle (by first | omega | assumption | (simp only [Ls_len]; omega) | exact Ls_get (by omega) (by omega) | rfl | decide) (by first | omega | assumption | (simp only [Ls_len]; omega) | exact Ls_get (by omega) (by omega) | rfl | decide) ?_
    intro h114 s114
    refine BX12_playClause_117  ?_ ?_
    · intro hc9
      refine BX12_playClause_125  ?_
      (rw [pl20n (by assumption) (by assumption)] at k; exact k _ (by assumption))
    · intro hc10
      refine BX12_playClause_121  ?_
      (rw [pl20p (by assumption) (by assumption)] at k; exact k _ (by assumption))
  · intro hc11
    refine BX12_playClause_127 (by first | assumption | exact up_at _ _ _ | (rw [up_ne (by omega)]; first | assumption | exact up_at _ _ _ | (rw [up_ne (by omega)]; first | assumption | exact up_at _ _ _ | (rw [up_ne (by omega)]; assumption)))) ?_
    refine P_fishBottle (by first | omega | assumption | (simp only [Ls_len]; omega) | exact Ls_get (by omega) (by omega) | rfl | decide) (by first | omega | assumption | (simp only [Ls_len]; omega) | exact Ls_get (by omega) (by omega) | rfl | decide) ?_
    intro h132 s132
    refine BX12_playClause_135 (by first | omega | assumption | (simp only [Ls_len]; omega) | exact Ls_get (by omega) (by omega) | rfl | decide) ?_
    (rw [pl21 (by assumption)] at k; exact k _ (by assumption))
  · intro hc12
    refine BX12_playClause_136 (by first | assumption | exact up_at _ _ _ | (rw [up_ne (by omega)]; first | assumption | exact up_at _ _ _ | (rw [up_ne (by omega)]; first | assumption | exact up_at _ _ _ | (rw [up_ne (by omega)]; assumption)))) ?_
    refine P_tossAgain (by first | omega | assumption | (simp only [Ls_len]; omega) | exact Ls_get (by omega) (by omega) | rfl | decide) (by first | omega | assumption | (simp only [Ls_len]; omega) | exact Ls_get (by omega) (by omega) | rfl | decide) ?_
    intro h139 s139
    refine BX12_playClause_142 (by first | omega | assumption | (simp only [Ls_len]; omega) | exact Ls_get (by omega) (by omega) | rfl | decide) ?_
    (rw [pl22 (by assumption)] at k; exact k _ (by assumption))
  · intro hc13
    refine BX12_playClause_143 (by first | assumption | exact up_at _ _ _ | (rw [up_ne (by omega)]; first | assumption | exact up_at _ _ _ | (rw [up_ne (by omega)]; first | assumption | exact up_at _ _ _ | (rw [up_ne (by omega)]; assumption)))) (by rfl) (by first | assumption | exact up_at _ _ _ | (rw [up_ne (by omega)]; first | assumption | exact up_at _ _ _ | (rw [up_ne (by omega)]; first | assumption | exact up_at _ _ _ | (rw [up_ne (by omega)]; assumption)))) (by rfl) (by first | assumption | exact up_at _ _ _ | (rw [up_ne (by omega)]; first | assumption | exact up_at _ _ _ | (rw [up_ne (by omega)]; first | assumption | exact up_at _ _ _ | (rw [up_ne (by omega)]; assumption)))) (by rfl) (by first | omega | assumption | (simp only [Ls_len]; omega) | exact Ls_get (by omega) (by omega) | rfl | decide) ?_ ?_
    · intro hc14
      refine BX12_playClause_165 (by first | assumption | exact up_at _ _ _ | (rw [up_ne (by omega)]; first | assumption | exact up_at _ _ _ | (rw [up_ne (by omega)]; first | assumption | exact up_at _ _ _ | (rw [up_ne (by omega)]; assumption)))) ?_
      refine P_passTides (by first | omega | assumption | (simp only [Ls_len]; omega) | exact Ls_get (by omega) (by omega) | rfl | decide) (by first | omega | assumption | (simp only [Ls_len]; omega) | exact Ls_get (by omega) (by omega) | rfl | decide) (by first | omega | assumption | (simp only [Ls_len]; omega) | exact Ls_get (by omega) (by omega) | rfl | decide) (by first | omega | assumption | (simp only [Ls_len]; omega) | exact Ls_get (by omega) (by omega) | rfl | decide) ?_
      intro h170 s170
      refine BX12_playClause_173 (by first | omega | assumption | (simp only [Ls_len]; omega) | exact Ls_get (by omega) (by omega) | rfl | decide) ?_
      first | (rw [pl23n (by assumption) (by omega)] at k; exact k _ (by assumption)) | (rw [pl23p (by assumption) (by omega)] at k; exact k _ (by assumption))
    · intro hc15
      refine BX12_playClause_161 (by first | assumption | exact up_at _ _ _ | (rw [up_ne (by omega)]; first | assumption | exact up_at _ _ _ | (rw [up_ne (by omega)]; first | assumption | exact up_at _ _ _ | (rw [up_ne (by omega)]; assumption)))) ?_
      refine P_passTides (by first | omega | assumption | (simp only [Ls_len]; omega) | exact Ls_get (by omega) (by omega) | rfl | decide) (by first | omega | assumption | (simp only [Ls_len]; omega) | exact Ls_get (by omega) (by omega) | rfl | decide) (by first | omega | assumption | (simp only [Ls_len]; omega) | exact Ls_get (by omega) (by omega) | rfl | decide) (by first | omega | assumption | (simp only [Ls_len]; omega) | exact Ls_get (by omega) (by omega) | rfl | decide) ?_
      intro h170 s170
      refine BX12_playClause_173 (by first | omega | assumption | (simp only [Ls_len]; omega) | exact Ls_get (by omega) (by omega) | rfl | decide) ?_
      first | (rw [pl23n (by assumption) (by omega)] at k; exact k _ (by assumption)) | (rw [pl23p (by assumption) (by omega)] at k; exact k _ (by assumption))
end PLAYED
