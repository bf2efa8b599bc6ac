/-! Texts as they lie; comes, wears, a tide. -/
abbrev Dn : Type := (Int → Int) → (Int → Int) → Int
abbrev Tx : Type := Int × (Int → Int) × Option Dn × Option Dn
def okE (env pl : Int → Int) : Prop := (∀ k, 0 ≤ k → k ≤ 7 → okV (env k)) ∧ ∀ v, okV (pl v)
def CodeC (L : Int → Int) (len : Nat) (D : Dn) : Prop := okL L len ∧ ∀ env pl, okE env pl → ∃ f, runC L env pl len f 0 [] = some (D env pl)
def LawAt (h : aH) : Option Nat → Option Dn → Prop
  | none, none => True
  | some c, some D => 317 ≤ c ∧ ∃ L len, h c = cI (Ls len L) ∧ CodeC L len D
  | _, _ => False
def IsTx (h : aH) (x : Nat) (T : Tx) : Prop := 317 ≤ x ∧ ∃ (rc : Nat) (oc ow : Option Nat) (m : Nat), h x = cO 10 [vR (some rc), vR oc, vR ow] ∧ 317 ≤ rc ∧ (m : Int) = T.1 ∧ h rc = cI (Ls (4 * m) T.2.1) ∧ m ≤ 24 ∧ LawAt h oc T.2.2.1 ∧ LawAt h ow T.2.2.2
def IsR (h : aH) : Option Nat → Option Tx → Prop
  | none, none => True
  | some x, some T => IsTx h x T
  | _, _ => False
def coOf : Option Tx → Option Dn
  | none => none
  | some T => T.2.2.1
def weOf : Option Tx → Option Dn
  | none => none
  | some T => T.2.2.2
theorem LawAt.fr {h h1 : aH} {lo k : Nat} {o : Option Nat} {D : Option Dn} (s : LawAt h o D) (f : Fr h h1 lo k) (hd : lo + k ≤ 317) : LawAt h1 o D := by
  rcases o with _ | c <;> rcases D with _ | D <;> first | exact s | skip
  obtain ⟨s1, L, len, s2, s3⟩ := s
  exact ⟨s1, L, len, by rw [f _ (by omega)]; exact s2, s3⟩
theorem IsTx.fr {h h1 : aH} {lo k x : Nat} {T : Tx} (s : IsTx h x T) (f : Fr h h1 lo k) (hd : lo + k ≤ 317) : IsTx h1 x T := by
  obtain ⟨s1, rc, oc, ow, m, s2, s3, s4, s5, s6, s7, s8⟩ := s
  exact ⟨s1, rc, oc, ow, m, by rw [f _ (by omega)]; exact s2, s3, s4, by rw [f _ (by omega)]; exact s5, s6, s7.fr f hd, s8.fr f hd⟩
theorem IsR.fr {h h1 : aH} {lo k : Nat} {o : Option Nat} {T : Option Tx} (s : IsR h o T) (f : Fr h h1 lo k) (hd : lo + k ≤ 317) : IsR h1 o T := by
  rcases o with _ | c <;> rcases T with _ | T <;> first | exact s | exact IsTx.fr s f hd
def comesM (D : Option Dn) (S : Int → Int) (np : Int) (pl lk : Int → Int) (b : Int) : Int := match D with
  | none => atP np lk (S (b * 6 + 1)) + 1
  | some D => max 0 (min 10 (D (envM S np lk b) (atP np pl)))
def wearsM (D : Option Dn) (S : Int → Int) (np : Int) (pl lk : Int → Int) (b : Int) : Int := match D with
  | none => 1
  | some D => max 0 (min 99 (D (envM S np lk b) (atP np pl)))
/-- what a sea and a shore keep -/
def okBo (np : Int) (S : Int → Int) (b : Int) : Prop := (0 ≤ S (b * 6 + 0) ∧ S (b * 6 + 0) < np) ∧ (0 ≤ S (b * 6 + 1) ∧ S (b * 6 + 1) < np) ∧ (0 ≤ S (b * 6 + 2) ∧ S (b * 6 + 2) ≤ 9) ∧ (0 ≤ S (b * 6 + 3) ∧ S (b * 6 + 3) ≤ 99) ∧ (0 ≤ S (b * 6 + 4) ∧ S (b * 6 + 4) < 3 + np) ∧ 0 ≤ S (b * 6 + 5) ∧ S (b * 6 + 5) ≤ 9999
def okSe (np : Int) (S : Int → Int) : Prop := (0 ≤ S 72 ∧ S 72 ≤ 12 ∧ 0 ≤ S 73 ∧ S 73 ≤ 9999 ∧ 0 ≤ S 74 ∧ S 74 < 30637 ∧ 0 ≤ S 75 ∧ S 75 ≤ 30) ∧ ∀ b, 0 ≤ b → b < S 72 → okBo np S b
def okSh (np : Int) (pl lk cu : Int → Int) : Prop := (0 ≤ np ∧ np ≤ 6) ∧ (∀ j, 0 ≤ j → j < np → (0 ≤ pl j ∧ pl j ≤ 9) ∧ 0 ≤ lk j ∧ lk j ≤ 9) ∧ okCu cu
theorem atP_ok {np : Int} {pl lk cu : Int → Int} (o : okSh np pl lk cu) (p : Int) : (0 ≤ atP np pl p ∧ atP np pl p ≤ 9) ∧ 0 ≤ atP np lk p ∧ atP np lk p ≤ 9 := by
  unfold atP
  split
  · exact o.2.1 p (by omega) (by omega)
  · omega
theorem envM_ok {np b : Int} {S pl lk cu : Int → Int} (o : okSh np pl lk cu) (q : okSe np S) (b0 : 0 ≤ b) (b1 : b < S 72) : okE (envM S np lk b) (atP np pl) := by
  obtain ⟨⟨z1, z2, z3, z4, -⟩, q1⟩ := q
  obtain ⟨q2, q3, q4, q5, q6, q7⟩ := q1 b b0 b1
  refine ⟨fun k k0 k1 => ?_, fun v => ?_⟩
  · have hl := atP_ok o (S (b * 6 + 1))
    have hc := cnt_ge (fun c => S (c * 6 + 4) = 0 ∧ S (c * 6 + 2) = S (b * 6 + 2)) (S 72).toNat
    have := o.1
    unfold envM okV
    repeat' split
    all_goals omega
  · have := (atP_ok o v).1
    unfold okV
    omega
def LwH (h : aH) (a s z : Nat) (r : Option Nat) (T : Option Tx) (np : Int) (pl lk cu S : Int → Int) : Prop := (a ≠ 0 ∧ s ≠ 0 ∧ z ≠ 0 ∧ (s + 4 ≤ a ∨ a + 2 ≤ s) ∧ (z + 4 ≤ a ∨ a + 2 ≤ z) ∧ (s + 4 ≤ z ∨ z + 4 ≤ s) ∧ a + 2 ≤ 317 ∧ s + 4 ≤ 317 ∧ z + 4 ≤ 317) ∧ IsSe h s S ∧ IsSh h z np pl lk cu ∧ IsR h r T ∧ ∃ l, IsLl h a l
theorem LwH.sea {h h1 : aH} {a s z : Nat} {r : Option Nat} {T : Option Tx} {np : Int} {pl lk cu S S2 : Int → Int} (w : LwH h a s z r T np pl lk cu S) (f : Fr h h1 s 4) (e : IsSe h1 s S2) : LwH h1 a s z r T np pl lk cu S2 := by
  obtain ⟨⟨w1, w2, w3, w4, w5, w6, w7, w8, w9⟩, v1, v2, v3, l, v4⟩ := w
  exact ⟨⟨w1, w2, w3, w4, w5, w6, w7, w8, w9⟩, e, v2.fr f (by omega), v3.fr f (by omega), l, v4.fr f (by omega)⟩
theorem LwH.law {h h1 : aH} {a s z : Nat} {r : Option Nat} {T : Option Tx} {np : Int} {pl lk cu S : Int → Int} {l2 : List Int} (w : LwH h a s z r T np pl lk cu S) (f : Fr h h1 a 2) (e : IsLl h1 a l2) : LwH h1 a s z r T np pl lk cu S := by
  obtain ⟨⟨w1, w2, w3, w4, w5, w6, w7, w8, w9⟩, v1, v2, v3, l, v4⟩ := w
  exact ⟨⟨w1, w2, w3, w4, w5, w6, w7, w8, w9⟩, v1.fr f (by omega), v2.fr f (by omega), v3.fr f (by omega), l2, e⟩
theorem IsLl.ob {h : aH} {a : Nat} {l : List Int} (s : IsLl h a l) : ∃ t, h a = cO 2 [vR (some (a + 1)), vI t] := ⟨_, s.choose_spec.choose_spec.1.1⟩
section TIDES
variable {d bc bs n : Nat} {h : aH} {Q : aQ} {a s z : Nat} {r : Option Nat} {T : Option Tx} {np b : Int} {pl lk cu S : Int → Int}
theorem LwH.wk {c : Nat} {D : Dn} (w : LwH h a s z r T np pl lk cu S) (o : okSh np pl lk cu) (q : okSe np S) (b0 : 0 ≤ b) (b1 : b < S 72) (hl : LawAt h (some c) (some D)) : ∃ L len f, WkH h a c s z len L S np pl lk cu b ∧ runC L (envM S np lk b) (atP np pl) len f 0 [] = some (D (envM S np lk b) (atP np pl)) := by
  obtain ⟨⟨w1, w2, w3, w4, w5, w6, w7, w8, w9⟩, v1, v2, v3, l, v4⟩ := w
  obtain ⟨l1, L, len, l2, l3, l4⟩ := hl
  obtain ⟨f, l5⟩ := l4 _ _ (envM_ok o q b0 b1)
  obtain ⟨⟨z1, z2, z3, z4, z5⟩, q1⟩ := q
  obtain ⟨-, -, -, -, -, q7⟩ := q1 b b0 b1
  exact ⟨L, len, f, ⟨⟨w1, by omega, w2, w3, by omega, w4, w5⟩, l2, l3, v1, v2, o.1.2, b0, by omega, z1, z2, by omega, by omega⟩, l5⟩
theorem R_X2_comesOf (w : LwH h a s z r T np pl lk cu S) (o : okSh np pl lk cu) (q : okSe np S) (b0 : 0 ≤ b) (b1 : b < S 72) (k : ∀ h1, Fr h h1 a 2 → LwH h1 a s z r T np pl lk cu S → Q (some (vI (comesM (coOf T) S np pl lk b))) h1 n) : Rn (d + 5) bc bs mX2_comesOf 0 [some (vR (some a)), some (vR r), some (vR (some s)), some (vR (some z)), some (vI b)] [] h n Q := by
  have w0 := w
  obtain ⟨⟨w1, w2, w3, w4, w5, w6, w7, w8, w9⟩, v1, v2, v3, l, v4⟩ := w
  have y1 := v1.1
  have y2 := v2.1
  obtain ⟨t, y3⟩ := v4.ob
  have x1 := q.1
  have x2 := o.1
  have x3 := (atP_ok o (S (b * 6 + 1))).2
  have x4 : atP np lk (S (b * 6 + 1)) = if 0 ≤ S (b * 6 + 1) ∧ S (b * 6 + 1) < np then lk (S (b * 6 + 1)) else 0 := rfl
  rw [x4] at x3
  rcases r with _ | x <;> rcases T with _ | T
  · skip
    refine BX2_comesOf_0  ?_ ?_
    · intro hc1
      cases hc1
      all_goals
      (
        refine BX2_comesOf_11 (by first | assumption | exact up_at _ _ _ | (rw [up_ne (by omega)]; first | assumption | exact up_at _ _ _ | (rw [up_ne (by omega)]; first | assumption | exact up_at _ _ _ | (rw [up_ne (by omega)]; assumption)))) ?_
        refine R_X6_get (by first | omega | assumption | (simp only [Ls_len]; omega) | exact Ls_get (by omega) (by omega) | rfl | decide) (by first | omega | assumption | (simp only [Ls_len]; omega) | exact Ls_get (by omega) (by omega) | rfl | decide) (by first | omega | assumption | (simp only [Ls_len]; omega) | exact Ls_get (by omega) (by omega) | rfl | decide) (by first | omega | assumption | (simp only [Ls_len]; omega) | exact Ls_get (by omega) (by omega) | rfl | decide) (by first | omega | assumption | (simp only [Ls_len]; omega) | exact Ls_get (by omega) (by omega) | rfl | decide) (by first | omega | assumption | (simp only [Ls_len]; omega) | exact Ls_get (by omega) (by omega) | rfl | decide) ?_
        refine BX2_comesOf_19 (by first | assumption | exact up_at _ _ _ | (rw [up_ne (by omega)]; first | assumption | exact up_at _ _ _ | (rw [up_ne (by omega)]; first | assumption | exact up_at _ _ _ | (rw [up_ne (by omega)]; assumption)))) ?_
        refine R_X7_luckOf (by first | omega | assumption | (simp only [Ls_len]; omega) | exact Ls_get (by omega) (by omega) | rfl | decide) (by first | omega | assumption | (simp only [Ls_len]; omega) | exact Ls_get (by omega) (by omega) | rfl | decide) ?_
        refine BX2_comesOf_22 (by first | omega | assumption | (simp only [Ls_len]; omega) | exact Ls_get (by omega) (by omega) | rfl | decide) ?_
        exact k h (Fr.rf _ _ _) w0
      )
    · intro ahc2 hc2
      cases hc2
      all_goals
      (
        refine BX2_comesOf_4 (by first | assumption | exact up_at _ _ _ | (rw [up_ne (by omega)]; first | assumption | exact up_at _ _ _ | (rw [up_ne (by omega)]; first | assumption | exact up_at _ _ _ | (rw [up_ne (by omega)]; assumption)))) (by rfl) ?_ ?_
        · intro ahc3 hc3
          cases hc3
          all_goals
          (
            refine BX2_comesOf_25 (by first | assumption | exact up_at _ _ _ | (rw [up_ne (by omega)]; first | assumption | exact up_at _ _ _ | (rw [up_ne (by omega)]; first | assumption | exact up_at _ _ _ | (rw [up_ne (by omega)]; assumption)))) (by rfl) (by first | assumption | exact up_at _ _ _ | (rw [up_ne (by omega)]; first | assumption | exact up_at _ _ _ | (rw [up_ne (by omega)]; first | assumption | exact up_at _ _ _ | (rw [up_ne (by omega)]; assumption)))) ?_
            refine R_X2_workOff (by first | omega | assumption | (simp only [Ls_len]; omega) | exact Ls_get (by omega) (by omega) | rfl | decide) (by first | omega | assumption | (simp only [Ls_len]; omega) | exact Ls_get (by omega) (by omega) | rfl | decide) (by first | omega | assumption | (simp only [Ls_len]; omega) | exact Ls_get (by omega) (by omega) | rfl | decide) ?_
            intro h37 r37 s37
            refine BX2_comesOf_40  ?_
            refine R_J9_min  ?_
            refine BX2_comesOf_43  ?_
            refine R_J9_max  ?_
            refine BX2_comesOf_46  ?_
            exact k h (Fr.rf _ _ _) w0
          )
        · intro hc4
          cases hc4
          all_goals
          (
            refine BX2_comesOf_11 (by first | assumption | exact up_at _ _ _ | (rw [up_ne (by omega)]; first | assumption | exact up_at _ _ _ | (rw [up_ne (by omega)]; first | assumption | exact up_at _ _ _ | (rw [up_ne (by omega)]; assumption)))) ?_
            refine R_X6_get (by first | omega | assumption | (simp only [Ls_len]; omega) | exact Ls_get (by omega) (by omega) | rfl | decide) (by first | omega | assumption | (simp only [Ls_len]; omega) | exact Ls_get (by omega) (by omega) | rfl | decide) (by first | omega | assumption | (simp only [Ls_len]; omega) | exact Ls_get (by omega) (by omega) | rfl | decide) (by first | omega | assumption | (simp only [Ls_len]; omega) | exact Ls_get (by omega) (by omega) | rfl | decide) (by first | omega | assumption | (simp only [Ls_len]; omega) | exact Ls_get (by omega) (by omega) | rfl | decide) (by first | omega | assumption | (simp only [Ls_len]; omega) | exact Ls_get (by omega) (by omega) | rfl | decide) ?_
            refine BX2_comesOf_19 (by first | assumption | exact up_at _ _ _ | (rw [up_ne (by omega)]; first | assumption | exact up_at _ _ _ | (rw [up_ne (by omega)]; first | assumption | exact up_at _ _ _ | (rw [up_ne (by omega)]; assumption)))) ?_
            refine R_X7_luckOf (by first | omega | assumption | (simp only [Ls_len]; omega) | exact Ls_get (by omega) (by omega) | rfl | decide) (by first | omega | assumption | (simp only [Ls_len]; omega) | exact Ls_get (by omega) (by omega) | rfl | decide) ?_
            refine BX2_comesOf_22 (by first | omega | assumption | (simp only [Ls_len]; omega) | exact Ls_get (by omega) (by omega) | rfl | decide) ?_
            exact k h (Fr.rf _ _ _) w0
          )
      )
  · exact v3.elim
  · exact v3.elim
  · obtain ⟨u1, rc, oc, ow, m, u2, u3, u4, u5, u6, u7, u8⟩ := id v3
    obtain ⟨T1, T2, T3, T4⟩ := T
    rcases oc with _ | c <;> rcases T3 with _ | D
    · skip
      refine BX2_comesOf_0  ?_ ?_
      · intro hc1
        cases hc1
        all_goals
        (
          refine BX2_comesOf_11 (by first | assumption | exact up_at _ _ _ | (rw [up_ne (by omega)]; first | assumption | exact up_at _ _ _ | (rw [up_ne (by omega)]; first | assumption | exact up_at _ _ _ | (rw [up_ne (by omega)]; assumption)))) ?_
          refine R_X6_get (by first | omega | assumption | (simp only [Ls_len]; omega) | exact Ls_get (by omega) (by omega) | rfl | decide) (by first | omega | assumption | (simp only [Ls_len]; omega) | exact Ls_get (by omega) (by omega) | rfl | decide) (by first | omega | assumption | (simp only [Ls_len]; omega) | exact Ls_get (by omega) (by omega) | rfl | decide) (by first | omega | assumption | (simp only [Ls_len]; omega) | exact Ls_get (by omega) (by omega) | rfl | decide) (by first | omega | assumption | (simp only [Ls_len]; omega) | exact Ls_get (by omega) (by omega) | rfl | decide) (by first | omega | assumption | (simp only [Ls_len]; omega) | exact Ls_get (by omega) (by omega) | rfl | decide) ?_
          refine BX2_comesOf_19 (by first | assumption | exact up_at _ _ _ | (rw [up_ne (by omega)]; first | assumption | exact up_at _ _ _ | (rw [up_ne (by omega)]; first | assumption | exact up_at _ _ _ | (rw [up_ne (by omega)]; assumption)))) ?_
          refine R_X7_luckOf (by first | omega | assumption | (simp only [Ls_len]; omega) | exact Ls_get (by omega) (by omega) | rfl | decide) (by first | omega | assumption | (simp only [Ls_len]; omega) | exact Ls_get (by omega) (by omega) | rfl | decide) ?_
          refine BX2_comesOf_22 (by first | omega | assumption | (simp only [Ls_len]; omega) | exact Ls_get (by omega) (by omega) | rfl | decide) ?_
          exact k h (Fr.rf _ _ _) w0
        )
      · intro ahc2 hc2
        cases hc2
        all_goals
        (
          refine BX2_comesOf_4 (by first | assumption | exact up_at _ _ _ | (rw [up_ne (by omega)]; first | assumption | exact up_at _ _ _ | (rw [up_ne (by omega)]; first | assumption | exact up_at _ _ _ | (rw [up_ne (by omega)]; assumption)))) (by rfl) ?_ ?_
          · intro ahc3 hc3
            cases hc3
            all_goals
            (
              refine BX2_comesOf_25 (by first | assumption | exact up_at _ _ _ | (rw [up_ne (by omega)]; first | assumption | exact up_at _ _ _ | (rw [up_ne (by omega)]; first | assumption | exact up_at _ _ _ | (rw [up_ne (by omega)]; assumption)))) (by rfl) (by first | assumption | exact up_at _ _ _ | (rw [up_ne (by omega)]; first | assumption | exact up_at _ _ _ | (rw [up_ne (by omega)]; first | assumption | exact up_at _ _ _ | (rw [up_ne (by omega)]; assumption)))) ?_
              refine R_X2_workOff (by first | omega | assumption | (simp only [Ls_len]; omega) | exact Ls_get (by omega) (by omega) | rfl | decide) (by first | omega | assumption | (simp only [Ls_len]; omega) | exact Ls_get (by omega) (by omega) | rfl | decide) (by first | omega | assumption | (simp only [Ls_len]; omega) | exact Ls_get (by omega) (by omega) | rfl | decide) ?_
              intro h37 r37 s37
              refine BX2_comesOf_40  ?_
              refine R_J9_min  ?_
              refine BX2_comesOf_43  ?_
              refine R_J9_max  ?_
              refine BX2_comesOf_46  ?_
              exact k h (Fr.rf _ _ _) w0
            )
          · intro hc4
            cases hc4
            all_goals
            (
              refine BX2_comesOf_11 (by first | assumption | exact up_at _ _ _ | (rw [up_ne (by omega)]; first | assumption | exact up_at _ _ _ | (rw [up_ne (by omega)]; first | assumption | exact up_at _ _ _ | (rw [up_ne (by omega)]; assumption)))) ?_
              refine R_X6_get (by first | omega | assumption | (simp only [Ls_len]; omega) | exact Ls_get (by omega) (by omega) | rfl | decide) (by first | omega | assumption | (simp only [Ls_len]; omega) | exact Ls_get (by omega) (by omega) | rfl | decide) (by first | omega | assumption | (simp only [Ls_len]; omega) | exact Ls_get (by omega) (by omega) | rfl | decide) (by first | omega | assumption | (simp only [Ls_len]; omega) | exact Ls_get (by omega) (by omega) | rfl | decide) (by first | omega | assumption | (simp only [Ls_len]; omega) | exact Ls_get (by omega) (by omega) | rfl | decide) (by first | omega | assumption | (simp only [Ls_len]; omega) | exact Ls_get (by omega) (by omega) | rfl | decide) ?_
              refine BX2_comesOf_19 (by first | assumption | exact up_at _ _ _ | (rw [up_ne (by omega)]; first | assumption | exact up_at _ _ _ | (rw [up_ne (by omega)]; first | assumption | exact up_at _ _ _ | (rw [up_ne (by omega)]; assumption)))) ?_
              refine R_X7_luckOf (by first | omega | assumption | (simp only [Ls_len]; omega) | exact Ls_get (by omega) (by omega) | rfl | decide) (by first | omega | assumption | (simp only [Ls_len]; omega) | exact Ls_get (by omega) (by omega) | rfl | decide) ?_
              refine BX2_comesOf_22 (by first | omega | assumption | (simp only [Ls_len]; omega) | exact Ls_get (by omega) (by omega) | rfl | decide) ?_
              exact k h (Fr.rf _ _ _) w0
            )
        )
    · exact u7.elim
    · exact u7.elim
    · obtain ⟨L, len, f, g1, g2⟩ := w0.wk o q b0 b1 u7
      refine BX2_comesOf_0  ?_ ?_
      · intro hc1
        cases hc1
        all_goals
        (
          refine BX2_comesOf_11 (by first | assumption | exact up_at _ _ _ | (rw [up_ne (by omega)]; first | assumption | exact up_at _ _ _ | (rw [up_ne (by omega)]; first | assumption | exact up_at _ _ _ | (rw [up_ne (by omega)]; assumption)))) ?_
          refine R_X6_get (by first | omega | assumption | (simp only [Ls_len]; omega) | exact Ls_get (by omega) (by omega) | rfl | decide) (by first | omega | assumption | (simp only [Ls_len]; omega) | exact Ls_get (by omega) (by omega) | rfl | decide) (by first | omega | assumption | (simp only [Ls_len]; omega) | exact Ls_get (by omega) (by omega) | rfl | decide) (by first | omega | assumption | (simp only [Ls_len]; omega) | exact Ls_get (by omega) (by omega) | rfl | decide) (by first | omega | assumption | (simp only [Ls_len]; omega) | exact Ls_get (by omega) (by omega) | rfl | decide) (by first | omega | assumption | (simp only [Ls_len]; omega) | exact Ls_get (by omega) (by omega) | rfl | decide) ?_
          refine BX2_comesOf_19 (by first | assumption | exact up_at _ _ _ | (rw [up_ne (by omega)]; first | assumption | exact up_at _ _ _ | (rw [up_ne (by omega)]; first | assumption | exact up_at _ _ _ | (rw [up_ne (by omega)]; assumption)))) ?_
          refine R_X7_luckOf (by first | omega | assumption | (simp only [Ls_len]; omega) | exact Ls_get (by omega) (by omega) | rfl | decide) (by first | omega | assumption | (simp only [Ls_len]; omega) | exact Ls_get (by omega) (by omega) | rfl | decide) ?_
          refine BX2_comesOf_22 (by first | omega | assumption | (simp only [Ls_len]; omega) | exact Ls_get (by omega) (by omega) | rfl | decide) ?_
          exact k _ r5 (w0.law r5 s5)
        )
      · intro ahc2 hc2
        cases hc2
        all_goals
        (
          refine BX2_comesOf_4 (by first | assumption | exact up_at _ _ _ | (rw [up_ne (by omega)]; first | assumption | exact up_at _ _ _ | (rw [up_ne (by omega)]; first | assumption | exact up_at _ _ _ | (rw [up_ne (by omega)]; assumption)))) (by rfl) ?_ ?_
          · intro ahc3 hc3
            cases hc3
            all_goals
            (
              refine BX2_comesOf_25 (by first | assumption | exact up_at _ _ _ | (rw [up_ne (by omega)]; first | assumption | exact up_at _ _ _ | (rw [up_ne (by omega)]; first | assumption | exact up_at _ _ _ | (rw [up_ne (by omega)]; assumption)))) (by rfl) (by first | assumption | exact up_at _ _ _ | (rw [up_ne (by omega)]; first | assumption | exact up_at _ _ _ | (rw [up_ne (by omega)]; first | assumption | exact up_at _ _ _ | (rw [up_ne (by omega)]; assumption)))) ?_
              refine R_X2_workOff (by first | omega | assumption | (simp only [Ls_len]; omega) | exact Ls_get (by omega) (by omega) | rfl | decide) (by first | omega | assumption | (simp only [Ls_len]; omega) | exact Ls_get (by omega) (by omega) | rfl | decide) (by first | omega | assumption | (simp only [Ls_len]; omega) | exact Ls_get (by omega) (by omega) | rfl | decide) ?_
              intro h5 r5 s5
              refine BX2_comesOf_40  ?_
              refine R_J9_min  ?_
              refine BX2_comesOf_43  ?_
              refine R_J9_max  ?_
              refine BX2_comesOf_46  ?_
              exact k _ r5 (w0.law r5 s5)
            )
          · intro hc4
            cases hc4
            all_goals
            (
              refine BX2_comesOf_11 (by first | assumption | exact up_at _ _ _ | (rw [up_ne (by omega)]; first | assumption | exact up_at _ _ _ | (rw [up_ne (by omega)]; first | assumption | exact up_at _ _ _ | (rw [up_ne (by omega)]; assumption)))) ?_
              refine R_X6_get (by first | omega | assumption | (simp only [Ls_len]; omega) | exact Ls_get (by omega) (by omega) | rfl | decide) (by first | omega | assumption | (simp only [Ls_len]; omega) | exact Ls_get (by omega) (by omega) | rfl | decide) (by first | omega | assumption | (simp only [Ls_len]; omega) | exact Ls_get (by omega) (by omega) | rfl | decide) (by first | omega | assumption | (simp only [Ls_len]; omega) | exact Ls_get (by omega) (by omega) | rfl | decide) (by first | omega | assumption | (simp only [Ls_len]; omega) | exact Ls_get (by omega) (by omega) | rfl | decide) (by first | omega | assumption | (simp only [Ls_len]; omega) | exact Ls_get (by omega) (by omega) | rfl | decide) ?_
              refine BX2_comesOf_19 (by first | assumption | exact up_at _ _ _ | (rw [up_ne (by omega)]; first | assumption | exact up_at _ _ _ | (rw [up_ne (by omega)]; first | assumption | exact up_at _ _ _ | (rw [up_ne (by omega)]; assumption)))) ?_
              refine R_X7_luckOf (by first | omega | assumption | (simp only [Ls_len]; omega) | exact Ls_get (by omega) (by omega) | rfl | decide) (by first | omega | assumption | (simp only [Ls_len]; omega) | exact Ls_get (by omega) (by omega) | rfl | decide) ?_
              refine BX2_comesOf_22 (by first | omega | assumption | (simp only [Ls_len]; omega) | exact Ls_get (by omega) (by omega) | rfl | decide) ?_
              exact k _ r5 (w0.law r5 s5)
            )
        )
theorem R_X2_wearsOf (w : LwH h a s z r T np pl lk cu S) (o : okSh np pl lk cu) (q : okSe np S) (b0 : 0 ≤ b) (b1 : b < S 72) (k : ∀ h1, Fr h h1 a 2 → LwH h1 a s z r T np pl lk cu S → Q (some (vI (wearsM (weOf T) S np pl lk b))) h1 n) : Rn (d + 5) bc bs mX2_wearsOf 0 [some (vR (some a)), some (vR r), some (vR (some s)), some (vR (some z)), some (vI b)] [] h n Q := by
  have w0 := w
  obtain ⟨⟨w1, w2, w3, w4, w5, w6, w7, w8, w9⟩, v1, v2, v3, l, v4⟩ := w
  have y1 := v1.1
  have y2 := v2.1
  obtain ⟨t, y3⟩ := v4.ob
  rcases r with _ | x <;> rcases T with _ | T
  · skip
    refine BX2_wearsOf_0  ?_ ?_
    · intro hc1
      cases hc1
      all_goals
      (
        refine BX2_wearsOf_11  ?_
        exact k h (Fr.rf _ _ _) w0
      )
    · intro ahc2 hc2
      cases hc2
      all_goals
      (
        refine BX2_wearsOf_4 (by first | assumption | exact up_at _ _ _ | (rw [up_ne (by omega)]; first | assumption | exact up_at _ _ _ | (rw [up_ne (by omega)]; first | assumption | exact up_at _ _ _ | (rw [up_ne (by omega)]; assumption)))) (by rfl) ?_ ?_
        · intro ahc3 hc3
          cases hc3
          all_goals
          (
            refine BX2_wearsOf_13 (by first | assumption | exact up_at _ _ _ | (rw [up_ne (by omega)]; first | assumption | exact up_at _ _ _ | (rw [up_ne (by omega)]; first | assumption | exact up_at _ _ _ | (rw [up_ne (by omega)]; assumption)))) (by rfl) (by first | assumption | exact up_at _ _ _ | (rw [up_ne (by omega)]; first | assumption | exact up_at _ _ _ | (rw [up_ne (by omega)]; first | assumption | exact up_at _ _ _ | (rw [up_ne (by omega)]; assumption)))) ?_
            refine R_X2_workOff (by first | omega | assumption | (simp only [Ls_len]; omega) | exact Ls_get (by omega) (by omega) | rfl | decide) (by first | omega | assumption | (simp only [Ls_len]; omega) | exact Ls_get (by omega) (by omega) | rfl | decide) (by first | omega | assumption | (simp only [Ls_len]; omega) | exact Ls_get (by omega) (by omega) | rfl | decide) ?_
            intro h25 r25 s25
            refine BX2_wearsOf_28  ?_
            refine R_J9_min  ?_
            refine BX2_wearsOf_31  ?_
            refine R_J9_max  ?_
            refine BX2_wearsOf_34  ?_
            exact k h (Fr.rf _ _ _) w0
          )
        · intro hc4
          cases hc4
          all_goals
          (
            refine BX2_wearsOf_11  ?_
            exact k h (Fr.rf _ _ _) w0
          )
      )
  · exact v3.elim
  · exact v3.elim
  · obtain ⟨u1, rc, oc, ow, m, u2, u3, u4, u5, u6, u7, u8⟩ := id v3
    obtain ⟨T1, T2, T3, T4⟩ := T
    rcases ow with _ | c <;> rcases T4 with _ | D
    · skip
      refine BX2_wearsOf_0  ?_ ?_
      · intro hc1
        cases hc1
        all_goals
        (
          refine BX2_wearsOf_11  ?_
          exact k h (Fr.rf _ _ _) w0
        )
      · intro ahc2 hc2
        cases hc2
        all_goals
        (
          refine BX2_wearsOf_4 (by first | assumption | exact up_at _ _ _ | (rw [up_ne (by omega)]; first | assumption | exact up_at _ _ _ | (rw [up_ne (by omega)]; first | assumption | exact up_at _ _ _ | (rw [up_ne (by omega)]; assumption)))) (by rfl) ?_ ?_
          · intro ahc3 hc3
            cases hc3
            all_goals
            (
              refine BX2_wearsOf_13 (by first | assumption | exact up_at _ _ _ | (rw [up_ne (by omega)]; first | assumption | exact up_at _ _ _ | (rw [up_ne (by omega)]; first | assumption | exact up_at _ _ _ | (rw [up_ne (by omega)]; assumption)))) (by rfl) (by first | assumption | exact up_at _ _ _ | (rw [up_ne (by omega)]; first | assumption | exact up_at _ _ _ | (rw [up_ne (by omega)]; first | assumption | exact up_at _ _ _ | (rw [up_ne (by omega)]; assumption)))) ?_
              refine R_X2_workOff (by first | omega | assumption | (simp only [Ls_len]; omega) | exact Ls_get (by omega) (by omega) | rfl | decide) (by first | omega | assumption | (simp only [Ls_len]; omega) | exact Ls_get (by omega) (by omega) | rfl | decide) (by first | omega | assumption | (simp only [Ls_len]; omega) | exact Ls_get (by omega) (by omega) | rfl | decide) ?_
              intro h25 r25 s25
              refine BX2_wearsOf_28  ?_
              refine R_J9_min  ?_
              refine BX2_wearsOf_31  ?_
              refine R_J9_max  ?_
              refine BX2_wearsOf_34  ?_
              exact k h (Fr.rf _ _ _) w0
            )
          · intro hc4
            cases hc4
            all_goals
            (
              refine BX2_wearsOf_11  ?_
              exact k h (Fr.rf _ _ _) w0
            )
        )
    · exact u8.elim
    · exact u8.elim
    · obtain ⟨L, len, f, g1, g2⟩ := w0.wk o q b0 b1 u8
      refine BX2_wearsOf_0  ?_ ?_
      · intro hc1
        cases hc1
        all_goals
        (
          refine BX2_wearsOf_11  ?_
          exact k _ r5 (w0.law r5 s5)
        )
      · intro ahc2 hc2
        cases hc2
        all_goals
        (
          refine BX2_wearsOf_4 (by first | assumption | exact up_at _ _ _ | (rw [up_ne (by omega)]; first | assumption | exact up_at _ _ _ | (rw [up_ne (by omega)]; first | assumption | exact up_at _ _ _ | (rw [up_ne (by omega)]; assumption)))) (by rfl) ?_ ?_
          · intro ahc3 hc3
            cases hc3
            all_goals
            (
              refine BX2_wearsOf_13 (by first | assumption | exact up_at _ _ _ | (rw [up_ne (by omega)]; first | assumption | exact up_at _ _ _ | (rw [up_ne (by omega)]; first | assumption | exact up_at _ _ _ | (rw [up_ne (by omega)]; assumption)))) (by rfl) (by first | assumption | exact up_at _ _ _ | (rw [up_ne (by omega)]; first | assumption | exact up_at _ _ _ | (rw [up_ne (by omega)]; first | assumption | exact up_at _ _ _ | (rw [up_ne (by omega)]; assumption)))) ?_
              refine R_X2_workOff (by first | omega | assumption | (simp only [Ls_len]; omega) | exact Ls_get (by omega) (by omega) | rfl | decide) (by first | omega | assumption | (simp only [Ls_len]; omega) | exact Ls_get (by omega) (by omega) | rfl | decide) (by first | omega | assumption | (simp only [Ls_len]; omega) | exact Ls_get (by omega) (by omega) | rfl | decide) ?_
              intro h5 r5 s5
              refine BX2_wearsOf_28  ?_
              refine R_J9_min  ?_
              refine BX2_wearsOf_31  ?_
              refine R_J9_max  ?_
              refine BX2_wearsOf_34  ?_
              exact k _ r5 (w0.law r5 s5)
            )
          · intro hc4
            cases hc4
            all_goals
            (
              refine BX2_wearsOf_11  ?_
              exact k _ r5 (w0.law r5 s5)
            )
        )
end TIDES
