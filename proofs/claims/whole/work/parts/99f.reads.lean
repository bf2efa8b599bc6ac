/-! Reads. -/
def pw8 : Nat → Int
  | 0 => 1
  | m + 1 => 8 * pw8 m
theorem pw8_pos : ∀ m, 1 ≤ pw8 m := by intro m; induction m with | zero => decide | succ m ih => unfold pw8; omega
theorem pw8_mono : ∀ (k m : Nat), pw8 m ≤ pw8 (m + k) := by
  intro k
  induction k with
  | zero => intro m; exact Int.le_refl _
  | succ k ih => intro m; have := ih m; have := pw8_pos (m + k); rw [show m + (k + 1) = (m + k) + 1 by omega]; show pw8 m ≤ 8 * pw8 (m + k); omega
theorem pw8_top : ∀ m, m ≤ 10 → pw8 m ≤ 1073741824 := by decide
def matB (Y : Int → Int) (hd e i : Int) : Bool := decide (0 < digM (Y (12 + i)) ∧ digM (Y (12 + i)) ≤ e ∧ Int.tmod hd (tenM (digM (Y (12 + i)))) = Y (12 + i))
theorem matB_y {Y : Int → Int} {hd e i : Int} (a : 0 < digM (Y (12 + i))) (b : digM (Y (12 + i)) ≤ e) (c : Int.tmod hd (tenM (digM (Y (12 + i)))) = Y (12 + i)) : matB Y hd e i = true := decide_eq_true ⟨a, b, c⟩
theorem matB_n {Y : Int → Int} {hd e i : Int} (a : digM (Y (12 + i)) ≤ 0 ∨ e < digM (Y (12 + i)) ∨ Int.tmod hd (tenM (digM (Y (12 + i)))) ≠ Y (12 + i)) : ¬ matB Y hd e i = true := by
  intro q
  have := of_decide_eq_true q
  omega
theorem matB_i {Y : Int → Int} {hd e i : Int} (q : matB Y hd e i = true) : 0 < digM (Y (12 + i)) ∧ digM (Y (12 + i)) ≤ e := ⟨(of_decide_eq_true q).1, (of_decide_eq_true q).2.1⟩
def rsuM (Y f : Int → Int) (hd e : Int) : Nat → Int → Int → Int
  | 0, _, a => a
  | m + 1, i, a => rsuM Y f hd e m (i + 1) (if matB Y hd e i = true then a + f (e - digM (Y (12 + i))) else a)
def rvM (Y : Int → Int) (x dg : Int) (cc : Nat) : Nat → Int → Int
  | 0 => fun _ => 0
  | m + 1 => fset (rvM Y x dg cc m) (m : Int) (rsuM Y (rvM Y x dg cc m) (Int.tdiv x (tenM (dg - (m : Int)))) (m : Int) cc 0 (if m = 0 then 1 else 0))
def aReads (W : Int → Int → Int) (x : Int) : Int := if 1 ≤ x ∧ x ≤ 999999999 then rvM (W 2) x (digM x) (W 2 53).toNat ((digM x).toNat + 1) (digM x) else -1
def pz8 : Nat → Int
  | 0 => 0
  | m + 1 => pw8 m
theorem pz8_0 (m : Nat) : 0 ≤ pz8 m := by cases m with | zero => decide | succ m => have := pw8_pos m; show 0 ≤ pw8 m; omega
/-- what is added stays small -/
theorem rsuM_b {Y f : Int → Int} {hd : Int} {e : Nat} (fb : ∀ j : Nat, j < e → 0 ≤ f j ∧ f j ≤ pw8 j) : ∀ (m : Nat) (i a : Int), 0 ≤ a → 0 ≤ rsuM Y f hd e m i a ∧ rsuM Y f hd e m i a ≤ a + m * pz8 e := by
  intro m
  induction m with
  | zero => intro i a a0; unfold rsuM; omega
  | succ m ih =>
    intro i a a0
    have p1 := pz8_0 e
    unfold rsuM
    split
    · rename_i q
      have q1 := matB_i q
      have f1 := fb (e - (digM (Y (12 + i))).toNat) (by omega)
      rw [show ((e - (digM (Y (12 + i))).toNat : Nat) : Int) = (e : Int) - digM (Y (12 + i)) by omega] at f1
      have f2 : pw8 (e - (digM (Y (12 + i))).toNat) ≤ pz8 e := by
        cases e with
        | zero => omega
        | succ e =>
          have := pw8_mono ((digM (Y (12 + i))).toNat - 1) (e + 1 - (digM (Y (12 + i))).toNat)
          rw [show e + 1 - (digM (Y (12 + i))).toNat + ((digM (Y (12 + i))).toNat - 1) = e by omega] at this
          exact this
      have := ih (i + 1) (a + f (e - digM (Y (12 + i)))) (by omega)
      rw [show ((m + 1 : Nat) : Int) = (m : Int) + 1 by omega, Int.add_mul]
      omega
    · have := ih (i + 1) a a0
      rw [show ((m + 1 : Nat) : Int) = (m : Int) + 1 by omega, Int.add_mul]
      omega
theorem rvM_b {Y : Int → Int} {x dg : Int} {cc : Nat} (c8 : cc ≤ 8) : ∀ (m : Nat) (j : Nat), j < m → 0 ≤ rvM Y x dg cc m j ∧ rvM Y x dg cc m j ≤ pw8 j := by
  intro m
  induction m with
  | zero => intro j j0; omega
  | succ m ih =>
    intro j j0
    unfold rvM
    by_cases q : j = m
    · subst q
      rw [fset_at]
      have r1 := rsuM_b (Y := Y) (hd := Int.tdiv x (tenM (dg - (j : Int)))) (fun i i0 => ih i i0) cc 0 (if j = 0 then 1 else 0) (by split <;> decide)
      refine ⟨r1.1, Int.le_trans r1.2 ?_⟩
      cases j with
      | zero => show (1 : Int) + (cc : Int) * 0 ≤ 1; omega
      | succ j =>
        have p1 := pw8_pos j
        have := Int.mul_le_mul_of_nonneg_right (show (cc : Int) ≤ 8 by omega) (show 0 ≤ pw8 j by omega)
        show (0 : Int) + (cc : Int) * pw8 j ≤ 8 * pw8 j
        omega
    · rw [fset_ne (by omega)]
      exact ih j (by omega)
section READS
variable {d bc bs n : Nat} {h : aH} {Q : aQ} {Y f2 : Int → Int} {n1 n2 : Int}
theorem R_X3_countReadings {x : Int} (i1 : h 292 = cO 3 [vR (some 293), vR (some 294), vR (some 295), vR (some 296), vI n1, vI n2]) (i2 : h 294 = cJ (Ls 10 f2)) (s : IsSa h 133 Y) (y : okWd Y) (x0 : 1 ≤ x) (x1 : x ≤ 999999999) (k : ∀ h1 f3, Fr h h1 294 1 → h1 294 = cJ (Ls 10 f3) → Q (some (vL (rvM Y x (digM x) (Y 53).toNat ((digM x).toNat + 1) (digM x)))) h1 n) : Rn (d + 2) bc bs mX3_countReadings 0 [some (vR (some 292)), some (vR (some 133)), some (vI x), none, none, none, none, none, none] [] h n Q := by
  obtain ⟨y0, y1, y2⟩ := y
  have dx := digM_le x
  have in55 : ∀ (e : Nat) (hd : Int) (m : Nat) (i a : Int) (l7 l8 : Option aV) (R : Int → Int) (h1 : aH), (e : Int) ≤ digM x → 0 ≤ i → i + m = Y 53 → 0 ≤ hd → 0 ≤ a → a + m * 1073741824 ≤ 100000000000 → (∀ j : Nat, j < e → R j = rvM Y x (digM x) (Y 53).toNat e j) → R e = a → h1 292 = cO 3 [vR (some 293), vR (some 294), vR (some 295), vR (some 296), vI n1, vI n2] → h1 294 = cJ (Ls 10 R) → IsSa h1 133 Y → (∀ h2 R2 l6 l7 l8, Fr h1 h2 294 1 → (∀ j : Nat, j < e → R2 j = R j) → R2 e = rsuM Y (rvM Y x (digM x) (Y 53).toNat e) hd e m i a → h2 294 = cJ (Ls 10 R2) → Rn (d + 2) bc bs mX3_countReadings 8 [some (vR (some 292)), some (vR (some 133)), some (vI x), some (vI (digM x)), some (vI ((e : Int) + 1)), some (vI hd), l6, l7, l8] [] h2 n Q) → Rn (d + 2) bc bs mX3_countReadings 54 [some (vR (some 292)), some (vR (some 133)), some (vI x), some (vI (digM x)), some (vI (e : Int)), some (vI hd), some (vI i), l7, l8] [] h1 n Q := by
    intro e hd m
    induction m with
    | zero =>
      intro i a l7 l8 R h1 e0 i0 im hd0 a0 a1 rj re i1 i2 s k
      have s9 := s
      obtain ⟨s1, s2, s3, s4, s5, s6, s7, s8⟩ := s
      refine BX3_countReadings_54 (by first | assumption | exact up_at _ _ _ | (rw [up_ne (by omega)]; first | assumption | exact up_at _ _ _ | (rw [up_ne (by omega)]; assumption))) (by rfl) ?_ ?_
      · intro hc1
        first
        | (exfalso; omega)
        | (
            refine BX3_countReadings_131 (by first | omega | assumption | (simp only [Ls_len]; omega) | exact Ls_get (by omega) (by omega) | rfl | decide) ?_
            exact k _ R _ _ _ (Fr.rf h1 294 1) (fun j j0 => rfl) re i2
          )
      · intro hc2
        first
        | (exfalso; omega)
        | (
            refine BX3_countReadings_63 (by first | assumption | exact up_at _ _ _ | (rw [up_ne (by omega)]; first | assumption | exact up_at _ _ _ | (rw [up_ne (by omega)]; assumption))) ?_
            refine R_X5_word (by first | omega | assumption | (simp only [Ls_len]; omega) | exact Ls_get (by omega) (by omega) | rfl | decide) (by first | omega | assumption | (simp only [Ls_len]; omega) | exact Ls_get (by omega) (by omega) | rfl | decide) (by first | omega | assumption | (simp only [Ls_len]; omega) | exact Ls_get (by omega) (by omega) | rfl | decide) (by first | omega | assumption | (simp only [Ls_len]; omega) | exact Ls_get (by omega) (by omega) | rfl | decide) ?_
            refine BX3_countReadings_69  ?_
            refine R_X3_digitsOf (by first | omega | assumption | (simp only [Ls_len]; omega) | exact Ls_get (by omega) (by omega) | rfl | decide) ?_
            refine BX3_countReadings_76  ?_ ?_
            · intro hc3
              first
              | (exfalso; omega)
              | (
                  refine BX3_countReadings_125 (by first | omega | assumption | (simp only [Ls_len]; omega) | exact Ls_get (by omega) (by omega) | rfl | decide) ?_
                  (exfalso; omega)
                )
            · intro hc4
              first
              | (exfalso; omega)
              | (
                  refine BX3_countReadings_83  ?_ ?_
                  · intro hc5
                    first
                    | (exfalso; omega)
                    | (
                        refine BX3_countReadings_125 (by first | omega | assumption | (simp only [Ls_len]; omega) | exact Ls_get (by omega) (by omega) | rfl | decide) ?_
                        (exfalso; omega)
                      )
                  · intro hc6
                    first
                    | (exfalso; omega)
                    | (
                        refine BX3_countReadings_90  ?_
                        refine R_X3_lastOf  ?_
                        refine BX3_countReadings_97  ?_ ?_
                        · intro hc7
                          first
                          | (exfalso; omega)
                          | (
                              refine BX3_countReadings_105 (by first | assumption | exact up_at _ _ _ | (rw [up_ne (by omega)]; first | assumption | exact up_at _ _ _ | (rw [up_ne (by omega)]; assumption))) (by rfl) (by first | assumption | exact up_at _ _ _ | (rw [up_ne (by omega)]; first | assumption | exact up_at _ _ _ | (rw [up_ne (by omega)]; assumption))) (by first | omega | assumption | (simp only [Ls_len]; omega) | exact Ls_get (by omega) (by omega) | rfl | decide) (by first | exact Ls_get (by omega) (by omega) | assumption) (by first | omega | assumption | (simp only [Ls_len]; omega) | exact Ls_get (by omega) (by omega) | rfl | decide) (by first | omega | assumption | (simp only [Ls_len]; omega) | exact Ls_get (by omega) (by omega) | rfl | decide) (by first | omega | assumption | (simp only [Ls_len]; omega) | exact Ls_get (by omega) (by omega) | rfl | decide) (by first | exact Ls_get (by omega) (by omega) | assumption) (by first | omega | assumption | (simp only [Ls_len]; omega) | exact Ls_get (by omega) (by omega) | rfl | decide) (by first | omega | assumption | (simp only [Ls_len]; omega) | exact Ls_get (by omega) (by omega) | rfl | decide) ?_
                              try rw [Ls_set (by omega)]
                              refine BX3_countReadings_125 (by first | omega | assumption | (simp only [Ls_len]; omega) | exact Ls_get (by omega) (by omega) | rfl | decide) ?_
                              (exfalso; omega)
                            )
                        · intro hc8
                          first
                          | (exfalso; omega)
                          | (
                              refine BX3_countReadings_102 (by first | omega | assumption | (simp only [Ls_len]; omega) | exact Ls_get (by omega) (by omega) | rfl | decide) ?_
                              (exfalso; omega)
                            )
                      )
                )
          )
    | succ m ih =>
      intro i a l7 l8 R h1 e0 i0 im hd0 a0 a1 rj re i1 i2 s k
      have s9 := s
      have y3 := y2 i (by omega) (by omega)
      have d1 := digM_le (Y (12 + i))
      have t1 := tenM_le (digM (Y (12 + i)))
      obtain ⟨s1, s2, s3, s4, s5, s6, s7, s8⟩ := s
      unfold rsuM at k
      have rb : digM (Y (12 + i)) ≤ 0 ∨ (e : Int) < digM (Y (12 + i)) ∨ (0 ≤ R ((e : Int) - digM (Y (12 + i))) ∧ R ((e : Int) - digM (Y (12 + i))) ≤ 1073741824 ∧ R ((e : Int) - digM (Y (12 + i))) = rvM Y x (digM x) (Y 53).toNat e ((e : Int) - digM (Y (12 + i)))) := by
        by_cases z1 : digM (Y (12 + i)) ≤ 0
        · exact .inl z1
        · by_cases z2 : (e : Int) < digM (Y (12 + i))
          · exact .inr (.inl z2)
          · have z3 := rj (e - (digM (Y (12 + i))).toNat) (by omega)
            have z4 := rvM_b (Y := Y) (x := x) (dg := digM x) (cc := (Y 53).toNat) (by omega) e (e - (digM (Y (12 + i))).toNat) (by omega)
            have z5 := pw8_top (e - (digM (Y (12 + i))).toNat) (by omega)
            rw [show ((e - (digM (Y (12 + i))).toNat : Nat) : Int) = (e : Int) - digM (Y (12 + i)) by omega] at z3 z4
            exact .inr (.inr ⟨by omega, by omega, z3⟩)
      refine BX3_countReadings_54 (by first | assumption | exact up_at _ _ _ | (rw [up_ne (by omega)]; first | assumption | exact up_at _ _ _ | (rw [up_ne (by omega)]; assumption))) (by rfl) ?_ ?_
      · intro hc1
        refine BX3_countReadings_131 (by first | omega | assumption | (simp only [Ls_len]; omega) | exact Ls_get (by omega) (by omega) | rfl | decide) ?_
        (exfalso; omega)
      · intro hc2
        refine BX3_countReadings_63 (by first | assumption | exact up_at _ _ _ | (rw [up_ne (by omega)]; first | assumption | exact up_at _ _ _ | (rw [up_ne (by omega)]; assumption))) ?_
        refine R_X5_word (by first | omega | assumption | (simp only [Ls_len]; omega) | exact Ls_get (by omega) (by omega) | rfl | decide) (by first | omega | assumption | (simp only [Ls_len]; omega) | exact Ls_get (by omega) (by omega) | rfl | decide) (by first | omega | assumption | (simp only [Ls_len]; omega) | exact Ls_get (by omega) (by omega) | rfl | decide) (by first | omega | assumption | (simp only [Ls_len]; omega) | exact Ls_get (by omega) (by omega) | rfl | decide) ?_
        refine BX3_countReadings_69  ?_
        refine R_X3_digitsOf (by first | omega | assumption | (simp only [Ls_len]; omega) | exact Ls_get (by omega) (by omega) | rfl | decide) ?_
        refine BX3_countReadings_76  ?_ ?_
        · intro hc3
          refine BX3_countReadings_125 (by first | omega | assumption | (simp only [Ls_len]; omega) | exact Ls_get (by omega) (by omega) | rfl | decide) ?_
          first
          | (rw [if_neg (matB_n (by omega))] at k; exact ih _ _ _ _ R h1 e0 (by omega) (by omega) hd0 a0 (by omega) rj re i1 i2 s9 k)
          | (rw [if_pos (matB_y (by omega) (by omega) (by omega))] at k
             have rb2 : 0 ≤ R ((e : Int) - digM (Y (12 + i))) ∧ R ((e : Int) - digM (Y (12 + i))) ≤ 1073741824 ∧ R ((e : Int) - digM (Y (12 + i))) = rvM Y x (digM x) (Y 53).toNat e ((e : Int) - digM (Y (12 + i))) := by omega
             refine ih _ (a + rvM Y x (digM x) (Y 53).toNat e ((e : Int) - digM (Y (12 + i)))) _ _ (fset R (e : Int) (R e + R ((e : Int) - digM (Y (12 + i))))) _ e0 (by omega) (by omega) hd0 (by omega) (by omega) (fun j j0 => (fset_ne (by omega)).trans (rj j j0)) (by rw [fset_at, re, rb2.2.2]) ((up_ne (by decide)).trans i1) (up_at _ _ _) (s9.fr (Fr.one _ _ _) (by decide)) (fun h2 R2 l6 l7 l8 q1 q2 q3 q4 => ?_)
             exact k h2 R2 l6 l7 l8 (Fr.tr (Fr.one _ _ _) q1) (fun j j0 => (q2 j j0).trans (fset_ne (by omega))) q3 q4)
        · intro hc4
          refine BX3_countReadings_83  ?_ ?_
          · intro hc5
            refine BX3_countReadings_125 (by first | omega | assumption | (simp only [Ls_len]; omega) | exact Ls_get (by omega) (by omega) | rfl | decide) ?_
            first
            | (rw [if_neg (matB_n (by omega))] at k; exact ih _ _ _ _ R h1 e0 (by omega) (by omega) hd0 a0 (by omega) rj re i1 i2 s9 k)
            | (rw [if_pos (matB_y (by omega) (by omega) (by omega))] at k
               have rb2 : 0 ≤ R ((e : Int) - digM (Y (12 + i))) ∧ R ((e : Int) - digM (Y (12 + i))) ≤ 1073741824 ∧ R ((e : Int) - digM (Y (12 + i))) = rvM Y x (digM x) (Y 53).toNat e ((e : Int) - digM (Y (12 + i))) := by omega
               refine ih _ (a + rvM Y x (digM x) (Y 53).toNat e ((e : Int) - digM (Y (12 + i)))) _ _ (fset R (e : Int) (R e + R ((e : Int) - digM (Y (12 + i))))) _ e0 (by omega) (by omega) hd0 (by omega) (by omega) (fun j j0 => (fset_ne (by omega)).trans (rj j j0)) (by rw [fset_at, re, rb2.2.2]) ((up_ne (by decide)).trans i1) (up_at _ _ _) (s9.fr (Fr.one _ _ _) (by decide)) (fun h2 R2 l6 l7 l8 q1 q2 q3 q4 => ?_)
               exact k h2 R2 l6 l7 l8 (Fr.tr (Fr.one _ _ _) q1) (fun j j0 => (q2 j j0).trans (fset_ne (by omega))) q3 q4)
          · intro hc6
            refine BX3_countReadings_90  ?_
            refine R_X3_lastOf  ?_
            refine BX3_countReadings_97  ?_ ?_
            · intro hc7
              refine BX3_countReadings_105 (by first | assumption | exact up_at _ _ _ | (rw [up_ne (by omega)]; first | assumption | exact up_at _ _ _ | (rw [up_ne (by omega)]; assumption))) (by rfl) (by first | assumption | exact up_at _ _ _ | (rw [up_ne (by omega)]; first | assumption | exact up_at _ _ _ | (rw [up_ne (by omega)]; assumption))) (by first | omega | assumption | (simp only [Ls_len]; omega) | exact Ls_get (by omega) (by omega) | rfl | decide) (by first | exact Ls_get (by omega) (by omega) | assumption) (by first | omega | assumption | (simp only [Ls_len]; omega) | exact Ls_get (by omega) (by omega) | rfl | decide) (by first | omega | assumption | (simp only [Ls_len]; omega) | exact Ls_get (by omega) (by omega) | rfl | decide) (by first | omega | assumption | (simp only [Ls_len]; omega) | exact Ls_get (by omega) (by omega) | rfl | decide) (by first | exact Ls_get (by omega) (by omega) | assumption) (by first | omega | assumption | (simp only [Ls_len]; omega) | exact Ls_get (by omega) (by omega) | rfl | decide) (by first | omega | assumption | (simp only [Ls_len]; omega) | exact Ls_get (by omega) (by omega) | rfl | decide) ?_
              try rw [Ls_set (by omega)]
              refine BX3_countReadings_125 (by first | omega | assumption | (simp only [Ls_len]; omega) | exact Ls_get (by omega) (by omega) | rfl | decide) ?_
              first
              | (rw [if_neg (matB_n (by omega))] at k; exact ih _ _ _ _ R h1 e0 (by omega) (by omega) hd0 a0 (by omega) rj re i1 i2 s9 k)
              | (rw [if_pos (matB_y (by omega) (by omega) (by omega))] at k
                 have rb2 : 0 ≤ R ((e : Int) - digM (Y (12 + i))) ∧ R ((e : Int) - digM (Y (12 + i))) ≤ 1073741824 ∧ R ((e : Int) - digM (Y (12 + i))) = rvM Y x (digM x) (Y 53).toNat e ((e : Int) - digM (Y (12 + i))) := by omega
                 refine ih _ (a + rvM Y x (digM x) (Y 53).toNat e ((e : Int) - digM (Y (12 + i)))) _ _ (fset R (e : Int) (R e + R ((e : Int) - digM (Y (12 + i))))) _ e0 (by omega) (by omega) hd0 (by omega) (by omega) (fun j j0 => (fset_ne (by omega)).trans (rj j j0)) (by rw [fset_at, re, rb2.2.2]) ((up_ne (by decide)).trans i1) (up_at _ _ _) (s9.fr (Fr.one _ _ _) (by decide)) (fun h2 R2 l6 l7 l8 q1 q2 q3 q4 => ?_)
                 exact k h2 R2 l6 l7 l8 (Fr.tr (Fr.one _ _ _) q1) (fun j j0 => (q2 j j0).trans (fset_ne (by omega))) q3 q4)
            · intro hc8
              refine BX3_countReadings_102 (by first | omega | assumption | (simp only [Ls_len]; omega) | exact Ls_get (by omega) (by omega) | rfl | decide) ?_
              first
              | (rw [if_neg (matB_n (by omega))] at k; exact ih _ _ _ _ R h1 e0 (by omega) (by omega) hd0 a0 (by omega) rj re i1 i2 s9 k)
              | (rw [if_pos (matB_y (by omega) (by omega) (by omega))] at k
                 have rb2 : 0 ≤ R ((e : Int) - digM (Y (12 + i))) ∧ R ((e : Int) - digM (Y (12 + i))) ≤ 1073741824 ∧ R ((e : Int) - digM (Y (12 + i))) = rvM Y x (digM x) (Y 53).toNat e ((e : Int) - digM (Y (12 + i))) := by omega
                 refine ih _ (a + rvM Y x (digM x) (Y 53).toNat e ((e : Int) - digM (Y (12 + i)))) _ _ (fset R (e : Int) (R e + R ((e : Int) - digM (Y (12 + i))))) _ e0 (by omega) (by omega) hd0 (by omega) (by omega) (fun j j0 => (fset_ne (by omega)).trans (rj j j0)) (by rw [fset_at, re, rb2.2.2]) ((up_ne (by decide)).trans i1) (up_at _ _ _) (s9.fr (Fr.one _ _ _) (by decide)) (fun h2 R2 l6 l7 l8 q1 q2 q3 q4 => ?_)
                 exact k h2 R2 l6 l7 l8 (Fr.tr (Fr.one _ _ _) q1) (fun j j0 => (q2 j j0).trans (fset_ne (by omega))) q3 q4)
  have in8 : ∀ (m e : Nat) (l5 l6 l7 l8 : Option aV) (R : Int → Int) (h1 : aH), e + m = (digM x).toNat + 1 → (∀ j : Nat, j < e → R j = rvM Y x (digM x) (Y 53).toNat e j) → h1 292 = cO 3 [vR (some 293), vR (some 294), vR (some 295), vR (some 296), vI n1, vI n2] → h1 294 = cJ (Ls 10 R) → IsSa h1 133 Y → (∀ h2 R2, Fr h1 h2 294 1 → h2 294 = cJ (Ls 10 R2) → Q (some (vL (rvM Y x (digM x) (Y 53).toNat ((digM x).toNat + 1) (digM x)))) h2 n) → Rn (d + 2) bc bs mX3_countReadings 8 [some (vR (some 292)), some (vR (some 133)), some (vI x), some (vI (digM x)), some (vI (e : Int)), l5, l6, l7, l8] [] h1 n Q := by
    intro m
    induction m with
    | zero =>
      intro e l5 l6 l7 l8 R h1 em rj i1 i2 s k
      have l1 := Ls_len 10 R
      have z1 := rj (digM x).toNat (by omega)
      rw [show (((digM x).toNat : Nat) : Int) = digM x by omega, show e = (digM x).toNat + 1 by omega] at z1
      refine BX3_countReadings_8  ?_ ?_
      · intro hc1
        refine BX3_countReadings_137 (by first | assumption | exact up_at _ _ _ | (rw [up_ne (by omega)]; first | assumption | exact up_at _ _ _ | (rw [up_ne (by omega)]; assumption))) (by rfl) (by first | assumption | exact up_at _ _ _ | (rw [up_ne (by omega)]; first | assumption | exact up_at _ _ _ | (rw [up_ne (by omega)]; assumption))) (by first | omega | assumption | (simp only [Ls_len]; omega) | exact Ls_get (by omega) (by omega) | rfl | decide) (by first | omega | assumption | (simp only [Ls_len]; omega) | exact Ls_get (by omega) (by omega) | rfl | decide) ?_ ?_
        · intro hc2
          refine BX3_countReadings_155  ?_
          (exfalso; omega)
        · intro hc3
          refine BX3_countReadings_146 (by first | assumption | exact up_at _ _ _ | (rw [up_ne (by omega)]; first | assumption | exact up_at _ _ _ | (rw [up_ne (by omega)]; assumption))) (by rfl) (by first | assumption | exact up_at _ _ _ | (rw [up_ne (by omega)]; first | assumption | exact up_at _ _ _ | (rw [up_ne (by omega)]; assumption))) (by first | omega | assumption | (simp only [Ls_len]; omega) | exact Ls_get (by omega) (by omega) | rfl | decide) (by first | exact Ls_get (by omega) (by omega) | assumption) (by first | omega | assumption | (simp only [Ls_len]; omega) | exact Ls_get (by omega) (by omega) | rfl | decide) ?_
          (rw [z1]; exact k _ R (Fr.rf h1 294 1) i2)
      · intro hc4
        refine BX3_countReadings_14 (by first | assumption | exact up_at _ _ _ | (rw [up_ne (by omega)]; first | assumption | exact up_at _ _ _ | (rw [up_ne (by omega)]; assumption))) (by rfl) (by first | assumption | exact up_at _ _ _ | (rw [up_ne (by omega)]; first | assumption | exact up_at _ _ _ | (rw [up_ne (by omega)]; assumption))) (by first | omega | assumption | (simp only [Ls_len]; omega) | exact Ls_get (by omega) (by omega) | rfl | decide) (by first | omega | assumption | (simp only [Ls_len]; omega) | exact Ls_get (by omega) (by omega) | rfl | decide) ?_ ?_
        · intro hc5
          refine BX3_countReadings_137 (by first | assumption | exact up_at _ _ _ | (rw [up_ne (by omega)]; first | assumption | exact up_at _ _ _ | (rw [up_ne (by omega)]; assumption))) (by rfl) (by first | assumption | exact up_at _ _ _ | (rw [up_ne (by omega)]; first | assumption | exact up_at _ _ _ | (rw [up_ne (by omega)]; assumption))) (by first | omega | assumption | (simp only [Ls_len]; omega) | exact Ls_get (by omega) (by omega) | rfl | decide) (by first | omega | assumption | (simp only [Ls_len]; omega) | exact Ls_get (by omega) (by omega) | rfl | decide) ?_ ?_
          · intro hc6
            refine BX3_countReadings_155  ?_
            (exfalso; omega)
          · intro hc7
            refine BX3_countReadings_146 (by first | assumption | exact up_at _ _ _ | (rw [up_ne (by omega)]; first | assumption | exact up_at _ _ _ | (rw [up_ne (by omega)]; assumption))) (by rfl) (by first | assumption | exact up_at _ _ _ | (rw [up_ne (by omega)]; first | assumption | exact up_at _ _ _ | (rw [up_ne (by omega)]; assumption))) (by first | omega | assumption | (simp only [Ls_len]; omega) | exact Ls_get (by omega) (by omega) | rfl | decide) (by first | exact Ls_get (by omega) (by omega) | assumption) (by first | omega | assumption | (simp only [Ls_len]; omega) | exact Ls_get (by omega) (by omega) | rfl | decide) ?_
            (rw [z1]; exact k _ R (Fr.rf h1 294 1) i2)
        · intro hc8
          refine BX3_countReadings_24 (by first | assumption | exact up_at _ _ _ | (rw [up_ne (by omega)]; first | assumption | exact up_at _ _ _ | (rw [up_ne (by omega)]; assumption))) (by rfl) ?_ ?_
          · intro hc9
            refine BX3_countReadings_39 (by first | assumption | exact up_at _ _ _ | (rw [up_ne (by omega)]; first | assumption | exact up_at _ _ _ | (rw [up_ne (by omega)]; assumption))) (by first | omega | assumption | (simp only [Ls_len]; omega) | exact Ls_get (by omega) (by omega) | rfl | decide) (by first | omega | assumption | (simp only [Ls_len]; omega) | exact Ls_get (by omega) (by omega) | rfl | decide) (by first | omega | assumption | (simp only [Ls_len]; omega) | exact Ls_get (by omega) (by omega) | rfl | decide) ?_
            try rw [Ls_set (by omega)]
            refine BX3_countReadings_41 (by first | omega | assumption | (simp only [Ls_len]; omega) | exact Ls_get (by omega) (by omega) | rfl | decide) ?_
            refine R_X3_withoutLast (by first | omega | assumption | (simp only [Ls_len]; omega) | exact Ls_get (by omega) (by omega) | rfl | decide) (by first | omega | assumption | (simp only [Ls_len]; omega) | exact Ls_get (by omega) (by omega) | rfl | decide) ?_
            refine BX3_countReadings_49  ?_
            (exfalso; omega)
          · intro hc10
            refine BX3_countReadings_35 (by first | assumption | exact up_at _ _ _ | (rw [up_ne (by omega)]; first | assumption | exact up_at _ _ _ | (rw [up_ne (by omega)]; assumption))) (by first | omega | assumption | (simp only [Ls_len]; omega) | exact Ls_get (by omega) (by omega) | rfl | decide) (by first | omega | assumption | (simp only [Ls_len]; omega) | exact Ls_get (by omega) (by omega) | rfl | decide) (by first | omega | assumption | (simp only [Ls_len]; omega) | exact Ls_get (by omega) (by omega) | rfl | decide) ?_
            try rw [Ls_set (by omega)]
            refine BX3_countReadings_41 (by first | omega | assumption | (simp only [Ls_len]; omega) | exact Ls_get (by omega) (by omega) | rfl | decide) ?_
            refine R_X3_withoutLast (by first | omega | assumption | (simp only [Ls_len]; omega) | exact Ls_get (by omega) (by omega) | rfl | decide) (by first | omega | assumption | (simp only [Ls_len]; omega) | exact Ls_get (by omega) (by omega) | rfl | decide) ?_
            refine BX3_countReadings_49  ?_
            (exfalso; omega)
    | succ m ih =>
      intro e l5 l6 l7 l8 R h1 em rj i1 i2 s k
      have l1 := Ls_len 10 R
      have s9 := s
      have t1 := tenM_le (digM x - (e : Int))
      have t2 := tdiv_bd (x := x) (y := tenM (digM x - (e : Int))) (by omega) (by omega)
      obtain ⟨s1, s2, s3, s4, s5, s6, s7, s8⟩ := s
      refine BX3_countReadings_8  ?_ ?_
      · intro hc1
        refine BX3_countReadings_137 (by first | assumption | exact up_at _ _ _ | (rw [up_ne (by omega)]; first | assumption | exact up_at _ _ _ | (rw [up_ne (by omega)]; assumption))) (by rfl) (by first | assumption | exact up_at _ _ _ | (rw [up_ne (by omega)]; first | assumption | exact up_at _ _ _ | (rw [up_ne (by omega)]; assumption))) (by first | omega | assumption | (simp only [Ls_len]; omega) | exact Ls_get (by omega) (by omega) | rfl | decide) (by first | omega | assumption | (simp only [Ls_len]; omega) | exact Ls_get (by omega) (by omega) | rfl | decide) ?_ ?_
        · intro hc2
          refine BX3_countReadings_155  ?_
          (exfalso; omega)
        · intro hc3
          refine BX3_countReadings_146 (by first | assumption | exact up_at _ _ _ | (rw [up_ne (by omega)]; first | assumption | exact up_at _ _ _ | (rw [up_ne (by omega)]; assumption))) (by rfl) (by first | assumption | exact up_at _ _ _ | (rw [up_ne (by omega)]; first | assumption | exact up_at _ _ _ | (rw [up_ne (by omega)]; assumption))) (by first | omega | assumption | (simp only [Ls_len]; omega) | exact Ls_get (by omega) (by omega) | rfl | decide) (by first | exact Ls_get (by omega) (by omega) | assumption) (by first | omega | assumption | (simp only [Ls_len]; omega) | exact Ls_get (by omega) (by omega) | rfl | decide) ?_
          (exfalso; omega)
      · intro hc4
        refine BX3_countReadings_14 (by first | assumption | exact up_at _ _ _ | (rw [up_ne (by omega)]; first | assumption | exact up_at _ _ _ | (rw [up_ne (by omega)]; assumption))) (by rfl) (by first | assumption | exact up_at _ _ _ | (rw [up_ne (by omega)]; first | assumption | exact up_at _ _ _ | (rw [up_ne (by omega)]; assumption))) (by first | omega | assumption | (simp only [Ls_len]; omega) | exact Ls_get (by omega) (by omega) | rfl | decide) (by first | omega | assumption | (simp only [Ls_len]; omega) | exact Ls_get (by omega) (by omega) | rfl | decide) ?_ ?_
        · intro hc5
          refine BX3_countReadings_137 (by first | assumption | exact up_at _ _ _ | (rw [up_ne (by omega)]; first | assumption | exact up_at _ _ _ | (rw [up_ne (by omega)]; assumption))) (by rfl) (by first | assumption | exact up_at _ _ _ | (rw [up_ne (by omega)]; first | assumption | exact up_at _ _ _ | (rw [up_ne (by omega)]; assumption))) (by first | omega | assumption | (simp only [Ls_len]; omega) | exact Ls_get (by omega) (by omega) | rfl | decide) (by first | omega | assumption | (simp only [Ls_len]; omega) | exact Ls_get (by omega) (by omega) | rfl | decide) ?_ ?_
          · intro hc6
            refine BX3_countReadings_155  ?_
            (exfalso; omega)
          · intro hc7
            refine BX3_countReadings_146 (by first | assumption | exact up_at _ _ _ | (rw [up_ne (by omega)]; first | assumption | exact up_at _ _ _ | (rw [up_ne (by omega)]; assumption))) (by rfl) (by first | assumption | exact up_at _ _ _ | (rw [up_ne (by omega)]; first | assumption | exact up_at _ _ _ | (rw [up_ne (by omega)]; assumption))) (by first | omega | assumption | (simp only [Ls_len]; omega) | exact Ls_get (by omega) (by omega) | rfl | decide) (by first | exact Ls_get (by omega) (by omega) | assumption) (by first | omega | assumption | (simp only [Ls_len]; omega) | exact Ls_get (by omega) (by omega) | rfl | decide) ?_
            (exfalso; omega)
        · intro hc8
          refine BX3_countReadings_24 (by first | assumption | exact up_at _ _ _ | (rw [up_ne (by omega)]; first | assumption | exact up_at _ _ _ | (rw [up_ne (by omega)]; assumption))) (by rfl) ?_ ?_
          · intro hc9
            refine BX3_countReadings_39 (by first | assumption | exact up_at _ _ _ | (rw [up_ne (by omega)]; first | assumption | exact up_at _ _ _ | (rw [up_ne (by omega)]; assumption))) (by first | omega | assumption | (simp only [Ls_len]; omega) | exact Ls_get (by omega) (by omega) | rfl | decide) (by first | omega | assumption | (simp only [Ls_len]; omega) | exact Ls_get (by omega) (by omega) | rfl | decide) (by first | omega | assumption | (simp only [Ls_len]; omega) | exact Ls_get (by omega) (by omega) | rfl | decide) ?_
            try rw [Ls_set (by omega)]
            refine BX3_countReadings_41 (by first | omega | assumption | (simp only [Ls_len]; omega) | exact Ls_get (by omega) (by omega) | rfl | decide) ?_
            refine R_X3_withoutLast (by first | omega | assumption | (simp only [Ls_len]; omega) | exact Ls_get (by omega) (by omega) | rfl | decide) (by first | omega | assumption | (simp only [Ls_len]; omega) | exact Ls_get (by omega) (by omega) | rfl | decide) ?_
            refine BX3_countReadings_49  ?_
            first
            | (have e0 : ¬ e = 0 := by omega
               refine in55 e _ (Y 53).toNat 0 0 _ _ (fset R (e : Int) 0) _ (by omega) (by omega) (by omega) t2.1 (by omega) (by omega) (fun j j0 => (fset_ne (by omega)).trans (rj j j0)) (fset_at _ _ _) ((up_ne (by decide)).trans i1) (up_at _ _ _) (s9.fr (Fr.one _ _ _) (by decide)) (fun h2 R2 l6 l7 l8 q1 q2 q3 q4 => ?_)
               have q5 := Fr.tr (Fr.one h1 294 (cJ (Ls 10 (fset R (e : Int) 0)))) q1
               have z := ih (e + 1) (some (vI (Int.tdiv x (tenM (digM x - (e : Int)))))) l6 l7 l8 R2 h2 (by omega) (fun j j0 => by
                 show R2 j = fset _ _ _ _
                 by_cases q : j = e
                 · subst q; rw [fset_at, q3, if_neg e0]
                 · rw [fset_ne (by omega), q2 j (by omega), fset_ne (by omega)]; exact rj j (by omega)) ((q5 292 (by decide)).trans i1) q4 (s9.fr q5 (by decide)) (fun h3 R3 p1 p2 => k h3 R3 (q5.tr p1) p2)
               rw [show ((e + 1 : Nat) : Int) = (e : Int) + 1 by omega] at z
               exact z)
            | (have e0 : e = 0 := by omega
               refine in55 e _ (Y 53).toNat 0 1 _ _ (fset R (e : Int) 1) _ (by omega) (by omega) (by omega) t2.1 (by omega) (by omega) (fun j j0 => (fset_ne (by omega)).trans (rj j j0)) (fset_at _ _ _) ((up_ne (by decide)).trans i1) (up_at _ _ _) (s9.fr (Fr.one _ _ _) (by decide)) (fun h2 R2 l6 l7 l8 q1 q2 q3 q4 => ?_)
               have q5 := Fr.tr (Fr.one h1 294 (cJ (Ls 10 (fset R (e : Int) 1)))) q1
               have z := ih (e + 1) (some (vI (Int.tdiv x (tenM (digM x - (e : Int)))))) l6 l7 l8 R2 h2 (by omega) (fun j j0 => by
                 show R2 j = fset _ _ _ _
                 by_cases q : j = e
                 · subst q; rw [fset_at, q3, if_pos e0]
                 · rw [fset_ne (by omega), q2 j (by omega), fset_ne (by omega)]; exact rj j (by omega)) ((q5 292 (by decide)).trans i1) q4 (s9.fr q5 (by decide)) (fun h3 R3 p1 p2 => k h3 R3 (q5.tr p1) p2)
               rw [show ((e + 1 : Nat) : Int) = (e : Int) + 1 by omega] at z
               exact z)
          · intro hc10
            refine BX3_countReadings_35 (by first | assumption | exact up_at _ _ _ | (rw [up_ne (by omega)]; first | assumption | exact up_at _ _ _ | (rw [up_ne (by omega)]; assumption))) (by first | omega | assumption | (simp only [Ls_len]; omega) | exact Ls_get (by omega) (by omega) | rfl | decide) (by first | omega | assumption | (simp only [Ls_len]; omega) | exact Ls_get (by omega) (by omega) | rfl | decide) (by first | omega | assumption | (simp only [Ls_len]; omega) | exact Ls_get (by omega) (by omega) | rfl | decide) ?_
            try rw [Ls_set (by omega)]
            refine BX3_countReadings_41 (by first | omega | assumption | (simp only [Ls_len]; omega) | exact Ls_get (by omega) (by omega) | rfl | decide) ?_
            refine R_X3_withoutLast (by first | omega | assumption | (simp only [Ls_len]; omega) | exact Ls_get (by omega) (by omega) | rfl | decide) (by first | omega | assumption | (simp only [Ls_len]; omega) | exact Ls_get (by omega) (by omega) | rfl | decide) ?_
            refine BX3_countReadings_49  ?_
            first
            | (have e0 : ¬ e = 0 := by omega
               refine in55 e _ (Y 53).toNat 0 0 _ _ (fset R (e : Int) 0) _ (by omega) (by omega) (by omega) t2.1 (by omega) (by omega) (fun j j0 => (fset_ne (by omega)).trans (rj j j0)) (fset_at _ _ _) ((up_ne (by decide)).trans i1) (up_at _ _ _) (s9.fr (Fr.one _ _ _) (by decide)) (fun h2 R2 l6 l7 l8 q1 q2 q3 q4 => ?_)
               have q5 := Fr.tr (Fr.one h1 294 (cJ (Ls 10 (fset R (e : Int) 0)))) q1
               have z := ih (e + 1) (some (vI (Int.tdiv x (tenM (digM x - (e : Int)))))) l6 l7 l8 R2 h2 (by omega) (fun j j0 => by
                 show R2 j = fset _ _ _ _
                 by_cases q : j = e
                 · subst q; rw [fset_at, q3, if_neg e0]
                 · rw [fset_ne (by omega), q2 j (by omega), fset_ne (by omega)]; exact rj j (by omega)) ((q5 292 (by decide)).trans i1) q4 (s9.fr q5 (by decide)) (fun h3 R3 p1 p2 => k h3 R3 (q5.tr p1) p2)
               rw [show ((e + 1 : Nat) : Int) = (e : Int) + 1 by omega] at z
               exact z)
            | (have e0 : e = 0 := by omega
               refine in55 e _ (Y 53).toNat 0 1 _ _ (fset R (e : Int) 1) _ (by omega) (by omega) (by omega) t2.1 (by omega) (by omega) (fun j j0 => (fset_ne (by omega)).trans (rj j j0)) (fset_at _ _ _) ((up_ne (by decide)).trans i1) (up_at _ _ _) (s9.fr (Fr.one _ _ _) (by decide)) (fun h2 R2 l6 l7 l8 q1 q2 q3 q4 => ?_)
               have q5 := Fr.tr (Fr.one h1 294 (cJ (Ls 10 (fset R (e : Int) 1)))) q1
               have z := ih (e + 1) (some (vI (Int.tdiv x (tenM (digM x - (e : Int)))))) l6 l7 l8 R2 h2 (by omega) (fun j j0 => by
                 show R2 j = fset _ _ _ _
                 by_cases q : j = e
                 · subst q; rw [fset_at, q3, if_pos e0]
                 · rw [fset_ne (by omega), q2 j (by omega), fset_ne (by omega)]; exact rj j (by omega)) ((q5 292 (by decide)).trans i1) q4 (s9.fr q5 (by decide)) (fun h3 R3 p1 p2 => k h3 R3 (q5.tr p1) p2)
               rw [show ((e + 1 : Nat) : Int) = (e : Int) + 1 by omega] at z
               exact z)
  refine BX3_countReadings_0  ?_
  refine R_X3_digitsOf (by first | omega | assumption | (simp only [Ls_len]; omega) | exact Ls_get (by omega) (by omega) | rfl | decide) ?_
  refine BX3_countReadings_4  ?_
  exact in8 ((digM x).toNat + 1) 0 _ _ _ _ f2 _ (by omega) (fun j j0 => by omega) i1 i2 s k
end READS
section READS2
variable {d bc bs n : Nat} {g h : aH} {Q : aQ} {W V : Int → Int → Int} {X : Int → Tx} {F : Int → Int}
theorem P_reads {x : Int} (s : IsPo g h W V X F) (ok : okW W) (k : ∀ h1, IsPo g h1 W V X F → Q (some (vL (aReads W x))) h1 n) : Rn (d + 30) bc bs mX12_reads 0 [some (vR (some 1)), some (vI x)] [] h n Q := by
  have yd := ok.wd
  obtain ⟨fp, p1, w, v, tp, gr, ⟨lx, la⟩, ro, ri, Gx, gl⟩ := id s; have w1 := w.1; have sh := w.2.1; have se := w.2.2.1; obtain ⟨Ts, ps, st, ste⟩ := w.2.2.2.1; have sa := w.2.2.2.2.1; have sh1 := sh.1; have se1 := se.1; have st1 := st.1; have sa1 := sa.1; obtain ⟨tl, la1⟩ := la.ob; have gl1 := gl.1; have bk0 := se.2.2; have bk1 := bk0.1
  obtain ⟨z1, z2, z3, z4, z5, z6, ri1, ri2, ri3, ri4, ri5⟩ := id ri
  unfold aReads at k
  refine BX12_reads_0  ?_
  refine R_X12_within  ?_ ?_
  · intro w1 w2
    refine BX12_reads_8  ?_ ?_
    · intro hc1
      refine BX12_reads_15 (by first | assumption | exact up_at _ _ _ | (rw [up_ne (by omega)]; first | assumption | exact up_at _ _ _ | (rw [up_ne (by omega)]; assumption))) (by rfl) (by rfl) (by first | assumption | exact up_at _ _ _ | (rw [up_ne (by omega)]; first | assumption | exact up_at _ _ _ | (rw [up_ne (by omega)]; assumption))) (by rfl) (by first | assumption | exact up_at _ _ _ | (rw [up_ne (by omega)]; first | assumption | exact up_at _ _ _ | (rw [up_ne (by omega)]; assumption))) ?_
      refine R_X3_countReadings (by first | omega | assumption | (simp only [Ls_len]; omega) | exact Ls_get (by omega) (by omega) | rfl | decide) (by first | omega | assumption | (simp only [Ls_len]; omega) | exact Ls_get (by omega) (by omega) | rfl | decide) (by first | omega | assumption | (simp only [Ls_len]; omega) | exact Ls_get (by omega) (by omega) | rfl | decide) (by first | omega | assumption | (simp only [Ls_len]; omega) | exact Ls_get (by omega) (by omega) | rfl | decide) (by first | omega | assumption | (simp only [Ls_len]; omega) | exact Ls_get (by omega) (by omega) | rfl | decide) (by first | omega | assumption | (simp only [Ls_len]; omega) | exact Ls_get (by omega) (by omega) | rfl | decide) ?_
      intro h27 f27 r27 e27
      refine BX12_reads_30  ?_
      rw [if_pos (by omega)] at k
      refine k _ (s.rid (r27.wd (by decide) (by decide)) ⟨z1, z2, z3, f27, z5, z6, ?_, ?_, e27, ?_, ?_⟩)
      · exact (r27 _ (by decide)).trans ri1
      · exact (r27 _ (by decide)).trans ri2
      · exact (r27 _ (by decide)).trans ri4
      · exact (r27 _ (by decide)).trans ri5
    · intro hc2
      exact absurd hc2 (by decide)
  · intro w3
    refine BX12_reads_8  ?_ ?_
    · intro hc3
      exact absurd hc3 (by decide)
    · intro hc4
      refine BX12_reads_11  ?_
      (rw [if_neg (by omega)] at k; exact k _ s)
end READS2
