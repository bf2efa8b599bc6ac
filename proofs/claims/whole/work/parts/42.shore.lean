/-! Shore: persons and currents. -/
def IsSh (h : aH) (a : Nat) (np : Int) (pl lk cu : Int → Int) : Prop := h a = cO 7 [vR (some (a + 1)), vR (some (a + 2)), vR (some (a + 3)), vI np] ∧ h (a + 1) = cI (Ls 6 pl) ∧ h (a + 2) = cI (Ls 6 lk) ∧ h (a + 3) = cI (Ls 30 cu)
theorem IsSh.fr {h h1 : aH} {a lo k : Nat} {np : Int} {pl lk cu : Int → Int} (s : IsSh h a np pl lk cu) (f : Fr h h1 lo k) (hd : a + 4 ≤ lo ∨ lo + k ≤ a) : IsSh h1 a np pl lk cu := by
  obtain ⟨s1, s2, s3, s4⟩ := s
  exact ⟨by rw [f _ (by omega)]; exact s1, by rw [f _ (by omega)]; exact s2, by rw [f _ (by omega)]; exact s3, by rw [f _ (by omega)]; exact s4⟩
/-- where the current by a phase leads to, drifting -/
def lead (cu : Int → Int) (t p : Int) : Int := cu (t % 3 * 10 + p)
def drift (cu : Int → Int) (t : Int) : Nat → Int → Int
  | 0, p => p
  | k + 1, p => lead cu (t + k) (drift cu t k p)
/-- every current leads to a place -/
def okCu (cu : Int → Int) : Prop := ∀ j, 0 ≤ j → j < 30 → 0 ≤ cu j ∧ cu j ≤ 9
theorem lead_ok {cu : Int → Int} (hc : okCu cu) {t p : Int} (hp : 0 ≤ p ∧ p ≤ 9) : 0 ≤ lead cu t p ∧ lead cu t p ≤ 9 := hc _ (by omega) (by omega)
theorem drift_ok {cu : Int → Int} (hc : okCu cu) {t p : Int} (hp : 0 ≤ p ∧ p ≤ 9) : ∀ k, 0 ≤ drift cu t k p ∧ drift cu t k p ≤ 9 := by
  intro k
  induction k with
  | zero => exact hp
  | succ k ih => exact lead_ok hc ih
section SHORE
variable {d bc bs n : Nat} {h : aH} {Q : aQ} {a : Nat} {np : Int} {pl lk cu : Int → Int}
theorem R_X7_hasPerson {p : Int} (s : IsSh h a np pl lk cu) (kt : 0 ≤ p → p < np → Q (some (vI 1)) h n) (kf : (p < 0 ∨ np ≤ p) → Q (some (vI 0)) h n) : Rn d bc bs mX7_hasPerson 0 [some (vR (some a)), some (vI p)] [] h n Q := by
  obtain ⟨s1, s2, s3, s4⟩ := s
  refine BX7_hasPerson_0  ?_ ?_
  · intro hc1
    first
    | (exfalso; omega)
    | (
        refine BX7_hasPerson_16  ?_
        first | exact kt (by omega) (by omega) | exact kf (by omega)
      )
  · intro hc2
    first
    | (exfalso; omega)
    | (
        refine BX7_hasPerson_4 (by first | assumption | exact up_at _ _ _ | (rw [up_ne (by omega)]; first | assumption | exact up_at _ _ _ | (rw [up_ne (by omega)]; first | assumption | exact up_at _ _ _ | (rw [up_ne (by omega)]; first | assumption | exact up_at _ _ _ | (rw [up_ne (by omega)]; first | assumption | exact up_at _ _ _ | (rw [up_ne (by omega)]; first | assumption | exact up_at _ _ _ | (rw [up_ne (by omega)]; first | assumption | exact up_at _ _ _ | (rw [up_ne (by omega)]; first | assumption | exact up_at _ _ _ | (rw [up_ne (by omega)]; first | assumption | exact up_at _ _ _ | (rw [up_ne (by omega)]; assumption)))))))))) (by rfl) ?_ ?_
        · intro hc3
          first
          | (exfalso; omega)
          | (
              refine BX7_hasPerson_16  ?_
              first | exact kt (by omega) (by omega) | exact kf (by omega)
            )
        · intro hc4
          first
          | (exfalso; omega)
          | (
              refine BX7_hasPerson_12  ?_
              first | exact kt (by omega) (by omega) | exact kf (by omega)
            )
      )
theorem R_X7_placeOf {p : Int} (s : IsSh h a np pl lk cu) (hn : np ≤ 6) (k : Q (some (vI (if 0 ≤ p ∧ p < np then pl p else 0))) h n) : Rn d bc bs mX7_placeOf 0 [some (vR (some a)), some (vI p)] [] h n Q := by
  obtain ⟨s1, s2, s3, s4⟩ := s
  have hl := Ls_len 6 pl
  refine BX7_placeOf_0  ?_ ?_
  · intro hc1
    first
    | (exfalso; omega)
    | (
        refine BX7_placeOf_30  ?_
        first | (rw [if_pos (by omega)] at k; exact k) | (rw [if_neg (by omega)] at k; exact k)
      )
  · intro hc2
    first
    | (exfalso; omega)
    | (
        refine BX7_placeOf_4 (by first | assumption | exact up_at _ _ _ | (rw [up_ne (by omega)]; first | assumption | exact up_at _ _ _ | (rw [up_ne (by omega)]; first | assumption | exact up_at _ _ _ | (rw [up_ne (by omega)]; first | assumption | exact up_at _ _ _ | (rw [up_ne (by omega)]; first | assumption | exact up_at _ _ _ | (rw [up_ne (by omega)]; first | assumption | exact up_at _ _ _ | (rw [up_ne (by omega)]; first | assumption | exact up_at _ _ _ | (rw [up_ne (by omega)]; first | assumption | exact up_at _ _ _ | (rw [up_ne (by omega)]; first | assumption | exact up_at _ _ _ | (rw [up_ne (by omega)]; assumption)))))))))) (by rfl) ?_ ?_
        · intro hc3
          first
          | (exfalso; omega)
          | (
              refine BX7_placeOf_30  ?_
              first | (rw [if_pos (by omega)] at k; exact k) | (rw [if_neg (by omega)] at k; exact k)
            )
        · intro hc4
          first
          | (exfalso; omega)
          | (
              refine BX7_placeOf_12 (by first | assumption | exact up_at _ _ _ | (rw [up_ne (by omega)]; first | assumption | exact up_at _ _ _ | (rw [up_ne (by omega)]; first | assumption | exact up_at _ _ _ | (rw [up_ne (by omega)]; first | assumption | exact up_at _ _ _ | (rw [up_ne (by omega)]; first | assumption | exact up_at _ _ _ | (rw [up_ne (by omega)]; first | assumption | exact up_at _ _ _ | (rw [up_ne (by omega)]; first | assumption | exact up_at _ _ _ | (rw [up_ne (by omega)]; first | assumption | exact up_at _ _ _ | (rw [up_ne (by omega)]; first | assumption | exact up_at _ _ _ | (rw [up_ne (by omega)]; assumption)))))))))) (by rfl) (by first | assumption | exact up_at _ _ _ | (rw [up_ne (by omega)]; first | assumption | exact up_at _ _ _ | (rw [up_ne (by omega)]; first | assumption | exact up_at _ _ _ | (rw [up_ne (by omega)]; first | assumption | exact up_at _ _ _ | (rw [up_ne (by omega)]; first | assumption | exact up_at _ _ _ | (rw [up_ne (by omega)]; first | assumption | exact up_at _ _ _ | (rw [up_ne (by omega)]; first | assumption | exact up_at _ _ _ | (rw [up_ne (by omega)]; first | assumption | exact up_at _ _ _ | (rw [up_ne (by omega)]; first | assumption | exact up_at _ _ _ | (rw [up_ne (by omega)]; assumption)))))))))) (by first | omega | (simp only [Ls_len]; omega) | assumption | exact Ls_get (by omega) (by omega) | rfl | decide) (by first | omega | (simp only [Ls_len]; omega) | assumption | exact Ls_get (by omega) (by omega) | rfl | decide) ?_ ?_
              · intro hc5
                first
                | (exfalso; omega)
                | (
                    refine BX7_placeOf_30  ?_
                    first | (rw [if_pos (by omega)] at k; exact k) | (rw [if_neg (by omega)] at k; exact k)
                  )
              · intro hc6
                first
                | (exfalso; omega)
                | (
                    refine BX7_placeOf_21 (by first | assumption | exact up_at _ _ _ | (rw [up_ne (by omega)]; first | assumption | exact up_at _ _ _ | (rw [up_ne (by omega)]; first | assumption | exact up_at _ _ _ | (rw [up_ne (by omega)]; first | assumption | exact up_at _ _ _ | (rw [up_ne (by omega)]; first | assumption | exact up_at _ _ _ | (rw [up_ne (by omega)]; first | assumption | exact up_at _ _ _ | (rw [up_ne (by omega)]; first | assumption | exact up_at _ _ _ | (rw [up_ne (by omega)]; first | assumption | exact up_at _ _ _ | (rw [up_ne (by omega)]; first | assumption | exact up_at _ _ _ | (rw [up_ne (by omega)]; assumption)))))))))) (by rfl) (by first | assumption | exact up_at _ _ _ | (rw [up_ne (by omega)]; first | assumption | exact up_at _ _ _ | (rw [up_ne (by omega)]; first | assumption | exact up_at _ _ _ | (rw [up_ne (by omega)]; first | assumption | exact up_at _ _ _ | (rw [up_ne (by omega)]; first | assumption | exact up_at _ _ _ | (rw [up_ne (by omega)]; first | assumption | exact up_at _ _ _ | (rw [up_ne (by omega)]; first | assumption | exact up_at _ _ _ | (rw [up_ne (by omega)]; first | assumption | exact up_at _ _ _ | (rw [up_ne (by omega)]; first | assumption | exact up_at _ _ _ | (rw [up_ne (by omega)]; assumption)))))))))) (by first | omega | (simp only [Ls_len]; omega) | assumption | exact Ls_get (by omega) (by omega) | rfl | decide) (by first | exact Ls_get (by omega) (by omega) | assumption) ?_
                    first | (rw [if_pos (by omega)] at k; exact k) | (rw [if_neg (by omega)] at k; exact k)
                  )
            )
      )
theorem R_X7_luckOf {p : Int} (s : IsSh h a np pl lk cu) (hn : np ≤ 6) (k : Q (some (vI (if 0 ≤ p ∧ p < np then lk p else 0))) h n) : Rn d bc bs mX7_luckOf 0 [some (vR (some a)), some (vI p)] [] h n Q := by
  obtain ⟨s1, s2, s3, s4⟩ := s
  have hl := Ls_len 6 lk
  refine BX7_luckOf_0  ?_ ?_
  · intro hc1
    first
    | (exfalso; omega)
    | (
        refine BX7_luckOf_30  ?_
        first | (rw [if_pos (by omega)] at k; exact k) | (rw [if_neg (by omega)] at k; exact k)
      )
  · intro hc2
    first
    | (exfalso; omega)
    | (
        refine BX7_luckOf_4 (by first | assumption | exact up_at _ _ _ | (rw [up_ne (by omega)]; first | assumption | exact up_at _ _ _ | (rw [up_ne (by omega)]; first | assumption | exact up_at _ _ _ | (rw [up_ne (by omega)]; first | assumption | exact up_at _ _ _ | (rw [up_ne (by omega)]; first | assumption | exact up_at _ _ _ | (rw [up_ne (by omega)]; first | assumption | exact up_at _ _ _ | (rw [up_ne (by omega)]; first | assumption | exact up_at _ _ _ | (rw [up_ne (by omega)]; first | assumption | exact up_at _ _ _ | (rw [up_ne (by omega)]; first | assumption | exact up_at _ _ _ | (rw [up_ne (by omega)]; assumption)))))))))) (by rfl) ?_ ?_
        · intro hc3
          first
          | (exfalso; omega)
          | (
              refine BX7_luckOf_30  ?_
              first | (rw [if_pos (by omega)] at k; exact k) | (rw [if_neg (by omega)] at k; exact k)
            )
        · intro hc4
          first
          | (exfalso; omega)
          | (
              refine BX7_luckOf_12 (by first | assumption | exact up_at _ _ _ | (rw [up_ne (by omega)]; first | assumption | exact up_at _ _ _ | (rw [up_ne (by omega)]; first | assumption | exact up_at _ _ _ | (rw [up_ne (by omega)]; first | assumption | exact up_at _ _ _ | (rw [up_ne (by omega)]; first | assumption | exact up_at _ _ _ | (rw [up_ne (by omega)]; first | assumption | exact up_at _ _ _ | (rw [up_ne (by omega)]; first | assumption | exact up_at _ _ _ | (rw [up_ne (by omega)]; first | assumption | exact up_at _ _ _ | (rw [up_ne (by omega)]; first | assumption | exact up_at _ _ _ | (rw [up_ne (by omega)]; assumption)))))))))) (by rfl) (by first | assumption | exact up_at _ _ _ | (rw [up_ne (by omega)]; first | assumption | exact up_at _ _ _ | (rw [up_ne (by omega)]; first | assumption | exact up_at _ _ _ | (rw [up_ne (by omega)]; first | assumption | exact up_at _ _ _ | (rw [up_ne (by omega)]; first | assumption | exact up_at _ _ _ | (rw [up_ne (by omega)]; first | assumption | exact up_at _ _ _ | (rw [up_ne (by omega)]; first | assumption | exact up_at _ _ _ | (rw [up_ne (by omega)]; first | assumption | exact up_at _ _ _ | (rw [up_ne (by omega)]; first | assumption | exact up_at _ _ _ | (rw [up_ne (by omega)]; assumption)))))))))) (by first | omega | (simp only [Ls_len]; omega) | assumption | exact Ls_get (by omega) (by omega) | rfl | decide) (by first | omega | (simp only [Ls_len]; omega) | assumption | exact Ls_get (by omega) (by omega) | rfl | decide) ?_ ?_
              · intro hc5
                first
                | (exfalso; omega)
                | (
                    refine BX7_luckOf_30  ?_
                    first | (rw [if_pos (by omega)] at k; exact k) | (rw [if_neg (by omega)] at k; exact k)
                  )
              · intro hc6
                first
                | (exfalso; omega)
                | (
                    refine BX7_luckOf_21 (by first | assumption | exact up_at _ _ _ | (rw [up_ne (by omega)]; first | assumption | exact up_at _ _ _ | (rw [up_ne (by omega)]; first | assumption | exact up_at _ _ _ | (rw [up_ne (by omega)]; first | assumption | exact up_at _ _ _ | (rw [up_ne (by omega)]; first | assumption | exact up_at _ _ _ | (rw [up_ne (by omega)]; first | assumption | exact up_at _ _ _ | (rw [up_ne (by omega)]; first | assumption | exact up_at _ _ _ | (rw [up_ne (by omega)]; first | assumption | exact up_at _ _ _ | (rw [up_ne (by omega)]; first | assumption | exact up_at _ _ _ | (rw [up_ne (by omega)]; assumption)))))))))) (by rfl) (by first | assumption | exact up_at _ _ _ | (rw [up_ne (by omega)]; first | assumption | exact up_at _ _ _ | (rw [up_ne (by omega)]; first | assumption | exact up_at _ _ _ | (rw [up_ne (by omega)]; first | assumption | exact up_at _ _ _ | (rw [up_ne (by omega)]; first | assumption | exact up_at _ _ _ | (rw [up_ne (by omega)]; first | assumption | exact up_at _ _ _ | (rw [up_ne (by omega)]; first | assumption | exact up_at _ _ _ | (rw [up_ne (by omega)]; first | assumption | exact up_at _ _ _ | (rw [up_ne (by omega)]; first | assumption | exact up_at _ _ _ | (rw [up_ne (by omega)]; assumption)))))))))) (by first | omega | (simp only [Ls_len]; omega) | assumption | exact Ls_get (by omega) (by omega) | rfl | decide) (by first | exact Ls_get (by omega) (by omega) | assumption) ?_
                    first | (rw [if_pos (by omega)] at k; exact k) | (rw [if_neg (by omega)] at k; exact k)
                  )
            )
      )
theorem R_X7_leadsTo {t p : Int} (s : IsSh h a np pl lk cu) (ht : 0 ≤ t) (ht1 : t < 2147483648) (hp : 0 ≤ p) (hp1 : p ≤ 9) (k : Q (some (vI (lead cu t p))) h n) : Rn (d + 1) bc bs mX7_leadsTo 0 [some (vR (some a)), some (vI t), some (vI p), none] [] h n Q := by
  obtain ⟨s1, s2, s3, s4⟩ := s
  have hl := Ls_len 30 cu
  refine BX7_leadsTo_0  ?_
  refine R_J9_floorMod (by first | omega | (simp only [Ls_len]; omega) | assumption | exact Ls_get (by omega) (by omega) | rfl | decide) (by first | omega | (simp only [Ls_len]; omega) | assumption | exact Ls_get (by omega) (by omega) | rfl | decide) (by first | omega | (simp only [Ls_len]; omega) | assumption | exact Ls_get (by omega) (by omega) | rfl | decide) (by first | omega | (simp only [Ls_len]; omega) | assumption | exact Ls_get (by omega) (by omega) | rfl | decide) ?_
  refine BX7_leadsTo_5 (by first | omega | (simp only [Ls_len]; omega) | assumption | exact Ls_get (by omega) (by omega) | rfl | decide) (by first | omega | (simp only [Ls_len]; omega) | assumption | exact Ls_get (by omega) (by omega) | rfl | decide) ?_ ?_
  · intro hc1
    first
    | (exfalso; omega)
    | (
        refine BX7_leadsTo_33  ?_
        exact k
      )
  · intro hc2
    first
    | (exfalso; omega)
    | (
        refine BX7_leadsTo_15 (by first | assumption | exact up_at _ _ _ | (rw [up_ne (by omega)]; first | assumption | exact up_at _ _ _ | (rw [up_ne (by omega)]; first | assumption | exact up_at _ _ _ | (rw [up_ne (by omega)]; first | assumption | exact up_at _ _ _ | (rw [up_ne (by omega)]; first | assumption | exact up_at _ _ _ | (rw [up_ne (by omega)]; first | assumption | exact up_at _ _ _ | (rw [up_ne (by omega)]; first | assumption | exact up_at _ _ _ | (rw [up_ne (by omega)]; first | assumption | exact up_at _ _ _ | (rw [up_ne (by omega)]; first | assumption | exact up_at _ _ _ | (rw [up_ne (by omega)]; assumption)))))))))) (by rfl) (by first | assumption | exact up_at _ _ _ | (rw [up_ne (by omega)]; first | assumption | exact up_at _ _ _ | (rw [up_ne (by omega)]; first | assumption | exact up_at _ _ _ | (rw [up_ne (by omega)]; first | assumption | exact up_at _ _ _ | (rw [up_ne (by omega)]; first | assumption | exact up_at _ _ _ | (rw [up_ne (by omega)]; first | assumption | exact up_at _ _ _ | (rw [up_ne (by omega)]; first | assumption | exact up_at _ _ _ | (rw [up_ne (by omega)]; first | assumption | exact up_at _ _ _ | (rw [up_ne (by omega)]; first | assumption | exact up_at _ _ _ | (rw [up_ne (by omega)]; assumption)))))))))) (by first | omega | (simp only [Ls_len]; omega) | assumption | exact Ls_get (by omega) (by omega) | rfl | decide) (by first | omega | (simp only [Ls_len]; omega) | assumption | exact Ls_get (by omega) (by omega) | rfl | decide) ?_ ?_
        · intro hc3
          first
          | (exfalso; omega)
          | (
              refine BX7_leadsTo_33  ?_
              exact k
            )
        · intro hc4
          first
          | (exfalso; omega)
          | (
              refine BX7_leadsTo_24 (by first | assumption | exact up_at _ _ _ | (rw [up_ne (by omega)]; first | assumption | exact up_at _ _ _ | (rw [up_ne (by omega)]; first | assumption | exact up_at _ _ _ | (rw [up_ne (by omega)]; first | assumption | exact up_at _ _ _ | (rw [up_ne (by omega)]; first | assumption | exact up_at _ _ _ | (rw [up_ne (by omega)]; first | assumption | exact up_at _ _ _ | (rw [up_ne (by omega)]; first | assumption | exact up_at _ _ _ | (rw [up_ne (by omega)]; first | assumption | exact up_at _ _ _ | (rw [up_ne (by omega)]; first | assumption | exact up_at _ _ _ | (rw [up_ne (by omega)]; assumption)))))))))) (by rfl) (by first | assumption | exact up_at _ _ _ | (rw [up_ne (by omega)]; first | assumption | exact up_at _ _ _ | (rw [up_ne (by omega)]; first | assumption | exact up_at _ _ _ | (rw [up_ne (by omega)]; first | assumption | exact up_at _ _ _ | (rw [up_ne (by omega)]; first | assumption | exact up_at _ _ _ | (rw [up_ne (by omega)]; first | assumption | exact up_at _ _ _ | (rw [up_ne (by omega)]; first | assumption | exact up_at _ _ _ | (rw [up_ne (by omega)]; first | assumption | exact up_at _ _ _ | (rw [up_ne (by omega)]; first | assumption | exact up_at _ _ _ | (rw [up_ne (by omega)]; assumption)))))))))) (by first | omega | (simp only [Ls_len]; omega) | assumption | exact Ls_get (by omega) (by omega) | rfl | decide) (by first | exact Ls_get (by omega) (by omega) | assumption) ?_
              exact k
            )
      )
theorem R_X7_driftsTo {p t N : Int} (s : IsSh h a np pl lk cu) (hc : okCu cu) (ht : 0 ≤ t) (ht1 : t < 100000) (hp : 0 ≤ p ∧ p ≤ 9) (hN : 0 ≤ N) (hN1 : N < 100000) (k : Q (some (vI (drift cu t N.toNat p))) h n) : Rn (d + 2) bc bs mX7_driftsTo 0 [some (vR (some a)), some (vI p), some (vI t), some (vI N), none, none] [] h n Q := by
  have loop : ∀ (m : Nat) (i : Nat), (i : Int) + m = N → Rn (d + 2) bc bs mX7_driftsTo 6 [some (vR (some a)), some (vI p), some (vI t), some (vI N), some (vI (drift cu t i p)), some (vI i)] [] h n Q := by
    intro m
    induction m with
    | zero =>
      intro i hi
      have e : i = N.toNat := by omega
      refine BX7_driftsTo_6  ?_ ?_
      · intro hc1
        first
        | (exfalso; omega)
        | (
            refine BX7_driftsTo_30  ?_
            (rw [e]; exact k)
          )
      · intro hc2
        first
        | (exfalso; omega)
        | (
            refine BX7_driftsTo_12 (by first | omega | (simp only [Ls_len]; omega) | assumption | exact Ls_get (by omega) (by omega) | rfl | decide) (by first | assumption | exact up_at _ _ _ | (rw [up_ne (by omega)]; first | assumption | exact up_at _ _ _ | (rw [up_ne (by omega)]; first | assumption | exact up_at _ _ _ | (rw [up_ne (by omega)]; first | assumption | exact up_at _ _ _ | (rw [up_ne (by omega)]; first | assumption | exact up_at _ _ _ | (rw [up_ne (by omega)]; first | assumption | exact up_at _ _ _ | (rw [up_ne (by omega)]; first | assumption | exact up_at _ _ _ | (rw [up_ne (by omega)]; first | assumption | exact up_at _ _ _ | (rw [up_ne (by omega)]; first | assumption | exact up_at _ _ _ | (rw [up_ne (by omega)]; assumption)))))))))) ?_
            refine R_X7_leadsTo (by first | omega | (simp only [Ls_len]; omega) | assumption | exact Ls_get (by omega) (by omega) | rfl | decide) (by first | omega | (simp only [Ls_len]; omega) | assumption | exact Ls_get (by omega) (by omega) | rfl | decide) (by first | omega | (simp only [Ls_len]; omega) | assumption | exact Ls_get (by omega) (by omega) | rfl | decide) (by first | omega | (simp only [Ls_len]; omega) | assumption | exact Ls_get (by omega) (by omega) | rfl | decide) (by first | omega | (simp only [Ls_len]; omega) | assumption | exact Ls_get (by omega) (by omega) | rfl | decide) ?_
            refine BX7_driftsTo_22 (by first | omega | (simp only [Ls_len]; omega) | assumption | exact Ls_get (by omega) (by omega) | rfl | decide) ?_
            (exfalso; omega)
          )
    | succ m ih =>
      intro i hi
      have h9 := drift_ok hc hp i (t := t)
      have h1 := s.1
      refine BX7_driftsTo_6  ?_ ?_
      · intro hc1
        first
        | (exfalso; omega)
        | (
            refine BX7_driftsTo_30  ?_
            exact k
          )
      · intro hc2
        first
        | (exfalso; omega)
        | (
            refine BX7_driftsTo_12 (by first | omega | (simp only [Ls_len]; omega) | assumption | exact Ls_get (by omega) (by omega) | rfl | decide) (by first | assumption | exact up_at _ _ _ | (rw [up_ne (by omega)]; first | assumption | exact up_at _ _ _ | (rw [up_ne (by omega)]; first | assumption | exact up_at _ _ _ | (rw [up_ne (by omega)]; first | assumption | exact up_at _ _ _ | (rw [up_ne (by omega)]; first | assumption | exact up_at _ _ _ | (rw [up_ne (by omega)]; first | assumption | exact up_at _ _ _ | (rw [up_ne (by omega)]; first | assumption | exact up_at _ _ _ | (rw [up_ne (by omega)]; first | assumption | exact up_at _ _ _ | (rw [up_ne (by omega)]; first | assumption | exact up_at _ _ _ | (rw [up_ne (by omega)]; assumption)))))))))) ?_
            refine R_X7_leadsTo (by first | omega | (simp only [Ls_len]; omega) | assumption | exact Ls_get (by omega) (by omega) | rfl | decide) (by first | omega | (simp only [Ls_len]; omega) | assumption | exact Ls_get (by omega) (by omega) | rfl | decide) (by first | omega | (simp only [Ls_len]; omega) | assumption | exact Ls_get (by omega) (by omega) | rfl | decide) (by first | omega | (simp only [Ls_len]; omega) | assumption | exact Ls_get (by omega) (by omega) | rfl | decide) (by first | omega | (simp only [Ls_len]; omega) | assumption | exact Ls_get (by omega) (by omega) | rfl | decide) ?_
            refine BX7_driftsTo_22 (by first | omega | (simp only [Ls_len]; omega) | assumption | exact Ls_get (by omega) (by omega) | rfl | decide) ?_
            exact ih (i + 1) (by omega)
          )
  refine BX7_driftsTo_0  ?_
  exact loop N.toNat 0 (by omega)
end SHORE
