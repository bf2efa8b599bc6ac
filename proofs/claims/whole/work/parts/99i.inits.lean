/-! The makings. -/
def se0 : Int → Int := fun j => if j = 74 then 227 else 0
def sa0 : Int → Int := fun j => if j = 55 then 5 else if j = 56 then 1 else 0
def cu0 : Int → Int := fun j => if j < 10 then (j + 1) % 10 else if j < 20 then (j - 10 + 3) % 10 else j - 20
theorem IsBk_se0 {h : aH} {b : Nat} (s : IsBk h b 0 (fun _ => 0)) : IsBk h b (se0 75) (bk se0) := by
  refine ⟨s.1, s.2.trans ?_⟩
  exact congrArg _ (Ls_ext fun j j0 j1 => by unfold bk se0; rw [if_neg (by omega)])
section INITS
variable {d n : Nat} {h : aH} {Q : aQ} {a : Nat}
theorem R_X0_init (hh : h a = cO 0 [vR none, vI 0]) (ha : a ≠ 0) (k : ∀ h1, Fr h h1 a 2 → IsBk h1 a 0 (fun _ => 0) → Q none h1 (a + 2)) : Rn (d + 1) 1 120 mX0_init 0 [some (vR (some a))] [] h (a + 1) Q := by
  refine BX0_init_0  ?_
  refine BX0_init_9 (by first | assumption | exact up_at _ _ _ | (rw [up_ne (by omega)]; first | assumption | exact up_at _ _ _ | (rw [up_ne (by omega)]; first | assumption | exact up_at _ _ _ | (rw [up_ne (by omega)]; first | assumption | exact up_at _ _ _ | (rw [up_ne (by omega)]; first | assumption | exact up_at _ _ _ | (rw [up_ne (by omega)]; first | assumption | exact up_at _ _ _ | (rw [up_ne (by omega)]; first | assumption | exact up_at _ _ _ | (rw [up_ne (by omega)]; first | assumption | exact up_at _ _ _ | (rw [up_ne (by omega)]; first | assumption | exact up_at _ _ _ | (rw [up_ne (by omega)]; assumption)))))))))) (by simp) ?_
  refine BX0_init_12 (by first | assumption | exact up_at _ _ _ | (rw [up_ne (by omega)]; first | assumption | exact up_at _ _ _ | (rw [up_ne (by omega)]; first | assumption | exact up_at _ _ _ | (rw [up_ne (by omega)]; first | assumption | exact up_at _ _ _ | (rw [up_ne (by omega)]; first | assumption | exact up_at _ _ _ | (rw [up_ne (by omega)]; first | assumption | exact up_at _ _ _ | (rw [up_ne (by omega)]; first | assumption | exact up_at _ _ _ | (rw [up_ne (by omega)]; first | assumption | exact up_at _ _ _ | (rw [up_ne (by omega)]; first | assumption | exact up_at _ _ _ | (rw [up_ne (by omega)]; assumption)))))))))) (by simp) ?_
  refine BX0_init_17  ?_
  refine k _ (by repeat' (first | exact Fr.rf _ _ _ | assumption | refine Fr.put ?_ (by omega) (by omega))) ⟨?_, ?_⟩
  · (simp (disch := omega) only [up_at, up_ne, Ls_rep] <;> rfl)
  · (simp (disch := omega) only [up_at, up_ne, Ls_rep] <;> rfl)
theorem R_X6_init (hh : h a = cO 6 [vR none, vR none, vI 0, vI 0, vI 0]) (ha : a ≠ 0) (k : ∀ h1, Fr h h1 a 4 → IsSe h1 a se0 → Q none h1 (a + 4)) : Rn (d + 2) 3 194 mX6_init 0 [some (vR (some a))] [] h (a + 1) Q := by
  refine BX6_init_0  ?_
  refine BX6_init_9 (by first | assumption | exact up_at _ _ _ | (rw [up_ne (by omega)]; first | assumption | exact up_at _ _ _ | (rw [up_ne (by omega)]; first | assumption | exact up_at _ _ _ | (rw [up_ne (by omega)]; first | assumption | exact up_at _ _ _ | (rw [up_ne (by omega)]; first | assumption | exact up_at _ _ _ | (rw [up_ne (by omega)]; first | assumption | exact up_at _ _ _ | (rw [up_ne (by omega)]; first | assumption | exact up_at _ _ _ | (rw [up_ne (by omega)]; first | assumption | exact up_at _ _ _ | (rw [up_ne (by omega)]; first | assumption | exact up_at _ _ _ | (rw [up_ne (by omega)]; assumption)))))))))) (by simp) ?_
  refine BX6_init_12  ?_
  refine BX6_init_16 (bc1 := 1) (bs1 := 120) (bc := 0) (bs := 0)  ?_
  refine R_X0_init (by first | omega | assumption | exact up_at _ _ _ | (simp only [Ls_len]; omega) | exact Ls_get (by omega) (by omega) | rfl | decide) (by first | omega | assumption | exact up_at _ _ _ | (simp only [Ls_len]; omega) | exact Ls_get (by omega) (by omega) | rfl | decide) ?_
  intro h17 r17 s17
  have f17 : Fr h h17 a 4 := Fr.tr (by repeat' (first | exact Fr.rf _ _ _ | assumption | refine Fr.put ?_ (by omega) (by omega))) (r17.wd (by omega) (by omega))
  have z17 : h17 a = cO 6 [vR (some (a + 1)), vR none, vI 0, vI 0, vI 0] := (r17 a (by omega)).trans (by (simp (disch := omega) only [up_at, up_ne, Ls_rep] <;> rfl))
  have y17 : h17 (a + 1) = cI (Ls 72 fun _ => 0) := (r17 (a + 1) (by omega)).trans (by (simp (disch := omega) only [up_at, up_ne, Ls_rep] <;> rfl))
  refine BX6_init_20 (by first | assumption | exact up_at _ _ _ | (rw [up_ne (by omega)]; first | assumption | exact up_at _ _ _ | (rw [up_ne (by omega)]; first | assumption | exact up_at _ _ _ | (rw [up_ne (by omega)]; first | assumption | exact up_at _ _ _ | (rw [up_ne (by omega)]; first | assumption | exact up_at _ _ _ | (rw [up_ne (by omega)]; first | assumption | exact up_at _ _ _ | (rw [up_ne (by omega)]; first | assumption | exact up_at _ _ _ | (rw [up_ne (by omega)]; first | assumption | exact up_at _ _ _ | (rw [up_ne (by omega)]; first | assumption | exact up_at _ _ _ | (rw [up_ne (by omega)]; assumption)))))))))) (by simp) ?_
  refine BX6_init_23 (by first | assumption | exact up_at _ _ _ | (rw [up_ne (by omega)]; first | assumption | exact up_at _ _ _ | (rw [up_ne (by omega)]; first | assumption | exact up_at _ _ _ | (rw [up_ne (by omega)]; first | assumption | exact up_at _ _ _ | (rw [up_ne (by omega)]; first | assumption | exact up_at _ _ _ | (rw [up_ne (by omega)]; first | assumption | exact up_at _ _ _ | (rw [up_ne (by omega)]; first | assumption | exact up_at _ _ _ | (rw [up_ne (by omega)]; first | assumption | exact up_at _ _ _ | (rw [up_ne (by omega)]; first | assumption | exact up_at _ _ _ | (rw [up_ne (by omega)]; assumption)))))))))) (by simp) ?_
  refine BX6_init_28 (by first | assumption | exact up_at _ _ _ | (rw [up_ne (by omega)]; first | assumption | exact up_at _ _ _ | (rw [up_ne (by omega)]; first | assumption | exact up_at _ _ _ | (rw [up_ne (by omega)]; first | assumption | exact up_at _ _ _ | (rw [up_ne (by omega)]; first | assumption | exact up_at _ _ _ | (rw [up_ne (by omega)]; first | assumption | exact up_at _ _ _ | (rw [up_ne (by omega)]; first | assumption | exact up_at _ _ _ | (rw [up_ne (by omega)]; first | assumption | exact up_at _ _ _ | (rw [up_ne (by omega)]; first | assumption | exact up_at _ _ _ | (rw [up_ne (by omega)]; assumption)))))))))) (by simp) ?_
  refine BX6_init_33 (by first | assumption | exact up_at _ _ _ | (rw [up_ne (by omega)]; first | assumption | exact up_at _ _ _ | (rw [up_ne (by omega)]; first | assumption | exact up_at _ _ _ | (rw [up_ne (by omega)]; first | assumption | exact up_at _ _ _ | (rw [up_ne (by omega)]; first | assumption | exact up_at _ _ _ | (rw [up_ne (by omega)]; first | assumption | exact up_at _ _ _ | (rw [up_ne (by omega)]; first | assumption | exact up_at _ _ _ | (rw [up_ne (by omega)]; first | assumption | exact up_at _ _ _ | (rw [up_ne (by omega)]; first | assumption | exact up_at _ _ _ | (rw [up_ne (by omega)]; assumption)))))))))) (by simp) ?_
  refine BX6_init_40  ?_
  refine k _ (by repeat' (first | exact Fr.rf _ _ _ | assumption | refine Fr.put ?_ (by omega) (by omega))) ⟨?_, ?_, ?_⟩
  · (simp (disch := omega) only [up_at, up_ne, Ls_rep] <;> rfl)
  · simp (disch := omega) only [up_ne, y17]
    exact congrArg _ (Ls_ext fun j j0 j1 => by unfold se0; rw [if_neg (by omega)])
  · refine IsBk_se0 (s17.fr (lo := a) (k := 1) ?_ (by omega))
    exact (by repeat' (first | exact Fr.rf _ _ _ | assumption | refine Fr.put ?_ (by omega) (by omega)))
theorem R_X5_init (hh : h a = cO 5 [vR none, vR none, vR none, vR none, vR none, vR none, vR none, vI 0, vI 0, vI 0, vI 0, vI 0]) (ha : a ≠ 0) (k : ∀ h1, Fr h h1 a 8 → IsSa h1 a sa0 → Q none h1 (a + 8)) : Rn (d + 1) 7 52 mX5_init 0 [some (vR (some a))] [] h (a + 1) Q := by
  refine BX5_init_0  ?_
  refine BX5_init_9 (by first | assumption | exact up_at _ _ _ | (rw [up_ne (by omega)]; first | assumption | exact up_at _ _ _ | (rw [up_ne (by omega)]; first | assumption | exact up_at _ _ _ | (rw [up_ne (by omega)]; first | assumption | exact up_at _ _ _ | (rw [up_ne (by omega)]; first | assumption | exact up_at _ _ _ | (rw [up_ne (by omega)]; first | assumption | exact up_at _ _ _ | (rw [up_ne (by omega)]; first | assumption | exact up_at _ _ _ | (rw [up_ne (by omega)]; first | assumption | exact up_at _ _ _ | (rw [up_ne (by omega)]; first | assumption | exact up_at _ _ _ | (rw [up_ne (by omega)]; assumption)))))))))) (by simp) ?_
  refine BX5_init_12  ?_
  refine BX5_init_17 (by first | assumption | exact up_at _ _ _ | (rw [up_ne (by omega)]; first | assumption | exact up_at _ _ _ | (rw [up_ne (by omega)]; first | assumption | exact up_at _ _ _ | (rw [up_ne (by omega)]; first | assumption | exact up_at _ _ _ | (rw [up_ne (by omega)]; first | assumption | exact up_at _ _ _ | (rw [up_ne (by omega)]; first | assumption | exact up_at _ _ _ | (rw [up_ne (by omega)]; first | assumption | exact up_at _ _ _ | (rw [up_ne (by omega)]; first | assumption | exact up_at _ _ _ | (rw [up_ne (by omega)]; first | assumption | exact up_at _ _ _ | (rw [up_ne (by omega)]; assumption)))))))))) (by simp) ?_
  refine BX5_init_20  ?_
  refine BX5_init_25 (by first | assumption | exact up_at _ _ _ | (rw [up_ne (by omega)]; first | assumption | exact up_at _ _ _ | (rw [up_ne (by omega)]; first | assumption | exact up_at _ _ _ | (rw [up_ne (by omega)]; first | assumption | exact up_at _ _ _ | (rw [up_ne (by omega)]; first | assumption | exact up_at _ _ _ | (rw [up_ne (by omega)]; first | assumption | exact up_at _ _ _ | (rw [up_ne (by omega)]; first | assumption | exact up_at _ _ _ | (rw [up_ne (by omega)]; first | assumption | exact up_at _ _ _ | (rw [up_ne (by omega)]; first | assumption | exact up_at _ _ _ | (rw [up_ne (by omega)]; assumption)))))))))) (by simp) ?_
  refine BX5_init_28  ?_
  refine BX5_init_33 (by first | assumption | exact up_at _ _ _ | (rw [up_ne (by omega)]; first | assumption | exact up_at _ _ _ | (rw [up_ne (by omega)]; first | assumption | exact up_at _ _ _ | (rw [up_ne (by omega)]; first | assumption | exact up_at _ _ _ | (rw [up_ne (by omega)]; first | assumption | exact up_at _ _ _ | (rw [up_ne (by omega)]; first | assumption | exact up_at _ _ _ | (rw [up_ne (by omega)]; first | assumption | exact up_at _ _ _ | (rw [up_ne (by omega)]; first | assumption | exact up_at _ _ _ | (rw [up_ne (by omega)]; first | assumption | exact up_at _ _ _ | (rw [up_ne (by omega)]; assumption)))))))))) (by simp) ?_
  refine BX5_init_36  ?_
  refine BX5_init_41 (by first | assumption | exact up_at _ _ _ | (rw [up_ne (by omega)]; first | assumption | exact up_at _ _ _ | (rw [up_ne (by omega)]; first | assumption | exact up_at _ _ _ | (rw [up_ne (by omega)]; first | assumption | exact up_at _ _ _ | (rw [up_ne (by omega)]; first | assumption | exact up_at _ _ _ | (rw [up_ne (by omega)]; first | assumption | exact up_at _ _ _ | (rw [up_ne (by omega)]; first | assumption | exact up_at _ _ _ | (rw [up_ne (by omega)]; first | assumption | exact up_at _ _ _ | (rw [up_ne (by omega)]; first | assumption | exact up_at _ _ _ | (rw [up_ne (by omega)]; assumption)))))))))) (by simp) ?_
  refine BX5_init_44  ?_
  refine BX5_init_49 (by first | assumption | exact up_at _ _ _ | (rw [up_ne (by omega)]; first | assumption | exact up_at _ _ _ | (rw [up_ne (by omega)]; first | assumption | exact up_at _ _ _ | (rw [up_ne (by omega)]; first | assumption | exact up_at _ _ _ | (rw [up_ne (by omega)]; first | assumption | exact up_at _ _ _ | (rw [up_ne (by omega)]; first | assumption | exact up_at _ _ _ | (rw [up_ne (by omega)]; first | assumption | exact up_at _ _ _ | (rw [up_ne (by omega)]; first | assumption | exact up_at _ _ _ | (rw [up_ne (by omega)]; first | assumption | exact up_at _ _ _ | (rw [up_ne (by omega)]; assumption)))))))))) (by simp) ?_
  refine BX5_init_52  ?_
  refine BX5_init_57 (by first | assumption | exact up_at _ _ _ | (rw [up_ne (by omega)]; first | assumption | exact up_at _ _ _ | (rw [up_ne (by omega)]; first | assumption | exact up_at _ _ _ | (rw [up_ne (by omega)]; first | assumption | exact up_at _ _ _ | (rw [up_ne (by omega)]; first | assumption | exact up_at _ _ _ | (rw [up_ne (by omega)]; first | assumption | exact up_at _ _ _ | (rw [up_ne (by omega)]; first | assumption | exact up_at _ _ _ | (rw [up_ne (by omega)]; first | assumption | exact up_at _ _ _ | (rw [up_ne (by omega)]; first | assumption | exact up_at _ _ _ | (rw [up_ne (by omega)]; assumption)))))))))) (by simp) ?_
  refine BX5_init_60 (by first | assumption | exact up_at _ _ _ | (rw [up_ne (by omega)]; first | assumption | exact up_at _ _ _ | (rw [up_ne (by omega)]; first | assumption | exact up_at _ _ _ | (rw [up_ne (by omega)]; first | assumption | exact up_at _ _ _ | (rw [up_ne (by omega)]; first | assumption | exact up_at _ _ _ | (rw [up_ne (by omega)]; first | assumption | exact up_at _ _ _ | (rw [up_ne (by omega)]; first | assumption | exact up_at _ _ _ | (rw [up_ne (by omega)]; first | assumption | exact up_at _ _ _ | (rw [up_ne (by omega)]; first | assumption | exact up_at _ _ _ | (rw [up_ne (by omega)]; assumption)))))))))) (by simp) ?_
  refine BX5_init_65 (by first | assumption | exact up_at _ _ _ | (rw [up_ne (by omega)]; first | assumption | exact up_at _ _ _ | (rw [up_ne (by omega)]; first | assumption | exact up_at _ _ _ | (rw [up_ne (by omega)]; first | assumption | exact up_at _ _ _ | (rw [up_ne (by omega)]; first | assumption | exact up_at _ _ _ | (rw [up_ne (by omega)]; first | assumption | exact up_at _ _ _ | (rw [up_ne (by omega)]; first | assumption | exact up_at _ _ _ | (rw [up_ne (by omega)]; first | assumption | exact up_at _ _ _ | (rw [up_ne (by omega)]; first | assumption | exact up_at _ _ _ | (rw [up_ne (by omega)]; assumption)))))))))) (by simp) ?_
  refine BX5_init_70 (by first | assumption | exact up_at _ _ _ | (rw [up_ne (by omega)]; first | assumption | exact up_at _ _ _ | (rw [up_ne (by omega)]; first | assumption | exact up_at _ _ _ | (rw [up_ne (by omega)]; first | assumption | exact up_at _ _ _ | (rw [up_ne (by omega)]; first | assumption | exact up_at _ _ _ | (rw [up_ne (by omega)]; first | assumption | exact up_at _ _ _ | (rw [up_ne (by omega)]; first | assumption | exact up_at _ _ _ | (rw [up_ne (by omega)]; first | assumption | exact up_at _ _ _ | (rw [up_ne (by omega)]; first | assumption | exact up_at _ _ _ | (rw [up_ne (by omega)]; assumption)))))))))) (by simp) ?_
  refine BX5_init_75 (by first | assumption | exact up_at _ _ _ | (rw [up_ne (by omega)]; first | assumption | exact up_at _ _ _ | (rw [up_ne (by omega)]; first | assumption | exact up_at _ _ _ | (rw [up_ne (by omega)]; first | assumption | exact up_at _ _ _ | (rw [up_ne (by omega)]; first | assumption | exact up_at _ _ _ | (rw [up_ne (by omega)]; first | assumption | exact up_at _ _ _ | (rw [up_ne (by omega)]; first | assumption | exact up_at _ _ _ | (rw [up_ne (by omega)]; first | assumption | exact up_at _ _ _ | (rw [up_ne (by omega)]; first | assumption | exact up_at _ _ _ | (rw [up_ne (by omega)]; assumption)))))))))) (by simp) ?_
  refine BX5_init_80 (by first | assumption | exact up_at _ _ _ | (rw [up_ne (by omega)]; first | assumption | exact up_at _ _ _ | (rw [up_ne (by omega)]; first | assumption | exact up_at _ _ _ | (rw [up_ne (by omega)]; first | assumption | exact up_at _ _ _ | (rw [up_ne (by omega)]; first | assumption | exact up_at _ _ _ | (rw [up_ne (by omega)]; first | assumption | exact up_at _ _ _ | (rw [up_ne (by omega)]; first | assumption | exact up_at _ _ _ | (rw [up_ne (by omega)]; first | assumption | exact up_at _ _ _ | (rw [up_ne (by omega)]; first | assumption | exact up_at _ _ _ | (rw [up_ne (by omega)]; assumption)))))))))) (by simp) ?_
  refine BX5_init_85  ?_
  refine k _ (by repeat' (first | exact Fr.rf _ _ _ | assumption | refine Fr.put ?_ (by omega) (by omega))) ⟨?_, ?_, ?_, ?_, ?_, ?_, ?_, ?_⟩
  · (simp (disch := omega) only [up_at, up_ne, Ls_rep] <;> rfl)
  all_goals (simp (disch := omega) only [up_at, up_ne, Ls_rep])
  all_goals congr 1
  all_goals exact Ls_ext fun j j0 j1 => by (try unfold off); unfold sa0; rw [if_neg (by omega), if_neg (by omega)]
def cuP (i : Int) : Int → Int := fun j => if j % 10 < i then cu0 j else 0
theorem cuP_s {i : Int} (i0 : 0 ≤ i) (i1 : i < 10) : Ls 30 (fset (fset (fset (cuP i) i ((i + 1) % 10)) (10 + i) ((i + 3) % 10)) (20 + i) i) = Ls 30 (cuP (i + 1)) := by
  refine Ls_ext fun j j0 j1 => ?_
  by_cases q1 : j = 20 + i
  · subst q1; rw [fset_at]; unfold cuP cu0; rw [if_pos (by omega), if_neg (by omega), if_neg (by omega)]; omega
  · rw [fset_ne q1]
    by_cases q2 : j = 10 + i
    · subst q2; rw [fset_at]; unfold cuP cu0; rw [if_pos (by omega), if_neg (by omega), if_pos (by omega)]; congr 1; omega
    · rw [fset_ne q2]
      by_cases q3 : j = i
      · subst q3; rw [fset_at]; unfold cuP cu0; rw [if_pos (by omega), if_pos (by omega)]
      · rw [fset_ne q3]; unfold cuP
        by_cases q4 : j % 10 < i
        · rw [if_pos q4, if_pos (by omega)]
        · rw [if_neg q4, if_neg (by omega)]
theorem R_X12_setCellF {a m : Nat} {i v : Int} {f : Int → Int} {bc bs : Nat} (hh : h a = cI (Ls m f)) (ha : a ≠ 0) (hl : m < 2147483648) (h0 : 0 ≤ i) (h1 : i < m) (k : Q none (up h a (cI (Ls m (fset f i v)))) n) : Rn d bc bs mX12_setCell 0 [some (vR (some a)), some (vI i), some (vI v)] [] h n Q := by
  have l1 := Ls_len m f
  refine R_X12_setCell hh ha (by omega) h0 (by omega) ?_
  rw [Ls_set h0]
  exact k
theorem R_X7_init (hh : h a = cO 7 [vR none, vR none, vR none, vI 0]) (ha : a ≠ 0) (k : ∀ h1, Fr h h1 a 4 → IsSh h1 a 0 (fun _ => 0) (fun _ => 0) cu0 → Q none h1 (a + 4)) : Rn (d + 1) 3 42 mX7_init 0 [some (vR (some a)), none] [] h (a + 1) Q := by
  have loop : ∀ (m : Nat) (i : Int) (h1 : aH), 0 ≤ i → i + m = 10 → Fr h h1 a 4 → IsSh h1 a 0 (fun _ => 0) (fun _ => 0) (cuP i) → Rn (d + 1) 0 0 mX7_init 35 [some (vR (some a)), some (vI i)] [] h1 (a + 4) Q := by
    intro m
    induction m with
    | zero =>
      intro i h1 i0 i1 f s
      have l1 := Ls_len 30 (cuP i)
      obtain ⟨s1, s2, s3, s4⟩ := s
      refine BX7_init_35  ?_ ?_
      · intro hc1
        first
        | (exfalso; omega)
        | (
            refine BX7_init_90  ?_
            refine k _ f ⟨s1, s2, s3, s4.trans ?_⟩
            exact congrArg _ (Ls_ext fun j j0 j1 => by unfold cuP; rw [if_pos (by omega)])
          )
      · intro hc2
        first
        | (exfalso; omega)
        | (
            (exfalso; omega)
          )
    | succ m ih =>
      intro i h1 i0 i1 f s
      have l1 := Ls_len 30 (cuP i)
      have l2 := Ls_len 30 (fset (cuP i) i ((i + 1) % 10))
      have l3 := Ls_len 30 (fset (fset (cuP i) i ((i + 1) % 10)) (10 + i) ((i + 3) % 10))
      obtain ⟨s1, s2, s3, s4⟩ := s
      refine BX7_init_35  ?_ ?_
      · intro hc1
        first
        | (exfalso; omega)
        | (
            refine BX7_init_90  ?_
            (exfalso; omega)
          )
      · intro hc2
        first
        | (exfalso; omega)
        | (
            refine BX7_init_41 (by first | assumption | exact up_at _ _ _ | (rw [up_ne (by omega)]; first | assumption | exact up_at _ _ _ | (rw [up_ne (by omega)]; first | assumption | exact up_at _ _ _ | (rw [up_ne (by omega)]; first | assumption | exact up_at _ _ _ | (rw [up_ne (by omega)]; first | assumption | exact up_at _ _ _ | (rw [up_ne (by omega)]; first | assumption | exact up_at _ _ _ | (rw [up_ne (by omega)]; first | assumption | exact up_at _ _ _ | (rw [up_ne (by omega)]; first | assumption | exact up_at _ _ _ | (rw [up_ne (by omega)]; first | assumption | exact up_at _ _ _ | (rw [up_ne (by omega)]; assumption)))))))))) (by rfl) (by first | omega | assumption | exact up_at _ _ _ | (simp only [Ls_len]; omega) | exact Ls_get (by omega) (by omega) | rfl | decide) (by first | omega | assumption | exact up_at _ _ _ | (simp only [Ls_len]; omega) | exact Ls_get (by omega) (by omega) | rfl | decide) ?_
            refine R_X12_setCellF (by first | omega | assumption | exact up_at _ _ _ | (simp only [Ls_len]; omega) | exact Ls_get (by omega) (by omega) | rfl | decide) (by first | omega | assumption | exact up_at _ _ _ | (simp only [Ls_len]; omega) | exact Ls_get (by omega) (by omega) | rfl | decide) (by first | omega | assumption | exact up_at _ _ _ | (simp only [Ls_len]; omega) | exact Ls_get (by omega) (by omega) | rfl | decide) (by first | omega | assumption | exact up_at _ _ _ | (simp only [Ls_len]; omega) | exact Ls_get (by omega) (by omega) | rfl | decide) (by first | omega | assumption | exact up_at _ _ _ | (simp only [Ls_len]; omega) | exact Ls_get (by omega) (by omega) | rfl | decide) ?_
            refine BX7_init_55 (by first | assumption | exact up_at _ _ _ | (rw [up_ne (by omega)]; first | assumption | exact up_at _ _ _ | (rw [up_ne (by omega)]; first | assumption | exact up_at _ _ _ | (rw [up_ne (by omega)]; first | assumption | exact up_at _ _ _ | (rw [up_ne (by omega)]; first | assumption | exact up_at _ _ _ | (rw [up_ne (by omega)]; first | assumption | exact up_at _ _ _ | (rw [up_ne (by omega)]; first | assumption | exact up_at _ _ _ | (rw [up_ne (by omega)]; first | assumption | exact up_at _ _ _ | (rw [up_ne (by omega)]; first | assumption | exact up_at _ _ _ | (rw [up_ne (by omega)]; assumption)))))))))) (by rfl) (by first | omega | assumption | exact up_at _ _ _ | (simp only [Ls_len]; omega) | exact Ls_get (by omega) (by omega) | rfl | decide) (by first | omega | assumption | exact up_at _ _ _ | (simp only [Ls_len]; omega) | exact Ls_get (by omega) (by omega) | rfl | decide) (by first | omega | assumption | exact up_at _ _ _ | (simp only [Ls_len]; omega) | exact Ls_get (by omega) (by omega) | rfl | decide) ?_
            refine R_X12_setCellF (by first | omega | assumption | exact up_at _ _ _ | (simp only [Ls_len]; omega) | exact Ls_get (by omega) (by omega) | rfl | decide) (by first | omega | assumption | exact up_at _ _ _ | (simp only [Ls_len]; omega) | exact Ls_get (by omega) (by omega) | rfl | decide) (by first | omega | assumption | exact up_at _ _ _ | (simp only [Ls_len]; omega) | exact Ls_get (by omega) (by omega) | rfl | decide) (by first | omega | assumption | exact up_at _ _ _ | (simp only [Ls_len]; omega) | exact Ls_get (by omega) (by omega) | rfl | decide) (by first | omega | assumption | exact up_at _ _ _ | (simp only [Ls_len]; omega) | exact Ls_get (by omega) (by omega) | rfl | decide) ?_
            refine BX7_init_72 (by first | assumption | exact up_at _ _ _ | (rw [up_ne (by omega)]; first | assumption | exact up_at _ _ _ | (rw [up_ne (by omega)]; first | assumption | exact up_at _ _ _ | (rw [up_ne (by omega)]; first | assumption | exact up_at _ _ _ | (rw [up_ne (by omega)]; first | assumption | exact up_at _ _ _ | (rw [up_ne (by omega)]; first | assumption | exact up_at _ _ _ | (rw [up_ne (by omega)]; first | assumption | exact up_at _ _ _ | (rw [up_ne (by omega)]; first | assumption | exact up_at _ _ _ | (rw [up_ne (by omega)]; first | assumption | exact up_at _ _ _ | (rw [up_ne (by omega)]; assumption)))))))))) (by rfl) (by first | omega | assumption | exact up_at _ _ _ | (simp only [Ls_len]; omega) | exact Ls_get (by omega) (by omega) | rfl | decide) ?_
            refine R_X12_setCellF (by first | omega | assumption | exact up_at _ _ _ | (simp only [Ls_len]; omega) | exact Ls_get (by omega) (by omega) | rfl | decide) (by first | omega | assumption | exact up_at _ _ _ | (simp only [Ls_len]; omega) | exact Ls_get (by omega) (by omega) | rfl | decide) (by first | omega | assumption | exact up_at _ _ _ | (simp only [Ls_len]; omega) | exact Ls_get (by omega) (by omega) | rfl | decide) (by first | omega | assumption | exact up_at _ _ _ | (simp only [Ls_len]; omega) | exact Ls_get (by omega) (by omega) | rfl | decide) (by first | omega | assumption | exact up_at _ _ _ | (simp only [Ls_len]; omega) | exact Ls_get (by omega) (by omega) | rfl | decide) ?_
            refine BX7_init_84 (by first | omega | assumption | exact up_at _ _ _ | (simp only [Ls_len]; omega) | exact Ls_get (by omega) (by omega) | rfl | decide) ?_
            refine ih _ _ (by omega) (by omega) (by repeat' (first | exact Fr.rf _ _ _ | assumption | refine Fr.put ?_ (by omega) (by omega))) ⟨?_, ?_, ?_, ?_⟩
            · simp (disch := omega) only [up_ne]; exact s1
            · simp (disch := omega) only [up_ne]; exact s2
            · simp (disch := omega) only [up_ne]; exact s3
            · rw [up_at, cuP_s i0 (by omega)]
          )
  refine BX7_init_0  ?_
  refine BX7_init_9 (by first | assumption | exact up_at _ _ _ | (rw [up_ne (by omega)]; first | assumption | exact up_at _ _ _ | (rw [up_ne (by omega)]; first | assumption | exact up_at _ _ _ | (rw [up_ne (by omega)]; first | assumption | exact up_at _ _ _ | (rw [up_ne (by omega)]; first | assumption | exact up_at _ _ _ | (rw [up_ne (by omega)]; first | assumption | exact up_at _ _ _ | (rw [up_ne (by omega)]; first | assumption | exact up_at _ _ _ | (rw [up_ne (by omega)]; first | assumption | exact up_at _ _ _ | (rw [up_ne (by omega)]; first | assumption | exact up_at _ _ _ | (rw [up_ne (by omega)]; assumption)))))))))) (by simp) ?_
  refine BX7_init_12  ?_
  refine BX7_init_17 (by first | assumption | exact up_at _ _ _ | (rw [up_ne (by omega)]; first | assumption | exact up_at _ _ _ | (rw [up_ne (by omega)]; first | assumption | exact up_at _ _ _ | (rw [up_ne (by omega)]; first | assumption | exact up_at _ _ _ | (rw [up_ne (by omega)]; first | assumption | exact up_at _ _ _ | (rw [up_ne (by omega)]; first | assumption | exact up_at _ _ _ | (rw [up_ne (by omega)]; first | assumption | exact up_at _ _ _ | (rw [up_ne (by omega)]; first | assumption | exact up_at _ _ _ | (rw [up_ne (by omega)]; first | assumption | exact up_at _ _ _ | (rw [up_ne (by omega)]; assumption)))))))))) (by simp) ?_
  refine BX7_init_20  ?_
  refine BX7_init_25 (by first | assumption | exact up_at _ _ _ | (rw [up_ne (by omega)]; first | assumption | exact up_at _ _ _ | (rw [up_ne (by omega)]; first | assumption | exact up_at _ _ _ | (rw [up_ne (by omega)]; first | assumption | exact up_at _ _ _ | (rw [up_ne (by omega)]; first | assumption | exact up_at _ _ _ | (rw [up_ne (by omega)]; first | assumption | exact up_at _ _ _ | (rw [up_ne (by omega)]; first | assumption | exact up_at _ _ _ | (rw [up_ne (by omega)]; first | assumption | exact up_at _ _ _ | (rw [up_ne (by omega)]; first | assumption | exact up_at _ _ _ | (rw [up_ne (by omega)]; assumption)))))))))) (by simp) ?_
  refine BX7_init_28 (by first | assumption | exact up_at _ _ _ | (rw [up_ne (by omega)]; first | assumption | exact up_at _ _ _ | (rw [up_ne (by omega)]; first | assumption | exact up_at _ _ _ | (rw [up_ne (by omega)]; first | assumption | exact up_at _ _ _ | (rw [up_ne (by omega)]; first | assumption | exact up_at _ _ _ | (rw [up_ne (by omega)]; first | assumption | exact up_at _ _ _ | (rw [up_ne (by omega)]; first | assumption | exact up_at _ _ _ | (rw [up_ne (by omega)]; first | assumption | exact up_at _ _ _ | (rw [up_ne (by omega)]; first | assumption | exact up_at _ _ _ | (rw [up_ne (by omega)]; assumption)))))))))) (by simp) ?_
  refine BX7_init_33  ?_
  refine loop 10 0 _ (by omega) (by omega) (by repeat' (first | exact Fr.rf _ _ _ | assumption | refine Fr.put ?_ (by omega) (by omega))) ⟨?_, ?_, ?_, ?_⟩
  · (simp (disch := omega) only [up_at, up_ne, Ls_rep] <;> rfl)
  · (simp (disch := omega) only [up_at, up_ne, Ls_rep] <;> rfl)
  · (simp (disch := omega) only [up_at, up_ne, Ls_rep] <;> rfl)
  · simp (disch := omega) only [up_at, up_ne, Ls_rep]
    exact congrArg _ (Ls_ext fun j j0 j1 => by unfold cuP; rw [if_neg (by omega)])
def stR (a : Nat) (i : Int) : Int → Option Nat := fun j => if j < i then some (a + 2 + 4 * j.toNat) else none
theorem stR_s {a : Nat} {i : Nat} (i1 : i < 30) : (Ls 30 (stR a i)).set (i : Int).toNat (some (a + 2 + 4 * i)) = Ls 30 (stR a ((i + 1 : Nat) : Int)) := by
  rw [Ls_set (by omega)]
  refine Ls_ext fun j j0 j1 => ?_
  by_cases q : j = i
  · subst q; rw [fset_at]; unfold stR; rw [if_pos (by omega)]; rfl
  · rw [fset_ne q]; unfold stR
    by_cases q4 : j < i
    · rw [if_pos q4, if_pos (by omega)]
    · rw [if_neg q4, if_neg (by omega)]
theorem R_X8_init (hh : h a = cO 8 [vR none, vI 0]) (ha : a ≠ 0) (k : ∀ h1, Fr h h1 a 122 → IsSt h1 a 0 (fun _ => se0) (fun j => j) → Q none h1 (a + 122)) : Rn (d + 3) 121 6000 mX8_init 0 [some (vR (some a)), none] [] h (a + 1) Q := by
  have loop : ∀ (m i : Nat) (h1 : aH), i + m = 30 → Fr h h1 a 122 → h1 a = cO 8 [vR (some (a + 1)), vI 0] → h1 (a + 1) = cQ 6 (Ls 30 (stR a i)) → (∀ j : Nat, j < i → IsSe h1 (a + 2 + 4 * j) se0) → Rn (d + 3) (4 * m) (199 * m) mX8_init 20 [some (vR (some a)), some (vI (i : Int))] [] h1 (a + 2 + 4 * i) Q := by
    intro m
    induction m with
    | zero =>
      intro i h1 im f s1 s2 s3
      have l1 := Ls_len 30 (stR a i)
      refine BX8_init_20 (by first | assumption | exact up_at _ _ _ | (rw [up_ne (by omega)]; first | assumption | exact up_at _ _ _ | (rw [up_ne (by omega)]; first | assumption | exact up_at _ _ _ | (rw [up_ne (by omega)]; first | assumption | exact up_at _ _ _ | (rw [up_ne (by omega)]; first | assumption | exact up_at _ _ _ | (rw [up_ne (by omega)]; first | assumption | exact up_at _ _ _ | (rw [up_ne (by omega)]; first | assumption | exact up_at _ _ _ | (rw [up_ne (by omega)]; first | assumption | exact up_at _ _ _ | (rw [up_ne (by omega)]; first | assumption | exact up_at _ _ _ | (rw [up_ne (by omega)]; assumption)))))))))) (by rfl) (by first | assumption | exact up_at _ _ _ | (rw [up_ne (by omega)]; first | assumption | exact up_at _ _ _ | (rw [up_ne (by omega)]; first | assumption | exact up_at _ _ _ | (rw [up_ne (by omega)]; first | assumption | exact up_at _ _ _ | (rw [up_ne (by omega)]; first | assumption | exact up_at _ _ _ | (rw [up_ne (by omega)]; first | assumption | exact up_at _ _ _ | (rw [up_ne (by omega)]; first | assumption | exact up_at _ _ _ | (rw [up_ne (by omega)]; first | assumption | exact up_at _ _ _ | (rw [up_ne (by omega)]; first | assumption | exact up_at _ _ _ | (rw [up_ne (by omega)]; assumption)))))))))) (by first | omega | assumption | exact up_at _ _ _ | (simp only [Ls_len]; omega) | exact Ls_get (by omega) (by omega) | rfl | decide) (by first | omega | assumption | exact up_at _ _ _ | (simp only [Ls_len]; omega) | exact Ls_get (by omega) (by omega) | rfl | decide) ?_ ?_
      · intro hc1
        first
        | (exfalso; omega)
        | (
            refine BX8_init_48  ?_
            have e : a + 2 + 4 * i = a + 122 := by omega
            rw [e]
            refine k _ f ⟨s1, s2.trans ?_, ⟨fun j j0 j1 => ⟨j0, j1⟩, fun x y _ _ _ _ q => q⟩, fun j j0 j1 => ?_⟩
            · exact congrArg _ (Ls_ext fun j j0 j1 => by unfold stR adS; rw [if_pos (by omega)])
            · have := s3 j.toNat (by omega)
              exact this
          )
      · intro hc2
        first
        | (exfalso; omega)
        | (
            (exfalso; omega)
          )
    | succ m ih =>
      intro i h1 im f s1 s2 s3
      have l1 := Ls_len 30 (stR a i)
      rw [show 4 * (m + 1) = (3 + 4 * m) + 1 by omega, show 199 * (m + 1) = (194 + 199 * m) + 5 by omega]
      refine BX8_init_20 (by first | assumption | exact up_at _ _ _ | (rw [up_ne (by omega)]; first | assumption | exact up_at _ _ _ | (rw [up_ne (by omega)]; first | assumption | exact up_at _ _ _ | (rw [up_ne (by omega)]; first | assumption | exact up_at _ _ _ | (rw [up_ne (by omega)]; first | assumption | exact up_at _ _ _ | (rw [up_ne (by omega)]; first | assumption | exact up_at _ _ _ | (rw [up_ne (by omega)]; first | assumption | exact up_at _ _ _ | (rw [up_ne (by omega)]; first | assumption | exact up_at _ _ _ | (rw [up_ne (by omega)]; first | assumption | exact up_at _ _ _ | (rw [up_ne (by omega)]; assumption)))))))))) (by rfl) (by first | assumption | exact up_at _ _ _ | (rw [up_ne (by omega)]; first | assumption | exact up_at _ _ _ | (rw [up_ne (by omega)]; first | assumption | exact up_at _ _ _ | (rw [up_ne (by omega)]; first | assumption | exact up_at _ _ _ | (rw [up_ne (by omega)]; first | assumption | exact up_at _ _ _ | (rw [up_ne (by omega)]; first | assumption | exact up_at _ _ _ | (rw [up_ne (by omega)]; first | assumption | exact up_at _ _ _ | (rw [up_ne (by omega)]; first | assumption | exact up_at _ _ _ | (rw [up_ne (by omega)]; first | assumption | exact up_at _ _ _ | (rw [up_ne (by omega)]; assumption)))))))))) (by first | omega | assumption | exact up_at _ _ _ | (simp only [Ls_len]; omega) | exact Ls_get (by omega) (by omega) | rfl | decide) (by first | omega | assumption | exact up_at _ _ _ | (simp only [Ls_len]; omega) | exact Ls_get (by omega) (by omega) | rfl | decide) ?_ ?_
      · intro hc1
        first
        | (exfalso; omega)
        | (
            refine BX8_init_48  ?_
            (exfalso; omega)
          )
      · intro hc2
        first
        | (exfalso; omega)
        | (
            refine BX8_init_29 (by first | assumption | exact up_at _ _ _ | (rw [up_ne (by omega)]; first | assumption | exact up_at _ _ _ | (rw [up_ne (by omega)]; first | assumption | exact up_at _ _ _ | (rw [up_ne (by omega)]; first | assumption | exact up_at _ _ _ | (rw [up_ne (by omega)]; first | assumption | exact up_at _ _ _ | (rw [up_ne (by omega)]; first | assumption | exact up_at _ _ _ | (rw [up_ne (by omega)]; first | assumption | exact up_at _ _ _ | (rw [up_ne (by omega)]; first | assumption | exact up_at _ _ _ | (rw [up_ne (by omega)]; first | assumption | exact up_at _ _ _ | (rw [up_ne (by omega)]; assumption)))))))))) (by rfl) ?_
            refine BX8_init_37 (bc1 := 3) (bs1 := 194) (bc := 4 * m) (bs := 199 * m)  ?_
            refine R_X6_init (by first | omega | assumption | exact up_at _ _ _ | (simp only [Ls_len]; omega) | exact Ls_get (by omega) (by omega) | rfl | decide) (by first | omega | assumption | exact up_at _ _ _ | (simp only [Ls_len]; omega) | exact Ls_get (by omega) (by omega) | rfl | decide) ?_
            intro h38 r38 s38
            have x38 := s38.1
            have f38 : Fr h h38 a 122 := Fr.tr (by repeat' (first | exact Fr.rf _ _ _ | assumption | refine Fr.put ?_ (by omega) (by omega))) (r38.wd (by omega) (by omega))
            have z38 : h38 a = cO 8 [vR (some (a + 1)), vI 0] := (r38 a (by omega)).trans ((up_ne (by omega)).trans s1)
            have y38 : h38 (a + 1) = cQ 6 (Ls 30 (stR a i)) := (r38 (a + 1) (by omega)).trans ((up_ne (by omega)).trans s2)
            refine BX8_init_41 (by first | assumption | exact up_at _ _ _ | (rw [up_ne (by omega)]; first | assumption | exact up_at _ _ _ | (rw [up_ne (by omega)]; first | assumption | exact up_at _ _ _ | (rw [up_ne (by omega)]; first | assumption | exact up_at _ _ _ | (rw [up_ne (by omega)]; first | assumption | exact up_at _ _ _ | (rw [up_ne (by omega)]; first | assumption | exact up_at _ _ _ | (rw [up_ne (by omega)]; first | assumption | exact up_at _ _ _ | (rw [up_ne (by omega)]; first | assumption | exact up_at _ _ _ | (rw [up_ne (by omega)]; first | assumption | exact up_at _ _ _ | (rw [up_ne (by omega)]; assumption)))))))))) (by first | omega | assumption | exact up_at _ _ _ | (simp only [Ls_len]; omega) | exact Ls_get (by omega) (by omega) | rfl | decide) (by first | omega | assumption | exact up_at _ _ _ | (simp only [Ls_len]; omega) | exact Ls_get (by omega) (by omega) | rfl | decide) (by first | assumption | exact up_at _ _ _ | (rw [up_ne (by omega)]; first | assumption | exact up_at _ _ _ | (rw [up_ne (by omega)]; first | assumption | exact up_at _ _ _ | (rw [up_ne (by omega)]; first | assumption | exact up_at _ _ _ | (rw [up_ne (by omega)]; first | assumption | exact up_at _ _ _ | (rw [up_ne (by omega)]; first | assumption | exact up_at _ _ _ | (rw [up_ne (by omega)]; first | assumption | exact up_at _ _ _ | (rw [up_ne (by omega)]; first | assumption | exact up_at _ _ _ | (rw [up_ne (by omega)]; first | assumption | exact up_at _ _ _ | (rw [up_ne (by omega)]; assumption)))))))))) (by first | omega | assumption | exact up_at _ _ _ | (simp only [Ls_len]; omega) | exact Ls_get (by omega) (by omega) | rfl | decide) ?_
            try rw [Ls_set (by omega)]
            refine BX8_init_42 (by first | omega | assumption | exact up_at _ _ _ | (simp only [Ls_len]; omega) | exact Ls_get (by omega) (by omega) | rfl | decide) ?_
            rw [show (i : Int) + 1 = ((i + 1 : Nat) : Int) by omega, show a + 2 + 4 * i + 4 = a + 2 + 4 * (i + 1) by omega]
            refine ih (i + 1) _ (by omega) (by repeat' (first | exact Fr.rf _ _ _ | assumption | refine Fr.put ?_ (by omega) (by omega))) ((up_ne (by omega)).trans z38) ?_ (fun j j0 => ?_)
            · have q := stR_s (a := a) (i := i) (by omega)
              rw [Ls_set (by omega)] at q
              rw [up_at, q]
            · by_cases q : j = i
              · subst q; exact s38.fr (Fr.one _ _ _) (by omega)
              · have s4 := (s3 j (by omega)).fr (Fr.one h1 (a + 2 + 4 * i) (cO 6 [vR none, vR none, vI 0, vI 0, vI 0])) (by omega)
                exact (s4.fr r38 (by omega)).fr (Fr.one _ _ _) (by omega)
          )
  refine BX8_init_0  ?_
  refine BX8_init_10 (by first | assumption | exact up_at _ _ _ | (rw [up_ne (by omega)]; first | assumption | exact up_at _ _ _ | (rw [up_ne (by omega)]; first | assumption | exact up_at _ _ _ | (rw [up_ne (by omega)]; first | assumption | exact up_at _ _ _ | (rw [up_ne (by omega)]; first | assumption | exact up_at _ _ _ | (rw [up_ne (by omega)]; first | assumption | exact up_at _ _ _ | (rw [up_ne (by omega)]; first | assumption | exact up_at _ _ _ | (rw [up_ne (by omega)]; first | assumption | exact up_at _ _ _ | (rw [up_ne (by omega)]; first | assumption | exact up_at _ _ _ | (rw [up_ne (by omega)]; assumption)))))))))) (by simp) ?_
  refine BX8_init_13 (by first | assumption | exact up_at _ _ _ | (rw [up_ne (by omega)]; first | assumption | exact up_at _ _ _ | (rw [up_ne (by omega)]; first | assumption | exact up_at _ _ _ | (rw [up_ne (by omega)]; first | assumption | exact up_at _ _ _ | (rw [up_ne (by omega)]; first | assumption | exact up_at _ _ _ | (rw [up_ne (by omega)]; first | assumption | exact up_at _ _ _ | (rw [up_ne (by omega)]; first | assumption | exact up_at _ _ _ | (rw [up_ne (by omega)]; first | assumption | exact up_at _ _ _ | (rw [up_ne (by omega)]; first | assumption | exact up_at _ _ _ | (rw [up_ne (by omega)]; assumption)))))))))) (by simp) ?_
  refine BX8_init_18  ?_
  refine loop 30 0 _ (by omega) (by repeat' (first | exact Fr.rf _ _ _ | assumption | refine Fr.put ?_ (by omega) (by omega))) ?_ ?_ (fun j j0 => by omega)
  · (simp (disch := omega) only [up_at, up_ne, Ls_rep] <;> rfl)
  · simp (disch := omega) only [up_at, up_ne, Ls_rep]
    exact congrArg _ (Ls_ext fun j j0 j1 => by unfold stR; rw [if_neg (by omega)])
def w0 : Int → Int → Int := fun i => if i = 1 then se0 else if i = 2 then sa0 else if i = 6 then cu0 else if i = 3 then (fun j => if j = 2 then -1 else 0) else fun _ => 0
theorem R_X11_init (hh : h a = cO 11 [vR none, vR none, vR none, vR none, vR none, vI 0, vI 0]) (ha : a ≠ 0) (k : ∀ h1, Fr h h1 a 140 → (∀ X, IsW h1 a w0 X) → Q none h1 (a + 140)) : Rn (d + 5) 139 6315 mX11_init 0 [some (vR (some a))] [] h (a + 1) Q := by
  refine BX11_init_0  ?_
  refine BX11_init_8 (bc1 := 3) (bs1 := 42) (bc := 135) (bs := 6269)  ?_
  refine R_X7_init (by first | omega | assumption | exact up_at _ _ _ | (simp only [Ls_len]; omega) | exact Ls_get (by omega) (by omega) | rfl | decide) (by first | omega | assumption | exact up_at _ _ _ | (simp only [Ls_len]; omega) | exact Ls_get (by omega) (by omega) | rfl | decide) ?_
  intro h9 r9 s9
  have f9 : Fr h h9 a 140 := Fr.tr (by repeat' (first | exact Fr.rf _ _ _ | assumption | refine Fr.put ?_ (by omega) (by omega))) (r9.wd (by omega) (by omega))
  have z9 := (r9 a (by omega)).trans ((up_ne (by omega)).trans hh)
  refine BX11_init_12 (by first | assumption | exact up_at _ _ _ | (rw [up_ne (by omega)]; first | assumption | exact up_at _ _ _ | (rw [up_ne (by omega)]; first | assumption | exact up_at _ _ _ | (rw [up_ne (by omega)]; first | assumption | exact up_at _ _ _ | (rw [up_ne (by omega)]; first | assumption | exact up_at _ _ _ | (rw [up_ne (by omega)]; first | assumption | exact up_at _ _ _ | (rw [up_ne (by omega)]; first | assumption | exact up_at _ _ _ | (rw [up_ne (by omega)]; first | assumption | exact up_at _ _ _ | (rw [up_ne (by omega)]; first | assumption | exact up_at _ _ _ | (rw [up_ne (by omega)]; assumption)))))))))) (by simp) ?_
  refine BX11_init_15  ?_
  refine BX11_init_19 (bc1 := 3) (bs1 := 194) (bc := 131) (bs := 6070)  ?_
  refine R_X6_init (by first | omega | assumption | exact up_at _ _ _ | (simp only [Ls_len]; omega) | exact Ls_get (by omega) (by omega) | rfl | decide) (by first | omega | assumption | exact up_at _ _ _ | (simp only [Ls_len]; omega) | exact Ls_get (by omega) (by omega) | rfl | decide) ?_
  intro h20 r20 s20
  have f20 : Fr h h20 a 140 := Fr.tr (by repeat' (first | exact Fr.rf _ _ _ | assumption | refine Fr.put ?_ (by omega) (by omega))) (r20.wd (by omega) (by omega))
  have z20 := (r20 a (by omega)).trans ((up_ne (by omega)).trans (up_at _ _ _))
  refine BX11_init_23 (by first | assumption | exact up_at _ _ _ | (rw [up_ne (by omega)]; first | assumption | exact up_at _ _ _ | (rw [up_ne (by omega)]; first | assumption | exact up_at _ _ _ | (rw [up_ne (by omega)]; first | assumption | exact up_at _ _ _ | (rw [up_ne (by omega)]; first | assumption | exact up_at _ _ _ | (rw [up_ne (by omega)]; first | assumption | exact up_at _ _ _ | (rw [up_ne (by omega)]; first | assumption | exact up_at _ _ _ | (rw [up_ne (by omega)]; first | assumption | exact up_at _ _ _ | (rw [up_ne (by omega)]; first | assumption | exact up_at _ _ _ | (rw [up_ne (by omega)]; assumption)))))))))) (by simp) ?_
  refine BX11_init_26  ?_
  refine BX11_init_30 (bc1 := 121) (bs1 := 6000) (bc := 9) (bs := 68)  ?_
  refine R_X8_init (by first | omega | assumption | exact up_at _ _ _ | (simp only [Ls_len]; omega) | exact Ls_get (by omega) (by omega) | rfl | decide) (by first | omega | assumption | exact up_at _ _ _ | (simp only [Ls_len]; omega) | exact Ls_get (by omega) (by omega) | rfl | decide) ?_
  intro h31 r31 s31
  have f31 : Fr h h31 a 140 := Fr.tr (by repeat' (first | exact Fr.rf _ _ _ | assumption | refine Fr.put ?_ (by omega) (by omega))) (r31.wd (by omega) (by omega))
  have z31 := (r31 a (by omega)).trans ((up_ne (by omega)).trans (up_at _ _ _))
  refine BX11_init_34 (by first | assumption | exact up_at _ _ _ | (rw [up_ne (by omega)]; first | assumption | exact up_at _ _ _ | (rw [up_ne (by omega)]; first | assumption | exact up_at _ _ _ | (rw [up_ne (by omega)]; first | assumption | exact up_at _ _ _ | (rw [up_ne (by omega)]; first | assumption | exact up_at _ _ _ | (rw [up_ne (by omega)]; first | assumption | exact up_at _ _ _ | (rw [up_ne (by omega)]; first | assumption | exact up_at _ _ _ | (rw [up_ne (by omega)]; first | assumption | exact up_at _ _ _ | (rw [up_ne (by omega)]; first | assumption | exact up_at _ _ _ | (rw [up_ne (by omega)]; assumption)))))))))) (by simp) ?_
  refine BX11_init_37  ?_
  refine BX11_init_41 (bc1 := 7) (bs1 := 52) (bc := 1) (bs := 4)  ?_
  refine R_X5_init (by first | omega | assumption | exact up_at _ _ _ | (simp only [Ls_len]; omega) | exact Ls_get (by omega) (by omega) | rfl | decide) (by first | omega | assumption | exact up_at _ _ _ | (simp only [Ls_len]; omega) | exact Ls_get (by omega) (by omega) | rfl | decide) ?_
  intro h42 r42 s42
  have f42 : Fr h h42 a 140 := Fr.tr (by repeat' (first | exact Fr.rf _ _ _ | assumption | refine Fr.put ?_ (by omega) (by omega))) (r42.wd (by omega) (by omega))
  have z42 := (r42 a (by omega)).trans ((up_ne (by omega)).trans (up_at _ _ _))
  refine BX11_init_45 (by first | assumption | exact up_at _ _ _ | (rw [up_ne (by omega)]; first | assumption | exact up_at _ _ _ | (rw [up_ne (by omega)]; first | assumption | exact up_at _ _ _ | (rw [up_ne (by omega)]; first | assumption | exact up_at _ _ _ | (rw [up_ne (by omega)]; first | assumption | exact up_at _ _ _ | (rw [up_ne (by omega)]; first | assumption | exact up_at _ _ _ | (rw [up_ne (by omega)]; first | assumption | exact up_at _ _ _ | (rw [up_ne (by omega)]; first | assumption | exact up_at _ _ _ | (rw [up_ne (by omega)]; first | assumption | exact up_at _ _ _ | (rw [up_ne (by omega)]; assumption)))))))))) (by simp) ?_
  refine BX11_init_48  ?_
  refine BX11_init_53 (by first | assumption | exact up_at _ _ _ | (rw [up_ne (by omega)]; first | assumption | exact up_at _ _ _ | (rw [up_ne (by omega)]; first | assumption | exact up_at _ _ _ | (rw [up_ne (by omega)]; first | assumption | exact up_at _ _ _ | (rw [up_ne (by omega)]; first | assumption | exact up_at _ _ _ | (rw [up_ne (by omega)]; first | assumption | exact up_at _ _ _ | (rw [up_ne (by omega)]; first | assumption | exact up_at _ _ _ | (rw [up_ne (by omega)]; first | assumption | exact up_at _ _ _ | (rw [up_ne (by omega)]; first | assumption | exact up_at _ _ _ | (rw [up_ne (by omega)]; assumption)))))))))) (by simp) ?_
  refine BX11_init_56 (by first | assumption | exact up_at _ _ _ | (rw [up_ne (by omega)]; first | assumption | exact up_at _ _ _ | (rw [up_ne (by omega)]; first | assumption | exact up_at _ _ _ | (rw [up_ne (by omega)]; first | assumption | exact up_at _ _ _ | (rw [up_ne (by omega)]; first | assumption | exact up_at _ _ _ | (rw [up_ne (by omega)]; first | assumption | exact up_at _ _ _ | (rw [up_ne (by omega)]; first | assumption | exact up_at _ _ _ | (rw [up_ne (by omega)]; first | assumption | exact up_at _ _ _ | (rw [up_ne (by omega)]; first | assumption | exact up_at _ _ _ | (rw [up_ne (by omega)]; assumption)))))))))) (by simp) ?_
  refine BX11_init_61 (by first | assumption | exact up_at _ _ _ | (rw [up_ne (by omega)]; first | assumption | exact up_at _ _ _ | (rw [up_ne (by omega)]; first | assumption | exact up_at _ _ _ | (rw [up_ne (by omega)]; first | assumption | exact up_at _ _ _ | (rw [up_ne (by omega)]; first | assumption | exact up_at _ _ _ | (rw [up_ne (by omega)]; first | assumption | exact up_at _ _ _ | (rw [up_ne (by omega)]; first | assumption | exact up_at _ _ _ | (rw [up_ne (by omega)]; first | assumption | exact up_at _ _ _ | (rw [up_ne (by omega)]; first | assumption | exact up_at _ _ _ | (rw [up_ne (by omega)]; assumption)))))))))) (by simp) ?_
  refine BX11_init_66  ?_
  refine k _ (by repeat' (first | exact Fr.rf _ _ _ | assumption | refine Fr.put ?_ (by omega) (by omega))) (fun X => ⟨?_, ?_, ?_, ⟨fun _ => se0, fun j => j, ?_, fun j j0 j1 => ?_⟩, ?_, ⟨fun _ => none, ?_, fun j _ _ => .inl rfl, fun j j0 j1 => ?_⟩⟩)
  · rw [up_at]; rfl
  · show IsSh _ (a + 1) 0 (fun _ => 0) (fun _ => 0) cu0
    repeat' (first | assumption | refine IsSh.fr ?_ (Fr.one _ _ _) (by omega) | refine IsSh.fr ?_ r20 (by omega) | refine IsSh.fr ?_ r31 (by omega) | refine IsSh.fr ?_ r42 (by omega))
  · show IsSe _ (a + 1 + 4) se0
    repeat' (first | assumption | refine IsSe.fr ?_ (Fr.one _ _ _) (by omega) | refine IsSe.fr ?_ r31 (by omega) | refine IsSe.fr ?_ r42 (by omega))
  · show IsSt _ (a + 1 + 4 + 4) 0 (fun _ => se0) (fun j => j)
    repeat' (first | assumption | refine IsSt.fr ?_ (Fr.one _ _ _) (by omega) | refine IsSt.fr ?_ r42 (by omega))
  · have e : w0 3 0 = 0 := rfl
    omega
  · show IsSa _ (a + 1 + 4 + 4 + 122) sa0
    repeat' (first | assumption | refine IsSa.fr ?_ (Fr.one _ _ _) (by omega))
  · simp (disch := omega) only [up_at, up_ne, Ls_rep]
  · have e : w0 3 1 = 0 := rfl
    omega
def f0 : Int → Int := fun j => if j < 2 then -1 else 0
theorem R_X9_init (hh : h 282 = cO 9 [vR none, vI 0, vI 0, vI 0, vI 0, vI 0]) (k : ∀ h1, Fr h h1 282 2 → IsTp h1 f0 → Q none h1 284) : Rn (d + 1) 1 300 mX9_init 0 [some (vR (some 282))] [] h 283 Q := by
  refine BX9_init_0  ?_
  refine BX9_init_10 (by first | assumption | exact up_at _ _ _ | (rw [up_ne (by omega)]; first | assumption | exact up_at _ _ _ | (rw [up_ne (by omega)]; first | assumption | exact up_at _ _ _ | (rw [up_ne (by omega)]; first | assumption | exact up_at _ _ _ | (rw [up_ne (by omega)]; first | assumption | exact up_at _ _ _ | (rw [up_ne (by omega)]; first | assumption | exact up_at _ _ _ | (rw [up_ne (by omega)]; first | assumption | exact up_at _ _ _ | (rw [up_ne (by omega)]; first | assumption | exact up_at _ _ _ | (rw [up_ne (by omega)]; first | assumption | exact up_at _ _ _ | (rw [up_ne (by omega)]; assumption)))))))))) (by simp) ?_
  refine BX9_init_13 (by first | assumption | exact up_at _ _ _ | (rw [up_ne (by omega)]; first | assumption | exact up_at _ _ _ | (rw [up_ne (by omega)]; first | assumption | exact up_at _ _ _ | (rw [up_ne (by omega)]; first | assumption | exact up_at _ _ _ | (rw [up_ne (by omega)]; first | assumption | exact up_at _ _ _ | (rw [up_ne (by omega)]; first | assumption | exact up_at _ _ _ | (rw [up_ne (by omega)]; first | assumption | exact up_at _ _ _ | (rw [up_ne (by omega)]; first | assumption | exact up_at _ _ _ | (rw [up_ne (by omega)]; first | assumption | exact up_at _ _ _ | (rw [up_ne (by omega)]; assumption)))))))))) (by simp) ?_
  refine BX9_init_18 (by first | assumption | exact up_at _ _ _ | (rw [up_ne (by omega)]; first | assumption | exact up_at _ _ _ | (rw [up_ne (by omega)]; first | assumption | exact up_at _ _ _ | (rw [up_ne (by omega)]; first | assumption | exact up_at _ _ _ | (rw [up_ne (by omega)]; first | assumption | exact up_at _ _ _ | (rw [up_ne (by omega)]; first | assumption | exact up_at _ _ _ | (rw [up_ne (by omega)]; first | assumption | exact up_at _ _ _ | (rw [up_ne (by omega)]; first | assumption | exact up_at _ _ _ | (rw [up_ne (by omega)]; first | assumption | exact up_at _ _ _ | (rw [up_ne (by omega)]; assumption)))))))))) (by simp) ?_
  refine BX9_init_23 (by first | assumption | exact up_at _ _ _ | (rw [up_ne (by omega)]; first | assumption | exact up_at _ _ _ | (rw [up_ne (by omega)]; first | assumption | exact up_at _ _ _ | (rw [up_ne (by omega)]; first | assumption | exact up_at _ _ _ | (rw [up_ne (by omega)]; first | assumption | exact up_at _ _ _ | (rw [up_ne (by omega)]; first | assumption | exact up_at _ _ _ | (rw [up_ne (by omega)]; first | assumption | exact up_at _ _ _ | (rw [up_ne (by omega)]; first | assumption | exact up_at _ _ _ | (rw [up_ne (by omega)]; first | assumption | exact up_at _ _ _ | (rw [up_ne (by omega)]; assumption)))))))))) (by simp) ?_
  refine BX9_init_28 (by first | assumption | exact up_at _ _ _ | (rw [up_ne (by omega)]; first | assumption | exact up_at _ _ _ | (rw [up_ne (by omega)]; first | assumption | exact up_at _ _ _ | (rw [up_ne (by omega)]; first | assumption | exact up_at _ _ _ | (rw [up_ne (by omega)]; first | assumption | exact up_at _ _ _ | (rw [up_ne (by omega)]; first | assumption | exact up_at _ _ _ | (rw [up_ne (by omega)]; first | assumption | exact up_at _ _ _ | (rw [up_ne (by omega)]; first | assumption | exact up_at _ _ _ | (rw [up_ne (by omega)]; first | assumption | exact up_at _ _ _ | (rw [up_ne (by omega)]; assumption)))))))))) (by simp) ?_
  refine BX9_init_33 (by first | assumption | exact up_at _ _ _ | (rw [up_ne (by omega)]; first | assumption | exact up_at _ _ _ | (rw [up_ne (by omega)]; first | assumption | exact up_at _ _ _ | (rw [up_ne (by omega)]; first | assumption | exact up_at _ _ _ | (rw [up_ne (by omega)]; first | assumption | exact up_at _ _ _ | (rw [up_ne (by omega)]; first | assumption | exact up_at _ _ _ | (rw [up_ne (by omega)]; first | assumption | exact up_at _ _ _ | (rw [up_ne (by omega)]; first | assumption | exact up_at _ _ _ | (rw [up_ne (by omega)]; first | assumption | exact up_at _ _ _ | (rw [up_ne (by omega)]; assumption)))))))))) (by simp) ?_
  refine BX9_init_38  ?_
  refine k _ (by repeat' (first | exact Fr.rf _ _ _ | assumption | refine Fr.put ?_ (by omega) (by omega))) ⟨0, 0, 0, 0, ?_, ?_⟩
  · (simp (disch := omega) only [up_at, up_ne, Ls_rep] <;> rfl)
  · simp (disch := omega) only [up_at, up_ne, Ls_rep]
    exact congrArg _ (Ls_ext fun j j0 j1 => by unfold off f0; rw [if_neg (by omega)])
theorem R_X1_init (hh : h 284 = cO 1 [vR none, vR none, vI 0, vI 0, vI 0, vI 0, vR none, vR none, vI 0, vI 0]) (k : ∀ h1, Fr h h1 284 3 → IsGr h1 → Q none h1 287) : Rn (d + 1) 2 396 mX1_init 0 [some (vR (some 284))] [] h 285 Q := by
  refine BX1_init_0  ?_
  refine BX1_init_9 (by first | assumption | exact up_at _ _ _ | (rw [up_ne (by omega)]; first | assumption | exact up_at _ _ _ | (rw [up_ne (by omega)]; first | assumption | exact up_at _ _ _ | (rw [up_ne (by omega)]; first | assumption | exact up_at _ _ _ | (rw [up_ne (by omega)]; first | assumption | exact up_at _ _ _ | (rw [up_ne (by omega)]; first | assumption | exact up_at _ _ _ | (rw [up_ne (by omega)]; first | assumption | exact up_at _ _ _ | (rw [up_ne (by omega)]; first | assumption | exact up_at _ _ _ | (rw [up_ne (by omega)]; first | assumption | exact up_at _ _ _ | (rw [up_ne (by omega)]; assumption)))))))))) (by simp) ?_
  refine BX1_init_12  ?_
  refine BX1_init_18 (by first | assumption | exact up_at _ _ _ | (rw [up_ne (by omega)]; first | assumption | exact up_at _ _ _ | (rw [up_ne (by omega)]; first | assumption | exact up_at _ _ _ | (rw [up_ne (by omega)]; first | assumption | exact up_at _ _ _ | (rw [up_ne (by omega)]; first | assumption | exact up_at _ _ _ | (rw [up_ne (by omega)]; first | assumption | exact up_at _ _ _ | (rw [up_ne (by omega)]; first | assumption | exact up_at _ _ _ | (rw [up_ne (by omega)]; first | assumption | exact up_at _ _ _ | (rw [up_ne (by omega)]; first | assumption | exact up_at _ _ _ | (rw [up_ne (by omega)]; assumption)))))))))) (by simp) ?_
  refine BX1_init_21  ?_
  refine k _ (by repeat' (first | exact Fr.rf _ _ _ | assumption | refine Fr.put ?_ (by omega) (by omega))) ⟨0, 0, 0, 0, none, none, 0, 0, fun _ => 0, fun _ => 0, ?_, ?_, ?_⟩
  · (simp (disch := omega) only [up_at, up_ne, Ls_rep] <;> rfl)
  · (simp (disch := omega) only [up_at, up_ne, Ls_rep] <;> rfl)
  · (simp (disch := omega) only [up_at, up_ne, Ls_rep] <;> rfl)
theorem R_X2_init (hh : h 287 = cO 2 [vR none, vI 0]) (k : ∀ h1, Fr h h1 287 2 → IsLl h1 287 [] → Q none h1 289) : Rn (d + 1) 1 300 mX2_init 0 [some (vR (some 287))] [] h 288 Q := by
  refine BX2_init_0  ?_
  refine BX2_init_10 (by first | assumption | exact up_at _ _ _ | (rw [up_ne (by omega)]; first | assumption | exact up_at _ _ _ | (rw [up_ne (by omega)]; first | assumption | exact up_at _ _ _ | (rw [up_ne (by omega)]; first | assumption | exact up_at _ _ _ | (rw [up_ne (by omega)]; first | assumption | exact up_at _ _ _ | (rw [up_ne (by omega)]; first | assumption | exact up_at _ _ _ | (rw [up_ne (by omega)]; first | assumption | exact up_at _ _ _ | (rw [up_ne (by omega)]; first | assumption | exact up_at _ _ _ | (rw [up_ne (by omega)]; first | assumption | exact up_at _ _ _ | (rw [up_ne (by omega)]; assumption)))))))))) (by simp) ?_
  refine BX2_init_13 (by first | assumption | exact up_at _ _ _ | (rw [up_ne (by omega)]; first | assumption | exact up_at _ _ _ | (rw [up_ne (by omega)]; first | assumption | exact up_at _ _ _ | (rw [up_ne (by omega)]; first | assumption | exact up_at _ _ _ | (rw [up_ne (by omega)]; first | assumption | exact up_at _ _ _ | (rw [up_ne (by omega)]; first | assumption | exact up_at _ _ _ | (rw [up_ne (by omega)]; first | assumption | exact up_at _ _ _ | (rw [up_ne (by omega)]; first | assumption | exact up_at _ _ _ | (rw [up_ne (by omega)]; first | assumption | exact up_at _ _ _ | (rw [up_ne (by omega)]; assumption)))))))))) (by simp) ?_
  refine BX2_init_18  ?_
  refine k _ (by repeat' (first | exact Fr.rf _ _ _ | assumption | refine Fr.put ?_ (by omega) (by omega))) ⟨0, fun _ => 0, ⟨?_, ?_⟩, rfl⟩
  · (simp (disch := omega) only [up_at, up_ne, Ls_rep] <;> rfl)
  · (simp (disch := omega) only [up_at, up_ne, Ls_rep] <;> rfl)
theorem R_X4_init (hh : h 289 = cO 4 [vI 0, vR none, vR none, vI 0, vI 0, vI 0, vI 0]) (k : ∀ h1, Fr h h1 289 3 → IsRo h1 → Q none h1 292) : Rn (d + 1) 2 8 mX4_init 0 [some (vR (some 289))] [] h 290 Q := by
  refine BX4_init_0 (by first | assumption | exact up_at _ _ _ | (rw [up_ne (by omega)]; first | assumption | exact up_at _ _ _ | (rw [up_ne (by omega)]; first | assumption | exact up_at _ _ _ | (rw [up_ne (by omega)]; first | assumption | exact up_at _ _ _ | (rw [up_ne (by omega)]; first | assumption | exact up_at _ _ _ | (rw [up_ne (by omega)]; first | assumption | exact up_at _ _ _ | (rw [up_ne (by omega)]; first | assumption | exact up_at _ _ _ | (rw [up_ne (by omega)]; first | assumption | exact up_at _ _ _ | (rw [up_ne (by omega)]; first | assumption | exact up_at _ _ _ | (rw [up_ne (by omega)]; assumption)))))))))) (by simp) ?_
  refine BX4_init_9  ?_
  refine BX4_init_13 (by first | assumption | exact up_at _ _ _ | (rw [up_ne (by omega)]; first | assumption | exact up_at _ _ _ | (rw [up_ne (by omega)]; first | assumption | exact up_at _ _ _ | (rw [up_ne (by omega)]; first | assumption | exact up_at _ _ _ | (rw [up_ne (by omega)]; first | assumption | exact up_at _ _ _ | (rw [up_ne (by omega)]; first | assumption | exact up_at _ _ _ | (rw [up_ne (by omega)]; first | assumption | exact up_at _ _ _ | (rw [up_ne (by omega)]; first | assumption | exact up_at _ _ _ | (rw [up_ne (by omega)]; first | assumption | exact up_at _ _ _ | (rw [up_ne (by omega)]; assumption)))))))))) (by simp) ?_
  refine BX4_init_16  ?_
  refine BX4_init_20 (by first | assumption | exact up_at _ _ _ | (rw [up_ne (by omega)]; first | assumption | exact up_at _ _ _ | (rw [up_ne (by omega)]; first | assumption | exact up_at _ _ _ | (rw [up_ne (by omega)]; first | assumption | exact up_at _ _ _ | (rw [up_ne (by omega)]; first | assumption | exact up_at _ _ _ | (rw [up_ne (by omega)]; first | assumption | exact up_at _ _ _ | (rw [up_ne (by omega)]; first | assumption | exact up_at _ _ _ | (rw [up_ne (by omega)]; first | assumption | exact up_at _ _ _ | (rw [up_ne (by omega)]; first | assumption | exact up_at _ _ _ | (rw [up_ne (by omega)]; assumption)))))))))) (by simp) ?_
  refine BX4_init_23 (by first | assumption | exact up_at _ _ _ | (rw [up_ne (by omega)]; first | assumption | exact up_at _ _ _ | (rw [up_ne (by omega)]; first | assumption | exact up_at _ _ _ | (rw [up_ne (by omega)]; first | assumption | exact up_at _ _ _ | (rw [up_ne (by omega)]; first | assumption | exact up_at _ _ _ | (rw [up_ne (by omega)]; first | assumption | exact up_at _ _ _ | (rw [up_ne (by omega)]; first | assumption | exact up_at _ _ _ | (rw [up_ne (by omega)]; first | assumption | exact up_at _ _ _ | (rw [up_ne (by omega)]; first | assumption | exact up_at _ _ _ | (rw [up_ne (by omega)]; assumption)))))))))) (by simp) ?_
  refine BX4_init_28 (by first | assumption | exact up_at _ _ _ | (rw [up_ne (by omega)]; first | assumption | exact up_at _ _ _ | (rw [up_ne (by omega)]; first | assumption | exact up_at _ _ _ | (rw [up_ne (by omega)]; first | assumption | exact up_at _ _ _ | (rw [up_ne (by omega)]; first | assumption | exact up_at _ _ _ | (rw [up_ne (by omega)]; first | assumption | exact up_at _ _ _ | (rw [up_ne (by omega)]; first | assumption | exact up_at _ _ _ | (rw [up_ne (by omega)]; first | assumption | exact up_at _ _ _ | (rw [up_ne (by omega)]; first | assumption | exact up_at _ _ _ | (rw [up_ne (by omega)]; assumption)))))))))) (by simp) ?_
  refine BX4_init_33 (by first | assumption | exact up_at _ _ _ | (rw [up_ne (by omega)]; first | assumption | exact up_at _ _ _ | (rw [up_ne (by omega)]; first | assumption | exact up_at _ _ _ | (rw [up_ne (by omega)]; first | assumption | exact up_at _ _ _ | (rw [up_ne (by omega)]; first | assumption | exact up_at _ _ _ | (rw [up_ne (by omega)]; first | assumption | exact up_at _ _ _ | (rw [up_ne (by omega)]; first | assumption | exact up_at _ _ _ | (rw [up_ne (by omega)]; first | assumption | exact up_at _ _ _ | (rw [up_ne (by omega)]; first | assumption | exact up_at _ _ _ | (rw [up_ne (by omega)]; assumption)))))))))) (by simp) ?_
  refine BX4_init_38 (by first | assumption | exact up_at _ _ _ | (rw [up_ne (by omega)]; first | assumption | exact up_at _ _ _ | (rw [up_ne (by omega)]; first | assumption | exact up_at _ _ _ | (rw [up_ne (by omega)]; first | assumption | exact up_at _ _ _ | (rw [up_ne (by omega)]; first | assumption | exact up_at _ _ _ | (rw [up_ne (by omega)]; first | assumption | exact up_at _ _ _ | (rw [up_ne (by omega)]; first | assumption | exact up_at _ _ _ | (rw [up_ne (by omega)]; first | assumption | exact up_at _ _ _ | (rw [up_ne (by omega)]; first | assumption | exact up_at _ _ _ | (rw [up_ne (by omega)]; assumption)))))))))) (by simp) ?_
  refine BX4_init_43  ?_
  refine k _ (by repeat' (first | exact Fr.rf _ _ _ | assumption | refine Fr.put ?_ (by omega) (by omega))) ⟨0, 0, -1, 0, 0, fun _ => 0, fun _ => 0, ?_, ?_, ?_⟩
  · (simp (disch := omega) only [up_at, up_ne, Ls_rep] <;> rfl)
  · (simp (disch := omega) only [up_at, up_ne, Ls_rep] <;> rfl)
  · (simp (disch := omega) only [up_at, up_ne, Ls_rep] <;> rfl)
theorem R_X3_init (hh : h 292 = cO 3 [vR none, vR none, vR none, vR none, vI 0, vI 0]) (k : ∀ h1, Fr h h1 292 5 → IsRi h1 → Q none h1 297) : Rn (d + 1) 4 306 mX3_init 0 [some (vR (some 292))] [] h 293 Q := by
  refine BX3_init_0  ?_
  refine BX3_init_9 (by first | assumption | exact up_at _ _ _ | (rw [up_ne (by omega)]; first | assumption | exact up_at _ _ _ | (rw [up_ne (by omega)]; first | assumption | exact up_at _ _ _ | (rw [up_ne (by omega)]; first | assumption | exact up_at _ _ _ | (rw [up_ne (by omega)]; first | assumption | exact up_at _ _ _ | (rw [up_ne (by omega)]; first | assumption | exact up_at _ _ _ | (rw [up_ne (by omega)]; first | assumption | exact up_at _ _ _ | (rw [up_ne (by omega)]; first | assumption | exact up_at _ _ _ | (rw [up_ne (by omega)]; first | assumption | exact up_at _ _ _ | (rw [up_ne (by omega)]; assumption)))))))))) (by simp) ?_
  refine BX3_init_12  ?_
  refine BX3_init_17 (by first | assumption | exact up_at _ _ _ | (rw [up_ne (by omega)]; first | assumption | exact up_at _ _ _ | (rw [up_ne (by omega)]; first | assumption | exact up_at _ _ _ | (rw [up_ne (by omega)]; first | assumption | exact up_at _ _ _ | (rw [up_ne (by omega)]; first | assumption | exact up_at _ _ _ | (rw [up_ne (by omega)]; first | assumption | exact up_at _ _ _ | (rw [up_ne (by omega)]; first | assumption | exact up_at _ _ _ | (rw [up_ne (by omega)]; first | assumption | exact up_at _ _ _ | (rw [up_ne (by omega)]; first | assumption | exact up_at _ _ _ | (rw [up_ne (by omega)]; assumption)))))))))) (by simp) ?_
  refine BX3_init_20  ?_
  refine BX3_init_25 (by first | assumption | exact up_at _ _ _ | (rw [up_ne (by omega)]; first | assumption | exact up_at _ _ _ | (rw [up_ne (by omega)]; first | assumption | exact up_at _ _ _ | (rw [up_ne (by omega)]; first | assumption | exact up_at _ _ _ | (rw [up_ne (by omega)]; first | assumption | exact up_at _ _ _ | (rw [up_ne (by omega)]; first | assumption | exact up_at _ _ _ | (rw [up_ne (by omega)]; first | assumption | exact up_at _ _ _ | (rw [up_ne (by omega)]; first | assumption | exact up_at _ _ _ | (rw [up_ne (by omega)]; first | assumption | exact up_at _ _ _ | (rw [up_ne (by omega)]; assumption)))))))))) (by simp) ?_
  refine BX3_init_28  ?_
  refine BX3_init_34 (by first | assumption | exact up_at _ _ _ | (rw [up_ne (by omega)]; first | assumption | exact up_at _ _ _ | (rw [up_ne (by omega)]; first | assumption | exact up_at _ _ _ | (rw [up_ne (by omega)]; first | assumption | exact up_at _ _ _ | (rw [up_ne (by omega)]; first | assumption | exact up_at _ _ _ | (rw [up_ne (by omega)]; first | assumption | exact up_at _ _ _ | (rw [up_ne (by omega)]; first | assumption | exact up_at _ _ _ | (rw [up_ne (by omega)]; first | assumption | exact up_at _ _ _ | (rw [up_ne (by omega)]; first | assumption | exact up_at _ _ _ | (rw [up_ne (by omega)]; assumption)))))))))) (by simp) ?_
  refine BX3_init_37 (by first | assumption | exact up_at _ _ _ | (rw [up_ne (by omega)]; first | assumption | exact up_at _ _ _ | (rw [up_ne (by omega)]; first | assumption | exact up_at _ _ _ | (rw [up_ne (by omega)]; first | assumption | exact up_at _ _ _ | (rw [up_ne (by omega)]; first | assumption | exact up_at _ _ _ | (rw [up_ne (by omega)]; first | assumption | exact up_at _ _ _ | (rw [up_ne (by omega)]; first | assumption | exact up_at _ _ _ | (rw [up_ne (by omega)]; first | assumption | exact up_at _ _ _ | (rw [up_ne (by omega)]; first | assumption | exact up_at _ _ _ | (rw [up_ne (by omega)]; assumption)))))))))) (by simp) ?_
  refine BX3_init_43 (by first | assumption | exact up_at _ _ _ | (rw [up_ne (by omega)]; first | assumption | exact up_at _ _ _ | (rw [up_ne (by omega)]; first | assumption | exact up_at _ _ _ | (rw [up_ne (by omega)]; first | assumption | exact up_at _ _ _ | (rw [up_ne (by omega)]; first | assumption | exact up_at _ _ _ | (rw [up_ne (by omega)]; first | assumption | exact up_at _ _ _ | (rw [up_ne (by omega)]; first | assumption | exact up_at _ _ _ | (rw [up_ne (by omega)]; first | assumption | exact up_at _ _ _ | (rw [up_ne (by omega)]; first | assumption | exact up_at _ _ _ | (rw [up_ne (by omega)]; assumption)))))))))) (by simp) ?_
  refine BX3_init_48  ?_
  refine k _ (by repeat' (first | exact Fr.rf _ _ _ | assumption | refine Fr.put ?_ (by omega) (by omega))) ⟨1000000, 0, fun _ => 0, fun _ => 0, fun _ => 0, fun _ => 0, ?_, ?_, ?_, ?_, ?_⟩
  · (simp (disch := omega) only [up_at, up_ne, Ls_rep] <;> rfl)
  · (simp (disch := omega) only [up_at, up_ne, Ls_rep] <;> rfl)
  · (simp (disch := omega) only [up_at, up_ne, Ls_rep] <;> rfl)
  · (simp (disch := omega) only [up_at, up_ne, Ls_rep] <;> rfl)
  · (simp (disch := omega) only [up_at, up_ne, Ls_rep] <;> rfl)
theorem FP.self (h : aH) : FP h h := ⟨fun _ _ => rfl, fun _ _ _ => rfl⟩
theorem R_X12_init {X : Int → Tx} (hh : h 1 = cO 12 [vR none, vR none, vR none, vR none, vR none, vR none, vR none, vR none, vI 0, vI 0]) (k : ∀ h1, Fr h h1 1 300 → IsPo h1 h1 w0 w0 X f0 → Q none h1 301) : Rn (d + 7) 299 14184 mX12_init 0 [some (vR (some 1))] [] h 2 Q := by
  refine BX12_init_0  ?_
  refine BX12_init_8 (bc1 := 139) (bs1 := 6315) (bc := 159) (bs := 7862)  ?_
  refine R_X11_init (by first | omega | assumption | exact up_at _ _ _ | (simp only [Ls_len]; omega) | exact Ls_get (by omega) (by omega) | rfl | decide) (by first | omega | assumption | exact up_at _ _ _ | (simp only [Ls_len]; omega) | exact Ls_get (by omega) (by omega) | rfl | decide) ?_
  intro h9 r9 s9
  have s9 := s9 X
  have f9 : Fr h h9 1 300 := Fr.tr (by repeat' (first | exact Fr.rf _ _ _ | assumption | refine Fr.put ?_ (by omega) (by omega))) (r9.wd (by omega) (by omega))
  have z9 := (r9 1 (by omega)).trans ((up_ne (by omega)).trans hh)
  refine BX12_init_12 (by first | assumption | exact up_at _ _ _ | (rw [up_ne (by omega)]; first | assumption | exact up_at _ _ _ | (rw [up_ne (by omega)]; first | assumption | exact up_at _ _ _ | (rw [up_ne (by omega)]; first | assumption | exact up_at _ _ _ | (rw [up_ne (by omega)]; first | assumption | exact up_at _ _ _ | (rw [up_ne (by omega)]; first | assumption | exact up_at _ _ _ | (rw [up_ne (by omega)]; first | assumption | exact up_at _ _ _ | (rw [up_ne (by omega)]; first | assumption | exact up_at _ _ _ | (rw [up_ne (by omega)]; first | assumption | exact up_at _ _ _ | (rw [up_ne (by omega)]; assumption)))))))))) (by simp) ?_
  refine BX12_init_15  ?_
  refine BX12_init_19 (bc1 := 139) (bs1 := 6315) (bc := 19) (bs := 1540)  ?_
  refine R_X11_init (by first | omega | assumption | exact up_at _ _ _ | (simp only [Ls_len]; omega) | exact Ls_get (by omega) (by omega) | rfl | decide) (by first | omega | assumption | exact up_at _ _ _ | (simp only [Ls_len]; omega) | exact Ls_get (by omega) (by omega) | rfl | decide) ?_
  intro h20 r20 s20
  have s20 := s20 X
  have f20 : Fr h h20 1 300 := Fr.tr (by repeat' (first | exact Fr.rf _ _ _ | assumption | refine Fr.put ?_ (by omega) (by omega))) (r20.wd (by omega) (by omega))
  have z20 := (r20 1 (by omega)).trans ((up_ne (by omega)).trans (up_at _ _ _))
  refine BX12_init_23 (by first | assumption | exact up_at _ _ _ | (rw [up_ne (by omega)]; first | assumption | exact up_at _ _ _ | (rw [up_ne (by omega)]; first | assumption | exact up_at _ _ _ | (rw [up_ne (by omega)]; first | assumption | exact up_at _ _ _ | (rw [up_ne (by omega)]; first | assumption | exact up_at _ _ _ | (rw [up_ne (by omega)]; first | assumption | exact up_at _ _ _ | (rw [up_ne (by omega)]; first | assumption | exact up_at _ _ _ | (rw [up_ne (by omega)]; first | assumption | exact up_at _ _ _ | (rw [up_ne (by omega)]; first | assumption | exact up_at _ _ _ | (rw [up_ne (by omega)]; assumption)))))))))) (by simp) ?_
  refine BX12_init_26  ?_
  refine BX12_init_30 (bc1 := 1) (bs1 := 300) (bc := 17) (bs := 1234)  ?_
  refine R_X9_init (by first | omega | assumption | exact up_at _ _ _ | (simp only [Ls_len]; omega) | exact Ls_get (by omega) (by omega) | rfl | decide) ?_
  intro h31 r31 s31
  have f31 : Fr h h31 1 300 := Fr.tr (by repeat' (first | exact Fr.rf _ _ _ | assumption | refine Fr.put ?_ (by omega) (by omega))) (r31.wd (by omega) (by omega))
  have z31 := (r31 1 (by omega)).trans ((up_ne (by omega)).trans (up_at _ _ _))
  refine BX12_init_34 (by first | assumption | exact up_at _ _ _ | (rw [up_ne (by omega)]; first | assumption | exact up_at _ _ _ | (rw [up_ne (by omega)]; first | assumption | exact up_at _ _ _ | (rw [up_ne (by omega)]; first | assumption | exact up_at _ _ _ | (rw [up_ne (by omega)]; first | assumption | exact up_at _ _ _ | (rw [up_ne (by omega)]; first | assumption | exact up_at _ _ _ | (rw [up_ne (by omega)]; first | assumption | exact up_at _ _ _ | (rw [up_ne (by omega)]; first | assumption | exact up_at _ _ _ | (rw [up_ne (by omega)]; first | assumption | exact up_at _ _ _ | (rw [up_ne (by omega)]; assumption)))))))))) (by simp) ?_
  refine BX12_init_37  ?_
  refine BX12_init_41 (bc1 := 2) (bs1 := 396) (bc := 14) (bs := 828)  ?_
  refine R_X1_init (by first | omega | assumption | exact up_at _ _ _ | (simp only [Ls_len]; omega) | exact Ls_get (by omega) (by omega) | rfl | decide) ?_
  intro h42 r42 s42
  have f42 : Fr h h42 1 300 := Fr.tr (by repeat' (first | exact Fr.rf _ _ _ | assumption | refine Fr.put ?_ (by omega) (by omega))) (r42.wd (by omega) (by omega))
  have z42 := (r42 1 (by omega)).trans ((up_ne (by omega)).trans (up_at _ _ _))
  refine BX12_init_45 (by first | assumption | exact up_at _ _ _ | (rw [up_ne (by omega)]; first | assumption | exact up_at _ _ _ | (rw [up_ne (by omega)]; first | assumption | exact up_at _ _ _ | (rw [up_ne (by omega)]; first | assumption | exact up_at _ _ _ | (rw [up_ne (by omega)]; first | assumption | exact up_at _ _ _ | (rw [up_ne (by omega)]; first | assumption | exact up_at _ _ _ | (rw [up_ne (by omega)]; first | assumption | exact up_at _ _ _ | (rw [up_ne (by omega)]; first | assumption | exact up_at _ _ _ | (rw [up_ne (by omega)]; first | assumption | exact up_at _ _ _ | (rw [up_ne (by omega)]; assumption)))))))))) (by simp) ?_
  refine BX12_init_48  ?_
  refine BX12_init_52 (bc1 := 1) (bs1 := 300) (bc := 12) (bs := 526)  ?_
  refine R_X2_init (by first | omega | assumption | exact up_at _ _ _ | (simp only [Ls_len]; omega) | exact Ls_get (by omega) (by omega) | rfl | decide) ?_
  intro h53 r53 s53
  have f53 : Fr h h53 1 300 := Fr.tr (by repeat' (first | exact Fr.rf _ _ _ | assumption | refine Fr.put ?_ (by omega) (by omega))) (r53.wd (by omega) (by omega))
  have z53 := (r53 1 (by omega)).trans ((up_ne (by omega)).trans (up_at _ _ _))
  refine BX12_init_56 (by first | assumption | exact up_at _ _ _ | (rw [up_ne (by omega)]; first | assumption | exact up_at _ _ _ | (rw [up_ne (by omega)]; first | assumption | exact up_at _ _ _ | (rw [up_ne (by omega)]; first | assumption | exact up_at _ _ _ | (rw [up_ne (by omega)]; first | assumption | exact up_at _ _ _ | (rw [up_ne (by omega)]; first | assumption | exact up_at _ _ _ | (rw [up_ne (by omega)]; first | assumption | exact up_at _ _ _ | (rw [up_ne (by omega)]; first | assumption | exact up_at _ _ _ | (rw [up_ne (by omega)]; first | assumption | exact up_at _ _ _ | (rw [up_ne (by omega)]; assumption)))))))))) (by simp) ?_
  refine BX12_init_59  ?_
  refine BX12_init_63 (bc1 := 2) (bs1 := 8) (bc := 9) (bs := 511)  ?_
  refine R_X4_init (by first | omega | assumption | exact up_at _ _ _ | (simp only [Ls_len]; omega) | exact Ls_get (by omega) (by omega) | rfl | decide) ?_
  intro h64 r64 s64
  have f64 : Fr h h64 1 300 := Fr.tr (by repeat' (first | exact Fr.rf _ _ _ | assumption | refine Fr.put ?_ (by omega) (by omega))) (r64.wd (by omega) (by omega))
  have z64 := (r64 1 (by omega)).trans ((up_ne (by omega)).trans (up_at _ _ _))
  refine BX12_init_67 (by first | assumption | exact up_at _ _ _ | (rw [up_ne (by omega)]; first | assumption | exact up_at _ _ _ | (rw [up_ne (by omega)]; first | assumption | exact up_at _ _ _ | (rw [up_ne (by omega)]; first | assumption | exact up_at _ _ _ | (rw [up_ne (by omega)]; first | assumption | exact up_at _ _ _ | (rw [up_ne (by omega)]; first | assumption | exact up_at _ _ _ | (rw [up_ne (by omega)]; first | assumption | exact up_at _ _ _ | (rw [up_ne (by omega)]; first | assumption | exact up_at _ _ _ | (rw [up_ne (by omega)]; first | assumption | exact up_at _ _ _ | (rw [up_ne (by omega)]; assumption)))))))))) (by simp) ?_
  refine BX12_init_70  ?_
  refine BX12_init_74 (bc1 := 4) (bs1 := 306) (bc := 4) (bs := 199)  ?_
  refine R_X3_init (by first | omega | assumption | exact up_at _ _ _ | (simp only [Ls_len]; omega) | exact Ls_get (by omega) (by omega) | rfl | decide) ?_
  intro h75 r75 s75
  have f75 : Fr h h75 1 300 := Fr.tr (by repeat' (first | exact Fr.rf _ _ _ | assumption | refine Fr.put ?_ (by omega) (by omega))) (r75.wd (by omega) (by omega))
  have z75 := (r75 1 (by omega)).trans ((up_ne (by omega)).trans (up_at _ _ _))
  refine BX12_init_78 (by first | assumption | exact up_at _ _ _ | (rw [up_ne (by omega)]; first | assumption | exact up_at _ _ _ | (rw [up_ne (by omega)]; first | assumption | exact up_at _ _ _ | (rw [up_ne (by omega)]; first | assumption | exact up_at _ _ _ | (rw [up_ne (by omega)]; first | assumption | exact up_at _ _ _ | (rw [up_ne (by omega)]; first | assumption | exact up_at _ _ _ | (rw [up_ne (by omega)]; first | assumption | exact up_at _ _ _ | (rw [up_ne (by omega)]; first | assumption | exact up_at _ _ _ | (rw [up_ne (by omega)]; first | assumption | exact up_at _ _ _ | (rw [up_ne (by omega)]; assumption)))))))))) (by simp) ?_
  refine BX12_init_81  ?_
  refine BX12_init_85 (bc1 := 3) (bs1 := 194) (bc := 0) (bs := 0)  ?_
  refine R_X6_init (by first | omega | assumption | exact up_at _ _ _ | (simp only [Ls_len]; omega) | exact Ls_get (by omega) (by omega) | rfl | decide) (by first | omega | assumption | exact up_at _ _ _ | (simp only [Ls_len]; omega) | exact Ls_get (by omega) (by omega) | rfl | decide) ?_
  intro h86 r86 s86
  have f86 : Fr h h86 1 300 := Fr.tr (by repeat' (first | exact Fr.rf _ _ _ | assumption | refine Fr.put ?_ (by omega) (by omega))) (r86.wd (by omega) (by omega))
  have z86 := (r86 1 (by omega)).trans ((up_ne (by omega)).trans (up_at _ _ _))
  refine BX12_init_89 (by first | assumption | exact up_at _ _ _ | (rw [up_ne (by omega)]; first | assumption | exact up_at _ _ _ | (rw [up_ne (by omega)]; first | assumption | exact up_at _ _ _ | (rw [up_ne (by omega)]; first | assumption | exact up_at _ _ _ | (rw [up_ne (by omega)]; first | assumption | exact up_at _ _ _ | (rw [up_ne (by omega)]; first | assumption | exact up_at _ _ _ | (rw [up_ne (by omega)]; first | assumption | exact up_at _ _ _ | (rw [up_ne (by omega)]; first | assumption | exact up_at _ _ _ | (rw [up_ne (by omega)]; first | assumption | exact up_at _ _ _ | (rw [up_ne (by omega)]; assumption)))))))))) (by simp) ?_
  refine BX12_init_92 (by first | assumption | exact up_at _ _ _ | (rw [up_ne (by omega)]; first | assumption | exact up_at _ _ _ | (rw [up_ne (by omega)]; first | assumption | exact up_at _ _ _ | (rw [up_ne (by omega)]; first | assumption | exact up_at _ _ _ | (rw [up_ne (by omega)]; first | assumption | exact up_at _ _ _ | (rw [up_ne (by omega)]; first | assumption | exact up_at _ _ _ | (rw [up_ne (by omega)]; first | assumption | exact up_at _ _ _ | (rw [up_ne (by omega)]; first | assumption | exact up_at _ _ _ | (rw [up_ne (by omega)]; first | assumption | exact up_at _ _ _ | (rw [up_ne (by omega)]; assumption)))))))))) (by simp) ?_
  refine BX12_init_97 (by first | assumption | exact up_at _ _ _ | (rw [up_ne (by omega)]; first | assumption | exact up_at _ _ _ | (rw [up_ne (by omega)]; first | assumption | exact up_at _ _ _ | (rw [up_ne (by omega)]; first | assumption | exact up_at _ _ _ | (rw [up_ne (by omega)]; first | assumption | exact up_at _ _ _ | (rw [up_ne (by omega)]; first | assumption | exact up_at _ _ _ | (rw [up_ne (by omega)]; first | assumption | exact up_at _ _ _ | (rw [up_ne (by omega)]; first | assumption | exact up_at _ _ _ | (rw [up_ne (by omega)]; first | assumption | exact up_at _ _ _ | (rw [up_ne (by omega)]; assumption)))))))))) (by simp) ?_
  refine BX12_init_102  ?_
  refine k _ (by repeat' (first | exact Fr.rf _ _ _ | assumption | refine Fr.put ?_ (by omega) (by omega))) ⟨FP.self _, ?_, ?_, ?_, ?_, ?_, ⟨[], ?_⟩, ?_, ?_, ⟨se0, ?_⟩⟩
  · rw [up_at]; rfl
  · repeat' (first | assumption | refine IsW.fr ?_ (Fr.one _ _ _) (by omega) (by omega) | refine IsW.fr ?_ r20 (by omega) (by omega) | refine IsW.fr ?_ r31 (by omega) (by omega) | refine IsW.fr ?_ r42 (by omega) (by omega) | refine IsW.fr ?_ r53 (by omega) (by omega) | refine IsW.fr ?_ r64 (by omega) (by omega) | refine IsW.fr ?_ r75 (by omega) (by omega) | refine IsW.fr ?_ r86 (by omega) (by omega))
  · repeat' (first | assumption | refine IsW.fr ?_ (Fr.one _ _ _) (by omega) (by omega) | refine IsW.fr ?_ r31 (by omega) (by omega) | refine IsW.fr ?_ r42 (by omega) (by omega) | refine IsW.fr ?_ r53 (by omega) (by omega) | refine IsW.fr ?_ r64 (by omega) (by omega) | refine IsW.fr ?_ r75 (by omega) (by omega) | refine IsW.fr ?_ r86 (by omega) (by omega))
  · repeat' (first | assumption | refine IsTp.fr ?_ (Fr.one _ _ _) (by omega) | refine IsTp.fr ?_ r42 (by omega) | refine IsTp.fr ?_ r53 (by omega) | refine IsTp.fr ?_ r64 (by omega) | refine IsTp.fr ?_ r75 (by omega) | refine IsTp.fr ?_ r86 (by omega))
  · repeat' (first | assumption | refine IsGr.fr ?_ (Fr.one _ _ _) (by omega) | refine IsGr.fr ?_ r53 (by omega) | refine IsGr.fr ?_ r64 (by omega) | refine IsGr.fr ?_ r75 (by omega) | refine IsGr.fr ?_ r86 (by omega))
  · repeat' (first | assumption | refine IsLl.fr ?_ (Fr.one _ _ _) (by omega) | refine IsLl.fr ?_ r64 (by omega) | refine IsLl.fr ?_ r75 (by omega) | refine IsLl.fr ?_ r86 (by omega))
  · repeat' (first | assumption | refine IsRo.fr ?_ (Fr.one _ _ _) (by omega) | refine IsRo.fr ?_ r75 (by omega) | refine IsRo.fr ?_ r86 (by omega))
  · repeat' (first | assumption | refine IsRi.fr ?_ (Fr.one _ _ _) (by omega) | refine IsRi.fr ?_ r86 (by omega))
  · repeat' (first | assumption | refine IsSe.fr ?_ (Fr.one _ _ _) (by omega))
end INITS
