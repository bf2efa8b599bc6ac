/-! How likely it comes. -/
def lkT (W : Int → Int → Int) (p to : Int) (k : Nat) : Bool := decide (drift (W 6) (W 1 73) (k + 1) p = atP (W 3 3) (W 0) to)
def lkA (W : Int → Int → Int) (p to : Int) : Nat → Int
  | 0 => 1
  | k + 1 => lkA W p to k * (if lkT W p to k = true then 10 - W 2 56 - W 2 55 else 10 - W 2 56)
def lkU (W : Int → Int → Int) (p to : Int) : Nat → Int
  | 0 => 0
  | k + 1 => lkU W p to k * 10 + (if lkT W p to k = true then lkA W p to k * W 2 55 else 0)
def lkL : Nat → Int
  | 0 => 1
  | k + 1 => lkL k * 10
theorem lkL_le : ∀ k : Fin 9, 1 ≤ lkL k ∧ lkL k ≤ 100000000 := by decide
def aLikely (W : Int → Int → Int) (p to n low : Int) : Int := if 0 ≤ p ∧ p ≤ 9 ∧ 0 ≤ to ∧ to < W 3 3 ∧ 1 ≤ n ∧ n ≤ 8 then (if low = 0 then lkU W p to n.toNat / (Nat.gcd (lkU W p to n.toNat).toNat (lkL n.toNat).toNat : Nat) else lkL n.toNat / (Nat.gcd (lkU W p to n.toNat).toNat (lkL n.toNat).toNat : Nat)) else -1
theorem lk_ok {W : Int → Int → Int} {p to : Int} (ok : okSy (W 2)) : ∀ k : Nat, 0 ≤ lkA W p to k ∧ 0 ≤ lkU W p to k ∧ lkU W p to k + lkA W p to k ≤ lkL k := by
  have o := ok.2.2.2.1
  intro k
  induction k with
  | zero => exact ⟨z01, z00, by show (0 : Int) + 1 ≤ 1; decide⟩
  | succ k ih =>
    obtain ⟨i1, i2, i3⟩ := ih
    have a1 : 0 ≤ lkA W p to k * W 2 55 := Int.mul_nonneg i1 o.1
    have a2 : 0 ≤ lkA W p to k * (10 - W 2 56 - W 2 55) := Int.mul_nonneg i1 (by omega)
    have a3 : 0 ≤ lkA W p to k * (10 - W 2 56) := Int.mul_nonneg i1 (by omega)
    have a4 : 0 ≤ lkA W p to k * W 2 56 := Int.mul_nonneg i1 o.2.1
    have e1 : lkA W p to k * (10 - W 2 56) = lkA W p to k * 10 - lkA W p to k * W 2 56 := Int.mul_sub _ _ _
    have e2 : lkA W p to k * (10 - W 2 56 - W 2 55) = lkA W p to k * (10 - W 2 56) - lkA W p to k * W 2 55 := Int.mul_sub _ _ _
    unfold lkA lkU lkL
    split <;> omega
section LIKELY
variable {d bc bs n : Nat} {g h : aH} {Q : aQ} {W V : Int → Int → Int} {X : Int → Tx} {F : Int → Int}
theorem P_likely {p to m low : Int} (s : IsPo g h W V X F) (ok : okW W) (k : ∀ h1, IsPo g h1 W V X F → Q (some (vL (aLikely W p to m low))) h1 n) : Rn (d + 30) bc bs mX12_likely 0 [some (vR (some 1)), some (vI p), some (vI to), some (vI m), some (vI low), none, none, none, none, none, none, none, none, none, none, none] [] h n Q := by
  obtain ⟨fp, p1, w, v, tp, gr, ⟨lx, la⟩, ro, ri, Gx, gl⟩ := id s; have w1 := w.1; have sh := w.2.1; have se := w.2.2.1; obtain ⟨Ts, ps, st, ste⟩ := w.2.2.2.1; have sa := w.2.2.2.2.1; have sh1 := sh.1; have se1 := se.1; have st1 := st.1; have sa1 := sa.1; obtain ⟨tl, la1⟩ := la.ob; have gl1 := gl.1; have bk0 := se.2.2; have bk1 := bk0.1
  obtain ⟨o1, o2, o3, o4, o5⟩ := id ok; have o11 := o1.1; have o21 := o2.1; have o51 := o5.1; have o52 := o5.2.1; have o53 := o5.2.2.1; have o54 := o5.2.2.2.1
  have o12 := o1.2.2
  have k1 := k h s
  clear k
  unfold aLikely at k1
  have pt := (atP_ok o1 to).1
  have loop : (0 ≤ p ∧ p ≤ 9 ∧ 0 ≤ to ∧ to < W 3 3 ∧ 1 ≤ m ∧ m ≤ 8) → ∀ (j i : Nat) (l15 : Option aV), (i : Int) + j = m → Rn (d + 30) bc bs mX12_likely 77 [some (vR (some 1)), some (vI p), some (vI to), some (vI m), some (vI low), some (vL (lkU W p to i)), none, some (vL (lkA W p to i)), none, some (vL (lkL i)), none, some (vI (drift (W 6) (W 1 73) i p)), some (vI (W 2 55)), some (vI (10 - W 2 56)), some (vI i), l15] [] h n Q := by
    intro hz j
    rw [if_pos hz] at k1
    induction j with
    | zero =>
      intro i l15 hi
      have e : i = m.toNat := by omega
      have L := lkL_le ⟨i, by omega⟩
      dsimp only at L
      have A := lk_ok (p := p) (to := to) o5 i
      subst e
      have u1 : lkU W p to m.toNat = ((lkU W p to m.toNat).toNat : Int) := by omega
      have u2 : lkL m.toNat = ((lkL m.toNat).toNat : Int) := by omega
      have gp : 0 < Nat.gcd (lkU W p to m.toNat).toNat (lkL m.toNat).toNat := Nat.gcd_pos_of_pos_right _ (by omega)
      generalize lkU W p to m.toNat = U at *
      generalize lkL m.toNat = LL at *
      have gg : Rn (d + 29) 0 0 mX12_sharedDivisor 0 [some (vL U), none, some (vL LL), none, none, none, none, none, none, none, none] [] h n (fun v h1 n1 => v = some (vL (Nat.gcd U.toNat LL.toNat : Nat)) ∧ h1 = h ∧ n1 = n) := by
        rw [u1, u2]
        exact R_X12_sharedDivisor (by omega) ⟨rfl, rfl, rfl⟩
      generalize hG : Nat.gcd U.toNat LL.toNat = G at *
      have d1 : Int.tdiv U G = U / G := Int.tdiv_eq_ediv_of_nonneg (by omega)
      have d2 : Int.tdiv LL G = LL / G := Int.tdiv_eq_ediv_of_nonneg (by omega)
      have d3 : U / (G : Int) ≤ U := Int.ediv_le_self _ (by omega)
      have d4 : LL / (G : Int) ≤ LL := Int.ediv_le_self _ (by omega)
      have d5 : 0 ≤ U / (G : Int) := Int.ediv_nonneg (by omega) (by omega)
      have d6 : 0 ≤ LL / (G : Int) := Int.ediv_nonneg (by omega) (by omega)
      refine BX12_likely_77  ?_ ?_
      · intro hc1
        refine BX12_likely_193 ?_
        refine Rn.mono ?_ gg
        rintro v h1 n1 ⟨rfl, rfl, rfl⟩
        show Rn _ _ _ _ 200 _ [vL _] _ _ _
        refine BX12_likely_200 ?_ ?_
        · intro hh
          refine BX12_likely_213 ?_ ?_
          · intro z0
            refine BX12_likely_226 (by omega) (by omega) ?_
            rw [d1]; rw [if_pos z0] at k1; exact k1
          · intro z0
            refine BX12_likely_218 (by omega) (by omega) ?_
            rw [d2]; rw [if_neg z0] at k1; exact k1
        · intro hh
          exfalso; omega
      · intro hc2
        (exfalso; omega)
    | succ j ih =>
      intro i l15 hi
      have L := lkL_le ⟨i, by omega⟩
      dsimp only at L
      have A := lk_ok (p := p) (to := to) o5 i
      have dp := drift_ok o12 (t := W 1 73) (p := p) ⟨by omega, by omega⟩ i
      have ih1 := ih (i + 1) (some (vI 1)) (by omega)
      have ih2 := ih (i + 1) (some (vI 0)) (by omega)
      have a1 : 0 ≤ lkA W p to i * W 2 55 := Int.mul_nonneg A.1 o54.1
      have a2 : 0 ≤ lkA W p to i * (10 - W 2 56 - W 2 55) := Int.mul_nonneg A.1 (by omega)
      have a4 : 0 ≤ lkA W p to i * W 2 56 := Int.mul_nonneg A.1 o54.2.1
      have e1 : lkA W p to i * (10 - W 2 56) = lkA W p to i * 10 - lkA W p to i * W 2 56 := Int.mul_sub _ _ _
      have e2 : lkA W p to i * (10 - W 2 56 - W 2 55) = lkA W p to i * (10 - W 2 56) - lkA W p to i * W 2 55 := Int.mul_sub _ _ _
      rw [lkU, lkA, lkL, drift] at ih1 ih2
      have et : lkT W p to i = decide (lead (W 6) (W 1 73 + i) (drift (W 6) (W 1 73) i p) = atP (W 3 3) (W 0) to) := rfl
      refine BX12_likely_77  ?_ ?_
      · intro hc1
        (exfalso; omega)
      · intro hc2
        refine BX12_likely_83 (by first | assumption | exact up_at _ _ _ | (rw [up_ne (by omega)]; first | assumption | exact up_at _ _ _ | (rw [up_ne (by omega)]; first | assumption | exact up_at _ _ _ | (rw [up_ne (by omega)]; assumption)))) (by rfl) (by first | assumption | exact up_at _ _ _ | (rw [up_ne (by omega)]; first | assumption | exact up_at _ _ _ | (rw [up_ne (by omega)]; first | assumption | exact up_at _ _ _ | (rw [up_ne (by omega)]; assumption)))) (by rfl) (by rfl) (by first | assumption | exact up_at _ _ _ | (rw [up_ne (by omega)]; first | assumption | exact up_at _ _ _ | (rw [up_ne (by omega)]; first | assumption | exact up_at _ _ _ | (rw [up_ne (by omega)]; assumption)))) (by rfl) (by first | omega | assumption | (simp only [Ls_len]; omega) | exact Ls_get (by omega) (by omega) | rfl | decide) (by first | assumption | exact up_at _ _ _ | (rw [up_ne (by omega)]; first | assumption | exact up_at _ _ _ | (rw [up_ne (by omega)]; first | assumption | exact up_at _ _ _ | (rw [up_ne (by omega)]; assumption)))) ?_
        refine R_X7_leadsTo (by first | omega | assumption | (simp only [Ls_len]; omega) | exact Ls_get (by omega) (by omega) | rfl | decide) (by first | omega | assumption | (simp only [Ls_len]; omega) | exact Ls_get (by omega) (by omega) | rfl | decide) (by first | omega | assumption | (simp only [Ls_len]; omega) | exact Ls_get (by omega) (by omega) | rfl | decide) (by first | omega | assumption | (simp only [Ls_len]; omega) | exact Ls_get (by omega) (by omega) | rfl | decide) (by first | omega | assumption | (simp only [Ls_len]; omega) | exact Ls_get (by omega) (by omega) | rfl | decide) ?_
        refine BX12_likely_108 (by first | assumption | exact up_at _ _ _ | (rw [up_ne (by omega)]; first | assumption | exact up_at _ _ _ | (rw [up_ne (by omega)]; first | assumption | exact up_at _ _ _ | (rw [up_ne (by omega)]; assumption)))) (by rfl) (by first | assumption | exact up_at _ _ _ | (rw [up_ne (by omega)]; first | assumption | exact up_at _ _ _ | (rw [up_ne (by omega)]; first | assumption | exact up_at _ _ _ | (rw [up_ne (by omega)]; assumption)))) (by rfl) (by first | assumption | exact up_at _ _ _ | (rw [up_ne (by omega)]; first | assumption | exact up_at _ _ _ | (rw [up_ne (by omega)]; first | assumption | exact up_at _ _ _ | (rw [up_ne (by omega)]; assumption)))) ?_
        refine R_X7_placeAt (by first | omega | assumption | (simp only [Ls_len]; omega) | exact Ls_get (by omega) (by omega) | rfl | decide) (by first | omega | assumption | (simp only [Ls_len]; omega) | exact Ls_get (by omega) (by omega) | rfl | decide) ?_
        refine BX12_likely_123  ?_ ?_
        · intro hc3
          refine BX12_likely_130 (by first | omega | assumption | (simp only [Ls_len]; omega) | exact Ls_get (by omega) (by omega) | rfl | decide) ?_ ?_
          · intro hc4
            refine BX12_likely_153 (by first | omega | assumption | (simp only [Ls_len]; omega) | exact Ls_get (by omega) (by omega) | rfl | decide) ?_ ?_
            · intro hc5
              refine BX12_likely_173 (by first | omega | assumption | (simp only [Ls_len]; omega) | exact Ls_get (by omega) (by omega) | rfl | decide) (by first | omega | assumption | (simp only [Ls_len]; omega) | exact Ls_get (by omega) (by omega) | rfl | decide) (by first | omega | assumption | (simp only [Ls_len]; omega) | exact Ls_get (by omega) (by omega) | rfl | decide) ?_
              first
              | (exfalso; omega)
              | (rw [if_pos (by rw [et]; exact decide_eq_true (by assumption)), if_pos (by rw [et]; exact decide_eq_true (by assumption))] at ih1; exact ih1)
              | (rw [if_neg (by rw [et]; simpa using ‹_›), if_neg (by rw [et]; simpa using ‹_›)] at ih2; exact ih2)
            · intro hc6
              refine BX12_likely_164 (by first | omega | assumption | (simp only [Ls_len]; omega) | exact Ls_get (by omega) (by omega) | rfl | decide) (by first | omega | assumption | (simp only [Ls_len]; omega) | exact Ls_get (by omega) (by omega) | rfl | decide) (by first | omega | assumption | (simp only [Ls_len]; omega) | exact Ls_get (by omega) (by omega) | rfl | decide) (by first | omega | assumption | (simp only [Ls_len]; omega) | exact Ls_get (by omega) (by omega) | rfl | decide) ?_
              first
              | (exfalso; omega)
              | (rw [if_pos (by rw [et]; exact decide_eq_true (by assumption)), if_pos (by rw [et]; exact decide_eq_true (by assumption))] at ih1; exact ih1)
              | (rw [if_neg (by rw [et]; simpa using ‹_›), if_neg (by rw [et]; simpa using ‹_›)] at ih2; exact ih2)
          · intro hc7
            exact absurd hc7 (by decide)
        · intro hc8
          refine BX12_likely_126 (by first | omega | assumption | (simp only [Ls_len]; omega) | exact Ls_get (by omega) (by omega) | rfl | decide) ?_ ?_
          · intro hc9
            exact absurd hc9 (by decide)
          · intro hc10
            refine BX12_likely_144 (by first | omega | assumption | (simp only [Ls_len]; omega) | exact Ls_get (by omega) (by omega) | rfl | decide) (by first | omega | assumption | (simp only [Ls_len]; omega) | exact Ls_get (by omega) (by omega) | rfl | decide) ?_ ?_
            · intro hc11
              refine BX12_likely_173 (by first | omega | assumption | (simp only [Ls_len]; omega) | exact Ls_get (by omega) (by omega) | rfl | decide) (by first | omega | assumption | (simp only [Ls_len]; omega) | exact Ls_get (by omega) (by omega) | rfl | decide) (by first | omega | assumption | (simp only [Ls_len]; omega) | exact Ls_get (by omega) (by omega) | rfl | decide) ?_
              first
              | (exfalso; omega)
              | (rw [if_pos (by rw [et]; exact decide_eq_true (by assumption)), if_pos (by rw [et]; exact decide_eq_true (by assumption))] at ih1; exact ih1)
              | (rw [if_neg (by rw [et]; simpa using ‹_›), if_neg (by rw [et]; simpa using ‹_›)] at ih2; exact ih2)
            · intro hc12
              refine BX12_likely_164 (by first | omega | assumption | (simp only [Ls_len]; omega) | exact Ls_get (by omega) (by omega) | rfl | decide) (by first | omega | assumption | (simp only [Ls_len]; omega) | exact Ls_get (by omega) (by omega) | rfl | decide) (by first | omega | assumption | (simp only [Ls_len]; omega) | exact Ls_get (by omega) (by omega) | rfl | decide) (by first | omega | assumption | (simp only [Ls_len]; omega) | exact Ls_get (by omega) (by omega) | rfl | decide) ?_
              first
              | (exfalso; omega)
              | (rw [if_pos (by rw [et]; exact decide_eq_true (by assumption)), if_pos (by rw [et]; exact decide_eq_true (by assumption))] at ih1; exact ih1)
              | (rw [if_neg (by rw [et]; simpa using ‹_›), if_neg (by rw [et]; simpa using ‹_›)] at ih2; exact ih2)
  refine BX12_likely_0  ?_
  refine R_X12_isPlace  ?_ ?_
  · intro w1 w2
    refine BX12_likely_4  ?_ ?_
    · intro hc1
      exact absurd hc1 (by decide)
    · intro hc2
      refine BX12_likely_7 (by first | assumption | exact up_at _ _ _ | (rw [up_ne (by omega)]; first | assumption | exact up_at _ _ _ | (rw [up_ne (by omega)]; first | assumption | exact up_at _ _ _ | (rw [up_ne (by omega)]; assumption)))) (by rfl) (by first | assumption | exact up_at _ _ _ | (rw [up_ne (by omega)]; first | assumption | exact up_at _ _ _ | (rw [up_ne (by omega)]; first | assumption | exact up_at _ _ _ | (rw [up_ne (by omega)]; assumption)))) (by rfl) (by first | assumption | exact up_at _ _ _ | (rw [up_ne (by omega)]; first | assumption | exact up_at _ _ _ | (rw [up_ne (by omega)]; first | assumption | exact up_at _ _ _ | (rw [up_ne (by omega)]; assumption)))) ?_
      refine R_X7_hasPerson (by first | omega | assumption | (simp only [Ls_len]; omega) | exact Ls_get (by omega) (by omega) | rfl | decide) ?_ ?_
      · intro w1 w2
        refine BX12_likely_18  ?_ ?_
        · intro hc3
          exact absurd hc3 (by decide)
        · intro hc4
          refine BX12_likely_21  ?_
          refine R_X12_within  ?_ ?_
          · intro w1 w2
            refine BX12_likely_28  ?_ ?_
            · intro hc5
              refine BX12_likely_35 (by first | assumption | exact up_at _ _ _ | (rw [up_ne (by omega)]; first | assumption | exact up_at _ _ _ | (rw [up_ne (by omega)]; first | assumption | exact up_at _ _ _ | (rw [up_ne (by omega)]; assumption)))) (by rfl) (by first | assumption | exact up_at _ _ _ | (rw [up_ne (by omega)]; first | assumption | exact up_at _ _ _ | (rw [up_ne (by omega)]; first | assumption | exact up_at _ _ _ | (rw [up_ne (by omega)]; assumption)))) (by rfl) (by first | assumption | exact up_at _ _ _ | (rw [up_ne (by omega)]; first | assumption | exact up_at _ _ _ | (rw [up_ne (by omega)]; first | assumption | exact up_at _ _ _ | (rw [up_ne (by omega)]; assumption)))) (by rfl) (by rfl) (by first | omega | assumption | (simp only [Ls_len]; omega) | exact Ls_get (by omega) (by omega) | rfl | decide) ?_
              exact loop ⟨by omega, by omega, by omega, by omega, by omega, by omega⟩ m.toNat 0 none (by omega)
            · intro hc6
              exact absurd hc6 (by decide)
          · intro w3
            refine BX12_likely_28  ?_ ?_
            · intro hc7
              exact absurd hc7 (by decide)
            · intro hc8
              refine BX12_likely_31  ?_
              (rw [if_neg (by omega)] at k1; exact k1)
      · intro w3
        refine BX12_likely_18  ?_ ?_
        · intro hc9
          refine BX12_likely_31  ?_
          (rw [if_neg (by omega)] at k1; exact k1)
        · intro hc10
          exact absurd hc10 (by decide)
  · intro w3
    refine BX12_likely_4  ?_ ?_
    · intro hc11
      refine BX12_likely_31  ?_
      (rw [if_neg (by omega)] at k1; exact k1)
    · intro hc12
      exact absurd hc12 (by decide)
theorem P_ofBottle {b u : Int} (s : IsPo g h W V X F) (ok : okW W) (k : ∀ h1, IsPo g h1 W V X F → Q (some (vI (aOfBottle W X b u))) h1 n) : Rn (d + 30) bc bs mX12_ofBottle 0 [some (vR (some 1)), some (vI b), some (vI u)] [] h n Q := by
  obtain ⟨fp, p1, w, v, tp, gr, ⟨lx, la⟩, ro, ri, Gx, gl⟩ := id s; have w1 := w.1; have sh := w.2.1; have se := w.2.2.1; obtain ⟨Ts, ps, st, ste⟩ := w.2.2.2.1; have sa := w.2.2.2.2.1; have sh1 := sh.1; have se1 := se.1; have st1 := st.1; have sa1 := sa.1; obtain ⟨tl, la1⟩ := la.ob; have gl1 := gl.1; have bk0 := se.2.2; have bk1 := bk0.1
  obtain ⟨o1, o2, o3, o4, o5⟩ := id ok; have o11 := o1.1; have o21 := o2.1; have o51 := o5.1; have o52 := o5.2.1; have o53 := o5.2.2.1; have o54 := o5.2.2.2.1
  unfold aOfBottle at k
  refine BX12_ofBottle_0 (by first | assumption | exact up_at _ _ _ | (rw [up_ne (by omega)]; first | assumption | exact up_at _ _ _ | (rw [up_ne (by omega)]; first | assumption | exact up_at _ _ _ | (rw [up_ne (by omega)]; assumption)))) (by rfl) (by first | assumption | exact up_at _ _ _ | (rw [up_ne (by omega)]; first | assumption | exact up_at _ _ _ | (rw [up_ne (by omega)]; first | assumption | exact up_at _ _ _ | (rw [up_ne (by omega)]; assumption)))) (by rfl) (by first | assumption | exact up_at _ _ _ | (rw [up_ne (by omega)]; first | assumption | exact up_at _ _ _ | (rw [up_ne (by omega)]; first | assumption | exact up_at _ _ _ | (rw [up_ne (by omega)]; assumption)))) ?_
  refine R_X6_hasBottle (by first | omega | assumption | (simp only [Ls_len]; omega) | exact Ls_get (by omega) (by omega) | rfl | decide) (by first | omega | assumption | (simp only [Ls_len]; omega) | exact Ls_get (by omega) (by omega) | rfl | decide) ?_ ?_
  · intro w1 w2
    refine BX12_ofBottle_11  ?_ ?_
    · intro hc1
      refine BX12_ofBottle_17  ?_
      refine R_X12_within  ?_ ?_
      · intro w1 w2
        refine BX12_ofBottle_23  ?_ ?_
        · intro hc2
          exact absurd hc2 (by decide)
        · intro hc3
          refine BX12_ofBottle_26 (by first | assumption | exact up_at _ _ _ | (rw [up_ne (by omega)]; first | assumption | exact up_at _ _ _ | (rw [up_ne (by omega)]; first | assumption | exact up_at _ _ _ | (rw [up_ne (by omega)]; assumption)))) (by rfl) (by first | assumption | exact up_at _ _ _ | (rw [up_ne (by omega)]; first | assumption | exact up_at _ _ _ | (rw [up_ne (by omega)]; first | assumption | exact up_at _ _ _ | (rw [up_ne (by omega)]; assumption)))) (by rfl) (by first | assumption | exact up_at _ _ _ | (rw [up_ne (by omega)]; first | assumption | exact up_at _ _ _ | (rw [up_ne (by omega)]; first | assumption | exact up_at _ _ _ | (rw [up_ne (by omega)]; assumption)))) ?_
          refine R_X6_get (by first | omega | assumption | (simp only [Ls_len]; omega) | exact Ls_get (by omega) (by omega) | rfl | decide) (by first | omega | assumption | (simp only [Ls_len]; omega) | exact Ls_get (by omega) (by omega) | rfl | decide) (by first | omega | assumption | (simp only [Ls_len]; omega) | exact Ls_get (by omega) (by omega) | rfl | decide) (by first | omega | assumption | (simp only [Ls_len]; omega) | exact Ls_get (by omega) (by omega) | rfl | decide) (by first | omega | assumption | (simp only [Ls_len]; omega) | exact Ls_get (by omega) (by omega) | rfl | decide) (by first | omega | assumption | (simp only [Ls_len]; omega) | exact Ls_get (by omega) (by omega) | rfl | decide) ?_
          refine BX12_ofBottle_38  ?_
          first | (rw [if_neg (by omega)] at k; exact k _ s) | (rw [if_pos (by omega), if_neg (by omega), if_neg (by omega), if_neg (by omega)] at k; exact k _ s) | (rw [if_pos (by omega), if_pos (by omega)] at k; exact k _ s)
      · intro w3
        refine BX12_ofBottle_23  ?_ ?_
        · intro hc4
          refine BX12_ofBottle_39  ?_ ?_
          · intro hc5
            first
            | (exfalso; omega)
            | (
                refine BX12_ofBottle_75  ?_ ?_
                · intro hc6
                  first
                  | (exfalso; omega)
                  | (
                      refine BX12_ofBottle_111  ?_
                      first | (rw [if_neg (by omega)] at k; exact k _ s) | (rw [if_pos (by omega), if_neg (by omega), if_neg (by omega), if_neg (by omega)] at k; exact k _ s) | (rw [if_pos (by omega), if_pos (by omega)] at k; exact k _ s)
                    )
                · intro hc7
                  first
                  | (exfalso; omega)
                  | (
                      refine BX12_ofBottle_81 (by first | assumption | exact up_at _ _ _ | (rw [up_ne (by omega)]; first | assumption | exact up_at _ _ _ | (rw [up_ne (by omega)]; first | assumption | exact up_at _ _ _ | (rw [up_ne (by omega)]; assumption)))) (by rfl) (by rfl) (by first | assumption | exact up_at _ _ _ | (rw [up_ne (by omega)]; first | assumption | exact up_at _ _ _ | (rw [up_ne (by omega)]; first | assumption | exact up_at _ _ _ | (rw [up_ne (by omega)]; assumption)))) ?_
                      refine R_X11_rules (by first | omega | assumption | (simp only [Ls_len]; omega) | exact Ls_get (by omega) (by omega) | rfl | decide) (by first | omega | assumption | (simp only [Ls_len]; omega) | exact Ls_get (by omega) (by omega) | rfl | decide) (by first | omega | assumption | (simp only [Ls_len]; omega) | exact Ls_get (by omega) (by omega) | rfl | decide) ?_
                      intro r89 x89
                      have lw := s.lw x89
                      refine BX12_ofBottle_92 (by first | assumption | exact up_at _ _ _ | (rw [up_ne (by omega)]; first | assumption | exact up_at _ _ _ | (rw [up_ne (by omega)]; first | assumption | exact up_at _ _ _ | (rw [up_ne (by omega)]; assumption)))) (by rfl) (by first | assumption | exact up_at _ _ _ | (rw [up_ne (by omega)]; first | assumption | exact up_at _ _ _ | (rw [up_ne (by omega)]; first | assumption | exact up_at _ _ _ | (rw [up_ne (by omega)]; assumption)))) (by rfl) (by rfl) (by first | assumption | exact up_at _ _ _ | (rw [up_ne (by omega)]; first | assumption | exact up_at _ _ _ | (rw [up_ne (by omega)]; first | assumption | exact up_at _ _ _ | (rw [up_ne (by omega)]; assumption)))) ?_
                      refine R_X2_wearsOf (by first | omega | assumption | (simp only [Ls_len]; omega) | exact Ls_get (by omega) (by omega) | rfl | decide) (by first | omega | assumption | (simp only [Ls_len]; omega) | exact Ls_get (by omega) (by omega) | rfl | decide) (by first | omega | assumption | (simp only [Ls_len]; omega) | exact Ls_get (by omega) (by omega) | rfl | decide) (by first | omega | assumption | (simp only [Ls_len]; omega) | exact Ls_get (by omega) (by omega) | rfl | decide) (by first | omega | assumption | (simp only [Ls_len]; omega) | exact Ls_get (by omega) (by omega) | rfl | decide) ?_
                      intro h107 r107 w107
                      refine BX12_ofBottle_110  ?_
                      rw [if_pos (by omega), if_neg (by omega), if_neg (by omega), if_pos (by omega)] at k
                      exact k _ (s.law r107 w107.2.2.2.2.choose_spec)
                    )
              )
          · intro hc8
            first
            | (exfalso; omega)
            | (
                refine BX12_ofBottle_45 (by first | assumption | exact up_at _ _ _ | (rw [up_ne (by omega)]; first | assumption | exact up_at _ _ _ | (rw [up_ne (by omega)]; first | assumption | exact up_at _ _ _ | (rw [up_ne (by omega)]; assumption)))) (by rfl) (by rfl) (by first | assumption | exact up_at _ _ _ | (rw [up_ne (by omega)]; first | assumption | exact up_at _ _ _ | (rw [up_ne (by omega)]; first | assumption | exact up_at _ _ _ | (rw [up_ne (by omega)]; assumption)))) ?_
                refine R_X11_rules (by first | omega | assumption | (simp only [Ls_len]; omega) | exact Ls_get (by omega) (by omega) | rfl | decide) (by first | omega | assumption | (simp only [Ls_len]; omega) | exact Ls_get (by omega) (by omega) | rfl | decide) (by first | omega | assumption | (simp only [Ls_len]; omega) | exact Ls_get (by omega) (by omega) | rfl | decide) ?_
                intro r53 x53
                have lw := s.lw x53
                refine BX12_ofBottle_56 (by first | assumption | exact up_at _ _ _ | (rw [up_ne (by omega)]; first | assumption | exact up_at _ _ _ | (rw [up_ne (by omega)]; first | assumption | exact up_at _ _ _ | (rw [up_ne (by omega)]; assumption)))) (by rfl) (by first | assumption | exact up_at _ _ _ | (rw [up_ne (by omega)]; first | assumption | exact up_at _ _ _ | (rw [up_ne (by omega)]; first | assumption | exact up_at _ _ _ | (rw [up_ne (by omega)]; assumption)))) (by rfl) (by rfl) (by first | assumption | exact up_at _ _ _ | (rw [up_ne (by omega)]; first | assumption | exact up_at _ _ _ | (rw [up_ne (by omega)]; first | assumption | exact up_at _ _ _ | (rw [up_ne (by omega)]; assumption)))) ?_
                refine R_X2_comesOf (by first | omega | assumption | (simp only [Ls_len]; omega) | exact Ls_get (by omega) (by omega) | rfl | decide) (by first | omega | assumption | (simp only [Ls_len]; omega) | exact Ls_get (by omega) (by omega) | rfl | decide) (by first | omega | assumption | (simp only [Ls_len]; omega) | exact Ls_get (by omega) (by omega) | rfl | decide) (by first | omega | assumption | (simp only [Ls_len]; omega) | exact Ls_get (by omega) (by omega) | rfl | decide) (by first | omega | assumption | (simp only [Ls_len]; omega) | exact Ls_get (by omega) (by omega) | rfl | decide) ?_
                intro h71 r71 w71
                refine BX12_ofBottle_74  ?_
                rw [if_pos (by omega), if_neg (by omega), if_pos (by omega)] at k
                exact k _ (s.law r71 w71.2.2.2.2.choose_spec)
              )
        · intro hc9
          exact absurd hc9 (by decide)
    · intro hc10
      exact absurd hc10 (by decide)
  · intro w3
    refine BX12_ofBottle_11  ?_ ?_
    · intro hc11
      exact absurd hc11 (by decide)
    · intro hc12
      refine BX12_ofBottle_14  ?_
      first | (rw [if_neg (by omega)] at k; exact k _ s) | (rw [if_pos (by omega), if_neg (by omega), if_neg (by omega), if_neg (by omega)] at k; exact k _ s) | (rw [if_pos (by omega), if_pos (by omega)] at k; exact k _ s)
theorem cnt_zero {f : Int → Bool} : ∀ k : Nat, cnt f k = 0 ↔ ∀ i : Int, 0 ≤ i → i < k → f i = false := by
  intro k
  induction k with
  | zero => exact ⟨fun _ i i0 i1 => absurd i1 (by omega), fun _ => rfl⟩
  | succ k ih =>
    have c := cnt_ge f k
    rw [cnt]
    constructor
    · intro e i i0 i1
      by_cases q : i = k
      · subst q
        cases w : f k with
        | false => rfl
        | true => rw [if_pos w] at e; omega
      · exact ih.mp (by split at e <;> omega) i i0 (by omega)
    · intro e
      rw [ih.mpr fun i i0 i1 => e i i0 (by omega), e k (by omega) (by omega)]
      rfl
theorem P_empty (s : IsPo g h W V X F) (ok : okW W) (k : ∀ h1, IsPo g h1 W V X F → Q (some (vI (aEmpty W))) h1 n) : Rn (d + 30) bc bs mX12_empty 0 [some (vR (some 1)), none, none] [] h n Q := by
  obtain ⟨fp, p1, w, v, tp, gr, ⟨lx, la⟩, ro, ri, Gx, gl⟩ := id s; have w1 := w.1; have sh := w.2.1; have se := w.2.2.1; obtain ⟨Ts, ps, st, ste⟩ := w.2.2.2.1; have sa := w.2.2.2.2.1; have sh1 := sh.1; have se1 := se.1; have st1 := st.1; have sa1 := sa.1; obtain ⟨tl, la1⟩ := la.ob; have gl1 := gl.1; have bk0 := se.2.2; have bk1 := bk0.1
  obtain ⟨o1, o2, o3, o4, o5⟩ := id ok; have o11 := o1.1; have o21 := o2.1; have o51 := o5.1; have o52 := o5.2.1; have o53 := o5.2.2.1; have o54 := o5.2.2.2.1
  have k1 := k h s
  clear k
  unfold aEmpty at k1
  have loop : ∀ (m i : Nat), i + m = 10 → Rn (d + 30) bc bs mX12_empty 4 [some (vR (some 1)), some (vI (bits (fun p => livesB W p && decide (floN (W 1) p = 0)) i)), some (vI i)] [] h n Q := by
    intro m
    induction m with
    | zero =>
      intro i hi
      have e : i = 10 := by omega
      subst e
      refine BX12_empty_4  ?_ ?_
      · intro hc1
        first
        | (exfalso; omega)
        | (
            refine BX12_empty_50  ?_
            exact k1
          )
      · intro hc2
        first
        | (exfalso; omega)
        | (
            (exfalso; omega)
          )
    | succ m ih =>
      intro i hi
      have ih1 := ih (i + 1) (by omega)
      have b3 := bits_lt (fun p => livesB W p && decide (floN (W 1) p = 0)) i
      rw [bits] at ih1
      refine BX12_empty_4  ?_ ?_
      · intro hc1
        (exfalso; omega)
      · intro hc2
        refine BX12_empty_10 (by first | assumption | exact up_at _ _ _ | (rw [up_ne (by omega)]; first | assumption | exact up_at _ _ _ | (rw [up_ne (by omega)]; first | assumption | exact up_at _ _ _ | (rw [up_ne (by omega)]; assumption)))) (by rfl) (by first | assumption | exact up_at _ _ _ | (rw [up_ne (by omega)]; first | assumption | exact up_at _ _ _ | (rw [up_ne (by omega)]; first | assumption | exact up_at _ _ _ | (rw [up_ne (by omega)]; assumption)))) (by rfl) (by first | assumption | exact up_at _ _ _ | (rw [up_ne (by omega)]; first | assumption | exact up_at _ _ _ | (rw [up_ne (by omega)]; first | assumption | exact up_at _ _ _ | (rw [up_ne (by omega)]; assumption)))) ?_
        refine R_X7_isInhabited (by first | omega | assumption | (simp only [Ls_len]; omega) | exact Ls_get (by omega) (by omega) | rfl | decide) (by first | omega | assumption | (simp only [Ls_len]; omega) | exact Ls_get (by omega) (by omega) | rfl | decide) (by first | omega | assumption | (simp only [Ls_len]; omega) | exact Ls_get (by omega) (by omega) | rfl | decide) (by first | omega | assumption | (simp only [Ls_len]; omega) | exact Ls_get (by omega) (by omega) | rfl | decide) ?_ ?_
        · intro j1 y1 y2 y3
          refine BX12_empty_21  ?_ ?_
          · intro hc3
            refine BX12_empty_44 (by first | omega | assumption | (simp only [Ls_len]; omega) | exact Ls_get (by omega) (by omega) | rfl | decide) ?_
            first
            | (exfalso; omega)
            | (have e1 : livesB W i = false := decide_eq_false fun q => by
                 have z : decide (W 0 j1 = (i : Int)) = false := (cnt_zero _).mp q j1 y1 (by omega)
                 exact absurd y3 (of_decide_eq_false z)
               rw [if_neg (show ¬ ((livesB W i && decide (floN (W 1) i = 0)) = true) by rw [e1, Bool.false_and]; decide), Int.add_zero] at ih1
               exact ih1)
            | (have e2 : floN (W 1) i ≠ 0 := by assumption
               rw [if_neg (by rw [Bool.and_eq_true]; exact fun q => e2 (of_decide_eq_true q.2)), Int.add_zero] at ih1
               exact ih1)
            | (have e1 : livesB W i = true := decide_eq_true ((cnt_zero _).mpr fun a a0 a1 => decide_eq_false (y4 a a0 (by omega)))
               have e2 : floN (W 1) i = 0 := by assumption
               rw [if_pos (by rw [e1, e2]; rfl)] at ih1
               rw [or_bit b3.1 b3.2 (by omega)]
               exact ih1)
          · intro hc4
            exact absurd hc4 (by decide)
        · intro y4
          refine BX12_empty_21  ?_ ?_
          · intro hc5
            exact absurd hc5 (by decide)
          · intro hc6
            refine BX12_empty_24 (by first | assumption | exact up_at _ _ _ | (rw [up_ne (by omega)]; first | assumption | exact up_at _ _ _ | (rw [up_ne (by omega)]; first | assumption | exact up_at _ _ _ | (rw [up_ne (by omega)]; assumption)))) (by rfl) (by first | assumption | exact up_at _ _ _ | (rw [up_ne (by omega)]; first | assumption | exact up_at _ _ _ | (rw [up_ne (by omega)]; first | assumption | exact up_at _ _ _ | (rw [up_ne (by omega)]; assumption)))) (by rfl) (by first | assumption | exact up_at _ _ _ | (rw [up_ne (by omega)]; first | assumption | exact up_at _ _ _ | (rw [up_ne (by omega)]; first | assumption | exact up_at _ _ _ | (rw [up_ne (by omega)]; assumption)))) ?_
            refine R_X6_countAfloatAt (by first | omega | assumption | (simp only [Ls_len]; omega) | exact Ls_get (by omega) (by omega) | rfl | decide) (by first | omega | assumption | (simp only [Ls_len]; omega) | exact Ls_get (by omega) (by omega) | rfl | decide) (by first | omega | assumption | (simp only [Ls_len]; omega) | exact Ls_get (by omega) (by omega) | rfl | decide) (by first | omega | assumption | (simp only [Ls_len]; omega) | exact Ls_get (by omega) (by omega) | rfl | decide) ?_
            refine BX12_empty_35  ?_ ?_
            · intro hc7
              refine BX12_empty_44 (by first | omega | assumption | (simp only [Ls_len]; omega) | exact Ls_get (by omega) (by omega) | rfl | decide) ?_
              first
              | (exfalso; omega)
              | (have e1 : livesB W i = false := decide_eq_false fun q => by
                   have z : decide (W 0 j1 = (i : Int)) = false := (cnt_zero _).mp q j1 y1 (by omega)
                   exact absurd y3 (of_decide_eq_false z)
                 rw [if_neg (show ¬ ((livesB W i && decide (floN (W 1) i = 0)) = true) by rw [e1, Bool.false_and]; decide), Int.add_zero] at ih1
                 exact ih1)
              | (have e2 : floN (W 1) i ≠ 0 := by assumption
                 rw [if_neg (by rw [Bool.and_eq_true]; exact fun q => e2 (of_decide_eq_true q.2)), Int.add_zero] at ih1
                 exact ih1)
              | (have e1 : livesB W i = true := decide_eq_true ((cnt_zero _).mpr fun a a0 a1 => decide_eq_false (y4 a a0 (by omega)))
                 have e2 : floN (W 1) i = 0 := by assumption
                 rw [if_pos (by rw [e1, e2]; rfl)] at ih1
                 rw [or_bit b3.1 b3.2 (by omega)]
                 exact ih1)
            · intro hc8
              refine BX12_empty_38 (by first | omega | assumption | (simp only [Ls_len]; omega) | exact Ls_get (by omega) (by omega) | rfl | decide) ?_
              first
              | (exfalso; omega)
              | (have e1 : livesB W i = false := decide_eq_false fun q => by
                   have z : decide (W 0 j1 = (i : Int)) = false := (cnt_zero _).mp q j1 y1 (by omega)
                   exact absurd y3 (of_decide_eq_false z)
                 rw [if_neg (show ¬ ((livesB W i && decide (floN (W 1) i = 0)) = true) by rw [e1, Bool.false_and]; decide), Int.add_zero] at ih1
                 exact ih1)
              | (have e2 : floN (W 1) i ≠ 0 := by assumption
                 rw [if_neg (by rw [Bool.and_eq_true]; exact fun q => e2 (of_decide_eq_true q.2)), Int.add_zero] at ih1
                 exact ih1)
              | (have e1 : livesB W i = true := decide_eq_true ((cnt_zero _).mpr fun a a0 a1 => decide_eq_false (y4 a a0 (by omega)))
                 have e2 : floN (W 1) i = 0 := by assumption
                 rw [if_pos (by rw [e1, e2]; rfl)] at ih1
                 rw [or_bit b3.1 b3.2 (by omega)]
                 exact ih1)
  refine BX12_empty_0  ?_
  exact loop 10 0 (by omega)
end LIKELY
