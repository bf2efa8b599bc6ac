/-! The reference: reads. -/
theorem digM_1 {v : Int} (h0 : 1 ≤ v) (h1 : v < 10) : digM v = 1 := by
  unfold digM; rw [digN, if_neg (by omega), digN, if_pos (by omega)]; rfl
theorem digM_2 {v : Int} (h0 : 10 ≤ v) (h1 : v < 100) : digM v = 2 := by
  unfold digM; rw [digN, if_neg (by omega), digN, if_neg (by omega), digN, if_pos (by omega)]; rfl
theorem digM_3 {v : Int} (h0 : 100 ≤ v) (h1 : v < 1000) : digM v = 3 := by
  unfold digM; rw [digN, if_neg (by omega), digN, if_neg (by omega), digN, if_neg (by omega), digN, if_pos (by omega)]; rfl
theorem digM_4 {v : Int} (h0 : 1000 ≤ v) (h1 : v < 10000) : digM v = 4 := by
  unfold digM; rw [digN, if_neg (by omega), digN, if_neg (by omega), digN, if_neg (by omega), digN, if_neg (by omega), digN, if_pos (by omega)]; rfl
theorem tenM_n {x : Int} (h0 : 0 ≤ x) (h1 : x ≤ 9) : tenM x = tenN x.toNat := by unfold tenM; rw [if_pos h1]
def divN : Nat → Int → Int
  | 0, x => x
  | m + 1, x => divN m (x / 10)
theorem divN_eq : ∀ (m : Nat) (x : Int), divN m x = x / tenN m := by
  intro m
  induction m with
  | zero => intro x; show x = x / 1; omega
  | succ m ih =>
    intro x
    show divN m (x / 10) = x / (tenN m * 10)
    have tp : 0 < tenN m := by
      clear ih
      induction m with
      | zero => decide
      | succ m ih => show 0 < tenN m * 10; omega
    rw [ih]
    generalize tenN m = T at tp
    have e1 := Int.mul_ediv_add_emod (x / 10) T
    have e2 := Int.emod_nonneg (x / 10) (show T ≠ 0 by omega)
    have e3 := Int.emod_lt_of_pos (x / 10) tp
    generalize x / 10 / T = q at e1
    generalize x / 10 % T = r at e1 e2 e3
    have e4 : x = q * (T * 10) + (r * 10 + x % 10) := by
      have e5 : T * q * 10 = q * (T * 10) := by rw [Int.mul_comm T q, Int.mul_assoc]
      omega
    obtain ⟨u, hu⟩ : ∃ u, u = r * 10 + x % 10 := ⟨_, rfl⟩
    rw [← hu] at e4
    rw [e4, Int.add_comm, Int.add_mul_ediv_right _ _ (by omega), Int.ediv_eq_zero_of_lt (by omega) (by omega), Int.zero_add]
theorem rsuM_0 {Y f : Int → Int} {hd : Int} : ∀ (m : Nat) (i a : Int), rsuM Y f hd 0 m i a = a := by
  intro m
  induction m with
  | zero => intro i a; rfl
  | succ m ih =>
    intro i a
    unfold rsuM
    rw [if_neg (fun q => by have := matB_i q; omega)]
    exact ih _ _
section READS3
variable {d bc bs n : Nat} {g h : aH} {Q : aQ} {W V : Int → Int → Int} {X : Int → Tx} {F B : Int → Int} {wr cm : Int} {M : Int → Int → Int}
theorem R_X13_longOf {v : Int} (v0 : 1 ≤ v) (v1 : v ≤ 9999) (k : Q (some (vI (digM v))) h n) : Rn d bc bs mX13_longOf 0 [some (vI v)] [] h n Q := by
  refine BX13_longOf_0  ?_ ?_
  · intro hc1
    refine BX13_longOf_10  ?_ ?_
    · intro hc2
      refine BX13_longOf_20  ?_ ?_
      · intro hc3
        refine BX13_longOf_31  ?_
        (rw [digM_4 (by omega) (by omega)] at k; exact k)
      · intro hc4
        refine BX13_longOf_27  ?_
        (rw [digM_3 (by omega) (by omega)] at k; exact k)
    · intro hc5
      refine BX13_longOf_16  ?_
      (rw [digM_2 (by omega) (by omega)] at k; exact k)
  · intro hc6
    refine BX13_longOf_6  ?_
    (rw [digM_1 (by omega) (by omega)] at k; exact k)
theorem R_X13_tensOf {x : Int} {l1 l2 : Option aV} (x0 : 0 ≤ x) (x1 : x ≤ 8) (k : Q (some (vI (tenM x))) h n) : Rn d bc bs mX13_tensOf 0 [some (vI x), l1, l2] [] h n Q := by
  rw [tenM_n x0 (by omega)] at k
  have loop : ∀ (m j : Nat), (j : Int) + m = x → Rn d bc bs mX13_tensOf 4 [some (vI x), some (vI (tenN j)), some (vI (j : Int))] [] h n Q := by
    intro m
    induction m with
    | zero =>
      intro j e1
      have e9 : j = x.toNat := by omega
      refine BX13_tensOf_4  ?_ ?_
      · intro hc1
        first
        | (exfalso; omega)
        | (
            refine BX13_tensOf_20  ?_
            (rw [e9]; exact k)
          )
      · intro hc2
        first
        | (exfalso; omega)
        | (
            refine BX13_tensOf_9 (by first | omega | (rw [fset_at]; omega) | (simp only [Ls_len]; omega) | assumption | exact Ls_get (by omega) (by omega) | exact up_at _ _ _ | rfl | decide) (by first | omega | (rw [fset_at]; omega) | (simp only [Ls_len]; omega) | assumption | exact Ls_get (by omega) (by omega) | exact up_at _ _ _ | rfl | decide) ?_
            (exfalso; omega)
          )
    | succ m ih =>
      intro j e1
      have t9 := tenN_lt j (by omega)
      refine BX13_tensOf_4  ?_ ?_
      · intro hc1
        first
        | (exfalso; omega)
        | (
            refine BX13_tensOf_20  ?_
            (exfalso; omega)
          )
      · intro hc2
        first
        | (exfalso; omega)
        | (
            refine BX13_tensOf_9 (by first | omega | (rw [fset_at]; omega) | (simp only [Ls_len]; omega) | assumption | exact Ls_get (by omega) (by omega) | exact up_at _ _ _ | rfl | decide) (by first | omega | (rw [fset_at]; omega) | (simp only [Ls_len]; omega) | assumption | exact Ls_get (by omega) (by omega) | exact up_at _ _ _ | rfl | decide) ?_
            (have ih' := ih (j + 1) (by omega); rw [show ((j + 1 : Nat) : Int) = (j : Int) + 1 by omega] at ih'; exact ih')
          )
  refine BX13_tensOf_0  ?_
  exact loop x.toNat 0 (by omega)
theorem R_X13_digitsOf {x : Int} {l1 l2 : Option aV} (x1 : x ≤ 999999999) (k : Q (some (vI (digM x))) h n) : Rn d bc bs mX13_digitsOf 0 [some (vI x), l1, l2] [] h n Q := by
  have loop : ∀ (m : Nat) (y i : Int), 0 ≤ i → i ≤ 9 → y < tenN m → m ≤ 9 → i + m ≤ 9 → Q (some (vI (digN m y i))) h n → Rn d bc bs mX13_digitsOf 4 [some (vI x), some (vI i), some (vI y)] [] h n Q := by
    intro m
    induction m with
    | zero =>
      intro y i i0 i1 y1 m9 im k
      have y1 : y < 1 := y1
      refine BX13_digitsOf_4  ?_ ?_
      · intro hc1
        first
        | (exfalso; omega)
        | (
            refine BX13_digitsOf_19  ?_
            exact k
          )
      · intro hc2
        first
        | (exfalso; omega)
        | (
            (exfalso; omega)
          )
    | succ m ih =>
      intro y i i0 i1 y1 m9 im k
      have y1 : y < tenN m * 10 := y1
      have t1 := tenN_lt m (by omega)
      unfold digN at k
      refine BX13_digitsOf_4  ?_ ?_
      · intro hc1
        refine BX13_digitsOf_19  ?_
        (rw [if_pos (by omega)] at k; exact k)
      · intro hc2
        refine BX13_digitsOf_8 (by first | omega | (rw [fset_at]; omega) | (simp only [Ls_len]; omega) | assumption | exact Ls_get (by omega) (by omega) | exact up_at _ _ _ | rfl | decide) (by first | omega | (rw [fset_at]; omega) | (simp only [Ls_len]; omega) | assumption | exact Ls_get (by omega) (by omega) | exact up_at _ _ _ | rfl | decide) (by first | omega | (rw [fset_at]; omega) | (simp only [Ls_len]; omega) | assumption | exact Ls_get (by omega) (by omega) | exact up_at _ _ _ | rfl | decide) ?_
        (rw [if_neg (by omega)] at k; exact ih _ _ (by omega) (by omega) (by omega) (by omega) (by omega) k)
  refine BX13_digitsOf_0  ?_
  exact loop 9 x 0 (by decide) (by decide) (by have : tenN 9 = 1000000000 := rfl; omega) (by decide) (by decide) k
theorem M_reads {x : Int} (s : IsMo g h W V X F B wr cm) (ok : okW W) (k : ∀ h1, IsMo g h1 W V X F B wr cm → Q (some (vL (aReads W x))) h1 n) : Rn (d + 30) bc bs mX13_reads 0 [some (vR (some 301)), some (vI x), none, none, none, none, none] [] h n Q := by
  unfold aReads at k
  have y2 : ∀ i, 0 ≤ i → i < W 2 53 → 1 ≤ W 2 (12 + i) ∧ W 2 (12 + i) ≤ 9999 := ok.2.2.2.2.2.2.2.2.2.1
  have dx := digM_le x
  obtain ⟨M, e, t⟩ := id s
  have on := t.2.2.2.2.2.2
  have on7 := on.2.2.2.2.2.2.1
  have ty := t.1.1.2.2.1
  have ty2 : M 1 5 = W 2 53 := ty.1.2.1
  have ty7 := ty.2.2.1
  have in69 : 1 ≤ x → x ≤ 999999999 → ∀ (e0 : Nat) (hd : Int) (m : Nat) (i a : Int) (l6 : Option aV) (R : Int → Int) (h1 : aH), 1 ≤ e0 → (e0 : Int) ≤ digM x → 0 ≤ i → i + m = W 2 53 → 0 ≤ hd → 0 ≤ a → a + m * 1073741824 ≤ 100000000000 → (∀ j : Nat, j < e0 → R j = rvM (W 2) x (digM x) (W 2 53).toNat e0 j) → R e0 = a → IsM g h1 (fset M 13 R) → (∀ h2 R2 l6 (x5 : Int), IsM g h2 (fset M 13 R2) → (∀ j : Nat, j < e0 → R2 j = R j) → R2 e0 = rsuM (W 2) (rvM (W 2) x (digM x) (W 2 53).toNat e0) hd e0 m i a → Rn (d + 30) bc bs mX13_reads 148 [some (vR (some 301)), some (vI x), some (vI (digM x)), some (vI (e0 : Int)), some (vI hd), some (vI x5), l6] [] h2 n Q) → Rn (d + 30) bc bs mX13_reads 69 [some (vR (some 301)), some (vI x), some (vI (digM x)), some (vI (e0 : Int)), some (vI hd), some (vI i), l6] [] h1 n Q := by
    intro q1 q2 e0 hd m
    induction m with
    | zero =>
      intro i a l6 R h1 e1 e2 i0 im hd0 a0 a1 rj re s1 K
      have m0 := s1.o
      have m1 := s1.a1
      have m1 : h1 302 = cI (Ls 3389 (M 1)) := m1
      refine BX13_reads_69 (by first | assumption | exact up_at _ _ _ | (rw [up_ne (by omega)]; first | assumption | exact up_at _ _ _ | (rw [up_ne (by omega)]; assumption))) (by rfl) (by first | assumption | exact up_at _ _ _ | (rw [up_ne (by omega)]; first | assumption | exact up_at _ _ _ | (rw [up_ne (by omega)]; assumption))) (by first | exact Ls_get (by omega) (by omega) | assumption) ?_ ?_
      · intro hc1
        first
        | (exfalso; omega)
        | (
            exact K _ R _ _ s1 (fun j j0 => rfl) re
          )
      · intro hc2
        first
        | (exfalso; omega)
        | (
            (exfalso; omega)
          )
    | succ m ih =>
      intro i a l6 R h1 e1 e2 i0 im hd0 a0 a1 rj re s1 K
      have m0 := s1.o
      have m1 : h1 302 = cI (Ls 3389 (M 1)) := s1.a1
      have m13 : h1 314 = cJ (Ls 10 R) := s1.a13
      have y3 := y2 i (by omega) (by omega)
      have y7 := ty7 i (by omega) (by omega)
      have d1 := digM_le (W 2 (12 + i))
      have t1 := tenM_le (digM (W 2 (12 + i)))
      have dp : 1 ≤ digM (W 2 (12 + i)) := by
        unfold digM; rw [digN, if_neg (by omega)]; have := digN_le 8 (W 2 (12 + i) / 10) (0 + 1); omega
      have d8 : digM (W 2 (12 + i)) ≤ 8 := by
        by_cases c1 : W 2 (12 + i) < 10
        · rw [digM_1 (by omega) c1]; decide
        by_cases c2 : W 2 (12 + i) < 100
        · rw [digM_2 (by omega) c2]; decide
        by_cases c3 : W 2 (12 + i) < 1000
        · rw [digM_3 (by omega) c3]; decide
        rw [digM_4 (by omega) (by omega)]; decide
      rw [← y7] at y3 d1 t1 dp d8
      unfold rsuM at K
      have rb : (e0 : Int) < digM (M 1 (137 + i)) ∨ (0 ≤ R ((e0 : Int) - digM (M 1 (137 + i))) ∧ R ((e0 : Int) - digM (M 1 (137 + i))) ≤ 1073741824 ∧ R ((e0 : Int) - digM (M 1 (137 + i))) = rvM (W 2) x (digM x) (W 2 53).toNat e0 ((e0 : Int) - digM (M 1 (137 + i)))) := by
        by_cases z2 : (e0 : Int) < digM (M 1 (137 + i))
        · exact .inl z2
        · have z3 := rj (e0 - (digM (M 1 (137 + i))).toNat) (by omega)
          have z4 := rvM_b (Y := W 2) (x := x) (dg := digM x) (cc := (W 2 53).toNat) (by omega) e0 (e0 - (digM (M 1 (137 + i))).toNat) (by omega)
          have z5 := pw8_top (e0 - (digM (M 1 (137 + i))).toNat) (by omega)
          rw [show ((e0 - (digM (M 1 (137 + i))).toNat : Nat) : Int) = (e0 : Int) - digM (M 1 (137 + i)) by omega] at z3 z4
          exact .inr ⟨by omega, by omega, z3⟩
      refine BX13_reads_69 (by first | assumption | exact up_at _ _ _ | (rw [up_ne (by omega)]; first | assumption | exact up_at _ _ _ | (rw [up_ne (by omega)]; assumption))) (by rfl) (by first | assumption | exact up_at _ _ _ | (rw [up_ne (by omega)]; first | assumption | exact up_at _ _ _ | (rw [up_ne (by omega)]; assumption))) (by first | exact Ls_get (by omega) (by omega) | assumption) ?_ ?_
      · intro hc1
        (exfalso; omega)
      · intro hc2
        refine BX13_reads_80 (by first | assumption | exact up_at _ _ _ | (rw [up_ne (by omega)]; first | assumption | exact up_at _ _ _ | (rw [up_ne (by omega)]; assumption))) (by rfl) (by first | omega | (rw [fset_at]; omega) | (simp only [Ls_len]; omega) | assumption | exact Ls_get (by omega) (by omega) | exact up_at _ _ _ | rfl | decide) (by first | assumption | exact up_at _ _ _ | (rw [up_ne (by omega)]; first | assumption | exact up_at _ _ _ | (rw [up_ne (by omega)]; assumption))) (by first | omega | (rw [fset_at]; omega) | (simp only [Ls_len]; omega) | assumption | exact Ls_get (by omega) (by omega) | exact up_at _ _ _ | rfl | decide) (by first | exact Ls_get (by omega) (by omega) | assumption) ?_
        refine R_X13_longOf (by first | omega | (rw [fset_at]; omega) | (simp only [Ls_len]; omega) | assumption | exact Ls_get (by omega) (by omega) | exact up_at _ _ _ | rfl | decide) (by first | omega | (rw [fset_at]; omega) | (simp only [Ls_len]; omega) | assumption | exact Ls_get (by omega) (by omega) | exact up_at _ _ _ | rfl | decide) ?_
        refine BX13_reads_94  ?_ ?_
        · intro hc3
          refine BX13_reads_142 (by first | omega | (rw [fset_at]; omega) | (simp only [Ls_len]; omega) | assumption | exact Ls_get (by omega) (by omega) | exact up_at _ _ _ | rfl | decide) ?_
          first
          | (rw [if_neg (matB_n (by rw [← y7]; omega))] at K; exact ih _ _ _ R h1 e1 e2 (by omega) (by omega) hd0 a0 (by omega) rj re s1 K)
          | (rw [if_pos (matB_y (by rw [← y7]; omega) (by rw [← y7]; omega) (by rw [← y7]; omega)), ← y7] at K
             have rb2 : 0 ≤ R ((e0 : Int) - digM (M 1 (137 + i))) ∧ R ((e0 : Int) - digM (M 1 (137 + i))) ≤ 1073741824 ∧ R ((e0 : Int) - digM (M 1 (137 + i))) = rvM (W 2) x (digM x) (W 2 53).toNat e0 ((e0 : Int) - digM (M 1 (137 + i))) := by omega
             have s2 := s1.s13 (f := fset R (e0 : Int) (R e0 + R ((e0 : Int) - digM (M 1 (137 + i)))))
             rw [fset2] at s2
             refine ih _ (a + rvM (W 2) x (digM x) (W 2 53).toNat e0 ((e0 : Int) - digM (M 1 (137 + i)))) _ (fset R (e0 : Int) (R e0 + R ((e0 : Int) - digM (M 1 (137 + i))))) _ e1 e2 (by omega) (by omega) hd0 (by omega) (by omega) (fun j j0 => (fset_ne (by omega)).trans (rj j j0)) (by rw [fset_at, re, rb2.2.2]) s2 (fun h2 R2 l6 x5 p1 p2 p3 => ?_)
             exact K h2 R2 l6 x5 p1 (fun j j0 => (p2 j j0).trans (fset_ne (by omega))) p3)
        · intro hc4
          refine BX13_reads_102  ?_
          refine R_X13_tensOf (by first | omega | (rw [fset_at]; omega) | (simp only [Ls_len]; omega) | assumption | exact Ls_get (by omega) (by omega) | exact up_at _ _ _ | rfl | decide) (by first | omega | (rw [fset_at]; omega) | (simp only [Ls_len]; omega) | assumption | exact Ls_get (by omega) (by omega) | exact up_at _ _ _ | rfl | decide) ?_
          refine BX13_reads_109 (by first | omega | (rw [fset_at]; omega) | (simp only [Ls_len]; omega) | assumption | exact Ls_get (by omega) (by omega) | exact up_at _ _ _ | rfl | decide) (by first | assumption | exact up_at _ _ _ | (rw [up_ne (by omega)]; first | assumption | exact up_at _ _ _ | (rw [up_ne (by omega)]; assumption))) (by rfl) (by first | omega | (rw [fset_at]; omega) | (simp only [Ls_len]; omega) | assumption | exact Ls_get (by omega) (by omega) | exact up_at _ _ _ | rfl | decide) (by first | assumption | exact up_at _ _ _ | (rw [up_ne (by omega)]; first | assumption | exact up_at _ _ _ | (rw [up_ne (by omega)]; assumption))) (by first | omega | (rw [fset_at]; omega) | (simp only [Ls_len]; omega) | assumption | exact Ls_get (by omega) (by omega) | exact up_at _ _ _ | rfl | decide) (by first | exact Ls_get (by omega) (by omega) | assumption) ?_ ?_
          · intro hc5
            refine BX13_reads_142 (by first | omega | (rw [fset_at]; omega) | (simp only [Ls_len]; omega) | assumption | exact Ls_get (by omega) (by omega) | exact up_at _ _ _ | rfl | decide) ?_
            first
            | (rw [if_neg (matB_n (by rw [← y7]; omega))] at K; exact ih _ _ _ R h1 e1 e2 (by omega) (by omega) hd0 a0 (by omega) rj re s1 K)
            | (rw [if_pos (matB_y (by rw [← y7]; omega) (by rw [← y7]; omega) (by rw [← y7]; omega)), ← y7] at K
               have rb2 : 0 ≤ R ((e0 : Int) - digM (M 1 (137 + i))) ∧ R ((e0 : Int) - digM (M 1 (137 + i))) ≤ 1073741824 ∧ R ((e0 : Int) - digM (M 1 (137 + i))) = rvM (W 2) x (digM x) (W 2 53).toNat e0 ((e0 : Int) - digM (M 1 (137 + i))) := by omega
               have s2 := s1.s13 (f := fset R (e0 : Int) (R e0 + R ((e0 : Int) - digM (M 1 (137 + i)))))
               rw [fset2] at s2
               refine ih _ (a + rvM (W 2) x (digM x) (W 2 53).toNat e0 ((e0 : Int) - digM (M 1 (137 + i)))) _ (fset R (e0 : Int) (R e0 + R ((e0 : Int) - digM (M 1 (137 + i))))) _ e1 e2 (by omega) (by omega) hd0 (by omega) (by omega) (fun j j0 => (fset_ne (by omega)).trans (rj j j0)) (by rw [fset_at, re, rb2.2.2]) s2 (fun h2 R2 l6 x5 p1 p2 p3 => ?_)
               exact K h2 R2 l6 x5 p1 (fun j j0 => (p2 j j0).trans (fset_ne (by omega))) p3)
          · intro hc6
            refine BX13_reads_124 (by first | assumption | exact up_at _ _ _ | (rw [up_ne (by omega)]; first | assumption | exact up_at _ _ _ | (rw [up_ne (by omega)]; assumption))) (by rfl) (by first | assumption | exact up_at _ _ _ | (rw [up_ne (by omega)]; first | assumption | exact up_at _ _ _ | (rw [up_ne (by omega)]; assumption))) (by first | omega | (rw [fset_at]; omega) | (simp only [Ls_len]; omega) | assumption | exact Ls_get (by omega) (by omega) | exact up_at _ _ _ | rfl | decide) (by first | exact Ls_get (by omega) (by omega) | assumption) (by first | omega | (rw [fset_at]; omega) | (simp only [Ls_len]; omega) | assumption | exact Ls_get (by omega) (by omega) | exact up_at _ _ _ | rfl | decide) (by first | omega | (rw [fset_at]; omega) | (simp only [Ls_len]; omega) | assumption | exact Ls_get (by omega) (by omega) | exact up_at _ _ _ | rfl | decide) (by first | omega | (rw [fset_at]; omega) | (simp only [Ls_len]; omega) | assumption | exact Ls_get (by omega) (by omega) | exact up_at _ _ _ | rfl | decide) (by first | exact Ls_get (by omega) (by omega) | assumption) (by first | omega | (rw [fset_at]; omega) | (simp only [Ls_len]; omega) | assumption | exact Ls_get (by omega) (by omega) | exact up_at _ _ _ | rfl | decide) (by first | omega | (rw [fset_at]; omega) | (simp only [Ls_len]; omega) | assumption | exact Ls_get (by omega) (by omega) | exact up_at _ _ _ | rfl | decide) ?_
            try rw [Ls_set (by omega)]
            refine BX13_reads_142 (by first | omega | (rw [fset_at]; omega) | (simp only [Ls_len]; omega) | assumption | exact Ls_get (by omega) (by omega) | exact up_at _ _ _ | rfl | decide) ?_
            first
            | (rw [if_neg (matB_n (by rw [← y7]; omega))] at K; exact ih _ _ _ R h1 e1 e2 (by omega) (by omega) hd0 a0 (by omega) rj re s1 K)
            | (rw [if_pos (matB_y (by rw [← y7]; omega) (by rw [← y7]; omega) (by rw [← y7]; omega)), ← y7] at K
               have rb2 : 0 ≤ R ((e0 : Int) - digM (M 1 (137 + i))) ∧ R ((e0 : Int) - digM (M 1 (137 + i))) ≤ 1073741824 ∧ R ((e0 : Int) - digM (M 1 (137 + i))) = rvM (W 2) x (digM x) (W 2 53).toNat e0 ((e0 : Int) - digM (M 1 (137 + i))) := by omega
               have s2 := s1.s13 (f := fset R (e0 : Int) (R e0 + R ((e0 : Int) - digM (M 1 (137 + i)))))
               rw [fset2] at s2
               refine ih _ (a + rvM (W 2) x (digM x) (W 2 53).toNat e0 ((e0 : Int) - digM (M 1 (137 + i)))) _ (fset R (e0 : Int) (R e0 + R ((e0 : Int) - digM (M 1 (137 + i))))) _ e1 e2 (by omega) (by omega) hd0 (by omega) (by omega) (fun j j0 => (fset_ne (by omega)).trans (rj j j0)) (by rw [fset_at, re, rb2.2.2]) s2 (fun h2 R2 l6 x5 p1 p2 p3 => ?_)
               exact K h2 R2 l6 x5 p1 (fun j j0 => (p2 j j0).trans (fset_ne (by omega))) p3)
  have in47 : 1 ≤ x → x ≤ 999999999 → ∀ (e0 : Nat) (h1 : aH) (l6 : Option aV), (e0 : Int) ≤ digM x → (∀ l6, Rn (d + 30) bc bs mX13_reads 66 [some (vR (some 301)), some (vI x), some (vI (digM x)), some (vI (e0 : Int)), some (vI (Int.tdiv x (tenM (digM x - (e0 : Int))))), some (vI (digM x)), l6] [] h1 n Q) → ∀ (m : Nat) (j y : Int), j + m = digM x → 0 ≤ y → y ≤ 999999999 → 0 ≤ j → divN m y = Int.tdiv x (tenM (digM x - (e0 : Int))) → Rn (d + 30) bc bs mX13_reads 47 [some (vR (some 301)), some (vI x), some (vI (digM x)), some (vI (e0 : Int)), some (vI y), some (vI j), l6] [] h1 n Q := by
    intro q1 q2 e0 h1 l6 e1 K m
    induction m with
    | zero =>
      intro j y jm y0 y1 j0 hy
      have e9 : j = digM x := by omega
      subst e9
      rw [← hy] at K
      refine BX13_reads_47  ?_ ?_
      · intro hc1
        first
        | (exfalso; omega)
        | (
            exact K _
          )
      · intro hc2
        first
        | (exfalso; omega)
        | (
            (exfalso; omega)
          )
    | succ m ih =>
      intro j y jm y0 y1 j0 hy
      refine BX13_reads_47  ?_ ?_
      · intro hc1
        first
        | (exfalso; omega)
        | (
            (exfalso; omega)
          )
      · intro hc2
        first
        | (exfalso; omega)
        | (
            refine BX13_reads_53 (by first | omega | (rw [fset_at]; omega) | (simp only [Ls_len]; omega) | assumption | exact Ls_get (by omega) (by omega) | exact up_at _ _ _ | rfl | decide) (by first | omega | (rw [fset_at]; omega) | (simp only [Ls_len]; omega) | assumption | exact Ls_get (by omega) (by omega) | exact up_at _ _ _ | rfl | decide) (by first | omega | (rw [fset_at]; omega) | (simp only [Ls_len]; omega) | assumption | exact Ls_get (by omega) (by omega) | exact up_at _ _ _ | rfl | decide) ?_
            exact ih _ _ (by omega) (by omega) (by omega) (by omega) hy
          )
  have in29 : 1 ≤ x → x ≤ 999999999 → ∀ (m e0 : Nat) (l4 l5 l6 : Option aV) (R : Int → Int) (h1 : aH), 1 ≤ e0 → e0 + m = (digM x).toNat + 1 → (∀ j : Nat, j < e0 → R j = rvM (W 2) x (digM x) (W 2 53).toNat e0 j) → IsM g h1 (fset M 13 R) → Rn (d + 30) bc bs mX13_reads 29 [some (vR (some 301)), some (vI x), some (vI (digM x)), some (vI (e0 : Int)), l4, l5, l6] [] h1 n Q := by
    intro q1 q2 m
    rw [if_pos ⟨q1, q2⟩] at k
    induction m with
    | zero =>
      intro e0 l4 l5 l6 R h1 e1 em rj s1
      have m0 := s1.o
      have m13 : h1 314 = cJ (Ls 10 R) := s1.a13
      have z1 := rj (digM x).toNat (by omega)
      rw [show (((digM x).toNat : Nat) : Int) = digM x by omega, show e0 = (digM x).toNat + 1 by omega] at z1
      refine BX13_reads_29  ?_ ?_
      · intro hc1
        first
        | (exfalso; omega)
        | (
            refine BX13_reads_154 (by first | assumption | exact up_at _ _ _ | (rw [up_ne (by omega)]; first | assumption | exact up_at _ _ _ | (rw [up_ne (by omega)]; assumption))) (by rfl) (by first | assumption | exact up_at _ _ _ | (rw [up_ne (by omega)]; first | assumption | exact up_at _ _ _ | (rw [up_ne (by omega)]; assumption))) (by first | omega | (rw [fset_at]; omega) | (simp only [Ls_len]; omega) | assumption | exact Ls_get (by omega) (by omega) | exact up_at _ _ _ | rfl | decide) (by first | exact Ls_get (by omega) (by omega) | assumption) (by first | omega | (rw [fset_at]; omega) | (simp only [Ls_len]; omega) | assumption | exact Ls_get (by omega) (by omega) | exact up_at _ _ _ | rfl | decide) ?_
            (rw [z1]; exact k _ ⟨fset M 13 R, s1, t⟩)
          )
      · intro hc2
        first
        | (exfalso; omega)
        | (
            (exfalso; omega)
          )
    | succ m ih =>
      intro e0 l4 l5 l6 R h1 e1 em rj s1
      have m0 := s1.o
      have m13 : h1 314 = cJ (Ls 10 R) := s1.a13
      have s2 := s1.s13 (f := fset R (e0 : Int) 0)
      rw [fset2] at s2
      have n0 := s2.o
      have hdv : divN (digM x - (e0 : Int)).toNat x = Int.tdiv x (tenM (digM x - (e0 : Int))) := by
        rw [divN_eq, tenM_n (by omega) (by omega), Int.tdiv_eq_ediv_of_nonneg (by omega)]
      have t1 := tenM_le (digM x - (e0 : Int))
      have td := tdiv_bd (x := x) (y := tenM (digM x - (e0 : Int))) (by omega) (by omega)
      have c66 : ∀ l6, Rn (d + 30) bc bs mX13_reads 66 [some (vR (some 301)), some (vI x), some (vI (digM x)), some (vI (e0 : Int)), some (vI (Int.tdiv x (tenM (digM x - (e0 : Int))))), some (vI (digM x)), l6] [] (up h1 314 (cJ (Ls 10 (fset R (e0 : Int) 0)))) n Q := by
        intro l6
        refine BX13_reads_66  ?_
        refine in69 q1 q2 e0 _ (W 2 53).toNat 0 0 _ (fset R (e0 : Int) 0) _ e1 (by omega) (by decide) (by omega) td.1 (by decide) (by omega) (fun j j0 => (fset_ne (by omega)).trans (rj j j0)) (fset_at _ _ _) s2 (fun h2 R2 l6 x5 p1 p2 p3 => ?_)
        refine BX13_reads_148 (by omega) ?_
        have z := ih (e0 + 1) (some (vI (Int.tdiv x (tenM (digM x - (e0 : Int)))))) (some (vI x5)) l6 R2 h2 (by omega) (by omega) (fun j j0 => by
          show R2 j = fset _ _ _ _
          by_cases q : j = e0
          · subst q; rw [fset_at, p3, if_neg (by omega)]
          · rw [fset_ne (by omega), p2 j (by omega), fset_ne (by omega)]; exact rj j (by omega)) p1
        rw [show ((e0 + 1 : Nat) : Int) = (e0 : Int) + 1 by omega] at z
        exact z
      refine BX13_reads_29  ?_ ?_
      · intro hc1
        first
        | (exfalso; omega)
        | (
            refine BX13_reads_154 (by first | assumption | exact up_at _ _ _ | (rw [up_ne (by omega)]; first | assumption | exact up_at _ _ _ | (rw [up_ne (by omega)]; assumption))) (by rfl) (by first | assumption | exact up_at _ _ _ | (rw [up_ne (by omega)]; first | assumption | exact up_at _ _ _ | (rw [up_ne (by omega)]; assumption))) (by first | omega | (rw [fset_at]; omega) | (simp only [Ls_len]; omega) | assumption | exact Ls_get (by omega) (by omega) | exact up_at _ _ _ | rfl | decide) (by first | exact Ls_get (by omega) (by omega) | assumption) (by first | omega | (rw [fset_at]; omega) | (simp only [Ls_len]; omega) | assumption | exact Ls_get (by omega) (by omega) | exact up_at _ _ _ | rfl | decide) ?_
            (exfalso; omega)
          )
      · intro hc2
        first
        | (exfalso; omega)
        | (
            refine BX13_reads_34 (by first | assumption | exact up_at _ _ _ | (rw [up_ne (by omega)]; first | assumption | exact up_at _ _ _ | (rw [up_ne (by omega)]; assumption))) (by rfl) (by first | assumption | exact up_at _ _ _ | (rw [up_ne (by omega)]; first | assumption | exact up_at _ _ _ | (rw [up_ne (by omega)]; assumption))) (by first | omega | (rw [fset_at]; omega) | (simp only [Ls_len]; omega) | assumption | exact Ls_get (by omega) (by omega) | exact up_at _ _ _ | rfl | decide) (by first | omega | (rw [fset_at]; omega) | (simp only [Ls_len]; omega) | assumption | exact Ls_get (by omega) (by omega) | exact up_at _ _ _ | rfl | decide) (by first | omega | (rw [fset_at]; omega) | (simp only [Ls_len]; omega) | assumption | exact Ls_get (by omega) (by omega) | exact up_at _ _ _ | rfl | decide) ?_
            try rw [Ls_set (by omega)]
            refine BX13_reads_41  ?_
            exact in47 q1 q2 e0 _ _ (by omega) c66 (digM x - (e0 : Int)).toNat (e0 : Int) x (by omega) (by omega) (by omega) (by omega) hdv
          )
  have m0 := e.o
  have m13 := e.a13
  refine BX13_reads_0  ?_
  refine R_X13_isIn  ?_ ?_
  · intro w1 w2
    refine BX13_reads_8  ?_ ?_
    · intro hc1
      refine BX13_reads_15  ?_
      refine R_X13_digitsOf (by first | omega | (rw [fset_at]; omega) | (simp only [Ls_len]; omega) | assumption | exact Ls_get (by omega) (by omega) | exact up_at _ _ _ | rfl | decide) ?_
      refine BX13_reads_19 (by first | assumption | exact up_at _ _ _ | (rw [up_ne (by omega)]; first | assumption | exact up_at _ _ _ | (rw [up_ne (by omega)]; assumption))) (by rfl) (by first | assumption | exact up_at _ _ _ | (rw [up_ne (by omega)]; first | assumption | exact up_at _ _ _ | (rw [up_ne (by omega)]; assumption))) (by first | omega | (rw [fset_at]; omega) | (simp only [Ls_len]; omega) | assumption | exact Ls_get (by omega) (by omega) | exact up_at _ _ _ | rfl | decide) (by first | omega | (rw [fset_at]; omega) | (simp only [Ls_len]; omega) | assumption | exact Ls_get (by omega) (by omega) | exact up_at _ _ _ | rfl | decide) ?_
      try rw [Ls_set (by omega)]
      refine BX13_reads_27  ?_
      refine in29 (by omega) (by omega) (digM x).toNat 1 _ _ _ (fset (M 13) 0 1) _ (by decide) (by omega) (fun j j0 => ?_) e.s13
      have ej : j = 0 := by omega
      subst ej
      show fset (M 13) 0 1 0 = fset _ 0 (rsuM _ _ _ 0 _ 0 (if 0 = 0 then 1 else 0)) 0
      rw [fset_at, fset_at, rsuM_0]
      rfl
    · intro hc2
      exact absurd hc2 (by decide)
  · intro w3
    refine BX13_reads_8  ?_ ?_
    · intro hc3
      exact absurd hc3 (by decide)
    · intro hc4
      refine BX13_reads_11  ?_
      (rw [if_neg (by omega)] at k; exact k _ s)
end READS3
