/-! The reference: the drift, where it was tossed, how likely it comes, the empty places. -/
def ch3B (x l : Nat) : Bool := decide (and32 x (xor32 (shl32 1 l) (-1)) = ((x &&& (1023 ^^^ 2 ^ l) : Nat) : Int))
theorem ch3_all : (List.range 1024).all (fun x => (List.range 10).all (fun l => ch3B x l)) = true := by decide +kernel
theorem andn_at {x l : Int} (x0 : 0 ≤ x) (x1 : x ≤ 1023) (l0 : 0 ≤ l) (l1 : l ≤ 9) : and32 x (xor32 (shl32 1 l) (-1)) = ((x.toNat &&& (1023 ^^^ 2 ^ l.toNat) : Nat) : Int) := by
  have z := List.all_eq_true.mp (List.all_eq_true.mp ch3_all x.toNat (List.mem_range.mpr (by omega))) l.toNat (List.mem_range.mpr (by omega))
  unfold ch3B at z
  have z := of_decide_eq_true z
  rw [show ((x.toNat : Nat) : Int) = x by omega, show ((l.toNat : Nat) : Int) = l by omega] at z
  exact z
theorem andn_rg {x l : Int} (x0 : 0 ≤ x) (x1 : x ≤ 1023) (l0 : 0 ≤ l) (l1 : l ≤ 9) : 0 ≤ and32 x (xor32 (shl32 1 l) (-1)) ∧ and32 x (xor32 (shl32 1 l) (-1)) ≤ x := by
  rw [andn_at x0 x1 l0 l1]
  have := Nat.and_le_left (n := x.toNat) (m := 1023 ^^^ 2 ^ l.toNat)
  omega
theorem andn_tb {x l j : Int} (x0 : 0 ≤ x) (x1 : x ≤ 1023) (l0 : 0 ≤ l) (l1 : l ≤ 9) (j0 : 0 ≤ j) (j1 : j ≤ 9) : tb (and32 x (xor32 (shl32 1 l) (-1))) j = (tb x j && !decide (l = j)) := by
  rw [andn_at x0 x1 l0 l1]
  unfold tb
  rw [Int.toNat_natCast, Nat.testBit_and, Nat.testBit_xor, Nat.testBit_two_pow, show (1023 : Nat) = 2 ^ 10 - 1 from rfl, Nat.testBit_two_pow_sub_one, decide_eq_true (show j.toNat < 10 by omega), Bool.true_xor, decide_eq_decide.mpr (show l.toNat = j.toNat ↔ l = j by omega)]
section DRIFT
variable {d bc bs n : Nat} {g h : aH} {Q : aQ} {W V : Int → Int → Int} {X : Int → Tx} {F B : Int → Int} {wr cm : Int}
theorem R_X13_drifted {p f m : Int} (s : IsMo g h W V X F B wr cm) (hc : okCu (W 6)) (p0 : 0 ≤ p) (p1 : p ≤ 9) (f0 : 0 ≤ f) (f1 : f ≤ 1000) (m1 : m ≤ 1000) (k : Q (some (vI (drift (W 6) (W 1 73 + f) m.toNat p))) h n) : Rn (d + 1) bc bs mX13_drifted 0 [some (vR (some 301)), some (vI p), some (vI f), some (vI m), none, none] [] h n Q := by
  obtain ⟨M, e, ⟨⟨ts, te, ty, ⟨t1, t2, t3⟩, tp⟩, tb⟩, ⟨tv, tvb⟩, tx, ⟨⟨tt1, tt2, tt3⟩, tt4⟩, wr0, cm0, on⟩ := id s; obtain ⟨on1, on2, on3, on4, on5, on6, on7, on8⟩ := id on; have tt : tTp M F := ⟨⟨tt1, tt2, tt3⟩, tt4⟩; have m0 := e.o; have m1 := e.a1; have m2 := e.a2; have m3 := e.a3; have m4 := e.a4; have ts1 := ts.1; obtain ⟨te1, te2, te3, te4⟩ := id te; obtain ⟨⟨ty1, ty2, ty3, ty4, ty5⟩, ty6, ty7, ty8, ty9⟩ := id ty
  have loop : ∀ (j i : Nat), i + j = m.toNat → Rn (d + 1) bc bs mX13_drifted 6 [some (vR (some 301)), some (vI p), some (vI f), some (vI m), some (vI (drift (W 6) (W 1 73 + f) i p)), some (vI (i : Int))] [] h n Q := by
    intro j
    induction j with
    | zero =>
      intro i hi
      have e9 : i = m.toNat := by omega
      refine BX13_drifted_6  ?_ ?_
      · intro hc1
        first
        | (exfalso; omega)
        | (
            refine BX13_drifted_38  ?_
            (rw [e9]; exact k)
          )
      · intro hc2
        first
        | (exfalso; omega)
        | (
            (exfalso; omega)
          )
    | succ j ih =>
      intro i hi
      have dp := drift_ok hc (t := W 1 73 + f) (p := p) ⟨p0, p1⟩ i
      have ih1 := ih (i + 1) (by omega)
      rw [drift, ← te1] at ih1
      rw [← te1] at dp ⊢
      refine BX13_drifted_6  ?_ ?_
      · intro hc1
        first
        | (exfalso; omega)
        | (
            refine BX13_drifted_38  ?_
            (exfalso; omega)
          )
      · intro hc2
        first
        | (exfalso; omega)
        | (
            refine BX13_drifted_12 (by first | assumption | exact up_at _ _ _ | (rw [up_ne (by omega)]; first | assumption | exact up_at _ _ _ | (rw [up_ne (by omega)]; assumption))) (by rfl) (by first | assumption | exact up_at _ _ _ | (rw [up_ne (by omega)]; first | assumption | exact up_at _ _ _ | (rw [up_ne (by omega)]; assumption))) (by first | exact Ls_get (by omega) (by omega) | assumption) (by first | omega | (rw [fset_at]; omega) | (simp only [Ls_len]; omega) | assumption | exact Ls_get (by omega) (by omega) | exact up_at _ _ _ | rfl | decide) (by first | omega | (rw [fset_at]; omega) | (simp only [Ls_len]; omega) | assumption | exact Ls_get (by omega) (by omega) | exact up_at _ _ _ | rfl | decide) ?_
            refine R_X13_flowsTo (by first | omega | (rw [fset_at]; omega) | (simp only [Ls_len]; omega) | assumption | exact Ls_get (by omega) (by omega) | exact up_at _ _ _ | rfl | decide) (by first | omega | (rw [fset_at]; omega) | (simp only [Ls_len]; omega) | assumption | exact Ls_get (by omega) (by omega) | exact up_at _ _ _ | rfl | decide) (by first | omega | (rw [fset_at]; omega) | (simp only [Ls_len]; omega) | assumption | exact Ls_get (by omega) (by omega) | exact up_at _ _ _ | rfl | decide) (by first | omega | (rw [fset_at]; omega) | (simp only [Ls_len]; omega) | assumption | exact Ls_get (by omega) (by omega) | exact up_at _ _ _ | rfl | decide) ?_
            refine BX13_drifted_30 (by first | omega | (rw [fset_at]; omega) | (simp only [Ls_len]; omega) | assumption | exact Ls_get (by omega) (by omega) | exact up_at _ _ _ | rfl | decide) ?_
            exact ih1
          )
  refine BX13_drifted_0  ?_
  exact loop m.toNat 0 (by omega)
theorem M_drift {p m : Int} (s : IsMo g h W V X F B wr cm) (ok : okW W) (k : ∀ h1, IsMo g h1 W V X F B wr cm → Q (some (vI (aDrift W p m))) h1 n) : Rn (d + 30) bc bs mX13_drift 0 [some (vR (some 301)), some (vI p), some (vI m)] [] h n Q := by
  have hc : okCu (W 6) := ok.1.2.2
  unfold aDrift at k
  obtain ⟨M, e, ⟨⟨ts, te, ty, ⟨t1, t2, t3⟩, tp⟩, tb⟩, ⟨tv, tvb⟩, tx, ⟨⟨tt1, tt2, tt3⟩, tt4⟩, wr0, cm0, on⟩ := id s; obtain ⟨on1, on2, on3, on4, on5, on6, on7, on8⟩ := id on; have tt : tTp M F := ⟨⟨tt1, tt2, tt3⟩, tt4⟩; have m0 := e.o; have m1 := e.a1; have m2 := e.a2; have m3 := e.a3; have m4 := e.a4; have ts1 := ts.1; obtain ⟨te1, te2, te3, te4⟩ := id te; obtain ⟨⟨ty1, ty2, ty3, ty4, ty5⟩, ty6, ty7, ty8, ty9⟩ := id ty
  refine BX13_drift_0  ?_
  refine R_X13_isPlace  ?_ ?_
  · intro w1 w2
    refine BX13_drift_4  ?_ ?_
    · intro hc1
      exact absurd hc1 (by decide)
    · intro hc2
      refine BX13_drift_7  ?_
      refine R_X13_isIn  ?_ ?_
      · intro w1 w2
        refine BX13_drift_14  ?_ ?_
        · intro hc3
          exact absurd hc3 (by decide)
        · intro hc4
          refine BX13_drift_17 (by first | assumption | exact up_at _ _ _ | (rw [up_ne (by omega)]; first | assumption | exact up_at _ _ _ | (rw [up_ne (by omega)]; assumption))) ?_
          refine R_X13_drifted (by first | omega | (rw [fset_at]; omega) | (simp only [Ls_len]; omega) | assumption | exact Ls_get (by omega) (by omega) | exact up_at _ _ _ | rfl | decide) (by first | omega | (rw [fset_at]; omega) | (simp only [Ls_len]; omega) | assumption | exact Ls_get (by omega) (by omega) | exact up_at _ _ _ | rfl | decide) (by first | omega | (rw [fset_at]; omega) | (simp only [Ls_len]; omega) | assumption | exact Ls_get (by omega) (by omega) | exact up_at _ _ _ | rfl | decide) (by first | omega | (rw [fset_at]; omega) | (simp only [Ls_len]; omega) | assumption | exact Ls_get (by omega) (by omega) | exact up_at _ _ _ | rfl | decide) (by first | omega | (rw [fset_at]; omega) | (simp only [Ls_len]; omega) | assumption | exact Ls_get (by omega) (by omega) | exact up_at _ _ _ | rfl | decide) (by first | omega | (rw [fset_at]; omega) | (simp only [Ls_len]; omega) | assumption | exact Ls_get (by omega) (by omega) | exact up_at _ _ _ | rfl | decide) (by first | omega | (rw [fset_at]; omega) | (simp only [Ls_len]; omega) | assumption | exact Ls_get (by omega) (by omega) | exact up_at _ _ _ | rfl | decide) ?_
          refine BX13_drift_24  ?_
          (rw [if_pos (by omega)] at k; rw [Int.add_zero]; exact k _ s)
      · intro w3
        refine BX13_drift_14  ?_ ?_
        · intro hc5
          refine BX13_drift_27  ?_
          (rw [if_neg (by omega)] at k; exact k _ s)
        · intro hc6
          exact absurd hc6 (by decide)
  · intro w3
    refine BX13_drift_4  ?_ ?_
    · intro hc7
      refine BX13_drift_27  ?_
      (rw [if_neg (by omega)] at k; exact k _ s)
    · intro hc8
      exact absurd hc8 (by decide)
theorem allN_fs {f : Int → Bool} (m k : Nat) (hk : allN f k = false) : allN f (k + m) = false := by
  induction m with
  | zero => exact hk
  | succ m ih => show (allN f (k + m) && f _) = false; rw [ih]; rfl
theorem R_X13_isFrom {p t : Int} (s : IsMo g h W V X F B wr cm) (ok : okW W) (p0 : 0 ≤ p) (p1 : p ≤ 9) (q0 : 0 ≤ t) (q1 : t ≤ 2) (kt : fitB W p t = true → Q (some (vI 1)) h n) (kf : fitB W p t = false → Q (some (vI 0)) h n) : Rn (d + 1) bc bs mX13_isFrom 0 [some (vR (some 301)), some (vI p), some (vI t), none, none, none] [] h n Q := by
  have hc : okCu (W 6) := ok.1.2.2
  have hY : ∀ i, 0 ≤ i → i < W 2 52 → 0 ≤ W 2 (6 + i) ∧ W 2 (6 + i) ≤ 60 := fun i i0 i1 => by have := ok.2.2.2.2.2.2.2.2.1 i i0 i1; omega
  unfold fitB at kt kf
  obtain ⟨M, e, ⟨⟨ts, te, ty, ⟨t1, t2, t3⟩, tp⟩, tb⟩, ⟨tv, tvb⟩, tx, ⟨⟨tt1, tt2, tt3⟩, tt4⟩, wr0, cm0, on⟩ := id s; obtain ⟨on1, on2, on3, on4, on5, on6, on7, on8⟩ := id on; have tt : tTp M F := ⟨⟨tt1, tt2, tt3⟩, tt4⟩; have m0 := e.o; have m1 := e.a1; have m2 := e.a2; have m3 := e.a3; have m4 := e.a4; have ts1 := ts.1; obtain ⟨te1, te2, te3, te4⟩ := id te; obtain ⟨⟨ty1, ty2, ty3, ty4, ty5⟩, ty6, ty7, ty8, ty9⟩ := id ty
  have in18 : ∀ (K : Nat), (K : Int) < W 2 52 → (∀ l4 : Int, Rn (d + 1) bc bs mX13_isFrom 54 [some (vR (some 301)), some (vI p), some (vI t), some (vI (K : Int)), some (vI (drift (W 6) t (W 2 (6 + K)).toNat p)), some (vI l4)] [] h n Q) → ∀ (j i : Nat), i + j = (W 2 (6 + K)).toNat → Rn (d + 1) bc bs mX13_isFrom 18 [some (vR (some 301)), some (vI p), some (vI t), some (vI (K : Int)), some (vI (drift (W 6) t i p)), some (vI (i : Int))] [] h n Q := by
    intro K K1 C j
    have y1 := hY K (by omega) K1
    have y2 := ty6 K (by omega) K1
    induction j with
    | zero =>
      intro i hi
      have e9 : i = (W 2 (6 + K)).toNat := by omega
      rw [e9]
      refine BX13_isFrom_18 (by first | assumption | exact up_at _ _ _ | (rw [up_ne (by omega)]; first | assumption | exact up_at _ _ _ | (rw [up_ne (by omega)]; assumption))) (by rfl) (by first | omega | (rw [fset_at]; omega) | (simp only [Ls_len]; omega) | assumption | exact Ls_get (by omega) (by omega) | exact up_at _ _ _ | rfl | decide) (by first | omega | (rw [fset_at]; omega) | (simp only [Ls_len]; omega) | assumption | exact Ls_get (by omega) (by omega) | exact up_at _ _ _ | rfl | decide) (by first | omega | (rw [fset_at]; omega) | (simp only [Ls_len]; omega) | assumption | exact Ls_get (by omega) (by omega) | exact up_at _ _ _ | rfl | decide) (by first | assumption | exact up_at _ _ _ | (rw [up_ne (by omega)]; first | assumption | exact up_at _ _ _ | (rw [up_ne (by omega)]; assumption))) (by first | omega | (rw [fset_at]; omega) | (simp only [Ls_len]; omega) | assumption | exact Ls_get (by omega) (by omega) | exact up_at _ _ _ | rfl | decide) (by first | exact Ls_get (by omega) (by omega) | assumption) ?_ ?_
      · intro hc1
        first
        | (exfalso; omega)
        | (
            exact C _
          )
      · intro hc2
        first
        | (exfalso; omega)
        | (
            (exfalso; omega)
          )
    | succ j ih =>
      intro i hi
      have dp := drift_ok hc (t := t) (p := p) ⟨p0, p1⟩ i
      have ih1 := ih (i + 1) (by omega)
      rw [drift] at ih1
      refine BX13_isFrom_18 (by first | assumption | exact up_at _ _ _ | (rw [up_ne (by omega)]; first | assumption | exact up_at _ _ _ | (rw [up_ne (by omega)]; assumption))) (by rfl) (by first | omega | (rw [fset_at]; omega) | (simp only [Ls_len]; omega) | assumption | exact Ls_get (by omega) (by omega) | exact up_at _ _ _ | rfl | decide) (by first | omega | (rw [fset_at]; omega) | (simp only [Ls_len]; omega) | assumption | exact Ls_get (by omega) (by omega) | exact up_at _ _ _ | rfl | decide) (by first | omega | (rw [fset_at]; omega) | (simp only [Ls_len]; omega) | assumption | exact Ls_get (by omega) (by omega) | exact up_at _ _ _ | rfl | decide) (by first | assumption | exact up_at _ _ _ | (rw [up_ne (by omega)]; first | assumption | exact up_at _ _ _ | (rw [up_ne (by omega)]; assumption))) (by first | omega | (rw [fset_at]; omega) | (simp only [Ls_len]; omega) | assumption | exact Ls_get (by omega) (by omega) | exact up_at _ _ _ | rfl | decide) (by first | exact Ls_get (by omega) (by omega) | assumption) ?_ ?_
      · intro hc1
        first
        | (exfalso; omega)
        | (
            (exfalso; omega)
          )
      · intro hc2
        first
        | (exfalso; omega)
        | (
            refine BX13_isFrom_36 (by first | omega | (rw [fset_at]; omega) | (simp only [Ls_len]; omega) | assumption | exact Ls_get (by omega) (by omega) | exact up_at _ _ _ | rfl | decide) (by first | assumption | exact up_at _ _ _ | (rw [up_ne (by omega)]; first | assumption | exact up_at _ _ _ | (rw [up_ne (by omega)]; assumption))) ?_
            refine R_X13_flowsTo (by first | omega | (rw [fset_at]; omega) | (simp only [Ls_len]; omega) | assumption | exact Ls_get (by omega) (by omega) | exact up_at _ _ _ | rfl | decide) (by first | omega | (rw [fset_at]; omega) | (simp only [Ls_len]; omega) | assumption | exact Ls_get (by omega) (by omega) | exact up_at _ _ _ | rfl | decide) (by first | omega | (rw [fset_at]; omega) | (simp only [Ls_len]; omega) | assumption | exact Ls_get (by omega) (by omega) | exact up_at _ _ _ | rfl | decide) (by first | omega | (rw [fset_at]; omega) | (simp only [Ls_len]; omega) | assumption | exact Ls_get (by omega) (by omega) | exact up_at _ _ _ | rfl | decide) ?_
            refine BX13_isFrom_46 (by first | omega | (rw [fset_at]; omega) | (simp only [Ls_len]; omega) | assumption | exact Ls_get (by omega) (by omega) | exact up_at _ _ _ | rfl | decide) ?_
            exact ih1
          )
  have in2 : ∀ (m i : Nat) (l4 l5 : Option aV), (i : Int) + m = W 2 52 → allN (fun i => decide (drift (W 6) t (W 2 (6 + i)).toNat p = W 2 i)) i = true → Rn (d + 1) bc bs mX13_isFrom 2 [some (vR (some 301)), some (vI p), some (vI t), some (vI (i : Int)), l4, l5] [] h n Q := by
    intro m
    induction m with
    | zero =>
      intro i l4 l5 hi ht
      have e9 : i = (W 2 52).toNat := by omega
      subst e9
      refine BX13_isFrom_2 (by first | assumption | exact up_at _ _ _ | (rw [up_ne (by omega)]; first | assumption | exact up_at _ _ _ | (rw [up_ne (by omega)]; assumption))) (by rfl) (by first | assumption | exact up_at _ _ _ | (rw [up_ne (by omega)]; first | assumption | exact up_at _ _ _ | (rw [up_ne (by omega)]; assumption))) (by first | exact Ls_get (by omega) (by omega) | assumption) ?_ ?_
      · intro hc1
        first
        | (exfalso; omega)
        | (
            refine BX13_isFrom_78  ?_
            exact kt ht
          )
      · intro hc2
        first
        | (exfalso; omega)
        | (
            (exfalso; omega)
          )
    | succ m ih =>
      intro i l4 l5 hi ht
      have y1 := hY i (by omega) (by omega)
      have y2 := ty6 i (by omega) (by omega)
      have st : allN (fun i => decide (drift (W 6) t (W 2 (6 + i)).toNat p = W 2 i)) (i + 1) = decide (drift (W 6) t (W 2 (6 + i)).toNat p = W 2 i) := by rw [allN, ht]; rfl
      have c54 : ∀ l4 : Int, Rn (d + 1) bc bs mX13_isFrom 54 [some (vR (some 301)), some (vI p), some (vI t), some (vI (i : Int)), some (vI (drift (W 6) t (W 2 (6 + i)).toNat p)), some (vI l4)] [] h n Q := by
        intro l4
        refine BX13_isFrom_54 (by first | assumption | exact up_at _ _ _ | (rw [up_ne (by omega)]; first | assumption | exact up_at _ _ _ | (rw [up_ne (by omega)]; assumption))) (by rfl) (by first | omega | (rw [fset_at]; omega) | (simp only [Ls_len]; omega) | assumption | exact Ls_get (by omega) (by omega) | exact up_at _ _ _ | rfl | decide) (by first | omega | (rw [fset_at]; omega) | (simp only [Ls_len]; omega) | assumption | exact Ls_get (by omega) (by omega) | exact up_at _ _ _ | rfl | decide) (by first | assumption | exact up_at _ _ _ | (rw [up_ne (by omega)]; first | assumption | exact up_at _ _ _ | (rw [up_ne (by omega)]; assumption))) (by first | omega | (rw [fset_at]; omega) | (simp only [Ls_len]; omega) | assumption | exact Ls_get (by omega) (by omega) | exact up_at _ _ _ | rfl | decide) (by first | exact Ls_get (by omega) (by omega) | assumption) ?_ ?_
        · intro hc1
          refine BX13_isFrom_72 (by first | omega | (rw [fset_at]; omega) | (simp only [Ls_len]; omega) | assumption | exact Ls_get (by omega) (by omega) | exact up_at _ _ _ | rfl | decide) ?_
          exact ih (i + 1) _ _ (by omega) (by rw [st]; exact decide_eq_true (by omega))
        · intro hc2
          refine BX13_isFrom_70  ?_
          refine kf ?_
          have z := allN_fs ((W 2 52).toNat - (i + 1)) (i + 1) (show allN (fun i => decide (drift (W 6) t (W 2 (6 + i)).toNat p = W 2 i)) (i + 1) = false by rw [st]; exact decide_eq_false (by omega))
          rw [show i + 1 + ((W 2 52).toNat - (i + 1)) = (W 2 52).toNat by omega] at z
          exact z
      refine BX13_isFrom_2 (by first | assumption | exact up_at _ _ _ | (rw [up_ne (by omega)]; first | assumption | exact up_at _ _ _ | (rw [up_ne (by omega)]; assumption))) (by rfl) (by first | assumption | exact up_at _ _ _ | (rw [up_ne (by omega)]; first | assumption | exact up_at _ _ _ | (rw [up_ne (by omega)]; assumption))) (by first | exact Ls_get (by omega) (by omega) | assumption) ?_ ?_
      · intro hc1
        refine BX13_isFrom_78  ?_
        (exfalso; omega)
      · intro hc2
        refine BX13_isFrom_12  ?_
        exact in18 i (by omega) c54 _ 0 (Nat.zero_add _)
  refine BX13_isFrom_0  ?_
  exact in2 (W 2 52).toNat 0 _ _ (by omega) rfl
theorem M_tossed {u : Int} (s : IsMo g h W V X F B wr cm) (ok : okW W) (k : ∀ h1, IsMo g h1 W V X F B wr cm → Q (some (vI (aTossed W u))) h1 n) : Rn (d + 30) bc bs mX13_tossed 0 [some (vR (some 301)), some (vI u), none, none, none, none] [] h n Q := by
  obtain ⟨M, e, ⟨⟨ts, te, ty, ⟨t1, t2, t3⟩, tp⟩, tb⟩, ⟨tv, tvb⟩, tx, ⟨⟨tt1, tt2, tt3⟩, tt4⟩, wr0, cm0, on⟩ := id s; obtain ⟨on1, on2, on3, on4, on5, on6, on7, on8⟩ := id on; have tt : tTp M F := ⟨⟨tt1, tt2, tt3⟩, tt4⟩; have m0 := e.o; have m1 := e.a1; have m2 := e.a2; have m3 := e.a3; have m4 := e.a4; have ts1 := ts.1; obtain ⟨te1, te2, te3, te4⟩ := id te; obtain ⟨⟨ty1, ty2, ty3, ty4, ty5⟩, ty6, ty7, ty8, ty9⟩ := id ty
  have k1 := k h s
  clear k
  unfold aTossed at k1
  have hs := sumN_ge (f := fitN W) (fun i => cnt_ge (fitB W i) 3)
  have inner : ∀ (m j i : Nat) , j + m = 3 → i < 10 → (Rn (d + 30) bc bs mX13_tossed 18 [some (vR (some 301)), some (vI u), some (vI (bits (fun p => decide (fitN W p ≠ 0)) (i + 1))), some (vI (sumN (fitN W) (i + 1))), some (vI ((i : Int) + 1)), some (vI 3)] [] h n Q) → Rn (d + 30) bc bs mX13_tossed 28 [some (vR (some 301)), some (vI u), some (vI (bits (fun p => decide (fitN W p ≠ 0)) i + (if cnt (fitB W i) j = 0 then 0 else 2 ^ i))), some (vI (sumN (fitN W) i + cnt (fitB W i) j)), some (vI i), some (vI j)] [] h n Q := by
    intro m
    induction m with
    | zero =>
      intro j i hj hi K
      have e : j = 3 := by omega
      subst e
      have hs1 := hs i
      have c3 := cnt_ge (fitB W i) 3
      rw [bits, sumN] at K
      rw [show cnt (fitB W i) 3 = fitN W i from rfl] at c3 ⊢
      refine BX13_tossed_28  ?_ ?_
      · intro hc1
        first
        | (exfalso; omega)
        | (
            refine BX13_tossed_64 (by first | omega | (rw [fset_at]; omega) | (simp only [Ls_len]; omega) | assumption | exact Ls_get (by omega) (by omega) | exact up_at _ _ _ | rfl | decide) ?_
            by_cases q : fitN W i = 0
            · rw [if_pos q]; rw [if_neg (by simpa using q)] at K; exact K
            · rw [if_neg q]; rw [if_pos (by simpa using q)] at K; exact K
          )
      · intro hc2
        first
        | (exfalso; omega)
        | (
            (exfalso; omega)
          )
    | succ m ih =>
      intro j i hj hi K
      have ih1 := ih (j + 1) i (by omega) hi K
      have hs1 := hs i
      have c3 := cnt_ge (fitB W i) j
      have b3 := bits_lt (fun p => decide (fitN W p ≠ 0)) i
      have p3 := pow2_le (show i ≤ 9 by omega)
      have p9 : (2 : Int) ^ 9 = 512 := by decide
      have p0 := pow2_pos i
      rw [cnt] at ih1
      refine BX13_tossed_28  ?_ ?_
      · intro hc1
        (exfalso; omega)
      · intro hc2
        refine BX13_tossed_34 (by first | assumption | exact up_at _ _ _ | (rw [up_ne (by omega)]; first | assumption | exact up_at _ _ _ | (rw [up_ne (by omega)]; assumption))) ?_
        refine R_X13_isFrom (by first | omega | (rw [fset_at]; omega) | (simp only [Ls_len]; omega) | assumption | exact Ls_get (by omega) (by omega) | exact up_at _ _ _ | rfl | decide) (by first | omega | (rw [fset_at]; omega) | (simp only [Ls_len]; omega) | assumption | exact Ls_get (by omega) (by omega) | exact up_at _ _ _ | rfl | decide) (by first | omega | (rw [fset_at]; omega) | (simp only [Ls_len]; omega) | assumption | exact Ls_get (by omega) (by omega) | exact up_at _ _ _ | rfl | decide) (by first | omega | (rw [fset_at]; omega) | (simp only [Ls_len]; omega) | assumption | exact Ls_get (by omega) (by omega) | exact up_at _ _ _ | rfl | decide) (by first | omega | (rw [fset_at]; omega) | (simp only [Ls_len]; omega) | assumption | exact Ls_get (by omega) (by omega) | exact up_at _ _ _ | rfl | decide) (by first | omega | (rw [fset_at]; omega) | (simp only [Ls_len]; omega) | assumption | exact Ls_get (by omega) (by omega) | exact up_at _ _ _ | rfl | decide) ?_ ?_
        · intro w1
          refine BX13_tossed_42  ?_ ?_
          · intro hc3
            refine BX13_tossed_48 (by first | omega | (rw [fset_at]; omega) | (simp only [Ls_len]; omega) | assumption | exact Ls_get (by omega) (by omega) | exact up_at _ _ _ | rfl | decide) (by first | omega | (rw [fset_at]; omega) | (simp only [Ls_len]; omega) | assumption | exact Ls_get (by omega) (by omega) | exact up_at _ _ _ | rfl | decide) ?_
            first
            | (exfalso; omega)
            | (rw [if_neg (show ¬ fitB W i j = true by rw [show fitB W i j = false from w1]; decide), Int.add_zero] at ih1
               exact ih1)
            | (rw [if_pos (show fitB W i j = true from w1), if_neg (by omega), ← Int.add_assoc] at ih1
               by_cases q : cnt (fitB W i) j = 0
               · rw [if_pos q, Int.add_zero, or_bit b3.1 b3.2 (by omega)]; exact ih1
               · rw [if_neg q, bits_or (by omega)]; exact ih1)
          · intro hc4
            exact absurd hc4 (by decide)
        · intro w1
          refine BX13_tossed_42  ?_ ?_
          · intro hc5
            exact absurd hc5 (by decide)
          · intro hc6
            refine BX13_tossed_45 (by first | omega | (rw [fset_at]; omega) | (simp only [Ls_len]; omega) | assumption | exact Ls_get (by omega) (by omega) | exact up_at _ _ _ | rfl | decide) ?_
            first
            | (exfalso; omega)
            | (rw [if_neg (show ¬ fitB W i j = true by rw [show fitB W i j = false from w1]; decide), Int.add_zero] at ih1
               exact ih1)
            | (rw [if_pos (show fitB W i j = true from w1), if_neg (by omega), ← Int.add_assoc] at ih1
               by_cases q : cnt (fitB W i) j = 0
               · rw [if_pos q, Int.add_zero, or_bit b3.1 b3.2 (by omega)]; exact ih1
               · rw [if_neg q, bits_or (by omega)]; exact ih1)
  have outer : 0 ≤ u → u ≤ 1 → ∀ (m i : Nat) (l5 : Option aV), i + m = 10 → Rn (d + 30) bc bs mX13_tossed 18 [some (vR (some 301)), some (vI u), some (vI (bits (fun p => decide (fitN W p ≠ 0)) i)), some (vI (sumN (fitN W) i)), some (vI i), l5] [] h n Q := by
    intro hw0 hw1 m
    induction m with
    | zero =>
      intro i l5 hi
      have e : i = 10 := by omega
      subst e
      refine BX13_tossed_18  ?_ ?_
      · intro hc1
        refine BX13_tossed_70  ?_ ?_
        · intro hc2
          refine BX13_tossed_78  ?_
          first | (exfalso; omega) | (rw [if_pos (by assumption)] at k1; exact k1) | (rw [if_neg (by assumption), if_pos (by omega)] at k1; exact k1)
        · intro hc3
          refine BX13_tossed_74  ?_
          first | (exfalso; omega) | (rw [if_pos (by assumption)] at k1; exact k1) | (rw [if_neg (by assumption), if_pos (by omega)] at k1; exact k1)
      · intro hc4
        (exfalso; omega)
    | succ m ih =>
      intro i l5 hi
      have in1 := inner 3 0 i (by omega) (by omega) (ih (i + 1) (some (vI 3)) (by omega))
      rw [show cnt (fitB W i) 0 = 0 from rfl, if_pos rfl, Int.add_zero, Int.add_zero] at in1
      refine BX13_tossed_18  ?_ ?_
      · intro hc1
        first
        | (exfalso; omega)
        | (
            (exfalso; omega)
          )
      · intro hc2
        first
        | (exfalso; omega)
        | (
            refine BX13_tossed_25  ?_
            exact in1
          )
  refine BX13_tossed_0  ?_
  refine R_X13_isIn  ?_ ?_
  · intro w1 w2
    refine BX13_tossed_6  ?_ ?_
    · intro hc1
      refine BX13_tossed_11  ?_
      exact outer (by omega) (by omega) 10 0 none (by omega)
    · intro hc2
      exact absurd hc2 (by decide)
  · intro w3
    refine BX13_tossed_6  ?_ ?_
    · intro hc3
      exact absurd hc3 (by decide)
    · intro hc4
      refine BX13_tossed_9  ?_
      (rw [if_neg (by omega), if_neg (by omega)] at k1; exact k1)
end DRIFT
