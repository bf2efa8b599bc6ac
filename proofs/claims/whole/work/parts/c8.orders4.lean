/-! Orders: the reference. -/
def ndM (Y : Int → Int) (ff tt all : Int) : Nat → Int := fun l => ahdM Y ff tt all l
theorem pop_lt : ∀ n : Nat, n ≤ 8 → ∀ s : Nat, s < 2 ^ n - 1 → popN 8 s < n := by decide +kernel
theorem pop_all : ∀ n : Nat, n ≤ 8 → popN 8 (2 ^ n - 1) = n := by decide +kernel
theorem pop_pos : ∀ s : Nat, s < 256 → 0 < s → 0 < popN 8 s := by decide +kernel
theorem allM_eq : ∀ n : Nat, n ≤ 8 → allM n = ((2 ^ n - 1 : Nat) : Int) := by decide +kernel
theorem ordB_eq {Y : Int → Int} {ff tt all e : Int} {i : Nat} (e0 : 0 ≤ e) (e1 : e < 256) (i8 : i < 8) : ordB Y ff tt all e i = (inB e i && okB (ndM Y ff tt all) i (othM e i)) := by
  cases h : inB e i with
  | true =>
    have t := in_y e0 e1 i8 h
    rw [Bool.true_and]
    unfold ordB okB ndM
    exact decide_eq_decide.mpr ⟨fun q => q.2.2, fun q => ⟨t.1, t.2.1, q⟩⟩
  | false =>
    have t := in_n e0 e1 i8 h
    rw [Bool.false_and]
    exact decide_eq_false fun q => by omega
theorem osuM_eq {Y f : Int → Int} {ff tt all : Int} {e : Int} (e0 : 0 ≤ e) (e1 : e < 256) : ∀ (m i : Nat) (a : Int), i + m ≤ 8 → osuM Y f ff tt all e m i (a + sumL i (fun l => if (inB e l && okB (ndM Y ff tt all) l (othM e l)) = true then f (othM e l) else 0)) = a + sumL (i + m) (fun l => if (inB e l && okB (ndM Y ff tt all) l (othM e l)) = true then f (othM e l) else 0) := by
  intro m
  induction m with
  | zero => intro i a _; rfl
  | succ m ih =>
    intro i a h8
    unfold osuM
    rw [ordB_eq e0 e1 (by omega)]
    have z := ih (i + 1) a (by omega)
    rw [show ((i + 1 : Nat) : Int) = (i : Int) + 1 by omega] at z
    rw [show i + (m + 1) = i + 1 + m by omega, ← z]
    congr 1
    show _ = a + (sumL i _ + (if (inB e i && okB (ndM Y ff tt all) i (othM e i)) = true then f (othM e i) else 0))
    by_cases q : (inB e i && okB (ndM Y ff tt all) i (othM e i)) = true
    · rw [if_pos q, if_pos q]; omega
    · rw [if_neg q, if_neg q]; omega
theorem orvM_eq {Y : Int → Int} {ff tt all : Int} {n : Nat} (n8 : n ≤ 8) : ∀ (m j : Nat), m ≤ 256 → j < m → orvM Y ff tt all n m j = pN (ndM Y ff tt all) n (popN 8 j) 0 j := by
  intro m
  induction m with
  | zero => intro j _ h; omega
  | succ m ih =>
    intro j m1 hj
    unfold orvM
    by_cases q : j = m
    · subst q
      rw [fset_at]
      have z := osuM_eq (Y := Y) (f := orvM Y ff tt all n j) (ff := ff) (tt := tt) (all := all) (e := j) (by omega) (by omega) n 0 (if j = 0 then 1 else 0) (by omega)
      rw [show (if j = 0 then (1 : Int) else 0) + sumL 0 (fun l => if (inB j l && okB (ndM Y ff tt all) l (othM j l)) = true then orvM Y ff tt all n j (othM j l) else 0) = if j = 0 then 1 else 0 from Int.add_zero _, Nat.zero_add] at z
      rw [show ((0 : Nat) : Int) = 0 from rfl] at z
      rw [z]
      by_cases j0 : j = 0
      · subst j0
        rw [if_pos rfl]
        have e : sumL n (fun l => if (inB ((0 : Nat) : Int) l && okB (ndM Y ff tt all) l (othM ((0 : Nat) : Int) l)) = true then orvM Y ff tt all n 0 (othM ((0 : Nat) : Int) l) else 0) = 0 := by
          refine (sumL_ext n fun l hl => ?_).trans (sumL_0 n)
          have i0 : inB ((0 : Nat) : Int) l = false := by
            cases h : inB ((0 : Nat) : Int) l with
            | false => rfl
            | true => have := in_y (s := ((0 : Nat) : Int)) (by decide) (by decide) (show l < 8 by omega) h; omega
          try dsimp only
          rw [i0]
          exact if_neg (by simp)
        rw [e]
        rfl
      · rw [if_neg j0, Int.zero_add]
        have pp := pop_pos j (by omega) (by omega)
        obtain ⟨p, hp⟩ : ∃ p, popN 8 j = p + 1 := ⟨popN 8 j - 1, by omega⟩
        rw [hp, pN_last n8 p 0 j (by decide) (by decide) (by omega) (by omega)]
        refine sumL_ext n fun l hl => ?_
        try dsimp only
        cases h : inB (j : Int) l with
        | false => rw [if_neg (by simp), if_neg (by simp)]
        | true =>
          have t := in_y (s := (j : Int)) (by omega) (by omega) (show l < 8 by omega) h
          rw [Int.toNat_natCast] at t
          have z2 := ih (othM j l).toNat (by omega) (by omega)
          rw [show (((othM j l).toNat : Nat) : Int) = othM j l by omega, show popN 8 (othM j l).toNat = p by omega] at z2
          rw [z2]
    · rw [fset_ne (by omega)]
      exact ih j (by omega) (by omega)
theorem ordM_eq {Y : Int → Int} {ff tt : Int} {n : Nat} (n8 : n ≤ 8) : ordM Y n ff tt = pN (ndM Y ff tt (allM n)) n n 0 (allM n) := by
  unfold ordM
  have a := allM_eq n n8
  have a2 := allM_bd n n8
  have p2 := pop_all n n8
  have z := orvM_eq (Y := Y) (ff := ff) (tt := tt) (all := allM n) n8 ((allM n).toNat + 1) (allM n).toNat (by omega) (by omega)
  rw [show (((allM n).toNat : Nat) : Int) = allM n by omega, show (allM (n : Int)).toNat = 2 ^ n - 1 by omega, p2] at z
  rw [Int.toNat_natCast, show (allM (n : Int)).toNat + 1 = (2 ^ n - 1) + 1 by omega]
  exact z
/-- what the reference keeps of one that has had -/
def bN (Y : Int → Int) (ff tt all : Int) (n : Nat) (j : Int) : Int := pN (ndM Y ff tt all) n (n - popN 8 j.toNat) j all
theorem bN_b {Y : Int → Int} {ff tt all j : Int} {n : Nat} (n8 : n ≤ 8) : 0 ≤ bN Y ff tt all n j ∧ bN Y ff tt all n j ≤ 16777216 := by
  have z := pN_b (nd := ndM Y ff tt all) n8 (n - popN 8 j.toNat) j all
  have e : ∀ m : Nat, m ≤ 8 → pw8 m ≤ 16777216 := by decide
  have := e (n - popN 8 j.toNat) (by omega)
  unfold bN
  omega
theorem tb_all : ∀ n : Nat, n ≤ 8 → ∀ j : Nat, j < n → tb (allM n) j = true := by decide +kernel
theorem needs_eq {Y : Int → Int} {ff tt : Int} {n l : Nat} (n8 : n ≤ 8) (y0 : 0 ≤ Y (28 + l) ∧ Y (28 + l) ≤ 255) (f : ff = -1 ∨ (0 ≤ ff ∧ ff < n)) : and32 (or32 (Y (28 + l)) (if (l : Int) = tt ∧ ff ≠ -1 then shl32 1 ff else 0)) (allM n) = ndM Y ff tt (allM n) l := by
  have a := allM_bd n n8
  have e8 : (2 : Int) ^ 8 = 256 := by decide
  unfold ndM ahdM
  by_cases q : (l : Int) = tt ∧ ff ≠ -1
  · rw [if_pos q, if_pos (by omega)]
    have f0 : 0 ≤ ff := by omega
    have sr := shl1_rg (i := ff) (k := 8) (by decide) f0 (by omega)
    have o1 := or32_rg (x := Y (28 + l)) (y := shl32 1 ff) (k := 8) (by decide) y0.1 (by omega) sr.1 sr.2
    have ar : ∀ x, 0 ≤ x → x ≤ 255 → 0 ≤ and32 x (allM n) ∧ and32 x (allM n) ≤ 255 := fun x x0 x1 => by
      rw [and32_nat x0 (by omega) a.1 (by omega)]
      have := Nat.and_le_left (n := x.toNat) (m := (allM n).toNat)
      omega
    have r1 := ar (or32 (Y (28 + l)) (shl32 1 ff)) o1.1 (by omega)
    have r2 := ar (Y (28 + l)) y0.1 y0.2
    have r3 := or32_rg (x := and32 (Y (28 + l)) (allM n)) (y := shl32 1 ff) (k := 8) (by decide) r2.1 (by omega) sr.1 sr.2
    refine int_ext (k := 8) r1.1 (by omega) r3.1 r3.2 (fun j j0 j1 => ?_)
    rw [tb_and2 o1.1 (by omega) a.1 (by omega), tb_orb y0.1 (by omega) f0 (by omega) j0, tb_orb r2.1 (by omega) f0 (by omega) j0, tb_and2 y0.1 (by omega) a.1 (by omega)]
    by_cases w : ff = j
    · have ta := tb_all n n8 j.toNat (by omega)
      rw [show ((j.toNat : Nat) : Int) = j by omega] at ta
      rw [ta, decide_eq_true w, Bool.or_true, Bool.or_true, Bool.and_true]
    · rw [decide_eq_false w, Bool.or_false, Bool.or_false]
  · rw [if_neg q, if_neg (by omega), or32_zero y0.1 (by omega)]
theorem bN_s {Y : Int → Int} {ff tt : Int} {n : Nat} {j : Int} (n8 : n ≤ 8) (j0 : 0 ≤ j) (j1 : j < allM n) : bN Y ff tt (allM n) n j = sumL n (fun l => if (!inB j l && okB (ndM Y ff tt (allM n)) l j) = true then bN Y ff tt (allM n) n (or32 j (shl32 1 l)) else 0) := by
  have a := allM_eq n n8
  have a2 := allM_bd n n8
  have p := pop_lt n n8 j.toNat (by omega)
  unfold bN
  obtain ⟨u, hu⟩ : ∃ u, n - popN 8 j.toNat = u + 1 := ⟨n - popN 8 j.toNat - 1, by omega⟩
  rw [hu]
  refine sumL_ext n fun l hl => ?_
  try dsimp only
  cases h : inB j l with
  | true => rw [if_neg (by simp), if_neg (by simp)]
  | false =>
    have t := in_n (s := j) j0 (by omega) (show l < 8 by omega) h
    rw [show n - popN 8 (or32 j (shl32 1 l)).toNat = u by omega]
theorem bN_all {Y : Int → Int} {ff tt : Int} {n : Nat} (n8 : n ≤ 8) : bN Y ff tt (allM n) n (allM n) = 1 := by
  have a := allM_eq n n8
  have a2 := allM_bd n n8
  have p := pop_all n n8
  unfold bN
  rw [show (allM (n : Int)).toNat = 2 ^ n - 1 by omega, p, Nat.sub_self]
  exact if_pos rfl
theorem bN_0 {Y : Int → Int} {ff tt : Int} {n : Nat} (n8 : n ≤ 8) : bN Y ff tt (allM n) n 0 = ordM Y n ff tt := by
  rw [ordM_eq n8]
  rfl
section ORDERS4
variable {d bc bs n : Nat} {g h : aH} {Q : aQ} {W V : Int → Int → Int} {X : Int → Tx} {F B : Int → Int} {wr cm : Int} {M : Int → Int → Int}
theorem R_X13_countOrders {x ff tt : Int} {l4 l5 l6 l7 : Option aV} (s : IsMo g h W V X F B wr cm) (ok : okW W) (x0 : 0 ≤ x) (x1 : x ≤ 8) (hf : ff = -1 ∨ (0 ≤ ff ∧ ff < x)) (k : ∀ h1, IsMo g h1 W V X F B wr cm → Q (some (vL (ordM (W 2) x ff tt))) h1 n) : Rn (d + 2) bc bs mX13_countOrders 0 [some (vR (some 301)), some (vI x), some (vI ff), some (vI tt), l4, l5, l6, l7] [] h n Q := by
  obtain ⟨N, hN⟩ : ∃ N : Nat, x = N := ⟨x.toNat, by omega⟩
  subst hN
  have n8 : N ≤ 8 := by omega
  have ax := allM_bd N n8
  have y9 : ∀ i, 0 ≤ i → i < 8 → 0 ≤ W 2 (28 + i) ∧ W 2 (28 + i) ≤ 255 := fun i i0 i1 => (ok.2.2.2.2.2.2.2.2.2.2.1 i i0 i1).2
  obtain ⟨M, e, t⟩ := id s
  have ty8 := t.1.1.2.2.1.2.2.2.1
  have in37 : ∀ (j : Int), 0 ≤ j → j < allM N → ∀ (m i : Nat) (a : Int) (l7 : Option aV) (R : Int → Int) (h1 : aH), i + m = N → (∀ u, j < u → u ≤ allM N → R u = bN (W 2) ff tt (allM N) N u) → R j = a → a = sumL i (fun l => if (!inB j l && okB (ndM (W 2) ff tt (allM N)) l j) = true then bN (W 2) ff tt (allM N) N (or32 j (shl32 1 l)) else 0) → IsM g h1 (fset M 15 R) → (∀ h2 R2 (x6 : Int) l7, IsM g h2 (fset M 15 R2) → (∀ u, j < u → R2 u = R u) → R2 j = bN (W 2) ff tt (allM N) N j → Rn (d + 2) bc bs mX13_countOrders 126 [some (vR (some 301)), some (vI (N : Int)), some (vI ff), some (vI tt), some (vI (allM N)), some (vI j), some (vI x6), l7] [] h2 n Q) → Rn (d + 2) bc bs mX13_countOrders 37 [some (vR (some 301)), some (vI (N : Int)), some (vI ff), some (vI tt), some (vI (allM N)), some (vI j), some (vI (i : Int)), l7] [] h1 n Q := by
    intro j j0 j1 m
    induction m with
    | zero =>
      intro i a l7 R h1 im rj re ra s1 K
      have e9 : i = N := by omega
      subst e9
      have m0 := s1.o
      have z : R j = bN (W 2) ff tt (allM i) i j := by rw [bN_s n8 j0 j1, re, ra]
      refine BX13_countOrders_37  ?_ ?_
      · intro hc1
        first
        | (exfalso; omega)
        | (
            exact K _ R _ _ s1 (fun u _ => rfl) z
          )
      · intro hc2
        first
        | (exfalso; omega)
        | (
            (exfalso; omega)
          )
    | succ m ih =>
      intro i a l7 R h1 im rj re ra s1 K
      have m0 := s1.o
      have m1 : h1 302 = cI (Ls 3389 (M 1)) := s1.a1
      have m15 : h1 316 = cJ (Ls 256 R) := s1.a15
      have yi := y9 i (by omega) (by omega)
      have ti := (ty8 i (by omega) (by omega)).2
      have nq := needs_eq (Y := W 2) (ff := ff) (tt := tt) (l := i) n8 yi hf
      have sb := sumL_b (f := fun l => if (!inB j l && okB (ndM (W 2) ff tt (allM N)) l j) = true then bN (W 2) ff tt (allM N) N (or32 j (shl32 1 l)) else 0) (u := 16777216) i (fun l _ => by
        try dsimp only
        split
        · exact bN_b n8
        · omega)
      have ih1 := fun a' R' h1' l7' => ih (i + 1) a' l7' R' h1' (by omega)
      unfold sumL at ih1
      dsimp only at ih1
      rw [show ((i + 1 : Nat) : Int) = (i : Int) + 1 by omega] at ih1
      have ob : inB j i = decide (and32 j (shl32 1 i) ≠ 0) := rfl
      have okb : okB (ndM (W 2) ff tt (allM N)) i j = decide (and32 (ndM (W 2) ff tt (allM N) i) (xor32 j (-1)) = 0) := rfl
      have rb : and32 j (shl32 1 i) ≠ 0 ∨ (j < or32 j (shl32 1 i) ∧ or32 j (shl32 1 i) ≤ allM N ∧ 0 ≤ R (or32 j (shl32 1 i)) ∧ R (or32 j (shl32 1 i)) ≤ 16777216 ∧ R (or32 j (shl32 1 i)) = bN (W 2) ff tt (allM N) N (or32 j (shl32 1 i))) := by
        by_cases w : and32 j (shl32 1 i) ≠ 0
        · exact .inl w
        · have tq := in_n (s := j) j0 (by omega) (show i < 8 by omega) (by rw [ob]; exact decide_eq_false w)
          have aN := allM_eq N n8
          have cN := cast_pow2 N
          have og := or32_rg (x := j) (y := shl32 1 i) (k := N) (by omega) j0 (by omega) (shl1_rg (i := i) (k := N) (by omega) (by omega) (by omega)).1 (shl1_rg (i := i) (k := N) (by omega) (by omega) (by omega)).2
          have ol : or32 j (shl32 1 i) ≤ allM N := by omega
          have er := rj _ tq.2.2.2.1 ol
          have bb := bN_b (Y := W 2) (ff := ff) (tt := tt) (all := allM N) (j := or32 j (shl32 1 i)) n8
          exact .inr ⟨tq.2.2.2.1, ol, by omega, by omega, er⟩
      rw [← ti] at nq
      refine BX13_countOrders_37  ?_ ?_
      · intro hc1
        (exfalso; omega)
      · intro hc2
        refine BX13_countOrders_43 (by first | assumption | exact up_at _ _ _ | (rw [up_ne (by omega)]; first | assumption | exact up_at _ _ _ | (rw [up_ne (by omega)]; assumption))) (by rfl) (by first | omega | (rw [fset_at]; omega) | (simp only [Ls_len]; omega) | assumption | exact Ls_get (by omega) (by omega) | exact up_at _ _ _ | rfl | decide) (by first | assumption | exact up_at _ _ _ | (rw [up_ne (by omega)]; first | assumption | exact up_at _ _ _ | (rw [up_ne (by omega)]; assumption))) (by first | omega | (rw [fset_at]; omega) | (simp only [Ls_len]; omega) | assumption | exact Ls_get (by omega) (by omega) | exact up_at _ _ _ | rfl | decide) (by first | exact Ls_get (by omega) (by omega) | assumption) ?_ ?_
        · intro hc3
          refine BX13_countOrders_71  ?_
          refine R_X13_has (by first | omega | (rw [fset_at]; omega) | (simp only [Ls_len]; omega) | assumption | exact Ls_get (by omega) (by omega) | exact up_at _ _ _ | rfl | decide) (by first | omega | (rw [fset_at]; omega) | (simp only [Ls_len]; omega) | assumption | exact Ls_get (by omega) (by omega) | exact up_at _ _ _ | rfl | decide) (by first | omega | (rw [fset_at]; omega) | (simp only [Ls_len]; omega) | assumption | exact Ls_get (by omega) (by omega) | exact up_at _ _ _ | rfl | decide) (by first | omega | (rw [fset_at]; omega) | (simp only [Ls_len]; omega) | assumption | exact Ls_get (by omega) (by omega) | exact up_at _ _ _ | rfl | decide) ?_ ?_
          · intro w5
            refine BX13_countOrders_85  ?_ ?_
            · intro hc4
              refine BX13_countOrders_120 (by first | omega | (rw [fset_at]; omega) | (simp only [Ls_len]; omega) | assumption | exact Ls_get (by omega) (by omega) | exact up_at _ _ _ | rfl | decide) ?_
              first
              | (have q : inB j i = true := by rw [ob]; exact decide_eq_true (by omega)
                 rw [if_neg (by rw [q]; simp), Int.add_zero] at ih1
                 exact ih1 _ _ _ _ rj re ra s1 K)
              | (first
                 | rw [if_neg (by omega)] at nq
                 | rw [if_pos (by omega)] at nq
                 rw [← nq] at okb
                 first
                 | (have q : okB (ndM (W 2) ff tt (allM N)) i j = false := by rw [okb]; exact decide_eq_false (by omega)
                    rw [if_neg (by rw [q]; simp), Int.add_zero] at ih1
                    exact ih1 _ _ _ _ rj re ra s1 K)
                 | (have q1 : inB j i = false := by rw [ob]; exact decide_eq_false (by omega)
                    have q2 : okB (ndM (W 2) ff tt (allM N)) i j = true := by rw [okb]; exact decide_eq_true (by omega)
                    rw [if_pos (by rw [q1, q2]; rfl)] at ih1
                    have s2 := s1.s15 (f := fset R j (R j + R (or32 j (shl32 1 i))))
                    rw [fset2] at s2
                    have re2 : R (or32 j (shl32 1 i)) = bN (W 2) ff tt (allM N) N (or32 j (shl32 1 i)) := by omega
                    exact ih1 _ _ _ _ (fun u hu hu2 => by rw [fset_ne (by omega)]; exact rj u hu hu2) (fset_at _ _ _) (by rw [re, ra, re2]) s2 (fun h2 R2 x6 l7 p1 p2 p3 => K h2 R2 x6 l7 p1 (fun u hu => (p2 u hu).trans (fset_ne (by omega))) p3)))
            · intro hc5
              exact absurd hc5 (by decide)
          · intro w6
            refine BX13_countOrders_85  ?_ ?_
            · intro hc6
              exact absurd hc6 (by decide)
            · intro hc7
              refine BX13_countOrders_88  ?_ ?_
              · intro hc8
                refine BX13_countOrders_120 (by first | omega | (rw [fset_at]; omega) | (simp only [Ls_len]; omega) | assumption | exact Ls_get (by omega) (by omega) | exact up_at _ _ _ | rfl | decide) ?_
                first
                | (have q : inB j i = true := by rw [ob]; exact decide_eq_true (by omega)
                   rw [if_neg (by rw [q]; simp), Int.add_zero] at ih1
                   exact ih1 _ _ _ _ rj re ra s1 K)
                | (first
                   | rw [if_neg (by omega)] at nq
                   | rw [if_pos (by omega)] at nq
                   rw [← nq] at okb
                   first
                   | (have q : okB (ndM (W 2) ff tt (allM N)) i j = false := by rw [okb]; exact decide_eq_false (by omega)
                      rw [if_neg (by rw [q]; simp), Int.add_zero] at ih1
                      exact ih1 _ _ _ _ rj re ra s1 K)
                   | (have q1 : inB j i = false := by rw [ob]; exact decide_eq_false (by omega)
                      have q2 : okB (ndM (W 2) ff tt (allM N)) i j = true := by rw [okb]; exact decide_eq_true (by omega)
                      rw [if_pos (by rw [q1, q2]; rfl)] at ih1
                      have s2 := s1.s15 (f := fset R j (R j + R (or32 j (shl32 1 i))))
                      rw [fset2] at s2
                      have re2 : R (or32 j (shl32 1 i)) = bN (W 2) ff tt (allM N) N (or32 j (shl32 1 i)) := by omega
                      exact ih1 _ _ _ _ (fun u hu hu2 => by rw [fset_ne (by omega)]; exact rj u hu hu2) (fset_at _ _ _) (by rw [re, ra, re2]) s2 (fun h2 R2 x6 l7 p1 p2 p3 => K h2 R2 x6 l7 p1 (fun u hu => (p2 u hu).trans (fset_ne (by omega))) p3)))
              · intro hc9
                refine BX13_countOrders_98 (by first | assumption | exact up_at _ _ _ | (rw [up_ne (by omega)]; first | assumption | exact up_at _ _ _ | (rw [up_ne (by omega)]; assumption))) (by rfl) (by first | assumption | exact up_at _ _ _ | (rw [up_ne (by omega)]; first | assumption | exact up_at _ _ _ | (rw [up_ne (by omega)]; assumption))) (by first | omega | (rw [fset_at]; omega) | (simp only [Ls_len]; omega) | assumption | exact Ls_get (by omega) (by omega) | exact up_at _ _ _ | rfl | decide) (by first | exact Ls_get (by omega) (by omega) | assumption) (by first | omega | (rw [fset_at]; omega) | (simp only [Ls_len]; omega) | assumption | exact Ls_get (by omega) (by omega) | exact up_at _ _ _ | rfl | decide) (by first | omega | (rw [fset_at]; omega) | (simp only [Ls_len]; omega) | assumption | exact Ls_get (by omega) (by omega) | exact up_at _ _ _ | rfl | decide) (by first | exact Ls_get (by omega) (by omega) | assumption) (by first | omega | (rw [fset_at]; omega) | (simp only [Ls_len]; omega) | assumption | exact Ls_get (by omega) (by omega) | exact up_at _ _ _ | rfl | decide) (by first | omega | (rw [fset_at]; omega) | (simp only [Ls_len]; omega) | assumption | exact Ls_get (by omega) (by omega) | exact up_at _ _ _ | rfl | decide) ?_
                try rw [Ls_set (by omega)]
                refine BX13_countOrders_120 (by first | omega | (rw [fset_at]; omega) | (simp only [Ls_len]; omega) | assumption | exact Ls_get (by omega) (by omega) | exact up_at _ _ _ | rfl | decide) ?_
                first
                | (have q : inB j i = true := by rw [ob]; exact decide_eq_true (by omega)
                   rw [if_neg (by rw [q]; simp), Int.add_zero] at ih1
                   exact ih1 _ _ _ _ rj re ra s1 K)
                | (first
                   | rw [if_neg (by omega)] at nq
                   | rw [if_pos (by omega)] at nq
                   rw [← nq] at okb
                   first
                   | (have q : okB (ndM (W 2) ff tt (allM N)) i j = false := by rw [okb]; exact decide_eq_false (by omega)
                      rw [if_neg (by rw [q]; simp), Int.add_zero] at ih1
                      exact ih1 _ _ _ _ rj re ra s1 K)
                   | (have q1 : inB j i = false := by rw [ob]; exact decide_eq_false (by omega)
                      have q2 : okB (ndM (W 2) ff tt (allM N)) i j = true := by rw [okb]; exact decide_eq_true (by omega)
                      rw [if_pos (by rw [q1, q2]; rfl)] at ih1
                      have s2 := s1.s15 (f := fset R j (R j + R (or32 j (shl32 1 i))))
                      rw [fset2] at s2
                      have re2 : R (or32 j (shl32 1 i)) = bN (W 2) ff tt (allM N) N (or32 j (shl32 1 i)) := by omega
                      exact ih1 _ _ _ _ (fun u hu hu2 => by rw [fset_ne (by omega)]; exact rj u hu hu2) (fset_at _ _ _) (by rw [re, ra, re2]) s2 (fun h2 R2 x6 l7 p1 p2 p3 => K h2 R2 x6 l7 p1 (fun u hu => (p2 u hu).trans (fset_ne (by omega))) p3)))
        · intro hc10
          refine BX13_countOrders_60  ?_ ?_
          · intro hc11
            refine BX13_countOrders_71  ?_
            refine R_X13_has (by first | omega | (rw [fset_at]; omega) | (simp only [Ls_len]; omega) | assumption | exact Ls_get (by omega) (by omega) | exact up_at _ _ _ | rfl | decide) (by first | omega | (rw [fset_at]; omega) | (simp only [Ls_len]; omega) | assumption | exact Ls_get (by omega) (by omega) | exact up_at _ _ _ | rfl | decide) (by first | omega | (rw [fset_at]; omega) | (simp only [Ls_len]; omega) | assumption | exact Ls_get (by omega) (by omega) | exact up_at _ _ _ | rfl | decide) (by first | omega | (rw [fset_at]; omega) | (simp only [Ls_len]; omega) | assumption | exact Ls_get (by omega) (by omega) | exact up_at _ _ _ | rfl | decide) ?_ ?_
            · intro w5
              refine BX13_countOrders_85  ?_ ?_
              · intro hc12
                refine BX13_countOrders_120 (by first | omega | (rw [fset_at]; omega) | (simp only [Ls_len]; omega) | assumption | exact Ls_get (by omega) (by omega) | exact up_at _ _ _ | rfl | decide) ?_
                first
                | (have q : inB j i = true := by rw [ob]; exact decide_eq_true (by omega)
                   rw [if_neg (by rw [q]; simp), Int.add_zero] at ih1
                   exact ih1 _ _ _ _ rj re ra s1 K)
                | (first
                   | rw [if_neg (by omega)] at nq
                   | rw [if_pos (by omega)] at nq
                   rw [← nq] at okb
                   first
                   | (have q : okB (ndM (W 2) ff tt (allM N)) i j = false := by rw [okb]; exact decide_eq_false (by omega)
                      rw [if_neg (by rw [q]; simp), Int.add_zero] at ih1
                      exact ih1 _ _ _ _ rj re ra s1 K)
                   | (have q1 : inB j i = false := by rw [ob]; exact decide_eq_false (by omega)
                      have q2 : okB (ndM (W 2) ff tt (allM N)) i j = true := by rw [okb]; exact decide_eq_true (by omega)
                      rw [if_pos (by rw [q1, q2]; rfl)] at ih1
                      have s2 := s1.s15 (f := fset R j (R j + R (or32 j (shl32 1 i))))
                      rw [fset2] at s2
                      have re2 : R (or32 j (shl32 1 i)) = bN (W 2) ff tt (allM N) N (or32 j (shl32 1 i)) := by omega
                      exact ih1 _ _ _ _ (fun u hu hu2 => by rw [fset_ne (by omega)]; exact rj u hu hu2) (fset_at _ _ _) (by rw [re, ra, re2]) s2 (fun h2 R2 x6 l7 p1 p2 p3 => K h2 R2 x6 l7 p1 (fun u hu => (p2 u hu).trans (fset_ne (by omega))) p3)))
              · intro hc13
                exact absurd hc13 (by decide)
            · intro w6
              refine BX13_countOrders_85  ?_ ?_
              · intro hc14
                exact absurd hc14 (by decide)
              · intro hc15
                refine BX13_countOrders_88  ?_ ?_
                · intro hc16
                  refine BX13_countOrders_120 (by first | omega | (rw [fset_at]; omega) | (simp only [Ls_len]; omega) | assumption | exact Ls_get (by omega) (by omega) | exact up_at _ _ _ | rfl | decide) ?_
                  first
                  | (have q : inB j i = true := by rw [ob]; exact decide_eq_true (by omega)
                     rw [if_neg (by rw [q]; simp), Int.add_zero] at ih1
                     exact ih1 _ _ _ _ rj re ra s1 K)
                  | (first
                     | rw [if_neg (by omega)] at nq
                     | rw [if_pos (by omega)] at nq
                     rw [← nq] at okb
                     first
                     | (have q : okB (ndM (W 2) ff tt (allM N)) i j = false := by rw [okb]; exact decide_eq_false (by omega)
                        rw [if_neg (by rw [q]; simp), Int.add_zero] at ih1
                        exact ih1 _ _ _ _ rj re ra s1 K)
                     | (have q1 : inB j i = false := by rw [ob]; exact decide_eq_false (by omega)
                        have q2 : okB (ndM (W 2) ff tt (allM N)) i j = true := by rw [okb]; exact decide_eq_true (by omega)
                        rw [if_pos (by rw [q1, q2]; rfl)] at ih1
                        have s2 := s1.s15 (f := fset R j (R j + R (or32 j (shl32 1 i))))
                        rw [fset2] at s2
                        have re2 : R (or32 j (shl32 1 i)) = bN (W 2) ff tt (allM N) N (or32 j (shl32 1 i)) := by omega
                        exact ih1 _ _ _ _ (fun u hu hu2 => by rw [fset_ne (by omega)]; exact rj u hu hu2) (fset_at _ _ _) (by rw [re, ra, re2]) s2 (fun h2 R2 x6 l7 p1 p2 p3 => K h2 R2 x6 l7 p1 (fun u hu => (p2 u hu).trans (fset_ne (by omega))) p3)))
                · intro hc17
                  refine BX13_countOrders_98 (by first | assumption | exact up_at _ _ _ | (rw [up_ne (by omega)]; first | assumption | exact up_at _ _ _ | (rw [up_ne (by omega)]; assumption))) (by rfl) (by first | assumption | exact up_at _ _ _ | (rw [up_ne (by omega)]; first | assumption | exact up_at _ _ _ | (rw [up_ne (by omega)]; assumption))) (by first | omega | (rw [fset_at]; omega) | (simp only [Ls_len]; omega) | assumption | exact Ls_get (by omega) (by omega) | exact up_at _ _ _ | rfl | decide) (by first | exact Ls_get (by omega) (by omega) | assumption) (by first | omega | (rw [fset_at]; omega) | (simp only [Ls_len]; omega) | assumption | exact Ls_get (by omega) (by omega) | exact up_at _ _ _ | rfl | decide) (by first | omega | (rw [fset_at]; omega) | (simp only [Ls_len]; omega) | assumption | exact Ls_get (by omega) (by omega) | exact up_at _ _ _ | rfl | decide) (by first | exact Ls_get (by omega) (by omega) | assumption) (by first | omega | (rw [fset_at]; omega) | (simp only [Ls_len]; omega) | assumption | exact Ls_get (by omega) (by omega) | exact up_at _ _ _ | rfl | decide) (by first | omega | (rw [fset_at]; omega) | (simp only [Ls_len]; omega) | assumption | exact Ls_get (by omega) (by omega) | exact up_at _ _ _ | rfl | decide) ?_
                  try rw [Ls_set (by omega)]
                  refine BX13_countOrders_120 (by first | omega | (rw [fset_at]; omega) | (simp only [Ls_len]; omega) | assumption | exact Ls_get (by omega) (by omega) | exact up_at _ _ _ | rfl | decide) ?_
                  first
                  | (have q : inB j i = true := by rw [ob]; exact decide_eq_true (by omega)
                     rw [if_neg (by rw [q]; simp), Int.add_zero] at ih1
                     exact ih1 _ _ _ _ rj re ra s1 K)
                  | (first
                     | rw [if_neg (by omega)] at nq
                     | rw [if_pos (by omega)] at nq
                     rw [← nq] at okb
                     first
                     | (have q : okB (ndM (W 2) ff tt (allM N)) i j = false := by rw [okb]; exact decide_eq_false (by omega)
                        rw [if_neg (by rw [q]; simp), Int.add_zero] at ih1
                        exact ih1 _ _ _ _ rj re ra s1 K)
                     | (have q1 : inB j i = false := by rw [ob]; exact decide_eq_false (by omega)
                        have q2 : okB (ndM (W 2) ff tt (allM N)) i j = true := by rw [okb]; exact decide_eq_true (by omega)
                        rw [if_pos (by rw [q1, q2]; rfl)] at ih1
                        have s2 := s1.s15 (f := fset R j (R j + R (or32 j (shl32 1 i))))
                        rw [fset2] at s2
                        have re2 : R (or32 j (shl32 1 i)) = bN (W 2) ff tt (allM N) N (or32 j (shl32 1 i)) := by omega
                        exact ih1 _ _ _ _ (fun u hu hu2 => by rw [fset_ne (by omega)]; exact rj u hu hu2) (fset_at _ _ _) (by rw [re, ra, re2]) s2 (fun h2 R2 x6 l7 p1 p2 p3 => K h2 R2 x6 l7 p1 (fun u hu => (p2 u hu).trans (fset_ne (by omega))) p3)))
          · intro hc18
            refine BX13_countOrders_65  ?_
            refine R_X13_has (by first | omega | (rw [fset_at]; omega) | (simp only [Ls_len]; omega) | assumption | exact Ls_get (by omega) (by omega) | exact up_at _ _ _ | rfl | decide) (by first | omega | (rw [fset_at]; omega) | (simp only [Ls_len]; omega) | assumption | exact Ls_get (by omega) (by omega) | exact up_at _ _ _ | rfl | decide) (by first | omega | (rw [fset_at]; omega) | (simp only [Ls_len]; omega) | assumption | exact Ls_get (by omega) (by omega) | exact up_at _ _ _ | rfl | decide) (by first | omega | (rw [fset_at]; omega) | (simp only [Ls_len]; omega) | assumption | exact Ls_get (by omega) (by omega) | exact up_at _ _ _ | rfl | decide) ?_ ?_
            · intro w5
              refine BX13_countOrders_85  ?_ ?_
              · intro hc19
                refine BX13_countOrders_120 (by first | omega | (rw [fset_at]; omega) | (simp only [Ls_len]; omega) | assumption | exact Ls_get (by omega) (by omega) | exact up_at _ _ _ | rfl | decide) ?_
                first
                | (have q : inB j i = true := by rw [ob]; exact decide_eq_true (by omega)
                   rw [if_neg (by rw [q]; simp), Int.add_zero] at ih1
                   exact ih1 _ _ _ _ rj re ra s1 K)
                | (first
                   | rw [if_neg (by omega)] at nq
                   | rw [if_pos (by omega)] at nq
                   rw [← nq] at okb
                   first
                   | (have q : okB (ndM (W 2) ff tt (allM N)) i j = false := by rw [okb]; exact decide_eq_false (by omega)
                      rw [if_neg (by rw [q]; simp), Int.add_zero] at ih1
                      exact ih1 _ _ _ _ rj re ra s1 K)
                   | (have q1 : inB j i = false := by rw [ob]; exact decide_eq_false (by omega)
                      have q2 : okB (ndM (W 2) ff tt (allM N)) i j = true := by rw [okb]; exact decide_eq_true (by omega)
                      rw [if_pos (by rw [q1, q2]; rfl)] at ih1
                      have s2 := s1.s15 (f := fset R j (R j + R (or32 j (shl32 1 i))))
                      rw [fset2] at s2
                      have re2 : R (or32 j (shl32 1 i)) = bN (W 2) ff tt (allM N) N (or32 j (shl32 1 i)) := by omega
                      exact ih1 _ _ _ _ (fun u hu hu2 => by rw [fset_ne (by omega)]; exact rj u hu hu2) (fset_at _ _ _) (by rw [re, ra, re2]) s2 (fun h2 R2 x6 l7 p1 p2 p3 => K h2 R2 x6 l7 p1 (fun u hu => (p2 u hu).trans (fset_ne (by omega))) p3)))
              · intro hc20
                exact absurd hc20 (by decide)
            · intro w6
              refine BX13_countOrders_85  ?_ ?_
              · intro hc21
                exact absurd hc21 (by decide)
              · intro hc22
                refine BX13_countOrders_88  ?_ ?_
                · intro hc23
                  refine BX13_countOrders_120 (by first | omega | (rw [fset_at]; omega) | (simp only [Ls_len]; omega) | assumption | exact Ls_get (by omega) (by omega) | exact up_at _ _ _ | rfl | decide) ?_
                  first
                  | (have q : inB j i = true := by rw [ob]; exact decide_eq_true (by omega)
                     rw [if_neg (by rw [q]; simp), Int.add_zero] at ih1
                     exact ih1 _ _ _ _ rj re ra s1 K)
                  | (first
                     | rw [if_neg (by omega)] at nq
                     | rw [if_pos (by omega)] at nq
                     rw [← nq] at okb
                     first
                     | (have q : okB (ndM (W 2) ff tt (allM N)) i j = false := by rw [okb]; exact decide_eq_false (by omega)
                        rw [if_neg (by rw [q]; simp), Int.add_zero] at ih1
                        exact ih1 _ _ _ _ rj re ra s1 K)
                     | (have q1 : inB j i = false := by rw [ob]; exact decide_eq_false (by omega)
                        have q2 : okB (ndM (W 2) ff tt (allM N)) i j = true := by rw [okb]; exact decide_eq_true (by omega)
                        rw [if_pos (by rw [q1, q2]; rfl)] at ih1
                        have s2 := s1.s15 (f := fset R j (R j + R (or32 j (shl32 1 i))))
                        rw [fset2] at s2
                        have re2 : R (or32 j (shl32 1 i)) = bN (W 2) ff tt (allM N) N (or32 j (shl32 1 i)) := by omega
                        exact ih1 _ _ _ _ (fun u hu hu2 => by rw [fset_ne (by omega)]; exact rj u hu hu2) (fset_at _ _ _) (by rw [re, ra, re2]) s2 (fun h2 R2 x6 l7 p1 p2 p3 => K h2 R2 x6 l7 p1 (fun u hu => (p2 u hu).trans (fset_ne (by omega))) p3)))
                · intro hc24
                  refine BX13_countOrders_98 (by first | assumption | exact up_at _ _ _ | (rw [up_ne (by omega)]; first | assumption | exact up_at _ _ _ | (rw [up_ne (by omega)]; assumption))) (by rfl) (by first | assumption | exact up_at _ _ _ | (rw [up_ne (by omega)]; first | assumption | exact up_at _ _ _ | (rw [up_ne (by omega)]; assumption))) (by first | omega | (rw [fset_at]; omega) | (simp only [Ls_len]; omega) | assumption | exact Ls_get (by omega) (by omega) | exact up_at _ _ _ | rfl | decide) (by first | exact Ls_get (by omega) (by omega) | assumption) (by first | omega | (rw [fset_at]; omega) | (simp only [Ls_len]; omega) | assumption | exact Ls_get (by omega) (by omega) | exact up_at _ _ _ | rfl | decide) (by first | omega | (rw [fset_at]; omega) | (simp only [Ls_len]; omega) | assumption | exact Ls_get (by omega) (by omega) | exact up_at _ _ _ | rfl | decide) (by first | exact Ls_get (by omega) (by omega) | assumption) (by first | omega | (rw [fset_at]; omega) | (simp only [Ls_len]; omega) | assumption | exact Ls_get (by omega) (by omega) | exact up_at _ _ _ | rfl | decide) (by first | omega | (rw [fset_at]; omega) | (simp only [Ls_len]; omega) | assumption | exact Ls_get (by omega) (by omega) | exact up_at _ _ _ | rfl | decide) ?_
                  try rw [Ls_set (by omega)]
                  refine BX13_countOrders_120 (by first | omega | (rw [fset_at]; omega) | (simp only [Ls_len]; omega) | assumption | exact Ls_get (by omega) (by omega) | exact up_at _ _ _ | rfl | decide) ?_
                  first
                  | (have q : inB j i = true := by rw [ob]; exact decide_eq_true (by omega)
                     rw [if_neg (by rw [q]; simp), Int.add_zero] at ih1
                     exact ih1 _ _ _ _ rj re ra s1 K)
                  | (first
                     | rw [if_neg (by omega)] at nq
                     | rw [if_pos (by omega)] at nq
                     rw [← nq] at okb
                     first
                     | (have q : okB (ndM (W 2) ff tt (allM N)) i j = false := by rw [okb]; exact decide_eq_false (by omega)
                        rw [if_neg (by rw [q]; simp), Int.add_zero] at ih1
                        exact ih1 _ _ _ _ rj re ra s1 K)
                     | (have q1 : inB j i = false := by rw [ob]; exact decide_eq_false (by omega)
                        have q2 : okB (ndM (W 2) ff tt (allM N)) i j = true := by rw [okb]; exact decide_eq_true (by omega)
                        rw [if_pos (by rw [q1, q2]; rfl)] at ih1
                        have s2 := s1.s15 (f := fset R j (R j + R (or32 j (shl32 1 i))))
                        rw [fset2] at s2
                        have re2 : R (or32 j (shl32 1 i)) = bN (W 2) ff tt (allM N) N (or32 j (shl32 1 i)) := by omega
                        exact ih1 _ _ _ _ (fun u hu hu2 => by rw [fset_ne (by omega)]; exact rj u hu hu2) (fset_at _ _ _) (by rw [re, ra, re2]) s2 (fun h2 R2 x6 l7 p1 p2 p3 => K h2 R2 x6 l7 p1 (fun u hu => (p2 u hu).trans (fset_ne (by omega))) p3)))
  have in21 : ∀ (m : Nat) (j : Int) (l6 l7 : Option aV) (R : Int → Int) (h1 : aH), j + 1 = m → j < allM N → (∀ u, j < u → u ≤ allM N → R u = bN (W 2) ff tt (allM N) N u) → IsM g h1 (fset M 15 R) → Rn (d + 2) bc bs mX13_countOrders 21 [some (vR (some 301)), some (vI (N : Int)), some (vI ff), some (vI tt), some (vI (allM N)), some (vI j), l6, l7] [] h1 n Q := by
    intro m
    induction m with
    | zero =>
      intro j l6 l7 R h1 jm ja rj s1
      have ej : j = -1 := by omega
      subst ej
      have m0 := s1.o
      have m15 : h1 316 = cJ (Ls 256 R) := s1.a15
      have z := rj 0 (by decide) (by omega)
      rw [bN_0 n8] at z
      refine BX13_countOrders_21  ?_ ?_
      · intro hc1
        first
        | (exfalso; omega)
        | (
            refine BX13_countOrders_132 (by first | assumption | exact up_at _ _ _ | (rw [up_ne (by omega)]; first | assumption | exact up_at _ _ _ | (rw [up_ne (by omega)]; assumption))) (by rfl) (by first | assumption | exact up_at _ _ _ | (rw [up_ne (by omega)]; first | assumption | exact up_at _ _ _ | (rw [up_ne (by omega)]; assumption))) (by first | exact Ls_get (by omega) (by omega) | assumption) (by first | omega | (rw [fset_at]; omega) | (simp only [Ls_len]; omega) | assumption | exact Ls_get (by omega) (by omega) | exact up_at _ _ _ | rfl | decide) ?_
            (rw [z]; exact k _ ⟨fset M 15 R, s1, t⟩)
          )
      · intro hc2
        first
        | (exfalso; omega)
        | (
            (exfalso; omega)
          )
    | succ m ih =>
      intro j l6 l7 R h1 jm ja rj s1
      have m0 := s1.o
      have m15 : h1 316 = cJ (Ls 256 R) := s1.a15
      have s2 := s1.s15 (f := fset R j 0)
      rw [fset2] at s2
      have c126 : ∀ h2 R2 (x6 : Int) l7, IsM g h2 (fset M 15 R2) → (∀ u, j < u → R2 u = fset R j 0 u) → R2 j = bN (W 2) ff tt (allM N) N j → Rn (d + 2) bc bs mX13_countOrders 126 [some (vR (some 301)), some (vI (N : Int)), some (vI ff), some (vI tt), some (vI (allM N)), some (vI j), some (vI x6), l7] [] h2 n Q := by
        intro h2 R2 x6 l7 p1 p2 p3
        have z := ih (j + (-1)) (some (vI x6)) l7 R2 h2 (by omega) (by omega) (fun u hu hu2 => by
          by_cases q : u = j
          · subst q; exact p3
          · rw [p2 u (by omega), fset_ne q]; exact rj u (by omega) hu2) p1
        refine BX13_countOrders_126 (by first | omega | (rw [fset_at]; omega) | (simp only [Ls_len]; omega) | assumption | exact Ls_get (by omega) (by omega) | exact up_at _ _ _ | rfl | decide) ?_
        exact z
      refine BX13_countOrders_21  ?_ ?_
      · intro hc1
        first
        | (exfalso; omega)
        | (
            refine BX13_countOrders_132 (by first | assumption | exact up_at _ _ _ | (rw [up_ne (by omega)]; first | assumption | exact up_at _ _ _ | (rw [up_ne (by omega)]; assumption))) (by rfl) (by first | assumption | exact up_at _ _ _ | (rw [up_ne (by omega)]; first | assumption | exact up_at _ _ _ | (rw [up_ne (by omega)]; assumption))) (by first | exact Ls_get (by omega) (by omega) | assumption) (by first | omega | (rw [fset_at]; omega) | (simp only [Ls_len]; omega) | assumption | exact Ls_get (by omega) (by omega) | exact up_at _ _ _ | rfl | decide) ?_
            (exfalso; omega)
          )
      · intro hc2
        first
        | (exfalso; omega)
        | (
            refine BX13_countOrders_26 (by first | assumption | exact up_at _ _ _ | (rw [up_ne (by omega)]; first | assumption | exact up_at _ _ _ | (rw [up_ne (by omega)]; assumption))) (by rfl) (by first | assumption | exact up_at _ _ _ | (rw [up_ne (by omega)]; first | assumption | exact up_at _ _ _ | (rw [up_ne (by omega)]; assumption))) (by first | omega | (rw [fset_at]; omega) | (simp only [Ls_len]; omega) | assumption | exact Ls_get (by omega) (by omega) | exact up_at _ _ _ | rfl | decide) (by first | omega | (rw [fset_at]; omega) | (simp only [Ls_len]; omega) | assumption | exact Ls_get (by omega) (by omega) | exact up_at _ _ _ | rfl | decide) (by first | omega | (rw [fset_at]; omega) | (simp only [Ls_len]; omega) | assumption | exact Ls_get (by omega) (by omega) | exact up_at _ _ _ | rfl | decide) ?_
            try rw [Ls_set (by omega)]
            refine BX13_countOrders_34  ?_
            exact in37 j (by omega) ja N 0 0 _ (fset R j 0) _ (Nat.zero_add _) (fun u hu hu2 => by rw [fset_ne (by omega)]; exact rj u hu hu2) (fset_at _ _ _) rfl s2 c126
          )
  have ea : shl32 1 (N : Int) - 1 = allM N := rfl
  have m0 := e.o
  have m15 := e.a15
  have s2 := e.s15 (f := fset (M 15) (allM N) 1)
  refine BX13_countOrders_0 (by first | omega | (rw [fset_at]; omega) | (simp only [Ls_len]; omega) | assumption | exact Ls_get (by omega) (by omega) | exact up_at _ _ _ | rfl | decide) (by first | assumption | exact up_at _ _ _ | (rw [up_ne (by omega)]; first | assumption | exact up_at _ _ _ | (rw [up_ne (by omega)]; assumption))) (by rfl) (by first | assumption | exact up_at _ _ _ | (rw [up_ne (by omega)]; first | assumption | exact up_at _ _ _ | (rw [up_ne (by omega)]; assumption))) (by first | omega | (rw [fset_at]; omega) | (simp only [Ls_len]; omega) | assumption | exact Ls_get (by omega) (by omega) | exact up_at _ _ _ | rfl | decide) (by first | omega | (rw [fset_at]; omega) | (simp only [Ls_len]; omega) | assumption | exact Ls_get (by omega) (by omega) | exact up_at _ _ _ | rfl | decide) (by first | omega | (rw [fset_at]; omega) | (simp only [Ls_len]; omega) | assumption | exact Ls_get (by omega) (by omega) | exact up_at _ _ _ | rfl | decide) ?_
  try rw [Ls_set (by omega)]
  refine BX13_countOrders_15 (by first | omega | (rw [fset_at]; omega) | (simp only [Ls_len]; omega) | assumption | exact Ls_get (by omega) (by omega) | exact up_at _ _ _ | rfl | decide) ?_
  rw [ea]
  refine in21 (allM N).toNat (allM N - 1) _ _ (fset (M 15) (allM N) 1) _ (by omega) (by omega) (fun u hu hu2 => ?_) s2
  rw [show u = allM N by omega, fset_at, bN_all n8]
theorem M_orders {x : Int} (s : IsMo g h W V X F B wr cm) (ok : okW W) (k : ∀ h1, IsMo g h1 W V X F B wr cm → Q (some (vL (aOrders W x))) h1 n) : Rn (d + 30) bc bs mX13_orders 0 [some (vR (some 301)), some (vI x)] [] h n Q := by
  unfold aOrders at k
  obtain ⟨M, e, ⟨⟨ts, te, ty, ⟨t1, t2, t3⟩, tp⟩, tb⟩, ⟨tv, tvb⟩, tx, ⟨⟨tt1, tt2, tt3⟩, tt4⟩, wr0, cm0, on⟩ := id s; obtain ⟨on1, on2, on3, on4, on5, on6, on7, on8⟩ := id on; have tt : tTp M F := ⟨⟨tt1, tt2, tt3⟩, tt4⟩; have m0 := e.o; have m1 := e.a1; have m2 := e.a2; have m3 := e.a3; have m4 := e.a4; have ts1 := ts.1; obtain ⟨te1, te2, te3, te4⟩ := id te; obtain ⟨⟨ty1, ty2, ty3, ty4, ty5⟩, ty6, ty7, ty8, ty9⟩ := id ty
  refine BX13_orders_0  ?_
  refine R_X13_isIn  ?_ ?_
  · intro w1 w2
    refine BX13_orders_7  ?_ ?_
    · intro hc1
      exact absurd hc1 (by decide)
    · intro hc2
      refine BX13_orders_10 (by first | assumption | exact up_at _ _ _ | (rw [up_ne (by omega)]; first | assumption | exact up_at _ _ _ | (rw [up_ne (by omega)]; assumption))) ?_
      refine R_X13_countOrders (by first | omega | (rw [fset_at]; omega) | (simp only [Ls_len]; omega) | assumption | exact Ls_get (by omega) (by omega) | exact up_at _ _ _ | rfl | decide) (by first | omega | (rw [fset_at]; omega) | (simp only [Ls_len]; omega) | assumption | exact Ls_get (by omega) (by omega) | exact up_at _ _ _ | rfl | decide) (by first | omega | (rw [fset_at]; omega) | (simp only [Ls_len]; omega) | assumption | exact Ls_get (by omega) (by omega) | exact up_at _ _ _ | rfl | decide) (by first | omega | (rw [fset_at]; omega) | (simp only [Ls_len]; omega) | assumption | exact Ls_get (by omega) (by omega) | exact up_at _ _ _ | rfl | decide) (by first | omega | (rw [fset_at]; omega) | (simp only [Ls_len]; omega) | assumption | exact Ls_get (by omega) (by omega) | exact up_at _ _ _ | rfl | decide) ?_
      intro h14 s14
      refine BX13_orders_17  ?_
      (rw [if_pos (by omega)] at k; exact k _ s14)
  · intro w3
    refine BX13_orders_7  ?_ ?_
    · intro hc3
      refine BX13_orders_20  ?_
      (rw [if_neg (by omega)] at k; exact k _ s)
    · intro hc4
      exact absurd hc4 (by decide)
theorem M_sure {x a b : Int} (s : IsMo g h W V X F B wr cm) (ok : okW W) (k : ∀ h1, IsMo g h1 W V X F B wr cm → Q (some (vI (aSure W x a b))) h1 n) : Rn (d + 30) bc bs mX13_sure 0 [some (vR (some 301)), some (vI x), some (vI a), some (vI b), none, none, none, none] [] h n Q := by
  unfold aSure at k
  obtain ⟨M, e, ⟨⟨ts, te, ty, ⟨t1, t2, t3⟩, tp⟩, tb⟩, ⟨tv, tvb⟩, tx, ⟨⟨tt1, tt2, tt3⟩, tt4⟩, wr0, cm0, on⟩ := id s; obtain ⟨on1, on2, on3, on4, on5, on6, on7, on8⟩ := id on; have tt : tTp M F := ⟨⟨tt1, tt2, tt3⟩, tt4⟩; have m0 := e.o; have m1 := e.a1; have m2 := e.a2; have m3 := e.a3; have m4 := e.a4; have ts1 := ts.1; obtain ⟨te1, te2, te3, te4⟩ := id te; obtain ⟨⟨ty1, ty2, ty3, ty4, ty5⟩, ty6, ty7, ty8, ty9⟩ := id ty
  refine BX13_sure_0  ?_
  refine R_X13_isIn  ?_ ?_
  · intro w1 w2
    refine BX13_sure_7  ?_ ?_
    · intro hc1
      exact absurd hc1 (by decide)
    · intro hc2
      refine BX13_sure_10 (by first | omega | (rw [fset_at]; omega) | (simp only [Ls_len]; omega) | assumption | exact Ls_get (by omega) (by omega) | exact up_at _ _ _ | rfl | decide) ?_
      refine R_X13_isIn  ?_ ?_
      · intro w1 w2
        refine BX13_sure_18  ?_ ?_
        · intro hc3
          exact absurd hc3 (by decide)
        · intro hc4
          refine BX13_sure_21 (by first | omega | (rw [fset_at]; omega) | (simp only [Ls_len]; omega) | assumption | exact Ls_get (by omega) (by omega) | exact up_at _ _ _ | rfl | decide) ?_
          refine R_X13_isIn  ?_ ?_
          · intro w1 w2
            refine BX13_sure_29  ?_ ?_
            · intro hc5
              exact absurd hc5 (by decide)
            · intro hc6
              refine BX13_sure_32  ?_ ?_
              · intro hc7
                refine BX13_sure_40 (by first | assumption | exact up_at _ _ _ | (rw [up_ne (by omega)]; first | assumption | exact up_at _ _ _ | (rw [up_ne (by omega)]; assumption))) ?_
                refine R_X13_countOrders (by first | omega | (rw [fset_at]; omega) | (simp only [Ls_len]; omega) | assumption | exact Ls_get (by omega) (by omega) | exact up_at _ _ _ | rfl | decide) (by first | omega | (rw [fset_at]; omega) | (simp only [Ls_len]; omega) | assumption | exact Ls_get (by omega) (by omega) | exact up_at _ _ _ | rfl | decide) (by first | omega | (rw [fset_at]; omega) | (simp only [Ls_len]; omega) | assumption | exact Ls_get (by omega) (by omega) | exact up_at _ _ _ | rfl | decide) (by first | omega | (rw [fset_at]; omega) | (simp only [Ls_len]; omega) | assumption | exact Ls_get (by omega) (by omega) | exact up_at _ _ _ | rfl | decide) (by first | omega | (rw [fset_at]; omega) | (simp only [Ls_len]; omega) | assumption | exact Ls_get (by omega) (by omega) | exact up_at _ _ _ | rfl | decide) ?_
                intro h44 s44
                obtain ⟨_, e44, _⟩ := id s44
                have m0 := e44.o
                refine BX13_sure_47  ?_ ?_
                · intro hc8
                  refine BX13_sure_59 (by first | assumption | exact up_at _ _ _ | (rw [up_ne (by omega)]; first | assumption | exact up_at _ _ _ | (rw [up_ne (by omega)]; assumption))) ?_
                  refine R_X13_countOrders (by first | omega | (rw [fset_at]; omega) | (simp only [Ls_len]; omega) | assumption | exact Ls_get (by omega) (by omega) | exact up_at _ _ _ | rfl | decide) (by first | omega | (rw [fset_at]; omega) | (simp only [Ls_len]; omega) | assumption | exact Ls_get (by omega) (by omega) | exact up_at _ _ _ | rfl | decide) (by first | omega | (rw [fset_at]; omega) | (simp only [Ls_len]; omega) | assumption | exact Ls_get (by omega) (by omega) | exact up_at _ _ _ | rfl | decide) (by first | omega | (rw [fset_at]; omega) | (simp only [Ls_len]; omega) | assumption | exact Ls_get (by omega) (by omega) | exact up_at _ _ _ | rfl | decide) (by first | omega | (rw [fset_at]; omega) | (simp only [Ls_len]; omega) | assumption | exact Ls_get (by omega) (by omega) | exact up_at _ _ _ | rfl | decide) ?_
                  intro h63 s63
                  refine BX13_sure_66  ?_ ?_
                  · intro hc9
                    refine BX13_sure_80  ?_ ?_
                    · intro hc10
                      refine BX13_sure_91  ?_
                      (rw [if_pos (by omega), if_neg (by omega), if_neg (by omega)] at k; exact k _ s63)
                    · intro hc11
                      refine BX13_sure_87  ?_
                      (rw [if_pos (by omega), if_neg (by omega), if_pos (by omega)] at k; exact k _ s63)
                  · intro hc12
                    refine BX13_sure_76  ?_
                    (rw [if_pos (by omega), if_pos (by omega)] at k; exact k _ s63)
                · intro hc13
                  refine BX13_sure_56  ?_
                  (rw [if_neg (by omega)] at k; exact k _ s44)
              · intro hc14
                refine BX13_sure_37  ?_
                (rw [if_neg (by omega)] at k; exact k _ s)
          · intro w3
            refine BX13_sure_29  ?_ ?_
            · intro hc15
              refine BX13_sure_37  ?_
              (rw [if_neg (by omega)] at k; exact k _ s)
            · intro hc16
              exact absurd hc16 (by decide)
      · intro w3
        refine BX13_sure_18  ?_ ?_
        · intro hc17
          refine BX13_sure_37  ?_
          (rw [if_neg (by omega)] at k; exact k _ s)
        · intro hc18
          exact absurd hc18 (by decide)
  · intro w3
    refine BX13_sure_7  ?_ ?_
    · intro hc19
      refine BX13_sure_37  ?_
      (rw [if_neg (by omega)] at k; exact k _ s)
    · intro hc20
      exact absurd hc20 (by decide)
end ORDERS4
