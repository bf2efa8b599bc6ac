/-! Relays in the reference: the next row, and all rows of all lengths. -/
section RELAY4
variable {d bc bs n : Nat} {g h : aH} {Q : aQ} {W V : Int → Int → Int} {X : Int → Tx} {F B : Int → Int} {wr cm : Int} {M : Int → Int → Int} {row : Int → Int} {S : Sl} {fr to many : Int}
theorem row_adv {k v x4 : Int} (st : StR g h W V X F B wr cm row S) (k0 : 0 ≤ k) (k1 : k < many) (m4 : many ≤ 4) (hk : row k = v) (v0 : -1 ≤ v) (v1 : v < 6) (K : ∀ h1, StR g h1 W V X F B wr cm (fset row k (v + 1)) S → Rn (d + 5) 0 0 mX13_isNextRow 26 [some (vR (some 301)), some (vI many), some (vI fr), some (vI to), some (vI x4), some (vI k)] [] h1 n Q) : Rn (d + 5) 0 0 mX13_isNextRow 4 [some (vR (some 301)), some (vI many), some (vI fr), some (vI to), some (vI x4), some (vI k)] [] h n Q := by
  obtain ⟨M, e, t, r1, r2, r3, r4⟩ := id st
  have a0 := e.o
  have a10 : h 311 = cI (Ls 4 row) := by rw [← r1]; exact e.a10
  have s2 := st.w10 (i := k) (v := row k + 1)
  rw [hk] at s2
  have w := K _ s2
  refine BX13_isNextRow_4  ?_ ?_
  · intro hc1
    (exfalso; omega)
  · intro hc2
    refine BX13_isNextRow_9  ?_ ?_
    · intro hc3
      (exfalso; omega)
    · intro hc4
      refine BX13_isNextRow_15 (by first | assumption | exact up_at _ _ _ | (rw [up_ne (by omega)]; first | assumption | exact up_at _ _ _ | (rw [up_ne (by omega)]; assumption))) (by rfl) (by first | assumption | exact up_at _ _ _ | (rw [up_ne (by omega)]; first | assumption | exact up_at _ _ _ | (rw [up_ne (by omega)]; assumption))) (by first | omega | (rw [fset_at]; omega) | (simp only [Ls_len]; omega) | assumption | exact Ls_get (by omega) (by omega) | exact up_at _ _ _ | rfl | decide) (by first | exact Ls_get (by omega) (by omega) | assumption) (by first | omega | (rw [fset_at]; omega) | (simp only [Ls_len]; omega) | assumption | exact Ls_get (by omega) (by omega) | exact up_at _ _ _ | rfl | decide) (by first | omega | (rw [fset_at]; omega) | (simp only [Ls_len]; omega) | assumption | exact Ls_get (by omega) (by omega) | exact up_at _ _ _ | rfl | decide) (by first | omega | (rw [fset_at]; omega) | (simp only [Ls_len]; omega) | assumption | exact Ls_get (by omega) (by omega) | exact up_at _ _ _ | rfl | decide) ?_
      try rw [Ls_set (by omega)]
      (rw [hk]; exact w)
theorem row_bt {bc2 bs2 : Nat} (ok : okW W) (hP : W 3 3 ≤ 6) (f0 : 0 ≤ fr) (f1 : fr < W 3 3) (g0 : 0 ≤ to) (g1 : to < W 3 3) (m1 : many ≤ 4) : ∀ (j : Nat) (k : Int), 0 ≤ k → k + (j + 1 : Nat) = many → ∀ (m : Nat) (v : Int) (row0 row : Int → Int) (S : Sl) (h : aH) (x4 : Int), 0 ≤ v → v + m = W 3 3 → row k = v → (∀ i, 0 ≤ i → i < k → row i = row0 i ∧ 0 ≤ row0 i ∧ row0 i < W 3 3) → StR g h W V X F B wr cm row S → (∀ h' row' x4', (∀ i, 0 ≤ i → i < k → row' i = row0 i) → StR g h' W V X F B wr cm row' (flN (gR W fr to many k row0 j) m v S) → Rn (d + 5) 0 0 mX13_isNextRow 4 [some (vR (some 301)), some (vI many), some (vI fr), some (vI to), some (vI x4'), some (vI (k + (-1)))] [] h' n (qqR Q d bc2 bs2 fr to many)) → Rn (d + 5) 0 0 mX13_isNextRow 26 [some (vR (some 301)), some (vI many), some (vI fr), some (vI to), some (vI x4), some (vI k)] [] h n (qqR Q d bc2 bs2 fr to many) := by
  intro j
  induction j with
  | zero =>
    intro k k0 kj m
    induction m with
    | zero =>
      intro v row0 row S h x4 v0 vm hk hp st K
      obtain ⟨M, e, t, r1, r2, r3, r4⟩ := id st
      have a0 := e.o
      have a1 := e.a1
      have ts1 : M 1 0 = W 3 3 := t.1.1.1.1
      have a10 : h 311 = cI (Ls 4 row) := by rw [← r1]; exact e.a10
      refine BX13_isNextRow_26 (by first | assumption | exact up_at _ _ _ | (rw [up_ne (by omega)]; first | assumption | exact up_at _ _ _ | (rw [up_ne (by omega)]; assumption))) (by rfl) (by first | assumption | exact up_at _ _ _ | (rw [up_ne (by omega)]; first | assumption | exact up_at _ _ _ | (rw [up_ne (by omega)]; assumption))) (by first | omega | (rw [fset_at]; omega) | (simp only [Ls_len]; omega) | assumption | exact Ls_get (by omega) (by omega) | exact up_at _ _ _ | rfl | decide) (by first | exact Ls_get (by omega) (by omega) | assumption) (by rfl) (by first | assumption | exact up_at _ _ _ | (rw [up_ne (by omega)]; first | assumption | exact up_at _ _ _ | (rw [up_ne (by omega)]; assumption))) (by first | exact Ls_get (by omega) (by omega) | assumption) ?_ ?_
      · intro hc1
        refine BX13_isNextRow_67 (by first | assumption | exact up_at _ _ _ | (rw [up_ne (by omega)]; first | assumption | exact up_at _ _ _ | (rw [up_ne (by omega)]; assumption))) (by rfl) (by first | assumption | exact up_at _ _ _ | (rw [up_ne (by omega)]; first | assumption | exact up_at _ _ _ | (rw [up_ne (by omega)]; assumption))) (by first | omega | (rw [fset_at]; omega) | (simp only [Ls_len]; omega) | assumption | exact Ls_get (by omega) (by omega) | exact up_at _ _ _ | rfl | decide) (by first | exact Ls_get (by omega) (by omega) | assumption) (by rfl) (by first | assumption | exact up_at _ _ _ | (rw [up_ne (by omega)]; first | assumption | exact up_at _ _ _ | (rw [up_ne (by omega)]; assumption))) (by first | exact Ls_get (by omega) (by omega) | assumption) ?_ ?_
        · intro hc2
          refine BX13_isNextRow_103 (by first | omega | (rw [fset_at]; omega) | (simp only [Ls_len]; omega) | assumption | exact Ls_get (by omega) (by omega) | exact up_at _ _ _ | rfl | decide) ?_
          exact K h row x4 (fun i i0 i1 => (hp i i0 i1).1) st
        · intro hc3
          (exfalso; omega)
      · intro hc4
        (exfalso; omega)
    | succ m ih =>
      intro v row0 row S h x4 v0 vm hk hp st K
      obtain ⟨M, e, t, r1, r2, r3, r4⟩ := id st
      have a0 := e.o
      have a1 := e.a1
      have ts1 : M 1 0 = W 3 3 := t.1.1.1.1
      have a10 : h 311 = cI (Ls 4 row) := by rw [← r1]; exact e.a10
      have ub : usB fr to row (row k) k.toNat = usB fr to row0 v k.toNat := by
        rw [hk]; exact usB_ext _ (fun i i0 i1 => (hp i i0 (by omega)).1)
      have e10 : IsM g h (fset M 10 row) := by
        rw [show fset M 10 row = M from by rw [← r1]; funext j; by_cases q : j = 10; (subst q; rw [fset_at]); rw [fset_ne q]]; exact e
      have s2 := st.w10 (i := k) (v := row k + 1)
      rw [hk] at s2
      unfold flN at K
      have gU : usB fr to row0 v k.toNat = true → gR W fr to many k row0 0 v S = S := fun q => by unfold gR; rw [if_pos q]
      have gN : usB fr to row0 v k.toNat = false → gR W fr to many k row0 0 v S = leafS W fr to many row S := fun q => by
        unfold gR
        rw [if_neg (by rw [q]; decide)]
        show leafS W fr to many (fset row0 k v) S = _
        refine leafS_ext (by omega) (fun i i0 i1 => ?_)
        by_cases z : i = k
        · subst z; rw [fset_at, hk]
        · rw [fset_ne z]; exact (hp i i0 (by omega)).1.symm
      have hr : ∀ i, 0 ≤ i → i < many → 0 ≤ row i ∧ row i < W 3 3 := fun i i0 i1 => by
        by_cases z : i = k
        · subst z; omega
        · have := hp i i0 (by omega); omega
      have nx : usB fr to row0 v k.toNat = false → qqR Q d bc2 bs2 fr to many (some (vI 1)) h n := fun q => by
        refine ⟨1, rfl, .inr rfl, lay_leaf st ok f0 f1 g0 g1 (by omega) m1 hr (fun z => by omega) (fun _ h1 s1 => ?_)⟩
        refine BX13_isNextRow_0 ?_
        rw [show many - 1 = k by omega]
        refine row_adv s1 k0 (by omega) m1 hk (by omega) (by omega) (fun h2 s3 => ?_)
        refine ih (v + 1) row0 _ _ h2 _ (by omega) (by omega) (fset_at _ _ _) (fun i i0 i1 => by rw [fset_ne (by omega)]; exact hp i i0 i1) s3 ?_
        rw [← gN q]
        exact K
      refine BX13_isNextRow_26 (by first | assumption | exact up_at _ _ _ | (rw [up_ne (by omega)]; first | assumption | exact up_at _ _ _ | (rw [up_ne (by omega)]; assumption))) (by rfl) (by first | assumption | exact up_at _ _ _ | (rw [up_ne (by omega)]; first | assumption | exact up_at _ _ _ | (rw [up_ne (by omega)]; assumption))) (by first | omega | (rw [fset_at]; omega) | (simp only [Ls_len]; omega) | assumption | exact Ls_get (by omega) (by omega) | exact up_at _ _ _ | rfl | decide) (by first | exact Ls_get (by omega) (by omega) | assumption) (by rfl) (by first | assumption | exact up_at _ _ _ | (rw [up_ne (by omega)]; first | assumption | exact up_at _ _ _ | (rw [up_ne (by omega)]; assumption))) (by first | exact Ls_get (by omega) (by omega) | assumption) ?_ ?_
      · intro hc1
        refine BX13_isNextRow_67 (by first | assumption | exact up_at _ _ _ | (rw [up_ne (by omega)]; first | assumption | exact up_at _ _ _ | (rw [up_ne (by omega)]; assumption))) (by rfl) (by first | assumption | exact up_at _ _ _ | (rw [up_ne (by omega)]; first | assumption | exact up_at _ _ _ | (rw [up_ne (by omega)]; assumption))) (by first | omega | (rw [fset_at]; omega) | (simp only [Ls_len]; omega) | assumption | exact Ls_get (by omega) (by omega) | exact up_at _ _ _ | rfl | decide) (by first | exact Ls_get (by omega) (by omega) | assumption) (by rfl) (by first | assumption | exact up_at _ _ _ | (rw [up_ne (by omega)]; first | assumption | exact up_at _ _ _ | (rw [up_ne (by omega)]; assumption))) (by first | exact Ls_get (by omega) (by omega) | assumption) ?_ ?_
        · intro hc2
          refine BX13_isNextRow_103 (by first | omega | (rw [fset_at]; omega) | (simp only [Ls_len]; omega) | assumption | exact Ls_get (by omega) (by omega) | exact up_at _ _ _ | rfl | decide) ?_
          first
          | (exfalso; omega)
          | exact BX13_isNextRow_4 (fun q => by exfalso; omega) (fun _ => BX13_isNextRow_9 (fun _ => BX13_isNextRow_109 (fun q => by exfalso; omega) (fun _ => BX13_isNextRow_114 (nx (by rw [← ub]; assumption)))) (fun q => by exfalso; omega))
        · intro hc3
          refine BX13_isNextRow_83 (by first | omega | (rw [fset_at]; omega) | (simp only [Ls_len]; omega) | assumption | exact Ls_get (by omega) (by omega) | exact up_at _ _ _ | rfl | decide) ?_ ?_
          · intro hc4
            first
            | (exfalso; omega)
            | exact BX13_isNextRow_4 (fun q => by exfalso; omega) (fun _ => BX13_isNextRow_9 (fun _ => BX13_isNextRow_109 (fun q => by exfalso; omega) (fun _ => BX13_isNextRow_114 (nx (by rw [← ub]; assumption)))) (fun q => by exfalso; omega))
          · intro hc5
            refine BX13_isNextRow_92 (by first | assumption | exact up_at _ _ _ | (rw [up_ne (by omega)]; first | assumption | exact up_at _ _ _ | (rw [up_ne (by omega)]; assumption))) (by rfl) (by first | assumption | exact up_at _ _ _ | (rw [up_ne (by omega)]; first | assumption | exact up_at _ _ _ | (rw [up_ne (by omega)]; assumption))) (by first | omega | (rw [fset_at]; omega) | (simp only [Ls_len]; omega) | assumption | exact Ls_get (by omega) (by omega) | exact up_at _ _ _ | rfl | decide) (by first | omega | (rw [fset_at]; omega) | (simp only [Ls_len]; omega) | assumption | exact Ls_get (by omega) (by omega) | exact up_at _ _ _ | rfl | decide) (by first | omega | (rw [fset_at]; omega) | (simp only [Ls_len]; omega) | assumption | exact Ls_get (by omega) (by omega) | exact up_at _ _ _ | rfl | decide) ?_
            try rw [Ls_set (by omega)]
            refine BX13_isNextRow_100  ?_
            first
            | (exfalso; omega)
            | exact BX13_isNextRow_4 (fun q => by exfalso; omega) (fun _ => BX13_isNextRow_9 (fun _ => BX13_isNextRow_109 (fun q => by exfalso; omega) (fun _ => BX13_isNextRow_114 (nx (by rw [← ub]; assumption)))) (fun q => by exfalso; omega))
      · intro hc6
        refine BX13_isNextRow_42 (by first | assumption | exact up_at _ _ _ | (rw [up_ne (by omega)]; first | assumption | exact up_at _ _ _ | (rw [up_ne (by omega)]; assumption))) ?_
        refine R_X13_isNew (by first | omega | (rw [fset_at]; omega) | (simp only [Ls_len]; omega) | assumption | exact Ls_get (by omega) (by omega) | exact up_at _ _ _ | rfl | decide) (by first | omega | (rw [fset_at]; omega) | (simp only [Ls_len]; omega) | assumption | exact Ls_get (by omega) (by omega) | exact up_at _ _ _ | rfl | decide) (by first | omega | (rw [fset_at]; omega) | (simp only [Ls_len]; omega) | assumption | exact Ls_get (by omega) (by omega) | exact up_at _ _ _ | rfl | decide) ?_ ?_
        · intro u47
          refine BX13_isNextRow_50  ?_ ?_
          · intro hc7
            refine BX13_isNextRow_67 (by first | assumption | exact up_at _ _ _ | (rw [up_ne (by omega)]; first | assumption | exact up_at _ _ _ | (rw [up_ne (by omega)]; assumption))) (by rfl) (by first | assumption | exact up_at _ _ _ | (rw [up_ne (by omega)]; first | assumption | exact up_at _ _ _ | (rw [up_ne (by omega)]; assumption))) (by first | omega | (rw [fset_at]; omega) | (simp only [Ls_len]; omega) | assumption | exact Ls_get (by omega) (by omega) | exact up_at _ _ _ | rfl | decide) (by first | exact Ls_get (by omega) (by omega) | assumption) (by rfl) (by first | assumption | exact up_at _ _ _ | (rw [up_ne (by omega)]; first | assumption | exact up_at _ _ _ | (rw [up_ne (by omega)]; assumption))) (by first | exact Ls_get (by omega) (by omega) | assumption) ?_ ?_
            · intro hc8
              refine BX13_isNextRow_103 (by first | omega | (rw [fset_at]; omega) | (simp only [Ls_len]; omega) | assumption | exact Ls_get (by omega) (by omega) | exact up_at _ _ _ | rfl | decide) ?_
              first
              | (exfalso; omega)
              | exact BX13_isNextRow_4 (fun q => by exfalso; omega) (fun _ => BX13_isNextRow_9 (fun _ => BX13_isNextRow_109 (fun q => by exfalso; omega) (fun _ => BX13_isNextRow_114 (nx (by rw [← ub]; assumption)))) (fun q => by exfalso; omega))
            · intro hc9
              refine BX13_isNextRow_83 (by first | omega | (rw [fset_at]; omega) | (simp only [Ls_len]; omega) | assumption | exact Ls_get (by omega) (by omega) | exact up_at _ _ _ | rfl | decide) ?_ ?_
              · intro hc10
                first
                | (exfalso; omega)
                | exact BX13_isNextRow_4 (fun q => by exfalso; omega) (fun _ => BX13_isNextRow_9 (fun _ => BX13_isNextRow_109 (fun q => by exfalso; omega) (fun _ => BX13_isNextRow_114 (nx (by rw [← ub]; assumption)))) (fun q => by exfalso; omega))
              · intro hc11
                refine BX13_isNextRow_92 (by first | assumption | exact up_at _ _ _ | (rw [up_ne (by omega)]; first | assumption | exact up_at _ _ _ | (rw [up_ne (by omega)]; assumption))) (by rfl) (by first | assumption | exact up_at _ _ _ | (rw [up_ne (by omega)]; first | assumption | exact up_at _ _ _ | (rw [up_ne (by omega)]; assumption))) (by first | omega | (rw [fset_at]; omega) | (simp only [Ls_len]; omega) | assumption | exact Ls_get (by omega) (by omega) | exact up_at _ _ _ | rfl | decide) (by first | omega | (rw [fset_at]; omega) | (simp only [Ls_len]; omega) | assumption | exact Ls_get (by omega) (by omega) | exact up_at _ _ _ | rfl | decide) (by first | omega | (rw [fset_at]; omega) | (simp only [Ls_len]; omega) | assumption | exact Ls_get (by omega) (by omega) | exact up_at _ _ _ | rfl | decide) ?_
                try rw [Ls_set (by omega)]
                refine BX13_isNextRow_100  ?_
                first
                | (exfalso; omega)
                | exact BX13_isNextRow_4 (fun q => by exfalso; omega) (fun _ => BX13_isNextRow_9 (fun _ => BX13_isNextRow_109 (fun q => by exfalso; omega) (fun _ => BX13_isNextRow_114 (nx (by rw [← ub]; assumption)))) (fun q => by exfalso; omega))
          · intro hc12
            exact absurd hc12 (by decide)
        · intro u47
          refine BX13_isNextRow_50  ?_ ?_
          · intro hc13
            exact absurd hc13 (by decide)
          · intro hc14
            refine BX13_isNextRow_53 (by first | assumption | exact up_at _ _ _ | (rw [up_ne (by omega)]; first | assumption | exact up_at _ _ _ | (rw [up_ne (by omega)]; assumption))) (by rfl) (by first | assumption | exact up_at _ _ _ | (rw [up_ne (by omega)]; first | assumption | exact up_at _ _ _ | (rw [up_ne (by omega)]; assumption))) (by first | omega | (rw [fset_at]; omega) | (simp only [Ls_len]; omega) | assumption | exact Ls_get (by omega) (by omega) | exact up_at _ _ _ | rfl | decide) (by first | exact Ls_get (by omega) (by omega) | assumption) (by first | omega | (rw [fset_at]; omega) | (simp only [Ls_len]; omega) | assumption | exact Ls_get (by omega) (by omega) | exact up_at _ _ _ | rfl | decide) (by first | omega | (rw [fset_at]; omega) | (simp only [Ls_len]; omega) | assumption | exact Ls_get (by omega) (by omega) | exact up_at _ _ _ | rfl | decide) (by first | omega | (rw [fset_at]; omega) | (simp only [Ls_len]; omega) | assumption | exact Ls_get (by omega) (by omega) | exact up_at _ _ _ | rfl | decide) ?_
            try rw [Ls_set (by omega)]
            refine BX13_isNextRow_64  ?_
            rw [hk]
            rw [gU (by rw [← ub]; assumption)] at K
            exact ih (v + 1) row0 _ S _ x4 (by omega) (by omega) (fset_at _ _ _) (fun i i0 i1 => by rw [fset_ne (by omega)]; exact hp i i0 i1) s2 K
  | succ j ihj =>
    intro k k0 kj m
    induction m with
    | zero =>
      intro v row0 row S h x4 v0 vm hk hp st K
      obtain ⟨M, e, t, r1, r2, r3, r4⟩ := id st
      have a0 := e.o
      have a1 := e.a1
      have ts1 : M 1 0 = W 3 3 := t.1.1.1.1
      have a10 : h 311 = cI (Ls 4 row) := by rw [← r1]; exact e.a10
      refine BX13_isNextRow_26 (by first | assumption | exact up_at _ _ _ | (rw [up_ne (by omega)]; first | assumption | exact up_at _ _ _ | (rw [up_ne (by omega)]; assumption))) (by rfl) (by first | assumption | exact up_at _ _ _ | (rw [up_ne (by omega)]; first | assumption | exact up_at _ _ _ | (rw [up_ne (by omega)]; assumption))) (by first | omega | (rw [fset_at]; omega) | (simp only [Ls_len]; omega) | assumption | exact Ls_get (by omega) (by omega) | exact up_at _ _ _ | rfl | decide) (by first | exact Ls_get (by omega) (by omega) | assumption) (by rfl) (by first | assumption | exact up_at _ _ _ | (rw [up_ne (by omega)]; first | assumption | exact up_at _ _ _ | (rw [up_ne (by omega)]; assumption))) (by first | exact Ls_get (by omega) (by omega) | assumption) ?_ ?_
      · intro hc1
        refine BX13_isNextRow_67 (by first | assumption | exact up_at _ _ _ | (rw [up_ne (by omega)]; first | assumption | exact up_at _ _ _ | (rw [up_ne (by omega)]; assumption))) (by rfl) (by first | assumption | exact up_at _ _ _ | (rw [up_ne (by omega)]; first | assumption | exact up_at _ _ _ | (rw [up_ne (by omega)]; assumption))) (by first | omega | (rw [fset_at]; omega) | (simp only [Ls_len]; omega) | assumption | exact Ls_get (by omega) (by omega) | exact up_at _ _ _ | rfl | decide) (by first | exact Ls_get (by omega) (by omega) | assumption) (by rfl) (by first | assumption | exact up_at _ _ _ | (rw [up_ne (by omega)]; first | assumption | exact up_at _ _ _ | (rw [up_ne (by omega)]; assumption))) (by first | exact Ls_get (by omega) (by omega) | assumption) ?_ ?_
        · intro hc2
          refine BX13_isNextRow_103 (by first | omega | (rw [fset_at]; omega) | (simp only [Ls_len]; omega) | assumption | exact Ls_get (by omega) (by omega) | exact up_at _ _ _ | rfl | decide) ?_
          exact K h row x4 (fun i i0 i1 => (hp i i0 i1).1) st
        · intro hc3
          (exfalso; omega)
      · intro hc4
        (exfalso; omega)
    | succ m ih =>
      intro v row0 row S h x4 v0 vm hk hp st K
      obtain ⟨M, e, t, r1, r2, r3, r4⟩ := id st
      have a0 := e.o
      have a1 := e.a1
      have ts1 : M 1 0 = W 3 3 := t.1.1.1.1
      have a10 : h 311 = cI (Ls 4 row) := by rw [← r1]; exact e.a10
      have ub : usB fr to row (row k) k.toNat = usB fr to row0 v k.toNat := by
        rw [hk]; exact usB_ext _ (fun i i0 i1 => (hp i i0 (by omega)).1)
      have e10 : IsM g h (fset M 10 row) := by
        rw [show fset M 10 row = M from by rw [← r1]; funext j; by_cases q : j = 10; (subst q; rw [fset_at]); rw [fset_ne q]]; exact e
      have s2 := st.w10 (i := k) (v := row k + 1)
      rw [hk] at s2
      have s4 := st.w10 (i := k + 1) (v := -1)
      unfold flN at K
      have gU : usB fr to row0 v k.toNat = true → gR W fr to many k row0 (j + 1) v S = S := fun q => by unfold gR; rw [if_pos q]
      have gN : usB fr to row0 v k.toNat = false → gR W fr to many k row0 (j + 1) v S = flN (gR W fr to many (k + 1) (fset row0 k v) j) (W 3 3).toNat 0 S := fun q => by
        unfold gR
        rw [if_neg (by rw [q]; decide)]
        rfl
      have nx : usB fr to row0 v k.toNat = false → Rn (d + 5) 0 0 mX13_isNextRow 4 [some (vR (some 301)), some (vI many), some (vI fr), some (vI to), some (vI x4), some (vI (k + 1))] [] (up h 311 (cI (Ls 4 (fset row (k + 1) (-1))))) n (qqR Q d bc2 bs2 fr to many) := fun q => by
        refine row_adv s4 (by omega) (by omega) m1 (fset_at _ _ _) (by decide) (by decide) (fun h2 s3 => ?_)
        refine ihj (k + 1) (by omega) (by omega) (W 3 3).toNat 0 (fset row0 k v) _ S h2 _ (by decide) (by omega) (fset_at _ _ _) (fun i i0 i1 => ?_) s3 (fun h' row' x4' hpre st' => ?_)
        · rw [fset_ne (by omega), fset_ne (by omega)]
          by_cases z : i = k
          · subst z; rw [fset_at, hk]; omega
          · rw [fset_ne z]; exact hp i i0 (by omega)
        · rw [show k + 1 + -1 = k by omega]
          have hk' : row' k = v := by rw [hpre k k0 (by omega), fset_at]
          refine row_adv st' k0 (by omega) m1 hk' (by omega) (by omega) (fun h3 s5 => ?_)
          refine ih (v + 1) row0 _ _ h3 _ (by omega) (by omega) (fset_at _ _ _) (fun i i0 i1 => ?_) s5 ?_
          · rw [fset_ne (by omega), hpre i i0 (by omega), fset_ne (by omega)]
            exact ⟨rfl, (hp i i0 i1).2⟩
          · rw [← gN q]
            exact K
      refine BX13_isNextRow_26 (by first | assumption | exact up_at _ _ _ | (rw [up_ne (by omega)]; first | assumption | exact up_at _ _ _ | (rw [up_ne (by omega)]; assumption))) (by rfl) (by first | assumption | exact up_at _ _ _ | (rw [up_ne (by omega)]; first | assumption | exact up_at _ _ _ | (rw [up_ne (by omega)]; assumption))) (by first | omega | (rw [fset_at]; omega) | (simp only [Ls_len]; omega) | assumption | exact Ls_get (by omega) (by omega) | exact up_at _ _ _ | rfl | decide) (by first | exact Ls_get (by omega) (by omega) | assumption) (by rfl) (by first | assumption | exact up_at _ _ _ | (rw [up_ne (by omega)]; first | assumption | exact up_at _ _ _ | (rw [up_ne (by omega)]; assumption))) (by first | exact Ls_get (by omega) (by omega) | assumption) ?_ ?_
      · intro hc1
        refine BX13_isNextRow_67 (by first | assumption | exact up_at _ _ _ | (rw [up_ne (by omega)]; first | assumption | exact up_at _ _ _ | (rw [up_ne (by omega)]; assumption))) (by rfl) (by first | assumption | exact up_at _ _ _ | (rw [up_ne (by omega)]; first | assumption | exact up_at _ _ _ | (rw [up_ne (by omega)]; assumption))) (by first | omega | (rw [fset_at]; omega) | (simp only [Ls_len]; omega) | assumption | exact Ls_get (by omega) (by omega) | exact up_at _ _ _ | rfl | decide) (by first | exact Ls_get (by omega) (by omega) | assumption) (by rfl) (by first | assumption | exact up_at _ _ _ | (rw [up_ne (by omega)]; first | assumption | exact up_at _ _ _ | (rw [up_ne (by omega)]; assumption))) (by first | exact Ls_get (by omega) (by omega) | assumption) ?_ ?_
        · intro hc2
          refine BX13_isNextRow_103 (by first | omega | (rw [fset_at]; omega) | (simp only [Ls_len]; omega) | assumption | exact Ls_get (by omega) (by omega) | exact up_at _ _ _ | rfl | decide) ?_
          first
          | (exfalso; omega)
          | exact nx (by rw [← ub]; assumption)
        · intro hc3
          refine BX13_isNextRow_83 (by first | omega | (rw [fset_at]; omega) | (simp only [Ls_len]; omega) | assumption | exact Ls_get (by omega) (by omega) | exact up_at _ _ _ | rfl | decide) ?_ ?_
          · intro hc4
            first
            | (exfalso; omega)
            | exact nx (by rw [← ub]; assumption)
          · intro hc5
            refine BX13_isNextRow_92 (by first | assumption | exact up_at _ _ _ | (rw [up_ne (by omega)]; first | assumption | exact up_at _ _ _ | (rw [up_ne (by omega)]; assumption))) (by rfl) (by first | assumption | exact up_at _ _ _ | (rw [up_ne (by omega)]; first | assumption | exact up_at _ _ _ | (rw [up_ne (by omega)]; assumption))) (by first | omega | (rw [fset_at]; omega) | (simp only [Ls_len]; omega) | assumption | exact Ls_get (by omega) (by omega) | exact up_at _ _ _ | rfl | decide) (by first | omega | (rw [fset_at]; omega) | (simp only [Ls_len]; omega) | assumption | exact Ls_get (by omega) (by omega) | exact up_at _ _ _ | rfl | decide) (by first | omega | (rw [fset_at]; omega) | (simp only [Ls_len]; omega) | assumption | exact Ls_get (by omega) (by omega) | exact up_at _ _ _ | rfl | decide) ?_
            try rw [Ls_set (by omega)]
            refine BX13_isNextRow_100  ?_
            first
            | (exfalso; omega)
            | exact nx (by rw [← ub]; assumption)
      · intro hc6
        refine BX13_isNextRow_42 (by first | assumption | exact up_at _ _ _ | (rw [up_ne (by omega)]; first | assumption | exact up_at _ _ _ | (rw [up_ne (by omega)]; assumption))) ?_
        refine R_X13_isNew (by first | omega | (rw [fset_at]; omega) | (simp only [Ls_len]; omega) | assumption | exact Ls_get (by omega) (by omega) | exact up_at _ _ _ | rfl | decide) (by first | omega | (rw [fset_at]; omega) | (simp only [Ls_len]; omega) | assumption | exact Ls_get (by omega) (by omega) | exact up_at _ _ _ | rfl | decide) (by first | omega | (rw [fset_at]; omega) | (simp only [Ls_len]; omega) | assumption | exact Ls_get (by omega) (by omega) | exact up_at _ _ _ | rfl | decide) ?_ ?_
        · intro u47
          refine BX13_isNextRow_50  ?_ ?_
          · intro hc7
            refine BX13_isNextRow_67 (by first | assumption | exact up_at _ _ _ | (rw [up_ne (by omega)]; first | assumption | exact up_at _ _ _ | (rw [up_ne (by omega)]; assumption))) (by rfl) (by first | assumption | exact up_at _ _ _ | (rw [up_ne (by omega)]; first | assumption | exact up_at _ _ _ | (rw [up_ne (by omega)]; assumption))) (by first | omega | (rw [fset_at]; omega) | (simp only [Ls_len]; omega) | assumption | exact Ls_get (by omega) (by omega) | exact up_at _ _ _ | rfl | decide) (by first | exact Ls_get (by omega) (by omega) | assumption) (by rfl) (by first | assumption | exact up_at _ _ _ | (rw [up_ne (by omega)]; first | assumption | exact up_at _ _ _ | (rw [up_ne (by omega)]; assumption))) (by first | exact Ls_get (by omega) (by omega) | assumption) ?_ ?_
            · intro hc8
              refine BX13_isNextRow_103 (by first | omega | (rw [fset_at]; omega) | (simp only [Ls_len]; omega) | assumption | exact Ls_get (by omega) (by omega) | exact up_at _ _ _ | rfl | decide) ?_
              first
              | (exfalso; omega)
              | exact nx (by rw [← ub]; assumption)
            · intro hc9
              refine BX13_isNextRow_83 (by first | omega | (rw [fset_at]; omega) | (simp only [Ls_len]; omega) | assumption | exact Ls_get (by omega) (by omega) | exact up_at _ _ _ | rfl | decide) ?_ ?_
              · intro hc10
                first
                | (exfalso; omega)
                | exact nx (by rw [← ub]; assumption)
              · intro hc11
                refine BX13_isNextRow_92 (by first | assumption | exact up_at _ _ _ | (rw [up_ne (by omega)]; first | assumption | exact up_at _ _ _ | (rw [up_ne (by omega)]; assumption))) (by rfl) (by first | assumption | exact up_at _ _ _ | (rw [up_ne (by omega)]; first | assumption | exact up_at _ _ _ | (rw [up_ne (by omega)]; assumption))) (by first | omega | (rw [fset_at]; omega) | (simp only [Ls_len]; omega) | assumption | exact Ls_get (by omega) (by omega) | exact up_at _ _ _ | rfl | decide) (by first | omega | (rw [fset_at]; omega) | (simp only [Ls_len]; omega) | assumption | exact Ls_get (by omega) (by omega) | exact up_at _ _ _ | rfl | decide) (by first | omega | (rw [fset_at]; omega) | (simp only [Ls_len]; omega) | assumption | exact Ls_get (by omega) (by omega) | exact up_at _ _ _ | rfl | decide) ?_
                try rw [Ls_set (by omega)]
                refine BX13_isNextRow_100  ?_
                first
                | (exfalso; omega)
                | exact nx (by rw [← ub]; assumption)
          · intro hc12
            exact absurd hc12 (by decide)
        · intro u47
          refine BX13_isNextRow_50  ?_ ?_
          · intro hc13
            exact absurd hc13 (by decide)
          · intro hc14
            refine BX13_isNextRow_53 (by first | assumption | exact up_at _ _ _ | (rw [up_ne (by omega)]; first | assumption | exact up_at _ _ _ | (rw [up_ne (by omega)]; assumption))) (by rfl) (by first | assumption | exact up_at _ _ _ | (rw [up_ne (by omega)]; first | assumption | exact up_at _ _ _ | (rw [up_ne (by omega)]; assumption))) (by first | omega | (rw [fset_at]; omega) | (simp only [Ls_len]; omega) | assumption | exact Ls_get (by omega) (by omega) | exact up_at _ _ _ | rfl | decide) (by first | exact Ls_get (by omega) (by omega) | assumption) (by first | omega | (rw [fset_at]; omega) | (simp only [Ls_len]; omega) | assumption | exact Ls_get (by omega) (by omega) | exact up_at _ _ _ | rfl | decide) (by first | omega | (rw [fset_at]; omega) | (simp only [Ls_len]; omega) | assumption | exact Ls_get (by omega) (by omega) | exact up_at _ _ _ | rfl | decide) (by first | omega | (rw [fset_at]; omega) | (simp only [Ls_len]; omega) | assumption | exact Ls_get (by omega) (by omega) | exact up_at _ _ _ | rfl | decide) ?_
            try rw [Ls_set (by omega)]
            refine BX13_isNextRow_64  ?_
            rw [hk]
            rw [gU (by rw [← ub]; assumption)] at K
            exact ih (v + 1) row0 _ S _ x4 (by omega) (by omega) (fset_at _ _ _) (fun i i0 i1 => by rw [fset_ne (by omega)]; exact hp i i0 i1) s2 K
end RELAY4
