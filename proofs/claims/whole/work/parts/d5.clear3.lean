/-! Clear: the reference's shortest of two readings. -/
def BaP (Y L : Int → Int) (a b : Int) : Prop := ∀ k e, 0 ≤ k → k < Y 53 → 0 ≤ e → e < Y 53 → (k < a ∨ (k = a ∧ e < b)) → 0 < rsM (Y (12 + k)) (Y (12 + e)) → L (rsM (Y (12 + k)) (Y (12 + e))) ≤ digM (Y (12 + k))
def StP (Y L0 : Int → Int) (r f : Int) (L : Int → Int) : Prop := InvL Y L ∧ (∀ u, L u ≤ L0 u) ∧ ((f = 0 ∧ L = L0 ∧ ∀ r', 1 ≤ r' → r' < r → L0 r' < 1000000 → ∀ j, 0 ≤ j → j < Y 53 → clAt Y L0 r' j) ∨ (f = 1 ∧ muN L 1000 < muN L0 1000))
theorem StP.step {Y L0 L L1 : Int → Int} {r f fs : Int} (s : StP Y L0 r f L) (t : StL Y L r (Y 53) fs L1) : StP Y L0 (r + 1) (or32 f fs) L1 := by
  obtain ⟨s1, s2, s3⟩ := s
  obtain ⟨t1, t2, t3⟩ := t
  refine ⟨t1, fun u => by have := s2 u; have := t2 u; omega, ?_⟩
  have o00 : or32 0 0 = 0 := by decide
  have o01 : or32 0 1 = 1 := by decide
  have o10 : or32 1 0 = 1 := by decide
  have o11 : or32 1 1 = 1 := by decide
  rcases s3 with ⟨a, b, c⟩ | ⟨a, b⟩ <;> rcases t3 with ⟨a2, b2, c2⟩ | ⟨a2, b2⟩ <;> subst a <;> subst a2
  · subst b; subst b2
    refine .inl ⟨o00, rfl, fun r' r0 r1 lr j j0 j1 => ?_⟩
    by_cases q : r' = r
    · subst q; exact c2 j j0 j1
    · exact c r' r0 (by omega) lr j j0 j1
  · subst b; exact .inr ⟨o01, b2⟩
  · subst b2; exact .inr ⟨o10, b⟩
  · exact .inr ⟨o11, by omega⟩
theorem StP.skip {Y L0 L : Int → Int} {r f : Int} (s : StP Y L0 r f L) (h : 1000000 ≤ L r) : StP Y L0 (r + 1) f L := by
  obtain ⟨s1, s2, s3⟩ := s
  refine ⟨s1, s2, ?_⟩
  rcases s3 with ⟨a, b, c⟩ | a
  · subst b
    refine .inl ⟨a, rfl, fun r' r0 r1 lr j j0 j1 => ?_⟩
    by_cases q : r' = r
    · subst q; omega
    · exact c r' r0 (by omega) lr j j0 j1
  · exact .inr a
theorem BaP.le {Y L0 L : Int → Int} {a b : Int} (s : BaP Y L0 a b) (h : ∀ u, L u ≤ L0 u) : BaP Y L a b := fun k e k0 k1 e0 e1 q p => by
  have := s k e k0 k1 e0 e1 q p
  have := h (rsM (Y (12 + k)) (Y (12 + e)))
  omega
theorem BaP.next {Y L : Int → Int} {a b : Int} (s : BaP Y L a b) (h : 0 < rsM (Y (12 + a)) (Y (12 + b)) → L (rsM (Y (12 + a)) (Y (12 + b))) ≤ digM (Y (12 + a))) : BaP Y L a (b + 1) := fun k e k0 k1 e0 e1 q p => by
  by_cases z : k = a ∧ e = b
  · obtain ⟨z1, z2⟩ := z; subst z1; subst z2; exact h p
  · exact s k e k0 k1 e0 e1 (by omega) p
theorem BaP.row {Y L : Int → Int} {a : Int} (s : BaP Y L a (Y 53)) : BaP Y L (a + 1) 0 := fun k e k0 k1 e0 e1 q p => s k e k0 k1 e0 e1 (by omega) p
theorem PaN_le {Y L : Int → Int} (w : wdP Y) (i : InvL Y L) (b : BaP Y L (Y 53) 0) (cl : ∀ r, 1 ≤ r → r < 1000 → L r < 1000000 → ∀ j, 0 ≤ j → j < Y 53 → clAt Y L r j) : ∀ (m : Nat) (r v : Int), PaN Y m r v → L r ≤ v := by
  intro m
  induction m with
  | zero =>
    intro r v ⟨h0, k, e, hk, he, h1, h2⟩
    have := b k e hk.1 hk.2 he.1 he.2 (.inl hk.2) (by omega)
    rw [h1] at this
    omega
  | succ m ih =>
    intro r v hp
    have g := PaN_rg w (m + 1) r v hp
    obtain ⟨h0, r0, v0, k, hp0, hk, h⟩ := hp
    have g0 := PaN_rg w m r0 v0 hp0
    have z := ih r0 v0 hp0
    have lr := (i r (by omega) g.2.1).1
    have dr := digM_rg (v := r) (by omega) (by omega)
    by_cases q : L r0 < 1000000
    · have c := cl r0 (by omega) g0.2.1 q k hk.1 hk.2
      rcases h with ⟨h1, h2⟩ | ⟨h1, h2⟩
      · have c1 := c.1 (by omega)
        rw [h1] at c1; omega
      · have c1 := c.2 (by omega)
        rw [h1] at c1; omega
    · rcases h with ⟨h1, h2⟩ | ⟨h1, h2⟩ <;> omega
section CLEAR4
variable {d bc bs n : Nat} {g h : aH} {Q : aQ} {W V : Int → Int → Int} {X : Int → Tx} {F B : Int → Int} {wr cm : Int} {M : Int → Int → Int} {L : Int → Int}
theorem R_X13_shortestTwo {l1 l2 l3 : Option aV} (e : IsM g h M) (t : MT M W V X F B wr cm) (wd : wdP (W 2)) (k : ∀ h1 L1 v, IsM g h1 (fset M 12 L1) → clrP (W 2) v → Q (some (vI v)) h1 n) : Rn (d + 3) bc bs mX13_shortestTwo 0 [some (vR (some 301)), l1, l2, l3] [] h n Q := by
  have ty := t.1.1.2.2.1
  have ty2 : M 1 5 = W 2 53 := ty.1.2.1
  have ty7 := ty.2.2.1
  have w8 := wd.1
  have fin : ∀ (m : Nat) (j a : Int) (L1 : Int → Int) (h1 : aH) (l1 : Int), 0 ≤ j → j + m = W 2 53 → IsM g h1 (fset M 12 L1) → InvL (W 2) L1 → (∀ (m : Nat) (r v : Int), PaN (W 2) m r v → L1 r ≤ v) → (a = 1000000 ∨ (a < 1000000 ∧ ∃ i, 0 ≤ i ∧ i < W 2 53 ∧ W 2 (12 + i) < 1000 ∧ a = L1 (W 2 (12 + i)))) → (∀ i, 0 ≤ i → i < j → W 2 (12 + i) < 1000 → a ≤ L1 (W 2 (12 + i))) → Rn (d + 3) bc bs mX13_shortestTwo 179 [some (vR (some 301)), some (vI l1), some (vI a), some (vI j)] [] h1 n Q := by
    intro m
    induction m with
    | zero =>
      intro j a L1 h1 l1 j0 jm e1 il lw a1 a2
      have m0 := e1.o
      have m1 : h1 302 = cI (Ls 3389 (M 1)) := e1.a1
      have ej : j = W 2 53 := by omega
      subst ej
      refine BX13_shortestTwo_179 (by first | assumption | exact up_at _ _ _ | (rw [up_ne (by omega)]; first | assumption | exact up_at _ _ _ | (rw [up_ne (by omega)]; assumption))) (by rfl) (by first | assumption | exact up_at _ _ _ | (rw [up_ne (by omega)]; first | assumption | exact up_at _ _ _ | (rw [up_ne (by omega)]; assumption))) (by first | exact Ls_get (by omega) (by omega) | assumption) ?_ ?_
      · intro hc1
        first
        | (exfalso; omega)
        | (
            refine BX13_shortestTwo_246  ?_
            refine k _ _ _ e1 ⟨?_, fun m i v' i0 i1 hp => ?_⟩
            · rcases a1 with a1 | ⟨a1, i, i0, i1, i2, i3⟩
              · exact .inl a1
              · have wi := wd.2 i i0 i1
                obtain ⟨m, hp⟩ := (il (W 2 (12 + i)) (by omega) i2).2 (by omega)
                rw [← i3] at hp
                exact .inr ⟨a1, m, i, i0, i1, hp⟩
            · have g := PaN_rg wd m _ _ hp
              have := lw m _ _ hp
              have := a2 i i0 i1 g.2.1
              omega
          )
      · intro hc2
        first
        | (exfalso; omega)
        | (
            (exfalso; omega)
          )
    | succ m ih =>
      intro j a L1 h1 l1 j0 jm e1 il lw a1 a2
      have m0 := e1.o
      have m1 : h1 302 = cI (Ls 3389 (M 1)) := e1.a1
      have m12 : h1 313 = cI (Ls 1000 L1) := e1.a12
      have y7 := ty7 j j0 (by omega)
      have wj := wd.2 j j0 (by omega)
      rw [← y7] at wj
      have nxt : (M 1 (137 + j) < 1000 → a ≤ L1 (M 1 (137 + j))) → ∀ i, 0 ≤ i → i < j + 1 → W 2 (12 + i) < 1000 → a ≤ L1 (W 2 (12 + i)) := fun hh i i0 i1 i2 => by
        by_cases q : i = j
        · subst q; rw [← y7]; rw [← y7] at i2; exact hh i2
        · exact a2 i i0 (by omega) i2
      refine BX13_shortestTwo_179 (by first | assumption | exact up_at _ _ _ | (rw [up_ne (by omega)]; first | assumption | exact up_at _ _ _ | (rw [up_ne (by omega)]; assumption))) (by rfl) (by first | assumption | exact up_at _ _ _ | (rw [up_ne (by omega)]; first | assumption | exact up_at _ _ _ | (rw [up_ne (by omega)]; assumption))) (by first | exact Ls_get (by omega) (by omega) | assumption) ?_ ?_
      · intro hc1
        refine BX13_shortestTwo_246  ?_
        (exfalso; omega)
      · intro hc2
        refine BX13_shortestTwo_189 (by first | assumption | exact up_at _ _ _ | (rw [up_ne (by omega)]; first | assumption | exact up_at _ _ _ | (rw [up_ne (by omega)]; assumption))) (by rfl) (by first | omega | (rw [fset_at]; omega) | (simp only [Ls_len]; omega) | assumption | exact Ls_get (by omega) (by omega) | exact up_at _ _ _ | rfl | decide) (by first | assumption | exact up_at _ _ _ | (rw [up_ne (by omega)]; first | assumption | exact up_at _ _ _ | (rw [up_ne (by omega)]; assumption))) (by first | omega | (rw [fset_at]; omega) | (simp only [Ls_len]; omega) | assumption | exact Ls_get (by omega) (by omega) | exact up_at _ _ _ | rfl | decide) (by first | exact Ls_get (by omega) (by omega) | assumption) ?_ ?_
        · intro hc3
          refine BX13_shortestTwo_240 (by first | omega | (rw [fset_at]; omega) | (simp only [Ls_len]; omega) | assumption | exact Ls_get (by omega) (by omega) | exact up_at _ _ _ | rfl | decide) ?_
          first
          | exact ih (j + 1) a L1 h1 _ (by omega) (by omega) e1 il lw a1 (nxt (fun _ => by omega))
          | (have al : a ≤ 1000000 := (by rcases a1 with q | q; (rw [q]; exact Int.le_refl _); exact Int.le_of_lt q.1); clear a1; refine ih (j + 1) (L1 (M 1 (137 + j))) L1 h1 _ (by omega) (by omega) e1 il lw (.inr ⟨by omega, j, j0, by omega, by rw [← y7]; omega, by rw [← y7]⟩) (fun i i0 i1 i2 => ?_); by_cases q : i = j; (subst q; rw [y7]; exact Int.le_refl _); have := a2 i i0 (by omega) i2; omega)
        · intro hc4
          refine BX13_shortestTwo_205 (by first | assumption | exact up_at _ _ _ | (rw [up_ne (by omega)]; first | assumption | exact up_at _ _ _ | (rw [up_ne (by omega)]; assumption))) (by rfl) (by rfl) (by first | omega | (rw [fset_at]; omega) | (simp only [Ls_len]; omega) | assumption | exact Ls_get (by omega) (by omega) | exact up_at _ _ _ | rfl | decide) (by first | assumption | exact up_at _ _ _ | (rw [up_ne (by omega)]; first | assumption | exact up_at _ _ _ | (rw [up_ne (by omega)]; assumption))) (by first | omega | (rw [fset_at]; omega) | (simp only [Ls_len]; omega) | assumption | exact Ls_get (by omega) (by omega) | exact up_at _ _ _ | rfl | decide) (by first | exact Ls_get (by omega) (by omega) | assumption) (by first | assumption | exact up_at _ _ _ | (rw [up_ne (by omega)]; first | assumption | exact up_at _ _ _ | (rw [up_ne (by omega)]; assumption))) (by first | omega | (rw [fset_at]; omega) | (simp only [Ls_len]; omega) | assumption | exact Ls_get (by omega) (by omega) | exact up_at _ _ _ | rfl | decide) (by first | exact Ls_get (by omega) (by omega) | assumption) ?_ ?_
          · intro hc5
            refine BX13_shortestTwo_240 (by first | omega | (rw [fset_at]; omega) | (simp only [Ls_len]; omega) | assumption | exact Ls_get (by omega) (by omega) | exact up_at _ _ _ | rfl | decide) ?_
            first
            | exact ih (j + 1) a L1 h1 _ (by omega) (by omega) e1 il lw a1 (nxt (fun _ => by omega))
            | (have al : a ≤ 1000000 := (by rcases a1 with q | q; (rw [q]; exact Int.le_refl _); exact Int.le_of_lt q.1); clear a1; refine ih (j + 1) (L1 (M 1 (137 + j))) L1 h1 _ (by omega) (by omega) e1 il lw (.inr ⟨by omega, j, j0, by omega, by rw [← y7]; omega, by rw [← y7]⟩) (fun i i0 i1 i2 => ?_); by_cases q : i = j; (subst q; rw [y7]; exact Int.le_refl _); have := a2 i i0 (by omega) i2; omega)
          · intro hc6
            refine BX13_shortestTwo_224 (by first | assumption | exact up_at _ _ _ | (rw [up_ne (by omega)]; first | assumption | exact up_at _ _ _ | (rw [up_ne (by omega)]; assumption))) (by rfl) (by rfl) (by first | omega | (rw [fset_at]; omega) | (simp only [Ls_len]; omega) | assumption | exact Ls_get (by omega) (by omega) | exact up_at _ _ _ | rfl | decide) (by first | assumption | exact up_at _ _ _ | (rw [up_ne (by omega)]; first | assumption | exact up_at _ _ _ | (rw [up_ne (by omega)]; assumption))) (by first | omega | (rw [fset_at]; omega) | (simp only [Ls_len]; omega) | assumption | exact Ls_get (by omega) (by omega) | exact up_at _ _ _ | rfl | decide) (by first | exact Ls_get (by omega) (by omega) | assumption) (by first | assumption | exact up_at _ _ _ | (rw [up_ne (by omega)]; first | assumption | exact up_at _ _ _ | (rw [up_ne (by omega)]; assumption))) (by first | omega | (rw [fset_at]; omega) | (simp only [Ls_len]; omega) | assumption | exact Ls_get (by omega) (by omega) | exact up_at _ _ _ | rfl | decide) (by first | exact Ls_get (by omega) (by omega) | assumption) (by first | omega | (rw [fset_at]; omega) | (simp only [Ls_len]; omega) | assumption | exact Ls_get (by omega) (by omega) | exact up_at _ _ _ | rfl | decide) ?_
            first
            | exact ih (j + 1) a L1 h1 _ (by omega) (by omega) e1 il lw a1 (nxt (fun _ => by omega))
            | (have al : a ≤ 1000000 := (by rcases a1 with q | q; (rw [q]; exact Int.le_refl _); exact Int.le_of_lt q.1); clear a1; refine ih (j + 1) (L1 (M 1 (137 + j))) L1 h1 _ (by omega) (by omega) e1 il lw (.inr ⟨by omega, j, j0, by omega, by rw [← y7]; omega, by rw [← y7]⟩) (fun i i0 i1 i2 => ?_); by_cases q : i = j; (subst q; rw [y7]; exact Int.le_refl _); have := a2 i i0 (by omega) i2; omega)
  have done : ∀ (L1 : Int → Int) (h1 : aH) (l2 l3 : Option aV), IsM g h1 (fset M 12 L1) → InvL (W 2) L1 → (∀ (m : Nat) (r v : Int), PaN (W 2) m r v → L1 r ≤ v) → Rn (d + 3) bc bs mX13_shortestTwo 129 [some (vR (some 301)), some (vI 0), l2, l3] [] h1 n Q := by
    intro L1 h1 l2 l3 e1 il lw
    refine BX13_shortestTwo_129  ?_ ?_
    · intro hc1
      first
      | (exfalso; omega)
      | (
          refine BX13_shortestTwo_173  ?_
          exact fin (W 2 53).toNat 0 1000000 L1 h1 _ (by decide) (by omega) e1 il lw (.inl rfl) (fun i i0 i1 => by omega)
        )
    · intro hc2
      first
      | (exfalso; omega)
      | (
          (exfalso; omega)
        )
  have pass : ∀ (N : Nat) (L0 : Int → Int) (h0 : aH) (l2 l3 : Option aV), muN L0 1000 < N → IsM g h0 (fset M 12 L0) → InvL (W 2) L0 → BaP (W 2) L0 (W 2 53) 0 → Rn (d + 3) bc bs mX13_shortestTwo 129 [some (vR (some 301)), some (vI 1), l2, l3] [] h0 n Q := by
    intro N
    induction N with
    | zero => intro L0 h0 l2 l3 hN; omega
    | succ N ihN =>
      intro L0 h0 l2 l3 hN e0 il0 b0
      have inner : ∀ (m : Nat) (r f : Int) (L1 : Int → Int) (h1 : aH) (l3 : Option aV), 1 ≤ r → r + m = 1000 → IsM g h1 (fset M 12 L1) → StP (W 2) L0 r f L1 → Rn (d + 3) bc bs mX13_shortestTwo 137 [some (vR (some 301)), some (vI f), some (vI r), l3] [] h1 n Q := by
        intro m
        induction m with
        | zero =>
          intro r f L1 h1 l3 r0 rm e1 st
          have er : r = 1000 := by omega
          subst er
          refine BX13_shortestTwo_137  ?_ ?_
          · intro hc1
            first
            | (exfalso; omega)
            | (
                refine BX13_shortestTwo_170  ?_
                obtain ⟨s1, s2, s3⟩ := st
                rcases s3 with ⟨a, b, c⟩ | ⟨a, b⟩
                · subst a; subst b
                  exact done _ _ _ _ e1 s1 (PaN_le wd s1 b0 c)
                · subst a
                  exact ihN L1 h1 _ _ (by omega) e1 s1 (b0.le s2)
              )
          · intro hc2
            first
            | (exfalso; omega)
            | (
                (exfalso; omega)
              )
        | succ m ih =>
          intro r f L1 h1 l3 r0 rm e1 st
          have m0 := e1.o
          have m12 : h1 313 = cI (Ls 1000 L1) := e1.a12
          have il1 := st.1
          refine BX13_shortestTwo_137  ?_ ?_
          · intro hc1
            (exfalso; omega)
          · intro hc2
            refine BX13_shortestTwo_144 (by first | assumption | exact up_at _ _ _ | (rw [up_ne (by omega)]; first | assumption | exact up_at _ _ _ | (rw [up_ne (by omega)]; assumption))) (by rfl) (by first | assumption | exact up_at _ _ _ | (rw [up_ne (by omega)]; first | assumption | exact up_at _ _ _ | (rw [up_ne (by omega)]; assumption))) (by first | omega | (rw [fset_at]; omega) | (simp only [Ls_len]; omega) | assumption | exact Ls_get (by omega) (by omega) | exact up_at _ _ _ | rfl | decide) (by first | exact Ls_get (by omega) (by omega) | assumption) ?_ ?_
            · intro hc3
              refine BX13_shortestTwo_164 (by first | omega | (rw [fset_at]; omega) | (simp only [Ls_len]; omega) | assumption | exact Ls_get (by omega) (by omega) | exact up_at _ _ _ | rfl | decide) ?_
              first
              | exact ih (r + 1) f L1 h1 _ (by omega) (by omega) e1 (st.skip (by omega))
              | exact ih (r + 1) _ _ _ _ (by omega) (by omega) e159 (st.step st159)
            · intro hc4
              refine BX13_shortestTwo_156 (by first | assumption | exact up_at _ _ _ | (rw [up_ne (by omega)]; first | assumption | exact up_at _ _ _ | (rw [up_ne (by omega)]; assumption))) ?_
              refine R_X13_isSpread (by first | omega | (rw [fset_at]; omega) | (simp only [Ls_len]; omega) | assumption | exact Ls_get (by omega) (by omega) | exact up_at _ _ _ | rfl | decide) (by first | omega | (rw [fset_at]; omega) | (simp only [Ls_len]; omega) | assumption | exact Ls_get (by omega) (by omega) | exact up_at _ _ _ | rfl | decide) (by first | omega | (rw [fset_at]; omega) | (simp only [Ls_len]; omega) | assumption | exact Ls_get (by omega) (by omega) | exact up_at _ _ _ | rfl | decide) (by first | omega | (rw [fset_at]; omega) | (simp only [Ls_len]; omega) | assumption | exact Ls_get (by omega) (by omega) | exact up_at _ _ _ | rfl | decide) (by first | omega | (rw [fset_at]; omega) | (simp only [Ls_len]; omega) | assumption | exact Ls_get (by omega) (by omega) | exact up_at _ _ _ | rfl | decide) (by first | omega | (rw [fset_at]; omega) | (simp only [Ls_len]; omega) | assumption | exact Ls_get (by omega) (by omega) | exact up_at _ _ _ | rfl | decide) (by first | omega | (rw [fset_at]; omega) | (simp only [Ls_len]; omega) | assumption | exact Ls_get (by omega) (by omega) | exact up_at _ _ _ | rfl | decide) ?_
              intro h159 f159 L159 e159 st159
              refine BX13_shortestTwo_162 (by first | omega | (rw [fset_at]; omega) | (simp only [Ls_len]; omega) | assumption | exact Ls_get (by omega) (by omega) | exact up_at _ _ _ | rfl | decide) ?_
              first
              | exact ih (r + 1) f L1 h1 _ (by omega) (by omega) e1 (st.skip (by omega))
              | exact ih (r + 1) _ _ _ _ (by omega) (by omega) e159 (st.step st159)
      refine BX13_shortestTwo_129  ?_ ?_
      · intro hc1
        first
        | (exfalso; omega)
        | (
            (exfalso; omega)
          )
      · intro hc2
        first
        | (exfalso; omega)
        | (
            refine BX13_shortestTwo_133  ?_
            exact inner 999 1 0 L0 h0 _ (by decide) (by decide) e0 ⟨il0, fun _ => Int.le_refl _, .inl ⟨rfl, rfl, fun r' r0 r1 => by omega⟩⟩
          )
  have ph2 : ∀ (m : Nat) (i : Int) (L1 : Int → Int) (h1 : aH) (l2 l3 : Option aV), 0 ≤ i → i + m = W 2 53 → IsM g h1 (fset M 12 L1) → InvL (W 2) L1 → BaP (W 2) L1 i 0 → Rn (d + 3) bc bs mX13_shortestTwo 26 [some (vR (some 301)), some (vI i), l2, l3] [] h1 n Q := by
    intro m
    induction m with
    | zero =>
      intro i L1 h1 l2 l3 i0 im e1 il b
      have m0 := e1.o
      have m1 : h1 302 = cI (Ls 3389 (M 1)) := e1.a1
      have ei : i = W 2 53 := by omega
      subst ei
      refine BX13_shortestTwo_26 (by first | assumption | exact up_at _ _ _ | (rw [up_ne (by omega)]; first | assumption | exact up_at _ _ _ | (rw [up_ne (by omega)]; assumption))) (by rfl) (by first | assumption | exact up_at _ _ _ | (rw [up_ne (by omega)]; first | assumption | exact up_at _ _ _ | (rw [up_ne (by omega)]; assumption))) (by first | exact Ls_get (by omega) (by omega) | assumption) ?_ ?_
      · intro hc1
        first
        | (exfalso; omega)
        | (
            refine BX13_shortestTwo_127  ?_
            exact pass _ L1 h1 _ _ (Nat.lt_succ_self _) e1 il b
          )
      · intro hc2
        first
        | (exfalso; omega)
        | (
            (exfalso; omega)
          )
    | succ m ih =>
      intro i L1 h1 l2 l3 i0 im e1 il b
      have inner : ∀ (p : Nat) (j : Int) (L1 : Int → Int) (h1 : aH) (l3 : Option aV), 0 ≤ j → j + p = W 2 53 → IsM g h1 (fset M 12 L1) → InvL (W 2) L1 → BaP (W 2) L1 i j → Rn (d + 3) bc bs mX13_shortestTwo 38 [some (vR (some 301)), some (vI i), some (vI j), l3] [] h1 n Q := by
        intro p
        induction p with
        | zero =>
          intro j L1 h1 l3 j0 jm e1 il b
          have m0 := e1.o
          have m1 : h1 302 = cI (Ls 3389 (M 1)) := e1.a1
          have ej : j = W 2 53 := by omega
          subst ej
          refine BX13_shortestTwo_38 (by first | assumption | exact up_at _ _ _ | (rw [up_ne (by omega)]; first | assumption | exact up_at _ _ _ | (rw [up_ne (by omega)]; assumption))) (by rfl) (by first | assumption | exact up_at _ _ _ | (rw [up_ne (by omega)]; first | assumption | exact up_at _ _ _ | (rw [up_ne (by omega)]; assumption))) (by first | exact Ls_get (by omega) (by omega) | assumption) ?_ ?_
          · intro hc1
            first
            | (exfalso; omega)
            | (
                refine BX13_shortestTwo_121 (by first | omega | (rw [fset_at]; omega) | (simp only [Ls_len]; omega) | assumption | exact Ls_get (by omega) (by omega) | exact up_at _ _ _ | rfl | decide) ?_
                exact ih (i + 1) L1 h1 _ _ (by omega) (by omega) e1 il b.row
              )
          · intro hc2
            first
            | (exfalso; omega)
            | (
                (exfalso; omega)
              )
        | succ p ihp =>
          intro j L1 h1 l3 j0 jm e1 il b
          have m0 := e1.o
          have m1 : h1 302 = cI (Ls 3389 (M 1)) := e1.a1
          have m12 : h1 313 = cI (Ls 1000 L1) := e1.a12
          have yi := ty7 i i0 (by omega)
          have wi := wd.2 i i0 (by omega)
          rw [← yi] at wi
          have yj := ty7 j j0 (by omega)
          have wj := wd.2 j j0 (by omega)
          rw [← yj] at wj
          have g1 := rsM_rg (a := M 1 (137 + i)) (b := M 1 (137 + j)) wi.1 wi.2 wj.1 wj.2
          have dg := digM_rg (v := M 1 (137 + i)) wi.1 wi.2
          have nx : (0 < rsM (M 1 (137 + i)) (M 1 (137 + j)) → L1 (rsM (M 1 (137 + i)) (M 1 (137 + j))) ≤ digM (M 1 (137 + i))) → BaP (W 2) L1 i (j + 1) := fun hh => b.next (by rw [← yi, ← yj]; exact hh)
          have ip : 0 < rsM (M 1 (137 + i)) (M 1 (137 + j)) → ∃ m, PaN (W 2) m (rsM (M 1 (137 + i)) (M 1 (137 + j))) (digM (M 1 (137 + i))) := fun hh => ⟨0, hh, i, j, ⟨i0, by omega⟩, ⟨j0, by omega⟩, by rw [yi, yj], by rw [yi]⟩
          refine BX13_shortestTwo_38 (by first | assumption | exact up_at _ _ _ | (rw [up_ne (by omega)]; first | assumption | exact up_at _ _ _ | (rw [up_ne (by omega)]; assumption))) (by rfl) (by first | assumption | exact up_at _ _ _ | (rw [up_ne (by omega)]; first | assumption | exact up_at _ _ _ | (rw [up_ne (by omega)]; assumption))) (by first | exact Ls_get (by omega) (by omega) | assumption) ?_ ?_
          · intro hc1
            (exfalso; omega)
          · intro hc2
            refine BX13_shortestTwo_48 (by first | assumption | exact up_at _ _ _ | (rw [up_ne (by omega)]; first | assumption | exact up_at _ _ _ | (rw [up_ne (by omega)]; assumption))) (by rfl) (by first | omega | (rw [fset_at]; omega) | (simp only [Ls_len]; omega) | assumption | exact Ls_get (by omega) (by omega) | exact up_at _ _ _ | rfl | decide) (by first | assumption | exact up_at _ _ _ | (rw [up_ne (by omega)]; first | assumption | exact up_at _ _ _ | (rw [up_ne (by omega)]; assumption))) (by first | omega | (rw [fset_at]; omega) | (simp only [Ls_len]; omega) | assumption | exact Ls_get (by omega) (by omega) | exact up_at _ _ _ | rfl | decide) (by first | exact Ls_get (by omega) (by omega) | assumption) (by first | omega | (rw [fset_at]; omega) | (simp only [Ls_len]; omega) | assumption | exact Ls_get (by omega) (by omega) | exact up_at _ _ _ | rfl | decide) (by first | omega | (rw [fset_at]; omega) | (simp only [Ls_len]; omega) | assumption | exact Ls_get (by omega) (by omega) | exact up_at _ _ _ | rfl | decide) (by first | exact Ls_get (by omega) (by omega) | assumption) ?_
            refine R_X13_restOf (by first | omega | (rw [fset_at]; omega) | (simp only [Ls_len]; omega) | assumption | exact Ls_get (by omega) (by omega) | exact up_at _ _ _ | rfl | decide) (by first | omega | (rw [fset_at]; omega) | (simp only [Ls_len]; omega) | assumption | exact Ls_get (by omega) (by omega) | exact up_at _ _ _ | rfl | decide) (by first | omega | (rw [fset_at]; omega) | (simp only [Ls_len]; omega) | assumption | exact Ls_get (by omega) (by omega) | exact up_at _ _ _ | rfl | decide) (by first | omega | (rw [fset_at]; omega) | (simp only [Ls_len]; omega) | assumption | exact Ls_get (by omega) (by omega) | exact up_at _ _ _ | rfl | decide) ?_
            refine BX13_shortestTwo_71  ?_ ?_
            · intro hc3
              refine BX13_shortestTwo_115 (by first | omega | (rw [fset_at]; omega) | (simp only [Ls_len]; omega) | assumption | exact Ls_get (by omega) (by omega) | exact up_at _ _ _ | rfl | decide) ?_
              first
              | exact ihp (j + 1) L1 h1 _ (by omega) (by omega) e1 il (nx (fun _ => by omega))
              | (refine ihp (j + 1) _ _ _ (by omega) (by omega) e111 (il.upd (by omega) x111 (by omega) g1 (ip (by omega))) ?_; refine (b.le (fun u => ?_)).next (fun _ => ?_); (by_cases q : u = rsM (M 1 (137 + i)) (M 1 (137 + j)); (subst q; rw [fset_at]; omega); rw [fset_ne q]; exact Int.le_refl _); rw [← yi, ← yj, fset_at]; exact Int.le_refl _)
            · intro hc4
              refine BX13_shortestTwo_74 (by first | assumption | exact up_at _ _ _ | (rw [up_ne (by omega)]; first | assumption | exact up_at _ _ _ | (rw [up_ne (by omega)]; assumption))) (by rfl) (by first | omega | (rw [fset_at]; omega) | (simp only [Ls_len]; omega) | assumption | exact Ls_get (by omega) (by omega) | exact up_at _ _ _ | rfl | decide) (by first | assumption | exact up_at _ _ _ | (rw [up_ne (by omega)]; first | assumption | exact up_at _ _ _ | (rw [up_ne (by omega)]; assumption))) (by first | omega | (rw [fset_at]; omega) | (simp only [Ls_len]; omega) | assumption | exact Ls_get (by omega) (by omega) | exact up_at _ _ _ | rfl | decide) (by first | exact Ls_get (by omega) (by omega) | assumption) (by first | omega | (rw [fset_at]; omega) | (simp only [Ls_len]; omega) | assumption | exact Ls_get (by omega) (by omega) | exact up_at _ _ _ | rfl | decide) (by first | omega | (rw [fset_at]; omega) | (simp only [Ls_len]; omega) | assumption | exact Ls_get (by omega) (by omega) | exact up_at _ _ _ | rfl | decide) (by first | exact Ls_get (by omega) (by omega) | assumption) ?_
              refine R_X13_restOf (by first | omega | (rw [fset_at]; omega) | (simp only [Ls_len]; omega) | assumption | exact Ls_get (by omega) (by omega) | exact up_at _ _ _ | rfl | decide) (by first | omega | (rw [fset_at]; omega) | (simp only [Ls_len]; omega) | assumption | exact Ls_get (by omega) (by omega) | exact up_at _ _ _ | rfl | decide) (by first | omega | (rw [fset_at]; omega) | (simp only [Ls_len]; omega) | assumption | exact Ls_get (by omega) (by omega) | exact up_at _ _ _ | rfl | decide) (by first | omega | (rw [fset_at]; omega) | (simp only [Ls_len]; omega) | assumption | exact Ls_get (by omega) (by omega) | exact up_at _ _ _ | rfl | decide) ?_
              refine BX13_shortestTwo_98 (by first | assumption | exact up_at _ _ _ | (rw [up_ne (by omega)]; first | assumption | exact up_at _ _ _ | (rw [up_ne (by omega)]; assumption))) (by rfl) (by first | omega | (rw [fset_at]; omega) | (simp only [Ls_len]; omega) | assumption | exact Ls_get (by omega) (by omega) | exact up_at _ _ _ | rfl | decide) (by first | assumption | exact up_at _ _ _ | (rw [up_ne (by omega)]; first | assumption | exact up_at _ _ _ | (rw [up_ne (by omega)]; assumption))) (by first | omega | (rw [fset_at]; omega) | (simp only [Ls_len]; omega) | assumption | exact Ls_get (by omega) (by omega) | exact up_at _ _ _ | rfl | decide) (by first | exact Ls_get (by omega) (by omega) | assumption) ?_
              refine R_X13_longOf (by first | omega | (rw [fset_at]; omega) | (simp only [Ls_len]; omega) | assumption | exact Ls_get (by omega) (by omega) | exact up_at _ _ _ | rfl | decide) (by first | omega | (rw [fset_at]; omega) | (simp only [Ls_len]; omega) | assumption | exact Ls_get (by omega) (by omega) | exact up_at _ _ _ | rfl | decide) ?_
              refine BX13_shortestTwo_111 (by first | assumption | exact up_at _ _ _ | (rw [up_ne (by omega)]; first | assumption | exact up_at _ _ _ | (rw [up_ne (by omega)]; assumption))) ?_
              refine R_X13_isShorter (by first | omega | (rw [fset_at]; omega) | (simp only [Ls_len]; omega) | assumption | exact Ls_get (by omega) (by omega) | exact up_at _ _ _ | rfl | decide) (by first | omega | (rw [fset_at]; omega) | (simp only [Ls_len]; omega) | assumption | exact Ls_get (by omega) (by omega) | exact up_at _ _ _ | rfl | decide) (by first | omega | (rw [fset_at]; omega) | (simp only [Ls_len]; omega) | assumption | exact Ls_get (by omega) (by omega) | exact up_at _ _ _ | rfl | decide) ?_ ?_
              · intro x111
                refine BX13_shortestTwo_114 (by first | omega | (rw [fset_at]; omega) | (simp only [Ls_len]; omega) | assumption | exact Ls_get (by omega) (by omega) | exact up_at _ _ _ | rfl | decide) ?_
                first
                | exact ihp (j + 1) L1 h1 _ (by omega) (by omega) e1 il (nx (fun _ => by omega))
                | (refine ihp (j + 1) _ _ _ (by omega) (by omega) e111 (il.upd (by omega) x111 (by omega) g1 (ip (by omega))) ?_; refine (b.le (fun u => ?_)).next (fun _ => ?_); (by_cases q : u = rsM (M 1 (137 + i)) (M 1 (137 + j)); (subst q; rw [fset_at]; omega); rw [fset_ne q]; exact Int.le_refl _); rw [← yi, ← yj, fset_at]; exact Int.le_refl _)
              · intro x111 h111 e111
                refine BX13_shortestTwo_114 (by first | omega | (rw [fset_at]; omega) | (simp only [Ls_len]; omega) | assumption | exact Ls_get (by omega) (by omega) | exact up_at _ _ _ | rfl | decide) ?_
                first
                | exact ihp (j + 1) L1 h1 _ (by omega) (by omega) e1 il (nx (fun _ => by omega))
                | (refine ihp (j + 1) _ _ _ (by omega) (by omega) e111 (il.upd (by omega) x111 (by omega) g1 (ip (by omega))) ?_; refine (b.le (fun u => ?_)).next (fun _ => ?_); (by_cases q : u = rsM (M 1 (137 + i)) (M 1 (137 + j)); (subst q; rw [fset_at]; omega); rw [fset_ne q]; exact Int.le_refl _); rw [← yi, ← yj, fset_at]; exact Int.le_refl _)
      have m0 := e1.o
      have m1 : h1 302 = cI (Ls 3389 (M 1)) := e1.a1
      refine BX13_shortestTwo_26 (by first | assumption | exact up_at _ _ _ | (rw [up_ne (by omega)]; first | assumption | exact up_at _ _ _ | (rw [up_ne (by omega)]; assumption))) (by rfl) (by first | assumption | exact up_at _ _ _ | (rw [up_ne (by omega)]; first | assumption | exact up_at _ _ _ | (rw [up_ne (by omega)]; assumption))) (by first | exact Ls_get (by omega) (by omega) | assumption) ?_ ?_
      · intro hc1
        first
        | (exfalso; omega)
        | (
            refine BX13_shortestTwo_127  ?_
            (exfalso; omega)
          )
      · intro hc2
        first
        | (exfalso; omega)
        | (
            refine BX13_shortestTwo_36  ?_
            exact inner (W 2 53).toNat 0 L1 h1 _ (by decide) (by omega) e1 il b
          )
  have ph1 : ∀ (m : Nat) (i : Int) (L1 : Int → Int) (h1 : aH) (l2 l3 : Option aV), 0 ≤ i → i + m = 1000 → IsM g h1 (fset M 12 L1) → (∀ u, 0 ≤ u → u < i → L1 u = 1000000) → Rn (d + 3) bc bs mX13_shortestTwo 2 [some (vR (some 301)), some (vI i), l2, l3] [] h1 n Q := by
    intro m
    induction m with
    | zero =>
      intro i L1 h1 l2 l3 i0 im e1 hu
      have ei : i = 1000 := by omega
      subst ei
      refine BX13_shortestTwo_2  ?_ ?_
      · intro hc1
        first
        | (exfalso; omega)
        | (
            refine BX13_shortestTwo_24  ?_
            exact ph2 (W 2 53).toNat 0 L1 h1 _ _ (by decide) (by omega) e1 (fun r r0 r1 => by rw [hu r r0 r1]; exact ⟨by decide, fun z => by omega⟩) (fun k e k0 k1 e0 e1 q p => by omega)
          )
      · intro hc2
        first
        | (exfalso; omega)
        | (
            (exfalso; omega)
          )
    | succ m ih =>
      intro i L1 h1 l2 l3 i0 im e1 hu
      have m0 := e1.o
      have m12 : h1 313 = cI (Ls 1000 L1) := e1.a12
      have e2 := e1.s12 (f := fset L1 i 1000000)
      rw [fset2] at e2
      refine BX13_shortestTwo_2  ?_ ?_
      · intro hc1
        (exfalso; omega)
      · intro hc2
        refine BX13_shortestTwo_9 (by first | assumption | exact up_at _ _ _ | (rw [up_ne (by omega)]; first | assumption | exact up_at _ _ _ | (rw [up_ne (by omega)]; assumption))) (by rfl) (by first | assumption | exact up_at _ _ _ | (rw [up_ne (by omega)]; first | assumption | exact up_at _ _ _ | (rw [up_ne (by omega)]; assumption))) (by first | omega | (rw [fset_at]; omega) | (simp only [Ls_len]; omega) | assumption | exact Ls_get (by omega) (by omega) | exact up_at _ _ _ | rfl | decide) (by first | omega | (rw [fset_at]; omega) | (simp only [Ls_len]; omega) | assumption | exact Ls_get (by omega) (by omega) | exact up_at _ _ _ | rfl | decide) (by first | omega | (rw [fset_at]; omega) | (simp only [Ls_len]; omega) | assumption | exact Ls_get (by omega) (by omega) | exact up_at _ _ _ | rfl | decide) ?_
        try rw [Ls_set (by omega)]
        refine BX13_shortestTwo_18 (by first | omega | (rw [fset_at]; omega) | (simp only [Ls_len]; omega) | assumption | exact Ls_get (by omega) (by omega) | exact up_at _ _ _ | rfl | decide) ?_
        refine ih (i + 1) _ _ _ _ (by omega) (by omega) e2 (fun u u0 u1 => ?_)
        by_cases q : u = i
        · subst q; rw [fset_at]
        · rw [fset_ne q]; exact hu u u0 (by omega)
  have e0 : IsM g h (fset M 12 (M 12)) := by
    rw [show fset M 12 (M 12) = M from by funext j; by_cases q : j = 12; (subst q; rw [fset_at]); rw [fset_ne q]]; exact e
  refine BX13_shortestTwo_0  ?_
  exact ph1 1000 0 (M 12) h _ _ (by decide) (by decide) e0 (fun u u0 u1 => by omega)
end CLEAR4
