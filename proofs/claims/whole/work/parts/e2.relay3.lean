/-! Relays in the reference: all rows of others, one by one. -/
abbrev Sl : Type := Int × Int × (Int → Int)
def fcp (row bb : Int → Int) (m : Int) : Int → Int := fun i => if 0 ≤ i ∧ i < m then row i else bb i
def tmR (W : Int → Int → Int) (fr to many : Int) (row : Int → Int) : Int := wbF W to many row (many + 1).toNat 0 fr 0
def leafS (W : Int → Int → Int) (fr to many : Int) (row : Int → Int) (S : Sl) : Sl := if tmR W fr to many row < S.1 then (tmR W fr to many row, many, fcp row S.2.2 many) else S
def flN {α : Type} (g : Int → α → α) : Nat → Int → α → α
  | 0, _, S => S
  | m + 1, v, S => flN g m (v + 1) (g v S)
def enN (W : Int → Int → Int) (fr to many : Int) : Nat → Int → (Int → Int) → Sl → Sl
  | 0, _, row, S => leafS W fr to many row S
  | j + 1, k, row, S => flN (fun nx S => if usB fr to row nx k.toNat = true then S else enN W fr to many j (k + 1) (fset row k nx) S) (W 3 3).toNat 0 S
def gR (W : Int → Int → Int) (fr to many k : Int) (row : Int → Int) (j : Nat) (nx : Int) (S : Sl) : Sl := if usB fr to row nx k.toNat = true then S else enN W fr to many j (k + 1) (fset row k nx) S
def laS (W : Int → Int → Int) (fr to : Int) : Nat → Sl → Sl
  | 0, S => S
  | c + 1, S => enN W fr to c c 0 (fun _ => 0) (laS W fr to c S)
theorem usB_ext {fr to v : Int} {row row' : Int → Int} : ∀ k : Nat, (∀ i : Int, 0 ≤ i → i < k → row i = row' i) → usB fr to row v k = usB fr to row' v k := by
  intro k
  induction k with
  | zero => intro _; rfl
  | succ k ih =>
    intro h
    unfold usB
    rw [ih (fun i i0 i1 => h i i0 (by omega)), h k (by omega) (by omega)]
theorem wbF_ext {W : Int → Int → Int} {to many : Int} {row row' : Int → Int} (h : ∀ i : Int, 0 ≤ i → i < many → row i = row' i) : ∀ (f : Nat) (k p t : Int), 0 ≤ k → k + f = many + 1 → wbF W to many row f k p t = wbF W to many row' f k p t := by
  intro f
  induction f with
  | zero => intro k p t _ _; rfl
  | succ f ih =>
    intro k p t k0 kf
    unfold wbF
    by_cases q : k = many
    · simp only [if_pos q]; rw [ih (k + 1) _ _ (by omega) (by omega)]
    · simp only [if_neg q]; rw [h k k0 (by omega), ih (k + 1) _ _ (by omega) (by omega)]
theorem leafS_ext {W : Int → Int → Int} {fr to many : Int} {row row' : Int → Int} {S : Sl} (m0 : 0 ≤ many) (h : ∀ i : Int, 0 ≤ i → i < many → row i = row' i) : leafS W fr to many row S = leafS W fr to many row' S := by
  have e1 : tmR W fr to many row = tmR W fr to many row' := wbF_ext h _ _ _ _ (by decide) (by omega)
  have e2 : fcp row S.2.2 many = fcp row' S.2.2 many := by
    funext i
    unfold fcp
    split
    next q => exact h i q.1 q.2
    next => rfl
  unfold leafS
  rw [e1, e2]
def StR (g h : aH) (W V : Int → Int → Int) (X : Int → Tx) (F B : Int → Int) (wr cm : Int) (row : Int → Int) (S : Sl) : Prop := ∃ M, IsM g h M ∧ MT M W V X F B wr cm ∧ M 10 = row ∧ M 11 = S.2.2 ∧ M 0 28 = S.2.1 ∧ M 0 29 = S.1
section RELAY3
variable {d bc bs n : Nat} {g h : aH} {Q : aQ} {W V : Int → Int → Int} {X : Int → Tx} {F B : Int → Int} {wr cm : Int} {M : Int → Int → Int} {row : Int → Int} {S : Sl} {fr to many : Int}
theorem StR.is (st : StR g h W V X F B wr cm row S) : IsMo g h W V X F B wr cm := by
  obtain ⟨M, e, t, _⟩ := st
  exact ⟨M, e, t⟩
theorem StR.w10 {i v : Int} (st : StR g h W V X F B wr cm row S) : StR g (up h 311 (cI (Ls 4 (fset row i v)))) W V X F B wr cm (fset row i v) S := by
  obtain ⟨M, e, t, r1, r2, r3, r4⟩ := st
  exact ⟨fset M 10 (fset row i v), e.s10, MT.q t (fun k hk => fset_ne (by omega)), fset_at _ _ _, by rw [fset_ne (by decide)]; exact r2, by rw [fset_ne (by decide)]; exact r3, by rw [fset_ne (by decide)]; exact r4⟩
theorem StR.w11 {i v a b : Int} {bb : Int → Int} (st : StR g h W V X F B wr cm row (a, b, bb)) : StR g (up h 312 (cI (Ls 4 (fset bb i v)))) W V X F B wr cm row (a, b, fset bb i v) := by
  obtain ⟨M, e, t, r1, r2, r3, r4⟩ := st
  exact ⟨fset M 11 (fset bb i v), e.s11, MT.q t (fun k hk => fset_ne (by omega)), by rw [fset_ne (by decide)]; exact r1, fset_at _ _ _, by rw [fset_ne (by decide)]; exact r3, by rw [fset_ne (by decide)]; exact r4⟩
theorem MT.f {i v : Int} (t : MT M W V X F B wr cm) (hi : i = 28 ∨ i = 29) : MT (fset M 0 (fset (M 0) i v)) W V X F B wr cm := by
  obtain ⟨⟨ta, tb⟩, tv, tx, ⟨⟨a1, a2, a3⟩, a4⟩, ⟨wr0, wr1⟩, cm0, on⟩ := t
  have q : ∀ j, j < 28 → (fset M 0 (fset (M 0) i v)) 0 j = M 0 j := fun j hj => by rw [fset_at, fset_ne (by omega)]
  exact ⟨⟨ta, tb⟩, tv, tx, ⟨⟨by rw [q 4 (by decide)]; exact a1, by rw [q 5 (by decide)]; exact a2, by rw [q 6 (by decide)]; exact a3⟩, a4⟩, ⟨by rw [q 23 (by decide)]; exact wr0, wr1⟩, by rw [q 24 (by decide)]; exact cm0, on⟩
theorem StR.f29 {v : Int} (e : IsM g h M) (t : MT M W V X F B wr cm) (r1 : M 10 = row) (r2 : M 11 = S.2.2) (r3 : M 0 28 = S.2.1) : StR g (up h 301 (cO 13 (List.set (mf (M 0)) 29 (vI v)))) W V X F B wr cm row (v, S.2) := by
  rw [mfs_29]
  exact ⟨fset M 0 (fset (M 0) 29 v), e.fld, t.f (.inr rfl), by rw [fset_ne (by decide)]; exact r1, by rw [fset_ne (by decide)]; exact r2, by rw [fset_at, fset_ne (by decide)]; exact r3, by rw [fset_at, fset_at]⟩
theorem StR.f28 {v : Int} (e : IsM g h M) (t : MT M W V X F B wr cm) (r1 : M 10 = row) (r2 : M 11 = S.2.2) (r4 : M 0 29 = S.1) : StR g (up h 301 (cO 13 (List.set (mf (M 0)) 28 (vI v)))) W V X F B wr cm row (S.1, v, S.2.2) := by
  rw [mfs_28]
  exact ⟨fset M 0 (fset (M 0) 28 v), e.fld, t.f (.inl rfl), by rw [fset_ne (by decide)]; exact r1, by rw [fset_ne (by decide)]; exact r2, by rw [fset_at, fset_at], by rw [fset_at, fset_ne (by decide)]; exact r4⟩
def qqR (Q : aQ) (d bc bs : Nat) (fr to many : Int) : aQ := fun v h1 n1 => ∃ b : Int, v = some (vI b) ∧ (b = 0 ∨ b = 1) ∧ ∀ l5 l6, Rn (d + 6) bc bs mX13_layRelay 47 [some (vR (some 301)), some (vI fr), some (vI to), some (vI many), some (vI b), l5, l6] [] h1 n1 Q
theorem lay_leaf (st : StR g h W V X F B wr cm row S) (ok : okW W) (f0 : 0 ≤ fr) (f1 : fr < W 3 3) (g0 : 0 ≤ to) (g1 : to < W 3 3) (m0 : 0 ≤ many) (m1 : many ≤ 4) (hr : ∀ i, 0 ≤ i → i < many → 0 ≤ row i ∧ row i < W 3 3) (k0 : many = 0 → ∀ h1 l5 l6, StR g h1 W V X F B wr cm row (leafS W fr to many row S) → Rn (d + 6) bc bs mX13_layRelay 47 [some (vR (some 301)), some (vI fr), some (vI to), some (vI many), some (vI 0), l5, l6] [] h1 n Q) (k1 : 0 < many → ∀ h1, StR g h1 W V X F B wr cm row (leafS W fr to many row S) → Rn (d + 5) 0 0 mX13_isNextRow 0 [some (vR (some 301)), some (vI many), some (vI fr), some (vI to), some (vI (many - 1)), none] [] h1 n (qqR Q d bc bs fr to many)) : ∀ l5 l6, Rn (d + 6) bc bs mX13_layRelay 47 [some (vR (some 301)), some (vI fr), some (vI to), some (vI many), some (vI 1), l5, l6] [] h n Q := by
  have K110 : ∀ h1 (l5 : Int) l6, StR g h1 W V X F B wr cm row (leafS W fr to many row S) → Rn (d + 6) bc bs mX13_layRelay 110 [some (vR (some 301)), some (vI fr), some (vI to), some (vI many), some (vI 1), some (vI l5), l6] [] h1 n Q := by
    intro h1 l5 l6 s1
    have i1 := s1.is
    refine BX13_layRelay_110  ?_ ?_
    · intro hc1
      first
      | (exfalso; omega)
      | (
          refine BX13_layRelay_131  ?_
          exact k0 (by omega) _ _ _ s1
        )
    · intro hc2
      first
      | (exfalso; omega)
      | (
          obtain ⟨M, e, t, r⟩ := id s1
          refine BX13_layRelay_114 (by omega) e.o ?_
          refine Rn.mono ?_ (k1 (by omega) _ s1)
          rintro v h2 n2 ⟨b, rfl, b01, K⟩
          rcases b01 with rfl | rfl
          · exact BX13_layRelay_124 (fun _ => BX13_layRelay_131 (K _ _)) (fun q => absurd rfl q)
          · exact BX13_layRelay_124 (fun q => absurd q (by decide)) (fun _ => BX13_layRelay_127 (K _ _))
        )
  have K84 : tmR W fr to many row < S.1 → ∀ (m : Nat) (j : Int) (h1 : aH), 0 ≤ j → j + m = many → StR g h1 W V X F B wr cm row (tmR W fr to many row, many, fcp row S.2.2 j) → Rn (d + 6) bc bs mX13_layRelay 84 [some (vR (some 301)), some (vI fr), some (vI to), some (vI many), some (vI 1), some (vI (tmR W fr to many row)), some (vI j)] [] h1 n Q := by
    intro hlt m
    induction m with
    | zero =>
      intro j h1 j0 jm s1
      have ej : j = many := by omega
      subst ej
      refine BX13_layRelay_84  ?_ ?_
      · intro hc1
        first
        | (exfalso; omega)
        | (
            refine K110 _ _ _ ?_
            unfold leafS
            rw [if_pos hlt]
            exact s1
          )
      · intro hc2
        first
        | (exfalso; omega)
        | (
            (exfalso; omega)
          )
    | succ m ih =>
      intro j h1 j0 jm s1
      obtain ⟨M, e, t, r1, r2, r3, r4⟩ := id s1
      have a0 := e.o
      have a10 : h1 311 = cI (Ls 4 row) := by rw [← r1]; exact e.a10
      have a11 : h1 312 = cI (Ls 4 (fcp row S.2.2 j)) := by rw [show fcp row S.2.2 j = M 11 from r2.symm]; exact e.a11
      have e2 : fset (fcp row S.2.2 j) j (row j) = fcp row S.2.2 (j + 1) := by
        funext i
        unfold fcp
        by_cases q : i = j
        · subst q; rw [fset_at, if_pos (by omega)]
        · rw [fset_ne q]
          by_cases z : 0 ≤ i ∧ i < j
          · rw [if_pos z, if_pos (by omega)]
          · rw [if_neg z, if_neg (by omega)]
      have s2 := s1.w11 (i := j) (v := row j)
      rw [e2] at s2
      refine BX13_layRelay_84  ?_ ?_
      · intro hc1
        (exfalso; omega)
      · intro hc2
        refine BX13_layRelay_90 (by first | assumption | exact up_at _ _ _ | (rw [up_ne (by omega)]; first | assumption | exact up_at _ _ _ | (rw [up_ne (by omega)]; assumption))) (by rfl) (by rfl) (by first | assumption | exact up_at _ _ _ | (rw [up_ne (by omega)]; first | assumption | exact up_at _ _ _ | (rw [up_ne (by omega)]; assumption))) (by first | omega | (rw [fset_at]; omega) | (simp only [Ls_len]; omega) | assumption | exact Ls_get (by omega) (by omega) | exact up_at _ _ _ | rfl | decide) (by first | exact Ls_get (by omega) (by omega) | assumption) (by first | assumption | exact up_at _ _ _ | (rw [up_ne (by omega)]; first | assumption | exact up_at _ _ _ | (rw [up_ne (by omega)]; assumption))) (by first | omega | (rw [fset_at]; omega) | (simp only [Ls_len]; omega) | assumption | exact Ls_get (by omega) (by omega) | exact up_at _ _ _ | rfl | decide) (by first | omega | (rw [fset_at]; omega) | (simp only [Ls_len]; omega) | assumption | exact Ls_get (by omega) (by omega) | exact up_at _ _ _ | rfl | decide) ?_
        try rw [Ls_set (by omega)]
        refine BX13_layRelay_104 (by first | omega | (rw [fset_at]; omega) | (simp only [Ls_len]; omega) | assumption | exact Ls_get (by omega) (by omega) | exact up_at _ _ _ | rfl | decide) ?_
        rw [e2]
        exact ih (j + 1) _ (by omega) (by omega) s2
  intro l5 l6
  obtain ⟨M, e, t, r1, r2, r3, r4⟩ := id st
  have a0 := e.o
  have e10 : IsM g h (fset M 10 row) := by
    rw [show fset M 10 row = M from by rw [← r1]; funext j; by_cases q : j = 10; (subst q; rw [fset_at]); rw [fset_ne q]]; exact e
  have t10 : MT (fset M 10 row) W V X F B wr cm := by
    rw [show fset M 10 row = M from by rw [← r1]; funext j; by_cases q : j = 10; (subst q; rw [fset_at]); rw [fset_ne q]]; exact t
  have K81 : tmR W fr to many row < S.1 → ∀ h1 l6, StR g h1 W V X F B wr cm row (tmR W fr to many row, many, S.2.2) → Rn (d + 6) bc bs mX13_layRelay 81 [some (vR (some 301)), some (vI fr), some (vI to), some (vI many), some (vI 1), some (vI (tmR W fr to many row)), l6] [] h1 n Q := by
    intro hlt h1 l6 s1
    have e0 : fcp row S.2.2 0 = S.2.2 := by
      funext i; unfold fcp; rw [if_neg (by omega)]
    refine BX13_layRelay_81  ?_
    exact K84 hlt many.toNat 0 _ (by decide) (by omega) (by rw [e0]; exact s1)
  have K76 : tmR W fr to many row < S.1 → ∀ h1 l6, StR g h1 W V X F B wr cm row (tmR W fr to many row, S.2) → Rn (d + 6) bc bs mX13_layRelay 76 [some (vR (some 301)), some (vI fr), some (vI to), some (vI many), some (vI 1), some (vI (tmR W fr to many row)), l6] [] h1 n Q := by
    intro hlt h1 l6 s1
    obtain ⟨M, e, t, r1, r2, r3, r4⟩ := id s1
    have a0 := e.o
    refine BX13_layRelay_76 (by first | assumption | exact up_at _ _ _ | (rw [up_ne (by omega)]; first | assumption | exact up_at _ _ _ | (rw [up_ne (by omega)]; assumption))) (by unfold mf; simp) ?_
    exact K81 hlt _ _ (StR.f28 (S := (tmR W fr to many row, S.2)) e t r1 r2 r4)
  refine BX13_layRelay_47  ?_ ?_
  · intro hc1
    (exfalso; omega)
  · intro hc2
    refine BX13_layRelay_52 (by first | assumption | exact up_at _ _ _ | (rw [up_ne (by omega)]; first | assumption | exact up_at _ _ _ | (rw [up_ne (by omega)]; assumption))) ?_
    refine R_X13_whenBy (by first | omega | (rw [fset_at]; omega) | (simp only [Ls_len]; omega) | assumption | exact Ls_get (by omega) (by omega) | exact up_at _ _ _ | rfl | decide) (by first | omega | (rw [fset_at]; omega) | (simp only [Ls_len]; omega) | assumption | exact Ls_get (by omega) (by omega) | exact up_at _ _ _ | rfl | decide) (by first | omega | (rw [fset_at]; omega) | (simp only [Ls_len]; omega) | assumption | exact Ls_get (by omega) (by omega) | exact up_at _ _ _ | rfl | decide) (by first | omega | (rw [fset_at]; omega) | (simp only [Ls_len]; omega) | assumption | exact Ls_get (by omega) (by omega) | exact up_at _ _ _ | rfl | decide) (by first | omega | (rw [fset_at]; omega) | (simp only [Ls_len]; omega) | assumption | exact Ls_get (by omega) (by omega) | exact up_at _ _ _ | rfl | decide) (by first | omega | (rw [fset_at]; omega) | (simp only [Ls_len]; omega) | assumption | exact Ls_get (by omega) (by omega) | exact up_at _ _ _ | rfl | decide) (by first | omega | (rw [fset_at]; omega) | (simp only [Ls_len]; omega) | assumption | exact Ls_get (by omega) (by omega) | exact up_at _ _ _ | rfl | decide) (by first | omega | (rw [fset_at]; omega) | (simp only [Ls_len]; omega) | assumption | exact Ls_get (by omega) (by omega) | exact up_at _ _ _ | rfl | decide) (by first | omega | (rw [fset_at]; omega) | (simp only [Ls_len]; omega) | assumption | exact Ls_get (by omega) (by omega) | exact up_at _ _ _ | rfl | decide) (by first | omega | (rw [fset_at]; omega) | (simp only [Ls_len]; omega) | assumption | exact Ls_get (by omega) (by omega) | exact up_at _ _ _ | rfl | decide) ?_
    refine BX13_layRelay_59 (by first | assumption | exact up_at _ _ _ | (rw [up_ne (by omega)]; first | assumption | exact up_at _ _ _ | (rw [up_ne (by omega)]; assumption))) (by rfl) ?_ ?_
    · intro hc3
      refine K110 _ _ _ ?_
      unfold leafS
      rw [if_neg (by show ¬ wbF W to many row (many + 1).toNat 0 fr 0 < S.1; omega)]
      exact st
    · intro hc4
      refine BX13_layRelay_70 (by first | assumption | exact up_at _ _ _ | (rw [up_ne (by omega)]; first | assumption | exact up_at _ _ _ | (rw [up_ne (by omega)]; assumption))) (by unfold mf; simp) ?_
      exact K76 (by show wbF W to many row (many + 1).toNat 0 fr 0 < S.1; omega) _ _ (StR.f29 e t r1 r2 r3)
end RELAY3
