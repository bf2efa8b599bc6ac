/-! Relays in the reference: how long one hop takes, when a row of others is through. -/
def hpM (W : Int → Int → Int) (p q t : Int) : Int := if legM W p q t = -1 then 1000000 else t + legM W p q t
def wbF (W : Int → Int → Int) (to many : Int) (row : Int → Int) : Nat → Int → Int → Int → Int
  | 0, _, _, t => t
  | f + 1, k, p, t => if 1000000 ≤ t then t else wbF W to many row f (k + 1) (if k = many then to else row k) (hpM W p (if k = many then to else row k) t)
def usB (fr to : Int) (row : Int → Int) (v : Int) : Nat → Bool
  | 0 => decide (v = fr ∨ v = to)
  | k + 1 => decide (row k = v) || usB fr to row v k
theorem usB_t {fr to : Int} {row : Int → Int} {v : Int} : ∀ k : Nat, usB fr to row v k = true ↔ (v = fr ∨ v = to ∨ ∃ e : Nat, e < k ∧ row e = v) := by
  intro k
  induction k with
  | zero =>
    unfold usB
    constructor
    · intro h
      rcases of_decide_eq_true h with q | q
      · exact .inl q
      · exact .inr (.inl q)
    · rintro (q | q | ⟨e, he, _⟩)
      · exact decide_eq_true (.inl q)
      · exact decide_eq_true (.inr q)
      · omega
  | succ k ih =>
    unfold usB
    rw [Bool.or_eq_true, ih]
    constructor
    · rintro (h | q | q | ⟨e, he, hq⟩)
      · exact .inr (.inr ⟨k, by omega, of_decide_eq_true h⟩)
      · exact .inl q
      · exact .inr (.inl q)
      · exact .inr (.inr ⟨e, by omega, hq⟩)
    · rintro (q | q | ⟨e, he, hq⟩)
      · exact .inr (.inl q)
      · exact .inr (.inr (.inl q))
      · by_cases z : e = k
        · subst z; exact .inl (decide_eq_true hq)
        · exact .inr (.inr (.inr ⟨e, by omega, hq⟩))
/-- the best so far, w and x before these -/
def bhM (W : Int → Int → Int) (p q t b w x : Int) : Prop := (b = 1000000 ∧ ∀ w' x' : Int, 0 ≤ w' → w' < 10 → 1 ≤ x' → x' ≤ 20 → (w' < w ∨ (w' = w ∧ x' < x)) → ¬ meetP (W 6) (W 0 p) (W 0 q) (W 1 73 + t) w' x') ∨ (∃ w0 x0 : Int, (0 ≤ w0 ∧ w0 < 10 ∧ 1 ≤ x0 ∧ x0 ≤ 20) ∧ meetP (W 6) (W 0 p) (W 0 q) (W 1 73 + t) w0 x0 ∧ b = t + w0 + x0 ∧ ∀ w' x' : Int, 0 ≤ w' → w' < 10 → 1 ≤ x' → x' ≤ 20 → (w' < w ∨ (w' = w ∧ x' < x)) → meetP (W 6) (W 0 p) (W 0 q) (W 1 73 + t) w' x' → w0 + x0 ≤ w' + x')
section BHM
variable {W : Int → Int → Int} {p q t b w x : Int}
theorem bhM.no (s : bhM W p q t b w x) (t1 : t ≤ 500) (w0 : 0 ≤ w) (w1 : w < 10) (x0 : 1 ≤ x) (x1 : x ≤ 20) (h : b ≤ t + w + x ∨ ¬ meetP (W 6) (W 0 p) (W 0 q) (W 1 73 + t) w x) : bhM W p q t b w (x + 1) := by
  rcases s with ⟨s1, s2⟩ | ⟨a, c, s1, s2, s3, s4⟩
  · refine .inl ⟨s1, fun w' x' p0 p1 p2 p3 p4 => ?_⟩
    by_cases z : w' = w ∧ x' = x
    · obtain ⟨z1, z2⟩ := z; subst z1; subst z2
      rcases h with h | h
      · omega
      · exact h
    · exact s2 w' x' p0 p1 p2 p3 (by omega)
  · refine .inr ⟨a, c, s1, s2, s3, fun w' x' p0 p1 p2 p3 p4 hm => ?_⟩
    by_cases z : w' = w ∧ x' = x
    · obtain ⟨z1, z2⟩ := z; subst z1; subst z2
      rcases h with h | h
      · omega
      · exact absurd hm h
    · exact s4 w' x' p0 p1 p2 p3 (by omega) hm
theorem bhM.yes (s : bhM W p q t b w x) (w0 : 0 ≤ w) (w1 : w < 10) (x0 : 1 ≤ x) (x1 : x ≤ 20) (h : t + w + x < b) (hm : meetP (W 6) (W 0 p) (W 0 q) (W 1 73 + t) w x) : bhM W p q t (t + w + x) w (x + 1) := by
  refine .inr ⟨w, x, ⟨w0, w1, x0, x1⟩, hm, rfl, fun w' x' p0 p1 p2 p3 p4 hm' => ?_⟩
  by_cases z : w' = w ∧ x' = x
  · omega
  · rcases s with ⟨s1, s2⟩ | ⟨a, c, s1, s2, s3, s4⟩
    · exact absurd hm' (s2 w' x' p0 p1 p2 p3 (by omega))
    · have := s4 w' x' p0 p1 p2 p3 (by omega) hm'
      omega
theorem bhM.row (s : bhM W p q t b w 21) : bhM W p q t b (w + 1) 1 := by
  rcases s with ⟨s1, s2⟩ | ⟨a, c, s1, s2, s3, s4⟩
  · exact .inl ⟨s1, fun w' x' p0 p1 p2 p3 p4 => s2 w' x' p0 p1 p2 p3 (by omega)⟩
  · exact .inr ⟨a, c, s1, s2, s3, fun w' x' p0 p1 p2 p3 p4 => s4 w' x' p0 p1 p2 p3 (by omega)⟩
theorem bhM.end (s : bhM W p q t b 10 1) (ap : atP (W 3 3) (W 0) p = W 0 p) (aq : atP (W 3 3) (W 0) q = W 0 q) : b = hpM W p q t := by
  have sp := mtN_spec (cu := W 6) (a := W 0 p) (b := W 0 q) (t := W 1 73 + t) (D := 20) 10
  unfold hpM legM
  rw [ap, aq]
  generalize mtN (W 6) (W 0 p) (W 0 q) (W 1 73 + t) 20 10 = z at sp ⊢
  rcases sp with ⟨h1, h2⟩ | ⟨h1, h2, h3, h4, h5⟩
  · rw [if_pos h1]
    rcases s with ⟨s1, s2⟩ | ⟨a, c, s1, s2, s3, s4⟩
    · exact s1
    · exact absurd s2 (h2 a c s1.1 s1.2.1 s1.2.2.1 s1.2.2.2 (by omega))
  · rw [if_neg h1]
    rcases s with ⟨s1, s2⟩ | ⟨a, c, s1, s2, s3, s4⟩
    · exact absurd h4 (s2 z.2 (z.1 - z.2) h2.1 h2.2 h3.1 h3.2.1 (by omega))
    · have r1 := s4 z.2 (z.1 - z.2) h2.1 h2.2 h3.1 h3.2.1 (by omega) h4
      have r2 := h5 a c s1.1 s1.2.1 s1.2.2.1 s1.2.2.2 (by omega) s2
      omega
end BHM
section RELAY2
variable {d bc bs n : Nat} {g h : aH} {Q : aQ} {W V : Int → Int → Int} {X : Int → Tx} {F B : Int → Int} {wr cm : Int} {M : Int → Int → Int}
theorem R_X13_hopOf {p q t : Int} (s : IsMo g h W V X F B wr cm) (ok : okW W) (p0 : 0 ≤ p) (p1 : p < W 3 3) (q0 : 0 ≤ q) (q1 : q < W 3 3) (t0 : 0 ≤ t) (t1 : t ≤ 500) (k : Q (some (vI (hpM W p q t))) h n) : Rn (d + 2) bc bs mX13_hopOf 0 [some (vR (some 301)), some (vI p), some (vI q), some (vI t), none, none, none] [] h n Q := by
  have hc : okCu (W 6) := ok.1.2.2
  obtain ⟨M9, e9, t9⟩ := id s
  have m9 := e9.o
  have pp := (ok.1.2.1 p p0 p1).1
  have ap : atP (W 3 3) (W 0) p = W 0 p := by unfold atP; rw [if_pos (by omega)]
  have aq : atP (W 3 3) (W 0) q = W 0 q := by unfold atP; rw [if_pos (by omega)]
  have outer : ∀ (m : Nat) (w b : Int) (l6 : Option aV), 0 ≤ w → w + m = 10 → bhM W p q t b w 1 → Rn (d + 2) bc bs mX13_hopOf 8 [some (vR (some 301)), some (vI p), some (vI q), some (vI t), some (vI b), some (vI w), l6] [] h n Q := by
    intro m
    induction m with
    | zero =>
      intro w b l6 w0 wm st
      have ew : w = 10 := by omega
      subst ew
      have eb := st.end ap aq
      rw [eb]
      refine BX13_hopOf_8  ?_ ?_
      · intro hc1
        first
        | (exfalso; omega)
        | (
            refine BX13_hopOf_83  ?_
            exact k
          )
      · intro hc2
        first
        | (exfalso; omega)
        | (
            (exfalso; omega)
          )
    | succ m ih =>
      intro w b l6 w0 wm st
      have inner : ∀ (y : Nat) (x b : Int), 1 ≤ x → x + y = 21 → bhM W p q t b w x → Rn (d + 2) bc bs mX13_hopOf 18 [some (vR (some 301)), some (vI p), some (vI q), some (vI t), some (vI b), some (vI w), some (vI x)] [] h n Q := by
        intro y
        induction y with
        | zero =>
          intro x b x0 xm st
          have ex : x = 21 := by omega
          subst ex
          refine BX13_hopOf_18  ?_ ?_
          · intro hc1
            first
            | (exfalso; omega)
            | (
                refine BX13_hopOf_77 (by first | omega | (rw [fset_at]; omega) | (simp only [Ls_len]; omega) | assumption | exact Ls_get (by omega) (by omega) | exact up_at _ _ _ | rfl | decide) ?_
                exact ih (w + 1) b _ (by omega) (by omega) st.row
              )
          · intro hc2
            first
            | (exfalso; omega)
            | (
                (exfalso; omega)
              )
        | succ y ihy =>
          intro x b x0 xm st
          have mt : drift (W 6) (W 1 73 + (t + w)) x.toNat (W 0 p) = W 0 q ↔ meetP (W 6) (W 0 p) (W 0 q) (W 1 73 + t) w x := by
            unfold meetP
            rw [show W 1 73 + (t + w) = W 1 73 + t + w by omega]
          refine BX13_hopOf_18  ?_ ?_
          · intro hc1
            (exfalso; omega)
          · intro hc2
            refine BX13_hopOf_25 (by first | omega | (rw [fset_at]; omega) | (simp only [Ls_len]; omega) | assumption | exact Ls_get (by omega) (by omega) | exact up_at _ _ _ | rfl | decide) (by first | omega | (rw [fset_at]; omega) | (simp only [Ls_len]; omega) | assumption | exact Ls_get (by omega) (by omega) | exact up_at _ _ _ | rfl | decide) ?_ ?_
            · intro hc3
              refine BX13_hopOf_71 (by first | omega | (rw [fset_at]; omega) | (simp only [Ls_len]; omega) | assumption | exact Ls_get (by omega) (by omega) | exact up_at _ _ _ | rfl | decide) ?_
              first
              | exact ihy (x + 1) _ (by omega) (by omega) (st.yes w0 (by omega) x0 (by omega) (by omega) (mt.mp (by first | assumption | (apply Eq.symm; assumption))))
              | exact ihy (x + 1) _ (by omega) (by omega) (st.no t1 w0 (by omega) x0 (by omega) (.inl (by omega)))
              | exact ihy (x + 1) _ (by omega) (by omega) (st.no t1 w0 (by omega) x0 (by omega) (.inr (fun z => by have := mt.mpr z; omega)))
            · intro hc4
              refine BX13_hopOf_37 (by first | assumption | exact up_at _ _ _ | (rw [up_ne (by omega)]; first | assumption | exact up_at _ _ _ | (rw [up_ne (by omega)]; assumption))) ?_
              refine R_X13_ownP (by first | omega | (rw [fset_at]; omega) | (simp only [Ls_len]; omega) | assumption | exact Ls_get (by omega) (by omega) | exact up_at _ _ _ | rfl | decide) (by first | omega | (rw [fset_at]; omega) | (simp only [Ls_len]; omega) | assumption | exact Ls_get (by omega) (by omega) | exact up_at _ _ _ | rfl | decide) (by first | omega | (rw [fset_at]; omega) | (simp only [Ls_len]; omega) | assumption | exact Ls_get (by omega) (by omega) | exact up_at _ _ _ | rfl | decide) ?_
              refine BX13_hopOf_44 (by first | omega | (rw [fset_at]; omega) | (simp only [Ls_len]; omega) | assumption | exact Ls_get (by omega) (by omega) | exact up_at _ _ _ | rfl | decide) (by first | assumption | exact up_at _ _ _ | (rw [up_ne (by omega)]; first | assumption | exact up_at _ _ _ | (rw [up_ne (by omega)]; assumption))) ?_
              refine R_X13_drifted (by first | omega | (rw [fset_at]; omega) | (simp only [Ls_len]; omega) | assumption | exact Ls_get (by omega) (by omega) | exact up_at _ _ _ | rfl | decide) (by first | omega | (rw [fset_at]; omega) | (simp only [Ls_len]; omega) | assumption | exact Ls_get (by omega) (by omega) | exact up_at _ _ _ | rfl | decide) (by first | omega | (rw [fset_at]; omega) | (simp only [Ls_len]; omega) | assumption | exact Ls_get (by omega) (by omega) | exact up_at _ _ _ | rfl | decide) (by first | omega | (rw [fset_at]; omega) | (simp only [Ls_len]; omega) | assumption | exact Ls_get (by omega) (by omega) | exact up_at _ _ _ | rfl | decide) (by first | omega | (rw [fset_at]; omega) | (simp only [Ls_len]; omega) | assumption | exact Ls_get (by omega) (by omega) | exact up_at _ _ _ | rfl | decide) (by first | omega | (rw [fset_at]; omega) | (simp only [Ls_len]; omega) | assumption | exact Ls_get (by omega) (by omega) | exact up_at _ _ _ | rfl | decide) (by first | omega | (rw [fset_at]; omega) | (simp only [Ls_len]; omega) | assumption | exact Ls_get (by omega) (by omega) | exact up_at _ _ _ | rfl | decide) ?_
              refine BX13_hopOf_53 (by first | assumption | exact up_at _ _ _ | (rw [up_ne (by omega)]; first | assumption | exact up_at _ _ _ | (rw [up_ne (by omega)]; assumption))) ?_
              refine R_X13_ownP (by first | omega | (rw [fset_at]; omega) | (simp only [Ls_len]; omega) | assumption | exact Ls_get (by omega) (by omega) | exact up_at _ _ _ | rfl | decide) (by first | omega | (rw [fset_at]; omega) | (simp only [Ls_len]; omega) | assumption | exact Ls_get (by omega) (by omega) | exact up_at _ _ _ | rfl | decide) (by first | omega | (rw [fset_at]; omega) | (simp only [Ls_len]; omega) | assumption | exact Ls_get (by omega) (by omega) | exact up_at _ _ _ | rfl | decide) ?_
              refine BX13_hopOf_59  ?_ ?_
              · intro hc5
                refine BX13_hopOf_71 (by first | omega | (rw [fset_at]; omega) | (simp only [Ls_len]; omega) | assumption | exact Ls_get (by omega) (by omega) | exact up_at _ _ _ | rfl | decide) ?_
                first
                | exact ihy (x + 1) _ (by omega) (by omega) (st.yes w0 (by omega) x0 (by omega) (by omega) (mt.mp (by first | assumption | (apply Eq.symm; assumption))))
                | exact ihy (x + 1) _ (by omega) (by omega) (st.no t1 w0 (by omega) x0 (by omega) (.inl (by omega)))
                | exact ihy (x + 1) _ (by omega) (by omega) (st.no t1 w0 (by omega) x0 (by omega) (.inr (fun z => by have := mt.mpr z; omega)))
              · intro hc6
                refine BX13_hopOf_62 (by first | omega | (rw [fset_at]; omega) | (simp only [Ls_len]; omega) | assumption | exact Ls_get (by omega) (by omega) | exact up_at _ _ _ | rfl | decide) (by first | omega | (rw [fset_at]; omega) | (simp only [Ls_len]; omega) | assumption | exact Ls_get (by omega) (by omega) | exact up_at _ _ _ | rfl | decide) (by first | omega | (rw [fset_at]; omega) | (simp only [Ls_len]; omega) | assumption | exact Ls_get (by omega) (by omega) | exact up_at _ _ _ | rfl | decide) ?_
                first
                | exact ihy (x + 1) _ (by omega) (by omega) (st.yes w0 (by omega) x0 (by omega) (by omega) (mt.mp (by first | assumption | (apply Eq.symm; assumption))))
                | exact ihy (x + 1) _ (by omega) (by omega) (st.no t1 w0 (by omega) x0 (by omega) (.inl (by omega)))
                | exact ihy (x + 1) _ (by omega) (by omega) (st.no t1 w0 (by omega) x0 (by omega) (.inr (fun z => by have := mt.mpr z; omega)))
      refine BX13_hopOf_8  ?_ ?_
      · intro hc1
        first
        | (exfalso; omega)
        | (
            (exfalso; omega)
          )
      · intro hc2
        first
        | (exfalso; omega)
        | (
            refine BX13_hopOf_15  ?_
            exact inner 20 1 b (by decide) (by decide) st
          )
  refine BX13_hopOf_0  ?_
  exact outer 10 0 1000000 _ (by decide) (by decide) (.inl ⟨rfl, fun w' x' p0 p1 p2 p3 p4 => by omega⟩)
theorem R_X13_whenBy {fr to many : Int} {row : Int → Int} (e : IsM g h (fset M 10 row)) (t : MT (fset M 10 row) W V X F B wr cm) (ok : okW W) (f0 : 0 ≤ fr) (f1 : fr < W 3 3) (g0 : 0 ≤ to) (g1 : to < W 3 3) (m0 : 0 ≤ many) (m1 : many ≤ 4) (hr : ∀ i, 0 ≤ i → i < many → 0 ≤ row i ∧ row i < W 3 3) (k : Q (some (vI (wbF W to many row (many + 1).toNat 0 fr 0))) h n) : Rn (d + 3) bc bs mX13_whenBy 0 [some (vR (some 301)), some (vI fr), some (vI to), some (vI many), none, none, none, none] [] h n Q := by
  have s : IsMo g h W V X F B wr cm := ⟨_, e, t⟩
  have m9 := e.o
  have m10 : h 311 = cI (Ls 4 row) := e.a10
  have loop : ∀ (f : Nat) (j p tm : Int) (l7 : Option aV), 0 ≤ j → j + f = many + 1 → 0 ≤ p → p < W 3 3 → 0 ≤ tm → (tm < 1000000 → tm ≤ 60 * j) → Q (some (vI (wbF W to many row f j p tm))) h n → Rn (d + 3) bc bs mX13_whenBy 9 [some (vR (some 301)), some (vI fr), some (vI to), some (vI many), some (vI tm), some (vI p), some (vI j), l7] [] h n Q := by
    intro f
    induction f with
    | zero =>
      intro j p tm l7 j0 jm p0 p1 t0 t1 k
      refine BX13_whenBy_9  ?_ ?_
      · intro hc1
        first
        | (exfalso; omega)
        | (
            refine BX13_whenBy_64  ?_
            exact k
          )
      · intro hc2
        first
        | (exfalso; omega)
        | (
            (exfalso; omega)
          )
    | succ f ih =>
      intro j p tm l7 j0 jm p0 p1 t0 t1 k
      unfold wbF at k
      have hp : ∀ q, (hpM W p q tm = 1000000 ∨ (hpM W p q tm ≤ tm + 60 ∧ tm ≤ hpM W p q tm)) := fun q => by
        have := legM_in W p q tm
        unfold hpM
        split <;> omega
      have h1 := hp to
      have h2 := hp (row j)
      have hj : j < many → 0 ≤ row j ∧ row j < W 3 3 := fun z => hr j j0 z
      refine BX13_whenBy_9  ?_ ?_
      · intro hc1
        refine BX13_whenBy_64  ?_
        (first | (exfalso; omega) | (rw [if_pos (by omega)] at k; exact k))
      · intro hc2
        refine BX13_whenBy_15  ?_ ?_
        · intro hc3
          refine BX13_whenBy_64  ?_
          (first | (exfalso; omega) | (rw [if_pos (by omega)] at k; exact k))
        · intro hc4
          refine BX13_whenBy_23  ?_ ?_
          · intro hc5
            refine BX13_whenBy_33 (by first | assumption | exact up_at _ _ _ | (rw [up_ne (by omega)]; first | assumption | exact up_at _ _ _ | (rw [up_ne (by omega)]; assumption))) (by rfl) (by first | assumption | exact up_at _ _ _ | (rw [up_ne (by omega)]; first | assumption | exact up_at _ _ _ | (rw [up_ne (by omega)]; assumption))) (by first | omega | (rw [fset_at]; omega) | (simp only [Ls_len]; omega) | assumption | exact Ls_get (by omega) (by omega) | exact up_at _ _ _ | rfl | decide) (by first | exact Ls_get (by omega) (by omega) | assumption) ?_
            refine R_X13_hopOf (by first | omega | (rw [fset_at]; omega) | (simp only [Ls_len]; omega) | assumption | exact Ls_get (by omega) (by omega) | exact up_at _ _ _ | rfl | decide) (by first | omega | (rw [fset_at]; omega) | (simp only [Ls_len]; omega) | assumption | exact Ls_get (by omega) (by omega) | exact up_at _ _ _ | rfl | decide) (by first | omega | (rw [fset_at]; omega) | (simp only [Ls_len]; omega) | assumption | exact Ls_get (by omega) (by omega) | exact up_at _ _ _ | rfl | decide) (by first | omega | (rw [fset_at]; omega) | (simp only [Ls_len]; omega) | assumption | exact Ls_get (by omega) (by omega) | exact up_at _ _ _ | rfl | decide) (by first | omega | (rw [fset_at]; omega) | (simp only [Ls_len]; omega) | assumption | exact Ls_get (by omega) (by omega) | exact up_at _ _ _ | rfl | decide) (by first | omega | (rw [fset_at]; omega) | (simp only [Ls_len]; omega) | assumption | exact Ls_get (by omega) (by omega) | exact up_at _ _ _ | rfl | decide) (by first | omega | (rw [fset_at]; omega) | (simp only [Ls_len]; omega) | assumption | exact Ls_get (by omega) (by omega) | exact up_at _ _ _ | rfl | decide) (by first | omega | (rw [fset_at]; omega) | (simp only [Ls_len]; omega) | assumption | exact Ls_get (by omega) (by omega) | exact up_at _ _ _ | rfl | decide) ?_
            refine BX13_whenBy_52 (by first | omega | (rw [fset_at]; omega) | (simp only [Ls_len]; omega) | assumption | exact Ls_get (by omega) (by omega) | exact up_at _ _ _ | rfl | decide) ?_
            first
            | (exfalso; omega)
            | (rw [if_neg (by omega), if_pos (by omega)] at k; exact ih (j + 1) to _ _ (by omega) (by omega) g0 g1 (by omega) (by omega) k)
            | (rw [if_neg (by omega), if_neg (by omega)] at k; exact ih (j + 1) (row j) _ _ (by omega) (by omega) (hj (by omega)).1 (hj (by omega)).2 (by omega) (by omega) k)
          · intro hc6
            refine BX13_whenBy_29 (by first | assumption | exact up_at _ _ _ | (rw [up_ne (by omega)]; first | assumption | exact up_at _ _ _ | (rw [up_ne (by omega)]; assumption))) ?_
            refine R_X13_hopOf (by first | omega | (rw [fset_at]; omega) | (simp only [Ls_len]; omega) | assumption | exact Ls_get (by omega) (by omega) | exact up_at _ _ _ | rfl | decide) (by first | omega | (rw [fset_at]; omega) | (simp only [Ls_len]; omega) | assumption | exact Ls_get (by omega) (by omega) | exact up_at _ _ _ | rfl | decide) (by first | omega | (rw [fset_at]; omega) | (simp only [Ls_len]; omega) | assumption | exact Ls_get (by omega) (by omega) | exact up_at _ _ _ | rfl | decide) (by first | omega | (rw [fset_at]; omega) | (simp only [Ls_len]; omega) | assumption | exact Ls_get (by omega) (by omega) | exact up_at _ _ _ | rfl | decide) (by first | omega | (rw [fset_at]; omega) | (simp only [Ls_len]; omega) | assumption | exact Ls_get (by omega) (by omega) | exact up_at _ _ _ | rfl | decide) (by first | omega | (rw [fset_at]; omega) | (simp only [Ls_len]; omega) | assumption | exact Ls_get (by omega) (by omega) | exact up_at _ _ _ | rfl | decide) (by first | omega | (rw [fset_at]; omega) | (simp only [Ls_len]; omega) | assumption | exact Ls_get (by omega) (by omega) | exact up_at _ _ _ | rfl | decide) (by first | omega | (rw [fset_at]; omega) | (simp only [Ls_len]; omega) | assumption | exact Ls_get (by omega) (by omega) | exact up_at _ _ _ | rfl | decide) ?_
            refine BX13_whenBy_52 (by first | omega | (rw [fset_at]; omega) | (simp only [Ls_len]; omega) | assumption | exact Ls_get (by omega) (by omega) | exact up_at _ _ _ | rfl | decide) ?_
            first
            | (exfalso; omega)
            | (rw [if_neg (by omega), if_pos (by omega)] at k; exact ih (j + 1) to _ _ (by omega) (by omega) g0 g1 (by omega) (by omega) k)
            | (rw [if_neg (by omega), if_neg (by omega)] at k; exact ih (j + 1) (row j) _ _ (by omega) (by omega) (hj (by omega)).1 (hj (by omega)).2 (by omega) (by omega) k)
  refine BX13_whenBy_0  ?_
  exact loop (many + 1).toNat 0 fr 0 _ (by decide) (by omega) f0 f1 (by decide) (fun _ => by decide) k
theorem R_X13_isNew {fr to kk : Int} {row : Int → Int} {l4 : Option aV} (e : IsM g h (fset M 10 row)) (k0 : 0 ≤ kk) (k3 : kk ≤ 3) (q1 : usB fr to row (row kk) kk.toNat = false → Q (some (vI 1)) h n) (q0 : usB fr to row (row kk) kk.toNat = true → Q (some (vI 0)) h n) : Rn d bc bs mX13_isNew 0 [some (vR (some 301)), some (vI kk), some (vI fr), some (vI to), l4] [] h n Q := by
  have m9 := e.o
  have m10 : h 311 = cI (Ls 4 row) := e.a10
  have ut := usB_t (fr := fr) (to := to) (row := row) (v := row kk) kk.toNat
  have loop : ∀ (m : Nat) (j : Int), 0 ≤ j → j + m = kk → (∀ i, 0 ≤ i → i < j → row i ≠ row kk) → Rn d bc bs mX13_isNew 3 [some (vR (some 301)), some (vI kk), some (vI fr), some (vI to), some (vI j)] [] h n Q := by
    intro m
    induction m with
    | zero =>
      intro j j0 jm hn
      have nt : row kk ≠ fr → row kk ≠ to → usB fr to row (row kk) kk.toNat = false := fun a b => by
        rw [Bool.eq_false_iff]
        intro z
        rcases ut.mp z with z | z | ⟨e, e0, e1⟩
        · exact a z
        · exact b z
        · exact hn e (by omega) (by omega) e1
      refine BX13_isNew_3  ?_ ?_
      · intro hc1
        refine BX13_isNew_33 (by first | assumption | exact up_at _ _ _ | (rw [up_ne (by omega)]; first | assumption | exact up_at _ _ _ | (rw [up_ne (by omega)]; assumption))) (by rfl) (by first | assumption | exact up_at _ _ _ | (rw [up_ne (by omega)]; first | assumption | exact up_at _ _ _ | (rw [up_ne (by omega)]; assumption))) (by first | omega | (rw [fset_at]; omega) | (simp only [Ls_len]; omega) | assumption | exact Ls_get (by omega) (by omega) | exact up_at _ _ _ | rfl | decide) (by first | exact Ls_get (by omega) (by omega) | assumption) ?_ ?_
        · intro hc2
          refine BX13_isNew_57  ?_
          (first | exact q0 (ut.mpr (.inl (by omega))) | exact q0 (ut.mpr (.inr (.inl (by omega)))))
        · intro hc3
          refine BX13_isNew_43 (by first | assumption | exact up_at _ _ _ | (rw [up_ne (by omega)]; first | assumption | exact up_at _ _ _ | (rw [up_ne (by omega)]; assumption))) (by rfl) (by first | assumption | exact up_at _ _ _ | (rw [up_ne (by omega)]; first | assumption | exact up_at _ _ _ | (rw [up_ne (by omega)]; assumption))) (by first | omega | (rw [fset_at]; omega) | (simp only [Ls_len]; omega) | assumption | exact Ls_get (by omega) (by omega) | exact up_at _ _ _ | rfl | decide) (by first | exact Ls_get (by omega) (by omega) | assumption) ?_ ?_
          · intro hc4
            refine BX13_isNew_57  ?_
            (first | exact q0 (ut.mpr (.inl (by omega))) | exact q0 (ut.mpr (.inr (.inl (by omega)))))
          · intro hc5
            refine BX13_isNew_53  ?_
            exact q1 (nt (by omega) (by omega))
      · intro hc6
        (exfalso; omega)
    | succ m ih =>
      intro j j0 jm hn
      refine BX13_isNew_3  ?_ ?_
      · intro hc1
        (exfalso; omega)
      · intro hc2
        refine BX13_isNew_9 (by first | assumption | exact up_at _ _ _ | (rw [up_ne (by omega)]; first | assumption | exact up_at _ _ _ | (rw [up_ne (by omega)]; assumption))) (by rfl) (by first | assumption | exact up_at _ _ _ | (rw [up_ne (by omega)]; first | assumption | exact up_at _ _ _ | (rw [up_ne (by omega)]; assumption))) (by first | omega | (rw [fset_at]; omega) | (simp only [Ls_len]; omega) | assumption | exact Ls_get (by omega) (by omega) | exact up_at _ _ _ | rfl | decide) (by first | exact Ls_get (by omega) (by omega) | assumption) (by first | omega | (rw [fset_at]; omega) | (simp only [Ls_len]; omega) | assumption | exact Ls_get (by omega) (by omega) | exact up_at _ _ _ | rfl | decide) (by first | exact Ls_get (by omega) (by omega) | assumption) ?_ ?_
        · intro hc3
          refine BX13_isNew_27 (by first | omega | (rw [fset_at]; omega) | (simp only [Ls_len]; omega) | assumption | exact Ls_get (by omega) (by omega) | exact up_at _ _ _ | rfl | decide) ?_
          refine ih (j + 1) (by omega) (by omega) (fun i i0 i1 => ?_)
          by_cases z : i = j
          · subst z; omega
          · exact hn i i0 (by omega)
        · intro hc4
          refine BX13_isNew_25  ?_
          exact q0 (ut.mpr (.inr (.inr ⟨j.toNat, by omega, by rw [show ((j.toNat : Nat) : Int) = j by omega]; omega⟩)))
  refine BX13_isNew_0  ?_
  exact loop kk.toNat 0 (by decide) (by omega) (fun i i0 i1 => by omega)
end RELAY2
