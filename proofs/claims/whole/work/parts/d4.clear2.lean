/-! Clear: the reference's shortest. -/
def rsM (a b : Int) : Int := if 0 < digM a - digM b ∧ Int.tdiv a (tenM (digM a - digM b)) = b then Int.tmod a (tenM (digM a - digM b)) else -1
/-- a rest that one half is ahead by, and how long the longer one is -/
def PaN (Y : Int → Int) : Nat → Int → Int → Prop
  | 0, r, v => 0 < r ∧ ∃ k e : Int, (0 ≤ k ∧ k < Y 53) ∧ (0 ≤ e ∧ e < Y 53) ∧ rsM (Y (12 + k)) (Y (12 + e)) = r ∧ v = digM (Y (12 + k))
  | m + 1, r, v => 0 < r ∧ ∃ r0 v0 k : Int, PaN Y m r0 v0 ∧ (0 ≤ k ∧ k < Y 53) ∧ ((rsM r0 (Y (12 + k)) = r ∧ v = v0) ∨ (rsM (Y (12 + k)) r0 = r ∧ v = v0 + digM r))
def clrP (Y : Int → Int) (v : Int) : Prop := (v = 1000000 ∨ (v < 1000000 ∧ ∃ (m : Nat) (k : Int), 0 ≤ k ∧ k < Y 53 ∧ PaN Y m (Y (12 + k)) v)) ∧ ∀ (m : Nat) (k v' : Int), 0 ≤ k → k < Y 53 → PaN Y m (Y (12 + k)) v' → v ≤ v'
def wdP (Y : Int → Int) : Prop := (0 ≤ Y 53 ∧ Y 53 ≤ 8) ∧ ∀ i, 0 ≤ i → i < Y 53 → 1 ≤ Y (12 + i) ∧ Y (12 + i) ≤ 9999
theorem digM_rg {v : Int} (v0 : 1 ≤ v) (v1 : v ≤ 9999) : 1 ≤ digM v ∧ digM v ≤ 4 := by
  by_cases c1 : v < 10
  · rw [digM_1 v0 c1]; decide
  by_cases c2 : v < 100
  · rw [digM_2 (by omega) c2]; decide
  by_cases c3 : v < 1000
  · rw [digM_3 (by omega) c3]; decide
  rw [digM_4 (by omega) (by omega)]; decide
theorem rsM_rg {a b : Int} (a0 : 1 ≤ a) (a1 : a ≤ 9999) (b0 : 1 ≤ b) (b1 : b ≤ 9999) : rsM a b < 1000 := by
  have d1 := digM_rg a0 a1
  have d2 := digM_rg b0 b1
  unfold rsM
  split
  · have t : tenM (digM a - digM b) ≤ 1000 ∧ 1 ≤ tenM (digM a - digM b) := by
      have e : digM a - digM b = 1 ∨ digM a - digM b = 2 ∨ digM a - digM b = 3 := by omega
      rcases e with q | q | q <;> rw [q] <;> decide
    rw [Int.tmod_eq_emod_of_nonneg (by omega)]
    have := Int.emod_lt_of_pos a (show 0 < tenM (digM a - digM b) by omega)
    omega
  · decide
theorem PaN_rg {Y : Int → Int} (w : wdP Y) : ∀ (m : Nat) (r v : Int), PaN Y m r v → 0 < r ∧ r < 1000 ∧ 0 ≤ v := by
  intro m
  induction m with
  | zero =>
    intro r v ⟨h0, k, e, hk, he, h1, h2⟩
    have wk := w.2 k hk.1 hk.2
    have we := w.2 e he.1 he.2
    have := rsM_rg wk.1 wk.2 we.1 we.2
    have := digM_rg wk.1 wk.2
    omega
  | succ m ih =>
    intro r v ⟨h0, r0, v0, k, hp, hk, h⟩
    have i := ih r0 v0 hp
    have wk := w.2 k hk.1 hk.2
    have g1 := rsM_rg (a := r0) (b := Y (12 + k)) (by omega) (by omega) wk.1 wk.2
    have g2 := rsM_rg (a := Y (12 + k)) (b := r0) wk.1 wk.2 (by omega) (by omega)
    rcases h with ⟨h1, h2⟩ | ⟨h1, h2⟩
    · omega
    · have := digM_rg (v := r) (by omega) (by omega)
      omega
def muN (L : Int → Int) : Nat → Nat
  | 0 => 0
  | k + 1 => muN L k + (L k).toNat
theorem muN_ne {L : Int → Int} {r v : Int} : ∀ k : Nat, (k : Int) ≤ r → muN (fset L r v) k = muN L k := by
  intro k
  induction k with
  | zero => intro _; rfl
  | succ k ih => intro h; unfold muN; rw [ih (by omega), fset_ne (by omega)]
theorem muN_lt {L : Int → Int} {r v : Int} (v0 : 0 ≤ v) (h : v < L r) (r0 : 0 ≤ r) : ∀ k : Nat, r < k → muN (fset L r v) k < muN L k := by
  intro k
  induction k with
  | zero => intro h; omega
  | succ k ih =>
    intro hk
    unfold muN
    by_cases q : r = k
    · subst q; rw [muN_ne k (Int.le_refl _), fset_at]; omega
    · rw [fset_ne (by omega)]
      have := ih (by omega)
      omega
def InvL (Y L : Int → Int) : Prop := ∀ r, 0 ≤ r → r < 1000 → (0 ≤ L r ∧ L r ≤ 1000000) ∧ (L r < 1000000 → ∃ m, PaN Y m r (L r))
theorem InvL.upd {Y L : Int → Int} {r v : Int} (i : InvL Y L) (v0 : 0 ≤ v) (v1 : v < L r) (r0 : 0 ≤ r) (r1 : r < 1000) (h : ∃ m, PaN Y m r v) : InvL Y (fset L r v) := by
  intro r' r0' r1'
  by_cases q : r' = r
  · subst q
    have := (i r' r0' r1').1
    rw [fset_at]
    exact ⟨by omega, fun _ => h⟩
  · rw [fset_ne q]; exact i r' r0' r1'
def clAt (Y L : Int → Int) (r k : Int) : Prop := (0 < rsM r (Y (12 + k)) → L (rsM r (Y (12 + k))) ≤ L r) ∧ (0 < rsM (Y (12 + k)) r → L (rsM (Y (12 + k)) r) ≤ L r + digM (rsM (Y (12 + k)) r))
def StL (Y L0 : Int → Int) (r k f : Int) (L : Int → Int) : Prop := InvL Y L ∧ (∀ u, L u ≤ L0 u) ∧ ((f = 0 ∧ L = L0 ∧ ∀ j, 0 ≤ j → j < k → clAt Y L0 r j) ∨ (f = 1 ∧ muN L 1000 < muN L0 1000))
theorem StL.non {Y L0 L : Int → Int} {r k f : Int} (s : StL Y L0 r k f L) (h : clAt Y L r k) : StL Y L0 r (k + 1) f L := by
  obtain ⟨s1, s2, s3⟩ := s
  refine ⟨s1, s2, ?_⟩
  rcases s3 with ⟨a, b, c⟩ | a
  · subst b
    refine .inl ⟨a, rfl, fun j j0 j1 => ?_⟩
    by_cases q : j = k
    · subst q; exact h
    · exact c j j0 (by omega)
  · exact .inr a
theorem StL.upd {Y L0 L : Int → Int} {r k k' f u v : Int} (s : StL Y L0 r k f L) (v0 : 0 ≤ v) (v1 : v < L u) (u0 : 0 ≤ u) (u1 : u < 1000) (h : ∃ m, PaN Y m u v) : StL Y L0 r k' 1 (fset L u v) := by
  obtain ⟨s1, s2, s3⟩ := s
  refine ⟨s1.upd v0 v1 u0 u1 h, fun w => ?_, .inr ⟨rfl, ?_⟩⟩
  · by_cases q : w = u
    · subst q; rw [fset_at]; have := s2 w; omega
    · rw [fset_ne q]; exact s2 w
  · have m := muN_lt v0 v1 u0 1000 u1
    rcases s3 with ⟨_, b, _⟩ | a
    · subst b; exact m
    · omega
theorem StL.one {Y L0 L : Int → Int} {r k k' : Int} (s : StL Y L0 r k 1 L) : StL Y L0 r k' 1 L := by
  obtain ⟨s1, s2, s3⟩ := s
  refine ⟨s1, s2, ?_⟩
  rcases s3 with ⟨a, _⟩ | a
  · omega
  · exact .inr a
theorem StL.f01 {Y L0 L : Int → Int} {r k f : Int} (s : StL Y L0 r k f L) : f = 0 ∨ f = 1 := by
  rcases s.2.2 with ⟨a, _⟩ | ⟨a, _⟩
  · exact .inl a
  · exact .inr a
theorem or_f0 {f : Int} (h : f = 0 ∨ f = 1) : or32 f 0 = f := by rcases h with q | q <;> subst q <;> decide
theorem or_f1 {f : Int} (h : f = 0 ∨ f = 1) : or32 f 1 = 1 := by rcases h with q | q <;> subst q <;> decide
section CLEAR3
variable {d bc bs n : Nat} {g h : aH} {Q : aQ} {W V : Int → Int → Int} {X : Int → Tx} {F B : Int → Int} {wr cm : Int} {M : Int → Int → Int} {L : Int → Int}
theorem R_X13_restOf {a b : Int} {l2 : Option aV} (a0 : 1 ≤ a) (a1 : a ≤ 9999) (b0 : 1 ≤ b) (b1 : b ≤ 9999) (k : Q (some (vI (rsM a b))) h n) : Rn (d + 1) bc bs mX13_restOf 0 [some (vI a), some (vI b), l2] [] h n Q := by
  have d1 := digM_rg a0 a1
  have d2 := digM_rg b0 b1
  have t1 := tenM_le (digM a - digM b)
  have td := tdiv_bd (x := a) (y := tenM (digM a - digM b)) (by omega) (by omega)
  unfold rsM at k
  refine BX13_restOf_0  ?_
  refine R_X13_longOf (by first | omega | (rw [fset_at]; omega) | (simp only [Ls_len]; omega) | assumption | exact Ls_get (by omega) (by omega) | exact up_at _ _ _ | rfl | decide) (by first | omega | (rw [fset_at]; omega) | (simp only [Ls_len]; omega) | assumption | exact Ls_get (by omega) (by omega) | exact up_at _ _ _ | rfl | decide) ?_
  refine BX13_restOf_4  ?_
  refine R_X13_longOf (by first | omega | (rw [fset_at]; omega) | (simp only [Ls_len]; omega) | assumption | exact Ls_get (by omega) (by omega) | exact up_at _ _ _ | rfl | decide) (by first | omega | (rw [fset_at]; omega) | (simp only [Ls_len]; omega) | assumption | exact Ls_get (by omega) (by omega) | exact up_at _ _ _ | rfl | decide) ?_
  refine BX13_restOf_8 (by first | omega | (rw [fset_at]; omega) | (simp only [Ls_len]; omega) | assumption | exact Ls_get (by omega) (by omega) | exact up_at _ _ _ | rfl | decide) ?_ ?_
  · intro hc1
    refine BX13_restOf_33  ?_
    (rw [if_neg (by omega)] at k; exact k)
  · intro hc2
    refine BX13_restOf_14  ?_
    refine R_X13_tensOf (by first | omega | (rw [fset_at]; omega) | (simp only [Ls_len]; omega) | assumption | exact Ls_get (by omega) (by omega) | exact up_at _ _ _ | rfl | decide) (by first | omega | (rw [fset_at]; omega) | (simp only [Ls_len]; omega) | assumption | exact Ls_get (by omega) (by omega) | exact up_at _ _ _ | rfl | decide) ?_
    refine BX13_restOf_19 (by first | omega | (rw [fset_at]; omega) | (simp only [Ls_len]; omega) | assumption | exact Ls_get (by omega) (by omega) | exact up_at _ _ _ | rfl | decide) (by first | omega | (rw [fset_at]; omega) | (simp only [Ls_len]; omega) | assumption | exact Ls_get (by omega) (by omega) | exact up_at _ _ _ | rfl | decide) ?_ ?_
    · intro hc3
      refine BX13_restOf_33  ?_
      (rw [if_neg (by omega)] at k; exact k)
    · intro hc4
      refine BX13_restOf_24  ?_
      refine R_X13_tensOf (by first | omega | (rw [fset_at]; omega) | (simp only [Ls_len]; omega) | assumption | exact Ls_get (by omega) (by omega) | exact up_at _ _ _ | rfl | decide) (by first | omega | (rw [fset_at]; omega) | (simp only [Ls_len]; omega) | assumption | exact Ls_get (by omega) (by omega) | exact up_at _ _ _ | rfl | decide) ?_
      refine BX13_restOf_29 (by first | omega | (rw [fset_at]; omega) | (simp only [Ls_len]; omega) | assumption | exact Ls_get (by omega) (by omega) | exact up_at _ _ _ | rfl | decide) ?_
      (rw [if_pos (by omega)] at k; exact k)
theorem R_X13_isShorter {r v : Int} (e : IsM g h (fset M 12 L)) (r0 : 0 ≤ r) (r1 : r < 1000) (k0 : L r ≤ v → Q (some (vI 0)) h n) (k1 : v < L r → ∀ h1, IsM g h1 (fset M 12 (fset L r v)) → Q (some (vI 1)) h1 n) : Rn d bc bs mX13_isShorter 0 [some (vR (some 301)), some (vI r), some (vI v)] [] h n Q := by
  have m0 := e.o
  have m12 : h 313 = cI (Ls 1000 L) := e.a12
  have e2 := e.s12 (f := fset L r v)
  rw [fset2] at e2
  refine BX13_isShorter_0 (by first | assumption | exact up_at _ _ _ | (rw [up_ne (by omega)]; first | assumption | exact up_at _ _ _ | (rw [up_ne (by omega)]; assumption))) (by rfl) (by first | assumption | exact up_at _ _ _ | (rw [up_ne (by omega)]; first | assumption | exact up_at _ _ _ | (rw [up_ne (by omega)]; assumption))) (by first | omega | (rw [fset_at]; omega) | (simp only [Ls_len]; omega) | assumption | exact Ls_get (by omega) (by omega) | exact up_at _ _ _ | rfl | decide) (by first | exact Ls_get (by omega) (by omega) | assumption) ?_ ?_
  · intro hc1
    refine BX13_isShorter_12 (by first | assumption | exact up_at _ _ _ | (rw [up_ne (by omega)]; first | assumption | exact up_at _ _ _ | (rw [up_ne (by omega)]; assumption))) (by rfl) (by first | assumption | exact up_at _ _ _ | (rw [up_ne (by omega)]; first | assumption | exact up_at _ _ _ | (rw [up_ne (by omega)]; assumption))) (by first | omega | (rw [fset_at]; omega) | (simp only [Ls_len]; omega) | assumption | exact Ls_get (by omega) (by omega) | exact up_at _ _ _ | rfl | decide) (by first | omega | (rw [fset_at]; omega) | (simp only [Ls_len]; omega) | assumption | exact Ls_get (by omega) (by omega) | exact up_at _ _ _ | rfl | decide) (by first | omega | (rw [fset_at]; omega) | (simp only [Ls_len]; omega) | assumption | exact Ls_get (by omega) (by omega) | exact up_at _ _ _ | rfl | decide) ?_
    try rw [Ls_set (by omega)]
    refine BX13_isShorter_19  ?_
    exact k1 (by omega) _ e2
  · intro hc2
    refine BX13_isShorter_10  ?_
    exact k0 (by omega)
theorem R_X13_isSpread {r : Int} (e : IsM g h (fset M 12 L)) (t : MT M W V X F B wr cm) (wd : wdP (W 2)) (r0 : 1 ≤ r) (r1 : r < 1000) (il : InvL (W 2) L) (lr : L r < 1000000) (k : ∀ h1 f L1, IsM g h1 (fset M 12 L1) → StL (W 2) L r (W 2 53) f L1 → Q (some (vI f)) h1 n) : Rn (d + 2) bc bs mX13_isSpread 0 [some (vR (some 301)), some (vI r), none, none, none, none, none] [] h n Q := by
  have ty := t.1.1.2.2.1
  have ty2 : M 1 5 = W 2 53 := ty.1.2.1
  have ty7 := ty.2.2.1
  have w8 := wd.1
  have loop : ∀ (m : Nat) (j f : Int) (L1 : Int → Int) (h1 : aH) (l4 l5 l6 : Option aV), 0 ≤ j → j + m = W 2 53 → IsM g h1 (fset M 12 L1) → StL (W 2) L r j f L1 → Rn (d + 2) bc bs mX13_isSpread 4 [some (vR (some 301)), some (vI r), some (vI f), some (vI j), l4, l5, l6] [] h1 n Q := by
    intro m
    induction m with
    | zero =>
      intro j f L1 h1 l4 l5 l6 j0 jm e1 st
      have m0 := e1.o
      have m1 : h1 302 = cI (Ls 3389 (M 1)) := e1.a1
      have ej : j = W 2 53 := by omega
      subst ej
      have f01 := st.f01
      refine BX13_isSpread_4 (by first | assumption | exact up_at _ _ _ | (rw [up_ne (by omega)]; first | assumption | exact up_at _ _ _ | (rw [up_ne (by omega)]; assumption))) (by rfl) (by first | assumption | exact up_at _ _ _ | (rw [up_ne (by omega)]; first | assumption | exact up_at _ _ _ | (rw [up_ne (by omega)]; assumption))) (by first | exact Ls_get (by omega) (by omega) | assumption) ?_ ?_
      · intro hc1
        first
        | (exfalso; omega)
        | (
            refine BX13_isSpread_94 (by first | omega | (rw [fset_at]; omega) | (simp only [Ls_len]; omega) | assumption | exact Ls_get (by omega) (by omega) | exact up_at _ _ _ | rfl | decide) ?_
            exact k _ _ _ e1 st
          )
      · intro hc2
        first
        | (exfalso; omega)
        | (
            (exfalso; omega)
          )
    | succ m ih =>
      intro j f L1 h1 l4 l5 l6 j0 jm e1 st
      have m0 := e1.o
      have m1 : h1 302 = cI (Ls 3389 (M 1)) := e1.a1
      have m12 : h1 313 = cI (Ls 1000 L1) := e1.a12
      have y7 := ty7 j j0 (by omega)
      have wj := wd.2 j j0 (by omega)
      rw [← y7] at wj
      have f01 := st.f01
      have g1 := rsM_rg (a := r) (b := M 1 (137 + j)) (by omega) (by omega) wj.1 wj.2
      have g2 := rsM_rg (a := M 1 (137 + j)) (b := r) wj.1 wj.2 (by omega) (by omega)
      have il1 := st.1
      have lr1 : L1 r < 1000000 := by have := st.2.1 r; omega
      have lr0 := (il1 r (by omega) (by omega)).1
      obtain ⟨pm, hp⟩ := (il1 r (by omega) (by omega)).2 lr1
      have pw : 0 < rsM r (M 1 (137 + j)) → ∃ m, PaN (W 2) m (rsM r (M 1 (137 + j))) (L1 r) := fun h => ⟨pm + 1, h, r, L1 r, j, hp, ⟨j0, by omega⟩, .inl ⟨by rw [← y7], rfl⟩⟩
      have pb : 0 < rsM (M 1 (137 + j)) r → ∃ m, PaN (W 2) m (rsM (M 1 (137 + j)) r) (L1 r + digM (rsM (M 1 (137 + j)) r)) := fun h => ⟨pm + 1, h, r, L1 r, j, hp, ⟨j0, by omega⟩, .inr ⟨by rw [← y7], rfl⟩⟩
      have cA : (0 < rsM r (M 1 (137 + j)) → L1 (rsM r (M 1 (137 + j))) ≤ L1 r) → (0 < rsM (M 1 (137 + j)) r → L1 (rsM (M 1 (137 + j)) r) ≤ L1 r + digM (rsM (M 1 (137 + j)) r)) → clAt (W 2) L1 r j := fun a b => by
        unfold clAt; rw [← y7]; exact ⟨a, b⟩
      have dg : 0 < rsM (M 1 (137 + j)) r → 1 ≤ digM (rsM (M 1 (137 + j)) r) ∧ digM (rsM (M 1 (137 + j)) r) ≤ 4 := fun h => digM_rg (by omega) (by omega)
      have q1 := or_f0 f01
      have q2 := or_f1 f01
      have q3 : or32 1 0 = 1 := by decide
      have q4 : or32 1 1 = 1 := by decide
      refine BX13_isSpread_4 (by first | assumption | exact up_at _ _ _ | (rw [up_ne (by omega)]; first | assumption | exact up_at _ _ _ | (rw [up_ne (by omega)]; assumption))) (by rfl) (by first | assumption | exact up_at _ _ _ | (rw [up_ne (by omega)]; first | assumption | exact up_at _ _ _ | (rw [up_ne (by omega)]; assumption))) (by first | exact Ls_get (by omega) (by omega) | assumption) ?_ ?_
      · intro hc1
        (exfalso; omega)
      · intro hc2
        refine BX13_isSpread_14 (by first | assumption | exact up_at _ _ _ | (rw [up_ne (by omega)]; first | assumption | exact up_at _ _ _ | (rw [up_ne (by omega)]; assumption))) (by rfl) (by first | omega | (rw [fset_at]; omega) | (simp only [Ls_len]; omega) | assumption | exact Ls_get (by omega) (by omega) | exact up_at _ _ _ | rfl | decide) (by first | assumption | exact up_at _ _ _ | (rw [up_ne (by omega)]; first | assumption | exact up_at _ _ _ | (rw [up_ne (by omega)]; assumption))) (by first | omega | (rw [fset_at]; omega) | (simp only [Ls_len]; omega) | assumption | exact Ls_get (by omega) (by omega) | exact up_at _ _ _ | rfl | decide) (by first | exact Ls_get (by omega) (by omega) | assumption) ?_
        refine R_X13_restOf (by first | omega | (rw [fset_at]; omega) | (simp only [Ls_len]; omega) | assumption | exact Ls_get (by omega) (by omega) | exact up_at _ _ _ | rfl | decide) (by first | omega | (rw [fset_at]; omega) | (simp only [Ls_len]; omega) | assumption | exact Ls_get (by omega) (by omega) | exact up_at _ _ _ | rfl | decide) (by first | omega | (rw [fset_at]; omega) | (simp only [Ls_len]; omega) | assumption | exact Ls_get (by omega) (by omega) | exact up_at _ _ _ | rfl | decide) (by first | omega | (rw [fset_at]; omega) | (simp only [Ls_len]; omega) | assumption | exact Ls_get (by omega) (by omega) | exact up_at _ _ _ | rfl | decide) ?_
        refine BX13_isSpread_32  ?_
        refine R_X13_restOf (by first | omega | (rw [fset_at]; omega) | (simp only [Ls_len]; omega) | assumption | exact Ls_get (by omega) (by omega) | exact up_at _ _ _ | rfl | decide) (by first | omega | (rw [fset_at]; omega) | (simp only [Ls_len]; omega) | assumption | exact Ls_get (by omega) (by omega) | exact up_at _ _ _ | rfl | decide) (by first | omega | (rw [fset_at]; omega) | (simp only [Ls_len]; omega) | assumption | exact Ls_get (by omega) (by omega) | exact up_at _ _ _ | rfl | decide) (by first | omega | (rw [fset_at]; omega) | (simp only [Ls_len]; omega) | assumption | exact Ls_get (by omega) (by omega) | exact up_at _ _ _ | rfl | decide) ?_
        refine BX13_isSpread_40  ?_ ?_
        · intro hc3
          refine BX13_isSpread_62  ?_ ?_
          · intro hc4
            refine BX13_isSpread_88 (by first | omega | (rw [fset_at]; omega) | (simp only [Ls_len]; omega) | assumption | exact Ls_get (by omega) (by omega) | exact up_at _ _ _ | rfl | decide) ?_
            try simp only [q1, q2, q3, q4]
            try rw [qr] at e83 x83
            first | exact ih _ _ _ _ _ _ _ (by omega) (by omega) e83 (st57.upd (by have := dg (by omega); omega) x83 (by omega) (by omega) (pb (by omega))) | exact ih _ _ _ _ _ _ _ (by omega) (by omega) e57 st57.one | exact ih _ _ _ _ _ _ _ (by omega) (by omega) e83 (st.upd (by have := dg (by omega); omega) x83 (by omega) (by omega) (pb (by omega))) | exact ih _ _ _ _ _ _ _ (by omega) (by omega) e1 (st.non (cA (fun h => by omega) (fun h => by omega)))
          · intro hc5
            refine BX13_isSpread_67 (by first | assumption | exact up_at _ _ _ | (rw [up_ne (by omega)]; first | assumption | exact up_at _ _ _ | (rw [up_ne (by omega)]; assumption))) (by rfl) (by first | assumption | exact up_at _ _ _ | (rw [up_ne (by omega)]; first | assumption | exact up_at _ _ _ | (rw [up_ne (by omega)]; assumption))) (by first | omega | (rw [fset_at]; omega) | (simp only [Ls_len]; omega) | assumption | exact Ls_get (by omega) (by omega) | exact up_at _ _ _ | rfl | decide) (by first | exact Ls_get (by omega) (by omega) | assumption) ?_
            refine R_X13_longOf (by first | omega | (rw [fset_at]; omega) | (simp only [Ls_len]; omega) | assumption | exact Ls_get (by omega) (by omega) | exact up_at _ _ _ | rfl | decide) (by first | omega | (rw [fset_at]; omega) | (simp only [Ls_len]; omega) | assumption | exact Ls_get (by omega) (by omega) | exact up_at _ _ _ | rfl | decide) ?_
            refine BX13_isSpread_82 (by first | omega | (rw [fset_at]; omega) | (simp only [Ls_len]; omega) | assumption | exact Ls_get (by omega) (by omega) | exact up_at _ _ _ | rfl | decide) (by first | assumption | exact up_at _ _ _ | (rw [up_ne (by omega)]; first | assumption | exact up_at _ _ _ | (rw [up_ne (by omega)]; assumption))) ?_
            refine R_X13_isShorter (by first | omega | (rw [fset_at]; omega) | (simp only [Ls_len]; omega) | assumption | exact Ls_get (by omega) (by omega) | exact up_at _ _ _ | rfl | decide) (by first | omega | (rw [fset_at]; omega) | (simp only [Ls_len]; omega) | assumption | exact Ls_get (by omega) (by omega) | exact up_at _ _ _ | rfl | decide) (by first | omega | (rw [fset_at]; omega) | (simp only [Ls_len]; omega) | assumption | exact Ls_get (by omega) (by omega) | exact up_at _ _ _ | rfl | decide) ?_ ?_
            · intro x83
              refine BX13_isSpread_86 (by first | omega | (rw [fset_at]; omega) | (simp only [Ls_len]; omega) | assumption | exact Ls_get (by omega) (by omega) | exact up_at _ _ _ | rfl | decide) ?_
              try simp only [q1, q2, q3, q4]
              try rw [qr] at e83 x83
              first | exact ih _ _ _ _ _ _ _ (by omega) (by omega) e83 (st57.upd (by have := dg (by omega); omega) x83 (by omega) (by omega) (pb (by omega))) | exact ih _ _ _ _ _ _ _ (by omega) (by omega) e57 st57.one | exact ih _ _ _ _ _ _ _ (by omega) (by omega) e83 (st.upd (by have := dg (by omega); omega) x83 (by omega) (by omega) (pb (by omega))) | exact ih _ _ _ _ _ _ _ (by omega) (by omega) e1 (st.non (cA (fun h => by omega) (fun h => by omega)))
            · intro x83 h83 e83
              refine BX13_isSpread_86 (by first | omega | (rw [fset_at]; omega) | (simp only [Ls_len]; omega) | assumption | exact Ls_get (by omega) (by omega) | exact up_at _ _ _ | rfl | decide) ?_
              try simp only [q1, q2, q3, q4]
              try rw [qr] at e83 x83
              first | exact ih _ _ _ _ _ _ _ (by omega) (by omega) e83 (st57.upd (by have := dg (by omega); omega) x83 (by omega) (by omega) (pb (by omega))) | exact ih _ _ _ _ _ _ _ (by omega) (by omega) e57 st57.one | exact ih _ _ _ _ _ _ _ (by omega) (by omega) e83 (st.upd (by have := dg (by omega); omega) x83 (by omega) (by omega) (pb (by omega))) | exact ih _ _ _ _ _ _ _ (by omega) (by omega) e1 (st.non (cA (fun h => by omega) (fun h => by omega)))
        · intro hc6
          refine BX13_isSpread_47 (by first | assumption | exact up_at _ _ _ | (rw [up_ne (by omega)]; first | assumption | exact up_at _ _ _ | (rw [up_ne (by omega)]; assumption))) (by rfl) (by first | assumption | exact up_at _ _ _ | (rw [up_ne (by omega)]; first | assumption | exact up_at _ _ _ | (rw [up_ne (by omega)]; assumption))) (by first | omega | (rw [fset_at]; omega) | (simp only [Ls_len]; omega) | assumption | exact Ls_get (by omega) (by omega) | exact up_at _ _ _ | rfl | decide) (by first | exact Ls_get (by omega) (by omega) | assumption) ?_
          refine R_X13_isShorter (by first | omega | (rw [fset_at]; omega) | (simp only [Ls_len]; omega) | assumption | exact Ls_get (by omega) (by omega) | exact up_at _ _ _ | rfl | decide) (by first | omega | (rw [fset_at]; omega) | (simp only [Ls_len]; omega) | assumption | exact Ls_get (by omega) (by omega) | exact up_at _ _ _ | rfl | decide) (by first | omega | (rw [fset_at]; omega) | (simp only [Ls_len]; omega) | assumption | exact Ls_get (by omega) (by omega) | exact up_at _ _ _ | rfl | decide) ?_ ?_
          · intro x57
            try have m0 := e57.o
            try have m12 : h57 313 = cI (Ls 1000 (fset L1 (rsM r (M 1 (137 + j))) (L1 r))) := e57.a12
            try have m1 : h57 302 = cI (Ls 3389 (M 1)) := e57.a1
            try have qr : fset L1 (rsM r (M 1 (137 + j))) (L1 r) r = L1 r := fset_ne (by intro q; rw [← q] at x57; omega)
            try have st57 : StL (W 2) L r j 1 (fset L1 (rsM r (M 1 (137 + j))) (L1 r)) := st.upd (by omega) x57 (by omega) (by omega) (pw (by omega))
            refine BX13_isSpread_60  ?_ ?_
            · intro hc7
              refine BX13_isSpread_88 (by first | omega | (rw [fset_at]; omega) | (simp only [Ls_len]; omega) | assumption | exact Ls_get (by omega) (by omega) | exact up_at _ _ _ | rfl | decide) ?_
              try simp only [q1, q2, q3, q4]
              try rw [qr] at e83 x83
              first | exact ih _ _ _ _ _ _ _ (by omega) (by omega) e83 (st57.upd (by have := dg (by omega); omega) x83 (by omega) (by omega) (pb (by omega))) | exact ih _ _ _ _ _ _ _ (by omega) (by omega) e57 st57.one | exact ih _ _ _ _ _ _ _ (by omega) (by omega) e83 (st.upd (by have := dg (by omega); omega) x83 (by omega) (by omega) (pb (by omega))) | exact ih _ _ _ _ _ _ _ (by omega) (by omega) e1 (st.non (cA (fun h => by omega) (fun h => by omega)))
            · intro hc8
              refine BX13_isSpread_67 (by first | assumption | exact up_at _ _ _ | (rw [up_ne (by omega)]; first | assumption | exact up_at _ _ _ | (rw [up_ne (by omega)]; assumption))) (by rfl) (by first | assumption | exact up_at _ _ _ | (rw [up_ne (by omega)]; first | assumption | exact up_at _ _ _ | (rw [up_ne (by omega)]; assumption))) (by first | omega | (rw [fset_at]; omega) | (simp only [Ls_len]; omega) | assumption | exact Ls_get (by omega) (by omega) | exact up_at _ _ _ | rfl | decide) (by first | exact Ls_get (by omega) (by omega) | assumption) ?_
              refine R_X13_longOf (by first | omega | (rw [fset_at]; omega) | (simp only [Ls_len]; omega) | assumption | exact Ls_get (by omega) (by omega) | exact up_at _ _ _ | rfl | decide) (by first | omega | (rw [fset_at]; omega) | (simp only [Ls_len]; omega) | assumption | exact Ls_get (by omega) (by omega) | exact up_at _ _ _ | rfl | decide) ?_
              refine BX13_isSpread_82 (by first | omega | (rw [fset_at]; omega) | (simp only [Ls_len]; omega) | assumption | exact Ls_get (by omega) (by omega) | exact up_at _ _ _ | rfl | decide) (by first | assumption | exact up_at _ _ _ | (rw [up_ne (by omega)]; first | assumption | exact up_at _ _ _ | (rw [up_ne (by omega)]; assumption))) ?_
              refine R_X13_isShorter (by first | omega | (rw [fset_at]; omega) | (simp only [Ls_len]; omega) | assumption | exact Ls_get (by omega) (by omega) | exact up_at _ _ _ | rfl | decide) (by first | omega | (rw [fset_at]; omega) | (simp only [Ls_len]; omega) | assumption | exact Ls_get (by omega) (by omega) | exact up_at _ _ _ | rfl | decide) (by first | omega | (rw [fset_at]; omega) | (simp only [Ls_len]; omega) | assumption | exact Ls_get (by omega) (by omega) | exact up_at _ _ _ | rfl | decide) ?_ ?_
              · intro x83
                refine BX13_isSpread_86 (by first | omega | (rw [fset_at]; omega) | (simp only [Ls_len]; omega) | assumption | exact Ls_get (by omega) (by omega) | exact up_at _ _ _ | rfl | decide) ?_
                try simp only [q1, q2, q3, q4]
                try rw [qr] at e83 x83
                first | exact ih _ _ _ _ _ _ _ (by omega) (by omega) e83 (st57.upd (by have := dg (by omega); omega) x83 (by omega) (by omega) (pb (by omega))) | exact ih _ _ _ _ _ _ _ (by omega) (by omega) e57 st57.one | exact ih _ _ _ _ _ _ _ (by omega) (by omega) e83 (st.upd (by have := dg (by omega); omega) x83 (by omega) (by omega) (pb (by omega))) | exact ih _ _ _ _ _ _ _ (by omega) (by omega) e1 (st.non (cA (fun h => by omega) (fun h => by omega)))
              · intro x83 h83 e83
                refine BX13_isSpread_86 (by first | omega | (rw [fset_at]; omega) | (simp only [Ls_len]; omega) | assumption | exact Ls_get (by omega) (by omega) | exact up_at _ _ _ | rfl | decide) ?_
                try simp only [q1, q2, q3, q4]
                try rw [qr] at e83 x83
                first | exact ih _ _ _ _ _ _ _ (by omega) (by omega) e83 (st57.upd (by have := dg (by omega); omega) x83 (by omega) (by omega) (pb (by omega))) | exact ih _ _ _ _ _ _ _ (by omega) (by omega) e57 st57.one | exact ih _ _ _ _ _ _ _ (by omega) (by omega) e83 (st.upd (by have := dg (by omega); omega) x83 (by omega) (by omega) (pb (by omega))) | exact ih _ _ _ _ _ _ _ (by omega) (by omega) e1 (st.non (cA (fun h => by omega) (fun h => by omega)))
          · intro x57 h57 e57
            try have m0 := e57.o
            try have m12 : h57 313 = cI (Ls 1000 (fset L1 (rsM r (M 1 (137 + j))) (L1 r))) := e57.a12
            try have m1 : h57 302 = cI (Ls 3389 (M 1)) := e57.a1
            try have qr : fset L1 (rsM r (M 1 (137 + j))) (L1 r) r = L1 r := fset_ne (by intro q; rw [← q] at x57; omega)
            try have st57 : StL (W 2) L r j 1 (fset L1 (rsM r (M 1 (137 + j))) (L1 r)) := st.upd (by omega) x57 (by omega) (by omega) (pw (by omega))
            refine BX13_isSpread_60  ?_ ?_
            · intro hc9
              refine BX13_isSpread_88 (by first | omega | (rw [fset_at]; omega) | (simp only [Ls_len]; omega) | assumption | exact Ls_get (by omega) (by omega) | exact up_at _ _ _ | rfl | decide) ?_
              try simp only [q1, q2, q3, q4]
              try rw [qr] at e83 x83
              first | exact ih _ _ _ _ _ _ _ (by omega) (by omega) e83 (st57.upd (by have := dg (by omega); omega) x83 (by omega) (by omega) (pb (by omega))) | exact ih _ _ _ _ _ _ _ (by omega) (by omega) e57 st57.one | exact ih _ _ _ _ _ _ _ (by omega) (by omega) e83 (st.upd (by have := dg (by omega); omega) x83 (by omega) (by omega) (pb (by omega))) | exact ih _ _ _ _ _ _ _ (by omega) (by omega) e1 (st.non (cA (fun h => by omega) (fun h => by omega)))
            · intro hc10
              refine BX13_isSpread_67 (by first | assumption | exact up_at _ _ _ | (rw [up_ne (by omega)]; first | assumption | exact up_at _ _ _ | (rw [up_ne (by omega)]; assumption))) (by rfl) (by first | assumption | exact up_at _ _ _ | (rw [up_ne (by omega)]; first | assumption | exact up_at _ _ _ | (rw [up_ne (by omega)]; assumption))) (by first | omega | (rw [fset_at]; omega) | (simp only [Ls_len]; omega) | assumption | exact Ls_get (by omega) (by omega) | exact up_at _ _ _ | rfl | decide) (by first | exact Ls_get (by omega) (by omega) | assumption) ?_
              refine R_X13_longOf (by first | omega | (rw [fset_at]; omega) | (simp only [Ls_len]; omega) | assumption | exact Ls_get (by omega) (by omega) | exact up_at _ _ _ | rfl | decide) (by first | omega | (rw [fset_at]; omega) | (simp only [Ls_len]; omega) | assumption | exact Ls_get (by omega) (by omega) | exact up_at _ _ _ | rfl | decide) ?_
              refine BX13_isSpread_82 (by first | omega | (rw [fset_at]; omega) | (simp only [Ls_len]; omega) | assumption | exact Ls_get (by omega) (by omega) | exact up_at _ _ _ | rfl | decide) (by first | assumption | exact up_at _ _ _ | (rw [up_ne (by omega)]; first | assumption | exact up_at _ _ _ | (rw [up_ne (by omega)]; assumption))) ?_
              refine R_X13_isShorter (by first | omega | (rw [fset_at]; omega) | (simp only [Ls_len]; omega) | assumption | exact Ls_get (by omega) (by omega) | exact up_at _ _ _ | rfl | decide) (by first | omega | (rw [fset_at]; omega) | (simp only [Ls_len]; omega) | assumption | exact Ls_get (by omega) (by omega) | exact up_at _ _ _ | rfl | decide) (by first | omega | (rw [fset_at]; omega) | (simp only [Ls_len]; omega) | assumption | exact Ls_get (by omega) (by omega) | exact up_at _ _ _ | rfl | decide) ?_ ?_
              · intro x83
                refine BX13_isSpread_86 (by first | omega | (rw [fset_at]; omega) | (simp only [Ls_len]; omega) | assumption | exact Ls_get (by omega) (by omega) | exact up_at _ _ _ | rfl | decide) ?_
                try simp only [q1, q2, q3, q4]
                try rw [qr] at e83 x83
                first | exact ih _ _ _ _ _ _ _ (by omega) (by omega) e83 (st57.upd (by have := dg (by omega); omega) x83 (by omega) (by omega) (pb (by omega))) | exact ih _ _ _ _ _ _ _ (by omega) (by omega) e57 st57.one | exact ih _ _ _ _ _ _ _ (by omega) (by omega) e83 (st.upd (by have := dg (by omega); omega) x83 (by omega) (by omega) (pb (by omega))) | exact ih _ _ _ _ _ _ _ (by omega) (by omega) e1 (st.non (cA (fun h => by omega) (fun h => by omega)))
              · intro x83 h83 e83
                refine BX13_isSpread_86 (by first | omega | (rw [fset_at]; omega) | (simp only [Ls_len]; omega) | assumption | exact Ls_get (by omega) (by omega) | exact up_at _ _ _ | rfl | decide) ?_
                try simp only [q1, q2, q3, q4]
                try rw [qr] at e83 x83
                first | exact ih _ _ _ _ _ _ _ (by omega) (by omega) e83 (st57.upd (by have := dg (by omega); omega) x83 (by omega) (by omega) (pb (by omega))) | exact ih _ _ _ _ _ _ _ (by omega) (by omega) e57 st57.one | exact ih _ _ _ _ _ _ _ (by omega) (by omega) e83 (st.upd (by have := dg (by omega); omega) x83 (by omega) (by omega) (pb (by omega))) | exact ih _ _ _ _ _ _ _ (by omega) (by omega) e1 (st.non (cA (fun h => by omega) (fun h => by omega)))
  refine BX13_isSpread_0  ?_
  exact loop (W 2 53).toNat 0 0 L h _ _ _ (by decide) (by omega) e ⟨il, fun _ => Int.le_refl _, .inl ⟨rfl, rfl, fun j j0 j1 => by omega⟩⟩
end CLEAR3
