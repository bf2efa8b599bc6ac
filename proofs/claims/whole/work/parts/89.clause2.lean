/-! What is made: copies of rows; a law's end; clauses; the whole text. -/
def FrN (h h1 : aH) (lo k n : Nat) : Prop := ∀ x, x < n → (x < lo ∨ lo + k ≤ x) → h1 x = h x
theorem FrN.rf (h : aH) (lo k n : Nat) : FrN h h lo k n := fun _ _ _ => rfl
theorem Fr.toN {h h1 : aH} {lo k n : Nat} (f : Fr h h1 lo k) : FrN h h1 lo k n := fun x _ hx => f x hx
theorem FrN.tr {h h1 h2 : aH} {lo k n m : Nat} (f : FrN h h1 lo k n) (g : FrN h1 h2 lo k m) (hm : n ≤ m) : FrN h h2 lo k n := fun x hn hx => (g x (by omega) hx).trans (f x hn hx)
theorem FrN.new {h : aH} {lo k n : Nat} {c : aC} : FrN h (up h n c) lo k n := fun x hn _ => up_ne (by omega)
abbrev Lw : Type := Nat × (Int → Int)
def padG (N : Int) (g : Int → Int) : Int → Int := fun j => if j < N then g j else 0
def LwAt (h : aH) (n0 n : Nat) : Option Nat → Option Lw → Prop
  | none, none => True
  | some a, some L => n0 ≤ a ∧ a < n ∧ h a = cI (Ls L.1 L.2)
  | _, _ => False
theorem LwAt.fr {h h1 : aH} {n0 n m : Nat} {a : Option Nat} {L : Option Lw} (s : LwAt h n0 n a L) (f : FrN h h1 282 5 n) (h0 : 317 ≤ n0) (hm : n ≤ m) : LwAt h1 n0 m a L := by
  rcases a with _ | a <;> rcases L with _ | L <;> first | exact s | skip
  exact ⟨s.1, by have := s.2.1; omega, by rw [f _ s.2.1 (by have := s.1; omega)]; exact s.2.2⟩
section MAKE
variable {d bc bs n : Nat} {h : aH} {Q : aQ} {F cl : Int → Int} {cc op iw : Int} {co we : Option Nat} {S : Ps}
theorem R_J7_copyOf {a N : Nat} {f : Int → Int} {x : Int} (hh : h a = cI (Ls N f)) (ha : a ≠ 0) (hN : N ≤ 300) (x0 : 0 ≤ x) (x1 : x ≤ 700) (hn : a < n) (k : Q (some (vR (some n))) (up h n (cI (Ls x.toNat (padG N f)))) (n + 1)) : Rn (d + 2) 1 700 mJ7_copyOf_59c91 0 [some (vR (some a)), some (vI x), none] [] h n Q := by
  have l1 := Ls_len N f
  have e1 : x = N → Ls N f = Ls x.toNat (padG N f) := by
    intro e
    subst e
    rw [Int.toNat_natCast]
    exact Ls_ext fun j _ j1 => (if_pos j1).symm
  refine BJ7_copyOf_59c91_0 (by first | assumption | exact up_at _ _ _ | (rw [up_ne (by omega)]; first | assumption | exact up_at _ _ _ | (rw [up_ne (by omega)]; first | assumption | exact up_at _ _ _ | (rw [up_ne (by omega)]; assumption)))) (by first | omega | assumption | (simp only [Ls_len]; omega) | exact Ls_get (by omega) (by omega) | rfl | decide) (by first | omega | assumption | (simp only [Ls_len]; omega) | exact Ls_get (by omega) (by omega) | rfl | decide) ?_ ?_
  · intro hc1
    refine Rn.rich (bc := 0 + 1) (bs := 0 + x.toNat) (by decide) (by omega) ?_
    refine BJ7_copyOf_59c91_14 (by omega) (by omega) ?_
    have hh2 : up h n (cI (List.replicate x.toNat 0)) a = cI (Ls N f) := (up_ne (by omega)).trans hh
    refine BJ7_copyOf_59c91_17 hh2 (by omega) (by omega) ?_
    refine R_J9_min ?_
    have l2 := Ls_len x.toNat (fun _ => (0 : Int))
    have hn2 : up h n (cI (List.replicate x.toNat 0)) n = cI (Ls x.toNat (fun _ => (0 : Int))) := by rw [up_at, Ls_rep]
    refine BJ7_copyOf_59c91_28 (s4 := min ((Ls N f).length : Int) x) (s3 := 0) (s1 := 0) hh2 hn2 (by decide) (by decide) (by omega) (by omega) (by omega) (by omega) (by omega) ?_
    rw [up_up, Ls_cpy (by decide) (by decide) (by omega) (by omega)]
    refine BJ7_copyOf_59c91_31 ?_
    have e9 : Ls x.toNat (fun j => if 0 ≤ j ∧ j < 0 + min ((Ls N f).length : Int) x then f (0 + (j - 0)) else 0) = Ls x.toNat (padG N f) := by
      refine Ls_ext fun j j0 j1 => ?_
      unfold padG
      by_cases q : j < N
      · rw [if_pos (by omega), if_pos q, show 0 + (j - 0) = j by omega]
      · rw [if_neg (by omega), if_neg q]
    rw [e9]
    exact k
  · intro hc2
    refine Rn.rich (bc := 0 + 1) (bs := 0 + (Ls N f).length) (by decide) (by omega) ?_
    refine BJ7_copyOf_59c91_6 hh ha ?_
    rw [e1 (by omega)]
    refine BJ7_copyOf_59c91_10 (up_at _ _ _) (by omega) ?_
    exact k
theorem Gm.law {co2 we2 : Option Nat} (s : Gm h F cc co we cl op iw S) : Gm (up h 284 (cO 1 [vR (some 285), vR (some 286), vI cc, vI S.2.2.2.1, vI op, vI iw, vR co2, vR we2, vI S.1, vI S.2.1])) F cc co2 we2 cl op iw S := by
  obtain ⟨⟨v, tk, tv⟩, g1, g2, g3⟩ := s
  exact ⟨⟨v, tk.fr (Fr.one h 284 _) (by decide), tv⟩, up_at _ _ _, (up_ne (by decide)).trans g2, (up_ne (by decide)).trans g3⟩
theorem Gm.new {c : aC} (s : Gm h F cc co we cl op iw S) (hn : 317 ≤ n) : Gm (up h n c) F cc co we cl op iw S := by
  obtain ⟨⟨v, tk, tv⟩, g1, g2, g3⟩ := s
  exact ⟨⟨v, tk.fr (Fr.one h n _) (by omega), tv⟩, (up_ne (by omega)).trans g1, (up_ne (by omega)).trans g2, (up_ne (by omega)).trans g3⟩
theorem R_X1_endLaw (s : Gm h F cc co we cl op iw S) (z0 : 0 ≤ S.2.2.2.1) (z1 : S.2.2.2.1 ≤ 700) (hn : 317 ≤ n) (k : ∀ h1, FrN h h1 282 5 n → h1 n = cI (Ls S.2.2.2.1.toNat (padG 300 S.2.2.2.2)) → Gm h1 F cc (if iw = 0 then some n else co) (if iw = 0 then we else some n) cl op iw S → Q none h1 (n + 1)) : Rn (d + 3) 1 700 mX1_endLaw 0 [some (vR (some 284)), none] [] h n Q := by
  obtain ⟨⟨tv, tk, tvv⟩, g1, g2, g3⟩ := id s; have tk1 := tk.1
  have hm : max 0 S.2.2.2.1 = S.2.2.2.1 := Int.max_eq_right z0
  refine BX1_endLaw_0 (by first | assumption | exact up_at _ _ _ | (rw [up_ne (by omega)]; first | assumption | exact up_at _ _ _ | (rw [up_ne (by omega)]; first | assumption | exact up_at _ _ _ | (rw [up_ne (by omega)]; assumption)))) (by rfl) (by rfl) ?_
  refine R_J9_max  ?_
  rw [hm]
  refine BX1_endLaw_12 (bc1 := 1) (bs1 := 700) (bc := 0) (bs := 0) ?_
  refine R_J7_copyOf (N := 300) g3 (by decide) (by decide) z0 z1 (by omega) ?_
  have s2 := s.new (n := n) (c := cI (Ls S.2.2.2.1.toNat (padG 300 S.2.2.2.2))) hn
  have s21 := s2.2.1
  refine BX1_endLaw_15 s21 rfl ?_ ?_
  · intro hi
    refine BX1_endLaw_31 s21 (by simp) ?_
    refine BX1_endLaw_36 ?_
    rw [if_pos (by omega), if_pos (by omega)] at k
    exact k _ (FrN.new.tr ((Fr.one _ 284 _).wd (by decide) (by decide)).toN (Nat.le_refl n)) ((up_ne (by omega)).trans (up_at _ _ _)) s2.law
  · intro hi
    refine BX1_endLaw_23 s21 (by simp) ?_
    refine BX1_endLaw_28 ?_
    rw [if_neg (by omega), if_neg (by omega)] at k
    exact k _ (FrN.new.tr ((Fr.one _ 284 _).wd (by decide) (by decide)).toN (Nat.le_refl n)) ((up_ne (by omega)).trans (up_at _ _ _)) s2.law
end MAKE
