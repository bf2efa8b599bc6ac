/-! Laws: the stack, the names, the work off. -/
def IsLa (h : aH) (a : Nat) (t : Int) (st : Int → Int) : Prop := h a = cO 2 [vR (some (a + 1)), vI t] ∧ h (a + 1) = cI (Ls 300 st)
def Sk (st : Int → Int) : List Int → Int → Prop
  | [], t => t = 0
  | v :: l, t => st (t - 1) = v ∧ Sk st l (t - 1)
theorem Sk_len {st : Int → Int} : ∀ {l : List Int} {t : Int}, Sk st l t → t = l.length := by
  intro l
  induction l with
  | nil => intro t h; exact h
  | cons v l ih => intro t h; have := ih h.2; rw [List.length_cons]; omega
theorem Sk_ext {st st' : Int → Int} : ∀ {l : List Int} {t : Int}, Sk st l t → (∀ j, j < t → st' j = st j) → Sk st' l t := by
  intro l
  induction l with
  | nil => intro t h _; exact h
  | cons v l ih => intro t h e; exact ⟨by rw [e _ (by omega)]; exact h.1, ih h.2 fun j hj => e j (by omega)⟩
def IsLl (h : aH) (a : Nat) (l : List Int) : Prop := ∃ t st, IsLa h a t st ∧ Sk st l t
theorem IsLl.fr {h h1 : aH} {a lo k : Nat} {l : List Int} (s : IsLl h a l) (f : Fr h h1 lo k) (hd : a + 2 ≤ lo ∨ lo + k ≤ a) : IsLl h1 a l := by
  obtain ⟨t, st, ⟨s1, s2⟩, s3⟩ := s
  exact ⟨t, st, ⟨by rw [f _ (by omega)]; exact s1, by rw [f _ (by omega)]; exact s2⟩, s3⟩
def okV (v : Int) : Prop := -1000000 ≤ v ∧ v ≤ 1000000
def lim (v : Int) : Int := max (-1000000) (min 1000000 v)
theorem lim_ok (v : Int) : okV (lim v) := by unfold okV lim; omega
def cmpM (k a b : Int) : Bool := if k = 3 then decide (a ≤ b) else if k = 4 then decide (b ≤ a) else if k = 5 then decide (a < b) else if k = 6 then decide (b < a) else if k = 7 then decide (a = b) else decide (a ≠ b)
def atP (np : Int) (f : Int → Int) (p : Int) : Int := if 0 ≤ p ∧ p < np then f p else 0
/-- the names of a bottle: tide, since, cork, luck, at, from, to, near -/
def envM (S : Int → Int) (np : Int) (lk : Int → Int) (b k : Int) : Int :=
  if k = 0 then S 73 else if k = 1 then S 73 - S (b * 6 + 5) else if k = 2 then S (b * 6 + 3) else if k = 3 then atP np lk (S (b * 6 + 1)) else if k = 4 then S (b * 6 + 2) else if k = 5 then S (b * 6 + 0) else if k = 6 then S (b * 6 + 1) else cnt (fun c => S (c * 6 + 4) = 0 ∧ S (c * 6 + 2) = S (b * 6 + 2)) (S 72).toNat
section LAWS
variable {d bc bs n : Nat} {h : aH} {Q : aQ} {a : Nat} {l : List Int} {v : Int}
theorem R_X2_push (s : IsLl h a l) (ha : a ≠ 0) (hl : l.length < 300) (k : ∀ h1, Fr h h1 a 2 → IsLl h1 a (v :: l) → Q none h1 n) : Rn d bc bs mX2_push 0 [some (vR (some a)), some (vI v)] [] h n Q := by
  obtain ⟨t, st, ⟨s1, s2⟩, s3⟩ := s
  have ht := Sk_len s3
  have l1 := Ls_len 300 st
  refine BX2_push_0 (by first | assumption | exact up_at _ _ _ | (rw [up_ne (by omega)]; first | assumption | exact up_at _ _ _ | (rw [up_ne (by omega)]; first | assumption | exact up_at _ _ _ | (rw [up_ne (by omega)]; assumption)))) (by rfl) ?_ ?_
  · intro hc1
    first
    | (exfalso; omega)
    | (
        refine BX2_push_19  ?_
        (exfalso; omega)
      )
  · intro hc2
    first
    | (exfalso; omega)
    | (
        refine BX2_push_7 (by first | assumption | exact up_at _ _ _ | (rw [up_ne (by omega)]; first | assumption | exact up_at _ _ _ | (rw [up_ne (by omega)]; first | assumption | exact up_at _ _ _ | (rw [up_ne (by omega)]; assumption)))) (by rfl) (by rfl) (by first | assumption | exact up_at _ _ _ | (rw [up_ne (by omega)]; first | assumption | exact up_at _ _ _ | (rw [up_ne (by omega)]; first | assumption | exact up_at _ _ _ | (rw [up_ne (by omega)]; assumption)))) (by first | omega | assumption | (simp only [Ls_len]; omega) | exact Ls_get (by omega) (by omega) | rfl | decide) (by first | omega | assumption | (simp only [Ls_len]; omega) | exact Ls_get (by omega) (by omega) | rfl | decide) ?_ ?_
        · intro hc3
          first
          | (exfalso; omega)
          | (
              refine BX2_push_20 (by first | assumption | exact up_at _ _ _ | (rw [up_ne (by omega)]; first | assumption | exact up_at _ _ _ | (rw [up_ne (by omega)]; first | assumption | exact up_at _ _ _ | (rw [up_ne (by omega)]; assumption)))) (by rfl) (by rfl) (by first | assumption | exact up_at _ _ _ | (rw [up_ne (by omega)]; first | assumption | exact up_at _ _ _ | (rw [up_ne (by omega)]; first | assumption | exact up_at _ _ _ | (rw [up_ne (by omega)]; assumption)))) (by first | omega | assumption | (simp only [Ls_len]; omega) | exact Ls_get (by omega) (by omega) | rfl | decide) (by first | omega | assumption | (simp only [Ls_len]; omega) | exact Ls_get (by omega) (by omega) | rfl | decide) (by first | omega | assumption | (simp only [Ls_len]; omega) | exact Ls_get (by omega) (by omega) | rfl | decide) ?_
              try rw [Ls_set (by omega)]
              refine BX2_push_30 (by first | assumption | exact up_at _ _ _ | (rw [up_ne (by omega)]; first | assumption | exact up_at _ _ _ | (rw [up_ne (by omega)]; first | assumption | exact up_at _ _ _ | (rw [up_ne (by omega)]; assumption)))) (by rfl) (by first | omega | assumption | (simp only [Ls_len]; omega) | exact Ls_get (by omega) (by omega) | rfl | decide) (by simp) ?_
              refine BX2_push_40  ?_
              refine k _ (((Fr.rf h a 2).put (by omega) (by omega)).put (by omega) (by omega)) ⟨t + 1, fset st t v, ⟨up_at _ _ _, ?_⟩, ?_, ?_⟩
              · rw [up_ne (by omega)]; exact up_at _ _ _
              · rw [show t + 1 - 1 = t by omega]; exact fset_at _ _ _
              · rw [show t + 1 - 1 = t by omega]; exact Sk_ext s3 fun j hj => fset_ne (by omega)
            )
        · intro hc4
          first
          | (exfalso; omega)
          | (
              refine BX2_push_19  ?_
              (exfalso; omega)
            )
      )
theorem R_X2_pop (s : IsLl h a (v :: l)) (ha : a ≠ 0) (hl : l.length < 300) (k : ∀ h1, Fr h h1 a 2 → IsLl h1 a l → Q (some (vI v)) h1 n) : Rn d bc bs mX2_pop 0 [some (vR (some a))] [] h n Q := by
  obtain ⟨t, st, ⟨s1, s2⟩, s3, s4⟩ := s
  have ht := Sk_len s4
  have l1 := Ls_len 300 st
  refine BX2_pop_0 (by first | assumption | exact up_at _ _ _ | (rw [up_ne (by omega)]; first | assumption | exact up_at _ _ _ | (rw [up_ne (by omega)]; first | assumption | exact up_at _ _ _ | (rw [up_ne (by omega)]; assumption)))) (by rfl) ?_ ?_
  · intro hc1
    first
    | (exfalso; omega)
    | (
        refine BX2_pop_19  ?_
        (exfalso; omega)
      )
  · intro hc2
    first
    | (exfalso; omega)
    | (
        refine BX2_pop_7 (by first | assumption | exact up_at _ _ _ | (rw [up_ne (by omega)]; first | assumption | exact up_at _ _ _ | (rw [up_ne (by omega)]; first | assumption | exact up_at _ _ _ | (rw [up_ne (by omega)]; assumption)))) (by rfl) (by rfl) (by first | assumption | exact up_at _ _ _ | (rw [up_ne (by omega)]; first | assumption | exact up_at _ _ _ | (rw [up_ne (by omega)]; first | assumption | exact up_at _ _ _ | (rw [up_ne (by omega)]; assumption)))) (by first | omega | assumption | (simp only [Ls_len]; omega) | exact Ls_get (by omega) (by omega) | rfl | decide) (by first | omega | assumption | (simp only [Ls_len]; omega) | exact Ls_get (by omega) (by omega) | rfl | decide) ?_ ?_
        · intro hc3
          first
          | (exfalso; omega)
          | (
              refine BX2_pop_21 (by first | assumption | exact up_at _ _ _ | (rw [up_ne (by omega)]; first | assumption | exact up_at _ _ _ | (rw [up_ne (by omega)]; first | assumption | exact up_at _ _ _ | (rw [up_ne (by omega)]; assumption)))) (by rfl) (by first | omega | assumption | (simp only [Ls_len]; omega) | exact Ls_get (by omega) (by omega) | rfl | decide) (by simp) ?_
              refine BX2_pop_31 (by first | assumption | exact up_at _ _ _ | (rw [up_ne (by omega)]; first | assumption | exact up_at _ _ _ | (rw [up_ne (by omega)]; first | assumption | exact up_at _ _ _ | (rw [up_ne (by omega)]; assumption)))) (by rfl) (by rfl) (by first | assumption | exact up_at _ _ _ | (rw [up_ne (by omega)]; first | assumption | exact up_at _ _ _ | (rw [up_ne (by omega)]; first | assumption | exact up_at _ _ _ | (rw [up_ne (by omega)]; assumption)))) (by first | omega | assumption | (simp only [Ls_len]; omega) | exact Ls_get (by omega) (by omega) | rfl | decide) (by first | exact Ls_get (by omega) (by omega) | assumption) ?_
              rw [s3]
              exact k _ ((Fr.rf h a 2).put (by omega) (by omega)) ⟨t - 1, st, ⟨up_at _ _ _, by rw [up_ne (by omega)]; exact s2⟩, s4⟩
            )
        · intro hc4
          first
          | (exfalso; omega)
          | (
              refine BX2_pop_19  ?_
              (exfalso; omega)
            )
      )
theorem R_X2_limited {x : Int} (k : Q (some (vI (lim x))) h n) : Rn (d + 1) bc bs mX2_limited 0 [some (vL x), none] [] h n Q := by
  have z := lim_ok x
  unfold okV lim at z
  refine BX2_limited_0  ?_
  refine R_J9_lmin  ?_
  refine BX2_limited_10  ?_
  refine R_J9_lmax  ?_
  refine BX2_limited_13 (by first | omega | assumption | (simp only [Ls_len]; omega) | exact Ls_get (by omega) (by omega) | rfl | decide) ?_
  exact k
theorem R_X2_compares {k x y : Int} (kt : cmpM k x y = true → Q (some (vI 1)) h n) (kf : cmpM k x y = false → Q (some (vI 0)) h n) : Rn d bc bs mX2_compares 0 [some (vI k), some (vI x), some (vI y)] [] h n Q := by
  refine BX2_compares_0  ?_ ?_ ?_ ?_ ?_ ?_
  · intro hc1
    refine BX2_compares_91  ?_ ?_
    · intro hc2
      refine BX2_compares_100  ?_
      first | (refine kt ?_; unfold cmpM; (repeat' (first | rw [if_pos (by omega)] | rw [if_neg (by omega)])); apply decide_eq_true; omega) | (refine kf ?_; unfold cmpM; (repeat' (first | rw [if_pos (by omega)] | rw [if_neg (by omega)])); apply decide_eq_false; omega)
    · intro hc3
      refine BX2_compares_96  ?_
      first | (refine kt ?_; unfold cmpM; (repeat' (first | rw [if_pos (by omega)] | rw [if_neg (by omega)])); apply decide_eq_true; omega) | (refine kf ?_; unfold cmpM; (repeat' (first | rw [if_pos (by omega)] | rw [if_neg (by omega)])); apply decide_eq_false; omega)
  · intro hc4
    refine BX2_compares_36  ?_ ?_
    · intro hc5
      refine BX2_compares_45  ?_
      first | (refine kt ?_; unfold cmpM; (repeat' (first | rw [if_pos (by omega)] | rw [if_neg (by omega)])); apply decide_eq_true; omega) | (refine kf ?_; unfold cmpM; (repeat' (first | rw [if_pos (by omega)] | rw [if_neg (by omega)])); apply decide_eq_false; omega)
    · intro hc6
      refine BX2_compares_41  ?_
      first | (refine kt ?_; unfold cmpM; (repeat' (first | rw [if_pos (by omega)] | rw [if_neg (by omega)])); apply decide_eq_true; omega) | (refine kf ?_; unfold cmpM; (repeat' (first | rw [if_pos (by omega)] | rw [if_neg (by omega)])); apply decide_eq_false; omega)
  · intro hc7
    refine BX2_compares_47  ?_ ?_
    · intro hc8
      refine BX2_compares_56  ?_
      first | (refine kt ?_; unfold cmpM; (repeat' (first | rw [if_pos (by omega)] | rw [if_neg (by omega)])); apply decide_eq_true; omega) | (refine kf ?_; unfold cmpM; (repeat' (first | rw [if_pos (by omega)] | rw [if_neg (by omega)])); apply decide_eq_false; omega)
    · intro hc9
      refine BX2_compares_52  ?_
      first | (refine kt ?_; unfold cmpM; (repeat' (first | rw [if_pos (by omega)] | rw [if_neg (by omega)])); apply decide_eq_true; omega) | (refine kf ?_; unfold cmpM; (repeat' (first | rw [if_pos (by omega)] | rw [if_neg (by omega)])); apply decide_eq_false; omega)
  · intro hc10
    refine BX2_compares_58  ?_ ?_
    · intro hc11
      refine BX2_compares_67  ?_
      first | (refine kt ?_; unfold cmpM; (repeat' (first | rw [if_pos (by omega)] | rw [if_neg (by omega)])); apply decide_eq_true; omega) | (refine kf ?_; unfold cmpM; (repeat' (first | rw [if_pos (by omega)] | rw [if_neg (by omega)])); apply decide_eq_false; omega)
    · intro hc12
      refine BX2_compares_63  ?_
      first | (refine kt ?_; unfold cmpM; (repeat' (first | rw [if_pos (by omega)] | rw [if_neg (by omega)])); apply decide_eq_true; omega) | (refine kf ?_; unfold cmpM; (repeat' (first | rw [if_pos (by omega)] | rw [if_neg (by omega)])); apply decide_eq_false; omega)
  · intro hc13
    refine BX2_compares_69  ?_ ?_
    · intro hc14
      refine BX2_compares_78  ?_
      first | (refine kt ?_; unfold cmpM; (repeat' (first | rw [if_pos (by omega)] | rw [if_neg (by omega)])); apply decide_eq_true; omega) | (refine kf ?_; unfold cmpM; (repeat' (first | rw [if_pos (by omega)] | rw [if_neg (by omega)])); apply decide_eq_false; omega)
    · intro hc15
      refine BX2_compares_74  ?_
      first | (refine kt ?_; unfold cmpM; (repeat' (first | rw [if_pos (by omega)] | rw [if_neg (by omega)])); apply decide_eq_true; omega) | (refine kf ?_; unfold cmpM; (repeat' (first | rw [if_pos (by omega)] | rw [if_neg (by omega)])); apply decide_eq_false; omega)
  · intro hc16
    refine BX2_compares_80  ?_ ?_
    · intro hc17
      refine BX2_compares_89  ?_
      first | (refine kt ?_; unfold cmpM; (repeat' (first | rw [if_pos (by omega)] | rw [if_neg (by omega)])); apply decide_eq_true; omega) | (refine kf ?_; unfold cmpM; (repeat' (first | rw [if_pos (by omega)] | rw [if_neg (by omega)])); apply decide_eq_false; omega)
    · intro hc18
      refine BX2_compares_85  ?_
      first | (refine kt ?_; unfold cmpM; (repeat' (first | rw [if_pos (by omega)] | rw [if_neg (by omega)])); apply decide_eq_true; omega) | (refine kf ?_; unfold cmpM; (repeat' (first | rw [if_pos (by omega)] | rw [if_neg (by omega)])); apply decide_eq_false; omega)
theorem R_X2_named {s z : Nat} {S : Int → Int} {np x b : Int} {pl lk cu : Int → Int} (e : IsSe h s S) (f : IsSh h z np pl lk cu) (hs : s ≠ 0) (hz : z ≠ 0) (hn : np ≤ 6) (h0 : 0 ≤ b) (h1 : b < 12) (h2 : 0 ≤ S 72) (h3 : S 72 ≤ 12) (h4 : -1000000 ≤ S 73 - S (b * 6 + 5)) (h5 : S 73 - S (b * 6 + 5) ≤ 1000000) (x0 : 23 ≤ x) (x1 : x ≤ 30) (k : Q (some (vI (envM S np lk b (x - 23)))) h n) : Rn (d + 2) bc bs mX2_named 0 [some (vI x), some (vR (some s)), some (vR (some z)), some (vI b)] [] h n Q := by
  have e1 := e.1
  have f1 := f.1
  refine BX2_named_0  ?_ ?_ ?_ ?_ ?_ ?_ ?_ ?_
  · intro hc1
    refine BX2_named_100 (by first | assumption | exact up_at _ _ _ | (rw [up_ne (by omega)]; first | assumption | exact up_at _ _ _ | (rw [up_ne (by omega)]; first | assumption | exact up_at _ _ _ | (rw [up_ne (by omega)]; assumption)))) ?_
    refine R_X6_get (by first | omega | assumption | (simp only [Ls_len]; omega) | exact Ls_get (by omega) (by omega) | rfl | decide) (by first | omega | assumption | (simp only [Ls_len]; omega) | exact Ls_get (by omega) (by omega) | rfl | decide) (by first | omega | assumption | (simp only [Ls_len]; omega) | exact Ls_get (by omega) (by omega) | rfl | decide) (by first | omega | assumption | (simp only [Ls_len]; omega) | exact Ls_get (by omega) (by omega) | rfl | decide) (by first | omega | assumption | (simp only [Ls_len]; omega) | exact Ls_get (by omega) (by omega) | rfl | decide) (by first | omega | assumption | (simp only [Ls_len]; omega) | exact Ls_get (by omega) (by omega) | rfl | decide) ?_
    refine BX2_named_107 (by first | assumption | exact up_at _ _ _ | (rw [up_ne (by omega)]; first | assumption | exact up_at _ _ _ | (rw [up_ne (by omega)]; first | assumption | exact up_at _ _ _ | (rw [up_ne (by omega)]; assumption)))) ?_
    refine R_X6_countAfloatAt (by first | omega | assumption | (simp only [Ls_len]; omega) | exact Ls_get (by omega) (by omega) | rfl | decide) (by first | omega | assumption | (simp only [Ls_len]; omega) | exact Ls_get (by omega) (by omega) | rfl | decide) (by first | omega | assumption | (simp only [Ls_len]; omega) | exact Ls_get (by omega) (by omega) | rfl | decide) (by first | omega | assumption | (simp only [Ls_len]; omega) | exact Ls_get (by omega) (by omega) | rfl | decide) ?_
    refine BX2_named_110  ?_
    first | (rw [show x - 23 = 0 by omega] at k; exact k) | (rw [show x - 23 = 1 by omega] at k; exact k) | (rw [show x - 23 = 2 by omega] at k; exact k) | (rw [show x - 23 = 3 by omega] at k; exact k) | (rw [show x - 23 = 4 by omega] at k; exact k) | (rw [show x - 23 = 5 by omega] at k; exact k) | (rw [show x - 23 = 6 by omega] at k; exact k) | (rw [show x - 23 = 7 by omega] at k; exact k)
  · intro hc2
    refine BX2_named_44 (by first | assumption | exact up_at _ _ _ | (rw [up_ne (by omega)]; first | assumption | exact up_at _ _ _ | (rw [up_ne (by omega)]; first | assumption | exact up_at _ _ _ | (rw [up_ne (by omega)]; assumption)))) (by rfl) ?_
    first | (rw [show x - 23 = 0 by omega] at k; exact k) | (rw [show x - 23 = 1 by omega] at k; exact k) | (rw [show x - 23 = 2 by omega] at k; exact k) | (rw [show x - 23 = 3 by omega] at k; exact k) | (rw [show x - 23 = 4 by omega] at k; exact k) | (rw [show x - 23 = 5 by omega] at k; exact k) | (rw [show x - 23 = 6 by omega] at k; exact k) | (rw [show x - 23 = 7 by omega] at k; exact k)
  · intro hc3
    refine BX2_named_49 (by first | assumption | exact up_at _ _ _ | (rw [up_ne (by omega)]; first | assumption | exact up_at _ _ _ | (rw [up_ne (by omega)]; first | assumption | exact up_at _ _ _ | (rw [up_ne (by omega)]; assumption)))) (by rfl) ?_
    refine R_X6_get (by first | omega | assumption | (simp only [Ls_len]; omega) | exact Ls_get (by omega) (by omega) | rfl | decide) (by first | omega | assumption | (simp only [Ls_len]; omega) | exact Ls_get (by omega) (by omega) | rfl | decide) (by first | omega | assumption | (simp only [Ls_len]; omega) | exact Ls_get (by omega) (by omega) | rfl | decide) (by first | omega | assumption | (simp only [Ls_len]; omega) | exact Ls_get (by omega) (by omega) | rfl | decide) (by first | omega | assumption | (simp only [Ls_len]; omega) | exact Ls_get (by omega) (by omega) | rfl | decide) (by first | omega | assumption | (simp only [Ls_len]; omega) | exact Ls_get (by omega) (by omega) | rfl | decide) ?_
    refine BX2_named_59 (by first | omega | assumption | (simp only [Ls_len]; omega) | exact Ls_get (by omega) (by omega) | rfl | decide) ?_
    first | (rw [show x - 23 = 0 by omega] at k; exact k) | (rw [show x - 23 = 1 by omega] at k; exact k) | (rw [show x - 23 = 2 by omega] at k; exact k) | (rw [show x - 23 = 3 by omega] at k; exact k) | (rw [show x - 23 = 4 by omega] at k; exact k) | (rw [show x - 23 = 5 by omega] at k; exact k) | (rw [show x - 23 = 6 by omega] at k; exact k) | (rw [show x - 23 = 7 by omega] at k; exact k)
  · intro hc4
    refine BX2_named_61 (by first | assumption | exact up_at _ _ _ | (rw [up_ne (by omega)]; first | assumption | exact up_at _ _ _ | (rw [up_ne (by omega)]; first | assumption | exact up_at _ _ _ | (rw [up_ne (by omega)]; assumption)))) ?_
    refine R_X6_get (by first | omega | assumption | (simp only [Ls_len]; omega) | exact Ls_get (by omega) (by omega) | rfl | decide) (by first | omega | assumption | (simp only [Ls_len]; omega) | exact Ls_get (by omega) (by omega) | rfl | decide) (by first | omega | assumption | (simp only [Ls_len]; omega) | exact Ls_get (by omega) (by omega) | rfl | decide) (by first | omega | assumption | (simp only [Ls_len]; omega) | exact Ls_get (by omega) (by omega) | rfl | decide) (by first | omega | assumption | (simp only [Ls_len]; omega) | exact Ls_get (by omega) (by omega) | rfl | decide) (by first | omega | assumption | (simp only [Ls_len]; omega) | exact Ls_get (by omega) (by omega) | rfl | decide) ?_
    refine BX2_named_67  ?_
    first | (rw [show x - 23 = 0 by omega] at k; exact k) | (rw [show x - 23 = 1 by omega] at k; exact k) | (rw [show x - 23 = 2 by omega] at k; exact k) | (rw [show x - 23 = 3 by omega] at k; exact k) | (rw [show x - 23 = 4 by omega] at k; exact k) | (rw [show x - 23 = 5 by omega] at k; exact k) | (rw [show x - 23 = 6 by omega] at k; exact k) | (rw [show x - 23 = 7 by omega] at k; exact k)
  · intro hc5
    refine BX2_named_68 (by first | assumption | exact up_at _ _ _ | (rw [up_ne (by omega)]; first | assumption | exact up_at _ _ _ | (rw [up_ne (by omega)]; first | assumption | exact up_at _ _ _ | (rw [up_ne (by omega)]; assumption)))) ?_
    refine R_X6_get (by first | omega | assumption | (simp only [Ls_len]; omega) | exact Ls_get (by omega) (by omega) | rfl | decide) (by first | omega | assumption | (simp only [Ls_len]; omega) | exact Ls_get (by omega) (by omega) | rfl | decide) (by first | omega | assumption | (simp only [Ls_len]; omega) | exact Ls_get (by omega) (by omega) | rfl | decide) (by first | omega | assumption | (simp only [Ls_len]; omega) | exact Ls_get (by omega) (by omega) | rfl | decide) (by first | omega | assumption | (simp only [Ls_len]; omega) | exact Ls_get (by omega) (by omega) | rfl | decide) (by first | omega | assumption | (simp only [Ls_len]; omega) | exact Ls_get (by omega) (by omega) | rfl | decide) ?_
    refine BX2_named_75 (by first | assumption | exact up_at _ _ _ | (rw [up_ne (by omega)]; first | assumption | exact up_at _ _ _ | (rw [up_ne (by omega)]; first | assumption | exact up_at _ _ _ | (rw [up_ne (by omega)]; assumption)))) ?_
    refine R_X7_luckOf (by first | omega | assumption | (simp only [Ls_len]; omega) | exact Ls_get (by omega) (by omega) | rfl | decide) (by first | omega | assumption | (simp only [Ls_len]; omega) | exact Ls_get (by omega) (by omega) | rfl | decide) ?_
    refine BX2_named_78  ?_
    first | (rw [show x - 23 = 0 by omega] at k; exact k) | (rw [show x - 23 = 1 by omega] at k; exact k) | (rw [show x - 23 = 2 by omega] at k; exact k) | (rw [show x - 23 = 3 by omega] at k; exact k) | (rw [show x - 23 = 4 by omega] at k; exact k) | (rw [show x - 23 = 5 by omega] at k; exact k) | (rw [show x - 23 = 6 by omega] at k; exact k) | (rw [show x - 23 = 7 by omega] at k; exact k)
  · intro hc6
    refine BX2_named_79 (by first | assumption | exact up_at _ _ _ | (rw [up_ne (by omega)]; first | assumption | exact up_at _ _ _ | (rw [up_ne (by omega)]; first | assumption | exact up_at _ _ _ | (rw [up_ne (by omega)]; assumption)))) ?_
    refine R_X6_get (by first | omega | assumption | (simp only [Ls_len]; omega) | exact Ls_get (by omega) (by omega) | rfl | decide) (by first | omega | assumption | (simp only [Ls_len]; omega) | exact Ls_get (by omega) (by omega) | rfl | decide) (by first | omega | assumption | (simp only [Ls_len]; omega) | exact Ls_get (by omega) (by omega) | rfl | decide) (by first | omega | assumption | (simp only [Ls_len]; omega) | exact Ls_get (by omega) (by omega) | rfl | decide) (by first | omega | assumption | (simp only [Ls_len]; omega) | exact Ls_get (by omega) (by omega) | rfl | decide) (by first | omega | assumption | (simp only [Ls_len]; omega) | exact Ls_get (by omega) (by omega) | rfl | decide) ?_
    refine BX2_named_85  ?_
    first | (rw [show x - 23 = 0 by omega] at k; exact k) | (rw [show x - 23 = 1 by omega] at k; exact k) | (rw [show x - 23 = 2 by omega] at k; exact k) | (rw [show x - 23 = 3 by omega] at k; exact k) | (rw [show x - 23 = 4 by omega] at k; exact k) | (rw [show x - 23 = 5 by omega] at k; exact k) | (rw [show x - 23 = 6 by omega] at k; exact k) | (rw [show x - 23 = 7 by omega] at k; exact k)
  · intro hc7
    refine BX2_named_86 (by first | assumption | exact up_at _ _ _ | (rw [up_ne (by omega)]; first | assumption | exact up_at _ _ _ | (rw [up_ne (by omega)]; first | assumption | exact up_at _ _ _ | (rw [up_ne (by omega)]; assumption)))) ?_
    refine R_X6_get (by first | omega | assumption | (simp only [Ls_len]; omega) | exact Ls_get (by omega) (by omega) | rfl | decide) (by first | omega | assumption | (simp only [Ls_len]; omega) | exact Ls_get (by omega) (by omega) | rfl | decide) (by first | omega | assumption | (simp only [Ls_len]; omega) | exact Ls_get (by omega) (by omega) | rfl | decide) (by first | omega | assumption | (simp only [Ls_len]; omega) | exact Ls_get (by omega) (by omega) | rfl | decide) (by first | omega | assumption | (simp only [Ls_len]; omega) | exact Ls_get (by omega) (by omega) | rfl | decide) (by first | omega | assumption | (simp only [Ls_len]; omega) | exact Ls_get (by omega) (by omega) | rfl | decide) ?_
    refine BX2_named_92  ?_
    first | (rw [show x - 23 = 0 by omega] at k; exact k) | (rw [show x - 23 = 1 by omega] at k; exact k) | (rw [show x - 23 = 2 by omega] at k; exact k) | (rw [show x - 23 = 3 by omega] at k; exact k) | (rw [show x - 23 = 4 by omega] at k; exact k) | (rw [show x - 23 = 5 by omega] at k; exact k) | (rw [show x - 23 = 6 by omega] at k; exact k) | (rw [show x - 23 = 7 by omega] at k; exact k)
  · intro hc8
    refine BX2_named_93 (by first | assumption | exact up_at _ _ _ | (rw [up_ne (by omega)]; first | assumption | exact up_at _ _ _ | (rw [up_ne (by omega)]; first | assumption | exact up_at _ _ _ | (rw [up_ne (by omega)]; assumption)))) ?_
    refine R_X6_get (by first | omega | assumption | (simp only [Ls_len]; omega) | exact Ls_get (by omega) (by omega) | rfl | decide) (by first | omega | assumption | (simp only [Ls_len]; omega) | exact Ls_get (by omega) (by omega) | rfl | decide) (by first | omega | assumption | (simp only [Ls_len]; omega) | exact Ls_get (by omega) (by omega) | rfl | decide) (by first | omega | assumption | (simp only [Ls_len]; omega) | exact Ls_get (by omega) (by omega) | rfl | decide) (by first | omega | assumption | (simp only [Ls_len]; omega) | exact Ls_get (by omega) (by omega) | rfl | decide) (by first | omega | assumption | (simp only [Ls_len]; omega) | exact Ls_get (by omega) (by omega) | rfl | decide) ?_
    refine BX2_named_99  ?_
    first | (rw [show x - 23 = 0 by omega] at k; exact k) | (rw [show x - 23 = 1 by omega] at k; exact k) | (rw [show x - 23 = 2 by omega] at k; exact k) | (rw [show x - 23 = 3 by omega] at k; exact k) | (rw [show x - 23 = 4 by omega] at k; exact k) | (rw [show x - 23 = 5 by omega] at k; exact k) | (rw [show x - 23 = 6 by omega] at k; exact k) | (rw [show x - 23 = 7 by omega] at k; exact k)
end LAWS
