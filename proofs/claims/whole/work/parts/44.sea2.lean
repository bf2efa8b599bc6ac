/-- a sea at s: its own object, its rows, its book -/
def IsSe (h : aH) (s : Nat) (S : Int → Int) : Prop := h s = cO 6 [vR (some (s + 1)), vR (some (s + 2)), vI (S 72), vI (S 73), vI (S 74)] ∧ h (s + 1) = cI (Ls 72 S) ∧ IsBk h (s + 2) (S 75) (bk S)
theorem IsSe.fr {h h1 : aH} {s lo k : Nat} {S : Int → Int} (a : IsSe h s S) (r : Fr h h1 lo k) (hd : s + 4 ≤ lo ∨ lo + k ≤ s) : IsSe h1 s S := ⟨by rw [r _ (by omega)]; exact a.1, by rw [r _ (by omega)]; exact a.2.1, a.2.2.fr r (by omega)⟩
theorem Fr.one (h : aH) (a : Nat) (c : aC) : Fr h (up h a c) a 1 := fun x hx => up_ne (by omega)
theorem bk_fset {S : Int → Int} {i v : Int} (h1 : i < 76) : Ls 120 (bk (fset S i v)) = Ls 120 (bk S) := Ls_ext fun j h0 _ => fset_ne (by omega)
theorem Ls_fset {n : Nat} {S : Int → Int} {i v : Int} (h1 : (n : Int) ≤ i) : Ls n (fset S i v) = Ls n S := Ls_ext fun j _ h2 => fset_ne (by omega)
theorem IsSe.set {h : aH} {s : Nat} {S : Int → Int} {i v : Int} (a : IsSe h s S) (h1 : i < 72) : IsSe (up h (s + 1) (cI (Ls 72 (fset S i v)))) s (fset S i v) := by
  obtain ⟨a1, a2, a3, a4⟩ := a
  refine ⟨?_, up_at _ _ _, ?_, ?_⟩
  · rw [up_ne (by omega), fset_ne (by omega), fset_ne (by omega), fset_ne (by omega)]; exact a1
  · rw [up_ne (by omega), fset_ne (by omega)]; exact a3
  · rw [up_ne (by omega), bk_fset (by omega)]; exact a4
theorem IsSe.nb {h : aH} {s : Nat} {S : Int → Int} {v : Int} (a : IsSe h s S) : IsSe (up h s (cO 6 [vR (some (s + 1)), vR (some (s + 2)), vI v, vI (S 73), vI (S 74)])) s (fset S 72 v) := by
  obtain ⟨a1, a2, a3, a4⟩ := a
  refine ⟨?_, ?_, ?_, ?_⟩
  · rw [up_at, fset_at, fset_ne (by decide), fset_ne (by decide)]
  · rw [up_ne (by omega), Ls_fset (by decide)]; exact a2
  · rw [up_ne (by omega), fset_ne (by omega)]; exact a3
  · rw [up_ne (by omega), bk_fset (by omega)]; exact a4
theorem IsSe.ti {h : aH} {s : Nat} {S : Int → Int} {v : Int} (a : IsSe h s S) : IsSe (up h s (cO 6 [vR (some (s + 1)), vR (some (s + 2)), vI (S 72), vI v, vI (S 74)])) s (fset S 73 v) := by
  obtain ⟨a1, a2, a3, a4⟩ := a
  refine ⟨?_, ?_, ?_, ?_⟩
  · rw [up_at, fset_at, fset_ne (by decide), fset_ne (by decide)]
  · rw [up_ne (by omega), Ls_fset (by decide)]; exact a2
  · rw [up_ne (by omega), fset_ne (by omega)]; exact a3
  · rw [up_ne (by omega), bk_fset (by omega)]; exact a4
theorem IsSe.dr {h : aH} {s : Nat} {S : Int → Int} {v : Int} (a : IsSe h s S) : IsSe (up h s (cO 6 [vR (some (s + 1)), vR (some (s + 2)), vI (S 72), vI (S 73), vI v])) s (fset S 74 v) := by
  obtain ⟨a1, a2, a3, a4⟩ := a
  refine ⟨?_, ?_, ?_, ?_⟩
  · rw [up_at, fset_at, fset_ne (by decide), fset_ne (by decide)]
  · rw [up_ne (by omega), Ls_fset (by decide)]; exact a2
  · rw [up_ne (by omega), fset_ne (by omega)]; exact a3
  · rw [up_ne (by omega), bk_fset (by omega)]; exact a4
/-- a row of the book more -/
def seaBook (S : Int → Int) (t bo w a : Int) : Int → Int := fun j => if j = 75 then bkLen (S 75) else if 76 ≤ j then bkAdd (S 75) (bk S) t bo w a (j - 76) else S j
theorem IsSe.book {h h1 : aH} {s : Nat} {S : Int → Int} {t bo w a : Int} (e : IsSe h s S) (r : Fr h h1 (s + 2) 2) (q : IsBk h1 (s + 2) (bkLen (S 75)) (bkAdd (S 75) (bk S) t bo w a)) : IsSe h1 s (seaBook S t bo w a) := by
  obtain ⟨a1, a2, a3⟩ := e
  refine ⟨?_, ?_, ?_, ?_⟩
  · rw [r _ (by omega)]; exact a1
  · rw [r _ (by omega), a2]
    exact congrArg cI (Ls_ext fun j h0 h1 => by unfold seaBook; rw [if_neg (by omega), if_neg (by omega)])
  · exact q.1
  · rw [q.2]
    refine congrArg cI (Ls_ext fun j h0 h1 => ?_)
    unfold bk seaBook
    rw [if_neg (by omega), if_pos (by omega), show 76 + j - 76 = j by omega]
    rfl
section SEA
variable {d bc bs n : Nat} {h : aH} {Q : aQ} {s : Nat} {S : Int → Int}
theorem R_X6_get {b w : Int} (e : IsSe h s S) (hs : s ≠ 0) (h0 : 0 ≤ b) (h1 : b < 12) (h2 : 0 ≤ w) (h3 : w < 6) (k : Q (some (vI (S (b * 6 + w)))) h n) : Rn d bc bs mX6_get 0 [some (vR (some s)), some (vI b), some (vI w), none] [] h n Q := by
  obtain ⟨s1, s2, s3⟩ := e
  have hl := Ls_len 72 S
  refine BX6_get_0 (by first | omega | (simp only [Ls_len]; omega) | assumption | exact Ls_get (by omega) (by omega) | rfl | decide) (by first | omega | (simp only [Ls_len]; omega) | assumption | exact Ls_get (by omega) (by omega) | rfl | decide) ?_ ?_
  · intro hc1
    first
    | (exfalso; omega)
    | (
        refine BX6_get_29  ?_
        exact k
      )
  · intro hc2
    first
    | (exfalso; omega)
    | (
        refine BX6_get_11 (by first | assumption | exact up_at _ _ _ | (rw [up_ne (by omega)]; first | assumption | exact up_at _ _ _ | (rw [up_ne (by omega)]; first | assumption | exact up_at _ _ _ | (rw [up_ne (by omega)]; first | assumption | exact up_at _ _ _ | (rw [up_ne (by omega)]; first | assumption | exact up_at _ _ _ | (rw [up_ne (by omega)]; first | assumption | exact up_at _ _ _ | (rw [up_ne (by omega)]; first | assumption | exact up_at _ _ _ | (rw [up_ne (by omega)]; first | assumption | exact up_at _ _ _ | (rw [up_ne (by omega)]; first | assumption | exact up_at _ _ _ | (rw [up_ne (by omega)]; assumption)))))))))) (by rfl) (by first | assumption | exact up_at _ _ _ | (rw [up_ne (by omega)]; first | assumption | exact up_at _ _ _ | (rw [up_ne (by omega)]; first | assumption | exact up_at _ _ _ | (rw [up_ne (by omega)]; first | assumption | exact up_at _ _ _ | (rw [up_ne (by omega)]; first | assumption | exact up_at _ _ _ | (rw [up_ne (by omega)]; first | assumption | exact up_at _ _ _ | (rw [up_ne (by omega)]; first | assumption | exact up_at _ _ _ | (rw [up_ne (by omega)]; first | assumption | exact up_at _ _ _ | (rw [up_ne (by omega)]; first | assumption | exact up_at _ _ _ | (rw [up_ne (by omega)]; assumption)))))))))) (by first | omega | (simp only [Ls_len]; omega) | assumption | exact Ls_get (by omega) (by omega) | rfl | decide) (by first | omega | (simp only [Ls_len]; omega) | assumption | exact Ls_get (by omega) (by omega) | rfl | decide) ?_ ?_
        · intro hc3
          first
          | (exfalso; omega)
          | (
              refine BX6_get_29  ?_
              exact k
            )
        · intro hc4
          first
          | (exfalso; omega)
          | (
              refine BX6_get_20 (by first | assumption | exact up_at _ _ _ | (rw [up_ne (by omega)]; first | assumption | exact up_at _ _ _ | (rw [up_ne (by omega)]; first | assumption | exact up_at _ _ _ | (rw [up_ne (by omega)]; first | assumption | exact up_at _ _ _ | (rw [up_ne (by omega)]; first | assumption | exact up_at _ _ _ | (rw [up_ne (by omega)]; first | assumption | exact up_at _ _ _ | (rw [up_ne (by omega)]; first | assumption | exact up_at _ _ _ | (rw [up_ne (by omega)]; first | assumption | exact up_at _ _ _ | (rw [up_ne (by omega)]; first | assumption | exact up_at _ _ _ | (rw [up_ne (by omega)]; assumption)))))))))) (by rfl) (by first | assumption | exact up_at _ _ _ | (rw [up_ne (by omega)]; first | assumption | exact up_at _ _ _ | (rw [up_ne (by omega)]; first | assumption | exact up_at _ _ _ | (rw [up_ne (by omega)]; first | assumption | exact up_at _ _ _ | (rw [up_ne (by omega)]; first | assumption | exact up_at _ _ _ | (rw [up_ne (by omega)]; first | assumption | exact up_at _ _ _ | (rw [up_ne (by omega)]; first | assumption | exact up_at _ _ _ | (rw [up_ne (by omega)]; first | assumption | exact up_at _ _ _ | (rw [up_ne (by omega)]; first | assumption | exact up_at _ _ _ | (rw [up_ne (by omega)]; assumption)))))))))) (by first | omega | (simp only [Ls_len]; omega) | assumption | exact Ls_get (by omega) (by omega) | rfl | decide) (by first | exact Ls_get (by omega) (by omega) | assumption) ?_
              exact k
            )
      )
theorem R_X6_set {b w v : Int} (e : IsSe h s S) (hs : s ≠ 0) (h0 : 0 ≤ b) (h1 : b < 12) (h2 : 0 ≤ w) (h3 : w < 6) (k : ∀ h1, Fr h h1 s 4 → IsSe h1 s (fset S (b * 6 + w) v) → Q none h1 n) : Rn d bc bs mX6_set 0 [some (vR (some s)), some (vI b), some (vI w), some (vI v), none] [] h n Q := by
  have e2 := e.set (i := b * 6 + w) (v := v) (by omega)
  obtain ⟨s1, s2, s3⟩ := e
  have hl := Ls_len 72 S
  refine BX6_set_0 (by first | omega | (simp only [Ls_len]; omega) | assumption | exact Ls_get (by omega) (by omega) | rfl | decide) (by first | omega | (simp only [Ls_len]; omega) | assumption | exact Ls_get (by omega) (by omega) | rfl | decide) ?_ ?_
  · intro hc1
    first
    | (exfalso; omega)
    | (
        refine BX6_set_31  ?_
        exact k _ ((Fr.rf h s 4).put (by omega) (by omega)) e2
      )
  · intro hc2
    first
    | (exfalso; omega)
    | (
        refine BX6_set_13 (by first | assumption | exact up_at _ _ _ | (rw [up_ne (by omega)]; first | assumption | exact up_at _ _ _ | (rw [up_ne (by omega)]; first | assumption | exact up_at _ _ _ | (rw [up_ne (by omega)]; first | assumption | exact up_at _ _ _ | (rw [up_ne (by omega)]; first | assumption | exact up_at _ _ _ | (rw [up_ne (by omega)]; first | assumption | exact up_at _ _ _ | (rw [up_ne (by omega)]; first | assumption | exact up_at _ _ _ | (rw [up_ne (by omega)]; first | assumption | exact up_at _ _ _ | (rw [up_ne (by omega)]; first | assumption | exact up_at _ _ _ | (rw [up_ne (by omega)]; assumption)))))))))) (by rfl) (by first | assumption | exact up_at _ _ _ | (rw [up_ne (by omega)]; first | assumption | exact up_at _ _ _ | (rw [up_ne (by omega)]; first | assumption | exact up_at _ _ _ | (rw [up_ne (by omega)]; first | assumption | exact up_at _ _ _ | (rw [up_ne (by omega)]; first | assumption | exact up_at _ _ _ | (rw [up_ne (by omega)]; first | assumption | exact up_at _ _ _ | (rw [up_ne (by omega)]; first | assumption | exact up_at _ _ _ | (rw [up_ne (by omega)]; first | assumption | exact up_at _ _ _ | (rw [up_ne (by omega)]; first | assumption | exact up_at _ _ _ | (rw [up_ne (by omega)]; assumption)))))))))) (by first | omega | (simp only [Ls_len]; omega) | assumption | exact Ls_get (by omega) (by omega) | rfl | decide) (by first | omega | (simp only [Ls_len]; omega) | assumption | exact Ls_get (by omega) (by omega) | rfl | decide) ?_ ?_
        · intro hc3
          first
          | (exfalso; omega)
          | (
              refine BX6_set_31  ?_
              exact k _ ((Fr.rf h s 4).put (by omega) (by omega)) e2
            )
        · intro hc4
          first
          | (exfalso; omega)
          | (
              refine BX6_set_23 (by first | assumption | exact up_at _ _ _ | (rw [up_ne (by omega)]; first | assumption | exact up_at _ _ _ | (rw [up_ne (by omega)]; first | assumption | exact up_at _ _ _ | (rw [up_ne (by omega)]; first | assumption | exact up_at _ _ _ | (rw [up_ne (by omega)]; first | assumption | exact up_at _ _ _ | (rw [up_ne (by omega)]; first | assumption | exact up_at _ _ _ | (rw [up_ne (by omega)]; first | assumption | exact up_at _ _ _ | (rw [up_ne (by omega)]; first | assumption | exact up_at _ _ _ | (rw [up_ne (by omega)]; first | assumption | exact up_at _ _ _ | (rw [up_ne (by omega)]; assumption)))))))))) (by rfl) (by first | assumption | exact up_at _ _ _ | (rw [up_ne (by omega)]; first | assumption | exact up_at _ _ _ | (rw [up_ne (by omega)]; first | assumption | exact up_at _ _ _ | (rw [up_ne (by omega)]; first | assumption | exact up_at _ _ _ | (rw [up_ne (by omega)]; first | assumption | exact up_at _ _ _ | (rw [up_ne (by omega)]; first | assumption | exact up_at _ _ _ | (rw [up_ne (by omega)]; first | assumption | exact up_at _ _ _ | (rw [up_ne (by omega)]; first | assumption | exact up_at _ _ _ | (rw [up_ne (by omega)]; first | assumption | exact up_at _ _ _ | (rw [up_ne (by omega)]; assumption)))))))))) (by first | omega | (simp only [Ls_len]; omega) | assumption | exact Ls_get (by omega) (by omega) | rfl | decide) (by first | omega | (simp only [Ls_len]; omega) | assumption | exact Ls_get (by omega) (by omega) | rfl | decide) (by first | omega | (simp only [Ls_len]; omega) | assumption | exact Ls_get (by omega) (by omega) | rfl | decide) ?_
              try rw [Ls_set (by omega)]
              refine BX6_set_31  ?_
              exact k _ ((Fr.rf h s 4).put (by omega) (by omega)) e2
            )
      )
theorem R_X6_hasBottle {b : Int} (e : IsSe h s S) (hs : s ≠ 0) (kt : 0 ≤ b → b < S 72 → Q (some (vI 1)) h n) (kf : (b < 0 ∨ S 72 ≤ b) → Q (some (vI 0)) h n) : Rn d bc bs mX6_hasBottle 0 [some (vR (some s)), some (vI b)] [] h n Q := by
  obtain ⟨s1, s2, s3⟩ := e
  refine BX6_hasBottle_0  ?_ ?_
  · intro hc1
    first
    | (exfalso; omega)
    | (
        refine BX6_hasBottle_16  ?_
        first | exact kt (by omega) (by omega) | exact kf (by omega)
      )
  · intro hc2
    first
    | (exfalso; omega)
    | (
        refine BX6_hasBottle_4 (by first | assumption | exact up_at _ _ _ | (rw [up_ne (by omega)]; first | assumption | exact up_at _ _ _ | (rw [up_ne (by omega)]; first | assumption | exact up_at _ _ _ | (rw [up_ne (by omega)]; first | assumption | exact up_at _ _ _ | (rw [up_ne (by omega)]; first | assumption | exact up_at _ _ _ | (rw [up_ne (by omega)]; first | assumption | exact up_at _ _ _ | (rw [up_ne (by omega)]; first | assumption | exact up_at _ _ _ | (rw [up_ne (by omega)]; first | assumption | exact up_at _ _ _ | (rw [up_ne (by omega)]; first | assumption | exact up_at _ _ _ | (rw [up_ne (by omega)]; assumption)))))))))) (by rfl) ?_ ?_
        · intro hc3
          first
          | (exfalso; omega)
          | (
              refine BX6_hasBottle_16  ?_
              first | exact kt (by omega) (by omega) | exact kf (by omega)
            )
        · intro hc4
          first
          | (exfalso; omega)
          | (
              refine BX6_hasBottle_12  ?_
              first | exact kt (by omega) (by omega) | exact kf (by omega)
            )
      )
theorem R_X6_isAfloat {b : Int} (e : IsSe h s S) (hs : s ≠ 0) (hn : S 72 ≤ 12) (kt : 0 ≤ b → b < S 72 → S (b * 6 + 4) = 0 → Q (some (vI 1)) h n) (kf : (b < 0 ∨ S 72 ≤ b ∨ S (b * 6 + 4) ≠ 0) → Q (some (vI 0)) h n) : Rn (d + 1) bc bs mX6_isAfloat 0 [some (vR (some s)), some (vI b)] [] h n Q := by
  have s1 := e.1
  refine BX6_isAfloat_0 (by first | assumption | exact up_at _ _ _ | (rw [up_ne (by omega)]; first | assumption | exact up_at _ _ _ | (rw [up_ne (by omega)]; first | assumption | exact up_at _ _ _ | (rw [up_ne (by omega)]; first | assumption | exact up_at _ _ _ | (rw [up_ne (by omega)]; first | assumption | exact up_at _ _ _ | (rw [up_ne (by omega)]; first | assumption | exact up_at _ _ _ | (rw [up_ne (by omega)]; first | assumption | exact up_at _ _ _ | (rw [up_ne (by omega)]; first | assumption | exact up_at _ _ _ | (rw [up_ne (by omega)]; first | assumption | exact up_at _ _ _ | (rw [up_ne (by omega)]; assumption)))))))))) ?_
  refine R_X6_hasBottle (by first | omega | (simp only [Ls_len]; omega) | assumption | exact Ls_get (by omega) (by omega) | rfl | decide) (by first | omega | (simp only [Ls_len]; omega) | assumption | exact Ls_get (by omega) (by omega) | rfl | decide) ?_ ?_
  · intro w1 w2
    refine BX6_isAfloat_5  ?_ ?_
    · intro hc1
      exact absurd hc1 (by decide)
    · intro hc2
      refine BX6_isAfloat_8 (by first | assumption | exact up_at _ _ _ | (rw [up_ne (by omega)]; first | assumption | exact up_at _ _ _ | (rw [up_ne (by omega)]; first | assumption | exact up_at _ _ _ | (rw [up_ne (by omega)]; first | assumption | exact up_at _ _ _ | (rw [up_ne (by omega)]; first | assumption | exact up_at _ _ _ | (rw [up_ne (by omega)]; first | assumption | exact up_at _ _ _ | (rw [up_ne (by omega)]; first | assumption | exact up_at _ _ _ | (rw [up_ne (by omega)]; first | assumption | exact up_at _ _ _ | (rw [up_ne (by omega)]; first | assumption | exact up_at _ _ _ | (rw [up_ne (by omega)]; assumption)))))))))) ?_
      refine R_X6_get (by first | omega | (simp only [Ls_len]; omega) | assumption | exact Ls_get (by omega) (by omega) | rfl | decide) (by first | omega | (simp only [Ls_len]; omega) | assumption | exact Ls_get (by omega) (by omega) | rfl | decide) (by first | omega | (simp only [Ls_len]; omega) | assumption | exact Ls_get (by omega) (by omega) | rfl | decide) (by first | omega | (simp only [Ls_len]; omega) | assumption | exact Ls_get (by omega) (by omega) | rfl | decide) (by first | omega | (simp only [Ls_len]; omega) | assumption | exact Ls_get (by omega) (by omega) | rfl | decide) (by first | omega | (simp only [Ls_len]; omega) | assumption | exact Ls_get (by omega) (by omega) | rfl | decide) ?_
      refine BX6_isAfloat_14  ?_ ?_
      · intro hc3
        first
        | (exfalso; omega)
        | (
            refine BX6_isAfloat_21  ?_
            first | exact kt (by omega) (by omega) (by omega) | exact kf (by omega)
          )
      · intro hc4
        first
        | (exfalso; omega)
        | (
            refine BX6_isAfloat_17  ?_
            first | exact kt (by omega) (by omega) (by omega) | exact kf (by omega)
          )
  · intro w3
    refine BX6_isAfloat_5  ?_ ?_
    · intro hc5
      refine BX6_isAfloat_21  ?_
      first | exact kt (by omega) (by omega) (by omega) | exact kf (by omega)
    · intro hc6
      exact absurd hc6 (by decide)
theorem R_X6_draw (e : IsSe h s S) (hs : s ≠ 0) (h0 : 0 ≤ S 74) (h1 : S 74 < 30637) (k : ∀ h1, Fr h h1 s 4 → IsSe h1 s (fset S 74 ((S 74 * 461 + 349) % 30637)) → Q (some (vI (S 74))) h1 n) : Rn d bc bs mX6_draw 0 [some (vR (some s)), none] [] h n Q := by
  have e2 := e.dr (v := (S 74 * 461 + 349) % 30637)
  obtain ⟨s1, s2, s3⟩ := e
  refine BX6_draw_0 (by first | assumption | exact up_at _ _ _ | (rw [up_ne (by omega)]; first | assumption | exact up_at _ _ _ | (rw [up_ne (by omega)]; first | assumption | exact up_at _ _ _ | (rw [up_ne (by omega)]; first | assumption | exact up_at _ _ _ | (rw [up_ne (by omega)]; first | assumption | exact up_at _ _ _ | (rw [up_ne (by omega)]; first | assumption | exact up_at _ _ _ | (rw [up_ne (by omega)]; first | assumption | exact up_at _ _ _ | (rw [up_ne (by omega)]; first | assumption | exact up_at _ _ _ | (rw [up_ne (by omega)]; first | assumption | exact up_at _ _ _ | (rw [up_ne (by omega)]; assumption)))))))))) (by rfl) (by first | omega | (simp only [Ls_len]; omega) | assumption | exact Ls_get (by omega) (by omega) | rfl | decide) (by first | omega | (simp only [Ls_len]; omega) | assumption | exact Ls_get (by omega) (by omega) | rfl | decide) (by first | omega | (simp only [Ls_len]; omega) | assumption | exact Ls_get (by omega) (by omega) | rfl | decide) (by simp) ?_
  refine BX6_draw_25  ?_
  exact k _ ((Fr.rf h s 4).put (by omega) (by omega)) e2
theorem R_X6_writeDown {b w : Int} (e : IsSe h s S) (hs : s ≠ 0) (h0 : 0 ≤ b) (h1 : b < 12) (h2 : 0 ≤ S 75) (h3 : S 75 ≤ 30) (k : ∀ h1, Fr h h1 s 4 → IsSe h1 s (seaBook S (S 73) b w (S (b * 6 + 2))) → Q none h1 n) : Rn (d + 2) bc bs mX6_writeDown 0 [some (vR (some s)), some (vI b), some (vI w)] [] h n Q := by
  have s1 := e.1
  have s3 := e.2.2
  have s4 := s3.1
  refine BX6_writeDown_0 (by first | assumption | exact up_at _ _ _ | (rw [up_ne (by omega)]; first | assumption | exact up_at _ _ _ | (rw [up_ne (by omega)]; first | assumption | exact up_at _ _ _ | (rw [up_ne (by omega)]; first | assumption | exact up_at _ _ _ | (rw [up_ne (by omega)]; first | assumption | exact up_at _ _ _ | (rw [up_ne (by omega)]; first | assumption | exact up_at _ _ _ | (rw [up_ne (by omega)]; first | assumption | exact up_at _ _ _ | (rw [up_ne (by omega)]; first | assumption | exact up_at _ _ _ | (rw [up_ne (by omega)]; first | assumption | exact up_at _ _ _ | (rw [up_ne (by omega)]; assumption)))))))))) (by rfl) (by rfl) ?_
  refine R_X6_get (by first | omega | (simp only [Ls_len]; omega) | assumption | exact Ls_get (by omega) (by omega) | rfl | decide) (by first | omega | (simp only [Ls_len]; omega) | assumption | exact Ls_get (by omega) (by omega) | rfl | decide) (by first | omega | (simp only [Ls_len]; omega) | assumption | exact Ls_get (by omega) (by omega) | rfl | decide) (by first | omega | (simp only [Ls_len]; omega) | assumption | exact Ls_get (by omega) (by omega) | rfl | decide) (by first | omega | (simp only [Ls_len]; omega) | assumption | exact Ls_get (by omega) (by omega) | rfl | decide) (by first | omega | (simp only [Ls_len]; omega) | assumption | exact Ls_get (by omega) (by omega) | rfl | decide) ?_
  refine BX6_writeDown_16 (by first | assumption | exact up_at _ _ _ | (rw [up_ne (by omega)]; first | assumption | exact up_at _ _ _ | (rw [up_ne (by omega)]; first | assumption | exact up_at _ _ _ | (rw [up_ne (by omega)]; first | assumption | exact up_at _ _ _ | (rw [up_ne (by omega)]; first | assumption | exact up_at _ _ _ | (rw [up_ne (by omega)]; first | assumption | exact up_at _ _ _ | (rw [up_ne (by omega)]; first | assumption | exact up_at _ _ _ | (rw [up_ne (by omega)]; first | assumption | exact up_at _ _ _ | (rw [up_ne (by omega)]; first | assumption | exact up_at _ _ _ | (rw [up_ne (by omega)]; assumption)))))))))) ?_
  refine R_X0_addLine (by first | omega | (simp only [Ls_len]; omega) | assumption | exact Ls_get (by omega) (by omega) | rfl | decide) (by first | omega | (simp only [Ls_len]; omega) | assumption | exact Ls_get (by omega) (by omega) | rfl | decide) (by first | omega | (simp only [Ls_len]; omega) | assumption | exact Ls_get (by omega) (by omega) | rfl | decide) (by first | omega | (simp only [Ls_len]; omega) | assumption | exact Ls_get (by omega) (by omega) | rfl | decide) ?_
  intro h1 r1 s1
  refine BX6_writeDown_19  ?_
  exact k _ (r1.wd (by omega) (by omega)) (e.book r1 s1)
theorem R_X6_copyFrom {o : Nat} {T : Int → Int} (e : IsSe h s S) (t : IsSe h o T) (hs : s ≠ 0) (ho : o ≠ 0) (hd : s + 4 ≤ o ∨ o + 4 ≤ s) (k : ∀ h1, Fr h h1 s 4 → IsSe h1 s T → Q none h1 n) : Rn (d + 3) bc bs mX6_copyFrom 0 [some (vR (some s)), some (vR (some o))] [] h n Q := by
  have e1 := e.1
  have e2 := e.2.1
  have e4 := e.2.2.1
  have t1 := t.1
  have t2 := t.2.1
  have l1 := Ls_len 72 S
  have l2 := Ls_len 72 T
  refine BX6_copyFrom_0 (by first | assumption | exact up_at _ _ _ | (rw [up_ne (by omega)]; first | assumption | exact up_at _ _ _ | (rw [up_ne (by omega)]; first | assumption | exact up_at _ _ _ | (rw [up_ne (by omega)]; first | assumption | exact up_at _ _ _ | (rw [up_ne (by omega)]; first | assumption | exact up_at _ _ _ | (rw [up_ne (by omega)]; first | assumption | exact up_at _ _ _ | (rw [up_ne (by omega)]; first | assumption | exact up_at _ _ _ | (rw [up_ne (by omega)]; first | assumption | exact up_at _ _ _ | (rw [up_ne (by omega)]; first | assumption | exact up_at _ _ _ | (rw [up_ne (by omega)]; assumption)))))))))) (by rfl) (by first | assumption | exact up_at _ _ _ | (rw [up_ne (by omega)]; first | assumption | exact up_at _ _ _ | (rw [up_ne (by omega)]; first | assumption | exact up_at _ _ _ | (rw [up_ne (by omega)]; first | assumption | exact up_at _ _ _ | (rw [up_ne (by omega)]; first | assumption | exact up_at _ _ _ | (rw [up_ne (by omega)]; first | assumption | exact up_at _ _ _ | (rw [up_ne (by omega)]; first | assumption | exact up_at _ _ _ | (rw [up_ne (by omega)]; first | assumption | exact up_at _ _ _ | (rw [up_ne (by omega)]; first | assumption | exact up_at _ _ _ | (rw [up_ne (by omega)]; assumption)))))))))) (by rfl) ?_
  refine R_X12_copyRow (by first | omega | (simp only [Ls_len]; omega) | assumption | exact Ls_get (by omega) (by omega) | rfl | decide) (by first | omega | (simp only [Ls_len]; omega) | assumption | exact Ls_get (by omega) (by omega) | rfl | decide) (by first | omega | (simp only [Ls_len]; omega) | assumption | exact Ls_get (by omega) (by omega) | rfl | decide) (by first | omega | (simp only [Ls_len]; omega) | assumption | exact Ls_get (by omega) (by omega) | rfl | decide) (by first | omega | (simp only [Ls_len]; omega) | assumption | exact Ls_get (by omega) (by omega) | rfl | decide) (by first | omega | (simp only [Ls_len]; omega) | assumption | exact Ls_get (by omega) (by omega) | rfl | decide) ?_
  have q2 := e.2.2.fr (Fr.one h (s + 1) (cI (Ls 72 T))) (by omega)
  have q3 := t.2.2.fr (Fr.one h (s + 1) (cI (Ls 72 T))) (by omega)
  refine BX6_copyFrom_11 (by first | assumption | exact up_at _ _ _ | (rw [up_ne (by omega)]; first | assumption | exact up_at _ _ _ | (rw [up_ne (by omega)]; first | assumption | exact up_at _ _ _ | (rw [up_ne (by omega)]; first | assumption | exact up_at _ _ _ | (rw [up_ne (by omega)]; first | assumption | exact up_at _ _ _ | (rw [up_ne (by omega)]; first | assumption | exact up_at _ _ _ | (rw [up_ne (by omega)]; first | assumption | exact up_at _ _ _ | (rw [up_ne (by omega)]; first | assumption | exact up_at _ _ _ | (rw [up_ne (by omega)]; first | assumption | exact up_at _ _ _ | (rw [up_ne (by omega)]; assumption)))))))))) (by rfl) (by first | assumption | exact up_at _ _ _ | (rw [up_ne (by omega)]; first | assumption | exact up_at _ _ _ | (rw [up_ne (by omega)]; first | assumption | exact up_at _ _ _ | (rw [up_ne (by omega)]; first | assumption | exact up_at _ _ _ | (rw [up_ne (by omega)]; first | assumption | exact up_at _ _ _ | (rw [up_ne (by omega)]; first | assumption | exact up_at _ _ _ | (rw [up_ne (by omega)]; first | assumption | exact up_at _ _ _ | (rw [up_ne (by omega)]; first | assumption | exact up_at _ _ _ | (rw [up_ne (by omega)]; first | assumption | exact up_at _ _ _ | (rw [up_ne (by omega)]; assumption)))))))))) (by rfl) (by first | assumption | exact up_at _ _ _ | (rw [up_ne (by omega)]; first | assumption | exact up_at _ _ _ | (rw [up_ne (by omega)]; first | assumption | exact up_at _ _ _ | (rw [up_ne (by omega)]; first | assumption | exact up_at _ _ _ | (rw [up_ne (by omega)]; first | assumption | exact up_at _ _ _ | (rw [up_ne (by omega)]; first | assumption | exact up_at _ _ _ | (rw [up_ne (by omega)]; first | assumption | exact up_at _ _ _ | (rw [up_ne (by omega)]; first | assumption | exact up_at _ _ _ | (rw [up_ne (by omega)]; first | assumption | exact up_at _ _ _ | (rw [up_ne (by omega)]; assumption)))))))))) ?_
  refine R_X0_copyFrom (by first | omega | (simp only [Ls_len]; omega) | assumption | exact Ls_get (by omega) (by omega) | rfl | decide) (by first | omega | (simp only [Ls_len]; omega) | assumption | exact Ls_get (by omega) (by omega) | rfl | decide) (by first | omega | (simp only [Ls_len]; omega) | assumption | exact Ls_get (by omega) (by omega) | rfl | decide) (by first | omega | (simp only [Ls_len]; omega) | assumption | exact Ls_get (by omega) (by omega) | rfl | decide) (by first | omega | (simp only [Ls_len]; omega) | assumption | exact Ls_get (by omega) (by omega) | rfl | decide) ?_
  intro h1 r1 s1
  have z1 : h1 s = _ := (r1 s (by omega)).trans ((up_ne (by omega)).trans e.1)
  have z2 : h1 o = _ := (r1 o (by omega)).trans ((up_ne (by omega)).trans t.1)
  refine BX6_copyFrom_22 (by first | assumption | exact up_at _ _ _ | (rw [up_ne (by omega)]; first | assumption | exact up_at _ _ _ | (rw [up_ne (by omega)]; first | assumption | exact up_at _ _ _ | (rw [up_ne (by omega)]; first | assumption | exact up_at _ _ _ | (rw [up_ne (by omega)]; first | assumption | exact up_at _ _ _ | (rw [up_ne (by omega)]; first | assumption | exact up_at _ _ _ | (rw [up_ne (by omega)]; first | assumption | exact up_at _ _ _ | (rw [up_ne (by omega)]; first | assumption | exact up_at _ _ _ | (rw [up_ne (by omega)]; first | assumption | exact up_at _ _ _ | (rw [up_ne (by omega)]; assumption)))))))))) (by rfl) (by first | assumption | exact up_at _ _ _ | (rw [up_ne (by omega)]; first | assumption | exact up_at _ _ _ | (rw [up_ne (by omega)]; first | assumption | exact up_at _ _ _ | (rw [up_ne (by omega)]; first | assumption | exact up_at _ _ _ | (rw [up_ne (by omega)]; first | assumption | exact up_at _ _ _ | (rw [up_ne (by omega)]; first | assumption | exact up_at _ _ _ | (rw [up_ne (by omega)]; first | assumption | exact up_at _ _ _ | (rw [up_ne (by omega)]; first | assumption | exact up_at _ _ _ | (rw [up_ne (by omega)]; first | assumption | exact up_at _ _ _ | (rw [up_ne (by omega)]; assumption)))))))))) (by simp) ?_
  refine BX6_copyFrom_30 (by first | assumption | exact up_at _ _ _ | (rw [up_ne (by omega)]; first | assumption | exact up_at _ _ _ | (rw [up_ne (by omega)]; first | assumption | exact up_at _ _ _ | (rw [up_ne (by omega)]; first | assumption | exact up_at _ _ _ | (rw [up_ne (by omega)]; first | assumption | exact up_at _ _ _ | (rw [up_ne (by omega)]; first | assumption | exact up_at _ _ _ | (rw [up_ne (by omega)]; first | assumption | exact up_at _ _ _ | (rw [up_ne (by omega)]; first | assumption | exact up_at _ _ _ | (rw [up_ne (by omega)]; first | assumption | exact up_at _ _ _ | (rw [up_ne (by omega)]; assumption)))))))))) (by rfl) (by first | assumption | exact up_at _ _ _ | (rw [up_ne (by omega)]; first | assumption | exact up_at _ _ _ | (rw [up_ne (by omega)]; first | assumption | exact up_at _ _ _ | (rw [up_ne (by omega)]; first | assumption | exact up_at _ _ _ | (rw [up_ne (by omega)]; first | assumption | exact up_at _ _ _ | (rw [up_ne (by omega)]; first | assumption | exact up_at _ _ _ | (rw [up_ne (by omega)]; first | assumption | exact up_at _ _ _ | (rw [up_ne (by omega)]; first | assumption | exact up_at _ _ _ | (rw [up_ne (by omega)]; first | assumption | exact up_at _ _ _ | (rw [up_ne (by omega)]; assumption)))))))))) (by simp) ?_
  refine BX6_copyFrom_38 (by first | assumption | exact up_at _ _ _ | (rw [up_ne (by omega)]; first | assumption | exact up_at _ _ _ | (rw [up_ne (by omega)]; first | assumption | exact up_at _ _ _ | (rw [up_ne (by omega)]; first | assumption | exact up_at _ _ _ | (rw [up_ne (by omega)]; first | assumption | exact up_at _ _ _ | (rw [up_ne (by omega)]; first | assumption | exact up_at _ _ _ | (rw [up_ne (by omega)]; first | assumption | exact up_at _ _ _ | (rw [up_ne (by omega)]; first | assumption | exact up_at _ _ _ | (rw [up_ne (by omega)]; first | assumption | exact up_at _ _ _ | (rw [up_ne (by omega)]; assumption)))))))))) (by rfl) (by first | assumption | exact up_at _ _ _ | (rw [up_ne (by omega)]; first | assumption | exact up_at _ _ _ | (rw [up_ne (by omega)]; first | assumption | exact up_at _ _ _ | (rw [up_ne (by omega)]; first | assumption | exact up_at _ _ _ | (rw [up_ne (by omega)]; first | assumption | exact up_at _ _ _ | (rw [up_ne (by omega)]; first | assumption | exact up_at _ _ _ | (rw [up_ne (by omega)]; first | assumption | exact up_at _ _ _ | (rw [up_ne (by omega)]; first | assumption | exact up_at _ _ _ | (rw [up_ne (by omega)]; first | assumption | exact up_at _ _ _ | (rw [up_ne (by omega)]; assumption)))))))))) (by simp) ?_
  refine BX6_copyFrom_46  ?_
  rw [up_up, up_up]
  refine k _ ((((Fr.one h (s + 1) (cI (Ls 72 T))).wd (by omega) (by omega)).tr (r1.wd (by omega) (by omega))).put (by omega) (by omega)) ⟨?_, ?_, ?_⟩
  · exact up_at _ _ _
  · rw [up_ne (by omega), r1 _ (by omega)]; exact up_at _ _ _
  · exact IsBk.fr s1 (Fr.one h1 s _) (by omega)
theorem R_X6_countComeTo {p : Int} (e : IsSe h s S) (hs : s ≠ 0) (h0 : 0 ≤ S 72) (h1 : S 72 ≤ 12) (k : Q (some (vI (cnt (fun b => S (b * 6 + 4) = 1 ∧ S (b * 6 + 1) = p) (S 72).toNat))) h n) : Rn (d + 1) bc bs mX6_countComeTo 0 [some (vR (some s)), some (vI p), none, none] [] h n Q := by
  have s1 := e.1
  have loop : ∀ (m : Nat) (i : Nat), (i : Int) + m = S 72 → Rn (d + 1) bc bs mX6_countComeTo 4 [some (vR (some s)), some (vI p), some (vI (cnt (fun b => S (b * 6 + 4) = 1 ∧ S (b * 6 + 1) = p) i)), some (vI i)] [] h n Q := by
    intro m
    induction m with
    | zero =>
      intro i hi
      have e : i = (S 72).toNat := by omega
      refine BX6_countComeTo_4 (by first | assumption | exact up_at _ _ _ | (rw [up_ne (by omega)]; first | assumption | exact up_at _ _ _ | (rw [up_ne (by omega)]; first | assumption | exact up_at _ _ _ | (rw [up_ne (by omega)]; first | assumption | exact up_at _ _ _ | (rw [up_ne (by omega)]; first | assumption | exact up_at _ _ _ | (rw [up_ne (by omega)]; first | assumption | exact up_at _ _ _ | (rw [up_ne (by omega)]; first | assumption | exact up_at _ _ _ | (rw [up_ne (by omega)]; first | assumption | exact up_at _ _ _ | (rw [up_ne (by omega)]; first | assumption | exact up_at _ _ _ | (rw [up_ne (by omega)]; assumption)))))))))) (by rfl) ?_ ?_
      · intro hc1
        first
        | (exfalso; omega)
        | (
            refine BX6_countComeTo_41  ?_
            (rw [e]; exact k)
          )
      · intro hc2
        first
        | (exfalso; omega)
        | (
            refine BX6_countComeTo_12 (by first | assumption | exact up_at _ _ _ | (rw [up_ne (by omega)]; first | assumption | exact up_at _ _ _ | (rw [up_ne (by omega)]; first | assumption | exact up_at _ _ _ | (rw [up_ne (by omega)]; first | assumption | exact up_at _ _ _ | (rw [up_ne (by omega)]; first | assumption | exact up_at _ _ _ | (rw [up_ne (by omega)]; first | assumption | exact up_at _ _ _ | (rw [up_ne (by omega)]; first | assumption | exact up_at _ _ _ | (rw [up_ne (by omega)]; first | assumption | exact up_at _ _ _ | (rw [up_ne (by omega)]; first | assumption | exact up_at _ _ _ | (rw [up_ne (by omega)]; assumption)))))))))) ?_
            refine R_X6_get (by first | omega | (simp only [Ls_len]; omega) | assumption | exact Ls_get (by omega) (by omega) | rfl | decide) (by first | omega | (simp only [Ls_len]; omega) | assumption | exact Ls_get (by omega) (by omega) | rfl | decide) (by first | omega | (simp only [Ls_len]; omega) | assumption | exact Ls_get (by omega) (by omega) | rfl | decide) (by first | omega | (simp only [Ls_len]; omega) | assumption | exact Ls_get (by omega) (by omega) | rfl | decide) (by first | omega | (simp only [Ls_len]; omega) | assumption | exact Ls_get (by omega) (by omega) | rfl | decide) (by first | omega | (simp only [Ls_len]; omega) | assumption | exact Ls_get (by omega) (by omega) | rfl | decide) ?_
            refine BX6_countComeTo_18  ?_ ?_
            · intro hc3
              first
              | (exfalso; omega)
              | (
                  refine BX6_countComeTo_35 (by first | omega | (simp only [Ls_len]; omega) | assumption | exact Ls_get (by omega) (by omega) | rfl | decide) ?_
                  (exfalso; omega)
                )
            · intro hc4
              first
              | (exfalso; omega)
              | (
                  refine BX6_countComeTo_22 (by first | assumption | exact up_at _ _ _ | (rw [up_ne (by omega)]; first | assumption | exact up_at _ _ _ | (rw [up_ne (by omega)]; first | assumption | exact up_at _ _ _ | (rw [up_ne (by omega)]; first | assumption | exact up_at _ _ _ | (rw [up_ne (by omega)]; first | assumption | exact up_at _ _ _ | (rw [up_ne (by omega)]; first | assumption | exact up_at _ _ _ | (rw [up_ne (by omega)]; first | assumption | exact up_at _ _ _ | (rw [up_ne (by omega)]; first | assumption | exact up_at _ _ _ | (rw [up_ne (by omega)]; first | assumption | exact up_at _ _ _ | (rw [up_ne (by omega)]; assumption)))))))))) ?_
                  refine R_X6_get (by first | omega | (simp only [Ls_len]; omega) | assumption | exact Ls_get (by omega) (by omega) | rfl | decide) (by first | omega | (simp only [Ls_len]; omega) | assumption | exact Ls_get (by omega) (by omega) | rfl | decide) (by first | omega | (simp only [Ls_len]; omega) | assumption | exact Ls_get (by omega) (by omega) | rfl | decide) (by first | omega | (simp only [Ls_len]; omega) | assumption | exact Ls_get (by omega) (by omega) | rfl | decide) (by first | omega | (simp only [Ls_len]; omega) | assumption | exact Ls_get (by omega) (by omega) | rfl | decide) (by first | omega | (simp only [Ls_len]; omega) | assumption | exact Ls_get (by omega) (by omega) | rfl | decide) ?_
                  refine BX6_countComeTo_28  ?_ ?_
                  · intro hc5
                    first
                    | (exfalso; omega)
                    | (
                        refine BX6_countComeTo_35 (by first | omega | (simp only [Ls_len]; omega) | assumption | exact Ls_get (by omega) (by omega) | rfl | decide) ?_
                        (exfalso; omega)
                      )
                  · intro hc6
                    first
                    | (exfalso; omega)
                    | (
                        refine BX6_countComeTo_32 (by first | omega | (simp only [Ls_len]; omega) | assumption | exact Ls_get (by omega) (by omega) | rfl | decide) (by first | omega | (simp only [Ls_len]; omega) | assumption | exact Ls_get (by omega) (by omega) | rfl | decide) ?_
                        (exfalso; omega)
                      )
                )
          )
    | succ m ih =>
      intro i hi
      have c1 := cnt_ge (fun b => S (b * 6 + 4) = 1 ∧ S (b * 6 + 1) = p) i
      have ih1 := ih (i + 1) (by omega)
      rw [cnt] at ih1
      refine BX6_countComeTo_4 (by first | assumption | exact up_at _ _ _ | (rw [up_ne (by omega)]; first | assumption | exact up_at _ _ _ | (rw [up_ne (by omega)]; first | assumption | exact up_at _ _ _ | (rw [up_ne (by omega)]; first | assumption | exact up_at _ _ _ | (rw [up_ne (by omega)]; first | assumption | exact up_at _ _ _ | (rw [up_ne (by omega)]; first | assumption | exact up_at _ _ _ | (rw [up_ne (by omega)]; first | assumption | exact up_at _ _ _ | (rw [up_ne (by omega)]; first | assumption | exact up_at _ _ _ | (rw [up_ne (by omega)]; first | assumption | exact up_at _ _ _ | (rw [up_ne (by omega)]; assumption)))))))))) (by rfl) ?_ ?_
      · intro hc1
        refine BX6_countComeTo_41  ?_
        first | (exfalso; omega) | exact k
      · intro hc2
        refine BX6_countComeTo_12 (by first | assumption | exact up_at _ _ _ | (rw [up_ne (by omega)]; first | assumption | exact up_at _ _ _ | (rw [up_ne (by omega)]; first | assumption | exact up_at _ _ _ | (rw [up_ne (by omega)]; first | assumption | exact up_at _ _ _ | (rw [up_ne (by omega)]; first | assumption | exact up_at _ _ _ | (rw [up_ne (by omega)]; first | assumption | exact up_at _ _ _ | (rw [up_ne (by omega)]; first | assumption | exact up_at _ _ _ | (rw [up_ne (by omega)]; first | assumption | exact up_at _ _ _ | (rw [up_ne (by omega)]; first | assumption | exact up_at _ _ _ | (rw [up_ne (by omega)]; assumption)))))))))) ?_
        refine R_X6_get (by first | omega | (simp only [Ls_len]; omega) | assumption | exact Ls_get (by omega) (by omega) | rfl | decide) (by first | omega | (simp only [Ls_len]; omega) | assumption | exact Ls_get (by omega) (by omega) | rfl | decide) (by first | omega | (simp only [Ls_len]; omega) | assumption | exact Ls_get (by omega) (by omega) | rfl | decide) (by first | omega | (simp only [Ls_len]; omega) | assumption | exact Ls_get (by omega) (by omega) | rfl | decide) (by first | omega | (simp only [Ls_len]; omega) | assumption | exact Ls_get (by omega) (by omega) | rfl | decide) (by first | omega | (simp only [Ls_len]; omega) | assumption | exact Ls_get (by omega) (by omega) | rfl | decide) ?_
        refine BX6_countComeTo_18  ?_ ?_
        · intro hc3
          refine BX6_countComeTo_35 (by first | omega | (simp only [Ls_len]; omega) | assumption | exact Ls_get (by omega) (by omega) | rfl | decide) ?_
          first | (rw [if_pos (by simp_all)] at ih1; exact ih1) | (rw [if_neg (by simp_all), Int.add_zero] at ih1; exact ih1)
        · intro hc4
          refine BX6_countComeTo_22 (by first | assumption | exact up_at _ _ _ | (rw [up_ne (by omega)]; first | assumption | exact up_at _ _ _ | (rw [up_ne (by omega)]; first | assumption | exact up_at _ _ _ | (rw [up_ne (by omega)]; first | assumption | exact up_at _ _ _ | (rw [up_ne (by omega)]; first | assumption | exact up_at _ _ _ | (rw [up_ne (by omega)]; first | assumption | exact up_at _ _ _ | (rw [up_ne (by omega)]; first | assumption | exact up_at _ _ _ | (rw [up_ne (by omega)]; first | assumption | exact up_at _ _ _ | (rw [up_ne (by omega)]; first | assumption | exact up_at _ _ _ | (rw [up_ne (by omega)]; assumption)))))))))) ?_
          refine R_X6_get (by first | omega | (simp only [Ls_len]; omega) | assumption | exact Ls_get (by omega) (by omega) | rfl | decide) (by first | omega | (simp only [Ls_len]; omega) | assumption | exact Ls_get (by omega) (by omega) | rfl | decide) (by first | omega | (simp only [Ls_len]; omega) | assumption | exact Ls_get (by omega) (by omega) | rfl | decide) (by first | omega | (simp only [Ls_len]; omega) | assumption | exact Ls_get (by omega) (by omega) | rfl | decide) (by first | omega | (simp only [Ls_len]; omega) | assumption | exact Ls_get (by omega) (by omega) | rfl | decide) (by first | omega | (simp only [Ls_len]; omega) | assumption | exact Ls_get (by omega) (by omega) | rfl | decide) ?_
          refine BX6_countComeTo_28  ?_ ?_
          · intro hc5
            refine BX6_countComeTo_35 (by first | omega | (simp only [Ls_len]; omega) | assumption | exact Ls_get (by omega) (by omega) | rfl | decide) ?_
            first | (rw [if_pos (by simp_all)] at ih1; exact ih1) | (rw [if_neg (by simp_all), Int.add_zero] at ih1; exact ih1)
          · intro hc6
            refine BX6_countComeTo_32 (by first | omega | (simp only [Ls_len]; omega) | assumption | exact Ls_get (by omega) (by omega) | rfl | decide) (by first | omega | (simp only [Ls_len]; omega) | assumption | exact Ls_get (by omega) (by omega) | rfl | decide) ?_
            first | (rw [if_pos (by simp_all)] at ih1; exact ih1) | (rw [if_neg (by simp_all), Int.add_zero] at ih1; exact ih1)
  refine BX6_countComeTo_0  ?_
  exact loop (S 72).toNat 0 (by omega)
theorem R_X6_bottlesThatAre {p : Int} (e : IsSe h s S) (hs : s ≠ 0) (h0 : 0 ≤ S 72) (h1 : S 72 ≤ 12) (k : Q (some (vI (bits (fun b => S (b * 6 + 4) = p) (S 72).toNat))) h n) : Rn (d + 1) bc bs mX6_bottlesThatAre 0 [some (vR (some s)), some (vI p), none, none] [] h n Q := by
  have s1 := e.1
  have loop : ∀ (m : Nat) (i : Nat), (i : Int) + m = S 72 → Rn (d + 1) bc bs mX6_bottlesThatAre 4 [some (vR (some s)), some (vI p), some (vI (bits (fun b => S (b * 6 + 4) = p) i)), some (vI i)] [] h n Q := by
    intro m
    induction m with
    | zero =>
      intro i hi
      have e : i = (S 72).toNat := by omega
      refine BX6_bottlesThatAre_4 (by first | assumption | exact up_at _ _ _ | (rw [up_ne (by omega)]; first | assumption | exact up_at _ _ _ | (rw [up_ne (by omega)]; first | assumption | exact up_at _ _ _ | (rw [up_ne (by omega)]; first | assumption | exact up_at _ _ _ | (rw [up_ne (by omega)]; first | assumption | exact up_at _ _ _ | (rw [up_ne (by omega)]; first | assumption | exact up_at _ _ _ | (rw [up_ne (by omega)]; first | assumption | exact up_at _ _ _ | (rw [up_ne (by omega)]; first | assumption | exact up_at _ _ _ | (rw [up_ne (by omega)]; first | assumption | exact up_at _ _ _ | (rw [up_ne (by omega)]; assumption)))))))))) (by rfl) ?_ ?_
      · intro hc1
        first
        | (exfalso; omega)
        | (
            refine BX6_bottlesThatAre_34  ?_
            (rw [e]; exact k)
          )
      · intro hc2
        first
        | (exfalso; omega)
        | (
            refine BX6_bottlesThatAre_12 (by first | assumption | exact up_at _ _ _ | (rw [up_ne (by omega)]; first | assumption | exact up_at _ _ _ | (rw [up_ne (by omega)]; first | assumption | exact up_at _ _ _ | (rw [up_ne (by omega)]; first | assumption | exact up_at _ _ _ | (rw [up_ne (by omega)]; first | assumption | exact up_at _ _ _ | (rw [up_ne (by omega)]; first | assumption | exact up_at _ _ _ | (rw [up_ne (by omega)]; first | assumption | exact up_at _ _ _ | (rw [up_ne (by omega)]; first | assumption | exact up_at _ _ _ | (rw [up_ne (by omega)]; first | assumption | exact up_at _ _ _ | (rw [up_ne (by omega)]; assumption)))))))))) ?_
            refine R_X6_get (by first | omega | (simp only [Ls_len]; omega) | assumption | exact Ls_get (by omega) (by omega) | rfl | decide) (by first | omega | (simp only [Ls_len]; omega) | assumption | exact Ls_get (by omega) (by omega) | rfl | decide) (by first | omega | (simp only [Ls_len]; omega) | assumption | exact Ls_get (by omega) (by omega) | rfl | decide) (by first | omega | (simp only [Ls_len]; omega) | assumption | exact Ls_get (by omega) (by omega) | rfl | decide) (by first | omega | (simp only [Ls_len]; omega) | assumption | exact Ls_get (by omega) (by omega) | rfl | decide) (by first | omega | (simp only [Ls_len]; omega) | assumption | exact Ls_get (by omega) (by omega) | rfl | decide) ?_
            refine BX6_bottlesThatAre_18  ?_ ?_
            · intro hc3
              first
              | (exfalso; omega)
              | (
                  refine BX6_bottlesThatAre_28 (by first | omega | (simp only [Ls_len]; omega) | assumption | exact Ls_get (by omega) (by omega) | rfl | decide) ?_
                  (exfalso; omega)
                )
            · intro hc4
              first
              | (exfalso; omega)
              | (
                  refine BX6_bottlesThatAre_22 (by first | omega | (simp only [Ls_len]; omega) | assumption | exact Ls_get (by omega) (by omega) | rfl | decide) ?_
                  (exfalso; omega)
                )
          )
    | succ m ih =>
      intro i hi
      have c1 := bits_lt (fun b => S (b * 6 + 4) = p) i
      have ih1 := ih (i + 1) (by omega)
      rw [bits] at ih1
      refine BX6_bottlesThatAre_4 (by first | assumption | exact up_at _ _ _ | (rw [up_ne (by omega)]; first | assumption | exact up_at _ _ _ | (rw [up_ne (by omega)]; first | assumption | exact up_at _ _ _ | (rw [up_ne (by omega)]; first | assumption | exact up_at _ _ _ | (rw [up_ne (by omega)]; first | assumption | exact up_at _ _ _ | (rw [up_ne (by omega)]; first | assumption | exact up_at _ _ _ | (rw [up_ne (by omega)]; first | assumption | exact up_at _ _ _ | (rw [up_ne (by omega)]; first | assumption | exact up_at _ _ _ | (rw [up_ne (by omega)]; first | assumption | exact up_at _ _ _ | (rw [up_ne (by omega)]; assumption)))))))))) (by rfl) ?_ ?_
      · intro hc1
        refine BX6_bottlesThatAre_34  ?_
        first | (exfalso; omega) | exact k
      · intro hc2
        refine BX6_bottlesThatAre_12 (by first | assumption | exact up_at _ _ _ | (rw [up_ne (by omega)]; first | assumption | exact up_at _ _ _ | (rw [up_ne (by omega)]; first | assumption | exact up_at _ _ _ | (rw [up_ne (by omega)]; first | assumption | exact up_at _ _ _ | (rw [up_ne (by omega)]; first | assumption | exact up_at _ _ _ | (rw [up_ne (by omega)]; first | assumption | exact up_at _ _ _ | (rw [up_ne (by omega)]; first | assumption | exact up_at _ _ _ | (rw [up_ne (by omega)]; first | assumption | exact up_at _ _ _ | (rw [up_ne (by omega)]; first | assumption | exact up_at _ _ _ | (rw [up_ne (by omega)]; assumption)))))))))) ?_
        refine R_X6_get (by first | omega | (simp only [Ls_len]; omega) | assumption | exact Ls_get (by omega) (by omega) | rfl | decide) (by first | omega | (simp only [Ls_len]; omega) | assumption | exact Ls_get (by omega) (by omega) | rfl | decide) (by first | omega | (simp only [Ls_len]; omega) | assumption | exact Ls_get (by omega) (by omega) | rfl | decide) (by first | omega | (simp only [Ls_len]; omega) | assumption | exact Ls_get (by omega) (by omega) | rfl | decide) (by first | omega | (simp only [Ls_len]; omega) | assumption | exact Ls_get (by omega) (by omega) | rfl | decide) (by first | omega | (simp only [Ls_len]; omega) | assumption | exact Ls_get (by omega) (by omega) | rfl | decide) ?_
        refine BX6_bottlesThatAre_18  ?_ ?_
        · intro hc3
          refine BX6_bottlesThatAre_28 (by first | omega | (simp only [Ls_len]; omega) | assumption | exact Ls_get (by omega) (by omega) | rfl | decide) ?_
          first | (rw [if_pos (by simp_all), ← or_bit c1.1 c1.2 (by omega)] at ih1; exact ih1) | (rw [if_neg (by simp_all), Int.add_zero] at ih1; exact ih1)
        · intro hc4
          refine BX6_bottlesThatAre_22 (by first | omega | (simp only [Ls_len]; omega) | assumption | exact Ls_get (by omega) (by omega) | rfl | decide) ?_
          first | (rw [if_pos (by simp_all), ← or_bit c1.1 c1.2 (by omega)] at ih1; exact ih1) | (rw [if_neg (by simp_all), Int.add_zero] at ih1; exact ih1)
  refine BX6_bottlesThatAre_0  ?_
  exact loop (S 72).toNat 0 (by omega)
theorem R_X6_countAfloatAt {p : Int} (e : IsSe h s S) (hs : s ≠ 0) (h0 : 0 ≤ S 72) (h1 : S 72 ≤ 12) (k : Q (some (vI (cnt (fun b => S (b * 6 + 4) = 0 ∧ S (b * 6 + 2) = p) (S 72).toNat))) h n) : Rn (d + 1) bc bs mX6_countAfloatAt 0 [some (vR (some s)), some (vI p), none, none, none] [] h n Q := by
  have s1 := e.1
  have s2 := e.2.1
  have hl := Ls_len 72 S
  have loop : ∀ (m : Nat) (i : Nat), (i : Int) + m = S 72 → Rn (d + 1) bc bs mX6_countAfloatAt 23 [some (vR (some s)), some (vI p), some (vI (cnt (fun b => S (b * 6 + 4) = 0 ∧ S (b * 6 + 2) = p) i)), some (vI (min (S 72 * 6) (((Ls 72 S).length : Int) - 5))), some (vI (i * 6))] [] h n Q := by
    intro m
    induction m with
    | zero =>
      intro i hi
      have e : i = (S 72).toNat := by omega
      refine BX6_countAfloatAt_23  ?_ ?_
      · intro hc1
        first
        | (exfalso; omega)
        | (
            refine BX6_countAfloatAt_63  ?_
            (rw [e]; exact k)
          )
      · intro hc2
        first
        | (exfalso; omega)
        | (
            refine BX6_countAfloatAt_29 (by first | assumption | exact up_at _ _ _ | (rw [up_ne (by omega)]; first | assumption | exact up_at _ _ _ | (rw [up_ne (by omega)]; first | assumption | exact up_at _ _ _ | (rw [up_ne (by omega)]; first | assumption | exact up_at _ _ _ | (rw [up_ne (by omega)]; first | assumption | exact up_at _ _ _ | (rw [up_ne (by omega)]; first | assumption | exact up_at _ _ _ | (rw [up_ne (by omega)]; first | assumption | exact up_at _ _ _ | (rw [up_ne (by omega)]; first | assumption | exact up_at _ _ _ | (rw [up_ne (by omega)]; first | assumption | exact up_at _ _ _ | (rw [up_ne (by omega)]; assumption)))))))))) (by rfl) (by first | omega | (simp only [Ls_len]; omega) | assumption | exact Ls_get (by omega) (by omega) | rfl | decide) (by first | assumption | exact up_at _ _ _ | (rw [up_ne (by omega)]; first | assumption | exact up_at _ _ _ | (rw [up_ne (by omega)]; first | assumption | exact up_at _ _ _ | (rw [up_ne (by omega)]; first | assumption | exact up_at _ _ _ | (rw [up_ne (by omega)]; first | assumption | exact up_at _ _ _ | (rw [up_ne (by omega)]; first | assumption | exact up_at _ _ _ | (rw [up_ne (by omega)]; first | assumption | exact up_at _ _ _ | (rw [up_ne (by omega)]; first | assumption | exact up_at _ _ _ | (rw [up_ne (by omega)]; first | assumption | exact up_at _ _ _ | (rw [up_ne (by omega)]; assumption)))))))))) (by first | omega | (simp only [Ls_len]; omega) | assumption | exact Ls_get (by omega) (by omega) | rfl | decide) (by first | exact Ls_get (by omega) (by omega) | assumption) ?_ ?_
            · intro hc3
              first
              | (exfalso; omega)
              | (
                  refine BX6_countAfloatAt_57 (by first | omega | (simp only [Ls_len]; omega) | assumption | exact Ls_get (by omega) (by omega) | rfl | decide) ?_
                  (exfalso; omega)
                )
            · intro hc4
              first
              | (exfalso; omega)
              | (
                  refine BX6_countAfloatAt_41 (by first | assumption | exact up_at _ _ _ | (rw [up_ne (by omega)]; first | assumption | exact up_at _ _ _ | (rw [up_ne (by omega)]; first | assumption | exact up_at _ _ _ | (rw [up_ne (by omega)]; first | assumption | exact up_at _ _ _ | (rw [up_ne (by omega)]; first | assumption | exact up_at _ _ _ | (rw [up_ne (by omega)]; first | assumption | exact up_at _ _ _ | (rw [up_ne (by omega)]; first | assumption | exact up_at _ _ _ | (rw [up_ne (by omega)]; first | assumption | exact up_at _ _ _ | (rw [up_ne (by omega)]; first | assumption | exact up_at _ _ _ | (rw [up_ne (by omega)]; assumption)))))))))) (by rfl) (by first | omega | (simp only [Ls_len]; omega) | assumption | exact Ls_get (by omega) (by omega) | rfl | decide) (by first | assumption | exact up_at _ _ _ | (rw [up_ne (by omega)]; first | assumption | exact up_at _ _ _ | (rw [up_ne (by omega)]; first | assumption | exact up_at _ _ _ | (rw [up_ne (by omega)]; first | assumption | exact up_at _ _ _ | (rw [up_ne (by omega)]; first | assumption | exact up_at _ _ _ | (rw [up_ne (by omega)]; first | assumption | exact up_at _ _ _ | (rw [up_ne (by omega)]; first | assumption | exact up_at _ _ _ | (rw [up_ne (by omega)]; first | assumption | exact up_at _ _ _ | (rw [up_ne (by omega)]; first | assumption | exact up_at _ _ _ | (rw [up_ne (by omega)]; assumption)))))))))) (by first | omega | (simp only [Ls_len]; omega) | assumption | exact Ls_get (by omega) (by omega) | rfl | decide) (by first | exact Ls_get (by omega) (by omega) | assumption) ?_ ?_
                  · intro hc5
                    first
                    | (exfalso; omega)
                    | (
                        refine BX6_countAfloatAt_57 (by first | omega | (simp only [Ls_len]; omega) | assumption | exact Ls_get (by omega) (by omega) | rfl | decide) ?_
                        (exfalso; omega)
                      )
                  · intro hc6
                    first
                    | (exfalso; omega)
                    | (
                        refine BX6_countAfloatAt_54 (by first | omega | (simp only [Ls_len]; omega) | assumption | exact Ls_get (by omega) (by omega) | rfl | decide) (by first | omega | (simp only [Ls_len]; omega) | assumption | exact Ls_get (by omega) (by omega) | rfl | decide) ?_
                        (exfalso; omega)
                      )
                )
          )
    | succ m ih =>
      intro i hi
      have c1 := cnt_ge (fun b => S (b * 6 + 4) = 0 ∧ S (b * 6 + 2) = p) i
      have ih1 := ih (i + 1) (by omega)
      rw [cnt, show ((i + 1 : Nat) : Int) * 6 = i * 6 + 6 by omega] at ih1
      refine BX6_countAfloatAt_23  ?_ ?_
      · intro hc1
        refine BX6_countAfloatAt_63  ?_
        first | exact k | (exfalso; omega)
      · intro hc2
        refine BX6_countAfloatAt_29 (by first | assumption | exact up_at _ _ _ | (rw [up_ne (by omega)]; first | assumption | exact up_at _ _ _ | (rw [up_ne (by omega)]; first | assumption | exact up_at _ _ _ | (rw [up_ne (by omega)]; first | assumption | exact up_at _ _ _ | (rw [up_ne (by omega)]; first | assumption | exact up_at _ _ _ | (rw [up_ne (by omega)]; first | assumption | exact up_at _ _ _ | (rw [up_ne (by omega)]; first | assumption | exact up_at _ _ _ | (rw [up_ne (by omega)]; first | assumption | exact up_at _ _ _ | (rw [up_ne (by omega)]; first | assumption | exact up_at _ _ _ | (rw [up_ne (by omega)]; assumption)))))))))) (by rfl) (by first | omega | (simp only [Ls_len]; omega) | assumption | exact Ls_get (by omega) (by omega) | rfl | decide) (by first | assumption | exact up_at _ _ _ | (rw [up_ne (by omega)]; first | assumption | exact up_at _ _ _ | (rw [up_ne (by omega)]; first | assumption | exact up_at _ _ _ | (rw [up_ne (by omega)]; first | assumption | exact up_at _ _ _ | (rw [up_ne (by omega)]; first | assumption | exact up_at _ _ _ | (rw [up_ne (by omega)]; first | assumption | exact up_at _ _ _ | (rw [up_ne (by omega)]; first | assumption | exact up_at _ _ _ | (rw [up_ne (by omega)]; first | assumption | exact up_at _ _ _ | (rw [up_ne (by omega)]; first | assumption | exact up_at _ _ _ | (rw [up_ne (by omega)]; assumption)))))))))) (by first | omega | (simp only [Ls_len]; omega) | assumption | exact Ls_get (by omega) (by omega) | rfl | decide) (by first | exact Ls_get (by omega) (by omega) | assumption) ?_ ?_
        · intro hc3
          refine BX6_countAfloatAt_57 (by first | omega | (simp only [Ls_len]; omega) | assumption | exact Ls_get (by omega) (by omega) | rfl | decide) ?_
          first | (exfalso; omega) | (rw [if_pos (by simp_all)] at ih1; exact ih1) | (rw [if_neg (by simp_all), Int.add_zero] at ih1; exact ih1)
        · intro hc4
          refine BX6_countAfloatAt_41 (by first | assumption | exact up_at _ _ _ | (rw [up_ne (by omega)]; first | assumption | exact up_at _ _ _ | (rw [up_ne (by omega)]; first | assumption | exact up_at _ _ _ | (rw [up_ne (by omega)]; first | assumption | exact up_at _ _ _ | (rw [up_ne (by omega)]; first | assumption | exact up_at _ _ _ | (rw [up_ne (by omega)]; first | assumption | exact up_at _ _ _ | (rw [up_ne (by omega)]; first | assumption | exact up_at _ _ _ | (rw [up_ne (by omega)]; first | assumption | exact up_at _ _ _ | (rw [up_ne (by omega)]; first | assumption | exact up_at _ _ _ | (rw [up_ne (by omega)]; assumption)))))))))) (by rfl) (by first | omega | (simp only [Ls_len]; omega) | assumption | exact Ls_get (by omega) (by omega) | rfl | decide) (by first | assumption | exact up_at _ _ _ | (rw [up_ne (by omega)]; first | assumption | exact up_at _ _ _ | (rw [up_ne (by omega)]; first | assumption | exact up_at _ _ _ | (rw [up_ne (by omega)]; first | assumption | exact up_at _ _ _ | (rw [up_ne (by omega)]; first | assumption | exact up_at _ _ _ | (rw [up_ne (by omega)]; first | assumption | exact up_at _ _ _ | (rw [up_ne (by omega)]; first | assumption | exact up_at _ _ _ | (rw [up_ne (by omega)]; first | assumption | exact up_at _ _ _ | (rw [up_ne (by omega)]; first | assumption | exact up_at _ _ _ | (rw [up_ne (by omega)]; assumption)))))))))) (by first | omega | (simp only [Ls_len]; omega) | assumption | exact Ls_get (by omega) (by omega) | rfl | decide) (by first | exact Ls_get (by omega) (by omega) | assumption) ?_ ?_
          · intro hc5
            refine BX6_countAfloatAt_57 (by first | omega | (simp only [Ls_len]; omega) | assumption | exact Ls_get (by omega) (by omega) | rfl | decide) ?_
            first | (exfalso; omega) | (rw [if_pos (by simp_all)] at ih1; exact ih1) | (rw [if_neg (by simp_all), Int.add_zero] at ih1; exact ih1)
          · intro hc6
            refine BX6_countAfloatAt_54 (by first | omega | (simp only [Ls_len]; omega) | assumption | exact Ls_get (by omega) (by omega) | rfl | decide) (by first | omega | (simp only [Ls_len]; omega) | assumption | exact Ls_get (by omega) (by omega) | rfl | decide) ?_
            first | (exfalso; omega) | (rw [if_pos (by simp_all)] at ih1; exact ih1) | (rw [if_neg (by simp_all), Int.add_zero] at ih1; exact ih1)
  refine BX6_countAfloatAt_0 (by first | assumption | exact up_at _ _ _ | (rw [up_ne (by omega)]; first | assumption | exact up_at _ _ _ | (rw [up_ne (by omega)]; first | assumption | exact up_at _ _ _ | (rw [up_ne (by omega)]; first | assumption | exact up_at _ _ _ | (rw [up_ne (by omega)]; first | assumption | exact up_at _ _ _ | (rw [up_ne (by omega)]; first | assumption | exact up_at _ _ _ | (rw [up_ne (by omega)]; first | assumption | exact up_at _ _ _ | (rw [up_ne (by omega)]; first | assumption | exact up_at _ _ _ | (rw [up_ne (by omega)]; first | assumption | exact up_at _ _ _ | (rw [up_ne (by omega)]; assumption)))))))))) (by rfl) (by first | omega | (simp only [Ls_len]; omega) | assumption | exact Ls_get (by omega) (by omega) | rfl | decide) (by rfl) (by first | assumption | exact up_at _ _ _ | (rw [up_ne (by omega)]; first | assumption | exact up_at _ _ _ | (rw [up_ne (by omega)]; first | assumption | exact up_at _ _ _ | (rw [up_ne (by omega)]; first | assumption | exact up_at _ _ _ | (rw [up_ne (by omega)]; first | assumption | exact up_at _ _ _ | (rw [up_ne (by omega)]; first | assumption | exact up_at _ _ _ | (rw [up_ne (by omega)]; first | assumption | exact up_at _ _ _ | (rw [up_ne (by omega)]; first | assumption | exact up_at _ _ _ | (rw [up_ne (by omega)]; first | assumption | exact up_at _ _ _ | (rw [up_ne (by omega)]; assumption)))))))))) (by first | omega | (simp only [Ls_len]; omega) | assumption | exact Ls_get (by omega) (by omega) | rfl | decide) (by first | omega | (simp only [Ls_len]; omega) | assumption | exact Ls_get (by omega) (by omega) | rfl | decide) (by first | omega | (simp only [Ls_len]; omega) | assumption | exact Ls_get (by omega) (by omega) | rfl | decide) ?_
  refine R_J9_min  ?_
  refine BX6_countAfloatAt_19  ?_
  exact loop (S 72).toNat 0 (by omega)
theorem R_X6_addBottle {fr to pl co : Int} (e : IsSe h s S) (hs : s ≠ 0) (h0 : 0 ≤ S 72) (h1 : S 72 < 12) (k : ∀ h1, Fr h h1 s 4 → IsSe h1 s (fset (fset (fset (fset (fset (fset (fset S 72 (S 72 + 1)) (S 72 * 6 + 0) fr) (S 72 * 6 + 1) to) (S 72 * 6 + 2) pl) (S 72 * 6 + 3) co) (S 72 * 6 + 4) 0) (S 72 * 6 + 5) (S 73)) → Q (some (vI (S 72))) h1 n) : Rn (d + 1) bc bs mX6_addBottle 0 [some (vR (some s)), some (vI fr), some (vI to), some (vI pl), some (vI co), none] [] h n Q := by
  have s1 := e.1
  have e0 := e.nb (v := S 72 + 1)
  have r0 := Fr.put (c := cO 6 [vR (some (s + 1)), vR (some (s + 2)), vI (S 72 + 1), vI (S 73), vI (S 74)]) (a := s) (Fr.rf h s 4) (by omega) (by omega)
  refine BX6_addBottle_0 (by first | assumption | exact up_at _ _ _ | (rw [up_ne (by omega)]; first | assumption | exact up_at _ _ _ | (rw [up_ne (by omega)]; first | assumption | exact up_at _ _ _ | (rw [up_ne (by omega)]; first | assumption | exact up_at _ _ _ | (rw [up_ne (by omega)]; first | assumption | exact up_at _ _ _ | (rw [up_ne (by omega)]; first | assumption | exact up_at _ _ _ | (rw [up_ne (by omega)]; first | assumption | exact up_at _ _ _ | (rw [up_ne (by omega)]; first | assumption | exact up_at _ _ _ | (rw [up_ne (by omega)]; first | assumption | exact up_at _ _ _ | (rw [up_ne (by omega)]; assumption)))))))))) (by rfl) (by first | omega | (simp only [Ls_len]; omega) | assumption | exact Ls_get (by omega) (by omega) | rfl | decide) (by simp) ?_
  refine BX6_addBottle_16 (by first | assumption | exact up_at _ _ _ | (rw [up_ne (by omega)]; first | assumption | exact up_at _ _ _ | (rw [up_ne (by omega)]; first | assumption | exact up_at _ _ _ | (rw [up_ne (by omega)]; first | assumption | exact up_at _ _ _ | (rw [up_ne (by omega)]; first | assumption | exact up_at _ _ _ | (rw [up_ne (by omega)]; first | assumption | exact up_at _ _ _ | (rw [up_ne (by omega)]; first | assumption | exact up_at _ _ _ | (rw [up_ne (by omega)]; first | assumption | exact up_at _ _ _ | (rw [up_ne (by omega)]; first | assumption | exact up_at _ _ _ | (rw [up_ne (by omega)]; assumption)))))))))) ?_
  refine R_X6_set (by first | omega | (simp only [Ls_len]; omega) | assumption | exact Ls_get (by omega) (by omega) | rfl | decide) (by first | omega | (simp only [Ls_len]; omega) | assumption | exact Ls_get (by omega) (by omega) | rfl | decide) (by first | omega | (simp only [Ls_len]; omega) | assumption | exact Ls_get (by omega) (by omega) | rfl | decide) (by first | omega | (simp only [Ls_len]; omega) | assumption | exact Ls_get (by omega) (by omega) | rfl | decide) (by first | omega | (simp only [Ls_len]; omega) | assumption | exact Ls_get (by omega) (by omega) | rfl | decide) (by first | omega | (simp only [Ls_len]; omega) | assumption | exact Ls_get (by omega) (by omega) | rfl | decide) ?_
  intro h1 r1 e1
  have z1 := e1.1
  have r0 := r0.tr r1
  refine BX6_addBottle_24 (by first | assumption | exact up_at _ _ _ | (rw [up_ne (by omega)]; first | assumption | exact up_at _ _ _ | (rw [up_ne (by omega)]; first | assumption | exact up_at _ _ _ | (rw [up_ne (by omega)]; first | assumption | exact up_at _ _ _ | (rw [up_ne (by omega)]; first | assumption | exact up_at _ _ _ | (rw [up_ne (by omega)]; first | assumption | exact up_at _ _ _ | (rw [up_ne (by omega)]; first | assumption | exact up_at _ _ _ | (rw [up_ne (by omega)]; first | assumption | exact up_at _ _ _ | (rw [up_ne (by omega)]; first | assumption | exact up_at _ _ _ | (rw [up_ne (by omega)]; assumption)))))))))) ?_
  refine R_X6_set (by first | omega | (simp only [Ls_len]; omega) | assumption | exact Ls_get (by omega) (by omega) | rfl | decide) (by first | omega | (simp only [Ls_len]; omega) | assumption | exact Ls_get (by omega) (by omega) | rfl | decide) (by first | omega | (simp only [Ls_len]; omega) | assumption | exact Ls_get (by omega) (by omega) | rfl | decide) (by first | omega | (simp only [Ls_len]; omega) | assumption | exact Ls_get (by omega) (by omega) | rfl | decide) (by first | omega | (simp only [Ls_len]; omega) | assumption | exact Ls_get (by omega) (by omega) | rfl | decide) (by first | omega | (simp only [Ls_len]; omega) | assumption | exact Ls_get (by omega) (by omega) | rfl | decide) ?_
  intro h1 r1 e1
  have z1 := e1.1
  have r0 := r0.tr r1
  refine BX6_addBottle_32 (by first | assumption | exact up_at _ _ _ | (rw [up_ne (by omega)]; first | assumption | exact up_at _ _ _ | (rw [up_ne (by omega)]; first | assumption | exact up_at _ _ _ | (rw [up_ne (by omega)]; first | assumption | exact up_at _ _ _ | (rw [up_ne (by omega)]; first | assumption | exact up_at _ _ _ | (rw [up_ne (by omega)]; first | assumption | exact up_at _ _ _ | (rw [up_ne (by omega)]; first | assumption | exact up_at _ _ _ | (rw [up_ne (by omega)]; first | assumption | exact up_at _ _ _ | (rw [up_ne (by omega)]; first | assumption | exact up_at _ _ _ | (rw [up_ne (by omega)]; assumption)))))))))) ?_
  refine R_X6_set (by first | omega | (simp only [Ls_len]; omega) | assumption | exact Ls_get (by omega) (by omega) | rfl | decide) (by first | omega | (simp only [Ls_len]; omega) | assumption | exact Ls_get (by omega) (by omega) | rfl | decide) (by first | omega | (simp only [Ls_len]; omega) | assumption | exact Ls_get (by omega) (by omega) | rfl | decide) (by first | omega | (simp only [Ls_len]; omega) | assumption | exact Ls_get (by omega) (by omega) | rfl | decide) (by first | omega | (simp only [Ls_len]; omega) | assumption | exact Ls_get (by omega) (by omega) | rfl | decide) (by first | omega | (simp only [Ls_len]; omega) | assumption | exact Ls_get (by omega) (by omega) | rfl | decide) ?_
  intro h1 r1 e1
  have z1 := e1.1
  have r0 := r0.tr r1
  refine BX6_addBottle_40 (by first | assumption | exact up_at _ _ _ | (rw [up_ne (by omega)]; first | assumption | exact up_at _ _ _ | (rw [up_ne (by omega)]; first | assumption | exact up_at _ _ _ | (rw [up_ne (by omega)]; first | assumption | exact up_at _ _ _ | (rw [up_ne (by omega)]; first | assumption | exact up_at _ _ _ | (rw [up_ne (by omega)]; first | assumption | exact up_at _ _ _ | (rw [up_ne (by omega)]; first | assumption | exact up_at _ _ _ | (rw [up_ne (by omega)]; first | assumption | exact up_at _ _ _ | (rw [up_ne (by omega)]; first | assumption | exact up_at _ _ _ | (rw [up_ne (by omega)]; assumption)))))))))) ?_
  refine R_X6_set (by first | omega | (simp only [Ls_len]; omega) | assumption | exact Ls_get (by omega) (by omega) | rfl | decide) (by first | omega | (simp only [Ls_len]; omega) | assumption | exact Ls_get (by omega) (by omega) | rfl | decide) (by first | omega | (simp only [Ls_len]; omega) | assumption | exact Ls_get (by omega) (by omega) | rfl | decide) (by first | omega | (simp only [Ls_len]; omega) | assumption | exact Ls_get (by omega) (by omega) | rfl | decide) (by first | omega | (simp only [Ls_len]; omega) | assumption | exact Ls_get (by omega) (by omega) | rfl | decide) (by first | omega | (simp only [Ls_len]; omega) | assumption | exact Ls_get (by omega) (by omega) | rfl | decide) ?_
  intro h1 r1 e1
  have z1 := e1.1
  have r0 := r0.tr r1
  refine BX6_addBottle_49 (by first | assumption | exact up_at _ _ _ | (rw [up_ne (by omega)]; first | assumption | exact up_at _ _ _ | (rw [up_ne (by omega)]; first | assumption | exact up_at _ _ _ | (rw [up_ne (by omega)]; first | assumption | exact up_at _ _ _ | (rw [up_ne (by omega)]; first | assumption | exact up_at _ _ _ | (rw [up_ne (by omega)]; first | assumption | exact up_at _ _ _ | (rw [up_ne (by omega)]; first | assumption | exact up_at _ _ _ | (rw [up_ne (by omega)]; first | assumption | exact up_at _ _ _ | (rw [up_ne (by omega)]; first | assumption | exact up_at _ _ _ | (rw [up_ne (by omega)]; assumption)))))))))) ?_
  refine R_X6_set (by first | omega | (simp only [Ls_len]; omega) | assumption | exact Ls_get (by omega) (by omega) | rfl | decide) (by first | omega | (simp only [Ls_len]; omega) | assumption | exact Ls_get (by omega) (by omega) | rfl | decide) (by first | omega | (simp only [Ls_len]; omega) | assumption | exact Ls_get (by omega) (by omega) | rfl | decide) (by first | omega | (simp only [Ls_len]; omega) | assumption | exact Ls_get (by omega) (by omega) | rfl | decide) (by first | omega | (simp only [Ls_len]; omega) | assumption | exact Ls_get (by omega) (by omega) | rfl | decide) (by first | omega | (simp only [Ls_len]; omega) | assumption | exact Ls_get (by omega) (by omega) | rfl | decide) ?_
  intro h1 r1 e1
  have z1 := e1.1
  simp (disch := omega) only [fset_ne, fset_at] at z1
  have r0 := r0.tr r1
  refine BX6_addBottle_57 (by first | assumption | exact up_at _ _ _ | (rw [up_ne (by omega)]; first | assumption | exact up_at _ _ _ | (rw [up_ne (by omega)]; first | assumption | exact up_at _ _ _ | (rw [up_ne (by omega)]; first | assumption | exact up_at _ _ _ | (rw [up_ne (by omega)]; first | assumption | exact up_at _ _ _ | (rw [up_ne (by omega)]; first | assumption | exact up_at _ _ _ | (rw [up_ne (by omega)]; first | assumption | exact up_at _ _ _ | (rw [up_ne (by omega)]; first | assumption | exact up_at _ _ _ | (rw [up_ne (by omega)]; first | assumption | exact up_at _ _ _ | (rw [up_ne (by omega)]; assumption)))))))))) (by rfl) ?_
  refine R_X6_set (by first | omega | (simp only [Ls_len]; omega) | assumption | exact Ls_get (by omega) (by omega) | rfl | decide) (by first | omega | (simp only [Ls_len]; omega) | assumption | exact Ls_get (by omega) (by omega) | rfl | decide) (by first | omega | (simp only [Ls_len]; omega) | assumption | exact Ls_get (by omega) (by omega) | rfl | decide) (by first | omega | (simp only [Ls_len]; omega) | assumption | exact Ls_get (by omega) (by omega) | rfl | decide) (by first | omega | (simp only [Ls_len]; omega) | assumption | exact Ls_get (by omega) (by omega) | rfl | decide) (by first | omega | (simp only [Ls_len]; omega) | assumption | exact Ls_get (by omega) (by omega) | rfl | decide) ?_
  intro h1 r1 e1
  have r0 := r0.tr r1
  refine BX6_addBottle_68  ?_
  exact k _ r0 e1
end SEA
