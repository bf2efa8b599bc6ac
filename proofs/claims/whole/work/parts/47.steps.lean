/-! Steps: thirty seas, whose order turns. -/
def okP (p : Int → Int) : Prop := (∀ j, 0 ≤ j → j < 30 → 0 ≤ p j ∧ p j < 30) ∧ ∀ i j, 0 ≤ i → i < 30 → 0 ≤ j → j < 30 → p i = p j → i = j
def adS (a : Nat) (p : Int → Int) (j : Int) : Nat := a + 2 + 4 * (p j).toNat
theorem adS_in {a : Nat} {p : Int → Int} (o : okP p) {j : Int} (h0 : 0 ≤ j) (h1 : j < 30) : a + 2 ≤ adS a p j ∧ adS a p j + 4 ≤ a + 122 := by
  have := o.1 j h0 h1
  unfold adS
  omega
theorem adS_ne {a : Nat} {p : Int → Int} (o : okP p) {i j : Int} (h0 : 0 ≤ i) (h1 : i < 30) (h2 : 0 ≤ j) (h3 : j < 30) (hn : i ≠ j) : adS a p i + 4 ≤ adS a p j ∨ adS a p j + 4 ≤ adS a p i := by
  have q1 := o.1 i h0 h1
  have q2 := o.1 j h2 h3
  have q3 : p i ≠ p j := fun e => hn (o.2 i j h0 h1 h2 h3 e)
  unfold adS
  omega
def IsSt (h : aH) (a : Nat) (c : Int) (T : Int → Int → Int) (p : Int → Int) : Prop := h a = cO 8 [vR (some (a + 1)), vI c] ∧ h (a + 1) = cQ 6 (Ls 30 fun j => some (adS a p j)) ∧ okP p ∧ ∀ j, 0 ≤ j → j < 30 → IsSe h (adS a p j) (T j)
theorem IsSt.fr {h h1 : aH} {a lo k : Nat} {c : Int} {T : Int → Int → Int} {p : Int → Int} (s : IsSt h a c T p) (f : Fr h h1 lo k) (hd : a + 122 ≤ lo ∨ lo + k ≤ a) : IsSt h1 a c T p := by
  obtain ⟨s1, s2, s3, s4⟩ := s
  refine ⟨by rw [f _ (by omega)]; exact s1, by rw [f _ (by omega)]; exact s2, s3, fun j h0 h1 => (s4 j h0 h1).fr f ?_⟩
  have := adS_in s3 h0 h1 (a := a)
  omega
def rot (j : Int) : Int := if j = 29 then 0 else j + 1
theorem rot_ok {p : Int → Int} (o : okP p) : okP fun j => p (rot j) := by
  refine ⟨fun j h0 h1 => o.1 _ (by unfold rot; split <;> omega) (by unfold rot; split <;> omega), fun i j h0 h1 h2 h3 e => ?_⟩
  have := o.2 _ _ (by unfold rot; split <;> omega) (by unfold rot; split <;> omega) (by unfold rot; split <;> omega) (by unfold rot; split <;> omega) e
  unfold rot at this
  split at this <;> split at this <;> omega
theorem up_self {h : aH} {a : Nat} {c : aC} (e : h a = c) : up h a c = h := by
  funext x
  by_cases q : x = a
  · subst q; rw [up_at, e]
  · exact up_ne q
def stLen (c : Int) : Int := if 30 ≤ c then 30 else c + 1
def stKeep (c : Int) (T : Int → Int → Int) (S : Int → Int) : Int → Int → Int := if 30 ≤ c then fset (fun j => T (rot j)) 29 S else fset T c S
section STEPS
variable {d bc bs n : Nat} {h : aH} {Q : aQ} {a : Nat} {c : Int} {T : Int → Int → Int} {p : Int → Int}
theorem R_X8_seaOf {i : Int} (s : IsSt h a c T p) (ha : a ≠ 0) (k1 : 0 ≤ i → i < 30 → Q (some (vR (some (adS a p i)))) h n) (k0 : (i < 0 ∨ 30 ≤ i) → Q (some (vR none)) h n) : Rn d bc bs mX8_seaOf 0 [some (vR (some a)), some (vI i)] [] h n Q := by
  obtain ⟨s1, s2, s3, s4⟩ := s
  have hl := Ls_len 30 fun j => some (adS a p j)
  refine BX8_seaOf_0  ?_ ?_
  · intro hc1
    first
    | (exfalso; omega)
    | (
        refine BX8_seaOf_22  ?_
        first | exact k1 (by omega) (by omega) | exact k0 (by omega)
      )
  · intro hc2
    first
    | (exfalso; omega)
    | (
        refine BX8_seaOf_4 (by first | assumption | exact up_at _ _ _ | (rw [up_ne (by omega)]; first | assumption | exact up_at _ _ _ | (rw [up_ne (by omega)]; first | assumption | exact up_at _ _ _ | (rw [up_ne (by omega)]; first | assumption | exact up_at _ _ _ | (rw [up_ne (by omega)]; first | assumption | exact up_at _ _ _ | (rw [up_ne (by omega)]; first | assumption | exact up_at _ _ _ | (rw [up_ne (by omega)]; first | assumption | exact up_at _ _ _ | (rw [up_ne (by omega)]; assumption)))))))) (by rfl) (by first | assumption | exact up_at _ _ _ | (rw [up_ne (by omega)]; first | assumption | exact up_at _ _ _ | (rw [up_ne (by omega)]; first | assumption | exact up_at _ _ _ | (rw [up_ne (by omega)]; first | assumption | exact up_at _ _ _ | (rw [up_ne (by omega)]; first | assumption | exact up_at _ _ _ | (rw [up_ne (by omega)]; first | assumption | exact up_at _ _ _ | (rw [up_ne (by omega)]; first | assumption | exact up_at _ _ _ | (rw [up_ne (by omega)]; assumption)))))))) (by first | omega | (simp only [Ls_len]; omega) | assumption | (rw [up_ne (by omega)]; first | assumption | exact up_at _ _ _ | (rw [up_ne (by omega)]; first | assumption | exact up_at _ _ _ | (rw [up_ne (by omega)]; first | assumption | exact up_at _ _ _ | (rw [up_ne (by omega)]; first | assumption | exact up_at _ _ _ | (rw [up_ne (by omega)]; first | assumption | exact up_at _ _ _ | (rw [up_ne (by omega)]; first | assumption | exact up_at _ _ _ | (rw [up_ne (by omega)]; first | assumption | exact up_at _ _ _ | (rw [up_ne (by omega)]; assumption)))))))) | exact up_at _ _ _ | exact Ls_get (by omega) (by omega) | rfl | decide) (by first | omega | (simp only [Ls_len]; omega) | assumption | (rw [up_ne (by omega)]; first | assumption | exact up_at _ _ _ | (rw [up_ne (by omega)]; first | assumption | exact up_at _ _ _ | (rw [up_ne (by omega)]; first | assumption | exact up_at _ _ _ | (rw [up_ne (by omega)]; first | assumption | exact up_at _ _ _ | (rw [up_ne (by omega)]; first | assumption | exact up_at _ _ _ | (rw [up_ne (by omega)]; first | assumption | exact up_at _ _ _ | (rw [up_ne (by omega)]; first | assumption | exact up_at _ _ _ | (rw [up_ne (by omega)]; assumption)))))))) | exact up_at _ _ _ | exact Ls_get (by omega) (by omega) | rfl | decide) ?_ ?_
        · intro hc3
          first
          | (exfalso; omega)
          | (
              refine BX8_seaOf_22  ?_
              first | exact k1 (by omega) (by omega) | exact k0 (by omega)
            )
        · intro hc4
          first
          | (exfalso; omega)
          | (
              refine BX8_seaOf_13 (by first | assumption | exact up_at _ _ _ | (rw [up_ne (by omega)]; first | assumption | exact up_at _ _ _ | (rw [up_ne (by omega)]; first | assumption | exact up_at _ _ _ | (rw [up_ne (by omega)]; first | assumption | exact up_at _ _ _ | (rw [up_ne (by omega)]; first | assumption | exact up_at _ _ _ | (rw [up_ne (by omega)]; first | assumption | exact up_at _ _ _ | (rw [up_ne (by omega)]; first | assumption | exact up_at _ _ _ | (rw [up_ne (by omega)]; assumption)))))))) (by rfl) (by first | assumption | exact up_at _ _ _ | (rw [up_ne (by omega)]; first | assumption | exact up_at _ _ _ | (rw [up_ne (by omega)]; first | assumption | exact up_at _ _ _ | (rw [up_ne (by omega)]; first | assumption | exact up_at _ _ _ | (rw [up_ne (by omega)]; first | assumption | exact up_at _ _ _ | (rw [up_ne (by omega)]; first | assumption | exact up_at _ _ _ | (rw [up_ne (by omega)]; first | assumption | exact up_at _ _ _ | (rw [up_ne (by omega)]; assumption)))))))) (by first | omega | (simp only [Ls_len]; omega) | assumption | (rw [up_ne (by omega)]; first | assumption | exact up_at _ _ _ | (rw [up_ne (by omega)]; first | assumption | exact up_at _ _ _ | (rw [up_ne (by omega)]; first | assumption | exact up_at _ _ _ | (rw [up_ne (by omega)]; first | assumption | exact up_at _ _ _ | (rw [up_ne (by omega)]; first | assumption | exact up_at _ _ _ | (rw [up_ne (by omega)]; first | assumption | exact up_at _ _ _ | (rw [up_ne (by omega)]; first | assumption | exact up_at _ _ _ | (rw [up_ne (by omega)]; assumption)))))))) | exact up_at _ _ _ | exact Ls_get (by omega) (by omega) | rfl | decide) (by first | exact Ls_get (by omega) (by omega) | assumption) (by first | omega | (simp only [Ls_len]; omega) | assumption | (rw [up_ne (by omega)]; first | assumption | exact up_at _ _ _ | (rw [up_ne (by omega)]; first | assumption | exact up_at _ _ _ | (rw [up_ne (by omega)]; first | assumption | exact up_at _ _ _ | (rw [up_ne (by omega)]; first | assumption | exact up_at _ _ _ | (rw [up_ne (by omega)]; first | assumption | exact up_at _ _ _ | (rw [up_ne (by omega)]; first | assumption | exact up_at _ _ _ | (rw [up_ne (by omega)]; first | assumption | exact up_at _ _ _ | (rw [up_ne (by omega)]; assumption)))))))) | exact up_at _ _ _ | exact Ls_get (by omega) (by omega) | rfl | decide) ?_
              first | exact k1 (by omega) (by omega) | exact k0 (by omega)
            )
      )
end STEPS
