/-! Code. -/
def aCode (W : Int → Int → Int) (x : Int) : Int := if x = -1 then 0 else if aIsWord x = 0 ∨ 8 ≤ W 2 53 ∨ hasN (W 2) x (W 2 53).toNat 0 = 1 then -2 else W 2 53 + 1
def sCode (W : Int → Int → Int) (x : Int) : Int → Int → Int := if x = -1 then fset W 2 (fset (W 2) 53 0) else if aIsWord x = 0 ∨ 8 ≤ W 2 53 ∨ hasN (W 2) x (W 2 53).toNat 0 = 1 then W else fset W 2 (fset (fset (W 2) (12 + W 2 53) x) 53 (W 2 53 + 1))
section CODE2
variable {d bc bs n : Nat} {h : aH} {Q : aQ} {a : Nat} {Y : Int → Int}
theorem R_X5_addCode {x : Int} (s : IsSa h a Y) (ha : a ≠ 0) (h0 : 0 ≤ Y 53) (h9 : Y 53 ≤ 8) (k0 : (8 ≤ Y 53 ∨ hasN Y x (Y 53).toNat 0 = 1) → Q (some (vI (-2))) h n) (k1 : Y 53 < 8 → hasN Y x (Y 53).toNat 0 = 0 → ∀ h1, Fr h h1 a 8 → IsSa h1 a (fset (fset Y (12 + Y 53) x) 53 (Y 53 + 1)) → Q (some (vI (Y 53 + 1))) h1 n) : Rn (d + 2) bc bs mX5_addCode 0 [some (vR (some a)), some (vI x), none] [] h n Q := by
  have l1 := Ls_len 8 (off 12 Y)
  have s9 := s
  have loop : Y 53 < 8 → ∀ (m : Nat) (i : Int), 0 ≤ i → i + m = Y 53 → (hasN Y x m i = 1 → Q (some (vI (-2))) h n) → (hasN Y x m i = 0 → ∀ h1, Fr h h1 a 8 → IsSa h1 a (fset (fset Y (12 + Y 53) x) 53 (Y 53 + 1)) → Q (some (vI (Y 53 + 1))) h1 n) → Rn (d + 2) bc bs mX5_addCode 14 [some (vR (some a)), some (vI x), some (vI i)] [] h n Q := by
    intro y8 m
    induction m with
    | zero =>
      intro i i0 i1 k0 k1
      have k2 := k1 rfl
      obtain ⟨s1, s2, s3, s4, s5, s6, s7, s8⟩ := s
      refine BX5_addCode_14 (by first | assumption | exact up_at _ _ _ | (rw [up_ne (by omega)]; first | assumption | exact up_at _ _ _ | (rw [up_ne (by omega)]; first | assumption | exact up_at _ _ _ | (rw [up_ne (by omega)]; assumption)))) (by rfl) ?_ ?_
      · intro hc1
        first
        | (exfalso; omega)
        | (
            refine BX5_addCode_40 (by first | assumption | exact up_at _ _ _ | (rw [up_ne (by omega)]; first | assumption | exact up_at _ _ _ | (rw [up_ne (by omega)]; first | assumption | exact up_at _ _ _ | (rw [up_ne (by omega)]; assumption)))) (by rfl) (by rfl) ?_
            refine R_X12_setCell (by first | omega | assumption | (simp only [Ls_len]; omega) | exact Ls_get (by omega) (by omega) | rfl | decide) (by first | omega | assumption | (simp only [Ls_len]; omega) | exact Ls_get (by omega) (by omega) | rfl | decide) (by first | omega | assumption | (simp only [Ls_len]; omega) | exact Ls_get (by omega) (by omega) | rfl | decide) (by first | omega | assumption | (simp only [Ls_len]; omega) | exact Ls_get (by omega) (by omega) | rfl | decide) (by first | omega | assumption | (simp only [Ls_len]; omega) | exact Ls_get (by omega) (by omega) | rfl | decide) ?_
            rw [Ls_set (by omega)]
            refine BX5_addCode_52 (by first | assumption | exact up_at _ _ _ | (rw [up_ne (by omega)]; first | assumption | exact up_at _ _ _ | (rw [up_ne (by omega)]; first | assumption | exact up_at _ _ _ | (rw [up_ne (by omega)]; assumption)))) (by rfl) (by first | omega | assumption | (simp only [Ls_len]; omega) | exact Ls_get (by omega) (by omega) | rfl | decide) (by simp) ?_
            refine BX5_addCode_62 (by first | assumption | exact up_at _ _ _ | (rw [up_ne (by omega)]; first | assumption | exact up_at _ _ _ | (rw [up_ne (by omega)]; first | assumption | exact up_at _ _ _ | (rw [up_ne (by omega)]; assumption)))) (by rfl) ?_
            refine k2 _ (((Fr.rf h a 8).put (by omega) (by omega)).put (by omega) (by omega)) ?_
            (refine ⟨?_, ?_, ?_, ?_, ?_, ?_, ?_, ?_⟩ <;> (simp (disch := omega) only [up_at, up_ne, fset_at, fset_ne, Ls_off_ne, Ls_off_at, Ls_fst_ne, Ls_fs_off]; try first | assumption | rfl))
          )
      · intro hc2
        first
        | (exfalso; omega)
        | (
            (exfalso; omega)
          )
    | succ m ih =>
      intro i i0 i1 k0 k1
      unfold hasN at k0 k1
      obtain ⟨s1, s2, s3, s4, s5, s6, s7, s8⟩ := id s
      refine BX5_addCode_14 (by first | assumption | exact up_at _ _ _ | (rw [up_ne (by omega)]; first | assumption | exact up_at _ _ _ | (rw [up_ne (by omega)]; first | assumption | exact up_at _ _ _ | (rw [up_ne (by omega)]; assumption)))) (by rfl) ?_ ?_
      · intro hc1
        (exfalso; omega)
      · intro hc2
        refine BX5_addCode_22 (by first | assumption | exact up_at _ _ _ | (rw [up_ne (by omega)]; first | assumption | exact up_at _ _ _ | (rw [up_ne (by omega)]; first | assumption | exact up_at _ _ _ | (rw [up_ne (by omega)]; assumption)))) ?_
        refine R_X5_word (by first | omega | assumption | (simp only [Ls_len]; omega) | exact Ls_get (by omega) (by omega) | rfl | decide) (by first | omega | assumption | (simp only [Ls_len]; omega) | exact Ls_get (by omega) (by omega) | rfl | decide) (by first | omega | assumption | (simp only [Ls_len]; omega) | exact Ls_get (by omega) (by omega) | rfl | decide) (by first | omega | assumption | (simp only [Ls_len]; omega) | exact Ls_get (by omega) (by omega) | rfl | decide) ?_
        refine BX5_addCode_27  ?_ ?_
        · intro hc3
          refine BX5_addCode_34 (by first | omega | assumption | (simp only [Ls_len]; omega) | exact Ls_get (by omega) (by omega) | rfl | decide) ?_
          (rw [if_neg (by omega)] at k0 k1; exact ih _ (by omega) (by omega) k0 k1)
        · intro hc4
          refine BX5_addCode_31  ?_
          (rw [if_pos (by omega)] at k0; exact k0 rfl)
  obtain ⟨s1, s2, s3, s4, s5, s6, s7, s8⟩ := id s
  refine BX5_addCode_0 (by first | assumption | exact up_at _ _ _ | (rw [up_ne (by omega)]; first | assumption | exact up_at _ _ _ | (rw [up_ne (by omega)]; first | assumption | exact up_at _ _ _ | (rw [up_ne (by omega)]; assumption)))) (by rfl) ?_ ?_
  · intro hc1
    first
    | (exfalso; omega)
    | (
        refine BX5_addCode_12  ?_
        exact loop (by omega) (Y 53).toNat 0 (by omega) (by omega) (fun q => k0 (.inr q)) (k1 (by omega))
      )
  · intro hc2
    first
    | (exfalso; omega)
    | (
        refine BX5_addCode_9  ?_
        exact k0 (.inl (by omega))
      )
end CODE2
