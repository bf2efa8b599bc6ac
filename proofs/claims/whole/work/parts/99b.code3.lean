/-! Code, the call. -/
theorem hasN_01 {Y : Int → Int} {x : Int} : ∀ m i, hasN Y x m i = 0 ∨ hasN Y x m i = 1 := by
  intro m
  induction m with
  | zero => intro i; exact .inl rfl
  | succ m ih => intro i; unfold hasN; split; exact .inr rfl; exact ih _
section CODE3
variable {d bc bs n : Nat} {g h : aH} {Q : aQ} {W V : Int → Int → Int} {X : Int → Tx} {F : Int → Int}
theorem P_code {x : Int} (s : IsPo g h W V X F) (ok : okW W) (k : ∀ h1, IsPo g h1 (sCode W x) V X F → Q (some (vI (aCode W x))) h1 n) : Rn (d + 30) bc bs mX12_code 0 [some (vR (some 1)), some (vI x)] [] h n Q := by
  obtain ⟨fp, p1, w, v, tp, gr, ⟨lx, la⟩, ro, ri, Gx, gl⟩ := id s; have w1 := w.1; have sh := w.2.1; have se := w.2.2.1; obtain ⟨Ts, ps, st, ste⟩ := w.2.2.2.1; have sa := w.2.2.2.2.1; have sh1 := sh.1; have se1 := se.1; have st1 := st.1; have sa1 := sa.1; obtain ⟨tl, la1⟩ := la.ob; have gl1 := gl.1; have bk0 := se.2.2; have bk1 := bk0.1
  obtain ⟨o1, o2, o3, o4, o5⟩ := id ok; have o11 := o1.1; have o21 := o2.1; have o51 := o5.1; have o52 := o5.2.1; have o53 := o5.2.2.1; have o54 := o5.2.2.2.1
  obtain ⟨z1, z2, z3, z4, z5, z6, ri1, ri2, ri3, ri4, ri5⟩ := id ri
  have q1 := aIsWord_01 x
  have q2 := hasN_01 (Y := W 2) (x := x) (W 2 53).toNat 0
  unfold aCode sCode at k
  refine BX12_code_0  ?_ ?_
  · intro hc1
    refine BX12_code_16 (by first | assumption | exact up_at _ _ _ | (rw [up_ne (by omega)]; first | assumption | exact up_at _ _ _ | (rw [up_ne (by omega)]; first | assumption | exact up_at _ _ _ | (rw [up_ne (by omega)]; assumption)))) (by rfl) (by first | assumption | exact up_at _ _ _ | (rw [up_ne (by omega)]; first | assumption | exact up_at _ _ _ | (rw [up_ne (by omega)]; first | assumption | exact up_at _ _ _ | (rw [up_ne (by omega)]; assumption)))) ?_
    refine R_X3_isWord  ?_
    refine BX12_code_24  ?_ ?_
    · intro hc2
      refine BX12_code_41  ?_
      first
      | (rw [if_pos (by omega), if_pos (by omega)] at k; exact k _ (s.say (by assumption) (by assumption)))
      | (rw [if_neg (by omega), if_pos (by omega), if_neg (by omega), if_pos (by omega)] at k; exact k _ s)
      | (rw [if_neg (by omega), if_neg (by omega), if_neg (by omega), if_neg (by omega)] at k; exact k _ (s.say (by assumption) (by assumption)))
    · intro hc3
      refine BX12_code_27 (by first | assumption | exact up_at _ _ _ | (rw [up_ne (by omega)]; first | assumption | exact up_at _ _ _ | (rw [up_ne (by omega)]; first | assumption | exact up_at _ _ _ | (rw [up_ne (by omega)]; assumption)))) (by rfl) (by first | assumption | exact up_at _ _ _ | (rw [up_ne (by omega)]; first | assumption | exact up_at _ _ _ | (rw [up_ne (by omega)]; first | assumption | exact up_at _ _ _ | (rw [up_ne (by omega)]; assumption)))) (by rfl) (by first | assumption | exact up_at _ _ _ | (rw [up_ne (by omega)]; first | assumption | exact up_at _ _ _ | (rw [up_ne (by omega)]; first | assumption | exact up_at _ _ _ | (rw [up_ne (by omega)]; assumption)))) ?_
      refine R_X5_addCode (by first | omega | assumption | (simp only [Ls_len]; omega) | exact Ls_get (by omega) (by omega) | rfl | decide) (by first | omega | assumption | (simp only [Ls_len]; omega) | exact Ls_get (by omega) (by omega) | rfl | decide) (by first | omega | assumption | (simp only [Ls_len]; omega) | exact Ls_get (by omega) (by omega) | rfl | decide) (by first | omega | assumption | (simp only [Ls_len]; omega) | exact Ls_get (by omega) (by omega) | rfl | decide) ?_ ?_
      · intro w0
        refine BX12_code_38  ?_
        first
        | (rw [if_pos (by omega), if_pos (by omega)] at k; exact k _ (s.say (by assumption) (by assumption)))
        | (rw [if_neg (by omega), if_pos (by omega), if_neg (by omega), if_pos (by omega)] at k; exact k _ s)
        | (rw [if_neg (by omega), if_neg (by omega), if_neg (by omega), if_neg (by omega)] at k; exact k _ (s.say (by assumption) (by assumption)))
      · intro w1 w2 h35 r35 s35
        refine BX12_code_38  ?_
        first
        | (rw [if_pos (by omega), if_pos (by omega)] at k; exact k _ (s.say (by assumption) (by assumption)))
        | (rw [if_neg (by omega), if_pos (by omega), if_neg (by omega), if_pos (by omega)] at k; exact k _ s)
        | (rw [if_neg (by omega), if_neg (by omega), if_neg (by omega), if_neg (by omega)] at k; exact k _ (s.say (by assumption) (by assumption)))
  · intro hc4
    refine BX12_code_5 (by first | assumption | exact up_at _ _ _ | (rw [up_ne (by omega)]; first | assumption | exact up_at _ _ _ | (rw [up_ne (by omega)]; first | assumption | exact up_at _ _ _ | (rw [up_ne (by omega)]; assumption)))) (by rfl) (by first | assumption | exact up_at _ _ _ | (rw [up_ne (by omega)]; first | assumption | exact up_at _ _ _ | (rw [up_ne (by omega)]; first | assumption | exact up_at _ _ _ | (rw [up_ne (by omega)]; assumption)))) (by rfl) (by first | assumption | exact up_at _ _ _ | (rw [up_ne (by omega)]; first | assumption | exact up_at _ _ _ | (rw [up_ne (by omega)]; first | assumption | exact up_at _ _ _ | (rw [up_ne (by omega)]; assumption)))) ?_
    refine R_X5_forgetCodes (by first | omega | assumption | (simp only [Ls_len]; omega) | exact Ls_get (by omega) (by omega) | rfl | decide) (by first | omega | assumption | (simp only [Ls_len]; omega) | exact Ls_get (by omega) (by omega) | rfl | decide) ?_
    intro h12 r12 s12
    refine BX12_code_15  ?_
    first
    | (rw [if_pos (by omega), if_pos (by omega)] at k; exact k _ (s.say (by assumption) (by assumption)))
    | (rw [if_neg (by omega), if_pos (by omega), if_neg (by omega), if_pos (by omega)] at k; exact k _ s)
    | (rw [if_neg (by omega), if_neg (by omega), if_neg (by omega), if_neg (by omega)] at k; exact k _ (s.say (by assumption) (by assumption)))
end CODE3
