/-! The post's calls, one by one: first those without a text. -/
section CALLS
variable {d bc bs n : Nat} {g h : aH} {Q : aQ} {W V : Int → Int → Int} {X : Int → Tx} {F : Int → Int}
theorem P_person {p l : Int} (s : IsPo g h W V X F) (ok : okW W) (k : ∀ h1, IsPo g h1 (sPerson W p l) V X F → Q (some (vI (aPerson W p l))) h1 n) : Rn (d + 30) bc bs mX12_person 0 [some (vR (some 1)), some (vI p), some (vI l)] [] h n Q := by
  obtain ⟨fp, p1, w, v, tp, gr, ⟨lx, la⟩, ro, ri, Gx, gl⟩ := id s; have w1 := w.1; have sh := w.2.1; have se := w.2.2.1; obtain ⟨Ts, ps, st, ste⟩ := w.2.2.2.1; have sa := w.2.2.2.2.1; have sh1 := sh.1; have se1 := se.1; have st1 := st.1; have sa1 := sa.1; obtain ⟨tl, la1⟩ := la.ob; have gl1 := gl.1; have bk0 := se.2.2; have bk1 := bk0.1
  obtain ⟨o1, o2, o3, o4, o5⟩ := ok; have o11 := o1.1; have o21 := o2.1; have o51 := o5.1; have o52 := o5.2.1; have o53 := o5.2.2.1; have o54 := o5.2.2.2.1
  unfold sPerson aPerson at k
  refine BX12_person_0 (by first | assumption | exact up_at _ _ _ | (rw [up_ne (by omega)]; first | assumption | exact up_at _ _ _ | (rw [up_ne (by omega)]; first | assumption | exact up_at _ _ _ | (rw [up_ne (by omega)]; assumption)))) (by rfl) (by first | assumption | exact up_at _ _ _ | (rw [up_ne (by omega)]; first | assumption | exact up_at _ _ _ | (rw [up_ne (by omega)]; first | assumption | exact up_at _ _ _ | (rw [up_ne (by omega)]; assumption)))) (by rfl) (by first | assumption | exact up_at _ _ _ | (rw [up_ne (by omega)]; first | assumption | exact up_at _ _ _ | (rw [up_ne (by omega)]; first | assumption | exact up_at _ _ _ | (rw [up_ne (by omega)]; assumption)))) ?_
  refine R_X7_addPerson (by first | omega | assumption | (simp only [Ls_len]; omega) | exact Ls_get (by omega) (by omega) | rfl | decide) (by first | omega | assumption | (simp only [Ls_len]; omega) | exact Ls_get (by omega) (by omega) | rfl | decide) (by first | omega | assumption | (simp only [Ls_len]; omega) | exact Ls_get (by omega) (by omega) | rfl | decide) ?_ ?_
  · intro w0
    refine BX12_person_12  ?_
    first | (rw [if_neg (by omega), if_neg (by omega)] at k; exact k _ s) | (rw [if_pos (by omega), if_pos (by omega)] at k; exact k _ (s.sho r9 e9))
  · intro w1 w2 w3 w4 w5 h9 r9 e9
    refine BX12_person_12  ?_
    first | (rw [if_neg (by omega), if_neg (by omega)] at k; exact k _ s) | (rw [if_pos (by omega), if_pos (by omega)] at k; exact k _ (s.sho r9 e9))
theorem P_current {t p q : Int} (s : IsPo g h W V X F) (k : ∀ h1, IsPo g h1 (sCurrent W t p q) V X F → Q (some (vI (aCurrent t p q))) h1 n) : Rn (d + 30) bc bs mX12_current 0 [some (vR (some 1)), some (vI t), some (vI p), some (vI q)] [] h n Q := by
  obtain ⟨fp, p1, w, v, tp, gr, ⟨lx, la⟩, ro, ri, Gx, gl⟩ := id s; have w1 := w.1; have sh := w.2.1; have se := w.2.2.1; obtain ⟨Ts, ps, st, ste⟩ := w.2.2.2.1; have sa := w.2.2.2.2.1; have sh1 := sh.1; have se1 := se.1; have st1 := st.1; have sa1 := sa.1; obtain ⟨tl, la1⟩ := la.ob; have gl1 := gl.1; have bk0 := se.2.2; have bk1 := bk0.1
  unfold sCurrent aCurrent at k
  refine BX12_current_0 (by first | assumption | exact up_at _ _ _ | (rw [up_ne (by omega)]; first | assumption | exact up_at _ _ _ | (rw [up_ne (by omega)]; first | assumption | exact up_at _ _ _ | (rw [up_ne (by omega)]; assumption)))) (by rfl) (by first | assumption | exact up_at _ _ _ | (rw [up_ne (by omega)]; first | assumption | exact up_at _ _ _ | (rw [up_ne (by omega)]; first | assumption | exact up_at _ _ _ | (rw [up_ne (by omega)]; assumption)))) (by rfl) (by first | assumption | exact up_at _ _ _ | (rw [up_ne (by omega)]; first | assumption | exact up_at _ _ _ | (rw [up_ne (by omega)]; first | assumption | exact up_at _ _ _ | (rw [up_ne (by omega)]; assumption)))) ?_
  refine R_X7_tellCurrent (by first | omega | assumption | (simp only [Ls_len]; omega) | exact Ls_get (by omega) (by omega) | rfl | decide) (by first | omega | assumption | (simp only [Ls_len]; omega) | exact Ls_get (by omega) (by omega) | rfl | decide) ?_ ?_
  · intro w0
    refine BX12_current_13 (by first | omega | assumption | (simp only [Ls_len]; omega) | exact Ls_get (by omega) (by omega) | rfl | decide) ?_
    first | (rw [if_neg (by omega), if_neg (by omega)] at k; exact k _ s) | (rw [if_pos (by omega), if_pos (by omega)] at k; exact k _ (s.sho r10 e10))
  · intro w1 w2 w3 w4 w5 w6 h10 r10 e10
    refine BX12_current_13 (by first | omega | assumption | (simp only [Ls_len]; omega) | exact Ls_get (by omega) (by omega) | rfl | decide) ?_
    first | (rw [if_neg (by omega), if_neg (by omega)] at k; exact k _ s) | (rw [if_pos (by omega), if_pos (by omega)] at k; exact k _ (s.sho r10 e10))
theorem P_fault {w : Int} (s : IsPo g h W V X F) (k : ∀ h1, IsPo g h1 W V X F → Q (some (vI (aFault F w))) h1 n) : Rn (d + 30) bc bs mX12_fault 0 [some (vR (some 1)), some (vI w)] [] h n Q := by
  obtain ⟨fp, p1, w, v, tp, gr, ⟨lx, la⟩, ro, ri, Gx, gl⟩ := id s; have w1 := w.1; have sh := w.2.1; have se := w.2.2.1; obtain ⟨Ts, ps, st, ste⟩ := w.2.2.2.1; have sa := w.2.2.2.2.1; have sh1 := sh.1; have se1 := se.1; have st1 := st.1; have sa1 := sa.1; obtain ⟨tl, la1⟩ := la.ob; have gl1 := gl.1; have bk0 := se.2.2; have bk1 := bk0.1
  unfold aFault at k
  refine BX12_fault_0  ?_ ?_
  · intro hc1
    first
    | (exfalso; omega)
    | (
        refine BX12_fault_9  ?_ ?_
        · intro hc2
          first
          | (exfalso; omega)
          | (
              refine BX12_fault_19  ?_
              first | (rw [if_pos (by omega)] at k; exact k _ s) | (rw [if_neg (by omega), if_pos (by omega)] at k; exact k _ s) | (rw [if_neg (by omega), if_neg (by omega)] at k; exact k _ s)
            )
        · intro hc3
          first
          | (exfalso; omega)
          | (
              refine BX12_fault_14 (by first | assumption | exact up_at _ _ _ | (rw [up_ne (by omega)]; first | assumption | exact up_at _ _ _ | (rw [up_ne (by omega)]; first | assumption | exact up_at _ _ _ | (rw [up_ne (by omega)]; assumption)))) (by rfl) ?_
              first | (rw [if_pos (by omega)] at k; exact k _ s) | (rw [if_neg (by omega), if_pos (by omega)] at k; exact k _ s) | (rw [if_neg (by omega), if_neg (by omega)] at k; exact k _ s)
            )
      )
  · intro hc4
    first
    | (exfalso; omega)
    | (
        refine BX12_fault_4 (by first | assumption | exact up_at _ _ _ | (rw [up_ne (by omega)]; first | assumption | exact up_at _ _ _ | (rw [up_ne (by omega)]; first | assumption | exact up_at _ _ _ | (rw [up_ne (by omega)]; assumption)))) (by rfl) ?_
        first | (rw [if_pos (by omega)] at k; exact k _ s) | (rw [if_neg (by omega), if_pos (by omega)] at k; exact k _ s) | (rw [if_neg (by omega), if_neg (by omega)] at k; exact k _ s)
      )
theorem P_of {p w : Int} (s : IsPo g h W V X F) (ok : okW W) (k : ∀ h1, IsPo g h1 W V X F → Q (some (vI (aOf W p w))) h1 n) : Rn (d + 30) bc bs mX12_of 0 [some (vR (some 1)), some (vI p), some (vI w)] [] h n Q := by
  obtain ⟨fp, p1, w, v, tp, gr, ⟨lx, la⟩, ro, ri, Gx, gl⟩ := id s; have w1 := w.1; have sh := w.2.1; have se := w.2.2.1; obtain ⟨Ts, ps, st, ste⟩ := w.2.2.2.1; have sa := w.2.2.2.2.1; have sh1 := sh.1; have se1 := se.1; have st1 := st.1; have sa1 := sa.1; obtain ⟨tl, la1⟩ := la.ob; have gl1 := gl.1; have bk0 := se.2.2; have bk1 := bk0.1
  obtain ⟨o1, o2, o3, o4, o5⟩ := ok; have o11 := o1.1; have o21 := o2.1; have o51 := o5.1; have o52 := o5.2.1; have o53 := o5.2.2.1; have o54 := o5.2.2.2.1
  have k1 := k h s
  clear k
  unfold aOf at k1
  have q1 : ∀ f : Int → Int, 0 ≤ p → p < W 3 3 → atP (W 3 3) f p = f p := fun f a b => if_pos ⟨a, b⟩
  refine BX12_of_0 (by first | assumption | exact up_at _ _ _ | (rw [up_ne (by omega)]; first | assumption | exact up_at _ _ _ | (rw [up_ne (by omega)]; first | assumption | exact up_at _ _ _ | (rw [up_ne (by omega)]; assumption)))) (by rfl) (by first | assumption | exact up_at _ _ _ | (rw [up_ne (by omega)]; first | assumption | exact up_at _ _ _ | (rw [up_ne (by omega)]; first | assumption | exact up_at _ _ _ | (rw [up_ne (by omega)]; assumption)))) (by rfl) (by first | assumption | exact up_at _ _ _ | (rw [up_ne (by omega)]; first | assumption | exact up_at _ _ _ | (rw [up_ne (by omega)]; first | assumption | exact up_at _ _ _ | (rw [up_ne (by omega)]; assumption)))) ?_
  refine R_X7_hasPerson (by first | omega | assumption | (simp only [Ls_len]; omega) | exact Ls_get (by omega) (by omega) | rfl | decide) ?_ ?_
  · intro w1 w2
    refine BX12_of_11  ?_ ?_
    · intro hc1
      refine BX12_of_16  ?_ ?_ ?_ ?_ ?_
      · intro hc2
        refine BX12_of_98  ?_
        first | (rw [if_neg (by omega)] at k1; exact k1) | (rw [if_pos (by omega), if_pos (by assumption)] at k1; rw [q1 _ (by omega) (by omega)]; exact k1) | (rw [if_pos (by omega), if_neg (by omega), if_pos (by assumption)] at k1; rw [q1 _ (by omega) (by omega)]; exact k1) | (rw [if_pos (by omega), if_neg (by omega), if_neg (by omega), if_pos (by assumption)] at k1; exact k1) | (rw [if_pos (by omega), if_neg (by omega), if_neg (by omega), if_neg (by omega), if_pos (by assumption)] at k1; exact k1) | (rw [if_pos (by omega), if_neg (by omega), if_neg (by omega), if_neg (by omega), if_neg (by omega)] at k1; exact k1)
      · intro hc3
        refine BX12_of_48 (by first | assumption | exact up_at _ _ _ | (rw [up_ne (by omega)]; first | assumption | exact up_at _ _ _ | (rw [up_ne (by omega)]; first | assumption | exact up_at _ _ _ | (rw [up_ne (by omega)]; assumption)))) (by rfl) (by first | assumption | exact up_at _ _ _ | (rw [up_ne (by omega)]; first | assumption | exact up_at _ _ _ | (rw [up_ne (by omega)]; first | assumption | exact up_at _ _ _ | (rw [up_ne (by omega)]; assumption)))) (by rfl) (by first | assumption | exact up_at _ _ _ | (rw [up_ne (by omega)]; first | assumption | exact up_at _ _ _ | (rw [up_ne (by omega)]; first | assumption | exact up_at _ _ _ | (rw [up_ne (by omega)]; assumption)))) ?_
        refine R_X7_placeAt (by first | omega | assumption | (simp only [Ls_len]; omega) | exact Ls_get (by omega) (by omega) | rfl | decide) (by first | omega | assumption | (simp only [Ls_len]; omega) | exact Ls_get (by omega) (by omega) | rfl | decide) ?_
        refine BX12_of_59  ?_
        first | (rw [if_neg (by omega)] at k1; exact k1) | (rw [if_pos (by omega), if_pos (by assumption)] at k1; rw [q1 _ (by omega) (by omega)]; exact k1) | (rw [if_pos (by omega), if_neg (by omega), if_pos (by assumption)] at k1; rw [q1 _ (by omega) (by omega)]; exact k1) | (rw [if_pos (by omega), if_neg (by omega), if_neg (by omega), if_pos (by assumption)] at k1; exact k1) | (rw [if_pos (by omega), if_neg (by omega), if_neg (by omega), if_neg (by omega), if_pos (by assumption)] at k1; exact k1) | (rw [if_pos (by omega), if_neg (by omega), if_neg (by omega), if_neg (by omega), if_neg (by omega)] at k1; exact k1)
      · intro hc4
        refine BX12_of_60 (by first | assumption | exact up_at _ _ _ | (rw [up_ne (by omega)]; first | assumption | exact up_at _ _ _ | (rw [up_ne (by omega)]; first | assumption | exact up_at _ _ _ | (rw [up_ne (by omega)]; assumption)))) (by rfl) (by first | assumption | exact up_at _ _ _ | (rw [up_ne (by omega)]; first | assumption | exact up_at _ _ _ | (rw [up_ne (by omega)]; first | assumption | exact up_at _ _ _ | (rw [up_ne (by omega)]; assumption)))) (by rfl) (by first | assumption | exact up_at _ _ _ | (rw [up_ne (by omega)]; first | assumption | exact up_at _ _ _ | (rw [up_ne (by omega)]; first | assumption | exact up_at _ _ _ | (rw [up_ne (by omega)]; assumption)))) ?_
        refine R_X7_luckAt (by first | omega | assumption | (simp only [Ls_len]; omega) | exact Ls_get (by omega) (by omega) | rfl | decide) (by first | omega | assumption | (simp only [Ls_len]; omega) | exact Ls_get (by omega) (by omega) | rfl | decide) ?_
        refine BX12_of_71  ?_
        first | (rw [if_neg (by omega)] at k1; exact k1) | (rw [if_pos (by omega), if_pos (by assumption)] at k1; rw [q1 _ (by omega) (by omega)]; exact k1) | (rw [if_pos (by omega), if_neg (by omega), if_pos (by assumption)] at k1; rw [q1 _ (by omega) (by omega)]; exact k1) | (rw [if_pos (by omega), if_neg (by omega), if_neg (by omega), if_pos (by assumption)] at k1; exact k1) | (rw [if_pos (by omega), if_neg (by omega), if_neg (by omega), if_neg (by omega), if_pos (by assumption)] at k1; exact k1) | (rw [if_pos (by omega), if_neg (by omega), if_neg (by omega), if_neg (by omega), if_neg (by omega)] at k1; exact k1)
      · intro hc5
        refine BX12_of_72 (by first | assumption | exact up_at _ _ _ | (rw [up_ne (by omega)]; first | assumption | exact up_at _ _ _ | (rw [up_ne (by omega)]; first | assumption | exact up_at _ _ _ | (rw [up_ne (by omega)]; assumption)))) (by rfl) (by first | assumption | exact up_at _ _ _ | (rw [up_ne (by omega)]; first | assumption | exact up_at _ _ _ | (rw [up_ne (by omega)]; first | assumption | exact up_at _ _ _ | (rw [up_ne (by omega)]; assumption)))) (by rfl) (by first | assumption | exact up_at _ _ _ | (rw [up_ne (by omega)]; first | assumption | exact up_at _ _ _ | (rw [up_ne (by omega)]; first | assumption | exact up_at _ _ _ | (rw [up_ne (by omega)]; assumption)))) ?_
        refine R_X6_countComeTo (by first | omega | assumption | (simp only [Ls_len]; omega) | exact Ls_get (by omega) (by omega) | rfl | decide) (by first | omega | assumption | (simp only [Ls_len]; omega) | exact Ls_get (by omega) (by omega) | rfl | decide) (by first | omega | assumption | (simp only [Ls_len]; omega) | exact Ls_get (by omega) (by omega) | rfl | decide) (by first | omega | assumption | (simp only [Ls_len]; omega) | exact Ls_get (by omega) (by omega) | rfl | decide) ?_
        refine BX12_of_83  ?_
        first | (rw [if_neg (by omega)] at k1; exact k1) | (rw [if_pos (by omega), if_pos (by assumption)] at k1; rw [q1 _ (by omega) (by omega)]; exact k1) | (rw [if_pos (by omega), if_neg (by omega), if_pos (by assumption)] at k1; rw [q1 _ (by omega) (by omega)]; exact k1) | (rw [if_pos (by omega), if_neg (by omega), if_neg (by omega), if_pos (by assumption)] at k1; exact k1) | (rw [if_pos (by omega), if_neg (by omega), if_neg (by omega), if_neg (by omega), if_pos (by assumption)] at k1; exact k1) | (rw [if_pos (by omega), if_neg (by omega), if_neg (by omega), if_neg (by omega), if_neg (by omega)] at k1; exact k1)
      · intro hc6
        refine BX12_of_84 (by first | assumption | exact up_at _ _ _ | (rw [up_ne (by omega)]; first | assumption | exact up_at _ _ _ | (rw [up_ne (by omega)]; first | assumption | exact up_at _ _ _ | (rw [up_ne (by omega)]; assumption)))) (by rfl) (by first | assumption | exact up_at _ _ _ | (rw [up_ne (by omega)]; first | assumption | exact up_at _ _ _ | (rw [up_ne (by omega)]; first | assumption | exact up_at _ _ _ | (rw [up_ne (by omega)]; assumption)))) (by rfl) (by first | omega | assumption | (simp only [Ls_len]; omega) | exact Ls_get (by omega) (by omega) | rfl | decide) (by first | assumption | exact up_at _ _ _ | (rw [up_ne (by omega)]; first | assumption | exact up_at _ _ _ | (rw [up_ne (by omega)]; first | assumption | exact up_at _ _ _ | (rw [up_ne (by omega)]; assumption)))) ?_
        refine R_X6_bottlesThatAre (by first | omega | assumption | (simp only [Ls_len]; omega) | exact Ls_get (by omega) (by omega) | rfl | decide) (by first | omega | assumption | (simp only [Ls_len]; omega) | exact Ls_get (by omega) (by omega) | rfl | decide) (by first | omega | assumption | (simp only [Ls_len]; omega) | exact Ls_get (by omega) (by omega) | rfl | decide) (by first | omega | assumption | (simp only [Ls_len]; omega) | exact Ls_get (by omega) (by omega) | rfl | decide) ?_
        refine BX12_of_97  ?_
        first | (rw [if_neg (by omega)] at k1; exact k1) | (rw [if_pos (by omega), if_pos (by assumption)] at k1; rw [q1 _ (by omega) (by omega)]; exact k1) | (rw [if_pos (by omega), if_neg (by omega), if_pos (by assumption)] at k1; rw [q1 _ (by omega) (by omega)]; exact k1) | (rw [if_pos (by omega), if_neg (by omega), if_neg (by omega), if_pos (by assumption)] at k1; exact k1) | (rw [if_pos (by omega), if_neg (by omega), if_neg (by omega), if_neg (by omega), if_pos (by assumption)] at k1; exact k1) | (rw [if_pos (by omega), if_neg (by omega), if_neg (by omega), if_neg (by omega), if_neg (by omega)] at k1; exact k1)
    · intro hc7
      exact absurd hc7 (by decide)
  · intro w3
    refine BX12_of_11  ?_ ?_
    · intro hc8
      exact absurd hc8 (by decide)
    · intro hc9
      refine BX12_of_14  ?_
      first | (rw [if_neg (by omega)] at k1; exact k1) | (rw [if_pos (by omega), if_pos (by assumption)] at k1; rw [q1 _ (by omega) (by omega)]; exact k1) | (rw [if_pos (by omega), if_neg (by omega), if_pos (by assumption)] at k1; rw [q1 _ (by omega) (by omega)]; exact k1) | (rw [if_pos (by omega), if_neg (by omega), if_neg (by omega), if_pos (by assumption)] at k1; exact k1) | (rw [if_pos (by omega), if_neg (by omega), if_neg (by omega), if_neg (by omega), if_pos (by assumption)] at k1; exact k1) | (rw [if_pos (by omega), if_neg (by omega), if_neg (by omega), if_neg (by omega), if_neg (by omega)] at k1; exact k1)
theorem P_told {t p : Int} (s : IsPo g h W V X F) (k : ∀ h1, IsPo g h1 W V X F → Q (some (vI (aTold W t p))) h1 n) : Rn (d + 30) bc bs mX12_told 0 [some (vR (some 1)), some (vI t), some (vI p)] [] h n Q := by
  obtain ⟨fp, p1, w, v, tp, gr, ⟨lx, la⟩, ro, ri, Gx, gl⟩ := id s; have w1 := w.1; have sh := w.2.1; have se := w.2.2.1; obtain ⟨Ts, ps, st, ste⟩ := w.2.2.2.1; have sa := w.2.2.2.2.1; have sh1 := sh.1; have se1 := se.1; have st1 := st.1; have sa1 := sa.1; obtain ⟨tl, la1⟩ := la.ob; have gl1 := gl.1; have bk0 := se.2.2; have bk1 := bk0.1
  have k1 := k h s
  clear k
  unfold aTold at k1
  have q1 : 0 ≤ t → t ≤ 2 → lead (W 6) t p = W 6 (t * 10 + p) := fun a b => by unfold lead; rw [show t % 3 = t by omega]
  refine BX12_told_0  ?_
  refine R_X12_within  ?_ ?_
  · intro w1 w2
    refine BX12_told_6  ?_ ?_
    · intro hc1
      exact absurd hc1 (by decide)
    · intro hc2
      refine BX12_told_9  ?_
      refine R_X12_isPlace  ?_ ?_
      · intro w1 w2
        refine BX12_told_13  ?_ ?_
        · intro hc3
          refine BX12_told_18 (by first | assumption | exact up_at _ _ _ | (rw [up_ne (by omega)]; first | assumption | exact up_at _ _ _ | (rw [up_ne (by omega)]; first | assumption | exact up_at _ _ _ | (rw [up_ne (by omega)]; assumption)))) (by rfl) (by first | assumption | exact up_at _ _ _ | (rw [up_ne (by omega)]; first | assumption | exact up_at _ _ _ | (rw [up_ne (by omega)]; first | assumption | exact up_at _ _ _ | (rw [up_ne (by omega)]; assumption)))) (by rfl) (by first | assumption | exact up_at _ _ _ | (rw [up_ne (by omega)]; first | assumption | exact up_at _ _ _ | (rw [up_ne (by omega)]; first | assumption | exact up_at _ _ _ | (rw [up_ne (by omega)]; assumption)))) ?_
          refine R_X7_leadsTo (by first | omega | assumption | (simp only [Ls_len]; omega) | exact Ls_get (by omega) (by omega) | rfl | decide) (by first | omega | assumption | (simp only [Ls_len]; omega) | exact Ls_get (by omega) (by omega) | rfl | decide) (by first | omega | assumption | (simp only [Ls_len]; omega) | exact Ls_get (by omega) (by omega) | rfl | decide) (by first | omega | assumption | (simp only [Ls_len]; omega) | exact Ls_get (by omega) (by omega) | rfl | decide) (by first | omega | assumption | (simp only [Ls_len]; omega) | exact Ls_get (by omega) (by omega) | rfl | decide) ?_
          refine BX12_told_30  ?_
          first | (rw [if_neg (by omega)] at k1; exact k1) | (rw [if_pos (by omega)] at k1; rw [q1 (by omega) (by omega)]; exact k1)
        · intro hc4
          exact absurd hc4 (by decide)
      · intro w3
        refine BX12_told_13  ?_ ?_
        · intro hc5
          exact absurd hc5 (by decide)
        · intro hc6
          refine BX12_told_16  ?_
          first | (rw [if_neg (by omega)] at k1; exact k1) | (rw [if_pos (by omega)] at k1; rw [q1 (by omega) (by omega)]; exact k1)
  · intro w3
    refine BX12_told_6  ?_ ?_
    · intro hc7
      refine BX12_told_16  ?_
      first | (rw [if_neg (by omega)] at k1; exact k1) | (rw [if_pos (by omega)] at k1; rw [q1 (by omega) (by omega)]; exact k1)
    · intro hc8
      exact absurd hc8 (by decide)
theorem P_is {w : Int} (s : IsPo g h W V X F) (ok : okW W) (k : ∀ h1, IsPo g h1 W V X F → Q (some (vI (aIs W w))) h1 n) : Rn (d + 30) bc bs mX12_is 0 [some (vR (some 1)), some (vI w)] [] h n Q := by
  obtain ⟨fp, p1, w, v, tp, gr, ⟨lx, la⟩, ro, ri, Gx, gl⟩ := id s; have w1 := w.1; have sh := w.2.1; have se := w.2.2.1; obtain ⟨Ts, ps, st, ste⟩ := w.2.2.2.1; have sa := w.2.2.2.2.1; have sh1 := sh.1; have se1 := se.1; have st1 := st.1; have sa1 := sa.1; obtain ⟨tl, la1⟩ := la.ob; have gl1 := gl.1; have bk0 := se.2.2; have bk1 := bk0.1
  obtain ⟨o1, o2, o3, o4, o5⟩ := ok; have o11 := o1.1; have o21 := o2.1; have o51 := o5.1; have o52 := o5.2.1; have o53 := o5.2.2.1; have o54 := o5.2.2.2.1
  have k1 := k h s
  clear k
  unfold aIs at k1
  refine BX12_is_0  ?_ ?_ ?_ ?_ ?_
  · intro hc1
    refine BX12_is_77  ?_
    first | (rw [if_pos (by assumption)] at k1; exact k1) | (rw [if_neg (by omega), if_pos (by assumption)] at k1; exact k1) | (rw [if_neg (by omega), if_neg (by omega), if_pos (by assumption)] at k1; exact k1) | (rw [if_neg (by omega), if_neg (by omega), if_neg (by omega), if_pos (by assumption)] at k1; exact k1) | (rw [if_neg (by omega), if_neg (by omega), if_neg (by omega), if_neg (by omega)] at k1; exact k1)
  · intro hc2
    refine BX12_is_32 (by first | assumption | exact up_at _ _ _ | (rw [up_ne (by omega)]; first | assumption | exact up_at _ _ _ | (rw [up_ne (by omega)]; first | assumption | exact up_at _ _ _ | (rw [up_ne (by omega)]; assumption)))) (by rfl) (by first | assumption | exact up_at _ _ _ | (rw [up_ne (by omega)]; first | assumption | exact up_at _ _ _ | (rw [up_ne (by omega)]; first | assumption | exact up_at _ _ _ | (rw [up_ne (by omega)]; assumption)))) (by rfl) (by first | assumption | exact up_at _ _ _ | (rw [up_ne (by omega)]; first | assumption | exact up_at _ _ _ | (rw [up_ne (by omega)]; first | assumption | exact up_at _ _ _ | (rw [up_ne (by omega)]; assumption)))) (by rfl) ?_
    first | (rw [if_pos (by assumption)] at k1; exact k1) | (rw [if_neg (by omega), if_pos (by assumption)] at k1; exact k1) | (rw [if_neg (by omega), if_neg (by omega), if_pos (by assumption)] at k1; exact k1) | (rw [if_neg (by omega), if_neg (by omega), if_neg (by omega), if_pos (by assumption)] at k1; exact k1) | (rw [if_neg (by omega), if_neg (by omega), if_neg (by omega), if_neg (by omega)] at k1; exact k1)
  · intro hc3
    refine BX12_is_43 (by first | assumption | exact up_at _ _ _ | (rw [up_ne (by omega)]; first | assumption | exact up_at _ _ _ | (rw [up_ne (by omega)]; first | assumption | exact up_at _ _ _ | (rw [up_ne (by omega)]; assumption)))) (by rfl) (by first | assumption | exact up_at _ _ _ | (rw [up_ne (by omega)]; first | assumption | exact up_at _ _ _ | (rw [up_ne (by omega)]; first | assumption | exact up_at _ _ _ | (rw [up_ne (by omega)]; assumption)))) (by rfl) (by first | assumption | exact up_at _ _ _ | (rw [up_ne (by omega)]; first | assumption | exact up_at _ _ _ | (rw [up_ne (by omega)]; first | assumption | exact up_at _ _ _ | (rw [up_ne (by omega)]; assumption)))) (by rfl) ?_
    first | (rw [if_pos (by assumption)] at k1; exact k1) | (rw [if_neg (by omega), if_pos (by assumption)] at k1; exact k1) | (rw [if_neg (by omega), if_neg (by omega), if_pos (by assumption)] at k1; exact k1) | (rw [if_neg (by omega), if_neg (by omega), if_neg (by omega), if_pos (by assumption)] at k1; exact k1) | (rw [if_neg (by omega), if_neg (by omega), if_neg (by omega), if_neg (by omega)] at k1; exact k1)
  · intro hc4
    refine BX12_is_54 (by first | assumption | exact up_at _ _ _ | (rw [up_ne (by omega)]; first | assumption | exact up_at _ _ _ | (rw [up_ne (by omega)]; first | assumption | exact up_at _ _ _ | (rw [up_ne (by omega)]; assumption)))) (by rfl) (by first | assumption | exact up_at _ _ _ | (rw [up_ne (by omega)]; first | assumption | exact up_at _ _ _ | (rw [up_ne (by omega)]; first | assumption | exact up_at _ _ _ | (rw [up_ne (by omega)]; assumption)))) (by rfl) (by first | assumption | exact up_at _ _ _ | (rw [up_ne (by omega)]; first | assumption | exact up_at _ _ _ | (rw [up_ne (by omega)]; first | assumption | exact up_at _ _ _ | (rw [up_ne (by omega)]; assumption)))) ?_
    refine R_X6_bottlesThatAre (by first | omega | assumption | (simp only [Ls_len]; omega) | exact Ls_get (by omega) (by omega) | rfl | decide) (by first | omega | assumption | (simp only [Ls_len]; omega) | exact Ls_get (by omega) (by omega) | rfl | decide) (by first | omega | assumption | (simp only [Ls_len]; omega) | exact Ls_get (by omega) (by omega) | rfl | decide) (by first | omega | assumption | (simp only [Ls_len]; omega) | exact Ls_get (by omega) (by omega) | rfl | decide) ?_
    refine BX12_is_65  ?_
    first | (rw [if_pos (by assumption)] at k1; exact k1) | (rw [if_neg (by omega), if_pos (by assumption)] at k1; exact k1) | (rw [if_neg (by omega), if_neg (by omega), if_pos (by assumption)] at k1; exact k1) | (rw [if_neg (by omega), if_neg (by omega), if_neg (by omega), if_pos (by assumption)] at k1; exact k1) | (rw [if_neg (by omega), if_neg (by omega), if_neg (by omega), if_neg (by omega)] at k1; exact k1)
  · intro hc5
    refine BX12_is_66 (by first | assumption | exact up_at _ _ _ | (rw [up_ne (by omega)]; first | assumption | exact up_at _ _ _ | (rw [up_ne (by omega)]; first | assumption | exact up_at _ _ _ | (rw [up_ne (by omega)]; assumption)))) (by rfl) (by first | assumption | exact up_at _ _ _ | (rw [up_ne (by omega)]; first | assumption | exact up_at _ _ _ | (rw [up_ne (by omega)]; first | assumption | exact up_at _ _ _ | (rw [up_ne (by omega)]; assumption)))) (by rfl) (by first | assumption | exact up_at _ _ _ | (rw [up_ne (by omega)]; first | assumption | exact up_at _ _ _ | (rw [up_ne (by omega)]; first | assumption | exact up_at _ _ _ | (rw [up_ne (by omega)]; assumption)))) (by rfl) ?_
    first | (rw [if_pos (by assumption)] at k1; exact k1) | (rw [if_neg (by omega), if_pos (by assumption)] at k1; exact k1) | (rw [if_neg (by omega), if_neg (by omega), if_pos (by assumption)] at k1; exact k1) | (rw [if_neg (by omega), if_neg (by omega), if_neg (by omega), if_pos (by assumption)] at k1; exact k1) | (rw [if_neg (by omega), if_neg (by omega), if_neg (by omega), if_neg (by omega)] at k1; exact k1)
theorem P_book {i w : Int} (s : IsPo g h W V X F) (ok : okW W) (k : ∀ h1, IsPo g h1 W V X F → Q (some (vI (aBook W i w))) h1 n) : Rn (d + 30) bc bs mX12_book 0 [some (vR (some 1)), some (vI i), some (vI w)] [] h n Q := by
  obtain ⟨fp, p1, w, v, tp, gr, ⟨lx, la⟩, ro, ri, Gx, gl⟩ := id s; have w1 := w.1; have sh := w.2.1; have se := w.2.2.1; obtain ⟨Ts, ps, st, ste⟩ := w.2.2.2.1; have sa := w.2.2.2.2.1; have sh1 := sh.1; have se1 := se.1; have st1 := st.1; have sa1 := sa.1; obtain ⟨tl, la1⟩ := la.ob; have gl1 := gl.1; have bk0 := se.2.2; have bk1 := bk0.1
  obtain ⟨o1, o2, o3, o4, o5⟩ := ok; have o11 := o1.1; have o21 := o2.1; have o51 := o5.1; have o52 := o5.2.1; have o53 := o5.2.2.1; have o54 := o5.2.2.2.1
  have k1 := k h s
  clear k
  unfold aBook at k1
  refine BX12_book_0  ?_ ?_
  · intro hc1
    first
    | (exfalso; omega)
    | (
        refine BX12_book_19 (by first | assumption | exact up_at _ _ _ | (rw [up_ne (by omega)]; first | assumption | exact up_at _ _ _ | (rw [up_ne (by omega)]; first | assumption | exact up_at _ _ _ | (rw [up_ne (by omega)]; assumption)))) (by rfl) (by first | assumption | exact up_at _ _ _ | (rw [up_ne (by omega)]; first | assumption | exact up_at _ _ _ | (rw [up_ne (by omega)]; first | assumption | exact up_at _ _ _ | (rw [up_ne (by omega)]; assumption)))) (by rfl) (by first | assumption | exact up_at _ _ _ | (rw [up_ne (by omega)]; first | assumption | exact up_at _ _ _ | (rw [up_ne (by omega)]; first | assumption | exact up_at _ _ _ | (rw [up_ne (by omega)]; assumption)))) (by rfl) (by first | assumption | exact up_at _ _ _ | (rw [up_ne (by omega)]; first | assumption | exact up_at _ _ _ | (rw [up_ne (by omega)]; first | assumption | exact up_at _ _ _ | (rw [up_ne (by omega)]; assumption)))) (by rfl) (by first | omega | assumption | (simp only [Ls_len]; omega) | exact Ls_get (by omega) (by omega) | rfl | decide) ?_
        refine R_X12_within  ?_ ?_
        · intro w1 w2
          refine BX12_book_39  ?_ ?_
          · intro hc2
            exact absurd hc2 (by decide)
          · intro hc3
            refine BX12_book_42  ?_
            refine R_X12_within  ?_ ?_
            · intro w1 w2
              refine BX12_book_48  ?_ ?_
              · intro hc4
                refine BX12_book_54 (by first | assumption | exact up_at _ _ _ | (rw [up_ne (by omega)]; first | assumption | exact up_at _ _ _ | (rw [up_ne (by omega)]; first | assumption | exact up_at _ _ _ | (rw [up_ne (by omega)]; assumption)))) (by rfl) (by first | assumption | exact up_at _ _ _ | (rw [up_ne (by omega)]; first | assumption | exact up_at _ _ _ | (rw [up_ne (by omega)]; first | assumption | exact up_at _ _ _ | (rw [up_ne (by omega)]; assumption)))) (by rfl) (by first | assumption | exact up_at _ _ _ | (rw [up_ne (by omega)]; first | assumption | exact up_at _ _ _ | (rw [up_ne (by omega)]; first | assumption | exact up_at _ _ _ | (rw [up_ne (by omega)]; assumption)))) (by rfl) (by first | assumption | exact up_at _ _ _ | (rw [up_ne (by omega)]; first | assumption | exact up_at _ _ _ | (rw [up_ne (by omega)]; first | assumption | exact up_at _ _ _ | (rw [up_ne (by omega)]; assumption)))) ?_
                refine R_X0_part (by first | omega | assumption | (simp only [Ls_len]; omega) | exact Ls_get (by omega) (by omega) | rfl | decide) (by first | omega | assumption | (simp only [Ls_len]; omega) | exact Ls_get (by omega) (by omega) | rfl | decide) (by first | omega | assumption | (simp only [Ls_len]; omega) | exact Ls_get (by omega) (by omega) | rfl | decide) (by first | omega | assumption | (simp only [Ls_len]; omega) | exact Ls_get (by omega) (by omega) | rfl | decide) (by first | omega | assumption | (simp only [Ls_len]; omega) | exact Ls_get (by omega) (by omega) | rfl | decide) (by first | omega | assumption | (simp only [Ls_len]; omega) | exact Ls_get (by omega) (by omega) | rfl | decide) ?_
                refine BX12_book_69  ?_
                first | (rw [if_pos (by omega)] at k1; exact k1) | (rw [if_neg (by omega), if_neg (by omega)] at k1; exact k1) | (rw [if_neg (by omega), if_pos (by omega)] at k1; exact k1)
              · intro hc5
                exact absurd hc5 (by decide)
            · intro w3
              refine BX12_book_48  ?_ ?_
              · intro hc6
                exact absurd hc6 (by decide)
              · intro hc7
                refine BX12_book_51  ?_
                first | (rw [if_pos (by omega)] at k1; exact k1) | (rw [if_neg (by omega), if_neg (by omega)] at k1; exact k1) | (rw [if_neg (by omega), if_pos (by omega)] at k1; exact k1)
        · intro w3
          refine BX12_book_39  ?_ ?_
          · intro hc8
            refine BX12_book_51  ?_
            first | (rw [if_pos (by omega)] at k1; exact k1) | (rw [if_neg (by omega), if_neg (by omega)] at k1; exact k1) | (rw [if_neg (by omega), if_pos (by omega)] at k1; exact k1)
          · intro hc9
            exact absurd hc9 (by decide)
      )
  · intro hc10
    first
    | (exfalso; omega)
    | (
        refine BX12_book_5 (by first | assumption | exact up_at _ _ _ | (rw [up_ne (by omega)]; first | assumption | exact up_at _ _ _ | (rw [up_ne (by omega)]; first | assumption | exact up_at _ _ _ | (rw [up_ne (by omega)]; assumption)))) (by rfl) (by first | assumption | exact up_at _ _ _ | (rw [up_ne (by omega)]; first | assumption | exact up_at _ _ _ | (rw [up_ne (by omega)]; first | assumption | exact up_at _ _ _ | (rw [up_ne (by omega)]; assumption)))) (by rfl) (by first | assumption | exact up_at _ _ _ | (rw [up_ne (by omega)]; first | assumption | exact up_at _ _ _ | (rw [up_ne (by omega)]; first | assumption | exact up_at _ _ _ | (rw [up_ne (by omega)]; assumption)))) (by rfl) (by first | assumption | exact up_at _ _ _ | (rw [up_ne (by omega)]; first | assumption | exact up_at _ _ _ | (rw [up_ne (by omega)]; first | assumption | exact up_at _ _ _ | (rw [up_ne (by omega)]; assumption)))) (by rfl) ?_
        first | (rw [if_pos (by omega)] at k1; exact k1) | (rw [if_neg (by omega), if_neg (by omega)] at k1; exact k1) | (rw [if_neg (by omega), if_pos (by omega)] at k1; exact k1)
      )
theorem P_ledger {w : Int} (s : IsPo g h W V X F) (ok : okW W) (k : ∀ h1, IsPo g h1 W V X F → Q (some (vI (aLedger W w))) h1 n) : Rn (d + 30) bc bs mX12_ledger 0 [some (vR (some 1)), some (vI w)] [] h n Q := by
  obtain ⟨fp, p1, w, v, tp, gr, ⟨lx, la⟩, ro, ri, Gx, gl⟩ := id s; have w1 := w.1; have sh := w.2.1; have se := w.2.2.1; obtain ⟨Ts, ps, st, ste⟩ := w.2.2.2.1; have sa := w.2.2.2.2.1; have sh1 := sh.1; have se1 := se.1; have st1 := st.1; have sa1 := sa.1; obtain ⟨tl, la1⟩ := la.ob; have gl1 := gl.1; have bk0 := se.2.2; have bk1 := bk0.1
  obtain ⟨o1, o2, o3, o4, o5⟩ := ok; have o11 := o1.1; have o21 := o2.1; have o51 := o5.1; have o52 := o5.2.1; have o53 := o5.2.2.1; have o54 := o5.2.2.2.1
  have k1 := k h s
  clear k
  unfold aLedger at k1
  refine BX12_ledger_0  ?_
  refine R_X12_within  ?_ ?_
  · intro w1 w2
    refine BX12_ledger_6  ?_ ?_
    · intro hc1
      refine BX12_ledger_12 (by first | assumption | exact up_at _ _ _ | (rw [up_ne (by omega)]; first | assumption | exact up_at _ _ _ | (rw [up_ne (by omega)]; first | assumption | exact up_at _ _ _ | (rw [up_ne (by omega)]; assumption)))) (by rfl) (by first | assumption | exact up_at _ _ _ | (rw [up_ne (by omega)]; first | assumption | exact up_at _ _ _ | (rw [up_ne (by omega)]; first | assumption | exact up_at _ _ _ | (rw [up_ne (by omega)]; assumption)))) (by rfl) (by first | assumption | exact up_at _ _ _ | (rw [up_ne (by omega)]; first | assumption | exact up_at _ _ _ | (rw [up_ne (by omega)]; first | assumption | exact up_at _ _ _ | (rw [up_ne (by omega)]; assumption)))) (by rfl) (by first | assumption | exact up_at _ _ _ | (rw [up_ne (by omega)]; first | assumption | exact up_at _ _ _ | (rw [up_ne (by omega)]; first | assumption | exact up_at _ _ _ | (rw [up_ne (by omega)]; assumption)))) ?_
      refine R_X0_countOf (by first | omega | assumption | (simp only [Ls_len]; omega) | exact Ls_get (by omega) (by omega) | rfl | decide) (by first | omega | assumption | (simp only [Ls_len]; omega) | exact Ls_get (by omega) (by omega) | rfl | decide) (by first | omega | assumption | (simp only [Ls_len]; omega) | exact Ls_get (by omega) (by omega) | rfl | decide) (by first | omega | assumption | (simp only [Ls_len]; omega) | exact Ls_get (by omega) (by omega) | rfl | decide) ?_
      refine BX12_ledger_26  ?_
      first | (rw [if_neg (by omega)] at k1; exact k1) | (rw [if_pos (by omega)] at k1; exact k1)
    · intro hc2
      exact absurd hc2 (by decide)
  · intro w3
    refine BX12_ledger_6  ?_ ?_
    · intro hc3
      exact absurd hc3 (by decide)
    · intro hc4
      refine BX12_ledger_9  ?_
      first | (rw [if_neg (by omega)] at k1; exact k1) | (rw [if_pos (by omega)] at k1; exact k1)
theorem P_drift {p m : Int} (s : IsPo g h W V X F) (ok : okW W) (k : ∀ h1, IsPo g h1 W V X F → Q (some (vI (aDrift W p m))) h1 n) : Rn (d + 30) bc bs mX12_drift 0 [some (vR (some 1)), some (vI p), some (vI m)] [] h n Q := by
  obtain ⟨fp, p1, w, v, tp, gr, ⟨lx, la⟩, ro, ri, Gx, gl⟩ := id s; have w1 := w.1; have sh := w.2.1; have se := w.2.2.1; obtain ⟨Ts, ps, st, ste⟩ := w.2.2.2.1; have sa := w.2.2.2.2.1; have sh1 := sh.1; have se1 := se.1; have st1 := st.1; have sa1 := sa.1; obtain ⟨tl, la1⟩ := la.ob; have gl1 := gl.1; have bk0 := se.2.2; have bk1 := bk0.1
  obtain ⟨o1, o2, o3, o4, o5⟩ := ok; have o11 := o1.1; have o21 := o2.1; have o51 := o5.1; have o52 := o5.2.1; have o53 := o5.2.2.1; have o54 := o5.2.2.2.1
  have o12 := o1.2.2
  have k1 := k h s
  clear k
  unfold aDrift at k1
  refine BX12_drift_0  ?_
  refine R_X12_isPlace  ?_ ?_
  · intro w1 w2
    refine BX12_drift_4  ?_ ?_
    · intro hc1
      exact absurd hc1 (by decide)
    · intro hc2
      refine BX12_drift_7  ?_
      refine R_X12_within  ?_ ?_
      · intro w1 w2
        refine BX12_drift_14  ?_ ?_
        · intro hc3
          refine BX12_drift_19 (by first | assumption | exact up_at _ _ _ | (rw [up_ne (by omega)]; first | assumption | exact up_at _ _ _ | (rw [up_ne (by omega)]; first | assumption | exact up_at _ _ _ | (rw [up_ne (by omega)]; assumption)))) (by rfl) (by first | assumption | exact up_at _ _ _ | (rw [up_ne (by omega)]; first | assumption | exact up_at _ _ _ | (rw [up_ne (by omega)]; first | assumption | exact up_at _ _ _ | (rw [up_ne (by omega)]; assumption)))) (by rfl) (by rfl) (by first | assumption | exact up_at _ _ _ | (rw [up_ne (by omega)]; first | assumption | exact up_at _ _ _ | (rw [up_ne (by omega)]; first | assumption | exact up_at _ _ _ | (rw [up_ne (by omega)]; assumption)))) (by rfl) (by first | assumption | exact up_at _ _ _ | (rw [up_ne (by omega)]; first | assumption | exact up_at _ _ _ | (rw [up_ne (by omega)]; first | assumption | exact up_at _ _ _ | (rw [up_ne (by omega)]; assumption)))) ?_
          refine R_X7_driftsTo (by first | omega | assumption | (simp only [Ls_len]; omega) | exact Ls_get (by omega) (by omega) | rfl | decide) (by first | omega | assumption | (simp only [Ls_len]; omega) | exact Ls_get (by omega) (by omega) | rfl | decide) (by first | omega | assumption | (simp only [Ls_len]; omega) | exact Ls_get (by omega) (by omega) | rfl | decide) (by first | omega | assumption | (simp only [Ls_len]; omega) | exact Ls_get (by omega) (by omega) | rfl | decide) (by first | omega | assumption | (simp only [Ls_len]; omega) | exact Ls_get (by omega) (by omega) | rfl | decide) (by first | omega | assumption | (simp only [Ls_len]; omega) | exact Ls_get (by omega) (by omega) | rfl | decide) (by first | omega | assumption | (simp only [Ls_len]; omega) | exact Ls_get (by omega) (by omega) | rfl | decide) ?_
          refine BX12_drift_41  ?_
          first | (rw [if_neg (by omega)] at k1; exact k1) | (rw [if_pos (by omega)] at k1; exact k1)
        · intro hc4
          exact absurd hc4 (by decide)
      · intro w3
        refine BX12_drift_14  ?_ ?_
        · intro hc5
          exact absurd hc5 (by decide)
        · intro hc6
          refine BX12_drift_17  ?_
          first | (rw [if_neg (by omega)] at k1; exact k1) | (rw [if_pos (by omega)] at k1; exact k1)
  · intro w3
    refine BX12_drift_4  ?_ ?_
    · intro hc7
      refine BX12_drift_17  ?_
      first | (rw [if_neg (by omega)] at k1; exact k1) | (rw [if_pos (by omega)] at k1; exact k1)
    · intro hc8
      exact absurd hc8 (by decide)
theorem P_found {p m : Int} (s : IsPo g h W V X F) (ok : okW W) (k : ∀ h1, IsPo g h1 (sFound W p m) V X F → Q (some (vI (aFound W p m))) h1 n) : Rn (d + 30) bc bs mX12_found 0 [some (vR (some 1)), some (vI p), some (vI m)] [] h n Q := by
  obtain ⟨fp, p1, w, v, tp, gr, ⟨lx, la⟩, ro, ri, Gx, gl⟩ := id s; have w1 := w.1; have sh := w.2.1; have se := w.2.2.1; obtain ⟨Ts, ps, st, ste⟩ := w.2.2.2.1; have sa := w.2.2.2.2.1; have sh1 := sh.1; have se1 := se.1; have st1 := st.1; have sa1 := sa.1; obtain ⟨tl, la1⟩ := la.ob; have gl1 := gl.1; have bk0 := se.2.2; have bk1 := bk0.1
  obtain ⟨o1, o2, o3, o4, o5⟩ := ok; have o11 := o1.1; have o21 := o2.1; have o51 := o5.1; have o52 := o5.2.1; have o53 := o5.2.2.1; have o54 := o5.2.2.2.1
  unfold aFound sFound at k
  refine BX12_found_0  ?_ ?_
  · intro hc1
    first
    | (exfalso; omega)
    | (
        refine BX12_found_16  ?_
        refine R_X12_isPlace  ?_ ?_
        · intro w1 w2
          refine BX12_found_20  ?_ ?_
          · intro hc2
            exact absurd hc2 (by decide)
          · intro hc3
            refine BX12_found_23  ?_
            refine R_X12_within  ?_ ?_
            · intro w1 w2
              refine BX12_found_30  ?_ ?_
              · intro hc4
                refine BX12_found_36 (by first | assumption | exact up_at _ _ _ | (rw [up_ne (by omega)]; first | assumption | exact up_at _ _ _ | (rw [up_ne (by omega)]; first | assumption | exact up_at _ _ _ | (rw [up_ne (by omega)]; assumption)))) (by rfl) (by first | assumption | exact up_at _ _ _ | (rw [up_ne (by omega)]; first | assumption | exact up_at _ _ _ | (rw [up_ne (by omega)]; first | assumption | exact up_at _ _ _ | (rw [up_ne (by omega)]; assumption)))) (by rfl) (by first | assumption | exact up_at _ _ _ | (rw [up_ne (by omega)]; first | assumption | exact up_at _ _ _ | (rw [up_ne (by omega)]; first | assumption | exact up_at _ _ _ | (rw [up_ne (by omega)]; assumption)))) ?_
                refine R_X5_addFound (by first | omega | assumption | (simp only [Ls_len]; omega) | exact Ls_get (by omega) (by omega) | rfl | decide) (by first | omega | assumption | (simp only [Ls_len]; omega) | exact Ls_get (by omega) (by omega) | rfl | decide) (by first | omega | assumption | (simp only [Ls_len]; omega) | exact Ls_get (by omega) (by omega) | rfl | decide) ?_ ?_
                · intro w0
                  refine BX12_found_48  ?_
                  first | (rw [if_pos (by omega), if_pos (by omega)] at k; exact k _ (s.say r12 s12)) | (rw [if_neg (by omega), if_neg (by omega), if_neg (by omega), if_neg (by omega)] at k; exact k _ s) | (rw [if_neg (by omega), if_pos (by omega), if_neg (by omega), if_pos (by omega)] at k; exact k _ (s.say r45 s45))
                · intro w1 h45 r45 s45
                  refine BX12_found_48  ?_
                  first | (rw [if_pos (by omega), if_pos (by omega)] at k; exact k _ (s.say r12 s12)) | (rw [if_neg (by omega), if_neg (by omega), if_neg (by omega), if_neg (by omega)] at k; exact k _ s) | (rw [if_neg (by omega), if_pos (by omega), if_neg (by omega), if_pos (by omega)] at k; exact k _ (s.say r45 s45))
              · intro hc5
                exact absurd hc5 (by decide)
            · intro w3
              refine BX12_found_30  ?_ ?_
              · intro hc6
                exact absurd hc6 (by decide)
              · intro hc7
                refine BX12_found_33  ?_
                first | (rw [if_pos (by omega), if_pos (by omega)] at k; exact k _ (s.say r12 s12)) | (rw [if_neg (by omega), if_neg (by omega), if_neg (by omega), if_neg (by omega)] at k; exact k _ s) | (rw [if_neg (by omega), if_pos (by omega), if_neg (by omega), if_pos (by omega)] at k; exact k _ (s.say r45 s45))
        · intro w3
          refine BX12_found_20  ?_ ?_
          · intro hc8
            refine BX12_found_33  ?_
            first | (rw [if_pos (by omega), if_pos (by omega)] at k; exact k _ (s.say r12 s12)) | (rw [if_neg (by omega), if_neg (by omega), if_neg (by omega), if_neg (by omega)] at k; exact k _ s) | (rw [if_neg (by omega), if_pos (by omega), if_neg (by omega), if_pos (by omega)] at k; exact k _ (s.say r45 s45))
          · intro hc9
            exact absurd hc9 (by decide)
      )
  · intro hc10
    first
    | (exfalso; omega)
    | (
        refine BX12_found_5 (by first | assumption | exact up_at _ _ _ | (rw [up_ne (by omega)]; first | assumption | exact up_at _ _ _ | (rw [up_ne (by omega)]; first | assumption | exact up_at _ _ _ | (rw [up_ne (by omega)]; assumption)))) (by rfl) (by first | assumption | exact up_at _ _ _ | (rw [up_ne (by omega)]; first | assumption | exact up_at _ _ _ | (rw [up_ne (by omega)]; first | assumption | exact up_at _ _ _ | (rw [up_ne (by omega)]; assumption)))) (by rfl) (by first | assumption | exact up_at _ _ _ | (rw [up_ne (by omega)]; first | assumption | exact up_at _ _ _ | (rw [up_ne (by omega)]; first | assumption | exact up_at _ _ _ | (rw [up_ne (by omega)]; assumption)))) ?_
        refine R_X5_forgetFound (by first | omega | assumption | (simp only [Ls_len]; omega) | exact Ls_get (by omega) (by omega) | rfl | decide) (by first | omega | assumption | (simp only [Ls_len]; omega) | exact Ls_get (by omega) (by omega) | rfl | decide) ?_
        intro h12 r12 s12
        refine BX12_found_15  ?_
        first | (rw [if_pos (by omega), if_pos (by omega)] at k; exact k _ (s.say r12 s12)) | (rw [if_neg (by omega), if_neg (by omega), if_neg (by omega), if_neg (by omega)] at k; exact k _ s) | (rw [if_neg (by omega), if_pos (by omega), if_neg (by omega), if_pos (by omega)] at k; exact k _ (s.say r45 s45))
      )
theorem P_said {b c : Int} (s : IsPo g h W V X F) (ok : okW W) (k : ∀ h1, IsPo g h1 (sSaid W b c) V X F → Q (some (vI (aSaid W b c))) h1 n) : Rn (d + 30) bc bs mX12_said 0 [some (vR (some 1)), some (vI b), some (vI c)] [] h n Q := by
  obtain ⟨fp, p1, w, v, tp, gr, ⟨lx, la⟩, ro, ri, Gx, gl⟩ := id s; have w1 := w.1; have sh := w.2.1; have se := w.2.2.1; obtain ⟨Ts, ps, st, ste⟩ := w.2.2.2.1; have sa := w.2.2.2.2.1; have sh1 := sh.1; have se1 := se.1; have st1 := st.1; have sa1 := sa.1; obtain ⟨tl, la1⟩ := la.ob; have gl1 := gl.1; have bk0 := se.2.2; have bk1 := bk0.1
  obtain ⟨o1, o2, o3, o4, o5⟩ := ok; have o11 := o1.1; have o21 := o2.1; have o51 := o5.1; have o52 := o5.2.1; have o53 := o5.2.2.1; have o54 := o5.2.2.2.1
  unfold aSaid sSaid at k
  refine BX12_said_0  ?_ ?_
  · intro hc1
    first
    | (exfalso; omega)
    | (
        refine BX12_said_16 (by first | assumption | exact up_at _ _ _ | (rw [up_ne (by omega)]; first | assumption | exact up_at _ _ _ | (rw [up_ne (by omega)]; first | assumption | exact up_at _ _ _ | (rw [up_ne (by omega)]; assumption)))) (by rfl) (by first | assumption | exact up_at _ _ _ | (rw [up_ne (by omega)]; first | assumption | exact up_at _ _ _ | (rw [up_ne (by omega)]; first | assumption | exact up_at _ _ _ | (rw [up_ne (by omega)]; assumption)))) (by rfl) (by first | assumption | exact up_at _ _ _ | (rw [up_ne (by omega)]; first | assumption | exact up_at _ _ _ | (rw [up_ne (by omega)]; first | assumption | exact up_at _ _ _ | (rw [up_ne (by omega)]; assumption)))) ?_
        refine R_X6_hasBottle (by first | omega | assumption | (simp only [Ls_len]; omega) | exact Ls_get (by omega) (by omega) | rfl | decide) (by first | omega | assumption | (simp only [Ls_len]; omega) | exact Ls_get (by omega) (by omega) | rfl | decide) ?_ ?_
        · intro w1 w2
          refine BX12_said_27  ?_ ?_
          · intro hc2
            exact absurd hc2 (by decide)
          · intro hc3
            refine BX12_said_30  ?_
            refine R_X12_within  ?_ ?_
            · intro w1 w2
              refine BX12_said_37  ?_ ?_
              · intro hc4
                refine BX12_said_43 (by first | assumption | exact up_at _ _ _ | (rw [up_ne (by omega)]; first | assumption | exact up_at _ _ _ | (rw [up_ne (by omega)]; first | assumption | exact up_at _ _ _ | (rw [up_ne (by omega)]; assumption)))) (by rfl) (by first | assumption | exact up_at _ _ _ | (rw [up_ne (by omega)]; first | assumption | exact up_at _ _ _ | (rw [up_ne (by omega)]; first | assumption | exact up_at _ _ _ | (rw [up_ne (by omega)]; assumption)))) (by rfl) (by first | assumption | exact up_at _ _ _ | (rw [up_ne (by omega)]; first | assumption | exact up_at _ _ _ | (rw [up_ne (by omega)]; first | assumption | exact up_at _ _ _ | (rw [up_ne (by omega)]; assumption)))) ?_
                refine R_X5_addSaid (by first | omega | assumption | (simp only [Ls_len]; omega) | exact Ls_get (by omega) (by omega) | rfl | decide) (by first | omega | assumption | (simp only [Ls_len]; omega) | exact Ls_get (by omega) (by omega) | rfl | decide) (by first | omega | assumption | (simp only [Ls_len]; omega) | exact Ls_get (by omega) (by omega) | rfl | decide) ?_ ?_
                · intro w0
                  refine BX12_said_55  ?_
                  first | (rw [if_pos (by omega), if_pos (by omega)] at k; exact k _ (s.say r12 s12)) | (rw [if_neg (by omega), if_neg (by omega), if_neg (by omega), if_neg (by omega)] at k; exact k _ s) | (rw [if_neg (by omega), if_pos (by omega), if_neg (by omega), if_pos (by omega)] at k; exact k _ (s.say r52 s52))
                · intro w1 h52 r52 s52
                  refine BX12_said_55  ?_
                  first | (rw [if_pos (by omega), if_pos (by omega)] at k; exact k _ (s.say r12 s12)) | (rw [if_neg (by omega), if_neg (by omega), if_neg (by omega), if_neg (by omega)] at k; exact k _ s) | (rw [if_neg (by omega), if_pos (by omega), if_neg (by omega), if_pos (by omega)] at k; exact k _ (s.say r52 s52))
              · intro hc5
                exact absurd hc5 (by decide)
            · intro w3
              refine BX12_said_37  ?_ ?_
              · intro hc6
                exact absurd hc6 (by decide)
              · intro hc7
                refine BX12_said_40  ?_
                first | (rw [if_pos (by omega), if_pos (by omega)] at k; exact k _ (s.say r12 s12)) | (rw [if_neg (by omega), if_neg (by omega), if_neg (by omega), if_neg (by omega)] at k; exact k _ s) | (rw [if_neg (by omega), if_pos (by omega), if_neg (by omega), if_pos (by omega)] at k; exact k _ (s.say r52 s52))
        · intro w3
          refine BX12_said_27  ?_ ?_
          · intro hc8
            refine BX12_said_40  ?_
            first | (rw [if_pos (by omega), if_pos (by omega)] at k; exact k _ (s.say r12 s12)) | (rw [if_neg (by omega), if_neg (by omega), if_neg (by omega), if_neg (by omega)] at k; exact k _ s) | (rw [if_neg (by omega), if_pos (by omega), if_neg (by omega), if_pos (by omega)] at k; exact k _ (s.say r52 s52))
          · intro hc9
            exact absurd hc9 (by decide)
      )
  · intro hc10
    first
    | (exfalso; omega)
    | (
        refine BX12_said_5 (by first | assumption | exact up_at _ _ _ | (rw [up_ne (by omega)]; first | assumption | exact up_at _ _ _ | (rw [up_ne (by omega)]; first | assumption | exact up_at _ _ _ | (rw [up_ne (by omega)]; assumption)))) (by rfl) (by first | assumption | exact up_at _ _ _ | (rw [up_ne (by omega)]; first | assumption | exact up_at _ _ _ | (rw [up_ne (by omega)]; first | assumption | exact up_at _ _ _ | (rw [up_ne (by omega)]; assumption)))) (by rfl) (by first | assumption | exact up_at _ _ _ | (rw [up_ne (by omega)]; first | assumption | exact up_at _ _ _ | (rw [up_ne (by omega)]; first | assumption | exact up_at _ _ _ | (rw [up_ne (by omega)]; assumption)))) ?_
        refine R_X5_forgetSaid (by first | omega | assumption | (simp only [Ls_len]; omega) | exact Ls_get (by omega) (by omega) | rfl | decide) (by first | omega | assumption | (simp only [Ls_len]; omega) | exact Ls_get (by omega) (by omega) | rfl | decide) ?_
        intro h12 r12 s12
        refine BX12_said_15  ?_
        first | (rw [if_pos (by omega), if_pos (by omega)] at k; exact k _ (s.say r12 s12)) | (rw [if_neg (by omega), if_neg (by omega), if_neg (by omega), if_neg (by omega)] at k; exact k _ s) | (rw [if_neg (by omega), if_pos (by omega), if_neg (by omega), if_pos (by omega)] at k; exact k _ (s.say r52 s52))
      )
theorem P_about {w : Int} (s : IsPo g h W V X F) (k : ∀ h1, IsPo g h1 W V X F → Q (some (vI (aAbout W F w))) h1 n) : Rn (d + 30) bc bs mX12_about 0 [some (vR (some 1)), some (vI w)] [] h n Q := by
  obtain ⟨fp, p1, w, v, tp, gr, ⟨lx, la⟩, ro, ri, Gx, gl⟩ := id s; have w1 := w.1; have sh := w.2.1; have se := w.2.2.1; obtain ⟨Ts, ps, st, ste⟩ := w.2.2.2.1; have sa := w.2.2.2.2.1; have sh1 := sh.1; have se1 := se.1; have st1 := st.1; have sa1 := sa.1; obtain ⟨tl, la1⟩ := la.ob; have gl1 := gl.1; have bk0 := se.2.2; have bk1 := bk0.1
  obtain ⟨n1, n2, n3, n4, tp1, tp2⟩ := tp
  have k1 := k h s
  clear k
  unfold aAbout at k1
  refine BX12_about_0  ?_ ?_ ?_ ?_ ?_ ?_ ?_ ?_ ?_
  · intro hc1
    refine BX12_about_127  ?_
    first | (rw [if_pos (by assumption)] at k1; exact k1) | (rw [if_neg (by omega), if_pos (by assumption)] at k1; exact k1) | (rw [if_neg (by omega), if_neg (by omega), if_pos (by assumption)] at k1; exact k1) | (rw [if_neg (by omega), if_neg (by omega), if_neg (by omega), if_pos (by assumption)] at k1; exact k1) | (rw [if_neg (by omega), if_neg (by omega), if_neg (by omega), if_neg (by omega), if_pos (by assumption)] at k1; exact k1) | (rw [if_neg (by omega), if_neg (by omega), if_neg (by omega), if_neg (by omega), if_neg (by omega), if_pos (by assumption)] at k1; exact k1) | (rw [if_neg (by omega), if_neg (by omega), if_neg (by omega), if_neg (by omega), if_neg (by omega), if_neg (by omega), if_pos (by assumption)] at k1; exact k1) | (rw [if_neg (by omega), if_neg (by omega), if_neg (by omega), if_neg (by omega), if_neg (by omega), if_neg (by omega), if_neg (by omega), if_pos (by assumption)] at k1; exact k1) | (rw [if_neg (by omega), if_neg (by omega), if_neg (by omega), if_neg (by omega), if_neg (by omega), if_neg (by omega), if_neg (by omega), if_neg (by omega)] at k1; exact k1)
  · intro hc2
    refine BX12_about_48 (by first | assumption | exact up_at _ _ _ | (rw [up_ne (by omega)]; first | assumption | exact up_at _ _ _ | (rw [up_ne (by omega)]; first | assumption | exact up_at _ _ _ | (rw [up_ne (by omega)]; assumption)))) (by rfl) (by first | assumption | exact up_at _ _ _ | (rw [up_ne (by omega)]; first | assumption | exact up_at _ _ _ | (rw [up_ne (by omega)]; first | assumption | exact up_at _ _ _ | (rw [up_ne (by omega)]; assumption)))) (by rfl) (by first | assumption | exact up_at _ _ _ | (rw [up_ne (by omega)]; first | assumption | exact up_at _ _ _ | (rw [up_ne (by omega)]; first | assumption | exact up_at _ _ _ | (rw [up_ne (by omega)]; assumption)))) (by rfl) ?_
    first | (rw [if_pos (by assumption)] at k1; exact k1) | (rw [if_neg (by omega), if_pos (by assumption)] at k1; exact k1) | (rw [if_neg (by omega), if_neg (by omega), if_pos (by assumption)] at k1; exact k1) | (rw [if_neg (by omega), if_neg (by omega), if_neg (by omega), if_pos (by assumption)] at k1; exact k1) | (rw [if_neg (by omega), if_neg (by omega), if_neg (by omega), if_neg (by omega), if_pos (by assumption)] at k1; exact k1) | (rw [if_neg (by omega), if_neg (by omega), if_neg (by omega), if_neg (by omega), if_neg (by omega), if_pos (by assumption)] at k1; exact k1) | (rw [if_neg (by omega), if_neg (by omega), if_neg (by omega), if_neg (by omega), if_neg (by omega), if_neg (by omega), if_pos (by assumption)] at k1; exact k1) | (rw [if_neg (by omega), if_neg (by omega), if_neg (by omega), if_neg (by omega), if_neg (by omega), if_neg (by omega), if_neg (by omega), if_pos (by assumption)] at k1; exact k1) | (rw [if_neg (by omega), if_neg (by omega), if_neg (by omega), if_neg (by omega), if_neg (by omega), if_neg (by omega), if_neg (by omega), if_neg (by omega)] at k1; exact k1)
  · intro hc3
    refine BX12_about_59 (by first | assumption | exact up_at _ _ _ | (rw [up_ne (by omega)]; first | assumption | exact up_at _ _ _ | (rw [up_ne (by omega)]; first | assumption | exact up_at _ _ _ | (rw [up_ne (by omega)]; assumption)))) (by rfl) (by first | assumption | exact up_at _ _ _ | (rw [up_ne (by omega)]; first | assumption | exact up_at _ _ _ | (rw [up_ne (by omega)]; first | assumption | exact up_at _ _ _ | (rw [up_ne (by omega)]; assumption)))) (by rfl) ?_
    first | (rw [if_pos (by assumption)] at k1; exact k1) | (rw [if_neg (by omega), if_pos (by assumption)] at k1; exact k1) | (rw [if_neg (by omega), if_neg (by omega), if_pos (by assumption)] at k1; exact k1) | (rw [if_neg (by omega), if_neg (by omega), if_neg (by omega), if_pos (by assumption)] at k1; exact k1) | (rw [if_neg (by omega), if_neg (by omega), if_neg (by omega), if_neg (by omega), if_pos (by assumption)] at k1; exact k1) | (rw [if_neg (by omega), if_neg (by omega), if_neg (by omega), if_neg (by omega), if_neg (by omega), if_pos (by assumption)] at k1; exact k1) | (rw [if_neg (by omega), if_neg (by omega), if_neg (by omega), if_neg (by omega), if_neg (by omega), if_neg (by omega), if_pos (by assumption)] at k1; exact k1) | (rw [if_neg (by omega), if_neg (by omega), if_neg (by omega), if_neg (by omega), if_neg (by omega), if_neg (by omega), if_neg (by omega), if_pos (by assumption)] at k1; exact k1) | (rw [if_neg (by omega), if_neg (by omega), if_neg (by omega), if_neg (by omega), if_neg (by omega), if_neg (by omega), if_neg (by omega), if_neg (by omega)] at k1; exact k1)
  · intro hc4
    refine BX12_about_67 (by first | assumption | exact up_at _ _ _ | (rw [up_ne (by omega)]; first | assumption | exact up_at _ _ _ | (rw [up_ne (by omega)]; first | assumption | exact up_at _ _ _ | (rw [up_ne (by omega)]; assumption)))) (by rfl) (by first | assumption | exact up_at _ _ _ | (rw [up_ne (by omega)]; first | assumption | exact up_at _ _ _ | (rw [up_ne (by omega)]; first | assumption | exact up_at _ _ _ | (rw [up_ne (by omega)]; assumption)))) (by rfl) ?_
    first | (rw [if_pos (by assumption)] at k1; exact k1) | (rw [if_neg (by omega), if_pos (by assumption)] at k1; exact k1) | (rw [if_neg (by omega), if_neg (by omega), if_pos (by assumption)] at k1; exact k1) | (rw [if_neg (by omega), if_neg (by omega), if_neg (by omega), if_pos (by assumption)] at k1; exact k1) | (rw [if_neg (by omega), if_neg (by omega), if_neg (by omega), if_neg (by omega), if_pos (by assumption)] at k1; exact k1) | (rw [if_neg (by omega), if_neg (by omega), if_neg (by omega), if_neg (by omega), if_neg (by omega), if_pos (by assumption)] at k1; exact k1) | (rw [if_neg (by omega), if_neg (by omega), if_neg (by omega), if_neg (by omega), if_neg (by omega), if_neg (by omega), if_pos (by assumption)] at k1; exact k1) | (rw [if_neg (by omega), if_neg (by omega), if_neg (by omega), if_neg (by omega), if_neg (by omega), if_neg (by omega), if_neg (by omega), if_pos (by assumption)] at k1; exact k1) | (rw [if_neg (by omega), if_neg (by omega), if_neg (by omega), if_neg (by omega), if_neg (by omega), if_neg (by omega), if_neg (by omega), if_neg (by omega)] at k1; exact k1)
  · intro hc5
    refine BX12_about_75 (by first | assumption | exact up_at _ _ _ | (rw [up_ne (by omega)]; first | assumption | exact up_at _ _ _ | (rw [up_ne (by omega)]; first | assumption | exact up_at _ _ _ | (rw [up_ne (by omega)]; assumption)))) (by rfl) (by first | assumption | exact up_at _ _ _ | (rw [up_ne (by omega)]; first | assumption | exact up_at _ _ _ | (rw [up_ne (by omega)]; first | assumption | exact up_at _ _ _ | (rw [up_ne (by omega)]; assumption)))) (by rfl) (by first | assumption | exact up_at _ _ _ | (rw [up_ne (by omega)]; first | assumption | exact up_at _ _ _ | (rw [up_ne (by omega)]; first | assumption | exact up_at _ _ _ | (rw [up_ne (by omega)]; assumption)))) (by rfl) ?_
    first | (rw [if_pos (by assumption)] at k1; exact k1) | (rw [if_neg (by omega), if_pos (by assumption)] at k1; exact k1) | (rw [if_neg (by omega), if_neg (by omega), if_pos (by assumption)] at k1; exact k1) | (rw [if_neg (by omega), if_neg (by omega), if_neg (by omega), if_pos (by assumption)] at k1; exact k1) | (rw [if_neg (by omega), if_neg (by omega), if_neg (by omega), if_neg (by omega), if_pos (by assumption)] at k1; exact k1) | (rw [if_neg (by omega), if_neg (by omega), if_neg (by omega), if_neg (by omega), if_neg (by omega), if_pos (by assumption)] at k1; exact k1) | (rw [if_neg (by omega), if_neg (by omega), if_neg (by omega), if_neg (by omega), if_neg (by omega), if_neg (by omega), if_pos (by assumption)] at k1; exact k1) | (rw [if_neg (by omega), if_neg (by omega), if_neg (by omega), if_neg (by omega), if_neg (by omega), if_neg (by omega), if_neg (by omega), if_pos (by assumption)] at k1; exact k1) | (rw [if_neg (by omega), if_neg (by omega), if_neg (by omega), if_neg (by omega), if_neg (by omega), if_neg (by omega), if_neg (by omega), if_neg (by omega)] at k1; exact k1)
  · intro hc6
    refine BX12_about_86 (by first | assumption | exact up_at _ _ _ | (rw [up_ne (by omega)]; first | assumption | exact up_at _ _ _ | (rw [up_ne (by omega)]; first | assumption | exact up_at _ _ _ | (rw [up_ne (by omega)]; assumption)))) (by rfl) (by first | assumption | exact up_at _ _ _ | (rw [up_ne (by omega)]; first | assumption | exact up_at _ _ _ | (rw [up_ne (by omega)]; first | assumption | exact up_at _ _ _ | (rw [up_ne (by omega)]; assumption)))) (by rfl) (by first | assumption | exact up_at _ _ _ | (rw [up_ne (by omega)]; first | assumption | exact up_at _ _ _ | (rw [up_ne (by omega)]; first | assumption | exact up_at _ _ _ | (rw [up_ne (by omega)]; assumption)))) (by rfl) ?_
    first | (rw [if_pos (by assumption)] at k1; exact k1) | (rw [if_neg (by omega), if_pos (by assumption)] at k1; exact k1) | (rw [if_neg (by omega), if_neg (by omega), if_pos (by assumption)] at k1; exact k1) | (rw [if_neg (by omega), if_neg (by omega), if_neg (by omega), if_pos (by assumption)] at k1; exact k1) | (rw [if_neg (by omega), if_neg (by omega), if_neg (by omega), if_neg (by omega), if_pos (by assumption)] at k1; exact k1) | (rw [if_neg (by omega), if_neg (by omega), if_neg (by omega), if_neg (by omega), if_neg (by omega), if_pos (by assumption)] at k1; exact k1) | (rw [if_neg (by omega), if_neg (by omega), if_neg (by omega), if_neg (by omega), if_neg (by omega), if_neg (by omega), if_pos (by assumption)] at k1; exact k1) | (rw [if_neg (by omega), if_neg (by omega), if_neg (by omega), if_neg (by omega), if_neg (by omega), if_neg (by omega), if_neg (by omega), if_pos (by assumption)] at k1; exact k1) | (rw [if_neg (by omega), if_neg (by omega), if_neg (by omega), if_neg (by omega), if_neg (by omega), if_neg (by omega), if_neg (by omega), if_neg (by omega)] at k1; exact k1)
  · intro hc7
    refine BX12_about_97 (by first | assumption | exact up_at _ _ _ | (rw [up_ne (by omega)]; first | assumption | exact up_at _ _ _ | (rw [up_ne (by omega)]; first | assumption | exact up_at _ _ _ | (rw [up_ne (by omega)]; assumption)))) (by rfl) (by first | assumption | exact up_at _ _ _ | (rw [up_ne (by omega)]; first | assumption | exact up_at _ _ _ | (rw [up_ne (by omega)]; first | assumption | exact up_at _ _ _ | (rw [up_ne (by omega)]; assumption)))) (by rfl) (by first | assumption | exact up_at _ _ _ | (rw [up_ne (by omega)]; first | assumption | exact up_at _ _ _ | (rw [up_ne (by omega)]; first | assumption | exact up_at _ _ _ | (rw [up_ne (by omega)]; assumption)))) (by rfl) ?_
    first | (rw [if_pos (by assumption)] at k1; exact k1) | (rw [if_neg (by omega), if_pos (by assumption)] at k1; exact k1) | (rw [if_neg (by omega), if_neg (by omega), if_pos (by assumption)] at k1; exact k1) | (rw [if_neg (by omega), if_neg (by omega), if_neg (by omega), if_pos (by assumption)] at k1; exact k1) | (rw [if_neg (by omega), if_neg (by omega), if_neg (by omega), if_neg (by omega), if_pos (by assumption)] at k1; exact k1) | (rw [if_neg (by omega), if_neg (by omega), if_neg (by omega), if_neg (by omega), if_neg (by omega), if_pos (by assumption)] at k1; exact k1) | (rw [if_neg (by omega), if_neg (by omega), if_neg (by omega), if_neg (by omega), if_neg (by omega), if_neg (by omega), if_pos (by assumption)] at k1; exact k1) | (rw [if_neg (by omega), if_neg (by omega), if_neg (by omega), if_neg (by omega), if_neg (by omega), if_neg (by omega), if_neg (by omega), if_pos (by assumption)] at k1; exact k1) | (rw [if_neg (by omega), if_neg (by omega), if_neg (by omega), if_neg (by omega), if_neg (by omega), if_neg (by omega), if_neg (by omega), if_neg (by omega)] at k1; exact k1)
  · intro hc8
    refine BX12_about_108 (by first | assumption | exact up_at _ _ _ | (rw [up_ne (by omega)]; first | assumption | exact up_at _ _ _ | (rw [up_ne (by omega)]; first | assumption | exact up_at _ _ _ | (rw [up_ne (by omega)]; assumption)))) (by rfl) (by first | assumption | exact up_at _ _ _ | (rw [up_ne (by omega)]; first | assumption | exact up_at _ _ _ | (rw [up_ne (by omega)]; first | assumption | exact up_at _ _ _ | (rw [up_ne (by omega)]; assumption)))) (by rfl) (by first | assumption | exact up_at _ _ _ | (rw [up_ne (by omega)]; first | assumption | exact up_at _ _ _ | (rw [up_ne (by omega)]; first | assumption | exact up_at _ _ _ | (rw [up_ne (by omega)]; assumption)))) (by rfl) ?_
    first | (rw [if_pos (by assumption)] at k1; exact k1) | (rw [if_neg (by omega), if_pos (by assumption)] at k1; exact k1) | (rw [if_neg (by omega), if_neg (by omega), if_pos (by assumption)] at k1; exact k1) | (rw [if_neg (by omega), if_neg (by omega), if_neg (by omega), if_pos (by assumption)] at k1; exact k1) | (rw [if_neg (by omega), if_neg (by omega), if_neg (by omega), if_neg (by omega), if_pos (by assumption)] at k1; exact k1) | (rw [if_neg (by omega), if_neg (by omega), if_neg (by omega), if_neg (by omega), if_neg (by omega), if_pos (by assumption)] at k1; exact k1) | (rw [if_neg (by omega), if_neg (by omega), if_neg (by omega), if_neg (by omega), if_neg (by omega), if_neg (by omega), if_pos (by assumption)] at k1; exact k1) | (rw [if_neg (by omega), if_neg (by omega), if_neg (by omega), if_neg (by omega), if_neg (by omega), if_neg (by omega), if_neg (by omega), if_pos (by assumption)] at k1; exact k1) | (rw [if_neg (by omega), if_neg (by omega), if_neg (by omega), if_neg (by omega), if_neg (by omega), if_neg (by omega), if_neg (by omega), if_neg (by omega)] at k1; exact k1)
  · intro hc9
    refine BX12_about_119 (by first | assumption | exact up_at _ _ _ | (rw [up_ne (by omega)]; first | assumption | exact up_at _ _ _ | (rw [up_ne (by omega)]; first | assumption | exact up_at _ _ _ | (rw [up_ne (by omega)]; assumption)))) (by rfl) (by first | assumption | exact up_at _ _ _ | (rw [up_ne (by omega)]; first | assumption | exact up_at _ _ _ | (rw [up_ne (by omega)]; first | assumption | exact up_at _ _ _ | (rw [up_ne (by omega)]; assumption)))) (by rfl) ?_
    first | (rw [if_pos (by assumption)] at k1; exact k1) | (rw [if_neg (by omega), if_pos (by assumption)] at k1; exact k1) | (rw [if_neg (by omega), if_neg (by omega), if_pos (by assumption)] at k1; exact k1) | (rw [if_neg (by omega), if_neg (by omega), if_neg (by omega), if_pos (by assumption)] at k1; exact k1) | (rw [if_neg (by omega), if_neg (by omega), if_neg (by omega), if_neg (by omega), if_pos (by assumption)] at k1; exact k1) | (rw [if_neg (by omega), if_neg (by omega), if_neg (by omega), if_neg (by omega), if_neg (by omega), if_pos (by assumption)] at k1; exact k1) | (rw [if_neg (by omega), if_neg (by omega), if_neg (by omega), if_neg (by omega), if_neg (by omega), if_neg (by omega), if_pos (by assumption)] at k1; exact k1) | (rw [if_neg (by omega), if_neg (by omega), if_neg (by omega), if_neg (by omega), if_neg (by omega), if_neg (by omega), if_neg (by omega), if_pos (by assumption)] at k1; exact k1) | (rw [if_neg (by omega), if_neg (by omega), if_neg (by omega), if_neg (by omega), if_neg (by omega), if_neg (by omega), if_neg (by omega), if_neg (by omega)] at k1; exact k1)
end CALLS
