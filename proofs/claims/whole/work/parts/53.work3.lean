section WORK3
variable {d bc bs n : Nat} {h : aH} {Q : aQ} {a c s z : Nat} {l r : List Int} {u v w i j k b np : Int} {len : Nat} {L S pl lk cu : Int → Int} {l6 l7 l8 : Option aV}
def WkH (h : aH) (a c s z len : Nat) (L S : Int → Int) (np : Int) (pl lk cu : Int → Int) (b : Int) : Prop := (a ≠ 0 ∧ c ≠ 0 ∧ s ≠ 0 ∧ z ≠ 0 ∧ (c + 1 ≤ a ∨ a + 2 ≤ c) ∧ (s + 4 ≤ a ∨ a + 2 ≤ s) ∧ (z + 4 ≤ a ∨ a + 2 ≤ z)) ∧ h c = cI (Ls len L) ∧ okL L len ∧ IsSe h s S ∧ IsSh h z np pl lk cu ∧ np ≤ 6 ∧ 0 ≤ b ∧ b < 12 ∧ 0 ≤ S 72 ∧ S 72 ≤ 12 ∧ -1000000 ≤ S 73 - S (b * 6 + 5) ∧ S 73 - S (b * 6 + 5) ≤ 1000000
theorem WkH.fr {h1 : aH} (w : WkH h a c s z len L S np pl lk cu b) (f : Fr h h1 a 2) : WkH h1 a c s z len L S np pl lk cu b := by
  obtain ⟨⟨w1, w2, w3, w4, w5, w6, w7⟩, w8, w9, w10, w11, w12⟩ := w
  exact ⟨⟨w1, w2, w3, w4, w5, w6, w7⟩, by rw [f _ (by omega)]; exact w8, w9, w10.fr f (by omega), w11.fr f (by omega), w12⟩
theorem wk20 (w : WkH h a c s z len L S np pl lk cu b) (sl : IsLl h a l) (hl : l.length < 300) (ho : okAll l) (i0 : 0 ≤ i) (i1 : i < len) (hst : stC L (envM S np lk b) (atP np pl) i l = some (j, r)) (K : WkK d bc bs h n Q a c s z b j r) : Rn (d + 4) bc bs mX2_workOff 20 [some (vR (some a)), some (vR (some c)), some (vR (some s)), some (vR (some z)), some (vI b), some (vI i), l6, l7, l8] [] h n Q := by
  obtain ⟨⟨w1, w2, w3, w4, w5, w6, w7⟩, w8, ⟨o1, o2, o3⟩, w10, w11, w12, w13, w14, w15, w16, w17, w18⟩ := w
  have o4 := o3 i i0 i1
  have hL := Ls_len len L
  have g4 : (Ls len L)[i.toNat]? = some (L i) := Ls_get i0 i1
  have hst2 := hst
  unfold stC at hst
  have W132 : L i % 64 ≠ 51 → L i % 64 ≠ 52 → L i % 64 ≠ 2 → ¬ (23 ≤ L i % 64 ∧ L i % 64 ≤ 30) → Rn (d + 4) bc bs mX2_workOff 132 [some (vR (some a)), some (vR (some c)), some (vR (some s)), some (vR (some z)), some (vI b), some (vI i), some (vI (L i % 64)), some (vI (L i / 64)), l8] [] h n Q := by
    intro n1 n2 n3 n4
    rw [if_neg n1, if_neg n2, if_neg n3, if_neg n4] at hst
    cases l with
    | nil => cases hst
    | cons v l =>
      dsimp only at hst
      obtain ⟨ov, ho⟩ := ho
      have hl : l.length < 299 := by simp only [List.length_cons] at hl; omega
      refine BX2_workOff_132  ?_ ?_
      · intro hc1
        refine BX2_workOff_154  ?_ ?_
        · intro hc2
          refine BX2_workOff_173  ?_ ?_
          · intro hc3
            rw [if_neg (by omega), if_neg (by omega), if_neg (by omega)] at hst
            cases l with
            | nil => cases hst
            | cons u l =>
              obtain ⟨ou, ho⟩ := ho
              obtain ⟨q1, q2, q3, q4⟩ := psh_some hst
              subst q1 q2
              exact wk199 sl (by simp only [List.length_cons] at hl; omega) w1 i0 (by omega) ov ou K
          · intro hc4
            rw [if_neg (by omega), if_neg (by omega), if_pos (by omega)] at hst
            obtain ⟨q1, q2, q3, q4⟩ := psh_some hst
            subst q1 q2
            exact wk180 sl hl w1 i0 (by omega) K
        · intro hc5
          rw [if_neg (by omega), if_pos (by omega)] at hst
          obtain ⟨q1, q2, q3, q4⟩ := psh_some hst
          subst q1 q2
          exact wk161 sl hl w1 i0 (by omega) ov K
      · intro hc6
        rw [if_pos (by omega)] at hst
        obtain ⟨q1, q2, q3, q4⟩ := psh_some hst
        subst q1 q2
        exact wk139 sl hl w1 i0 (by omega) w11 w4 w12 w7 K
  refine BX2_workOff_20 (by first | assumption | exact up_at _ _ _ | (rw [up_ne (by omega)]; first | assumption | exact up_at _ _ _ | (rw [up_ne (by omega)]; first | assumption | exact up_at _ _ _ | (rw [up_ne (by omega)]; assumption)))) (by first | omega | assumption | (simp only [Ls_len]; omega) | exact Ls_get (by omega) (by omega) | rfl | decide) (by first | exact Ls_get (by omega) (by omega) | assumption) (by first | omega | assumption | (simp only [Ls_len]; omega) | exact Ls_get (by omega) (by omega) | rfl | decide) (by first | omega | assumption | (simp only [Ls_len]; omega) | exact Ls_get (by omega) (by omega) | rfl | decide) ?_ ?_
  · intro hc1
    refine BX2_workOff_59  ?_ ?_
    · intro hc2
      refine BX2_workOff_87  ?_ ?_
      · intro hc3
        refine BX2_workOff_102  ?_ ?_
        · intro hc4
          exact W132 (by omega) (by omega) (by omega) (by omega)
        · intro hc5
          refine BX2_workOff_109  ?_ ?_
          · intro hc6
            exact W132 (by omega) (by omega) (by omega) (by omega)
          · intro hc7
            rw [if_neg (by omega), if_neg (by omega), if_neg (by omega), if_pos (by omega)] at hst
            obtain ⟨q1, q2, q3, q4⟩ := psh_some hst
            subst q1 q2
            exact wk116 sl hl w1 i0 (by omega) w10 w11 w3 w4 w12 w13 w14 w15 w16 w17 w18 (by omega) (by omega) K
      · intro hc8
        rw [if_neg (by omega), if_neg (by omega), if_pos (by omega)] at hst
        obtain ⟨q1, q2, q3, q4⟩ := psh_some hst
        subst q1 q2
        exact wk93 sl hl w1 i0 (by omega) K
    · intro hc9
      rw [if_neg (by omega), if_pos (by omega)] at hst
      cases l with
      | nil => cases hst
      | cons v r2 => cases hst; exact wk66 sl (by simp only [List.length_cons] at hl; omega) w1 i0 (by omega) (by omega) (by omega) K
  · intro hc10
    rw [if_pos (by omega)] at hst
    cases hst
    exact wk45 sl i0 (by omega) (by omega) (by omega) K
theorem stC_ok {env pl : Int → Int} (hl : l.length < 300) (ho : okAll l) (hst : stC L env pl i l = some (j, r)) : r.length < 300 ∧ okAll r := by
  have P : ∀ {i v : Int} {q : List Int}, okAll q → psh i v q = some (j, r) → r.length < 300 ∧ okAll r := by
    intro i v q hq hp
    obtain ⟨q1, q2, q3, q4⟩ := psh_some hp
    subst q2
    exact ⟨by rw [List.length_cons]; omega, q3, hq⟩
  unfold stC at hst
  split at hst
  · cases hst; exact ⟨hl, ho⟩
  · split at hst
    · cases l with
      | nil => cases hst
      | cons v q => cases hst; exact ⟨by simp only [List.length_cons] at hl; omega, ho.2⟩
    · split at hst
      · exact P ho hst
      · split at hst
        · exact P ho hst
        · cases l with
          | nil => cases hst
          | cons v q =>
            dsimp only at hst
            split at hst
            · exact P ho.2 hst
            · split at hst
              · exact P ho.2 hst
              · split at hst
                · exact P ho.2 hst
                · cases q with
                  | nil => cases hst
                  | cons u q => exact P ho.2.2 hst
theorem stC_fw {env pl : Int → Int} (i0 : 0 ≤ i) (h0 : 0 ≤ L i) (hst : stC L env pl i l = some (j, r)) : i < j := by
  have P : ∀ {v : Int} {q : List Int}, psh i v q = some (j, r) → i < j := by
    intro v q hp
    have := (psh_some hp).1
    omega
  unfold stC at hst
  split at hst
  · cases hst; omega
  · split at hst
    · cases l with
      | nil => cases hst
      | cons v q => cases hst; split <;> omega
    · split at hst
      · exact P hst
      · split at hst
        · exact P hst
        · cases l with
          | nil => cases hst
          | cons v q =>
            dsimp only at hst
            split at hst
            · exact P hst
            · split at hst
              · exact P hst
              · split at hst
                · exact P hst
                · cases q with
                  | nil => cases hst
                  | cons u q => exact P hst
theorem wk8 : ∀ (f : Nat) {h : aH} {l : List Int} {i : Int} {l6 l7 l8 : Option aV}, WkH h a c s z len L S np pl lk cu b → IsLl h a l → l.length < 300 → okAll l → 0 ≤ i → runC L (envM S np lk b) (atP np pl) len f i l = some v → (∀ h1, Fr h h1 a 2 → IsLl h1 a [] → Q (some (vI v)) h1 n) → Rn (d + 4) bc bs mX2_workOff 8 [some (vR (some a)), some (vR (some c)), some (vR (some s)), some (vR (some z)), some (vI b), some (vI i), l6, l7, l8] [] h n Q := by
  intro f
  induction f with
  | zero => intro h l i l6 l7 l8 w sl hl ho i0 hr K; cases hr
  | succ f ih =>
    intro h l i l6 l7 l8 w sl hl ho i0 hr K
    have hL := Ls_len len L
    have w8 := w.2.1
    have w2 := w.1.2.1
    have w9 := w.2.2.1.2.1
    unfold runC at hr
    refine BX2_workOff_8  ?_ ?_
    · intro hc1
      first
      | (exfalso; omega)
      | (rw [if_pos (by simp only [Ls_len] at *; omega)] at hr
         split at hr
         · cases hr
           have s1 := sl.choose_spec.choose_spec.1.1
           have w1 := w.1.1
           refine BX2_workOff_226 s1 ?_
           refine R_X2_pop sl w1 (by decide) ?_
           intro h5 r5 s5
           refine BX2_workOff_230 ?_
           exact K h5 r5 s5
         · cases hr)
    · intro hc2
      refine BX2_workOff_13 (by first | assumption | exact up_at _ _ _ | (rw [up_ne (by omega)]; first | assumption | exact up_at _ _ _ | (rw [up_ne (by omega)]; first | assumption | exact up_at _ _ _ | (rw [up_ne (by omega)]; assumption)))) (by first | omega | assumption | (simp only [Ls_len]; omega) | exact Ls_get (by omega) (by omega) | rfl | decide) (by first | omega | assumption | (simp only [Ls_len]; omega) | exact Ls_get (by omega) (by omega) | rfl | decide) ?_ ?_
      · intro hc3
        first
        | (exfalso; omega)
        | (rw [if_pos (by simp only [Ls_len] at *; omega)] at hr
           split at hr
           · cases hr
             have s1 := sl.choose_spec.choose_spec.1.1
             have w1 := w.1.1
             refine BX2_workOff_226 s1 ?_
             refine R_X2_pop sl w1 (by decide) ?_
             intro h5 r5 s5
             refine BX2_workOff_230 ?_
             exact K h5 r5 s5
           · cases hr)
      · intro hc4
        have i1 : i < (len : Int) := by simp only [Ls_len] at *; omega
        rw [if_neg (by omega)] at hr
        cases hst : stC L (envM S np lk b) (atP np pl) i l with
        | none => rw [hst] at hr; cases hr
        | some q =>
          obtain ⟨j, r⟩ := q
          rw [hst] at hr
          have ok := stC_ok hl ho hst
          have fw := stC_fw i0 (w.2.2.1.2.2 i i0 i1).1 hst
          refine wk20 w sl hl ho i0 i1 hst ?_
          intro h1 m6 m7 m8 f1 sl1
          exact ih (w.fr f1) sl1 ok.1 ok.2 (by omega) hr fun h2 f2 => K h2 (f1.tr f2)
theorem R_X2_workOff {f : Nat} (w : WkH h a c s z len L S np pl lk cu b) (sl : IsLl h a l) (hr : runC L (envM S np lk b) (atP np pl) len f 0 [] = some v) (K : ∀ h1, Fr h h1 a 2 → IsLl h1 a [] → Q (some (vI v)) h1 n) : Rn (d + 4) bc bs mX2_workOff 0 [some (vR (some a)), some (vR (some c)), some (vR (some s)), some (vR (some z)), some (vI b), none, none, none, none] [] h n Q := by
  obtain ⟨t, st, ⟨s1, s2⟩, s3⟩ := sl
  have w1 := w.1.1
  refine BX2_workOff_0 (by first | assumption | exact up_at _ _ _ | (rw [up_ne (by omega)]; first | assumption | exact up_at _ _ _ | (rw [up_ne (by omega)]; first | assumption | exact up_at _ _ _ | (rw [up_ne (by omega)]; assumption)))) (by simp) ?_
  refine BX2_workOff_5  ?_
  exact wk8 f (w.fr ((Fr.rf h a 2).put (by omega) (by omega))) ⟨0, st, ⟨up_at _ _ _, by rw [up_ne (by omega)]; exact s2⟩, (show Sk st [] 0 from rfl)⟩ (by decide) trivial (by decide) hr fun h1 f1 => K h1 (((Fr.rf h a 2).put (by omega) (by omega)).tr f1)
end WORK3
