section WORK2
variable {d bc bs n : Nat} {h : aH} {Q : aQ} {a c s z : Nat} {l r : List Int} {u v w i j k b np : Int} {len : Nat} {L S pl lk cu : Int → Int} {l6 l7 l8 : Option aV}
def WkK (d bc bs : Nat) (h : aH) (n : Nat) (Q : aQ) (a c s z : Nat) (b j : Int) (r : List Int) : Prop := ∀ h1 l6 l7 l8, Fr h h1 a 2 → IsLl h1 a r → Rn (d + 4) bc bs mX2_workOff 8 [some (vR (some a)), some (vR (some c)), some (vR (some s)), some (vR (some z)), some (vI b), some (vI j), l6, l7, l8] [] h1 n Q
theorem wk45 (sl : IsLl h a l) (i0 : 0 ≤ i) (i1 : i < 300) (w0 : 0 ≤ w) (w1 : w < 20000) (K : WkK d bc bs h n Q a c s z b (i + w + 1) l) : Rn (d + 4) bc bs mX2_workOff 45 [some (vR (some a)), some (vR (some c)), some (vR (some s)), some (vR (some z)), some (vI b), some (vI i), some (vI k), some (vI w), l8] [] h n Q := by
  refine BX2_workOff_45  ?_
  refine R_J9_max  ?_
  refine BX2_workOff_53 (by first | omega | assumption | (simp only [Ls_len]; omega) | exact Ls_get (by omega) (by omega) | rfl | decide) (by first | omega | assumption | (simp only [Ls_len]; omega) | exact Ls_get (by omega) (by omega) | rfl | decide) ?_
  rw [show i + max 0 w + 1 = i + w + 1 by omega]
  exact K _ _ _ _ (Fr.rf _ _ _) sl
theorem wk66 (sl : IsLl h a (v :: l)) (hl : l.length < 300) (ha : a ≠ 0) (i0 : 0 ≤ i) (i1 : i < 300) (w0 : 0 ≤ w) (w1 : w < 20000) (K : WkK d bc bs h n Q a c s z b (if v = 0 then i + w + 1 else i + 1) l) : Rn (d + 4) bc bs mX2_workOff 66 [some (vR (some a)), some (vR (some c)), some (vR (some s)), some (vR (some z)), some (vI b), some (vI i), some (vI k), some (vI w), l8] [] h n Q := by
  have s1 := sl.choose_spec.choose_spec.1.1
  refine BX2_workOff_66 (by first | assumption | exact up_at _ _ _ | (rw [up_ne (by omega)]; first | assumption | exact up_at _ _ _ | (rw [up_ne (by omega)]; first | assumption | exact up_at _ _ _ | (rw [up_ne (by omega)]; assumption)))) ?_
  refine R_X2_pop (by first | omega | assumption | (simp only [Ls_len]; omega) | exact Ls_get (by omega) (by omega) | rfl | decide) (by first | omega | assumption | (simp only [Ls_len]; omega) | exact Ls_get (by omega) (by omega) | rfl | decide) (by first | omega | assumption | (simp only [Ls_len]; omega) | exact Ls_get (by omega) (by omega) | rfl | decide) ?_
  intro h67 r67 s67
  refine BX2_workOff_70  ?_ ?_
  · intro hc1
    refine BX2_workOff_220 (by first | omega | assumption | (simp only [Ls_len]; omega) | exact Ls_get (by omega) (by omega) | rfl | decide) ?_
    first | (rw [show i + max 0 w + 1 = i + w + 1 by omega]; rw [if_pos (by omega)] at K; exact K _ _ _ _ r67 s67) | (rw [if_neg (by omega)] at K; exact K _ _ _ _ r67 s67)
  · intro hc2
    refine BX2_workOff_73  ?_
    refine R_J9_max  ?_
    refine BX2_workOff_81 (by first | omega | assumption | (simp only [Ls_len]; omega) | exact Ls_get (by omega) (by omega) | rfl | decide) (by first | omega | assumption | (simp only [Ls_len]; omega) | exact Ls_get (by omega) (by omega) | rfl | decide) ?_
    first | (rw [show i + max 0 w + 1 = i + w + 1 by omega]; rw [if_pos (by omega)] at K; exact K _ _ _ _ r67 s67) | (rw [if_neg (by omega)] at K; exact K _ _ _ _ r67 s67)
theorem wk93 (sl : IsLl h a l) (hl : l.length < 300) (ha : a ≠ 0) (i0 : 0 ≤ i) (i1 : i < 300) (K : WkK d bc bs h n Q a c s z b (i + 1) (w :: l)) : Rn (d + 4) bc bs mX2_workOff 93 [some (vR (some a)), some (vR (some c)), some (vR (some s)), some (vR (some z)), some (vI b), some (vI i), some (vI k), some (vI w), l8] [] h n Q := by
  have s1 := sl.choose_spec.choose_spec.1.1
  refine BX2_workOff_93 (by first | assumption | exact up_at _ _ _ | (rw [up_ne (by omega)]; first | assumption | exact up_at _ _ _ | (rw [up_ne (by omega)]; first | assumption | exact up_at _ _ _ | (rw [up_ne (by omega)]; assumption)))) ?_
  refine R_X2_push (by first | omega | assumption | (simp only [Ls_len]; omega) | exact Ls_get (by omega) (by omega) | rfl | decide) (by first | omega | assumption | (simp only [Ls_len]; omega) | exact Ls_get (by omega) (by omega) | rfl | decide) (by first | omega | assumption | (simp only [Ls_len]; omega) | exact Ls_get (by omega) (by omega) | rfl | decide) ?_
  intro h96 r96 s96
  refine BX2_workOff_99 (by first | omega | assumption | (simp only [Ls_len]; omega) | exact Ls_get (by omega) (by omega) | rfl | decide) ?_
  exact K _ _ _ _ r96 s96
theorem wk116 (sl : IsLl h a l) (hl : l.length < 300) (ha : a ≠ 0) (i0 : 0 ≤ i) (i1 : i < 300) (e : IsSe h s S) (f : IsSh h z np pl lk cu) (hs : s ≠ 0) (hz : z ≠ 0) (hn : np ≤ 6) (h0 : 0 ≤ b) (h1 : b < 12) (h2 : 0 ≤ S 72) (h3 : S 72 ≤ 12) (h4 : -1000000 ≤ S 73 - S (b * 6 + 5)) (h5 : S 73 - S (b * 6 + 5) ≤ 1000000) (x0 : 23 ≤ k) (x1 : k ≤ 30) (K : WkK d bc bs h n Q a c s z b (i + 1) (envM S np lk b (k - 23) :: l)) : Rn (d + 4) bc bs mX2_workOff 116 [some (vR (some a)), some (vR (some c)), some (vR (some s)), some (vR (some z)), some (vI b), some (vI i), some (vI k), some (vI w), l8] [] h n Q := by
  have s1 := sl.choose_spec.choose_spec.1.1
  refine BX2_workOff_116  ?_
  refine R_X2_named (by first | omega | assumption | (simp only [Ls_len]; omega) | exact Ls_get (by omega) (by omega) | rfl | decide) (by first | omega | assumption | (simp only [Ls_len]; omega) | exact Ls_get (by omega) (by omega) | rfl | decide) (by first | omega | assumption | (simp only [Ls_len]; omega) | exact Ls_get (by omega) (by omega) | rfl | decide) (by first | omega | assumption | (simp only [Ls_len]; omega) | exact Ls_get (by omega) (by omega) | rfl | decide) (by first | omega | assumption | (simp only [Ls_len]; omega) | exact Ls_get (by omega) (by omega) | rfl | decide) (by first | omega | assumption | (simp only [Ls_len]; omega) | exact Ls_get (by omega) (by omega) | rfl | decide) (by first | omega | assumption | (simp only [Ls_len]; omega) | exact Ls_get (by omega) (by omega) | rfl | decide) (by first | omega | assumption | (simp only [Ls_len]; omega) | exact Ls_get (by omega) (by omega) | rfl | decide) (by first | omega | assumption | (simp only [Ls_len]; omega) | exact Ls_get (by omega) (by omega) | rfl | decide) (by first | omega | assumption | (simp only [Ls_len]; omega) | exact Ls_get (by omega) (by omega) | rfl | decide) (by first | omega | assumption | (simp only [Ls_len]; omega) | exact Ls_get (by omega) (by omega) | rfl | decide) (by first | omega | assumption | (simp only [Ls_len]; omega) | exact Ls_get (by omega) (by omega) | rfl | decide) (by first | omega | assumption | (simp only [Ls_len]; omega) | exact Ls_get (by omega) (by omega) | rfl | decide) ?_
  refine BX2_workOff_126 (by first | assumption | exact up_at _ _ _ | (rw [up_ne (by omega)]; first | assumption | exact up_at _ _ _ | (rw [up_ne (by omega)]; first | assumption | exact up_at _ _ _ | (rw [up_ne (by omega)]; assumption)))) ?_
  refine R_X2_push (by first | omega | assumption | (simp only [Ls_len]; omega) | exact Ls_get (by omega) (by omega) | rfl | decide) (by first | omega | assumption | (simp only [Ls_len]; omega) | exact Ls_get (by omega) (by omega) | rfl | decide) (by first | omega | assumption | (simp only [Ls_len]; omega) | exact Ls_get (by omega) (by omega) | rfl | decide) ?_
  intro h126 r126 s126
  refine BX2_workOff_129 (by first | omega | assumption | (simp only [Ls_len]; omega) | exact Ls_get (by omega) (by omega) | rfl | decide) ?_
  exact K _ _ _ _ r126 s126
theorem wk139 (sl : IsLl h a (v :: l)) (hl : l.length < 299) (ha : a ≠ 0) (i0 : 0 ≤ i) (i1 : i < 300) (f : IsSh h z np pl lk cu) (hz : z ≠ 0) (hn : np ≤ 6) (hd : z + 4 ≤ a ∨ a + 2 ≤ z) (K : WkK d bc bs h n Q a c s z b (i + 1) (atP np pl v :: l)) : Rn (d + 4) bc bs mX2_workOff 139 [some (vR (some a)), some (vR (some c)), some (vR (some s)), some (vR (some z)), some (vI b), some (vI i), some (vI k), some (vI w), l8] [] h n Q := by
  have s1 := sl.choose_spec.choose_spec.1.1
  refine BX2_workOff_139 (by first | assumption | exact up_at _ _ _ | (rw [up_ne (by omega)]; first | assumption | exact up_at _ _ _ | (rw [up_ne (by omega)]; first | assumption | exact up_at _ _ _ | (rw [up_ne (by omega)]; assumption)))) ?_
  refine R_X2_pop (by first | omega | assumption | (simp only [Ls_len]; omega) | exact Ls_get (by omega) (by omega) | rfl | decide) (by first | omega | assumption | (simp only [Ls_len]; omega) | exact Ls_get (by omega) (by omega) | rfl | decide) (by first | omega | assumption | (simp only [Ls_len]; omega) | exact Ls_get (by omega) (by omega) | rfl | decide) ?_
  intro h142 r142 s142
  have s1 := s142.choose_spec.choose_spec.1.1
  have f := f.fr r142 (by omega)
  have f1 := f.1
  refine BX2_workOff_145 (by first | assumption | exact up_at _ _ _ | (rw [up_ne (by omega)]; first | assumption | exact up_at _ _ _ | (rw [up_ne (by omega)]; first | assumption | exact up_at _ _ _ | (rw [up_ne (by omega)]; assumption)))) ?_
  refine R_X7_placeOf (by first | omega | assumption | (simp only [Ls_len]; omega) | exact Ls_get (by omega) (by omega) | rfl | decide) (by first | omega | assumption | (simp only [Ls_len]; omega) | exact Ls_get (by omega) (by omega) | rfl | decide) ?_
  refine BX2_workOff_148 (by first | assumption | exact up_at _ _ _ | (rw [up_ne (by omega)]; first | assumption | exact up_at _ _ _ | (rw [up_ne (by omega)]; first | assumption | exact up_at _ _ _ | (rw [up_ne (by omega)]; assumption)))) ?_
  refine R_X2_push (by first | omega | assumption | (simp only [Ls_len]; omega) | exact Ls_get (by omega) (by omega) | rfl | decide) (by first | omega | assumption | (simp only [Ls_len]; omega) | exact Ls_get (by omega) (by omega) | rfl | decide) (by first | omega | assumption | (simp only [Ls_len]; omega) | exact Ls_get (by omega) (by omega) | rfl | decide) ?_
  intro h148 r148 s148
  refine BX2_workOff_151 (by first | omega | assumption | (simp only [Ls_len]; omega) | exact Ls_get (by omega) (by omega) | rfl | decide) ?_
  exact K _ _ _ _ (r142.tr r148) s148
theorem wk161 (sl : IsLl h a (v :: l)) (hl : l.length < 299) (ha : a ≠ 0) (i0 : 0 ≤ i) (i1 : i < 300) (hv : okV v) (K : WkK d bc bs h n Q a c s z b (i + 1) (-v :: l)) : Rn (d + 4) bc bs mX2_workOff 161 [some (vR (some a)), some (vR (some c)), some (vR (some s)), some (vR (some z)), some (vI b), some (vI i), some (vI k), some (vI w), l8] [] h n Q := by
  have s1 := sl.choose_spec.choose_spec.1.1
  unfold okV at hv
  refine BX2_workOff_161 (by first | assumption | exact up_at _ _ _ | (rw [up_ne (by omega)]; first | assumption | exact up_at _ _ _ | (rw [up_ne (by omega)]; first | assumption | exact up_at _ _ _ | (rw [up_ne (by omega)]; assumption)))) ?_
  refine R_X2_pop (by first | omega | assumption | (simp only [Ls_len]; omega) | exact Ls_get (by omega) (by omega) | rfl | decide) (by first | omega | assumption | (simp only [Ls_len]; omega) | exact Ls_get (by omega) (by omega) | rfl | decide) (by first | omega | assumption | (simp only [Ls_len]; omega) | exact Ls_get (by omega) (by omega) | rfl | decide) ?_
  intro h163 r163 s163
  have s1 := s163.choose_spec.choose_spec.1.1
  refine BX2_workOff_166 (by first | omega | assumption | (simp only [Ls_len]; omega) | exact Ls_get (by omega) (by omega) | rfl | decide) (by first | assumption | exact up_at _ _ _ | (rw [up_ne (by omega)]; first | assumption | exact up_at _ _ _ | (rw [up_ne (by omega)]; first | assumption | exact up_at _ _ _ | (rw [up_ne (by omega)]; assumption)))) ?_
  refine R_X2_push (by first | omega | assumption | (simp only [Ls_len]; omega) | exact Ls_get (by omega) (by omega) | rfl | decide) (by first | omega | assumption | (simp only [Ls_len]; omega) | exact Ls_get (by omega) (by omega) | rfl | decide) (by first | omega | assumption | (simp only [Ls_len]; omega) | exact Ls_get (by omega) (by omega) | rfl | decide) ?_
  intro h167 r167 s167
  refine BX2_workOff_170 (by first | omega | assumption | (simp only [Ls_len]; omega) | exact Ls_get (by omega) (by omega) | rfl | decide) ?_
  exact K _ _ _ _ (r163.tr r167) s167
theorem wk180 (sl : IsLl h a (v :: l)) (hl : l.length < 299) (ha : a ≠ 0) (i0 : 0 ≤ i) (i1 : i < 300) (K : WkK d bc bs h n Q a c s z b (i + 1) ((if v = 0 then 1 else 0) :: l)) : Rn (d + 4) bc bs mX2_workOff 180 [some (vR (some a)), some (vR (some c)), some (vR (some s)), some (vR (some z)), some (vI b), some (vI i), some (vI k), some (vI w), l8] [] h n Q := by
  have s1 := sl.choose_spec.choose_spec.1.1
  refine BX2_workOff_180 (by first | assumption | exact up_at _ _ _ | (rw [up_ne (by omega)]; first | assumption | exact up_at _ _ _ | (rw [up_ne (by omega)]; first | assumption | exact up_at _ _ _ | (rw [up_ne (by omega)]; assumption)))) ?_
  refine R_X2_pop (by first | omega | assumption | (simp only [Ls_len]; omega) | exact Ls_get (by omega) (by omega) | rfl | decide) (by first | omega | assumption | (simp only [Ls_len]; omega) | exact Ls_get (by omega) (by omega) | rfl | decide) (by first | omega | assumption | (simp only [Ls_len]; omega) | exact Ls_get (by omega) (by omega) | rfl | decide) ?_
  intro h182 r182 s182
  have s1 := s182.choose_spec.choose_spec.1.1
  refine BX2_workOff_185  ?_ ?_
  · intro hc1
    refine BX2_workOff_192 (by first | assumption | exact up_at _ _ _ | (rw [up_ne (by omega)]; first | assumption | exact up_at _ _ _ | (rw [up_ne (by omega)]; first | assumption | exact up_at _ _ _ | (rw [up_ne (by omega)]; assumption)))) ?_
    refine R_X2_push (by first | omega | assumption | (simp only [Ls_len]; omega) | exact Ls_get (by omega) (by omega) | rfl | decide) (by first | omega | assumption | (simp only [Ls_len]; omega) | exact Ls_get (by omega) (by omega) | rfl | decide) (by first | omega | assumption | (simp only [Ls_len]; omega) | exact Ls_get (by omega) (by omega) | rfl | decide) ?_
    intro h193 r193 s193
    refine BX2_workOff_196 (by first | omega | assumption | (simp only [Ls_len]; omega) | exact Ls_get (by omega) (by omega) | rfl | decide) ?_
    first | (rw [if_pos (by omega)] at K; exact K _ _ _ _ (r182.tr r193) s193) | (rw [if_neg (by omega)] at K; exact K _ _ _ _ (r182.tr r193) s193)
  · intro hc2
    refine BX2_workOff_188 (by first | assumption | exact up_at _ _ _ | (rw [up_ne (by omega)]; first | assumption | exact up_at _ _ _ | (rw [up_ne (by omega)]; first | assumption | exact up_at _ _ _ | (rw [up_ne (by omega)]; assumption)))) ?_
    refine R_X2_push (by first | omega | assumption | (simp only [Ls_len]; omega) | exact Ls_get (by omega) (by omega) | rfl | decide) (by first | omega | assumption | (simp only [Ls_len]; omega) | exact Ls_get (by omega) (by omega) | rfl | decide) (by first | omega | assumption | (simp only [Ls_len]; omega) | exact Ls_get (by omega) (by omega) | rfl | decide) ?_
    intro h193 r193 s193
    refine BX2_workOff_196 (by first | omega | assumption | (simp only [Ls_len]; omega) | exact Ls_get (by omega) (by omega) | rfl | decide) ?_
    first | (rw [if_pos (by omega)] at K; exact K _ _ _ _ (r182.tr r193) s193) | (rw [if_neg (by omega)] at K; exact K _ _ _ _ (r182.tr r193) s193)
theorem wk199 (sl : IsLl h a (v :: u :: l)) (hl : l.length < 298) (ha : a ≠ 0) (i0 : 0 ≤ i) (i1 : i < 300) (hv : okV v) (hu : okV u) (K : WkK d bc bs h n Q a c s z b (i + 1) (joinM k u v :: l)) : Rn (d + 4) bc bs mX2_workOff 199 [some (vR (some a)), some (vR (some c)), some (vR (some s)), some (vR (some z)), some (vI b), some (vI i), some (vI k), some (vI w), l8] [] h n Q := by
  have s1 := sl.choose_spec.choose_spec.1.1
  have q1 : (u :: l).length < 300 := by rw [List.length_cons]; omega
  refine BX2_workOff_199 (by first | assumption | exact up_at _ _ _ | (rw [up_ne (by omega)]; first | assumption | exact up_at _ _ _ | (rw [up_ne (by omega)]; first | assumption | exact up_at _ _ _ | (rw [up_ne (by omega)]; assumption)))) ?_
  refine R_X2_pop (by first | omega | assumption | (simp only [Ls_len]; omega) | exact Ls_get (by omega) (by omega) | rfl | decide) (by first | omega | assumption | (simp only [Ls_len]; omega) | exact Ls_get (by omega) (by omega) | rfl | decide) (by first | omega | assumption | (simp only [Ls_len]; omega) | exact Ls_get (by omega) (by omega) | rfl | decide) ?_
  intro h200 r200 s200
  have s1 := s200.choose_spec.choose_spec.1.1
  refine BX2_workOff_203 (by first | assumption | exact up_at _ _ _ | (rw [up_ne (by omega)]; first | assumption | exact up_at _ _ _ | (rw [up_ne (by omega)]; first | assumption | exact up_at _ _ _ | (rw [up_ne (by omega)]; assumption)))) ?_
  refine R_X2_pop (by first | omega | assumption | (simp only [Ls_len]; omega) | exact Ls_get (by omega) (by omega) | rfl | decide) (by first | omega | assumption | (simp only [Ls_len]; omega) | exact Ls_get (by omega) (by omega) | rfl | decide) (by first | omega | assumption | (simp only [Ls_len]; omega) | exact Ls_get (by omega) (by omega) | rfl | decide) ?_
  intro h209 r209 s209
  have s1 := s209.choose_spec.choose_spec.1.1
  refine BX2_workOff_212  ?_
  refine R_X2_joined (by first | omega | assumption | (simp only [Ls_len]; omega) | exact Ls_get (by omega) (by omega) | rfl | decide) (by first | omega | assumption | (simp only [Ls_len]; omega) | exact Ls_get (by omega) (by omega) | rfl | decide) ?_
  refine BX2_workOff_217 (by first | assumption | exact up_at _ _ _ | (rw [up_ne (by omega)]; first | assumption | exact up_at _ _ _ | (rw [up_ne (by omega)]; first | assumption | exact up_at _ _ _ | (rw [up_ne (by omega)]; assumption)))) ?_
  refine R_X2_push (by first | omega | assumption | (simp only [Ls_len]; omega) | exact Ls_get (by omega) (by omega) | rfl | decide) (by first | omega | assumption | (simp only [Ls_len]; omega) | exact Ls_get (by omega) (by omega) | rfl | decide) (by first | omega | assumption | (simp only [Ls_len]; omega) | exact Ls_get (by omega) (by omega) | rfl | decide) ?_
  intro h217 r217 s217
  refine BX2_workOff_220 (by first | omega | assumption | (simp only [Ls_len]; omega) | exact Ls_get (by omega) (by omega) | rfl | decide) ?_
  exact K _ _ _ _ ((r200.tr r209).tr r217) s217
end WORK2
