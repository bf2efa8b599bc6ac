/-! The reading's small methods. -/
def okQ (F : Int → Int) (S : Ps) : Prop := 0 ≤ S.2.2.1 ∧ S.2.2.1 ≤ F 2 ∧ True
theorem okZ.q {F : Int → Int} {S : Ps} (z : okZ F S) : okQ F S := ⟨z.1, z.2.1, trivial⟩
def Gm (h : aH) (F : Int → Int) (cc : Int) (co we : Option Nat) (cl : Int → Int) (op iw : Int) (S : Ps) : Prop := (∃ v, IsTk h F (tkK F S.2.2.1) (tkS F S.2.2.1) v (tkN F S.2.2.1) ∧ (tkK F S.2.2.1 = 2 → v = tkV F S.2.2.1)) ∧ h 284 = cO 1 [vR (some 285), vR (some 286), vI cc, vI S.2.2.2.1, vI op, vI iw, vR co, vR we, vI S.1, vI S.2.1] ∧ h 285 = cI (Ls 96 cl) ∧ h 286 = cI (Ls 300 S.2.2.2.2)
theorem Gm.adv {h h1 : aH} {F cl : Int → Int} {cc op iw v : Int} {co we : Option Nat} {S : Ps} (s : Gm h F cc co we cl op iw S) (f : Fr h h1 282 2) (e : IsTk h1 F (tkK F (tkN F S.2.2.1)) (tkS F (tkN F S.2.2.1)) v (tkN F (tkN F S.2.2.1))) (y : tkK F (tkN F S.2.2.1) = 2 → v = tkV F (tkN F S.2.2.1)) : Gm h1 F cc co we cl op iw (advP F S) :=
  ⟨⟨v, e, y⟩, (f _ (by decide)).trans s.2.1, (f _ (by decide)).trans s.2.2.1, (f _ (by decide)).trans s.2.2.2⟩
theorem Gm.op {h : aH} {F cl : Int → Int} {cc op iw op2 : Int} {co we : Option Nat} {S : Ps} (s : Gm h F cc co we cl op iw S) : Gm (up h 284 (cO 1 [vR (some 285), vR (some 286), vI cc, vI S.2.2.2.1, vI op2, vI iw, vR co, vR we, vI S.1, vI S.2.1])) F cc co we cl op2 iw S := by
  obtain ⟨⟨v, tk, tv⟩, g1, g2, g3⟩ := s
  exact ⟨⟨v, tk.fr (Fr.one h 284 _) (by decide), tv⟩, up_at _ _ _, (up_ne (by decide)).trans g2, (up_ne (by decide)).trans g3⟩
section GRAM
variable {d bc bs n : Nat} {h : aH} {Q : aQ} {F cl : Int → Int} {cc op iw : Int} {co we : Option Nat} {S : Ps}
theorem R_X12_setCell2 {a : Nat} {i v : Int} {w : List Int} (hh : h a = cI w) (ha : a ≠ 0) (hl : w.length < 2147483648) (h0 : 0 ≤ i) (k1 : i < w.length → Q none (up h a (cI (w.set i.toNat v))) n) (k0 : w.length ≤ i → Q none h n) : Rn d bc bs mX12_setCell 0 [some (vR (some a)), some (vI i), some (vI v)] [] h n Q := by
  refine BX12_setCell_0  ?_ ?_
  · intro hc1
    refine BX12_setCell_14  ?_
    first | exact k1 (by omega) | exact k0 (by omega) | (exfalso; omega)
  · intro hc2
    refine BX12_setCell_4 (by first | assumption | exact up_at _ _ _ | (rw [up_ne (by omega)]; first | assumption | exact up_at _ _ _ | (rw [up_ne (by omega)]; first | assumption | exact up_at _ _ _ | (rw [up_ne (by omega)]; assumption)))) (by first | omega | assumption | (simp only [Ls_len]; omega) | exact Ls_get (by omega) (by omega) | rfl | decide) (by first | omega | assumption | (simp only [Ls_len]; omega) | exact Ls_get (by omega) (by omega) | rfl | decide) ?_ ?_
    · intro hc3
      refine BX12_setCell_14  ?_
      first | exact k1 (by omega) | exact k0 (by omega) | (exfalso; omega)
    · intro hc4
      refine BX12_setCell_10 (by first | assumption | exact up_at _ _ _ | (rw [up_ne (by omega)]; first | assumption | exact up_at _ _ _ | (rw [up_ne (by omega)]; first | assumption | exact up_at _ _ _ | (rw [up_ne (by omega)]; assumption)))) (by first | omega | assumption | (simp only [Ls_len]; omega) | exact Ls_get (by omega) (by omega) | rfl | decide) (by first | omega | assumption | (simp only [Ls_len]; omega) | exact Ls_get (by omega) (by omega) | rfl | decide) (by first | omega | assumption | (simp only [Ls_len]; omega) | exact Ls_get (by omega) (by omega) | rfl | decide) ?_
      try rw [Ls_set (by omega)]
      refine BX12_setCell_14  ?_
      first | exact k1 (by omega) | exact k0 (by omega) | (exfalso; omega)
theorem R_X2_sign {k w : Int} (k0 : 0 ≤ k) (k1 : k < 64) (w0 : -200000 ≤ w) (w1 : w ≤ 200000) (kk : Q (some (vI (w * 64 + k))) h n) : Rn d bc bs mX2_sign 0 [some (vI k), some (vI w)] [] h n Q := by
  refine BX2_sign_0 (by first | omega | assumption | (simp only [Ls_len]; omega) | exact Ls_get (by omega) (by omega) | rfl | decide) (by first | omega | assumption | (simp only [Ls_len]; omega) | exact Ls_get (by omega) (by omega) | rfl | decide) ?_
  exact kk
theorem R_X1_sees {k : Int} (s : Gm h F cc co we cl op iw S) (kt : seP F k S = true → Q (some (vI 1)) h n) (kf : seP F k S = false → Q (some (vI 0)) h n) : Rn d bc bs mX1_sees 0 [some (vR (some 284)), some (vR (some 282)), some (vI k)] [] h n Q := by
  obtain ⟨⟨tv, tk, tvv⟩, g1, g2, g3⟩ := id s; have tk1 := tk.1
  have e : seP F k S = decide (S.1 = 0 ∧ tkK F S.2.2.1 = k) := rfl
  rw [e] at kt kf
  refine BX1_sees_0 (by first | assumption | exact up_at _ _ _ | (rw [up_ne (by omega)]; first | assumption | exact up_at _ _ _ | (rw [up_ne (by omega)]; first | assumption | exact up_at _ _ _ | (rw [up_ne (by omega)]; assumption)))) (by rfl) ?_ ?_
  · intro hc1
    first
    | (exfalso; omega)
    | (
        refine BX1_sees_19  ?_
        first | exact kt (decide_eq_true (by omega)) | exact kf (decide_eq_false (by omega))
      )
  · intro hc2
    first
    | (exfalso; omega)
    | (
        refine BX1_sees_7 (by first | assumption | exact up_at _ _ _ | (rw [up_ne (by omega)]; first | assumption | exact up_at _ _ _ | (rw [up_ne (by omega)]; first | assumption | exact up_at _ _ _ | (rw [up_ne (by omega)]; assumption)))) (by rfl) ?_ ?_
        · intro hc3
          first
          | (exfalso; omega)
          | (
              refine BX1_sees_19  ?_
              first | exact kt (decide_eq_true (by omega)) | exact kf (decide_eq_false (by omega))
            )
        · intro hc4
          first
          | (exfalso; omega)
          | (
              refine BX1_sees_15  ?_
              first | exact kt (decide_eq_true (by omega)) | exact kf (decide_eq_false (by omega))
            )
      )
theorem R_X1_refuse {c : Int} (s : Gm h F cc co we cl op iw S) (k : ∀ h1, Fr h h1 282 5 → Gm h1 F cc co we cl op iw (rfP F c S) → Q none h1 n) : Rn d bc bs mX1_refuse 0 [some (vR (some 284)), some (vR (some 282)), some (vI c)] [] h n Q := by
  obtain ⟨⟨tv, tk, tvv⟩, g1, g2, g3⟩ := id s; have tk1 := tk.1
  unfold rfP at k
  refine BX1_refuse_0 (by first | assumption | exact up_at _ _ _ | (rw [up_ne (by omega)]; first | assumption | exact up_at _ _ _ | (rw [up_ne (by omega)]; first | assumption | exact up_at _ _ _ | (rw [up_ne (by omega)]; assumption)))) (by rfl) ?_ ?_
  · intro hc1
    first
    | (exfalso; omega)
    | (
        refine BX1_refuse_8 (by first | assumption | exact up_at _ _ _ | (rw [up_ne (by omega)]; first | assumption | exact up_at _ _ _ | (rw [up_ne (by omega)]; first | assumption | exact up_at _ _ _ | (rw [up_ne (by omega)]; assumption)))) (by simp) ?_
        refine BX1_refuse_13 (by first | assumption | exact up_at _ _ _ | (rw [up_ne (by omega)]; first | assumption | exact up_at _ _ _ | (rw [up_ne (by omega)]; first | assumption | exact up_at _ _ _ | (rw [up_ne (by omega)]; assumption)))) (by rfl) (by first | assumption | exact up_at _ _ _ | (rw [up_ne (by omega)]; first | assumption | exact up_at _ _ _ | (rw [up_ne (by omega)]; first | assumption | exact up_at _ _ _ | (rw [up_ne (by omega)]; assumption)))) (by simp) ?_
        refine BX1_refuse_21  ?_
        rw [if_pos (by omega)] at k
        rw [up_up]
        exact k _ ((Fr.one h 284 _).wd (by decide) (by decide)) ⟨⟨tv, tk.fr (Fr.one h 284 _) (by decide), tvv⟩, up_at _ _ _, (up_ne (by decide)).trans g2, (up_ne (by decide)).trans g3⟩
      )
  · intro hc2
    first
    | (exfalso; omega)
    | (
        refine BX1_refuse_7  ?_
        rw [if_neg (by omega)] at k
        exact k _ (Fr.rf _ _ _) s
      )
theorem R_X1_want {k : Int} (s : Gm h F cc co we cl op iw S) (o : okF F) (z : okQ F S) (hk : k ≠ 0) (kk : ∀ h1, Fr h h1 282 5 → Gm h1 F cc co we cl op iw (wanP F k S) → Q none h1 n) : Rn (d + 7) bc bs mX1_want 0 [some (vR (some 284)), some (vR (some 282)), some (vI k)] [] h n Q := by
  obtain ⟨⟨tv, tk, tvv⟩, g1, g2, g3⟩ := id s; have tk1 := tk.1
  unfold wanP at kk
  have tn : seP F k S = true → 0 ≤ tkN F S.2.2.1 ∧ tkN F S.2.2.1 ≤ F 2 := by
    intro w
    have q := (seP_kd w).2
    unfold kdP at q
    have := tkN_gt o z.1 z.2.1 (show tkK F S.2.2.1 ≠ 0 by omega)
    have := z.1
    omega
  refine BX1_want_0 (by first | assumption | exact up_at _ _ _ | (rw [up_ne (by omega)]; first | assumption | exact up_at _ _ _ | (rw [up_ne (by omega)]; first | assumption | exact up_at _ _ _ | (rw [up_ne (by omega)]; assumption)))) ?_
  refine R_X1_sees (by first | omega | assumption | (simp only [Ls_len]; omega) | exact Ls_get (by omega) (by omega) | rfl | decide) ?_ ?_
  · intro w3
    first | have tn := tn w3 | skip
    refine BX1_want_6  ?_ ?_
    · intro hc1
      exact absurd hc1 (by decide)
    · intro hc2
      refine BX1_want_9 (by first | assumption | exact up_at _ _ _ | (rw [up_ne (by omega)]; first | assumption | exact up_at _ _ _ | (rw [up_ne (by omega)]; first | assumption | exact up_at _ _ _ | (rw [up_ne (by omega)]; assumption)))) ?_
      refine R_X9_comeToNext (by first | omega | assumption | (simp only [Ls_len]; omega) | exact Ls_get (by omega) (by omega) | rfl | decide) (by first | omega | assumption | (simp only [Ls_len]; omega) | exact Ls_get (by omega) (by omega) | rfl | decide) (by first | omega | assumption | (simp only [Ls_len]; omega) | exact Ls_get (by omega) (by omega) | rfl | decide) (by first | omega | assumption | (simp only [Ls_len]; omega) | exact Ls_get (by omega) (by omega) | rfl | decide) ?_
      intro h10 v10 r10 e10 y10
      refine BX1_want_13  ?_
      rw [if_pos w3] at kk
      exact kk _ (r10.wd (by decide) (by decide)) (s.adv r10 e10 y10)
  · intro w3
    first | have tn := tn w3 | skip
    refine BX1_want_6  ?_ ?_
    · intro hc3
      refine BX1_want_16 (by first | assumption | exact up_at _ _ _ | (rw [up_ne (by omega)]; first | assumption | exact up_at _ _ _ | (rw [up_ne (by omega)]; first | assumption | exact up_at _ _ _ | (rw [up_ne (by omega)]; assumption)))) ?_
      refine R_X1_refuse (by first | omega | assumption | (simp only [Ls_len]; omega) | exact Ls_get (by omega) (by omega) | rfl | decide) ?_
      intro h19 r19 s19
      refine BX1_want_22  ?_
      rw [if_neg (by rw [w3]; decide)] at kk
      exact kk _ r19 s19
    · intro hc4
      exact absurd hc4 (by decide)
theorem R_X1_addSign {k w : Int} (s : Gm h F cc co we cl op iw S) (z0 : 0 ≤ S.2.2.2.1) (z1 : S.2.2.2.1 < 100000) (k0 : 0 ≤ k) (k1 : k < 64) (w0 : 0 ≤ w) (w1 : w ≤ 10000) (kk : ∀ h1, Fr h h1 282 5 → Gm h1 F cc co we cl op iw (addP k w S) → Q (some (vI S.2.2.2.1)) h1 n) : Rn (d + 1) bc bs mX1_addSign 0 [some (vR (some 284)), some (vI k), some (vI w), none] [] h n Q := by
  obtain ⟨⟨tv, tk, tvv⟩, g1, g2, g3⟩ := id s; have tk1 := tk.1
  have l1 := Ls_len 300 S.2.2.2.2
  have e : addP k w S = (S.1, S.2.1, S.2.2.1, S.2.2.2.1 + 1, stG S.2.2.2.2 S.2.2.2.1 (w * 64 + k)) := rfl
  rw [e] at kk
  refine BX1_addSign_0 (by first | assumption | exact up_at _ _ _ | (rw [up_ne (by omega)]; first | assumption | exact up_at _ _ _ | (rw [up_ne (by omega)]; first | assumption | exact up_at _ _ _ | (rw [up_ne (by omega)]; assumption)))) (by rfl) (by rfl) ?_
  refine R_X2_sign (by first | omega | assumption | (simp only [Ls_len]; omega) | exact Ls_get (by omega) (by omega) | rfl | decide) (by first | omega | assumption | (simp only [Ls_len]; omega) | exact Ls_get (by omega) (by omega) | rfl | decide) (by first | omega | assumption | (simp only [Ls_len]; omega) | exact Ls_get (by omega) (by omega) | rfl | decide) (by first | omega | assumption | (simp only [Ls_len]; omega) | exact Ls_get (by omega) (by omega) | rfl | decide) ?_
  refine BX1_addSign_15  ?_
  refine R_X12_setCell2 (by first | omega | assumption | (simp only [Ls_len]; omega) | exact Ls_get (by omega) (by omega) | rfl | decide) (by first | omega | assumption | (simp only [Ls_len]; omega) | exact Ls_get (by omega) (by omega) | rfl | decide) (by first | omega | assumption | (simp only [Ls_len]; omega) | exact Ls_get (by omega) (by omega) | rfl | decide) (by first | omega | assumption | (simp only [Ls_len]; omega) | exact Ls_get (by omega) (by omega) | rfl | decide) ?_ ?_
  · intro q1
    first | (have g1 : up h 286 (cI ((Ls 300 S.2.2.2.2).set (S.2.2.2.1).toNat (w * 64 + k))) 284 = _ := (up_ne (by decide)).trans g1) | skip
    refine BX1_addSign_18 (by first | assumption | exact up_at _ _ _ | (rw [up_ne (by omega)]; first | assumption | exact up_at _ _ _ | (rw [up_ne (by omega)]; first | assumption | exact up_at _ _ _ | (rw [up_ne (by omega)]; assumption)))) (by rfl) (by first | omega | assumption | (simp only [Ls_len]; omega) | exact Ls_get (by omega) (by omega) | rfl | decide) (by simp) ?_
    refine BX1_addSign_28  ?_
    first
    | (rw [stG, if_pos (by omega)] at kk
       rw [Ls_set z0]
       have f1 := Fr.one h 286 (cI (Ls 300 (fset S.2.2.2.2 S.2.2.2.1 (w * 64 + k))))
       exact kk _ ((f1.wd (by decide) (by decide)).put (by decide) (by decide)) ⟨⟨tv, (tk.fr f1 (by decide)).fr (Fr.one _ 284 _) (by decide), tvv⟩, up_at _ _ _, (up_ne (by decide)).trans ((up_ne (by decide)).trans g2), (up_ne (by decide)).trans (up_at _ _ _)⟩)
    | (rw [stG, if_neg (by omega)] at kk
       exact kk _ ((Fr.one h 284 _).wd (by decide) (by decide)) ⟨⟨tv, tk.fr (Fr.one h 284 _) (by decide), tvv⟩, up_at _ _ _, (up_ne (by decide)).trans g2, (up_ne (by decide)).trans g3⟩)
  · intro q2
    first | (have g1 : up h 286 (cI ((Ls 300 S.2.2.2.2).set (S.2.2.2.1).toNat (w * 64 + k))) 284 = _ := (up_ne (by decide)).trans g1) | skip
    refine BX1_addSign_18 (by first | assumption | exact up_at _ _ _ | (rw [up_ne (by omega)]; first | assumption | exact up_at _ _ _ | (rw [up_ne (by omega)]; first | assumption | exact up_at _ _ _ | (rw [up_ne (by omega)]; assumption)))) (by rfl) (by first | omega | assumption | (simp only [Ls_len]; omega) | exact Ls_get (by omega) (by omega) | rfl | decide) (by simp) ?_
    refine BX1_addSign_28  ?_
    first
    | (rw [stG, if_pos (by omega)] at kk
       rw [Ls_set z0]
       have f1 := Fr.one h 286 (cI (Ls 300 (fset S.2.2.2.2 S.2.2.2.1 (w * 64 + k))))
       exact kk _ ((f1.wd (by decide) (by decide)).put (by decide) (by decide)) ⟨⟨tv, (tk.fr f1 (by decide)).fr (Fr.one _ 284 _) (by decide), tvv⟩, up_at _ _ _, (up_ne (by decide)).trans ((up_ne (by decide)).trans g2), (up_ne (by decide)).trans (up_at _ _ _)⟩)
    | (rw [stG, if_neg (by omega)] at kk
       exact kk _ ((Fr.one h 284 _).wd (by decide) (by decide)) ⟨⟨tv, tk.fr (Fr.one h 284 _) (by decide), tvv⟩, up_at _ _ _, (up_ne (by decide)).trans g2, (up_ne (by decide)).trans g3⟩)
theorem R_X1_leadHere {k sk : Int} (s : Gm h F cc co we cl op iw S) (z0 : 0 ≤ S.2.2.2.1) (z1 : S.2.2.2.1 < 100000) (k0 : 0 ≤ k) (k1 : k < 64) (w0 : 0 ≤ sk) (w1 : sk < 100000) (kk : ∀ h1, Fr h h1 282 5 → Gm h1 F cc co we cl op iw (ledP sk k S) → Q none h1 n) : Rn (d + 1) bc bs mX1_leadHere 0 [some (vR (some 284)), some (vI sk), some (vI k)] [] h n Q := by
  obtain ⟨⟨tv, tk, tvv⟩, g1, g2, g3⟩ := id s; have tk1 := tk.1
  have l1 := Ls_len 300 S.2.2.2.2
  have e : ledP sk k S = (S.1, S.2.1, S.2.2.1, S.2.2.2.1, stG S.2.2.2.2 sk ((S.2.2.2.1 - 1 - sk) * 64 + k)) := rfl
  rw [e] at kk
  refine BX1_leadHere_0 (by first | assumption | exact up_at _ _ _ | (rw [up_ne (by omega)]; first | assumption | exact up_at _ _ _ | (rw [up_ne (by omega)]; first | assumption | exact up_at _ _ _ | (rw [up_ne (by omega)]; assumption)))) (by rfl) (by rfl) (by first | omega | assumption | (simp only [Ls_len]; omega) | exact Ls_get (by omega) (by omega) | rfl | decide) (by first | omega | assumption | (simp only [Ls_len]; omega) | exact Ls_get (by omega) (by omega) | rfl | decide) ?_
  refine R_X2_sign (by first | omega | assumption | (simp only [Ls_len]; omega) | exact Ls_get (by omega) (by omega) | rfl | decide) (by first | omega | assumption | (simp only [Ls_len]; omega) | exact Ls_get (by omega) (by omega) | rfl | decide) (by first | omega | assumption | (simp only [Ls_len]; omega) | exact Ls_get (by omega) (by omega) | rfl | decide) (by first | omega | assumption | (simp only [Ls_len]; omega) | exact Ls_get (by omega) (by omega) | rfl | decide) ?_
  refine BX1_leadHere_17  ?_
  refine R_X12_setCell2 (by first | omega | assumption | (simp only [Ls_len]; omega) | exact Ls_get (by omega) (by omega) | rfl | decide) (by first | omega | assumption | (simp only [Ls_len]; omega) | exact Ls_get (by omega) (by omega) | rfl | decide) (by first | omega | assumption | (simp only [Ls_len]; omega) | exact Ls_get (by omega) (by omega) | rfl | decide) (by first | omega | assumption | (simp only [Ls_len]; omega) | exact Ls_get (by omega) (by omega) | rfl | decide) ?_ ?_
  · intro q1
    refine BX1_leadHere_20  ?_
    first
    | (rw [stG, if_pos (by omega)] at kk
       rw [Ls_set w0]
       have f1 := Fr.one h 286 (cI (Ls 300 (fset S.2.2.2.2 sk ((S.2.2.2.1 - 1 - sk) * 64 + k))))
       exact kk _ (f1.wd (by decide) (by decide)) ⟨⟨tv, (tk.fr f1 (by decide)), tvv⟩, (up_ne (by decide)).trans g1, (up_ne (by decide)).trans g2, up_at _ _ _⟩)
    | (rw [stG, if_neg (by omega)] at kk
       exact kk _ (Fr.rf _ _ _) s)
  · intro q2
    refine BX1_leadHere_20  ?_
    first
    | (rw [stG, if_pos (by omega)] at kk
       rw [Ls_set w0]
       have f1 := Fr.one h 286 (cI (Ls 300 (fset S.2.2.2.2 sk ((S.2.2.2.1 - 1 - sk) * 64 + k))))
       exact kk _ (f1.wd (by decide) (by decide)) ⟨⟨tv, (tk.fr f1 (by decide)), tvv⟩, (up_ne (by decide)).trans g1, (up_ne (by decide)).trans g2, up_at _ _ _⟩)
    | (rw [stG, if_neg (by omega)] at kk
       exact kk _ (Fr.rf _ _ _) s)
theorem R_X1_isOpener {k : Int} (kt : opB k = true → Q (some (vI 1)) h n) (kf : opB k = false → Q (some (vI 0)) h n) : Rn d bc bs mX1_isOpener 0 [some (vI k)] [] h n Q := by
  refine BX1_isOpener_0  ?_ ?_
  · intro hc1
    first
    | (exfalso; omega)
    | (
        refine BX1_isOpener_30  ?_
        first | exact kt (decide_eq_true (by omega)) | exact kf (decide_eq_false (by omega))
      )
  · intro hc2
    first
    | (exfalso; omega)
    | (
        refine BX1_isOpener_6  ?_ ?_
        · intro hc3
          first
          | (exfalso; omega)
          | (
              refine BX1_isOpener_30  ?_
              first | exact kt (decide_eq_true (by omega)) | exact kf (decide_eq_false (by omega))
            )
        · intro hc4
          first
          | (exfalso; omega)
          | (
              refine BX1_isOpener_12  ?_ ?_
              · intro hc5
                first
                | (exfalso; omega)
                | (
                    refine BX1_isOpener_30  ?_
                    first | exact kt (decide_eq_true (by omega)) | exact kf (decide_eq_false (by omega))
                  )
              · intro hc6
                first
                | (exfalso; omega)
                | (
                    refine BX1_isOpener_18  ?_ ?_
                    · intro hc7
                      first
                      | (exfalso; omega)
                      | (
                          refine BX1_isOpener_30  ?_
                          first | exact kt (decide_eq_true (by omega)) | exact kf (decide_eq_false (by omega))
                        )
                    · intro hc8
                      first
                      | (exfalso; omega)
                      | (
                          refine BX1_isOpener_24  ?_ ?_
                          · intro hc9
                            first
                            | (exfalso; omega)
                            | (
                                refine BX1_isOpener_34  ?_
                                first | exact kt (decide_eq_true (by omega)) | exact kf (decide_eq_false (by omega))
                              )
                          · intro hc10
                            first
                            | (exfalso; omega)
                            | (
                                refine BX1_isOpener_30  ?_
                                first | exact kt (decide_eq_true (by omega)) | exact kf (decide_eq_false (by omega))
                              )
                        )
                  )
            )
      )
end GRAM
