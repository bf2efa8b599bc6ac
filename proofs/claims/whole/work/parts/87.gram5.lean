section GKM
variable {F cl : Int → Int} {cc iw : Int} {co we : Option Nat} {f : Nat}
theorem gk_11 (o : okF F) (A : GKA F cc co we cl iw f) : GK11 F cc co we cl iw (f + 1) := by
  intro d bc bs n h Q S r op hop hop0 s z hb ms k
  have C0 := fun {bc bs n : Nat} {h : aH} {Q : aQ} {S : Ps} (s : Gm h F cc co we cl op iw S) (z : okZ F S) (m : (F 2 - S.2.2.1) * 9 + 1 < f) (k : ∀ h1, Fr h h1 282 5 → Gm h1 F cc co we cl op iw (gk F iw f 0 op S) → Q none h1 n) => Rn.deep (d' := d + 10 * r + 17) (show d + 10 * r + 10 ≤ d + 10 * r + 17 by omega) ((A.1) d bc bs n h Q S r op hop hop0 s z trivial m k)
  have C3 := fun {bc bs n : Nat} {h : aH} {Q : aQ} {S : Ps} (s : Gm h F cc co we cl op iw S) (z : okZ F S) (m : (F 2 - S.2.2.1) * 9 + 3 < f) (k : ∀ h1, Fr h h1 282 5 → Gm h1 F cc co we cl op iw (gk F iw f 3 op S) → Q none h1 n) => Rn.deep (d' := d + 10 * r + 17) (show d + 10 * r + 12 ≤ d + 10 * r + 17 by omega) ((A.2.2.2.1) d bc bs n h Q S r op hop hop0 s z trivial m k)
  have C12 := fun {d bc bs n : Nat} {h : aH} {Q : aQ} {S : Ps} => (A.2.2.2.2.2.2.2.2.2.2.2.2) d bc bs n h Q S r op hop hop0
  have ek : gk F iw (f + 1) 11 op S = if kdP F S = 13 then wanP F 14 (gk F iw f 3 op (advP F S)) else if kdP F S = 32 then addP 32 0 (gk F iw f 0 op (wanP F 33 (gk F iw f 0 op (advP F S)))) else if kdP F S = 35 then gk F iw f 12 op (advP F S) else if kdP F S = 10 then addP 50 0 (gk F iw f 0 op (advP F S)) else addP (kdP F S) 0 (gk F iw f 0 op (advP F S)) := rfl
  rw [ek] at k
  have hb := op_in hb
  have kd : kdP F S = tkK F S.2.2.1 := rfl
  have o1 := o.1
  obtain ⟨q1, q2, q3, q4⟩ := id z
  have a := advP_le o z (by omega)
  have az := advZ o z (show kdP F S ≠ 0 by omega)
  have tn := tkN_gt o q1 q2 (show tkK F S.2.2.1 ≠ 0 by omega)
  have p1 : (advP F S).2.2.1 = tkN F S.2.2.1 := rfl
  have p0 : (advP F S).2.2.2.1 = S.2.2.2.1 := rfl
  have N : ∀ (k : Nat) (T : Ps), k < 11 → okZ F T → leQ F 0 T (gk F iw f k op T) := fun k T hk hT => by
    have w := gk_le (iw := iw) o f k op T hT (fun e => by omega) (fun e => by omega)
    rw [slP, if_pos (by omega)] at w
    exact w
  have L3 := N 3 _ (by decide) az
  have L0 := N 0 _ (by decide) az
  have z3 := L3.ok az
  have z4 := L0.ok az
  have w4 := wanP_le (k := 33) o z4 (by decide)
  have z5 := w4.ok z4
  have L5 := N 0 _ (by decide) z5
  have z6 := L5.ok z5
  obtain ⟨u1, u2, u3, u4⟩ := id z3
  obtain ⟨u5, u6, u7, u8⟩ := id z4
  obtain ⟨u9, u10, u11, u12⟩ := id z5
  obtain ⟨u13, u14, u15, u16⟩ := id z6
  obtain ⟨v1, v2, v3, v4⟩ := id L0
  obtain ⟨v5, v6, v7, v8⟩ := id w4
  obtain ⟨⟨tv, tk, tvv⟩, g1, g2, g3⟩ := id s; have tk1 := tk.1
  refine BX1_readOpened_0 (by first | assumption | exact up_at _ _ _ | (rw [up_ne (by omega)]; first | assumption | exact up_at _ _ _ | (rw [up_ne (by omega)]; first | assumption | exact up_at _ _ _ | (rw [up_ne (by omega)]; assumption)))) (by rfl) ?_
  refine R_X9_comeToNext (by first | omega | assumption | exact okZ.q (by assumption) | (simp only [Ls_len]; omega) | exact Ls_get (by omega) (by omega) | rfl | decide) (by first | omega | assumption | exact okZ.q (by assumption) | (simp only [Ls_len]; omega) | exact Ls_get (by omega) (by omega) | rfl | decide) (by first | omega | assumption | exact okZ.q (by assumption) | (simp only [Ls_len]; omega) | exact Ls_get (by omega) (by omega) | rfl | decide) (by first | omega | assumption | exact okZ.q (by assumption) | (simp only [Ls_len]; omega) | exact Ls_get (by omega) (by omega) | rfl | decide) ?_
  intro h6 v6 r6 e6 y6
  have s := s.adv r6 e6 y6
  obtain ⟨⟨tv, tk, tvv⟩, g1, g2, g3⟩ := id s; have tk1 := tk.1
  refine BX1_readOpened_9  ?_ ?_ ?_ ?_ ?_
  · intro hc1
    refine BX1_readOpened_119 (by first | assumption | exact up_at _ _ _ | (rw [up_ne (by omega)]; first | assumption | exact up_at _ _ _ | (rw [up_ne (by omega)]; first | assumption | exact up_at _ _ _ | (rw [up_ne (by omega)]; assumption)))) ?_
    refine C0 (by first | omega | assumption | exact okZ.q (by assumption) | (simp only [Ls_len]; omega) | exact Ls_get (by omega) (by omega) | rfl | decide) (by first | omega | assumption | exact okZ.q (by assumption) | (simp only [Ls_len]; omega) | exact Ls_get (by omega) (by omega) | rfl | decide) (by first | omega | assumption | exact okZ.q (by assumption) | (simp only [Ls_len]; omega) | exact Ls_get (by omega) (by omega) | rfl | decide) ?_
    intro h121 r121 s121
    have s := s121
    obtain ⟨⟨tv, tk, tvv⟩, g1, g2, g3⟩ := id s; have tk1 := tk.1
    refine BX1_readOpened_124 (by first | assumption | exact up_at _ _ _ | (rw [up_ne (by omega)]; first | assumption | exact up_at _ _ _ | (rw [up_ne (by omega)]; first | assumption | exact up_at _ _ _ | (rw [up_ne (by omega)]; assumption)))) ?_
    refine R_X1_addSign (by first | omega | assumption | exact okZ.q (by assumption) | (simp only [Ls_len]; omega) | exact Ls_get (by omega) (by omega) | rfl | decide) (by first | omega | assumption | exact okZ.q (by assumption) | (simp only [Ls_len]; omega) | exact Ls_get (by omega) (by omega) | rfl | decide) (by first | omega | assumption | exact okZ.q (by assumption) | (simp only [Ls_len]; omega) | exact Ls_get (by omega) (by omega) | rfl | decide) (by first | omega | assumption | exact okZ.q (by assumption) | (simp only [Ls_len]; omega) | exact Ls_get (by omega) (by omega) | rfl | decide) (by first | omega | assumption | exact okZ.q (by assumption) | (simp only [Ls_len]; omega) | exact Ls_get (by omega) (by omega) | rfl | decide) (by first | omega | assumption | exact okZ.q (by assumption) | (simp only [Ls_len]; omega) | exact Ls_get (by omega) (by omega) | rfl | decide) (by first | omega | assumption | exact okZ.q (by assumption) | (simp only [Ls_len]; omega) | exact Ls_get (by omega) (by omega) | rfl | decide) ?_
    intro h127 r127 s127
    refine BX1_readOpened_130  ?_
    rw [if_neg (by omega), if_neg (by omega), if_neg (by omega), if_neg (by omega)] at k
    exact k _ (((r6.wd (by decide) (by decide)).tr r121).tr r127) s127
  · intro hc2
    refine BX1_readOpened_103 (by first | assumption | exact up_at _ _ _ | (rw [up_ne (by omega)]; first | assumption | exact up_at _ _ _ | (rw [up_ne (by omega)]; first | assumption | exact up_at _ _ _ | (rw [up_ne (by omega)]; assumption)))) ?_
    refine C0 (by first | omega | assumption | exact okZ.q (by assumption) | (simp only [Ls_len]; omega) | exact Ls_get (by omega) (by omega) | rfl | decide) (by first | omega | assumption | exact okZ.q (by assumption) | (simp only [Ls_len]; omega) | exact Ls_get (by omega) (by omega) | rfl | decide) (by first | omega | assumption | exact okZ.q (by assumption) | (simp only [Ls_len]; omega) | exact Ls_get (by omega) (by omega) | rfl | decide) ?_
    intro h105 r105 s105
    have s := s105
    obtain ⟨⟨tv, tk, tvv⟩, g1, g2, g3⟩ := id s; have tk1 := tk.1
    refine BX1_readOpened_108 (by first | assumption | exact up_at _ _ _ | (rw [up_ne (by omega)]; first | assumption | exact up_at _ _ _ | (rw [up_ne (by omega)]; first | assumption | exact up_at _ _ _ | (rw [up_ne (by omega)]; assumption)))) ?_
    refine R_X1_addSign (by first | omega | assumption | exact okZ.q (by assumption) | (simp only [Ls_len]; omega) | exact Ls_get (by omega) (by omega) | rfl | decide) (by first | omega | assumption | exact okZ.q (by assumption) | (simp only [Ls_len]; omega) | exact Ls_get (by omega) (by omega) | rfl | decide) (by first | omega | assumption | exact okZ.q (by assumption) | (simp only [Ls_len]; omega) | exact Ls_get (by omega) (by omega) | rfl | decide) (by first | omega | assumption | exact okZ.q (by assumption) | (simp only [Ls_len]; omega) | exact Ls_get (by omega) (by omega) | rfl | decide) (by first | omega | assumption | exact okZ.q (by assumption) | (simp only [Ls_len]; omega) | exact Ls_get (by omega) (by omega) | rfl | decide) (by first | omega | assumption | exact okZ.q (by assumption) | (simp only [Ls_len]; omega) | exact Ls_get (by omega) (by omega) | rfl | decide) (by first | omega | assumption | exact okZ.q (by assumption) | (simp only [Ls_len]; omega) | exact Ls_get (by omega) (by omega) | rfl | decide) ?_
    intro h112 r112 s112
    refine BX1_readOpened_115  ?_
    rw [if_neg (by omega), if_neg (by omega), if_neg (by omega), if_pos (by omega)] at k
    exact k _ (((r6.wd (by decide) (by decide)).tr r105).tr r112) s112
  · intro hc3
    refine BX1_readOpened_52 (by first | assumption | exact up_at _ _ _ | (rw [up_ne (by omega)]; first | assumption | exact up_at _ _ _ | (rw [up_ne (by omega)]; first | assumption | exact up_at _ _ _ | (rw [up_ne (by omega)]; assumption)))) ?_
    refine C3 (by first | omega | assumption | exact okZ.q (by assumption) | (simp only [Ls_len]; omega) | exact Ls_get (by omega) (by omega) | rfl | decide) (by first | omega | assumption | exact okZ.q (by assumption) | (simp only [Ls_len]; omega) | exact Ls_get (by omega) (by omega) | rfl | decide) (by first | omega | assumption | exact okZ.q (by assumption) | (simp only [Ls_len]; omega) | exact Ls_get (by omega) (by omega) | rfl | decide) ?_
    intro h54 r54 s54
    have s := s54
    obtain ⟨⟨tv, tk, tvv⟩, g1, g2, g3⟩ := id s; have tk1 := tk.1
    refine BX1_readOpened_57 (by first | assumption | exact up_at _ _ _ | (rw [up_ne (by omega)]; first | assumption | exact up_at _ _ _ | (rw [up_ne (by omega)]; first | assumption | exact up_at _ _ _ | (rw [up_ne (by omega)]; assumption)))) ?_
    refine R_X1_want (by first | omega | assumption | exact okZ.q (by assumption) | (simp only [Ls_len]; omega) | exact Ls_get (by omega) (by omega) | rfl | decide) (by first | omega | assumption | exact okZ.q (by assumption) | (simp only [Ls_len]; omega) | exact Ls_get (by omega) (by omega) | rfl | decide) (by first | omega | assumption | exact okZ.q (by assumption) | (simp only [Ls_len]; omega) | exact Ls_get (by omega) (by omega) | rfl | decide) (by first | omega | assumption | exact okZ.q (by assumption) | (simp only [Ls_len]; omega) | exact Ls_get (by omega) (by omega) | rfl | decide) ?_
    intro h61 r61 s61
    refine BX1_readOpened_64  ?_
    rw [if_pos (by omega)] at k
    exact k _ (((r6.wd (by decide) (by decide)).tr r54).tr r61) s61
  · intro hc4
    refine BX1_readOpened_67 (by first | assumption | exact up_at _ _ _ | (rw [up_ne (by omega)]; first | assumption | exact up_at _ _ _ | (rw [up_ne (by omega)]; first | assumption | exact up_at _ _ _ | (rw [up_ne (by omega)]; assumption)))) ?_
    refine C0 (by first | omega | assumption | exact okZ.q (by assumption) | (simp only [Ls_len]; omega) | exact Ls_get (by omega) (by omega) | rfl | decide) (by first | omega | assumption | exact okZ.q (by assumption) | (simp only [Ls_len]; omega) | exact Ls_get (by omega) (by omega) | rfl | decide) (by first | omega | assumption | exact okZ.q (by assumption) | (simp only [Ls_len]; omega) | exact Ls_get (by omega) (by omega) | rfl | decide) ?_
    intro h69 r69 s69
    have s := s69
    obtain ⟨⟨tv, tk, tvv⟩, g1, g2, g3⟩ := id s; have tk1 := tk.1
    refine BX1_readOpened_72 (by first | assumption | exact up_at _ _ _ | (rw [up_ne (by omega)]; first | assumption | exact up_at _ _ _ | (rw [up_ne (by omega)]; first | assumption | exact up_at _ _ _ | (rw [up_ne (by omega)]; assumption)))) ?_
    refine R_X1_want (by first | omega | assumption | exact okZ.q (by assumption) | (simp only [Ls_len]; omega) | exact Ls_get (by omega) (by omega) | rfl | decide) (by first | omega | assumption | exact okZ.q (by assumption) | (simp only [Ls_len]; omega) | exact Ls_get (by omega) (by omega) | rfl | decide) (by first | omega | assumption | exact okZ.q (by assumption) | (simp only [Ls_len]; omega) | exact Ls_get (by omega) (by omega) | rfl | decide) (by first | omega | assumption | exact okZ.q (by assumption) | (simp only [Ls_len]; omega) | exact Ls_get (by omega) (by omega) | rfl | decide) ?_
    intro h76 r76 s76
    have s := s76
    obtain ⟨⟨tv, tk, tvv⟩, g1, g2, g3⟩ := id s; have tk1 := tk.1
    refine BX1_readOpened_79 (by first | assumption | exact up_at _ _ _ | (rw [up_ne (by omega)]; first | assumption | exact up_at _ _ _ | (rw [up_ne (by omega)]; first | assumption | exact up_at _ _ _ | (rw [up_ne (by omega)]; assumption)))) ?_
    refine C0 (by first | omega | assumption | exact okZ.q (by assumption) | (simp only [Ls_len]; omega) | exact Ls_get (by omega) (by omega) | rfl | decide) (by first | omega | assumption | exact okZ.q (by assumption) | (simp only [Ls_len]; omega) | exact Ls_get (by omega) (by omega) | rfl | decide) (by first | omega | assumption | exact okZ.q (by assumption) | (simp only [Ls_len]; omega) | exact Ls_get (by omega) (by omega) | rfl | decide) ?_
    intro h81 r81 s81
    have s := s81
    obtain ⟨⟨tv, tk, tvv⟩, g1, g2, g3⟩ := id s; have tk1 := tk.1
    refine BX1_readOpened_84 (by first | assumption | exact up_at _ _ _ | (rw [up_ne (by omega)]; first | assumption | exact up_at _ _ _ | (rw [up_ne (by omega)]; first | assumption | exact up_at _ _ _ | (rw [up_ne (by omega)]; assumption)))) ?_
    refine R_X1_addSign (by first | omega | assumption | exact okZ.q (by assumption) | (simp only [Ls_len]; omega) | exact Ls_get (by omega) (by omega) | rfl | decide) (by first | omega | assumption | exact okZ.q (by assumption) | (simp only [Ls_len]; omega) | exact Ls_get (by omega) (by omega) | rfl | decide) (by first | omega | assumption | exact okZ.q (by assumption) | (simp only [Ls_len]; omega) | exact Ls_get (by omega) (by omega) | rfl | decide) (by first | omega | assumption | exact okZ.q (by assumption) | (simp only [Ls_len]; omega) | exact Ls_get (by omega) (by omega) | rfl | decide) (by first | omega | assumption | exact okZ.q (by assumption) | (simp only [Ls_len]; omega) | exact Ls_get (by omega) (by omega) | rfl | decide) (by first | omega | assumption | exact okZ.q (by assumption) | (simp only [Ls_len]; omega) | exact Ls_get (by omega) (by omega) | rfl | decide) (by first | omega | assumption | exact okZ.q (by assumption) | (simp only [Ls_len]; omega) | exact Ls_get (by omega) (by omega) | rfl | decide) ?_
    intro h88 r88 s88
    refine BX1_readOpened_91  ?_
    rw [if_neg (by omega), if_pos (by omega)] at k
    exact k _ (((((r6.wd (by decide) (by decide)).tr r69).tr r76).tr r81).tr r88) s88
  · intro hc5
    refine BX1_readOpened_95 (by first | assumption | exact up_at _ _ _ | (rw [up_ne (by omega)]; first | assumption | exact up_at _ _ _ | (rw [up_ne (by omega)]; first | assumption | exact up_at _ _ _ | (rw [up_ne (by omega)]; assumption)))) ?_
    refine C12 (by first | omega | assumption | exact okZ.q (by assumption) | (simp only [Ls_len]; omega) | exact Ls_get (by omega) (by omega) | rfl | decide) (by first | omega | assumption | exact okZ.q (by assumption) | (simp only [Ls_len]; omega) | exact Ls_get (by omega) (by omega) | rfl | decide) (by first | omega | assumption | exact okZ.q (by assumption) | (simp only [Ls_len]; omega) | exact Ls_get (by omega) (by omega) | rfl | decide) (by first | omega | assumption | exact okZ.q (by assumption) | (simp only [Ls_len]; omega) | exact Ls_get (by omega) (by omega) | rfl | decide) ?_
    intro h97 r97 s97
    refine BX1_readOpened_100  ?_
    rw [if_neg (by omega), if_neg (by omega), if_pos (by omega)] at k
    exact k _ ((r6.wd (by decide) (by decide)).tr r97) s97
theorem gk_12 (o : okF F) (A : GKA F cc co we cl iw f) : GK12 F cc co we cl iw (f + 1) := by
  intro d bc bs n h Q S r op hop hop0 s z hs ms k
  have C3 := fun {bc bs n : Nat} {h : aH} {Q : aQ} {S : Ps} (s : Gm h F cc co we cl op iw S) (z : okZ F S) (m : (F 2 - S.2.2.1) * 9 + 3 < f) (k : ∀ h1, Fr h h1 282 5 → Gm h1 F cc co we cl op iw (gk F iw f 3 op S) → Q none h1 n) => Rn.deep (d' := d + 10 * r + 16) (show d + 10 * r + 12 ≤ d + 10 * r + 16 by omega) ((A.2.2.2.1) d bc bs n h Q S r op hop hop0 s z trivial m k)
  have C9 := fun {d bc bs n : Nat} {h : aH} {Q : aQ} {S : Ps} (s : Gm h F cc co we cl op iw S) (z : okZ F S) => (A.2.2.2.2.2.2.2.2.2.1) d bc bs n h Q S r op hop hop0 s z trivial
  have ek : gk F iw (f + 1) 12 op S = ledP (wanP F 37 (gk F iw f 3 op (addP 52 0 (wanP F 36 (gk F iw f 9 op S))))).2.2.2.1 51 (wanP F 38 (gk F iw f 3 op (ledP (wanP F 36 (gk F iw f 9 op S)).2.2.2.1 52 (addP 51 0 (wanP F 37 (gk F iw f 3 op (addP 52 0 (wanP F 36 (gk F iw f 9 op S))))))))) := rfl
  rw [ek] at k
  have o1 := o.1
  obtain ⟨q1, q2, q3, q4⟩ := id z
  have N : ∀ (k : Nat) (T : Ps), k < 11 → okZ F T → leQ F 0 T (gk F iw f k op T) := fun k T hk hT => by
    have w := gk_le (iw := iw) o f k op T hT (fun e => by omega) (fun e => by omega)
    rw [slP, if_pos (by omega)] at w
    exact w
  have K : ∀ T : Ps, leQ F 2 S T → okZ F T := by
    intro T q
    obtain ⟨q1, q2, q3, q4⟩ := q
    exact ⟨by omega, q2, by omega, by omega⟩
  have W : ∀ {a b : Int} {T : Ps}, leQ F a S T → a ≤ b → leQ F b S T := fun x y => ⟨x.1, x.2.1, x.2.2.1, by have := x.2.2.2; omega⟩
  have a := N 9 S (by decide) z
  have a2 := a.tr (wanP_le (k := 36) o (a.ok z) (by decide)) (c := 0) (by decide)
  have a3 := a2.tr (addP_le (k := 52) (w := 0) a2.2.1) (c := 1) (by decide)
  have a4 := a3.tr (N 3 _ (by decide) (K _ (W a3 (by decide)))) (c := 1) (by decide)
  have a5 := a4.tr (wanP_le (k := 37) o (K _ (W a4 (by decide))) (by decide)) (c := 1) (by decide)
  have a6 := a5.tr (addP_le (k := 51) (w := 0) a5.2.1) (c := 2) (by decide)
  have a7 := a6.tr (ledP_le (k := (wanP F 36 (gk F iw f 9 op S)).2.2.2.1) (w := 52) a6.2.1) (c := 2) (by decide)
  have a8 := a7.tr (N 3 _ (by decide) (K _ a7)) (c := 2) (by decide)
  have a9 := a8.tr (wanP_le (k := 38) o (K _ a8) (by decide)) (c := 2) (by decide)
  have t1 := K _ (W a (by decide))
  have t2 := K _ (W a2 (by decide))
  have t3 := K _ (W a3 (by decide))
  have t4 := K _ (W a4 (by decide))
  have t5 := K _ (W a5 (by decide))
  have t6 := K _ a6
  have t7 := K _ a7
  have t8 := K _ a8
  have t9 := K _ a9
  have e3 : (addP 52 0 (wanP F 36 (gk F iw f 9 op S))).2.2.1 = (wanP F 36 (gk F iw f 9 op S)).2.2.1 := rfl
  generalize hS1 : gk F iw f 9 op S = S1 at *
  generalize hS2 : wanP F 36 S1 = S2 at *
  generalize hS3 : addP 52 0 S2 = S3 at *
  generalize hS4 : gk F iw f 3 op S3 = S4 at *
  generalize hS5 : wanP F 37 S4 = S5 at *
  generalize hS6 : addP 51 0 S5 = S6 at *
  generalize hS7 : ledP S2.2.2.2.1 52 S6 = S7 at *
  generalize hS8 : gk F iw f 3 op S7 = S8 at *
  generalize hS9 : wanP F 38 S8 = S9 at *
  obtain ⟨x1, x2, x3, x4⟩ := id a2
  obtain ⟨x5, x6, x7, x8⟩ := id a3
  obtain ⟨x9, x10, x11, x12⟩ := id a5
  obtain ⟨x13, x14, x15, x16⟩ := id a6
  obtain ⟨x17, x18, x19, x20⟩ := id a7
  obtain ⟨x21, x22, x23, x24⟩ := id a9
  obtain ⟨⟨tv, tk, tvv⟩, g1, g2, g3⟩ := id s; have tk1 := tk.1
  refine BX1_readIf_0 (by first | assumption | exact up_at _ _ _ | (rw [up_ne (by omega)]; first | assumption | exact up_at _ _ _ | (rw [up_ne (by omega)]; first | assumption | exact up_at _ _ _ | (rw [up_ne (by omega)]; assumption)))) ?_
  refine C9 (by first | omega | assumption | exact okZ.q (by assumption) | (simp only [Ls_len]; omega) | exact Ls_get (by omega) (by omega) | rfl | decide) (by first | omega | assumption | exact okZ.q (by assumption) | (simp only [Ls_len]; omega) | exact Ls_get (by omega) (by omega) | rfl | decide) (by first | omega | assumption | exact okZ.q (by assumption) | (simp only [Ls_len]; omega) | exact Ls_get (by omega) (by omega) | rfl | decide) ?_
  intro h2 r2 s2
  rw [hS1] at s2
  have s := s2
  obtain ⟨⟨tv, tk, tvv⟩, g1, g2, g3⟩ := id s; have tk1 := tk.1
  refine BX1_readIf_5 (by first | assumption | exact up_at _ _ _ | (rw [up_ne (by omega)]; first | assumption | exact up_at _ _ _ | (rw [up_ne (by omega)]; first | assumption | exact up_at _ _ _ | (rw [up_ne (by omega)]; assumption)))) ?_
  refine R_X1_want (by first | omega | assumption | exact okZ.q (by assumption) | (simp only [Ls_len]; omega) | exact Ls_get (by omega) (by omega) | rfl | decide) (by first | omega | assumption | exact okZ.q (by assumption) | (simp only [Ls_len]; omega) | exact Ls_get (by omega) (by omega) | rfl | decide) (by first | omega | assumption | exact okZ.q (by assumption) | (simp only [Ls_len]; omega) | exact Ls_get (by omega) (by omega) | rfl | decide) (by first | omega | assumption | exact okZ.q (by assumption) | (simp only [Ls_len]; omega) | exact Ls_get (by omega) (by omega) | rfl | decide) ?_
  intro h9 r9 s9
  rw [hS2] at s9
  have s := s9
  obtain ⟨⟨tv, tk, tvv⟩, g1, g2, g3⟩ := id s; have tk1 := tk.1
  refine BX1_readIf_12 (by first | assumption | exact up_at _ _ _ | (rw [up_ne (by omega)]; first | assumption | exact up_at _ _ _ | (rw [up_ne (by omega)]; first | assumption | exact up_at _ _ _ | (rw [up_ne (by omega)]; assumption)))) ?_
  refine R_X1_addSign (by first | omega | assumption | exact okZ.q (by assumption) | (simp only [Ls_len]; omega) | exact Ls_get (by omega) (by omega) | rfl | decide) (by first | omega | assumption | exact okZ.q (by assumption) | (simp only [Ls_len]; omega) | exact Ls_get (by omega) (by omega) | rfl | decide) (by first | omega | assumption | exact okZ.q (by assumption) | (simp only [Ls_len]; omega) | exact Ls_get (by omega) (by omega) | rfl | decide) (by first | omega | assumption | exact okZ.q (by assumption) | (simp only [Ls_len]; omega) | exact Ls_get (by omega) (by omega) | rfl | decide) (by first | omega | assumption | exact okZ.q (by assumption) | (simp only [Ls_len]; omega) | exact Ls_get (by omega) (by omega) | rfl | decide) (by first | omega | assumption | exact okZ.q (by assumption) | (simp only [Ls_len]; omega) | exact Ls_get (by omega) (by omega) | rfl | decide) (by first | omega | assumption | exact okZ.q (by assumption) | (simp only [Ls_len]; omega) | exact Ls_get (by omega) (by omega) | rfl | decide) ?_
  intro h16 r16 s16
  rw [hS3] at s16
  have s := s16
  obtain ⟨⟨tv, tk, tvv⟩, g1, g2, g3⟩ := id s; have tk1 := tk.1
  refine BX1_readIf_19 (by first | assumption | exact up_at _ _ _ | (rw [up_ne (by omega)]; first | assumption | exact up_at _ _ _ | (rw [up_ne (by omega)]; first | assumption | exact up_at _ _ _ | (rw [up_ne (by omega)]; assumption)))) ?_
  refine C3 (by first | omega | assumption | exact okZ.q (by assumption) | (simp only [Ls_len]; omega) | exact Ls_get (by omega) (by omega) | rfl | decide) (by first | omega | assumption | exact okZ.q (by assumption) | (simp only [Ls_len]; omega) | exact Ls_get (by omega) (by omega) | rfl | decide) (by first | omega | assumption | exact okZ.q (by assumption) | (simp only [Ls_len]; omega) | exact Ls_get (by omega) (by omega) | rfl | decide) ?_
  intro h22 r22 s22
  rw [hS4] at s22
  have s := s22
  obtain ⟨⟨tv, tk, tvv⟩, g1, g2, g3⟩ := id s; have tk1 := tk.1
  refine BX1_readIf_25 (by first | assumption | exact up_at _ _ _ | (rw [up_ne (by omega)]; first | assumption | exact up_at _ _ _ | (rw [up_ne (by omega)]; first | assumption | exact up_at _ _ _ | (rw [up_ne (by omega)]; assumption)))) ?_
  refine R_X1_want (by first | omega | assumption | exact okZ.q (by assumption) | (simp only [Ls_len]; omega) | exact Ls_get (by omega) (by omega) | rfl | decide) (by first | omega | assumption | exact okZ.q (by assumption) | (simp only [Ls_len]; omega) | exact Ls_get (by omega) (by omega) | rfl | decide) (by first | omega | assumption | exact okZ.q (by assumption) | (simp only [Ls_len]; omega) | exact Ls_get (by omega) (by omega) | rfl | decide) (by first | omega | assumption | exact okZ.q (by assumption) | (simp only [Ls_len]; omega) | exact Ls_get (by omega) (by omega) | rfl | decide) ?_
  intro h29 r29 s29
  rw [hS5] at s29
  have s := s29
  obtain ⟨⟨tv, tk, tvv⟩, g1, g2, g3⟩ := id s; have tk1 := tk.1
  refine BX1_readIf_32 (by first | assumption | exact up_at _ _ _ | (rw [up_ne (by omega)]; first | assumption | exact up_at _ _ _ | (rw [up_ne (by omega)]; first | assumption | exact up_at _ _ _ | (rw [up_ne (by omega)]; assumption)))) ?_
  refine R_X1_addSign (by first | omega | assumption | exact okZ.q (by assumption) | (simp only [Ls_len]; omega) | exact Ls_get (by omega) (by omega) | rfl | decide) (by first | omega | assumption | exact okZ.q (by assumption) | (simp only [Ls_len]; omega) | exact Ls_get (by omega) (by omega) | rfl | decide) (by first | omega | assumption | exact okZ.q (by assumption) | (simp only [Ls_len]; omega) | exact Ls_get (by omega) (by omega) | rfl | decide) (by first | omega | assumption | exact okZ.q (by assumption) | (simp only [Ls_len]; omega) | exact Ls_get (by omega) (by omega) | rfl | decide) (by first | omega | assumption | exact okZ.q (by assumption) | (simp only [Ls_len]; omega) | exact Ls_get (by omega) (by omega) | rfl | decide) (by first | omega | assumption | exact okZ.q (by assumption) | (simp only [Ls_len]; omega) | exact Ls_get (by omega) (by omega) | rfl | decide) (by first | omega | assumption | exact okZ.q (by assumption) | (simp only [Ls_len]; omega) | exact Ls_get (by omega) (by omega) | rfl | decide) ?_
  intro h36 r36 s36
  rw [hS6] at s36
  have s := s36
  obtain ⟨⟨tv, tk, tvv⟩, g1, g2, g3⟩ := id s; have tk1 := tk.1
  refine BX1_readIf_39 (by first | assumption | exact up_at _ _ _ | (rw [up_ne (by omega)]; first | assumption | exact up_at _ _ _ | (rw [up_ne (by omega)]; first | assumption | exact up_at _ _ _ | (rw [up_ne (by omega)]; assumption)))) ?_
  refine R_X1_leadHere (by first | omega | assumption | exact okZ.q (by assumption) | (simp only [Ls_len]; omega) | exact Ls_get (by omega) (by omega) | rfl | decide) (by first | omega | assumption | exact okZ.q (by assumption) | (simp only [Ls_len]; omega) | exact Ls_get (by omega) (by omega) | rfl | decide) (by first | omega | assumption | exact okZ.q (by assumption) | (simp only [Ls_len]; omega) | exact Ls_get (by omega) (by omega) | rfl | decide) (by first | omega | assumption | exact okZ.q (by assumption) | (simp only [Ls_len]; omega) | exact Ls_get (by omega) (by omega) | rfl | decide) (by first | omega | assumption | exact okZ.q (by assumption) | (simp only [Ls_len]; omega) | exact Ls_get (by omega) (by omega) | rfl | decide) (by first | omega | assumption | exact okZ.q (by assumption) | (simp only [Ls_len]; omega) | exact Ls_get (by omega) (by omega) | rfl | decide) (by first | omega | assumption | exact okZ.q (by assumption) | (simp only [Ls_len]; omega) | exact Ls_get (by omega) (by omega) | rfl | decide) ?_
  intro h44 r44 s44
  rw [hS7] at s44
  have s := s44
  obtain ⟨⟨tv, tk, tvv⟩, g1, g2, g3⟩ := id s; have tk1 := tk.1
  refine BX1_readIf_47 (by first | assumption | exact up_at _ _ _ | (rw [up_ne (by omega)]; first | assumption | exact up_at _ _ _ | (rw [up_ne (by omega)]; first | assumption | exact up_at _ _ _ | (rw [up_ne (by omega)]; assumption)))) ?_
  refine C3 (by first | omega | assumption | exact okZ.q (by assumption) | (simp only [Ls_len]; omega) | exact Ls_get (by omega) (by omega) | rfl | decide) (by first | omega | assumption | exact okZ.q (by assumption) | (simp only [Ls_len]; omega) | exact Ls_get (by omega) (by omega) | rfl | decide) (by first | omega | assumption | exact okZ.q (by assumption) | (simp only [Ls_len]; omega) | exact Ls_get (by omega) (by omega) | rfl | decide) ?_
  intro h49 r49 s49
  rw [hS8] at s49
  have s := s49
  obtain ⟨⟨tv, tk, tvv⟩, g1, g2, g3⟩ := id s; have tk1 := tk.1
  refine BX1_readIf_52 (by first | assumption | exact up_at _ _ _ | (rw [up_ne (by omega)]; first | assumption | exact up_at _ _ _ | (rw [up_ne (by omega)]; first | assumption | exact up_at _ _ _ | (rw [up_ne (by omega)]; assumption)))) ?_
  refine R_X1_want (by first | omega | assumption | exact okZ.q (by assumption) | (simp only [Ls_len]; omega) | exact Ls_get (by omega) (by omega) | rfl | decide) (by first | omega | assumption | exact okZ.q (by assumption) | (simp only [Ls_len]; omega) | exact Ls_get (by omega) (by omega) | rfl | decide) (by first | omega | assumption | exact okZ.q (by assumption) | (simp only [Ls_len]; omega) | exact Ls_get (by omega) (by omega) | rfl | decide) (by first | omega | assumption | exact okZ.q (by assumption) | (simp only [Ls_len]; omega) | exact Ls_get (by omega) (by omega) | rfl | decide) ?_
  intro h56 r56 s56
  rw [hS9] at s56
  have s := s56
  obtain ⟨⟨tv, tk, tvv⟩, g1, g2, g3⟩ := id s; have tk1 := tk.1
  refine BX1_readIf_59 (by first | assumption | exact up_at _ _ _ | (rw [up_ne (by omega)]; first | assumption | exact up_at _ _ _ | (rw [up_ne (by omega)]; first | assumption | exact up_at _ _ _ | (rw [up_ne (by omega)]; assumption)))) ?_
  refine R_X1_leadHere (by first | omega | assumption | exact okZ.q (by assumption) | (simp only [Ls_len]; omega) | exact Ls_get (by omega) (by omega) | rfl | decide) (by first | omega | assumption | exact okZ.q (by assumption) | (simp only [Ls_len]; omega) | exact Ls_get (by omega) (by omega) | rfl | decide) (by first | omega | assumption | exact okZ.q (by assumption) | (simp only [Ls_len]; omega) | exact Ls_get (by omega) (by omega) | rfl | decide) (by first | omega | assumption | exact okZ.q (by assumption) | (simp only [Ls_len]; omega) | exact Ls_get (by omega) (by omega) | rfl | decide) (by first | omega | assumption | exact okZ.q (by assumption) | (simp only [Ls_len]; omega) | exact Ls_get (by omega) (by omega) | rfl | decide) (by first | omega | assumption | exact okZ.q (by assumption) | (simp only [Ls_len]; omega) | exact Ls_get (by omega) (by omega) | rfl | decide) (by first | omega | assumption | exact okZ.q (by assumption) | (simp only [Ls_len]; omega) | exact Ls_get (by omega) (by omega) | rfl | decide) ?_
  intro h63 r63 s63
  refine BX1_readIf_66  ?_
  exact k _ (((((((((r2.tr r9).tr r16).tr r22).tr r29).tr r36).tr r44).tr r49).tr r56).tr r63) s63
theorem gk_all (o : okF F) : ∀ f, GKA F cc co we cl iw f := by
  intro f
  induction f with
  | zero =>
    have Z : ∀ (nt D : Nat) (rk : Int) (M : aM) (pc : Nat) (ls : aL) (pre : Ps → Prop), 0 ≤ rk → GKs F cc co we cl iw 0 nt D rk M pc ls pre := by
      intro nt D rk M pc ls pre hr d bc bs n h Q S r op _ _ _ z _ ms _
      have := z.2.1
      exfalso
      omega
    exact ⟨Z _ _ _ _ _ _ _ (by decide), Z _ _ _ _ _ _ _ (by decide), fun _ _ => Z _ _ _ _ _ _ _ (by decide), Z _ _ _ _ _ _ _ (by decide), fun _ _ => Z _ _ _ _ _ _ _ (by decide), Z _ _ _ _ _ _ _ (by decide), Z _ _ _ _ _ _ _ (by decide), Z _ _ _ _ _ _ _ (by decide), fun _ => Z _ _ _ _ _ _ _ (by decide), Z _ _ _ _ _ _ _ (by decide), fun _ => Z _ _ _ _ _ _ _ (by decide), Z _ _ _ _ _ _ _ (by decide), Z _ _ _ _ _ _ _ (by decide)⟩
  | succ f A => exact ⟨gk_0 o A, gk_1 o A, gk_2 o A, gk_3 o A, gk_4 o A, gk_5 o A, gk_6 o A, gk_7 o A, gk_8 o A, gk_9 o A, gk_10 o A, gk_11 o A, gk_12 o A⟩
end GKM
