section TEXT3
variable {d bc bs n n0 : Nat} {h : aH} {Q : aQ} {F cl : Int → Int} {cc op iw : Int} {ca wa : Option Nat} {q : Cs} {S : Ps}
theorem Gm.ze (s : Gm h F cc ca wa cl op iw S) : Gm (up h 284 (cO 1 [vR (some 285), vR (some 286), vI cc, vI 0, vI op, vI iw, vR ca, vR wa, vI S.1, vI S.2.1])) F cc ca wa cl op iw (zeP S) := by
  obtain ⟨⟨v, tk, tv⟩, g1, g2, g3⟩ := s
  exact ⟨⟨v, tk.fr (Fr.one h 284 _) (by decide), tv⟩, up_at _ _ _, (up_ne (by decide)).trans g2, (up_ne (by decide)).trans g3⟩
theorem Gm.iwS {iw2 : Int} (s : Gm h F cc ca wa cl op iw S) : Gm (up h 284 (cO 1 [vR (some 285), vR (some 286), vI cc, vI S.2.2.2.1, vI op, vI iw2, vR ca, vR wa, vI S.1, vI S.2.1])) F cc ca wa cl op iw2 S := by
  obtain ⟨⟨v, tk, tv⟩, g1, g2, g3⟩ := s
  exact ⟨⟨v, tk.fr (Fr.one h 284 _) (by decide), tv⟩, up_at _ _ _, (up_ne (by decide)).trans g2, (up_ne (by decide)).trans g3⟩
theorem Gm.ccS {cc2 : Int} (s : Gm h F cc ca wa cl op iw S) : Gm (up h 284 (cO 1 [vR (some 285), vR (some 286), vI cc2, vI S.2.2.2.1, vI op, vI iw, vR ca, vR wa, vI S.1, vI S.2.1])) F cc2 ca wa cl op iw S := by
  obtain ⟨⟨v, tk, tv⟩, g1, g2, g3⟩ := s
  exact ⟨⟨v, tk.fr (Fr.one h 284 _) (by decide), tv⟩, up_at _ _ _, (up_ne (by decide)).trans g2, (up_ne (by decide)).trans g3⟩
theorem R_X1_readClauseN {kd : Int} (s : Gm h F cc ca wa cl op iw S) (o : okF F) (z : okQ F S) (hk : kdP F S = kd) (k0 : 18 ≤ kd) (k1 : kd ≤ 23) (c0 : 0 ≤ cc) (c1 : cc < 24) (k : ∀ h1, Fr h h1 282 5 → Gm h1 F (cc + 1) ca wa (nuP F cc kd (advP F S, fset cl (cc * 4 + 0) kd)).2 op iw (wanP F 15 (nuP F cc kd (advP F S, fset cl (cc * 4 + 0) kd)).1) → Q none h1 n) : Rn (d + 10) bc bs mX1_readClause 0 [some (vR (some 284)), some (vR (some 282)), none] [] h n Q := by
  have ke : kdP F S = tkK F S.2.2.1 := rfl
  have o1 := o.1
  have tn := tkN_gt o z.1 z.2.1 (show tkK F S.2.2.1 ≠ 0 by omega)
  have zz := z.1
  have za := advQ o z (show kdP F S ≠ 0 by omega)
  obtain ⟨⟨tv, tk, tvv⟩, g1, g2, g3⟩ := id s; have tk1 := tk.1
  rw [← hk, ke] at k
  refine BX1_readClause_0 (by first | assumption | exact up_at _ _ _ | (rw [up_ne (by omega)]; first | assumption | exact up_at _ _ _ | (rw [up_ne (by omega)]; first | assumption | exact up_at _ _ _ | (rw [up_ne (by omega)]; assumption)))) (by rfl) (by first | assumption | exact up_at _ _ _ | (rw [up_ne (by omega)]; first | assumption | exact up_at _ _ _ | (rw [up_ne (by omega)]; first | assumption | exact up_at _ _ _ | (rw [up_ne (by omega)]; assumption)))) ?_
  refine R_X1_notePart (by first | omega | assumption | (simp only [Ls_len]; omega) | exact Ls_get (by omega) (by omega) | rfl | decide) (by first | omega | assumption | (simp only [Ls_len]; omega) | exact Ls_get (by omega) (by omega) | rfl | decide) (by first | omega | assumption | (simp only [Ls_len]; omega) | exact Ls_get (by omega) (by omega) | rfl | decide) (by first | omega | assumption | (simp only [Ls_len]; omega) | exact Ls_get (by omega) (by omega) | rfl | decide) (by first | omega | assumption | (simp only [Ls_len]; omega) | exact Ls_get (by omega) (by omega) | rfl | decide) ?_
  intro h8 r8 s8
  have s := s8
  obtain ⟨⟨tv, tk, tvv⟩, g1, g2, g3⟩ := id s; have tk1 := tk.1
  refine BX1_readClause_11 (by first | assumption | exact up_at _ _ _ | (rw [up_ne (by omega)]; first | assumption | exact up_at _ _ _ | (rw [up_ne (by omega)]; first | assumption | exact up_at _ _ _ | (rw [up_ne (by omega)]; assumption)))) ?_
  refine R_X9_comeToNext (by first | omega | assumption | (simp only [Ls_len]; omega) | exact Ls_get (by omega) (by omega) | rfl | decide) (by first | omega | assumption | (simp only [Ls_len]; omega) | exact Ls_get (by omega) (by omega) | rfl | decide) (by first | omega | assumption | (simp only [Ls_len]; omega) | exact Ls_get (by omega) (by omega) | rfl | decide) (by first | omega | assumption | (simp only [Ls_len]; omega) | exact Ls_get (by omega) (by omega) | rfl | decide) ?_
  intro h12 v12 r12 e12 y12
  have s := s.adv r12 e12 y12
  obtain ⟨⟨tv, tk, tvv⟩, g1, g2, g3⟩ := id s; have tk1 := tk.1
  refine BX1_readClause_15  ?_ ?_
  · intro hc1
    (exfalso; omega)
  · intro hc2
    refine BX1_readClause_21  ?_ ?_
    · intro hc3
      refine BX1_readClause_59 g1 ?_
      refine R_X1_readNumbers (q := (advP F S, fset cl (cc * 4 + 0) (tkK F S.2.2.1))) s o za c0 c1 fun h3 f3 s3 => ?_
      refine BX1_readClause_65 s3.2.1 ?_
      refine R_X1_want s3 o (nuP_ok o za) (by decide) fun h5 f5 s5 => ?_
      refine BX1_readClause_72 s5.2.1 rfl (by omega) (by simp) ?_
      refine BX1_readClause_82 ?_
      exact k _ ((((r8.tr (r12.wd (by decide) (by decide))).tr f3).tr f5).tr ((Fr.one h5 284 _).wd (by decide) (by decide))) s5.ccS
    · intro hc4
      (exfalso; omega)
theorem R_X1_readClauseL {kd : Int} (s : Gm h F cc ca wa cl 0 iw S) (o : okF F) (z : okQ F S) (hk : kdP F S = kd) (k0 : kd = 16 ∨ kd = 17) (c0 : 0 ≤ cc) (c1 : cc < 24) (hn : 317 ≤ n) (k : ∀ h1 iw2, FrN h h1 282 5 n → h1 n = cI (Ls (lwO (lawP F (kd - 16) S)).1 (lwO (lawP F (kd - 16) S)).2) → Gm h1 F (cc + 1) (if kd = 16 then some n else ca) (if kd = 16 then wa else some n) (fset cl (cc * 4 + 0) kd) 0 iw2 (wanP F 15 (lawP F (kd - 16) S)) → Q none h1 (n + 1)) : Rn (d + 100) 1 700 mX1_readClause 0 [some (vR (some 284)), some (vR (some 282)), none] [] h n Q := by
  have ke : kdP F S = tkK F S.2.2.1 := rfl
  have o1 := o.1
  have tn := tkN_gt o z.1 z.2.1 (show tkK F S.2.2.1 ≠ 0 by omega)
  have zz := z.1
  have za := advQ o z (show kdP F S ≠ 0 by omega)
  have zb : okZ F (zeP (advP F S)) := ⟨za.1, za.2.1, z00, by show (0 : Int) ≤ 2 * (advP F S).2.2.1; have := za.1; omega⟩
  have T47 : ∀ h1, Fr h h1 282 5 → Gm h1 F cc ca wa (fset cl (cc * 4 + 0) kd) 0 (kd - 16) (zeP (advP F S)) → Rn (d + 100) 1 700 mX1_readClause 47 [some (vR (some 284)), some (vR (some 282)), some (vI kd)] [] h1 n Q := by
    intro h1 f1 s1
    refine BX1_readClause_47 s1.2.1 ?_
    have A := (gk_all (cc := cc) (co := ca) (we := wa) (cl := fset cl (cc * 4 + 0) kd) (iw := kd - 16) o 3000).2.2.2.1
    have L : leQ F 0 (zeP (advP F S)) (lawP F (kd - 16) S) := gk_le o 3000 3 0 _ zb (fun e => absurd e (by decide)) (fun e => absurd e (by decide))
    have zt := L.ok zb
    refine Rn.deep (d := d + 10 * 8 + 12) (by omega) (A d 0 0 n _ _ (zeP (advP F S)) 8 0 (by decide) (by decide) s1 zb trivial (by have := zb.1; omega) fun h2 f2 s2 => ?_)
    have s2 : Gm h2 F cc ca wa (fset cl (cc * 4 + 0) kd) 0 (kd - 16) (lawP F (kd - 16) S) := s2
    generalize lawP F (kd - 16) S = T at *
    refine BX1_readClause_52 (bc1 := 1) (bs1 := 700) (bc := 0) (bs := 0) s2.2.1 ?_
    obtain ⟨t1, t2, t3, t4⟩ := id zt
    refine R_X1_endLaw s2 t3 (by omega) hn fun h3 f3 e3 s3 => ?_
    have hw : (kd - 16 = 0) ↔ (kd = 16) := by omega
    simp only [hw] at s3
    refine BX1_readClause_56 s3.2.1 ?_
    refine R_X1_want s3 o zt.q (by decide) fun h5 f5 s5 => ?_
    refine BX1_readClause_72 s5.2.1 rfl (by omega) (by simp) ?_
    refine BX1_readClause_82 ?_
    refine k _ (kd - 16) ?_ ?_ s5.ccS
    · exact ((f1.tr f2).toN.tr f3 (Nat.le_refl _)).tr (f5.tr ((Fr.one h5 284 _).wd (by decide) (by decide))).toN (Nat.le_refl _)
    · rw [up_ne (by omega), f5 _ (by omega)]
      exact e3
  obtain ⟨⟨tv, tk, tvv⟩, g1, g2, g3⟩ := id s; have tk1 := tk.1
  refine BX1_readClause_0 (by first | assumption | exact up_at _ _ _ | (rw [up_ne (by omega)]; first | assumption | exact up_at _ _ _ | (rw [up_ne (by omega)]; first | assumption | exact up_at _ _ _ | (rw [up_ne (by omega)]; assumption)))) (by rfl) (by first | assumption | exact up_at _ _ _ | (rw [up_ne (by omega)]; first | assumption | exact up_at _ _ _ | (rw [up_ne (by omega)]; first | assumption | exact up_at _ _ _ | (rw [up_ne (by omega)]; assumption)))) ?_
  refine R_X1_notePart (by first | omega | assumption | (simp only [Ls_len]; omega) | exact Ls_get (by omega) (by omega) | rfl | decide) (by first | omega | assumption | (simp only [Ls_len]; omega) | exact Ls_get (by omega) (by omega) | rfl | decide) (by first | omega | assumption | (simp only [Ls_len]; omega) | exact Ls_get (by omega) (by omega) | rfl | decide) (by first | omega | assumption | (simp only [Ls_len]; omega) | exact Ls_get (by omega) (by omega) | rfl | decide) (by first | omega | assumption | (simp only [Ls_len]; omega) | exact Ls_get (by omega) (by omega) | rfl | decide) ?_
  intro h8 r8 s8
  have s := s8
  obtain ⟨⟨tv, tk, tvv⟩, g1, g2, g3⟩ := id s; have tk1 := tk.1
  refine BX1_readClause_11 (by first | assumption | exact up_at _ _ _ | (rw [up_ne (by omega)]; first | assumption | exact up_at _ _ _ | (rw [up_ne (by omega)]; first | assumption | exact up_at _ _ _ | (rw [up_ne (by omega)]; assumption)))) ?_
  refine R_X9_comeToNext (by first | omega | assumption | (simp only [Ls_len]; omega) | exact Ls_get (by omega) (by omega) | rfl | decide) (by first | omega | assumption | (simp only [Ls_len]; omega) | exact Ls_get (by omega) (by omega) | rfl | decide) (by first | omega | assumption | (simp only [Ls_len]; omega) | exact Ls_get (by omega) (by omega) | rfl | decide) (by first | omega | assumption | (simp only [Ls_len]; omega) | exact Ls_get (by omega) (by omega) | rfl | decide) ?_
  intro h12 v12 r12 e12 y12
  have s := s.adv r12 e12 y12
  obtain ⟨⟨tv, tk, tvv⟩, g1, g2, g3⟩ := id s; have tk1 := tk.1
  refine BX1_readClause_15  ?_ ?_
  · intro hc1
    refine BX1_readClause_27 (by first | assumption | exact up_at _ _ _ | (rw [up_ne (by omega)]; first | assumption | exact up_at _ _ _ | (rw [up_ne (by omega)]; first | assumption | exact up_at _ _ _ | (rw [up_ne (by omega)]; assumption)))) (by simp) ?_
    have s9 := s.ze
    have f9 := Fr.one h12 284 (cO 1 [vR (some 285), vR (some 286), vI cc, vI 0, vI 0, vI iw, vR ca, vR wa, vI (advP F S).1, vI (advP F S).2.1])
    have fa := (r8.tr (r12.wd (by decide) (by decide))).tr (f9.wd (by decide) (by decide))
    rw [← ke, hk] at s9 ⊢
    refine BX1_readClause_32 ?_ ?_
    · intro q
      refine BX1_readClause_43 s9.2.1 (by simp) ?_
      refine T47 _ (fa.tr ((Fr.one _ 284 _).wd (by decide) (by decide))) ?_
      rw [show kd - 16 = 0 by omega]
      exact s9.iwS
    · intro q
      refine BX1_readClause_39 s9.2.1 (by simp) ?_
      refine T47 _ (fa.tr ((Fr.one _ 284 _).wd (by decide) (by decide))) ?_
      rw [show kd - 16 = 1 by omega]
      exact s9.iwS
  · intro hc2
    refine BX1_readClause_21  ?_ ?_
    · intro hc3
      (exfalso; omega)
    · intro hc4
      refine BX1_readClause_27 (by first | assumption | exact up_at _ _ _ | (rw [up_ne (by omega)]; first | assumption | exact up_at _ _ _ | (rw [up_ne (by omega)]; first | assumption | exact up_at _ _ _ | (rw [up_ne (by omega)]; assumption)))) (by simp) ?_
      have s9 := s.ze
      have f9 := Fr.one h12 284 (cO 1 [vR (some 285), vR (some 286), vI cc, vI 0, vI 0, vI iw, vR ca, vR wa, vI (advP F S).1, vI (advP F S).2.1])
      have fa := (r8.tr (r12.wd (by decide) (by decide))).tr (f9.wd (by decide) (by decide))
      rw [← ke, hk] at s9 ⊢
      refine BX1_readClause_32 ?_ ?_
      · intro q
        refine BX1_readClause_43 s9.2.1 (by simp) ?_
        refine T47 _ (fa.tr ((Fr.one _ 284 _).wd (by decide) (by decide))) ?_
        rw [show kd - 16 = 0 by omega]
        exact s9.iwS
      · intro q
        refine BX1_readClause_39 s9.2.1 (by simp) ?_
        refine T47 _ (fa.tr ((Fr.one _ 284 _).wd (by decide) (by decide))) ?_
        rw [show kd - 16 = 1 by omega]
        exact s9.iwS
end TEXT3
