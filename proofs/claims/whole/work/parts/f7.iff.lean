/-! If, then all of a law. -/
section NTS3
variable {F : Int → Int} {iw : Int} {f : Nat}
theorem pre_sw {k k2 k3 o y z : Int} {tr : Bool} {S T U : Ps} {P : List Int} {c D : Em} {sem : Dn} (pre : PreB F k S (y :: P) o c) (cor : Cor F tr S T D sem) (u0 : U.1 = T.1) (u1 : T.2.2.1 + k3 ≤ U.2.2.1) (u2 : U.2.2.1 ≤ F 2) (u3 : U.2.2.2.1 = T.2.2.2.1 + 1) (hk : k2 ≤ k) (h3 : 1 ≤ k3) : PreB F k2 U (z :: P) o (c ++ D) := by
  obtain ⟨_, a, a2, b, d, g⟩ := pre
  obtain ⟨v0, ⟨v1, v2, v3⟩, ⟨v4, v5⟩, _⟩ := cor
  rw [List.length_cons] at d g
  exact ⟨u0.trans v0, ⟨by omega, u2⟩, ⟨by omega, by omega⟩, b, by rw [List.length_cons]; omega, by rw [List.length_cons, List.length_append]; omega⟩
theorem Cor.iff {S A S1 B S2 E T : Ps} {D1 D2 D3 : Em} {s1 s2 s3 : Dn} (fF : F 2 ≤ 300) (pn : 0 ≤ S.2.2.1 ∧ 0 ≤ S.2.2.2.1 ∧ S.2.2.2.1 ≤ S.2.2.1) (c1 : Cor F true S A D1 s1) (c2 : Cor F false S1 B D2 s2) (c3 : Cor F false S2 E D3 s3) (a1 : A.2.2.1 + 1 ≤ S1.2.2.1) (a2 : S1.2.2.2.1 = A.2.2.2.1 + 1) (a3 : ∀ j, j < A.2.2.2.1 → S1.2.2.2.2 j = A.2.2.2.2 j) (b1 : B.2.2.1 + 1 ≤ S2.2.2.1) (b2 : S2.2.2.2.1 = B.2.2.2.1 + 1) (b3 : ∀ j, j < B.2.2.2.1 → j ≠ A.2.2.2.1 → S2.2.2.2.2 j = B.2.2.2.2 j) (b4 : S2.2.2.2.2 A.2.2.2.1 = (B.2.2.2.1 - A.2.2.2.1) * 64 + 52) (e0 : T.1 = E.1) (e1 : E.2.2.1 + 1 ≤ T.2.2.1) (ef : T.2.2.1 ≤ F 2) (e2 : T.2.2.2.1 = E.2.2.2.1) (e3 : ∀ j, j ≠ B.2.2.2.1 → T.2.2.2.2 j = E.2.2.2.2 j) (e4 : T.2.2.2.2 B.2.2.2.1 = (E.2.2.2.1 - 1 - B.2.2.2.1) * 64 + 51) : Cor F false S T (D1 ++ (D2 ++ (D3 ++ [(3, 0)]))) (fun env pl => if s1 env pl = 0 then s3 env pl else s2 env pl) := by
  obtain ⟨u0, ⟨u1, u2, u3⟩, ⟨u4, u5⟩, u6, u7, u8, u9⟩ := c1
  obtain ⟨v0, ⟨v1, v2, v3⟩, ⟨v4, v5⟩, v6, v7, v8, v9⟩ := c2
  obtain ⟨w0, ⟨w1, w2, w3⟩, ⟨w4, w5⟩, w6, w7, w8, w9⟩ := c3
  rw [a2] at v4 v5 v6 v7 v9
  rw [b2] at w4 w5 w6 w7 w9
  have g1 : ∀ j, j < A.2.2.2.1 → T.2.2.2.2 j = A.2.2.2.2 j := fun j hj => by rw [e3 j (by omega), w6 j (by omega), b3 j (by omega) (by omega), v6 j (by omega), a3 j hj]
  have g2 : ∀ j, A.2.2.2.1 < j → j < B.2.2.2.1 → T.2.2.2.2 j = B.2.2.2.2 j := fun j h0 hj => by rw [e3 j (by omega), w6 j (by omega), b3 j (by omega) (by omega)]
  have g3 : ∀ j, B.2.2.2.1 < j → T.2.2.2.2 j = E.2.2.2.2 j := fun j h0 => e3 j (by omega)
  have x1 : T.2.2.2.2 A.2.2.2.1 = (B.2.2.2.1 - A.2.2.2.1) * 64 + 52 := by rw [e3 _ (by omega), w6 _ (by omega), b4]
  refine ⟨e0.trans w0, ⟨by simp only [List.length_append, List.length_singleton]; omega, by simp only [List.length_append, List.length_singleton]; omega, ef⟩, ⟨by omega, by omega⟩, ?_, ?_, ?_, ?_⟩
  · intro j hj; rw [g1 j (by omega), u6 j hj]
  · intro j j0 j1
    rcases Int.lt_trichotomy j A.2.2.2.1 with q | q | q
    · rw [g1 j q]; exact u7 j j0 q
    · rw [q, x1]; omega
    · rcases Int.lt_trichotomy j B.2.2.2.1 with r | r | r
      · rw [g2 j q r]; exact v7 j (by omega) r
      · rw [r, e4]; omega
      · rw [g3 j r]; exact w7 j (by omega) (by omega)
  · intro x hx
    rcases List.mem_append.mp hx with hx | hx
    · exact u8 x hx
    · rcases List.mem_append.mp hx with hx | hx
      · exact v8 x hx
      · rcases List.mem_append.mp hx with hx | hx
        · exact w8 x hx
        · rw [List.mem_singleton.mp hx]
          exact ⟨by show (0 : Int) ≤ 3; decide, fun w => absurd w (by show ¬ (3 : Int) = 1; decide)⟩
  · rw [e2]
    exact SemV.iff u9 v9 w9 (fun j _ h => g1 j h) g2 (fun j h0 _ => g3 j h0) x1 e4 (by omega) (by omega) (by omega) u1 v1 w1
theorem tz_12 (ok : okF F) (A : TZA F iw f) : TZ12 F iw (f + 1) := by
  intro op S P c pre ms
  have ek : gk F iw (f + 1) 12 (op + 1) S = ledP (wanP F 37 (gk F iw f 3 (op + 1) (addP 52 0 (wanP F 36 (gk F iw f 9 (op + 1) S))))).2.2.2.1 51 (wanP F 38 (gk F iw f 3 (op + 1) (ledP (wanP F 36 (gk F iw f 9 (op + 1) S)).2.2.2.1 52 (addP 51 0 (wanP F 37 (gk F iw f 3 (op + 1) (addP 52 0 (wanP F 36 (gk F iw f 9 (op + 1) S))))))))) := rfl
  rw [ek]
  clear ek
  have fF := ok.1.2
  have pn3 : 0 ≤ S.2.2.1 ∧ 0 ≤ S.2.2.2.1 ∧ S.2.2.2.1 ≤ S.2.2.1 := ⟨pre.2.1.1, pre.2.2.1.1, pre.2.2.1.2⟩
  have ak : askB (42 :: P) = true := by
    unfold askB
    exact decide_eq_true ⟨rfl, .inl (by show (40 : Int) ≤ 42; decide)⟩
  have a9 := A.2.2.2.2.2.2.2.2.2.1 (op + 1) S (42 :: P) c pre (by omega) (topR_one (by decide) (by decide)) ak rfl
  have W : ∀ U : Ps, U.1 ≠ 0 → stk U (ledP (wanP F 37 (gk F iw f 3 (op + 1) (addP 52 0 U))).2.2.2.1 51 (wanP F 38 (gk F iw f 3 (op + 1) (ledP U.2.2.2.1 52 (addP 51 0 (wanP F 37 (gk F iw f 3 (op + 1) (addP 52 0 U)))))))) := fun U h => stk_led (stk_wan h (gk_stk f 3 _ _ _ h (stk_led (stk_add (stk_wan h (gk_stk f 3 _ _ _ h (stk_add ⟨rfl, rfl⟩)))))))
  rcases a9 with h | ⟨⟨D1, s1, N1, o1, c1, cor1, pn1, rc1⟩, en1⟩
  · left
    have h1 := h.stk (stk_wan (F := F) (w := 36) h.1 ⟨rfl, rfl⟩)
    exact h1.stk (W _ h1.1)
  generalize gk F iw f 9 (op + 1) S = A1 at *
  have i1 := en1.1 (by decide)
  have i2 := en1.2.1 (by decide)
  have i3 := en1.2.2.1 (by decide)
  have i4 := en1.2.2.2 (by decide)
  have ic : isC (N1 ++ 42 :: P) = true := isC_app N1 (pn1.2.2.2.2.2 rfl)
  have hb1 : btZ (tkK F A1.2.2.1) 42 (isC (N1 ++ 42 :: P)) = -1 := by
    rw [ic]
    unfold btZ
    rw [if_neg (by omega), if_neg (by omega), if_neg (by omega), if_neg (by omega), if_neg (by decide), if_neg (by decide), if_neg i3, if_neg i4]
  by_cases k36 : tkK F A1.2.2.1 = 36
  rotate_left
  · left
    rw [wan_no cor1.1 k36]
    have h1 : Flt F iw (S.2.2.1, 42 :: P, op + 1, 0, c) (rfP F 1 A1) := (Pnd.bad fF pre cor1 pn1 (by decide) (by decide) hb1 (by unfold paZ; rw [if_neg (by decide), if_pos rfl, if_neg (fun w => k36 w.1)])).back rc1
    exact h1.stk (W _ h1.1)
  rw [wan_yes cor1.1 k36]
  have p1 := cor1.2.1
  have t1 := tkN_gt ok (show 0 ≤ A1.2.2.1 by omega) p1.2.2 (show tkK F A1.2.2.1 ≠ 0 by omega)
  have st1 := beh_part (iw := iw) (a := 43) fF pre cor1 pn1 (by decide) (by decide) (by decide) hb1 (by rw [k36, ic]; rfl) (by decide)
  obtain ⟨S1, hS1⟩ : ∃ S1, S1 = addP 52 0 (advP F A1) := ⟨_, rfl⟩
  have s1p : S1.2.2.1 = tkN F A1.2.2.1 := by rw [hS1]; rfl
  have s1n : S1.2.2.2.1 = A1.2.2.2.1 + 1 := by rw [hS1]; rfl
  have s1f : S1.1 = A1.1 := by rw [hS1]; rfl
  have s1g : S1.2.2.2.2 = fset A1.2.2.2.2 A1.2.2.2.1 (0 * 64 + 52) := by rw [hS1]; have q1 := cor1.2.2.1; show stG A1.2.2.2.2 A1.2.2.2.1 (0 * 64 + 52) = _; exact stG_in (by omega) (by omega)
  have pre1 : PreB F 2 S1 (43 :: P) (op + 1) (c ++ D1) := pre_sw (k3 := 1) pre cor1 s1f (by omega) (by omega) s1n (by decide) (by decide)
  have a3 := A.2.2.2.1 (op + 1) S1 (43 :: P) (c ++ D1) pre1 (fun _ => ask_no (by decide) (by decide)) (by omega) (topR_one (by decide) (by decide))
  rw [← hS1]
  have ea : (advP F A1).2.2.2.1 = A1.2.2.2.1 := rfl
  rw [ea]
  have W2 : ∀ U : Ps, U.1 ≠ 0 → stk U (ledP U.2.2.2.1 51 (wanP F 38 (gk F iw f 3 (op + 1) (ledP A1.2.2.2.1 52 (addP 51 0 U))))) := fun U h => stk_led (stk_wan h (gk_stk f 3 _ _ _ h (stk_led (stk_add ⟨rfl, rfl⟩))))
  rcases a3 with h | ⟨⟨D2, s2, N2, o2, c2, cor2, pn2, rc2⟩, en2⟩
  · left
    have h1 := (h.back (fun r hr => rc1 r (st1 r (by rw [s1p] at hr; exact hr)))).stk (stk_wan (F := F) (w := 37) h.1 ⟨rfl, rfl⟩)
    exact h1.stk (W2 _ h1.1)
  generalize gk F iw f 3 (op + 1) S1 = B1 at *
  have j1 := en2.1 (by decide)
  have j2 := en2.2.1 (by decide)
  have hb2 : btZ (tkK F B1.2.2.1) 43 (isC (N2 ++ 43 :: P)) = -1 := btZ_no (by omega) (by decide)
  have R2 : Rch F iw (S.2.2.1, 42 :: P, op + 1, 0, c) (B1.2.2.1, N2 ++ 43 :: P, o2, 1, c2) := fun r hr => rc1 r (st1 r (by have := rc2 r hr; rw [s1p] at this; exact this))
  by_cases k37 : tkK F B1.2.2.1 = 37
  rotate_left
  · left
    rw [wan_no cor2.1 k37]
    have h1 : Flt F iw (S.2.2.1, 42 :: P, op + 1, 0, c) (rfP F 1 B1) := (Pnd.bad fF pre1 cor2 pn2 (by decide) (by decide) hb2 (by unfold paZ; rw [if_neg (by decide), if_neg (by decide), if_pos rfl, if_neg k37])).back R2
    exact h1.stk (W2 _ h1.1)
  rw [wan_yes cor2.1 k37]
  have p2 := cor2.2.1
  have q2 := cor2.2.2.1
  have t2 := tkN_gt ok (show 0 ≤ B1.2.2.1 by omega) p2.2.2 (show tkK F B1.2.2.1 ≠ 0 by omega)
  have st2 := beh_part (iw := iw) (a := 44) fF pre1 cor2 pn2 (by decide) (by decide) (by decide) hb2 (by rw [k37]; rfl) (by decide)
  have eb : (advP F B1).2.2.2.1 = B1.2.2.2.1 := rfl
  rw [eb]
  obtain ⟨S2, hS2⟩ : ∃ S2, S2 = ledP A1.2.2.2.1 52 (addP 51 0 (advP F B1)) := ⟨_, rfl⟩
  have s2p : S2.2.2.1 = tkN F B1.2.2.1 := by rw [hS2]; rfl
  have s2n : S2.2.2.2.1 = B1.2.2.2.1 + 1 := by rw [hS2]; rfl
  have s2f : S2.1 = B1.1 := by rw [hS2]; rfl
  have q1 := cor1.2.2.1
  have s2g : S2.2.2.2.2 = fset (fset B1.2.2.2.2 B1.2.2.2.1 (0 * 64 + 51)) A1.2.2.2.1 ((B1.2.2.2.1 + 1 - 1 - A1.2.2.2.1) * 64 + 52) := by
    rw [hS2]
    show stG (stG B1.2.2.2.2 B1.2.2.2.1 (0 * 64 + 51)) A1.2.2.2.1 ((B1.2.2.2.1 + 1 - 1 - A1.2.2.2.1) * 64 + 52) = _
    rw [stG_in (by omega) (by omega), stG_in (by omega) (by omega)]
  have pre2 : PreB F 2 S2 (44 :: P) (op + 1) (c ++ D1 ++ D2) := pre_sw (k3 := 1) pre1 cor2 s2f (by omega) (by omega) s2n (by decide) (by decide)
  have a4 := A.2.2.2.1 (op + 1) S2 (44 :: P) (c ++ D1 ++ D2) pre2 (fun _ => ask_no (by decide) (by decide)) (by omega) (topR_one (by decide) (by decide))
  rw [← hS2]
  rcases a4 with h | ⟨⟨D3, s3, N3, o3, c3, cor3, pn3', rc3⟩, en3⟩
  · left
    have h1 := (h.back (fun r hr => R2 r (st2 r (by rw [s2p] at hr; exact hr)))).stk (stk_wan (F := F) (w := 38) h.1 ⟨rfl, rfl⟩)
    exact h1.stk (stk_led ⟨rfl, rfl⟩)
  generalize gk F iw f 3 (op + 1) S2 = E1 at *
  have l1 := en3.1 (by decide)
  have l2 := en3.2.1 (by decide)
  have hb3 : btZ (tkK F E1.2.2.1) 44 (isC (N3 ++ 44 :: P)) = -1 := btZ_no (by omega) (by decide)
  have R3 : Rch F iw (S.2.2.1, 42 :: P, op + 1, 0, c) (E1.2.2.1, N3 ++ 44 :: P, o3, 1, c3) := fun r hr => R2 r (st2 r (by have := rc3 r hr; rw [s2p] at this; exact this))
  by_cases k38 : tkK F E1.2.2.1 = 38
  rotate_left
  · left
    rw [wan_no cor3.1 k38]
    have h1 : Flt F iw (S.2.2.1, 42 :: P, op + 1, 0, c) (rfP F 1 E1) := (Pnd.bad fF pre2 cor3 pn3' (by decide) (by decide) hb3 (by unfold paZ; rw [if_neg (by decide), if_neg (by decide), if_neg (by decide), if_pos rfl, if_neg k38])).back R3
    exact h1.stk (stk_led ⟨rfl, rfl⟩)
  rw [wan_yes cor3.1 k38]
  right
  have p3 := cor3.2.1
  have q3 := cor3.2.2.1
  have t3 := tkN_gt ok (show 0 ≤ E1.2.2.1 by omega) p3.2.2 (show tkK F E1.2.2.1 ≠ 0 by omega)
  have tg : (ledP B1.2.2.2.1 51 (advP F E1)).2.2.2.2 = fset E1.2.2.2.2 B1.2.2.2.1 ((E1.2.2.2.1 - 1 - B1.2.2.2.1) * 64 + 51) := by
    show stG E1.2.2.2.2 B1.2.2.2.1 ((E1.2.2.2.1 - 1 - B1.2.2.2.1) * 64 + 51) = _
    exact stG_in (by omega) (by omega)
  refine ⟨D1 ++ (D2 ++ (D3 ++ [(3, 0)])), _, Cor.iff fF pn3 cor1 cor2 cor3 (by omega) s1n (fun j hj => by rw [s1g, fset_ne (by omega)]) (by omega) s2n (fun j h0 h1 => by rw [s2g, fset_ne h1, fset_ne (by omega)]) (by rw [s2g, fset_at, show B1.2.2.2.1 + 1 - 1 = B1.2.2.2.1 by omega]) rfl (by show E1.2.2.1 + 1 ≤ tkN F E1.2.2.1; omega) t3.2 rfl (fun j h => by rw [tg, fset_ne h]) (by rw [tg, fset_at]), fun r hr => R3 r ?_⟩
  refine beh_shut fF pre2 cor3 pn3' (by decide) (by decide) (by decide) hb3 (by rw [k38]; rfl) r ?_
  rw [if_pos rfl, show op + 1 - 1 = op by omega]
  have el : c ++ D1 ++ D2 ++ D3 ++ [((3 : Int), (0 : Int))] = c ++ (D1 ++ (D2 ++ (D3 ++ [(3, 0)]))) := by simp only [List.append_assoc]
  rw [el]
  exact hr
theorem tz_all (ok : okF F) : ∀ f : Nat, TZA F iw f := by
  intro f
  induction f with
  | zero =>
    have no : ∀ {S : Ps} {P : List Int} {o k : Int} {c : Em} {m : Int}, PreB F k S P o c → 0 ≤ m → (F 2 - S.2.2.1) * 9 + m < ((0 : Nat) : Int) → False := fun pre h1 h => by have := pre.2.1; omega
    have nq : ∀ {S S0 : Ps} {P : List Int} {o k lev : Int} {c : Em} {tr : Bool}, Pst F iw lev tr k S0 P o c S → (F 2 - S.2.2.1) * 9 + 0 < ((0 : Nat) : Int) → False := fun ps h => by obtain ⟨_, _, _, _, _, cor, _⟩ := ps; have := cor.2.1; omega
    refine ⟨?_, ?_, ?_, ?_, ?_, ?_, ?_, ?_, ?_, ?_, ?_, ?_, ?_⟩
    · intro op S P c pre _ ms; exact (no pre (by decide) ms).elim
    · intro op S P c pre _ ms; exact (no pre (by decide) ms).elim
    · intro op S0 S P c pre _ ps ms; exact (nq ps ms).elim
    · intro op S P c pre _ ms; exact (no pre (by decide) ms).elim
    · intro op S0 S P c pre _ ps _ ms; exact (nq ps ms).elim
    · intro op S P c pre _ ms; exact (no pre (by decide) ms).elim
    · intro op S P c pre ms; exact (no pre (by decide) ms).elim
    · intro op S P c pre ms; exact (no pre (by decide) ms).elim
    · intro op S0 S P c pre _ _ _ ps _ ms; exact (nq ps ms).elim
    · intro op S P c pre ms; exact (no pre (by decide) ms).elim
    · intro op S0 S P c pre _ _ _ ps _ ms; exact (nq ps ms).elim
    · intro op S P c pre _ _ ms; exact (no pre (by decide) ms).elim
    · intro op S P c pre ms; exact (no pre (by decide) ms).elim
  | succ f A => exact ⟨tz_0 ok A, tz_1 A, tz_2 ok A, tz_3 A, tz_4 ok A, tz_5 ok A, tz_6 ok A, tz_7 A, tz_8 ok A, tz_9 A, tz_10 ok A, tz_11 ok A, tz_12 ok A⟩
/-- a law, all of it -/
theorem law_rz {S : Ps} {c : Em} (ok : okF F) (h0 : S.1 = 0) (h1 : 0 ≤ S.2.2.1 ∧ S.2.2.1 ≤ F 2) (h2 : S.2.2.2.1 = 0) (hc : (c.length : Int) ≤ S.2.2.1) : Flt F iw (S.2.2.1, [], 0, 0, c) (gk F iw 3000 3 0 S) ∨ ∃ D sem, Cor F false S (gk F iw 3000 3 0 S) D sem ∧ Rz F iw (S.2.2.1, [], 0, 0, c) (-1, ((gk F iw 3000 3 0 S).2.2.1, [], 0, 1, c ++ D)) := by
  have f3 := ok.1.2
  have pre : PreB F 2 S [] 0 c := ⟨h0, h1, ⟨by omega, by omega⟩, ⟨by decide, by decide⟩, by show (0 : Int) + 2 ≤ 6 * 0 + 5; decide, by show (0 : Int) + c.length ≤ S.2.2.1; omega⟩
  rcases (tz_all (iw := iw) ok 3000).2.2.2.1 0 S [] c pre (fun _ => rfl) (by omega) (.inl rfl) with h | ⟨⟨D, sem, N, o2, c2, cor, pn, rc⟩, en⟩
  · exact .inl h
  · right
    generalize gk F iw 3000 3 0 S = T at *
    refine ⟨D, sem, cor, rc _ ?_⟩
    have on : opN (N ++ []) = -1 := pn.opn (by decide)
    have i1 := en.1 (by decide)
    have i2 := en.2.1 (by decide)
    have hb : (behZ F T.2.2.1 (N ++ []) o2 c2).1 = -1 := by
      unfold behZ
      rw [on, btZ_no (by omega) (by decide), if_neg (by decide)]
      have pz : ∀ k cp, paZ k (-1) cp = -1 := fun k cp => rfl
      rw [pz, if_pos (by decide)]
    have q := Rz.fin (iw := iw) (pn.ok f3 pre cor) hb (by rw [on]; decide)
    rw [pn.se (l := 1) (by decide) (.inl rfl)] at q
    exact q
end NTS3
