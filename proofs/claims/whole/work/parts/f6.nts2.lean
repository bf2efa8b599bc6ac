/-! What is asked, what is opened. -/
theorem begZ_opn {F : Int → Int} {iw p o x : Int} {P : List Int} {c : Em} (h : tkK F p = 13 ∧ x = 40 ∨ tkK F p = 10 ∧ x = 5 ∨ tkK F p = 32 ∧ x = 41 ∨ tkK F p = 34 ∧ x = 2 ∨ tkK F p = 35 ∧ x = 42 ∨ (tkK F p = 41 ∧ x = 20 ∧ askB P = true)) : begZ F iw p P o c = opZ F x p P o c := by
  unfold begZ
  rw [if_neg (by omega), if_neg (by omega), if_neg (by omega), if_neg (by omega)]
  rcases h with ⟨h, rfl⟩ | ⟨h, rfl⟩ | ⟨h, rfl⟩ | ⟨h, rfl⟩ | ⟨h, rfl⟩ | ⟨h, rfl, a⟩
  · rw [if_pos h]
  · rw [if_neg (by omega), if_pos h]
  · rw [if_neg (by omega), if_neg (by omega), if_pos h]
  · rw [if_neg (by omega), if_neg (by omega), if_neg (by omega), if_pos h]
  · rw [if_neg (by omega), if_neg (by omega), if_neg (by omega), if_neg (by omega), if_pos h]
  · rw [if_neg (by omega), if_neg (by omega), if_neg (by omega), if_neg (by omega), if_neg (by omega), if_pos ⟨h, a⟩]
theorem endK_43 {k : Int} (h : endK 4 k) : endK 3 k := ⟨fun _ => h.1 (by decide), fun _ => h.2.1 (by decide), fun w => absurd w (by decide), fun w => absurd w (by decide)⟩
theorem ask_42 {P : List Int} (h : askB P = true) : opN P = 42 := (of_decide_eq_true h).1
theorem ask_on {b : Int} {P : List Int} (h : opN P = 42) (h1 : b < 40) (h2 : 1 ≤ rk b ∧ rk b ≤ 3) : askB (b :: P) = true := by
  unfold askB
  refine decide_eq_true ⟨?_, .inr h2⟩
  show (if 40 ≤ b then b else opN P) = 42
  rw [if_neg (by omega), h]
theorem isC_no {b : Int} {P : List Int} (h : rk b < 4) : isC (b :: P) = false := by
  show (if 4 < rk b then isC P else decide (rk b = 4)) = false
  rw [if_neg (by omega)]
  exact decide_eq_false (by omega)
theorem endZ_pop {F : Int → Int} {p o x : Int} {P : List Int} {c : Em} (h : rk x = 7) : endZ F p (x :: P) (o + 1) c = endZ F p P o (c ++ [(x, 0)]) := by
  have e : seZ 7 (x :: P) (o + 1) c = seZ 7 P o (c ++ [(x, 0)]) := by
    show (if 7 ≤ rk x then seZ 7 P (if rk x = 7 ∨ x = 20 then o + 1 - 1 else o + 1) (c ++ [(x, 0)]) else _) = _
    rw [if_pos (by omega), if_pos (.inl h), show o + 1 - 1 = o by omega]
  unfold endZ
  rw [e]
section NTS2
variable {F : Int → Int} {iw : Int} {f : Nat}
theorem opn_step {op x : Int} {S : Ps} {P : List Int} {c : Em} (b : okZs F (S.2.2.1, P, op, 0, c)) (h : begZ F iw S.2.2.1 P op c = opZ F x S.2.2.1 P op c) (ho : op < 8) : Rch F iw (S.2.2.1, P, op, 0, c) (tkN F S.2.2.1, x :: P, op + 1, 0, c) := by
  intro r hr
  refine Rz.beg b ?_
  rw [h, opZ, if_neg (by omega)]
  exact RK.zero hr
theorem pre_in {k k2 op x : Int} {S : Ps} {P : List Int} {c : Em} (ok : okF F) (pre : PreB F k S P op c) (ho : op < 8) (hk : tkK F S.2.2.1 ≠ 0) (h2 : k2 ≤ k + 5) : PreB F k2 (advP F S) (x :: P) (op + 1) c := by
  obtain ⟨a0, a, a2, b, d, g⟩ := pre
  have t := tkN_gt ok a.1 a.2 hk
  refine ⟨a0, ⟨by show 0 ≤ tkN F S.2.2.1; omega, t.2⟩, ⟨a2.1, by show S.2.2.2.1 ≤ tkN F S.2.2.1; omega⟩, ⟨by omega, by omega⟩, ?_, ?_⟩
  · rw [List.length_cons]; omega
  · rw [List.length_cons]; show _ ≤ tkN F S.2.2.1; omega
theorem pre_up {k k2 op : Int} {S : Ps} {P : List Int} {c : Em} (ok : okF F) (pre : PreB F k S P op c) (ho : op < 8) (hk : tkK F S.2.2.1 ≠ 0) (h2 : k2 ≤ k + 6) : PreB F k2 (advP F S) P (op + 1) c := by
  obtain ⟨a0, a, a2, b, d, g⟩ := pre
  have t := tkN_gt ok a.1 a.2 hk
  exact ⟨a0, ⟨by show 0 ≤ tkN F S.2.2.1; omega, t.2⟩, ⟨a2.1, by show S.2.2.2.1 ≤ tkN F S.2.2.1; omega⟩, ⟨by omega, by omega⟩, by omega, by show _ ≤ tkN F S.2.2.1; omega⟩
theorem PreB.le {k k2 op : Int} {S : Ps} {P : List Int} {c : Em} (pre : PreB F k S P op c) (h : k2 ≤ k) : PreB F k2 S P op c := ⟨pre.1, pre.2.1, pre.2.2.1, pre.2.2.2.1, by have := pre.2.2.2.2.1; omega, pre.2.2.2.2.2⟩
theorem tz_6 (ok : okF F) (A : TZA F iw f) : TZ6 F iw (f + 1) := by
  intro op S P c pre ms ht ha hc
  have ek : gk F iw (f + 1) 6 op S = if S.1 ≠ 0 then S else if kdP F S ≠ 41 then gk F iw f 5 op S else if 8 ≤ op then rfP F 3 S else addP 41 0 (gk F iw f 6 (op + 1) (advP F S)) := rfl
  have kd : kdP F S = tkK F S.2.2.1 := rfl
  rw [ek, kd, if_neg (fun w => w pre.1)]
  have fF := ok.1.2
  by_cases k41 : tkK F S.2.2.1 ≠ 41
  · rw [if_pos k41]
    rcases A.2.2.2.2.2.1 op S P c pre k41 (by omega) ht (ask_42 ha) hc with h | ⟨ps, en⟩
    · exact .inl h
    · exact .inr ⟨ps.mono (by decide) (by decide), endK_43 en⟩
  · rw [if_neg k41]
    have k41 : tkK F S.2.2.1 = 41 := by omega
    have eb := begZ_opn (F := F) (iw := iw) (p := S.2.2.1) (o := op) (x := 20) (P := P) (c := c) (.inr (.inr (.inr (.inr (.inr ⟨k41, rfl, ha⟩)))))
    by_cases o8 : 8 ≤ op
    · rw [if_pos o8]
      left
      exact Flt.beg pre.1 (by decide) (pre.ok fF (by decide)) (by rw [eb, opZ, if_pos (by have := pre.2.2.2.1.2; omega)])
    · rw [if_neg o8]
      have t := tkN_gt ok pre.2.1.1 pre.2.1.2 (show tkK F S.2.2.1 ≠ 0 by omega)
      have st := opn_step (pre.ok fF (by decide)) eb (by omega)
      have r20 : rk 20 = 3 := by decide
      rcases A.2.2.2.2.2.2.1 (op + 1) (advP F S) (20 :: P) c (pre_in ok pre (by omega) (by omega) (by decide)) (by show (F 2 - tkN F S.2.2.1) * 9 + 5 < f; omega) (topR_one (by omega) (by decide)) (ask_on (ask_42 ha) (by decide) (by omega)) (isC_no (by omega)) with h | ⟨⟨D, sem, N, o2, c2, cor, pn, rc⟩, en⟩
      · exact .inl ((h.back st).stk (stk_add ⟨rfl, rfl⟩))
      · right
        refine ⟨⟨D ++ [(cuB 41, 0)], _, N ++ [20], o2, c2, Cor.un ok ⟨pre.2.1.1, pre.2.2.1.1, pre.2.2.1.2⟩ pre.2.1.2 (.inr (.inr rfl)) rfl (by omega) cor, ?_, ?_⟩, en⟩
        · obtain ⟨v1, v2, v3, v4, v5, v6⟩ := pn
          have e20 : n20 (N ++ [20]) = n20 N + 1 := by rw [n20_app]; rfl
          refine ⟨fun x hx => ?_, by rw [e20]; omega, ?_, by rw [e20, List.length_append, List.length_singleton]; omega, v5, fun w => isC_app N (v6 w)⟩
          · rcases List.mem_append.mp hx with hx | hx
            · exact v1 x hx
            · rw [List.mem_singleton.mp hx]; omega
          · rw [mpZ_app, ← List.append_assoc, v3]
            rw [List.append_assoc]
            rfl
        · intro r hr
          refine st r (rc r ?_)
          rw [List.append_assoc] at hr
          exact hr
theorem tz_7 (A : TZA F iw f) : TZ7 F iw (f + 1) := by
  intro op S P c pre ms ht ha hc
  have ek : gk F iw (f + 1) 7 op S = gk F iw f 8 op (gk F iw f 6 op S) := rfl
  rw [ek]
  rcases A.2.2.2.2.2.2.1 op S P c (pre.le (by decide)) (by omega) (ht.le (by decide)) ha hc with h | ⟨ps, en⟩
  · exact .inl (h.stk (gk_stk f 8 op _ _ h.1 ⟨rfl, rfl⟩))
  · refine A.2.2.2.2.2.2.2.2.1 op S _ P c pre ht ha hc (ps.mono (by decide) (by decide)) en ?_
    obtain ⟨D, sem, N, o2, c2, cor, _⟩ := ps
    have := cor.2.1.2.1
    omega
theorem tz_9 (A : TZA F iw f) : TZ9 F iw (f + 1) := by
  intro op S P c pre ms ht ha hc
  have ek : gk F iw (f + 1) 9 op S = gk F iw f 10 op (gk F iw f 7 op S) := rfl
  rw [ek]
  rcases A.2.2.2.2.2.2.2.1 op S P c (pre.le (by decide)) (by omega) (ht.le (by decide)) ha hc with h | ⟨ps, en⟩
  · exact .inl (h.stk (gk_stk f 10 op _ _ h.1 ⟨rfl, rfl⟩))
  · refine A.2.2.2.2.2.2.2.2.2.2.1 op S _ P c pre ht ha hc (ps.mono (by decide) (by decide)) en ?_
    obtain ⟨D, sem, N, o2, c2, cor, _⟩ := ps
    have := cor.2.1.2.1
    omega
theorem tz_8 (ok : okF F) (A : TZA F iw f) : TZ8 F iw (f + 1) := by
  intro op S0 S P c pre ht ha hc ps en ms
  have ek : gk F iw (f + 1) 8 op S = if seP F 40 S = true then gk F iw f 8 op (addP 40 0 (gk F iw f 6 op (advP F S))) else S := rfl
  rw [ek]
  obtain ⟨D, sem, N, o2, c2, cor, pn, rc⟩ := id ps
  have s0 := cor.1
  by_cases q : seP F 40 S = true
  · rw [if_pos q]
    have q := (seP_0 s0).mp q
    have kn : tkK F S.2.2.1 ≠ 0 := by omega
    have tn := tkN_gt ok (show 0 ≤ S.2.2.1 by have := pre.2.1; have := cor.2.1.2.1; omega) cor.2.1.2.2 kn
    have rb : rk 21 = 2 := by decide
    have sb : stl 21 = 2 := by decide
    have hbt : btZ 40 (opN P) (isC (N ++ P)) = 21 := by rw [ask_42 ha, isC_app N (pn.2.2.2.2.2 rfl)]; rfl
    have pre2 := pre_op (b := 21) (k2 := 3) ok pre cor kn (by decide)
    have st := op_step (iw := iw) (b := 21) ok.1.2 pre cor pn (by decide) (by rw [q]; exact hbt) (by decide) (by omega) (by rw [sb]; exact ht)
    rcases A.2.2.2.2.2.2.1 op (advP F S) (21 :: P) (c ++ D) pre2 (by show (F 2 - tkN F S.2.2.1) * 9 + 5 < f; omega) (topR_one (by omega) (by decide)) (ask_on (ask_42 ha) (by decide) (by omega)) (isC_no (by omega)) with h | ⟨ps3, en3⟩
    · left
      have h2 := h.back (fun r hr => rc r (st r hr))
      exact h2.stk (gk_stk f 8 op _ _ h2.1 (stk_add ⟨rfl, rfl⟩))
    · have ps2 := tz_rest (kd := 40) (b := 21) (k2 := 3) (l2 := 3) (tr := true) ok pre (by decide) q (.inr (.inr (.inl rfl))) rfl rfl rfl (by omega) (by rw [sb]; exact ht) (by decide) (by omega) (by decide) (by decide) cor pn rc hbt ps3 (fun _ => .inl rfl)
      refine A.2.2.2.2.2.2.2.2.1 op S0 _ P c pre ht ha hc ps2 en3 ?_
      show (F 2 - (gk F iw f 6 op (advP F S)).2.2.1) * 9 + 0 < f
      obtain ⟨D3, _, _, _, _, cor3, _⟩ := ps3
      have e2 : tkN F S.2.2.1 + D3.length ≤ (gk F iw f 6 op (advP F S)).2.2.1 := cor3.2.1.2.1
      omega
  · rw [if_neg q]
    rw [seP_0 s0] at q
    exact .inr ⟨ps, ⟨fun _ => en.1 (by decide), fun _ => en.2.1 (by decide), fun _ => q, fun w => by omega⟩⟩
theorem tz_10 (ok : okF F) (A : TZA F iw f) : TZ10 F iw (f + 1) := by
  intro op S0 S P c pre ht ha hc ps en ms
  have ek : gk F iw (f + 1) 10 op S = if seP F 39 S = true then gk F iw f 10 op (addP 39 0 (gk F iw f 7 op (advP F S))) else S := rfl
  rw [ek]
  obtain ⟨D, sem, N, o2, c2, cor, pn, rc⟩ := id ps
  have s0 := cor.1
  by_cases q : seP F 39 S = true
  · rw [if_pos q]
    have q := (seP_0 s0).mp q
    have kn : tkK F S.2.2.1 ≠ 0 := by omega
    have tn := tkN_gt ok (show 0 ≤ S.2.2.1 by have := pre.2.1; have := cor.2.1.2.1; omega) cor.2.1.2.2 kn
    have rb : rk 22 = 1 := by decide
    have sb : stl 22 = 1 := by decide
    have hbt : btZ 39 (opN P) (isC (N ++ P)) = 22 := by rw [ask_42 ha, isC_app N (pn.2.2.2.2.2 rfl)]; rfl
    have pre2 := pre_op (b := 22) (k2 := 4) ok pre cor kn (by decide)
    have st := op_step (iw := iw) (b := 22) ok.1.2 pre cor pn (by decide) (by rw [q]; exact hbt) (by decide) (by omega) (by rw [sb]; exact ht)
    rcases A.2.2.2.2.2.2.2.1 op (advP F S) (22 :: P) (c ++ D) pre2 (by show (F 2 - tkN F S.2.2.1) * 9 + 6 < f; omega) (topR_one (by omega) (by decide)) (ask_on (ask_42 ha) (by decide) (by omega)) (isC_no (by omega)) with h | ⟨ps3, en3⟩
    · left
      have h2 := h.back (fun r hr => rc r (st r hr))
      exact h2.stk (gk_stk f 10 op _ _ h2.1 (stk_add ⟨rfl, rfl⟩))
    · have ps2 := tz_rest (kd := 39) (b := 22) (k2 := 4) (l2 := 2) (tr := true) ok pre (by decide) q (.inr (.inr (.inr rfl))) rfl rfl rfl (by omega) (by rw [sb]; exact ht) (by decide) (by omega) (by decide) (by decide) cor pn rc hbt ps3 (fun _ => .inl rfl)
      refine A.2.2.2.2.2.2.2.2.2.2.1 op S0 _ P c pre ht ha hc ps2 en3 ?_
      show (F 2 - (gk F iw f 7 op (advP F S)).2.2.1) * 9 + 0 < f
      obtain ⟨D3, _, _, _, _, cor3, _⟩ := ps3
      have e2 : tkN F S.2.2.1 + D3.length ≤ (gk F iw f 7 op (advP F S)).2.2.1 := cor3.2.1.2.1
      omega
  · rw [if_neg q]
    rw [seP_0 s0] at q
    exact .inr ⟨ps, ⟨fun _ => en.1 (by decide), fun _ => en.2.1 (by decide), fun _ => en.2.2.1 (by decide), fun _ => q⟩⟩
theorem btZ_no {k op : Int} {cp : Bool} (h : k < 9 ∨ 12 < k) (ho : op ≠ 42) : btZ k op cp = -1 := by
  unfold btZ
  rw [if_neg (by omega), if_neg (by omega), if_neg (by omega), if_neg (by omega), if_pos ho]
/-- what is open is shut -/
theorem beh_shut {k lev y op o2 : Int} {tr : Bool} {S T : Ps} {P N : List Int} {c c2 D : Em} {sem : Dn} (fF : F 2 ≤ 300) (pre : PreB F k S (y :: P) op c) (cor : Cor F tr S T D sem) (pn : Pnd k lev tr op c N o2 c2 D) (l1 : 1 ≤ lev) (y0 : 40 ≤ y) (y1 : y ≠ 41) (h1 : btZ (tkK F T.2.2.1) y (isC (N ++ y :: P)) = -1) (h2 : paZ (tkK F T.2.2.1) y (isC (N ++ y :: P)) = 0) : ∀ r, RK F iw (endZ F (tkN F T.2.2.1) P (op - 1) (if y = 44 then c ++ D ++ [(3, 0)] else c ++ D)) r → Rz F iw (T.2.2.1, N ++ y :: P, o2, 1, c2) r := by
  intro r hr
  have on : opN (N ++ y :: P) = y := (pn.opn l1).trans (if_pos y0)
  have ry : rk y = 0 := if_pos y0
  have e : behZ F T.2.2.1 (N ++ y :: P) o2 c2 = endZ F (tkN F T.2.2.1) P (op - 1) (if y = 44 then c ++ D ++ [(3, 0)] else c ++ D) := by
    unfold behZ
    rw [on, h1, if_neg (by decide), h2, if_neg (by decide), if_pos rfl, pn.se l1 (topR_one (by omega) y1)]
    rfl
  refine Rz.beh (pn.ok fF pre cor) ?_ ?_
  · rw [e]; unfold endZ; (repeat' split) <;> (dsimp only; decide)
  · rw [e]; exact hr
/-- what is open goes on -/
theorem beh_part {k lev y a op o2 : Int} {tr : Bool} {S T : Ps} {P N : List Int} {c c2 D : Em} {sem : Dn} (fF : F 2 ≤ 300) (pre : PreB F k S (y :: P) op c) (cor : Cor F tr S T D sem) (pn : Pnd k lev tr op c N o2 c2 D) (l1 : 1 ≤ lev) (y0 : 40 ≤ y) (y1 : y ≠ 41) (h1 : btZ (tkK F T.2.2.1) y (isC (N ++ y :: P)) = -1) (h2 : paZ (tkK F T.2.2.1) y (isC (N ++ y :: P)) = a) (a0 : 0 < a) : Rch F iw (T.2.2.1, N ++ y :: P, o2, 1, c2) (tkN F T.2.2.1, a :: P, op, 0, c ++ D) := by
  intro r hr
  have on : opN (N ++ y :: P) = y := (pn.opn l1).trans (if_pos y0)
  have ry : rk y = 0 := if_pos y0
  have e : behZ F T.2.2.1 (N ++ y :: P) o2 c2 = (0, (tkN F T.2.2.1, a :: P, op, 0, c ++ D)) := by
    unfold behZ
    rw [on, h1, if_neg (by decide), h2, if_neg (by omega), if_neg (by omega), pn.se l1 (topR_one (by omega) y1)]
    rfl
  refine Rz.beh (pn.ok fF pre cor) ?_ ?_
  · rw [e]; show (0 : Int) ≠ -1; decide
  · rw [e]; exact RK.zero hr
theorem Pnd.bad {k lev y op o2 : Int} {tr : Bool} {S T : Ps} {P N : List Int} {c c2 D : Em} {sem : Dn} (fF : F 2 ≤ 300) (pre : PreB F k S (y :: P) op c) (cor : Cor F tr S T D sem) (pn : Pnd k lev tr op c N o2 c2 D) (l1 : 1 ≤ lev) (y0 : 40 ≤ y) (h1 : btZ (tkK F T.2.2.1) y (isC (N ++ y :: P)) = -1) (h2 : paZ (tkK F T.2.2.1) y (isC (N ++ y :: P)) = -1) : Flt F iw (T.2.2.1, N ++ y :: P, o2, 1, c2) (rfP F 1 T) := by
  have on : opN (N ++ y :: P) = y := (pn.opn l1).trans (if_pos y0)
  exact Flt.bad cor.1 (pn.ok fF pre cor) (by rw [on]; exact h1) (by rw [on]; exact h2) (by rw [on]; omega)
theorem wan_yes {k : Int} {T : Ps} (h : T.1 = 0) (hk : tkK F T.2.2.1 = k) : wanP F k T = advP F T := if_pos ((seP_0 h).mpr hk)
theorem wan_no {k : Int} {T : Ps} (h : T.1 = 0) (hk : tkK F T.2.2.1 ≠ k) : wanP F k T = rfP F 1 T := if_neg fun q => hk ((seP_0 h).mp q)
theorem tz_11 (ok : okF F) (A : TZA F iw f) : TZ11 F iw (f + 1) := by
  intro op S P c pre o8 hop ms
  have ek : gk F iw (f + 1) 11 (op + 1) S = if kdP F S = 13 then wanP F 14 (gk F iw f 3 (op + 1) (advP F S)) else if kdP F S = 32 then addP 32 0 (gk F iw f 0 (op + 1) (wanP F 33 (gk F iw f 0 (op + 1) (advP F S)))) else if kdP F S = 35 then gk F iw f 12 (op + 1) (advP F S) else if kdP F S = 10 then addP 50 0 (gk F iw f 0 (op + 1) (advP F S)) else addP (kdP F S) 0 (gk F iw f 0 (op + 1) (advP F S)) := rfl
  have kd : kdP F S = tkK F S.2.2.1 := rfl
  rw [ek, kd]
  have fF := ok.1.2
  have hk := op_in hop
  have t := tkN_gt ok pre.2.1.1 pre.2.1.2 (show tkK F S.2.2.1 ≠ 0 by omega)
  have bk := pre.ok fF (by decide)
  have pn3 : 0 ≤ S.2.2.1 ∧ 0 ≤ S.2.2.2.1 ∧ S.2.2.2.1 ≤ S.2.2.1 := ⟨pre.2.1.1, pre.2.2.1.1, pre.2.2.1.2⟩
  by_cases k13 : tkK F S.2.2.1 = 13
  · rw [if_pos k13]
    have st := opn_step bk (begZ_opn (F := F) (iw := iw) (p := S.2.2.1) (o := op) (x := 40) (P := P) (c := c) (.inl ⟨k13, rfl⟩)) o8
    have pr := pre_in (x := 40) (k2 := 2) ok pre o8 (by omega) (by decide)
    rcases A.2.2.2.1 (op + 1) (advP F S) (40 :: P) c pr (fun _ => ask_no (by decide) (by decide)) (by show (F 2 - tkN F S.2.2.1) * 9 + 3 < f; omega) (topR_one (by decide) (by decide)) with h | ⟨⟨D, sem, N, o2, c2, cor, pn, rc⟩, en⟩
    · have h2 := h.back st
      exact .inl (h2.stk (stk_wan h2.1 ⟨rfl, rfl⟩))
    · generalize gk F iw f 3 (op + 1) (advP F S) = U at *
      have e1 := en.1 (by decide)
      have e2 := en.2.1 (by decide)
      have hb : btZ (tkK F U.2.2.1) 40 (isC (N ++ 40 :: P)) = -1 := btZ_no (by omega) (by decide)
      by_cases k14 : tkK F U.2.2.1 = 14
      · rw [wan_yes cor.1 k14]
        right
        refine ⟨D, sem, Cor.suf ok pn3.1 (by omega) (Cor.pre ok pn3.1 pre.2.1.2 (by omega) cor), fun r hr => st r (rc r ?_)⟩
        refine beh_shut fF pr cor pn (by decide) (by decide) (by decide) hb (by rw [k14]; rfl) r ?_
        rw [if_neg (by decide), show op + 1 - 1 = op by omega]
        exact hr
      · rw [wan_no cor.1 k14]
        left
        refine (Pnd.bad fF pr cor pn (by decide) (by decide) hb ?_).back fun r hr => st r (rc r hr)
        unfold paZ
        rw [if_pos rfl, if_neg k14]
  · rw [if_neg k13]
    by_cases k32 : tkK F S.2.2.1 = 32
    · rw [if_pos k32]
      have st := opn_step bk (begZ_opn (F := F) (iw := iw) (p := S.2.2.1) (o := op) (x := 41) (P := P) (c := c) (.inr (.inr (.inl ⟨k32, rfl⟩)))) o8
      rcases A.1 (op + 1) (advP F S) (41 :: P) c (pre_in ok pre o8 (by omega) (by decide)) (fun _ => ask_no (by decide) (by decide)) (by show (F 2 - tkN F S.2.2.1) * 9 + 1 < f; omega) with h | ⟨D, sem, cor, rc⟩
      · have h2 := h.back st
        exact .inl (h2.stk (stk_add (gk_stk f 0 _ _ _ h2.1 (stk_wan h2.1 ⟨rfl, rfl⟩))))
      · generalize gk F iw f 0 (op + 1) (advP F S) = U at *
        have ez : endZ F U.2.2.1 (41 :: P) (op + 1) (c ++ D) = if tkK F U.2.2.1 = 33 then (0, (tkN F U.2.2.1, 4 :: P, op + 1, 0, c ++ D)) else (1, (U.2.2.1, 41 :: P, op + 1, 1, c ++ D)) := rfl
        rw [ez] at rc
        by_cases k33 : tkK F U.2.2.1 = 33
        · rw [wan_yes cor.1 k33]
          rw [if_pos k33] at rc
          have p6 := pre_op (b := 4) (k2 := 0) ok (pre_up (k2 := 6) ok pre o8 (by omega) (by decide)) cor (by omega) (by decide)
          have tU := tkN_gt ok (show 0 ≤ U.2.2.1 by have : tkN F S.2.2.1 + D.length ≤ U.2.2.1 := cor.2.1.2.1; omega) cor.2.1.2.2 (show tkK F U.2.2.1 ≠ 0 by omega)
          rcases A.1 (op + 1) (advP F U) (4 :: P) (c ++ D) p6 (fun _ => ask_no (by decide) (by decide)) (by show (F 2 - tkN F U.2.2.1) * 9 + 1 < f; have : tkN F S.2.2.1 + D.length ≤ U.2.2.1 := cor.2.1.2.1; omega) with h | ⟨D2, s2, cor2, rc2⟩
          · have h2 := h.back fun r hr => st r (rc r (RK.zero hr))
            exact .inl (h2.stk (stk_add ⟨rfl, rfl⟩))
          · right
            refine ⟨_, _, Cor.bin ok pn3 (.inr (.inl rfl)) rfl rfl (Cor.pre ok pn3.1 pre.2.1.2 (by omega) cor) (by omega) cor2, fun r hr => st r (rc r (RK.zero (rc2 r ?_)))⟩
            rw [endZ_pop (by decide)]
            have el : c ++ D ++ D2 ++ [((4 : Int), (0 : Int))] = c ++ (D ++ D2 ++ [(cdB 32, 0)]) := by simp only [List.append_assoc]; rfl
            rw [el]
            exact hr
        · rw [wan_no cor.1 k33]
          rw [if_neg k33] at rc
          left
          have h2 : Flt F iw (S.2.2.1, P, op, 0, c) (rfP F 1 U) := Flt.now cor.1 (by decide) (st _ (rc _ (RK.not (x := (1, (U.2.2.1, 41 :: P, op + 1, 1, c ++ D))) (by show (1 : Int) ≠ 0; decide)))) rfl
          exact h2.stk (stk_add (gk_stk f 0 _ _ _ h2.1 ⟨rfl, rfl⟩))
    · rw [if_neg k32]
      by_cases k35 : tkK F S.2.2.1 = 35
      · rw [if_pos k35]
        have st := opn_step bk (begZ_opn (F := F) (iw := iw) (p := S.2.2.1) (o := op) (x := 42) (P := P) (c := c) (.inr (.inr (.inr (.inr (.inl ⟨k35, rfl⟩)))))) o8
        rcases A.2.2.2.2.2.2.2.2.2.2.2.2 op (advP F S) P c (pre_in ok pre o8 (by omega) (by decide)) (by show (F 2 - tkN F S.2.2.1) * 9 + 8 < f; omega) with h | ⟨D, sem, cor, rc⟩
        · exact .inl (h.back st)
        · exact .inr ⟨D, sem, Cor.pre ok pn3.1 pre.2.1.2 (by omega) cor, fun r hr => st r (rc r hr)⟩
      · rw [if_neg k35]
        have un : ∀ (kk x : Int), unB kk → trU kk = false → cuB kk = x → rk x = 7 → x ≠ 42 → begZ F iw S.2.2.1 P op c = opZ F x S.2.2.1 P op c → Flt F iw (S.2.2.1, P, op, 0, c) (addP kk 0 (gk F iw f 0 (op + 1) (advP F S))) ∨ Pst0 F iw S P op c (addP kk 0 (gk F iw f 0 (op + 1) (advP F S))) := by
          intro kk x hu tu cu rx x42 eb
          have st := opn_step bk eb o8
          rcases A.1 (op + 1) (advP F S) (x :: P) c (pre_in ok pre o8 (by omega) (by decide)) (fun _ => ask_no x42 (by omega)) (by show (F 2 - tkN F S.2.2.1) * 9 + 1 < f; omega) with h | ⟨D, sem, cor, rc⟩
          · exact .inl ((h.back st).stk (stk_add ⟨rfl, rfl⟩))
          · right
            refine ⟨_, _, Cor.un ok pn3 pre.2.1.2 hu tu (by omega) cor, fun r hr => st r (rc r ?_)⟩
            rw [endZ_pop rx, List.append_assoc, ← cu]
            exact hr
        by_cases k10 : tkK F S.2.2.1 = 10
        · rw [if_pos k10]
          exact un 50 5 (.inr (.inl rfl)) rfl rfl (by decide) (by decide) (begZ_opn (.inr (.inl ⟨k10, rfl⟩)))
        · rw [if_neg k10, show tkK F S.2.2.1 = 34 by omega]
          exact un 34 2 (.inl rfl) rfl rfl (by decide) (by decide) (begZ_opn (.inr (.inr (.inr (.inl ⟨by omega, rfl⟩)))))
theorem tz_0 (ok : okF F) (A : TZA F iw f) : TZ0 F iw (f + 1) := by
  intro op S P c pre hk ms
  have ek : gk F iw (f + 1) 0 op S = (if S.1 ≠ 0 then S else if kdP F S = 2 then (if 9999 < tkV F S.2.2.1 then rfP F 2 S else advP F (addP 2 (tkV F S.2.2.1) S)) else if 23 ≤ kdP F S ∧ kdP F S ≤ 30 then (if iw ≠ 0 ∧ kdP F S = 30 then rfP F 5 S else advP F (addP (kdP F S) 0 S)) else if opB (kdP F S) = false then rfP F 1 S else if 8 ≤ op then rfP F 3 S else gk F iw f 11 (op + 1) S) := rfl
  have kd : kdP F S = tkK F S.2.2.1 := rfl
  rw [ek, kd, if_neg (fun w => w pre.1)]
  have fF := ok.1.2
  have bk := pre.ok fF (by decide)
  obtain ⟨p0, ⟨p1, p2⟩, ⟨p3, p4⟩, ⟨p5, p6⟩, p7, p8⟩ := id pre
  by_cases k2 : tkK F S.2.2.1 = 2
  · rw [if_pos k2]
    by_cases v : 9999 < tkV F S.2.2.1
    · rw [if_pos v]
      left
      exact Flt.beg p0 (by decide) bk (if_pos ⟨k2, v⟩)
    · rw [if_neg v]
      right
      have t := tkN_gt ok p1 p2 (show tkK F S.2.2.1 ≠ 0 by omega)
      have s := tkS_in (F := F) p2
      have tv : 0 ≤ tkV F S.2.2.1 := (tkT_in (F := F) (q := tkS F S.2.2.1) ok (by omega) s.2).2.2.1
      have e : (addP 2 (tkV F S.2.2.1) S).2.2.2.2 = fset S.2.2.2.2 S.2.2.2.1 (tkV F S.2.2.1 * 64 + 2) := stG_in (by omega) (by omega)
      have e' : (advP F (addP 2 (tkV F S.2.2.1) S)).2.2.2.2 = fset S.2.2.2.2 S.2.2.2.1 (tkV F S.2.2.1 * 64 + 2) := e
      refine ⟨[(0, tkV F S.2.2.1)], fun _ _ => tkV F S.2.2.1, ⟨p0, ⟨Nat.le_refl 1, by show S.2.2.1 + ((1 : Nat) : Int) ≤ tkN F S.2.2.1; omega, t.2⟩, ⟨by show _ ≤ S.2.2.2.1 + 1; omega, by show S.2.2.2.1 + 1 - S.2.2.2.1 ≤ tkN F S.2.2.1 - S.2.2.1; omega⟩, ?_, ?_, ?_, ?_⟩, ?_⟩
      · intro j hj; rw [e', fset_ne (by omega)]
      · intro j j0 j1
        have j1 : j < S.2.2.2.1 + 1 := j1
        rw [e', show j = S.2.2.2.1 by omega, fset_at]
        omega
      · intro x hx
        rw [List.mem_singleton.mp hx]
        exact ⟨by show (0 : Int) ≤ 0; decide, fun w => absurd w (by show ¬ (0 : Int) = 1; decide)⟩
      · exact SemV.num (by rw [e', fset_at]) (by unfold okV; omega)
      · intro r hr
        refine Rz.beg bk ?_
        unfold begZ
        rw [if_neg (by omega), if_neg (by omega), if_pos k2]
        exact hr
  · rw [if_neg k2]
    by_cases kn : 23 ≤ tkK F S.2.2.1 ∧ tkK F S.2.2.1 ≤ 30
    · rw [if_pos kn]
      by_cases v : iw ≠ 0 ∧ tkK F S.2.2.1 = 30
      · rw [if_pos v]
        left
        refine Flt.beg p0 (by decide) bk ?_
        unfold begZ
        rw [if_neg (by omega), if_pos ⟨v.2, v.1⟩]
      · rw [if_neg v]
        right
        have t := tkN_gt ok p1 p2 (show tkK F S.2.2.1 ≠ 0 by omega)
        have e' : (advP F (addP (tkK F S.2.2.1) 0 S)).2.2.2.2 = fset S.2.2.2.2 S.2.2.2.1 (0 * 64 + tkK F S.2.2.1) := stG_in (by omega) (by omega)
        refine ⟨[(1, tkK F S.2.2.1 - 23)], fun env _ => env (tkK F S.2.2.1 - 23), ⟨p0, ⟨Nat.le_refl 1, by show S.2.2.1 + ((1 : Nat) : Int) ≤ tkN F S.2.2.1; omega, t.2⟩, ⟨by show _ ≤ S.2.2.2.1 + 1; omega, by show S.2.2.2.1 + 1 - S.2.2.2.1 ≤ tkN F S.2.2.1 - S.2.2.1; omega⟩, ?_, ?_, ?_, ?_⟩, ?_⟩
        · intro j hj; rw [e', fset_ne (by omega)]
        · intro j j0 j1
          have j1 : j < S.2.2.2.1 + 1 := j1
          rw [e', show j = S.2.2.2.1 by omega, fset_at]
          omega
        · intro x hx
          rw [List.mem_singleton.mp hx]
          exact ⟨by show (0 : Int) ≤ 1; decide, fun _ => by dsimp only; omega⟩
        · exact SemV.name (by rw [e', fset_at]) kn.1 kn.2
        · intro r hr
          refine Rz.beg bk ?_
          unfold begZ
          rw [if_neg (by omega), if_neg (by omega), if_neg k2, if_pos kn]
          exact hr
    · rw [if_neg kn]
      by_cases kb : opB (tkK F S.2.2.1) = false
      · rw [if_pos kb]
        left
        have kb := of_decide_eq_false kb
        refine Flt.beg p0 (by decide) bk ?_
        unfold begZ
        rw [if_neg (by omega), if_neg (by omega), if_neg k2, if_neg kn, if_neg (by omega), if_neg (by omega), if_neg (by omega), if_neg (by omega), if_neg (by omega), if_neg (fun w => by rw [hk w.1] at w; cases w.2)]
      · rw [if_neg kb]
        have kb : opB (tkK F S.2.2.1) = true := by rw [← Bool.not_eq_false]; exact kb
        have ki := op_in kb
        by_cases o8 : 8 ≤ op
        · rw [if_pos o8]
          left
          refine Flt.beg p0 (by decide) bk ?_
          have oe : ∀ x, opZ F x S.2.2.1 P op c = (3, (S.2.2.1, P, op, 0, c)) := fun x => if_pos (by omega)
          rcases ki with q | q | q | q | q
          · rw [begZ_opn (x := 40) (.inl ⟨q, rfl⟩), oe]
          · rw [begZ_opn (x := 5) (.inr (.inl ⟨q, rfl⟩)), oe]
          · rw [begZ_opn (x := 41) (.inr (.inr (.inl ⟨q, rfl⟩))), oe]
          · rw [begZ_opn (x := 2) (.inr (.inr (.inr (.inl ⟨q, rfl⟩)))), oe]
          · rw [begZ_opn (x := 42) (.inr (.inr (.inr (.inr (.inl ⟨q, rfl⟩))))), oe]
        · rw [if_neg o8]
          exact A.2.2.2.2.2.2.2.2.2.2.2.1 op S P c pre (by omega) kb (by omega)
end NTS2
