/-! Each part of a law, read by both. -/
def TZ0 (F : Int → Int) (iw : Int) (f : Nat) : Prop := ∀ (op : Int) (S : Ps) (P : List Int) (c : Em), PreB F 0 S P op c → (tkK F S.2.2.1 = 41 → askB P = false) → (F 2 - S.2.2.1) * 9 + 1 < f → Flt F iw (S.2.2.1, P, op, 0, c) (gk F iw f 0 op S) ∨ Pst0 F iw S P op c (gk F iw f 0 op S)
def TZ1 (F : Int → Int) (iw : Int) (f : Nat) : Prop := ∀ (op : Int) (S : Ps) (P : List Int) (c : Em), PreB F 1 S P op c → (tkK F S.2.2.1 = 41 → askB P = false) → (F 2 - S.2.2.1) * 9 + 2 < f → topR P 6 → PosT F iw 6 false 1 S P op c (gk F iw f 1 op S)
def TZ2 (F : Int → Int) (iw : Int) (f : Nat) : Prop := ∀ (op : Int) (S0 S : Ps) (P : List Int) (c : Em), PreB F 1 S0 P op c → topR P 6 → Pst F iw 6 false 1 S0 P op c S → (F 2 - S.2.2.1) * 9 + 0 < f → PosT F iw 6 false 1 S0 P op c (gk F iw f 2 op S)
def TZ3 (F : Int → Int) (iw : Int) (f : Nat) : Prop := ∀ (op : Int) (S : Ps) (P : List Int) (c : Em), PreB F 2 S P op c → (tkK F S.2.2.1 = 41 → askB P = false) → (F 2 - S.2.2.1) * 9 + 3 < f → topR P 5 → PosT F iw 5 false 2 S P op c (gk F iw f 3 op S)
def TZ4 (F : Int → Int) (iw : Int) (f : Nat) : Prop := ∀ (op : Int) (S0 S : Ps) (P : List Int) (c : Em), PreB F 2 S0 P op c → topR P 5 → Pst F iw 5 false 2 S0 P op c S → endK 6 (tkK F S.2.2.1) → (F 2 - S.2.2.1) * 9 + 0 < f → PosT F iw 5 false 2 S0 P op c (gk F iw f 4 op S)
def TZ5 (F : Int → Int) (iw : Int) (f : Nat) : Prop := ∀ (op : Int) (S : Ps) (P : List Int) (c : Em), PreB F 3 S P op c → tkK F S.2.2.1 ≠ 41 → (F 2 - S.2.2.1) * 9 + 4 < f → topR P 4 → opN P = 42 → isC P = false → PosT F iw 4 true 3 S P op c (gk F iw f 5 op S)
def TZ6 (F : Int → Int) (iw : Int) (f : Nat) : Prop := ∀ (op : Int) (S : Ps) (P : List Int) (c : Em), PreB F 3 S P op c → (F 2 - S.2.2.1) * 9 + 5 < f → topR P 4 → askB P = true → isC P = false → PosT F iw 3 true 3 S P op c (gk F iw f 6 op S)
def TZ7 (F : Int → Int) (iw : Int) (f : Nat) : Prop := ∀ (op : Int) (S : Ps) (P : List Int) (c : Em), PreB F 4 S P op c → (F 2 - S.2.2.1) * 9 + 6 < f → topR P 2 → askB P = true → isC P = false → PosT F iw 2 true 4 S P op c (gk F iw f 7 op S)
def TZ8 (F : Int → Int) (iw : Int) (f : Nat) : Prop := ∀ (op : Int) (S0 S : Ps) (P : List Int) (c : Em), PreB F 4 S0 P op c → topR P 2 → askB P = true → isC P = false → Pst F iw 2 true 4 S0 P op c S → endK 3 (tkK F S.2.2.1) → (F 2 - S.2.2.1) * 9 + 0 < f → PosT F iw 2 true 4 S0 P op c (gk F iw f 8 op S)
def TZ9 (F : Int → Int) (iw : Int) (f : Nat) : Prop := ∀ (op : Int) (S : Ps) (P : List Int) (c : Em), PreB F 5 S P op c → (F 2 - S.2.2.1) * 9 + 7 < f → topR P 1 → askB P = true → isC P = false → PosT F iw 1 true 5 S P op c (gk F iw f 9 op S)
def TZ10 (F : Int → Int) (iw : Int) (f : Nat) : Prop := ∀ (op : Int) (S0 S : Ps) (P : List Int) (c : Em), PreB F 5 S0 P op c → topR P 1 → askB P = true → isC P = false → Pst F iw 1 true 5 S0 P op c S → endK 2 (tkK F S.2.2.1) → (F 2 - S.2.2.1) * 9 + 0 < f → PosT F iw 1 true 5 S0 P op c (gk F iw f 10 op S)
def TZ11 (F : Int → Int) (iw : Int) (f : Nat) : Prop := ∀ (op : Int) (S : Ps) (P : List Int) (c : Em), PreB F 0 S P op c → op < 8 → opB (tkK F S.2.2.1) = true → (F 2 - S.2.2.1) * 9 + 0 < f → Flt F iw (S.2.2.1, P, op, 0, c) (gk F iw f 11 (op + 1) S) ∨ Pst0 F iw S P op c (gk F iw f 11 (op + 1) S)
def TZ12 (F : Int → Int) (iw : Int) (f : Nat) : Prop := ∀ (op : Int) (S : Ps) (P : List Int) (c : Em), PreB F 5 S (42 :: P) (op + 1) c → (F 2 - S.2.2.1) * 9 + 8 < f → Flt F iw (S.2.2.1, 42 :: P, op + 1, 0, c) (gk F iw f 12 (op + 1) S) ∨ ∃ D sem, Cor F false S (gk F iw f 12 (op + 1) S) D sem ∧ ∀ r, RK F iw (endZ F (gk F iw f 12 (op + 1) S).2.2.1 P op (c ++ D)) r → Rz F iw (S.2.2.1, 42 :: P, op + 1, 0, c) r
def TZA (F : Int → Int) (iw : Int) (f : Nat) : Prop := TZ0 F iw f ∧ TZ1 F iw f ∧ TZ2 F iw f ∧ TZ3 F iw f ∧ TZ4 F iw f ∧ TZ5 F iw f ∧ TZ6 F iw f ∧ TZ7 F iw f ∧ TZ8 F iw f ∧ TZ9 F iw f ∧ TZ10 F iw f ∧ TZ11 F iw f ∧ TZ12 F iw f
theorem topR_one {b l : Int} {P : List Int} (h1 : rk b < l) (h2 : b ≠ 41) : topR (b :: P) l := .inr ⟨h1, h2⟩
theorem topR.le {l m : Int} {P : List Int} (h : topR P l) (hl : l ≤ m) : topR P m := by
  rcases h with h | ⟨h, k⟩
  · exact .inl h
  · exact .inr ⟨by omega, k⟩
theorem ask_no {b : Int} {P : List Int} (h1 : b ≠ 42) (h2 : ¬ (1 ≤ rk b ∧ rk b ≤ 3)) : askB (b :: P) = false := by
  unfold askB
  refine decide_eq_false fun q => ?_
  have e : tpZ (b :: P) = b := rfl
  rw [e] at q
  rcases q.2 with w | w
  · have : opN (b :: P) = b := if_pos w
    omega
  · exact h2 w
theorem endZ_top {F : Int → Int} {p o : Int} {P : List Int} {c : Em} (h : topR P 7) : endZ F p P o c = (0, (p, P, o, 1, c)) := by
  unfold endZ
  rw [seZ_top h]
  refine if_neg ?_
  rcases h with rfl | ⟨_, h⟩
  · show ¬ (-1 : Int) = 41; decide
  · exact h
theorem seP_0 {F : Int → Int} {k : Int} {S : Ps} (h : S.1 = 0) : seP F k S = true ↔ tkK F S.2.2.1 = k := by
  unfold seP
  rw [decide_eq_true_iff]
  exact ⟨fun q => q.2, fun q => ⟨h, q⟩⟩
section NTS
variable {F : Int → Int} {iw : Int} {f : Nat}
theorem tz_rest {lev k kd b l2 k2 : Int} {tr1 tr : Bool} {op : Int} {S0 S U : Ps} {P : List Int} {c : Em} (ok : okF F) (pre : PreB F k S0 P op c) (l1 : 1 ≤ lev) (hkd : tkK F S.2.2.1 = kd) (hb : bnB kd) (t1 : trI kd = tr1) (t2 : trO kd = tr) (hcd : cdB kd = b) (hlev : stl b ≤ lev) (ht : topR P (stl b)) (b7 : b ≠ 20) (bk : lev ≤ rk b ∧ rk b ≤ 6) (hk2 : k2 + 1 ≤ k) (hl2 : lev ≤ l2) {D : Em} {sem : Dn} {N : List Int} {o2 : Int} {c2 : Em} (cor : Cor F tr1 S0 S D sem) (pn : Pnd k lev tr1 op c N o2 c2 D) (rc : Rch F iw (S0.2.2.1, P, op, 0, c) (S.2.2.1, N ++ P, o2, 1, c2)) (hbt : btZ kd (opN P) (isC (N ++ P)) = b) (fl : Pst F iw l2 tr1 k2 (advP F S) (b :: P) op (c ++ D) U) (hC : tr = true → (tr1 = true ∨ (rk b = 4 ∧ 5 ≤ l2))) : Pst F iw lev tr k S0 P op c (addP kd 0 U) := by
  obtain ⟨D2, s2, N2, o3, c3, cor2, pn2, rc2⟩ := fl
  have fF := ok.1.2
  have b0 : 0 ≤ b := by
    rcases hb with q | q | q | q <;> (rw [← hcd]; unfold cdB cmZ; (repeat' split) <;> omega)
  have kn : tkK F S.2.2.1 ≠ 0 := by rcases hb with q | q | q | q <;> omega
  have st := op_step (iw := iw) fF pre cor pn l1 (b := b) (by rw [hkd]; exact hbt) b0 hlev ht
  refine ⟨D ++ D2 ++ [(cdB kd, 0)], _, N2 ++ [b], o3, c3, Cor.bin ok ⟨pre.2.1.1, pre.2.2.1.1, pre.2.2.1.2⟩ hb t1 t2 cor kn cor2, ?_, ?_⟩
  · obtain ⟨v1, v2, v3, v4, v5, v6⟩ := pn2
    have e20 : n20 (N2 ++ [b]) = n20 N2 := by rw [n20_app, show n20 [b] = 0 from by show (if b = 20 then (1 : Int) else 0) + 0 = 0; rw [if_neg b7]; rfl]; omega
    refine ⟨fun x hx => ?_, by rw [e20]; exact v2, ?_, by rw [e20, List.length_append, List.length_singleton]; omega, v5, fun ht2 => ?_⟩
    · rcases List.mem_append.mp hx with hx | hx
      · have := v1 x hx; omega
      · rw [List.mem_singleton.mp hx]; exact bk
    · rw [mpZ_app, ← List.append_assoc, v3, hcd]
      simp only [List.append_assoc]
      rfl
    · rcases hC ht2 with q | ⟨q, q5⟩
      · exact isC_app N2 (v6 q)
      · exact isC_end q N2 fun x hx => by have := v1 x hx; omega
  · intro r hr
    refine rc r (st r (rc2 r ?_))
    rw [List.append_assoc] at hr
    exact hr
theorem tz_1 (A : TZA F iw f) : TZ1 F iw (f + 1) := by
  intro op S P c pre hk ms ht
  have ek : gk F iw (f + 1) 1 op S = gk F iw f 2 op (gk F iw f 0 op S) := rfl
  rw [ek]
  rcases A.1 op S P c ⟨pre.1, pre.2.1, pre.2.2.1, pre.2.2.2.1, by have := pre.2.2.2.2.1; omega, pre.2.2.2.2.2⟩ hk (by omega) with h | ⟨D, sem, cor, rc⟩
  · exact .inl (h.stk (gk_stk f 2 op _ _ h.1 ⟨rfl, rfl⟩))
  · refine A.2.2.1 op S _ P c pre ht ⟨D, sem, [], op, c ++ D, cor, ⟨(fun x hx => by cases hx), by show op = op + 0; omega, List.append_nil _, by show (0 : Int) ≤ 1 + 0; decide, pre.2.2.2.1.2, fun q => by cases q⟩, ?_⟩ (by have := cor.2.1.2.1; omega)
    intro r hr
    refine rc r ?_
    rw [endZ_top (ht.le (by decide))]
    exact RK.zero hr
theorem tz_2 (ok : okF F) (A : TZA F iw f) : TZ2 F iw (f + 1) := by
  intro op S0 S P c pre ht ps ms
  have ek : gk F iw (f + 1) 2 op S = if seP F 11 S = true ∨ seP F 12 S = true then gk F iw f 2 op (addP (kdP F S) 0 (gk F iw f 0 op (advP F S))) else S := rfl
  rw [ek]
  obtain ⟨D, sem, N, o2, c2, cor, pn, rc⟩ := id ps
  have s0 := cor.1
  by_cases q : seP F 11 S = true ∨ seP F 12 S = true
  · rw [if_pos q, seP_0 s0, seP_0 s0] at *
    have kn : tkK F S.2.2.1 ≠ 0 := by omega
    have tn := tkN_gt ok (show 0 ≤ S.2.2.1 by have := pre.2.1; have := cor.2.1.2.1; omega) cor.2.1.2.2 kn
    obtain ⟨b, hb⟩ : ∃ b, b = cdB (tkK F S.2.2.1) := ⟨_, rfl⟩
    have bb : b = 8 ∨ b = 9 := by rcases q with q | q <;> (rw [q] at hb; simp only [hb]; decide)
    have rb : rk b = 6 := by rcases bb with rfl | rfl <;> decide
    have sb : stl b = 6 := by rcases bb with rfl | rfl <;> decide
    have hbt : btZ (tkK F S.2.2.1) (opN P) (isC (N ++ P)) = b := by rcases q with q | q <;> (rw [q] at hb ⊢; rw [hb]; rfl)
    have bnd : bnB (tkK F S.2.2.1) := .inl (by omega)
    have ti : trI (tkK F S.2.2.1) = false := decide_eq_false (by omega)
    have to : trO (tkK F S.2.2.1) = false := decide_eq_false (by omega)
    have pre2 := pre_op (b := b) (k2 := 0) ok pre cor kn (by decide)
    have st := op_step (iw := iw) ok.1.2 pre cor pn (by decide) hbt (by omega) (by omega) (by rw [sb]; exact ht)
    rcases A.1 op (advP F S) (b :: P) (c ++ D) pre2 (fun _ => ask_no (by omega) (by omega)) (by show (F 2 - tkN F S.2.2.1) * 9 + 1 < f; omega) with h | ⟨D2, s2, cor2, rc2⟩
    · left
      have h2 := h.back (fun r hr => rc r (st r hr))
      exact h2.stk (gk_stk f 2 op _ _ h2.1 (stk_add ⟨rfl, rfl⟩))
    · have ps2 := tz_rest (k2 := 0) (l2 := 6) ok pre (by decide) rfl bnd ti to hb.symm (by omega) (by rw [sb]; exact ht) (by omega) (by omega) (by decide) (by decide) cor pn rc hbt ⟨D2, s2, [], op, c ++ D ++ D2, cor2, ⟨(fun x hx => by cases hx), by show op = op + 0; omega, List.append_nil _, by show (0 : Int) ≤ 0 + 0; decide, pre.2.2.2.1.2, (fun q => by cases q)⟩, fun r hr => rc2 r (by rw [endZ_top (topR_one (by omega) (by omega))]; exact RK.zero hr)⟩ (fun q => by cases q)
      refine A.2.2.1 op S0 _ P c pre ht ps2 ?_
      show (F 2 - (gk F iw f 0 op (advP F S)).2.2.1) * 9 + 0 < f
      have e2 : tkN F S.2.2.1 + D2.length ≤ (gk F iw f 0 op (advP F S)).2.2.1 := cor2.2.1.2.1
      omega
  · rw [if_neg q]
    rw [seP_0 s0, seP_0 s0] at q
    exact .inr ⟨ps, ⟨fun _ => by omega, fun w => by omega, fun w => by omega, fun w => by omega⟩⟩
theorem tz_3 (A : TZA F iw f) : TZ3 F iw (f + 1) := by
  intro op S P c pre hk ms ht
  have ek : gk F iw (f + 1) 3 op S = gk F iw f 4 op (gk F iw f 1 op S) := rfl
  rw [ek]
  rcases A.2.1 op S P c ⟨pre.1, pre.2.1, pre.2.2.1, pre.2.2.2.1, by have := pre.2.2.2.2.1; omega, pre.2.2.2.2.2⟩ hk (by omega) (ht.le (by decide)) with h | ⟨ps, en⟩
  · exact .inl (h.stk (gk_stk f 4 op _ _ h.1 ⟨rfl, rfl⟩))
  · refine A.2.2.2.2.1 op S _ P c pre ht (ps.mono (by decide) (by decide)) en ?_
    obtain ⟨D, sem, N, o2, c2, cor, _⟩ := ps
    have := cor.2.1.2.1
    omega
theorem tz_4 (ok : okF F) (A : TZA F iw f) : TZ4 F iw (f + 1) := by
  intro op S0 S P c pre ht ps en ms
  have ek : gk F iw (f + 1) 4 op S = if seP F 9 S = true ∨ seP F 10 S = true then gk F iw f 4 op (addP (kdP F S) 0 (gk F iw f 1 op (advP F S))) else S := rfl
  rw [ek]
  obtain ⟨D, sem, N, o2, c2, cor, pn, rc⟩ := id ps
  have s0 := cor.1
  by_cases q : seP F 9 S = true ∨ seP F 10 S = true
  · rw [if_pos q, seP_0 s0, seP_0 s0] at *
    have kn : tkK F S.2.2.1 ≠ 0 := by omega
    have tn := tkN_gt ok (show 0 ≤ S.2.2.1 by have := pre.2.1; have := cor.2.1.2.1; omega) cor.2.1.2.2 kn
    obtain ⟨b, hb⟩ : ∃ b, b = cdB (tkK F S.2.2.1) := ⟨_, rfl⟩
    have bb : b = 6 ∨ b = 7 := by rcases q with q | q <;> (rw [q] at hb; simp only [hb]; decide)
    have rb : rk b = 5 := by rcases bb with rfl | rfl <;> decide
    have sb : stl b = 5 := by rcases bb with rfl | rfl <;> decide
    have hbt : btZ (tkK F S.2.2.1) (opN P) (isC (N ++ P)) = b := by rcases q with q | q <;> (rw [q] at hb ⊢; rw [hb]; rfl)
    have bnd : bnB (tkK F S.2.2.1) := .inl (by omega)
    have ti : trI (tkK F S.2.2.1) = false := decide_eq_false (by omega)
    have to : trO (tkK F S.2.2.1) = false := decide_eq_false (by omega)
    have pre2 := pre_op (b := b) (k2 := 1) ok pre cor kn (by decide)
    have st := op_step (iw := iw) ok.1.2 pre cor pn (by decide) hbt (by omega) (by omega) (by rw [sb]; exact ht)
    rcases A.2.1 op (advP F S) (b :: P) (c ++ D) pre2 (fun _ => ask_no (by omega) (by omega)) (by show (F 2 - tkN F S.2.2.1) * 9 + 2 < f; omega) (topR_one (by omega) (by omega)) with h | ⟨ps3, en3⟩
    · left
      have h2 := h.back (fun r hr => rc r (st r hr))
      exact h2.stk (gk_stk f 4 op _ _ h2.1 (stk_add ⟨rfl, rfl⟩))
    · have ps2 := tz_rest (k2 := 1) (l2 := 6) ok pre (by decide) rfl bnd ti to hb.symm (by omega) (by rw [sb]; exact ht) (by omega) (by omega) (by decide) (by decide) cor pn rc hbt ps3 (fun q => by cases q)
      refine A.2.2.2.2.1 op S0 _ P c pre ht ps2 en3 ?_
      show (F 2 - (gk F iw f 1 op (advP F S)).2.2.1) * 9 + 0 < f
      obtain ⟨D3, _, _, _, _, cor3, _⟩ := ps3
      have e2 : tkN F S.2.2.1 + D3.length ≤ (gk F iw f 1 op (advP F S)).2.2.1 := cor3.2.1.2.1
      omega
  · rw [if_neg q]
    rw [seP_0 s0, seP_0 s0] at q
    have := en.1 (by decide)
    exact .inr ⟨ps, ⟨fun _ => by omega, fun w => by omega, fun w => by omega, fun w => by omega⟩⟩
theorem cmZ_in {k : Int} (h0 : 3 ≤ k) (h1 : k ≤ 8) : 10 ≤ cmZ k ∧ cmZ k ≤ 15 := by
  rcases (show k = 3 ∨ k = 4 ∨ k = 5 ∨ k = 6 ∨ k = 7 ∨ k = 8 by omega) with rfl | rfl | rfl | rfl | rfl | rfl <;> decide
theorem cmZ_out {k : Int} (h : k < 3 ∨ 8 < k) : cmZ k = -1 := by
  unfold cmZ
  rw [if_neg (by omega), if_neg (by omega), if_neg (by omega), if_neg (by omega), if_neg (by omega), if_neg (by omega)]
theorem cdB_cm {k : Int} (h0 : 3 ≤ k) (h1 : k ≤ 8) : cdB k = cmZ k := by
  unfold cdB
  rw [if_neg (by omega), if_neg (by omega), if_neg (by omega), if_neg (by omega), if_neg (by omega), if_neg (by omega), if_neg (by omega)]
theorem btZ_cm {k : Int} (h : k < 9 ∨ 12 < k) : btZ k 42 false = cmZ k := by
  unfold btZ
  rw [if_neg (by omega), if_neg (by omega), if_neg (by omega), if_neg (by omega), if_neg (by decide), if_pos rfl]
theorem rk_cm {b : Int} (h0 : 10 ≤ b) (h1 : b ≤ 15) : rk b = 4 := by
  unfold rk
  rw [if_neg (by omega), if_neg (by omega), if_neg (by omega), if_neg (by omega), if_pos (by omega)]
theorem tz_5 (ok : okF F) (A : TZA F iw f) : TZ5 F iw (f + 1) := by
  intro op S P c pre hk ms ht ho hc
  have ek : gk F iw (f + 1) 5 op S = if kdP F (gk F iw f 3 op S) < 3 ∨ 8 < kdP F (gk F iw f 3 op S) then rfP F 1 (gk F iw f 3 op S) else if (gk F iw f 3 op S).1 ≠ 0 then gk F iw f 3 op S else addP (kdP F (gk F iw f 3 op S)) 0 (gk F iw f 3 op (advP F (gk F iw f 3 op S))) := rfl
  rw [ek]
  have a3 := A.2.2.2.1 op S P c ⟨pre.1, pre.2.1, pre.2.2.1, pre.2.2.2.1, by have := pre.2.2.2.2.1; omega, pre.2.2.2.2.2⟩ (fun q => absurd q hk) (by omega) (ht.le (by decide))
  have kd : kdP F (gk F iw f 3 op S) = tkK F (gk F iw f 3 op S).2.2.1 := rfl
  rw [kd]
  rcases a3 with h | ⟨ps, en⟩
  · left
    split
    · exact h.stk (stk_rf h.1 ⟨rfl, rfl⟩)
    · rw [if_pos h.1]; exact h
  · obtain ⟨D, sem, N, o2, c2, cor, pn, rc⟩ := id ps
    generalize gk F iw f 3 op S = T at *
    have s0 := cor.1
    have pn5 := pn
    have pn := pn.mono (k2 := 3) (lev2 := 4) (by decide) (by decide)
    have cf : isC (N ++ P) = false := by rw [isC_pend N (fun x hx => by have := pn5.1 x hx; omega)]; exact hc
    have on := pn.opn (by decide) (P := P)
    have e1 := en.1 (by decide)
    have e2 := en.2.1 (by decide)
    by_cases q : tkK F T.2.2.1 < 3 ∨ 8 < tkK F T.2.2.1
    · rw [if_pos q]
      left
      refine Flt.back (Flt.bad s0 (pn.ok ok.1.2 pre cor) ?_ ?_ (by rw [on, ho]; decide)) rc
      · rw [on, ho, cf, btZ_cm (by omega)]; exact cmZ_out q
      · rw [on, ho, cf]
        unfold paZ
        rw [if_neg (by decide), if_pos rfl, if_neg (fun w => by cases w.2)]
    · rw [if_neg q, if_neg (fun w => w s0)]
      have kn : tkK F T.2.2.1 ≠ 0 := by omega
      have tn := tkN_gt ok (show 0 ≤ T.2.2.1 by have := pre.2.1; have := cor.2.1.2.1; omega) cor.2.1.2.2 kn
      obtain ⟨b, hb⟩ : ∃ b, b = cdB (tkK F T.2.2.1) := ⟨_, rfl⟩
      have bb : 10 ≤ b ∧ b ≤ 15 := by rw [hb, cdB_cm (by omega) (by omega)]; exact cmZ_in (by omega) (by omega)
      have rb : rk b = 4 := rk_cm bb.1 bb.2
      have sb : stl b = 5 := if_pos rb
      have hbt : btZ (tkK F T.2.2.1) (opN P) (isC (N ++ P)) = b := by rw [ho, cf, btZ_cm (by omega), hb, cdB_cm (by omega) (by omega)]
      have bnd : bnB (tkK F T.2.2.1) := .inl (by omega)
      have ti : trI (tkK F T.2.2.1) = false := decide_eq_false (by omega)
      have to : trO (tkK F T.2.2.1) = true := decide_eq_true (by omega)
      have pre2 := pre_op (b := b) (k2 := 2) ok pre cor kn (by decide)
      have st := op_step (iw := iw) ok.1.2 pre cor (pn5.mono (k2 := 3) (lev2 := 5) (by decide) (by decide)) (by decide) hbt (by omega) (by omega) (by rw [sb]; exact ht.le (by decide))
      rcases A.2.2.2.1 op (advP F T) (b :: P) (c ++ D) pre2 (fun _ => ask_no (by omega) (by omega)) (by show (F 2 - tkN F T.2.2.1) * 9 + 3 < f; have := cor.2.1.2.1; omega) (topR_one (by omega) (by omega)) with h | ⟨ps3, en3⟩
      · left
        exact (h.back (fun r hr => rc r (st r hr))).stk (stk_add ⟨rfl, rfl⟩)
      · right
        refine ⟨?_, ⟨fun _ => en3.1 (by decide), fun _ => en3.2.1 (by decide), fun w => absurd w (by decide), fun w => absurd w (by decide)⟩⟩
        obtain ⟨D2, s2, N2, o3, c3, cor2, pn2, rc2⟩ := ps3
        refine ⟨D ++ D2 ++ [(cdB (tkK F T.2.2.1), 0)], _, N2 ++ [b], o3, c3, Cor.bin ok ⟨pre.2.1.1, pre.2.2.1.1, pre.2.2.1.2⟩ bnd ti to cor kn cor2, ?_, ?_⟩
        · obtain ⟨v1, v2, v3, v4, v5, v6⟩ := pn2
          have e20 : n20 (N2 ++ [b]) = n20 N2 := by rw [n20_app, show n20 [b] = 0 from by show (if b = 20 then (1 : Int) else 0) + 0 = 0; rw [if_neg (by omega)]; rfl]; omega
          refine ⟨fun x hx => ?_, by rw [e20]; exact v2, ?_, by rw [e20, List.length_append, List.length_singleton]; omega, v5, fun _ => isC_end rb N2 fun x hx => by have := v1 x hx; omega⟩
          · rcases List.mem_append.mp hx with hx | hx
            · have := v1 x hx; omega
            · rw [List.mem_singleton.mp hx]; omega
          · rw [mpZ_app, ← List.append_assoc, v3, ← hb]
            simp only [List.append_assoc]
            rfl
        · intro r hr
          refine rc r (st r (rc2 r ?_))
          rw [List.append_assoc] at hr
          exact hr
end NTS
