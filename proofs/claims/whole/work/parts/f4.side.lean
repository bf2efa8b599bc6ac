/-! The class's reading and the reference's, side by side: what is kept between them. -/
def PreB (F : Int → Int) (k : Int) (S : Ps) (P : List Int) (o : Int) (c : Em) : Prop := S.1 = 0 ∧ (0 ≤ S.2.2.1 ∧ S.2.2.1 ≤ F 2) ∧ (0 ≤ S.2.2.2.1 ∧ S.2.2.2.1 ≤ S.2.2.1) ∧ (0 ≤ o ∧ o ≤ 8) ∧ (P.length : Int) + k ≤ 6 * o + 5 ∧ (P.length : Int) + c.length ≤ S.2.2.1
def Cor (F : Int → Int) (tr : Bool) (S T : Ps) (D : Em) (sem : Dn) : Prop := T.1 = 0 ∧ (1 ≤ D.length ∧ S.2.2.1 + D.length ≤ T.2.2.1 ∧ T.2.2.1 ≤ F 2) ∧ (S.2.2.2.1 + 1 ≤ T.2.2.2.1 ∧ T.2.2.2.1 - S.2.2.2.1 ≤ T.2.2.1 - S.2.2.1) ∧ (∀ j, j < S.2.2.2.1 → T.2.2.2.2 j = S.2.2.2.2 j) ∧ (∀ j, S.2.2.2.1 ≤ j → j < T.2.2.2.1 → 0 ≤ T.2.2.2.2 j ∧ T.2.2.2.2 j < 1000000) ∧ (∀ x, x ∈ D → okD x) ∧ SemV tr S.2.2.2.1 T.2.2.2.1 T.2.2.2.2 D sem
def Pnd (k lev : Int) (tr : Bool) (o : Int) (c : Em) (N : List Int) (o2 : Int) (c2 D : Em) : Prop := (∀ x, x ∈ N → lev ≤ rk x ∧ rk x ≤ 6) ∧ o2 = o + n20 N ∧ c2 ++ mpZ N = c ++ D ∧ (N.length : Int) ≤ k + n20 N ∧ o2 ≤ 8 ∧ (tr = true → isC N = true)
def Rch (F : Int → Int) (iw : Int) (a b : Zs) : Prop := ∀ r, Rz F iw b r → Rz F iw a r
def Pst (F : Int → Int) (iw lev : Int) (tr : Bool) (k : Int) (S : Ps) (P : List Int) (o : Int) (c : Em) (T : Ps) : Prop := ∃ D sem N o2 c2, Cor F tr S T D sem ∧ Pnd k lev tr o c N o2 c2 D ∧ Rch F iw (S.2.2.1, P, o, 0, c) (T.2.2.1, N ++ P, o2, 1, c2)
def Pst0 (F : Int → Int) (iw : Int) (S : Ps) (P : List Int) (o : Int) (c : Em) (T : Ps) : Prop := ∃ D sem, Cor F false S T D sem ∧ ∀ r, RK F iw (endZ F T.2.2.1 P o (c ++ D)) r → Rz F iw (S.2.2.1, P, o, 0, c) r
def Flt (F : Int → Int) (iw : Int) (z : Zs) (T : Ps) : Prop := T.1 ≠ 0 ∧ ∃ x, Rz F iw z (T.1, x) ∧ T.2.1 = tkS F x.1 ∧ 0 < T.1
def endK (lev k : Int) : Prop := (lev ≤ 6 → k ≠ 11 ∧ k ≠ 12) ∧ (lev ≤ 5 → k ≠ 9 ∧ k ≠ 10) ∧ (lev ≤ 2 → k ≠ 40) ∧ (lev ≤ 1 → k ≠ 39)
def PosT (F : Int → Int) (iw lev : Int) (tr : Bool) (k : Int) (S : Ps) (P : List Int) (o : Int) (c : Em) (T : Ps) : Prop := Flt F iw (S.2.2.1, P, o, 0, c) T ∨ (Pst F iw lev tr k S P o c T ∧ endK lev (tkK F T.2.2.1))
theorem mpZ_len (N : List Int) : (mpZ N).length = N.length := List.length_map ..
def stk (S T : Ps) : Prop := T.1 = S.1 ∧ T.2.1 = S.2.1
section SIDE
variable {F : Int → Int} {iw k lev l o o2 : Int} {tr : Bool} {S T U : Ps} {P N : List Int} {c c2 D D2 : Em} {sem s2 : Dn} {z : Zs}
theorem Flt.stk (h : Flt F iw z T) (e : stk T U) : Flt F iw z U := by
  obtain ⟨a, x, b, d, p⟩ := h
  exact ⟨by rw [e.1]; exact a, x, by rw [e.1]; exact b, by rw [e.2]; exact d, by rw [e.1]; exact p⟩
theorem Flt.back {y : Zs} (h : Flt F iw z T) (b : Rch F iw y z) : Flt F iw y T := by
  obtain ⟨a, x, d, e⟩ := h
  exact ⟨a, x, b _ d, e⟩
theorem stk_ite {p : Prop} [Decidable p] (a : stk S T) (b : stk S U) : stk S (if p then T else U) := by
  by_cases q : p
  · rw [if_pos q]; exact a
  · rw [if_neg q]; exact b
theorem stk_add {w : Int} (h : stk S T) : stk S (addP k w T) := h
theorem stk_adv (h : stk S T) : stk S (advP F T) := h
theorem stk_led {w : Int} (h : stk S T) : stk S (ledP w k T) := h
theorem stk_rf {w : Int} (h0 : S.1 ≠ 0) (h : stk S T) : stk S (rfP F w T) := by
  unfold rfP
  rw [if_neg (by rw [h.1]; exact h0)]
  exact h
theorem stk_wan {w : Int} (h0 : S.1 ≠ 0) (h : stk S T) : stk S (wanP F w T) := by
  unfold wanP
  split
  · exact h
  · exact stk_rf h0 h
theorem gk_stk : ∀ (f nt : Nat) (op : Int) (S T : Ps), S.1 ≠ 0 → stk S T → stk S (gk F iw f nt op T) := by
  intro f
  induction f with
  | zero => intro nt op S T h e; exact e
  | succ f ih =>
    intro nt op S T h e
    have I : ∀ (nt : Nat) (op : Int) (U : Ps), stk S U → stk S (gk F iw f nt op U) := fun nt op U q => ih nt op S U h q
    show stk S (gkB F iw (gk F iw f) nt op T)
    unfold gkB
    (repeat' (first | exact e | with_reducible apply stk_ite | with_reducible apply stk_add | with_reducible apply stk_adv | with_reducible apply stk_led | (with_reducible apply stk_rf h) | (with_reducible apply stk_wan h) | with_reducible apply I))
theorem PreB.ok (fF : F 2 ≤ 300) (pre : PreB F k S P o c) (k0 : 0 ≤ k) : okZs F (S.2.2.1, P, o, 0, c) := by
  obtain ⟨_, a, _, b, d, e⟩ := pre
  exact ⟨a, ⟨by show (P.length : Int) + c.length ≤ 300; omega, by show (P.length : Int) ≤ 159; omega⟩, b⟩
theorem Pnd.len (h : Pnd k lev tr o c N o2 c2 D) : (c2.length : Int) + N.length = c.length + D.length := by
  have e := congrArg List.length h.2.2.1
  rw [List.length_append, List.length_append, mpZ_len] at e
  omega
theorem Pnd.ok (fF : F 2 ≤ 300) (pre : PreB F k S P o c) (cor : Cor F tr S T D sem) (h : Pnd k lev tr o c N o2 c2 D) : okZs F (T.2.2.1, N ++ P, o2, 1, c2) := by
  have e := h.len
  obtain ⟨_, a, _, b, d, g⟩ := pre
  obtain ⟨_, ⟨u1, u2, u3⟩, _⟩ := cor
  obtain ⟨_, v2, _, v4, v5, _⟩ := h
  have z := n20_ge N
  have el : ((N ++ P).length : Int) = N.length + P.length := by rw [List.length_append]; omega
  exact ⟨⟨by show 0 ≤ T.2.2.1; omega, u3⟩, ⟨by show ((N ++ P).length : Int) + c2.length ≤ 300; omega, by show ((N ++ P).length : Int) ≤ 159; omega⟩, by show 0 ≤ o2; omega, v5⟩
theorem Pnd.se (h : Pnd k lev tr o c N o2 c2 D) (hl : l ≤ lev) (ht : topR P l) : seZ l (N ++ P) o2 c2 = (P, o, c ++ D) := by
  obtain ⟨v1, v2, v3, _⟩ := h
  rw [seZ_pend ht N o2 c2 (fun x hx => by have := v1 x hx; omega), v3, v2]
  rw [show o + n20 N - n20 N = o by omega]
theorem Pnd.opn (h : Pnd k lev tr o c N o2 c2 D) (hl : 1 ≤ lev) : opN (N ++ P) = opN P := opN_pend N fun x hx => by have := h.1 x hx; omega
theorem Pnd.mono {k2 lev2 : Int} (h : Pnd k lev tr o c N o2 c2 D) (hk : k ≤ k2) (hl : lev2 ≤ lev) : Pnd k2 lev2 tr o c N o2 c2 D := ⟨fun x hx => by have := h.1 x hx; omega, h.2.1, h.2.2.1, by have := h.2.2.2.1; omega, h.2.2.2.2⟩
theorem Pst.mono {k2 lev2 : Int} (h : Pst F iw lev tr k S P o c T) (hk : k ≤ k2) (hl : lev2 ≤ lev) : Pst F iw lev2 tr k2 S P o c T := by
  obtain ⟨D, sem, N, o2, c2, a, b, d⟩ := h
  exact ⟨D, sem, N, o2, c2, a, b.mono hk hl, d⟩
/-- a sign between two: what waits is done, the sign waits -/
theorem op_step {b : Int} (fF : F 2 ≤ 300) (pre : PreB F k S P o c) (cor : Cor F tr S T D sem) (h : Pnd k lev tr o c N o2 c2 D) (l1 : 1 ≤ lev) (hb : btZ (tkK F T.2.2.1) (opN P) (isC (N ++ P)) = b) (b0 : 0 ≤ b) (hl : stl b ≤ lev) (ht : topR P (stl b)) : Rch F iw (T.2.2.1, N ++ P, o2, 1, c2) (tkN F T.2.2.1, b :: P, o, 0, c ++ D) := by
  intro r hr
  have e : behZ F T.2.2.1 (N ++ P) o2 c2 = (0, (tkN F T.2.2.1, b :: P, o, 0, c ++ D)) := by
    unfold behZ
    rw [h.opn l1, hb, if_pos b0, h.se hl ht]
  refine Rz.beh (h.ok fF pre cor) (by rw [e]; show (0 : Int) ≠ -1; decide) ?_
  rw [e]
  exact RK.zero hr
theorem pre_op {k2 b : Int} (ok : okF F) (pre : PreB F k S P o c) (cor : Cor F tr S T D sem) (hk : tkK F T.2.2.1 ≠ 0) (h2 : k2 + 1 ≤ k) : PreB F k2 (advP F T) (b :: P) o (c ++ D) := by
  obtain ⟨_, a, a2, b, d, g⟩ := pre
  obtain ⟨u0, ⟨u1, u2, u3⟩, ⟨u4, u5⟩, _⟩ := cor
  have t := tkN_gt ok (show 0 ≤ T.2.2.1 by omega) u3 hk
  refine ⟨u0, ⟨by show 0 ≤ tkN F T.2.2.1; omega, t.2⟩, ⟨by show 0 ≤ T.2.2.2.1; omega, by show T.2.2.2.1 ≤ tkN F T.2.2.1; omega⟩, b, ?_, ?_⟩
  · rw [List.length_cons]; omega
  · rw [List.length_cons, List.length_append]; show _ ≤ tkN F T.2.2.1; omega
theorem stG_in {g : Int → Int} {i v : Int} (h0 : 0 ≤ i) (h1 : i < 300) : stG g i v = fset g i v := if_pos ⟨h0, h1⟩
theorem Cor.bin {tr1 : Bool} {kd : Int} (ok : okF F) (pn : 0 ≤ S.2.2.1 ∧ 0 ≤ S.2.2.2.1 ∧ S.2.2.2.1 ≤ S.2.2.1) (hb : bnB kd) (t1 : trI kd = tr1) (t2 : trO kd = tr) (h1 : Cor F tr1 S T D sem) (hk : tkK F T.2.2.1 ≠ 0) (h2 : Cor F tr1 (advP F T) U D2 s2) : Cor F tr S (addP kd 0 U) (D ++ D2 ++ [(cdB kd, 0)]) (fun env pl => joinM kd (sem env pl) (s2 env pl)) := by
  obtain ⟨u0, ⟨u1, u2, u3⟩, ⟨u4, u5⟩, u6, u7, u8, u9⟩ := h1
  have t := tkN_gt ok (show 0 ≤ T.2.2.1 by omega) u3 hk
  obtain ⟨v0, ⟨v1, v2, v3⟩, ⟨v4, v5⟩, v6, v7, v8, v9⟩ := h2
  have v2 : tkN F T.2.2.1 + D2.length ≤ U.2.2.1 := v2
  have v4 : T.2.2.2.1 + 1 ≤ U.2.2.2.1 := v4
  have v5 : U.2.2.2.1 - T.2.2.2.1 ≤ U.2.2.1 - tkN F T.2.2.1 := v5
  have v6 : ∀ j, j < T.2.2.2.1 → U.2.2.2.2 j = T.2.2.2.2 j := v6
  have v7 : ∀ j, T.2.2.2.1 ≤ j → j < U.2.2.2.1 → 0 ≤ U.2.2.2.2 j ∧ U.2.2.2.2 j < 1000000 := v7
  have f3 := ok.1.2
  have e : (addP kd 0 U).2.2.2.2 = fset U.2.2.2.2 U.2.2.2.1 (0 * 64 + kd) := stG_in (by omega) (by omega)
  have kr : 0 ≤ kd ∧ kd < 64 := by rcases hb with q | q | q | q <;> omega
  have cd : okD (cdB kd, 0) := by
    unfold okD cdB cmZ
    rcases hb with q | q | q | q <;> (repeat' split) <;> dsimp only <;> omega
  refine ⟨v0, ⟨by simp only [List.length_append, List.length_singleton]; omega, ?_, v3⟩, ⟨?_, ?_⟩, ?_, ?_, ?_, ?_⟩
  · simp only [List.length_append, List.length_singleton]; show _ ≤ U.2.2.1; omega
  · show _ ≤ U.2.2.2.1 + 1; omega
  · show U.2.2.2.1 + 1 - _ ≤ U.2.2.1 - _; omega
  · intro j hj; rw [e, fset_ne (by omega), v6 j (by omega), u6 j hj]
  · intro j j0 j1
    have j1 : j < U.2.2.2.1 + 1 := j1
    rw [e]
    by_cases q : j = U.2.2.2.1
    · subst q; rw [fset_at]; omega
    · rw [fset_ne q]
      by_cases w : j < T.2.2.2.1
      · rw [v6 j w]; exact u7 j j0 w
      · exact v7 j (by omega) (by omega)
  · intro x hx
    rcases List.mem_append.mp hx with hx | hx
    · rcases List.mem_append.mp hx with hx | hx
      · exact u8 x hx
      · exact v8 x hx
    · rw [List.mem_singleton.mp hx]; exact cd
  · subst t1
    exact SemV.bin hb u9 v9 v6 (fun j hj => by rw [e, fset_ne (by omega)]) (by rw [e, fset_at]) (by omega) (by show T.2.2.2.1 < U.2.2.2.1; omega) u1 v1 t2
theorem Cor.un {kd : Int} (ok : okF F) (pn : 0 ≤ S.2.2.1 ∧ 0 ≤ S.2.2.2.1 ∧ S.2.2.2.1 ≤ S.2.2.1) (pf : S.2.2.1 ≤ F 2) (hb : unB kd) (t1 : trU kd = tr) (hk : tkK F S.2.2.1 ≠ 0) (h2 : Cor F tr (advP F S) U D2 s2) : Cor F tr S (addP kd 0 U) (D2 ++ [(cuB kd, 0)]) (fun env pl => unM kd pl (s2 env pl)) := by
  have t := tkN_gt ok pn.1 pf hk
  obtain ⟨v0, ⟨v1, v2, v3⟩, ⟨v4, v5⟩, v6, v7, v8, v9⟩ := h2
  have v2 : tkN F S.2.2.1 + D2.length ≤ U.2.2.1 := v2
  have v4 : S.2.2.2.1 + 1 ≤ U.2.2.2.1 := v4
  have v5 : U.2.2.2.1 - S.2.2.2.1 ≤ U.2.2.1 - tkN F S.2.2.1 := v5
  have v6 : ∀ j, j < S.2.2.2.1 → U.2.2.2.2 j = S.2.2.2.2 j := v6
  have v7 : ∀ j, S.2.2.2.1 ≤ j → j < U.2.2.2.1 → 0 ≤ U.2.2.2.2 j ∧ U.2.2.2.2 j < 1000000 := v7
  have f3 := ok.1.2
  have e : (addP kd 0 U).2.2.2.2 = fset U.2.2.2.2 U.2.2.2.1 (0 * 64 + kd) := stG_in (by omega) (by omega)
  have kr : 0 ≤ kd ∧ kd < 64 := by rcases hb with q | q | q <;> omega
  have cd : okD (cuB kd, 0) := by
    unfold okD cuB
    rcases hb with q | q | q <;> (repeat' split) <;> dsimp only <;> omega
  refine ⟨v0, ⟨by simp only [List.length_append, List.length_singleton]; omega, ?_, v3⟩, ⟨?_, ?_⟩, ?_, ?_, ?_, ?_⟩
  · simp only [List.length_append, List.length_singleton]; show _ ≤ U.2.2.1; omega
  · show _ ≤ U.2.2.2.1 + 1; omega
  · show U.2.2.2.1 + 1 - _ ≤ U.2.2.1 - _; omega
  · intro j hj; rw [e, fset_ne (by omega), v6 j hj]
  · intro j j0 j1
    have j1 : j < U.2.2.2.1 + 1 := j1
    rw [e]
    by_cases q : j = U.2.2.2.1
    · subst q; rw [fset_at]; omega
    · rw [fset_ne q]
      exact v7 j j0 (by omega)
  · intro x hx
    rcases List.mem_append.mp hx with hx | hx
    · exact v8 x hx
    · rw [List.mem_singleton.mp hx]; exact cd
  · exact SemV.un hb v9 (fun j hj => by rw [e, fset_ne (by omega)]) (by rw [e, fset_at]) (by show S.2.2.2.1 < U.2.2.2.1; omega) v1 t1
/-- a token more ahead, a token more behind -/
theorem Cor.pre (ok : okF F) (pn : 0 ≤ S.2.2.1) (pf : S.2.2.1 ≤ F 2) (hk : tkK F S.2.2.1 ≠ 0) (h2 : Cor F tr (advP F S) U D2 s2) : Cor F tr S U D2 s2 := by
  have t := tkN_gt ok pn pf hk
  obtain ⟨v0, ⟨v1, v2, v3⟩, ⟨v4, v5⟩, v⟩ := h2
  have v2 : tkN F S.2.2.1 + D2.length ≤ U.2.2.1 := v2
  have v5 : U.2.2.2.1 - S.2.2.2.1 ≤ U.2.2.1 - tkN F S.2.2.1 := v5
  exact ⟨v0, ⟨v1, by omega, v3⟩, ⟨v4, by omega⟩, v⟩
theorem Cor.suf (ok : okF F) (pn : 0 ≤ S.2.2.1) (hk : tkK F U.2.2.1 ≠ 0) (h2 : Cor F tr S U D2 s2) : Cor F tr S (advP F U) D2 s2 := by
  obtain ⟨v0, ⟨v1, v2, v3⟩, ⟨v4, v5⟩, v⟩ := h2
  have t := tkN_gt ok (show 0 ≤ U.2.2.1 by omega) v3 hk
  exact ⟨v0, ⟨v1, by show _ ≤ tkN F U.2.2.1; omega, t.2⟩, ⟨v4, by show U.2.2.2.1 - _ ≤ tkN F U.2.2.1 - _; omega⟩, v⟩
theorem rfP_0 {w : Int} (h : S.1 = 0) : rfP F w S = (w, tkS F S.2.2.1, S.2.2) := if_pos h
/-- a fault at the token at hand -/
theorem Flt.now {w : Int} {z x : Zs} (h : S.1 = 0) (hw : 0 < w) (hz : Rz F iw z (w, x)) (hx : x.1 = S.2.2.1) : Flt F iw z (rfP F w S) := by
  rw [rfP_0 h]
  exact ⟨by show w ≠ 0; omega, x, hz, by rw [hx], hw⟩
theorem Flt.beg {w : Int} (h : S.1 = 0) (hw : 0 < w) (b : okZs F (S.2.2.1, P, o, 0, c)) (e : begZ F iw S.2.2.1 P o c = (w, (S.2.2.1, P, o, 0, c))) : Flt F iw (S.2.2.1, P, o, 0, c) (rfP F w S) := by
  refine Flt.now h hw (x := (S.2.2.1, P, o, 0, c)) (Rz.beg b ?_) rfl
  rw [e]
  exact RK.not (by show w ≠ 0; omega)
theorem Flt.bad (h : T.1 = 0) (b : okZs F (T.2.2.1, P, o, 1, c)) (h1 : btZ (tkK F T.2.2.1) (opN P) (isC P) = -1) (h2 : paZ (tkK F T.2.2.1) (opN P) (isC P) = -1) (h3 : 0 ≤ opN P) : Flt F iw (T.2.2.1, P, o, 1, c) (rfP F 1 T) := by
  refine Flt.now h (by decide) (Rz.bad b ?_ h3) rfl
  unfold behZ
  rw [h1, if_neg (by decide), h2, if_pos (by decide)]
end SIDE
