/-! The reading of a law, mirrored. Ps: fault, its place, where the token at hand is looked for, how many signs, the signs. -/
abbrev Ps : Type := Int × Int × Int × Int × (Int → Int)
def stG (g : Int → Int) (i v : Int) : Int → Int := if 0 ≤ i ∧ i < 300 then fset g i v else g
def rfP (F : Int → Int) (c : Int) (S : Ps) : Ps := if S.1 = 0 then (c, tkS F S.2.2.1, S.2.2) else S
def advP (F : Int → Int) (S : Ps) : Ps := (S.1, S.2.1, tkN F S.2.2.1, S.2.2.2)
def addP (k w : Int) (S : Ps) : Ps := (S.1, S.2.1, S.2.2.1, S.2.2.2.1 + 1, stG S.2.2.2.2 S.2.2.2.1 (w * 64 + k))
def ledP (sk k : Int) (S : Ps) : Ps := (S.1, S.2.1, S.2.2.1, S.2.2.2.1, stG S.2.2.2.2 sk ((S.2.2.2.1 - 1 - sk) * 64 + k))
def kdP (F : Int → Int) (S : Ps) : Int := tkK F S.2.2.1
def seP (F : Int → Int) (k : Int) (S : Ps) : Bool := decide (S.1 = 0 ∧ kdP F S = k)
def wanP (F : Int → Int) (k : Int) (S : Ps) : Ps := if seP F k S = true then advP F S else rfP F 1 S
def opB (k : Int) : Bool := decide (k = 13 ∨ k = 10 ∨ k = 32 ∨ k = 34 ∨ k = 35)
/-- one nonterminal more: 0 one, 1 product, 2 its rest, 3 sum, 4 its rest, 5 comparison, 6 ask, 7 both, 8 its rest, 9 either, 10 its rest, 11 what is opened, 12 if -/
def gkB (F : Int → Int) (iw : Int) (rec : Nat → Int → Ps → Ps) (nt : Nat) (o : Int) (S : Ps) : Ps :=
  if nt = 0 then (if S.1 ≠ 0 then S else if kdP F S = 2 then (if 9999 < tkV F S.2.2.1 then rfP F 2 S else advP F (addP 2 (tkV F S.2.2.1) S)) else if 23 ≤ kdP F S ∧ kdP F S ≤ 30 then (if iw ≠ 0 ∧ kdP F S = 30 then rfP F 5 S else advP F (addP (kdP F S) 0 S)) else if opB (kdP F S) = false then rfP F 1 S else if 8 ≤ o then rfP F 3 S else rec 11 (o + 1) S)
  else if nt = 1 then rec 2 o (rec 0 o S)
  else if nt = 2 then (if seP F 11 S = true ∨ seP F 12 S = true then rec 2 o (addP (kdP F S) 0 (rec 0 o (advP F S))) else S)
  else if nt = 3 then rec 4 o (rec 1 o S)
  else if nt = 4 then (if seP F 9 S = true ∨ seP F 10 S = true then rec 4 o (addP (kdP F S) 0 (rec 1 o (advP F S))) else S)
  else if nt = 5 then (if kdP F (rec 3 o S) < 3 ∨ 8 < kdP F (rec 3 o S) then rfP F 1 (rec 3 o S) else if (rec 3 o S).1 ≠ 0 then rec 3 o S else addP (kdP F (rec 3 o S)) 0 (rec 3 o (advP F (rec 3 o S))))
  else if nt = 6 then (if S.1 ≠ 0 then S else if kdP F S ≠ 41 then rec 5 o S else if 8 ≤ o then rfP F 3 S else addP 41 0 (rec 6 (o + 1) (advP F S)))
  else if nt = 7 then rec 8 o (rec 6 o S)
  else if nt = 8 then (if seP F 40 S = true then rec 8 o (addP 40 0 (rec 6 o (advP F S))) else S)
  else if nt = 9 then rec 10 o (rec 7 o S)
  else if nt = 10 then (if seP F 39 S = true then rec 10 o (addP 39 0 (rec 7 o (advP F S))) else S)
  else if nt = 11 then (if kdP F S = 13 then wanP F 14 (rec 3 o (advP F S)) else if kdP F S = 32 then addP 32 0 (rec 0 o (wanP F 33 (rec 0 o (advP F S)))) else if kdP F S = 35 then rec 12 o (advP F S) else if kdP F S = 10 then addP 50 0 (rec 0 o (advP F S)) else addP (kdP F S) 0 (rec 0 o (advP F S)))
  else
    ledP (wanP F 37 (rec 3 o (addP 52 0 (wanP F 36 (rec 9 o S))))).2.2.2.1 51 (wanP F 38 (rec 3 o (ledP (wanP F 36 (rec 9 o S)).2.2.2.1 52 (addP 51 0 (wanP F 37 (rec 3 o (addP 52 0 (wanP F 36 (rec 9 o S)))))))))
def gk (F : Int → Int) (iw : Int) : Nat → Nat → Int → Ps → Ps
  | 0, _, _, S => S
  | f + 1, nt, o, S => gkB F iw (gk F iw f) nt o S
/-- how much a reading may still need -/
def rkP (nt : Nat) : Int := if nt = 0 then 1 else if nt = 1 then 2 else if nt = 3 then 3 else if nt = 5 then 4 else if nt = 6 then 5 else if nt = 7 then 6 else if nt = 9 then 7 else if nt = 12 then 8 else 0
def msP (F : Int → Int) (nt : Nat) (S : Ps) : Int := (F 2 - S.2.2.1) * 9 + rkP nt
def okZ (F : Int → Int) (S : Ps) : Prop := 0 ≤ S.2.2.1 ∧ S.2.2.1 ≤ F 2 ∧ 0 ≤ S.2.2.2.1 ∧ S.2.2.2.1 ≤ 2 * S.2.2.1
theorem tkN_gt {F : Int → Int} (o : okF F) {p : Int} (h0 : 0 ≤ p) (h : p ≤ F 2) (hk : tkK F p ≠ 0) : p + 1 ≤ tkN F p ∧ tkN F p ≤ F 2 := by
  have s := tkS_in (F := F) h
  have t := tkT_in (F := F) (q := tkS F p) o (by omega) s.2
  have d1 : ∀ q v, digB (byA F q) = true → q + 1 ≤ (dgN F 300 q v).1 := by
    intro q v hd
    have e : dgN F 300 q v = dgN F 299 (q + 1) (min (v * 10 + byA F q - 48) 10000) := by
      show (if digB (byA F q) = true then _ else _) = _
      rw [if_pos hd]
    have m : ∀ (k : Nat) (q v : Int), q ≤ (dgN F k q v).1 := by
      intro k
      induction k with
      | zero => intro q v; exact Int.le_refl _
      | succ k ih =>
        intro q v
        unfold dgN
        split
        · have := ih (q + 1) (min (v * 10 + byA F q - 48) 10000); omega
        · exact Int.le_refl _
    rw [e]
    exact m _ _ _
  have d2 : ∀ q, letB (byA F q) = true → q + 1 ≤ ltN F 300 q := by
    intro q hd
    have e : ltN F 300 q = ltN F 299 (q + 1) := by
      show (if letB (byA F q) = true then _ else _) = _
      rw [if_pos hd]
    have m : ∀ (k : Nat) (q : Int), q ≤ ltN F k q := by
      intro k
      induction k with
      | zero => intro q; exact Int.le_refl _
      | succ k ih =>
        intro q
        unfold ltN
        split
        · have := ih (q + 1); omega
        · exact Int.le_refl _
    rw [e]
    exact m _ _
  unfold tkK at hk
  unfold tkN
  refine ⟨?_, t.2.1⟩
  generalize tkS F p = q at *
  unfold tkT at hk ⊢
  split at hk
  · exact absurd rfl hk
  · rw [if_neg (by assumption)]
    split
    · have := d1 q 0 (by assumption); dsimp only; omega
    · split
      · have := d2 q (by assumption); dsimp only; omega
      · unfold sgT
        split
        · dsimp only; omega
        · split <;> dsimp only <;> omega
def leQ (F : Int → Int) (e : Int) (S T : Ps) : Prop := S.2.2.1 ≤ T.2.2.1 ∧ T.2.2.1 ≤ F 2 ∧ S.2.2.2.1 ≤ T.2.2.2.1 ∧ T.2.2.2.1 - S.2.2.2.1 ≤ 2 * (T.2.2.1 - S.2.2.1) + e
theorem leQ.rf {F : Int → Int} {S : Ps} (h : S.2.2.1 ≤ F 2) : leQ F 0 S S := ⟨Int.le_refl _, h, Int.le_refl _, by omega⟩
theorem leQ.tr {F : Int → Int} {S T U : Ps} {a b c : Int} (x : leQ F a S T) (y : leQ F b T U) (hc : a + b ≤ c) : leQ F c S U := by
  obtain ⟨a1, a2, a3, a4⟩ := x
  obtain ⟨b1, b2, b3, b4⟩ := y
  exact ⟨by omega, b2, by omega, by omega⟩
theorem leQ.ok {F : Int → Int} {S T : Ps} (h : okZ F S) (a : leQ F 0 S T) : okZ F T := by
  obtain ⟨a1, a2, a3, a4⟩ := a
  obtain ⟨h1, h2, h3, h4⟩ := h
  exact ⟨by omega, a2, by omega, by omega⟩
theorem rfP_eq {F : Int → Int} {c : Int} {S : Ps} : (rfP F c S).2.2 = S.2.2 := by unfold rfP; split <;> rfl
theorem rfP_le {F : Int → Int} {c : Int} {S : Ps} (h : S.2.2.1 ≤ F 2) : leQ F 0 S (rfP F c S) := by
  unfold leQ
  rw [rfP_eq]
  exact leQ.rf h
theorem seP_kd {F : Int → Int} {k : Int} {S : Ps} (h : seP F k S = true) : S.1 = 0 ∧ kdP F S = k := of_decide_eq_true h
theorem advP_le {F : Int → Int} {S : Ps} (o : okF F) (h : okZ F S) (hk : kdP F S ≠ 0) : leQ F (-2) S (advP F S) ∧ S.2.2.1 + 1 ≤ (advP F S).2.2.1 := by
  obtain ⟨h1, h2, h3, h4⟩ := h
  have := tkN_gt o h1 h2 hk
  unfold leQ advP
  dsimp only
  omega
theorem addP_le {F : Int → Int} {k w : Int} {S : Ps} (h : S.2.2.1 ≤ F 2) : leQ F 1 S (addP k w S) := by
  unfold leQ addP
  dsimp only
  omega
theorem ledP_le {F : Int → Int} {k w : Int} {S : Ps} (h : S.2.2.1 ≤ F 2) : leQ F 0 S (ledP k w S) := by
  unfold leQ ledP
  dsimp only
  omega
theorem wanP_le {F : Int → Int} {k : Int} {S : Ps} (o : okF F) (h : okZ F S) (hk : k ≠ 0) : leQ F 0 S (wanP F k S) := by
  unfold wanP
  split
  · have e := seP_kd (by assumption)
    exact (advP_le o h (by omega)).1.tr (leQ.rf (advP_le o h (by omega)).1.2.1) (by decide)
  · exact rfP_le h.2.1
def slP (nt : Nat) : Int := if nt < 12 then 0 else 2
theorem gk_le {F : Int → Int} {iw : Int} (o : okF F) : ∀ (f nt : Nat) (op : Int) (S : Ps), okZ F S → (nt = 11 → kdP F S ≠ 0) → (11 < nt → S.2.2.2.1 + 2 ≤ 2 * S.2.2.1) → leQ F (slP nt) S (gk F iw f nt op S) := by
  intro f
  induction f with
  | zero =>
    intro nt op S h _ _
    exact (leQ.rf h.2.1).tr (leQ.rf h.2.1) (by unfold slP; split <;> omega)
  | succ f ih =>
    intro nt op S h hk hk2
    have I : ∀ (nt : Nat) (op : Int) (T : Ps), nt < 11 → nt < 12 → okZ F T → leQ F 0 T (gk F iw f nt op T) := by
      intro nt op T h1 h2 h3
      have z := ih nt op T h3 (fun e => by omega) (fun e => by omega)
      rw [slP, if_pos h2] at z
      exact z
    show leQ F (slP nt) S (gkB F iw (gk F iw f) nt op S)
    unfold gkB
    by_cases n0 : nt = 0
    · subst n0
      rw [if_pos rfl]
      show leQ F 0 _ _
      split
      · exact leQ.rf h.2.1
      · split
        · split
          · exact rfP_le h.2.1
          · have a := advP_le o h (by omega)
            exact ⟨a.1.1, a.1.2.1, by show S.2.2.2.1 ≤ S.2.2.2.1 + 1; omega, by have := a.1.2.2.2; show S.2.2.2.1 + 1 - S.2.2.2.1 ≤ 2 * ((advP F S).2.2.1 - S.2.2.1) + 0; omega⟩
        · split
          · split
            · exact rfP_le h.2.1
            · have a := advP_le o h (by omega)
              exact ⟨a.1.1, a.1.2.1, by show S.2.2.2.1 ≤ S.2.2.2.1 + 1; omega, by have := a.1.2.2.2; show S.2.2.2.1 + 1 - S.2.2.2.1 ≤ 2 * ((advP F S).2.2.1 - S.2.2.1) + 0; omega⟩
          · split
            · exact rfP_le h.2.1
            · rename_i hop
              split
              · exact rfP_le h.2.1
              · have hb : opB (kdP F S) = true := by simpa using hop
                have hb := of_decide_eq_true hb
                exact ih 11 (op + 1) S h (fun _ => by omega) (fun e => absurd e (by decide))
    · rw [if_neg n0]
      by_cases n1 : nt = 1
      · subst n1
        rw [if_pos rfl]
        have a := I 0 op S (by decide) (by decide) h
        exact a.tr (I 2 op _ (by decide) (by decide) (a.ok h)) (by decide)
      · rw [if_neg n1]
        by_cases n2 : nt = 2
        · subst n2
          rw [if_pos rfl]
          show leQ F 0 _ _
          split
          · rename_i e
            have k0 : kdP F S ≠ 0 := by rcases e with e | e <;> (have := seP_kd e; omega)
            have a := advP_le o h k0
            have b := I 0 op _ (by decide) (by decide) ((a.1.tr (leQ.rf a.1.2.1) (by decide)).ok h)
            have c := (a.1.tr b (c := -2) (by decide)).tr (addP_le (k := kdP F S) (w := 0) b.2.1) (c := -1) (by decide)
            exact c.tr (I 2 op _ (by decide) (by decide) ((c.tr (leQ.rf c.2.1) (by decide)).ok h)) (by decide)
          · exact leQ.rf h.2.1
        · rw [if_neg n2]
          by_cases n3 : nt = 3
          · subst n3
            rw [if_pos rfl]
            have a := I 1 op S (by decide) (by decide) h
            exact a.tr (I 4 op _ (by decide) (by decide) (a.ok h)) (by decide)
          · rw [if_neg n3]
            by_cases n4 : nt = 4
            · subst n4
              rw [if_pos rfl]
              show leQ F 0 _ _
              split
              · rename_i e
                have k0 : kdP F S ≠ 0 := by rcases e with e | e <;> (have := seP_kd e; omega)
                have a := advP_le o h k0
                have b := I 1 op _ (by decide) (by decide) ((a.1.tr (leQ.rf a.1.2.1) (by decide)).ok h)
                have c := (a.1.tr b (c := -2) (by decide)).tr (addP_le (k := kdP F S) (w := 0) b.2.1) (c := -1) (by decide)
                exact c.tr (I 4 op _ (by decide) (by decide) ((c.tr (leQ.rf c.2.1) (by decide)).ok h)) (by decide)
              · exact leQ.rf h.2.1
            · rw [if_neg n4]
              by_cases n5 : nt = 5
              · subst n5
                rw [if_pos rfl]
                show leQ F 0 _ _
                have a := I 3 op S (by decide) (by decide) h
                split
                · exact a.tr (rfP_le a.2.1) (by decide)
                · split
                  · exact a
                  · have b := advP_le o (a.ok h) (by omega)
                    have c := I 3 op _ (by decide) (by decide) ((b.1.tr (leQ.rf b.1.2.1) (by decide)).ok (a.ok h))
                    exact ((a.tr b.1 (c := -2) (by decide)).tr c (c := -2) (by decide)).tr (addP_le c.2.1) (by decide)
              · rw [if_neg n5]
                by_cases n6 : nt = 6
                · subst n6
                  rw [if_pos rfl]
                  show leQ F 0 _ _
                  split
                  · exact leQ.rf h.2.1
                  · split
                    · exact I 5 op S (by decide) (by decide) h
                    · split
                      · exact rfP_le h.2.1
                      · have b := advP_le o h (by omega)
                        have c := I 6 (op + 1) _ (by decide) (by decide) ((b.1.tr (leQ.rf b.1.2.1) (by decide)).ok h)
                        exact (b.1.tr c (c := -2) (by decide)).tr (addP_le c.2.1) (by decide)
                · rw [if_neg n6]
                  by_cases n7 : nt = 7
                  · subst n7
                    rw [if_pos rfl]
                    have a := I 6 op S (by decide) (by decide) h
                    exact a.tr (I 8 op _ (by decide) (by decide) (a.ok h)) (by decide)
                  · rw [if_neg n7]
                    by_cases n8 : nt = 8
                    · subst n8
                      rw [if_pos rfl]
                      show leQ F 0 _ _
                      split
                      · rename_i e
                        have k0 : kdP F S ≠ 0 := by have := seP_kd e; omega
                        have a := advP_le o h k0
                        have b := I 6 op _ (by decide) (by decide) ((a.1.tr (leQ.rf a.1.2.1) (by decide)).ok h)
                        have c := (a.1.tr b (c := -2) (by decide)).tr (addP_le (k := 40) (w := 0) b.2.1) (c := -1) (by decide)
                        exact c.tr (I 8 op _ (by decide) (by decide) ((c.tr (leQ.rf c.2.1) (by decide)).ok h)) (by decide)
                      · exact leQ.rf h.2.1
                    · rw [if_neg n8]
                      by_cases n9 : nt = 9
                      · subst n9
                        rw [if_pos rfl]
                        have a := I 7 op S (by decide) (by decide) h
                        exact a.tr (I 10 op _ (by decide) (by decide) (a.ok h)) (by decide)
                      · rw [if_neg n9]
                        by_cases n10 : nt = 10
                        · subst n10
                          rw [if_pos rfl]
                          show leQ F 0 _ _
                          split
                          · rename_i e
                            have k0 : kdP F S ≠ 0 := by have := seP_kd e; omega
                            have a := advP_le o h k0
                            have b := I 7 op _ (by decide) (by decide) ((a.1.tr (leQ.rf a.1.2.1) (by decide)).ok h)
                            have c := (a.1.tr b (c := -2) (by decide)).tr (addP_le (k := 39) (w := 0) b.2.1) (c := -1) (by decide)
                            exact c.tr (I 10 op _ (by decide) (by decide) ((c.tr (leQ.rf c.2.1) (by decide)).ok h)) (by decide)
                          · exact leQ.rf h.2.1
                        · rw [if_neg n10]
                          by_cases n11 : nt = 11
                          · subst n11
                            rw [if_pos rfl]
                            show leQ F 0 _ _
                            have b := advP_le o h (hk rfl)
                            have bo := (b.1.tr (leQ.rf b.1.2.1) (show (-2 : Int) + 0 ≤ 0 by decide)).ok h
                            split
                            · have c := I 3 op _ (by decide) (by decide) bo
                              exact (b.1.tr c (c := -2) (by decide)).tr (wanP_le o (c.ok bo) (by decide)) (by decide)
                            · split
                              · have c := I 0 op _ (by decide) (by decide) bo
                                have e := wanP_le (k := 33) o (c.ok bo) (by decide)
                                have g := I 0 op _ (by decide) (by decide) (e.ok (c.ok bo))
                                exact (((b.1.tr c (c := -2) (by decide)).tr e (c := -2) (by decide)).tr g (c := -2) (by decide)).tr (addP_le g.2.1) (by decide)
                              · split
                                · have c := ih 12 op _ bo (fun e => absurd e (by decide)) (fun _ => by have := h.2.2.2; have := b.2; show S.2.2.2.1 + 2 ≤ 2 * (advP F S).2.2.1; omega)
                                  exact b.1.tr c (by decide)
                                · split
                                  · have c := I 0 op _ (by decide) (by decide) bo
                                    exact (b.1.tr c (c := -2) (by decide)).tr (addP_le c.2.1) (by decide)
                                  · have c := I 0 op _ (by decide) (by decide) bo
                                    exact (b.1.tr c (c := -2) (by decide)).tr (addP_le c.2.1) (by decide)
                          · rw [if_neg n11]
                            have hn : 11 < nt := by omega
                            have hs := hk2 hn
                            rw [slP, if_neg (by omega)]
                            have a := I 9 op S (by decide) (by decide) h
                            have a1 := wanP_le (k := 36) o (a.ok h) (by decide)
                            have a2 := a.tr a1 (c := 0) (by decide)
                            have a3 := a2.tr (addP_le (k := 52) (w := 0) a2.2.1) (c := 1) (by decide)
                            have K : ∀ T : Ps, leQ F 2 S T → okZ F T := by
                              intro T q
                              obtain ⟨q1, q2, q3, q4⟩ := q
                              obtain ⟨p1, p2, p3, p4⟩ := h
                              exact ⟨by omega, q2, by omega, by omega⟩
                            have a4 := a3.tr (I 3 op _ (by decide) (by decide) (K _ (a3.tr (leQ.rf a3.2.1) (by decide)))) (c := 1) (by decide)
                            have a5 := a4.tr (wanP_le (k := 37) o (K _ (a4.tr (leQ.rf a4.2.1) (by decide))) (by decide)) (c := 1) (by decide)
                            have a6 := a5.tr (addP_le (k := 51) (w := 0) a5.2.1) (c := 2) (by decide)
                            have a7 := a6.tr (ledP_le (k := (wanP F 36 (gk F iw f 9 op S)).2.2.2.1) (w := 52) a6.2.1) (c := 2) (by decide)
                            have a8 := a7.tr (I 3 op _ (by decide) (by decide) (K _ a7)) (c := 2) (by decide)
                            have a9 := a8.tr (wanP_le (k := 38) o (K _ a8) (by decide)) (c := 2) (by decide)
                            exact a9.tr (ledP_le a9.2.1) (by decide)
