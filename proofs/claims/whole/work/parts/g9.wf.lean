/-! What a law that was read says: its signs end, both rows say the same. -/
section WF
variable {F : Int → Int} {iw : Int}
theorem runC_s (L env pl : Int → Int) (len i : Int) (f : Nat) (l : List Int) : runC L env pl len (f + 1) i l = if len ≤ i then (match l with | [v] => some v | _ => none) else match stC L env pl i l with
      | none => none
      | some (j, r) => runC L env pl len f j r := rfl
theorem mRun_s (C env pl : Int → Int) (k e i : Int) (f : Nat) (l ts : List Int) : mRun C k e env pl (f + 1) i l ts = if e ≤ i then (match l with | [v] => some v | _ => none) else match mStp (C (k + 2 * i)) (C (k + 2 * i + 1)) env pl l ts with
      | none => none
      | some (l2, t2) => mRun C k e env pl f (i + 1) l2 t2 := rfl
theorem stC_ge {L env pl : Int → Int} {i j : Int} {l r : List Int} (h : stC L env pl i l = some (j, r)) (h0 : 0 ≤ L i) : i + 1 ≤ j := by
  have P : ∀ {v : Int} {l : List Int}, psh i v l = some (j, r) → i + 1 ≤ j := fun h => by have := (psh_some h).1; omega
  unfold stC at h
  by_cases q51 : L i % 64 = 51
  · rw [if_pos q51] at h
    cases h
    omega
  rw [if_neg q51] at h
  by_cases q52 : L i % 64 = 52
  · rw [if_pos q52] at h
    rcases l with _ | ⟨v, l⟩
    · cases h
    · dsimp only at h
      cases h
      split <;> omega
  rw [if_neg q52] at h
  by_cases q2 : L i % 64 = 2
  · rw [if_pos q2] at h; exact P h
  rw [if_neg q2] at h
  by_cases q3 : 23 ≤ L i % 64 ∧ L i % 64 ≤ 30
  · rw [if_pos q3] at h; exact P h
  rw [if_neg q3] at h
  rcases l with _ | ⟨v, l⟩
  · cases h
  dsimp only at h
  by_cases q4 : L i % 64 = 34
  · rw [if_pos q4] at h; exact P h
  rw [if_neg q4] at h
  by_cases q5 : L i % 64 = 50
  · rw [if_pos q5] at h; exact P h
  rw [if_neg q5] at h
  by_cases q6 : L i % 64 = 41
  · rw [if_pos q6] at h; exact P h
  rw [if_neg q6] at h
  rcases l with _ | ⟨u, l⟩
  · cases h
  dsimp only at h
  exact P h
theorem runC_fuel {L env pl : Int → Int} {len : Int} (hL : ∀ i, 0 ≤ i → i < len → 0 ≤ L i) : ∀ (f : Nat) (i : Int) (l : List Int) (r : Int), 0 ≤ i → runC L env pl len f i l = some r → ∀ f2 : Nat, (len - i).toNat + 1 ≤ f2 → runC L env pl len f2 i l = some r := by
  intro f
  induction f with
  | zero => intro i l r _ h; cases h
  | succ f ih =>
    intro i l r i0 h f2 hf
    obtain ⟨f3, rfl⟩ : ∃ k, f2 = k + 1 := ⟨f2 - 1, by omega⟩
    have e1 := runC_s L env pl len i f l
    have e2 := runC_s L env pl len i f3 l
    rw [e1] at h
    rw [e2]
    by_cases q : len ≤ i
    · rw [if_pos q] at h ⊢; exact h
    · rw [if_neg q] at h ⊢
      cases hs : stC L env pl i l with
      | none => rw [hs] at h; cases h
      | some jr =>
        obtain ⟨j, l2⟩ := jr
        rw [hs] at h
        have jg := stC_ge hs (hL i i0 (by omega))
        exact ih j l2 r (by omega) h f3 (by omega)
/-- the law that was read, as the class keeps it -/
theorem law_wf {S T : Ps} {D : Em} {sem : Dn} (f3 : F 2 ≤ 300) (hn : S.2.2.2.1 = 0) (hp : 1 ≤ S.2.2.1) (cor : Cor F false S T D sem) : WfL (lwO T) ∧ ∀ env pl, okE env pl → codeD (lwO T) env pl = sem env pl := by
  obtain ⟨u0, ⟨u1, u2, u3⟩, ⟨u4, u5⟩, u6, u7, u8, u9⟩ := cor
  rw [hn] at u4 u5 u6 u7 u9
  have hl : ((lwO T).1 : Int) = T.2.2.2.1 := by show ((T.2.2.2.1.toNat : Nat) : Int) = _; omega
  have hs : ∀ j, 0 ≤ j → j < T.2.2.2.1 → (lwO T).2 j = T.2.2.2.2 j := fun j j0 j1 => if_pos (by omega)
  have ok1 : okL (lwO T).2 (lwO T).1 := ⟨by omega, by omega, fun i i0 i1 => by rw [hs i i0 (by omega)]; exact u7 i i0 (by omega)⟩
  have run : ∀ env pl, okE env pl → runC (lwO T).2 env pl (lwO T).1 ((lwO T).1 + 1) 0 [] = some (sem env pl) := by
    intro env pl oe
    obtain ⟨v1, v2, v3, v4⟩ := u9 env pl oe
    have rc : RC (lwO T).2 env pl (lwO T).1 0 [] (sem env pl) := by
      refine v3 _ _ [] _ (fun j j0 j1 => hs j j0 j1) (by omega) (by show (0 : Int) + (T.2.2.2.1 - 0) ≤ 299; omega) ⟨1, ?_⟩
      show (if (((lwO T).1 : Int)) ≤ T.2.2.2.1 then (match [sem env pl] with | [v] => some v | _ => none) else _) = _
      rw [if_pos (by omega)]
    obtain ⟨f, hf⟩ := rc
    exact runC_fuel (fun i i0 i1 => (ok1.2.2 i i0 i1).1) f 0 [] _ (by decide) hf _ (by omega)
  refine ⟨⟨ok1, fun env pl oe => ⟨_, run env pl oe⟩⟩, fun env pl oe => ?_⟩
  unfold codeD
  rw [run env pl oe]
  rfl
theorem mRun_of {C env pl : Int → Int} {k e v : Int} : ∀ (D : Em) (i : Int) (l ts t2 : List Int), foM env pl D (l, ts) = some ([v], t2) → (∀ (j : Nat) (x : Int × Int), D[j]? = some x → C (k + 2 * (i + j)) = x.1 ∧ C (k + 2 * (i + j) + 1) = x.2) → e = i + D.length → mRun C k e env pl (D.length + 1) i l ts = some v := by
  intro D
  induction D with
  | nil =>
    intro i l ts t2 h _ he
    have h : some (l, ts) = some ([v], t2) := h
    cases h
    have he : e = i + ((0 : Nat) : Int) := he
    show (if e ≤ i then (match [v] with | [v] => some v | _ => none) else _) = some v
    rw [if_pos (by omega)]
  | cons x D ih =>
    intro i l ts t2 h hC he
    rw [List.length_cons] at he ⊢
    have h0 := hC 0 x rfl
    rw [show i + ((0 : Nat) : Int) = i by omega] at h0
    have h : (match mStp x.1 x.2 env pl l ts with
      | none => none
      | some s2 => foM env pl D s2) = some ([v], t2) := h
    have e1 := mRun_s C env pl k e i (D.length + 1) l ts
    rw [e1, if_neg (by omega), h0.1, h0.2]
    cases hm : mStp x.1 x.2 env pl l ts with
    | none => rw [hm] at h; cases h
    | some s2 =>
      obtain ⟨l2, t3⟩ := s2
      rw [hm] at h
      refine ih (i + 1) l2 t3 t2 h (fun j y hy => ?_) (by omega)
      have := hC (j + 1) y hy
      rw [show i + ((j + 1 : Nat) : Int) = i + 1 + (j : Int) by omega] at this
      exact this
theorem law_md {S T : Ps} {D : Em} {sem : Dn} {C : Int → Int} {b : Int} {c : Em} (f3 : F 2 ≤ 300) (hn : S.2.2.2.1 = 0) (hp : 1 ≤ S.2.2.1) (hc : (c.length : Int) ≤ S.2.2.1) (cor : Cor F false S T D sem) (em : EmR C b (c ++ D)) : MDen C (b + 97) c.length (c.length + D.length) (codeD (lwO T)) := by
  have wf := law_wf f3 hn hp cor
  obtain ⟨u0, ⟨u1, u2, u3⟩, ⟨u4, u5⟩, u6, u7, u8, u9⟩ := cor
  have at' : ∀ (j : Nat) (x : Int × Int), D[j]? = some x → C (b + 97 + 2 * ((c.length : Int) + j)) = x.1 ∧ C (b + 97 + 2 * ((c.length : Int) + j) + 1) = x.2 := by
    intro j x hx
    have := em (c.length + j) x (by rw [List.getElem?_append_right (by omega), show c.length + j - c.length = j by omega]; exact hx)
    rw [show ((c.length + j : Nat) : Int) = (c.length : Int) + j by omega] at this
    exact this
  refine ⟨⟨by omega, by omega, by omega⟩, fun i i0 i1 => ?_, fun env pl oe => ?_⟩
  · have hj : (i - c.length).toNat < D.length := by omega
    have := at' (i - c.length).toNat D[(i - c.length).toNat] (List.getElem?_eq_getElem hj)
    rw [show (c.length : Int) + ((i - c.length).toNat : Nat) = i by omega] at this
    have od := u8 _ (List.getElem_mem hj)
    rw [this.1, this.2]
    exact od
  · obtain ⟨v1, v2, v3, v4⟩ := u9 env pl oe
    have fo := v4 [] [] (by show 0 + D.length ≤ 320; omega) (by show 0 + D.length ≤ 320; omega)
    rw [wf.2 env pl oe]
    exact ⟨D.length + 1, mRun_of D c.length [] [] _ fo at' rfl⟩
theorem mRun_ext {C C2 env pl : Int → Int} {k e : Int} : ∀ (f : Nat) (i : Int) (l ts : List Int), (∀ j, k + 2 * i ≤ j → j < k + 2 * e → C2 j = C j) → mRun C2 k e env pl f i l ts = mRun C k e env pl f i l ts := by
  intro f
  induction f with
  | zero => intro i l ts _; rfl
  | succ f ih =>
    intro i l ts h
    have ee : ∀ C : Int → Int, mRun C k e env pl (f + 1) i l ts = if e ≤ i then (match l with | [v] => some v | _ => none) else match mStp (C (k + 2 * i)) (C (k + 2 * i + 1)) env pl l ts with
      | none => none
      | some (l2, t2) => mRun C k e env pl f (i + 1) l2 t2 := fun _ => rfl
    rw [ee, ee]
    by_cases q : e ≤ i
    · rw [if_pos q, if_pos q]
    · rw [if_neg q, if_neg q, h (k + 2 * i) (by omega) (by omega), h (k + 2 * i + 1) (by omega) (by omega)]
      cases mStp (C (k + 2 * i)) (C (k + 2 * i + 1)) env pl l ts with
      | none => rfl
      | some s2 => exact ih (i + 1) s2.1 s2.2 fun j h0 h1 => h j (by omega) h1
theorem MDen.ext {C C2 : Int → Int} {k s e : Int} {D : Dn} (m : MDen C k s e D) (h : ∀ j, k + 2 * s ≤ j → j < k + 2 * e → C2 j = C j) : MDen C2 k s e D := by
  obtain ⟨m1, m2, m3⟩ := m
  refine ⟨m1, fun i i0 i1 => ?_, fun env pl oe => ?_⟩
  · rw [h (k + 2 * i) (by omega) (by omega), h (k + 2 * i + 1) (by omega) (by omega)]
    exact m2 i i0 i1
  · obtain ⟨f, hf⟩ := m3 env pl oe
    exact ⟨f, by rw [mRun_ext f s [] [] h]; exact hf⟩
def hdE (C : Int → Int) (b : Int) (q : Cs) (c : Em) : Prop := ∀ k, 0 ≤ k → k < q.2.2.1 → (q.2.1 (k * 4 + 0) = 16 ∨ q.2.1 (k * 4 + 0) = 17) → C (b + 1 + 4 * k + 2) ≤ c.length
theorem mkT_cl {q : Cs} {k w : Int} (h : k * 4 + w < 96) : (mkT q).2.1 (k * 4 + w) = q.2.1 (k * 4 + w) := if_pos h
/-- one clause more -/
theorem tTx_add {C C2 : Int → Int} {b : Int} {q q2 : Cs} {c c2 : Em} (t : tTx C b (mkT q)) (hE : hdE C b q c) (h24 : q.2.2.1 < 24) (hc : q2.2.2.1 = q.2.2.1 + 1) (e0 : C2 b = q.2.2.1 + 1) (eh : ∀ j, b < j → j ≤ b + 4 * q.2.2.1 → C2 j = C j) (ed : ∀ j, b + 97 ≤ j → j < b + 97 + 2 * c.length → C2 j = C j) (ec : ∀ j, j < 4 * q.2.2.1 → q2.2.1 j = q.2.1 j) (h1 : q2.2.2.2.1 = q.2.2.2.1 ∨ q.2.2.2.1 = none) (h2 : q2.2.2.2.2 = q.2.2.2.2 ∨ q.2.2.2.2 = none) (nw : tCl C2 b (mkT q2) q.2.2.1) (n1 : q2.2.2.2.1 = q.2.2.2.1 ∨ q2.2.1 (q.2.2.1 * 4 + 0) = 16) (n2 : q2.2.2.2.2 = q.2.2.2.2 ∨ q2.2.1 (q.2.2.1 * 4 + 0) = 17) (lc : c.length ≤ c2.length) (ne : (q2.2.1 (q.2.2.1 * 4 + 0) = 16 ∨ q2.2.1 (q.2.2.1 * 4 + 0) = 17) → C2 (b + 1 + 4 * q.2.2.1 + 2) ≤ c2.length) : tTx C2 b (mkT q2) ∧ hdE C2 b q2 c2 := by
  obtain ⟨⟨t1, t2⟩, t3, t4, t5, t6⟩ := t
  have t1 : 0 ≤ q.2.2.1 := t1
  have t4 : ∀ k, 0 ≤ k → k < q.2.2.1 → tCl C b (mkT q) k := t4
  have k2 : ∀ k w, 0 ≤ k → k < q.2.2.1 → 0 ≤ w → w ≤ 3 → (mkT q2).2.1 (k * 4 + w) = (mkT q).2.1 (k * 4 + w) := fun k w k0 k1 w0 w1 => by rw [mkT_cl (by omega), mkT_cl (by omega), ec _ (by omega)]
  have old : ∀ k, 0 ≤ k → k < q.2.2.1 → tCl C2 b (mkT q2) k := by
    intro k k0 k1
    obtain ⟨a1, a2, a3, a4, a5, a6⟩ := t4 k k0 k1
    have hk := hE k k0 k1
    rw [← mkT_cl (q := q) (k := k) (w := 0) (by omega)] at hk
    refine ⟨?_, ?_, ?_, ?_, ?_, ?_⟩
    · rw [k2 k 0 k0 k1 (by decide) (by decide), eh _ (by omega) (by omega)]; exact a1
    · rw [k2 k 0 k0 k1 (by decide) (by decide), k2 k 1 k0 k1 (by decide) (by decide), eh _ (by omega) (by omega)]; exact a2
    · rw [k2 k 0 k0 k1 (by decide) (by decide), k2 k 2 k0 k1 (by decide) (by decide), eh _ (by omega) (by omega)]; exact a3
    · rw [k2 k 0 k0 k1 (by decide) (by decide), k2 k 3 k0 k1 (by decide) (by decide), eh _ (by omega) (by omega)]; exact a4
    · intro h16
      rw [k2 k 0 k0 k1 (by decide) (by decide)] at h16
      obtain ⟨D, d1, d2⟩ := a5 h16
      have hk := hk (.inl h16)
      have es : q2.2.2.2.1 = q.2.2.2.1 := by
        rcases h1 with w | w
        · exact w
        · have d1 : q.2.2.2.1.map codeD = some D := d1
          rw [w] at d1
          cases d1
      refine ⟨D, ?_, ?_⟩
      · show q2.2.2.2.1.map codeD = some D
        rw [es]
        exact d1
      · rw [eh _ (by omega) (by omega), eh _ (by omega) (by omega)]
        have := d2.1
        exact d2.ext fun j j0 j1 => ed j (by omega) (by omega)
    · intro h17
      rw [k2 k 0 k0 k1 (by decide) (by decide)] at h17
      obtain ⟨D, d1, d2⟩ := a6 h17
      have hk := hk (.inr h17)
      have es : q2.2.2.2.2 = q.2.2.2.2 := by
        rcases h2 with w | w
        · exact w
        · have d1 : q.2.2.2.2.map codeD = some D := d1
          rw [w] at d1
          cases d1
      refine ⟨D, ?_, ?_⟩
      · show q2.2.2.2.2.map codeD = some D
        rw [es]
        exact d1
      · rw [eh _ (by omega) (by omega), eh _ (by omega) (by omega)]
        have := d2.1
        exact d2.ext fun j j0 j1 => ed j (by omega) (by omega)
  refine ⟨⟨⟨?_, ?_⟩, ?_, fun k k0 k1 => ?_, ?_, ?_⟩, fun k k0 k1 hk => ?_⟩
  · show 0 ≤ q2.2.2.1; omega
  · show q2.2.2.1 ≤ 24; omega
  · rw [e0]; exact hc.symm
  · have k1 : k < q2.2.2.1 := k1
    by_cases w : k < q.2.2.1
    · exact old k k0 w
    · rw [show k = q.2.2.1 by omega]; exact nw
  · rcases n1 with w | w
    · rcases t5 with u | ⟨k, k0, k1, u⟩
      · left
        show q2.2.2.2.1.map codeD = none
        rw [w]
        exact u
      · right
        have k1 : k < q.2.2.1 := k1
        exact ⟨k, k0, by show k < q2.2.2.1; omega, by rw [k2 k 0 k0 k1 (by decide) (by decide)]; exact u⟩
    · right
      exact ⟨q.2.2.1, t1, by show q.2.2.1 < q2.2.2.1; omega, by rw [mkT_cl (by omega)]; exact w⟩
  · rcases n2 with w | w
    · rcases t6 with u | ⟨k, k0, k1, u⟩
      · left
        show q2.2.2.2.2.map codeD = none
        rw [w]
        exact u
      · right
        have k1 : k < q.2.2.1 := k1
        exact ⟨k, k0, by show k < q2.2.2.1; omega, by rw [k2 k 0 k0 k1 (by decide) (by decide)]; exact u⟩
    · right
      exact ⟨q.2.2.1, t1, by show q.2.2.1 < q2.2.2.1; omega, by rw [mkT_cl (by omega)]; exact w⟩
  · by_cases w : k < q.2.2.1
    · rw [ec _ (by omega)] at hk
      have := hE k k0 w hk
      rw [eh _ (by omega) (by omega)]
      omega
    · have e : k = q.2.2.1 := by omega
      subst e
      exact ne hk
end WF
