/-! What a text that was read keeps. -/
def InvQ (F : Int → Int) (q : Cs) : Prop := (0 ≤ q.2.2.1 ∧ q.2.2.1 ≤ 24) ∧ okQ F q.1 ∧ (∀ L, q.2.2.2.1 = some L → WfL L) ∧ (∀ L, q.2.2.2.2 = some L → WfL L) ∧ ∀ k, 0 ≤ k → k < q.2.2.1 → q.2.1 (k * 4 + 0) = 23 → 1 ≤ q.2.1 (k * 4 + 1) ∧ q.2.1 (k * 4 + 1) ≤ 60
section WFT
variable {F : Int → Int} {cc w lo hi : Int} {q : Ps × (Int → Int)}
theorem rnP_cl {j : Int} (h : j ≠ cc * 4 + w) : (rnP F cc w lo hi q).2 j = q.2 j := by
  unfold rnP
  split
  · split
    · exact fset_ne h
    · rfl
  · rfl
theorem rnP_rg (h : (rnP F cc w lo hi q).1.1 = 0) : lo ≤ (rnP F cc w lo hi q).2 (cc * 4 + w) ∧ (rnP F cc w lo hi q).2 (cc * 4 + w) ≤ hi := by
  by_cases h0 : q.1.1 = 0
  · unfold rnP at h ⊢
    by_cases a : seP F 2 q.1 = true
    · rw [if_pos a] at h ⊢
      by_cases b : lo ≤ tkV F q.1.2.2.1 ∧ tkV F q.1.2.2.1 ≤ hi
      · rw [if_pos b]
        dsimp only
        rw [fset_at]
        exact b
      · rw [if_neg b] at h
        have : rfP F 2 q.1 = (2, tkS F q.1.2.2.1, q.1.2.2) := if_pos h0
        rw [this] at h
        exact absurd h (by show ¬ (2 : Int) = 0; decide)
    · rw [if_neg a] at h
      have : rfP F 1 q.1 = (1, tkS F q.1.2.2.1, q.1.2.2) := if_pos h0
      rw [this] at h
      exact absurd h (by show ¬ (1 : Int) = 0; decide)
  · rw [rnP_st h0] at h
    exact absurd h h0
theorem nuP_cl {kd j : Int} (h : j < cc * 4 + 1 ∨ cc * 4 + 3 < j) : (nuP F cc kd q).2 j = q.2 j := by
  have R : ∀ {w lo hi : Int} {q : Ps × (Int → Int)}, 1 ≤ w → w ≤ 3 → (rnP F cc w lo hi q).2 j = q.2 j := fun a b => rnP_cl (by omega)
  have N : ∀ {k : Int} {q : Ps × (Int → Int)}, (wnP F k q).2 j = q.2 j := rfl
  unfold nuP
  split
  · rw [R (by decide) (by decide), N, R (by decide) (by decide)]
  · split
    · rw [R (by decide) (by decide), N, R (by decide) (by decide), N, R (by decide) (by decide)]
    · split
      · rw [R (by decide) (by decide), N, R (by decide) (by decide), N, R (by decide) (by decide)]
      · split
        · rw [R (by decide) (by decide), N, R (by decide) (by decide)]
        · split
          · rw [R (by decide) (by decide)]
          · rw [R (by decide) (by decide)]
theorem wan0 {k : Int} {S : Ps} (h : (wanP F k S).1 = 0) : S.1 = 0 := by
  refine Decidable.byContradiction fun w => ?_
  have : stk S (wanP F k S) := stk_wan w ⟨rfl, rfl⟩
  exact w (this.1.symm.trans h)
theorem clP_inv {q : Cs} (ok : okF F) (h0 : q.1.1 = 0) (iv : InvQ F q) (hc : (cbP F q).1 = 0) (hz : (clP F q).1.1 = 0) : InvQ F (clP F q) := by
  obtain ⟨⟨c0, c1⟩, oq, w1, w2, kk⟩ := iv
  have cb : cbP F q = if kdP F q.1 < 16 ∨ 23 < kdP F q.1 then rfP F 1 q.1 else if (kdP F q.1 = 16 ∧ q.2.2.2.1 ≠ none) ∨ (kdP F q.1 = 17 ∧ q.2.2.2.2 ≠ none) then rfP F 4 q.1 else if 24 ≤ q.2.2.1 then rfP F 6 q.1 else q.1 := rfl
  have rf : ∀ f : Int, f ≠ 0 → cbP F q = rfP F f q.1 → False := by
    intro f f0 e
    have er : rfP F f q.1 = (f, tkS F q.1.2.2.1, q.1.2.2) := if_pos h0
    rw [e, er] at hc
    exact f0 hc
  by_cases a : kdP F q.1 < 16 ∨ 23 < kdP F q.1
  · exact (rf 1 (by decide) (by rw [cb, if_pos a])).elim
  rw [if_neg a] at cb
  by_cases b : (kdP F q.1 = 16 ∧ q.2.2.2.1 ≠ none) ∨ (kdP F q.1 = 17 ∧ q.2.2.2.2 ≠ none)
  · exact (rf 4 (by decide) (by rw [cb, if_pos b])).elim
  rw [if_neg b] at cb
  by_cases c : 24 ≤ q.2.2.1
  · exact (rf 6 (by decide) (by rw [cb, if_pos c])).elim
  have c := Int.not_le.mp c
  have law : ∀ iw : Int, (wanP F 15 (lawP F iw q.1)).1 = 0 → WfL (lwO (lawP F iw q.1)) ∧ okQ F (wanP F 15 (lawP F iw q.1)) := by
    intro iw hw
    have kn : kdP F q.1 ≠ 0 := by omega
    have tn := tkN_gt ok oq.1 oq.2.1 (show tkK F q.1.2.2.1 ≠ 0 from kn)
    have hT : (lawP F iw q.1).1 = 0 := wan0 hw
    rcases law_rz (iw := iw) (S := zeP (advP F q.1)) (c := []) ok h0 ⟨by show 0 ≤ tkN F q.1.2.2.1; have := oq.1; omega, tn.2⟩ rfl (by show ((0 : Nat) : Int) ≤ tkN F q.1.2.2.1; have := oq.1; omega) with f | ⟨D, sem, cor, _⟩
    · exact absurd hT f.1
    · exact ⟨(law_wf ok.1.2 rfl (by show 1 ≤ tkN F q.1.2.2.1; have := oq.1; omega) cor).1, wanQ ok (by decide) (lawQ ok oq kn)⟩
  have old : ∀ (cl : Int → Int), (∀ j, j < 4 * q.2.2.1 → cl j = q.2.1 j) → (cl (q.2.2.1 * 4 + 0) = 23 → 1 ≤ cl (q.2.2.1 * 4 + 1) ∧ cl (q.2.2.1 * 4 + 1) ≤ 60) → ∀ k, 0 ≤ k → k < q.2.2.1 + 1 → cl (k * 4 + 0) = 23 → 1 ≤ cl (k * 4 + 1) ∧ cl (k * 4 + 1) ≤ 60 := by
    intro cl e1 e2 k k0 k1 h
    by_cases z : k < q.2.2.1
    · rw [e1 _ (by omega)] at h ⊢
      exact kk k k0 z h
    · have e : k = q.2.2.1 := by omega
      subst e
      exact e2 h
  unfold clP at hz ⊢
  by_cases k16 : kdP F q.1 = 16
  · rw [if_pos k16] at hz ⊢
    have L := law 0 hz
    refine ⟨⟨by dsimp only; omega, by dsimp only; omega⟩, L.2, fun l hl => ?_, w2, ?_⟩
    · cases hl
      exact L.1
    · exact old (fset q.2.1 (q.2.2.1 * 4 + 0) (kdP F q.1)) (fun j hj => fset_ne (by omega)) (fun w => by rw [fset_at, k16] at w; exact absurd w (by decide))
  · rw [if_neg k16] at hz ⊢
    by_cases k17 : kdP F q.1 = 17
    · rw [if_pos k17] at hz ⊢
      have L := law 1 hz
      refine ⟨⟨by dsimp only; omega, by dsimp only; omega⟩, L.2, w1, fun l hl => ?_, ?_⟩
      · cases hl
        exact L.1
      · exact old (fset q.2.1 (q.2.2.1 * 4 + 0) (kdP F q.1)) (fun j hj => fset_ne (by omega)) (fun w => by rw [fset_at, k17] at w; exact absurd w (by decide))
    · rw [if_neg k17] at hz ⊢
      have hn : (clN F q).1.1 = 0 := wan0 hz
      have kn : kdP F q.1 ≠ 0 := by omega
      refine ⟨⟨by dsimp only; omega, by dsimp only; omega⟩, wanQ ok (by decide) (nuP_ok ok (advQ ok oq kn)), w1, w2, ?_⟩
      refine old (clN F q).2 (fun j hj => ?_) fun h23 => ?_
      · unfold clN
        rw [nuP_cl (by omega)]
        exact fset_ne (by omega)
      · unfold clN at h23 hn ⊢
        rw [nuP_cl (by omega)] at h23
        have k23 : kdP F q.1 = 23 := by
          have h23 : fset q.2.1 (q.2.2.1 * 4 + 0) (kdP F q.1) (q.2.2.1 * 4 + 0) = 23 := h23
          rw [fset_at] at h23
          exact h23
        have en : nuP F q.2.2.1 (kdP F q.1) (advP F q.1, fset q.2.1 (q.2.2.1 * 4 + 0) (kdP F q.1)) = rnP F q.2.2.1 1 1 60 (advP F q.1, fset q.2.1 (q.2.2.1 * 4 + 0) (kdP F q.1)) := by
          unfold nuP
          rw [if_neg (by omega), if_neg (by omega), if_neg (by omega), if_neg (by omega), if_neg (by omega)]
        rw [en] at hn ⊢
        exact rnP_rg hn
theorem alP_inv (ok : okF F) : ∀ (m : Nat) (q : Cs), q.1.1 = 0 → InvQ F q → (alP F m q).1.1 = 0 → InvQ F (alP F m q) := by
  intro m
  induction m with
  | zero => intro q _ iv _; exact iv
  | succ m ih =>
    intro q h0 iv hz
    have ea : alP F (m + 1) q = if q.1.1 ≠ 0 ∨ kdP F q.1 = 0 then q else if (cbP F q).1 ≠ 0 then (cbP F q, q.2) else alP F m (clP F q) := rfl
    rw [ea] at hz ⊢
    by_cases a : q.1.1 ≠ 0 ∨ kdP F q.1 = 0
    · rw [if_pos a]; exact iv
    rw [if_neg a] at hz ⊢
    by_cases b : (cbP F q).1 ≠ 0
    · rw [if_pos b] at hz; exact absurd hz b
    rw [if_neg b] at hz ⊢
    have cb0 : (cbP F q).1 = 0 := Decidable.byContradiction b
    by_cases c : (clP F q).1.1 = 0
    · exact ih _ c (clP_inv ok h0 iv cb0 c) hz
    · rw [alP_f c m] at hz
      exact absurd hz c
theorem q0_inv (ok : okF F) (sc : Int) (sg cl : Int → Int) : InvQ F (q0C sc sg cl) := ⟨⟨by show (0 : Int) ≤ 0; decide, by show (0 : Int) ≤ 24; decide⟩, ⟨by show (0 : Int) ≤ 0; decide, ok.1.1, trivial⟩, (fun L hL => by cases hL), (fun L hL => by cases hL), fun k k0 k1 => by have k1 : k < 0 := k1; omega⟩
theorem wfT_all (ok : okF F) : WfT F := fun sc sg cl hz => by
  have iv := alP_inv ok 25 (q0C sc sg cl) rfl (q0_inv ok sc sg cl) hz
  exact ⟨iv.2.2.1, iv.2.2.2.1, iv.1.1, iv.1.2⟩
theorem okTx_all (ok : okF F) {sc : Int} {sg cl : Int → Int} (hz : (alP F 25 (q0C sc sg cl)).1.1 = 0) : okTx (mkT (alP F 25 (q0C sc sg cl))) := by
  have iv := alP_inv ok 25 (q0C sc sg cl) rfl (q0_inv ok sc sg cl) hz
  obtain ⟨c, _, _, _, kk⟩ := iv
  refine ⟨c, fun i i0 i1 h => ?_⟩
  have i1 : i < (alP F 25 (q0C sc sg cl)).2.2.1 := i1
  rw [mkT_cl (k := i) (w := 0) (by omega)] at h
  rw [mkT_cl (k := i) (w := 1) (by omega)]
  exact kk i i0 i1 h
end WFT
