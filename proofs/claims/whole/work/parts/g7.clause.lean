/-! The reference's clauses: their numbers, what begins one. -/
def Kd (M M1 : Int → Int → Int) (B : Int) : Prop := (M1 1 = M 1 ∧ M1 2 = M 2 ∧ M1 4 = M 4 ∧ M1 9 = M 9) ∧ (∀ j, (j = 4 ∨ j = 5 ∨ j = 6 ∨ j = 12 ∨ j = 23 ∨ j = 24) → M1 0 j = M 0 j) ∧ (∀ j, j < B → M1 3 j = M 3 j)
theorem Kd.rf {M : Int → Int → Int} {B : Int} : Kd M M B := ⟨⟨rfl, rfl, rfl, rfl⟩, fun _ _ => rfl, fun _ _ => rfl⟩
theorem Kd.tr {M M1 M2 : Int → Int → Int} {B : Int} (a : Kd M M1 B) (b : Kd M1 M2 B) : Kd M M2 B := ⟨⟨b.1.1.trans a.1.1, b.1.2.1.trans a.1.2.1, b.1.2.2.1.trans a.1.2.2.1, b.1.2.2.2.trans a.1.2.2.2⟩, fun j hj => (b.2.1 j hj).trans (a.2.1 j hj), fun j hj => (b.2.2 j hj).trans (a.2.2 j hj)⟩
theorem Kb.d {M M1 : Int → Int → Int} {B B2 : Int} (a : Kb M M1 B) (h : B2 ≤ B) : Kd M M1 B2 := ⟨a.1, fun j hj => a.2.1 j (by omega), fun j hj => a.2.2 j (by omega)⟩
def Fw (M M1 : Int → Int → Int) : Prop := (∀ k, k ≠ 0 → k ≠ 3 → M1 k = M k) ∧ frG M (M1 0)
theorem Fw.rf {M : Int → Int → Int} : Fw M M := ⟨fun _ _ _ => rfl, fun _ _ => rfl⟩
theorem Fw.tr {M M1 M2 : Int → Int → Int} (a : Fw M M1) (b : Fw M1 M2) : Fw M M2 := ⟨fun k h0 h3 => (b.1 k h0 h3).trans (a.1 k h0 h3), fun j hj => (b.2 j hj).trans (a.2 j hj)⟩
theorem Fw.d {M M1 : Int → Int → Int} {B : Int} (a : Fw M M1) (h : ∀ j, j < B → M1 3 j = M 3 j) : Kd M M1 B := ⟨⟨a.1 1 (by decide) (by decide), a.1 2 (by decide) (by decide), a.1 4 (by decide) (by decide), a.1 9 (by decide) (by decide)⟩, fun j hj => a.2 j (by omega), h⟩
theorem rnP_st {F : Int → Int} {cc w lo hi : Int} {q : Ps × (Int → Int)} (h : q.1.1 ≠ 0) : rnP F cc w lo hi q = q := by
  unfold rnP
  rw [if_neg (fun z => h (seP_kd z).1)]
  have : rfP F 1 q.1 = q.1 := if_neg h
  rw [this]
theorem wnP_st {F : Int → Int} {k : Int} {q : Ps × (Int → Int)} (h : q.1.1 ≠ 0) : wnP F k q = q := by
  unfold wnP wanP
  rw [if_neg (fun z => h (seP_kd z).1)]
  have : rfP F 1 q.1 = q.1 := if_neg h
  rw [this]
section CLAUSES
variable {d bc bs n pc : Nat} {g h h1 : aH} {Q : aQ} {M M1 : Int → Int → Int} {F : Int → Int} {b p o w x cc lo hi iw : Int} {c : Em} {q : Ps × (Int → Int)}
def Bd (g h1 : aH) (M M1 : Int → Int → Int) (b : Int) (S : Ps) : Prop := IsM g h1 M1 ∧ Kd M M1 b ∧ M1 0 8 = S.2.1
theorem IsY.mv (s : IsY g h M b F p c) (e1 : IsM g h1 M1) (uk : ∀ k, k ≠ 3 → M1 k = M k) (u3 : ∀ j, b + 97 ≤ j → M1 3 j = M 3 j) : IsY g h1 M1 b F p c := by
  obtain ⟨e, tp, a, t, em⟩ := s
  have u0 := uk 0 (by decide)
  exact ⟨e1, ⟨by rw [u0]; exact tp.1, by rw [uk 4 (by decide)]; exact tp.2⟩, by rw [u0]; exact a, by rw [u0]; exact t, em.ext u3⟩
theorem R_X13_figure (s : IsY g h M b F q.1.2.2.1 c) (hq : q.1.1 = 0) (ok : okF F) (b0 : 0 ≤ b) (b1 : b ≤ 2115) (p0 : 0 ≤ q.1.2.2.1) (p1 : q.1.2.2.1 ≤ F 2) (c0 : 0 ≤ cc) (c1 : cc ≤ 23) (w0 : 0 ≤ w) (w1 : w ≤ 3) (hi9 : hi ≤ 9999) (hx : x = b + 1 + 4 * cc + w) (k1 : (rnP F cc w lo hi q).1.1 = 0 → ∀ h1 M1, IsY g h1 M1 b F (rnP F cc w lo hi q).1.2.2.1 c → Fw M M1 → M1 3 = fset (M 3) x ((rnP F cc w lo hi q).2 (cc * 4 + w)) → (∀ j, j ≠ cc * 4 + w → (rnP F cc w lo hi q).2 j = q.2 j) → (lo ≤ (rnP F cc w lo hi q).2 (cc * 4 + w) ∧ (rnP F cc w lo hi q).2 (cc * 4 + w) ≤ hi) → okQ F (rnP F cc w lo hi q).1 → q.1.2.2.1 ≤ (rnP F cc w lo hi q).1.2.2.1 → Q (some (vI 0)) h1 n) (k0 : (rnP F cc w lo hi q).1.1 ≠ 0 → ∀ h1 M1, Bd g h1 M M1 b (rnP F cc w lo hi q).1 → Q (some (vI (rnP F cc w lo hi q).1.1)) h1 n) : Rn (d + 2) bc bs mX13_figure 0 [some (vR (some 301)), some (vI x), some (vI lo), some (vI hi)] [] h n Q := by
  have e := s.1
  have t : TkR F q.1.2.2.1 (M 0 9) (M 0 10) (M 0 11) := s.2.2.2.1.2.2
  have t2 := (wk_sg t).2.1
  have pl : M 0 8 = tkS F q.1.2.2.1 := s.2.2.2.1.1
  have sq : seP F 2 q.1 = true ↔ tkK F q.1.2.2.1 = 2 := seP_0 hq
  refine BX13_figure_0 e.o rfl (fun q1 => ?_) fun q1 => ?_
  · have k2 := t2.mp q1
    have tv := t.2.2.1 k2
    have er : rnP F cc w lo hi q = if lo ≤ tkV F q.1.2.2.1 ∧ tkV F q.1.2.2.1 ≤ hi then (advP F q.1, fset q.2 (cc * 4 + w) (tkV F q.1.2.2.1)) else (rfP F 2 q.1, q.2) := if_pos (sq.mpr k2)
    have tn := tkN_gt ok p0 p1 (show tkK F q.1.2.2.1 ≠ 0 by omega)
    refine BX13_figure_10 e.o rfl ?_
    refine R_X13_isIn (fun q2 q3 => ?_) fun q2 => ?_
    · have ev : M 0 10 = tkV F q.1.2.2.1 := by omega
      rw [if_pos (by omega)] at er
      rw [er] at k1
      refine BX13_figure_19 (fun _ => ?_) fun w => absurd w (by decide)
      refine BX13_figure_24 e.o rfl rfl e.a3 (by omega) (by simp only [Ls_len]; omega) (by decide) ?_
      refine IsM.p3 e (by omega) fun h1 M1 e1 u3 uk => ?_
      rw [ev] at u3
      have s1 := s.mv e1 uk (fun j hj => by rw [u3, fset_ne (by omega)])
      refine BX13_figure_34 e1.o ?_
      refine R_nextY s1 ok p0 p1 fun h2 M2 s2 vk vf => ?_
      refine BX13_figure_38 (k1 hq h2 M2 s2 ⟨fun k k0 k3 => by rw [vk k k0, uk k k3], fun j hj => by rw [vf j hj, uk 0 (by decide)]⟩ ?_ (fun j hj => fset_ne hj) (by dsimp only; rw [fset_at]; omega) (advQ ok ⟨p0, p1, trivial⟩ (by show tkK F q.1.2.2.1 ≠ 0; omega)) (by show _ ≤ tkN F q.1.2.2.1; omega))
      dsimp only
      rw [vk 3 (by decide), u3, fset_at]
    · rw [if_neg (by omega)] at er
      rw [er] at k0
      refine BX13_figure_19 (fun w => absurd rfl w) fun _ => ?_
      have er2 : rfP F 2 q.1 = (2, tkS F q.1.2.2.1, q.1.2.2) := if_pos hq
      rw [er2] at k0
      exact BX13_figure_22 (k0 (by show (2 : Int) ≠ 0; decide) h M ⟨e, Kd.rf, pl⟩)
  · have k2 : ¬ tkK F q.1.2.2.1 = 2 := fun w => q1 (t2.mpr w)
    have er : rnP F cc w lo hi q = (rfP F 1 q.1, q.2) := if_neg (fun z => k2 (sq.mp z))
    have er2 : rfP F 1 q.1 = (1, tkS F q.1.2.2.1, q.1.2.2) := if_pos hq
    rw [er, er2] at k0
    exact BX13_figure_8 (k0 (by show (1 : Int) ≠ 0; decide) h M ⟨e, Kd.rf, pl⟩)
theorem R_X13_worded {v kk : Int} (s : IsY g h M b F q.1.2.2.1 c) (hq : q.1.1 = 0) (ok : okF F) (b0 : 0 ≤ b) (b1 : b ≤ 2115) (p0 : 0 ≤ q.1.2.2.1) (p1 : q.1.2.2.1 ≤ F 2) (c0 : 0 ≤ cc) (c1 : cc ≤ 23) (w0 : 0 ≤ w) (w1 : w ≤ 3) (hi9 : hi ≤ 9999) (hx : x = b + 1 + 4 * cc + w) (hv : wkP v kk) (kk0 : kk ≠ 0) (k1 : (rnP F cc w lo hi (wnP F kk q)).1.1 = 0 → ∀ h1 M1, IsY g h1 M1 b F (rnP F cc w lo hi (wnP F kk q)).1.2.2.1 c → Fw M M1 → M1 3 = fset (M 3) x ((rnP F cc w lo hi (wnP F kk q)).2 (cc * 4 + w)) → (∀ j, j ≠ cc * 4 + w → (rnP F cc w lo hi (wnP F kk q)).2 j = q.2 j) → (lo ≤ (rnP F cc w lo hi (wnP F kk q)).2 (cc * 4 + w) ∧ (rnP F cc w lo hi (wnP F kk q)).2 (cc * 4 + w) ≤ hi) → okQ F (rnP F cc w lo hi (wnP F kk q)).1 → q.1.2.2.1 ≤ (rnP F cc w lo hi (wnP F kk q)).1.2.2.1 → Q (some (vI 0)) h1 n) (k0 : (rnP F cc w lo hi (wnP F kk q)).1.1 ≠ 0 → ∀ h1 M1, Bd g h1 M M1 b (rnP F cc w lo hi (wnP F kk q)).1 → Q (some (vI (rnP F cc w lo hi (wnP F kk q)).1.1)) h1 n) : Rn (d + 3) bc bs mX13_worded 0 [some (vR (some 301)), some (vL v), none, some (vI x), some (vI lo), some (vI hi)] [] h n Q := by
  have e := s.1
  have t : TkR F q.1.2.2.1 (M 0 9) (M 0 10) (M 0 11) := s.2.2.2.1.2.2
  have pl : M 0 8 = tkS F q.1.2.2.1 := s.2.2.2.1.1
  refine BX13_worded_0 e.o ?_
  refine R_X13_isWord e t hv (fun q1 => ?_) fun q1 => ?_
  · have ew : wnP F kk q = (advP F q.1, q.2) := by unfold wnP; rw [wan_yes hq q1]
    have tn := tkN_gt ok p0 p1 (show tkK F q.1.2.2.1 ≠ 0 by omega)
    rw [ew] at k1 k0
    refine BX13_worded_5 (fun _ => ?_) fun w => absurd w (by decide)
    refine BX13_worded_10 e.o ?_
    refine R_nextY s ok p0 p1 fun h2 M2 s2 vk vf => ?_
    have kd : Kd M M2 b := Fw.d ⟨fun k k0 _ => vk k k0, vf⟩ fun j _ => by rw [vk 3 (by decide)]
    refine BX13_worded_14 s2.1.o ?_
    refine R_X13_figure (q := (advP F q.1, q.2)) s2 hq ok b0 b1 (by show 0 ≤ tkN F q.1.2.2.1; omega) tn.2 c0 c1 w0 w1 hi9 hx (fun hz h3 M3 s3 f3 m3 l3 g3 o3 le => ?_) fun hz h3 M3 bd => ?_
    · refine BX13_worded_23 (k1 hz h3 M3 s3 (Fw.tr ⟨fun k k0 _ => vk k k0, vf⟩ f3) (by rw [m3, vk 3 (by decide)]) l3 g3 o3 ?_)
      have le : tkN F q.1.2.2.1 ≤ _ := le
      omega
    · exact BX13_worded_23 (k0 hz h3 M3 ⟨bd.1, kd.tr bd.2.1, bd.2.2⟩)
  · have ew : wnP F kk q = ((1, tkS F q.1.2.2.1, q.1.2.2), q.2) := by unfold wnP; rw [wan_no hq q1]; rw [show rfP F 1 q.1 = (1, tkS F q.1.2.2.1, q.1.2.2) from if_pos hq]
    rw [ew, rnP_st (q := ((1, tkS F q.1.2.2.1, q.1.2.2), q.2)) (by show (1 : Int) ≠ 0; decide)] at k0
    refine BX13_worded_5 (fun w => absurd rfl w) fun _ => ?_
    exact BX13_worded_8 (k0 (by show (1 : Int) ≠ 0; decide) h M ⟨e, Kd.rf, pl⟩)
def prP (F : Int → Int) (cc top kk top2 : Int) (q : Ps × (Int → Int)) : Ps × (Int → Int) := rnP F cc 2 0 top2 (wnP F kk (rnP F cc 1 0 top q))
theorem R_X13_pair {v kk top top2 : Int} {l6 : Option aV} (s : IsY g h M b F q.1.2.2.1 c) (hq : q.1.1 = 0) (ok : okF F) (b0 : 0 ≤ b) (b1 : b ≤ 2115) (p0 : 0 ≤ q.1.2.2.1) (p1 : q.1.2.2.1 ≤ F 2) (c0 : 0 ≤ cc) (c1 : cc ≤ 23) (t9 : top ≤ 9999) (t99 : top2 ≤ 9999) (hx : x = b + 1 + 4 * cc) (hv : wkP v kk) (kk0 : kk ≠ 0) (k1 : (prP F cc top kk top2 q).1.1 = 0 → ∀ h1 M1, IsY g h1 M1 b F (prP F cc top kk top2 q).1.2.2.1 c → Fw M M1 → M1 3 = fset (fset (M 3) (x + 1) ((prP F cc top kk top2 q).2 (cc * 4 + 1))) (x + 2) ((prP F cc top kk top2 q).2 (cc * 4 + 2)) → (∀ j, j ≠ cc * 4 + 1 → j ≠ cc * 4 + 2 → (prP F cc top kk top2 q).2 j = q.2 j) → okQ F (prP F cc top kk top2 q).1 → q.1.2.2.1 ≤ (prP F cc top kk top2 q).1.2.2.1 → Q (some (vI 0)) h1 n) (k0 : (prP F cc top kk top2 q).1.1 ≠ 0 → ∀ h1 M1, Bd g h1 M M1 b (prP F cc top kk top2 q).1 → Q (some (vI (prP F cc top kk top2 q).1.1)) h1 n) : Rn (d + 4) bc bs mX13_pair 0 [some (vR (some 301)), some (vI x), some (vI top), some (vL v), none, some (vI top2), l6] [] h n Q := by
  unfold prP at k1 k0
  refine BX13_pair_0 (by omega) s.1.o ?_
  refine R_X13_figure (cc := cc) (w := 1) s hq ok b0 b1 p0 p1 c0 c1 (by decide) (by decide) t9 (by omega) (fun hz h1 M1 s1 f1 m1 l1 g1 o1 le1 => ?_) fun hz h1 M1 bd => ?_
  · refine BX13_pair_9 (fun _ => ?_) fun w => absurd rfl w
    refine BX13_pair_21 (by omega) s1.1.o ?_
    have kd : Kd M M1 b := f1.d fun j hj => by rw [m1, fset_ne (by omega)]
    refine R_X13_worded (cc := cc) (w := 2) s1 hz ok b0 b1 o1.1 o1.2.1 c0 c1 (by decide) (by decide) t99 (by omega) hv kk0 (fun hz2 h2 M2 s2 f2 m2 l2 g2 o2 le2 => ?_) fun hz2 h2 M2 bd => ?_
    · refine BX13_pair_32 (k1 hz2 h2 M2 s2 (f1.tr f2) ?_ (fun j j1 j2 => by rw [l2 j j2, l1 j j1]) o2 (by omega))
      rw [m2, m1, l2 (cc * 4 + 1) (by omega)]
    · exact BX13_pair_32 (k0 hz2 h2 M2 ⟨bd.1, kd.tr bd.2.1, bd.2.2⟩)
  · refine BX13_pair_9 (fun w => absurd w hz) fun _ => ?_
    rw [wnP_st hz, rnP_st hz] at k0
    exact BX13_pair_16 (k0 hz h1 M1 bd)
end CLAUSES
