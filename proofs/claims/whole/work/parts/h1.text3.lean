/-! The reference reads a text. -/
def onZ (q : Cs) : Int := (if q.2.2.2.1 = none then 0 else 1) + (if q.2.2.2.2 = none then 0 else 2)
def IsQ (g h : aH) (M : Int → Int → Int) (b : Int) (F : Int → Int) (q : Cs) (c : Em) : Prop := IsY g h M b F q.1.2.2.1 c ∧ (tTx (M 3) b (mkT q) ∧ hdE (M 3) b q c) ∧ M 0 19 = onZ q ∧ okQ F q.1 ∧ (c.length : Int) ≤ q.1.2.2.1
theorem EmR_same {C C2 : Int → Int} {b : Int} {c D : Em} (e : EmR C b c) (e2 : EmR C2 b (c ++ D)) : ∀ j, b + 97 ≤ j → j < b + 97 + 2 * (c.length : Int) → C2 j = C j := by
  intro j j0 j1
  obtain ⟨i, hi⟩ : ∃ i : Nat, i = ((j - b - 97) / 2).toNat := ⟨_, rfl⟩
  have il : i < c.length := by omega
  have a1 := e i c[i] (List.getElem?_eq_getElem il)
  have a2 := e2 i c[i] (by rw [List.getElem?_append_left il]; exact List.getElem?_eq_getElem il)
  by_cases q : j = b + 97 + 2 * (i : Int)
  · rw [q, a1.1, a2.1]
  · rw [show j = b + 97 + 2 * (i : Int) + 1 by omega, a1.2, a2.2]
theorem on_in (q : Cs) : 0 ≤ onZ q ∧ onZ q ≤ 3 := by
  unfold onZ
  split <;> split <;> decide
theorem on_has (q : Cs) : (and32 (onZ q) (shl32 1 0) ≠ 0 ↔ q.2.2.2.1 ≠ none) ∧ (and32 (onZ q) (shl32 1 1) ≠ 0 ↔ q.2.2.2.2 ≠ none) := by
  unfold onZ
  by_cases h1 : q.2.2.2.1 = none
  · by_cases h2 : q.2.2.2.2 = none
    · rw [if_pos h1, if_pos h2]
      exact ⟨⟨fun w => absurd (by decide +kernel) w, fun w => absurd h1 w⟩, ⟨fun w => absurd (by decide +kernel) w, fun w => absurd h2 w⟩⟩
    · rw [if_pos h1, if_neg h2]
      exact ⟨⟨fun w => absurd (by decide +kernel) w, fun w => absurd h1 w⟩, ⟨fun _ => h2, fun _ => by decide +kernel⟩⟩
  · by_cases h2 : q.2.2.2.2 = none
    · rw [if_neg h1, if_pos h2]
      exact ⟨⟨fun _ => h1, fun _ => by decide +kernel⟩, ⟨fun w => absurd (by decide +kernel) w, fun w => absurd h2 w⟩⟩
    · rw [if_neg h1, if_neg h2]
      exact ⟨⟨fun _ => h1, fun _ => by decide +kernel⟩, ⟨fun _ => h2, fun _ => by decide +kernel⟩⟩
theorem on_put {q : Cs} {S : Ps} {cl : Int → Int} {cc : Int} {L : Lw} : (q.2.2.2.1 = none → or32 (onZ q) (shl32 1 0) = onZ (S, cl, cc, some L, q.2.2.2.2)) ∧ (q.2.2.2.2 = none → or32 (onZ q) (shl32 1 1) = onZ (S, cl, cc, q.2.2.2.1, some L)) := by
  unfold onZ
  have ns : ¬ (some L : Option Lw) = none := fun w => by cases w
  dsimp only
  rw [if_neg ns, if_neg ns]
  constructor
  · intro h1
    rw [if_pos h1]
    by_cases h2 : q.2.2.2.2 = none
    · rw [if_pos h2]; decide +kernel
    · rw [if_neg h2]; decide +kernel
  · intro h2
    rw [if_pos h2]
    by_cases h1 : q.2.2.2.1 = none
    · rw [if_pos h1]; decide +kernel
    · rw [if_neg h1]; decide +kernel
section TEXT6
variable {d bc bs n pc : Nat} {g h h1 : aH} {Q : aQ} {M M1 : Int → Int → Int} {F : Int → Int} {b p o w x cc lo hi iw kd : Int} {c : Em} {q : Cs}
theorem R_X13_lawClause {S : Ps} {l2 : Option aV} (s : IsY g h M b F S.2.2.1 c) (hS : S.1 = 0) (hn : S.2.2.2.1 = 0) (ok : okF F) (b0 : 0 ≤ b) (b1 : b ≤ 2115) (p0 : 0 ≤ S.2.2.1) (p1 : S.2.2.1 ≤ F 2) (hc : (c.length : Int) ≤ S.2.2.1) (hiw : M 0 14 = iw) (c0 : 0 ≤ cc) (c1 : cc ≤ 23) (hx : x = b + 1 + 4 * cc) (k1 : ∀ D sem, Cor F false S (gk F iw 3000 3 0 S) D sem → ∀ h1 M1, IsY g h1 M1 b F (gk F iw 3000 3 0 S).2.2.1 (c ++ D) → Kb M M1 b → (∀ j, j < b + 97 → M1 3 j = fset (fset (M 3) (x + 1) c.length) (x + 2) (c.length + D.length) j) → Q (some (vI 0)) h1 n) (k0 : (gk F iw 3000 3 0 S).1 ≠ 0 → ∀ h1 M1, Bd g h1 M M1 b (gk F iw 3000 3 0 S) → Q (some (vI (gk F iw 3000 3 0 S).1)) h1 n) : Rn (d + 9) bc bs mX13_lawClause 0 [some (vR (some 301)), some (vI x), l2] [] h n Q := by
  have e := s.1
  have a2 := s.2.2.1.2
  refine BX13_lawClause_0 e.o rfl (by omega) rfl e.a3 (by omega) (by simp only [Ls_len]; omega) (by decide) ?_
  refine IsM.p3 e (by omega) fun h1 M1 e1 u3 uk => ?_
  have s1 := s.mv e1 uk (fun j hj => by rw [u3, fset_ne (by omega)])
  have u0 := uk 0 (by decide)
  have kb1 : Kb M M1 b := ⟨⟨uk 1 (by decide), uk 2 (by decide), uk 4 (by decide), uk 9 (by decide)⟩, fun j _ => by rw [u0], fun j hj => by rw [u3, fset_ne (by omega)]⟩
  refine BX13_lawClause_12 e1.o ?_
  rcases law_rz (iw := iw) (c := c) ok hS ⟨p0, p1⟩ hn hc with ⟨f1, z, f2, f3, f4⟩ | ⟨D, sem, cor, rz⟩
  · refine R_X13_summed s1 (by rw [u0]; exact hiw) ok b0 b1 f2 fun h2 M2 s2 k2 => ?_
    rw [if_neg (by show ¬ (gk F iw 3000 3 0 S).1 = -1; omega)]
    have e2 := s2.1.1
    have ad : M2 0 13 = z.2.2.2.2.length := s2.1.2.2.1.2
    refine BX13_lawClause_16 e2.o rfl (by omega) rfl e2.a3 (by omega) (by simp only [Ls_len]; omega) (by decide) ?_
    refine IsM.p3 e2 (by omega) fun h3 M3 e3 v3 vk => ?_
    refine BX13_lawClause_29 (k0 f1 h3 M3 ⟨e3, ?_, ?_⟩)
    · have v0 := vk 0 (by decide)
      exact (kb1.d (Int.le_refl _)).tr ((k2.d (B2 := b) (by omega)).tr ⟨⟨vk 1 (by decide), vk 2 (by decide), vk 4 (by decide), vk 9 (by decide)⟩, fun j _ => by rw [v0], fun j hj => by rw [v3, fset_ne (by omega)]⟩)
    · rw [vk 0 (by decide), f3]
      exact s2.1.2.2.2.1.1
  · refine R_X13_summed s1 (by rw [u0]; exact hiw) ok b0 b1 rz fun h2 M2 s2 k2 => ?_
    rw [if_pos rfl]
    have y2 : IsY g h2 M2 b F (gk F iw 3000 3 0 S).2.2.1 (c ++ D) := s2.1
    have e2 := y2.1
    have ad := y2.2.2.1.2
    rw [List.length_append] at ad
    refine BX13_lawClause_16 e2.o rfl (by omega) rfl e2.a3 (by omega) (by simp only [Ls_len]; omega) (by decide) ?_
    refine IsM.p3 e2 (by omega) fun h3 M3 e3 v3 vk => ?_
    have v0 := vk 0 (by decide)
    refine BX13_lawClause_29 (k1 D sem cor h3 M3 (y2.mv e3 vk (fun j hj => by rw [v3, fset_ne (by omega)])) ?_ ?_)
    · exact kb1.tr ((k2.le (by omega)).tr ⟨⟨vk 1 (by decide), vk 2 (by decide), vk 4 (by decide), vk 9 (by decide)⟩, fun j _ => by rw [v0], fun j hj => by rw [v3, fset_ne (by omega)]⟩)
    · intro j hj
      rw [v3]
      by_cases w : j = x + 2
      · subst w
        rw [fset_at, fset_at, ad]
        omega
      · rw [fset_ne w, fset_ne w, k2.2.2 j hj, u3, a2]
theorem R_X13_clause {l1 l2 l3 l4 : Option aV} (s : IsQ g h M b F q c) (hq : q.1.1 = 0) (ok : okF F) (b0 : 0 ≤ b) (b1 : b ≤ 2115) (k1 : (cbP F q).1 = 0 → (clP F q).1.1 = 0 → ∀ h1 M1 c1, IsQ g h1 M1 b F (clP F q) c1 → Kd M M1 b → Q (some (vI 0)) h1 n) (k0 : ∀ S : Ps, (((cbP F q).1 ≠ 0 ∧ S = cbP F q) ∨ ((cbP F q).1 = 0 ∧ (clP F q).1.1 ≠ 0 ∧ S = (clP F q).1)) → ∀ h1 M1, Bd g h1 M M1 b S → Q (some (vI S.1)) h1 n) : Rn (d + 11) bc bs mX13_clause 0 [some (vR (some 301)), l1, l2, l3, l4] [] h n Q := by
  obtain ⟨y, ⟨tx, hE⟩, on, ⟨p0, p1, -⟩, hc⟩ := s
  obtain ⟨e, tp, ⟨a1, a2⟩, ⟨t1, t2, t3⟩, em⟩ := id y
  have c0 : 0 ≤ q.2.2.1 := tx.1.1
  have c24 : q.2.2.1 ≤ 24 := tx.1.2
  have mb : M 3 b = q.2.2.1 := tx.2.1
  have kdd : kdP F q.1 = tkK F q.1.2.2.1 := rfl
  have cb : cbP F q = if kdP F q.1 < 16 ∨ 23 < kdP F q.1 then rfP F 1 q.1 else if (kdP F q.1 = 16 ∧ q.2.2.2.1 ≠ none) ∨ (kdP F q.1 = 17 ∧ q.2.2.2.2 ≠ none) then rfP F 4 q.1 else if 24 ≤ q.2.2.1 then rfP F 6 q.1 else q.1 := rfl
  rw [kdd] at cb
  have rf : ∀ f : Int, f ≠ 0 → cbP F q = rfP F f q.1 → Q (some (vI f)) h n := by
    intro f f0 ec
    have er : rfP F f q.1 = (f, tkS F q.1.2.2.1, q.1.2.2) := if_pos hq
    rw [er] at ec
    exact k0 (f, tkS F q.1.2.2.1, q.1.2.2) (.inl ⟨by rw [ec]; exact f0, ec.symm⟩) h M ⟨e, Kd.rf, t1⟩
  refine BX13_clause_0 e.o ?_
  refine R_X13_sortOf y ok p0 p1 ?_
  refine BX13_clause_4 (fun q1 => ?_) fun q1 => ?_
  rotate_left
  · refine BX13_clause_9 (rf 1 (by decide) ?_)
    rw [cb, if_pos]
    refine Decidable.byContradiction fun w => ?_
    have : soZ (tkK F q.1.2.2.1) = tkK F q.1.2.2.1 - 16 := if_pos (by omega)
    omega
  have kr : 16 ≤ tkK F q.1.2.2.1 ∧ tkK F q.1.2.2.1 ≤ 23 := by
    refine Decidable.byContradiction fun w => ?_
    have : soZ (tkK F q.1.2.2.1) = -1 := if_neg w
    omega
  have so : soZ (tkK F q.1.2.2.1) = tkK F q.1.2.2.1 - 16 := if_pos kr
  rw [so]
  clear q1
  rw [if_neg (by omega)] at cb
  have tn := tkN_gt ok p0 p1 (show tkK F q.1.2.2.1 ≠ 0 by omega)
  have K29 : ¬ ((tkK F q.1.2.2.1 = 16 ∧ q.2.2.2.1 ≠ none) ∨ (tkK F q.1.2.2.1 = 17 ∧ q.2.2.2.2 ≠ none)) → ∀ l2 l3 l4, Rn (d + 11) bc bs mX13_clause 29 [some (vR (some 301)), some (vI (tkK F q.1.2.2.1 - 16)), l2, l3, l4] [] h n Q := by
    intro nt l2 l3 l4
    rw [if_neg nt] at cb
    have mb2 : M 3 (M 0 12) = q.2.2.1 := by rw [a1]; exact mb
    refine BX13_clause_29 e.o rfl rfl e.a3 (by omega) (Ls_get (by omega) (by omega)) (fun q2 => ?_) fun q2 => ?_
    rotate_left
    · rw [mb2] at q2
      exact BX13_clause_45 (rf 6 (by decide) (by rw [cb, if_pos (by omega)]))
    rw [mb2] at q2 ⊢
    rw [if_neg (by omega)] at cb
    have cb0 : (cbP F q).1 = 0 := by rw [cb]; exact hq
    have c23 : q.2.2.1 ≤ 23 := by omega
    -- behind the body
    have tail : ∀ (T : Ps) (h2 : aH) (M2 : Int → Int → Int) (c2 : Em), T.1 = 0 → okQ F T → IsY g h2 M2 b F T.2.2.1 c2 → M2 3 b = q.2.2.1 → (tkK F T.2.2.1 = 15 → ∀ h3 M3, IsY g h3 M3 b F (tkN F T.2.2.1) c2 → M3 3 = fset (M2 3) b (q.2.2.1 + 1) → Fw M2 M3 → Q (some (vI 0)) h3 n) → (tkK F T.2.2.1 ≠ 15 → ∀ h3 M3, IsM g h3 M3 → M3 3 = fset (M2 3) b (q.2.2.1 + 1) → Fw M2 M3 → M3 0 8 = tkS F T.2.2.1 → Q (some (vI 1)) h3 n) → ∀ x1 x2 x3 l4, Rn (d + 11) bc bs mX13_clause 98 [some (vR (some 301)), some (vI x1), some (vI x2), some (vI x3), l4] [vI 0] h2 n Q := by
      intro T h2 M2 c2 hT okT y2 mb3 kY kN x1 x2 x3 l4
      have e2 := y2.1
      have a12 : M2 0 12 = b := y2.2.2.1.1
      have mb4 : M2 3 (M2 0 12) = q.2.2.1 := by rw [a12]; exact mb3
      refine BX13_clause_98 (fun _ => ?_) fun w => absurd rfl w
      refine BX13_clause_108 e2.o rfl rfl e2.a3 (by omega) (Ls_get (by omega) (by omega)) (by omega) (by simp only [Ls_len]; omega) (by decide) ?_
      rw [mb4]
      refine IsM.p3 e2 (by omega) fun h3 M3 e3 v3 vk => ?_
      rw [a12] at v3
      have y3 := y2.mv e3 vk (fun j hj => by rw [v3, fset_ne (by omega)])
      have f3 : Fw M2 M3 := ⟨fun k _ k3 => vk k k3, fun j _ => by rw [vk 0 (by decide)]⟩
      have t15 := (wk_sg y3.2.2.2.1.2.2).2.2.2.2.2.2.2.2.2.2.2.2.1
      refine BX13_clause_121 e3.o rfl (fun q3 => ?_) fun q3 => ?_
      · refine BX13_clause_132 e3.o ?_
        refine R_nextY y3 ok okT.1 okT.2.1 fun h4 M4 y4 wk wf => ?_
        exact BX13_clause_136 (kY (t15.mp q3) h4 M4 y4 (by rw [wk 3 (by decide)]; exact v3) (f3.tr ⟨fun k k0 _ => wk k k0, wf⟩))
      · exact BX13_clause_130 (kN (fun w => q3 (t15.mpr w)) h3 M3 e3 v3 f3 y3.2.2.2.1.1)
    have K65 : ∀ (h1 : aH) (M1 : Int → Int → Int), IsM g h1 M1 → (∀ k, k ≠ 0 → M1 k = M k) → (∀ j, j ≠ 19 → M1 0 j = M 0 j) → M1 0 19 = (if tkK F q.1.2.2.1 ≤ 17 then or32 (onZ q) (shl32 1 (tkK F q.1.2.2.1 - 16)) else onZ q) → Rn (d + 11) bc bs mX13_clause 65 [some (vR (some 301)), some (vI (tkK F q.1.2.2.1 - 16)), some (vI q.2.2.1), l3, l4] [] h1 n Q := by
      intro h1 M1 e1 uk uf on1
      refine BX13_clause_65 e1.o (by show 14 < (mf (M1 0)).length; unfold mf; simp) ?_
      refine IsM.p0 e1 (mfs_14 _ _) fun h2 M2 e2 v0 vk => ?_
      have wk : ∀ k, k ≠ 0 → M2 k = M k := fun k hk => (vk k hk).trans (uk k hk)
      have wf : ∀ j, j ≠ 14 → j ≠ 19 → M2 0 j = M 0 j := fun j h14 h19 => by rw [v0, fset_ne h14, uf j h19]
      have w14 : M2 0 14 = tkK F q.1.2.2.1 - 16 := by rw [v0, fset_at]
      have w19 : M2 0 19 = M1 0 19 := by rw [v0, fset_ne (by decide)]
      have y2 : IsY g h2 M2 b F q.1.2.2.1 c := ⟨e2, ⟨by rw [wf 4 (by decide) (by decide)]; exact tp.1, by rw [wk 4 (by decide)]; exact tp.2⟩, ⟨by rw [wf 12 (by decide) (by decide)]; exact a1, by rw [wf 13 (by decide) (by decide)]; exact a2⟩, ⟨by rw [wf 8 (by decide) (by decide)]; exact t1, by rw [wf 7 (by decide) (by decide)]; exact t2, by rw [wf 9 (by decide) (by decide), wf 10 (by decide) (by decide), wf 11 (by decide) (by decide)]; exact t3⟩, by rw [wk 3 (by decide)]; exact em⟩
      refine BX13_clause_70 e2.o ?_
      refine R_nextY y2 ok p0 p1 fun h3 M3 y3 xk xf => ?_
      have e3 := y3.1
      have d12 : M3 0 12 = b := y3.2.2.1.1
      have m33 : M3 3 = M 3 := (xk 3 (by decide)).trans (wk 3 (by decide))
      refine BX13_clause_74 e3.o rfl (by omega) (by omega) (by omega) rfl e3.a3 (by omega) (by simp only [Ls_len]; omega) (by decide) ?_
      refine IsM.p3 e3 (by omega) fun h4 M4 e4 z3 zk => ?_
      rw [d12, m33] at z3
      rw [d12]
      have y4 := y3.mv e4 zk (fun j hj => by rw [z3, m33, fset_ne (by omega)])
      have z0 := zk 0 (by decide)
      have f4 : ∀ j, (j = 4 ∨ j = 5 ∨ j = 6 ∨ j = 12 ∨ j = 23 ∨ j = 24) → M4 0 j = M 0 j := fun j hj => by rw [z0, xf j (by omega), wf j (by omega) (by omega)]
      have f19 : M4 0 19 = M1 0 19 := by rw [z0, xf 19 (by decide), w19]
      have f14 : M4 0 14 = tkK F q.1.2.2.1 - 16 := by rw [z0, xf 14 (by decide), w14]
      have kd4 : Kd M M4 b := ⟨⟨by rw [zk 1 (by decide), xk 1 (by decide), wk 1 (by decide)], by rw [zk 2 (by decide), xk 2 (by decide), wk 2 (by decide)], by rw [zk 4 (by decide), xk 4 (by decide), wk 4 (by decide)], by rw [zk 9 (by decide), xk 9 (by decide), wk 9 (by decide)]⟩, f4, fun j hj => by rw [z3, fset_ne (by omega)]⟩
      have em4 : EmR (M4 3) b c := y4.2.2.2.2
      refine BX13_clause_92 e4.o ?_
      have hx : (b + 1 + 4 * q.2.2.1) = b + 1 + 4 * q.2.2.1 := rfl
      by_cases kl : tkK F q.1.2.2.1 ≤ 17
      · -- a law
        rw [if_pos kl] at on1
        have lw : ∀ (q2 : Cs), clP F q = q2 → q2.1 = wanP F 15 (lawP F (tkK F q.1.2.2.1 - 16) q.1) → q2.2.1 = fset q.2.1 (q.2.2.1 * 4 + 0) (tkK F q.1.2.2.1) → q2.2.2.1 = q.2.2.1 + 1 → (q2.2.2.2.1 = q.2.2.2.1 ∨ q.2.2.2.1 = none) → (q2.2.2.2.2 = q.2.2.2.2 ∨ q.2.2.2.2 = none) → (tkK F q.1.2.2.1 = 16 → q2.2.2.2.1 = some (lwO (lawP F (tkK F q.1.2.2.1 - 16) q.1)) ∧ q2.2.2.2.2 = q.2.2.2.2) → (tkK F q.1.2.2.1 = 17 → q2.2.2.2.2 = some (lwO (lawP F (tkK F q.1.2.2.1 - 16) q.1)) ∧ q2.2.2.2.1 = q.2.2.2.1) → M1 0 19 = onZ q2 → Rn (d + 10) 0 0 mX13_body 0 [some (vR (some 301)), some (vI (tkK F q.1.2.2.1 - 16)), some (vI (b + 1 + 4 * q.2.2.1)), none] [] h4 n (fun v h1 n1 => Rn (d + 11) bc bs mX13_clause 98 [some (vR (some 301)), some (vI (tkK F q.1.2.2.1 - 16)), some (vI q.2.2.1), some (vI (b + 1 + 4 * q.2.2.1)), l4] (v.toList ++ []) h1 n1 Q) := by
          intro q2 eq2 g1 g2 g3 g4 g5 g6 g7 g8
          rw [eq2] at k1 k0
          refine BX13_body_0 (fun _ => ?_) (fun w => by exfalso; omega) (fun w => by exfalso; omega) (fun w => by exfalso; omega) (fun w => by exfalso; omega) (fun w => by exfalso; omega) (fun w => by exfalso; omega)
          refine BX13_body_190 e4.o ?_
          have hl : lawP F (tkK F q.1.2.2.1 - 16) q.1 = gk F (tkK F q.1.2.2.1 - 16) 3000 3 0 (zeP (advP F q.1)) := rfl
          refine R_X13_lawClause (S := zeP (advP F q.1)) (cc := q.2.2.1) y4 hq rfl ok b0 b1 (by show 0 ≤ tkN F q.1.2.2.1; omega) tn.2 (by show _ ≤ tkN F q.1.2.2.1; omega) f14 c0 c23 rfl ?_ ?_
          · rw [← hl]
            intro D sem cor h5 M5 y5 kb5 hd5
            refine BX13_body_195 ?_
            have md := fun C => law_md (C := C) (b := b) (c := c) ok.1.2 rfl (by show 1 ≤ tkN F q.1.2.2.1; omega) (by show _ ≤ tkN F q.1.2.2.1; omega) cor
            have cT := cor.1
            have cL := cor.2.1
            have okT : okQ F (lawP F (tkK F q.1.2.2.1 - 16) q.1) := ⟨by have : tkN F q.1.2.2.1 + D.length ≤ (lawP F (tkK F q.1.2.2.1 - 16) q.1).2.2.1 := cL.2.1; omega, cL.2.2, trivial⟩
            have cD : tkN F q.1.2.2.1 + D.length ≤ (lawP F (tkK F q.1.2.2.1 - 16) q.1).2.2.1 := cL.2.1
            generalize lawP F (tkK F q.1.2.2.1 - 16) q.1 = T at *
            have hd6 : ∀ j, j < b + 97 → M5 3 j = fset (fset (fset (M 3) (b + 1 + 4 * q.2.2.1) (tkK F q.1.2.2.1 - 16)) (b + 1 + 4 * q.2.2.1 + 1) c.length) (b + 1 + 4 * q.2.2.1 + 2) (c.length + D.length) j := fun j hj => by rw [hd5 j hj, z3]
            have kd5 : Kd M M5 b := kd4.tr (kb5.d (Int.le_refl _))
            have f195 : M5 0 19 = onZ q2 := by rw [kb5.2.1 19 (by decide), f19]; exact g8
            have hb5 : M5 3 b = q.2.2.1 := by rw [hd6 b (by omega), fset_ne (by omega), fset_ne (by omega), fset_ne (by omega)]; exact mb
            have em5 : EmR (M5 3) b (c ++ D) := y5.2.2.2.2
            refine tail T h5 M5 (c ++ D) cT okT y5 hb5 ?_ ?_ _ _ _ _
            · intro k15 h6 M6 y6 m6 f6
              have eT : q2.1 = advP F T := by rw [g1, wan_yes cT k15]
              have add := tTx_add (C := M 3) (C2 := M6 3) (b := b) (q := q) (q2 := q2) (c := c) (c2 := c ++ D) tx hE (by omega) g3 (by rw [m6, fset_at]) (fun j j0 j1 => by rw [m6, fset_ne (by omega), hd6 j (by omega), fset_ne (by omega), fset_ne (by omega), fset_ne (by omega)]) (fun j j0 j1 => by rw [m6, fset_ne (by omega)]; exact EmR_same em em5 j j0 j1) (fun j hj => by rw [g2, fset_ne (by omega)]) g4 g5 ?_ ?_ ?_ (by rw [List.length_append]; omega) ?_
              · refine k1 cb0 (by rw [eT]; exact cT) h6 M6 (c ++ D) ⟨by rw [eT]; exact y6, add, by rw [f6.2 19 (by decide)]; exact f195, by rw [eT]; exact advQ ok okT (by show tkK F T.2.2.1 ≠ 0; omega), ?_⟩ (kd5.tr (f6.d fun j hj => by rw [m6, fset_ne (by omega)]))
                rw [eT, List.length_append]
                show _ ≤ tkN F T.2.2.1
                have := tkN_gt ok okT.1 okT.2.1 (show tkK F T.2.2.1 ≠ 0 by omega)
                omega
              · have cx : ∀ j, b + 1 + 4 * q.2.2.1 ≤ j → j ≤ b + 1 + 4 * q.2.2.1 + 2 → M6 3 j = fset (fset (fset (M 3) (b + 1 + 4 * q.2.2.1) (tkK F q.1.2.2.1 - 16)) (b + 1 + 4 * q.2.2.1 + 1) c.length) (b + 1 + 4 * q.2.2.1 + 2) (c.length + D.length) j := fun j j0 j1 => by rw [m6, fset_ne (by omega), hd6 j (by omega)]
                have k00 : (mkT q2).2.1 (q.2.2.1 * 4 + 0) = tkK F q.1.2.2.1 := by rw [mkT_cl (by omega), g2, fset_at]
                have x0 : M6 3 (b + 1 + 4 * q.2.2.1) = tkK F q.1.2.2.1 - 16 := by rw [cx _ (by omega) (by omega), fset_ne (by omega), fset_ne (by omega), fset_at]
                have x1 : M6 3 (b + 1 + 4 * q.2.2.1 + 1) = c.length := by rw [cx _ (by omega) (by omega), fset_ne (by omega), fset_at]
                have x2 : M6 3 (b + 1 + 4 * q.2.2.1 + 2) = c.length + D.length := by rw [cx _ (by omega) (by omega), fset_at]
                have em6 : EmR (M6 3) b (c ++ D) := em5.ext fun j hj => by rw [m6, fset_ne (by omega)]
                unfold tCl
                rw [k00, x0, x1, x2]
                refine ⟨⟨by omega, by omega, by omega⟩, fun w => by exfalso; omega, fun w => by exfalso; omega, fun w => by exfalso; omega, fun w => ⟨codeD (lwO T), ?_, md _ em6⟩, fun w => ⟨codeD (lwO T), ?_, md _ em6⟩⟩
                · show q2.2.2.2.1.map codeD = _
                  rw [(g6 w).1]
                  rfl
                · show q2.2.2.2.2.map codeD = _
                  rw [(g7 w).1]
                  rfl
              · rcases (show tkK F q.1.2.2.1 = 16 ∨ tkK F q.1.2.2.1 = 17 by omega) with w | w
                · right; rw [g2, fset_at]; exact w
                · left; exact (g7 w).2
              · rcases (show tkK F q.1.2.2.1 = 16 ∨ tkK F q.1.2.2.1 = 17 by omega) with w | w
                · left; exact (g6 w).2
                · right; rw [g2, fset_at]; exact w
              · intro _
                rw [m6, fset_ne (by omega), hd6 _ (by omega), fset_at, List.length_append]
                omega
            · intro k15 h6 M6 e6 m6 f6 pl6
              have eT : q2.1 = (1, tkS F T.2.2.1, T.2.2) := by rw [g1, wan_no cT k15]; exact if_pos cT
              refine k0 (1, tkS F T.2.2.1, T.2.2) (.inr ⟨cb0, by rw [eT]; show (1 : Int) ≠ 0; decide, eT.symm⟩) h6 M6 ⟨e6, kd5.tr (f6.d fun j hj => by rw [m6, fset_ne (by omega)]), pl6⟩
          · rw [← hl]
            intro hT h5 M5 bd
            generalize lawP F (tkK F q.1.2.2.1 - 16) q.1 = T at *
            refine BX13_body_195 ?_
            have eT : q2.1 = T := by
              rw [g1]
              unfold wanP
              rw [if_neg (fun z => hT (seP_kd z).1)]
              exact if_neg hT
            refine BX13_clause_98 (fun w => absurd w hT) fun _ => ?_
            exact BX13_clause_105 (k0 T (.inr ⟨cb0, by rw [eT]; exact hT, eT.symm⟩) h5 M5 ⟨bd.1, kd4.tr bd.2.1, bd.2.2⟩)
        by_cases k16 : tkK F q.1.2.2.1 = 16
        · have con : q.2.2.2.1 = none := by
            refine Decidable.byContradiction fun w => ?_
            exact nt (.inl ⟨k16, w⟩)
          have eq : clP F q = (wanP F 15 (lawP F 0 q.1), fset q.2.1 (q.2.2.1 * 4 + 0) (kdP F q.1), q.2.2.1 + 1, some (lwO (lawP F 0 q.1)), q.2.2.2.2) := if_pos (by rw [kdd]; exact k16)
          have lw := lw _ eq (by rw [show tkK F q.1.2.2.1 - 16 = 0 by omega]) rfl rfl (.inr con) (.inl rfl) (fun _ => ⟨by rw [show tkK F q.1.2.2.1 - 16 = 0 by omega], rfl⟩) (fun w => by exfalso; omega) (by rw [on1, show tkK F q.1.2.2.1 - 16 = 0 by omega]; exact on_put.1 con)
          exact lw
        · have k17 : tkK F q.1.2.2.1 = 17 := by omega
          have wen : q.2.2.2.2 = none := by
            refine Decidable.byContradiction fun w => ?_
            exact nt (.inr ⟨k17, w⟩)
          have eq : clP F q = (wanP F 15 (lawP F 1 q.1), fset q.2.1 (q.2.2.1 * 4 + 0) (kdP F q.1), q.2.2.1 + 1, q.2.2.2.1, some (lwO (lawP F 1 q.1))) := (if_neg (by rw [kdd]; exact k16)).trans (if_pos (by rw [kdd]; exact k17))
          have lw := lw _ eq (by rw [show tkK F q.1.2.2.1 - 16 = 1 by omega]) rfl rfl (.inl rfl) (.inr wen) (fun w => by exfalso; omega) (fun _ => ⟨by rw [show tkK F q.1.2.2.1 - 16 = 1 by omega], rfl⟩) (by rw [on1, show tkK F q.1.2.2.1 - 16 = 1 by omega]; exact on_put.2 wen)
          exact lw
      · -- numbers
        rw [if_neg kl] at on1
        have eq : clP F q = (wanP F 15 (clN F q).1, (clN F q).2, q.2.2.1 + 1, q.2.2.2.1, q.2.2.2.2) := (if_neg (by rw [kdd]; omega)).trans (if_neg (by rw [kdd]; omega))
        rw [eq] at k1 k0
        have en : clN F q = nuP F q.2.2.1 (tkK F q.1.2.2.1) (advP F q.1, fset q.2.1 (q.2.2.1 * 4 + 0) (tkK F q.1.2.2.1)) := rfl
        refine R_body_n (q := (advP F q.1, fset q.2.1 (q.2.2.1 * 4 + 0) (tkK F q.1.2.2.1))) (cc := q.2.2.1) y4 hq ok b0 b1 (by show 0 ≤ tkN F q.1.2.2.1; omega) tn.2 c0 c23 rfl (by omega) kr.2 ?_ ?_
        · rw [← en]
          intro hT h5 M5 y5 f5 hf okT le
          have le : tkN F q.1.2.2.1 ≤ (clN F q).1.2.2.1 := le
          generalize clN F q = R at *
          obtain ⟨i1, i2, i3, i4, i5, i6⟩ := hf
          have kd5 : Kd M M5 b := kd4.tr (f5.d fun j hj => i1 j (by omega))
          have hb5 : M5 3 b = q.2.2.1 := by rw [i1 b (by omega), z3, fset_ne (by omega)]; exact mb
          have cl0 : R.2 (q.2.2.1 * 4 + 0) = tkK F q.1.2.2.1 := by rw [i5 _ (by omega)]; exact fset_at _ _ _
          have clo : ∀ j, j < 4 * q.2.2.1 → R.2 j = q.2.1 j := fun j hj => by rw [i5 j (by omega)]; exact fset_ne (by omega)
          have em5 : EmR (M5 3) b c := y5.2.2.2.2
          refine tail R.1 h5 M5 c hT okT y5 hb5 ?_ ?_ _ _ _ _
          · intro k15 h6 M6 y6 m6 f6
            have eT : wanP F 15 R.1 = advP F R.1 := wan_yes hT k15
            rw [eT] at k1
            have add := tTx_add (C := M 3) (C2 := M6 3) (b := b) (q := q) (q2 := (advP F R.1, R.2, q.2.2.1 + 1, q.2.2.2.1, q.2.2.2.2)) (c := c) (c2 := c) tx hE (by omega) rfl (by rw [m6, fset_at]) (fun j j0 j1 => by rw [m6, fset_ne (by omega), i1 j (by omega), z3, fset_ne (by omega)]) (fun j j0 j1 => by rw [m6, fset_ne (by omega)]; exact EmR_same (D := []) em (by rw [List.append_nil]; exact em5) j j0 j1) clo (.inl rfl) (.inl rfl) ?_ (.inl rfl) (.inl rfl) (Nat.le_refl _) (fun w => by dsimp only at w; rw [cl0] at w; exfalso; omega)
            · refine k1 cb0 hT h6 M6 c ⟨y6, add, ?_, advQ ok okT (by show tkK F R.1.2.2.1 ≠ 0; omega), ?_⟩ (kd5.tr (f6.d fun j hj => by rw [m6, fset_ne (by omega)]))
              · rw [f6.2 19 (by decide), f5.2 19 (by decide), f19, on1]; rfl
              · show _ ≤ tkN F R.1.2.2.1
                have := tkN_gt ok okT.1 okT.2.1 (show tkK F R.1.2.2.1 ≠ 0 by omega)
                omega
            · have k00 : (mkT (advP F R.1, R.2, q.2.2.1 + 1, q.2.2.2.1, q.2.2.2.2)).2.1 (q.2.2.1 * 4 + 0) = tkK F q.1.2.2.1 := by rw [mkT_cl (by omega)]; exact cl0
              have kk : ∀ w, 0 ≤ w → w ≤ 3 → (mkT (advP F R.1, R.2, q.2.2.1 + 1, q.2.2.2.1, q.2.2.2.2)).2.1 (q.2.2.1 * 4 + w) = R.2 (q.2.2.1 * 4 + w) := fun w w0 w1 => mkT_cl (by omega)
              have cx : ∀ j, b < j → M6 3 j = M5 3 j := fun j j0 => by rw [m6, fset_ne (by omega)]
              unfold tCl
              rw [k00, kk 1 (by decide) (by decide), kk 2 (by decide) (by decide), kk 3 (by decide) (by decide), cx _ (by omega), cx _ (by omega), cx _ (by omega), cx _ (by omega)]
              refine ⟨⟨?_, by omega, by omega⟩, i2, i3, i4, fun w => by exfalso; omega, fun w => by exfalso; omega⟩
              rw [i1 _ (by omega), z3, fset_at]
              omega
          · intro k15 h6 M6 e6 m6 f6 pl6
            have eT : wanP F 15 R.1 = (1, tkS F R.1.2.2.1, R.1.2.2) := by rw [wan_no hT k15]; exact if_pos hT
            rw [eT] at k0
            exact k0 (1, tkS F R.1.2.2.1, R.1.2.2) (.inr ⟨cb0, by show (1 : Int) ≠ 0; decide, rfl⟩) h6 M6 ⟨e6, kd5.tr (f6.d fun j hj => by rw [m6, fset_ne (by omega)]), pl6⟩
        · rw [← en]
          intro hT h5 M5 bd
          have eT : wanP F 15 (clN F q).1 = (clN F q).1 := by
            unfold wanP
            rw [if_neg (fun z => hT (seP_kd z).1)]
            exact if_neg hT
          rw [eT] at k0
          refine BX13_clause_98 (fun w => absurd w hT) fun _ => ?_
          exact BX13_clause_105 (k0 (clN F q).1 (.inr ⟨cb0, hT, rfl⟩) h5 M5 ⟨bd.1, kd4.tr bd.2.1, bd.2.2⟩)
    refine BX13_clause_48 (fun q3 => ?_) fun q3 => ?_
    · exact K65 h M e (fun _ _ => rfl) (fun _ _ => rfl) (by rw [if_neg (by omega)]; exact on)
    · refine BX13_clause_53 e.o rfl (by show 19 < (mf (M 0)).length; unfold mf; simp) ?_
      refine IsM.p0 e (mfs_19 _ _) fun h1 M1 e1 u0 uk => ?_
      exact K65 h1 M1 e1 uk (fun j hj => by rw [u0, fset_ne hj]) (by rw [u0, fset_at, if_pos (by omega), on])
  refine BX13_clause_11 (fun q2 => ?_) fun q2 => ?_
  · exact K29 (fun w => by omega) _ _ _
  · have oi := on_in q
    have oh := on_has q
    refine BX13_clause_16 e.o rfl ?_
    rw [on]
    refine R_X13_has oi.1 (by omega) (by omega) (by omega) (fun q3 => ?_) fun q3 => ?_
    · refine BX13_clause_24 (fun w => absurd w (by decide)) fun _ => ?_
      refine BX13_clause_27 (rf 4 (by decide) ?_)
      rw [cb, if_pos]
      rcases (show tkK F q.1.2.2.1 = 16 ∨ tkK F q.1.2.2.1 = 17 by omega) with w | w
      · rw [w] at q3; exact .inl ⟨w, oh.1.mp q3⟩
      · rw [w] at q3; exact .inr ⟨w, oh.2.mp q3⟩
    · refine BX13_clause_24 (fun _ => ?_) fun w => absurd rfl w
      refine K29 ?_ _ _ _
      rintro (⟨w, u⟩ | ⟨w, u⟩)
      · rw [w] at q3; exact oh.1.mpr u q3
      · rw [w] at q3; exact oh.2.mpr u q3
end TEXT6
