/-! The reference's pile and what is emitted. -/
def Kb (M M1 : Int → Int → Int) (B : Int) : Prop := (M1 1 = M 1 ∧ M1 2 = M 2 ∧ M1 4 = M 4 ∧ M1 9 = M 9) ∧ (∀ j, (j = 4 ∨ j = 5 ∨ j = 6 ∨ j = 12 ∨ j = 14 ∨ j = 19 ∨ j = 23 ∨ j = 24) → M1 0 j = M 0 j) ∧ (∀ j, j < B → M1 3 j = M 3 j)
theorem Kb.rf {M : Int → Int → Int} {B : Int} : Kb M M B := ⟨⟨rfl, rfl, rfl, rfl⟩, fun _ _ => rfl, fun _ _ => rfl⟩
theorem Kb.tr {M M1 M2 : Int → Int → Int} {B : Int} (a : Kb M M1 B) (b : Kb M1 M2 B) : Kb M M2 B := ⟨⟨b.1.1.trans a.1.1, b.1.2.1.trans a.1.2.1, b.1.2.2.1.trans a.1.2.2.1, b.1.2.2.2.trans a.1.2.2.2⟩, fun j hj => (b.2.1 j hj).trans (a.2.1 j hj), fun j hj => (b.2.2 j hj).trans (a.2.2 j hj)⟩
theorem Kb.le {M M1 : Int → Int → Int} {B B2 : Int} (a : Kb M M1 B) (h : B2 ≤ B) : Kb M M1 B2 := ⟨a.1, a.2.1, fun j hj => a.2.2 j (by omega)⟩
def EmR (C : Int → Int) (b : Int) (c : Em) : Prop := ∀ (i : Nat) (x : Int × Int), c[i]? = some x → C (b + 97 + 2 * i) = x.1 ∧ C (b + 97 + 2 * i + 1) = x.2
def IsY (g h : aH) (M : Int → Int → Int) (b : Int) (F : Int → Int) (p : Int) (c : Em) : Prop := IsM g h M ∧ tpM M F (M 0) ∧ (M 0 12 = b ∧ M 0 13 = c.length) ∧ (M 0 8 = tkS F p ∧ M 0 7 = tkN F p ∧ TkR F p (M 0 9) (M 0 10) (M 0 11)) ∧ EmR (M 3) b c
def PlM (M : Int → Int → Int) (P : List Int) (o w : Int) : Prop := (M 0 16 = P.length ∧ M 0 17 = o ∧ M 0 18 = w) ∧ Sk (M 5) P P.length
def IsZ (g h : aH) (M : Int → Int → Int) (b : Int) (F : Int → Int) (z : Zs) : Prop := IsY g h M b F z.1 z.2.2.2.2 ∧ PlM M z.2.1 z.2.2.1 z.2.2.2.1
theorem wk_sg {F : Int → Int} {p tok num word : Int} (t : TkR F p tok num word) : (tok = 0 ↔ tkK F p = 0) ∧ (tok = 1 ↔ tkK F p = 2) ∧ (tok = 60 ↔ tkK F p = 5) ∧ (tok = 62 ↔ tkK F p = 6) ∧ (tok = 61 ↔ tkK F p = 7) ∧ (tok = 35 ↔ tkK F p = 8) ∧ (tok = 43 ↔ tkK F p = 9) ∧ (tok = 45 ↔ tkK F p = 10) ∧ (tok = 42 ↔ tkK F p = 11) ∧ (tok = 47 ↔ tkK F p = 12) ∧ (tok = 40 ↔ tkK F p = 13) ∧ (tok = 41 ↔ tkK F p = 14) ∧ (tok = 59 ↔ tkK F p = 15) ∧ (tok = 4 ↔ tkK F p = 3) ∧ (tok = 5 ↔ tkK F p = 4) := by
  refine ⟨?_, ?_, ?_, ?_, ?_, ?_, ?_, ?_, ?_, ?_, ?_, ?_, ?_, ?_, ?_⟩ <;> (refine t.1 _ _ ?_; unfold sgP; omega)
theorem EmR.app {C C2 : Int → Int} {b x v : Int} {c : Em} (e : EmR C b c) (h : ∀ j, j < b + 97 + 2 * (c.length : Int) → C2 j = C j) (h1 : C2 (b + 97 + 2 * (c.length : Int)) = x) (h2 : C2 (b + 97 + 2 * (c.length : Int) + 1) = v) : EmR C2 b (c ++ [(x, v)]) := by
  intro i y hy
  by_cases q : i < c.length
  · rw [List.getElem?_append_left q] at hy
    rw [h _ (by omega), h _ (by omega)]
    exact e i y hy
  · rw [List.getElem?_append_right (by omega)] at hy
    by_cases w : i = c.length
    · subst w
      rw [Nat.sub_self] at hy
      have hy : some (x, v) = some y := hy
      cases hy
      exact ⟨h1, h2⟩
    · have : [(x, v)][i - c.length]? = none := List.getElem?_eq_none (by rw [List.length_singleton]; omega)
      rw [this] at hy
      cases hy
theorem EmR.ext {C C2 : Int → Int} {b : Int} {c : Em} (e : EmR C b c) (h : ∀ j, b + 97 ≤ j → C2 j = C j) : EmR C2 b c := by
  intro i y hy
  rw [h _ (by omega), h _ (by omega)]
  exact e i y hy
section PILE
variable {d bc bs n pc : Nat} {g h : aH} {Q : aQ} {M : Int → Int → Int} {F : Int → Int} {mm : aM} {ls : aL} {st : List aV} {b p o w x : Int} {P : List Int} {c : Em}
theorem IsM.p0 {i : Nat} {j v : Int} {u : aV} (e : IsM g h M) (hi : (mf (M 0)).set i u = mf (fset (M 0) j v)) (K : ∀ h1 M1, IsM g h1 M1 → M1 0 = fset (M 0) j v → (∀ k, k ≠ 0 → M1 k = M k) → Rn d bc bs mm pc ls st h1 n Q) : Rn d bc bs mm pc ls st (up h 301 (cO 13 ((mf (M 0)).set i u))) n Q := IsM.wf e hi fun h1 e1 => K h1 _ e1 (fset_at _ _ _) fun k hk => fset_ne hk
theorem IsM.p3 {i v : Int} (e : IsM g h M) (h0 : 0 ≤ i) (K : ∀ h1 M1, IsM g h1 M1 → M1 3 = fset (M 3) i v → (∀ k, k ≠ 3 → M1 k = M k) → Rn d bc bs mm pc ls st h1 n Q) : Rn d bc bs mm pc ls st (up h 304 (cI ((Ls 2820 (M 3)).set i.toNat v))) n Q := IsM.w3 e h0 fun h1 e1 => K h1 _ e1 (fset_at _ _ _) fun k hk => fset_ne hk
theorem IsM.p5 {i v : Int} (e : IsM g h M) (h0 : 0 ≤ i) (K : ∀ h1 M1, IsM g h1 M1 → M1 5 = fset (M 5) i v → (∀ k, k ≠ 5 → M1 k = M k) → Rn d bc bs mm pc ls st h1 n Q) : Rn d bc bs mm pc ls st (up h 306 (cI ((Ls 160 (M 5)).set i.toNat v))) n Q := IsM.w5 e h0 fun h1 e1 => K h1 _ e1 (fset_at _ _ _) fun k hk => fset_ne hk
/-- the next token: all but what is at hand stays -/
theorem R_nextY {l1 : Option aV} (s : IsY g h M b F p c) (ok : okF F) (p0 : 0 ≤ p) (p1 : p ≤ F 2) (k : ∀ h1 M1, IsY g h1 M1 b F (tkN F p) c → (∀ k, k ≠ 0 → M1 k = M k) → frG M (M1 0) → Q none h1 n) : Rn (d + 1) bc bs mX13_nextToken 0 [some (vR (some 301)), l1] [] h n Q := by
  obtain ⟨e, tp, ⟨a1, a2⟩, ⟨t1, t2, t3⟩, em⟩ := s
  have ti := tkT_in (F := F) (q := tkS F p) ok (by have := tkS_in (F := F) p1; omega) (tkS_in p1).2
  have n0 : tkN F p = (tkT F (tkS F p)).2.2 := rfl
  have si := tkS_in (F := F) p1
  refine R_X13_nextToken e tp ok t2 (by omega) (by omega) fun h1 G e1 f g8 g7 tr => ?_
  have q0 : fset M 0 G 0 = G := fset_at _ _ _
  have qk : ∀ k, k ≠ 0 → fset M 0 G k = M k := fun k hk => fset_ne hk
  refine k h1 (fset M 0 G) ⟨e1, ?_, ?_, ?_, ?_⟩ qk (by rw [q0]; exact f)
  · rw [q0]
    exact ⟨by rw [f 4 (by decide)]; exact tp.1, by rw [qk 4 (by decide)]; exact tp.2⟩
  · rw [q0, f 12 (by decide), f 13 (by decide)]
    exact ⟨a1, a2⟩
  · rw [q0]
    exact ⟨g8, g7, tr⟩
  · rw [qk 3 (by decide)]
    exact em
theorem R_nextZ {l1 : Option aV} (s : IsZ g h M b F (p, P, o, w, c)) (ok : okF F) (p0 : 0 ≤ p) (p1 : p ≤ F 2) (k : ∀ h1 M1, IsZ g h1 M1 b F (tkN F p, P, o, w, c) → Kb M M1 (b + 97) → Q none h1 n) : Rn (d + 1) bc bs mX13_nextToken 0 [some (vR (some 301)), l1] [] h n Q := by
  obtain ⟨y, ⟨c1, c2, c3⟩, sk⟩ := s
  refine R_nextY y ok p0 p1 fun h1 M1 y1 qk f => ?_
  refine k h1 M1 ⟨y1, ⟨by rw [f 16 (by decide)]; exact c1, by rw [f 17 (by decide)]; exact c2, by rw [f 18 (by decide)]; exact c3⟩, by rw [qk 5 (by decide)]; exact sk⟩ ⟨⟨qk 1 (by decide), qk 2 (by decide), qk 4 (by decide), qk 9 (by decide)⟩, fun j hj => f j (by omega), fun j _ => by rw [qk 3 (by decide)]⟩
theorem R_X13_rank (k : Q (some (vI (rk x))) h n) : Rn d bc bs mX13_rank 0 [some (vI x)] [] h n Q := by
  unfold rk at k
  refine BX13_rank_0  ?_ ?_
  · intro hc1
    refine BX13_rank_10  ?_ ?_
    · intro hc2
      refine BX13_rank_20  ?_ ?_
      · intro hc3
        refine BX13_rank_30  ?_ ?_
        · intro hc4
          refine BX13_rank_40  ?_ ?_
          · intro hc5
            refine BX13_rank_50  ?_ ?_
            · intro hc6
              refine BX13_rank_65  ?_
              first | (rw [if_pos (by omega)] at k; exact k) | (rw [if_neg (by omega), if_pos (by omega)] at k; exact k) | (rw [if_neg (by omega), if_neg (by omega), if_pos (by omega)] at k; exact k) | (rw [if_neg (by omega), if_neg (by omega), if_neg (by omega), if_pos (by omega)] at k; exact k) | (rw [if_neg (by omega), if_neg (by omega), if_neg (by omega), if_neg (by omega), if_pos (by omega)] at k; exact k) | (rw [if_neg (by omega), if_neg (by omega), if_neg (by omega), if_neg (by omega), if_neg (by omega), if_pos (by omega)] at k; exact k) | (rw [if_neg (by omega), if_neg (by omega), if_neg (by omega), if_neg (by omega), if_neg (by omega), if_neg (by omega), if_pos (by omega)] at k; exact k) | (rw [if_neg (by omega), if_neg (by omega), if_neg (by omega), if_neg (by omega), if_neg (by omega), if_neg (by omega), if_neg (by omega)] at k; exact k)
            · intro hc7
              refine BX13_rank_55  ?_ ?_
              · intro hc8
                refine BX13_rank_65  ?_
                first | (rw [if_pos (by omega)] at k; exact k) | (rw [if_neg (by omega), if_pos (by omega)] at k; exact k) | (rw [if_neg (by omega), if_neg (by omega), if_pos (by omega)] at k; exact k) | (rw [if_neg (by omega), if_neg (by omega), if_neg (by omega), if_pos (by omega)] at k; exact k) | (rw [if_neg (by omega), if_neg (by omega), if_neg (by omega), if_neg (by omega), if_pos (by omega)] at k; exact k) | (rw [if_neg (by omega), if_neg (by omega), if_neg (by omega), if_neg (by omega), if_neg (by omega), if_pos (by omega)] at k; exact k) | (rw [if_neg (by omega), if_neg (by omega), if_neg (by omega), if_neg (by omega), if_neg (by omega), if_neg (by omega), if_pos (by omega)] at k; exact k) | (rw [if_neg (by omega), if_neg (by omega), if_neg (by omega), if_neg (by omega), if_neg (by omega), if_neg (by omega), if_neg (by omega)] at k; exact k)
              · intro hc9
                refine BX13_rank_60  ?_ ?_
                · intro hc10
                  refine BX13_rank_70  ?_ ?_
                  · intro hc11
                    refine BX13_rank_81  ?_
                    first | (rw [if_pos (by omega)] at k; exact k) | (rw [if_neg (by omega), if_pos (by omega)] at k; exact k) | (rw [if_neg (by omega), if_neg (by omega), if_pos (by omega)] at k; exact k) | (rw [if_neg (by omega), if_neg (by omega), if_neg (by omega), if_pos (by omega)] at k; exact k) | (rw [if_neg (by omega), if_neg (by omega), if_neg (by omega), if_neg (by omega), if_pos (by omega)] at k; exact k) | (rw [if_neg (by omega), if_neg (by omega), if_neg (by omega), if_neg (by omega), if_neg (by omega), if_pos (by omega)] at k; exact k) | (rw [if_neg (by omega), if_neg (by omega), if_neg (by omega), if_neg (by omega), if_neg (by omega), if_neg (by omega), if_pos (by omega)] at k; exact k) | (rw [if_neg (by omega), if_neg (by omega), if_neg (by omega), if_neg (by omega), if_neg (by omega), if_neg (by omega), if_neg (by omega)] at k; exact k)
                  · intro hc12
                    refine BX13_rank_76  ?_
                    first | (rw [if_pos (by omega)] at k; exact k) | (rw [if_neg (by omega), if_pos (by omega)] at k; exact k) | (rw [if_neg (by omega), if_neg (by omega), if_pos (by omega)] at k; exact k) | (rw [if_neg (by omega), if_neg (by omega), if_neg (by omega), if_pos (by omega)] at k; exact k) | (rw [if_neg (by omega), if_neg (by omega), if_neg (by omega), if_neg (by omega), if_pos (by omega)] at k; exact k) | (rw [if_neg (by omega), if_neg (by omega), if_neg (by omega), if_neg (by omega), if_neg (by omega), if_pos (by omega)] at k; exact k) | (rw [if_neg (by omega), if_neg (by omega), if_neg (by omega), if_neg (by omega), if_neg (by omega), if_neg (by omega), if_pos (by omega)] at k; exact k) | (rw [if_neg (by omega), if_neg (by omega), if_neg (by omega), if_neg (by omega), if_neg (by omega), if_neg (by omega), if_neg (by omega)] at k; exact k)
                · intro hc13
                  refine BX13_rank_65  ?_
                  first | (rw [if_pos (by omega)] at k; exact k) | (rw [if_neg (by omega), if_pos (by omega)] at k; exact k) | (rw [if_neg (by omega), if_neg (by omega), if_pos (by omega)] at k; exact k) | (rw [if_neg (by omega), if_neg (by omega), if_neg (by omega), if_pos (by omega)] at k; exact k) | (rw [if_neg (by omega), if_neg (by omega), if_neg (by omega), if_neg (by omega), if_pos (by omega)] at k; exact k) | (rw [if_neg (by omega), if_neg (by omega), if_neg (by omega), if_neg (by omega), if_neg (by omega), if_pos (by omega)] at k; exact k) | (rw [if_neg (by omega), if_neg (by omega), if_neg (by omega), if_neg (by omega), if_neg (by omega), if_neg (by omega), if_pos (by omega)] at k; exact k) | (rw [if_neg (by omega), if_neg (by omega), if_neg (by omega), if_neg (by omega), if_neg (by omega), if_neg (by omega), if_neg (by omega)] at k; exact k)
          · intro hc14
            refine BX13_rank_46  ?_
            first | (rw [if_pos (by omega)] at k; exact k) | (rw [if_neg (by omega), if_pos (by omega)] at k; exact k) | (rw [if_neg (by omega), if_neg (by omega), if_pos (by omega)] at k; exact k) | (rw [if_neg (by omega), if_neg (by omega), if_neg (by omega), if_pos (by omega)] at k; exact k) | (rw [if_neg (by omega), if_neg (by omega), if_neg (by omega), if_neg (by omega), if_pos (by omega)] at k; exact k) | (rw [if_neg (by omega), if_neg (by omega), if_neg (by omega), if_neg (by omega), if_neg (by omega), if_pos (by omega)] at k; exact k) | (rw [if_neg (by omega), if_neg (by omega), if_neg (by omega), if_neg (by omega), if_neg (by omega), if_neg (by omega), if_pos (by omega)] at k; exact k) | (rw [if_neg (by omega), if_neg (by omega), if_neg (by omega), if_neg (by omega), if_neg (by omega), if_neg (by omega), if_neg (by omega)] at k; exact k)
        · intro hc15
          refine BX13_rank_36  ?_
          first | (rw [if_pos (by omega)] at k; exact k) | (rw [if_neg (by omega), if_pos (by omega)] at k; exact k) | (rw [if_neg (by omega), if_neg (by omega), if_pos (by omega)] at k; exact k) | (rw [if_neg (by omega), if_neg (by omega), if_neg (by omega), if_pos (by omega)] at k; exact k) | (rw [if_neg (by omega), if_neg (by omega), if_neg (by omega), if_neg (by omega), if_pos (by omega)] at k; exact k) | (rw [if_neg (by omega), if_neg (by omega), if_neg (by omega), if_neg (by omega), if_neg (by omega), if_pos (by omega)] at k; exact k) | (rw [if_neg (by omega), if_neg (by omega), if_neg (by omega), if_neg (by omega), if_neg (by omega), if_neg (by omega), if_pos (by omega)] at k; exact k) | (rw [if_neg (by omega), if_neg (by omega), if_neg (by omega), if_neg (by omega), if_neg (by omega), if_neg (by omega), if_neg (by omega)] at k; exact k)
      · intro hc16
        refine BX13_rank_26  ?_
        first | (rw [if_pos (by omega)] at k; exact k) | (rw [if_neg (by omega), if_pos (by omega)] at k; exact k) | (rw [if_neg (by omega), if_neg (by omega), if_pos (by omega)] at k; exact k) | (rw [if_neg (by omega), if_neg (by omega), if_neg (by omega), if_pos (by omega)] at k; exact k) | (rw [if_neg (by omega), if_neg (by omega), if_neg (by omega), if_neg (by omega), if_pos (by omega)] at k; exact k) | (rw [if_neg (by omega), if_neg (by omega), if_neg (by omega), if_neg (by omega), if_neg (by omega), if_pos (by omega)] at k; exact k) | (rw [if_neg (by omega), if_neg (by omega), if_neg (by omega), if_neg (by omega), if_neg (by omega), if_neg (by omega), if_pos (by omega)] at k; exact k) | (rw [if_neg (by omega), if_neg (by omega), if_neg (by omega), if_neg (by omega), if_neg (by omega), if_neg (by omega), if_neg (by omega)] at k; exact k)
    · intro hc17
      refine BX13_rank_16  ?_
      first | (rw [if_pos (by omega)] at k; exact k) | (rw [if_neg (by omega), if_pos (by omega)] at k; exact k) | (rw [if_neg (by omega), if_neg (by omega), if_pos (by omega)] at k; exact k) | (rw [if_neg (by omega), if_neg (by omega), if_neg (by omega), if_pos (by omega)] at k; exact k) | (rw [if_neg (by omega), if_neg (by omega), if_neg (by omega), if_neg (by omega), if_pos (by omega)] at k; exact k) | (rw [if_neg (by omega), if_neg (by omega), if_neg (by omega), if_neg (by omega), if_neg (by omega), if_pos (by omega)] at k; exact k) | (rw [if_neg (by omega), if_neg (by omega), if_neg (by omega), if_neg (by omega), if_neg (by omega), if_neg (by omega), if_pos (by omega)] at k; exact k) | (rw [if_neg (by omega), if_neg (by omega), if_neg (by omega), if_neg (by omega), if_neg (by omega), if_neg (by omega), if_neg (by omega)] at k; exact k)
  · intro hc18
    refine BX13_rank_6  ?_
    first | (rw [if_pos (by omega)] at k; exact k) | (rw [if_neg (by omega), if_pos (by omega)] at k; exact k) | (rw [if_neg (by omega), if_neg (by omega), if_pos (by omega)] at k; exact k) | (rw [if_neg (by omega), if_neg (by omega), if_neg (by omega), if_pos (by omega)] at k; exact k) | (rw [if_neg (by omega), if_neg (by omega), if_neg (by omega), if_neg (by omega), if_pos (by omega)] at k; exact k) | (rw [if_neg (by omega), if_neg (by omega), if_neg (by omega), if_neg (by omega), if_neg (by omega), if_pos (by omega)] at k; exact k) | (rw [if_neg (by omega), if_neg (by omega), if_neg (by omega), if_neg (by omega), if_neg (by omega), if_neg (by omega), if_pos (by omega)] at k; exact k) | (rw [if_neg (by omega), if_neg (by omega), if_neg (by omega), if_neg (by omega), if_neg (by omega), if_neg (by omega), if_neg (by omega)] at k; exact k)
theorem R_X13_emit {v : Int} (s : IsZ g h M b F (p, P, o, w, c)) (b0 : 0 ≤ b) (b1 : b ≤ 2115) (hc : (c.length : Int) ≤ 302) (k : ∀ h1 M1, IsZ g h1 M1 b F (p, P, o, w, c ++ [(x, v)]) → Kb M M1 (b + 97) → M1 5 = M 5 → Q none h1 n) : Rn d bc bs mX13_emit 0 [some (vR (some 301)), some (vI x), some (vI v)] [] h n Q := by
  obtain ⟨⟨e, tp, ⟨a1, a2⟩, ⟨t1, t2, t3⟩, em⟩, ⟨c1, c2, c3⟩, sk⟩ := s
  dsimp only at a2 c1 c2 c3 sk
  have em : EmR (M 3) b c := em
  refine BX13_emit_0 e.o rfl rfl (by omega) rfl (by omega) (by omega) e.a3 (by omega) (by simp only [Ls_len]; omega) (by decide) ?_
  refine IsM.p3 e (by omega) fun h1 M1 e1 u3 uk => ?_
  have u0 := uk 0 (by decide)
  refine BX13_emit_20 e1.o rfl rfl (by rw [u0]; omega) rfl (by rw [u0]; omega) (by rw [u0]; omega) (by rw [u0]; omega) e1.a3 (by rw [u0]; omega) (by simp only [Ls_len]; rw [u0]; omega) (by decide) ?_
  refine IsM.p3 e1 (by rw [u0]; omega) fun h2 M2 e2 v3 vk => ?_
  have v0 : M2 0 = M 0 := (vk 0 (by decide)).trans u0
  refine BX13_emit_42 e2.o rfl (by rw [v0]; omega) (by show 13 < (mf (M2 0)).length; unfold mf; simp) ?_
  refine IsM.p0 e2 (mfs_13 _ _) fun h3 M3 e3 z0 zk => ?_
  refine BX13_emit_52 ?_
  rw [v0] at z0
  rw [u0] at v3
  have z3 : M3 3 = fset (fset (M 3) (M 0 12 + 97 + 2 * M 0 13) x) (M 0 12 + 97 + 2 * M 0 13 + 1) v := by rw [zk 3 (by decide), v3, u3]
  have zo : ∀ k, k ≠ 0 → k ≠ 3 → M3 k = M k := fun k k0 k3 => by rw [zk k k0, vk k k3, uk k k3]
  have zf : ∀ j, j ≠ 13 → M3 0 j = M 0 j := fun j hj => by rw [z0, fset_ne hj]
  refine k h3 M3 ⟨⟨e3, ⟨by rw [zf 4 (by decide)]; exact tp.1, by rw [zo 4 (by decide) (by decide)]; exact tp.2⟩, ⟨by rw [zf 12 (by decide)]; exact a1, ?_⟩, ⟨by rw [zf 8 (by decide)]; exact t1, by rw [zf 7 (by decide)]; exact t2, by rw [zf 9 (by decide), zf 10 (by decide), zf 11 (by decide)]; exact t3⟩, ?_⟩, ⟨by rw [zf 16 (by decide)]; exact c1, by rw [zf 17 (by decide)]; exact c2, by rw [zf 18 (by decide)]; exact c3⟩, by rw [zo 5 (by decide) (by decide)]; exact sk⟩ ⟨⟨zo 1 (by decide) (by decide), zo 2 (by decide) (by decide), zo 4 (by decide) (by decide), zo 9 (by decide) (by decide)⟩, fun j hj => zf j (by omega), fun j hj => ?_⟩ (zo 5 (by decide) (by decide))
  · rw [z0, fset_at]
    show _ = ((c ++ [(x, v)]).length : Int)
    rw [List.length_append, List.length_singleton]
    omega
  · show EmR (M3 3) b (c ++ [(x, v)])
    rw [z3, a1, a2]
    refine em.app (fun j hj => ?_) ?_ ?_
    · rw [fset_ne (by omega), fset_ne (by omega)]
    · rw [fset_ne (by omega), fset_at]
    · rw [fset_at]
  · rw [z3, a1, a2, fset_ne (by omega), fset_ne (by omega)]
theorem Sk_cons {st : Int → Int} {v : Int} {l : List Int} {t : Int} (h : Sk st (v :: l) t) : st (t - 1) = v ∧ Sk st l (t - 1) := h
theorem R_X13_settle {l : Int} (ok : okF F) (b0 : 0 ≤ b) (b1 : b ≤ 2115) : ∀ (P : List Int) (o : Int) (c : Em) (h : aH) (M : Int → Int → Int), IsZ g h M b F (p, P, o, w, c) → (P.length : Int) ≤ 160 → (P.length : Int) + c.length ≤ 303 → -1000 + (P.length : Int) ≤ o → o ≤ 1000 → (∀ h1 M1, IsZ g h1 M1 b F (p, (seZ l P o c).1, (seZ l P o c).2.1, w, (seZ l P o c).2.2) → Kb M M1 (b + 97) → Q none h1 n) → Rn (d + 1) bc bs mX13_settle 0 [some (vR (some 301)), some (vI l)] [] h n Q := by
  intro P
  induction P with
  | nil =>
    intro o c h M s hp hc o0 o1 k
    obtain ⟨⟨e, tp, ⟨a1, a2⟩, tk, em⟩, ⟨c1, c2, c3⟩, sk⟩ := id s
    have c1 : M 0 16 = 0 := c1
    refine BX13_settle_0 e.o rfl (fun _ => BX13_settle_93 (k h M s Kb.rf)) fun q => by exfalso; omega
  | cons x P ih =>
    intro o c h M s hp hc o0 o1 k
    obtain ⟨⟨e, tp, ⟨a1, a2⟩, tk, em⟩, ⟨c1, c2, c3⟩, sk⟩ := id s
    have c1 : M 0 16 = ((x :: P).length : Int) := c1
    have c2 : M 0 17 = o := c2
    have sk : Sk (M 5) (x :: P) ((x :: P).length : Int) := sk
    rw [List.length_cons] at c1 hp hc o0 sk
    have sk2 := Sk_cons sk
    rw [show (((P.length + 1 : Nat) : Int)) - 1 = (P.length : Int) by omega] at sk2
    have tx : M 5 (M 0 16 - 1) = x := by rw [c1, show (((P.length + 1 : Nat) : Int)) - 1 = (P.length : Int) by omega]; exact sk2.1
    refine BX13_settle_0 e.o rfl (fun q => by exfalso; omega) fun q => ?_
    refine BX13_settle_7 e.o rfl rfl (by omega) e.a5 (by omega) (Ls_get (by omega) (by omega)) ?_
    rw [tx]
    refine R_X13_rank ?_
    refine BX13_settle_21 (fun q => ?_) fun q => ?_
    · refine BX13_settle_93 ?_
      have e : seZ l (x :: P) o c = (x :: P, o, c) := if_neg (by omega)
      rw [e] at k
      exact k h M s Kb.rf
    · have es : seZ l (x :: P) o c = seZ l P (if rk x = 7 ∨ x = 20 then o - 1 else o) (c ++ [(x, 0)]) := if_pos q
      rw [es] at k
      refine BX13_settle_25 e.o rfl (by omega) (by show 16 < (mf (M 0)).length; unfold mf; simp) ?_
      refine IsM.p0 e (mfs_16 _ _) fun h1 M1 e1 u0 uk => ?_
      have uf : ∀ j, j ≠ 16 → M1 0 j = M 0 j := fun j hj => by rw [u0, fset_ne hj]
      have u16 : M1 0 16 = P.length := by rw [u0, fset_at]; omega
      have s1 : IsZ g h1 M1 b F (p, P, o, w, c) := ⟨⟨e1, ⟨by rw [uf 4 (by decide)]; exact tp.1, by rw [uk 4 (by decide)]; exact tp.2⟩, ⟨by rw [uf 12 (by decide)]; exact a1, by rw [uf 13 (by decide)]; exact a2⟩, ⟨by rw [uf 8 (by decide)]; exact tk.1, by rw [uf 7 (by decide)]; exact tk.2.1, by rw [uf 9 (by decide), uf 10 (by decide), uf 11 (by decide)]; exact tk.2.2⟩, by rw [uk 3 (by decide)]; exact em⟩, ⟨u16, by rw [uf 17 (by decide)]; exact c2, by rw [uf 18 (by decide)]; exact c3⟩, by rw [uk 5 (by decide)]; exact sk2.2⟩
      have tx1 : M1 5 (M1 0 16) = x := by rw [uk 5 (by decide), u16]; exact sk2.1
      refine BX13_settle_35 e1.o rfl rfl e1.a5 (by omega) (Ls_get (by omega) (by omega)) ?_
      rw [tx1]
      refine R_X13_emit s1 b0 b1 (by omega) fun h2 M2 s2 k2 m25 => ?_
      obtain ⟨⟨e2, tp2, ⟨a3, a4⟩, tk2, em2⟩, ⟨c4, c5, c6⟩, sk3⟩ := id s2
      have c4 : M2 0 16 = P.length := c4
      have c5 : M2 0 17 = o := c5
      have x5 : M2 5 (M2 0 16) = x := by rw [m25, c4, ← u16]; exact tx1
      have kb : Kb M M2 (b + 97) := Kb.tr ⟨⟨uk 1 (by decide), uk 2 (by decide), uk 4 (by decide), uk 9 (by decide)⟩, fun j hj => uf j (by omega), fun j _ => by rw [uk 3 (by decide)]⟩ k2
      have el : ((c ++ [(x, (0 : Int))]).length : Int) = c.length + 1 := by rw [List.length_append, List.length_singleton]; omega
      have pop : (rk x = 7 ∨ x = 20) → Rn (d + 1) bc bs mX13_settle 80 [some (vR (some 301)), some (vI l)] [] h2 n Q := by
        intro hx
        rw [if_pos hx] at k
        refine BX13_settle_80 e2.o rfl (by omega) (by show 17 < (mf (M2 0)).length; unfold mf; simp) ?_
        refine IsM.p0 e2 (mfs_17 _ _) fun h3 M3 e3 w0 wk => ?_
        have wf : ∀ j, j ≠ 17 → M3 0 j = M2 0 j := fun j hj => by rw [w0, fset_ne hj]
        refine BX13_settle_90 ?_
        refine ih (o - 1) (c ++ [(x, 0)]) h3 M3 ⟨⟨e3, ⟨by rw [wf 4 (by decide)]; exact tp2.1, by rw [wk 4 (by decide)]; exact tp2.2⟩, ⟨by rw [wf 12 (by decide)]; exact a3, by rw [wf 13 (by decide)]; exact a4⟩, ⟨by rw [wf 8 (by decide)]; exact tk2.1, by rw [wf 7 (by decide)]; exact tk2.2.1, by rw [wf 9 (by decide), wf 10 (by decide), wf 11 (by decide)]; exact tk2.2.2⟩, by rw [wk 3 (by decide)]; exact em2⟩, ⟨by rw [wf 16 (by decide)]; exact c4, by rw [w0, fset_at, c5], by rw [wf 18 (by decide)]; exact c6⟩, by rw [wk 5 (by decide)]; exact sk3⟩ (by omega) (by omega) (by omega) (by omega) fun h4 M4 s4 k4 => k h4 M4 s4 ((kb.tr ⟨⟨wk 1 (by decide), wk 2 (by decide), wk 4 (by decide), wk 9 (by decide)⟩, fun j hj => wf j (by omega), fun j _ => by rw [wk 3 (by decide)]⟩).tr k4)
      refine BX13_settle_49 e2.o rfl rfl e2.a5 (by omega) (Ls_get (by omega) (by omega)) ?_
      rw [x5]
      refine R_X13_rank ?_
      refine BX13_settle_61 (fun q7 => pop (.inl q7)) fun q7 => ?_
      refine BX13_settle_66 e2.o rfl rfl e2.a5 (by omega) (Ls_get (by omega) (by omega)) (fun q20 => ?_) fun q20 => pop (.inr (by rw [← x5]; exact q20))
      rw [x5] at q20
      rw [if_neg (by omega)] at k
      exact ih o (c ++ [(x, 0)]) h2 M2 s2 (by omega) (by omega) (by omega) (by omega) fun h4 M4 s4 k4 => k h4 M4 s4 (kb.tr k4)
def opA : List Int → Int
  | [] => -1
  | x :: P => if 40 ≤ x then (P.length : Int) else opA P
theorem opA_in : ∀ P : List Int, -1 ≤ opA P ∧ opA P < P.length := by
  intro P
  induction P with
  | nil => exact ⟨by show (-1 : Int) ≤ -1; decide, by show (-1 : Int) < ((0 : Nat) : Int); decide⟩
  | cons x P ih =>
    unfold opA
    rw [List.length_cons]
    split <;> omega
theorem opA_at {st : Int → Int} : ∀ (P : List Int), Sk st P P.length → (0 ≤ opA P → st (opA P) = opN P) ∧ (opA P < 0 → opN P = -1) := by
  intro P
  induction P with
  | nil => intro _; exact ⟨fun q => by have : opA [] = -1 := rfl; omega, fun _ => rfl⟩
  | cons x P ih =>
    intro h
    rw [List.length_cons] at h
    have h := Sk_cons h
    rw [show (((P.length + 1 : Nat) : Int)) - 1 = (P.length : Int) by omega] at h
    unfold opA opN
    by_cases q : 40 ≤ x
    · rw [if_pos q, if_pos q]
      exact ⟨fun _ => h.1, fun w => by omega⟩
    · rw [if_neg q, if_neg q]
      exact ih h.2
theorem Sk_lo {st : Int → Int} {x : Int} {P : List Int} (h : Sk st (x :: P) ((x :: P).length : Int)) : st (P.length : Int) = x ∧ Sk st P P.length := by
  rw [List.length_cons] at h
  have h := Sk_cons h
  rw [show (((P.length + 1 : Nat) : Int)) - 1 = (P.length : Int) by omega] at h
  exact h
theorem R_X13_openAt {l1 : Option aV} (s : IsZ g h M b F (p, P, o, w, c)) (hp : (P.length : Int) ≤ 160) (k : Q (some (vI (opA P))) h n) : Rn d bc bs mX13_openAt 0 [some (vR (some 301)), l1] [] h n Q := by
  obtain ⟨⟨e, tp, a, tk, em⟩, ⟨c1, c2, c3⟩, sk⟩ := id s
  have c1 : M 0 16 = P.length := c1
  have L : ∀ P : List Int, Sk (M 5) P P.length → (P.length : Int) ≤ 160 → Q (some (vI (opA P))) h n → Rn d bc bs mX13_openAt 7 [some (vR (some 301)), some (vI ((P.length : Int) - 1))] [] h n Q := by
    intro P
    induction P with
    | nil =>
      intro _ _ k
      exact BX13_openAt_7 (fun _ => BX13_openAt_28 k) fun q => by exfalso; have : ((([] : List Int).length : Nat) : Int) = 0 := rfl; omega
    | cons x P ih =>
      intro sk hp k
      have sl := Sk_lo sk
      rw [List.length_cons] at hp ⊢
      rw [show (((P.length + 1 : Nat) : Int)) - 1 = (P.length : Int) by omega]
      refine BX13_openAt_7 (fun q => by exfalso; omega) fun q => ?_
      refine BX13_openAt_11 e.o rfl e.a5 (by omega) (Ls_get (by omega) (by omega)) (fun q => ?_) fun q => ?_
      · rw [sl.1] at q
        refine BX13_openAt_28 ?_
        have : opA (x :: P) = P.length := if_pos q
        rw [this] at k
        exact k
      · rw [sl.1] at q
        refine BX13_openAt_22 (by omega) ?_
        have : opA (x :: P) = opA P := if_neg (by omega)
        rw [this] at k
        exact ih sl.2 (by omega) k
  refine BX13_openAt_0 e.o rfl (by omega) ?_
  rw [c1]
  exact L P sk hp k
theorem R_X13_openNow (s : IsZ g h M b F (p, P, o, w, c)) (hp : (P.length : Int) ≤ 160) (k : Q (some (vI (opN P))) h n) : Rn (d + 1) bc bs mX13_openNow 0 [some (vR (some 301))] [] h n Q := by
  obtain ⟨⟨e, tp, a, tk, em⟩, ⟨c1, c2, c3⟩, sk⟩ := id s
  have oa := opA_at P sk
  have oi := opA_in P
  refine BX13_openNow_0 e.o ?_
  refine R_X13_openAt s hp ?_
  refine BX13_openNow_4 (fun q => ?_) fun q => ?_
  · refine BX13_openNow_11 e.o rfl ?_
    refine R_X13_openAt s hp ?_
    refine BX13_openNow_19 e.a5 (by omega) (Ls_get (by omega) (by omega)) ?_
    rw [oa.1 q]
    exact k
  · refine BX13_openNow_7 ?_
    rw [oa.2 q] at k
    exact k
theorem R_X13_isCompared {l1 : Option aV} (s : IsZ g h M b F (p, P, o, w, c)) (hp : (P.length : Int) ≤ 160) (kt : isC P = true → Q (some (vI 1)) h n) (kf : isC P = false → Q (some (vI 0)) h n) : Rn (d + 1) bc bs mX13_isCompared 0 [some (vR (some 301)), l1] [] h n Q := by
  obtain ⟨⟨e, tp, a, tk, em⟩, ⟨c1, c2, c3⟩, sk⟩ := id s
  have c1 : M 0 16 = P.length := c1
  have L : ∀ P : List Int, Sk (M 5) P P.length → (P.length : Int) ≤ 160 → (isC P = true → Q (some (vI 1)) h n) → (isC P = false → Q (some (vI 0)) h n) → Rn (d + 1) bc bs mX13_isCompared 7 [some (vR (some 301)), some (vI ((P.length : Int) - 1))] [] h n Q := by
    intro P
    induction P with
    | nil =>
      intro _ _ kt kf
      exact BX13_isCompared_7 (fun _ => BX13_isCompared_30 (fun _ => BX13_isCompared_51 (kf rfl)) fun q => by exfalso; have : ((([] : List Int).length : Nat) : Int) = 0 := rfl; omega) fun q => by exfalso; have : ((([] : List Int).length : Nat) : Int) = 0 := rfl; omega
    | cons x P ih =>
      intro sk hp kt kf
      have sl := Sk_lo sk
      rw [List.length_cons] at hp ⊢
      rw [show (((P.length + 1 : Nat) : Int)) - 1 = (P.length : Int) by omega]
      have ei : isC (x :: P) = if 4 < rk x then isC P else decide (rk x = 4) := rfl
      refine BX13_isCompared_7 (fun q => by exfalso; omega) fun q => ?_
      refine BX13_isCompared_11 e.o rfl e.a5 (by omega) (Ls_get (by omega) (by omega)) ?_
      rw [sl.1]
      refine R_X13_rank ?_
      refine BX13_isCompared_20 (fun q => ?_) fun q => ?_
      · refine BX13_isCompared_30 (fun q => by exfalso; omega) fun _ => ?_
        refine BX13_isCompared_34 e.o rfl e.a5 (by omega) (Ls_get (by omega) (by omega)) ?_
        rw [sl.1]
        refine R_X13_rank ?_
        rw [if_neg (by omega)] at ei
        refine BX13_isCompared_43 (fun q => ?_) fun q => ?_
        · exact BX13_isCompared_51 (kf (by rw [ei]; exact decide_eq_false q))
        · exact BX13_isCompared_47 (kt (by rw [ei]; exact decide_eq_true q))
      · refine BX13_isCompared_24 (by omega) ?_
        rw [if_pos q] at ei
        rw [ei] at kt kf
        exact ih sl.2 (by omega) kt kf
  refine BX13_isCompared_0 e.o rfl (by omega) ?_
  rw [c1]
  exact L P sk hp kt kf
theorem R_X13_isAskAhead (s : IsZ g h M b F (p, P, o, w, c)) (hp : (P.length : Int) ≤ 160) (kt : askB P = true → Q (some (vI 1)) h n) (kf : askB P = false → Q (some (vI 0)) h n) : Rn (d + 2) bc bs mX13_isAskAhead 0 [some (vR (some 301))] [] h n Q := by
  obtain ⟨⟨e, tp, a, tk, em⟩, ⟨c1, c2, c3⟩, sk⟩ := id s
  have c1 : M 0 16 = P.length := c1
  refine BX13_isAskAhead_0 e.o ?_
  refine R_X13_openNow s hp ?_
  refine BX13_isAskAhead_4 (fun q => ?_) fun q => ?_
  · exact BX13_isAskAhead_51 (kf (decide_eq_false fun w => q w.1))
  · rcases P with _ | ⟨x, P⟩
    · exfalso
      have : opN [] = -1 := rfl
      omega
    · have sl := Sk_lo sk
      rw [List.length_cons] at c1 hp
      have tx : M 5 (M 0 16 - 1) = x := by rw [c1, show (((P.length + 1 : Nat) : Int)) - 1 = (P.length : Int) by omega]; exact sl.1
      have ea : askB (x :: P) = decide (opN (x :: P) = 42 ∧ (40 ≤ x ∨ (1 ≤ rk x ∧ rk x ≤ 3))) := rfl
      rw [ea] at kt kf
      refine BX13_isAskAhead_9 e.o rfl rfl (by omega) e.a5 (by omega) (Ls_get (by omega) (by omega)) (fun q2 => ?_) fun q2 => ?_
      · rw [tx] at q2
        exact BX13_isAskAhead_47 (kt (decide_eq_true ⟨q, .inl q2⟩))
      · rw [tx] at q2
        refine BX13_isAskAhead_25 e.o rfl rfl (by omega) e.a5 (by omega) (Ls_get (by omega) (by omega)) ?_
        rw [tx]
        refine R_X13_rank ?_
        refine BX13_isAskAhead_39 ?_
        refine R_X13_isIn ?_ ?_
        · intro q3 q4
          exact BX13_isAskAhead_44 (fun w => absurd w (by decide)) fun _ => BX13_isAskAhead_47 (kt (decide_eq_true ⟨q, .inr ⟨q3, q4⟩⟩))
        · intro q3
          exact BX13_isAskAhead_44 (fun _ => BX13_isAskAhead_51 (kf (decide_eq_false fun w => by rcases w.2 with w | w <;> omega))) fun w => absurd rfl w
end PILE
