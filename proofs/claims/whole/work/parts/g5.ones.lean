/-! The reference's reading of a law, its methods one by one. -/
section ONE
variable {d bc bs n pc : Nat} {g h h1 : aH} {Q : aQ} {M M1 : Int → Int → Int} {F : Int → Int} {b p o w x o2 w2 iw : Int} {P P2 : List Int} {c : Em}
theorem IsZ.f (s : IsZ g h M b F (p, P, o, w, c)) (e1 : IsM g h1 M1) (uk : ∀ k, k ≠ 0 → M1 k = M k) (uf : ∀ j, j ≠ 16 → j ≠ 17 → j ≠ 18 → M1 0 j = M 0 j) (n16 : M1 0 16 = P2.length) (n17 : M1 0 17 = o2) (n18 : M1 0 18 = w2) (sk : Sk (M 5) P2 P2.length) : IsZ g h1 M1 b F (p, P2, o2, w2, c) := by
  obtain ⟨⟨e, tp, ⟨a1, a2⟩, tk, em⟩, _⟩ := s
  exact ⟨⟨e1, ⟨by rw [uf 4 (by decide) (by decide) (by decide)]; exact tp.1, by rw [uk 4 (by decide)]; exact tp.2⟩, ⟨by rw [uf 12 (by decide) (by decide) (by decide)]; exact a1, by rw [uf 13 (by decide) (by decide) (by decide)]; exact a2⟩, ⟨by rw [uf 8 (by decide) (by decide) (by decide)]; exact tk.1, by rw [uf 7 (by decide) (by decide) (by decide)]; exact tk.2.1, by rw [uf 9 (by decide) (by decide) (by decide), uf 10 (by decide) (by decide) (by decide), uf 11 (by decide) (by decide) (by decide)]; exact tk.2.2⟩, by rw [uk 3 (by decide)]; exact em⟩, ⟨n16, n17, n18⟩, by rw [uk 5 (by decide)]; exact sk⟩
theorem Kb.f {B : Int} (uk : ∀ k, k ≠ 0 → M1 k = M k) (uf : ∀ j, j ≠ 16 → j ≠ 17 → j ≠ 18 → M1 0 j = M 0 j) : Kb M M1 B := ⟨⟨uk 1 (by decide), uk 2 (by decide), uk 4 (by decide), uk 9 (by decide)⟩, fun j hj => uf j (by omega) (by omega) (by omega), fun j _ => by rw [uk 3 (by decide)]⟩
theorem IsZ.q (s : IsZ g h M b F (p, P, o, w, c)) (e1 : IsM g h1 M1) (uk : ∀ k, k ≠ 5 → M1 k = M k) (hl : P2.length = P.length) (sk : Sk (M1 5) P2 P2.length) : IsZ g h1 M1 b F (p, P2, o, w, c) := by
  obtain ⟨⟨e, tp, ⟨a1, a2⟩, tk, em⟩, ⟨c1, c2, c3⟩, _⟩ := s
  have u0 := uk 0 (by decide)
  exact ⟨⟨e1, ⟨by rw [u0]; exact tp.1, by rw [uk 4 (by decide)]; exact tp.2⟩, by rw [u0]; exact ⟨a1, a2⟩, by rw [u0]; exact tk, by rw [uk 3 (by decide)]; exact em⟩, by rw [u0]; exact ⟨by show M 0 16 = (P2.length : Int); rw [hl]; exact c1, c2, c3⟩, sk⟩
theorem Kb.q {B : Int} (uk : ∀ k, k ≠ 5 → M1 k = M k) : Kb M M1 B := ⟨⟨uk 1 (by decide), uk 2 (by decide), uk 4 (by decide), uk 9 (by decide)⟩, fun j _ => by rw [uk 0 (by decide)], fun j _ => by rw [uk 3 (by decide)]⟩
theorem Sk_fs {st : Int → Int} {l : List Int} {i v : Int} (h : Sk st l l.length) (hi : (l.length : Int) ≤ i) : Sk (fset st i v) l l.length := Sk_ext h fun j hj => fset_ne (by omega)
theorem Sk_push {st : Int → Int} {l : List Int} {v : Int} (h : Sk st l l.length) : Sk (fset st l.length v) (v :: l) ((v :: l).length : Int) := by
  rw [List.length_cons]
  refine ⟨?_, ?_⟩
  · rw [show (((l.length + 1 : Nat) : Int)) - 1 = (l.length : Int) by omega]; exact fset_at _ _ _
  · rw [show (((l.length + 1 : Nat) : Int)) - 1 = (l.length : Int) by omega]; exact Sk_fs h (Int.le_refl _)
theorem tkN_in (ok : okF F) (p0 : 0 ≤ p) (p1 : p ≤ F 2) : 0 ≤ tkN F p ∧ tkN F p ≤ F 2 := by
  have si := tkS_in (F := F) p1
  have ti := tkT_in (F := F) (q := tkS F p) ok (by omega) si.2
  have n0 : tkN F p = (tkT F (tkS F p)).2.2 := rfl
  omega
theorem seZ_in {l : Int} : ∀ (P : List Int) (o : Int) (c : Em), (seZ l P o c).1.length + (seZ l P o c).2.2.length = P.length + c.length ∧ (seZ l P o c).1.length ≤ P.length ∧ o - ((P.length : Int) - (seZ l P o c).1.length) ≤ (seZ l P o c).2.1 ∧ (seZ l P o c).2.1 ≤ o := by
  intro P
  induction P with
  | nil => intro o c; show [].length + c.length = [].length + c.length ∧ _; exact ⟨rfl, Nat.le_refl _, by show o - (((0 : Nat) : Int) - ((0 : Nat) : Int)) ≤ o; omega, Int.le_refl _⟩
  | cons x P ih =>
    intro o c
    by_cases q : l ≤ rk x
    · have es : seZ l (x :: P) o c = seZ l P (if rk x = 7 ∨ x = 20 then o - 1 else o) (c ++ [(x, 0)]) := if_pos q
      rw [es]
      have i := ih (if rk x = 7 ∨ x = 20 then o - 1 else o) (c ++ [(x, 0)])
      have ob : o - 1 ≤ (if rk x = 7 ∨ x = 20 then o - 1 else o) ∧ (if rk x = 7 ∨ x = 20 then o - 1 else o) ≤ o := by split <;> omega
      generalize (if rk x = 7 ∨ x = 20 then o - 1 else o) = u at *
      generalize seZ l P u (c ++ [(x, 0)]) = r at *
      rw [List.length_append, List.length_singleton] at i
      rw [List.length_cons]
      omega
    · have e : seZ l (x :: P) o c = (x :: P, o, c) := if_neg q
      rw [e]
      exact ⟨rfl, Nat.le_refl _, by dsimp only; omega, Int.le_refl _⟩
theorem opN_se : ∀ (P : List Int) (o : Int) (c : Em), opN (seZ 1 P o c).1 = opN P ∧ ((seZ 1 P o c).1 = [] ∨ 40 ≤ tpZ (seZ 1 P o c).1) := by
  intro P
  induction P with
  | nil => intro o c; exact ⟨rfl, .inl rfl⟩
  | cons x P ih =>
    intro o c
    by_cases q : 1 ≤ rk x
    · have es : seZ 1 (x :: P) o c = seZ 1 P (if rk x = 7 ∨ x = 20 then o - 1 else o) (c ++ [(x, 0)]) := if_pos q
      have x40 : ¬ 40 ≤ x := fun w => by unfold rk at q; rw [if_pos w] at q; omega
      have eo : opN (x :: P) = opN P := if_neg x40
      rw [es, eo]
      exact ih _ _
    · have e : seZ 1 (x :: P) o c = (x :: P, o, c) := if_neg q
      rw [e]
      refine ⟨rfl, .inr ?_⟩
      show 40 ≤ x
      refine Int.not_lt.mp fun w => q ?_
      unfold rk
      rw [if_neg (by omega)]
      (repeat' split) <;> omega
theorem R_X13_w2 {x y : Int} (k : Q (some (vL (wC2 x y))) h n) : Rn (d + 0) bc bs mX13_w2 0 [some (vI x), some (vI y)] [] h n Q := by
  refine BX13_w2_0  ?_
  exact k
theorem R_X13_w3 {x y z : Int} (k : Q (some (vL (wC3 x y z))) h n) : Rn (d + 1) bc bs mX13_w3 0 [some (vI x), some (vI y), some (vI z)] [] h n Q := by
  refine BX13_w3_0  ?_
  refine R_X13_w2  ?_
  refine BX13_w3_5  ?_
  exact k
theorem R_X13_w4 {x y z u : Int} (k : Q (some (vL (wC4 x y z u))) h n) : Rn (d + 2) bc bs mX13_w4 0 [some (vI x), some (vI y), some (vI z), some (vI u)] [] h n Q := by
  refine BX13_w4_0  ?_
  refine R_X13_w3  ?_
  refine BX13_w4_6  ?_
  exact k
theorem R_X13_w5 {x y z u v : Int} (k : Q (some (vL (wC5 x y z u v))) h n) : Rn (d + 3) bc bs mX13_w5 0 [some (vI x), some (vI y), some (vI z), some (vI u), some (vI v)] [] h n Q := by
  refine BX13_w5_0  ?_
  refine R_X13_w4  ?_
  refine BX13_w5_7  ?_
  exact k
theorem R_X13_w6 {x y z u v t : Int} (k : Q (some (vL (wC6 x y z u v t))) h n) : Rn (d + 4) bc bs mX13_w6 0 [some (vI x), some (vI y), some (vI z), some (vI u), some (vI v), some (vI t)] [] h n Q := by
  refine BX13_w6_0  ?_
  refine R_X13_w5  ?_
  refine BX13_w6_9  ?_
  exact k
theorem R_X13_isWord {v k : Int} (e : IsM g h M) (t : TkR F p (M 0 9) (M 0 10) (M 0 11)) (hv : wkP v k) (kt : tkK F p = k → Q (some (vI 1)) h n) (kf : tkK F p ≠ k → Q (some (vI 0)) h n) : Rn d bc bs mX13_isWord 0 [some (vR (some 301)), some (vL v), none] [] h n Q := by
  have q := t.2.1 v k hv
  refine BX13_isWord_0 e.o rfl (fun h2 => ?_) fun h2 => ?_
  · exact BX13_isWord_21 (kf fun w => h2 (q.mpr w).1)
  · refine BX13_isWord_8 e.o rfl (fun h3 => ?_) fun h3 => ?_
    · exact BX13_isWord_21 (kf fun w => h3 (q.mpr w).2)
    · exact BX13_isWord_17 (kt (q.mp ⟨h2, h3⟩))
def nmZ (k : Int) : Int := if 23 ≤ k ∧ k ≤ 30 then k - 23 else -1
theorem R_X13_nameOf (e : IsM g h M) (t : TkR F p (M 0 9) (M 0 10) (M 0 11)) (k : Q (some (vI (nmZ (tkK F p)))) h n) : Rn (d + 4) bc bs mX13_nameOf 0 [some (vR (some 301))] [] h n Q := by
  have q23 := t.2.1 _ _ wd_tide
  have q24 := t.2.1 _ _ wd_since
  have q25 := t.2.1 _ _ wd_cork
  have q26 := t.2.1 _ _ wd_luck
  have q27 := t.2.1 _ _ wd_at
  have q28 := t.2.1 _ _ wd_from
  have q29 := t.2.1 _ _ wd_to
  have q30 := t.2.1 _ _ wd_near
  refine BX13_nameOf_0 e.o rfl (fun h2 => ?_) fun h2 => ?_
  rotate_left
  · refine BX13_nameOf_8 ?_
    have kn : ¬ (23 ≤ tkK F p ∧ tkK F p ≤ 30) := by
      rintro ⟨k0, k1⟩
      rcases (show tkK F p = 23 ∨ tkK F p = 24 ∨ tkK F p = 25 ∨ tkK F p = 26 ∨ tkK F p = 27 ∨ tkK F p = 28 ∨ tkK F p = 29 ∨ tkK F p = 30 by omega) with w | w | w | w | w | w | w | w
      · exact h2 (q23.mpr w).1
      · exact h2 (q24.mpr w).1
      · exact h2 (q25.mpr w).1
      · exact h2 (q26.mpr w).1
      · exact h2 (q27.mpr w).1
      · exact h2 (q28.mpr w).1
      · exact h2 (q29.mpr w).1
      · exact h2 (q30.mpr w).1
    rw [nmZ, if_neg kn] at k
    exact k
  refine BX13_nameOf_10 e.o rfl ?_
  refine R_X13_w4 ?_
  refine BX13_nameOf_25 (fun n23 => ?_) fun n23 => ?_
  rotate_left
  · have w := q23.mp ⟨h2, n23⟩
    refine BX13_nameOf_29 ?_
    rw [nmZ, if_pos (by omega), show tkK F p - 23 = 0 by omega] at k
    exact k
  refine BX13_nameOf_31 e.o rfl ?_
  refine R_X13_w5 ?_
  refine BX13_nameOf_48 (fun n24 => ?_) fun n24 => ?_
  rotate_left
  · have w := q24.mp ⟨h2, n24⟩
    refine BX13_nameOf_52 ?_
    rw [nmZ, if_pos (by omega), show tkK F p - 23 = 1 by omega] at k
    exact k
  refine BX13_nameOf_54 e.o rfl ?_
  refine R_X13_w4 ?_
  refine BX13_nameOf_69 (fun n25 => ?_) fun n25 => ?_
  rotate_left
  · have w := q25.mp ⟨h2, n25⟩
    refine BX13_nameOf_73 ?_
    rw [nmZ, if_pos (by omega), show tkK F p - 23 = 2 by omega] at k
    exact k
  refine BX13_nameOf_75 e.o rfl ?_
  refine R_X13_w4 ?_
  refine BX13_nameOf_90 (fun n26 => ?_) fun n26 => ?_
  rotate_left
  · have w := q26.mp ⟨h2, n26⟩
    refine BX13_nameOf_94 ?_
    rw [nmZ, if_pos (by omega), show tkK F p - 23 = 3 by omega] at k
    exact k
  refine BX13_nameOf_96 e.o rfl ?_
  refine R_X13_w2 ?_
  refine BX13_nameOf_107 (fun n27 => ?_) fun n27 => ?_
  rotate_left
  · have w := q27.mp ⟨h2, n27⟩
    refine BX13_nameOf_111 ?_
    rw [nmZ, if_pos (by omega), show tkK F p - 23 = 4 by omega] at k
    exact k
  refine BX13_nameOf_113 e.o rfl ?_
  refine R_X13_w4 ?_
  refine BX13_nameOf_128 (fun n28 => ?_) fun n28 => ?_
  rotate_left
  · have w := q28.mp ⟨h2, n28⟩
    refine BX13_nameOf_132 ?_
    rw [nmZ, if_pos (by omega), show tkK F p - 23 = 5 by omega] at k
    exact k
  refine BX13_nameOf_134 e.o rfl ?_
  refine R_X13_w2 ?_
  refine BX13_nameOf_145 (fun n29 => ?_) fun n29 => ?_
  rotate_left
  · have w := q29.mp ⟨h2, n29⟩
    refine BX13_nameOf_149 ?_
    rw [nmZ, if_pos (by omega), show tkK F p - 23 = 6 by omega] at k
    exact k
  refine BX13_nameOf_154 e.o rfl ?_
  refine R_X13_w4 ?_
  refine BX13_nameOf_169 (fun n30 => ?_) fun n30 => ?_
  rotate_left
  · have w := q30.mp ⟨h2, n30⟩
    refine BX13_nameOf_173 ?_
    rw [nmZ, if_pos (by omega), show tkK F p - 23 = 7 by omega] at k
    exact k
  refine BX13_nameOf_178 ?_
  have kn : ¬ (23 ≤ tkK F p ∧ tkK F p ≤ 30) := by
    rintro ⟨k0, k1⟩
    rcases (show tkK F p = 23 ∨ tkK F p = 24 ∨ tkK F p = 25 ∨ tkK F p = 26 ∨ tkK F p = 27 ∨ tkK F p = 28 ∨ tkK F p = 29 ∨ tkK F p = 30 by omega) with w | w | w | w | w | w | w | w
    · exact n23 (q23.mpr w).2
    · exact n24 (q24.mpr w).2
    · exact n25 (q25.mpr w).2
    · exact n26 (q26.mpr w).2
    · exact n27 (q27.mpr w).2
    · exact n28 (q28.mpr w).2
    · exact n29 (q29.mpr w).2
    · exact n30 (q30.mpr w).2
  rw [nmZ, if_neg kn] at k
  exact k
theorem R_X13_opened (s : IsZ g h M b F (p, P, o, 0, c)) (ok : okF F) (p0 : 0 ≤ p) (p1 : p ≤ F 2) (hp : (P.length : Int) ≤ 159) (o0 : 0 ≤ o) (o1 : o ≤ 8) (k : ∀ h1 M1, IsZ g h1 M1 b F (opZ F x p P o c).2 → Kb M M1 (b + 97) → Q (some (vI (opZ F x p P o c).1)) h1 n) : Rn (d + 2) bc bs mX13_opened 0 [some (vR (some 301)), some (vI x)] [] h n Q := by
  obtain ⟨y, ⟨c1, c2, c3⟩, sk⟩ := id s
  have e := y.1
  dsimp only at c1 c2 c3 sk
  refine BX13_opened_0 e.o rfl (fun o8 => ?_) fun o8 => ?_
  · have ez : opZ F x p P o c = (0, (tkN F p, x :: P, o + 1, 0, c)) := if_neg (by omega)
    rw [ez] at k
    refine BX13_opened_11 e.o rfl (by omega) (by show 17 < (mf (M 0)).length; unfold mf; simp) ?_
    refine IsM.p0 e (mfs_17 _ _) fun h1 M1 e1 u0 uk => ?_
    have uf : ∀ j, j ≠ 17 → M1 0 j = M 0 j := fun j hj => by rw [u0, fset_ne hj]
    have s1 := s.f (P2 := P) (o2 := o + 1) (w2 := 0) e1 uk (fun j _ h17 _ => uf j h17) (by rw [uf 16 (by decide)]; exact c1) (by rw [u0, fset_at, c2]) (by rw [uf 18 (by decide)]; exact c3) sk
    have k1 : Kb M M1 (b + 97) := Kb.f uk fun j _ h17 _ => uf j h17
    have d1 : M1 0 16 = P.length := s1.2.1.1
    refine BX13_opened_21 e1.o rfl rfl e1.a5 (by omega) (by simp only [Ls_len]; omega) (by decide) ?_
    refine IsM.p5 e1 (by omega) fun h2 M2 e2 v5 vk => ?_
    have sk2 : Sk (M2 5) (x :: P) ((x :: P).length : Int) := by rw [v5, d1]; exact Sk_push s1.2.2
    have s2 := s1.q (P2 := P) e2 vk rfl (by rw [v5, d1]; exact Sk_fs s1.2.2 (Int.le_refl _))
    have d2 : M2 0 16 = P.length := s2.2.1.1
    refine BX13_opened_31 e2.o rfl (by omega) (by show 16 < (mf (M2 0)).length; unfold mf; simp) ?_
    refine IsM.p0 e2 (mfs_16 _ _) fun h3 M3 e3 z0 zk => ?_
    have zf : ∀ j, j ≠ 16 → M3 0 j = M2 0 j := fun j hj => by rw [z0, fset_ne hj]
    have s3 := s2.f (P2 := x :: P) (o2 := o + 1) (w2 := 0) e3 zk (fun j h16 _ _ => zf j h16) (by rw [z0, fset_at, d2, List.length_cons]; omega) (by rw [zf 17 (by decide)]; exact s2.2.1.2.1) (by rw [zf 18 (by decide)]; exact s2.2.1.2.2) sk2
    have k3 : Kb M2 M3 (b + 97) := Kb.f zk fun j h16 _ _ => zf j h16
    refine BX13_opened_41 e3.o ?_
    refine R_nextZ s3 ok p0 p1 fun h4 M4 s4 k4 => ?_
    exact BX13_opened_45 (k h4 M4 s4 (((k1.tr (Kb.q vk)).tr k3).tr k4))
  · have ez : opZ F x p P o c = (3, (p, P, o, 0, c)) := if_pos (by omega)
    rw [ez] at k
    exact BX13_opened_9 (k h M s Kb.rf)
theorem R_X13_endOne (s : IsZ g h M b F (p, P, o, w, c)) (ok : okF F) (b0 : 0 ≤ b) (b1 : b ≤ 2115) (p0 : 0 ≤ p) (p1 : p ≤ F 2) (hp : (P.length : Int) ≤ 159) (hc : (P.length : Int) + c.length ≤ 302) (o0 : -500 ≤ o) (o1 : o ≤ 500) (k : ∀ h1 M1, IsZ g h1 M1 b F (endZ F p P o c).2 → Kb M M1 (b + 97) → Q (some (vI (endZ F p P o c).1)) h1 n) : Rn (d + 3) bc bs mX13_endOne 0 [some (vR (some 301))] [] h n Q := by
  refine BX13_endOne_0 s.1.1.o ?_
  refine R_X13_settle ok b0 b1 P o c h M s (by omega) (by omega) (by omega) (by omega) fun h1 M1 s1 k1 => ?_
  have si := seZ_in (l := 7) P o c
  have ez : endZ F p P o c = if tpZ (seZ 7 P o c).1 = 41 then (if tkK F p = 33 then (0, (tkN F p, 4 :: (seZ 7 P o c).1.tail, (seZ 7 P o c).2.1, 0, (seZ 7 P o c).2.2)) else (1, (p, (seZ 7 P o c).1, (seZ 7 P o c).2.1, 1, (seZ 7 P o c).2.2))) else (0, (p, (seZ 7 P o c).1, (seZ 7 P o c).2.1, 1, (seZ 7 P o c).2.2)) := rfl
  rw [ez] at k
  generalize (seZ 7 P o c).1 = R at *
  generalize (seZ 7 P o c).2.1 = o3 at *
  generalize (seZ 7 P o c).2.2 = c3 at *
  clear ez
  refine BX13_endOne_6 s1.1.1.o (by show 18 < (mf (M1 0)).length; unfold mf; simp) ?_
  refine IsM.p0 s1.1.1 (mfs_18 _ _) fun h2 M2 e2 u0 uk => ?_
  have uf : ∀ j, j ≠ 18 → M2 0 j = M1 0 j := fun j hj => by rw [u0, fset_ne hj]
  have s2 := s1.f (P2 := R) (o2 := o3) (w2 := 1) e2 uk (fun j _ _ h18 => uf j h18) (by rw [uf 16 (by decide)]; exact s1.2.1.1) (by rw [uf 17 (by decide)]; exact s1.2.1.2.1) (by rw [u0, fset_at]) s1.2.2
  have k2 : Kb M M2 (b + 97) := k1.tr (Kb.f uk fun j _ _ h18 => uf j h18)
  have d2 : M2 0 16 = R.length := s2.2.1.1
  rcases R with _ | ⟨y, R⟩
  · rw [if_neg (by show ¬ (-1 : Int) = 41; decide)] at k
    exact BX13_endOne_11 e2.o rfl (fun _ => BX13_endOne_34 (k h2 M2 s2 k2)) fun q => absurd d2 q
  · rw [List.length_cons] at d2 si
    have sl := Sk_lo s2.2.2
    have ty : M2 5 (M2 0 16 - 1) = y := by rw [d2, show (((R.length + 1 : Nat) : Int)) - 1 = (R.length : Int) by omega]; exact sl.1
    refine BX13_endOne_11 e2.o rfl (fun q => by exfalso; omega) fun _ => ?_
    refine BX13_endOne_18 e2.o rfl rfl (by omega) e2.a5 (by omega) (Ls_get (by omega) (by omega)) (fun q => ?_) fun q => ?_
    · rw [ty] at q
      rw [if_pos (show tpZ (y :: R) = 41 from q)] at k
      refine BX13_endOne_36 ?_
      refine R_X13_w4 ?_
      refine BX13_endOne_48 e2.o ?_
      refine R_X13_isWord e2 s2.1.2.2.2.1.2.2 wd_than ?_ ?_
      · intro k33
        rw [if_pos k33] at k
        refine BX13_endOne_51 (fun _ => ?_) fun w => absurd w (by decide)
        refine BX13_endOne_56 e2.o ?_
        refine R_nextZ s2 ok p0 p1 fun h4 M4 s4 k4 => ?_
        have d4 : M4 0 16 = ((y :: R).length : Int) := s4.2.1.1
        rw [List.length_cons] at d4
        refine BX13_endOne_60 s4.1.1.o rfl rfl (by omega) s4.1.1.a5 (by omega) (by simp only [Ls_len]; omega) (by decide) ?_
        refine IsM.p5 s4.1.1 (by omega) fun h5 M5 e5 v5 vk => ?_
        have sl4 := Sk_lo s4.2.2
        have s5 := s4.q (P2 := 4 :: R) e5 vk rfl (by rw [v5, d4, show (((R.length + 1 : Nat) : Int)) - 1 = (R.length : Int) by omega]; exact Sk_push sl4.2)
        refine BX13_endOne_72 e5.o (by show 18 < (mf (M5 0)).length; unfold mf; simp) ?_
        refine IsM.p0 e5 (mfs_18 _ _) fun h6 M6 e6 z0 zk => ?_
        have zf : ∀ j, j ≠ 18 → M6 0 j = M5 0 j := fun j hj => by rw [z0, fset_ne hj]
        have s6 := s5.f (P2 := 4 :: R) (o2 := o3) (w2 := 0) e6 zk (fun j _ _ h18 => zf j h18) (by rw [zf 16 (by decide)]; exact s5.2.1.1) (by rw [zf 17 (by decide)]; exact s5.2.1.2.1) (by rw [z0, fset_at]) s5.2.2
        exact BX13_endOne_77 (k h6 M6 s6 (((k2.tr k4).tr (Kb.q vk)).tr (Kb.f zk fun j _ _ h18 => zf j h18)))
      · intro k33
        rw [if_neg k33] at k
        refine BX13_endOne_51 (fun w => absurd rfl w) fun _ => ?_
        exact BX13_endOne_54 (k h2 M2 s2 k2)
    · rw [ty] at q
      rw [if_neg (show ¬ tpZ (y :: R) = 41 from q)] at k
      exact BX13_endOne_34 (k h2 M2 s2 k2)
theorem R_X13_compareOf (e : IsM g h M) (t : TkR F p (M 0 9) (M 0 10) (M 0 11)) (k : Q (some (vI (cmZ (tkK F p)))) h n) : Rn d bc bs mX13_compareOf 0 [some (vR (some 301))] [] h n Q := by
  obtain ⟨_, _, t5, t6, t7, t8, _, _, _, _, _, _, _, t3, t4⟩ := wk_sg t
  refine BX13_compareOf_0 e.o rfl (fun q1 => ?_) fun q1 => ?_
  rotate_left
  · refine BX13_compareOf_9 ?_
    rw [t5.mp q1] at k; exact k
  refine BX13_compareOf_14 e.o rfl (fun q2 => ?_) fun q2 => ?_
  rotate_left
  · refine BX13_compareOf_22 ?_
    rw [t3.mp q2] at k; exact k
  refine BX13_compareOf_27 e.o rfl (fun q3 => ?_) fun q3 => ?_
  rotate_left
  · refine BX13_compareOf_36 ?_
    rw [t6.mp q3] at k; exact k
  refine BX13_compareOf_41 e.o rfl (fun q4 => ?_) fun q4 => ?_
  rotate_left
  · refine BX13_compareOf_49 ?_
    rw [t4.mp q4] at k; exact k
  refine BX13_compareOf_54 e.o rfl (fun q5 => ?_) fun q5 => ?_
  rotate_left
  · refine BX13_compareOf_63 ?_
    rw [t7.mp q5] at k; exact k
  refine BX13_compareOf_68 e.o rfl (fun q6 => ?_) fun q6 => ?_
  rotate_left
  · refine BX13_compareOf_77 ?_
    rw [t8.mp q6] at k; exact k
  refine BX13_compareOf_82 ?_
  have kn : cmZ (tkK F p) = -1 := cmZ_out (by
    refine Decidable.byContradiction fun w => ?_
    rcases (show tkK F p = 3 ∨ tkK F p = 4 ∨ tkK F p = 5 ∨ tkK F p = 6 ∨ tkK F p = 7 ∨ tkK F p = 8 by omega) with w | w | w | w | w | w
    · exact q2 (t3.mpr w)
    · exact q4 (t4.mpr w)
    · exact q1 (t5.mpr w)
    · exact q3 (t6.mpr w)
    · exact q5 (t7.mpr w)
    · exact q6 (t8.mpr w))
  rw [kn] at k
  exact k
theorem R_X13_betweenOf (s : IsZ g h M b F (p, P, o, w, c)) (hp : (P.length : Int) ≤ 160) (k : Q (some (vI (btZ (tkK F p) (opN P) (isC P)))) h n) : Rn (d + 2) bc bs mX13_betweenOf 0 [some (vR (some 301))] [] h n Q := by
  have e := s.1.1
  have t := s.1.2.2.2.1.2.2
  obtain ⟨_, _, _, _, _, _, t9, t10, t11, t12, _⟩ := wk_sg t
  refine BX13_betweenOf_0 e.o rfl (fun q1 => ?_) fun q1 => ?_
  rotate_left
  · refine BX13_betweenOf_9 ?_
    rw [t9.mp q1] at k; exact k
  refine BX13_betweenOf_12 e.o rfl (fun q2 => ?_) fun q2 => ?_
  rotate_left
  · refine BX13_betweenOf_21 ?_
    rw [t10.mp q2] at k; exact k
  refine BX13_betweenOf_24 e.o rfl (fun q3 => ?_) fun q3 => ?_
  rotate_left
  · refine BX13_betweenOf_33 ?_
    rw [t11.mp q3] at k; exact k
  refine BX13_betweenOf_36 e.o rfl (fun q4 => ?_) fun q4 => ?_
  rotate_left
  · refine BX13_betweenOf_45 ?_
    rw [t12.mp q4] at k; exact k
  have n1 : tkK F p ≠ 9 := fun w => q1 (t9.mpr w)
  have n2 : tkK F p ≠ 10 := fun w => q2 (t10.mpr w)
  have n3 : tkK F p ≠ 11 := fun w => q3 (t11.mpr w)
  have n4 : tkK F p ≠ 12 := fun w => q4 (t12.mpr w)
  unfold btZ at k
  rw [if_neg n1, if_neg n2, if_neg n3, if_neg n4] at k
  refine BX13_betweenOf_48 e.o ?_
  refine R_X13_openNow s hp ?_
  refine BX13_betweenOf_52 (fun q5 => ?_) fun q5 => ?_
  rotate_left
  · refine BX13_betweenOf_57 ?_
    rw [if_pos q5] at k
    exact k
  rw [if_neg (fun w => w q5)] at k
  refine BX13_betweenOf_59 e.o ?_
  refine R_X13_isCompared s hp (fun hi => ?_) fun hi => ?_
  · rw [if_neg (by rw [hi]; decide)] at k
    refine BX13_betweenOf_63 (fun _ => ?_) fun w => absurd w (by decide)
    refine BX13_betweenOf_71 ?_
    refine R_X13_w3 ?_
    refine BX13_betweenOf_81 e.o ?_
    refine R_X13_isWord e t wd_and (fun k40 => ?_) fun k40 => ?_
    · rw [if_pos k40] at k
      exact BX13_betweenOf_84 (fun w => absurd w (by decide)) fun _ => BX13_betweenOf_87 k
    · rw [if_neg k40] at k
      refine BX13_betweenOf_84 (fun _ => ?_) fun w => absurd rfl w
      refine BX13_betweenOf_92 ?_
      refine R_X13_w2 ?_
      refine BX13_betweenOf_100 e.o ?_
      refine R_X13_isWord e t wd_or (fun k39 => ?_) fun k39 => ?_
      · rw [if_pos k39] at k
        exact BX13_betweenOf_103 (fun w => absurd w (by decide)) fun _ => BX13_betweenOf_106 k
      · rw [if_neg k39] at k
        exact BX13_betweenOf_103 (fun _ => BX13_betweenOf_111 k) fun w => absurd rfl w
  · rw [if_pos hi] at k
    refine BX13_betweenOf_63 (fun w => absurd rfl w) fun _ => ?_
    refine BX13_betweenOf_66 e.o ?_
    refine R_X13_compareOf e t ?_
    exact BX13_betweenOf_70 k
theorem R_X13_partOf (s : IsZ g h M b F (p, P, o, w, c)) (hp : (P.length : Int) ≤ 160) (k : Q (some (vI (paZ (tkK F p) x (isC P)))) h n) : Rn (d + 3) bc bs mX13_partOf 0 [some (vR (some 301)), some (vI x)] [] h n Q := by
  have e := s.1.1
  have t := s.1.2.2.2.1.2.2
  obtain ⟨_, _, _, _, _, _, _, _, _, _, _, t14, _⟩ := wk_sg t
  unfold paZ at k
  refine BX13_partOf_0 (fun q => ?_) (fun q => ?_) (fun q => ?_) (fun q => ?_) (fun q => ?_) (fun q => ?_)
  · refine BX13_partOf_130 ?_
    rw [if_neg (by omega), if_neg (by omega), if_neg (by omega), if_neg (by omega)] at k
    exact k
  · rw [if_pos q] at k
    refine BX13_partOf_36 e.o rfl (fun q2 => ?_) fun q2 => ?_
    · rw [if_neg (fun w => q2 (t14.mpr w))] at k
      exact BX13_partOf_49 k
    · rw [if_pos (t14.mp q2)] at k
      exact BX13_partOf_45 k
  · refine BX13_partOf_130 ?_
    rw [if_neg (by omega), if_neg (by omega), if_neg (by omega), if_neg (by omega)] at k
    exact k
  · rw [if_neg (by omega), if_pos q] at k
    refine BX13_partOf_51 ?_
    refine R_X13_w4 ?_
    refine BX13_partOf_63 e.o ?_
    refine R_X13_isWord e t wd_then (fun k36 => ?_) fun k36 => ?_
    · refine BX13_partOf_66 (fun w => absurd w (by decide)) fun _ => ?_
      refine BX13_partOf_69 e.o ?_
      refine R_X13_isCompared s hp (fun hi => ?_) fun hi => ?_
      · rw [if_pos ⟨k36, hi⟩] at k
        exact BX13_partOf_73 (fun w => absurd w (by decide)) fun _ => BX13_partOf_76 k
      · rw [if_neg (fun w => by rw [hi] at w; cases w.2)] at k
        exact BX13_partOf_73 (fun _ => BX13_partOf_81 k) fun w => absurd rfl w
    · rw [if_neg (fun w => k36 w.1)] at k
      exact BX13_partOf_66 (fun _ => BX13_partOf_81 k) fun w => absurd rfl w
  · rw [if_neg (by omega), if_neg (by omega), if_pos q] at k
    refine BX13_partOf_83 ?_
    refine R_X13_w4 ?_
    refine BX13_partOf_95 e.o ?_
    refine R_X13_isWord e t wd_else (fun k36 => ?_) fun k36 => ?_
    · rw [if_pos k36] at k
      exact BX13_partOf_98 (fun w => absurd w (by decide)) fun _ => BX13_partOf_101 k
    · rw [if_neg k36] at k
      exact BX13_partOf_98 (fun _ => BX13_partOf_106 k) fun w => absurd rfl w
  · rw [if_neg (by omega), if_neg (by omega), if_neg (by omega), if_pos q] at k
    refine BX13_partOf_108 ?_
    refine R_X13_w3 ?_
    refine BX13_partOf_118 e.o ?_
    refine R_X13_isWord e t wd_end (fun k36 => ?_) fun k36 => ?_
    · rw [if_pos k36] at k
      exact BX13_partOf_121 (fun w => absurd w (by decide)) fun _ => BX13_partOf_124 k
    · rw [if_neg k36] at k
      exact BX13_partOf_121 (fun _ => BX13_partOf_128 k) fun w => absurd rfl w
end ONE
