/-! Sorters. -/
def mayM (Y : Int → Int) (l v : Int) (A : Int → Int) : Nat → Int → Int
  | 0, _ => 1
  | m + 1, o => if and32 (Y (20 + l)) (shl32 1 o) ≠ 0 ∧ A o = v then 0 else mayM Y l v A m (o + 1)
theorem mayM_01 {Y A : Int → Int} {l v : Int} : ∀ m o, mayM Y l v A m o = 0 ∨ mayM Y l v A m o = 1 := by
  intro m
  induction m with
  | zero => intro o; exact .inr rfl
  | succ m ih => intro o; unfold mayM; split; exact .inl rfl; exact ih _
def lpM (f : (Int → Int) → Int × (Int → Int)) (Y : Int → Int) (l : Int) : Nat → Int → (Int → Int) → Int × (Int → Int)
  | 0, _, A => (0, A)
  | m + 1, v, A => if mayM Y l v A l.toNat 0 = 0 then lpM f Y l m (v + 1) A else if (f (fset A l v)).1 = 0 then lpM f Y l m (v + 1) (f (fset A l v)).2 else (1, (f (fset A l v)).2)
def shM (Y : Int → Int) (c : Int) : Nat → Int → (Int → Int) → Int × (Int → Int)
  | 0, _, A => (1, A)
  | f + 1, l, A => lpM (shM Y c f (l + 1)) Y l (min c (l + 1)).toNat 0 A
def fwM (Y : Int → Int) (nn : Int) : Nat → Int → (Int → Int) → Int × (Int → Int)
  | 0, _, A => (nn, (shM Y nn nn.toNat 0 A).2)
  | m + 1, c, A => if (shM Y c nn.toNat 0 A).1 = 0 then fwM Y nn m (c + 1) (shM Y c nn.toNat 0 A).2 else (c, (shM Y c nn.toNat 0 A).2)
theorem lpM_01 {f : (Int → Int) → Int × (Int → Int)} {Y : Int → Int} {l : Int} : ∀ m v A, (lpM f Y l m v A).1 = 0 ∨ (lpM f Y l m v A).1 = 1 := by
  intro m
  induction m with
  | zero => intro v A; exact .inl rfl
  | succ m ih => intro v A; unfold lpM; split; exact ih _ _; split; exact ih _ _; exact .inr rfl
section SORT
variable {n : Nat} {Y : Int → Int} {n1 n2 : Int}
theorem R_X3_mayRead {d bc bs : Nat} {h : aH} {Q : aQ} {A : Int → Int} {l v : Int} {l4 : Option aV} (i2 : h 295 = cI (Ls 8 A)) (s : IsSa h 133 Y) (l0 : 0 ≤ l) (l1 : l < 8) (k : Q (some (vI (mayM Y l v A l.toNat 0))) h n) : Rn (d + 2) bc bs mX3_mayRead 0 [some (vR (some 133)), some (vR (some 295)), some (vI l), some (vI v), l4] [] h n Q := by
  have la := Ls_len 8 A
  have s1 := s.1
  have loop : ∀ (m : Nat) (o : Int), 0 ≤ o → o + m = l → Q (some (vI (mayM Y l v A m o))) h n → Rn (d + 2) bc bs mX3_mayRead 3 [some (vR (some 133)), some (vR (some 295)), some (vI l), some (vI v), some (vI o)] [] h n Q := by
    intro m
    induction m with
    | zero =>
      intro o o0 o1 k
      refine BX3_mayRead_3  ?_ ?_
      · intro hc1
        first
        | (exfalso; omega)
        | (
            refine BX3_mayRead_40  ?_
            exact k
          )
      · intro hc2
        first
        | (exfalso; omega)
        | (
            (exfalso; omega)
          )
    | succ m ih =>
      intro o o0 o1 k
      unfold mayM at k
      refine BX3_mayRead_3  ?_ ?_
      · intro hc1
        refine BX3_mayRead_40  ?_
        (exfalso; omega)
      · intro hc2
        refine BX3_mayRead_9 (by first | assumption | exact up_at _ _ _ | (rw [up_ne (by omega)]; first | assumption | exact up_at _ _ _ | (rw [up_ne (by omega)]; assumption))) ?_
        refine R_X5_unlikeOf (by first | omega | assumption | (simp only [Ls_len]; omega) | exact Ls_get (by omega) (by omega) | rfl | decide) (by first | omega | assumption | (simp only [Ls_len]; omega) | exact Ls_get (by omega) (by omega) | rfl | decide) (by first | omega | assumption | (simp only [Ls_len]; omega) | exact Ls_get (by omega) (by omega) | rfl | decide) (by first | omega | assumption | (simp only [Ls_len]; omega) | exact Ls_get (by omega) (by omega) | rfl | decide) ?_
        refine BX3_mayRead_14  ?_ ?_
        · intro hc3
          refine BX3_mayRead_34 (by first | omega | assumption | (simp only [Ls_len]; omega) | exact Ls_get (by omega) (by omega) | rfl | decide) ?_
          (rw [if_neg (by omega)] at k; exact ih _ (by omega) (by omega) k)
        · intro hc4
          refine BX3_mayRead_22  ?_
          refine R_X12_cell (by first | omega | assumption | (simp only [Ls_len]; omega) | exact Ls_get (by omega) (by omega) | rfl | decide) (by first | omega | assumption | (simp only [Ls_len]; omega) | exact Ls_get (by omega) (by omega) | rfl | decide) (by first | omega | assumption | (simp only [Ls_len]; omega) | exact Ls_get (by omega) (by omega) | rfl | decide) (by first | omega | assumption | (simp only [Ls_len]; omega) | exact Ls_get (by omega) (by omega) | rfl | decide) (by first | omega | assumption | (simp only [Ls_len]; omega) | exact Ls_get (by omega) (by omega) | rfl | decide) ?_
          refine BX3_mayRead_28  ?_ ?_
          · intro hc5
            refine BX3_mayRead_34 (by first | omega | assumption | (simp only [Ls_len]; omega) | exact Ls_get (by omega) (by omega) | rfl | decide) ?_
            (rw [if_neg (by omega)] at k; exact ih _ (by omega) (by omega) k)
          · intro hc6
            refine BX3_mayRead_32  ?_
            (rw [if_pos (by omega)] at k; exact k)
  refine BX3_mayRead_0  ?_
  exact loop l.toNat 0 (by omega) (by omega) k
theorem R_X3_share {c nn : Int} (c0 : 0 ≤ c) (c1 : c ≤ 8) (n8 : nn ≤ 8) : ∀ (f : Nat) {d bc bs : Nat} {h : aH} {Q : aQ} {A : Int → Int} {l : Int} {l5 : Option aV} (_ : h 295 = cI (Ls 8 A)) (_ : IsSa h 133 Y) (_ : 0 ≤ l) (_ : l + f = nn) (_ : ∀ h1, Fr h h1 295 1 → h1 295 = cI (Ls 8 (shM Y c f l A).2) → Q (some (vI (shM Y c f l A).1)) h1 n), Rn (d + f + 3) bc bs mX3_share 0 [some (vR (some 133)), some (vR (some 295)), some (vI l), some (vI nn), some (vI c), l5] [] h n Q := by
  intro f
  induction f with
  | zero =>
    intro d bc bs h Q A l l5 i2 s l0 l1 k
    refine BX3_share_0  ?_ ?_
    · intro hc1
      refine BX3_share_11  ?_
      exact k _ (Fr.rf h 295 1) i2
    · intro hc2
      refine BX3_share_5  ?_ ?_
      · intro hc3
        refine BX3_share_13  ?_
        (exfalso; omega)
      · intro hc4
        refine BX3_share_11  ?_
        exact k _ (Fr.rf h 295 1) i2
  | succ f ih =>
    intro d bc bs h Q A l l5 i2 s l0 l1 k
    rw [show d + (f + 1) + 3 = (d + f + 3) + 1 by omega]
    have in16 : ∀ (m : Nat) (v : Int) (A : Int → Int) (h : aH), 0 ≤ v → v + m = min c (l + 1) → h 295 = cI (Ls 8 A) → IsSa h 133 Y → (∀ h1, Fr h h1 295 1 → h1 295 = cI (Ls 8 (lpM (shM Y c f (l + 1)) Y l m v A).2) → Q (some (vI (lpM (shM Y c f (l + 1)) Y l m v A).1)) h1 n) → Rn ((d + f + 3) + 1) bc bs mX3_share 16 [some (vR (some 133)), some (vR (some 295)), some (vI l), some (vI nn), some (vI c), some (vI v)] [] h n Q := by
      intro m
      induction m with
      | zero =>
        intro v A h v0 v1 i2 s k
        refine BX3_share_16  ?_ ?_
        · intro hc1
          first
          | (exfalso; omega)
          | (
              refine BX3_share_72  ?_
              exact k _ (Fr.rf h 295 1) i2
            )
        · intro hc2
          first
          | (exfalso; omega)
          | (
              refine BX3_share_23  ?_ ?_
              · intro hc3
                first
                | (exfalso; omega)
                | (
                    refine BX3_share_72  ?_
                    exact k _ (Fr.rf h 295 1) i2
                  )
              · intro hc4
                first
                | (exfalso; omega)
                | (
                    (exfalso; omega)
                  )
            )
      | succ m ih2 =>
        intro v A h v0 v1 i2 s k
        have la := Ls_len 8 A
        have m1 := mayM_01 (Y := Y) (A := A) (l := l) (v := v) l.toNat 0
        unfold lpM at k
        refine BX3_share_16  ?_ ?_
        · intro hc1
          refine BX3_share_72  ?_
          (exfalso; omega)
        · intro hc2
          refine BX3_share_23  ?_ ?_
          · intro hc3
            refine BX3_share_72  ?_
            (exfalso; omega)
          · intro hc4
            refine BX3_share_29  ?_
            refine R_X3_mayRead (by first | omega | assumption | (simp only [Ls_len]; omega) | exact Ls_get (by omega) (by omega) | rfl | decide) (by first | omega | assumption | (simp only [Ls_len]; omega) | exact Ls_get (by omega) (by omega) | rfl | decide) (by first | omega | assumption | (simp only [Ls_len]; omega) | exact Ls_get (by omega) (by omega) | rfl | decide) (by first | omega | assumption | (simp only [Ls_len]; omega) | exact Ls_get (by omega) (by omega) | rfl | decide) ?_
            refine BX3_share_37  ?_ ?_
            · intro hc5
              refine BX3_share_43  ?_
              refine R_X12_setCell (by first | omega | assumption | (simp only [Ls_len]; omega) | exact Ls_get (by omega) (by omega) | rfl | decide) (by first | omega | assumption | (simp only [Ls_len]; omega) | exact Ls_get (by omega) (by omega) | rfl | decide) (by first | omega | assumption | (simp only [Ls_len]; omega) | exact Ls_get (by omega) (by omega) | rfl | decide) (by first | omega | assumption | (simp only [Ls_len]; omega) | exact Ls_get (by omega) (by omega) | rfl | decide) (by first | omega | assumption | (simp only [Ls_len]; omega) | exact Ls_get (by omega) (by omega) | rfl | decide) ?_
              rw [Ls_set (by omega)]
              have s2 : IsSa (up h 295 (cI (Ls 8 (fset A l v)))) 133 Y := s.fr (Fr.one _ _ _) (by decide)
              refine BX3_share_50 (by first | omega | assumption | (simp only [Ls_len]; omega) | exact Ls_get (by omega) (by omega) | rfl | decide) ?_
              refine ih (by first | omega | assumption | (simp only [Ls_len]; omega) | exact Ls_get (by omega) (by omega) | rfl | decide) (by first | omega | assumption | (simp only [Ls_len]; omega) | exact Ls_get (by omega) (by omega) | rfl | decide) (by first | omega | assumption | (simp only [Ls_len]; omega) | exact Ls_get (by omega) (by omega) | rfl | decide) (by first | omega | assumption | (simp only [Ls_len]; omega) | exact Ls_get (by omega) (by omega) | rfl | decide) ?_
              intro h58 r58 e58
              refine BX3_share_61  ?_ ?_
              · intro hc6
                refine BX3_share_66 (by first | omega | assumption | (simp only [Ls_len]; omega) | exact Ls_get (by omega) (by omega) | rfl | decide) ?_
                first
                | (rw [if_pos (by omega)] at k; exact ih2 _ _ _ (by omega) (by omega) i2 s k)
                | (rw [if_neg (by omega), if_pos (by omega)] at k
                   have q1 := Fr.tr (Fr.one h 295 (cI (Ls 8 (fset A l v)))) r58
                   exact ih2 _ _ _ (by omega) (by omega) e58 (s.fr q1 (by decide)) (fun h2 p1 p2 => k h2 (q1.tr p1) p2))
              · intro hc7
                refine BX3_share_64  ?_
                (rw [if_neg (by omega), if_neg (by omega)] at k; exact k _ (Fr.tr (Fr.one _ _ _) r58) e58)
            · intro hc8
              refine BX3_share_40 (by first | omega | assumption | (simp only [Ls_len]; omega) | exact Ls_get (by omega) (by omega) | rfl | decide) ?_
              first
              | (rw [if_pos (by omega)] at k; exact ih2 _ _ _ (by omega) (by omega) i2 s k)
              | (rw [if_neg (by omega), if_pos (by omega)] at k
                 have q1 := Fr.tr (Fr.one h 295 (cI (Ls 8 (fset A l v)))) r58
                 exact ih2 _ _ _ (by omega) (by omega) e58 (s.fr q1 (by decide)) (fun h2 p1 p2 => k h2 (q1.tr p1) p2))
    unfold shM at k
    refine BX3_share_0  ?_ ?_
    · intro hc1
      refine BX3_share_11  ?_
      (exfalso; omega)
    · intro hc2
      refine BX3_share_5  ?_ ?_
      · intro hc3
        refine BX3_share_13  ?_
        exact in16 _ 0 _ _ (by omega) (by omega) i2 s k
      · intro hc4
        refine BX3_share_11  ?_
        (exfalso; omega)
theorem R_X3_share8 {d bc bs : Nat} {h : aH} {Q : aQ} {A : Int → Int} {c nn : Int} {l5 : Option aV} (c0 : 0 ≤ c) (c1 : c ≤ 8) (n0 : 0 ≤ nn) (n8 : nn ≤ 8) (i2 : h 295 = cI (Ls 8 A)) (s : IsSa h 133 Y) (k : ∀ h1, Fr h h1 295 1 → h1 295 = cI (Ls 8 (shM Y c nn.toNat 0 A).2) → Q (some (vI (shM Y c nn.toNat 0 A).1)) h1 n) : Rn (d + 11) bc bs mX3_share 0 [some (vR (some 133)), some (vR (some 295)), some (vI 0), some (vI nn), some (vI c), l5] [] h n Q := by
  rw [show d + 11 = (d + (8 - nn.toNat)) + nn.toNat + 3 by omega]
  exact R_X3_share c0 c1 n8 _ i2 s (by omega) (by omega) k
theorem R_X3_fewest {d bc bs : Nat} {h : aH} {Q : aQ} {A : Int → Int} {nn : Int} (n0 : 0 ≤ nn) (n8 : nn ≤ 8) (i1 : h 292 = cO 3 [vR (some 293), vR (some 294), vR (some 295), vR (some 296), vI n1, vI n2]) (i2 : h 295 = cI (Ls 8 A)) (s : IsSa h 133 Y) (k : ∀ h1, Fr h h1 295 1 → h1 295 = cI (Ls 8 (fwM Y nn nn.toNat 0 A).2) → Q (some (vI (fwM Y nn nn.toNat 0 A).1)) h1 n) : Rn (d + 12) bc bs mX3_fewestSorters 0 [some (vR (some 292)), some (vR (some 133)), some (vI nn), none] [] h n Q := by
  have in2 : ∀ (m : Nat) (c : Int) (A : Int → Int) (h : aH), 0 ≤ c → c + m = nn → h 292 = cO 3 [vR (some 293), vR (some 294), vR (some 295), vR (some 296), vI n1, vI n2] → h 295 = cI (Ls 8 A) → IsSa h 133 Y → (∀ h1, Fr h h1 295 1 → h1 295 = cI (Ls 8 (fwM Y nn m c A).2) → Q (some (vI (fwM Y nn m c A).1)) h1 n) → Rn (d + 12) bc bs mX3_fewestSorters 2 [some (vR (some 292)), some (vR (some 133)), some (vI nn), some (vI c)] [] h n Q := by
    intro m
    induction m with
    | zero =>
      intro c A h c0 c1 i1 i2 s k
      refine BX3_fewestSorters_2  ?_ ?_
      · intro hc1
        first
        | (exfalso; omega)
        | (
            refine BX3_fewestSorters_29 (by first | assumption | exact up_at _ _ _ | (rw [up_ne (by omega)]; first | assumption | exact up_at _ _ _ | (rw [up_ne (by omega)]; assumption))) (by rfl) ?_
            refine R_X3_share8 (by first | omega | assumption | (simp only [Ls_len]; omega) | exact Ls_get (by omega) (by omega) | rfl | decide) (by first | omega | assumption | (simp only [Ls_len]; omega) | exact Ls_get (by omega) (by omega) | rfl | decide) (by first | omega | assumption | (simp only [Ls_len]; omega) | exact Ls_get (by omega) (by omega) | rfl | decide) (by first | omega | assumption | (simp only [Ls_len]; omega) | exact Ls_get (by omega) (by omega) | rfl | decide) (by first | omega | assumption | (simp only [Ls_len]; omega) | exact Ls_get (by omega) (by omega) | rfl | decide) (by first | omega | assumption | (simp only [Ls_len]; omega) | exact Ls_get (by omega) (by omega) | rfl | decide) ?_
            intro h37 r37 e37
            refine BX3_fewestSorters_40  ?_
            exact k _ r37 e37
          )
      · intro hc2
        first
        | (exfalso; omega)
        | (
            (exfalso; omega)
          )
    | succ m ih =>
      intro c A h c0 c1 i1 i2 s k
      unfold fwM at k
      refine BX3_fewestSorters_2  ?_ ?_
      · intro hc1
        refine BX3_fewestSorters_29 (by first | assumption | exact up_at _ _ _ | (rw [up_ne (by omega)]; first | assumption | exact up_at _ _ _ | (rw [up_ne (by omega)]; assumption))) (by rfl) ?_
        refine R_X3_share8 (by first | omega | assumption | (simp only [Ls_len]; omega) | exact Ls_get (by omega) (by omega) | rfl | decide) (by first | omega | assumption | (simp only [Ls_len]; omega) | exact Ls_get (by omega) (by omega) | rfl | decide) (by first | omega | assumption | (simp only [Ls_len]; omega) | exact Ls_get (by omega) (by omega) | rfl | decide) (by first | omega | assumption | (simp only [Ls_len]; omega) | exact Ls_get (by omega) (by omega) | rfl | decide) (by first | omega | assumption | (simp only [Ls_len]; omega) | exact Ls_get (by omega) (by omega) | rfl | decide) (by first | omega | assumption | (simp only [Ls_len]; omega) | exact Ls_get (by omega) (by omega) | rfl | decide) ?_
        intro h37 r37 e37
        refine BX3_fewestSorters_40  ?_
        (exfalso; omega)
      · intro hc2
        refine BX3_fewestSorters_7 (by first | assumption | exact up_at _ _ _ | (rw [up_ne (by omega)]; first | assumption | exact up_at _ _ _ | (rw [up_ne (by omega)]; assumption))) (by rfl) ?_
        refine R_X3_share8 (by first | omega | assumption | (simp only [Ls_len]; omega) | exact Ls_get (by omega) (by omega) | rfl | decide) (by first | omega | assumption | (simp only [Ls_len]; omega) | exact Ls_get (by omega) (by omega) | rfl | decide) (by first | omega | assumption | (simp only [Ls_len]; omega) | exact Ls_get (by omega) (by omega) | rfl | decide) (by first | omega | assumption | (simp only [Ls_len]; omega) | exact Ls_get (by omega) (by omega) | rfl | decide) (by first | omega | assumption | (simp only [Ls_len]; omega) | exact Ls_get (by omega) (by omega) | rfl | decide) (by first | omega | assumption | (simp only [Ls_len]; omega) | exact Ls_get (by omega) (by omega) | rfl | decide) ?_
        intro h15 r15 e15
        refine BX3_fewestSorters_18  ?_ ?_
        · intro hc3
          refine BX3_fewestSorters_23 (by first | omega | assumption | (simp only [Ls_len]; omega) | exact Ls_get (by omega) (by omega) | rfl | decide) ?_
          (rw [if_pos (by omega)] at k; exact ih _ _ _ (by omega) (by omega) ((r15 292 (by decide)).trans i1) e15 (s.fr r15 (by decide)) (fun h2 p1 p2 => k h2 (r15.tr p1) p2))
        · intro hc4
          refine BX3_fewestSorters_21  ?_
          (rw [if_neg (by omega)] at k; exact k _ r15 e15)
  refine BX3_fewestSorters_0  ?_
  exact in2 nn.toNat 0 A h (by omega) (by omega) i1 i2 s k
theorem R_X3_sorterOf {d bc bs : Nat} {h : aH} {Q : aQ} {A : Int → Int} {l : Int} (i1 : h 292 = cO 3 [vR (some 293), vR (some 294), vR (some 295), vR (some 296), vI n1, vI n2]) (i2 : h 295 = cI (Ls 8 A)) (l0 : 0 ≤ l) (l1 : l < 8) (k : Q (some (vI (A l))) h n) : Rn (d + 1) bc bs mX3_sorterOf 0 [some (vR (some 292)), some (vI l)] [] h n Q := by
  have la := Ls_len 8 A
  refine BX3_sorterOf_0 (by first | assumption | exact up_at _ _ _ | (rw [up_ne (by omega)]; first | assumption | exact up_at _ _ _ | (rw [up_ne (by omega)]; assumption))) (by rfl) ?_
  refine R_X12_cell (by first | omega | assumption | (simp only [Ls_len]; omega) | exact Ls_get (by omega) (by omega) | rfl | decide) (by first | omega | assumption | (simp only [Ls_len]; omega) | exact Ls_get (by omega) (by omega) | rfl | decide) (by first | omega | assumption | (simp only [Ls_len]; omega) | exact Ls_get (by omega) (by omega) | rfl | decide) (by first | omega | assumption | (simp only [Ls_len]; omega) | exact Ls_get (by omega) (by omega) | rfl | decide) (by first | omega | assumption | (simp only [Ls_len]; omega) | exact Ls_get (by omega) (by omega) | rfl | decide) ?_
  refine BX3_sorterOf_8  ?_
  exact k
end SORT
section SORT2
variable {d bc bs n : Nat} {g h : aH} {Q : aQ} {W V : Int → Int → Int} {X : Int → Tx} {F : Int → Int}
theorem P_sorters {x : Int} (s : IsPo g h W V X F) (k0 : (x < 0 ∨ 8 < x) → Q (some (vI (-1))) h n) (k : 0 ≤ x → x ≤ 8 → ∀ h1 A, IsPo g h1 W V X F → Q (some (vI (fwM (W 2) x x.toNat 0 A).1)) h1 n) : Rn (d + 30) bc bs mX12_sorters 0 [some (vR (some 1)), some (vI x)] [] h n Q := by
  obtain ⟨fp, p1, w, v, tp, gr, ⟨lx, la⟩, ro, ri, Gx, gl⟩ := id s; have w1 := w.1; have sh := w.2.1; have se := w.2.2.1; obtain ⟨Ts, ps, st, ste⟩ := w.2.2.2.1; have sa := w.2.2.2.2.1; have sh1 := sh.1; have se1 := se.1; have st1 := st.1; have sa1 := sa.1; obtain ⟨tl, la1⟩ := la.ob; have gl1 := gl.1; have bk0 := se.2.2; have bk1 := bk0.1
  obtain ⟨z1, z2, z3, z4, z5, z6, ri1, ri2, ri3, ri4, ri5⟩ := id ri
  refine BX12_sorters_0  ?_
  refine R_X12_within  ?_ ?_
  · intro w1 w2
    refine BX12_sorters_7  ?_ ?_
    · intro hc1
      refine BX12_sorters_12 (by first | assumption | exact up_at _ _ _ | (rw [up_ne (by omega)]; first | assumption | exact up_at _ _ _ | (rw [up_ne (by omega)]; assumption))) (by rfl) (by rfl) (by first | assumption | exact up_at _ _ _ | (rw [up_ne (by omega)]; first | assumption | exact up_at _ _ _ | (rw [up_ne (by omega)]; assumption))) (by rfl) (by first | assumption | exact up_at _ _ _ | (rw [up_ne (by omega)]; first | assumption | exact up_at _ _ _ | (rw [up_ne (by omega)]; assumption))) ?_
      refine R_X3_fewest (by first | omega | assumption | (simp only [Ls_len]; omega) | exact Ls_get (by omega) (by omega) | rfl | decide) (by first | omega | assumption | (simp only [Ls_len]; omega) | exact Ls_get (by omega) (by omega) | rfl | decide) (by first | omega | assumption | (simp only [Ls_len]; omega) | exact Ls_get (by omega) (by omega) | rfl | decide) (by first | omega | assumption | (simp only [Ls_len]; omega) | exact Ls_get (by omega) (by omega) | rfl | decide) (by first | omega | assumption | (simp only [Ls_len]; omega) | exact Ls_get (by omega) (by omega) | rfl | decide) ?_
      intro h24 r24 e24
      refine BX12_sorters_27  ?_
      refine k (by omega) (by omega) _ z5 (s.rid (r24.wd (by decide) (by decide)) ⟨z1, z2, z3, z4, (fwM (W 2) x x.toNat 0 z5).2, z6, ?_, ?_, ?_, e24, ?_⟩)
      · exact (r24 _ (by decide)).trans ri1
      · exact (r24 _ (by decide)).trans ri2
      · exact (r24 _ (by decide)).trans ri3
      · exact (r24 _ (by decide)).trans ri5
    · intro hc2
      exact absurd hc2 (by decide)
  · intro w3
    refine BX12_sorters_7  ?_ ?_
    · intro hc3
      exact absurd hc3 (by decide)
    · intro hc4
      refine BX12_sorters_10  ?_
      exact k0 (by omega)
theorem P_sorter {x l : Int} (s : IsPo g h W V X F) (k0 : (x < 0 ∨ 8 < x ∨ l < 0 ∨ x ≤ l) → Q (some (vI (-1))) h n) (k : 0 ≤ l → l < x → x ≤ 8 → ∀ h1 A, IsPo g h1 W V X F → Q (some (vI ((fwM (W 2) x x.toNat 0 A).2 l))) h1 n) : Rn (d + 30) bc bs mX12_sorter 0 [some (vR (some 1)), some (vI x), some (vI l)] [] h n Q := by
  obtain ⟨fp, p1, w, v, tp, gr, ⟨lx, la⟩, ro, ri, Gx, gl⟩ := id s; have w1 := w.1; have sh := w.2.1; have se := w.2.2.1; obtain ⟨Ts, ps, st, ste⟩ := w.2.2.2.1; have sa := w.2.2.2.2.1; have sh1 := sh.1; have se1 := se.1; have st1 := st.1; have sa1 := sa.1; obtain ⟨tl, la1⟩ := la.ob; have gl1 := gl.1; have bk0 := se.2.2; have bk1 := bk0.1
  obtain ⟨z1, z2, z3, z4, z5, z6, ri1, ri2, ri3, ri4, ri5⟩ := id ri
  refine BX12_sorter_0  ?_
  refine R_X12_within  ?_ ?_
  · intro w1 w2
    refine BX12_sorter_7  ?_ ?_
    · intro hc1
      exact absurd hc1 (by decide)
    · intro hc2
      refine BX12_sorter_10 (by first | omega | assumption | (simp only [Ls_len]; omega) | exact Ls_get (by omega) (by omega) | rfl | decide) ?_
      refine R_X12_within  ?_ ?_
      · intro w1 w2
        refine BX12_sorter_18  ?_ ?_
        · intro hc3
          refine BX12_sorter_23 (by first | assumption | exact up_at _ _ _ | (rw [up_ne (by omega)]; first | assumption | exact up_at _ _ _ | (rw [up_ne (by omega)]; assumption))) (by rfl) (by rfl) (by first | assumption | exact up_at _ _ _ | (rw [up_ne (by omega)]; first | assumption | exact up_at _ _ _ | (rw [up_ne (by omega)]; assumption))) (by rfl) (by first | assumption | exact up_at _ _ _ | (rw [up_ne (by omega)]; first | assumption | exact up_at _ _ _ | (rw [up_ne (by omega)]; assumption))) ?_
          refine R_X3_fewest (by first | omega | assumption | (simp only [Ls_len]; omega) | exact Ls_get (by omega) (by omega) | rfl | decide) (by first | omega | assumption | (simp only [Ls_len]; omega) | exact Ls_get (by omega) (by omega) | rfl | decide) (by first | omega | assumption | (simp only [Ls_len]; omega) | exact Ls_get (by omega) (by omega) | rfl | decide) (by first | omega | assumption | (simp only [Ls_len]; omega) | exact Ls_get (by omega) (by omega) | rfl | decide) (by first | omega | assumption | (simp only [Ls_len]; omega) | exact Ls_get (by omega) (by omega) | rfl | decide) ?_
          intro h35 r35 e35
          have y1 := (r35 292 (by decide)).trans ri1
          have y2 := (r35 1 (by decide)).trans p1
          have s35 : IsPo g h35 W V X F := s.rid (r35.wd (by decide) (by decide)) ⟨z1, z2, z3, z4, _, z6, (r35 _ (by decide)).trans ri1, (r35 _ (by decide)).trans ri2, (r35 _ (by decide)).trans ri3, e35, (r35 _ (by decide)).trans ri5⟩
          refine BX12_sorter_38 (by first | assumption | exact up_at _ _ _ | (rw [up_ne (by omega)]; first | assumption | exact up_at _ _ _ | (rw [up_ne (by omega)]; assumption))) (by rfl) (by first | assumption | exact up_at _ _ _ | (rw [up_ne (by omega)]; first | assumption | exact up_at _ _ _ | (rw [up_ne (by omega)]; assumption))) ?_
          refine R_X3_sorterOf (by first | omega | assumption | (simp only [Ls_len]; omega) | exact Ls_get (by omega) (by omega) | rfl | decide) (by first | omega | assumption | (simp only [Ls_len]; omega) | exact Ls_get (by omega) (by omega) | rfl | decide) (by first | omega | assumption | (simp only [Ls_len]; omega) | exact Ls_get (by omega) (by omega) | rfl | decide) (by first | omega | assumption | (simp only [Ls_len]; omega) | exact Ls_get (by omega) (by omega) | rfl | decide) ?_
          refine BX12_sorter_47  ?_
          exact k (by omega) (by omega) (by omega) _ z5 s35
        · intro hc4
          exact absurd hc4 (by decide)
      · intro w3
        refine BX12_sorter_18  ?_ ?_
        · intro hc5
          exact absurd hc5 (by decide)
        · intro hc6
          refine BX12_sorter_21  ?_
          exact k0 (by omega)
  · intro w3
    refine BX12_sorter_7  ?_ ?_
    · intro hc7
      refine BX12_sorter_21  ?_
      exact k0 (by omega)
    · intro hc8
      exact absurd hc8 (by decide)
end SORT2
