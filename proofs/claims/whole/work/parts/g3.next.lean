/-! The reference comes to its next token. -/
def MG (g h : aH) (M : Int → Int → Int) (G : Int → Int) : Prop := IsM g h (fset M 0 G)
def tpM (M : Int → Int → Int) (F : Int → Int) (G : Int → Int) : Prop := G 4 = F 2 ∧ ∀ i, 0 ≤ i → i < F 2 → M 4 i = F (3 + i)
def frG (M : Int → Int → Int) (G : Int → Int) : Prop := ∀ j, (j < 7 ∨ 11 < j) → G j = M 0 j
section NEXT
variable {d bc bs n pc : Nat} {g h : aH} {Q : aQ} {M : Int → Int → Int} {F G : Int → Int} {mm : aM} {ls : aL} {st : List aV}
theorem MG.o (e : MG g h M G) : h 301 = cO 13 (mf G) := by
  have := IsM.o e
  rw [fset_at] at this
  exact this
theorem MG.a4 (e : MG g h M G) : h 305 = cI (Ls 300 (M 4)) := by
  have := IsM.a4 e
  rw [fset_ne (by decide)] at this
  exact this
theorem MG.put {i : Nat} {j v : Int} {w : aV} (e : MG g h M G) (hi : (mf G).set i w = mf (fset G j v)) (K : ∀ h1, MG g h1 M (fset G j v) → Rn d bc bs mm pc ls st h1 n Q) : Rn d bc bs mm pc ls st (up h 301 (cO 13 ((mf G).set i w))) n Q := by
  refine K _ ?_
  rw [hi]
  have := IsM.fld (F := fset G j v) e
  rw [fset2] at this
  exact this
theorem frG.put {j v : Int} (f : frG M G) (h0 : 7 ≤ j) (h1 : j ≤ 11) : frG M (fset G j v) := fun i hi => by rw [fset_ne (by omega)]; exact f i hi
theorem tpM.put {j v : Int} (f : tpM M F G) (h0 : j ≠ 4) : tpM M F (fset G j v) := ⟨by rw [fset_ne (by omega)]; exact f.1, f.2⟩
theorem R_X13_isFigure {c : Int} (kt : digB c = true → Q (some (vI 1)) h n) (kf : digB c = false → Q (some (vI 0)) h n) : Rn d bc bs mX13_isFigure 0 [some (vI c)] [] h n Q := by
  refine BX13_isFigure_0  ?_ ?_
  · intro hc1
    first
    | (exfalso; omega)
    | (
        refine BX13_isFigure_16  ?_
        first | exact kt (decide_eq_true (by omega)) | exact kf (decide_eq_false (by omega))
      )
  · intro hc2
    first
    | (exfalso; omega)
    | (
        refine BX13_isFigure_6  ?_ ?_
        · intro hc3
          first
          | (exfalso; omega)
          | (
              refine BX13_isFigure_16  ?_
              first | exact kt (decide_eq_true (by omega)) | exact kf (decide_eq_false (by omega))
            )
        · intro hc4
          first
          | (exfalso; omega)
          | (
              refine BX13_isFigure_12  ?_
              first | exact kt (decide_eq_true (by omega)) | exact kf (decide_eq_false (by omega))
            )
      )
theorem R_X13_isLetterByte {c : Int} (kt : letB c = true → Q (some (vI 1)) h n) (kf : letB c = false → Q (some (vI 0)) h n) : Rn d bc bs mX13_isLetterByte 0 [some (vI c)] [] h n Q := by
  refine BX13_isLetterByte_0  ?_ ?_
  · intro hc1
    refine BX13_isLetterByte_12  ?_ ?_
    · intro hc2
      refine BX13_isLetterByte_28  ?_
      first | exact kt (decide_eq_true (by omega)) | exact kf (decide_eq_false (by omega))
    · intro hc3
      refine BX13_isLetterByte_18  ?_ ?_
      · intro hc4
        refine BX13_isLetterByte_28  ?_
        first | exact kt (decide_eq_true (by omega)) | exact kf (decide_eq_false (by omega))
      · intro hc5
        refine BX13_isLetterByte_24  ?_
        first | exact kt (decide_eq_true (by omega)) | exact kf (decide_eq_false (by omega))
  · intro hc6
    refine BX13_isLetterByte_6  ?_ ?_
    · intro hc7
      refine BX13_isLetterByte_24  ?_
      first | exact kt (decide_eq_true (by omega)) | exact kf (decide_eq_false (by omega))
    · intro hc8
      refine BX13_isLetterByte_12  ?_ ?_
      · intro hc9
        refine BX13_isLetterByte_28  ?_
        first | exact kt (decide_eq_true (by omega)) | exact kf (decide_eq_false (by omega))
      · intro hc10
        refine BX13_isLetterByte_18  ?_ ?_
        · intro hc11
          refine BX13_isLetterByte_28  ?_
          first | exact kt (decide_eq_true (by omega)) | exact kf (decide_eq_false (by omega))
        · intro hc12
          refine BX13_isLetterByte_24  ?_
          first | exact kt (decide_eq_true (by omega)) | exact kf (decide_eq_false (by omega))
theorem R_X13_isSign {c : Int} (kt : sgS c → Q (some (vI 1)) h n) (kf : ¬ sgS c → Q (some (vI 0)) h n) : Rn d bc bs mX13_isSign 0 [some (vI c)] [] h n Q := by
  unfold sgS at kt kf
  refine BX13_isSign_0  ?_ ?_ ?_ ?_ ?_ ?_ ?_ ?_ ?_ ?_ ?_ ?_ ?_ ?_ ?_ ?_ ?_ ?_ ?_ ?_ ?_ ?_ ?_ ?_ ?_ ?_ ?_ ?_ ?_
  · intro hc1
    refine BX13_isSign_130  ?_
    first | exact kt (by omega) | exact kf (by omega)
  · intro hc2
    refine BX13_isSign_128  ?_
    first | exact kt (by omega) | exact kf (by omega)
  · intro hc3
    refine BX13_isSign_130  ?_
    first | exact kt (by omega) | exact kf (by omega)
  · intro hc4
    refine BX13_isSign_130  ?_
    first | exact kt (by omega) | exact kf (by omega)
  · intro hc5
    refine BX13_isSign_130  ?_
    first | exact kt (by omega) | exact kf (by omega)
  · intro hc6
    refine BX13_isSign_130  ?_
    first | exact kt (by omega) | exact kf (by omega)
  · intro hc7
    refine BX13_isSign_128  ?_
    first | exact kt (by omega) | exact kf (by omega)
  · intro hc8
    refine BX13_isSign_128  ?_
    first | exact kt (by omega) | exact kf (by omega)
  · intro hc9
    refine BX13_isSign_128  ?_
    first | exact kt (by omega) | exact kf (by omega)
  · intro hc10
    refine BX13_isSign_128  ?_
    first | exact kt (by omega) | exact kf (by omega)
  · intro hc11
    refine BX13_isSign_130  ?_
    first | exact kt (by omega) | exact kf (by omega)
  · intro hc12
    refine BX13_isSign_128  ?_
    first | exact kt (by omega) | exact kf (by omega)
  · intro hc13
    refine BX13_isSign_130  ?_
    first | exact kt (by omega) | exact kf (by omega)
  · intro hc14
    refine BX13_isSign_128  ?_
    first | exact kt (by omega) | exact kf (by omega)
  · intro hc15
    refine BX13_isSign_130  ?_
    first | exact kt (by omega) | exact kf (by omega)
  · intro hc16
    refine BX13_isSign_130  ?_
    first | exact kt (by omega) | exact kf (by omega)
  · intro hc17
    refine BX13_isSign_130  ?_
    first | exact kt (by omega) | exact kf (by omega)
  · intro hc18
    refine BX13_isSign_130  ?_
    first | exact kt (by omega) | exact kf (by omega)
  · intro hc19
    refine BX13_isSign_130  ?_
    first | exact kt (by omega) | exact kf (by omega)
  · intro hc20
    refine BX13_isSign_130  ?_
    first | exact kt (by omega) | exact kf (by omega)
  · intro hc21
    refine BX13_isSign_130  ?_
    first | exact kt (by omega) | exact kf (by omega)
  · intro hc22
    refine BX13_isSign_130  ?_
    first | exact kt (by omega) | exact kf (by omega)
  · intro hc23
    refine BX13_isSign_130  ?_
    first | exact kt (by omega) | exact kf (by omega)
  · intro hc24
    refine BX13_isSign_130  ?_
    first | exact kt (by omega) | exact kf (by omega)
  · intro hc25
    refine BX13_isSign_128  ?_
    first | exact kt (by omega) | exact kf (by omega)
  · intro hc26
    refine BX13_isSign_128  ?_
    first | exact kt (by omega) | exact kf (by omega)
  · intro hc27
    refine BX13_isSign_128  ?_
    first | exact kt (by omega) | exact kf (by omega)
  · intro hc28
    refine BX13_isSign_128  ?_
    first | exact kt (by omega) | exact kf (by omega)
  · intro hc29
    refine BX13_isSign_128  ?_
    first | exact kt (by omega) | exact kf (by omega)
theorem R_X13_byteAt {x : Int} (e : MG g h M G) (tp : tpM M F G) (o : okF F) (x0 : 0 ≤ x) (k : Q (some (vI (byA F x))) h n) : Rn d bc bs mX13_byteAt 0 [some (vR (some 301)), some (vI x)] [] h n Q := by
  have m0 := e.o
  have m4 := e.a4
  obtain ⟨t1, t2⟩ := tp
  have o1 := o.1
  refine BX13_byteAt_0 (by first | assumption | exact up_at _ _ _ | (rw [up_ne (by omega)]; first | assumption | exact up_at _ _ _ | (rw [up_ne (by omega)]; assumption))) (by rfl) ?_ ?_
  · intro hc1
    first
    | (exfalso; omega)
    | (
        refine BX13_byteAt_17  ?_
        (rw [byA, if_neg (by omega)] at k; exact k)
      )
  · intro hc2
    first
    | (exfalso; omega)
    | (
        refine BX13_byteAt_8 (by first | assumption | exact up_at _ _ _ | (rw [up_ne (by omega)]; first | assumption | exact up_at _ _ _ | (rw [up_ne (by omega)]; assumption))) (by rfl) (by first | assumption | exact up_at _ _ _ | (rw [up_ne (by omega)]; first | assumption | exact up_at _ _ _ | (rw [up_ne (by omega)]; assumption))) (by first | omega | (simp only [Ls_len]; omega) | assumption | exact Ls_get (by omega) (by omega) | rfl | decide) (by first | exact Ls_get (by omega) (by omega) | assumption) ?_
        (rw [byA, if_pos (by omega), ← t2 x x0 (by omega)] at k; exact k)
      )
theorem R_X13_nextToken {q : Int} {l1 : Option aV} (e : IsM g h M) (tp : tpM M F (M 0)) (o : okF F) (h7 : M 0 7 = q) (q0 : 0 ≤ q) (q1 : q ≤ F 2) (k : ∀ h1 G, MG g h1 M G → frG M G → G 8 = tkS F q → G 7 = tkN F q → TkR F q (G 9) (G 10) (G 11) → Q none h1 n) : Rn (d + 1) bc bs mX13_nextToken 0 [some (vR (some 301)), l1] [] h n Q := by
  have o1 := o.1
  have L0 : ∀ (m : Nat) (q : Int) (h : aH) (G : Int → Int), MG g h M G → frG M G → tpM M F G → G 7 = q → 0 ≤ q → q ≤ F 2 → F 2 - q ≤ m → (∀ h1 G, MG g h1 M G → frG M G → tpM M F G → G 7 = skN F m q → Rn (d + 1) bc bs mX13_nextToken 39 [some (vR (some 301)), l1] [] h1 n Q) → Rn (d + 1) bc bs mX13_nextToken 0 [some (vR (some 301)), l1] [] h n Q := by
    intro m
    induction m with
    | zero =>
      intro q h G e f tp h7 q0 q1 hm k
      have m0 := e.o
      have hb : byA F (G 7) = -1 := if_neg (by omega)
      refine BX13_nextToken_0 (by first | assumption | exact up_at _ _ _ | (rw [up_ne (by omega)]; first | assumption | exact up_at _ _ _ | (rw [up_ne (by omega)]; assumption))) (by rfl) ?_
      refine R_X13_byteAt (by first | omega | (simp only [Ls_len]; omega) | assumption | exact Ls_get (by omega) (by omega) | rfl | decide) (by first | omega | (simp only [Ls_len]; omega) | assumption | exact Ls_get (by omega) (by omega) | rfl | decide) (by first | omega | (simp only [Ls_len]; omega) | assumption | exact Ls_get (by omega) (by omega) | rfl | decide) (by first | omega | (simp only [Ls_len]; omega) | assumption | exact Ls_get (by omega) (by omega) | rfl | decide) ?_
      refine BX13_nextToken_8  ?_ ?_
      · intro hc1
        first
        | (exfalso; omega)
        | (
            (exfalso; omega)
          )
      · intro hc2
        first
        | (exfalso; omega)
        | (
            refine BX13_nextToken_13 (by first | assumption | exact up_at _ _ _ | (rw [up_ne (by omega)]; first | assumption | exact up_at _ _ _ | (rw [up_ne (by omega)]; assumption))) (by rfl) ?_
            refine R_X13_byteAt (by first | omega | (simp only [Ls_len]; omega) | assumption | exact Ls_get (by omega) (by omega) | rfl | decide) (by first | omega | (simp only [Ls_len]; omega) | assumption | exact Ls_get (by omega) (by omega) | rfl | decide) (by first | omega | (simp only [Ls_len]; omega) | assumption | exact Ls_get (by omega) (by omega) | rfl | decide) (by first | omega | (simp only [Ls_len]; omega) | assumption | exact Ls_get (by omega) (by omega) | rfl | decide) ?_
            refine BX13_nextToken_21  ?_ ?_
            · intro hc3
              first
              | (exfalso; omega)
              | (
                  exact k _ G e f tp h7
                )
            · intro hc4
              first
              | (exfalso; omega)
              | (
                  (exfalso; omega)
                )
          )
    | succ m ih =>
      intro q h G e f tp h7 q0 q1 hm k
      have m0 := e.o
      unfold skN at k
      have qb : blB (byA F (G 7)) = true → G 7 < F 2 := fun w => (byA_lt (bl_ne w)).2
      refine BX13_nextToken_0 (by first | assumption | exact up_at _ _ _ | (rw [up_ne (by omega)]; first | assumption | exact up_at _ _ _ | (rw [up_ne (by omega)]; assumption))) (by rfl) ?_
      refine R_X13_byteAt (by first | omega | (simp only [Ls_len]; omega) | assumption | exact Ls_get (by omega) (by omega) | rfl | decide) (by first | omega | (simp only [Ls_len]; omega) | assumption | exact Ls_get (by omega) (by omega) | rfl | decide) (by first | omega | (simp only [Ls_len]; omega) | assumption | exact Ls_get (by omega) (by omega) | rfl | decide) (by first | omega | (simp only [Ls_len]; omega) | assumption | exact Ls_get (by omega) (by omega) | rfl | decide) ?_
      refine BX13_nextToken_8  ?_ ?_
      · intro hc1
        have wb : blB (byA F (G 7)) = true := decide_eq_true (by omega)
        have qb := qb wb
        rw [h7] at wb
        rw [if_pos wb] at k
        refine BX13_nextToken_26 m0 rfl (by omega) (by show 7 < (mf G).length; unfold mf; simp) ?_
        refine MG.put e (mfs_7 _ _) fun h1 e => ?_
        refine BX13_nextToken_36 ?_
        exact ih (q + 1) h1 _ e (f.put (by decide) (by decide)) (tp.put (by decide)) (by rw [fset_at, h7]) (by omega) (by omega) (by omega) k
      · intro hc2
        refine BX13_nextToken_13 (by first | assumption | exact up_at _ _ _ | (rw [up_ne (by omega)]; first | assumption | exact up_at _ _ _ | (rw [up_ne (by omega)]; assumption))) (by rfl) ?_
        refine R_X13_byteAt (by first | omega | (simp only [Ls_len]; omega) | assumption | exact Ls_get (by omega) (by omega) | rfl | decide) (by first | omega | (simp only [Ls_len]; omega) | assumption | exact Ls_get (by omega) (by omega) | rfl | decide) (by first | omega | (simp only [Ls_len]; omega) | assumption | exact Ls_get (by omega) (by omega) | rfl | decide) (by first | omega | (simp only [Ls_len]; omega) | assumption | exact Ls_get (by omega) (by omega) | rfl | decide) ?_
        refine BX13_nextToken_21  ?_ ?_
        · intro hc3
          (rw [if_neg (fun w => by have := of_decide_eq_true w; rw [h7] at *; omega)] at k; exact k _ G e f tp h7)
        · intro hc4
          have wb : blB (byA F (G 7)) = true := decide_eq_true (by omega)
          have qb := qb wb
          rw [h7] at wb
          rw [if_pos wb] at k
          refine BX13_nextToken_26 m0 rfl (by omega) (by show 7 < (mf G).length; unfold mf; simp) ?_
          refine MG.put e (mfs_7 _ _) fun h1 e => ?_
          refine BX13_nextToken_36 ?_
          exact ih (q + 1) h1 _ e (f.put (by decide) (by decide)) (tp.put (by decide)) (by rw [fset_at, h7]) (by omega) (by omega) (by omega) k
  have L85 : ∀ (m : Nat) (q u : Int) (h : aH) (G : Int → Int) (c : Int), MG g h M G → frG M G → tpM M F G → G 7 = q → G 10 = u → 0 ≤ q → q ≤ F 2 → F 2 - q ≤ m → 0 ≤ u → u ≤ 999999 → (∀ h1 G1, MG g h1 M G1 → frG M G1 → G1 8 = G 8 → G1 9 = G 9 → G1 7 = (dgN F m q (min u 10000)).1 → 0 ≤ G1 10 → min (G1 10) 10000 = (dgN F m q (min u 10000)).2 → Q none h1 n) → Rn (d + 1) bc bs mX13_nextToken 85 [some (vR (some 301)), some (vI c)] [] h n Q := by
    intro m
    induction m with
    | zero =>
      intro q u h G c e f tp h7 h10 q0 q1 hm u0 u1 k
      have m0 := e.o
      have hb : byA F (G 7) = -1 := if_neg (by omega)
      refine BX13_nextToken_85 (by first | assumption | exact up_at _ _ _ | (rw [up_ne (by omega)]; first | assumption | exact up_at _ _ _ | (rw [up_ne (by omega)]; assumption))) (by rfl) ?_
      refine R_X13_byteAt (by first | omega | (simp only [Ls_len]; omega) | assumption | exact Ls_get (by omega) (by omega) | rfl | decide) (by first | omega | (simp only [Ls_len]; omega) | assumption | exact Ls_get (by omega) (by omega) | rfl | decide) (by first | omega | (simp only [Ls_len]; omega) | assumption | exact Ls_get (by omega) (by omega) | rfl | decide) (by first | omega | (simp only [Ls_len]; omega) | assumption | exact Ls_get (by omega) (by omega) | rfl | decide) ?_
      refine BX13_nextToken_93  ?_
      refine R_X13_isFigure  ?_ ?_
      · intro w93
        refine BX13_nextToken_96  ?_ ?_
        · intro hc1
          exact absurd hc1 (by decide)
        · intro hc2
          (exfalso; have := dg_ne w93; omega)
      · intro w93
        refine BX13_nextToken_96  ?_ ?_
        · intro hc3
          refine BX13_nextToken_310  ?_
          exact k _ G e f rfl rfl h7 (by omega) (by show min (G 10) 10000 = min u 10000; rw [h10])
        · intro hc4
          exact absurd hc4 (by decide)
    | succ m ih =>
      intro q u h G c e f tp h7 h10 q0 q1 hm u0 u1 k
      have m0 := e.o
      unfold dgN at k
      have K138 : ∀ (h2 : aH) (G2 : Int → Int), MG g h2 M G2 → frG M G2 → tpM M F G2 → G2 7 = q → G2 8 = G 8 → G2 9 = G 9 → digB (byA F q) = true → 0 ≤ G2 10 → G2 10 ≤ 999999 → min (G2 10) 10000 = min (min u 10000 * 10 + byA F q - 48) 10000 → Rn (d + 1) bc bs mX13_nextToken 138 [some (vR (some 301)), some (vI c)] [] h2 n Q := by
        intro h2 G2 e2 f2 tp2 a1 a2 a3 wd b0 b1 b2
        have ql := (byA_lt (dg_ne wd).1).2
        have m0 := e2.o
        refine BX13_nextToken_138 m0 rfl (by omega) (by show 7 < (mf G2).length; unfold mf; simp) ?_
        refine MG.put e2 (mfs_7 _ _) fun h1 e => ?_
        refine BX13_nextToken_148 ?_
        rw [if_pos wd] at k
        refine ih (q + 1) (G2 10) h1 _ c e (f2.put (by decide) (by decide)) (tp2.put (by decide)) (by rw [fset_at, a1]) (fset_ne (by decide)) (by omega) (by omega) (by omega) b0 b1 fun h3 G3 e3 f3 c1 c2 c3 c4 c5 => ?_
        rw [b2] at c3 c5
        exact k h3 G3 e3 f3 (by rw [c1, fset_ne (by decide), a2]) (by rw [c2, fset_ne (by decide), a3]) c3 c4 c5
      refine BX13_nextToken_85 (by first | assumption | exact up_at _ _ _ | (rw [up_ne (by omega)]; first | assumption | exact up_at _ _ _ | (rw [up_ne (by omega)]; assumption))) (by rfl) ?_
      refine R_X13_byteAt (by first | omega | (simp only [Ls_len]; omega) | assumption | exact Ls_get (by omega) (by omega) | rfl | decide) (by first | omega | (simp only [Ls_len]; omega) | assumption | exact Ls_get (by omega) (by omega) | rfl | decide) (by first | omega | (simp only [Ls_len]; omega) | assumption | exact Ls_get (by omega) (by omega) | rfl | decide) (by first | omega | (simp only [Ls_len]; omega) | assumption | exact Ls_get (by omega) (by omega) | rfl | decide) ?_
      refine BX13_nextToken_93  ?_
      refine R_X13_isFigure  ?_ ?_
      · intro w93
        refine BX13_nextToken_96  ?_ ?_
        · intro hc1
          exact absurd hc1 (by decide)
        · intro hc2
          rw [h7] at w93
          have dg := dg_ne w93
          refine BX13_nextToken_99 m0 rfl ?_ ?_
          · intro hle
            refine BX13_nextToken_116 m0 rfl (by omega) rfl ?_
            refine R_X13_byteAt e tp o (by omega) ?_
            rw [h7]
            refine BX13_nextToken_131 (by omega) (by omega) m0 (by show 10 < (mf G).length; unfold mf; simp) ?_
            refine MG.put e (mfs_10 _ _) fun h1 e => ?_
            exact K138 h1 _ e (f.put (by decide) (by decide)) (tp.put (by decide)) (by rw [fset_ne (by decide), h7]) (fset_ne (by decide)) (fset_ne (by decide)) w93 (by rw [fset_at]; omega) (by rw [fset_at]; omega) (by rw [fset_at]; omega)
          · intro hlt
            refine BX13_nextToken_109 m0 rfl m0 (by show 10 < (mf G).length; unfold mf; simp) ?_
            refine MG.put e (mfs_10 _ _) fun h1 e => ?_
            exact K138 h1 _ e (f.put (by decide) (by decide)) (tp.put (by decide)) (by rw [fset_ne (by decide), h7]) (fset_ne (by decide)) (fset_ne (by decide)) w93 (by rw [fset_at]; omega) (by rw [fset_at]; omega) (by rw [fset_at]; omega)
      · intro w93
        refine BX13_nextToken_96  ?_ ?_
        · intro hc3
          refine BX13_nextToken_310  ?_
          (rw [h7] at w93; rw [if_neg (by rw [w93]; decide)] at k; exact k _ G e f rfl rfl h7 (by omega) (by show min (G 10) 10000 = min u 10000; rw [h10]))
        · intro hc4
          exact absurd hc4 (by decide)
  have L168 : ∀ (m : Nat) (q u : Int) (h : aH) (G : Int → Int) (c : Int), MG g h M G → frG M G → tpM M F G → G 7 = q → G 11 = u → 0 ≤ q → q ≤ F 2 → F 2 - q ≤ m → (∀ h1 G1, MG g h1 M G1 → frG M G1 → G1 8 = G 8 → G1 9 = G 9 → G1 7 = ltN F m q → G1 11 = (lwL F m q).foldl pk1 u → Q none h1 n) → Rn (d + 1) bc bs mX13_nextToken 168 [some (vR (some 301)), some (vI c)] [] h n Q := by
    intro m
    induction m with
    | zero =>
      intro q u h G c e f tp h7 h11 q0 q1 hm k
      have m0 := e.o
      have hb : byA F (G 7) = -1 := if_neg (by omega)
      refine BX13_nextToken_168 (by first | assumption | exact up_at _ _ _ | (rw [up_ne (by omega)]; first | assumption | exact up_at _ _ _ | (rw [up_ne (by omega)]; assumption))) (by rfl) ?_
      refine R_X13_byteAt (by first | omega | (simp only [Ls_len]; omega) | assumption | exact Ls_get (by omega) (by omega) | rfl | decide) (by first | omega | (simp only [Ls_len]; omega) | assumption | exact Ls_get (by omega) (by omega) | rfl | decide) (by first | omega | (simp only [Ls_len]; omega) | assumption | exact Ls_get (by omega) (by omega) | rfl | decide) (by first | omega | (simp only [Ls_len]; omega) | assumption | exact Ls_get (by omega) (by omega) | rfl | decide) ?_
      refine BX13_nextToken_176  ?_
      refine R_X13_isLetterByte  ?_ ?_
      · intro w176
        refine BX13_nextToken_179  ?_ ?_
        · intro hc1
          exact absurd hc1 (by decide)
        · intro hc2
          (exfalso; have := lt_ne w176; omega)
      · intro w176
        refine BX13_nextToken_179  ?_ ?_
        · intro hc3
          refine BX13_nextToken_310  ?_
          exact k _ G e f rfl rfl h7 h11
        · intro hc4
          exact absurd hc4 (by decide)
    | succ m ih =>
      intro q u h G c e f tp h7 h11 q0 q1 hm k
      have m0 := e.o
      unfold ltN lwL at k
      have K221 : ∀ (h2 : aH) (G2 : Int → Int), MG g h2 M G2 → frG M G2 → tpM M F G2 → G2 7 = q → G2 8 = G 8 → G2 9 = G 9 → letB (byA F q) = true → G2 11 = pk1 u (byA F q) → Rn (d + 1) bc bs mX13_nextToken 221 [some (vR (some 301)), some (vI c)] [] h2 n Q := by
        intro h2 G2 e2 f2 tp2 a1 a2 a3 wd b1
        have ql := (byA_lt (lt_ne wd)).2
        have m0 := e2.o
        refine BX13_nextToken_221 m0 rfl (by omega) (by show 7 < (mf G2).length; unfold mf; simp) ?_
        refine MG.put e2 (mfs_7 _ _) fun h1 e => ?_
        refine BX13_nextToken_231 ?_
        rw [if_pos wd, if_pos wd] at k
        refine ih (q + 1) (G2 11) h1 _ c e (f2.put (by decide) (by decide)) (tp2.put (by decide)) (by rw [fset_at, a1]) (fset_ne (by decide)) (by omega) (by omega) (by omega) fun h3 G3 e3 f3 c1 c2 c3 c4 => ?_
        rw [b1] at c4
        exact k h3 G3 e3 f3 (by rw [c1, fset_ne (by decide), a2]) (by rw [c2, fset_ne (by decide), a3]) c3 c4
      refine BX13_nextToken_168 (by first | assumption | exact up_at _ _ _ | (rw [up_ne (by omega)]; first | assumption | exact up_at _ _ _ | (rw [up_ne (by omega)]; assumption))) (by rfl) ?_
      refine R_X13_byteAt (by first | omega | (simp only [Ls_len]; omega) | assumption | exact Ls_get (by omega) (by omega) | rfl | decide) (by first | omega | (simp only [Ls_len]; omega) | assumption | exact Ls_get (by omega) (by omega) | rfl | decide) (by first | omega | (simp only [Ls_len]; omega) | assumption | exact Ls_get (by omega) (by omega) | rfl | decide) (by first | omega | (simp only [Ls_len]; omega) | assumption | exact Ls_get (by omega) (by omega) | rfl | decide) ?_
      refine BX13_nextToken_176  ?_
      refine R_X13_isLetterByte  ?_ ?_
      · intro w176
        refine BX13_nextToken_179  ?_ ?_
        · intro hc1
          exact absurd hc1 (by decide)
        · intro hc2
          rw [h7] at w176
          refine BX13_nextToken_182 m0 rfl ?_ ?_
          · intro hz
            rw [h11] at hz
            refine BX13_nextToken_201 m0 rfl rfl ?_
            refine R_X13_byteAt e tp o (by omega) ?_
            rw [h7, h11]
            refine BX13_nextToken_216 m0 (by show 11 < (mf G).length; unfold mf; simp) ?_
            refine MG.put e (mfs_11 _ _) fun h1 e => ?_
            exact K221 h1 _ e (f.put (by decide) (by decide)) (tp.put (by decide)) (by rw [fset_ne (by decide), h7]) (fset_ne (by decide)) (fset_ne (by decide)) w176 (by rw [fset_at]; exact (if_pos hz).symm)
          · intro hz
            rw [h11] at hz
            refine BX13_nextToken_195 m0 (by show 11 < (mf G).length; unfold mf; simp) ?_
            refine MG.put e (mfs_11 _ _) fun h1 e => ?_
            exact K221 h1 _ e (f.put (by decide) (by decide)) (tp.put (by decide)) (by rw [fset_ne (by decide), h7]) (fset_ne (by decide)) (fset_ne (by decide)) w176 (by rw [fset_at]; exact (if_neg hz).symm)
      · intro w176
        refine BX13_nextToken_179  ?_ ?_
        · intro hc3
          refine BX13_nextToken_310  ?_
          (rw [h7] at w176; rw [if_neg (by rw [w176]; decide), if_neg (by rw [w176]; decide)] at k; exact k _ G e f rfl rfl h7 h11)
        · intro hc4
          exact absurd hc4 (by decide)
  have e0 : MG g h M (M 0) := by unfold MG; rw [fset_id]; exact e
  refine L0 300 q h (M 0) e0 (fun _ _ => rfl) tp h7 q0 q1 (by omega) fun h1 G e f tp h7 => ?_
  have h7 : G 7 = tkS F q := h7
  have sq := tkS_in (F := F) q1
  have m0 := e.o
  have qb := byA_in o (tkS F q)
  refine BX13_nextToken_39 m0 rfl (by show 8 < (mf G).length; unfold mf; simp) ?_
  refine MG.put e (mfs_8 _ _) fun h1 e => ?_
  rw [h7] at e
  have f := f.put (j := 8) (v := tkS F q) (by decide) (by decide)
  have tp := tp.put (j := 8) (v := tkS F q) (by decide)
  have g8 : fset G 8 (tkS F q) 8 = tkS F q := fset_at _ _ _
  have g7 : fset G 8 (tkS F q) 7 = tkS F q := by rw [fset_ne (by decide)]; exact h7
  generalize fset G 8 (tkS F q) = G at *
  have m0 := e.o
  refine BX13_nextToken_47 m0 rfl ?_
  refine R_X13_byteAt e tp o (by omega) ?_
  rw [g7]
  refine BX13_nextToken_55 ?_ ?_
  · intro hc
    refine BX13_nextToken_68 ?_
    refine R_X13_isFigure ?_ ?_
    · intro wd
      refine BX13_nextToken_72 (fun w => absurd w (by decide)) fun _ => ?_
      refine BX13_nextToken_75 m0 (by show 9 < (mf G).length; unfold mf; simp) ?_
      refine MG.put e (mfs_9 _ _) fun h1 e => ?_
      have m0 := e.o
      refine BX13_nextToken_80 m0 (by show 10 < (mf (fset G 9 1)).length; unfold mf; simp) ?_
      refine MG.put e (mfs_10 _ _) fun h1 e => ?_
      refine L85 300 (tkS F q) 0 h1 _ _ e ((f.put (by decide) (by decide)).put (by decide) (by decide)) ((tp.put (by decide)).put (by decide)) (by rw [fset_ne (by decide), fset_ne (by decide), g7]) (fset_at _ _ _) (by omega) sq.2 (by omega) (by decide) (by decide) fun h3 G3 e3 f3 c1 c2 c3 c4 c5 => ?_
      have t := tk_2 (F := F) (p := q) (num := G3 10) (word := G3 11) wd ⟨c4, c5⟩
      refine k h3 G3 e3 f3 (by rw [c1, fset_ne (by decide), fset_ne (by decide), g8]) (by rw [t.2.1]; exact c3) ?_
      rw [c2, fset_ne (by decide), fset_at]
      exact t.2.2
    · intro wd
      refine BX13_nextToken_72 (fun _ => ?_) fun w => absurd rfl w
      refine BX13_nextToken_151 ?_
      refine R_X13_isLetterByte ?_ ?_
      · intro wl
        refine BX13_nextToken_155 (fun w => absurd w (by decide)) fun _ => ?_
        refine BX13_nextToken_158 m0 (by show 9 < (mf G).length; unfold mf; simp) ?_
        refine MG.put e (mfs_9 _ _) fun h1 e => ?_
        have m0 := e.o
        refine BX13_nextToken_163 m0 (by show 11 < (mf (fset G 9 2)).length; unfold mf; simp) ?_
        refine MG.put e (mfs_11 _ _) fun h1 e => ?_
        refine L168 300 (tkS F q) 0 h1 _ _ e ((f.put (by decide) (by decide)).put (by decide) (by decide)) ((tp.put (by decide)).put (by decide)) (by rw [fset_ne (by decide), fset_ne (by decide), g7]) (fset_at _ _ _) (by omega) sq.2 (by omega) fun h3 G3 e3 f3 c1 c2 c3 c4 => ?_
        have t := tk_w (F := F) (p := q) (num := G3 10) (word := G3 11) wl c4
        refine k h3 G3 e3 f3 (by rw [c1, fset_ne (by decide), fset_ne (by decide), g8]) (by rw [t.1]; exact c3) ?_
        rw [c2, fset_ne (by decide), fset_at]
        exact t.2
      · intro wl
        refine BX13_nextToken_155 (fun _ => ?_) fun w => absurd rfl w
        refine BX13_nextToken_234 ?_
        have nd : ¬ digB (byA F (tkS F q)) = true := by rw [wd]; decide
        have nl : ¬ letB (byA F (tkS F q)) = true := by rw [wl]; decide
        have K250 : ∀ (h2 : aH) (G2 : Int → Int), MG g h2 M G2 → frG M G2 → tpM M F G2 → G2 7 = tkS F q → G2 8 = tkS F q → ((G2 9 = byA F (tkS F q) ∧ sgS (byA F (tkS F q))) ∨ (G2 9 = 3 ∧ ¬ sgS (byA F (tkS F q)))) → Rn (d + 1) bc bs mX13_nextToken 250 [some (vR (some 301)), some (vI (byA F (tkS F q)))] [] h2 n Q := by
          intro h2 G2 e2 f2 tp2 a1 a2 a3
          have m0 := e2.o
          refine BX13_nextToken_250 m0 rfl (by omega) (by show 7 < (mf G2).length; unfold mf; simp) ?_
          refine MG.put e2 (mfs_7 _ _) fun h1 e => ?_
          rw [a1] at e
          have f := f2.put (j := 7) (v := tkS F q + 1) (by decide) (by decide)
          have tp := tp2.put (j := 7) (v := tkS F q + 1) (by decide)
          have b7 : fset G2 7 (tkS F q + 1) 7 = tkS F q + 1 := fset_at _ _ _
          have b8 : fset G2 7 (tkS F q + 1) 8 = tkS F q := by rw [fset_ne (by decide)]; exact a2
          have b9 : fset G2 7 (tkS F q + 1) 9 = G2 9 := fset_ne (by decide)
          rw [← b9] at a3
          generalize fset G2 7 (tkS F q + 1) = G at *
          have m0 := e.o
          have s5 := sgK_5 (byA F (tkS F q))
          have s6 := sgK_6 (byA F (tkS F q))
          have fin : ¬ ((byA F (tkS F q) = 60 ∨ byA F (tkS F q) = 62) ∧ byA F (tkS F q + 1) = 61) → Rn (d + 1) bc bs mX13_nextToken 310 [some (vR (some 301)), some (vI (byA F (tkS F q)))] [] h1 n Q := by
            intro hz
            refine BX13_nextToken_310 ?_
            have t := tk_s (F := F) (p := q) (num := G 10) (word := G 11) (tok := G 9) (by omega) nd nl (.inr (.inr ⟨a3, hz⟩))
            refine k h1 G e f b8 ?_ t.2
            rw [t.1]
            unfold sgT
            rw [if_neg (by omega), if_neg (by omega)]
            exact b7
          have yes : ((byA F (tkS F q) = 60 ∨ byA F (tkS F q) = 62) ∧ byA F (tkS F q + 1) = 61) → Rn (d + 1) bc bs mX13_nextToken 285 [some (vR (some 301)), some (vI (byA F (tkS F q)))] [] h1 n Q := by
            intro hz
            have fin2 : ∀ (tok : Int) (h2 : aH), MG g h2 M (fset G 9 tok) → ((tok = 4 ∧ byA F (tkS F q) = 60 ∧ byA F (tkS F q + 1) = 61) ∨ (tok = 5 ∧ byA F (tkS F q) = 62 ∧ byA F (tkS F q + 1) = 61)) → Rn (d + 1) bc bs mX13_nextToken 300 [some (vR (some 301)), some (vI (byA F (tkS F q)))] [] h2 n Q := by
              intro tok h2 e2 ht
              have m0 := e2.o
              refine BX13_nextToken_300 m0 rfl (by rw [show fset G 9 tok 7 = G 7 from fset_ne (by decide), b7]; omega) (by show 7 < (mf (fset G 9 tok)).length; unfold mf; simp) ?_
              refine MG.put e2 (mfs_7 _ _) fun h3 e3 => ?_
              refine BX13_nextToken_310 ?_
              have t := tk_s (F := F) (p := q) (num := fset (fset G 9 tok) 7 (fset G 9 tok 7 + 1) 10) (word := fset (fset G 9 tok) 7 (fset G 9 tok 7 + 1) 11) (tok := tok) (by omega) nd nl (by omega)
              refine k h3 _ e3 ((f.put (by decide) (by decide)).put (by decide) (by decide)) (by rw [fset_ne (by decide), fset_ne (by decide)]; exact b8) ?_ (by rw [show fset (fset G 9 tok) 7 (fset G 9 tok 7 + 1) 9 = tok from by rw [fset_ne (by decide), fset_at]]; exact t.2)
              rw [t.1, fset_at, fset_ne (by decide), b7]
              unfold sgT
              rcases ht with ⟨_, c1, c2⟩ | ⟨_, c1, c2⟩
              · rw [if_pos ⟨c2, by omega⟩]; show tkS F q + 1 + 1 = tkS F q + 2; omega
              · rw [if_neg (by omega), if_pos ⟨c2, by omega⟩]; show tkS F q + 1 + 1 = tkS F q + 2; omega
            refine BX13_nextToken_285 ?_ ?_
            · intro h60
              refine BX13_nextToken_296 m0 (by show 9 < (mf G).length; unfold mf; simp) ?_
              refine MG.put e (mfs_9 _ _) fun h2 e2 => ?_
              exact fin2 5 h2 e2 (.inr ⟨rfl, by omega, hz.2⟩)
            · intro h60
              refine BX13_nextToken_292 m0 (by show 9 < (mf G).length; unfold mf; simp) ?_
              refine MG.put e (mfs_9 _ _) fun h2 e2 => ?_
              exact fin2 4 h2 e2 (.inl ⟨rfl, h60, hz.2⟩)
          have next : (byA F (tkS F q) = 60 ∨ byA F (tkS F q) = 62) → Rn (d + 1) bc bs mX13_nextToken 272 [some (vR (some 301)), some (vI (byA F (tkS F q)))] [] h1 n Q := by
            intro hz
            refine BX13_nextToken_272 m0 rfl ?_
            refine R_X13_byteAt e tp o (by omega) ?_
            rw [b7]
            refine BX13_nextToken_280 ?_ ?_
            · intro hy; exact fin fun w => hy w.2
            · intro hy; exact yes ⟨hz, hy⟩
          refine BX13_nextToken_260 ?_ ?_
          · intro hz; exact next (.inl hz)
          · intro hz
            refine BX13_nextToken_266 ?_ ?_
            · intro hy; exact fin fun w => by omega
            · intro hy; exact next (.inr hy)
        refine R_X13_isSign ?_ ?_
        · intro ws
          refine BX13_nextToken_239 (fun w => absurd w (by decide)) fun _ => ?_
          refine BX13_nextToken_242 m0 (by show 9 < (mf G).length; unfold mf; simp) ?_
          refine MG.put e (mfs_9 _ _) fun h2 e2 => ?_
          exact K250 h2 _ e2 (f.put (by decide) (by decide)) (tp.put (by decide)) (by rw [fset_ne (by decide)]; exact g7) (by rw [fset_ne (by decide)]; exact g8) (.inl ⟨fset_at _ _ _, ws⟩)
        · intro ws
          refine BX13_nextToken_239 (fun _ => ?_) fun w => absurd rfl w
          refine BX13_nextToken_246 m0 (by show 9 < (mf G).length; unfold mf; simp) ?_
          refine MG.put e (mfs_9 _ _) fun h2 e2 => ?_
          exact K250 h2 _ e2 (f.put (by decide) (by decide)) (tp.put (by decide)) (by rw [fset_ne (by decide)]; exact g7) (by rw [fset_ne (by decide)]; exact g8) (.inr ⟨fset_at _ _ _, ws⟩)
  · intro hc
    refine BX13_nextToken_60 m0 (by show 9 < (mf G).length; unfold mf; simp) ?_
    refine MG.put e (mfs_9 _ _) fun h1 e => ?_
    refine BX13_nextToken_65 ?_
    have t := tk_0 (F := F) (p := q) (num := fset G 9 0 10) (word := fset G 9 0 11) (by omega)
    exact k h1 _ e (f.put (by decide) (by decide)) (by rw [fset_ne (by decide)]; exact g8) (by rw [fset_ne (by decide), t.2.1]; exact g7) (by rw [fset_at]; exact t.2.2)
end NEXT
