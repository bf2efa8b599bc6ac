/-! Sorters: the reference's search. -/
def xL (nx : (Int → Int) → Option (Int → Int)) (Y : Int → Int) (l : Int) : Nat → Int → (Int → Int) → Option (Int → Int)
  | 0, _, _ => none
  | m + 1, v, A => if mayM Y l v A l.toNat 0 = 0 then xL nx Y l m (v + 1) A else match nx (fset A l v) with
    | some r => some r
    | none => xL nx Y l m (v + 1) A
def xS (Y : Int → Int) (c : Int) : Nat → Int → (Int → Int) → Option (Int → Int)
  | 0, _, A => some A
  | f + 1, l, A => xL (xS Y c f (l + 1)) Y l c.toNat 0 A
theorem mayM_ext {Y A B : Int → Int} {l v : Int} : ∀ (m : Nat) (o : Int), (∀ j, o ≤ j → j < o + m → A j = B j) → mayM Y l v A m o = mayM Y l v B m o := by
  intro m
  induction m with
  | zero => intro o _; rfl
  | succ m ih =>
    intro o h
    unfold mayM
    rw [h o (by omega) (by omega), ih (o + 1) (fun j j0 j1 => h j (by omega) (by omega))]
section SORT3
variable {d bc bs n : Nat} {g h : aH} {Q : aQ} {W V : Int → Int → Int} {X : Int → Tx} {F B : Int → Int} {wr cm : Int} {M : Int → Int → Int}
theorem R_X13_canSort {l : Int} {R : Int → Int} {l2 : Option aV} (e : IsM g h (fset M 14 R)) (t : MT M W V X F B wr cm) (ok : okW W) (l0 : 0 ≤ l) (l1 : l < 8) (k : Q (some (vI (mayM (W 2) l (R l) R l.toNat 0))) h n) : Rn (d + 1) bc bs mX13_canSort 0 [some (vR (some 301)), some (vI l), l2] [] h n Q := by
  have m0 := e.o
  have m1 : h 302 = cI (Ls 3389 (M 1)) := e.a1
  have m14 : h 315 = cI (Ls 8 R) := e.a14
  have tl := (t.1.1.2.2.1.2.2.2.1 l l0 l1).1
  have yl := (ok.2.2.2.2.2.2.2.2.2.2.1 l l0 l1).1
  have loop : ∀ (m : Nat) (o : Int), 0 ≤ o → o + m = l → Q (some (vI (mayM (W 2) l (R l) R m o))) h n → Rn (d + 1) bc bs mX13_canSort 2 [some (vR (some 301)), some (vI l), some (vI o)] [] h n Q := by
    intro m
    induction m with
    | zero =>
      intro o o0 o1 k
      refine BX13_canSort_2  ?_ ?_
      · intro hc1
        first
        | (exfalso; omega)
        | (
            refine BX13_canSort_47  ?_
            exact k
          )
      · intro hc2
        first
        | (exfalso; omega)
        | (
            (exfalso; omega)
          )
    | succ m ih =>
      intro o o0 o1 k
      unfold mayM at k
      rw [← tl] at k
      refine BX13_canSort_2  ?_ ?_
      · intro hc1
        refine BX13_canSort_47  ?_
        (exfalso; omega)
      · intro hc2
        refine BX13_canSort_7 (by first | assumption | exact up_at _ _ _ | (rw [up_ne (by omega)]; first | assumption | exact up_at _ _ _ | (rw [up_ne (by omega)]; assumption))) (by rfl) (by first | assumption | exact up_at _ _ _ | (rw [up_ne (by omega)]; first | assumption | exact up_at _ _ _ | (rw [up_ne (by omega)]; assumption))) (by first | omega | (rw [fset_at]; omega) | (simp only [Ls_len]; omega) | assumption | exact Ls_get (by omega) (by omega) | exact up_at _ _ _ | rfl | decide) (by first | exact Ls_get (by omega) (by omega) | assumption) (by first | omega | (rw [fset_at]; omega) | (simp only [Ls_len]; omega) | assumption | exact Ls_get (by omega) (by omega) | exact up_at _ _ _ | rfl | decide) (by first | exact Ls_get (by omega) (by omega) | assumption) ?_ ?_
        · intro hc3
          refine BX13_canSort_41 (by first | omega | (rw [fset_at]; omega) | (simp only [Ls_len]; omega) | assumption | exact Ls_get (by omega) (by omega) | exact up_at _ _ _ | rfl | decide) ?_
          (rw [if_neg (by omega)] at k; exact ih _ (by omega) (by omega) k)
        · intro hc4
          refine BX13_canSort_22 (by first | assumption | exact up_at _ _ _ | (rw [up_ne (by omega)]; first | assumption | exact up_at _ _ _ | (rw [up_ne (by omega)]; assumption))) (by rfl) (by first | omega | (rw [fset_at]; omega) | (simp only [Ls_len]; omega) | assumption | exact Ls_get (by omega) (by omega) | exact up_at _ _ _ | rfl | decide) (by first | assumption | exact up_at _ _ _ | (rw [up_ne (by omega)]; first | assumption | exact up_at _ _ _ | (rw [up_ne (by omega)]; assumption))) (by first | omega | (rw [fset_at]; omega) | (simp only [Ls_len]; omega) | assumption | exact Ls_get (by omega) (by omega) | exact up_at _ _ _ | rfl | decide) (by first | exact Ls_get (by omega) (by omega) | assumption) ?_
          refine R_X13_has (by first | omega | (rw [fset_at]; omega) | (simp only [Ls_len]; omega) | assumption | exact Ls_get (by omega) (by omega) | exact up_at _ _ _ | rfl | decide) (by first | omega | (rw [fset_at]; omega) | (simp only [Ls_len]; omega) | assumption | exact Ls_get (by omega) (by omega) | exact up_at _ _ _ | rfl | decide) (by first | omega | (rw [fset_at]; omega) | (simp only [Ls_len]; omega) | assumption | exact Ls_get (by omega) (by omega) | exact up_at _ _ _ | rfl | decide) (by first | omega | (rw [fset_at]; omega) | (simp only [Ls_len]; omega) | assumption | exact Ls_get (by omega) (by omega) | exact up_at _ _ _ | rfl | decide) ?_ ?_
          · intro w5
            refine BX13_canSort_36  ?_ ?_
            · intro hc5
              exact absurd hc5 (by decide)
            · intro hc6
              refine BX13_canSort_39  ?_
              (rw [if_pos (by omega)] at k; exact k)
          · intro w6
            refine BX13_canSort_36  ?_ ?_
            · intro hc7
              refine BX13_canSort_41 (by first | omega | (rw [fset_at]; omega) | (simp only [Ls_len]; omega) | assumption | exact Ls_get (by omega) (by omega) | exact up_at _ _ _ | rfl | decide) ?_
              (rw [if_neg (by omega)] at k; exact ih _ (by omega) (by omega) k)
            · intro hc8
              exact absurd hc8 (by decide)
  refine BX13_canSort_0  ?_
  exact loop l.toNat 0 (by omega) (by omega) k
theorem sort_bt {N c : Int} (t : MT M W V X F B wr cm) (ok : okW W) (n8 : N ≤ 8) (c0 : 0 ≤ c) (c8 : c ≤ 8) : ∀ (f : Nat) (l x4 : Int) (R : Int → Int) (h : aH), 0 ≤ l → l + f = N → (∀ j, l ≤ j → j < 8 → R j = -1) → IsM g h (fset M 14 R) → (∀ r h2, xS (W 2) c f l R = some r → IsM g h2 (fset M 14 r) → Rn (d + 3) bc bs mX13_areSorted 26 [some (vR (some 301)), some (vI N), some (vI c), some (vI N), some (vI x4)] [] h2 n Q) → (∀ h2 l', l' = l - 1 → xS (W 2) c f l R = none → IsM g h2 (fset M 14 R) → Rn (d + 3) bc bs mX13_areSorted 26 [some (vR (some 301)), some (vI N), some (vI c), some (vI l'), some (vI x4)] [] h2 n Q) → Rn (d + 3) bc bs mX13_areSorted 26 [some (vR (some 301)), some (vI N), some (vI c), some (vI l), some (vI x4)] [] h n Q := by
  intro f
  induction f with
  | zero =>
    intro l x4 R h l0 l1 hR e KF KB
    rw [show l = N by omega]
    exact KF R h rfl e
  | succ f ih =>
    intro l x4 R h l0 l1 hR e KF KB
    have Rl := hR l (by omega) (by omega)
    have in45 : ∀ (m : Nat) (v : Int) (h1 : aH), 0 ≤ v → v + m = c → IsM g h1 (fset M 14 (fset R l v)) → (∀ r h2, xL (xS (W 2) c f (l + 1)) (W 2) l m v R = some r → IsM g h2 (fset M 14 r) → Rn (d + 3) bc bs mX13_areSorted 26 [some (vR (some 301)), some (vI N), some (vI c), some (vI N), some (vI x4)] [] h2 n Q) → (∀ h2 l', l' = l - 1 → xL (xS (W 2) c f (l + 1)) (W 2) l m v R = none → IsM g h2 (fset M 14 R) → Rn (d + 3) bc bs mX13_areSorted 26 [some (vR (some 301)), some (vI N), some (vI c), some (vI l'), some (vI x4)] [] h2 n Q) → Rn (d + 3) bc bs mX13_areSorted 45 [some (vR (some 301)), some (vI N), some (vI c), some (vI l), some (vI x4)] [] h1 n Q := by
      intro m
      induction m with
      | zero =>
        intro v h1 v0 v1 e1 KF KB
        have m0 := e1.o
        have m14 : h1 315 = cI (Ls 8 (fset R l v)) := e1.a14
        have rv : fset R l v l = v := fset_at _ _ _
        have e2 := e1.s14 (f := R)
        rw [fset2] at e2
        have er : fset (fset R l v) l (-1) = R := by rw [fset2, ← Rl, fset_id]
        refine BX13_areSorted_45 (by first | assumption | exact up_at _ _ _ | (rw [up_ne (by omega)]; first | assumption | exact up_at _ _ _ | (rw [up_ne (by omega)]; assumption))) (by rfl) (by first | assumption | exact up_at _ _ _ | (rw [up_ne (by omega)]; first | assumption | exact up_at _ _ _ | (rw [up_ne (by omega)]; assumption))) (by first | omega | (rw [fset_at]; omega) | (simp only [Ls_len]; omega) | assumption | exact Ls_get (by omega) (by omega) | exact up_at _ _ _ | rfl | decide) (by first | exact Ls_get (by omega) (by omega) | assumption) ?_ ?_
        · intro hc1
          first
          | (exfalso; omega)
          | (
              refine BX13_areSorted_76 (by first | assumption | exact up_at _ _ _ | (rw [up_ne (by omega)]; first | assumption | exact up_at _ _ _ | (rw [up_ne (by omega)]; assumption))) (by rfl) (by first | assumption | exact up_at _ _ _ | (rw [up_ne (by omega)]; first | assumption | exact up_at _ _ _ | (rw [up_ne (by omega)]; assumption))) (by first | omega | (rw [fset_at]; omega) | (simp only [Ls_len]; omega) | assumption | exact Ls_get (by omega) (by omega) | exact up_at _ _ _ | rfl | decide) (by first | exact Ls_get (by omega) (by omega) | assumption) ?_ ?_
              · intro hc2
                first
                | (exfalso; omega)
                | (
                    refine BX13_areSorted_92 (by first | assumption | exact up_at _ _ _ | (rw [up_ne (by omega)]; first | assumption | exact up_at _ _ _ | (rw [up_ne (by omega)]; assumption))) (by rfl) (by first | assumption | exact up_at _ _ _ | (rw [up_ne (by omega)]; first | assumption | exact up_at _ _ _ | (rw [up_ne (by omega)]; assumption))) (by first | omega | (rw [fset_at]; omega) | (simp only [Ls_len]; omega) | assumption | exact Ls_get (by omega) (by omega) | exact up_at _ _ _ | rfl | decide) (by first | omega | (rw [fset_at]; omega) | (simp only [Ls_len]; omega) | assumption | exact Ls_get (by omega) (by omega) | exact up_at _ _ _ | rfl | decide) (by first | omega | (rw [fset_at]; omega) | (simp only [Ls_len]; omega) | assumption | exact Ls_get (by omega) (by omega) | exact up_at _ _ _ | rfl | decide) ?_
                    try rw [Ls_set (by omega)]
                    refine BX13_areSorted_99 (by first | omega | (rw [fset_at]; omega) | (simp only [Ls_len]; omega) | assumption | exact Ls_get (by omega) (by omega) | exact up_at _ _ _ | rfl | decide) ?_
                    exact KB _ _ (by omega) rfl (by rw [er]; exact e2)
                  )
              · intro hc3
                first
                | (exfalso; omega)
                | (
                    (exfalso; omega)
                  )
            )
        · intro hc4
          first
          | (exfalso; omega)
          | (
              (exfalso; omega)
            )
      | succ m ih2 =>
        intro v h1 v0 v1 e1 KF KB
        have m0 := e1.o
        have m14 : h1 315 = cI (Ls 8 (fset R l v)) := e1.a14
        have rv : fset R l v l = v := fset_at _ _ _
        have my : mayM (W 2) l (fset R l v l) (fset R l v) l.toNat 0 = mayM (W 2) l v R l.toNat 0 := by
          rw [rv]
          exact mayM_ext _ _ (fun j j0 j1 => fset_ne (by omega))
        have m01 := mayM_01 (Y := W 2) (A := R) (l := l) (v := v) l.toNat 0
        unfold xL at KF KB
        have e2 := e1.s14 (f := fset R l (v + 1))
        rw [fset2] at e2
        have step26 : (∀ r h2, xL (xS (W 2) c f (l + 1)) (W 2) l m (v + 1) R = some r → IsM g h2 (fset M 14 r) → Rn (d + 3) bc bs mX13_areSorted 26 [some (vR (some 301)), some (vI N), some (vI c), some (vI N), some (vI x4)] [] h2 n Q) → (∀ h2 l', l' = l - 1 → xL (xS (W 2) c f (l + 1)) (W 2) l m (v + 1) R = none → IsM g h2 (fset M 14 R) → Rn (d + 3) bc bs mX13_areSorted 26 [some (vR (some 301)), some (vI N), some (vI c), some (vI l'), some (vI x4)] [] h2 n Q) → ∀ h2, IsM g h2 (fset M 14 (fset R l v)) → Rn (d + 3) bc bs mX13_areSorted 26 [some (vR (some 301)), some (vI N), some (vI c), some (vI l), some (vI x4)] [] h2 n Q := by
          intro KF KB h2 e3
          have m0 := e3.o
          have m14 : h2 315 = cI (Ls 8 (fset R l v)) := e3.a14
          have e4 := e3.s14 (f := fset R l (v + 1))
          rw [fset2] at e4
          refine BX13_areSorted_26  ?_ ?_
          · intro hc1
            first
            | (exfalso; omega)
            | (
                (exfalso; omega)
              )
          · intro hc2
            first
            | (exfalso; omega)
            | (
                refine BX13_areSorted_30  ?_ ?_
                · intro hc3
                  first
                  | (exfalso; omega)
                  | (
                      (exfalso; omega)
                    )
                · intro hc4
                  first
                  | (exfalso; omega)
                  | (
                      refine BX13_areSorted_35 (by first | assumption | exact up_at _ _ _ | (rw [up_ne (by omega)]; first | assumption | exact up_at _ _ _ | (rw [up_ne (by omega)]; assumption))) (by rfl) (by first | assumption | exact up_at _ _ _ | (rw [up_ne (by omega)]; first | assumption | exact up_at _ _ _ | (rw [up_ne (by omega)]; assumption))) (by first | omega | (rw [fset_at]; omega) | (simp only [Ls_len]; omega) | assumption | exact Ls_get (by omega) (by omega) | exact up_at _ _ _ | rfl | decide) (by first | exact Ls_get (by omega) (by omega) | assumption) (by first | omega | (rw [fset_at]; omega) | (simp only [Ls_len]; omega) | assumption | exact Ls_get (by omega) (by omega) | exact up_at _ _ _ | rfl | decide) (by first | omega | (rw [fset_at]; omega) | (simp only [Ls_len]; omega) | assumption | exact Ls_get (by omega) (by omega) | exact up_at _ _ _ | rfl | decide) (by first | omega | (rw [fset_at]; omega) | (simp only [Ls_len]; omega) | assumption | exact Ls_get (by omega) (by omega) | exact up_at _ _ _ | rfl | decide) ?_
                      try rw [Ls_set (by omega)]
                      (rw [rv, show fset (fset R l v) l (v + 1) = fset R l (v + 1) from fset2]; exact ih2 _ _ (by omega) (by omega) e4 KF KB)
                    )
              )
        by_cases q : mayM (W 2) l v R l.toNat 0 = 0
        · rw [if_pos q] at KF KB
          refine BX13_areSorted_45 (by first | assumption | exact up_at _ _ _ | (rw [up_ne (by omega)]; first | assumption | exact up_at _ _ _ | (rw [up_ne (by omega)]; assumption))) (by rfl) (by first | assumption | exact up_at _ _ _ | (rw [up_ne (by omega)]; first | assumption | exact up_at _ _ _ | (rw [up_ne (by omega)]; assumption))) (by first | omega | (rw [fset_at]; omega) | (simp only [Ls_len]; omega) | assumption | exact Ls_get (by omega) (by omega) | exact up_at _ _ _ | rfl | decide) (by first | exact Ls_get (by omega) (by omega) | assumption) ?_ ?_
          · intro hc1
            first
            | (exfalso; omega)
            | (
                (exfalso; omega)
              )
          · intro hc2
            first
            | (exfalso; omega)
            | (
                refine BX13_areSorted_55 (by first | assumption | exact up_at _ _ _ | (rw [up_ne (by omega)]; first | assumption | exact up_at _ _ _ | (rw [up_ne (by omega)]; assumption))) ?_
                refine R_X13_canSort (by first | omega | (rw [fset_at]; omega) | (simp only [Ls_len]; omega) | assumption | exact Ls_get (by omega) (by omega) | exact up_at _ _ _ | rfl | decide) (by first | omega | (rw [fset_at]; omega) | (simp only [Ls_len]; omega) | assumption | exact Ls_get (by omega) (by omega) | exact up_at _ _ _ | rfl | decide) (by first | omega | (rw [fset_at]; omega) | (simp only [Ls_len]; omega) | assumption | exact Ls_get (by omega) (by omega) | exact up_at _ _ _ | rfl | decide) (by first | omega | (rw [fset_at]; omega) | (simp only [Ls_len]; omega) | assumption | exact Ls_get (by omega) (by omega) | exact up_at _ _ _ | rfl | decide) (by first | omega | (rw [fset_at]; omega) | (simp only [Ls_len]; omega) | assumption | exact Ls_get (by omega) (by omega) | exact up_at _ _ _ | rfl | decide) ?_
                rw [my]
                refine BX13_areSorted_60  ?_ ?_
                · intro hc3
                  first
                  | (exfalso; omega)
                  | (
                      (exfalso; omega)
                    )
                · intro hc4
                  first
                  | (exfalso; omega)
                  | (
                      refine BX13_areSorted_63 (by first | assumption | exact up_at _ _ _ | (rw [up_ne (by omega)]; first | assumption | exact up_at _ _ _ | (rw [up_ne (by omega)]; assumption))) (by rfl) (by first | assumption | exact up_at _ _ _ | (rw [up_ne (by omega)]; first | assumption | exact up_at _ _ _ | (rw [up_ne (by omega)]; assumption))) (by first | omega | (rw [fset_at]; omega) | (simp only [Ls_len]; omega) | assumption | exact Ls_get (by omega) (by omega) | exact up_at _ _ _ | rfl | decide) (by first | exact Ls_get (by omega) (by omega) | assumption) (by first | omega | (rw [fset_at]; omega) | (simp only [Ls_len]; omega) | assumption | exact Ls_get (by omega) (by omega) | exact up_at _ _ _ | rfl | decide) (by first | omega | (rw [fset_at]; omega) | (simp only [Ls_len]; omega) | assumption | exact Ls_get (by omega) (by omega) | exact up_at _ _ _ | rfl | decide) (by first | omega | (rw [fset_at]; omega) | (simp only [Ls_len]; omega) | assumption | exact Ls_get (by omega) (by omega) | exact up_at _ _ _ | rfl | decide) ?_
                      try rw [Ls_set (by omega)]
                      refine BX13_areSorted_73  ?_
                      (rw [rv, show fset (fset R l v) l (v + 1) = fset R l (v + 1) from fset2]; exact ih2 _ _ (by omega) (by omega) e2 KF KB)
                    )
              )
        · rw [if_neg q] at KF KB
          have nx : Rn (d + 3) bc bs mX13_areSorted 26 [some (vR (some 301)), some (vI N), some (vI c), some (vI (l + 1)), some (vI x4)] [] h1 n Q := by
            refine ih (l + 1) x4 (fset R l v) h1 (by omega) (by omega) (fun j j0 j1 => by rw [fset_ne (by omega)]; exact hR j (by omega) j1) e1 (fun r h2 er e3 => ?_) (fun h2 l' el er e3 => ?_)
            · exact KF r h2 (by rw [er]) e3
            · rw [er] at KF KB
              rw [show l' = l by omega]
              exact step26 KF KB h2 e3
          refine BX13_areSorted_45 (by first | assumption | exact up_at _ _ _ | (rw [up_ne (by omega)]; first | assumption | exact up_at _ _ _ | (rw [up_ne (by omega)]; assumption))) (by rfl) (by first | assumption | exact up_at _ _ _ | (rw [up_ne (by omega)]; first | assumption | exact up_at _ _ _ | (rw [up_ne (by omega)]; assumption))) (by first | omega | (rw [fset_at]; omega) | (simp only [Ls_len]; omega) | assumption | exact Ls_get (by omega) (by omega) | exact up_at _ _ _ | rfl | decide) (by first | exact Ls_get (by omega) (by omega) | assumption) ?_ ?_
          · intro hc1
            refine BX13_areSorted_76 (by first | assumption | exact up_at _ _ _ | (rw [up_ne (by omega)]; first | assumption | exact up_at _ _ _ | (rw [up_ne (by omega)]; assumption))) (by rfl) (by first | assumption | exact up_at _ _ _ | (rw [up_ne (by omega)]; first | assumption | exact up_at _ _ _ | (rw [up_ne (by omega)]; assumption))) (by first | omega | (rw [fset_at]; omega) | (simp only [Ls_len]; omega) | assumption | exact Ls_get (by omega) (by omega) | exact up_at _ _ _ | rfl | decide) (by first | exact Ls_get (by omega) (by omega) | assumption) ?_ ?_
            · intro hc2
              (exfalso; omega)
            · intro hc3
              refine BX13_areSorted_86 (by first | omega | (rw [fset_at]; omega) | (simp only [Ls_len]; omega) | assumption | exact Ls_get (by omega) (by omega) | exact up_at _ _ _ | rfl | decide) ?_
              exact nx
          · intro hc4
            refine BX13_areSorted_55 (by first | assumption | exact up_at _ _ _ | (rw [up_ne (by omega)]; first | assumption | exact up_at _ _ _ | (rw [up_ne (by omega)]; assumption))) ?_
            refine R_X13_canSort (by first | omega | (rw [fset_at]; omega) | (simp only [Ls_len]; omega) | assumption | exact Ls_get (by omega) (by omega) | exact up_at _ _ _ | rfl | decide) (by first | omega | (rw [fset_at]; omega) | (simp only [Ls_len]; omega) | assumption | exact Ls_get (by omega) (by omega) | exact up_at _ _ _ | rfl | decide) (by first | omega | (rw [fset_at]; omega) | (simp only [Ls_len]; omega) | assumption | exact Ls_get (by omega) (by omega) | exact up_at _ _ _ | rfl | decide) (by first | omega | (rw [fset_at]; omega) | (simp only [Ls_len]; omega) | assumption | exact Ls_get (by omega) (by omega) | exact up_at _ _ _ | rfl | decide) (by first | omega | (rw [fset_at]; omega) | (simp only [Ls_len]; omega) | assumption | exact Ls_get (by omega) (by omega) | exact up_at _ _ _ | rfl | decide) ?_
            rw [my]
            refine BX13_areSorted_60  ?_ ?_
            · intro hc5
              refine BX13_areSorted_76 (by first | assumption | exact up_at _ _ _ | (rw [up_ne (by omega)]; first | assumption | exact up_at _ _ _ | (rw [up_ne (by omega)]; assumption))) (by rfl) (by first | assumption | exact up_at _ _ _ | (rw [up_ne (by omega)]; first | assumption | exact up_at _ _ _ | (rw [up_ne (by omega)]; assumption))) (by first | omega | (rw [fset_at]; omega) | (simp only [Ls_len]; omega) | assumption | exact Ls_get (by omega) (by omega) | exact up_at _ _ _ | rfl | decide) (by first | exact Ls_get (by omega) (by omega) | assumption) ?_ ?_
              · intro hc6
                (exfalso; omega)
              · intro hc7
                refine BX13_areSorted_86 (by first | omega | (rw [fset_at]; omega) | (simp only [Ls_len]; omega) | assumption | exact Ls_get (by omega) (by omega) | exact up_at _ _ _ | rfl | decide) ?_
                exact nx
            · intro hc8
              (exfalso; omega)
    have m0 := e.o
    have m14 : h 315 = cI (Ls 8 R) := e.a14
    have e2 := e.s14 (f := fset R l (R l + 1))
    rw [fset2] at e2
    refine BX13_areSorted_26  ?_ ?_
    · intro hc1
      first
      | (exfalso; omega)
      | (
          (exfalso; omega)
        )
    · intro hc2
      first
      | (exfalso; omega)
      | (
          refine BX13_areSorted_30  ?_ ?_
          · intro hc3
            first
            | (exfalso; omega)
            | (
                (exfalso; omega)
              )
          · intro hc4
            first
            | (exfalso; omega)
            | (
                refine BX13_areSorted_35 (by first | assumption | exact up_at _ _ _ | (rw [up_ne (by omega)]; first | assumption | exact up_at _ _ _ | (rw [up_ne (by omega)]; assumption))) (by rfl) (by first | assumption | exact up_at _ _ _ | (rw [up_ne (by omega)]; first | assumption | exact up_at _ _ _ | (rw [up_ne (by omega)]; assumption))) (by first | omega | (rw [fset_at]; omega) | (simp only [Ls_len]; omega) | assumption | exact Ls_get (by omega) (by omega) | exact up_at _ _ _ | rfl | decide) (by first | exact Ls_get (by omega) (by omega) | assumption) (by first | omega | (rw [fset_at]; omega) | (simp only [Ls_len]; omega) | assumption | exact Ls_get (by omega) (by omega) | exact up_at _ _ _ | rfl | decide) (by first | omega | (rw [fset_at]; omega) | (simp only [Ls_len]; omega) | assumption | exact Ls_get (by omega) (by omega) | exact up_at _ _ _ | rfl | decide) (by first | omega | (rw [fset_at]; omega) | (simp only [Ls_len]; omega) | assumption | exact Ls_get (by omega) (by omega) | exact up_at _ _ _ | rfl | decide) ?_
                try rw [Ls_set (by omega)]
                exact in45 c.toNat 0 _ (by decide) (by omega) (by rw [Rl] at e2 ⊢; exact e2) KF KB
              )
        )
theorem xL_0 {nx : (Int → Int) → Option (Int → Int)} {Y : Int → Int} {l v : Int} {A : Int → Int} : xL nx Y l 0 v A = none := rfl
/-- the fewest, and who has what -/
def srF (Y : Int → Int) (N : Nat) : Nat → Int → Int × (Int → Int)
  | 0, c => match xS Y c N 0 (fun _ => -1) with
    | some r => (c, r)
    | none => (c, fun _ => -1)
  | m + 1, c => match xS Y c N 0 (fun _ => -1) with
    | some r => (c, r)
    | none => srF Y N m (c + 1)
theorem R_X13_areSorted {N c : Int} {l3 l4 : Option aV} (s : IsMo g h W V X F B wr cm) (ok : okW W) (N0 : 0 ≤ N) (n8 : N ≤ 8) (c0 : 0 ≤ c) (c8 : c ≤ 8) (k1 : ∀ r M1 h1, xS (W 2) c N.toNat 0 (fun _ => -1) = some r → IsM g h1 (fset M1 14 r) → MT M1 W V X F B wr cm → Q (some (vI 1)) h1 n) (k0 : xS (W 2) c N.toNat 0 (fun _ => -1) = none → ∀ h1, IsMo g h1 W V X F B wr cm → Q (some (vI 0)) h1 n) : Rn (d + 3) bc bs mX13_areSorted 0 [some (vR (some 301)), some (vI N), some (vI c), l3, l4] [] h n Q := by
  obtain ⟨M, e, t⟩ := id s
  have fin1 : ∀ (h1 : aH) (x4 : Int), Q = Q → (∀ h2, h2 = h1 → Q (some (vI 1)) h2 n) → (∃ f, h1 301 = cO 13 f) → Rn (d + 3) bc bs mX13_areSorted 26 [some (vR (some 301)), some (vI N), some (vI c), some (vI N), some (vI x4)] [] h1 n Q := by
    intro h1 x4 _ K _
    refine BX13_areSorted_26  ?_ ?_
    · intro hc1
      refine BX13_areSorted_105  ?_ ?_
      · intro hc2
        refine BX13_areSorted_114  ?_
        (exfalso; omega)
      · intro hc3
        refine BX13_areSorted_110  ?_
        exact K _ rfl
    · intro hc4
      refine BX13_areSorted_30  ?_ ?_
      · intro hc5
        refine BX13_areSorted_105  ?_ ?_
        · intro hc6
          refine BX13_areSorted_114  ?_
          (exfalso; omega)
        · intro hc7
          refine BX13_areSorted_110  ?_
          exact K _ rfl
      · intro hc8
        (exfalso; omega)
  have fin0 : ∀ (h1 : aH) (x4 l' : Int), l' = 0 - 1 → Q (some (vI 0)) h1 n → Rn (d + 3) bc bs mX13_areSorted 26 [some (vR (some 301)), some (vI N), some (vI c), some (vI l'), some (vI x4)] [] h1 n Q := by
    intro h1 x4 l' el K
    refine BX13_areSorted_26  ?_ ?_
    · intro hc1
      refine BX13_areSorted_105  ?_ ?_
      · intro hc2
        refine BX13_areSorted_114  ?_
        exact K
      · intro hc3
        refine BX13_areSorted_110  ?_
        (exfalso; omega)
    · intro hc4
      refine BX13_areSorted_30  ?_ ?_
      · intro hc5
        refine BX13_areSorted_105  ?_ ?_
        · intro hc6
          refine BX13_areSorted_114  ?_
          exact K
        · intro hc7
          refine BX13_areSorted_110  ?_
          (exfalso; omega)
      · intro hc8
        (exfalso; omega)
  have go : ∀ (R : Int → Int) (h1 : aH) (x4 : Int), Ls 8 R = Ls 8 (fun _ => -1) → IsM g h1 (fset M 14 R) → Rn (d + 3) bc bs mX13_areSorted 26 [some (vR (some 301)), some (vI N), some (vI c), some (vI 0), some (vI x4)] [] h1 n Q := by
    intro R h1 x4 eR e1
    have e2 : IsM g h1 (fset M 14 (fun _ => -1)) := by
      have z := e1.s14 (f := fun _ => -1)
      rw [fset2, up_self (e1.a14.trans (congrArg _ eR))] at z
      exact z
    refine sort_bt t ok n8 c0 c8 N.toNat 0 x4 (fun _ => -1) h1 (by decide) (by omega) (fun _ _ _ => rfl) e2 (fun r h2 er e3 => ?_) (fun h2 l' el er e3 => ?_)
    · exact fin1 h2 x4 rfl (fun h3 e4 => by rw [e4]; exact k1 r M h2 er e3 t) ⟨_, e3.o⟩
    · exact fin0 h2 x4 l' el (k0 er h2 ⟨fset M 14 (fun _ => -1), e3, t⟩)
  have in5 : ∀ (m : Nat) (i : Int) (R : Int → Int) (h1 : aH), 0 ≤ i → i + m = 8 → (∀ j, 0 ≤ j → j < i → R j = -1) → IsM g h1 (fset M 14 R) → Rn (d + 3) bc bs mX13_areSorted 5 [some (vR (some 301)), some (vI N), some (vI c), some (vI 0), some (vI i)] [] h1 n Q := by
    intro m
    induction m with
    | zero =>
      intro i R h1 i0 im hR e1
      have g26 := go R h1 i (Ls_ext fun j j0 j1 => hR j j0 (by omega)) e1
      refine BX13_areSorted_5  ?_ ?_
      · intro hc1
        first
        | (exfalso; omega)
        | (
            exact g26
          )
      · intro hc2
        first
        | (exfalso; omega)
        | (
            (exfalso; omega)
          )
    | succ m ih =>
      intro i R h1 i0 im hR e1
      have m0 := e1.o
      have m14 : h1 315 = cI (Ls 8 R) := e1.a14
      have e2 := e1.s14 (f := fset R i (-1))
      rw [fset2] at e2
      refine BX13_areSorted_5  ?_ ?_
      · intro hc1
        first
        | (exfalso; omega)
        | (
            (exfalso; omega)
          )
      · intro hc2
        first
        | (exfalso; omega)
        | (
            refine BX13_areSorted_12 (by first | assumption | exact up_at _ _ _ | (rw [up_ne (by omega)]; first | assumption | exact up_at _ _ _ | (rw [up_ne (by omega)]; assumption))) (by rfl) (by first | assumption | exact up_at _ _ _ | (rw [up_ne (by omega)]; first | assumption | exact up_at _ _ _ | (rw [up_ne (by omega)]; assumption))) (by first | omega | (rw [fset_at]; omega) | (simp only [Ls_len]; omega) | assumption | exact Ls_get (by omega) (by omega) | exact up_at _ _ _ | rfl | decide) (by first | omega | (rw [fset_at]; omega) | (simp only [Ls_len]; omega) | assumption | exact Ls_get (by omega) (by omega) | exact up_at _ _ _ | rfl | decide) (by first | omega | (rw [fset_at]; omega) | (simp only [Ls_len]; omega) | assumption | exact Ls_get (by omega) (by omega) | exact up_at _ _ _ | rfl | decide) ?_
            try rw [Ls_set (by omega)]
            refine BX13_areSorted_20 (by first | omega | (rw [fset_at]; omega) | (simp only [Ls_len]; omega) | assumption | exact Ls_get (by omega) (by omega) | exact up_at _ _ _ | rfl | decide) ?_
            exact ih _ _ _ (by omega) (by omega) (fun j j0 j1 => by by_cases q : j = i; (subst q; exact fset_at _ _ _); (rw [fset_ne q]; exact hR j j0 (by omega))) e2
          )
  refine BX13_areSorted_0  ?_
  exact in5 8 0 (M 14) h (by decide) (by decide) (fun j j0 j1 => by omega) (by rw [fset_id]; exact e)
end SORT3
