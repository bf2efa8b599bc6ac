/-! The reference's rows, tied to the world. -/
def pkM (t b w p : Int) : Int := ((t * 12 + b) * 3 + w) * 10 + p
def tSe (A S : Int → Int) : Prop := A 7 = S 73 ∧ A 8 = S 74 ∧ A 9 = S 72 ∧ ∀ b w, 0 ≤ b → b < S 72 → 0 ≤ w → w < 6 → A (11 + 6 * b + w) = S (b * 6 + w)
def pkE (v : Int) (f : Int → Int) (l : Int) : Prop := v = pkM (f (l * 4)) (f (l * 4 + 1)) (f (l * 4 + 2)) (f (l * 4 + 3)) ∧ (0 ≤ f (l * 4) ∧ f (l * 4) ≤ 9999) ∧ (0 ≤ f (l * 4 + 1) ∧ f (l * 4 + 1) ≤ 11) ∧ (0 ≤ f (l * 4 + 2) ∧ f (l * 4 + 2) ≤ 2) ∧ 0 ≤ f (l * 4 + 3) ∧ f (l * 4 + 3) ≤ 9
def tBk (A S : Int → Int) : Prop := A 10 = S 75 ∧ ∀ l, 0 ≤ l → l < S 75 → pkE (A (3359 + l)) (bk S) l
def tSh (A : Int → Int) (W : Int → Int → Int) : Prop := A 0 = W 3 3 ∧ (∀ p, 0 ≤ p → p < W 3 3 → A (83 + 2 * p) = W 0 p ∧ A (83 + 2 * p + 1) = W 5 p) ∧ ∀ t p, 0 ≤ t → t ≤ 2 → 0 ≤ p → p ≤ 9 → A (95 + 10 * t + p) = W 6 (t * 10 + p)
def tSy (A Y : Int → Int) : Prop := (A 4 = Y 52 ∧ A 5 = Y 53 ∧ A 6 = Y 54 ∧ A 145 = Y 55 ∧ A 146 = Y 56) ∧ (∀ i, 0 ≤ i → i < Y 52 → A (125 + 2 * i) = Y i ∧ A (125 + 2 * i + 1) = Y (6 + i)) ∧ (∀ i, 0 ≤ i → i < Y 53 → A (137 + i) = Y (12 + i)) ∧ (∀ i, 0 ≤ i → i < 8 → A (147 + i) = Y (20 + i) ∧ A (155 + i) = Y (28 + i)) ∧ ∀ i, 0 ≤ i → i < Y 54 → A (163 + 2 * i) = Y (36 + i) ∧ A (163 + 2 * i + 1) = Y (44 + i)
def tSp (A : Int → Int) (s : Int) (Z : Int → Int) : Prop := (A (179 + 106 * s) = Z 73 ∧ A (179 + 106 * s + 1) = Z 74 ∧ A (179 + 106 * s + 2) = Z 72 ∧ A (179 + 106 * s + 3) = Z 75) ∧ (∀ b w, 0 ≤ b → b < Z 72 → 0 ≤ w → w < 6 → A (179 + 106 * s + (4 + 6 * b + w)) = Z (b * 6 + w)) ∧ ∀ l, 0 ≤ l → l < Z 75 → pkE (A (179 + 106 * s + (76 + l))) (bk Z) l
def TA (A : Int → Int) (W : Int → Int → Int) : Prop := tSh A W ∧ tSe A (W 1) ∧ tSy A (W 2) ∧ (A 1 = W 3 1 ∧ A 2 = W 3 2 ∧ A 3 = W 3 0) ∧ ∀ s, 0 ≤ s → s < W 3 0 → tSp A s (W (10 + s))
section TIE
variable {A S Z Y : Int → Int} {W : Int → Int → Int} {i v s : Int}
theorem tSe.ne (t : tSe A S) (o : S 72 ≤ 12) (h : i < 7 ∨ i = 10 ∨ 83 ≤ i) : tSe (fset A i v) S := by
  obtain ⟨t1, t2, t3, t4⟩ := t
  refine ⟨?_, ?_, ?_, fun b w b0 b1 w0 w1 => ?_⟩
  · rw [fset_ne (by omega)]; exact t1
  · rw [fset_ne (by omega)]; exact t2
  · rw [fset_ne (by omega)]; exact t3
  · rw [fset_ne (by omega)]; exact t4 b w b0 b1 w0 w1
theorem tBk.ne (t : tBk A S) (h : i ≠ 10 ∧ i < 3359) : tBk (fset A i v) S := by
  obtain ⟨t1, t2⟩ := t
  refine ⟨?_, fun l l0 l1 => ?_⟩
  · rw [fset_ne (by omega)]; exact t1
  · rw [fset_ne (by omega)]; exact t2 l l0 l1
theorem tSh.ne (t : tSh A W) (o : W 3 3 ≤ 6) (h : (i < 83 ∧ i ≠ 0) ∨ 125 ≤ i) : tSh (fset A i v) W := by
  obtain ⟨t1, t2, t3⟩ := t
  refine ⟨?_, fun p p0 p1 => ⟨?_, ?_⟩, fun t p t0 t1 p0 p1 => ?_⟩
  · rw [fset_ne (by omega)]; exact t1
  · rw [fset_ne (by omega)]; exact (t2 p p0 p1).1
  · rw [fset_ne (by omega)]; exact (t2 p p0 p1).2
  · rw [fset_ne (by omega)]; exact t3 t p t0 t1 p0 p1
theorem tSy.ne (t : tSy A Y) (o : Y 52 ≤ 6 ∧ Y 53 ≤ 8 ∧ Y 54 ≤ 8) (h : (i < 125 ∧ i ≠ 4 ∧ i ≠ 5 ∧ i ≠ 6) ∨ 179 ≤ i) : tSy (fset A i v) Y := by
  obtain ⟨⟨t1, t2, t3, t4, t5⟩, t6, t7, t8, t9⟩ := t
  refine ⟨⟨?_, ?_, ?_, ?_, ?_⟩, fun j j0 j1 => ⟨?_, ?_⟩, fun j j0 j1 => ?_, fun j j0 j1 => ⟨?_, ?_⟩, fun j j0 j1 => ⟨?_, ?_⟩⟩
  · rw [fset_ne (by omega)]; exact t1
  · rw [fset_ne (by omega)]; exact t2
  · rw [fset_ne (by omega)]; exact t3
  · rw [fset_ne (by omega)]; exact t4
  · rw [fset_ne (by omega)]; exact t5
  · rw [fset_ne (by omega)]; exact (t6 j j0 j1).1
  · rw [fset_ne (by omega)]; exact (t6 j j0 j1).2
  · rw [fset_ne (by omega)]; exact t7 j j0 j1
  · rw [fset_ne (by omega)]; exact (t8 j j0 j1).1
  · rw [fset_ne (by omega)]; exact (t8 j j0 j1).2
  · rw [fset_ne (by omega)]; exact (t9 j j0 j1).1
  · rw [fset_ne (by omega)]; exact (t9 j j0 j1).2
theorem tSp.ne (t : tSp A s Z) (o : Z 72 ≤ 12 ∧ Z 75 ≤ 30) (h : i < 179 + 106 * s ∨ 179 + 106 * s + 106 ≤ i) : tSp (fset A i v) s Z := by
  obtain ⟨⟨t1, t2, t3, t4⟩, t5, t6⟩ := t
  refine ⟨⟨?_, ?_, ?_, ?_⟩, fun b w b0 b1 w0 w1 => ?_, fun l l0 l1 => ?_⟩
  · rw [fset_ne (by omega)]; exact t1
  · rw [fset_ne (by omega)]; exact t2
  · rw [fset_ne (by omega)]; exact t3
  · rw [fset_ne (by omega)]; exact t4
  · rw [fset_ne (by omega)]; exact t5 b w b0 b1 w0 w1
  · rw [fset_ne (by omega)]; exact t6 l l0 l1
theorem tSp.lo (t : tSp A s Z) (h : i < 179 + 106 * s) : tSp (fset A i v) s Z := by
  obtain ⟨⟨t1, t2, t3, t4⟩, t5, t6⟩ := t
  refine ⟨⟨?_, ?_, ?_, ?_⟩, fun b w b0 b1 w0 w1 => ?_, fun l l0 l1 => ?_⟩
  · rw [fset_ne (by omega)]; exact t1
  · rw [fset_ne (by omega)]; exact t2
  · rw [fset_ne (by omega)]; exact t3
  · rw [fset_ne (by omega)]; exact t4
  · rw [fset_ne (by omega)]; exact t5 b w b0 b1 w0 w1
  · rw [fset_ne (by omega)]; exact t6 l l0 l1
end TIE
/-! A law's row of signs in the reference: two piles, of values and of truths. -/
def mAsk (o x y : Int) : Int := if o = 10 then (if x < y then 1 else 0) else if o = 11 then (if x ≤ y then 1 else 0) else if o = 12 then (if y < x then 1 else 0) else if o = 13 then (if y ≤ x then 1 else 0) else if o = 14 then (if x = y then 1 else 0) else if x = y then 0 else 1
def mTwo (o x y : Int) : Int := if o = 6 then lim (x + y) else if o = 7 then lim (x - y) else if o = 8 then lim (x * y) else if y = 0 then 0 else lim (Int.tdiv x y)
def mJn (o t u : Int) : Int := if o = 21 then (if t = 0 then 0 else if u = 0 then 0 else 1) else (if t = 0 then (if u = 0 then 0 else 1) else 1)
def mPsh (v : Int) (l ts : List Int) : Option (List Int × List Int) := if (-1000000 ≤ v ∧ v ≤ 1000000) ∧ l.length < 320 then some (v :: l, ts) else none
def mStp (o v : Int) (env pl : Int → Int) (l ts : List Int) : Option (List Int × List Int) :=
  if o = 0 then mPsh v l ts
  else if o = 1 then mPsh (env v) l ts
  else if o = 3 then match l, ts with
    | y :: x :: r, t :: q => some ((if t = 0 then y else x) :: r, q)
    | _, _ => none
  else if o = 5 then match l with
    | x :: r => mPsh (-x) r ts
    | _ => none
  else if o = 2 then match l with
    | x :: r => mPsh (pl x) r ts
    | _ => none
  else if o < 10 then match l with
    | y :: x :: r => mPsh (if o = 4 then lim (max 0 (x - y)) else mTwo o x y) r ts
    | _ => none
  else if o < 20 then match l with
    | y :: x :: r => if ts.length < 320 then some (r, mAsk o x y :: ts) else none
    | _ => none
  else if o = 20 then match ts with
    | t :: q => some (l, (if t = 0 then 1 else 0) :: q)
    | _ => none
  else match ts with
    | u :: t :: q => some (l, mJn o t u :: q)
    | _ => none
def mRun (C : Int → Int) (c e : Int) (env pl : Int → Int) : Nat → Int → List Int → List Int → Option Int
  | 0, _, _, _ => none
  | f + 1, i, l, ts => if e ≤ i then (match l with | [v] => some v | _ => none) else match mStp (C (c + 2 * i)) (C (c + 2 * i + 1)) env pl l ts with
    | none => none
    | some (l2, t2) => mRun C c e env pl f (i + 1) l2 t2
def MDen (C : Int → Int) (c s e : Int) (D : Dn) : Prop := (0 ≤ s ∧ s ≤ e ∧ e ≤ 304) ∧ (∀ i, s ≤ i → i < e → 0 ≤ C (c + 2 * i) ∧ (C (c + 2 * i) = 1 → 0 ≤ C (c + 2 * i + 1) ∧ C (c + 2 * i + 1) ≤ 7)) ∧ ∀ env pl, okE env pl → ∃ f, mRun C c e env pl f s [] [] = some (D env pl)
def tCl (C : Int → Int) (b : Int) (T : Tx) (k : Int) : Prop := (C (b + 1 + 4 * k) + 16 = T.2.1 (k * 4 + 0) ∧ 16 ≤ T.2.1 (k * 4 + 0) ∧ T.2.1 (k * 4 + 0) ≤ 23) ∧ (18 ≤ T.2.1 (k * 4 + 0) → C (b + 1 + 4 * k + 1) = T.2.1 (k * 4 + 1)) ∧ (18 ≤ T.2.1 (k * 4 + 0) ∧ T.2.1 (k * 4 + 0) ≤ 21 → C (b + 1 + 4 * k + 2) = T.2.1 (k * 4 + 2)) ∧ (19 ≤ T.2.1 (k * 4 + 0) ∧ T.2.1 (k * 4 + 0) ≤ 20 → C (b + 1 + 4 * k + 3) = T.2.1 (k * 4 + 3)) ∧ (T.2.1 (k * 4 + 0) = 16 → ∃ D, T.2.2.1 = some D ∧ MDen C (b + 97) (C (b + 1 + 4 * k + 1)) (C (b + 1 + 4 * k + 2)) D) ∧ (T.2.1 (k * 4 + 0) = 17 → ∃ D, T.2.2.2 = some D ∧ MDen C (b + 97) (C (b + 1 + 4 * k + 1)) (C (b + 1 + 4 * k + 2)) D)
def tTx (C : Int → Int) (b : Int) (T : Tx) : Prop := (0 ≤ T.1 ∧ T.1 ≤ 24) ∧ C b = T.1 ∧ (∀ k, 0 ≤ k → k < T.1 → tCl C b T k) ∧ (T.2.2.1 = none ∨ ∃ k, 0 ≤ k ∧ k < T.1 ∧ T.2.1 (k * 4 + 0) = 16) ∧ (T.2.2.2 = none ∨ ∃ k, 0 ≤ k ∧ k < T.1 ∧ T.2.1 (k * 4 + 0) = 17)
def tTp (M : Int → Int → Int) (F : Int → Int) : Prop := (M 0 4 = F 2 ∧ M 0 5 = F 0 ∧ M 0 6 = F 1) ∧ ∀ i, 0 ≤ i → i < F 2 → M 4 i = F (3 + i)
def wrT (M : Int → Int → Int) (B : Int → Int) (wr : Int) : Prop := M 0 23 = wr ∧ (wr = 0 → ∀ i, 7 ≤ i → i < 83 → M 9 i = B (1000 + i))
/-- the reference: now W, its image V, its texts X, its tape F; B the book where nothing is written (wr 0); cm: how many came -/
def okN (W : Int → Int → Int) : Prop := (0 ≤ W 3 3 ∧ W 3 3 ≤ 6) ∧ (0 ≤ W 1 72 ∧ W 1 72 ≤ 12) ∧ (0 ≤ W 1 75 ∧ W 1 75 ≤ 30) ∧ (0 ≤ W 3 0 ∧ W 3 0 ≤ 30) ∧ (0 ≤ W 3 1 ∧ W 3 1 ≤ 4) ∧ (0 ≤ W 1 73 ∧ W 1 73 ≤ 9999) ∧ (0 ≤ W 2 52 ∧ W 2 52 ≤ 6 ∧ 0 ≤ W 2 53 ∧ W 2 53 ≤ 8 ∧ 0 ≤ W 2 54 ∧ W 2 54 ≤ 8) ∧ ∀ j, 0 ≤ j → j < W 3 0 → (0 ≤ W (10 + j) 72 ∧ W (10 + j) 72 ≤ 12) ∧ 0 ≤ W (10 + j) 75 ∧ W (10 + j) 75 ≤ 30
theorem okW.n {W : Int → Int → Int} (o : okW W) : okN W := by
  obtain ⟨o1, o2, o3, o4, o5⟩ := o
  have a1 := o1.1
  have a2 := o2.1
  have a3 := o5.1
  have a4 := o5.2.1
  have a5 := o5.2.2.1
  exact ⟨by omega, by omega, by omega, by omega, by omega, by omega, by omega, fun j j0 j1 => by have := (o4 j j0 j1).1; omega⟩
def IsMo (g h : aH) (W V : Int → Int → Int) (X : Int → Tx) (F B : Int → Int) (wr cm : Int) : Prop := ∃ M, IsM g h M ∧ (TA (M 1) W ∧ tBk (M 1) (if wr = 1 then W 1 else B)) ∧ (TA (M 2) V ∧ tBk (M 2) (V 1)) ∧ (∀ t, 0 ≤ t → t < W 3 1 → tTx (M 3) (705 * t) (X t)) ∧ tTp M F ∧ wrT M B wr ∧ M 0 24 = cm ∧ okN W
theorem mkA {g h : aH} {W V : Int → Int → Int} {X : Int → Tx} {F B : Int → Int} {wr cm : Int} {M : Int → Int → Int} {A : Int → Int} (e : IsM g h M) (ta : TA A W) (tb : tBk A (if wr = 1 then W 1 else B)) (tv : TA (M 2) V) (tvb : tBk (M 2) (V 1)) (tx : ∀ t, 0 ≤ t → t < W 3 1 → tTx (M 3) (705 * t) (X t)) (tt : tTp M F) (w : wrT M B wr) (c : M 0 24 = cm) (on : okN W) : IsMo g (up h 302 (cI (Ls 3389 A))) W V X F B wr cm := ⟨fset M 1 A, e.s1, ⟨ta, tb⟩, ⟨tv, tvb⟩, tx, tt, w, c, on⟩
