/-! Relays: the reference's rows of others are the class's roads. -/
def rsR (S : Sl) (R : Rl) : Prop := 0 ≤ S.1 ∧ (S.1 ≤ 60 → R.1 = S.1 ∧ R.2.1 = S.2.1 ∧ ∀ i, 0 ≤ i → i < S.2.1 → R.2.2.1 i = S.2.2 i) ∧ (60 < S.1 → R.1 = -1)
theorem fl_snoc {α : Type} {g : Int → α → α} : ∀ (m : Nat) (v : Int) (S : α), flN g (m + 1) v S = g (v + m) (flN g m v S) := by
  intro m
  induction m with
  | zero => intro v S; show g v S = g (v + (0 : Nat)) S; rw [show v + ((0 : Nat) : Int) = v by omega]
  | succ m ih =>
    intro v S
    show flN g (m + 1) (v + 1) (g v S) = g (v + (m + 1 : Nat)) (flN g m (v + 1) (g v S))
    rw [ih (v + 1) (g v S), show v + 1 + (m : Int) = v + ((m + 1 : Nat) : Int) by omega]
theorem fl_fold {α β : Type} {g : Int → α → α} {g' : Nat → β → β} {P : α → β → Prop} {N : Nat} (h : ∀ (j : Nat) S R, j < N → P S R → P (g j S) (g' j R)) : ∀ m, m ≤ N → ∀ S R, P S R → P (flN g m 0 S) (foldN g' m R) := by
  intro m
  induction m with
  | zero => intro _ S R p; exact p
  | succ m ih =>
    intro hm S R p
    rw [fl_snoc, show (0 : Int) + (m : Int) = m by omega]
    exact h m _ _ (by omega) (ih (by omega) S R p)
theorem fl_ind {α : Type} {g : Int → α → α} {P : α → Prop} {N : Nat} (h : ∀ (j : Nat) S, j < N → P S → P (g j S)) : ∀ m, m ≤ N → ∀ S, P S → P (flN g m 0 S) := by
  intro m
  induction m with
  | zero => intro _ S p; exact p
  | succ m ih =>
    intro hm S p
    rw [fl_snoc, show (0 : Int) + (m : Int) = m by omega]
    exact h m _ (by omega) (ih (by omega) S p)
theorem hpM_rg (W : Int → Int → Int) (p q t : Int) : (legM W p q t = -1 ∧ hpM W p q t = 1000000) ∨ (legM W p q t ≠ -1 ∧ 1 ≤ legM W p q t ∧ legM W p q t ≤ 60 ∧ hpM W p q t = t + legM W p q t) := by
  have := legM_in W p q t
  unfold hpM
  split <;> omega
theorem wbF_ge {W : Int → Int → Int} {to many : Int} {row : Int → Int} : ∀ (f : Nat) (k p t : Int), t ≤ wbF W to many row f k p t := by
  intro f
  induction f with
  | zero => intro k p t; exact Int.le_refl _
  | succ f ih =>
    intro k p t
    unfold wbF
    by_cases q : 1000000 ≤ t
    · rw [if_pos q]; exact Int.le_refl _
    · rw [if_neg q]
      have := ih (k + 1) (if k = many then to else row k) (hpM W p (if k = many then to else row k) t)
      have := hpM_rg W p (if k = many then to else row k) t
      omega
/-- the others row .. k - 1 are reached, the last at p, t tides from now -/
def feR (W : Int → Int → Int) (fr to many : Int) (row : Int → Int) (k p t : Int) : Prop := ∀ row', (∀ i, 0 ≤ i → i < k → row' i = row i) → tmR W fr to many row' = wbF W to many row' (many + 1 - k).toNat k p t
theorem feR.next {W : Int → Int → Int} {fr to many k p t nx : Int} {row : Int → Int} (f : feR W fr to many row k p t) (k0 : 0 ≤ k) (k1 : k < many) (t1 : t < 1000000) : feR W fr to many (fset row k nx) (k + 1) nx (hpM W p nx t) := by
  intro row' h
  rw [f row' (fun i i0 i1 => by rw [h i i0 (by omega), fset_ne (by omega)])]
  obtain ⟨u, hu⟩ : ∃ u, (many + 1 - k).toNat = u + 1 := ⟨(many - k).toNat, by omega⟩
  rw [hu]
  show (if 1000000 ≤ t then t else wbF W to many row' u (k + 1) (if k = many then to else row' k) (hpM W p (if k = many then to else row' k) t)) = _
  rw [if_neg (by omega), if_neg (by omega), h k k0 (by omega), fset_at, show u = (many + 1 - (k + 1)).toNat by omega]
theorem feR.last {W : Int → Int → Int} {fr to many p t : Int} {row : Int → Int} (f : feR W fr to many row many p t) (t1 : t < 1000000) : tmR W fr to many row = hpM W p to t := by
  rw [f row (fun _ _ _ => rfl), show (many + 1 - many).toNat = 1 by omega]
  show (if 1000000 ≤ t then t else wbF W to many row 0 (many + 1) (if many = many then to else row many) (hpM W p (if many = many then to else row many) t)) = _
  rw [if_neg (by omega), if_pos rfl]
  rfl
theorem leaf_far {W : Int → Int → Int} {fr to many : Int} {row : Int → Int} {S : Sl} {R : Rl} (h : 60 < tmR W fr to many row) (s : rsR S R) : rsR (leafS W fr to many row S) R := by
  obtain ⟨s0, s1, s2⟩ := s
  unfold leafS
  by_cases q : tmR W fr to many row < S.1
  · rw [if_pos q]
    exact ⟨by show 0 ≤ tmR W fr to many row; omega, fun z => by have : tmR W fr to many row ≤ 60 := z; omega, fun _ => s2 (by omega)⟩
  · rw [if_neg q]; exact ⟨s0, s1, s2⟩
theorem en_far {W : Int → Int → Int} {fr to many : Int} : ∀ (j : Nat) (k : Int) (row : Int → Int) (S : Sl) (R : Rl), 0 ≤ k → k + j = many → (∀ row', (∀ i, 0 ≤ i → i < k → row' i = row i) → 60 < tmR W fr to many row') → rsR S R → rsR (enN W fr to many j k row S) R := by
  intro j
  induction j with
  | zero => intro k row S R k0 kj h s; exact leaf_far (h row (fun _ _ _ => rfl)) s
  | succ j ih =>
    intro k row S R k0 kj h s
    unfold enN
    refine fl_ind (P := fun S => rsR S R) (N := (W 3 3).toNat) (fun nx S hnx p => ?_) _ (Nat.le_refl _) S s
    split
    · exact p
    · exact ih (k + 1) _ S R (by omega) (by omega) (fun row' hr => h row' (fun i i0 i1 => by rw [hr i i0 (by omega), fset_ne (by omega)])) p
theorem leaf_arr {W : Int → Int → Int} {fr to many p t : Int} {row : Int → Int} {S : Sl} {R : Rl} (f : feR W fr to many row many p t) (t0 : 0 ≤ t) (t1 : t ≤ 60) (s : rsR S R) (hr : ∀ i, 0 ≤ i → i < many → R.2.2.2 i = row i) : rsR (leafS W fr to many row S) (arrM W to many p t R) := by
  have e := f.last (by omega)
  have r := hpM_rg W p to t
  obtain ⟨s0, s1, s2⟩ := s
  unfold leafS arrM
  rw [e]
  generalize hpM W p to t = y at r ⊢
  generalize legM W p to t = l at r ⊢
  by_cases q1 : l = -1 ∨ 60 < t + l ∨ (R.1 ≠ -1 ∧ R.1 ≤ t + l)
  · rw [if_pos q1]
    by_cases q : y < S.1
    · rw [if_pos q]
      have g60 : 60 < y := by
        by_cases z : S.1 ≤ 60
        · have := (s1 z).1; omega
        · have := s2 (by omega); omega
      have g61 : 60 < S.1 := by omega
      exact ⟨by show 0 ≤ y; omega, fun z => by have : y ≤ 60 := z; omega, fun _ => s2 g61⟩
    · rw [if_neg q]; exact ⟨s0, s1, s2⟩
  · rw [if_neg q1]
    have q : y < S.1 := by
      by_cases z : S.1 ≤ 60
      · have := (s1 z).1; omega
      · omega
    rw [if_pos q]
    refine ⟨by show 0 ≤ y; omega, fun _ => ⟨by show t + l = y; omega, rfl, fun i i0 i1 => ?_⟩, fun z => by have : 60 < y := z; omega⟩
    show R.2.2.2 i = fcp row S.2.2 many i
    unfold fcp
    rw [if_pos ⟨i0, i1⟩]; exact hr i i0 i1
theorem arr_row {W : Int → Int → Int} {to many p t : Int} {R : Rl} : (arrM W to many p t R).2.2.2 = R.2.2.2 := by
  unfold arrM; split <;> rfl
theorem orS64 {us i : Int} (u0 : 0 ≤ us) (u1 : us < 64) (i0 : 0 ≤ i) (i1 : i < 6) : 0 ≤ or32 us (shl32 1 i) ∧ or32 us (shl32 1 i) < 64 := by
  have sh := shl1_rg (i := i) (k := 6) (by decide) (by omega) (by omega)
  have e6 : (2 : Int) ^ 6 = 64 := by decide
  have og := or32_rg (x := us) (y := shl32 1 i) (k := 6) (by decide) u0 (by omega) sh.1 sh.2
  omega
theorem en_go {W : Int → Int → Int} {fr to many : Int} (hP : W 3 3 ≤ 6) (m4 : many ≤ 4) : ∀ (j : Nat) (k : Int) (row : Int → Int) (p t us : Int) (S : Sl) (R : Rl), 0 ≤ k → k + j = many → feR W fr to many row k p t → 0 ≤ t → t ≤ 60 → 0 ≤ us → us < 64 → (∀ nx : Nat, nx < (W 3 3).toNat → tb us nx = usB fr to row nx k.toNat) → rsR S R → (∀ i, 0 ≤ i → i < k → R.2.2.2 i = row i) → rsR (enN W fr to many j k row S) (goM W to many j p t k us R) ∧ ∀ i, 0 ≤ i → i < k → (goM W to many j p t k us R).2.2.2 i = row i := by
  intro j
  induction j with
  | zero =>
    intro k row p t us S R k0 kj f t0 t1 u0 u1 hu s hr
    have ek : k = many := by omega
    subst ek
    refine ⟨leaf_arr f t0 t1 s hr, fun i i0 i1 => ?_⟩
    unfold goM
    rw [arr_row]; exact hr i i0 i1
  | succ j ih =>
    intro k row p t us S R k0 kj f t0 t1 u0 u1 hu s hr
    unfold enN goM
    refine fl_fold (P := fun S R => rsR S R ∧ ∀ i, 0 ≤ i → i < k → R.2.2.2 i = row i) (N := (W 3 3).toNat) (fun nx S R hnx ⟨s, hr⟩ => ?_) _ (Nat.le_refl _) S R ⟨s, hr⟩
    by_cases q : usB fr to row nx k.toNat = true
    · rw [if_pos q, if_pos (.inl (by rw [hu nx hnx]; exact q))]; exact ⟨s, hr⟩
    · rw [if_neg q]
      have q' : ¬ tb us nx = true := by rw [hu nx hnx]; exact q
      have r := hpM_rg W p nx t
      have fn := f.next (nx := (nx : Int)) k0 (by omega) (by omega)
      by_cases z : legM W p nx t = -1 ∨ 60 < t + legM W p nx t
      · rw [if_pos (.inr z)]
        refine ⟨en_far j (k + 1) _ S R (by omega) (by omega) (fun row' h => ?_) s, hr⟩
        rw [fn row' h]
        have := wbF_ge (W := W) (to := to) (many := many) (row := row') (many + 1 - (k + 1)).toNat (k + 1) nx (hpM W p nx t)
        omega
      · rw [if_neg (fun z2 => z2.elim q' z)]
        have eh : hpM W p nx t = t + legM W p nx t := by omega
        rw [eh] at fn
        have o64 := orS64 u0 u1 (i := (nx : Int)) (by omega) (by omega)
        have i := ih (k + 1) (fset row k nx) nx (t + legM W p nx t) (or32 us (shl32 1 nx)) S (R.1, R.2.1, R.2.2.1, fset R.2.2.2 k nx) (by omega) (by omega) fn (by omega) (by omega) o64.1 o64.2 (fun y hy => ?_) s (fun i i0 i1 => ?_)
        · refine ⟨i.1, fun x x0 x1 => ?_⟩
          rw [i.2 x x0 (by omega), fset_ne (by omega)]
        · rw [tb_orb u0 (by omega) (by omega) (by omega) (by omega), hu y hy, show (k + 1).toNat = k.toNat + 1 by omega]
          show _ = (decide (fset row k nx (k.toNat : Int) = (y : Int)) || usB fr to (fset row k nx) y k.toNat)
          rw [show ((k.toNat : Nat) : Int) = k by omega, fset_at, usB_ext (row := fset row k nx) (row' := row) k.toNat (fun i i0 i1 => fset_ne (by omega)), Bool.or_comm]
        · show fset R.2.2.2 k nx i = fset row k nx i
          by_cases z : i = k
          · subst z; rw [fset_at, fset_at]
          · rw [fset_ne z, fset_ne z]; exact hr i i0 (by omega)
def cU (f : Int → Bool) : Nat → Nat
  | 0 => 0
  | k + 1 => cU f k + (if f k = true then 1 else 0)
theorem cU_le (f : Int → Bool) : ∀ k, cU f k ≤ k := by
  intro k
  induction k with
  | zero => exact Nat.le_refl _
  | succ k ih => unfold cU; split <;> omega
theorem cU_ext {f g : Int → Bool} : ∀ k : Nat, (∀ i : Nat, i < k → f i = g i) → cU f k = cU g k := by
  intro k
  induction k with
  | zero => intro _; rfl
  | succ k ih => intro h; unfold cU; rw [ih (fun i hi => h i (by omega)), h k (by omega)]
theorem cU_add {f : Int → Bool} {a : Int} (a0 : 0 ≤ a) (fa : f a = false) : ∀ k : Nat, cU (fun x => decide (a = x) || f x) k = cU f k + (if a < k then 1 else 0) := by
  intro k
  induction k with
  | zero => rw [if_neg (by omega)]; rfl
  | succ k ih =>
    unfold cU
    rw [ih]
    by_cases q : a = k
    · have h1 : (decide (a = (k : Int)) || f k) = true := by rw [decide_eq_true q]; rfl
      have h2 : f k = false := by rw [← q]; exact fa
      rw [if_pos h1, h2, if_neg (by omega), if_neg (by decide), if_pos (by omega)]
    · have h1 : (decide (a = (k : Int)) || f k) = f k := by rw [decide_eq_false q]; rfl
      rw [h1]
      have h3 : (if a < (k : Int) then (1 : Nat) else 0) = if a < ((k + 1 : Nat) : Int) then 1 else 0 := by
        by_cases z : a < k
        · rw [if_pos z, if_pos (by omega)]
        · rw [if_neg z, if_neg (by omega)]
      rw [← h3]; omega
theorem en_id {W : Int → Int → Int} {fr to many : Int} (hm : W 3 3 < many + 2) (p0 : 0 ≤ W 3 3) : ∀ (j : Nat) (k : Int) (row : Int → Int) (S : Sl), 0 ≤ k → k + j = many → (cU (fun x => usB fr to row x k.toNat) (W 3 3).toNat : Int) = k + 2 → enN W fr to many j k row S = S := by
  intro j
  induction j with
  | zero =>
    intro k row S k0 kj hc
    have := cU_le (fun x => usB fr to row x k.toNat) (W 3 3).toNat
    omega
  | succ j ih =>
    intro k row S k0 kj hc
    unfold enN
    refine fl_ind (P := fun S' => S' = S) (N := (W 3 3).toNat) (fun nx S' hnx p => ?_) _ (Nat.le_refl _) S rfl
    subst p
    by_cases q : usB fr to row nx k.toNat = true
    · rw [if_pos q]
    · rw [if_neg q]
      refine ih (k + 1) _ S' (by omega) (by omega) ?_
      have e1 := cU_add (f := fun x => usB fr to row x k.toNat) (a := (nx : Int)) (by omega) (Bool.eq_false_iff.mpr q) (W 3 3).toNat
      have e2 : cU (fun x => usB fr to (fset row k nx) x (k + 1).toNat) (W 3 3).toNat = cU (fun x => decide ((nx : Int) = x) || usB fr to row x k.toNat) (W 3 3).toNat := by
        refine cU_ext _ (fun x hx => ?_)
        rw [show (k + 1).toNat = k.toNat + 1 by omega]
        show (decide (fset row k nx (k.toNat : Int) = (x : Int)) || usB fr to (fset row k nx) x k.toNat) = _
        rw [show ((k.toNat : Nat) : Int) = k by omega, fset_at, usB_ext (row := fset row k nx) (row' := row) k.toNat (fun i i0 i1 => fset_ne (by omega))]
      rw [e2, e1, if_pos (by omega)]
      omega
theorem la_rel {W : Int → Int → Int} {fr to : Int} (hP : W 3 3 ≤ 6) (f0 : 0 ≤ fr) (f1 : fr < W 3 3) (g0 : 0 ≤ to) (g1 : to < W 3 3) (ne : fr ≠ to) {S : Sl} {R : Rl} (s : rsR S R) : ∀ c : Nat, c ≤ 5 → rsR (laS W fr to c S) (relN W fr to R (if c ≤ (min 4 (W 3 3 - 2) + 1).toNat then c else (min 4 (W 3 3 - 2) + 1).toNat)) := by
  have us0 : 0 ≤ or32 (shl32 1 fr) (shl32 1 to) ∧ or32 (shl32 1 fr) (shl32 1 to) < 64 := by
    have sh := shl1_rg (i := fr) (k := 6) (by decide) (by omega) (by omega)
    have e6 : (2 : Int) ^ 6 = 64 := by decide
    exact orS64 (by omega) (by omega) g0 (by omega)
  have ut : ∀ nx : Nat, nx < (W 3 3).toNat → tb (or32 (shl32 1 fr) (shl32 1 to)) nx = usB fr to (fun _ => 0) nx 0 := fun nx hn => by
    have sh := shl1_rg (i := fr) (k := 6) (by decide) (by omega) (by omega)
    have e6 : (2 : Int) ^ 6 = 64 := by decide
    rw [tb_orb (by omega) (by omega) g0 (by omega) (by omega), tb_shl f0 (by omega) (by omega)]
    unfold usB
    rw [Bool.eq_iff_iff, Bool.or_eq_true, decide_eq_true_iff, decide_eq_true_iff, decide_eq_true_iff]
    omega
  have uc : cU (fun x => usB fr to (fun _ => 0) x ((0 : Int).toNat)) (W 3 3).toNat = 2 := by
    have e1 := cU_add (f := fun _ => false) (a := fr) f0 rfl (W 3 3).toNat
    have e2 := cU_add (f := fun x => decide (fr = x) || false) (a := to) g0 (by rw [decide_eq_false ne]; rfl) (W 3 3).toNat
    have e0 : ∀ k, cU (fun _ => false) k = 0 := by
      intro k
      induction k with
      | zero => rfl
      | succ k ih => unfold cU; rw [ih]; rfl
    rw [e0, if_pos (by omega)] at e1
    rw [e1, if_pos (by omega)] at e2
    refine Eq.trans (cU_ext _ (fun x hx => ?_)) e2
    show decide ((x : Int) = fr ∨ (x : Int) = to) = (decide (to = (x : Int)) || (decide (fr = (x : Int)) || false))
    rw [Bool.or_false, Bool.eq_iff_iff, Bool.or_eq_true, decide_eq_true_iff, decide_eq_true_iff, decide_eq_true_iff]
    omega
  intro c
  induction c with
  | zero => intro _; rw [if_pos (by omega)]; exact s
  | succ c ih =>
    intro hc
    have i := ih (by omega)
    by_cases q : c + 1 ≤ (min 4 (W 3 3 - 2) + 1).toNat
    · rw [if_pos q]
      rw [if_pos (by omega)] at i
      exact (en_go hP (by omega) c 0 (fun _ => 0) fr 0 (or32 (shl32 1 fr) (shl32 1 to)) _ _ (by decide) (by omega) (fun row' _ => by rw [show ((c : Int) + 1 - 0).toNat = ((c : Int) + 1).toNat by omega]; rfl) (by decide) (by decide) us0.1 us0.2 ut i (fun i i0 i1 => by omega)).1
    · rw [if_neg q]
      have e : (if c ≤ (min 4 (W 3 3 - 2) + 1).toNat then c else (min 4 (W 3 3 - 2) + 1).toNat) = (min 4 (W 3 3 - 2) + 1).toNat := by
        split <;> omega
      rw [e] at i
      show rsR (enN W fr to c c 0 (fun _ => 0) (laS W fr to c S)) _
      rw [en_id (by omega) (by omega) c 0 (fun _ => 0) _ (by decide) (by omega) (by rw [uc]; decide)]
      exact i
