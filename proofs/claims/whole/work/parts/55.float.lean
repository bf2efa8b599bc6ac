/-! A bottle floats on; a tide passes. -/
def Fr2 (h h1 : aH) (lo k lo2 k2 : Nat) : Prop := ∀ x, (x < lo ∨ lo + k ≤ x) → (x < lo2 ∨ lo2 + k2 ≤ x) → h1 x = h x
theorem Fr2.rf (h : aH) (lo k lo2 k2 : Nat) : Fr2 h h lo k lo2 k2 := fun _ _ _ => rfl
theorem Fr2.a {h h1 : aH} {lo k lo2 k2 : Nat} (f : Fr h h1 lo k) : Fr2 h h1 lo k lo2 k2 := fun x hx _ => f x hx
theorem Fr2.b {h h1 : aH} {lo k lo2 k2 : Nat} (f : Fr h h1 lo2 k2) : Fr2 h h1 lo k lo2 k2 := fun x _ hx => f x hx
theorem Fr2.tr {h h1 h2 : aH} {lo k lo2 k2 : Nat} (f : Fr2 h h1 lo k lo2 k2) (g : Fr2 h1 h2 lo k lo2 k2) : Fr2 h h2 lo k lo2 k2 := fun x hx hy => (g x hx hy).trans (f x hx hy)
theorem Fr2.split {h h1 : aH} {lo k lo2 k2 : Nat} (f : Fr2 h h1 lo k lo2 k2) : ∃ h2, Fr h h2 lo k ∧ Fr h2 h1 lo2 k2 := by
  refine ⟨fun x => if x < lo ∨ lo + k ≤ x then h x else h1 x, fun x hx => if_pos hx, fun x hx => ?_⟩
  by_cases q : x < lo ∨ lo + k ≤ x
  · show h1 x = if _ then _ else _
    rw [if_pos q]; exact f x q hx
  · show h1 x = if _ then _ else _
    rw [if_neg q]
def flA (cu S : Int → Int) (b : Int) : Int → Int := fset S (b * 6 + 2) (lead cu (S 73) (S (b * 6 + 2)))
def flC (D : Option Dn) (np : Int) (pl lk S : Int → Int) (b : Int) : Int → Int := fset S (b * 6 + 3) (max 0 (S (b * 6 + 3) - wearsM D S np pl lk b))
def wrM (S : Int → Int) (b w : Int) : Int → Int := seaBook S (S 73) b w (S (b * 6 + 2))
def drM (S : Int → Int) : Int → Int := fset S 74 ((S 74 * 461 + 349) % 30637)
def flF (co : Option Dn) (np : Int) (pl lk S : Int → Int) (b : Int) : (Int → Int) × Int :=
  if S (b * 6 + 3) = 0 then (wrM (fset S (b * 6 + 4) 2) b 1, 0)
  else if S (b * 6 + 2) = atP np pl (S (b * 6 + 1)) then
    (if S 74 % 10 < comesM co (drM S) np pl lk b then (wrM (fset (drM S) (b * 6 + 4) 1) b 0, 1) else (drM S, 0))
  else (S, 0)
def floatM (co we : Option Dn) (np : Int) (pl lk cu S : Int → Int) (b : Int) : (Int → Int) × Int :=
  if S (b * 6 + 4) = 0 then flF co np pl lk (flC we np pl lk (flA cu S b) b) b else (S, 0)
def passN (co we : Option Dn) (np : Int) (pl lk cu S : Int → Int) : Nat → (Int → Int) × Int
  | 0 => (S, 0)
  | k + 1 => ((floatM co we np pl lk cu (passN co we np pl lk cu S k).1 k).1, (passN co we np pl lk cu S k).2 + (floatM co we np pl lk cu (passN co we np pl lk cu S k).1 k).2)
def passM (co we : Option Dn) (np : Int) (pl lk cu S : Int → Int) : (Int → Int) × Int := (fset (passN co we np pl lk cu S (S 72).toNat).1 73 (S 73 + 1), (passN co we np pl lk cu S (S 72).toNat).2)
theorem seaBook_lo {S : Int → Int} {t b w a j : Int} (h : j < 75) : seaBook S t b w a j = S j := by
  unfold seaBook
  rw [if_neg (by omega), if_neg (by omega)]
theorem z00 : (0 : Int) ≤ 0 := by decide
theorem z01 : (0 : Int) ≤ 1 := by decide
theorem z11 : (1 : Int) ≤ 1 := by decide
section FLOAT
variable {np b v : Int} {S pl lk cu : Int → Int} {co we : Option Dn}
theorem okSe.at (q : okSe np S) (h0 : 0 ≤ v) (h1 : v ≤ 9) (b0 : 0 ≤ b) (b1 : b < 12) : okSe np (fset S (b * 6 + 2) v) := by
  obtain ⟨q1, q2⟩ := q
  have e : ∀ j, 72 ≤ j → fset S (b * 6 + 2) v j = S j := fun j hj => fset_ne (by omega)
  refine ⟨by rw [e _ (by decide), e _ (by decide), e _ (by decide), e _ (by decide)]; exact q1, fun c c0 c1 => ?_⟩
  rw [e _ (by decide)] at c1
  have := q2 c c0 c1
  unfold okBo at this ⊢
  refine ⟨?_, ?_, ?_, ?_, ?_, ?_⟩ <;> (unfold fset; repeat' split) <;> omega
theorem okSe.cork (q : okSe np S) (h0 : 0 ≤ v) (h1 : v ≤ 99) (b0 : 0 ≤ b) (b1 : b < 12) : okSe np (fset S (b * 6 + 3) v) := by
  obtain ⟨q1, q2⟩ := q
  have e : ∀ j, 72 ≤ j → fset S (b * 6 + 3) v j = S j := fun j hj => fset_ne (by omega)
  refine ⟨by rw [e _ (by decide), e _ (by decide), e _ (by decide), e _ (by decide)]; exact q1, fun c c0 c1 => ?_⟩
  rw [e _ (by decide)] at c1
  have := q2 c c0 c1
  unfold okBo at this ⊢
  refine ⟨?_, ?_, ?_, ?_, ?_, ?_⟩ <;> (unfold fset; repeat' split) <;> omega
theorem okSe.how (q : okSe np S) (h0 : 0 ≤ v) (h1 : v < 3 + np) (b0 : 0 ≤ b) (b1 : b < 12) : okSe np (fset S (b * 6 + 4) v) := by
  obtain ⟨q1, q2⟩ := q
  have e : ∀ j, 72 ≤ j → fset S (b * 6 + 4) v j = S j := fun j hj => fset_ne (by omega)
  refine ⟨by rw [e _ (by decide), e _ (by decide), e _ (by decide), e _ (by decide)]; exact q1, fun c c0 c1 => ?_⟩
  rw [e _ (by decide)] at c1
  have := q2 c c0 c1
  unfold okBo at this ⊢
  refine ⟨?_, ?_, ?_, ?_, ?_, ?_⟩ <;> (unfold fset; repeat' split) <;> omega
theorem okBo_lo {S2 : Int → Int} (e : ∀ j, 0 ≤ j → j < 72 → S2 j = S j) (b0 : 0 ≤ b) (b1 : b < 12) (q : okBo np S b) : okBo np S2 b := by
  unfold okBo at q ⊢
  rw [e _ (by omega) (by omega), e _ (by omega) (by omega), e _ (by omega) (by omega), e _ (by omega) (by omega), e _ (by omega) (by omega), e _ (by omega) (by omega)]
  exact q
theorem okSe.dr (q : okSe np S) : okSe np (drM S) := by
  obtain ⟨q1, q2⟩ := q
  unfold drM
  refine ⟨by rw [fset_ne (by decide), fset_ne (by decide), fset_at, fset_ne (by decide)]; omega, fun c c0 c1 => ?_⟩
  rw [fset_ne (by decide)] at c1
  exact okBo_lo (fun j j0 j1 => fset_ne (by omega)) c0 (by omega) (q2 c c0 c1)
theorem okSe.wr {w : Int} (q : okSe np S) : okSe np (wrM S b w) := by
  obtain ⟨q1, q2⟩ := q
  have e : seaBook S (S 73) b w (S (b * 6 + 2)) 75 = bkLen (S 75) := by unfold seaBook; rw [if_pos rfl]
  unfold wrM
  refine ⟨by rw [seaBook_lo (by decide), seaBook_lo (by decide), seaBook_lo (by decide), e]; unfold bkLen; split <;> omega, fun c c0 c1 => ?_⟩
  rw [seaBook_lo (by decide)] at c1
  exact okBo_lo (fun j j0 j1 => seaBook_lo (by omega)) c0 (by omega) (q2 c c0 c1)
theorem okSe.ti (q : okSe np S) (h0 : 0 ≤ v) (h1 : v ≤ 9999) : okSe np (fset S 73 v) := by
  obtain ⟨q1, q2⟩ := q
  refine ⟨by rw [fset_ne (by decide), fset_at, fset_ne (by decide), fset_ne (by decide)]; omega, fun c c0 c1 => ?_⟩
  rw [fset_ne (by decide)] at c1
  exact okBo_lo (fun j j0 j1 => fset_ne (by omega)) c0 (by omega) (q2 c c0 c1)
theorem flA_ok (o : okSh np pl lk cu) (q : okSe np S) (b0 : 0 ≤ b) (b1 : b < S 72) : okSe np (flA cu S b) := by
  have := lead_ok o.2.2 (t := S 73) (q.2 b b0 b1).2.2.1
  exact q.at this.1 this.2 b0 (by have := q.1; omega)
theorem wearsM_ge : 0 ≤ wearsM we S np pl lk b := by unfold wearsM; split <;> omega
theorem flC_ok (q : okSe np S) (b0 : 0 ≤ b) (b1 : b < S 72) : okSe np (flC we np pl lk S b) := by
  have := q.2 b b0 b1
  have w := wearsM_ge (we := we) (S := S) (np := np) (pl := pl) (lk := lk) (b := b)
  exact q.cork (by omega) (by unfold okBo at this; omega) b0 (by have := q.1; omega)
theorem flA_hi {j : Int} (b1 : b < 12) (hj : 72 ≤ j) : flA cu S b j = S j := fset_ne (by omega)
theorem flC_hi {j : Int} (b1 : b < 12) (hj : 72 ≤ j) : flC we np pl lk S b j = S j := fset_ne (by omega)
theorem flF_ok (hn : 0 ≤ np) (q : okSe np S) (b0 : 0 ≤ b) (b1 : b < S 72) : okSe np (flF co np pl lk S b).1 ∧ (flF co np pl lk S b).1 72 = S 72 ∧ (flF co np pl lk S b).1 73 = S 73 ∧ 0 ≤ (flF co np pl lk S b).2 ∧ (flF co np pl lk S b).2 ≤ 1 := by
  have q1 := q.1
  unfold flF
  split
  · refine ⟨(q.how (by decide) (by omega) b0 (by omega)).wr, ?_, ?_, z00, z01⟩ <;> (dsimp only [wrM]; rw [seaBook_lo (by decide), fset_ne (by omega)])
  · split
    · split
      · refine ⟨(q.dr.how (by decide) (by omega) b0 (by omega)).wr, ?_, ?_, z01, z11⟩ <;> (dsimp only [wrM, drM]; rw [seaBook_lo (by decide), fset_ne (by omega), fset_ne (by decide)])
      · refine ⟨q.dr, ?_, ?_, z00, z01⟩ <;> (dsimp only [drM]; rw [fset_ne (by decide)])
    · exact ⟨q, rfl, rfl, z00, z01⟩
theorem floatM_ok (o : okSh np pl lk cu) (q : okSe np S) (b0 : 0 ≤ b) (b1 : b < S 72) : okSe np (floatM co we np pl lk cu S b).1 ∧ (floatM co we np pl lk cu S b).1 72 = S 72 ∧ (floatM co we np pl lk cu S b).1 73 = S 73 ∧ 0 ≤ (floatM co we np pl lk cu S b).2 ∧ (floatM co we np pl lk cu S b).2 ≤ 1 := by
  unfold floatM
  split
  · have q1 := q.1
    have e1 : flA cu S b 72 = S 72 := flA_hi (by omega) (by decide)
    have e2 : flC we np pl lk (flA cu S b) b 72 = flA cu S b 72 := flC_hi (by omega) (by decide)
    have e3 : flA cu S b 73 = S 73 := flA_hi (by omega) (by decide)
    have e4 : flC we np pl lk (flA cu S b) b 73 = flA cu S b 73 := flC_hi (by omega) (by decide)
    have z := flF_ok o.1.1 (flC_ok (we := we) (pl := pl) (lk := lk) (flA_ok o q b0 b1) b0 (by omega)) b0 (by omega) (co := co) (pl := pl) (lk := lk)
    rw [e2, e1, e4, e3] at z
    exact z
  · exact ⟨q, rfl, rfl, z00, z01⟩
theorem passN_ok (o : okSh np pl lk cu) (q : okSe np S) : ∀ k : Nat, (k : Int) ≤ S 72 → okSe np (passN co we np pl lk cu S k).1 ∧ (passN co we np pl lk cu S k).1 72 = S 72 ∧ (passN co we np pl lk cu S k).1 73 = S 73 ∧ 0 ≤ (passN co we np pl lk cu S k).2 ∧ (passN co we np pl lk cu S k).2 ≤ k := by
  intro k
  induction k with
  | zero => intro _; exact ⟨q, rfl, rfl, by show (0 : Int) ≤ 0; decide, by show (0 : Int) ≤ 0; decide⟩
  | succ k ih =>
    intro hk
    obtain ⟨i1, i2, i3, i4, i5⟩ := ih (by omega)
    have z := floatM_ok (co := co) (we := we) o i1 (b := k) (by omega) (by omega)
    refine ⟨z.1, z.2.1.trans i2, z.2.2.1.trans i3, ?_, ?_⟩ <;> (dsimp only [passN]; omega)
theorem passM_ok (o : okSh np pl lk cu) (q : okSe np S) (ht : S 73 < 9999) : okSe np (passM co we np pl lk cu S).1 ∧ (passM co we np pl lk cu S).1 72 = S 72 ∧ (passM co we np pl lk cu S).1 73 = S 73 + 1 ∧ 0 ≤ (passM co we np pl lk cu S).2 ∧ (passM co we np pl lk cu S).2 ≤ 12 := by
  have q1 := q.1
  have z := passN_ok (co := co) (we := we) o q (S 72).toNat (by omega)
  refine ⟨z.1.ti (by omega) (by omega), ?_, ?_, z.2.2.2.1, by show (passN co we np pl lk cu S (S 72).toNat).2 ≤ 12; omega⟩
  · dsimp only [passM]
    rw [fset_ne (by decide)]
    exact z.2.1
  · dsimp only [passM]
    exact fset_at _ _ _
end FLOAT
