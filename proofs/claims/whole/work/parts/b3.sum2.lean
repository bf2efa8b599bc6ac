/-! The reference: a clause summed up. -/
section MSTP
variable {o v : Int} {env pl : Int → Int} {l ts l2 t2 : List Int}
theorem mPsh_i {w : Int} (h : mPsh w l ts = some (l2, t2)) : l2 = w :: l ∧ t2 = ts ∧ okV w ∧ l.length < 320 := by
  unfold mPsh at h
  split at h
  · rename_i c
    cases h
    exact ⟨rfl, rfl, c.1, c.2⟩
  · cases h
theorem mS_0 (z : o = 0) (h : mStp o v env pl l ts = some (l2, t2)) : l2 = v :: l ∧ t2 = ts ∧ okV v ∧ l.length < 320 := by
  subst z; unfold mStp at h; rw [if_pos rfl] at h; exact mPsh_i h
theorem mS_1 (z : o = 1) (h : mStp o v env pl l ts = some (l2, t2)) : l2 = env v :: l ∧ t2 = ts ∧ okV (env v) ∧ l.length < 320 := by
  subst z; unfold mStp at h; rw [if_neg (by decide), if_pos rfl] at h; exact mPsh_i h
theorem mS_3 (z : o = 3) (h : mStp o v env pl l ts = some (l2, t2)) : ∃ y x r t, l = y :: x :: r ∧ ts = t :: t2 ∧ l2 = (if t = 0 then y else x) :: r := by
  subst z; unfold mStp at h; rw [if_neg (by decide), if_neg (by decide), if_pos rfl] at h
  rcases l with _ | ⟨y, _ | ⟨x, r⟩⟩
  · cases h
  · cases h
  · rcases ts with _ | ⟨t, q⟩
    · cases h
    · cases h
      exact ⟨y, x, r, t, rfl, rfl, rfl⟩
theorem mS_5 (z : o = 5) (h : mStp o v env pl l ts = some (l2, t2)) : ∃ x r, l = x :: r ∧ l2 = -x :: r ∧ t2 = ts ∧ okV (-x) := by
  subst z; unfold mStp at h; rw [if_neg (by decide), if_neg (by decide), if_neg (by decide), if_pos rfl] at h
  rcases l with _ | ⟨x, r⟩
  · cases h
  · have q := mPsh_i h
    exact ⟨x, r, rfl, q.1, q.2.1, q.2.2.1⟩
theorem mS_2 (z : o = 2) (h : mStp o v env pl l ts = some (l2, t2)) : ∃ x r, l = x :: r ∧ l2 = pl x :: r ∧ t2 = ts ∧ okV (pl x) := by
  subst z; unfold mStp at h; rw [if_neg (by decide), if_neg (by decide), if_neg (by decide), if_neg (by decide), if_pos rfl] at h
  rcases l with _ | ⟨x, r⟩
  · cases h
  · have q := mPsh_i h
    exact ⟨x, r, rfl, q.1, q.2.1, q.2.2.1⟩
theorem mS_t (z : o = 4 ∨ (6 ≤ o ∧ o < 10)) (h : mStp o v env pl l ts = some (l2, t2)) : ∃ y x r, l = y :: x :: r ∧ l2 = (if o = 4 then lim (max 0 (x - y)) else mTwo o x y) :: r ∧ t2 = ts ∧ okV (if o = 4 then lim (max 0 (x - y)) else mTwo o x y) := by
  unfold mStp at h; rw [if_neg (by omega), if_neg (by omega), if_neg (by omega), if_neg (by omega), if_neg (by omega), if_pos (by omega)] at h
  rcases l with _ | ⟨y, _ | ⟨x, r⟩⟩
  · cases h
  · cases h
  · have q := mPsh_i h
    exact ⟨y, x, r, rfl, q.1, q.2.1, q.2.2.1⟩
theorem mS_c (z : 10 ≤ o ∧ o < 20) (h : mStp o v env pl l ts = some (l2, t2)) : ∃ y x, l = y :: x :: l2 ∧ t2 = mAsk o x y :: ts ∧ ts.length < 320 := by
  unfold mStp at h; rw [if_neg (by omega), if_neg (by omega), if_neg (by omega), if_neg (by omega), if_neg (by omega), if_neg (by omega), if_pos (by omega)] at h
  rcases l with _ | ⟨y, _ | ⟨x, r⟩⟩
  · cases h
  · cases h
  · dsimp only at h
    split at h
    · rename_i c
      cases h
      exact ⟨y, x, rfl, rfl, c⟩
    · cases h
theorem mS_n (z : o = 20) (h : mStp o v env pl l ts = some (l2, t2)) : ∃ t q, ts = t :: q ∧ l2 = l ∧ t2 = (if t = 0 then 1 else 0) :: q := by
  subst z; unfold mStp at h; rw [if_neg (by omega), if_neg (by omega), if_neg (by omega), if_neg (by omega), if_neg (by omega), if_neg (by omega), if_neg (by omega), if_pos rfl] at h
  rcases ts with _ | ⟨t, q⟩
  · cases h
  · cases h
    exact ⟨t, q, rfl, rfl, rfl⟩
theorem mS_j (z : 20 < o) (h : mStp o v env pl l ts = some (l2, t2)) : ∃ u t q, ts = u :: t :: q ∧ l2 = l ∧ t2 = mJn o t u :: q := by
  unfold mStp at h; rw [if_neg (by omega), if_neg (by omega), if_neg (by omega), if_neg (by omega), if_neg (by omega), if_neg (by omega), if_neg (by omega), if_neg (by omega)] at h
  rcases ts with _ | ⟨u, _ | ⟨t, q⟩⟩
  · cases h
  · cases h
  · cases h
    exact ⟨u, t, q, rfl, rfl, rfl⟩
theorem Sk_put {st : Int → Int} {t i n w : Int} (s : Sk st l t) (hi : i = t) (hn : n = t + 1) : Sk (fset st i w) (w :: l) n := by
  subst hi; subst hn
  refine ⟨?_, ?_⟩
  · rw [show i + 1 - 1 = i by omega, fset_at]
  · rw [show i + 1 - 1 = i by omega]
    exact Sk_ext s fun j hj => fset_ne (by omega)
theorem Sk_eq {st : Int → Int} {t n : Int} (s : Sk st l t) (hn : n = t) : Sk st l n := hn ▸ s
end MSTP
