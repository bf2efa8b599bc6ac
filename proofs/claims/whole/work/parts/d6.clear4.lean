/-! Clear: rests of the words, by word and digits behind. -/
def nzD (u : Int) : Prop := u % 10 ≠ 0 ∧ (10 ≤ u → u / 10 % 10 ≠ 0) ∧ (100 ≤ u → u / 100 % 10 ≠ 0) ∧ (1000 ≤ u → u / 1000 % 10 ≠ 0)
def okC (Y : Int → Int) : Prop := wdP Y ∧ (∀ i, 0 ≤ i → i < Y 53 → nzD (Y (12 + i))) ∧ ∀ i j, 0 ≤ i → i < Y 53 → 0 ≤ j → j < Y 53 → Y (12 + i) = Y (12 + j) → i = j
theorem dig_cs {u : Int} (u0 : 1 ≤ u) (u1 : u ≤ 9999) : (digM u = 1 ∧ u < 10) ∨ (digM u = 2 ∧ 10 ≤ u ∧ u < 100) ∨ (digM u = 3 ∧ 100 ≤ u ∧ u < 1000) ∨ (digM u = 4 ∧ 1000 ≤ u) := by
  by_cases c1 : u < 10
  · exact .inl ⟨digM_1 u0 c1, c1⟩
  by_cases c2 : u < 100
  · exact .inr (.inl ⟨digM_2 (by omega) c2, by omega, c2⟩)
  by_cases c3 : u < 1000
  · exact .inr (.inr (.inl ⟨digM_3 (by omega) c3, by omega, c3⟩))
  exact .inr (.inr (.inr ⟨digM_4 (by omega) (by omega), by omega⟩))
theorem ten_1 : tenM 1 = 10 := by decide
theorem ten_2 : tenM 2 = 100 := by decide
theorem ten_3 : tenM 3 = 1000 := by decide
def vN (Y : Int → Int) (c b : Int) : Prop := (0 ≤ c ∧ c < Y 53) ∧ 1 ≤ b ∧ b < digM (Y (12 + c))
section RESTS
variable {Y : Int → Int} {c b w l e : Int}
theorem nz_mod {u l : Int} (u0 : 1 ≤ u) (u1 : u ≤ 9999) (z : nzD u) (l0 : 1 ≤ l) (l1 : l < digM u) : (1 ≤ Int.tmod u (tenM l) ∧ Int.tmod u (tenM l) ≤ 999) ∧ digM (Int.tmod u (tenM l)) = l := by
  obtain ⟨z1, z2, z3, z4⟩ := z
  rw [Int.tmod_eq_emod_of_nonneg (by omega)]
  have d := dig_cs u0 u1
  have hl : l = 1 ∨ l = 2 ∨ l = 3 := by omega
  rcases hl with h | h | h <;> subst h
  · rw [ten_1]; exact ⟨by omega, digM_1 (by omega) (by omega)⟩
  · rw [ten_2]; exact ⟨by omega, digM_2 (by omega) (by omega)⟩
  · rw [ten_3]; exact ⟨by omega, digM_3 (by omega) (by omega)⟩
theorem vN.r (o : okC Y) (v : vN Y c b) : (1 ≤ rstM Y c b ∧ rstM Y c b ≤ 999) ∧ digM (rstM Y c b) = lenM Y c b := by
  obtain ⟨⟨v1, v2⟩, v3, v4⟩ := v
  have wc := o.1.2 c v1 v2
  exact nz_mod wc.1 wc.2 (o.2.1 c v1 v2) (by unfold lenM; omega) (by unfold lenM; omega)
theorem mod_mod {u l m : Int} (u0 : 0 ≤ u) (m0 : 1 ≤ m) (ml : m < l) (l3 : l ≤ 3) : Int.tmod (Int.tmod u (tenM l)) (tenM m) = Int.tmod u (tenM m) := by
  have h : (l = 2 ∧ m = 1) ∨ (l = 3 ∧ m = 1) ∨ (l = 3 ∧ m = 2) := by omega
  rw [Int.tmod_eq_emod_of_nonneg u0, Int.tmod_eq_emod_of_nonneg u0]
  rcases h with ⟨h1, h2⟩ | ⟨h1, h2⟩ | ⟨h1, h2⟩ <;> subst h1 <;> subst h2
  · rw [ten_2, ten_1, Int.tmod_eq_emod_of_nonneg (by omega)]; omega
  · rw [ten_3, ten_1, Int.tmod_eq_emod_of_nonneg (by omega)]; omega
  · rw [ten_3, ten_2, Int.tmod_eq_emod_of_nonneg (by omega)]; omega
theorem rs_c {a b : Int} (h : 0 < rsM a b) : 0 < digM a - digM b ∧ Int.tdiv a (tenM (digM a - digM b)) = b ∧ rsM a b = Int.tmod a (tenM (digM a - digM b)) := by
  unfold rsM at h ⊢
  split at h
  next q => rw [if_pos q]; exact ⟨q.1, q.2, rfl⟩
  next => omega
theorem rs_in (o : okC Y) (v : vN Y c b) (w0 : 0 ≤ w) (w1 : w < Y 53) (h : 0 < rsM (rstM Y c b) (Y (12 + w))) : vN Y c (b + digM (Y (12 + w))) ∧ rstM Y c (b + digM (Y (12 + w))) = rsM (rstM Y c b) (Y (12 + w)) ∧ (digM (Y (12 + w)) - lenM Y c b < 0 ∧ stM (rstM Y c b) (Y (12 + w)) ≠ 0) ∧ Y (12 + w) ≠ rstM Y c b := by
  have g := v.r o
  obtain ⟨⟨v1, v2⟩, v3, v4⟩ := v
  have wc := o.1.2 c v1 v2
  have ww := o.1.2 w w0 w1
  have dc := digM_rg wc.1 wc.2
  have dw := digM_rg ww.1 ww.2
  obtain ⟨h1, h2, h3⟩ := rs_c h
  have e2 : lenM Y c b = digM (Y (12 + c)) - b := rfl
  rw [g.2] at h1 h2 h3
  refine ⟨⟨⟨v1, v2⟩, by omega, by omega⟩, ?_, ⟨by omega, ?_⟩, ?_⟩
  · rw [h3]
    have e3 : lenM Y c (b + digM (Y (12 + w))) = lenM Y c b - digM (Y (12 + w)) := by unfold lenM; omega
    show Int.tmod (Y (12 + c)) (tenM (lenM Y c (b + digM (Y (12 + w))))) = Int.tmod (Int.tmod (Y (12 + c)) (tenM (lenM Y c b))) (tenM (lenM Y c b - digM (Y (12 + w))))
    rw [e3, mod_mod (by omega) (by omega) (by omega) (by omega)]
  · unfold stM
    rw [g.2, if_pos ⟨by omega, h2⟩]; decide
  · intro q
    rw [← q] at g
    omega
theorem rs_out (o : okC Y) (v : vN Y c b) (w0 : 0 ≤ w) (w1 : w < Y 53) (h : 0 < rsM (Y (12 + w)) (rstM Y c b)) : vN Y w (lenM Y c b) ∧ rstM Y w (lenM Y c b) = rsM (Y (12 + w)) (rstM Y c b) ∧ (0 < digM (Y (12 + w)) - lenM Y c b ∧ stM (Y (12 + w)) (rstM Y c b) ≠ 0) ∧ Y (12 + w) ≠ rstM Y c b ∧ digM (rsM (Y (12 + w)) (rstM Y c b)) = digM (Y (12 + w)) - lenM Y c b := by
  have g := v.r o
  obtain ⟨⟨v1, v2⟩, v3, v4⟩ := v
  have ww := o.1.2 w w0 w1
  obtain ⟨h1, h2, h3⟩ := rs_c h
  have e2 : lenM Y c b = digM (Y (12 + c)) - b := rfl
  rw [g.2] at h1 h2 h3
  have vw : vN Y w (lenM Y c b) := ⟨⟨w0, w1⟩, by omega, by omega⟩
  have gw := vw.r o
  have ew : rstM Y w (lenM Y c b) = rsM (Y (12 + w)) (rstM Y c b) := by rw [h3]; rfl
  refine ⟨vw, ew, ⟨h1, ?_⟩, ?_, ?_⟩
  · unfold stM
    rw [g.2, if_pos ⟨by omega, h2⟩]; decide
  · intro q
    rw [← q] at g
    omega
  · rw [← ew, gw.2]; rfl
theorem rs_base (o : okC Y) (l0 : 0 ≤ l) (l1 : l < Y 53) (e0 : 0 ≤ e) (e1 : e < Y 53) (h : 0 < rsM (Y (12 + l)) (Y (12 + e))) : vN Y l (digM (Y (12 + e))) ∧ rstM Y l (digM (Y (12 + e))) = rsM (Y (12 + l)) (Y (12 + e)) ∧ l ≠ e ∧ stM (Y (12 + l)) (Y (12 + e)) ≠ 0 := by
  have we := o.1.2 e e0 e1
  have de := digM_rg we.1 we.2
  obtain ⟨h1, h2, h3⟩ := rs_c h
  refine ⟨⟨⟨l0, l1⟩, by omega, by omega⟩, by rw [h3]; rfl, by intro q; subst q; omega, ?_⟩
  unfold stM
  rw [if_pos ⟨by omega, h2⟩]; decide
theorem st_c {a b : Int} (h : stM a b ≠ 0) : 0 ≤ digM a - digM b ∧ Int.tdiv a (tenM (digM a - digM b)) = b := by
  unfold stM at h
  split at h
  next q => exact q
  next => exact absurd rfl h
theorem st_in (o : okC Y) (v : vN Y c b) (w0 : 0 ≤ w) (w1 : w < Y 53) (h1 : digM (Y (12 + w)) - lenM Y c b < 0) (h : stM (rstM Y c b) (Y (12 + w)) ≠ 0) : 0 < rsM (rstM Y c b) (Y (12 + w)) := by
  have g := v.r o
  obtain ⟨⟨v1, v2⟩, v3, v4⟩ := v
  have wc := o.1.2 c v1 v2
  have ww := o.1.2 w w0 w1
  have dc := digM_rg wc.1 wc.2
  have dw := digM_rg ww.1 ww.2
  have e2 : lenM Y c b = digM (Y (12 + c)) - b := rfl
  have s := st_c h
  unfold rsM
  rw [g.2] at s ⊢
  rw [if_pos ⟨by omega, s.2⟩]
  have m := mod_mod (u := Y (12 + c)) (l := lenM Y c b) (m := lenM Y c b - digM (Y (12 + w))) (by omega) (by omega) (by omega) (by omega)
  have n := nz_mod wc.1 wc.2 (o.2.1 c v1 v2) (l := lenM Y c b - digM (Y (12 + w))) (by omega) (by omega)
  have e3 : rstM Y c b = Int.tmod (Y (12 + c)) (tenM (lenM Y c b)) := rfl
  rw [e3, m]
  omega
theorem st_out (o : okC Y) (v : vN Y c b) (w0 : 0 ≤ w) (w1 : w < Y 53) (h1 : 0 < digM (Y (12 + w)) - lenM Y c b) (h : stM (Y (12 + w)) (rstM Y c b) ≠ 0) : 0 < rsM (Y (12 + w)) (rstM Y c b) := by
  have g := v.r o
  obtain ⟨⟨v1, v2⟩, v3, v4⟩ := v
  have ww := o.1.2 w w0 w1
  have e2 : lenM Y c b = digM (Y (12 + c)) - b := rfl
  have s := st_c h
  unfold rsM
  rw [g.2] at s ⊢
  rw [if_pos ⟨by omega, s.2⟩]
  have n := nz_mod ww.1 ww.2 (o.2.1 w w0 w1) (l := digM (Y (12 + w)) - lenM Y c b) (by omega) (by omega)
  omega
theorem st_base (o : okC Y) (l0 : 0 ≤ l) (l1 : l < Y 53) (e0 : 0 ≤ e) (e1 : e < Y 53) (le : l ≠ e) (h : stM (Y (12 + l)) (Y (12 + e)) ≠ 0) : 0 < rsM (Y (12 + l)) (Y (12 + e)) := by
  have wl := o.1.2 l l0 l1
  have we := o.1.2 e e0 e1
  have dl := digM_rg wl.1 wl.2
  have de := digM_rg we.1 we.2
  have s := st_c h
  by_cases q : digM (Y (12 + l)) - digM (Y (12 + e)) = 0
  · rw [q, show tenM 0 = 1 from by decide, Int.tdiv_one] at s
    exact absurd (o.2.2 l e l0 l1 e0 e1 s.2) le
  · unfold rsM
    rw [if_pos ⟨by omega, s.2⟩]
    have n := nz_mod wl.1 wl.2 (o.2.1 l l0 l1) (l := digM (Y (12 + l)) - digM (Y (12 + e))) (by omega) (by omega)
    omega
end RESTS
/-- a way to a word's rest, digits behind: what the two rows hold then -/
def PcN (Y : Int → Int) : Nat → Int → Int → Int → Prop
  | 0, c, b, v => vN Y c b ∧ ∃ e : Int, (0 ≤ e ∧ e < Y 53) ∧ 0 < rsM (Y (12 + c)) (Y (12 + e)) ∧ b = digM (Y (12 + e)) ∧ v = digM (Y (12 + c))
  | m + 1, c, b, v => vN Y c b ∧ ∃ c0 b0 v0 w : Int, PcN Y m c0 b0 v0 ∧ (0 ≤ w ∧ w < Y 53) ∧ ((0 < rsM (rstM Y c0 b0) (Y (12 + w)) ∧ c = c0 ∧ b = b0 + digM (Y (12 + w)) ∧ v = v0) ∨ (0 < rsM (Y (12 + w)) (rstM Y c0 b0) ∧ c = w ∧ b = lenM Y c0 b0 ∧ v = v0 + (digM (Y (12 + w)) - lenM Y c0 b0)))
theorem PcN.vn {Y : Int → Int} {m : Nat} {c b v : Int} (h : PcN Y m c b v) : vN Y c b := by
  cases m with
  | zero => exact h.1
  | succ m => exact h.1
theorem PcN.v0 {Y : Int → Int} (o : okC Y) : ∀ {m : Nat} {c b v : Int}, PcN Y m c b v → 0 ≤ v := by
  intro m
  induction m with
  | zero => intro c b v ⟨h1, e, h2, h3, h4, h5⟩; have := digM_le (Y (12 + c)); omega
  | succ m ih =>
    intro c b v ⟨h1, c0, b0, v0, w, h2, h3, h4⟩
    have i := ih h2
    rcases h4 with ⟨a1, a2, a3, a4⟩ | ⟨a1, a2, a3, a4⟩
    · omega
    · have := (rs_out o h2.vn h3.1 h3.2 a1).2.2.1.1; omega
theorem PcN.pa {Y : Int → Int} (o : okC Y) : ∀ (m : Nat) (c b v : Int), PcN Y m c b v → PaN Y m (rstM Y c b) v := by
  intro m
  induction m with
  | zero =>
    intro c b v h
    have g := h.vn.r o
    obtain ⟨h1, e, h2, h3, h4, h5⟩ := h
    have r := rs_base o h1.1.1 h1.1.2 h2.1 h2.2 h3
    subst h4
    exact ⟨by omega, c, e, h1.1, h2, r.2.1.symm, h5⟩
  | succ m ih =>
    intro c b v h
    have g := h.vn.r o
    obtain ⟨h1, c0, b0, v0, w, h2, h3, h4⟩ := h
    refine ⟨by omega, _, v0, w, ih c0 b0 v0 h2, h3, ?_⟩
    rcases h4 with ⟨a1, a2, a3, a4⟩ | ⟨a1, a2, a3, a4⟩
    · have r := rs_in o h2.vn h3.1 h3.2 a1
      subst a2; subst a3
      exact .inl ⟨r.2.1.symm, a4⟩
    · have r := rs_out o h2.vn h3.1 h3.2 a1
      subst a2; subst a3
      refine .inr ⟨r.2.1.symm, ?_⟩
      rw [r.2.1, r.2.2.2.2]; exact a4
theorem PaN.pc {Y : Int → Int} (o : okC Y) : ∀ (m : Nat) (r v : Int), PaN Y m r v → ∃ c b, PcN Y m c b v ∧ rstM Y c b = r := by
  intro m
  induction m with
  | zero =>
    intro r v ⟨h0, k, e, hk, he, h1, h2⟩
    have q := rs_base o hk.1 hk.2 he.1 he.2 (by omega)
    exact ⟨k, digM (Y (12 + e)), ⟨q.1, e, he, by omega, rfl, h2⟩, by rw [q.2.1, h1]⟩
  | succ m ih =>
    intro r v ⟨h0, r0, v0, k, hp, hk, h⟩
    obtain ⟨c, b, p, hr⟩ := ih r0 v0 hp
    rcases h with ⟨h1, h2⟩ | ⟨h1, h2⟩
    · have q := rs_in o p.vn hk.1 hk.2 (by rw [hr]; omega)
      exact ⟨_, _, ⟨q.1, c, b, v0, k, p, hk, .inl ⟨by rw [hr]; omega, rfl, rfl, h2⟩⟩, by rw [q.2.1, hr, h1]⟩
    · have q := rs_out o p.vn hk.1 hk.2 (by rw [hr]; omega)
      refine ⟨_, _, ⟨q.1, c, b, v0, k, p, hk, .inr ⟨by rw [hr]; omega, rfl, rfl, ?_⟩⟩, by rw [q.2.1, hr, h1]⟩
      rw [← q.2.2.2.2, hr, h1]; exact h2
