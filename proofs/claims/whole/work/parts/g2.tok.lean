/-! The reference's tokens: what is at hand, told by the class's tokens. -/
def wC2 (x y : Int) : Int := or64 (shl64 x 8) y
def wC3 (x y z : Int) : Int := or64 (shl64 (wC2 x y) 8) z
def wC4 (x y z w : Int) : Int := or64 (shl64 (wC3 x y z) 8) w
def wC5 (x y z w v : Int) : Int := or64 (shl64 (wC4 x y z w) 8) v
def wC6 (x y z w v u : Int) : Int := or64 (shl64 (wC5 x y z w v) 8) u
def wkP (v k : Int) : Prop := (v = wC5 99 111 109 101 115 ∧ k = 16) ∨ (v = wC5 119 101 97 114 115 ∧ k = 17) ∨ (v = wC6 112 101 114 115 111 110 ∧ k = 18) ∨ (v = wC4 116 111 115 115 ∧ k = 20) ∨ (v = wC4 102 105 115 104 ∧ k = 21) ∨ (v = wC5 97 103 97 105 110 ∧ k = 22) ∨ (v = wC4 116 105 100 101 ∧ k = 23) ∨ (v = wC5 115 105 110 99 101 ∧ k = 24) ∨ (v = wC4 99 111 114 107 ∧ k = 25) ∨ (v = wC4 108 117 99 107 ∧ k = 26) ∨ (v = wC2 97 116 ∧ k = 27) ∨ (v = wC4 102 114 111 109 ∧ k = 28) ∨ (v = wC2 116 111 ∧ k = 29) ∨ (v = wC4 110 101 97 114 ∧ k = 30) ∨ (v = wC2 98 121 ∧ k = 31) ∨ (v = wC5 108 97 116 101 114 ∧ k = 32) ∨ (v = wC4 116 104 97 110 ∧ k = 33) ∨ (v = wC6 112 108 97 99 101 115 ∧ k = 34) ∨ (v = wC2 105 102 ∧ k = 35) ∨ (v = wC4 116 104 101 110 ∧ k = 36) ∨ (v = wC4 101 108 115 101 ∧ k = 37) ∨ (v = wC3 101 110 100 ∧ k = 38) ∨ (v = wC2 111 114 ∧ k = 39) ∨ (v = wC3 97 110 100 ∧ k = 40) ∨ (v = wC3 110 111 116 ∧ k = 41)
def sgP (x k : Int) : Prop := (x = 0 ∧ k = 0) ∨ (x = 1 ∧ k = 2) ∨ (x = 60 ∧ k = 5) ∨ (x = 62 ∧ k = 6) ∨ (x = 61 ∧ k = 7) ∨ (x = 35 ∧ k = 8) ∨ (x = 43 ∧ k = 9) ∨ (x = 45 ∧ k = 10) ∨ (x = 42 ∧ k = 11) ∨ (x = 47 ∧ k = 12) ∨ (x = 40 ∧ k = 13) ∨ (x = 41 ∧ k = 14) ∨ (x = 59 ∧ k = 15) ∨ (x = 4 ∧ k = 3) ∨ (x = 5 ∧ k = 4)
theorem wd_comes : wkP (wC5 99 111 109 101 115) 16 := .inl ⟨rfl, rfl⟩
theorem wd_wears : wkP (wC5 119 101 97 114 115) 17 := .inr (.inl ⟨rfl, rfl⟩)
theorem wd_person : wkP (wC6 112 101 114 115 111 110) 18 := .inr (.inr (.inl ⟨rfl, rfl⟩))
theorem wd_toss : wkP (wC4 116 111 115 115) 20 := .inr (.inr (.inr (.inl ⟨rfl, rfl⟩)))
theorem wd_fish : wkP (wC4 102 105 115 104) 21 := .inr (.inr (.inr (.inr (.inl ⟨rfl, rfl⟩))))
theorem wd_again : wkP (wC5 97 103 97 105 110) 22 := .inr (.inr (.inr (.inr (.inr (.inl ⟨rfl, rfl⟩)))))
theorem wd_tide : wkP (wC4 116 105 100 101) 23 := .inr (.inr (.inr (.inr (.inr (.inr (.inl ⟨rfl, rfl⟩))))))
theorem wd_since : wkP (wC5 115 105 110 99 101) 24 := .inr (.inr (.inr (.inr (.inr (.inr (.inr (.inl ⟨rfl, rfl⟩)))))))
theorem wd_cork : wkP (wC4 99 111 114 107) 25 := .inr (.inr (.inr (.inr (.inr (.inr (.inr (.inr (.inl ⟨rfl, rfl⟩))))))))
theorem wd_luck : wkP (wC4 108 117 99 107) 26 := .inr (.inr (.inr (.inr (.inr (.inr (.inr (.inr (.inr (.inl ⟨rfl, rfl⟩)))))))))
theorem wd_at : wkP (wC2 97 116) 27 := .inr (.inr (.inr (.inr (.inr (.inr (.inr (.inr (.inr (.inr (.inl ⟨rfl, rfl⟩))))))))))
theorem wd_from : wkP (wC4 102 114 111 109) 28 := .inr (.inr (.inr (.inr (.inr (.inr (.inr (.inr (.inr (.inr (.inr (.inl ⟨rfl, rfl⟩)))))))))))
theorem wd_to : wkP (wC2 116 111) 29 := .inr (.inr (.inr (.inr (.inr (.inr (.inr (.inr (.inr (.inr (.inr (.inr (.inl ⟨rfl, rfl⟩))))))))))))
theorem wd_near : wkP (wC4 110 101 97 114) 30 := .inr (.inr (.inr (.inr (.inr (.inr (.inr (.inr (.inr (.inr (.inr (.inr (.inr (.inl ⟨rfl, rfl⟩)))))))))))))
theorem wd_by : wkP (wC2 98 121) 31 := .inr (.inr (.inr (.inr (.inr (.inr (.inr (.inr (.inr (.inr (.inr (.inr (.inr (.inr (.inl ⟨rfl, rfl⟩))))))))))))))
theorem wd_later : wkP (wC5 108 97 116 101 114) 32 := .inr (.inr (.inr (.inr (.inr (.inr (.inr (.inr (.inr (.inr (.inr (.inr (.inr (.inr (.inr (.inl ⟨rfl, rfl⟩)))))))))))))))
theorem wd_than : wkP (wC4 116 104 97 110) 33 := .inr (.inr (.inr (.inr (.inr (.inr (.inr (.inr (.inr (.inr (.inr (.inr (.inr (.inr (.inr (.inr (.inl ⟨rfl, rfl⟩))))))))))))))))
theorem wd_places : wkP (wC6 112 108 97 99 101 115) 34 := .inr (.inr (.inr (.inr (.inr (.inr (.inr (.inr (.inr (.inr (.inr (.inr (.inr (.inr (.inr (.inr (.inr (.inl ⟨rfl, rfl⟩)))))))))))))))))
theorem wd_if : wkP (wC2 105 102) 35 := .inr (.inr (.inr (.inr (.inr (.inr (.inr (.inr (.inr (.inr (.inr (.inr (.inr (.inr (.inr (.inr (.inr (.inr (.inl ⟨rfl, rfl⟩))))))))))))))))))
theorem wd_then : wkP (wC4 116 104 101 110) 36 := .inr (.inr (.inr (.inr (.inr (.inr (.inr (.inr (.inr (.inr (.inr (.inr (.inr (.inr (.inr (.inr (.inr (.inr (.inr (.inl ⟨rfl, rfl⟩)))))))))))))))))))
theorem wd_else : wkP (wC4 101 108 115 101) 37 := .inr (.inr (.inr (.inr (.inr (.inr (.inr (.inr (.inr (.inr (.inr (.inr (.inr (.inr (.inr (.inr (.inr (.inr (.inr (.inr (.inl ⟨rfl, rfl⟩))))))))))))))))))))
theorem wd_end : wkP (wC3 101 110 100) 38 := .inr (.inr (.inr (.inr (.inr (.inr (.inr (.inr (.inr (.inr (.inr (.inr (.inr (.inr (.inr (.inr (.inr (.inr (.inr (.inr (.inr (.inl ⟨rfl, rfl⟩)))))))))))))))))))))
theorem wd_or : wkP (wC2 111 114) 39 := .inr (.inr (.inr (.inr (.inr (.inr (.inr (.inr (.inr (.inr (.inr (.inr (.inr (.inr (.inr (.inr (.inr (.inr (.inr (.inr (.inr (.inr (.inl ⟨rfl, rfl⟩))))))))))))))))))))))
theorem wd_and : wkP (wC3 97 110 100) 40 := .inr (.inr (.inr (.inr (.inr (.inr (.inr (.inr (.inr (.inr (.inr (.inr (.inr (.inr (.inr (.inr (.inr (.inr (.inr (.inr (.inr (.inr (.inr (.inl ⟨rfl, rfl⟩)))))))))))))))))))))))
theorem wd_not : wkP (wC3 110 111 116) 41 := .inr (.inr (.inr (.inr (.inr (.inr (.inr (.inr (.inr (.inr (.inr (.inr (.inr (.inr (.inr (.inr (.inr (.inr (.inr (.inr (.inr (.inr (.inr (.inr (⟨rfl, rfl⟩))))))))))))))))))))))))
def curP (F : Int → Int) (p : Int) : Prop := tkN F p - tkS F p = 7 ∧ byA F (tkS F p) = 99 ∧ byA F (tkS F p + 1) = 117 ∧ byA F (tkS F p + 2) = 114 ∧ byA F (tkS F p + 3) = 114 ∧ byA F (tkS F p + 4) = 101 ∧ byA F (tkS F p + 5) = 110 ∧ byA F (tkS F p + 6) = 116
def TkR (F : Int → Int) (p tok num word : Int) : Prop := (∀ x k, sgP x k → (tok = x ↔ tkK F p = k)) ∧ (∀ v k, wkP v k → ((tok = 2 ∧ word = v) ↔ tkK F p = k)) ∧ (tkK F p = 2 → 0 ≤ num ∧ min num 10000 = tkV F p) ∧ ((tok = 2 ∧ curP F p) ↔ tkK F p = 19)
def lwL (F : Int → Int) : Nat → Int → List Int
  | 0, _ => []
  | m + 1, q => if letB (byA F q) = true then byA F q :: lwL F m (q + 1) else []
theorem ltN_ge {F : Int → Int} : ∀ (m : Nat) (q : Int), q ≤ ltN F m q := by
  intro m
  induction m with
  | zero => intro q; exact Int.le_refl _
  | succ m ih =>
    intro q
    unfold ltN
    split
    · have := ih (q + 1); omega
    · exact Int.le_refl _
theorem lwL_eq {F : Int → Int} : ∀ (m : Nat) (q : Int), lwL F m q = ltsL F q (ltN F m q - q).toNat := by
  intro m
  induction m with
  | zero => intro q; show [] = ltsL F q (q - q).toNat; rw [show (q - q).toNat = 0 by omega]; rfl
  | succ m ih =>
    intro q
    unfold lwL ltN
    by_cases c : letB (byA F q) = true
    · rw [if_pos c, if_pos c, ih (q + 1)]
      have g := ltN_ge (F := F) m (q + 1)
      rw [show (ltN F m (q + 1) - q).toNat = (ltN F m (q + 1) - (q + 1)).toNat + 1 by omega]
      rfl
    · rw [if_neg c, if_neg c, show (q - q).toNat = 0 by omega]
      rfl
theorem lwL_ok {F : Int → Int} : ∀ (m : Nat) (q : Int), ltOk (lwL F m q) := by
  intro m
  induction m with
  | zero => intro q b hb; cases hb
  | succ m ih =>
    intro q b hb
    unfold lwL at hb
    by_cases c : letB (byA F q) = true
    · rw [if_pos c] at hb
      rcases List.mem_cons.mp hb with e | hb
      · have := of_decide_eq_true c
        rw [e]
        omega
      · exact ih _ b hb
    · rw [if_neg c] at hb
      cases hb
theorem lt7 {F : Int → Int} {s : Int} (a b c d e f g : Int) : ltsL F s 7 = [a, b, c, d, e, f, g] ↔ (byA F s = a ∧ byA F (s + 1) = b ∧ byA F (s + 2) = c ∧ byA F (s + 3) = d ∧ byA F (s + 4) = e ∧ byA F (s + 5) = f ∧ byA F (s + 6) = g) := by
  show [byA F s, byA F (s + 1), byA F (s + 1 + 1), byA F (s + 1 + 1 + 1), byA F (s + 1 + 1 + 1 + 1), byA F (s + 1 + 1 + 1 + 1 + 1), byA F (s + 1 + 1 + 1 + 1 + 1 + 1)] = _ ↔ _
  rw [show s + 1 + 1 = s + 2 by omega, show s + 2 + 1 = s + 3 by omega, show s + 3 + 1 = s + 4 by omega, show s + 4 + 1 = s + 5 by omega, show s + 5 + 1 = s + 6 by omega]
  simp only [List.cons.injEq, and_true]
section TOK
variable {F : Int → Int} {p : Int}
theorem tk_0 {num word : Int} (h : byA F (tkS F p) = -1) : tkK F p = 0 ∧ tkN F p = tkS F p ∧ TkR F p 0 num word := by
  have e : tkT F (tkS F p) = (0, 0, tkS F p) := if_pos h
  have k0 : tkK F p = 0 := by unfold tkK; rw [e]
  refine ⟨k0, by unfold tkN; rw [e], ?_⟩
  unfold TkR
  rw [k0]
  refine ⟨fun x k hs => by unfold sgP at hs; omega, fun v k hv => ?_, fun q => absurd q (by decide), by omega⟩
  have : 16 ≤ k := by unfold wkP at hv; omega
  omega
theorem tk_2 {num word : Int} (h : digB (byA F (tkS F p)) = true) (hn : 0 ≤ num ∧ min num 10000 = (dgN F 300 (tkS F p) 0).2) : tkK F p = 2 ∧ tkN F p = (dgN F 300 (tkS F p) 0).1 ∧ TkR F p 1 num word := by
  have d := dg_ne h
  have e : tkT F (tkS F p) = (2, (dgN F 300 (tkS F p) 0).2, (dgN F 300 (tkS F p) 0).1) := by unfold tkT; rw [if_neg d.1, if_pos h]
  have k0 : tkK F p = 2 := by unfold tkK; rw [e]
  have v0 : tkV F p = (dgN F 300 (tkS F p) 0).2 := by unfold tkV; rw [e]
  refine ⟨k0, by unfold tkN; rw [e], ?_⟩
  unfold TkR
  rw [k0, v0]
  refine ⟨fun x k hs => by unfold sgP at hs; omega, fun v k hv => ?_, fun _ => hn, by omega⟩
  have : 16 ≤ k := by unfold wkP at hv; omega
  omega
theorem tk_w {num word : Int} (h : letB (byA F (tkS F p)) = true) (hw : word = pkL (lwL F 300 (tkS F p))) : tkN F p = ltN F 300 (tkS F p) ∧ TkR F p 2 num word := by
  have d := of_decide_eq_true h
  have e : tkT F (tkS F p) = ((wdN F (tkS F p) (ltN F 300 (tkS F p)) 129).1, 0, ltN F 300 (tkS F p)) := by unfold tkT; rw [if_neg (lt_ne h), if_neg (fun w => by have := dg_ne w; omega), if_pos h]
  have k0 : tkK F p = (wdN F (tkS F p) (ltN F 300 (tkS F p)) 129).1 := by unfold tkK; rw [e]
  have n0 : tkN F p = ltN F 300 (tkS F p) := by unfold tkN; rw [e]
  have ge := ltN_ge (F := F) 300 (tkS F p)
  have wk := wd_kind (F := F) (s := tkS F p) (e := ltN F 300 (tkS F p)) (k := 0) ge
  have wg := wdN_ge F (tkS F p) (ltN F 300 (tkS F p)) 129
  rw [← k0] at wk wg
  have lk := lwL_ok (F := F) 300 (tkS F p)
  have le := lwL_eq (F := F) 300 (tkS F p)
  refine ⟨n0, fun x k hs => by unfold sgP at hs; omega, fun v k hv => ?_, fun q => by omega, ?_⟩
  · have U : ∀ w : List Int, ltOk w → w.length ≤ 6 → v = pkL w → (((2 : Int) = 2 ∧ word = v) ↔ weq F (tkS F p) (ltN F 300 (tkS F p)) w) := by
      intro w hw1 hw2 hv
      constructor
      · rintro ⟨_, q⟩
        show ltsL F (tkS F p) (ltN F 300 (tkS F p) - tkS F p).toNat = w
        rw [← le]
        exact pkL_inj _ lk w hw1 hw2 (by rw [← hw, q, hv])
      · intro q
        have q : ltsL F (tkS F p) (ltN F 300 (tkS F p) - tkS F p).toNat = w := q
        refine ⟨rfl, ?_⟩
        rw [hw, hv, le, q]
    have lo : ∀ w : List Int, (w.all fun b => decide (0 < b ∧ b < 256)) = true → ltOk w := fun w hw b hb => of_decide_eq_true (List.all_eq_true.mp hw b hb)
    obtain ⟨q16, q17, q18, q19, q20, q21, q22, q23, q24, q25, q26, q27, q28, q29, q30, q31, q32, q33, q34, q35, q36, q37, q38, q39, q40, q41⟩ := wk
    rcases hv with ⟨rfl, rfl⟩ | ⟨rfl, rfl⟩ | ⟨rfl, rfl⟩ | ⟨rfl, rfl⟩ | ⟨rfl, rfl⟩ | ⟨rfl, rfl⟩ | ⟨rfl, rfl⟩ | ⟨rfl, rfl⟩ | ⟨rfl, rfl⟩ | ⟨rfl, rfl⟩ | ⟨rfl, rfl⟩ | ⟨rfl, rfl⟩ | ⟨rfl, rfl⟩ | ⟨rfl, rfl⟩ | ⟨rfl, rfl⟩ | ⟨rfl, rfl⟩ | ⟨rfl, rfl⟩ | ⟨rfl, rfl⟩ | ⟨rfl, rfl⟩ | ⟨rfl, rfl⟩ | ⟨rfl, rfl⟩ | ⟨rfl, rfl⟩ | ⟨rfl, rfl⟩ | ⟨rfl, rfl⟩ | ⟨rfl, rfl⟩
    · rw [q16]; exact U [99, 111, 109, 101, 115] (lo _ rfl) (by decide) (by decide +kernel)
    · rw [q17]; exact U [119, 101, 97, 114, 115] (lo _ rfl) (by decide) (by decide +kernel)
    · rw [q18]; exact U [112, 101, 114, 115, 111, 110] (lo _ rfl) (by decide) (by decide +kernel)
    · rw [q20]; exact U [116, 111, 115, 115] (lo _ rfl) (by decide) (by decide +kernel)
    · rw [q21]; exact U [102, 105, 115, 104] (lo _ rfl) (by decide) (by decide +kernel)
    · rw [q22]; exact U [97, 103, 97, 105, 110] (lo _ rfl) (by decide) (by decide +kernel)
    · rw [q23]; exact U [116, 105, 100, 101] (lo _ rfl) (by decide) (by decide +kernel)
    · rw [q24]; exact U [115, 105, 110, 99, 101] (lo _ rfl) (by decide) (by decide +kernel)
    · rw [q25]; exact U [99, 111, 114, 107] (lo _ rfl) (by decide) (by decide +kernel)
    · rw [q26]; exact U [108, 117, 99, 107] (lo _ rfl) (by decide) (by decide +kernel)
    · rw [q27]; exact U [97, 116] (lo _ rfl) (by decide) (by decide +kernel)
    · rw [q28]; exact U [102, 114, 111, 109] (lo _ rfl) (by decide) (by decide +kernel)
    · rw [q29]; exact U [116, 111] (lo _ rfl) (by decide) (by decide +kernel)
    · rw [q30]; exact U [110, 101, 97, 114] (lo _ rfl) (by decide) (by decide +kernel)
    · rw [q31]; exact U [98, 121] (lo _ rfl) (by decide) (by decide +kernel)
    · rw [q32]; exact U [108, 97, 116, 101, 114] (lo _ rfl) (by decide) (by decide +kernel)
    · rw [q33]; exact U [116, 104, 97, 110] (lo _ rfl) (by decide) (by decide +kernel)
    · rw [q34]; exact U [112, 108, 97, 99, 101, 115] (lo _ rfl) (by decide) (by decide +kernel)
    · rw [q35]; exact U [105, 102] (lo _ rfl) (by decide) (by decide +kernel)
    · rw [q36]; exact U [116, 104, 101, 110] (lo _ rfl) (by decide) (by decide +kernel)
    · rw [q37]; exact U [101, 108, 115, 101] (lo _ rfl) (by decide) (by decide +kernel)
    · rw [q38]; exact U [101, 110, 100] (lo _ rfl) (by decide) (by decide +kernel)
    · rw [q39]; exact U [111, 114] (lo _ rfl) (by decide) (by decide +kernel)
    · rw [q40]; exact U [97, 110, 100] (lo _ rfl) (by decide) (by decide +kernel)
    · rw [q41]; exact U [110, 111, 116] (lo _ rfl) (by decide) (by decide +kernel)
  · obtain ⟨q16, q17, q18, q19, q20, q21, q22, q23, q24, q25, q26, q27, q28, q29, q30, q31, q32, q33, q34, q35, q36, q37, q38, q39, q40, q41⟩ := wk
    rw [q19]
    unfold curP
    rw [n0]
    constructor
    · rintro ⟨_, l, b⟩
      show ltsL F (tkS F p) (ltN F 300 (tkS F p) - tkS F p).toNat = _
      rw [show (ltN F 300 (tkS F p) - tkS F p).toNat = 7 by omega]
      exact (lt7 _ _ _ _ _ _ _).mpr b
    · intro q
      have q : ltsL F (tkS F p) (ltN F 300 (tkS F p) - tkS F p).toNat = [99, 117, 114, 114, 101, 110, 116] := q
      have ln := lts_len (F := F) (ltN F 300 (tkS F p) - tkS F p).toNat (tkS F p)
      rw [q] at ln
      have ln : 7 = (ltN F 300 (tkS F p) - tkS F p).toNat := ln
      rw [← ln] at q
      exact ⟨rfl, by omega, (lt7 _ _ _ _ _ _ _).mp q⟩
def sgS (c : Int) : Prop := c = 35 ∨ (40 ≤ c ∧ c ≤ 43) ∨ c = 45 ∨ c = 47 ∨ (58 ≤ c ∧ c ≤ 62)
theorem sgK_5 (c : Int) : sgK c = 5 ↔ c = 60 := by
  unfold sgK
  (repeat' split) <;> omega
theorem sgK_6 (c : Int) : sgK c = 6 ↔ c = 62 := by
  unfold sgK
  (repeat' split) <;> omega
theorem sgK_1 {c : Int} (h : ¬ sgS c) : sgK c = 1 := by
  unfold sgS at h
  unfold sgK
  rw [if_neg (by omega), if_neg (by omega), if_neg (by omega), if_neg (by omega), if_neg (by omega), if_neg (by omega), if_neg (by omega), if_neg (by omega), if_neg (by omega), if_neg (by omega), if_neg (by omega)]
theorem sgK_t {c : Int} (h : sgS c) : (∀ x k, sgP x k → (c = x ↔ sgK c = k)) ∧ c ≠ 2 ∧ sgK c < 16 ∧ sgK c ≠ 2 := by
  have h : c = 35 ∨ c = 40 ∨ c = 41 ∨ c = 42 ∨ c = 43 ∨ c = 45 ∨ c = 47 ∨ c = 58 ∨ c = 59 ∨ c = 60 ∨ c = 61 ∨ c = 62 := by unfold sgS at h; omega
  have K : ∀ c v : Int, sgK c = v → c ≠ 2 → v < 16 → v ≠ 2 → (∀ x k, sgP x k → (c = x ↔ v = k)) → (∀ x k, sgP x k → (c = x ↔ sgK c = k)) ∧ c ≠ 2 ∧ sgK c < 16 ∧ sgK c ≠ 2 := fun c v e a b d f => by rw [e]; exact ⟨f, a, b, d⟩
  rcases h with rfl | rfl | rfl | rfl | rfl | rfl | rfl | rfl | rfl | rfl | rfl | rfl
  · exact K 35 8 rfl (by decide) (by decide) (by decide) (fun x k hs => by unfold sgP at hs; omega)
  · exact K 40 13 rfl (by decide) (by decide) (by decide) (fun x k hs => by unfold sgP at hs; omega)
  · exact K 41 14 rfl (by decide) (by decide) (by decide) (fun x k hs => by unfold sgP at hs; omega)
  · exact K 42 11 rfl (by decide) (by decide) (by decide) (fun x k hs => by unfold sgP at hs; omega)
  · exact K 43 9 rfl (by decide) (by decide) (by decide) (fun x k hs => by unfold sgP at hs; omega)
  · exact K 45 10 rfl (by decide) (by decide) (by decide) (fun x k hs => by unfold sgP at hs; omega)
  · exact K 47 12 rfl (by decide) (by decide) (by decide) (fun x k hs => by unfold sgP at hs; omega)
  · exact K 58 1 rfl (by decide) (by decide) (by decide) (fun x k hs => by unfold sgP at hs; omega)
  · exact K 59 15 rfl (by decide) (by decide) (by decide) (fun x k hs => by unfold sgP at hs; omega)
  · exact K 60 5 rfl (by decide) (by decide) (by decide) (fun x k hs => by unfold sgP at hs; omega)
  · exact K 61 7 rfl (by decide) (by decide) (by decide) (fun x k hs => by unfold sgP at hs; omega)
  · exact K 62 6 rfl (by decide) (by decide) (by decide) (fun x k hs => by unfold sgP at hs; omega)
theorem tk_s {num word tok : Int} (h0 : byA F (tkS F p) ≠ -1) (h1 : ¬ digB (byA F (tkS F p)) = true) (h2 : ¬ letB (byA F (tkS F p)) = true) (ht : (tok = 4 ∧ byA F (tkS F p) = 60 ∧ byA F (tkS F p + 1) = 61) ∨ (tok = 5 ∧ byA F (tkS F p) = 62 ∧ byA F (tkS F p + 1) = 61) ∨ ((tok = byA F (tkS F p) ∧ sgS (byA F (tkS F p)) ∨ tok = 3 ∧ ¬ sgS (byA F (tkS F p))) ∧ ¬ ((byA F (tkS F p) = 60 ∨ byA F (tkS F p) = 62) ∧ byA F (tkS F p + 1) = 61))) : tkN F p = (sgT F (tkS F p)).2 ∧ TkR F p tok num word := by
  have e : tkT F (tkS F p) = ((sgT F (tkS F p)).1, 0, (sgT F (tkS F p)).2) := by unfold tkT; rw [if_neg h0, if_neg h1, if_neg h2]
  have k0 : tkK F p = (sgT F (tkS F p)).1 := by unfold tkK; rw [e]
  have n0 : tkN F p = (sgT F (tkS F p)).2 := by unfold tkN; rw [e]
  have s5 := sgK_5 (byA F (tkS F p))
  have s6 := sgK_6 (byA F (tkS F p))
  have K : (∀ x k, sgP x k → (tok = x ↔ tkK F p = k)) ∧ tok ≠ 2 ∧ tkK F p < 16 ∧ tkK F p ≠ 2 := by
    rw [k0]
    unfold sgT
    rcases ht with ⟨a, b, c⟩ | ⟨a, b, c⟩ | ⟨a, b⟩
    · rw [if_pos ⟨c, by omega⟩, a]
      exact ⟨fun x k hs => by unfold sgP at hs; dsimp only; omega, by decide, by show (3 : Int) < 16; decide, by show (3 : Int) ≠ 2; decide⟩
    · rw [if_neg (by omega), if_pos ⟨c, by omega⟩, a]
      exact ⟨fun x k hs => by unfold sgP at hs; dsimp only; omega, by decide, by show (4 : Int) < 16; decide, by show (4 : Int) ≠ 2; decide⟩
    · rw [if_neg (by omega), if_neg (by omega)]
      rcases a with ⟨a, a2⟩ | ⟨a, a2⟩
      · rw [a]
        exact sgK_t a2
      · rw [a, sgK_1 a2]
        exact ⟨fun x k hs => by unfold sgP at hs; dsimp only; omega, by decide, by show (1 : Int) < 16; decide, by show (1 : Int) ≠ 2; decide⟩
  obtain ⟨K1, K2, K3, K4⟩ := K
  refine ⟨n0, K1, fun v k hv => ?_, fun q => absurd q K4, by omega⟩
  have : 16 ≤ k := by unfold wkP at hv; omega
  omega
end TOK
