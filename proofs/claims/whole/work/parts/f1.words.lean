/-! The words of a text: their letters, and what the reference packs of them. -/
def mtB (F : Int → Int) (s : Int) : List Int → Bool
  | [] => true
  | c :: w => decide (byA F s = c) && mtB F (s + 1) w
def ltsL (F : Int → Int) (s : Int) : Nat → List Int
  | 0 => []
  | n + 1 => byA F s :: ltsL F (s + 1) n
theorem lts_len {F : Int → Int} : ∀ (n : Nat) (s : Int), (ltsL F s n).length = n := by
  intro n
  induction n with
  | zero => intro s; rfl
  | succ n ih => intro s; show (ltsL F (s + 1) n).length + 1 = n + 1; rw [ih]
theorem lts_mt {F : Int → Int} : ∀ (w : List Int) (s : Int), mtB F s w = true ↔ ltsL F s w.length = w := by
  intro w
  induction w with
  | nil => intro s; exact ⟨fun _ => rfl, fun _ => rfl⟩
  | cons c w ih =>
    intro s
    show (decide (byA F s = c) && mtB F (s + 1) w) = true ↔ byA F s :: ltsL F (s + 1) w.length = c :: w
    rw [Bool.and_eq_true, decide_eq_true_iff, ih (s + 1), List.cons.injEq]
/-- the letters from s to e are w -/
abbrev weq (F : Int → Int) (s e : Int) (w : List Int) : Prop := ltsL F s (e - s).toNat = w
theorem weq_iff {F : Int → Int} {s e : Int} (h : s ≤ e) (w : List Int) : weq F s e w ↔ (e - s = w.length ∧ mtB F s w = true) := by
  show ltsL F s (e - s).toNat = w ↔ _
  rw [lts_mt]
  constructor
  · intro q
    have l := lts_len (F := F) (e - s).toNat s
    rw [q] at l
    refine ⟨by omega, ?_⟩
    rw [show w.length = (e - s).toNat by omega]; exact q
  · rintro ⟨a, b⟩
    rw [show (e - s).toNat = w.length by omega]; exact b
def wdL (F : Int → Int) (s e : Int) (l : List Int) (q : Int × Int × Int) : Int × Int × Int := l.foldl (fun q c => wdS F s e c q) q
theorem wdN_L (F : Int → Int) (s e : Int) : ∀ k : Nat, k ≤ 129 → wdN F s e k = wdL F s e (aWordsL.take k) (1, 16, 0) := by
  intro k
  induction k with
  | zero => intro _; rfl
  | succ k ih =>
    intro hk
    have hl : k < aWordsL.length := by have := words_len; omega
    unfold wdN
    rw [ih (by omega), List.take_succ_eq_append_getElem hl]
    unfold wdL
    rw [List.foldl_append]
    have e1 : wch (k : Int) = aWordsL[k] := by
      unfold wch
      rw [Int.toNat_natCast, List.getD_eq_getElem?_getD, List.getElem?_eq_getElem hl]; rfl
    rw [e1]; rfl
theorem wdS_m {F : Int → Int} {s e r i : Int} : ∀ (w : List Int) (m : Int), (∀ c, c ∈ w → c ≠ 32) → 0 ≤ m → wdL F s e w (r, i, m) = (r, i, if mtB F (s + m) w = true then m + w.length else -1) := by
  intro w
  induction w with
  | nil => intro m _ _; show (r, i, m) = (r, i, m + ((0 : Nat) : Int)); rw [show m + ((0 : Nat) : Int) = m by omega]
  | cons c w ih =>
    intro m hc m0
    have c32 : c ≠ 32 := hc c (List.mem_cons_self ..)
    show wdL F s e w (wdS F s e c (r, i, m)) = _
    unfold wdS
    rw [if_neg c32]
    dsimp only
    rw [if_neg (by omega)]
    by_cases q : byA F (s + m) = c
    · rw [if_pos q, ih (m + 1) (fun x hx => hc x (List.mem_cons_of_mem _ hx)) (by omega)]
      have e1 : mtB F (s + m) (c :: w) = mtB F (s + (m + 1)) w := by
        show (decide (byA F (s + m) = c) && mtB F (s + m + 1) w) = _
        rw [decide_eq_true q, Bool.true_and, show s + m + 1 = s + (m + 1) by omega]
      rw [e1]
      have e2 : m + ((c :: w).length : Int) = m + 1 + (w.length : Int) := by rw [List.length_cons]; omega
      rw [e2]
    · rw [if_neg q]
      have e1 : ¬ mtB F (s + m) (c :: w) = true := by
        show ¬ (decide (byA F (s + m) = c) && mtB F (s + m + 1) w) = true
        rw [decide_eq_false q, Bool.false_and]; decide
      rw [if_neg e1]
      have ng : ∀ (w : List Int), (∀ c, c ∈ w → c ≠ 32) → wdL F s e w (r, i, -1) = (r, i, -1) := by
        intro w
        induction w with
        | nil => intro _; rfl
        | cons c w ih2 =>
          intro hc
          show wdL F s e w (wdS F s e c (r, i, -1)) = _
          unfold wdS
          rw [if_neg (hc c (List.mem_cons_self ..))]
          dsimp only
          rw [if_pos rfl]
          exact ih2 (fun x hx => hc x (List.mem_cons_of_mem _ hx))
      exact ng w (fun x hx => hc x (List.mem_cons_of_mem _ hx))
theorem wd_word {F : Int → Int} {s e r i : Int} {w : List Int} (h : s ≤ e) (hc : ∀ c, c ∈ w → c ≠ 32) (t : List Int) : wdL F s e (w ++ 32 :: t) (r, i, 0) = wdL F s e t (if weq F s e w then i else r, i + 1, 0) := by
  unfold wdL
  rw [List.foldl_append]
  have m := wdS_m (F := F) (s := s) (e := e) (r := r) (i := i) w 0 hc (by decide)
  unfold wdL at m
  rw [m]
  show wdL F s e t (wdS F s e 32 (r, i, _)) = _
  unfold wdS
  rw [if_pos rfl]
  dsimp only
  have w2 := weq_iff (F := F) h w
  rw [show s + 0 = s by omega] at m ⊢
  have e3 : (if (if mtB F s w = true then (0 : Int) + w.length else -1) = e - s then i else r) = (if weq F s e w then i else r) := by
    by_cases q : weq F s e w
    · have q2 := w2.mp q
      rw [if_pos q, if_pos q2.2, if_pos (by omega)]
    · rw [if_neg q]
      by_cases z : mtB F s w = true
      · rw [if_pos z, if_neg (fun y => q (w2.mpr ⟨by omega, z⟩))]
      · rw [if_neg z, if_neg (by omega)]
  rw [e3]
  rfl
theorem aWordsL_eq : aWordsL = [99, 111, 109, 101, 115] ++ 32 :: ([119, 101, 97, 114, 115] ++ 32 :: ([112, 101, 114, 115, 111, 110] ++ 32 :: ([99, 117, 114, 114, 101, 110, 116] ++ 32 :: ([116, 111, 115, 115] ++ 32 :: ([102, 105, 115, 104] ++ 32 :: ([97, 103, 97, 105, 110] ++ 32 :: ([116, 105, 100, 101] ++ 32 :: ([115, 105, 110, 99, 101] ++ 32 :: ([99, 111, 114, 107] ++ 32 :: ([108, 117, 99, 107] ++ 32 :: ([97, 116] ++ 32 :: ([102, 114, 111, 109] ++ 32 :: ([116, 111] ++ 32 :: ([110, 101, 97, 114] ++ 32 :: ([98, 121] ++ 32 :: ([108, 97, 116, 101, 114] ++ 32 :: ([116, 104, 97, 110] ++ 32 :: ([112, 108, 97, 99, 101, 115] ++ 32 :: ([105, 102] ++ 32 :: ([116, 104, 101, 110] ++ 32 :: ([101, 108, 115, 101] ++ 32 :: ([101, 110, 100] ++ 32 :: ([111, 114] ++ 32 :: ([97, 110, 100] ++ 32 :: ([110, 111, 116] ++ 32 :: []))))))))))))))))))))))))) := by decide +kernel
theorem wd_all {F : Int → Int} {s e : Int} (h : s ≤ e) : (wdN F s e 129).1 = (if weq F s e [110, 111, 116] then (41 : Int) else (if weq F s e [97, 110, 100] then (40 : Int) else (if weq F s e [111, 114] then (39 : Int) else (if weq F s e [101, 110, 100] then (38 : Int) else (if weq F s e [101, 108, 115, 101] then (37 : Int) else (if weq F s e [116, 104, 101, 110] then (36 : Int) else (if weq F s e [105, 102] then (35 : Int) else (if weq F s e [112, 108, 97, 99, 101, 115] then (34 : Int) else (if weq F s e [116, 104, 97, 110] then (33 : Int) else (if weq F s e [108, 97, 116, 101, 114] then (32 : Int) else (if weq F s e [98, 121] then (31 : Int) else (if weq F s e [110, 101, 97, 114] then (30 : Int) else (if weq F s e [116, 111] then (29 : Int) else (if weq F s e [102, 114, 111, 109] then (28 : Int) else (if weq F s e [97, 116] then (27 : Int) else (if weq F s e [108, 117, 99, 107] then (26 : Int) else (if weq F s e [99, 111, 114, 107] then (25 : Int) else (if weq F s e [115, 105, 110, 99, 101] then (24 : Int) else (if weq F s e [116, 105, 100, 101] then (23 : Int) else (if weq F s e [97, 103, 97, 105, 110] then (22 : Int) else (if weq F s e [102, 105, 115, 104] then (21 : Int) else (if weq F s e [116, 111, 115, 115] then (20 : Int) else (if weq F s e [99, 117, 114, 114, 101, 110, 116] then (19 : Int) else (if weq F s e [112, 101, 114, 115, 111, 110] then (18 : Int) else (if weq F s e [119, 101, 97, 114, 115] then (17 : Int) else (if weq F s e [99, 111, 109, 101, 115] then (16 : Int) else 1)))))))))))))))))))))))))) := by
  rw [wdN_L F s e 129 (Nat.le_refl _), show aWordsL.take 129 = aWordsL from by decide +kernel, aWordsL_eq]
  rw [wd_word h (by decide), wd_word h (by decide), wd_word h (by decide), wd_word h (by decide), wd_word h (by decide), wd_word h (by decide), wd_word h (by decide), wd_word h (by decide), wd_word h (by decide), wd_word h (by decide), wd_word h (by decide), wd_word h (by decide), wd_word h (by decide), wd_word h (by decide), wd_word h (by decide), wd_word h (by decide), wd_word h (by decide), wd_word h (by decide), wd_word h (by decide), wd_word h (by decide), wd_word h (by decide), wd_word h (by decide), wd_word h (by decide), wd_word h (by decide), wd_word h (by decide), wd_word h (by decide)]
  rfl
theorem itk {t w : List Int} {a b k : Int} (h : (if t = w then a else b) = k) : (t = w ∧ a = k) ∨ b = k := by
  split at h
  · rename_i c; exact .inl ⟨c, h⟩
  · exact .inr h
theorem wd_kind {F : Int → Int} {s e k : Int} (h : s ≤ e) : ((wdN F s e 129).1 = 16 ↔ weq F s e [99, 111, 109, 101, 115]) ∧ ((wdN F s e 129).1 = 17 ↔ weq F s e [119, 101, 97, 114, 115]) ∧ ((wdN F s e 129).1 = 18 ↔ weq F s e [112, 101, 114, 115, 111, 110]) ∧ ((wdN F s e 129).1 = 19 ↔ weq F s e [99, 117, 114, 114, 101, 110, 116]) ∧ ((wdN F s e 129).1 = 20 ↔ weq F s e [116, 111, 115, 115]) ∧ ((wdN F s e 129).1 = 21 ↔ weq F s e [102, 105, 115, 104]) ∧ ((wdN F s e 129).1 = 22 ↔ weq F s e [97, 103, 97, 105, 110]) ∧ ((wdN F s e 129).1 = 23 ↔ weq F s e [116, 105, 100, 101]) ∧ ((wdN F s e 129).1 = 24 ↔ weq F s e [115, 105, 110, 99, 101]) ∧ ((wdN F s e 129).1 = 25 ↔ weq F s e [99, 111, 114, 107]) ∧ ((wdN F s e 129).1 = 26 ↔ weq F s e [108, 117, 99, 107]) ∧ ((wdN F s e 129).1 = 27 ↔ weq F s e [97, 116]) ∧ ((wdN F s e 129).1 = 28 ↔ weq F s e [102, 114, 111, 109]) ∧ ((wdN F s e 129).1 = 29 ↔ weq F s e [116, 111]) ∧ ((wdN F s e 129).1 = 30 ↔ weq F s e [110, 101, 97, 114]) ∧ ((wdN F s e 129).1 = 31 ↔ weq F s e [98, 121]) ∧ ((wdN F s e 129).1 = 32 ↔ weq F s e [108, 97, 116, 101, 114]) ∧ ((wdN F s e 129).1 = 33 ↔ weq F s e [116, 104, 97, 110]) ∧ ((wdN F s e 129).1 = 34 ↔ weq F s e [112, 108, 97, 99, 101, 115]) ∧ ((wdN F s e 129).1 = 35 ↔ weq F s e [105, 102]) ∧ ((wdN F s e 129).1 = 36 ↔ weq F s e [116, 104, 101, 110]) ∧ ((wdN F s e 129).1 = 37 ↔ weq F s e [101, 108, 115, 101]) ∧ ((wdN F s e 129).1 = 38 ↔ weq F s e [101, 110, 100]) ∧ ((wdN F s e 129).1 = 39 ↔ weq F s e [111, 114]) ∧ ((wdN F s e 129).1 = 40 ↔ weq F s e [97, 110, 100]) ∧ ((wdN F s e 129).1 = 41 ↔ weq F s e [110, 111, 116]) := by
  rw [wd_all h]
  dsimp only [weq]
  generalize ltsL F s (e - s).toNat = t
  refine ⟨?_, ?_, ?_, ?_, ?_, ?_, ?_, ?_, ?_, ?_, ?_, ?_, ?_, ?_, ?_, ?_, ?_, ?_, ?_, ?_, ?_, ?_, ?_, ?_, ?_, ?_⟩
  all_goals
    constructor
    · intro q
      rcases itk q with ⟨h, e⟩ | q
      · first | exact h | exact absurd e (by decide)
      rcases itk q with ⟨h, e⟩ | q
      · first | exact h | exact absurd e (by decide)
      rcases itk q with ⟨h, e⟩ | q
      · first | exact h | exact absurd e (by decide)
      rcases itk q with ⟨h, e⟩ | q
      · first | exact h | exact absurd e (by decide)
      rcases itk q with ⟨h, e⟩ | q
      · first | exact h | exact absurd e (by decide)
      rcases itk q with ⟨h, e⟩ | q
      · first | exact h | exact absurd e (by decide)
      rcases itk q with ⟨h, e⟩ | q
      · first | exact h | exact absurd e (by decide)
      rcases itk q with ⟨h, e⟩ | q
      · first | exact h | exact absurd e (by decide)
      rcases itk q with ⟨h, e⟩ | q
      · first | exact h | exact absurd e (by decide)
      rcases itk q with ⟨h, e⟩ | q
      · first | exact h | exact absurd e (by decide)
      rcases itk q with ⟨h, e⟩ | q
      · first | exact h | exact absurd e (by decide)
      rcases itk q with ⟨h, e⟩ | q
      · first | exact h | exact absurd e (by decide)
      rcases itk q with ⟨h, e⟩ | q
      · first | exact h | exact absurd e (by decide)
      rcases itk q with ⟨h, e⟩ | q
      · first | exact h | exact absurd e (by decide)
      rcases itk q with ⟨h, e⟩ | q
      · first | exact h | exact absurd e (by decide)
      rcases itk q with ⟨h, e⟩ | q
      · first | exact h | exact absurd e (by decide)
      rcases itk q with ⟨h, e⟩ | q
      · first | exact h | exact absurd e (by decide)
      rcases itk q with ⟨h, e⟩ | q
      · first | exact h | exact absurd e (by decide)
      rcases itk q with ⟨h, e⟩ | q
      · first | exact h | exact absurd e (by decide)
      rcases itk q with ⟨h, e⟩ | q
      · first | exact h | exact absurd e (by decide)
      rcases itk q with ⟨h, e⟩ | q
      · first | exact h | exact absurd e (by decide)
      rcases itk q with ⟨h, e⟩ | q
      · first | exact h | exact absurd e (by decide)
      rcases itk q with ⟨h, e⟩ | q
      · first | exact h | exact absurd e (by decide)
      rcases itk q with ⟨h, e⟩ | q
      · first | exact h | exact absurd e (by decide)
      rcases itk q with ⟨h, e⟩ | q
      · first | exact h | exact absurd e (by decide)
      rcases itk q with ⟨h, e⟩ | q
      · first | exact h | exact absurd e (by decide)
      exact absurd q (by decide)
    · rintro rfl
      decide
