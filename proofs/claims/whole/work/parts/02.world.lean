/-! The walker's own words: values, cells and worlds of whole numbers, how they lie in the machine's heap, and the judgement 'Rn': from this point of a method, with these locals, this stack and this world, the machine comes to the method's end with an answer and a world of which Q holds. -/
abbrev aV : Type := Int ⊕ (Int ⊕ (Option Nat ⊕ Nat))
abbrev vI (x : Int) : aV := Sum.inl x
abbrev vL (x : Int) : aV := Sum.inr (Sum.inl x)
abbrev vR (r : Option Nat) : aV := Sum.inr (Sum.inr (Sum.inl r))
abbrev vX (k : Nat) : aV := Sum.inr (Sum.inr (Sum.inr k))
/-- the text, its bytes, a reference of which nothing is known -/
abbrev vT : aV := vX 0
abbrev vB : aV := vX 1
abbrev vO : aV := vX 2
abbrev aC : Type := (Nat × List aV) ⊕ (List Int ⊕ (List Int ⊕ (List Int ⊕ (Nat × List (Option Nat)))))
abbrev cO (k : Nat) (fs : List aV) : aC := Sum.inl (k, fs)
abbrev cI (xs : List Int) : aC := Sum.inr (Sum.inl xs)
abbrev cJ (xs : List Int) : aC := Sum.inr (Sum.inr (Sum.inl xs))
abbrev cZ (xs : List Int) : aC := Sum.inr (Sum.inr (Sum.inr (Sum.inl xs)))
abbrev cQ (k : Nat) (xs : List (Option Nat)) : aC := Sum.inr (Sum.inr (Sum.inr (Sum.inr (k, xs))))
abbrev cN : aC := cO 99 []
abbrev aH : Type := Nat → aC
def up (h : aH) (a : Nat) (c : aC) : aH := fun x => if x = a then c else h x
theorem up_at (h : aH) (a : Nat) (c : aC) : up h a c a = c := by simp [up]
theorem up_ne {h : aH} {a x : Nat} {c : aC} (hx : x ≠ a) : up h a c x = h x := by simp [up, hx]
def w32 (x : Int) : Int := x.bmod 4294967296
def w64 (x : Int) : Int := x.bmod 18446744073709551616
theorem w32_id {x : Int} (h1 : -2147483648 ≤ x) (h2 : x < 2147483648) : w32 x = x := by
  unfold w32
  rw [Int.bmod_def]
  split <;> omega
theorem w64_id {x : Int} (h1 : -9223372036854775808 ≤ x) (h2 : x < 9223372036854775808) : w64 x = x := by
  unfold w64
  rw [Int.bmod_def]
  split <;> omega
/-- the globals of a run: the script's cell, the base of the cells that the run makes, the text's cell and its bytes' cell, the script's length and entries, the tables' numbers -/
abbrev aG : Type := Nat × Nat × Nat × Nat × Nat × (Nat → Int32) × va_G
def gb (g : aG) : Nat := g.1
def gB (g : aG) : Nat := g.2.1
def gt (g : aG) : Nat := g.2.2.1
def gtb (g : aG) : Nat := g.2.2.2.1
def gL (g : aG) : Nat := g.2.2.2.2.1
def gxs (g : aG) : Nat → Int32 := g.2.2.2.2.2.1
def gD (g : aG) : va_G := g.2.2.2.2.2.2
def gA (g : aG) : Nat → Prop := fun q => gB g < q
def gAd (g : aG) (i : Nat) : Nat := if i = 0 then gb g else gB g + i
def vRel (g : aG) : aV → Value → Prop
  | Sum.inl x, .int y => y.toInt = x
  | Sum.inr (Sum.inl x), .long y => y.toInt = x
  | Sum.inr (Sum.inr (Sum.inl none)), .null => True
  | Sum.inr (Sum.inr (Sum.inl (some a))), .ref q => q = gAd g a
  | Sum.inr (Sum.inr (Sum.inr k)), w => (k = 0 ∧ w = .ref (gt g)) ∨ (k = 1 ∧ w = .ref (gtb g)) ∨ (k = 2 ∧ (w = .null ∨ ∃ t, w = .ref t))
  | _, _ => False
theorem vRel_I {g : aG} {x : Int} {w : Value} (h : vRel g (vI x) w) : ∃ y : Int32, w = .int y ∧ y.toInt = x := by
  cases w <;> first | exact ⟨_, rfl, h⟩ | exact h.elim
theorem vRel_L {g : aG} {x : Int} {w : Value} (h : vRel g (vL x) w) : ∃ y : Int64, w = .long y ∧ y.toInt = x := by
  cases w <;> first | exact ⟨_, rfl, h⟩ | exact h.elim
theorem vRel_N {g : aG} {w : Value} (h : vRel g (vR none) w) : w = .null := by
  cases w <;> first | rfl | exact h.elim
theorem vRel_R {g : aG} {a : Nat} {w : Value} (h : vRel g (vR (some a)) w) : w = .ref (gAd g a) := by
  cases w <;> first | (rw [show _ = gAd g a from h]) | exact h.elim
theorem vRel_X {g : aG} {k : Nat} {w : Value} (h : vRel g (vX k) w) : (k = 0 ∧ w = .ref (gt g)) ∨ (k = 1 ∧ w = .ref (gtb g)) ∨ (k = 2 ∧ (w = .null ∨ ∃ t, w = .ref t)) := by
  cases w <;> exact h
theorem vRel_T {g : aG} {w : Value} (h : vRel g vT w) : w = .ref (gt g) := by
  rcases vRel_X h with ⟨-, q⟩ | ⟨q, -⟩ | ⟨q, -⟩
  · exact q
  · cases q
  · cases q
theorem vRel_B {g : aG} {w : Value} (h : vRel g vB w) : w = .ref (gtb g) := by
  rcases vRel_X h with ⟨q, -⟩ | ⟨-, q⟩ | ⟨q, -⟩
  · cases q
  · exact q
  · cases q
theorem vRel_t {g : aG} : vRel g vT (.ref (gt g)) := Or.inl ⟨rfl, rfl⟩
theorem vRel_b {g : aG} : vRel g vB (.ref (gtb g)) := Or.inr (Or.inl ⟨rfl, rfl⟩)
def aRefy : aV → Bool
  | Sum.inr (Sum.inr _) => true
  | _ => false
theorem vRel_refy {g : aG} {v : aV} {w : Value} (hv : aRefy v = true) (h : vRel g v w) : w = .null ∨ ∃ t, w = .ref t := by
  rcases v with x | x | (x | x) | x
  · cases hv
  · cases hv
  · exact Or.inl (vRel_N h)
  · exact Or.inr ⟨_, vRel_R h⟩
  · rcases vRel_X h with ⟨-, q⟩ | ⟨-, q⟩ | ⟨-, q⟩
    · exact Or.inr ⟨_, q⟩
    · exact Or.inr ⟨_, q⟩
    · exact q
theorem vRel_i {g : aG} (y : Int32) : vRel g (vI y.toInt) (.int y) := rfl
theorem vRel_l {g : aG} (y : Int64) : vRel g (vL y.toInt) (.long y) := rfl
def aCat : aV → Nat
  | Sum.inr (Sum.inl _) => 2
  | _ => 1
theorem vRel_cat {g : aG} {v : aV} {w : Value} (h : vRel g v w) : w.category = aCat v := by
  rcases v with x | x | (x | x) | x
  · obtain ⟨y, rfl, -⟩ := vRel_I h; rfl
  · obtain ⟨y, rfl, -⟩ := vRel_L h; rfl
  · rw [vRel_N h]; rfl
  · rw [vRel_R h]; rfl
  · rcases vRel_X h with ⟨-, q⟩ | ⟨-, q⟩ | ⟨-, q | ⟨t, q⟩⟩ <;> rw [q] <;> rfl
def sRel (g : aG) : List aV → List Value → Prop
  | [], [] => True
  | v :: vs, w :: ws => vRel g v w ∧ sRel g vs ws
  | _, _ => False
theorem sRel_nil {g : aG} {ws : List Value} (h : sRel g [] ws) : ws = [] := by
  cases ws <;> first | rfl | exact h.elim
theorem sRel_cons {g : aG} {v : aV} {vs : List aV} {ws : List Value} (h : sRel g (v :: vs) ws) : ∃ w wt, ws = w :: wt ∧ vRel g v w ∧ sRel g vs wt := by
  cases ws with
  | nil => exact h.elim
  | cons w wt => exact ⟨w, wt, rfl, h.1, h.2⟩
theorem sRel_len {g : aG} : ∀ {vs : List aV} {ws : List Value}, sRel g vs ws → ws.length = vs.length := by
  intro vs
  induction vs with
  | nil => intro ws h; simp [sRel_nil h]
  | cons v vs ih => intro ws h; obtain ⟨w, wt, rfl, -, h2⟩ := sRel_cons h; simp [ih h2]
theorem sRel_app {g : aG} : ∀ {vs us : List aV} {ws : List Value}, sRel g (vs ++ us) ws → ∃ w1 w2, ws = w1 ++ w2 ∧ sRel g vs w1 ∧ sRel g us w2 := by
  intro vs
  induction vs with
  | nil => intro us ws h; exact ⟨[], ws, rfl, trivial, h⟩
  | cons v vs ih =>
    intro us ws h
    obtain ⟨w, wt, rfl, h1, h2⟩ := sRel_cons h
    obtain ⟨w1, w2, rfl, h3, h4⟩ := ih h2
    exact ⟨w :: w1, w2, rfl, ⟨h1, h3⟩, h4⟩
theorem sRel_cat {g : aG} : ∀ {vs us : List aV} {ws wu : List Value}, sRel g vs ws → sRel g us wu → sRel g (vs ++ us) (ws ++ wu) := by
  intro vs
  induction vs with
  | nil => intro us ws wu h h2; rw [sRel_nil h]; exact h2
  | cons v vs ih => intro us ws wu h h2; obtain ⟨w, wt, rfl, h1, h3⟩ := sRel_cons h; exact ⟨h1, ih h3 h2⟩
theorem sRel_rev {g : aG} : ∀ {vs : List aV} {ws : List Value}, sRel g vs ws → sRel g vs.reverse ws.reverse := by
  intro vs
  induction vs with
  | nil => intro ws h; rw [sRel_nil h]; trivial
  | cons v vs ih => intro ws h; obtain ⟨w, wt, rfl, h1, h3⟩ := sRel_cons h; rw [List.reverse_cons, List.reverse_cons]; exact sRel_cat (ih h3) ⟨h1, trivial⟩
theorem sRel_sum {g : aG} : ∀ {vs : List aV} {ws : List Value}, sRel g vs ws → (ws.map fun v => v.category).sum = (vs.map aCat).sum := by
  intro vs
  induction vs with
  | nil => intro ws h; rw [sRel_nil h]; rfl
  | cons v vs ih => intro ws h; obtain ⟨w, wt, rfl, h1, h3⟩ := sRel_cons h; simp [ih h3, vRel_cat h1]
theorem sRel_get {g : aG} : ∀ {vs : List aV} {ws : List Value} (k : Nat) {v : aV}, sRel g vs ws → vs[k]? = some v → ∃ w, ws[k]? = some w ∧ vRel g v w := by
  intro vs
  induction vs with
  | nil => intro ws k v h hk; simp at hk
  | cons u vs ih =>
    intro ws k v h hk
    obtain ⟨w, wt, rfl, h1, h3⟩ := sRel_cons h
    cases k with
    | zero => simp at hk; subst hk; exact ⟨w, rfl, h1⟩
    | succ k => simp at hk; obtain ⟨x, e, hx⟩ := ih k h3 hk; exact ⟨x, by simpa using e, hx⟩
theorem sRel_set {g : aG} : ∀ {vs : List aV} {ws : List Value} (k : Nat) {v : aV} {w : Value}, sRel g vs ws → vRel g v w → sRel g (vs.set k v) (ws.set k w) := by
  intro vs
  induction vs with
  | nil => intro ws k v w h hk; rw [sRel_nil h]; trivial
  | cons u vs ih =>
    intro ws k v w h hk
    obtain ⟨x, wt, rfl, h1, h3⟩ := sRel_cons h
    cases k with
    | zero => exact ⟨hk, h3⟩
    | succ k => exact ⟨h1, ih k h3 hk⟩
/-- locals: what is known of them, by their places -/
abbrev aL : Type := List (Option aV)
def lRel (g : aG) (nL : Nat) (ls : aL) (lr : Array Slot) : Prop := lr.size = nL ∧ lv_wf lr ∧ ∀ (i : Nat) (v : aV), ls[i]? = some (some v) → ∃ w, lr[i]? = some (.val w) ∧ vRel g v w
def lvAll (lr : Array Slot) : List (Nat × Value) := (List.range lr.size).filterMap (fun j => match lr[j]? with | some (Slot.val w) => some (j, w) | _ => none)
theorem lvAll_in {lr : Array Slot} {j : Nat} {w : Value} : (j, w) ∈ lvAll lr ↔ lr[j]? = some (.val w) := by
  constructor
  · intro h
    obtain ⟨k, -, hk⟩ := List.mem_filterMap.mp h
    split at hk
    · rename_i x e
      cases hk
      exact e
    · cases hk
  · intro h
    refine List.mem_filterMap.mpr ⟨j, List.mem_range.mpr (lv_lt h), ?_⟩
    rw [h]
theorem lvAll_has {lr : Array Slot} {nL : Nat} (h1 : lr.size = nL) (h2 : lv_wf lr) : lv_has lr nL (lvAll lr) := ⟨h1, h2, fun q hq => lvAll_in.mp hq⟩
/-- a store of one slot, of two -/
def aSt1 (ls : aL) (i : Nat) (v : aV) : Nat → Option aV := fun j => if j = i then some v else match ls[j]? with
  | some (some u) => if j + 1 = i ∧ aCat u = 2 then none else some u
  | _ => none
theorem lRel_st1 {g : aG} {nL i : Nat} {ls ls' : aL} {lr lr' : Array Slot} {v : aV} {w : Value} (h : lRel g nL ls lr) (hv : vRel g v w)
    (h' : lv_has lr' nL ((i, w) :: (lvAll lr).filter (fun q => !(q.1 == i) && !(q.1 + 1 == i && q.2.category == 2))))
    (hl : ∀ (j : Nat) (u : aV), ls'[j]? = some (some u) → (j = i ∧ u = v) ∨ (j ≠ i ∧ ls[j]? = some (some u) ∧ (j + 1 = i → aCat u = 1))) : lRel g nL ls' lr' := by
  refine ⟨h'.1, h'.2.1, fun j u hj => ?_⟩
  rcases hl j u hj with ⟨rfl, rfl⟩ | ⟨h1, h2, h3⟩
  · exact ⟨w, h'.2.2 (j, w) List.mem_cons_self, hv⟩
  · obtain ⟨x, e, hx⟩ := h.2.2 j u h2
    refine ⟨x, h'.2.2 (j, x) (List.mem_cons_of_mem _ (List.mem_filter.mpr ⟨lvAll_in.mpr e, ?_⟩)), hx⟩
    have hc := vRel_cat hx
    by_cases q : j + 1 = i
    · have := h3 q
      simp [h1, hc, this]
    · simp [h1, q]
theorem lRel_st2 {g : aG} {nL i : Nat} {ls ls' : aL} {lr lr' : Array Slot} {v : aV} {w : Value} (h : lRel g nL ls lr) (hv : vRel g v w)
    (h' : lv_has lr' nL ((i, w) :: (lvAll lr).filter (fun q => !(q.1 == i) && (!(q.1 == i + 1) && !(q.1 + 1 == i && q.2.category == 2)))))
    (hl : ∀ (j : Nat) (u : aV), ls'[j]? = some (some u) → (j = i ∧ u = v) ∨ (j ≠ i ∧ j ≠ i + 1 ∧ ls[j]? = some (some u) ∧ (j + 1 = i → aCat u = 1))) : lRel g nL ls' lr' := by
  refine ⟨h'.1, h'.2.1, fun j u hj => ?_⟩
  rcases hl j u hj with ⟨rfl, rfl⟩ | ⟨h1, h1', h2, h3⟩
  · exact ⟨w, h'.2.2 (j, w) List.mem_cons_self, hv⟩
  · obtain ⟨x, e, hx⟩ := h.2.2 j u h2
    refine ⟨x, h'.2.2 (j, x) (List.mem_cons_of_mem _ (List.mem_filter.mpr ⟨lvAll_in.mpr e, ?_⟩)), hx⟩
    have hc := vRel_cat hx
    by_cases q : j + 1 = i
    · have := h3 q
      simp [h1, h1', hc, this]
    · simp [h1, h1', q]
/-- the class whose objects an array of references holds -/
def qName (k : Nat) : String := if k = 6 then RX6 else RX10
def cRel (g : aG) (s : State) : aC → va_E → Prop
  | Sum.inl (k, fs), Sum.inr (k', ws) => k' = k ∧ sRel g fs ws
  | Sum.inr (Sum.inl xs), Sum.inl (cA, n, Sum.inl f) => n = xs.length ∧ (∀ j, j < n → xs[j]? = some (f j).toInt) ∧ ArrOfT s cA .int ∧ va_RA s cA .int
  | Sum.inr (Sum.inr (Sum.inl xs)), Sum.inl (cA, n, Sum.inr (Sum.inl f)) => n = xs.length ∧ (∀ j, j < n → xs[j]? = some (f j).toInt) ∧ ArrOfT s cA .long ∧ va_RA s cA .long
  | Sum.inr (Sum.inr (Sum.inr (Sum.inl xs))), Sum.inl (cA, n, Sum.inl f) => n = xs.length ∧ (∀ j, j < n → xs[j]? = some (f j).toInt) ∧ ArrOfT s cA .boolean ∧ va_RA s cA .boolean
  | Sum.inr (Sum.inr (Sum.inr (Sum.inr (k, xs)))), Sum.inl (cA, n, Sum.inr (Sum.inr (Sum.inr (Sum.inr f)))) => n = xs.length ∧ (∀ j, j < n → ∃ r, xs[j]? = some r ∧ f j = r.map (gAd g)) ∧ ArrOfT s cA (.object (qName k)) ∧ va_RA s cA (.object (qName k))
  | _, _ => False
theorem cRel_moved {g : aG} {s U : State} (hvm : s.vm.Alike U.vm) {c : aC} {e : va_E} (h : cRel g s c e) : cRel g U c e := by
  rcases c with ⟨k, fs⟩ | xs | xs | xs | ⟨k, xs⟩ <;> rcases e with ⟨cA, n, f | f | f | f | f⟩ | ⟨k', ws⟩ <;> first
    | exact h
    | exact ⟨h.1, h.2.1, arrOfT_moved hvm h.2.2.1, h.2.2.2.moved hvm⟩
def aRel (g : aG) (s : State) (h : aH) (n : Nat) (H : Heap) : Prop :=
  H.size = gB g + n ∧ 1 ≤ n ∧ (∀ i, n ≤ i → h i = cN) ∧ h 0 = cI ((List.range (gL g)).map fun j => (gxs g j).toInt) ∧
  ∃ ws : va_W, ws.length + 1 = n ∧ (∀ i, i + 1 < n → ∃ e, ws[i]? = some (gB g + (i + 1), e) ∧ cRel g s (h (i + 1)) e) ∧ va_P (gD g) vwCl ws H ∧ va_D (gA g) ws
theorem aRel_moved {g : aG} {s U : State} (hvm : s.vm.Alike U.vm) {h : aH} {n : Nat} {H : Heap} (hR : aRel g s h n H) : aRel g U h n H := by
  obtain ⟨h1, h2, h3, h4, ws, h5, h6, h7, h8⟩ := hR
  refine ⟨h1, h2, h3, h4, ws, h5, fun i hi => ?_, h7, h8⟩
  obtain ⟨e, e1, e2⟩ := h6 i hi
  exact ⟨e, e1, cRel_moved hvm e2⟩
