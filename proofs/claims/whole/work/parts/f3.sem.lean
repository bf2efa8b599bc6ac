/-! What a part of a law says: the class's signs and the reference's pairs say the same. -/
def RC (L env pl : Int → Int) (len i : Int) (l : List Int) (r : Int) : Prop := ∃ f, runC L env pl len f i l = some r
def foM (env pl : Int → Int) : Em → List Int × List Int → Option (List Int × List Int)
  | [], s => some s
  | x :: D, s => match mStp x.1 x.2 env pl s.1 s.2 with
    | none => none
    | some s2 => foM env pl D s2
def puM (tr : Bool) (v : Int) (s : List Int × List Int) : List Int × List Int := if tr = true then (s.1, v :: s.2) else (v :: s.1, s.2)
def okD (x : Int × Int) : Prop := 0 ≤ x.1 ∧ (x.1 = 1 → 0 ≤ x.2 ∧ x.2 ≤ 7)
/-- tr: a truth, else a value -/
def SemV (tr : Bool) (n0 n : Int) (sg : Int → Int) (D : Em) (sem : Dn) : Prop := ∀ env pl, okE env pl → okV (sem env pl) ∧ (tr = true → sem env pl = 0 ∨ sem env pl = 1) ∧
  (∀ (L : Int → Int) (len : Int) (l : List Int) (r : Int), (∀ j, n0 ≤ j → j < n → L j = sg j) → n ≤ len → (l.length : Int) + (n - n0) ≤ 299 → RC L env pl len n (sem env pl :: l) r → RC L env pl len n0 l r) ∧
  (∀ l ts : List Int, l.length + D.length ≤ 320 → ts.length + D.length ≤ 320 → foM env pl D (l, ts) = some (puM tr (sem env pl) (l, ts)))
section SEM
variable {env pl L : Int → Int} {len i r v k w : Int} {l : List Int} {D E : Em} {s : List Int × List Int}
theorem foM_app : ∀ (D : Em) (s : List Int × List Int), foM env pl (D ++ E) s = match foM env pl D s with
    | none => none
    | some s2 => foM env pl E s2 := by
  intro D
  induction D with
  | nil => intro s; rfl
  | cons x D ih =>
    intro s
    show (match mStp x.1 x.2 env pl s.1 s.2 with
      | none => none
      | some s2 => foM env pl (D ++ E) s2) = match (match mStp x.1 x.2 env pl s.1 s.2 with
      | none => none
      | some s2 => foM env pl D s2) with
      | none => none
      | some s2 => foM env pl E s2
    cases mStp x.1 x.2 env pl s.1 s.2 with
    | none => rfl
    | some s2 => exact ih s2
theorem foM_some {t : List Int × List Int} (h : foM env pl D s = some t) : foM env pl (D ++ E) s = foM env pl E t := by rw [foM_app, h]
theorem foM_one {o : Int} {t : List Int × List Int} (h : mStp o v env pl s.1 s.2 = some t) : foM env pl [(o, v)] s = some t := by
  show (match mStp o v env pl s.1 s.2 with
      | none => none
      | some s2 => foM env pl [] s2) = _
  rw [h]
  rfl
theorem RC.one {j : Int} {l2 : List Int} (hi : i < len) (hs : stC L env pl i l = some (j, l2)) (h : RC L env pl len j l2 r) : RC L env pl len i l r := by
  obtain ⟨f, hf⟩ := h
  refine ⟨f + 1, ?_⟩
  show (if len ≤ i then _ else match stC L env pl i l with
    | none => none
    | some (j, r) => runC L env pl len f j r) = _
  rw [if_neg (by omega), hs]
  exact hf
theorem psh_ok {i v : Int} {l : List Int} (hv : okV v) (hl : l.length < 299) : psh i v l = some (i + 1, v :: l) := if_pos ⟨hv, hl⟩
theorem mPsh_ok {ts : List Int} (hv : okV v) (hl : l.length < 320) : mPsh v l ts = some (v :: l, ts) := if_pos ⟨hv, hl⟩
theorem sg_mod {k w : Int} (k0 : 0 ≤ k) (k1 : k < 64) : (w * 64 + k) % 64 = k ∧ (w * 64 + k) / 64 = w := by omega
theorem stC_num (hL : L i = w * 64 + 2) (hv : okV w) (hl : l.length < 299) : stC L env pl i l = some (i + 1, w :: l) := by
  have e := sg_mod (k := 2) (w := w) (by decide) (by decide)
  unfold stC
  rw [hL, e.1, e.2, if_neg (by decide), if_neg (by decide), if_pos rfl]
  exact psh_ok hv hl
theorem stC_name (hL : L i = 0 * 64 + k) (k0 : 23 ≤ k) (k1 : k ≤ 30) (hv : okV (env (k - 23))) (hl : l.length < 299) : stC L env pl i l = some (i + 1, env (k - 23) :: l) := by
  have e := sg_mod (k := k) (w := 0) (by omega) (by omega)
  unfold stC
  rw [hL, e.1, e.2, if_neg (by omega), if_neg (by omega), if_neg (by omega), if_pos ⟨k0, k1⟩]
  exact psh_ok hv hl
theorem stC_skip (hL : L i = w * 64 + 51) : stC L env pl i l = some (i + w + 1, l) := by
  have e := sg_mod (k := 51) (w := w) (by decide) (by decide)
  unfold stC
  rw [hL, e.1, e.2, if_pos rfl]
theorem stC_unless (hL : L i = w * 64 + 52) : stC L env pl i (v :: l) = some (if v = 0 then i + w + 1 else i + 1, l) := by
  have e := sg_mod (k := 52) (w := w) (by decide) (by decide)
  unfold stC
  rw [hL, e.1, e.2, if_neg (by decide), if_pos rfl]
def unB (k : Int) : Prop := k = 34 ∨ k = 50 ∨ k = 41
def unM (k : Int) (pl : Int → Int) (v : Int) : Int := if k = 34 then pl v else if k = 50 then -v else if v = 0 then 1 else 0
theorem stC_un (hL : L i = 0 * 64 + k) (hk : unB k) (hv : okV (unM k pl v)) (hl : l.length < 299) : stC L env pl i (v :: l) = some (i + 1, unM k pl v :: l) := by
  have e := sg_mod (k := k) (w := 0) (by rcases hk with q | q | q <;> omega) (by rcases hk with q | q | q <;> omega)
  have e9 : k ≠ 51 ∧ k ≠ 52 ∧ k ≠ 2 ∧ ¬ (23 ≤ k ∧ k ≤ 30) := by rcases hk with q | q | q <;> omega
  unfold stC
  rw [hL, e.1, e.2, if_neg e9.1, if_neg e9.2.1, if_neg e9.2.2.1, if_neg e9.2.2.2]
  rcases hk with rfl | rfl | rfl
  · exact psh_ok hv hl
  · exact psh_ok hv hl
  · exact psh_ok hv hl
def bnB (k : Int) : Prop := (3 ≤ k ∧ k ≤ 12) ∨ k = 32 ∨ k = 40 ∨ k = 39
theorem stC_bin {u : Int} (hL : L i = 0 * 64 + k) (hk : bnB k) (hv : okV (joinM k u v)) (hl : l.length < 299) : stC L env pl i (v :: u :: l) = some (i + 1, joinM k u v :: l) := by
  have e := sg_mod (k := k) (w := 0) (by rcases hk with q | q | q | q <;> omega) (by rcases hk with q | q | q | q <;> omega)
  have e9 : k ≠ 51 ∧ k ≠ 52 ∧ k ≠ 2 ∧ ¬ (23 ≤ k ∧ k ≤ 30) ∧ k ≠ 34 ∧ k ≠ 50 ∧ k ≠ 41 := by rcases hk with q | q | q | q <;> omega
  unfold stC
  rw [hL, e.1, e.2, if_neg e9.1, if_neg e9.2.1, if_neg e9.2.2.1, if_neg e9.2.2.2.1]
  dsimp only
  rw [if_neg e9.2.2.2.2.1, if_neg e9.2.2.2.2.2.1, if_neg e9.2.2.2.2.2.2]
  exact psh_ok hv hl
end SEM
/-- how the reference names what the class names so -/
def cdB (k : Int) : Int := if k = 9 then 6 else if k = 10 then 7 else if k = 11 then 8 else if k = 12 then 9 else if k = 32 then 4 else if k = 40 then 21 else if k = 39 then 22 else cmZ k
def trI (k : Int) : Bool := decide (k = 40 ∨ k = 39)
def trO (k : Int) : Bool := decide (k = 40 ∨ k = 39 ∨ (3 ≤ k ∧ k ≤ 8))
theorem bit2 {x y : Int} (hx : x = 0 ∨ x = 1) (hy : y = 0 ∨ y = 1) : (and32 x y = mJn 21 x y ∧ (and32 x y = 0 ∨ and32 x y = 1)) ∧ (or32 x y = mJn 22 x y ∧ (or32 x y = 0 ∨ or32 x y = 1)) := by
  rcases hx with rfl | rfl <;> rcases hy with rfl | rfl <;> decide +kernel
theorem joinV {k x y : Int} (hk : bnB k) (ht : trI k = true → (x = 0 ∨ x = 1) ∧ (y = 0 ∨ y = 1)) : okV (joinM k x y) ∧ (trO k = true → joinM k x y = 0 ∨ joinM k x y = 1) := by
  have z0 : okV 0 := by unfold okV; omega
  have bt : ∀ v : Int, (v = 0 ∨ v = 1) → okV v ∧ (trO k = true → v = 0 ∨ v = 1) := fun v h => ⟨by unfold okV; omega, fun _ => h⟩
  have lm : ∀ v : Int, (k = 9 ∨ k = 10 ∨ k = 11 ∨ k = 12 ∨ k = 32) → okV v → okV v ∧ (trO k = true → v = 0 ∨ v = 1) := fun v h a => ⟨a, fun q => by have := of_decide_eq_true q; omega⟩
  unfold joinM
  by_cases k9 : k = 9
  · rw [if_pos k9]; exact lm _ (by omega) (lim_ok _)
  · rw [if_neg k9]
    by_cases k10 : k = 10
    · rw [if_pos k10]; exact lm _ (by omega) (lim_ok _)
    · rw [if_neg k10]
      by_cases k11 : k = 11
      · rw [if_pos k11]; exact lm _ (by omega) (lim_ok _)
      · rw [if_neg k11]
        by_cases k12 : k = 12
        · rw [if_pos k12]; refine lm _ (by omega) ?_; split; exact z0; exact lim_ok _
        · rw [if_neg k12]
          by_cases k32 : k = 32
          · rw [if_pos k32]; exact lm _ (by omega) (lim_ok _)
          · rw [if_neg k32]
            by_cases k40 : k = 40
            · rw [if_pos k40]
              have t := ht (decide_eq_true (.inl k40))
              exact bt _ (bit2 t.1 t.2).1.2
            · rw [if_neg k40]
              by_cases k39 : k = 39
              · rw [if_pos k39]
                have t := ht (decide_eq_true (.inr k39))
                exact bt _ (bit2 t.1 t.2).2.2
              · rw [if_neg k39]
                refine bt _ ?_
                split
                · exact .inr rfl
                · exact .inl rfl
theorem mStp_bin {env pl : Int → Int} {k x y : Int} {l ts : List Int} (hk : bnB k) (ht : trI k = true → (x = 0 ∨ x = 1) ∧ (y = 0 ∨ y = 1)) (hl : l.length < 320) (hs : ts.length < 320) : mStp (cdB k) 0 env pl (puM (trI k) y (puM (trI k) x (l, ts))).1 (puM (trI k) y (puM (trI k) x (l, ts))).2 = some (puM (trO k) (joinM k x y) (l, ts)) := by
  have jv := (joinV hk ht).1
  have val : ∀ b v : Int, b = 6 ∨ b = 7 ∨ b = 8 ∨ b = 9 ∨ b = 4 → okV v → v = (if b = 4 then lim (max 0 (x - y)) else mTwo b x y) → mStp b 0 env pl (y :: x :: l) ts = some (v :: l, ts) := by
    intro b v hb hv e
    unfold mStp
    rw [if_neg (by omega), if_neg (by omega), if_neg (by omega), if_neg (by omega), if_neg (by omega), if_pos (by omega)]
    dsimp only
    rw [← e]
    exact mPsh_ok hv hl
  have ask : ∀ b v : Int, 10 ≤ b → b ≤ 15 → v = mAsk b x y → mStp b 0 env pl (y :: x :: l) ts = some (l, v :: ts) := by
    intro b v b0 b1 e
    unfold mStp
    rw [if_neg (by omega), if_neg (by omega), if_neg (by omega), if_neg (by omega), if_neg (by omega), if_neg (by omega), if_pos (by omega)]
    dsimp only
    rw [if_pos hs, e]
  have jn : ∀ b v : Int, b = 21 ∨ b = 22 → v = mJn b x y → mStp b 0 env pl l (y :: x :: ts) = some (l, v :: ts) := by
    intro b v hb e
    unfold mStp
    rw [if_neg (by omega), if_neg (by omega), if_neg (by omega), if_neg (by omega), if_neg (by omega), if_neg (by omega), if_neg (by omega), if_neg (by omega)]
    dsimp only
    rw [e]
  rcases hk with ⟨k0, k1⟩ | rfl | rfl | rfl
  · by_cases hc : k ≤ 8
    · have ti : trI k = false := decide_eq_false (by omega)
      have to : trO k = true := decide_eq_true (by omega)
      rw [ti, to]
      show mStp (cdB k) 0 env pl (y :: x :: l) ts = some (l, joinM k x y :: ts)
      have hj : joinM k x y = if cmpM k x y = true then 1 else 0 := by simp only [joinM, if_neg (show k ≠ 9 by omega), if_neg (show k ≠ 10 by omega), if_neg (show k ≠ 11 by omega), if_neg (show k ≠ 12 by omega), if_neg (show k ≠ 32 by omega), if_neg (show k ≠ 40 by omega), if_neg (show k ≠ 39 by omega)]
      rcases (show k = 3 ∨ k = 4 ∨ k = 5 ∨ k = 6 ∨ k = 7 ∨ k = 8 by omega) with rfl | rfl | rfl | rfl | rfl | rfl
      · refine ask 11 _ (by decide) (by decide) ?_
        rw [hj]; show (if decide (x ≤ y) = true then (1 : Int) else 0) = if x ≤ y then 1 else 0; simp only [decide_eq_true_eq]
      · refine ask 13 _ (by decide) (by decide) ?_
        rw [hj]; show (if decide (y ≤ x) = true then (1 : Int) else 0) = if y ≤ x then 1 else 0; simp only [decide_eq_true_eq]
      · refine ask 10 _ (by decide) (by decide) ?_
        rw [hj]; show (if decide (x < y) = true then (1 : Int) else 0) = if x < y then 1 else 0; simp only [decide_eq_true_eq]
      · refine ask 12 _ (by decide) (by decide) ?_
        rw [hj]; show (if decide (y < x) = true then (1 : Int) else 0) = if y < x then 1 else 0; simp only [decide_eq_true_eq]
      · refine ask 14 _ (by decide) (by decide) ?_
        rw [hj]; show (if decide (x = y) = true then (1 : Int) else 0) = if x = y then 1 else 0; simp only [decide_eq_true_eq]
      · refine ask 15 _ (by decide) (by decide) ?_
        rw [hj]; show (if decide (x ≠ y) = true then (1 : Int) else 0) = if x = y then 0 else 1; by_cases q : x = y <;> simp [q]
    · have ti : trI k = false := decide_eq_false (by omega)
      have to : trO k = false := decide_eq_false (by omega)
      rw [ti, to]
      show mStp (cdB k) 0 env pl (y :: x :: l) ts = some (joinM k x y :: l, ts)
      rcases (show k = 9 ∨ k = 10 ∨ k = 11 ∨ k = 12 by omega) with rfl | rfl | rfl | rfl
      · exact val 6 _ (by decide) jv rfl
      · exact val 7 _ (by decide) jv rfl
      · exact val 8 _ (by decide) jv rfl
      · exact val 9 _ (by decide) jv rfl
  · exact val 4 _ (by decide) jv rfl
  · have t := ht rfl
    exact jn 21 _ (.inl rfl) (bit2 t.1 t.2).1.1
  · have t := ht rfl
    exact jn 22 _ (.inr rfl) (bit2 t.1 t.2).2.1
def cuB (k : Int) : Int := if k = 34 then 2 else if k = 50 then 5 else 20
def trU (k : Int) : Bool := decide (k = 41)
theorem mStp_un {env pl : Int → Int} {k x : Int} {l ts : List Int} (hk : unB k) (hv : okV (unM k pl x)) (hl : l.length < 320) : mStp (cuB k) 0 env pl (puM (trU k) x (l, ts)).1 (puM (trU k) x (l, ts)).2 = some (puM (trU k) (unM k pl x) (l, ts)) := by
  rcases hk with rfl | rfl | rfl
  · show mPsh (pl x) l ts = _
    exact mPsh_ok hv hl
  · show mPsh (-x) l ts = _
    exact mPsh_ok hv hl
  · rfl
/-! How parts are put together. -/
theorem SemV.bin {tr : Bool} {k n0 n1 n2 : Int} {sg1 sg2 sg3 : Int → Int} {D1 D2 : Em} {s1 s2 : Dn} (hk : bnB k) (h1 : SemV (trI k) n0 n1 sg1 D1 s1) (h2 : SemV (trI k) n1 n2 sg2 D2 s2) (e12 : ∀ j, j < n1 → sg2 j = sg1 j) (e23 : ∀ j, j < n2 → sg3 j = sg2 j) (e3 : sg3 n2 = 0 * 64 + k) (a1 : n0 < n1) (a2 : n1 < n2) (d1 : 1 ≤ D1.length) (d2 : 1 ≤ D2.length) (ht : trO k = tr) : SemV tr n0 (n2 + 1) sg3 (D1 ++ D2 ++ [(cdB k, 0)]) (fun env pl => joinM k (s1 env pl) (s2 env pl)) := by
  subst ht
  intro env pl ok
  obtain ⟨v1, b1, c1, m1⟩ := h1 env pl ok
  obtain ⟨v2, b2, c2, m2⟩ := h2 env pl ok
  have bb : trI k = true → (s1 env pl = 0 ∨ s1 env pl = 1) ∧ (s2 env pl = 0 ∨ s2 env pl = 1) := fun t => ⟨b1 t, b2 t⟩
  have jv := joinV hk bb
  refine ⟨jv.1, jv.2, ?_, ?_⟩
  · intro L len l r hL hn hl h
    refine c1 L len l r (fun j j0 j1 => by rw [hL j j0 (by omega), e23 j (by omega), e12 j j1]) (by omega) (by omega) ?_
    refine c2 L len _ r (fun j j0 j1 => by rw [hL j (by omega) (by omega), e23 j j1]) (by omega) (by rw [List.length_cons]; omega) ?_
    exact RC.one (by omega) (stC_bin (by rw [hL n2 (by omega) (by omega), e3]) hk jv.1 (by omega)) h
  · intro l ts hl hs
    rw [List.length_append, List.length_append, List.length_singleton] at hl hs
    have q1 := m1 l ts (by omega) (by omega)
    have q2 := m2 (puM (trI k) (s1 env pl) (l, ts)).1 (puM (trI k) (s1 env pl) (l, ts)).2 (by unfold puM; split <;> dsimp only <;> (try rw [List.length_cons]) <;> omega) (by unfold puM; split <;> dsimp only <;> (try rw [List.length_cons]) <;> omega)
    rw [List.append_assoc, foM_some q1]
    rw [foM_some q2]
    exact foM_one (mStp_bin hk bb (by omega) (by omega))
theorem unV {k x : Int} {env pl : Int → Int} (ok : okE env pl) (hk : unB k) (hx : okV x) : okV (unM k pl x) ∧ (trU k = true → unM k pl x = 0 ∨ unM k pl x = 1) := by
  unfold unM
  rcases hk with rfl | rfl | rfl
  · exact ⟨ok.2 x, fun q => absurd (of_decide_eq_true q) (by decide)⟩
  · rw [if_neg (by decide), if_pos rfl]
    exact ⟨by unfold okV at hx ⊢; omega, fun q => absurd (of_decide_eq_true q) (by decide)⟩
  · rw [if_neg (by decide), if_neg (by decide)]
    by_cases q : x = 0
    · rw [if_pos q]; exact ⟨by unfold okV; omega, fun _ => .inr rfl⟩
    · rw [if_neg q]; exact ⟨by unfold okV; omega, fun _ => .inl rfl⟩
theorem SemV.un {tr : Bool} {k n0 n1 : Int} {sg1 sg3 : Int → Int} {D1 : Em} {s1 : Dn} (hk : unB k) (h1 : SemV tr n0 n1 sg1 D1 s1) (e23 : ∀ j, j < n1 → sg3 j = sg1 j) (e3 : sg3 n1 = 0 * 64 + k) (a1 : n0 < n1) (d1 : 1 ≤ D1.length) (ht : trU k = tr) : SemV tr n0 (n1 + 1) sg3 (D1 ++ [(cuB k, 0)]) (fun env pl => unM k pl (s1 env pl)) := by
  subst ht
  intro env pl ok
  obtain ⟨v1, b1, c1, m1⟩ := h1 env pl ok
  have jv := unV ok hk v1
  refine ⟨jv.1, jv.2, ?_, ?_⟩
  · intro L len l r hL hn hl h
    refine c1 L len l r (fun j j0 j1 => by rw [hL j j0 (by omega), e23 j (by omega)]) (by omega) (by omega) ?_
    exact RC.one (by omega) (stC_un (by rw [hL n1 (by omega) (by omega), e3]) hk jv.1 (by omega)) h
  · intro l ts hl hs
    rw [List.length_append, List.length_singleton] at hl hs
    rw [foM_some (m1 l ts (by omega) (by omega))]
    exact foM_one (mStp_un hk jv.1 (by omega))
theorem SemV.num {n w : Int} {sg : Int → Int} (hs : sg n = w * 64 + 2) (hw : okV w) : SemV false n (n + 1) sg [(0, w)] (fun _ _ => w) := by
  intro env pl ok
  refine ⟨hw, (fun q => by cases q), ?_, ?_⟩
  · intro L len l r hL hn hl h
    exact RC.one (by omega) (stC_num (by rw [hL n (by omega) (by omega), hs]) hw (by omega)) h
  · intro l ts hl hs
    exact foM_one (mPsh_ok hw (by rw [List.length_singleton] at hl; show l.length < 320; omega))
theorem SemV.name {n k : Int} {sg : Int → Int} (hs : sg n = 0 * 64 + k) (k0 : 23 ≤ k) (k1 : k ≤ 30) : SemV false n (n + 1) sg [(1, k - 23)] (fun env _ => env (k - 23)) := by
  intro env pl ok
  have hw := ok.1 (k - 23) (by omega) (by omega)
  refine ⟨hw, (fun q => by cases q), ?_, ?_⟩
  · intro L len l r hL hn hl h
    exact RC.one (by omega) (stC_name (by rw [hL n (by omega) (by omega), hs]) k0 k1 hw (by omega)) h
  · intro l ts hl hs
    exact foM_one (mPsh_ok hw (by rw [List.length_singleton] at hl; show l.length < 320; omega))
/-- if: what is asked, to n1; the sum that is chosen, from n1 + 1 to n2, else the one from n2 + 1 to n3 -/
theorem SemV.iff {n0 n1 n2 n3 : Int} {sg1 sg2 sg3 sg : Int → Int} {D1 D2 D3 : Em} {s1 s2 s3 : Dn} (h1 : SemV true n0 n1 sg1 D1 s1) (h2 : SemV false (n1 + 1) n2 sg2 D2 s2) (h3 : SemV false (n2 + 1) n3 sg3 D3 s3) (e1 : ∀ j, n0 ≤ j → j < n1 → sg j = sg1 j) (e2 : ∀ j, n1 < j → j < n2 → sg j = sg2 j) (e3 : ∀ j, n2 < j → j < n3 → sg j = sg3 j) (x1 : sg n1 = (n2 - n1) * 64 + 52) (x2 : sg n2 = (n3 - 1 - n2) * 64 + 51) (a1 : n0 < n1) (a2 : n1 + 1 < n2) (a3 : n2 + 1 < n3) (d1 : 1 ≤ D1.length) (d2 : 1 ≤ D2.length) (d3 : 1 ≤ D3.length) : SemV false n0 n3 sg (D1 ++ (D2 ++ (D3 ++ [(3, 0)]))) (fun env pl => if s1 env pl = 0 then s3 env pl else s2 env pl) := by
  intro env pl ok
  obtain ⟨v1, b1, c1, m1⟩ := h1 env pl ok
  obtain ⟨v2, b2, c2, m2⟩ := h2 env pl ok
  obtain ⟨v3, b3, c3, m3⟩ := h3 env pl ok
  refine ⟨?_, (fun q => by cases q), ?_, ?_⟩
  · show okV (if s1 env pl = 0 then s3 env pl else s2 env pl)
    split
    · exact v3
    · exact v2
  · intro L len l r hL hn hl h
    refine c1 L len l r (fun j j0 j1 => by rw [hL j j0 (by omega), e1 j j0 j1]) (by omega) (by omega) ?_
    refine RC.one (by omega) (stC_unless (w := n2 - n1) (by rw [hL n1 (by omega) (by omega), x1])) ?_
    have h : RC L env pl len n3 ((if s1 env pl = 0 then s3 env pl else s2 env pl) :: l) r := h
    by_cases q : s1 env pl = 0
    · rw [if_pos q] at h ⊢
      rw [show n1 + (n2 - n1) + 1 = n2 + 1 by omega]
      exact c3 L len l r (fun j j0 j1 => by rw [hL j (by omega) (by omega), e3 j (by omega) j1]) (by omega) (by omega) h
    · rw [if_neg q] at h ⊢
      refine c2 L len l r (fun j j0 j1 => by rw [hL j (by omega) (by omega), e2 j (by omega) j1]) (by omega) (by omega) ?_
      refine RC.one (by omega) (stC_skip (w := n3 - 1 - n2) (by rw [hL n2 (by omega) (by omega), x2])) ?_
      rw [show n2 + (n3 - 1 - n2) + 1 = n3 by omega]
      exact h
  · intro l ts hl hs
    simp only [List.length_append, List.length_singleton] at hl hs
    rw [foM_some (m1 l ts (by omega) (by omega))]
    have q2 := m2 l (s1 env pl :: ts) (by omega) (by rw [List.length_cons]; omega)
    rw [show puM true (s1 env pl) (l, ts) = (l, s1 env pl :: ts) from rfl, foM_some q2]
    have q3 := m3 (s2 env pl :: l) (s1 env pl :: ts) (by rw [List.length_cons]; omega) (by rw [List.length_cons]; omega)
    rw [show puM false (s2 env pl) (l, s1 env pl :: ts) = (s2 env pl :: l, s1 env pl :: ts) from rfl, foM_some q3]
    rfl
