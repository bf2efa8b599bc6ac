/-! The reference's reading of a law, mirrored step by step: where the token at hand is looked for, the pile (its top first), how many are open, whether a whole one was read, what was emitted. -/
abbrev Em : Type := List (Int × Int)
abbrev Zs : Type := Int × List Int × Int × Int × Em
def rk (x : Int) : Int := if 40 ≤ x then 0 else if x = 22 then 1 else if x = 21 then 2 else if x = 20 then 3 else if 10 ≤ x then 4 else if x = 5 ∨ x = 2 ∨ x = 4 then 7 else if 8 ≤ x then 6 else 5
theorem rk_in (x : Int) : 0 ≤ rk x ∧ rk x ≤ 7 := by
  unfold rk
  (repeat' split) <;> omega
def seZ (l : Int) : List Int → Int → Em → List Int × Int × Em
  | [], o, c => ([], o, c)
  | x :: P, o, c => if l ≤ rk x then seZ l P (if rk x = 7 ∨ x = 20 then o - 1 else o) (c ++ [(x, 0)]) else (x :: P, o, c)
def opN : List Int → Int
  | [] => -1
  | x :: P => if 40 ≤ x then x else opN P
def isC : List Int → Bool
  | [] => false
  | x :: P => if 4 < rk x then isC P else decide (rk x = 4)
def tpZ : List Int → Int
  | [] => -1
  | x :: _ => x
def askB (P : List Int) : Bool := decide (opN P = 42 ∧ (40 ≤ tpZ P ∨ (1 ≤ rk (tpZ P) ∧ rk (tpZ P) ≤ 3)))
def endZ (F : Int → Int) (p : Int) (P : List Int) (o : Int) (c : Em) : Int × Zs :=
  if tpZ (seZ 7 P o c).1 = 41 then (if tkK F p = 33 then (0, (tkN F p, 4 :: (seZ 7 P o c).1.tail, (seZ 7 P o c).2.1, 0, (seZ 7 P o c).2.2)) else (1, (p, (seZ 7 P o c).1, (seZ 7 P o c).2.1, 1, (seZ 7 P o c).2.2)))
  else (0, (p, (seZ 7 P o c).1, (seZ 7 P o c).2.1, 1, (seZ 7 P o c).2.2))
def opZ (F : Int → Int) (x p : Int) (P : List Int) (o : Int) (c : Em) : Int × Zs := if o = 8 then (3, (p, P, o, 0, c)) else (0, (tkN F p, x :: P, o + 1, 0, c))
def begZ (F : Int → Int) (iw p : Int) (P : List Int) (o : Int) (c : Em) : Int × Zs :=
  if tkK F p = 2 ∧ 9999 < tkV F p then (2, (p, P, o, 0, c))
  else if tkK F p = 30 ∧ iw ≠ 0 then (5, (p, P, o, 0, c))
  else if tkK F p = 2 then endZ F (tkN F p) P o (c ++ [(0, tkV F p)])
  else if 23 ≤ tkK F p ∧ tkK F p ≤ 30 then endZ F (tkN F p) P o (c ++ [(1, tkK F p - 23)])
  else if tkK F p = 13 then opZ F 40 p P o c
  else if tkK F p = 10 then opZ F 5 p P o c
  else if tkK F p = 32 then opZ F 41 p P o c
  else if tkK F p = 34 then opZ F 2 p P o c
  else if tkK F p = 35 then opZ F 42 p P o c
  else if tkK F p = 41 ∧ askB P = true then opZ F 20 p P o c
  else (1, (p, P, o, 0, c))
def cmZ (k : Int) : Int := if k = 5 then 10 else if k = 3 then 11 else if k = 6 then 12 else if k = 4 then 13 else if k = 7 then 14 else if k = 8 then 15 else -1
def btZ (k op : Int) (cp : Bool) : Int := if k = 9 then 6 else if k = 10 then 7 else if k = 11 then 8 else if k = 12 then 9 else if op ≠ 42 then -1 else if cp = false then cmZ k else if k = 40 then 21 else if k = 39 then 22 else -1
def paZ (k op : Int) (cp : Bool) : Int := if op = 40 then (if k = 14 then 0 else -1) else if op = 42 then (if k = 36 ∧ cp = true then 43 else -1) else if op = 43 then (if k = 37 then 44 else -1) else if op = 44 then (if k = 38 then 0 else -1) else -1
def stl (b : Int) : Int := if rk b = 4 then 5 else rk b
def behZ (F : Int → Int) (p : Int) (P : List Int) (o : Int) (c : Em) : Int × Zs :=
  if 0 ≤ btZ (tkK F p) (opN P) (isC P) then (0, (tkN F p, btZ (tkK F p) (opN P) (isC P) :: (seZ (stl (btZ (tkK F p) (opN P) (isC P))) P o c).1, (seZ (stl (btZ (tkK F p) (opN P) (isC P))) P o c).2.1, 0, (seZ (stl (btZ (tkK F p) (opN P) (isC P))) P o c).2.2))
  else if paZ (tkK F p) (opN P) (isC P) < 0 then (-1, (p, P, o, 1, c))
  else if paZ (tkK F p) (opN P) (isC P) = 0 then endZ F (tkN F p) (seZ 1 P o c).1.tail ((seZ 1 P o c).2.1 - 1) (if opN P = 44 then (seZ 1 P o c).2.2 ++ [(3, 0)] else (seZ 1 P o c).2.2)
  else (0, (tkN F p, paZ (tkK F p) (opN P) (isC P) :: (seZ 1 P o c).1.tail, (seZ 1 P o c).2.1, 0, (seZ 1 P o c).2.2))
def stZ (F : Int → Int) (iw : Int) (z : Zs) : Int × Zs :=
  if z.2.2.2.1 = 0 then begZ F iw z.1 z.2.1 z.2.2.1 z.2.2.2.2
  else if (behZ F z.1 z.2.1 z.2.2.1 z.2.2.2.2).1 = -1 then (if 0 ≤ opN z.2.1 then (1, (z.1, z.2.1, z.2.2.1, 1, z.2.2.2.2)) else (-1, (z.1, (seZ 1 z.2.1 z.2.2.1 z.2.2.2.2).1, (seZ 1 z.2.1 z.2.2.1 z.2.2.2.2).2.1, 1, (seZ 1 z.2.1 z.2.2.1 z.2.2.2.2).2.2)))
  else behZ F z.1 z.2.1 z.2.2.1 z.2.2.2.2
def okZs (F : Int → Int) (z : Zs) : Prop := (0 ≤ z.1 ∧ z.1 ≤ F 2) ∧ ((z.2.1.length : Int) + z.2.2.2.2.length ≤ 300 ∧ (z.2.1.length : Int) ≤ 159) ∧ (0 ≤ z.2.2.1 ∧ z.2.2.1 ≤ 8)
/-- so many steps from z come to the end r -/
def rnZ (F : Int → Int) (iw : Int) : Nat → Zs → Int × Zs → Prop
  | 0, _, _ => False
  | f + 1, z, r => okZs F z ∧ (if (stZ F iw z).1 = 0 then rnZ F iw f (stZ F iw z).2 r else r = stZ F iw z)
def Rz (F : Int → Int) (iw : Int) (z : Zs) (r : Int × Zs) : Prop := ∃ f, rnZ F iw f z r
def RK (F : Int → Int) (iw : Int) (x r : Int × Zs) : Prop := if x.1 = 0 then Rz F iw x.2 r else r = x
section MIRROR
variable {F : Int → Int} {iw : Int} {z : Zs} {x r : Int × Zs}
theorem RK.st (b : okZs F z) (h : RK F iw (stZ F iw z) r) : Rz F iw z r := by
  unfold RK at h
  by_cases q : (stZ F iw z).1 = 0
  · rw [if_pos q] at h
    obtain ⟨f, hf⟩ := h
    refine ⟨f + 1, b, ?_⟩
    rw [if_pos q]
    exact hf
  · rw [if_neg q] at h
    refine ⟨1, b, ?_⟩
    rw [if_neg q]
    exact h
theorem RK.zero (h : Rz F iw z r) : RK F iw (0, z) r := by
  unfold RK
  rw [if_pos rfl]
  exact h
theorem RK.not (h : x.1 ≠ 0) : RK F iw x x := by
  unfold RK
  rw [if_neg h]
theorem Rz.beg {p o : Int} {P : List Int} {c : Em} (b : okZs F (p, P, o, 0, c)) (h : RK F iw (begZ F iw p P o c) r) : Rz F iw (p, P, o, 0, c) r := RK.st b h
theorem Rz.beh {p o : Int} {P : List Int} {c : Em} (b : okZs F (p, P, o, 1, c)) (h : (behZ F p P o c).1 ≠ -1) (k : RK F iw (behZ F p P o c) r) : Rz F iw (p, P, o, 1, c) r := by
  refine RK.st b ?_
  have e : stZ F iw (p, P, o, 1, c) = behZ F p P o c := by
    unfold stZ
    rw [if_neg (by show ¬ (1 : Int) = 0; decide)]
    exact if_neg h
  rw [e]
  exact k
/-- no more elements can stand here, something is open: a fault; none is: the end -/
theorem Rz.bad {p o : Int} {P : List Int} {c : Em} (b : okZs F (p, P, o, 1, c)) (h : (behZ F p P o c).1 = -1) (ho : 0 ≤ opN P) : Rz F iw (p, P, o, 1, c) (1, (p, P, o, 1, c)) := by
  have e : stZ F iw (p, P, o, 1, c) = (1, (p, P, o, 1, c)) := by
    unfold stZ
    rw [if_neg (by show ¬ (1 : Int) = 0; decide)]
    dsimp only
    rw [if_pos h, if_pos ho]
  refine RK.st b ?_
  rw [e]
  exact RK.not (by show (1 : Int) ≠ 0; decide)
theorem Rz.fin {p o : Int} {P : List Int} {c : Em} (b : okZs F (p, P, o, 1, c)) (h : (behZ F p P o c).1 = -1) (ho : opN P < 0) : Rz F iw (p, P, o, 1, c) (-1, (p, (seZ 1 P o c).1, (seZ 1 P o c).2.1, 1, (seZ 1 P o c).2.2)) := by
  have e : stZ F iw (p, P, o, 1, c) = (-1, (p, (seZ 1 P o c).1, (seZ 1 P o c).2.1, 1, (seZ 1 P o c).2.2)) := by
    unfold stZ
    rw [if_neg (by show ¬ (1 : Int) = 0; decide)]
    dsimp only
    rw [if_pos h, if_neg (by omega)]
  refine RK.st b ?_
  rw [e]
  exact RK.not (by show (-1 : Int) ≠ 0; decide)
/-! What waits on the pile. -/
def n20 : List Int → Int
  | [] => 0
  | x :: P => (if x = 20 then 1 else 0) + n20 P
def mpZ (P : List Int) : Em := P.map fun x => (x, 0)
def topR (P : List Int) (l : Int) : Prop := P = [] ∨ (rk (tpZ P) < l ∧ tpZ P ≠ 41)
theorem seZ_top {P : List Int} {l o : Int} {c : Em} (h : topR P l) : seZ l P o c = (P, o, c) := by
  rcases P with _ | ⟨x, P⟩
  · rfl
  · rcases h with e | ⟨h, _⟩
    · cases e
    · unfold seZ
      rw [if_neg (by have : rk x < l := h; omega)]
theorem seZ_pend {P : List Int} {l : Int} (h : topR P l) : ∀ (N : List Int) (o : Int) (c : Em), (∀ x, x ∈ N → l ≤ rk x ∧ rk x ≤ 6) → seZ l (N ++ P) o c = (P, o - n20 N, c ++ mpZ N) := by
  intro N
  induction N with
  | nil => intro o c _; rw [List.nil_append, seZ_top h, show o - n20 [] = o from by show o - 0 = o; omega, show c ++ mpZ [] = c from List.append_nil c]
  | cons x N ih =>
    intro o c hx
    have x0 := hx x (List.mem_cons_self ..)
    show (if l ≤ rk x then seZ l (N ++ P) (if rk x = 7 ∨ x = 20 then o - 1 else o) (c ++ [(x, 0)]) else _) = _
    rw [if_pos x0.1, ih _ _ (fun y hy => hx y (List.mem_cons_of_mem _ hy))]
    have e1 : c ++ [(x, 0)] ++ mpZ N = c ++ mpZ (x :: N) := by rw [List.append_assoc]; rfl
    rw [e1]
    have e2 : (if rk x = 7 ∨ x = 20 then o - 1 else o) - n20 N = o - n20 (x :: N) := by
      show _ = o - ((if x = 20 then 1 else 0) + n20 N)
      by_cases q : x = 20
      · rw [if_pos (.inr q), if_pos q]; omega
      · rw [if_neg (by omega), if_neg q]; omega
    rw [e2]
theorem opN_pend {P : List Int} : ∀ N : List Int, (∀ x, x ∈ N → 1 ≤ rk x) → opN (N ++ P) = opN P := by
  intro N
  induction N with
  | nil => intro _; rfl
  | cons x N ih =>
    intro h
    have x0 := h x (List.mem_cons_self ..)
    have : ¬ 40 ≤ x := fun q => by unfold rk at x0; rw [if_pos q] at x0; omega
    show (if 40 ≤ x then x else opN (N ++ P)) = _
    rw [if_neg this]
    exact ih fun y hy => h y (List.mem_cons_of_mem _ hy)
theorem isC_pend {P : List Int} : ∀ N : List Int, (∀ x, x ∈ N → 5 ≤ rk x) → isC (N ++ P) = isC P := by
  intro N
  induction N with
  | nil => intro _; rfl
  | cons x N ih =>
    intro h
    have x0 := h x (List.mem_cons_self ..)
    show (if 4 < rk x then isC (N ++ P) else _) = _
    rw [if_pos (by omega)]
    exact ih fun y hy => h y (List.mem_cons_of_mem _ hy)
theorem isC_app {P : List Int} : ∀ N : List Int, isC N = true → isC (N ++ P) = true := by
  intro N
  induction N with
  | nil => intro h; cases h
  | cons x N ih =>
    intro h
    have h : (if 4 < rk x then isC N else decide (rk x = 4)) = true := h
    show (if 4 < rk x then isC (N ++ P) else decide (rk x = 4)) = true
    split at h
    · rename_i q; rw [if_pos q]; exact ih h
    · rename_i q; rw [if_neg q]; exact h
theorem isC_end {x : Int} (hx : rk x = 4) : ∀ N : List Int, (∀ x, x ∈ N → 5 ≤ rk x) → isC (N ++ [x]) = true := by
  intro N h
  rw [isC_pend N h]
  show (if 4 < rk x then isC [] else decide (rk x = 4)) = true
  rw [if_neg (by omega), decide_eq_true hx]
theorem n20_app : ∀ (N R : List Int), n20 (N ++ R) = n20 N + n20 R := by
  intro N
  induction N with
  | nil => intro R; show n20 R = 0 + n20 R; omega
  | cons x N ih => intro R; show (if x = 20 then 1 else 0) + n20 (N ++ R) = (if x = 20 then 1 else 0) + n20 N + n20 R; rw [ih]; omega
theorem mpZ_app (N R : List Int) : mpZ (N ++ R) = mpZ N ++ mpZ R := List.map_append
theorem n20_ge : ∀ N : List Int, 0 ≤ n20 N := by
  intro N
  induction N with
  | nil => exact Int.le_refl _
  | cons x N ih =>
    show 0 ≤ (if x = 20 then (1 : Int) else 0) + n20 N
    split <;> omega
end MIRROR
