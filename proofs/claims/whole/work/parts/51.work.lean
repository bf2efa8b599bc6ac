/-! A law's row of signs, worked off. -/
def joinM (k x y : Int) : Int := if k = 9 then lim (x + y) else if k = 10 then lim (x - y) else if k = 11 then lim (x * y) else if k = 12 then (if y = 0 then 0 else lim (Int.tdiv x y)) else if k = 32 then lim (max 0 (x - y)) else if k = 40 then and32 x y else if k = 39 then or32 x y else if cmpM k x y = true then 1 else 0
def psh (i v : Int) (l : List Int) : Option (Int × List Int) := if (-1000000 ≤ v ∧ v ≤ 1000000) ∧ l.length < 299 then some (i + 1, v :: l) else none
def stC (L env pl : Int → Int) (i : Int) (l : List Int) : Option (Int × List Int) :=
  if L i % 64 = 51 then some (i + L i / 64 + 1, l)
  else if L i % 64 = 52 then match l with
    | [] => none
    | v :: r => some (if v = 0 then i + L i / 64 + 1 else i + 1, r)
  else if L i % 64 = 2 then psh i (L i / 64) l
  else if 23 ≤ L i % 64 ∧ L i % 64 ≤ 30 then psh i (env (L i % 64 - 23)) l
  else match l with
    | [] => none
    | v :: r => if L i % 64 = 34 then psh i (pl v) r
      else if L i % 64 = 50 then psh i (-v) r
      else if L i % 64 = 41 then psh i (if v = 0 then 1 else 0) r
      else match r with
        | [] => none
        | u :: q => psh i (joinM (L i % 64) u v) q
def runC (L env pl : Int → Int) (len : Int) : Nat → Int → List Int → Option Int
  | 0, _, _ => none
  | f + 1, i, l => if len ≤ i then (match l with | [v] => some v | _ => none) else match stC L env pl i l with
    | none => none
    | some (j, r) => runC L env pl len f j r
theorem psh_some {i v j : Int} {l r : List Int} (h : psh i v l = some (j, r)) : j = i + 1 ∧ r = v :: l ∧ okV v ∧ l.length < 299 := by
  unfold psh at h
  split at h
  · rename_i hc; cases h; exact ⟨rfl, rfl, hc.1, hc.2⟩
  · cases h
theorem bit_cases {x : Int} (h : 0 ≤ x) (h1 : x ≤ 1) : x = 0 ∨ x = 1 := by omega
def okL (L : Int → Int) (len : Int) : Prop := 0 ≤ len ∧ len ≤ 300 ∧ ∀ i, 0 ≤ i → i < len → 0 ≤ L i ∧ L i < 1000000
def okAll : List Int → Prop
  | [] => True
  | v :: l => okV v ∧ okAll l
section WORK
variable {d bc bs n : Nat} {h : aH} {Q : aQ} {a : Nat} {l r : List Int} {v : Int}
theorem R_X2_joined {k x y : Int} (hx : okV x) (hy : okV y) (kk : Q (some (vI (joinM k x y))) h n) : Rn (d + 2) bc bs mX2_joined 0 [some (vI k), some (vI x), some (vI y)] [] h n Q := by
  unfold okV at hx hy
  have m1 : x * y ≤ 1000000 * 1000000 ∧ -(1000000 * 1000000) ≤ x * y := by
    have := Int.natAbs_mul x y
    have : x.natAbs * y.natAbs ≤ 1000000 * 1000000 := Nat.mul_le_mul (by omega) (by omega)
    omega
  have m2 : y ≠ 0 → Int.tdiv x y ≤ 1000000 ∧ -1000000 ≤ Int.tdiv x y := by
    intro hy0
    have h6 : (Int.tdiv x y).natAbs = x.natAbs / y.natAbs := Int.natAbs_tdiv x y
    have h7 : x.natAbs / y.natAbs ≤ x.natAbs := Nat.div_le_self _ _
    rw [← h6] at h7
    omega
  have j9 : k = 9 → joinM k x y = lim (x + y) := fun e => by subst e; rfl
  have j10 : k = 10 → joinM k x y = lim (x - y) := fun e => by subst e; rfl
  have j11 : k = 11 → joinM k x y = lim (x * y) := fun e => by subst e; rfl
  have j12 : k = 12 → joinM k x y = (if y = 0 then 0 else lim (Int.tdiv x y)) := fun e => by subst e; rfl
  have j32 : k = 32 → joinM k x y = lim (max 0 (x - y)) := fun e => by subst e; rfl
  have j40 : k = 40 → joinM k x y = and32 x y := fun e => by subst e; rfl
  have j39 : k = 39 → joinM k x y = or32 x y := fun e => by subst e; rfl
  have jd : (k ≠ 9 ∧ k ≠ 10 ∧ k ≠ 11 ∧ k ≠ 12 ∧ k ≠ 32 ∧ k ≠ 39 ∧ k ≠ 40) → joinM k x y = if cmpM k x y = true then 1 else 0 := fun ⟨a1, a2, a3, a4, a5, a6, a7⟩ => by simp only [joinM, if_neg a1, if_neg a2, if_neg a3, if_neg a4, if_neg a5, if_neg a6, if_neg a7]
  refine BX2_joined_0  ?_ ?_ ?_ ?_ ?_ ?_ ?_ ?_
  · intro hc1
    refine BX2_joined_133  ?_
    refine R_X2_compares  ?_ ?_
    · intro w1
      refine BX2_joined_139  ?_ ?_
      · intro hc2
        exact absurd hc2 (by decide)
      · intro hc3
        refine BX2_joined_142  ?_
        first | (rw [j9 (by assumption)] at kk; exact kk) | (rw [j10 (by assumption)] at kk; exact kk) | (rw [j11 (by assumption)] at kk; exact kk) | (rw [j12 (by assumption), if_pos (by assumption)] at kk; exact kk) | (rw [j12 (by assumption), if_neg (by assumption)] at kk; exact kk) | (rw [j32 (by assumption)] at kk; exact kk) | (rw [j39 (by assumption)] at kk; exact kk) | (rw [j40 (by assumption)] at kk; exact kk) | (rw [jd (by assumption), if_pos w1] at kk; exact kk) | (rw [jd (by assumption), if_neg (by rw [w1]; decide)] at kk; exact kk) | (exfalso; omega)
    · intro w1
      refine BX2_joined_139  ?_ ?_
      · intro hc4
        refine BX2_joined_146  ?_
        first | (rw [j9 (by assumption)] at kk; exact kk) | (rw [j10 (by assumption)] at kk; exact kk) | (rw [j11 (by assumption)] at kk; exact kk) | (rw [j12 (by assumption), if_pos (by assumption)] at kk; exact kk) | (rw [j12 (by assumption), if_neg (by assumption)] at kk; exact kk) | (rw [j32 (by assumption)] at kk; exact kk) | (rw [j39 (by assumption)] at kk; exact kk) | (rw [j40 (by assumption)] at kk; exact kk) | (rw [jd (by assumption), if_pos w1] at kk; exact kk) | (rw [jd (by assumption), if_neg (by rw [w1]; decide)] at kk; exact kk) | (exfalso; omega)
      · intro hc5
        exact absurd hc5 (by decide)
  · intro hc6
    refine BX2_joined_68 (by first | omega | assumption | (simp only [Ls_len]; omega) | exact Ls_get (by omega) (by omega) | rfl | decide) ?_
    refine R_X2_limited  ?_
    refine BX2_joined_76  ?_
    first | (rw [j9 (by assumption)] at kk; exact kk) | (rw [j10 (by assumption)] at kk; exact kk) | (rw [j11 (by assumption)] at kk; exact kk) | (rw [j12 (by assumption), if_pos (by assumption)] at kk; exact kk) | (rw [j12 (by assumption), if_neg (by assumption)] at kk; exact kk) | (rw [j32 (by assumption)] at kk; exact kk) | (rw [j39 (by assumption)] at kk; exact kk) | (rw [j40 (by assumption)] at kk; exact kk) | (rw [jd (by assumption), if_pos w1] at kk; exact kk) | (rw [jd (by assumption), if_neg (by rw [w1]; decide)] at kk; exact kk) | (exfalso; omega)
  · intro hc7
    refine BX2_joined_77 (by first | omega | assumption | (simp only [Ls_len]; omega) | exact Ls_get (by omega) (by omega) | rfl | decide) ?_
    refine R_X2_limited  ?_
    refine BX2_joined_85  ?_
    first | (rw [j9 (by assumption)] at kk; exact kk) | (rw [j10 (by assumption)] at kk; exact kk) | (rw [j11 (by assumption)] at kk; exact kk) | (rw [j12 (by assumption), if_pos (by assumption)] at kk; exact kk) | (rw [j12 (by assumption), if_neg (by assumption)] at kk; exact kk) | (rw [j32 (by assumption)] at kk; exact kk) | (rw [j39 (by assumption)] at kk; exact kk) | (rw [j40 (by assumption)] at kk; exact kk) | (rw [jd (by assumption), if_pos w1] at kk; exact kk) | (rw [jd (by assumption), if_neg (by rw [w1]; decide)] at kk; exact kk) | (exfalso; omega)
  · intro hc8
    refine BX2_joined_86 (by first | omega | assumption | (simp only [Ls_len]; omega) | exact Ls_get (by omega) (by omega) | rfl | decide) ?_
    refine R_X2_limited  ?_
    refine BX2_joined_94  ?_
    first | (rw [j9 (by assumption)] at kk; exact kk) | (rw [j10 (by assumption)] at kk; exact kk) | (rw [j11 (by assumption)] at kk; exact kk) | (rw [j12 (by assumption), if_pos (by assumption)] at kk; exact kk) | (rw [j12 (by assumption), if_neg (by assumption)] at kk; exact kk) | (rw [j32 (by assumption)] at kk; exact kk) | (rw [j39 (by assumption)] at kk; exact kk) | (rw [j40 (by assumption)] at kk; exact kk) | (rw [jd (by assumption), if_pos w1] at kk; exact kk) | (rw [jd (by assumption), if_neg (by rw [w1]; decide)] at kk; exact kk) | (exfalso; omega)
  · intro hc9
    refine BX2_joined_95  ?_ ?_
    · intro hc10
      refine BX2_joined_103 (by first | omega | assumption | (simp only [Ls_len]; omega) | exact Ls_get (by omega) (by omega) | rfl | decide) (by first | omega | assumption | (simp only [Ls_len]; omega) | exact Ls_get (by omega) (by omega) | rfl | decide) ?_
      refine R_X2_limited  ?_
      refine BX2_joined_111  ?_
      first | (rw [j9 (by assumption)] at kk; exact kk) | (rw [j10 (by assumption)] at kk; exact kk) | (rw [j11 (by assumption)] at kk; exact kk) | (rw [j12 (by assumption), if_pos (by assumption)] at kk; exact kk) | (rw [j12 (by assumption), if_neg (by assumption)] at kk; exact kk) | (rw [j32 (by assumption)] at kk; exact kk) | (rw [j39 (by assumption)] at kk; exact kk) | (rw [j40 (by assumption)] at kk; exact kk) | (rw [jd (by assumption), if_pos w1] at kk; exact kk) | (rw [jd (by assumption), if_neg (by rw [w1]; decide)] at kk; exact kk) | (exfalso; omega)
    · intro hc11
      refine BX2_joined_99  ?_
      first | (rw [j9 (by assumption)] at kk; exact kk) | (rw [j10 (by assumption)] at kk; exact kk) | (rw [j11 (by assumption)] at kk; exact kk) | (rw [j12 (by assumption), if_pos (by assumption)] at kk; exact kk) | (rw [j12 (by assumption), if_neg (by assumption)] at kk; exact kk) | (rw [j32 (by assumption)] at kk; exact kk) | (rw [j39 (by assumption)] at kk; exact kk) | (rw [j40 (by assumption)] at kk; exact kk) | (rw [jd (by assumption), if_pos w1] at kk; exact kk) | (rw [jd (by assumption), if_neg (by rw [w1]; decide)] at kk; exact kk) | (exfalso; omega)
  · intro hc12
    refine BX2_joined_112 (by first | omega | assumption | (simp only [Ls_len]; omega) | exact Ls_get (by omega) (by omega) | rfl | decide) ?_
    refine R_J9_lmax  ?_
    refine BX2_joined_121  ?_
    refine R_X2_limited  ?_
    refine BX2_joined_124  ?_
    first | (rw [j9 (by assumption)] at kk; exact kk) | (rw [j10 (by assumption)] at kk; exact kk) | (rw [j11 (by assumption)] at kk; exact kk) | (rw [j12 (by assumption), if_pos (by assumption)] at kk; exact kk) | (rw [j12 (by assumption), if_neg (by assumption)] at kk; exact kk) | (rw [j32 (by assumption)] at kk; exact kk) | (rw [j39 (by assumption)] at kk; exact kk) | (rw [j40 (by assumption)] at kk; exact kk) | (rw [jd (by assumption), if_pos w1] at kk; exact kk) | (rw [jd (by assumption), if_neg (by rw [w1]; decide)] at kk; exact kk) | (exfalso; omega)
  · intro hc13
    refine BX2_joined_129  ?_
    first | (rw [j9 (by assumption)] at kk; exact kk) | (rw [j10 (by assumption)] at kk; exact kk) | (rw [j11 (by assumption)] at kk; exact kk) | (rw [j12 (by assumption), if_pos (by assumption)] at kk; exact kk) | (rw [j12 (by assumption), if_neg (by assumption)] at kk; exact kk) | (rw [j32 (by assumption)] at kk; exact kk) | (rw [j39 (by assumption)] at kk; exact kk) | (rw [j40 (by assumption)] at kk; exact kk) | (rw [jd (by assumption), if_pos w1] at kk; exact kk) | (rw [jd (by assumption), if_neg (by rw [w1]; decide)] at kk; exact kk) | (exfalso; omega)
  · intro hc14
    refine BX2_joined_125  ?_
    first | (rw [j9 (by assumption)] at kk; exact kk) | (rw [j10 (by assumption)] at kk; exact kk) | (rw [j11 (by assumption)] at kk; exact kk) | (rw [j12 (by assumption), if_pos (by assumption)] at kk; exact kk) | (rw [j12 (by assumption), if_neg (by assumption)] at kk; exact kk) | (rw [j32 (by assumption)] at kk; exact kk) | (rw [j39 (by assumption)] at kk; exact kk) | (rw [j40 (by assumption)] at kk; exact kk) | (rw [jd (by assumption), if_pos w1] at kk; exact kk) | (rw [jd (by assumption), if_neg (by rw [w1]; decide)] at kk; exact kk) | (exfalso; omega)
end WORK
