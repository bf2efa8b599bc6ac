/-! The reference: the names of a bottle, a clause summed up. -/
def MT (M : Int → Int → Int) (W V : Int → Int → Int) (X : Int → Tx) (F B : Int → Int) (wr cm : Int) : Prop := (TA (M 1) W ∧ tBk (M 1) (if wr = 1 then W 1 else B)) ∧ (TA (M 2) V ∧ tBk (M 2) (V 1)) ∧ (∀ t, 0 ≤ t → t < W 3 1 → tTx (M 3) (705 * t) (X t)) ∧ tTp M F ∧ wrT M B wr ∧ M 0 24 = cm ∧ okN W
def Mq (M M1 : Int → Int → Int) : Prop := ∀ k, ((0 ≤ k ∧ k ≤ 4) ∨ k = 9) → M1 k = M k
section SUM
variable {d bc bs n pc : Nat} {g h : aH} {Q : aQ} {W V : Int → Int → Int} {X : Int → Tx} {F B : Int → Int} {wr cm : Int} {M : Int → Int → Int} {mm : aM} {ls : aL} {st : List aV} {f : Int → Int}
theorem MT.q {M1 : Int → Int → Int} (t : MT M W V X F B wr cm) (q : Mq M M1) : MT M1 W V X F B wr cm := by
  unfold MT tTp wrT at t ⊢
  rw [q 0 (by decide), q 1 (by decide), q 2 (by decide), q 3 (by decide), q 4 (by decide), q 9 (by decide)]
  exact t
theorem IsMo.k6 (e : IsM g h M) (t : MT M W V X F B wr cm) (K : ∀ h1 M1, IsM g h1 M1 → MT M1 W V X F B wr cm → M1 6 = f → Rn d bc bs mm pc ls st h1 n Q) : Rn d bc bs mm pc ls st (up h 307 (cI (Ls 8 f))) n Q := K _ _ e.s6 t rfl
theorem R_X13_name {b : Int} (s : IsMo g h W V X F B wr cm) (ok : okW W) (b0 : 0 ≤ b) (b1 : b < W 1 72) (k : ∀ h1 M1, IsM g h1 M1 → MT M1 W V X F B wr cm → (∀ j, 0 ≤ j → j ≤ 7 → M1 6 j = envM (W 1) (W 3 3) (W 5) b j) → Q none h1 n) : Rn (d + 4) bc bs mX13_name 0 [some (vR (some 301)), some (vI b)] [] h n Q := by
  obtain ⟨M, e, t⟩ := id s
  have ob := ok.2.1.2 b b0 b1
  unfold okBo at ob
  have t73 := t.1.1.2.1.1
  have on6 := t.2.2.2.2.2.2.2.2.2.2.2.1
  have m0 := e.o
  have m1 := e.a1
  have m6 := e.a6
  refine BX13_name_0 (by first | assumption | exact up_at _ _ _ | (rw [up_ne (by omega)]; first | assumption | exact up_at _ _ _ | (rw [up_ne (by omega)]; assumption))) (by rfl) (by rfl) (by first | assumption | exact up_at _ _ _ | (rw [up_ne (by omega)]; first | assumption | exact up_at _ _ _ | (rw [up_ne (by omega)]; assumption))) (by first | exact Ls_get (by omega) (by omega) | assumption) (by first | assumption | exact up_at _ _ _ | (rw [up_ne (by omega)]; first | assumption | exact up_at _ _ _ | (rw [up_ne (by omega)]; assumption))) (by first | omega | (simp only [Ls_len]; omega) | assumption | exact Ls_get (by omega) (by omega) | exact up_at _ _ _ | rfl | decide) (by first | omega | (simp only [Ls_len]; omega) | assumption | exact Ls_get (by omega) (by omega) | exact up_at _ _ _ | rfl | decide) ?_
  try rw [Ls_set (by omega)]
  refine IsMo.k6 e t ?_
  intro h2 M2 e2 t2 f2
  have s2 : IsMo g h2 W V X F B wr cm := ⟨M2, e2, t2⟩
  have m0 := e2.o
  have m1 := e2.a1
  have m6 := e2.a6
  have u73 := t2.1.1.2.1.1
  refine BX13_name_13 (by first | assumption | exact up_at _ _ _ | (rw [up_ne (by omega)]; first | assumption | exact up_at _ _ _ | (rw [up_ne (by omega)]; assumption))) (by rfl) (by rfl) (by first | assumption | exact up_at _ _ _ | (rw [up_ne (by omega)]; first | assumption | exact up_at _ _ _ | (rw [up_ne (by omega)]; assumption))) (by first | exact Ls_get (by omega) (by omega) | assumption) ?_
  refine R_X13_get (by first | omega | (simp only [Ls_len]; omega) | assumption | exact Ls_get (by omega) (by omega) | exact up_at _ _ _ | rfl | decide) (by first | omega | (simp only [Ls_len]; omega) | assumption | exact Ls_get (by omega) (by omega) | exact up_at _ _ _ | rfl | decide) (by first | omega | (simp only [Ls_len]; omega) | assumption | exact Ls_get (by omega) (by omega) | exact up_at _ _ _ | rfl | decide) (by first | omega | (simp only [Ls_len]; omega) | assumption | exact Ls_get (by omega) (by omega) | exact up_at _ _ _ | rfl | decide) (by first | omega | (simp only [Ls_len]; omega) | assumption | exact Ls_get (by omega) (by omega) | exact up_at _ _ _ | rfl | decide) ?_
  refine BX13_name_31 (by first | omega | (simp only [Ls_len]; omega) | assumption | exact Ls_get (by omega) (by omega) | exact up_at _ _ _ | rfl | decide) (by first | assumption | exact up_at _ _ _ | (rw [up_ne (by omega)]; first | assumption | exact up_at _ _ _ | (rw [up_ne (by omega)]; assumption))) (by first | omega | (simp only [Ls_len]; omega) | assumption | exact Ls_get (by omega) (by omega) | exact up_at _ _ _ | rfl | decide) (by first | omega | (simp only [Ls_len]; omega) | assumption | exact Ls_get (by omega) (by omega) | exact up_at _ _ _ | rfl | decide) (by first | omega | (simp only [Ls_len]; omega) | assumption | exact Ls_get (by omega) (by omega) | exact up_at _ _ _ | rfl | decide) ?_
  try rw [Ls_set (by omega)]
  refine IsMo.k6 e2 t2 ?_
  intro h3 M3 e3 t3 f3
  have s3 : IsMo g h3 W V X F B wr cm := ⟨M3, e3, t3⟩
  have m0 := e3.o
  have m1 := e3.a1
  have m6 := e3.a6
  refine BX13_name_33 (by first | assumption | exact up_at _ _ _ | (rw [up_ne (by omega)]; first | assumption | exact up_at _ _ _ | (rw [up_ne (by omega)]; assumption))) (by rfl) ?_
  refine R_X13_get (by first | omega | (simp only [Ls_len]; omega) | assumption | exact Ls_get (by omega) (by omega) | exact up_at _ _ _ | rfl | decide) (by first | omega | (simp only [Ls_len]; omega) | assumption | exact Ls_get (by omega) (by omega) | exact up_at _ _ _ | rfl | decide) (by first | omega | (simp only [Ls_len]; omega) | assumption | exact Ls_get (by omega) (by omega) | exact up_at _ _ _ | rfl | decide) (by first | omega | (simp only [Ls_len]; omega) | assumption | exact Ls_get (by omega) (by omega) | exact up_at _ _ _ | rfl | decide) (by first | omega | (simp only [Ls_len]; omega) | assumption | exact Ls_get (by omega) (by omega) | exact up_at _ _ _ | rfl | decide) ?_
  refine BX13_name_44 (by first | assumption | exact up_at _ _ _ | (rw [up_ne (by omega)]; first | assumption | exact up_at _ _ _ | (rw [up_ne (by omega)]; assumption))) (by first | omega | (simp only [Ls_len]; omega) | assumption | exact Ls_get (by omega) (by omega) | exact up_at _ _ _ | rfl | decide) (by first | omega | (simp only [Ls_len]; omega) | assumption | exact Ls_get (by omega) (by omega) | exact up_at _ _ _ | rfl | decide) (by first | omega | (simp only [Ls_len]; omega) | assumption | exact Ls_get (by omega) (by omega) | exact up_at _ _ _ | rfl | decide) ?_
  try rw [Ls_set (by omega)]
  refine IsMo.k6 e3 t3 ?_
  intro h4 M4 e4 t4 f4
  have s4 : IsMo g h4 W V X F B wr cm := ⟨M4, e4, t4⟩
  have m0 := e4.o
  have m1 := e4.a1
  have m6 := e4.a6
  refine BX13_name_45 (by first | assumption | exact up_at _ _ _ | (rw [up_ne (by omega)]; first | assumption | exact up_at _ _ _ | (rw [up_ne (by omega)]; assumption))) (by rfl) ?_
  refine R_X13_get (by first | omega | (simp only [Ls_len]; omega) | assumption | exact Ls_get (by omega) (by omega) | exact up_at _ _ _ | rfl | decide) (by first | omega | (simp only [Ls_len]; omega) | assumption | exact Ls_get (by omega) (by omega) | exact up_at _ _ _ | rfl | decide) (by first | omega | (simp only [Ls_len]; omega) | assumption | exact Ls_get (by omega) (by omega) | exact up_at _ _ _ | rfl | decide) (by first | omega | (simp only [Ls_len]; omega) | assumption | exact Ls_get (by omega) (by omega) | exact up_at _ _ _ | rfl | decide) (by first | omega | (simp only [Ls_len]; omega) | assumption | exact Ls_get (by omega) (by omega) | exact up_at _ _ _ | rfl | decide) ?_
  refine BX13_name_57 (by first | assumption | exact up_at _ _ _ | (rw [up_ne (by omega)]; first | assumption | exact up_at _ _ _ | (rw [up_ne (by omega)]; assumption))) ?_
  refine R_X13_ownL (by first | omega | (simp only [Ls_len]; omega) | assumption | exact Ls_get (by omega) (by omega) | exact up_at _ _ _ | rfl | decide) (by first | omega | (simp only [Ls_len]; omega) | assumption | exact Ls_get (by omega) (by omega) | exact up_at _ _ _ | rfl | decide) (by first | omega | (simp only [Ls_len]; omega) | assumption | exact Ls_get (by omega) (by omega) | exact up_at _ _ _ | rfl | decide) ?_
  refine BX13_name_61 (by first | assumption | exact up_at _ _ _ | (rw [up_ne (by omega)]; first | assumption | exact up_at _ _ _ | (rw [up_ne (by omega)]; assumption))) (by first | omega | (simp only [Ls_len]; omega) | assumption | exact Ls_get (by omega) (by omega) | exact up_at _ _ _ | rfl | decide) (by first | omega | (simp only [Ls_len]; omega) | assumption | exact Ls_get (by omega) (by omega) | exact up_at _ _ _ | rfl | decide) (by first | omega | (simp only [Ls_len]; omega) | assumption | exact Ls_get (by omega) (by omega) | exact up_at _ _ _ | rfl | decide) ?_
  try rw [Ls_set (by omega)]
  refine IsMo.k6 e4 t4 ?_
  intro h5 M5 e5 t5 f5
  have s5 : IsMo g h5 W V X F B wr cm := ⟨M5, e5, t5⟩
  have m0 := e5.o
  have m1 := e5.a1
  have m6 := e5.a6
  refine BX13_name_62 (by first | assumption | exact up_at _ _ _ | (rw [up_ne (by omega)]; first | assumption | exact up_at _ _ _ | (rw [up_ne (by omega)]; assumption))) (by rfl) ?_
  refine R_X13_get (by first | omega | (simp only [Ls_len]; omega) | assumption | exact Ls_get (by omega) (by omega) | exact up_at _ _ _ | rfl | decide) (by first | omega | (simp only [Ls_len]; omega) | assumption | exact Ls_get (by omega) (by omega) | exact up_at _ _ _ | rfl | decide) (by first | omega | (simp only [Ls_len]; omega) | assumption | exact Ls_get (by omega) (by omega) | exact up_at _ _ _ | rfl | decide) (by first | omega | (simp only [Ls_len]; omega) | assumption | exact Ls_get (by omega) (by omega) | exact up_at _ _ _ | rfl | decide) (by first | omega | (simp only [Ls_len]; omega) | assumption | exact Ls_get (by omega) (by omega) | exact up_at _ _ _ | rfl | decide) ?_
  refine BX13_name_73 (by first | assumption | exact up_at _ _ _ | (rw [up_ne (by omega)]; first | assumption | exact up_at _ _ _ | (rw [up_ne (by omega)]; assumption))) (by first | omega | (simp only [Ls_len]; omega) | assumption | exact Ls_get (by omega) (by omega) | exact up_at _ _ _ | rfl | decide) (by first | omega | (simp only [Ls_len]; omega) | assumption | exact Ls_get (by omega) (by omega) | exact up_at _ _ _ | rfl | decide) (by first | omega | (simp only [Ls_len]; omega) | assumption | exact Ls_get (by omega) (by omega) | exact up_at _ _ _ | rfl | decide) ?_
  try rw [Ls_set (by omega)]
  refine IsMo.k6 e5 t5 ?_
  intro h6 M6 e6 t6 f6
  have s6 : IsMo g h6 W V X F B wr cm := ⟨M6, e6, t6⟩
  have m0 := e6.o
  have m1 := e6.a1
  have m6 := e6.a6
  refine BX13_name_74 (by first | assumption | exact up_at _ _ _ | (rw [up_ne (by omega)]; first | assumption | exact up_at _ _ _ | (rw [up_ne (by omega)]; assumption))) (by rfl) ?_
  refine R_X13_get (by first | omega | (simp only [Ls_len]; omega) | assumption | exact Ls_get (by omega) (by omega) | exact up_at _ _ _ | rfl | decide) (by first | omega | (simp only [Ls_len]; omega) | assumption | exact Ls_get (by omega) (by omega) | exact up_at _ _ _ | rfl | decide) (by first | omega | (simp only [Ls_len]; omega) | assumption | exact Ls_get (by omega) (by omega) | exact up_at _ _ _ | rfl | decide) (by first | omega | (simp only [Ls_len]; omega) | assumption | exact Ls_get (by omega) (by omega) | exact up_at _ _ _ | rfl | decide) (by first | omega | (simp only [Ls_len]; omega) | assumption | exact Ls_get (by omega) (by omega) | exact up_at _ _ _ | rfl | decide) ?_
  refine BX13_name_85 (by first | assumption | exact up_at _ _ _ | (rw [up_ne (by omega)]; first | assumption | exact up_at _ _ _ | (rw [up_ne (by omega)]; assumption))) (by first | omega | (simp only [Ls_len]; omega) | assumption | exact Ls_get (by omega) (by omega) | exact up_at _ _ _ | rfl | decide) (by first | omega | (simp only [Ls_len]; omega) | assumption | exact Ls_get (by omega) (by omega) | exact up_at _ _ _ | rfl | decide) (by first | omega | (simp only [Ls_len]; omega) | assumption | exact Ls_get (by omega) (by omega) | exact up_at _ _ _ | rfl | decide) ?_
  try rw [Ls_set (by omega)]
  refine IsMo.k6 e6 t6 ?_
  intro h7 M7 e7 t7 f7
  have s7 : IsMo g h7 W V X F B wr cm := ⟨M7, e7, t7⟩
  have m0 := e7.o
  have m1 := e7.a1
  have m6 := e7.a6
  refine BX13_name_86 (by first | assumption | exact up_at _ _ _ | (rw [up_ne (by omega)]; first | assumption | exact up_at _ _ _ | (rw [up_ne (by omega)]; assumption))) (by rfl) ?_
  refine R_X13_get (by first | omega | (simp only [Ls_len]; omega) | assumption | exact Ls_get (by omega) (by omega) | exact up_at _ _ _ | rfl | decide) (by first | omega | (simp only [Ls_len]; omega) | assumption | exact Ls_get (by omega) (by omega) | exact up_at _ _ _ | rfl | decide) (by first | omega | (simp only [Ls_len]; omega) | assumption | exact Ls_get (by omega) (by omega) | exact up_at _ _ _ | rfl | decide) (by first | omega | (simp only [Ls_len]; omega) | assumption | exact Ls_get (by omega) (by omega) | exact up_at _ _ _ | rfl | decide) (by first | omega | (simp only [Ls_len]; omega) | assumption | exact Ls_get (by omega) (by omega) | exact up_at _ _ _ | rfl | decide) ?_
  refine BX13_name_98 (by first | assumption | exact up_at _ _ _ | (rw [up_ne (by omega)]; first | assumption | exact up_at _ _ _ | (rw [up_ne (by omega)]; assumption))) (by first | omega | (simp only [Ls_len]; omega) | assumption | exact Ls_get (by omega) (by omega) | exact up_at _ _ _ | rfl | decide) (by first | omega | (simp only [Ls_len]; omega) | assumption | exact Ls_get (by omega) (by omega) | exact up_at _ _ _ | rfl | decide) (by first | omega | (simp only [Ls_len]; omega) | assumption | exact Ls_get (by omega) (by omega) | exact up_at _ _ _ | rfl | decide) ?_
  try rw [Ls_set (by omega)]
  refine IsMo.k6 e7 t7 ?_
  intro h8 M8 e8 t8 f8
  have s8 : IsMo g h8 W V X F B wr cm := ⟨M8, e8, t8⟩
  have m0 := e8.o
  have m1 := e8.a1
  have m6 := e8.a6
  refine BX13_name_99 (by first | assumption | exact up_at _ _ _ | (rw [up_ne (by omega)]; first | assumption | exact up_at _ _ _ | (rw [up_ne (by omega)]; assumption))) (by rfl) ?_
  refine R_X13_get (by first | omega | (simp only [Ls_len]; omega) | assumption | exact Ls_get (by omega) (by omega) | exact up_at _ _ _ | rfl | decide) (by first | omega | (simp only [Ls_len]; omega) | assumption | exact Ls_get (by omega) (by omega) | exact up_at _ _ _ | rfl | decide) (by first | omega | (simp only [Ls_len]; omega) | assumption | exact Ls_get (by omega) (by omega) | exact up_at _ _ _ | rfl | decide) (by first | omega | (simp only [Ls_len]; omega) | assumption | exact Ls_get (by omega) (by omega) | exact up_at _ _ _ | rfl | decide) (by first | omega | (simp only [Ls_len]; omega) | assumption | exact Ls_get (by omega) (by omega) | exact up_at _ _ _ | rfl | decide) ?_
  refine BX13_name_112 (by first | assumption | exact up_at _ _ _ | (rw [up_ne (by omega)]; first | assumption | exact up_at _ _ _ | (rw [up_ne (by omega)]; assumption))) ?_
  refine R_X13_afloatAt (by first | omega | (simp only [Ls_len]; omega) | assumption | exact Ls_get (by omega) (by omega) | exact up_at _ _ _ | rfl | decide) ?_
  refine BX13_name_115 (by first | assumption | exact up_at _ _ _ | (rw [up_ne (by omega)]; first | assumption | exact up_at _ _ _ | (rw [up_ne (by omega)]; assumption))) (by first | omega | (simp only [Ls_len]; omega) | assumption | exact Ls_get (by omega) (by omega) | exact up_at _ _ _ | rfl | decide) (by first | omega | (simp only [Ls_len]; omega) | assumption | exact Ls_get (by omega) (by omega) | exact up_at _ _ _ | rfl | decide) (by first | omega | (simp only [Ls_len]; omega) | assumption | exact Ls_get (by omega) (by omega) | exact up_at _ _ _ | rfl | decide) ?_
  try rw [Ls_set (by omega)]
  refine IsMo.k6 e8 t8 ?_
  intro h9 M9 e9 t9 f9
  refine BX13_name_116  ?_
  refine k h9 M9 e9 t9 (fun j j0 j1 => ?_)
  rw [f9, f8, f7, f6, f5, f4, f3, f2]
  have ej : j = 0 ∨ j = 1 ∨ j = 2 ∨ j = 3 ∨ j = 4 ∨ j = 5 ∨ j = 6 ∨ j = 7 := by omega
  rcases ej with q | q | q | q | q | q | q | q <;> subst q <;> simp (disch := omega) only [fset_at, fset_ne] <;> unfold envM
  · exact t73
  · rw [u73]; rfl
  · rfl
  · show _ = atP (W 3 3) (W 5) (W 1 (b * 6 + 1)); unfold atP; rw [if_pos (by omega)]
  · rfl
  · rfl
  · rfl
  · rfl
end SUM
