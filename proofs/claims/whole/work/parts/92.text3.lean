def alP (F : Int → Int) : Nat → Cs → Cs
  | 0, q => q
  | m + 1, q => if q.1.1 ≠ 0 ∨ kdP F q.1 = 0 then q else if (cbP F q).1 ≠ 0 then (cbP F q, q.2) else alP F m (clP F q)
section TEXT4
variable {d bc bs n : Nat} {h : aH} {Q : aQ} {F cl : Int → Int} {cc op iw : Int} {ca wa : Option Nat} {q : Cs} {S : Ps}
theorem R_X10_init {x : Nat} {a b c : Option Nat} (hx : h x = cO 10 [vR none, vR none, vR none]) (h0 : x ≠ 0) (k : Q none (up h x (cO 10 [vR a, vR b, vR c])) n) : Rn (d + 1) bc bs mX10_init 0 [some (vR (some x)), some (vR a), some (vR b), some (vR c)] [] h n Q := by
  refine BX10_init_0 (by first | assumption | exact up_at _ _ _ | (rw [up_ne (by omega)]; first | assumption | exact up_at _ _ _ | (rw [up_ne (by omega)]; first | assumption | exact up_at _ _ _ | (rw [up_ne (by omega)]; assumption)))) (by simp) ?_
  refine BX10_init_9 (by first | assumption | exact up_at _ _ _ | (rw [up_ne (by omega)]; first | assumption | exact up_at _ _ _ | (rw [up_ne (by omega)]; first | assumption | exact up_at _ _ _ | (rw [up_ne (by omega)]; assumption)))) (by simp) ?_
  refine BX10_init_14 (by first | assumption | exact up_at _ _ _ | (rw [up_ne (by omega)]; first | assumption | exact up_at _ _ _ | (rw [up_ne (by omega)]; first | assumption | exact up_at _ _ _ | (rw [up_ne (by omega)]; assumption)))) (by simp) ?_
  refine BX10_init_19  ?_
  rw [up_up, up_up]
  exact k
/-- what stands where a text was read: the tape, the grammar's own rows -/
def GmE (h : aH) (F : Int → Int) (fa pl : Int) : Prop := ∃ cc ca wa cl iw S, Gm h F cc ca wa cl 0 iw S ∧ S.1 = fa ∧ S.2.1 = pl
def TxR (h : aH) (n x : Nat) (q : Cs) : Prop := n ≤ x ∧ ∃ ca wa, h x = cO 10 [vR (some (x + 1)), vR ca, vR wa] ∧ h (x + 1) = cI (Ls (q.2.2.1 * 4).toNat (padG 96 q.2.1)) ∧ LwAt h n x ca q.2.2.2.1 ∧ LwAt h n x wa q.2.2.2.2
theorem readEnd {n1 : Nat} {h1 : aH} {i : Int} (hn : 317 ≤ n) (n01 : n ≤ n1) (f : FrN h h1 282 5 n) (s : Gm h1 F q.2.2.1 ca wa q.2.1 0 iw q.1) (lc : LwAt h1 n n1 ca q.2.2.2.1) (lw : LwAt h1 n n1 wa q.2.2.2.2) (c0 : 0 ≤ q.2.2.1) (c1 : q.2.2.1 ≤ 25) (kn : q.1.1 ≠ 0 → ∀ h1 n1, n ≤ n1 → FrN h h1 282 5 n → GmE h1 F q.1.1 q.1.2.1 → Q (some (vR none)) h1 n1) (ky : q.1.1 = 0 → ∀ h1 x, FrN h h1 282 5 n → TxR h1 n x q → GmE h1 F q.1.1 q.1.2.1 → Q (some (vR (some x))) h1 (x + 2)) : Rn (d + 10) 2 703 mX1_readAll 75 [some (vR (some 284)), some (vR (some 282)), some (vI i)] [] h1 n1 Q := by
  refine BX1_readAll_75 s.2.1 rfl ?_ ?_
  · intro e
    refine BX1_readAll_84 s.2.1 rfl (by omega) ?_
    refine R_J9_max ?_
    rw [Int.max_eq_right (by omega)]
    refine BX1_readAll_94 (bc := 1) (bs := 700) ?_
    have s2 := s.new (n := n1) (c := cO 10 [vR none, vR none, vR none]) (by omega)
    refine BX1_readAll_98 (bc1 := 1) (bs1 := 700) (bc := 0) (bs := 0) s2.2.1 rfl ?_
    refine R_J7_copyOf (N := 96) s2.2.2.1 (by decide) (by decide) (by omega) (by omega) (by omega) ?_
    have s3 := s2.new (n := n1 + 1) (c := cI (Ls (q.2.2.1 * 4).toNat (padG 96 q.2.1))) (by omega)
    refine BX1_readAll_107 s3.2.1 rfl rfl ?_
    refine R_X10_init ((up_ne (by omega)).trans (up_at _ _ _)) (by omega) ?_
    refine BX1_readAll_118 ?_
    have s4 := s3.new (n := n1) (c := cO 10 [vR (some (n1 + 1)), vR ca, vR wa]) (by omega)
    have g1 : FrN h1 (up (up (up h1 n1 (cO 10 [vR none, vR none, vR none])) (n1 + 1) (cI (Ls (q.2.2.1 * 4).toNat (padG 96 q.2.1)))) n1 (cO 10 [vR (some (n1 + 1)), vR ca, vR wa])) 282 5 n1 := fun x hx _ => (up_ne (by omega)).trans ((up_ne (by omega)).trans (up_ne (by omega)))
    refine ky e _ n1 (f.tr g1 n01) ⟨n01, ca, wa, up_at _ _ _, (up_ne (by omega)).trans (up_at _ _ _), lc.fr g1 hn (Nat.le_refl _), lw.fr g1 hn (Nat.le_refl _)⟩ ⟨_, _, _, _, _, _, s4, rfl, rfl⟩
  · intro e
    refine BX1_readAll_82 ?_
    exact kn e _ _ n01 f ⟨_, _, _, _, _, _, s, rfl, rfl⟩
theorem lawQ {iw : Int} (o : okF F) (z : okQ F S) (hk : kdP F S ≠ 0) : okQ F (lawP F iw S) := by
  have za := advQ o z hk
  have zb : okZ F (zeP (advP F S)) := ⟨za.1, za.2.1, z00, by show (0 : Int) ≤ 2 * (advP F S).2.2.1; have := za.1; omega⟩
  have L : leQ F 0 (zeP (advP F S)) (lawP F iw S) := gk_le o 3000 3 0 _ zb (fun e => absurd e (by decide)) (fun e => absurd e (by decide))
  exact (L.ok zb).q
def lwC (q : Cs) : Nat := (if q.2.2.2.1 = none then 1 else 0) + (if q.2.2.2.2 = none then 1 else 0)
theorem readLoop (o : okF F) (hn : 317 ≤ n) : ∀ (m i n1 : Nat) (h1 : aH) (q : Cs) (ca wa : Option Nat) (iw : Int), i + m = 25 → n ≤ n1 → FrN h h1 282 5 n → Gm h1 F q.2.2.1 ca wa q.2.1 0 iw q.1 → LwAt h1 n n1 ca q.2.2.2.1 → LwAt h1 n n1 wa q.2.2.2.2 → okQ F q.1 → 0 ≤ q.2.2.1 → q.2.2.1 ≤ i → (q.2.2.1 ≤ 24 ∨ m = 0) → ((alP F m q).1.1 ≠ 0 → ∀ h1 n1, n ≤ n1 → FrN h h1 282 5 n → GmE h1 F (alP F m q).1.1 (alP F m q).1.2.1 → Q (some (vR none)) h1 n1) → ((alP F m q).1.1 = 0 → ∀ h1 x, FrN h h1 282 5 n → TxR h1 n x (alP F m q) → GmE h1 F (alP F m q).1.1 (alP F m q).1.2.1 → Q (some (vR (some x))) h1 (x + 2)) → ∀ bb ss : Nat, bb = lwC q + 2 → ss = lwC q * 700 + 703 → Rn (d + 110) bb ss mX1_readAll 36 [some (vR (some 284)), some (vR (some 282)), some (vI i)] [] h1 n1 Q := by
  intro m
  induction m with
  | zero =>
    intro i n1 h1 q ca wa iw hi n01 f s lc lw z c0 c1 c2 kn ky bb ss hbb hss
    refine Rn.rich (bc := 2) (bs := 703) (by omega) (by omega) ?_
    refine BX1_readAll_36 ?_ ?_
    · intro _
      exact Rn.deep (d := d + 10) (by omega) (readEnd hn n01 f s lc lw c0 (by omega) kn ky)
    · intro _
      exfalso; omega
  | succ m ih =>
    intro i n1 h1 q ca wa iw hi n01 f s lc lw z c0 c1 c2 kn ky bb ss hbb hss
    have c24 : q.2.2.1 ≤ 24 := by omega
    obtain ⟨⟨tv, tk, tvv⟩, g1, g2, g3⟩ := id s
    have tk1 := tk.1
    have kd : kdP F q.1 = tkK F q.1.2.2.1 := rfl
    refine BX1_readAll_36 (fun _ => by exfalso; omega) fun _ => ?_
    refine BX1_readAll_42 g1 rfl ?_ ?_
    · intro e
      have ea : alP F (m + 1) q = q := if_pos (.inl e)
      rw [ea] at kn ky
      exact Rn.rich (bc := 2) (bs := 703) (by omega) (by omega) (Rn.deep (d := d + 10) (by omega) (readEnd hn n01 f s lc lw c0 (by omega) kn ky))
    · intro e
      refine BX1_readAll_49 tk1 rfl ?_ ?_
      · intro e2
        have ea : alP F (m + 1) q = q := if_pos (.inr e2)
        rw [ea] at kn ky
        exact Rn.rich (bc := 2) (bs := 703) (by omega) (by omega) (Rn.deep (d := d + 10) (by omega) (readEnd hn n01 f s lc lw c0 (by omega) kn ky))
      · intro e2
        have ea : alP F (m + 1) q = if (cbP F q).1 ≠ 0 then (cbP F q, q.2) else alP F m (clP F q) := if_neg (fun w => w.elim (fun w => w e) (fun w => e2 w))
        rw [ea] at kn ky
        refine BX1_readAll_56 g1 ?_
        refine R_X1_canBegin s lc lw e c0 c24 ?_ ?_
        · intro a1 a2 a3 a4 a5 a6 a7
          rw [if_neg (by omega)] at kn ky
          refine BX1_readAll_61 (fun w => absurd w (by decide)) fun _ => ?_
          by_cases k16 : kdP F q.1 = 16
          · have eq : clP F q = (wanP F 15 (lawP F 0 q.1), fset q.2.1 (q.2.2.1 * 4 + 0) (kdP F q.1), q.2.2.1 + 1, some (lwO (lawP F 0 q.1)), q.2.2.2.2) := if_pos k16
            have el : lwC q = lwC (clP F q) + 1 := by unfold lwC; rw [eq, a5 k16, if_pos (rfl : (none : Option Lw) = none), if_neg (fun w : (some (lwO (lawP F 0 q.1)) : Option Lw) = none => by cases w)]; dsimp only; omega
            obtain ⟨b2, hb2⟩ : ∃ b, b = lwC (clP F q) + 2 := ⟨_, rfl⟩
            obtain ⟨ss2, hss2⟩ : ∃ b, b = lwC (clP F q) * 700 + 703 := ⟨_, rfl⟩
            refine Rn.rich (bc := 1 + b2) (bs := 700 + ss2) (by omega) (by omega) ?_
            refine BX1_readAll_64 g1 ?_
            refine Rn.deep (d := d + 100) (by omega) (R_X1_readClauseL s o z k16 (.inl rfl) c0 a7 (by omega) fun h2 iw2 f2 e3 s2 => ?_)
            refine BX1_readAll_69 (by omega) ?_
            have ih1 := ih (i + 1) (n1 + 1) h2 (clP F q) (some n1) wa iw2 (by omega) (by omega) (f.tr f2 n01)
            rw [show (16 : Int) - 16 = 0 by decide] at s2 e3
            rw [if_pos rfl, if_pos rfl, ← k16] at s2
            rw [eq] at ih1 kn ky
            exact ih1 s2 ⟨n01, by omega, e3⟩ (lw.fr f2 hn (by omega)) (wanQ o (by decide) (lawQ o z (by omega))) (by show 0 ≤ q.2.2.1 + 1; omega) (by show q.2.2.1 + 1 ≤ ((i + 1 : Nat) : Int); omega) (.inl (by show q.2.2.1 + 1 ≤ 24; omega)) kn ky b2 ss2 (by rw [← eq]; exact hb2) (by rw [← eq]; exact hss2)
          · by_cases k17 : kdP F q.1 = 17
            · have eq : clP F q = (wanP F 15 (lawP F 1 q.1), fset q.2.1 (q.2.2.1 * 4 + 0) (kdP F q.1), q.2.2.1 + 1, q.2.2.2.1, some (lwO (lawP F 1 q.1))) := (if_neg k16).trans (if_pos k17)
              have el : lwC q = lwC (clP F q) + 1 := by unfold lwC; rw [eq, a6 k17, if_pos (rfl : (none : Option Lw) = none), if_neg (fun w : (some (lwO (lawP F 1 q.1)) : Option Lw) = none => by cases w)]
              obtain ⟨b2, hb2⟩ : ∃ b, b = lwC (clP F q) + 2 := ⟨_, rfl⟩
              obtain ⟨ss2, hss2⟩ : ∃ b, b = lwC (clP F q) * 700 + 703 := ⟨_, rfl⟩
              refine Rn.rich (bc := 1 + b2) (bs := 700 + ss2) (by omega) (by omega) ?_
              refine BX1_readAll_64 g1 ?_
              refine Rn.deep (d := d + 100) (by omega) (R_X1_readClauseL s o z k17 (.inr rfl) c0 a7 (by omega) fun h2 iw2 f2 e3 s2 => ?_)
              refine BX1_readAll_69 (by omega) ?_
              have ih1 := ih (i + 1) (n1 + 1) h2 (clP F q) ca (some n1) iw2 (by omega) (by omega) (f.tr f2 n01)
              rw [if_neg (by decide), if_neg (by decide), ← k17, show kdP F q.1 - 16 = 1 by omega] at s2
              rw [show (17 : Int) - 16 = 1 by decide] at e3
              rw [eq] at ih1 kn ky
              exact ih1 s2 (lc.fr f2 hn (by omega)) ⟨n01, by omega, e3⟩ (wanQ o (by decide) (lawQ o z (by omega))) (by show 0 ≤ q.2.2.1 + 1; omega) (by show q.2.2.1 + 1 ≤ ((i + 1 : Nat) : Int); omega) (.inl (by show q.2.2.1 + 1 ≤ 24; omega)) kn ky b2 ss2 (by rw [← eq]; exact hb2) (by rw [← eq]; exact hss2)
            · have eq : clP F q = (wanP F 15 (clN F q).1, (clN F q).2, q.2.2.1 + 1, q.2.2.2.1, q.2.2.2.2) := (if_neg k16).trans (if_neg k17)
              have el : lwC q = lwC (clP F q) := by unfold lwC; rw [eq]
              obtain ⟨b2, hb2⟩ : ∃ b, b = lwC (clP F q) + 2 := ⟨_, rfl⟩
              obtain ⟨ss2, hss2⟩ : ∃ b, b = lwC (clP F q) * 700 + 703 := ⟨_, rfl⟩
              refine Rn.rich (bc := 0 + b2) (bs := 0 + ss2) (by omega) (by omega) ?_
              refine BX1_readAll_64 g1 ?_
              refine Rn.deep (d := d + 10) (by omega) (R_X1_readClauseN s o z rfl (by omega) a4 c0 a7 fun h2 f2 s2 => ?_)
              refine BX1_readAll_69 (by omega) ?_
              have ih1 := ih (i + 1) n1 h2 (clP F q) ca wa iw (by omega) n01 (f.tr f2.toN n01)
              rw [eq] at ih1 kn ky
              exact ih1 s2 (lc.fr f2.toN hn (Nat.le_refl _)) (lw.fr f2.toN hn (Nat.le_refl _)) (wanQ o (by decide) (nuP_ok o (advQ o z (by omega)))) (by show 0 ≤ q.2.2.1 + 1; omega) (by show q.2.2.1 + 1 ≤ ((i + 1 : Nat) : Int); omega) (.inl (by show q.2.2.1 + 1 ≤ 24; omega)) kn ky b2 ss2 (by rw [← eq]; exact hb2) (by rw [← eq]; exact hss2)
        · intro h2 f2 s2 a1
          rw [if_pos a1] at kn ky
          refine BX1_readAll_61 (fun _ => ?_) (fun w => absurd rfl w)
          refine BX1_readAll_69 (by omega) ?_
          refine Rn.rich (bc := 2) (bs := 703) (by omega) (by omega) ?_
          have RE : Rn (d + 110) 2 703 mX1_readAll 75 [some (vR (some 284)), some (vR (some 282)), some (vI ((i : Int) + 1))] [] h2 n1 Q := Rn.deep (d := d + 10) (by omega) (readEnd (q := (cbP F q, q.2)) hn n01 (f.tr f2.toN n01) s2 (lc.fr f2.toN hn (Nat.le_refl _)) (lw.fr f2.toN hn (Nat.le_refl _)) c0 (by show q.2.2.1 ≤ 25; omega) kn ky)
          refine BX1_readAll_36 (fun _ => RE) fun _ => ?_
          refine BX1_readAll_42 s2.2.1 rfl (fun _ => RE) fun w => absurd w a1
end TEXT4
